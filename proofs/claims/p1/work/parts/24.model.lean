theorem dX12_latest_0 : decode cX12_latest 0 = .ok (.aload_n 0, 1) := by decide +kernel
theorem dX12_latest_1 : decode cX12_latest 1 = .ok (.getfield 7, 3) := by decide +kernel
theorem dX12_latest_4 : decode cX12_latest 4 = .ok (.iconst 3, 1) := by decide +kernel
theorem dX12_latest_5 : decode cX12_latest 5 = .ok (.iaload, 1) := by decide +kernel
theorem dX12_latest_6 : decode cX12_latest 6 = .ok (.iconst 1, 1) := by decide +kernel
theorem dX12_latest_7 : decode cX12_latest 7 = .ok (.isub, 1) := by decide +kernel
theorem dX12_latest_8 : decode cX12_latest 8 = .ok (.istore 4, 2) := by decide +kernel
theorem dX12_latest_10 : decode cX12_latest 10 = .ok (.iload 4, 2) := by decide +kernel
theorem dX12_latest_12 : decode cX12_latest 12 = .ok (.ifCond .lt 59, 3) := by decide +kernel
theorem dX12_latest_71 : decode cX12_latest 71 = .ok (.iconst (-1), 1) := by decide +kernel
theorem dX12_latest_72 : decode cX12_latest 72 = .ok (.ireturn, 1) := by decide +kernel
theorem dX12_worst_0 : decode cX12_worst 0 = .ok (.iconst 0, 1) := by decide +kernel
theorem dX12_worst_1 : decode cX12_worst 1 = .ok (.istore_n 3, 1) := by decide +kernel
theorem dX12_worst_2 : decode cX12_worst 2 = .ok (.iconst 0, 1) := by decide +kernel
theorem dX12_worst_3 : decode cX12_worst 3 = .ok (.istore 4, 2) := by decide +kernel
theorem dX12_worst_5 : decode cX12_worst 5 = .ok (.iconst 0, 1) := by decide +kernel
theorem dX12_worst_6 : decode cX12_worst 6 = .ok (.istore 5, 2) := by decide +kernel
theorem dX12_worst_8 : decode cX12_worst 8 = .ok (.iload 5, 2) := by decide +kernel
theorem dX12_worst_10 : decode cX12_worst 10 = .ok (.aload_n 0, 1) := by decide +kernel
theorem dX12_worst_11 : decode cX12_worst 11 = .ok (.getfield 7, 3) := by decide +kernel
theorem dX12_worst_14 : decode cX12_worst 14 = .ok (.iconst 3, 1) := by decide +kernel
theorem dX12_worst_15 : decode cX12_worst 15 = .ok (.iaload, 1) := by decide +kernel
theorem dX12_worst_16 : decode cX12_worst 16 = .ok (.if_icmp .ge 89, 3) := by decide +kernel
theorem dX12_worst_105 : decode cX12_worst 105 = .ok (.iload_n 3, 1) := by decide +kernel
theorem dX12_worst_106 : decode cX12_worst 106 = .ok (.ireturn, 1) := by decide +kernel
theorem dX12_levelAt_0 : decode cX12_levelAt 0 = .ok (.aload_n 0, 1) := by decide +kernel
theorem dX12_levelAt_1 : decode cX12_levelAt 1 = .ok (.iload_n 1, 1) := by decide +kernel
theorem dX12_levelAt_2 : decode cX12_levelAt 2 = .ok (.iload_n 2, 1) := by decide +kernel
theorem dX12_levelAt_3 : decode cX12_levelAt 3 = .ok (.iload_n 3, 1) := by decide +kernel
theorem tw_293 : Cond.methodLink RX12 76 yX12_latest ∈ wsL_law := List.mem_of_getElem? (i := 293) (by decide +kernel)
theorem tw_294 : Cond.instanceMethod yX12_latest ∈ wsL_law := List.mem_of_getElem? (i := 294) (by decide +kernel)
theorem tw_295 : Cond.selects RX12 yX12_latest yX12_latest ∈ wsL_law := List.mem_of_getElem? (i := 295) (by decide +kernel)
theorem tw_296 : Cond.code yX12_latest cX12_latest 6 (some .int) ∈ wsL_law := List.mem_of_getElem? (i := 296) (by decide +kernel)
theorem dX12_levelAt_4 : decode cX12_levelAt 4 = .ok (.invokevirtual 76, 3) := by decide +kernel
theorem dX12_levelAt_7 : decode cX12_levelAt 7 = .ok (.istore 4, 2) := by decide +kernel
theorem dX12_levelAt_9 : decode cX12_levelAt 9 = .ok (.iload 4, 2) := by decide +kernel
theorem dX12_levelAt_11 : decode cX12_levelAt 11 = .ok (.ifCond .ge 10, 3) := by decide +kernel
theorem dX12_levelAt_14 : decode cX12_levelAt 14 = .ok (.aload_n 0, 1) := by decide +kernel
theorem dX12_levelAt_15 : decode cX12_levelAt 15 = .ok (.iload_n 1, 1) := by decide +kernel
theorem dX12_levelAt_16 : decode cX12_levelAt 16 = .ok (.iload_n 3, 1) := by decide +kernel
theorem tw_297 : Cond.methodLink RX12 80 yX12_worst ∈ wsL_law := List.mem_of_getElem? (i := 297) (by decide +kernel)
theorem tw_298 : Cond.instanceMethod yX12_worst ∈ wsL_law := List.mem_of_getElem? (i := 298) (by decide +kernel)
theorem tw_299 : Cond.selects RX12 yX12_worst yX12_worst ∈ wsL_law := List.mem_of_getElem? (i := 299) (by decide +kernel)
theorem tw_300 : Cond.code yX12_worst cX12_worst 7 (some .int) ∈ wsL_law := List.mem_of_getElem? (i := 300) (by decide +kernel)
theorem dX12_levelAt_17 : decode cX12_levelAt 17 = .ok (.invokevirtual 80, 3) := by decide +kernel
theorem dX12_levelAt_20 : decode cX12_levelAt 20 = .ok (.ireturn, 1) := by decide +kernel
theorem dX12_textFor_0 : decode cX12_textFor 0 = .ok (.aload_n 0, 1) := by decide +kernel
theorem dX12_textFor_1 : decode cX12_textFor 1 = .ok (.getfield 7, 3) := by decide +kernel
theorem dX12_textFor_4 : decode cX12_textFor 4 = .ok (.bipush 7, 2) := by decide +kernel
theorem dX12_textFor_6 : decode cX12_textFor 6 = .ok (.iaload, 1) := by decide +kernel
theorem dX12_textFor_7 : decode cX12_textFor 7 = .ok (.iconst 1, 1) := by decide +kernel
theorem dX12_textFor_8 : decode cX12_textFor 8 = .ok (.isub, 1) := by decide +kernel
theorem dX12_textFor_9 : decode cX12_textFor 9 = .ok (.istore_n 3, 1) := by decide +kernel
theorem dX12_textFor_10 : decode cX12_textFor 10 = .ok (.iload_n 3, 1) := by decide +kernel
theorem dX12_textFor_11 : decode cX12_textFor 11 = .ok (.ifCond .lt 66, 3) := by decide +kernel
theorem dX12_textFor_77 : decode cX12_textFor 77 = .ok (.iconst (-1), 1) := by decide +kernel
theorem dX12_textFor_78 : decode cX12_textFor 78 = .ok (.ireturn, 1) := by decide +kernel
theorem dX12_numberOf_0 : decode cX12_numberOf 0 = .ok (.aload_n 0, 1) := by decide +kernel
theorem dX12_numberOf_1 : decode cX12_numberOf 1 = .ok (.iload_n 1, 1) := by decide +kernel
theorem dX12_numberOf_2 : decode cX12_numberOf 2 = .ok (.iload_n 2, 1) := by decide +kernel
theorem tw_508 : Cond.methodLink RX12 275 yX12_textFor ∈ wsL_law := List.mem_of_getElem? (i := 508) (by decide +kernel)
theorem tw_509 : Cond.instanceMethod yX12_textFor ∈ wsL_law := List.mem_of_getElem? (i := 509) (by decide +kernel)
theorem tw_510 : Cond.selects RX12 yX12_textFor yX12_textFor ∈ wsL_law := List.mem_of_getElem? (i := 510) (by decide +kernel)
theorem tw_511 : Cond.code yX12_textFor cX12_textFor 5 (some .int) ∈ wsL_law := List.mem_of_getElem? (i := 511) (by decide +kernel)
theorem dX12_numberOf_3 : decode cX12_numberOf 3 = .ok (.invokevirtual 275, 3) := by decide +kernel
theorem dX12_numberOf_6 : decode cX12_numberOf 6 = .ok (.istore 4, 2) := by decide +kernel
theorem dX12_numberOf_8 : decode cX12_numberOf 8 = .ok (.iload 4, 2) := by decide +kernel
theorem dX12_numberOf_10 : decode cX12_numberOf 10 = .ok (.ifCond .ge 7, 3) := by decide +kernel
theorem dX12_numberOf_13 : decode cX12_numberOf 13 = .ok (.iload_n 3, 1) := by decide +kernel
theorem dX12_numberOf_14 : decode cX12_numberOf 14 = .ok (.goto 17, 3) := by decide +kernel
theorem dX12_numberOf_31 : decode cX12_numberOf 31 = .ok (.ireturn, 1) := by decide +kernel
theorem dX12_keysFor_0 : decode cX12_keysFor 0 = .ok (.aload_n 0, 1) := by decide +kernel
theorem dX12_keysFor_1 : decode cX12_keysFor 1 = .ok (.iload_n 1, 1) := by decide +kernel
theorem dX12_keysFor_2 : decode cX12_keysFor 2 = .ok (.iload_n 2, 1) := by decide +kernel
theorem dX12_keysFor_3 : decode cX12_keysFor 3 = .ok (.invokevirtual 275, 3) := by decide +kernel
theorem dX12_keysFor_6 : decode cX12_keysFor 6 = .ok (.istore_n 3, 1) := by decide +kernel
theorem dX12_keysFor_7 : decode cX12_keysFor 7 = .ok (.aload_n 0, 1) := by decide +kernel
theorem dX12_keysFor_8 : decode cX12_keysFor 8 = .ok (.iload_n 3, 1) := by decide +kernel
theorem dX12_keysFor_9 : decode cX12_keysFor 9 = .ok (.ifCond .ge 7, 3) := by decide +kernel
theorem dX12_keysFor_12 : decode cX12_keysFor 12 = .ok (.iconst (-1), 1) := by decide +kernel
theorem dX12_keysFor_13 : decode cX12_keysFor 13 = .ok (.goto 9, 3) := by decide +kernel
theorem tw_507 : Cond.fieldLink RX12 307 "RingsUnderModel" "keys0" "I" ∈ wsL_law := List.mem_of_getElem? (i := 507) (by decide +kernel)
theorem dX12_keysFor_22 : decode cX12_keysFor 22 = .ok (.putfield 307, 3) := by decide +kernel
theorem dX12_keysFor_25 : decode cX12_keysFor 25 = .ok (.iload_n 3, 1) := by decide +kernel
theorem dX12_keysFor_26 : decode cX12_keysFor 26 = .ok (.ifCond .lt 7, 3) := by decide +kernel
theorem dX12_keysFor_33 : decode cX12_keysFor 33 = .ok (.iconst 0, 1) := by decide +kernel
theorem dX12_keysFor_34 : decode cX12_keysFor 34 = .ok (.ireturn, 1) := by decide +kernel
theorem dX12_manyAt_0 : decode cX12_manyAt 0 = .ok (.iconst 0, 1) := by decide +kernel
theorem dX12_manyAt_1 : decode cX12_manyAt 1 = .ok (.istore_n 2, 1) := by decide +kernel
theorem dX12_manyAt_2 : decode cX12_manyAt 2 = .ok (.iconst 0, 1) := by decide +kernel
theorem dX12_manyAt_3 : decode cX12_manyAt 3 = .ok (.istore_n 3, 1) := by decide +kernel
theorem dX12_manyAt_4 : decode cX12_manyAt 4 = .ok (.iload_n 3, 1) := by decide +kernel
theorem dX12_manyAt_5 : decode cX12_manyAt 5 = .ok (.aload_n 0, 1) := by decide +kernel
theorem dX12_manyAt_6 : decode cX12_manyAt 6 = .ok (.getfield 7, 3) := by decide +kernel
theorem dX12_manyAt_9 : decode cX12_manyAt 9 = .ok (.iconst 5, 1) := by decide +kernel
theorem dX12_manyAt_10 : decode cX12_manyAt 10 = .ok (.iaload, 1) := by decide +kernel
theorem dX12_manyAt_11 : decode cX12_manyAt 11 = .ok (.if_icmp .ge 27, 3) := by decide +kernel
theorem dX12_manyAt_38 : decode cX12_manyAt 38 = .ok (.iload_n 2, 1) := by decide +kernel
theorem dX12_manyAt_39 : decode cX12_manyAt 39 = .ok (.ireturn, 1) := by decide +kernel
theorem dX12_reefGoes_0 : decode cX12_reefGoes 0 = .ok (.iconst 0, 1) := by decide +kernel
theorem dX12_reefGoes_1 : decode cX12_reefGoes 1 = .ok (.istore_n 2, 1) := by decide +kernel
theorem dX12_reefGoes_2 : decode cX12_reefGoes 2 = .ok (.iload_n 2, 1) := by decide +kernel
theorem dX12_reefGoes_3 : decode cX12_reefGoes 3 = .ok (.aload_n 0, 1) := by decide +kernel
theorem dX12_reefGoes_4 : decode cX12_reefGoes 4 = .ok (.getfield 7, 3) := by decide +kernel
theorem dX12_reefGoes_7 : decode cX12_reefGoes 7 = .ok (.iconst 2, 1) := by decide +kernel
theorem dX12_reefGoes_8 : decode cX12_reefGoes 8 = .ok (.iaload, 1) := by decide +kernel
theorem dX12_reefGoes_9 : decode cX12_reefGoes 9 = .ok (.if_icmp .ge 99, 3) := by decide +kernel
theorem dX12_reefGoes_108 : decode cX12_reefGoes 108 = .ok (.return_, 1) := by decide +kernel
theorem dX12_sandGoes_0 : decode cX12_sandGoes 0 = .ok (.iconst 0, 1) := by decide +kernel
theorem dX12_sandGoes_1 : decode cX12_sandGoes 1 = .ok (.istore_n 2, 1) := by decide +kernel
theorem dX12_sandGoes_2 : decode cX12_sandGoes 2 = .ok (.iload_n 2, 1) := by decide +kernel
theorem dX12_sandGoes_3 : decode cX12_sandGoes 3 = .ok (.aload_n 0, 1) := by decide +kernel
theorem dX12_sandGoes_4 : decode cX12_sandGoes 4 = .ok (.getfield 7, 3) := by decide +kernel
theorem dX12_sandGoes_7 : decode cX12_sandGoes 7 = .ok (.iconst 2, 1) := by decide +kernel
theorem dX12_sandGoes_8 : decode cX12_sandGoes 8 = .ok (.iaload, 1) := by decide +kernel
theorem dX12_sandGoes_9 : decode cX12_sandGoes 9 = .ok (.if_icmp .ge 56, 3) := by decide +kernel
theorem dX12_sandGoes_65 : decode cX12_sandGoes 65 = .ok (.iconst 0, 1) := by decide +kernel
theorem dX12_sandGoes_66 : decode cX12_sandGoes 66 = .ok (.istore_n 2, 1) := by decide +kernel
theorem dX12_sandGoes_67 : decode cX12_sandGoes 67 = .ok (.iload_n 2, 1) := by decide +kernel
theorem dX12_sandGoes_68 : decode cX12_sandGoes 68 = .ok (.aload_n 0, 1) := by decide +kernel
theorem dX12_sandGoes_69 : decode cX12_sandGoes 69 = .ok (.getfield 7, 3) := by decide +kernel
theorem dX12_sandGoes_72 : decode cX12_sandGoes 72 = .ok (.iconst 2, 1) := by decide +kernel
theorem dX12_sandGoes_73 : decode cX12_sandGoes 73 = .ok (.iaload, 1) := by decide +kernel
theorem dX12_sandGoes_74 : decode cX12_sandGoes 74 = .ok (.if_icmp .ge 119, 3) := by decide +kernel
theorem dX12_sandGoes_193 : decode cX12_sandGoes 193 = .ok (.return_, 1) := by decide +kernel
theorem dX12_seaStands_0 : decode cX12_seaStands 0 = .ok (.iconst 0, 1) := by decide +kernel
theorem dX12_seaStands_1 : decode cX12_seaStands 1 = .ok (.istore_n 3, 1) := by decide +kernel
theorem dX12_seaStands_2 : decode cX12_seaStands 2 = .ok (.iconst 0, 1) := by decide +kernel
theorem dX12_seaStands_3 : decode cX12_seaStands 3 = .ok (.istore 4, 2) := by decide +kernel
theorem dX12_seaStands_5 : decode cX12_seaStands 5 = .ok (.iconst 0, 1) := by decide +kernel
theorem dX12_seaStands_6 : decode cX12_seaStands 6 = .ok (.istore 5, 2) := by decide +kernel
theorem dX12_seaStands_8 : decode cX12_seaStands 8 = .ok (.iload 5, 2) := by decide +kernel
theorem dX12_seaStands_10 : decode cX12_seaStands 10 = .ok (.aload_n 0, 1) := by decide +kernel
theorem dX12_seaStands_11 : decode cX12_seaStands 11 = .ok (.getfield 7, 3) := by decide +kernel
theorem dX12_seaStands_14 : decode cX12_seaStands 14 = .ok (.iconst 2, 1) := by decide +kernel
theorem dX12_seaStands_15 : decode cX12_seaStands 15 = .ok (.iaload, 1) := by decide +kernel
theorem dX12_seaStands_16 : decode cX12_seaStands 16 = .ok (.if_icmp .ge 350, 3) := by decide +kernel
theorem dX12_seaStands_366 : decode cX12_seaStands 366 = .ok (.aload_n 0, 1) := by decide +kernel
theorem dX12_seaStands_367 : decode cX12_seaStands 367 = .ok (.getfield 7, 3) := by decide +kernel
theorem dX12_seaStands_370 : decode cX12_seaStands 370 = .ok (.sipush 2520, 3) := by decide +kernel
theorem dX12_seaStands_373 : decode cX12_seaStands 373 = .ok (.iconst 2, 1) := by decide +kernel
theorem dX12_seaStands_374 : decode cX12_seaStands 374 = .ok (.iload_n 1, 1) := by decide +kernel
theorem dX12_seaStands_375 : decode cX12_seaStands 375 = .ok (.imul, 1) := by decide +kernel
theorem dX12_seaStands_376 : decode cX12_seaStands 376 = .ok (.iadd, 1) := by decide +kernel
theorem dX12_seaStands_377 : decode cX12_seaStands 377 = .ok (.iload_n 3, 1) := by decide +kernel
theorem dX12_seaStands_378 : decode cX12_seaStands 378 = .ok (.iastore, 1) := by decide +kernel
theorem dX12_seaStands_379 : decode cX12_seaStands 379 = .ok (.aload_n 0, 1) := by decide +kernel
theorem dX12_seaStands_380 : decode cX12_seaStands 380 = .ok (.getfield 7, 3) := by decide +kernel
theorem dX12_seaStands_383 : decode cX12_seaStands 383 = .ok (.sipush 2520, 3) := by decide +kernel
theorem dX12_seaStands_386 : decode cX12_seaStands 386 = .ok (.iconst 2, 1) := by decide +kernel
theorem dX12_seaStands_387 : decode cX12_seaStands 387 = .ok (.iload_n 1, 1) := by decide +kernel
theorem dX12_seaStands_388 : decode cX12_seaStands 388 = .ok (.imul, 1) := by decide +kernel
theorem dX12_seaStands_389 : decode cX12_seaStands 389 = .ok (.iadd, 1) := by decide +kernel
theorem dX12_seaStands_390 : decode cX12_seaStands 390 = .ok (.iconst 1, 1) := by decide +kernel
theorem dX12_seaStands_391 : decode cX12_seaStands 391 = .ok (.iadd, 1) := by decide +kernel
theorem dX12_seaStands_392 : decode cX12_seaStands 392 = .ok (.iload 4, 2) := by decide +kernel
theorem dX12_seaStands_394 : decode cX12_seaStands 394 = .ok (.iastore, 1) := by decide +kernel
theorem dX12_seaStands_395 : decode cX12_seaStands 395 = .ok (.return_, 1) := by decide +kernel
theorem dX12_drink_0 : decode cX12_drink 0 = .ok (.iconst 0, 1) := by decide +kernel
theorem dX12_drink_1 : decode cX12_drink 1 = .ok (.istore_n 1, 1) := by decide +kernel
theorem dX12_drink_2 : decode cX12_drink 2 = .ok (.iload_n 1, 1) := by decide +kernel
theorem dX12_drink_3 : decode cX12_drink 3 = .ok (.aload_n 0, 1) := by decide +kernel
theorem dX12_drink_4 : decode cX12_drink 4 = .ok (.getfield 7, 3) := by decide +kernel
theorem dX12_drink_7 : decode cX12_drink 7 = .ok (.iconst 5, 1) := by decide +kernel
theorem dX12_drink_8 : decode cX12_drink 8 = .ok (.iaload, 1) := by decide +kernel
theorem dX12_drink_9 : decode cX12_drink 9 = .ok (.if_icmp .ge 104, 3) := by decide +kernel
theorem dX12_drink_113 : decode cX12_drink 113 = .ok (.return_, 1) := by decide +kernel
theorem dX12_sleep_0 : decode cX12_sleep 0 = .ok (.iconst 0, 1) := by decide +kernel
theorem dX12_sleep_1 : decode cX12_sleep 1 = .ok (.istore_n 1, 1) := by decide +kernel
theorem dX12_sleep_2 : decode cX12_sleep 2 = .ok (.iload_n 1, 1) := by decide +kernel
theorem dX12_sleep_3 : decode cX12_sleep 3 = .ok (.aload_n 0, 1) := by decide +kernel
theorem dX12_sleep_4 : decode cX12_sleep 4 = .ok (.getfield 7, 3) := by decide +kernel
theorem dX12_sleep_7 : decode cX12_sleep 7 = .ok (.iconst 1, 1) := by decide +kernel
theorem dX12_sleep_8 : decode cX12_sleep 8 = .ok (.iaload, 1) := by decide +kernel
theorem dX12_sleep_9 : decode cX12_sleep 9 = .ok (.if_icmp .ge 114, 3) := by decide +kernel
theorem dX12_sleep_123 : decode cX12_sleep 123 = .ok (.return_, 1) := by decide +kernel
theorem dX12_areaOf_30 : decode cX12_areaOf 30 = .ok (.iload 5, 2) := by decide +kernel
theorem dX12_areaOf_32 : decode cX12_areaOf 32 = .ok (.sipush 1024, 3) := by decide +kernel
theorem dX12_areaOf_35 : decode cX12_areaOf 35 = .ok (.if_icmp .ge 128, 3) := by decide +kernel
theorem dX12_areaOf_38 : decode cX12_areaOf 38 = .ok (.iconst 0, 1) := by decide +kernel
theorem dX12_areaOf_39 : decode cX12_areaOf 39 = .ok (.istore 6, 2) := by decide +kernel
theorem dX12_areaOf_41 : decode cX12_areaOf 41 = .ok (.iconst 0, 1) := by decide +kernel
theorem dX12_areaOf_42 : decode cX12_areaOf 42 = .ok (.istore 7, 2) := by decide +kernel
theorem dX12_areaOf_44 : decode cX12_areaOf 44 = .ok (.iload 7, 2) := by decide +kernel
theorem dX12_areaOf_46 : decode cX12_areaOf 46 = .ok (.aload_n 0, 1) := by decide +kernel
theorem dX12_areaOf_47 : decode cX12_areaOf 47 = .ok (.getfield 7, 3) := by decide +kernel
theorem dX12_areaOf_50 : decode cX12_areaOf 50 = .ok (.iconst 2, 1) := by decide +kernel
theorem dX12_areaOf_51 : decode cX12_areaOf 51 = .ok (.iaload, 1) := by decide +kernel
theorem dX12_areaOf_52 : decode cX12_areaOf 52 = .ok (.if_icmp .ge 90, 3) := by decide +kernel
theorem dX12_areaOf_142 : decode cX12_areaOf 142 = .ok (.iload 4, 2) := by decide +kernel
theorem dX12_areaOf_144 : decode cX12_areaOf 144 = .ok (.iload 6, 2) := by decide +kernel
theorem dX12_areaOf_146 : decode cX12_areaOf 146 = .ok (.ifCond .eq 7, 3) := by decide +kernel
theorem dX12_areaOf_153 : decode cX12_areaOf 153 = .ok (.iconst 0, 1) := by decide +kernel
theorem dX12_areaOf_154 : decode cX12_areaOf 154 = .ok (.iadd, 1) := by decide +kernel
theorem dX12_areaOf_155 : decode cX12_areaOf 155 = .ok (.istore 4, 2) := by decide +kernel
theorem dX12_areaOf_157 : decode cX12_areaOf 157 = .ok (.iinc 5 1, 3) := by decide +kernel
theorem dX12_areaOf_160 : decode cX12_areaOf 160 = .ok (.goto (-130), 3) := by decide +kernel
theorem dX12_areaOf_0 : decode cX12_areaOf 0 = .ok (.aload_n 0, 1) := by decide +kernel
theorem dX12_areaOf_1 : decode cX12_areaOf 1 = .ok (.bipush 8, 2) := by decide +kernel
theorem dX12_areaOf_3 : decode cX12_areaOf 3 = .ok (.iload_n 1, 1) := by decide +kernel
theorem dX12_areaOf_4 : decode cX12_areaOf 4 = .ok (.iconst (-1), 1) := by decide +kernel
theorem tw_1016 : Cond.methodLink RX12 304 yX12_numberOf ∈ wsL_law := List.mem_of_getElem? (i := 1016) (by decide +kernel)
theorem tw_1017 : Cond.instanceMethod yX12_numberOf ∈ wsL_law := List.mem_of_getElem? (i := 1017) (by decide +kernel)
theorem tw_1018 : Cond.selects RX12 yX12_numberOf yX12_numberOf ∈ wsL_law := List.mem_of_getElem? (i := 1018) (by decide +kernel)
theorem tw_1019 : Cond.code yX12_numberOf cX12_numberOf 5 (some .int) ∈ wsL_law := List.mem_of_getElem? (i := 1019) (by decide +kernel)
theorem dX12_areaOf_5 : decode cX12_areaOf 5 = .ok (.invokevirtual 304, 3) := by decide +kernel
theorem dX12_areaOf_8 : decode cX12_areaOf 8 = .ok (.istore_n 2, 1) := by decide +kernel
theorem dX12_areaOf_9 : decode cX12_areaOf 9 = .ok (.iload_n 2, 1) := by decide +kernel
theorem dX12_areaOf_10 : decode cX12_areaOf 10 = .ok (.ifCond .lt 12, 3) := by decide +kernel
theorem dX12_areaOf_22 : decode cX12_areaOf 22 = .ok (.iload_n 1, 1) := by decide +kernel
theorem dX12_areaOf_23 : decode cX12_areaOf 23 = .ok (.istore_n 3, 1) := by decide +kernel
theorem dX12_areaOf_24 : decode cX12_areaOf 24 = .ok (.iconst 0, 1) := by decide +kernel
theorem dX12_areaOf_25 : decode cX12_areaOf 25 = .ok (.istore 4, 2) := by decide +kernel
theorem dX12_areaOf_27 : decode cX12_areaOf 27 = .ok (.iconst 0, 1) := by decide +kernel
theorem dX12_areaOf_28 : decode cX12_areaOf 28 = .ok (.istore 5, 2) := by decide +kernel
theorem dX12_areaOf_163 : decode cX12_areaOf 163 = .ok (.iload 4, 2) := by decide +kernel
theorem dX12_areaOf_165 : decode cX12_areaOf 165 = .ok (.ireturn, 1) := by decide +kernel
theorem dX12_fundGoes_0 : decode cX12_fundGoes 0 = .ok (.iconst 0, 1) := by decide +kernel
theorem dX12_fundGoes_1 : decode cX12_fundGoes 1 = .ok (.istore_n 2, 1) := by decide +kernel
theorem dX12_fundGoes_2 : decode cX12_fundGoes 2 = .ok (.iload_n 2, 1) := by decide +kernel
theorem dX12_fundGoes_3 : decode cX12_fundGoes 3 = .ok (.aload_n 0, 1) := by decide +kernel
theorem dX12_fundGoes_4 : decode cX12_fundGoes 4 = .ok (.getfield 7, 3) := by decide +kernel
theorem dX12_fundGoes_7 : decode cX12_fundGoes 7 = .ok (.iconst 5, 1) := by decide +kernel
theorem dX12_fundGoes_8 : decode cX12_fundGoes 8 = .ok (.iaload, 1) := by decide +kernel
theorem dX12_fundGoes_9 : decode cX12_fundGoes 9 = .ok (.if_icmp .ge 37, 3) := by decide +kernel
theorem dX12_fundGoes_46 : decode cX12_fundGoes 46 = .ok (.aload_n 0, 1) := by decide +kernel
theorem dX12_fundGoes_47 : decode cX12_fundGoes 47 = .ok (.iconst 0, 1) := by decide +kernel
theorem tw_1237 : Cond.fieldLink RX12 325 "RingsUnderModel" "cantNow" "I" ∈ wsL_law := List.mem_of_getElem? (i := 1237) (by decide +kernel)
theorem dX12_fundGoes_48 : decode cX12_fundGoes 48 = .ok (.putfield 325, 3) := by decide +kernel
theorem dX12_fundGoes_51 : decode cX12_fundGoes 51 = .ok (.aload_n 0, 1) := by decide +kernel
theorem tw_1238 : Cond.fieldLink RX12 328 "RingsUnderModel" "lawless" "I" ∈ wsL_law := List.mem_of_getElem? (i := 1238) (by decide +kernel)
theorem dX12_fundGoes_52 : decode cX12_fundGoes 52 = .ok (.getfield 328, 3) := by decide +kernel
theorem dX12_fundGoes_55 : decode cX12_fundGoes 55 = .ok (.iconst 1, 1) := by decide +kernel
theorem dX12_fundGoes_56 : decode cX12_fundGoes 56 = .ok (.if_icmp .ne 4, 3) := by decide +kernel
theorem dX12_fundGoes_60 : decode cX12_fundGoes 60 = .ok (.aload_n 0, 1) := by decide +kernel
theorem dX12_fundGoes_61 : decode cX12_fundGoes 61 = .ok (.getfield 7, 3) := by decide +kernel
theorem dX12_fundGoes_64 : decode cX12_fundGoes 64 = .ok (.bipush 18, 2) := by decide +kernel
theorem dX12_fundGoes_66 : decode cX12_fundGoes 66 = .ok (.aload_n 0, 1) := by decide +kernel
theorem dX12_fundGoes_67 : decode cX12_fundGoes 67 = .ok (.iload_n 1, 1) := by decide +kernel
theorem tw_1239 : Cond.methodLink RX12 331 yX12_areaOf ∈ wsL_law := List.mem_of_getElem? (i := 1239) (by decide +kernel)
theorem tw_1240 : Cond.instanceMethod yX12_areaOf ∈ wsL_law := List.mem_of_getElem? (i := 1240) (by decide +kernel)
theorem tw_1241 : Cond.selects RX12 yX12_areaOf yX12_areaOf ∈ wsL_law := List.mem_of_getElem? (i := 1241) (by decide +kernel)
theorem tw_1242 : Cond.code yX12_areaOf cX12_areaOf 10 (some .int) ∈ wsL_law := List.mem_of_getElem? (i := 1242) (by decide +kernel)
theorem dX12_fundGoes_68 : decode cX12_fundGoes 68 = .ok (.invokevirtual 331, 3) := by decide +kernel
theorem dX12_fundGoes_71 : decode cX12_fundGoes 71 = .ok (.iastore, 1) := by decide +kernel
theorem dX12_fundGoes_72 : decode cX12_fundGoes 72 = .ok (.aload_n 0, 1) := by decide +kernel
theorem dX12_fundGoes_73 : decode cX12_fundGoes 73 = .ok (.getfield 7, 3) := by decide +kernel
theorem dX12_fundGoes_76 : decode cX12_fundGoes 76 = .ok (.bipush 8, 2) := by decide +kernel
theorem dX12_fundGoes_78 : decode cX12_fundGoes 78 = .ok (.dup2, 1) := by decide +kernel
theorem dX12_fundGoes_79 : decode cX12_fundGoes 79 = .ok (.iaload, 1) := by decide +kernel
theorem dX12_fundGoes_80 : decode cX12_fundGoes 80 = .ok (.aload_n 0, 1) := by decide +kernel
theorem dX12_fundGoes_81 : decode cX12_fundGoes 81 = .ok (.bipush 9, 2) := by decide +kernel
theorem dX12_fundGoes_83 : decode cX12_fundGoes 83 = .ok (.iload_n 1, 1) := by decide +kernel
theorem dX12_fundGoes_84 : decode cX12_fundGoes 84 = .ok (.bipush 10, 2) := by decide +kernel
theorem dX12_fundGoes_86 : decode cX12_fundGoes 86 = .ok (.invokevirtual 304, 3) := by decide +kernel
theorem dX12_fundGoes_89 : decode cX12_fundGoes 89 = .ok (.aload_n 0, 1) := by decide +kernel
theorem dX12_fundGoes_90 : decode cX12_fundGoes 90 = .ok (.getfield 7, 3) := by decide +kernel
theorem dX12_fundGoes_93 : decode cX12_fundGoes 93 = .ok (.bipush 18, 2) := by decide +kernel
theorem dX12_fundGoes_95 : decode cX12_fundGoes 95 = .ok (.iaload, 1) := by decide +kernel
theorem dX12_fundGoes_96 : decode cX12_fundGoes 96 = .ok (.imul, 1) := by decide +kernel
theorem dX12_fundGoes_97 : decode cX12_fundGoes 97 = .ok (.bipush 100, 2) := by decide +kernel
theorem dX12_fundGoes_99 : decode cX12_fundGoes 99 = .ok (.idiv, 1) := by decide +kernel
theorem dX12_fundGoes_100 : decode cX12_fundGoes 100 = .ok (.iadd, 1) := by decide +kernel
theorem dX12_fundGoes_101 : decode cX12_fundGoes 101 = .ok (.iastore, 1) := by decide +kernel
theorem dX12_fundGoes_102 : decode cX12_fundGoes 102 = .ok (.iconst 0, 1) := by decide +kernel
theorem dX12_fundGoes_103 : decode cX12_fundGoes 103 = .ok (.istore_n 2, 1) := by decide +kernel
theorem dX12_fundGoes_104 : decode cX12_fundGoes 104 = .ok (.iload_n 2, 1) := by decide +kernel
theorem dX12_fundGoes_105 : decode cX12_fundGoes 105 = .ok (.aload_n 0, 1) := by decide +kernel
theorem dX12_fundGoes_106 : decode cX12_fundGoes 106 = .ok (.getfield 7, 3) := by decide +kernel
theorem dX12_fundGoes_109 : decode cX12_fundGoes 109 = .ok (.iconst 2, 1) := by decide +kernel
theorem dX12_fundGoes_110 : decode cX12_fundGoes 110 = .ok (.iaload, 1) := by decide +kernel
theorem dX12_fundGoes_111 : decode cX12_fundGoes 111 = .ok (.if_icmp .ge 36, 3) := by decide +kernel
theorem dX12_fundGoes_147 : decode cX12_fundGoes 147 = .ok (.aload_n 0, 1) := by decide +kernel
theorem dX12_fundGoes_148 : decode cX12_fundGoes 148 = .ok (.getfield 7, 3) := by decide +kernel
theorem dX12_fundGoes_151 : decode cX12_fundGoes 151 = .ok (.bipush 8, 2) := by decide +kernel
theorem dX12_fundGoes_153 : decode cX12_fundGoes 153 = .ok (.iaload, 1) := by decide +kernel
theorem dX12_fundGoes_154 : decode cX12_fundGoes 154 = .ok (.ifCond .lt 4, 3) := by decide +kernel
theorem dX12_fundGoes_157 : decode cX12_fundGoes 157 = .ok (.return_, 1) := by decide +kernel
theorem dX12_fundGoes_59 : decode cX12_fundGoes 59 = .ok (.return_, 1) := by decide +kernel
theorem dX12_boatsGo_0 : decode cX12_boatsGo 0 = .ok (.aload_n 0, 1) := by decide +kernel
theorem dX12_boatsGo_1 : decode cX12_boatsGo 1 = .ok (.iconst 5, 1) := by decide +kernel
theorem dX12_boatsGo_2 : decode cX12_boatsGo 2 = .ok (.iload_n 1, 1) := by decide +kernel
theorem tw_503 : Cond.methodLink RX12 113 yX12_keysFor ∈ wsL_law := List.mem_of_getElem? (i := 503) (by decide +kernel)
theorem tw_504 : Cond.instanceMethod yX12_keysFor ∈ wsL_law := List.mem_of_getElem? (i := 504) (by decide +kernel)
theorem tw_505 : Cond.selects RX12 yX12_keysFor yX12_keysFor ∈ wsL_law := List.mem_of_getElem? (i := 505) (by decide +kernel)
theorem tw_506 : Cond.code yX12_keysFor cX12_keysFor 4 (some .boolean) ∈ wsL_law := List.mem_of_getElem? (i := 506) (by decide +kernel)
theorem dX12_boatsGo_3 : decode cX12_boatsGo 3 = .ok (.invokevirtual 113, 3) := by decide +kernel
theorem dX12_boatsGo_6 : decode cX12_boatsGo 6 = .ok (.istore_n 2, 1) := by decide +kernel
theorem dX12_boatsGo_7 : decode cX12_boatsGo 7 = .ok (.iconst 0, 1) := by decide +kernel
theorem dX12_boatsGo_8 : decode cX12_boatsGo 8 = .ok (.istore_n 3, 1) := by decide +kernel
theorem dX12_boatsGo_9 : decode cX12_boatsGo 9 = .ok (.iconst 0, 1) := by decide +kernel
theorem dX12_boatsGo_10 : decode cX12_boatsGo 10 = .ok (.istore 4, 2) := by decide +kernel
theorem dX12_boatsGo_12 : decode cX12_boatsGo 12 = .ok (.iload 4, 2) := by decide +kernel
theorem dX12_boatsGo_14 : decode cX12_boatsGo 14 = .ok (.aload_n 0, 1) := by decide +kernel
theorem dX12_boatsGo_15 : decode cX12_boatsGo 15 = .ok (.getfield 7, 3) := by decide +kernel
theorem dX12_boatsGo_18 : decode cX12_boatsGo 18 = .ok (.iconst 5, 1) := by decide +kernel
theorem dX12_boatsGo_19 : decode cX12_boatsGo 19 = .ok (.iaload, 1) := by decide +kernel
theorem dX12_boatsGo_20 : decode cX12_boatsGo 20 = .ok (.if_icmp .ge 110, 3) := by decide +kernel
theorem dX12_boatsGo_130 : decode cX12_boatsGo 130 = .ok (.aload_n 0, 1) := by decide +kernel
theorem dX12_boatsGo_131 : decode cX12_boatsGo 131 = .ok (.getfield 7, 3) := by decide +kernel
theorem dX12_boatsGo_134 : decode cX12_boatsGo 134 = .ok (.bipush 11, 2) := by decide +kernel
theorem dX12_boatsGo_136 : decode cX12_boatsGo 136 = .ok (.iaload, 1) := by decide +kernel
theorem dX12_boatsGo_137 : decode cX12_boatsGo 137 = .ok (.istore 4, 2) := by decide +kernel
theorem dX12_boatsGo_139 : decode cX12_boatsGo 139 = .ok (.iconst 0, 1) := by decide +kernel
theorem dX12_boatsGo_140 : decode cX12_boatsGo 140 = .ok (.istore 5, 2) := by decide +kernel
theorem dX12_boatsGo_142 : decode cX12_boatsGo 142 = .ok (.iload 5, 2) := by decide +kernel
theorem dX12_boatsGo_144 : decode cX12_boatsGo 144 = .ok (.iload_n 3, 1) := by decide +kernel
theorem dX12_boatsGo_145 : decode cX12_boatsGo 145 = .ok (.if_icmp .ge 43, 3) := by decide +kernel
theorem dX12_boatsGo_188 : decode cX12_boatsGo 188 = .ok (.return_, 1) := by decide +kernel
theorem dX12_month_0 : decode cX12_month 0 = .ok (.aload_n 0, 1) := by decide +kernel
theorem dX12_month_1 : decode cX12_month 1 = .ok (.getfield 7, 3) := by decide +kernel
theorem dX12_month_4 : decode cX12_month 4 = .ok (.iconst 0, 1) := by decide +kernel
theorem dX12_month_5 : decode cX12_month 5 = .ok (.iaload, 1) := by decide +kernel
theorem dX12_month_6 : decode cX12_month 6 = .ok (.istore_n 2, 1) := by decide +kernel
theorem dX12_month_7 : decode cX12_month 7 = .ok (.aload_n 0, 1) := by decide +kernel
theorem dX12_month_8 : decode cX12_month 8 = .ok (.iload_n 2, 1) := by decide +kernel
theorem tw_1197 : Cond.methodLink RX12 348 yX12_reefGoes ∈ wsL_law := List.mem_of_getElem? (i := 1197) (by decide +kernel)
theorem tw_1198 : Cond.instanceMethod yX12_reefGoes ∈ wsL_law := List.mem_of_getElem? (i := 1198) (by decide +kernel)
theorem tw_1199 : Cond.selects RX12 yX12_reefGoes yX12_reefGoes ∈ wsL_law := List.mem_of_getElem? (i := 1199) (by decide +kernel)
theorem tw_1200 : Cond.code yX12_reefGoes cX12_reefGoes 4 none ∈ wsL_law := List.mem_of_getElem? (i := 1200) (by decide +kernel)
theorem dX12_month_9 : decode cX12_month 9 = .ok (.invokevirtual 348, 3) := by decide +kernel
theorem dX12_month_12 : decode cX12_month 12 = .ok (.aload_n 0, 1) := by decide +kernel
theorem dX12_month_13 : decode cX12_month 13 = .ok (.iload_n 2, 1) := by decide +kernel
theorem tw_1205 : Cond.methodLink RX12 351 yX12_sandGoes ∈ wsL_law := List.mem_of_getElem? (i := 1205) (by decide +kernel)
theorem tw_1206 : Cond.instanceMethod yX12_sandGoes ∈ wsL_law := List.mem_of_getElem? (i := 1206) (by decide +kernel)
theorem tw_1207 : Cond.selects RX12 yX12_sandGoes yX12_sandGoes ∈ wsL_law := List.mem_of_getElem? (i := 1207) (by decide +kernel)
theorem tw_1208 : Cond.code yX12_sandGoes cX12_sandGoes 4 none ∈ wsL_law := List.mem_of_getElem? (i := 1208) (by decide +kernel)
theorem dX12_month_14 : decode cX12_month 14 = .ok (.invokevirtual 351, 3) := by decide +kernel
theorem dX12_month_17 : decode cX12_month 17 = .ok (.aload_n 0, 1) := by decide +kernel
theorem dX12_month_18 : decode cX12_month 18 = .ok (.iload_n 2, 1) := by decide +kernel
theorem dX12_month_19 : decode cX12_month 19 = .ok (.aload_n 0, 1) := by decide +kernel
theorem dX12_month_20 : decode cX12_month 20 = .ok (.iload_n 1, 1) := by decide +kernel
theorem dX12_month_21 : decode cX12_month 21 = .ok (.iload_n 2, 1) := by decide +kernel
theorem dX12_month_22 : decode cX12_month 22 = .ok (.iload_n 2, 1) := by decide +kernel
theorem tw_289 : Cond.methodLink RX12 84 yX12_levelAt ∈ wsL_law := List.mem_of_getElem? (i := 289) (by decide +kernel)
theorem tw_290 : Cond.instanceMethod yX12_levelAt ∈ wsL_law := List.mem_of_getElem? (i := 290) (by decide +kernel)
theorem tw_291 : Cond.selects RX12 yX12_levelAt yX12_levelAt ∈ wsL_law := List.mem_of_getElem? (i := 291) (by decide +kernel)
theorem tw_292 : Cond.code yX12_levelAt cX12_levelAt 9 (some .int) ∈ wsL_law := List.mem_of_getElem? (i := 292) (by decide +kernel)
theorem dX12_month_23 : decode cX12_month 23 = .ok (.invokevirtual 84, 3) := by decide +kernel
theorem tw_1209 : Cond.methodLink RX12 354 yX12_seaStands ∈ wsL_law := List.mem_of_getElem? (i := 1209) (by decide +kernel)
theorem tw_1210 : Cond.instanceMethod yX12_seaStands ∈ wsL_law := List.mem_of_getElem? (i := 1210) (by decide +kernel)
theorem tw_1211 : Cond.selects RX12 yX12_seaStands yX12_seaStands ∈ wsL_law := List.mem_of_getElem? (i := 1211) (by decide +kernel)
theorem tw_1212 : Cond.code yX12_seaStands cX12_seaStands 9 none ∈ wsL_law := List.mem_of_getElem? (i := 1212) (by decide +kernel)
theorem dX12_month_26 : decode cX12_month 26 = .ok (.invokevirtual 354, 3) := by decide +kernel
theorem dX12_month_29 : decode cX12_month 29 = .ok (.aload_n 0, 1) := by decide +kernel
theorem tw_1217 : Cond.methodLink RX12 357 yX12_drink ∈ wsL_law := List.mem_of_getElem? (i := 1217) (by decide +kernel)
theorem tw_1218 : Cond.instanceMethod yX12_drink ∈ wsL_law := List.mem_of_getElem? (i := 1218) (by decide +kernel)
theorem tw_1219 : Cond.selects RX12 yX12_drink yX12_drink ∈ wsL_law := List.mem_of_getElem? (i := 1219) (by decide +kernel)
theorem tw_1220 : Cond.code yX12_drink cX12_drink 3 none ∈ wsL_law := List.mem_of_getElem? (i := 1220) (by decide +kernel)
theorem dX12_month_30 : decode cX12_month 30 = .ok (.invokevirtual 357, 3) := by decide +kernel
theorem dX12_month_33 : decode cX12_month 33 = .ok (.aload_n 0, 1) := by decide +kernel
theorem tw_1229 : Cond.methodLink RX12 360 yX12_sleep ∈ wsL_law := List.mem_of_getElem? (i := 1229) (by decide +kernel)
theorem tw_1230 : Cond.instanceMethod yX12_sleep ∈ wsL_law := List.mem_of_getElem? (i := 1230) (by decide +kernel)
theorem tw_1231 : Cond.selects RX12 yX12_sleep yX12_sleep ∈ wsL_law := List.mem_of_getElem? (i := 1231) (by decide +kernel)
theorem tw_1232 : Cond.code yX12_sleep cX12_sleep 4 none ∈ wsL_law := List.mem_of_getElem? (i := 1232) (by decide +kernel)
theorem dX12_month_34 : decode cX12_month 34 = .ok (.invokevirtual 360, 3) := by decide +kernel
theorem dX12_month_37 : decode cX12_month 37 = .ok (.aload_n 0, 1) := by decide +kernel
theorem dX12_month_38 : decode cX12_month 38 = .ok (.iload_n 2, 1) := by decide +kernel
theorem tw_1233 : Cond.methodLink RX12 363 yX12_fundGoes ∈ wsL_law := List.mem_of_getElem? (i := 1233) (by decide +kernel)
theorem tw_1234 : Cond.instanceMethod yX12_fundGoes ∈ wsL_law := List.mem_of_getElem? (i := 1234) (by decide +kernel)
theorem tw_1235 : Cond.selects RX12 yX12_fundGoes yX12_fundGoes ∈ wsL_law := List.mem_of_getElem? (i := 1235) (by decide +kernel)
theorem tw_1236 : Cond.code yX12_fundGoes cX12_fundGoes 3 none ∈ wsL_law := List.mem_of_getElem? (i := 1236) (by decide +kernel)
theorem dX12_month_39 : decode cX12_month 39 = .ok (.invokevirtual 363, 3) := by decide +kernel
theorem dX12_month_42 : decode cX12_month 42 = .ok (.aload_n 0, 1) := by decide +kernel
theorem dX12_month_43 : decode cX12_month 43 = .ok (.iload_n 2, 1) := by decide +kernel
theorem tw_1247 : Cond.methodLink RX12 366 yX12_boatsGo ∈ wsL_law := List.mem_of_getElem? (i := 1247) (by decide +kernel)
theorem tw_1248 : Cond.instanceMethod yX12_boatsGo ∈ wsL_law := List.mem_of_getElem? (i := 1248) (by decide +kernel)
theorem tw_1249 : Cond.selects RX12 yX12_boatsGo yX12_boatsGo ∈ wsL_law := List.mem_of_getElem? (i := 1249) (by decide +kernel)
theorem tw_1250 : Cond.code yX12_boatsGo cX12_boatsGo 6 none ∈ wsL_law := List.mem_of_getElem? (i := 1250) (by decide +kernel)
theorem dX12_month_44 : decode cX12_month 44 = .ok (.invokevirtual 366, 3) := by decide +kernel
theorem dX12_month_47 : decode cX12_month 47 = .ok (.aload_n 0, 1) := by decide +kernel
theorem dX12_month_48 : decode cX12_month 48 = .ok (.getfield 7, 3) := by decide +kernel
theorem dX12_month_51 : decode cX12_month 51 = .ok (.iconst 0, 1) := by decide +kernel
theorem dX12_month_52 : decode cX12_month 52 = .ok (.dup2, 1) := by decide +kernel
theorem dX12_month_53 : decode cX12_month 53 = .ok (.iaload, 1) := by decide +kernel
theorem dX12_month_54 : decode cX12_month 54 = .ok (.iconst 1, 1) := by decide +kernel
theorem dX12_month_55 : decode cX12_month 55 = .ok (.iadd, 1) := by decide +kernel
theorem dX12_month_56 : decode cX12_month 56 = .ok (.iastore, 1) := by decide +kernel
theorem dX12_month_57 : decode cX12_month 57 = .ok (.return_, 1) := by decide +kernel
set_option maxHeartbeats 4000000 in
set_option maxRecDepth 100000 in
theorem c_X12_latest (l : Launch) (D : va_G) (t : pq_T) (σ : pq_S) (I : Nat → Nat → Int32) (J : Nat → Nat → Int64) (ri : Nat → Nat → Int32) (rj : Nat → Nat → Int64) (rq : Nat → Nat → Option Nat) (sz : Nat) (this : Nat) (ri_ : Int32) (mo : Int32) (kn : Int32) (hL_this : this ∈ σ.1) (hK_this : σ.2.1 this = 12) (this_a : Nat) (hR_this_a : σ.2.2.1 384 this = some this_a) (hL_this_a : this_a ∈ σ.1) (hK_this_a : σ.2.1 this_a = 13) (hN_this_a : σ.2.2.2 this_a = 12720) (k : Nat) (hk : k < 600) (hF : fm (ri this_a) k) : MetI l yX12_latest (wa yX12_latest cX12_latest 6 (some .int)) ({ frames := 0, cells := 0, slots := 0, locals := 0 }) [.ref this, .int ri_, .int mo, .int kn] D t σ (I, J, ri, rj, rq) sz 0 0 (fun (r : Int32) (u : pq_S × pq_M) => u = (σ, I, J, ri, rj, rq) ∧ ((r = (-1)))) := by
  refine Met.ofW (cc := cX12_latest) (maxL := 6) (ret := (some .int)) (by decide) rfl ?_
  intro p e s m args below meth c s₁ B hml hv
  obtain ⟨rfl, hsz, hP, hK, hD0, hN⟩ := hv
  have hx := B.exec
  have hb := B.bytes
  have hr := B.returns
  have hts := atoms_spec (ws := (wa yX12_latest cX12_latest 6 (some .int))) B.pre
  have hown : s.vm.findClass RX12 = some m.cls := findClass_of_methodNamed B.named
  have hlocks := B.notSynchronized
  subst hsz
  have hD : va_D (pq_B t σ (I, J, ri, rj, rq) s.heap.size) (pq_P t σ (I, J, ri, rj, rq)) := hD0.self
  generalize hAe : pq_B t σ (I, J, ri, rj, rq) s.heap.size = A at hD ⊢
  have hA : ∀ q : Nat, s.heap.size ≤ q → A q := fun q h => by rw [← hAe]; exact Or.inr h
  have hS : va_S A s.heap s.heap [] := va_S.rf
  have hl := lv_entry ([.ref this, .int ri_, .int mo, .int kn]) (n := 6) (Nat.le_of_ble_eq_true rfl)
  rw [lg_entry_eq]
  generalize (lg_sl ([.ref this, .int ri_, .int mo, .int kn]) ++ List.replicate (6 - (lg_sl ([.ref this, .int ri_, .int mo, .int kn])).length) Slot.unset).toArray = ls at hl ⊢
  have hl : lv_has ls 6 [(0, .ref this), (1, .int ri_), (2, .int mo), (3, .int kn)] := hl
  refine lv_aload_n hx hb dX12_latest_0 rfl (lv_at hl 0 rfl) ?_
  refine pg_f (v := .ref this_a) (C := RX12) (T := TX12) (N := 31) hx hb hts (tw_i inlX12) hown hK hP hL_this hK_this (by decide) rfl 0 (by decide) (hts _ (tw_c tw_176)) (pq_hv rfl hR_this_a) dX12_latest_1 ?_
  refine lv_iconst (v := 3) hx hb dX12_latest_4 (by decide) ?_
  refine pl_i hx hb hK hP hL_this_a hK_this_a hN_this_a (vp_in_iff.mpr (by decide)) dX12_latest_5 ?_
  refine lv_tov 0 (fm_at hF 3 (v := 0) (by decide)) ?_
  refine lv_iconst (v := 1) hx hb dX12_latest_6 (by decide) ?_
  refine lv_isub hx hb dX12_latest_7 ?_
  refine lv_tov (-1) (by decide) ?_
  refine lv_istore (lv' := [(4, .int (-1)), (0, .ref this), (1, .int ri_), (2, .int mo), (3, .int kn)]) hx hb dX12_latest_8 hl (by decide) rfl (fun ls hl => ?_)
  refine lv_iload hx hb dX12_latest_10 (lv_at hl 0 rfl) ?_
  refine lv_if_lt (tgt := 71) hx hb dX12_latest_12 (by decide) (fun c_1 => ?_) (fun c_1 => absurd c_1 (by decide))
  refine lv_iconst (v := (-1)) hx hb dX12_latest_71 (by decide) ?_
  exact W.iret (v := (-1)) hx hb hr (fun t1 ht hW => ⟨⟨(-1), (σ, I, J, ri, rj, rq), rfl, ⟨rfl, rfl⟩, by rw [ht]; exact hP, va_K.moved hW.alike hK, hD⟩, hS.F ht⟩) hS.2.2 dX12_latest_72

set_option maxHeartbeats 4000000 in
set_option maxRecDepth 100000 in
theorem c_X12_worst (l : Launch) (D : va_G) (t : pq_T) (σ : pq_S) (I : Nat → Nat → Int32) (J : Nat → Nat → Int64) (ri : Nat → Nat → Int32) (rj : Nat → Nat → Int64) (rq : Nat → Nat → Option Nat) (sz : Nat) (this : Nat) (ri_ : Int32) (kn : Int32) (hL_this : this ∈ σ.1) (hK_this : σ.2.1 this = 12) (this_a : Nat) (hR_this_a : σ.2.2.1 384 this = some this_a) (hL_this_a : this_a ∈ σ.1) (hK_this_a : σ.2.1 this_a = 13) (hN_this_a : σ.2.2.2 this_a = 12720) (k : Nat) (hk : k < 600) (hF : fm (ri this_a) k) : MetI l yX12_worst (wa yX12_worst cX12_worst 7 (some .int)) ({ frames := 0, cells := 0, slots := 0, locals := 0 }) [.ref this, .int ri_, .int kn] D t σ (I, J, ri, rj, rq) sz 0 0 (fun (r : Int32) (u : pq_S × pq_M) => u = (σ, I, J, ri, rj, rq) ∧ ((r = 0))) := by
  refine Met.ofW (cc := cX12_worst) (maxL := 7) (ret := (some .int)) (by decide) rfl ?_
  intro p e s m args below meth c s₁ B hml hv
  obtain ⟨rfl, hsz, hP, hK, hD0, hN⟩ := hv
  have hx := B.exec
  have hb := B.bytes
  have hr := B.returns
  have hts := atoms_spec (ws := (wa yX12_worst cX12_worst 7 (some .int))) B.pre
  have hown : s.vm.findClass RX12 = some m.cls := findClass_of_methodNamed B.named
  have hlocks := B.notSynchronized
  subst hsz
  have hD : va_D (pq_B t σ (I, J, ri, rj, rq) s.heap.size) (pq_P t σ (I, J, ri, rj, rq)) := hD0.self
  generalize hAe : pq_B t σ (I, J, ri, rj, rq) s.heap.size = A at hD ⊢
  have hA : ∀ q : Nat, s.heap.size ≤ q → A q := fun q h => by rw [← hAe]; exact Or.inr h
  have hS : va_S A s.heap s.heap [] := va_S.rf
  have hl := lv_entry ([.ref this, .int ri_, .int kn]) (n := 7) (Nat.le_of_ble_eq_true rfl)
  rw [lg_entry_eq]
  generalize (lg_sl ([.ref this, .int ri_, .int kn]) ++ List.replicate (7 - (lg_sl ([.ref this, .int ri_, .int kn])).length) Slot.unset).toArray = ls at hl ⊢
  have hl : lv_has ls 7 [(0, .ref this), (1, .int ri_), (2, .int kn)] := hl
  refine lv_iconst (v := 0) hx hb dX12_worst_0 (by decide) ?_
  refine lv_istore_n (lv' := [(3, .int 0), (0, .ref this), (1, .int ri_), (2, .int kn)]) hx hb dX12_worst_1 rfl hl (by decide) rfl (fun ls hl => ?_)
  refine lv_iconst (v := 0) hx hb dX12_worst_2 (by decide) ?_
  refine lv_istore (lv' := [(4, .int 0), (3, .int 0), (0, .ref this), (1, .int ri_), (2, .int kn)]) hx hb dX12_worst_3 hl (by decide) rfl (fun ls hl => ?_)
  refine lv_iconst (v := 0) hx hb dX12_worst_5 (by decide) ?_
  refine lv_istore (lv' := [(5, .int 0), (4, .int 0), (3, .int 0), (0, .ref this), (1, .int ri_), (2, .int kn)]) hx hb dX12_worst_6 hl (by decide) rfl (fun ls hl => ?_)
  refine lv_iload hx hb dX12_worst_8 (lv_at hl 0 rfl) ?_
  refine lv_aload_n hx hb dX12_worst_10 rfl (lv_at hl 3 rfl) ?_
  refine pg_f (v := .ref this_a) (C := RX12) (T := TX12) (N := 31) hx hb hts (tw_i inlX12) hown hK hP hL_this hK_this (by decide) rfl 0 (by decide) (hts _ (tw_c tw_176)) (pq_hv rfl hR_this_a) dX12_worst_11 ?_
  refine lv_iconst (v := 3) hx hb dX12_worst_14 (by decide) ?_
  refine pl_i hx hb hK hP hL_this_a hK_this_a hN_this_a (vp_in_iff.mpr (by decide)) dX12_worst_15 ?_
  refine lv_tov 0 (fm_at hF 3 (v := 0) (by decide)) ?_
  refine lv_icmp_ge (tgt := 105) hx hb dX12_worst_16 (by decide) (fun c_1 => ?_) (fun c_1 => absurd c_1 (by decide))
  refine lv_iload_n hx hb dX12_worst_105 rfl (lv_at hl 2 rfl) ?_
  exact W.iret (v := 0) hx hb hr (fun t1 ht hW => ⟨⟨0, (σ, I, J, ri, rj, rq), rfl, ⟨rfl, rfl⟩, by rw [ht]; exact hP, va_K.moved hW.alike hK, hD⟩, hS.F ht⟩) hS.2.2 dX12_worst_106

set_option maxHeartbeats 4000000 in
set_option maxRecDepth 100000 in
theorem c_X12_levelAt (l : Launch) (D : va_G) (t : pq_T) (σ : pq_S) (I : Nat → Nat → Int32) (J : Nat → Nat → Int64) (ri : Nat → Nat → Int32) (rj : Nat → Nat → Int64) (rq : Nat → Nat → Option Nat) (sz : Nat) (this : Nat) (ri_ : Int32) (mo : Int32) (kn : Int32) (hL_this : this ∈ σ.1) (hK_this : σ.2.1 this = 12) (this_a : Nat) (hR_this_a : σ.2.2.1 384 this = some this_a) (hL_this_a : this_a ∈ σ.1) (hK_this_a : σ.2.1 this_a = 13) (hN_this_a : σ.2.2.2 this_a = 12720) (k : Nat) (hk : k < 600) (hF : fm (ri this_a) k) : MetI l yX12_levelAt (wa yX12_levelAt cX12_levelAt 9 (some .int)) ({ frames := 1, cells := 0, slots := 0, locals := 26 }) [.ref this, .int ri_, .int mo, .int kn] D t σ (I, J, ri, rj, rq) sz 0 0 (fun (r : Int32) (u : pq_S × pq_M) => u = (σ, I, J, ri, rj, rq) ∧ ((r = 0))) := by
  refine Met.ofW (cc := cX12_levelAt) (maxL := 9) (ret := (some .int)) (by decide) rfl ?_
  intro p e s m args below meth c s₁ B hml hv
  obtain ⟨rfl, hsz, hP, hK, hD0, hN⟩ := hv
  have hx := B.exec
  have hb := B.bytes
  have hr := B.returns
  have hts := atoms_spec (ws := (wa yX12_levelAt cX12_levelAt 9 (some .int))) B.pre
  have hown : s.vm.findClass RX12 = some m.cls := findClass_of_methodNamed B.named
  have hlocks := B.notSynchronized
  subst hsz
  have hD : va_D (pq_B t σ (I, J, ri, rj, rq) s.heap.size) (pq_P t σ (I, J, ri, rj, rq)) := hD0.self
  generalize hAe : pq_B t σ (I, J, ri, rj, rq) s.heap.size = A at hD ⊢
  have hA : ∀ q : Nat, s.heap.size ≤ q → A q := fun q h => by rw [← hAe]; exact Or.inr h
  have hS : va_S A s.heap s.heap [] := va_S.rf
  have hl := lv_entry ([.ref this, .int ri_, .int mo, .int kn]) (n := 9) (Nat.le_of_ble_eq_true rfl)
  rw [lg_entry_eq]
  generalize (lg_sl ([.ref this, .int ri_, .int mo, .int kn]) ++ List.replicate (9 - (lg_sl ([.ref this, .int ri_, .int mo, .int kn])).length) Slot.unset).toArray = ls at hl ⊢
  have hl : lv_has ls 9 [(0, .ref this), (1, .int ri_), (2, .int mo), (3, .int kn)] := hl
  refine lv_aload_n hx hb dX12_levelAt_0 rfl (lv_at hl 0 rfl) ?_
  refine lv_iload_n hx hb dX12_levelAt_1 rfl (lv_at hl 1 rfl) ?_
  refine lv_iload_n hx hb dX12_levelAt_2 rfl (lv_at hl 2 rfl) ?_
  refine lv_iload_n hx hb dX12_levelAt_3 rfl (lv_at hl 3 rfl) ?_
  refine pk_i (va_runV (As := [.int ri_, .int mo, .int kn]) (rest := []) ⟨hx, hb, hml, hown, hts⟩ (c_X12_latest l D t σ I J ri rj rq (Array.size s.heap) this ri_ mo kn hL_this hK_this this_a hR_this_a hL_this_a hK_this_a hN_this_a k (by omega) hF) (cwV 3 hts (tw_V tw_293 tw_294 tw_295 tw_5 tw_296) rfl rfl rfl (by decide +kernel) ⟨Nat.le_of_ble_eq_true rfl, Nat.le_of_ble_eq_true rfl⟩) ⟨pq_blind, pq_recv hK hP hL_this hK_this (by decide) rfl, pq_pre hK hN hP hD⟩ rfl rfl hl.1 rfl (lv_room (Nat.le_of_ble_eq_true rfl)) dX12_levelAt_4 ⟨Nat.le_of_ble_eq_true rfl, Nat.le_of_ble_eq_true rfl⟩) hD hS hA (fun r_1 σ1 μ1 H locs hw_2 hP hD hS => ?_)
  obtain ⟨hu_3, hr_4⟩ := hw_2
  obtain ⟨hu_3a, hu_3b⟩ := Prod.mk.inj hu_3
  rw [hu_3a, hu_3b] at hP hD
  subst hr_4
  refine lv_istore (lv' := [(4, .int (-1)), (0, .ref this), (1, .int ri_), (2, .int mo), (3, .int kn)]) hx hb dX12_levelAt_7 hl (by decide) rfl (fun ls hl => ?_)
  refine lv_iload hx hb dX12_levelAt_9 (lv_at hl 0 rfl) ?_
  refine lv_if_ge (tgt := 21) hx hb dX12_levelAt_11 (by decide) (fun c_5 => absurd c_5 (by decide)) (fun c_5 => ?_)
  refine lv_aload_n hx hb dX12_levelAt_14 rfl (lv_at hl 1 rfl) ?_
  refine lv_iload_n hx hb dX12_levelAt_15 rfl (lv_at hl 2 rfl) ?_
  refine lv_iload_n hx hb dX12_levelAt_16 rfl (lv_at hl 4 rfl) ?_
  refine pk_i (va_runV (As := [.int ri_, .int kn]) (rest := []) ⟨hx, hb, hml, hown, hts⟩ (c_X12_worst l D t σ I J ri rj rq H.size this ri_ kn hL_this hK_this this_a hR_this_a hL_this_a hK_this_a hN_this_a k (by omega) hF) (cwV 2 hts (tw_V tw_297 tw_298 tw_299 tw_5 tw_300) rfl rfl rfl (by decide +kernel) ⟨Nat.le_of_ble_eq_true rfl, Nat.le_of_ble_eq_true rfl⟩) ⟨pq_blind, pq_recv hK hP hL_this hK_this (by decide) rfl, pq_pre hK hN hP hD⟩ rfl rfl hl.1 rfl (lv_room (Nat.le_of_ble_eq_true rfl)) dX12_levelAt_17 ⟨Nat.le_of_ble_eq_true rfl, Nat.le_of_ble_eq_true rfl⟩) hD hS hA (fun r_6 σ1 μ1 H locs hw_7 hP hD hS => ?_)
  obtain ⟨hu_8, hr_9⟩ := hw_7
  obtain ⟨hu_8a, hu_8b⟩ := Prod.mk.inj hu_8
  rw [hu_8a, hu_8b] at hP hD
  subst hr_9
  exact W.iret (v := 0) hx hb hr (fun t1 ht hW => ⟨⟨0, (σ, I, J, ri, rj, rq), rfl, ⟨rfl, rfl⟩, by rw [ht]; exact hP, va_K.moved hW.alike hK, hD⟩, hS.F ht⟩) hS.2.2 dX12_levelAt_20

set_option maxHeartbeats 4000000 in
set_option maxRecDepth 100000 in
theorem c_X12_textFor (l : Launch) (D : va_G) (t : pq_T) (σ : pq_S) (I : Nat → Nat → Int32) (J : Nat → Nat → Int64) (ri : Nat → Nat → Int32) (rj : Nat → Nat → Int64) (rq : Nat → Nat → Option Nat) (sz : Nat) (this : Nat) (so : Int32) (mo : Int32) (hL_this : this ∈ σ.1) (hK_this : σ.2.1 this = 12) (this_a : Nat) (hR_this_a : σ.2.2.1 384 this = some this_a) (hL_this_a : this_a ∈ σ.1) (hK_this_a : σ.2.1 this_a = 13) (hN_this_a : σ.2.2.2 this_a = 12720) (k : Nat) (hk : k < 600) (hF : fm (ri this_a) k) : MetI l yX12_textFor (wa yX12_textFor cX12_textFor 5 (some .int)) ({ frames := 0, cells := 0, slots := 0, locals := 0 }) [.ref this, .int so, .int mo] D t σ (I, J, ri, rj, rq) sz 0 0 (fun (r : Int32) (u : pq_S × pq_M) => u = (σ, I, J, ri, rj, rq) ∧ ((r = (-1)))) := by
  refine Met.ofW (cc := cX12_textFor) (maxL := 5) (ret := (some .int)) (by decide) rfl ?_
  intro p e s m args below meth c s₁ B hml hv
  obtain ⟨rfl, hsz, hP, hK, hD0, hN⟩ := hv
  have hx := B.exec
  have hb := B.bytes
  have hr := B.returns
  have hts := atoms_spec (ws := (wa yX12_textFor cX12_textFor 5 (some .int))) B.pre
  have hown : s.vm.findClass RX12 = some m.cls := findClass_of_methodNamed B.named
  have hlocks := B.notSynchronized
  subst hsz
  have hD : va_D (pq_B t σ (I, J, ri, rj, rq) s.heap.size) (pq_P t σ (I, J, ri, rj, rq)) := hD0.self
  generalize hAe : pq_B t σ (I, J, ri, rj, rq) s.heap.size = A at hD ⊢
  have hA : ∀ q : Nat, s.heap.size ≤ q → A q := fun q h => by rw [← hAe]; exact Or.inr h
  have hS : va_S A s.heap s.heap [] := va_S.rf
  have hl := lv_entry ([.ref this, .int so, .int mo]) (n := 5) (Nat.le_of_ble_eq_true rfl)
  rw [lg_entry_eq]
  generalize (lg_sl ([.ref this, .int so, .int mo]) ++ List.replicate (5 - (lg_sl ([.ref this, .int so, .int mo])).length) Slot.unset).toArray = ls at hl ⊢
  have hl : lv_has ls 5 [(0, .ref this), (1, .int so), (2, .int mo)] := hl
  refine lv_aload_n hx hb dX12_textFor_0 rfl (lv_at hl 0 rfl) ?_
  refine pg_f (v := .ref this_a) (C := RX12) (T := TX12) (N := 31) hx hb hts (tw_i inlX12) hown hK hP hL_this hK_this (by decide) rfl 0 (by decide) (hts _ (tw_c tw_176)) (pq_hv rfl hR_this_a) dX12_textFor_1 ?_
  refine lv_bipush (v := 7) hx hb dX12_textFor_4 (by decide) ?_
  refine pl_i hx hb hK hP hL_this_a hK_this_a hN_this_a (vp_in_iff.mpr (by decide)) dX12_textFor_6 ?_
  refine lv_tov 0 (fm_at hF 7 (v := 0) (by decide)) ?_
  refine lv_iconst (v := 1) hx hb dX12_textFor_7 (by decide) ?_
  refine lv_isub hx hb dX12_textFor_8 ?_
  refine lv_tov (-1) (by decide) ?_
  refine lv_istore_n (lv' := [(3, .int (-1)), (0, .ref this), (1, .int so), (2, .int mo)]) hx hb dX12_textFor_9 rfl hl (by decide) rfl (fun ls hl => ?_)
  refine lv_iload_n hx hb dX12_textFor_10 rfl (lv_at hl 0 rfl) ?_
  refine lv_if_lt (tgt := 77) hx hb dX12_textFor_11 (by decide) (fun c_1 => ?_) (fun c_1 => absurd c_1 (by decide))
  refine lv_iconst (v := (-1)) hx hb dX12_textFor_77 (by decide) ?_
  exact W.iret (v := (-1)) hx hb hr (fun t1 ht hW => ⟨⟨(-1), (σ, I, J, ri, rj, rq), rfl, ⟨rfl, rfl⟩, by rw [ht]; exact hP, va_K.moved hW.alike hK, hD⟩, hS.F ht⟩) hS.2.2 dX12_textFor_78

set_option maxHeartbeats 4000000 in
set_option maxRecDepth 100000 in
theorem c_X12_numberOf (l : Launch) (D : va_G) (t : pq_T) (σ : pq_S) (I : Nat → Nat → Int32) (J : Nat → Nat → Int64) (ri : Nat → Nat → Int32) (rj : Nat → Nat → Int64) (rq : Nat → Nat → Option Nat) (sz : Nat) (this : Nat) (so : Int32) (mo : Int32) (wo : Int32) (hL_this : this ∈ σ.1) (hK_this : σ.2.1 this = 12) (this_a : Nat) (hR_this_a : σ.2.2.1 384 this = some this_a) (hL_this_a : this_a ∈ σ.1) (hK_this_a : σ.2.1 this_a = 13) (hN_this_a : σ.2.2.2 this_a = 12720) (k : Nat) (hk : k < 600) (hF : fm (ri this_a) k) : MetI l yX12_numberOf (wa yX12_numberOf cX12_numberOf 5 (some .int)) ({ frames := 1, cells := 0, slots := 0, locals := 24 }) [.ref this, .int so, .int mo, .int wo] D t σ (I, J, ri, rj, rq) sz 0 0 (fun (r : Int32) (u : pq_S × pq_M) => u = (σ, I, J, ri, rj, rq) ∧ (r = wo)) := by
  refine Met.ofW (cc := cX12_numberOf) (maxL := 5) (ret := (some .int)) (by decide) rfl ?_
  intro p e s m args below meth c s₁ B hml hv
  obtain ⟨rfl, hsz, hP, hK, hD0, hN⟩ := hv
  have hx := B.exec
  have hb := B.bytes
  have hr := B.returns
  have hts := atoms_spec (ws := (wa yX12_numberOf cX12_numberOf 5 (some .int))) B.pre
  have hown : s.vm.findClass RX12 = some m.cls := findClass_of_methodNamed B.named
  have hlocks := B.notSynchronized
  subst hsz
  have hD : va_D (pq_B t σ (I, J, ri, rj, rq) s.heap.size) (pq_P t σ (I, J, ri, rj, rq)) := hD0.self
  generalize hAe : pq_B t σ (I, J, ri, rj, rq) s.heap.size = A at hD ⊢
  have hA : ∀ q : Nat, s.heap.size ≤ q → A q := fun q h => by rw [← hAe]; exact Or.inr h
  have hS : va_S A s.heap s.heap [] := va_S.rf
  have hl := lv_entry ([.ref this, .int so, .int mo, .int wo]) (n := 5) (Nat.le_of_ble_eq_true rfl)
  rw [lg_entry_eq]
  generalize (lg_sl ([.ref this, .int so, .int mo, .int wo]) ++ List.replicate (5 - (lg_sl ([.ref this, .int so, .int mo, .int wo])).length) Slot.unset).toArray = ls at hl ⊢
  have hl : lv_has ls 5 [(0, .ref this), (1, .int so), (2, .int mo), (3, .int wo)] := hl
  refine lv_aload_n hx hb dX12_numberOf_0 rfl (lv_at hl 0 rfl) ?_
  refine lv_iload_n hx hb dX12_numberOf_1 rfl (lv_at hl 1 rfl) ?_
  refine lv_iload_n hx hb dX12_numberOf_2 rfl (lv_at hl 2 rfl) ?_
  refine pk_i (va_runV (As := [.int so, .int mo]) (rest := []) ⟨hx, hb, hml, hown, hts⟩ (c_X12_textFor l D t σ I J ri rj rq (Array.size s.heap) this so mo hL_this hK_this this_a hR_this_a hL_this_a hK_this_a hN_this_a k (by omega) hF) (cwV 2 hts (tw_V tw_508 tw_509 tw_510 tw_5 tw_511) rfl rfl rfl (by decide +kernel) ⟨Nat.le_of_ble_eq_true rfl, Nat.le_of_ble_eq_true rfl⟩) ⟨pq_blind, pq_recv hK hP hL_this hK_this (by decide) rfl, pq_pre hK hN hP hD⟩ rfl rfl hl.1 rfl (lv_room (Nat.le_of_ble_eq_true rfl)) dX12_numberOf_3 ⟨Nat.le_of_ble_eq_true rfl, Nat.le_of_ble_eq_true rfl⟩) hD hS hA (fun r_1 σ1 μ1 H locs hw_2 hP hD hS => ?_)
  obtain ⟨hu_3, hr_4⟩ := hw_2
  obtain ⟨hu_3a, hu_3b⟩ := Prod.mk.inj hu_3
  rw [hu_3a, hu_3b] at hP hD
  subst hr_4
  refine lv_istore (lv' := [(4, .int (-1)), (0, .ref this), (1, .int so), (2, .int mo), (3, .int wo)]) hx hb dX12_numberOf_6 hl (by decide) rfl (fun ls hl => ?_)
  refine lv_iload hx hb dX12_numberOf_8 (lv_at hl 0 rfl) ?_
  refine lv_if_ge (tgt := 17) hx hb dX12_numberOf_10 (by decide) (fun c_5 => absurd c_5 (by decide)) (fun c_5 => ?_)
  refine lv_iload_n hx hb dX12_numberOf_13 rfl (lv_at hl 4 rfl) ?_
  refine lv_goto (tgt := 31) hx hb dX12_numberOf_14 (by decide) ?_
  exact W.iret (v := wo) hx hb hr (fun t1 ht hW => ⟨⟨wo, (σ, I, J, ri, rj, rq), rfl, ⟨rfl, rfl⟩, by rw [ht]; exact hP, va_K.moved hW.alike hK, hD⟩, hS.F ht⟩) hS.2.2 dX12_numberOf_31

set_option maxHeartbeats 4000000 in
set_option maxRecDepth 100000 in
theorem c_X12_keysFor (l : Launch) (D : va_G) (t : pq_T) (σ : pq_S) (I : Nat → Nat → Int32) (J : Nat → Nat → Int64) (ri : Nat → Nat → Int32) (rj : Nat → Nat → Int64) (rq : Nat → Nat → Option Nat) (sz : Nat) (this : Nat) (so : Int32) (mo : Int32) (hL_this : this ∈ σ.1) (hK_this : σ.2.1 this = 12) (this_a : Nat) (hR_this_a : σ.2.2.1 384 this = some this_a) (hL_this_a : this_a ∈ σ.1) (hK_this_a : σ.2.1 this_a = 13) (hN_this_a : σ.2.2.2 this_a = 12720) (k : Nat) (hk : k < 600) (hF : fm (ri this_a) k) : MetI l yX12_keysFor (wa yX12_keysFor cX12_keysFor 4 (some .boolean)) ({ frames := 1, cells := 0, slots := 0, locals := 24 }) [.ref this, .int so, .int mo] D t σ (I, J, ri, rj, rq) sz 0 0 (fun (r : Int32) (u : pq_S × pq_M) => ∃ I' : Nat → Nat → Int32, u = (σ, I', J, ri, rj, rq) ∧ (∀ f, f ∉ ([406] : List Nat) → I' f = I f) ∧ ((r = 0))) := by
  refine Met.ofW (cc := cX12_keysFor) (maxL := 4) (ret := (some .boolean)) (by decide) rfl ?_
  intro p e s m args below meth c s₁ B hml hv
  obtain ⟨rfl, hsz, hP, hK, hD0, hN⟩ := hv
  have hx := B.exec
  have hb := B.bytes
  have hr := B.returns
  have hts := atoms_spec (ws := (wa yX12_keysFor cX12_keysFor 4 (some .boolean))) B.pre
  have hown : s.vm.findClass RX12 = some m.cls := findClass_of_methodNamed B.named
  have hlocks := B.notSynchronized
  subst hsz
  have hD : va_D (pq_B t σ (I, J, ri, rj, rq) s.heap.size) (pq_P t σ (I, J, ri, rj, rq)) := hD0.self
  generalize hAe : pq_B t σ (I, J, ri, rj, rq) s.heap.size = A at hD ⊢
  have hA : ∀ q : Nat, s.heap.size ≤ q → A q := fun q h => by rw [← hAe]; exact Or.inr h
  have hS : va_S A s.heap s.heap [] := va_S.rf
  have hl := lv_entry ([.ref this, .int so, .int mo]) (n := 4) (Nat.le_of_ble_eq_true rfl)
  rw [lg_entry_eq]
  generalize (lg_sl ([.ref this, .int so, .int mo]) ++ List.replicate (4 - (lg_sl ([.ref this, .int so, .int mo])).length) Slot.unset).toArray = ls at hl ⊢
  have hl : lv_has ls 4 [(0, .ref this), (1, .int so), (2, .int mo)] := hl
  refine lv_aload_n hx hb dX12_keysFor_0 rfl (lv_at hl 0 rfl) ?_
  refine lv_iload_n hx hb dX12_keysFor_1 rfl (lv_at hl 1 rfl) ?_
  refine lv_iload_n hx hb dX12_keysFor_2 rfl (lv_at hl 2 rfl) ?_
  refine pk_i (va_runV (As := [.int so, .int mo]) (rest := []) ⟨hx, hb, hml, hown, hts⟩ (c_X12_textFor l D t σ I J ri rj rq (Array.size s.heap) this so mo hL_this hK_this this_a hR_this_a hL_this_a hK_this_a hN_this_a k (by omega) hF) (cwV 2 hts (tw_V tw_508 tw_509 tw_510 tw_5 tw_511) rfl rfl rfl (by decide +kernel) ⟨Nat.le_of_ble_eq_true rfl, Nat.le_of_ble_eq_true rfl⟩) ⟨pq_blind, pq_recv hK hP hL_this hK_this (by decide) rfl, pq_pre hK hN hP hD⟩ rfl rfl hl.1 rfl (lv_room (Nat.le_of_ble_eq_true rfl)) dX12_keysFor_3 ⟨Nat.le_of_ble_eq_true rfl, Nat.le_of_ble_eq_true rfl⟩) hD hS hA (fun r_1 σ1 μ1 H locs hw_2 hP hD hS => ?_)
  obtain ⟨hu_3, hr_4⟩ := hw_2
  obtain ⟨hu_3a, hu_3b⟩ := Prod.mk.inj hu_3
  rw [hu_3a, hu_3b] at hP hD
  subst hr_4
  refine lv_istore_n (lv' := [(3, .int (-1)), (0, .ref this), (1, .int so), (2, .int mo)]) hx hb dX12_keysFor_6 rfl hl (by decide) rfl (fun ls hl => ?_)
  refine lv_aload_n hx hb dX12_keysFor_7 rfl (lv_at hl 1 rfl) ?_
  refine lv_iload_n hx hb dX12_keysFor_8 rfl (lv_at hl 0 rfl) ?_
  refine lv_if_ge (tgt := 16) hx hb dX12_keysFor_9 (by decide) (fun c_5 => absurd c_5 (by decide)) (fun c_5 => ?_)
  refine lv_iconst (v := (-1)) hx hb dX12_keysFor_12 (by decide) ?_
  refine lv_goto (tgt := 22) hx hb dX12_keysFor_13 (by decide) ?_
  refine pp_i (v := (-1)) (ty := .int) (C := RX12) (T := TX12) (N := 31) hx hb hts (tw_i inlX12) tyX12 tyX12_ok nmX12 hown hK hP hD hS hL_this hK_this (by decide) rfl 22 406 (by decide) (hts _ (tw_c tw_507)) rfl (by decide +kernel) rfl rfl (Nat.le_of_ble_eq_true rfl) (ps_406 _ _ _ _ _) dX12_keysFor_22 (fun I_6 H locs eI_6 hP hD hS => ?_)
  refine lv_iload_n hx hb dX12_keysFor_25 rfl (lv_at hl 0 rfl) ?_
  refine lv_if_lt (tgt := 33) hx hb dX12_keysFor_26 (by decide) (fun c_7 => ?_) (fun c_7 => absurd c_7 (by decide))
  refine lv_iconst (v := 0) hx hb dX12_keysFor_33 (by decide) ?_
  exact W.zret (v := 0) hx hb hr (by decide) (fun t1 ht hW => ⟨⟨0, (σ, I_6, J, ri, rj, rq), rfl, ⟨I_6, rfl, (fun f hg => by rw [eI_6, pq_uf _ _ _ (by intro q; subst q; exact hg (by decide))]), rfl⟩, by rw [ht]; exact hP, va_K.moved hW.alike hK, hD⟩, hS.F ht⟩) hS.2.2 dX12_keysFor_34

set_option maxHeartbeats 4000000 in
set_option maxRecDepth 100000 in
theorem c_X12_manyAt (l : Launch) (D : va_G) (t : pq_T) (σ : pq_S) (I : Nat → Nat → Int32) (J : Nat → Nat → Int64) (ri : Nat → Nat → Int32) (rj : Nat → Nat → Int64) (rq : Nat → Nat → Option Nat) (sz : Nat) (this : Nat) (pl : Int32) (hL_this : this ∈ σ.1) (hK_this : σ.2.1 this = 12) (this_a : Nat) (hR_this_a : σ.2.2.1 384 this = some this_a) (hL_this_a : this_a ∈ σ.1) (hK_this_a : σ.2.1 this_a = 13) (hN_this_a : σ.2.2.2 this_a = 12720) (k : Nat) (hk : k < 600) (hF : fm (ri this_a) k) : MetI l yX12_manyAt (wa yX12_manyAt cX12_manyAt 4 (some .int)) ({ frames := 0, cells := 0, slots := 0, locals := 0 }) [.ref this, .int pl] D t σ (I, J, ri, rj, rq) sz 0 0 (fun (r : Int32) (u : pq_S × pq_M) => u = (σ, I, J, ri, rj, rq) ∧ ((r = 0))) := by
  refine Met.ofW (cc := cX12_manyAt) (maxL := 4) (ret := (some .int)) (by decide) rfl ?_
  intro p e s m args below meth c s₁ B hml hv
  obtain ⟨rfl, hsz, hP, hK, hD0, hN⟩ := hv
  have hx := B.exec
  have hb := B.bytes
  have hr := B.returns
  have hts := atoms_spec (ws := (wa yX12_manyAt cX12_manyAt 4 (some .int))) B.pre
  have hown : s.vm.findClass RX12 = some m.cls := findClass_of_methodNamed B.named
  have hlocks := B.notSynchronized
  subst hsz
  have hD : va_D (pq_B t σ (I, J, ri, rj, rq) s.heap.size) (pq_P t σ (I, J, ri, rj, rq)) := hD0.self
  generalize hAe : pq_B t σ (I, J, ri, rj, rq) s.heap.size = A at hD ⊢
  have hA : ∀ q : Nat, s.heap.size ≤ q → A q := fun q h => by rw [← hAe]; exact Or.inr h
  have hS : va_S A s.heap s.heap [] := va_S.rf
  have hl := lv_entry ([.ref this, .int pl]) (n := 4) (Nat.le_of_ble_eq_true rfl)
  rw [lg_entry_eq]
  generalize (lg_sl ([.ref this, .int pl]) ++ List.replicate (4 - (lg_sl ([.ref this, .int pl])).length) Slot.unset).toArray = ls at hl ⊢
  have hl : lv_has ls 4 [(0, .ref this), (1, .int pl)] := hl
  refine lv_iconst (v := 0) hx hb dX12_manyAt_0 (by decide) ?_
  refine lv_istore_n (lv' := [(2, .int 0), (0, .ref this), (1, .int pl)]) hx hb dX12_manyAt_1 rfl hl (by decide) rfl (fun ls hl => ?_)
  refine lv_iconst (v := 0) hx hb dX12_manyAt_2 (by decide) ?_
  refine lv_istore_n (lv' := [(3, .int 0), (2, .int 0), (0, .ref this), (1, .int pl)]) hx hb dX12_manyAt_3 rfl hl (by decide) rfl (fun ls hl => ?_)
  refine lv_iload_n hx hb dX12_manyAt_4 rfl (lv_at hl 0 rfl) ?_
  refine lv_aload_n hx hb dX12_manyAt_5 rfl (lv_at hl 2 rfl) ?_
  refine pg_f (v := .ref this_a) (C := RX12) (T := TX12) (N := 31) hx hb hts (tw_i inlX12) hown hK hP hL_this hK_this (by decide) rfl 0 (by decide) (hts _ (tw_c tw_176)) (pq_hv rfl hR_this_a) dX12_manyAt_6 ?_
  refine lv_iconst (v := 5) hx hb dX12_manyAt_9 (by decide) ?_
  refine pl_i hx hb hK hP hL_this_a hK_this_a hN_this_a (vp_in_iff.mpr (by decide)) dX12_manyAt_10 ?_
  refine lv_tov 0 (fm_at hF 5 (v := 0) (by decide)) ?_
  refine lv_icmp_ge (tgt := 38) hx hb dX12_manyAt_11 (by decide) (fun c_1 => ?_) (fun c_1 => absurd c_1 (by decide))
  refine lv_iload_n hx hb dX12_manyAt_38 rfl (lv_at hl 1 rfl) ?_
  exact W.iret (v := 0) hx hb hr (fun t1 ht hW => ⟨⟨0, (σ, I, J, ri, rj, rq), rfl, ⟨rfl, rfl⟩, by rw [ht]; exact hP, va_K.moved hW.alike hK, hD⟩, hS.F ht⟩) hS.2.2 dX12_manyAt_39

set_option maxHeartbeats 4000000 in
set_option maxRecDepth 100000 in
theorem c_X12_reefGoes (l : Launch) (D : va_G) (t : pq_T) (σ : pq_S) (I : Nat → Nat → Int32) (J : Nat → Nat → Int64) (ri : Nat → Nat → Int32) (rj : Nat → Nat → Int64) (rq : Nat → Nat → Option Nat) (sz : Nat) (this : Nat) (mo : Int32) (hL_this : this ∈ σ.1) (hK_this : σ.2.1 this = 12) (this_a : Nat) (hR_this_a : σ.2.2.1 384 this = some this_a) (hL_this_a : this_a ∈ σ.1) (hK_this_a : σ.2.1 this_a = 13) (hN_this_a : σ.2.2.2 this_a = 12720) (k : Nat) (hk : k < 600) (hF : fm (ri this_a) k) : MetV l yX12_reefGoes (wa yX12_reefGoes cX12_reefGoes 4 none) ({ frames := 0, cells := 0, slots := 0, locals := 0 }) [.ref this, .int mo] D t σ (I, J, ri, rj, rq) sz 0 0 (fun (u : pq_S × pq_M) => u = (σ, I, J, ri, rj, rq)) := by
  refine Met.ofW (cc := cX12_reefGoes) (maxL := 4) (ret := none) (by decide) rfl ?_
  intro p e s m args below meth c s₁ B hml hv
  obtain ⟨rfl, hsz, hP, hK, hD0, hN⟩ := hv
  have hx := B.exec
  have hb := B.bytes
  have hr := B.returns
  have hts := atoms_spec (ws := (wa yX12_reefGoes cX12_reefGoes 4 none)) B.pre
  have hown : s.vm.findClass RX12 = some m.cls := findClass_of_methodNamed B.named
  have hlocks := B.notSynchronized
  subst hsz
  have hD : va_D (pq_B t σ (I, J, ri, rj, rq) s.heap.size) (pq_P t σ (I, J, ri, rj, rq)) := hD0.self
  generalize hAe : pq_B t σ (I, J, ri, rj, rq) s.heap.size = A at hD ⊢
  have hA : ∀ q : Nat, s.heap.size ≤ q → A q := fun q h => by rw [← hAe]; exact Or.inr h
  have hS : va_S A s.heap s.heap [] := va_S.rf
  have hl := lv_entry ([.ref this, .int mo]) (n := 4) (Nat.le_of_ble_eq_true rfl)
  rw [lg_entry_eq]
  generalize (lg_sl ([.ref this, .int mo]) ++ List.replicate (4 - (lg_sl ([.ref this, .int mo])).length) Slot.unset).toArray = ls at hl ⊢
  have hl : lv_has ls 4 [(0, .ref this), (1, .int mo)] := hl
  refine lv_iconst (v := 0) hx hb dX12_reefGoes_0 (by decide) ?_
  refine lv_istore_n (lv' := [(2, .int 0), (0, .ref this), (1, .int mo)]) hx hb dX12_reefGoes_1 rfl hl (by decide) rfl (fun ls hl => ?_)
  refine lv_iload_n hx hb dX12_reefGoes_2 rfl (lv_at hl 0 rfl) ?_
  refine lv_aload_n hx hb dX12_reefGoes_3 rfl (lv_at hl 1 rfl) ?_
  refine pg_f (v := .ref this_a) (C := RX12) (T := TX12) (N := 31) hx hb hts (tw_i inlX12) hown hK hP hL_this hK_this (by decide) rfl 0 (by decide) (hts _ (tw_c tw_176)) (pq_hv rfl hR_this_a) dX12_reefGoes_4 ?_
  refine lv_iconst (v := 2) hx hb dX12_reefGoes_7 (by decide) ?_
  refine pl_i hx hb hK hP hL_this_a hK_this_a hN_this_a (vp_in_iff.mpr (by decide)) dX12_reefGoes_8 ?_
  refine lv_tov 0 (fm_at hF 2 (v := 0) (by decide)) ?_
  refine lv_icmp_ge (tgt := 108) hx hb dX12_reefGoes_9 (by decide) (fun c_1 => ?_) (fun c_1 => absurd c_1 (by decide))
  exact W.vret hx hb hr (fun t1 ht hW => ⟨⟨(σ, I, J, ri, rj, rq), rfl, rfl, by rw [ht]; exact hP, va_K.moved hW.alike hK, hD⟩, hS.F ht⟩) hS.2.2 dX12_reefGoes_108

set_option maxHeartbeats 4000000 in
set_option maxRecDepth 100000 in
theorem c_X12_sandGoes (l : Launch) (D : va_G) (t : pq_T) (σ : pq_S) (I : Nat → Nat → Int32) (J : Nat → Nat → Int64) (ri : Nat → Nat → Int32) (rj : Nat → Nat → Int64) (rq : Nat → Nat → Option Nat) (sz : Nat) (this : Nat) (mo : Int32) (hL_this : this ∈ σ.1) (hK_this : σ.2.1 this = 12) (this_a : Nat) (hR_this_a : σ.2.2.1 384 this = some this_a) (hL_this_a : this_a ∈ σ.1) (hK_this_a : σ.2.1 this_a = 13) (hN_this_a : σ.2.2.2 this_a = 12720) (k : Nat) (hk : k < 600) (hF : fm (ri this_a) k) : MetV l yX12_sandGoes (wa yX12_sandGoes cX12_sandGoes 4 none) ({ frames := 0, cells := 0, slots := 0, locals := 0 }) [.ref this, .int mo] D t σ (I, J, ri, rj, rq) sz 0 0 (fun (u : pq_S × pq_M) => u = (σ, I, J, ri, rj, rq)) := by
  refine Met.ofW (cc := cX12_sandGoes) (maxL := 4) (ret := none) (by decide) rfl ?_
  intro p e s m args below meth c s₁ B hml hv
  obtain ⟨rfl, hsz, hP, hK, hD0, hN⟩ := hv
  have hx := B.exec
  have hb := B.bytes
  have hr := B.returns
  have hts := atoms_spec (ws := (wa yX12_sandGoes cX12_sandGoes 4 none)) B.pre
  have hown : s.vm.findClass RX12 = some m.cls := findClass_of_methodNamed B.named
  have hlocks := B.notSynchronized
  subst hsz
  have hD : va_D (pq_B t σ (I, J, ri, rj, rq) s.heap.size) (pq_P t σ (I, J, ri, rj, rq)) := hD0.self
  generalize hAe : pq_B t σ (I, J, ri, rj, rq) s.heap.size = A at hD ⊢
  have hA : ∀ q : Nat, s.heap.size ≤ q → A q := fun q h => by rw [← hAe]; exact Or.inr h
  have hS : va_S A s.heap s.heap [] := va_S.rf
  have hl := lv_entry ([.ref this, .int mo]) (n := 4) (Nat.le_of_ble_eq_true rfl)
  rw [lg_entry_eq]
  generalize (lg_sl ([.ref this, .int mo]) ++ List.replicate (4 - (lg_sl ([.ref this, .int mo])).length) Slot.unset).toArray = ls at hl ⊢
  have hl : lv_has ls 4 [(0, .ref this), (1, .int mo)] := hl
  refine lv_iconst (v := 0) hx hb dX12_sandGoes_0 (by decide) ?_
  refine lv_istore_n (lv' := [(2, .int 0), (0, .ref this), (1, .int mo)]) hx hb dX12_sandGoes_1 rfl hl (by decide) rfl (fun ls hl => ?_)
  refine lv_iload_n hx hb dX12_sandGoes_2 rfl (lv_at hl 0 rfl) ?_
  refine lv_aload_n hx hb dX12_sandGoes_3 rfl (lv_at hl 1 rfl) ?_
  refine pg_f (v := .ref this_a) (C := RX12) (T := TX12) (N := 31) hx hb hts (tw_i inlX12) hown hK hP hL_this hK_this (by decide) rfl 0 (by decide) (hts _ (tw_c tw_176)) (pq_hv rfl hR_this_a) dX12_sandGoes_4 ?_
  refine lv_iconst (v := 2) hx hb dX12_sandGoes_7 (by decide) ?_
  refine pl_i hx hb hK hP hL_this_a hK_this_a hN_this_a (vp_in_iff.mpr (by decide)) dX12_sandGoes_8 ?_
  refine lv_tov 0 (fm_at hF 2 (v := 0) (by decide)) ?_
  refine lv_icmp_ge (tgt := 65) hx hb dX12_sandGoes_9 (by decide) (fun c_1 => ?_) (fun c_1 => absurd c_1 (by decide))
  refine lv_iconst (v := 0) hx hb dX12_sandGoes_65 (by decide) ?_
  refine lv_istore_n (lv' := [(2, .int 0), (0, .ref this), (1, .int mo)]) hx hb dX12_sandGoes_66 rfl hl (by decide) rfl (fun ls hl => ?_)
  refine lv_iload_n hx hb dX12_sandGoes_67 rfl (lv_at hl 0 rfl) ?_
  refine lv_aload_n hx hb dX12_sandGoes_68 rfl (lv_at hl 1 rfl) ?_
  refine pg_f (v := .ref this_a) (C := RX12) (T := TX12) (N := 31) hx hb hts (tw_i inlX12) hown hK hP hL_this hK_this (by decide) rfl 0 (by decide) (hts _ (tw_c tw_176)) (pq_hv rfl hR_this_a) dX12_sandGoes_69 ?_
  refine lv_iconst (v := 2) hx hb dX12_sandGoes_72 (by decide) ?_
  refine pl_i hx hb hK hP hL_this_a hK_this_a hN_this_a (vp_in_iff.mpr (by decide)) dX12_sandGoes_73 ?_
  refine lv_tov 0 (fm_at hF 2 (v := 0) (by decide)) ?_
  refine lv_icmp_ge (tgt := 193) hx hb dX12_sandGoes_74 (by decide) (fun c_2 => ?_) (fun c_2 => absurd c_2 (by decide))
  exact W.vret hx hb hr (fun t1 ht hW => ⟨⟨(σ, I, J, ri, rj, rq), rfl, rfl, by rw [ht]; exact hP, va_K.moved hW.alike hK, hD⟩, hS.F ht⟩) hS.2.2 dX12_sandGoes_193

set_option maxHeartbeats 4000000 in
set_option maxRecDepth 100000 in
theorem c_X12_seaStands (l : Launch) (D : va_G) (t : pq_T) (σ : pq_S) (I : Nat → Nat → Int32) (J : Nat → Nat → Int64) (ri : Nat → Nat → Int32) (rj : Nat → Nat → Int64) (rq : Nat → Nat → Option Nat) (sz : Nat) (this : Nat) (km : Nat) (lev : Int32) (hL_this : this ∈ σ.1) (hK_this : σ.2.1 this = 12) (this_a : Nat) (hR_this_a : σ.2.2.1 384 this = some this_a) (hL_this_a : this_a ∈ σ.1) (hK_this_a : σ.2.1 this_a = 13) (hN_this_a : σ.2.2.2 this_a = 12720) (k : Nat) (hk : k < 600) (hF : fm (ri this_a) k) (hkm : km < 600) : MetV l yX12_seaStands (wa yX12_seaStands cX12_seaStands 9 none) ({ frames := 0, cells := 0, slots := 0, locals := 0 }) [.ref this, .int (nI km), .int lev] D t σ (I, J, ri, rj, rq) sz 0 0 (fun (u : pq_S × pq_M) => ∃ ri' : Nat → Nat → Int32, u = (σ, I, J, ri', rj, rq) ∧ (fm (ri' this_a) k ∧ ∀ b, b ≠ this_a → ri' b = ri b)) := by
  refine Met.ofW (cc := cX12_seaStands) (maxL := 9) (ret := none) (by decide) rfl ?_
  intro p e s m args below meth c s₁ B hml hv
  obtain ⟨rfl, hsz, hP, hK, hD0, hN⟩ := hv
  have hx := B.exec
  have hb := B.bytes
  have hr := B.returns
  have hts := atoms_spec (ws := (wa yX12_seaStands cX12_seaStands 9 none)) B.pre
  have hown : s.vm.findClass RX12 = some m.cls := findClass_of_methodNamed B.named
  have hlocks := B.notSynchronized
  subst hsz
  have hD : va_D (pq_B t σ (I, J, ri, rj, rq) s.heap.size) (pq_P t σ (I, J, ri, rj, rq)) := hD0.self
  generalize hAe : pq_B t σ (I, J, ri, rj, rq) s.heap.size = A at hD ⊢
  have hA : ∀ q : Nat, s.heap.size ≤ q → A q := fun q h => by rw [← hAe]; exact Or.inr h
  have hS : va_S A s.heap s.heap [] := va_S.rf
  have hl := lv_entry ([.ref this, .int (nI km), .int lev]) (n := 9) (Nat.le_of_ble_eq_true rfl)
  rw [lg_entry_eq]
  generalize (lg_sl ([.ref this, .int (nI km), .int lev]) ++ List.replicate (9 - (lg_sl ([.ref this, .int (nI km), .int lev])).length) Slot.unset).toArray = ls at hl ⊢
  have hl : lv_has ls 9 [(0, .ref this), (1, .int (nI km)), (2, .int lev)] := hl
  refine lv_iconst (v := 0) hx hb dX12_seaStands_0 (by decide) ?_
  refine lv_istore_n (lv' := [(3, .int 0), (0, .ref this), (1, .int (nI km)), (2, .int lev)]) hx hb dX12_seaStands_1 rfl hl (by decide) rfl (fun ls hl => ?_)
  refine lv_iconst (v := 0) hx hb dX12_seaStands_2 (by decide) ?_
  refine lv_istore (lv' := [(4, .int 0), (3, .int 0), (0, .ref this), (1, .int (nI km)), (2, .int lev)]) hx hb dX12_seaStands_3 hl (by decide) rfl (fun ls hl => ?_)
  refine lv_iconst (v := 0) hx hb dX12_seaStands_5 (by decide) ?_
  refine lv_istore (lv' := [(5, .int 0), (4, .int 0), (3, .int 0), (0, .ref this), (1, .int (nI km)), (2, .int lev)]) hx hb dX12_seaStands_6 hl (by decide) rfl (fun ls hl => ?_)
  refine lv_iload hx hb dX12_seaStands_8 (lv_at hl 0 rfl) ?_
  refine lv_aload_n hx hb dX12_seaStands_10 rfl (lv_at hl 3 rfl) ?_
  refine pg_f (v := .ref this_a) (C := RX12) (T := TX12) (N := 31) hx hb hts (tw_i inlX12) hown hK hP hL_this hK_this (by decide) rfl 0 (by decide) (hts _ (tw_c tw_176)) (pq_hv rfl hR_this_a) dX12_seaStands_11 ?_
  refine lv_iconst (v := 2) hx hb dX12_seaStands_14 (by decide) ?_
  refine pl_i hx hb hK hP hL_this_a hK_this_a hN_this_a (vp_in_iff.mpr (by decide)) dX12_seaStands_15 ?_
  refine lv_tov 0 (fm_at hF 2 (v := 0) (by decide)) ?_
  refine lv_icmp_ge (tgt := 366) hx hb dX12_seaStands_16 (by decide) (fun c_1 => ?_) (fun c_1 => absurd c_1 (by decide))
  refine lv_aload_n hx hb dX12_seaStands_366 rfl (lv_at hl 3 rfl) ?_
  refine pg_f (v := .ref this_a) (C := RX12) (T := TX12) (N := 31) hx hb hts (tw_i inlX12) hown hK hP hL_this hK_this (by decide) rfl 0 (by decide) (hts _ (tw_c tw_176)) (pq_hv rfl hR_this_a) dX12_seaStands_367 ?_
  refine lv_sipush (v := 2520) hx hb dX12_seaStands_370 (by decide) ?_
  refine lv_iconst (v := 2) hx hb dX12_seaStands_373 (by decide) ?_
  refine lv_iload_n hx hb dX12_seaStands_374 rfl (lv_at hl 4 rfl) ?_
  refine lv_imul hx hb dX12_seaStands_375 ?_
  refine lv_tov (nI (2 * km)) (pk_mul 2 km) ?_
  refine lv_iadd hx hb dX12_seaStands_376 ?_
  refine lv_tov (nI (2520 + (2 * km))) (nI_add 2520 (2 * km)) ?_
  refine lv_iload_n hx hb dX12_seaStands_377 rfl (lv_at hl 2 rfl) ?_
  refine pt_i hx hb hK hP hD hS hL_this_a hK_this_a hN_this_a (nI_in (c := (2520 + (2 * km))) (by omega) (by omega)) dX12_seaStands_378 (fun r_2 H locs er_2 hP hD hS => ?_)
  refine lv_aload_n hx hb dX12_seaStands_379 rfl (lv_at hl 3 rfl) ?_
  refine pg_f (v := .ref this_a) (C := RX12) (T := TX12) (N := 31) hx hb hts (tw_i inlX12) hown hK hP hL_this hK_this (by decide) rfl 0 (by decide) (hts _ (tw_c tw_176)) (pq_hv rfl hR_this_a) dX12_seaStands_380 ?_
  refine lv_sipush (v := 2520) hx hb dX12_seaStands_383 (by decide) ?_
  refine lv_iconst (v := 2) hx hb dX12_seaStands_386 (by decide) ?_
  refine lv_iload_n hx hb dX12_seaStands_387 rfl (lv_at hl 4 rfl) ?_
  refine lv_imul hx hb dX12_seaStands_388 ?_
  refine lv_tov (nI (2 * km)) (pk_mul 2 km) ?_
  refine lv_iadd hx hb dX12_seaStands_389 ?_
  refine lv_tov (nI (2520 + (2 * km))) (nI_add 2520 (2 * km)) ?_
  refine lv_iconst (v := 1) hx hb dX12_seaStands_390 (by decide) ?_
  refine lv_iadd hx hb dX12_seaStands_391 ?_
  refine lv_tov (nI ((2520 + (2 * km)) + 1)) (nI_add (2520 + (2 * km)) 1) ?_
  refine lv_iload hx hb dX12_seaStands_392 (lv_at hl 1 rfl) ?_
  refine pt_i hx hb hK hP hD hS hL_this_a hK_this_a hN_this_a (nI_in (c := ((2520 + (2 * km)) + 1)) (by omega) (by omega)) dX12_seaStands_394 (fun r_3 H locs er_3 hP hD hS => ?_)
  exact W.vret hx hb hr (fun t1 ht hW => ⟨⟨(σ, I, J, r_3, rj, rq), rfl, ⟨r_3, rfl, ⟨(fm_hi (fm_hi hF er_2 (Or.inr (by rw [nI_clamp (n := (2520 + (2 * km))) (by omega)]; omega))) er_3 (Or.inr (by rw [nI_clamp (n := ((2520 + (2 * km)) + 1)) (by omega)]; omega))), (fun b hb => by rw [er_3, va_up_ne _ _ hb, er_2, va_up_ne _ _ hb])⟩⟩, by rw [ht]; exact hP, va_K.moved hW.alike hK, hD⟩, hS.F ht⟩) hS.2.2 dX12_seaStands_395

set_option maxHeartbeats 4000000 in
set_option maxRecDepth 100000 in
theorem c_X12_drink (l : Launch) (D : va_G) (t : pq_T) (σ : pq_S) (I : Nat → Nat → Int32) (J : Nat → Nat → Int64) (ri : Nat → Nat → Int32) (rj : Nat → Nat → Int64) (rq : Nat → Nat → Option Nat) (sz : Nat) (this : Nat) (hL_this : this ∈ σ.1) (hK_this : σ.2.1 this = 12) (this_a : Nat) (hR_this_a : σ.2.2.1 384 this = some this_a) (hL_this_a : this_a ∈ σ.1) (hK_this_a : σ.2.1 this_a = 13) (hN_this_a : σ.2.2.2 this_a = 12720) (k : Nat) (hk : k < 600) (hF : fm (ri this_a) k) : MetV l yX12_drink (wa yX12_drink cX12_drink 3 none) ({ frames := 0, cells := 0, slots := 0, locals := 0 }) [.ref this] D t σ (I, J, ri, rj, rq) sz 0 0 (fun (u : pq_S × pq_M) => u = (σ, I, J, ri, rj, rq)) := by
  refine Met.ofW (cc := cX12_drink) (maxL := 3) (ret := none) (by decide) rfl ?_
  intro p e s m args below meth c s₁ B hml hv
  obtain ⟨rfl, hsz, hP, hK, hD0, hN⟩ := hv
  have hx := B.exec
  have hb := B.bytes
  have hr := B.returns
  have hts := atoms_spec (ws := (wa yX12_drink cX12_drink 3 none)) B.pre
  have hown : s.vm.findClass RX12 = some m.cls := findClass_of_methodNamed B.named
  have hlocks := B.notSynchronized
  subst hsz
  have hD : va_D (pq_B t σ (I, J, ri, rj, rq) s.heap.size) (pq_P t σ (I, J, ri, rj, rq)) := hD0.self
  generalize hAe : pq_B t σ (I, J, ri, rj, rq) s.heap.size = A at hD ⊢
  have hA : ∀ q : Nat, s.heap.size ≤ q → A q := fun q h => by rw [← hAe]; exact Or.inr h
  have hS : va_S A s.heap s.heap [] := va_S.rf
  have hl := lv_entry ([.ref this]) (n := 3) (Nat.le_of_ble_eq_true rfl)
  rw [lg_entry_eq]
  generalize (lg_sl ([.ref this]) ++ List.replicate (3 - (lg_sl ([.ref this])).length) Slot.unset).toArray = ls at hl ⊢
  have hl : lv_has ls 3 [(0, .ref this)] := hl
  refine lv_iconst (v := 0) hx hb dX12_drink_0 (by decide) ?_
  refine lv_istore_n (lv' := [(1, .int 0), (0, .ref this)]) hx hb dX12_drink_1 rfl hl (by decide) rfl (fun ls hl => ?_)
  refine lv_iload_n hx hb dX12_drink_2 rfl (lv_at hl 0 rfl) ?_
  refine lv_aload_n hx hb dX12_drink_3 rfl (lv_at hl 1 rfl) ?_
  refine pg_f (v := .ref this_a) (C := RX12) (T := TX12) (N := 31) hx hb hts (tw_i inlX12) hown hK hP hL_this hK_this (by decide) rfl 0 (by decide) (hts _ (tw_c tw_176)) (pq_hv rfl hR_this_a) dX12_drink_4 ?_
  refine lv_iconst (v := 5) hx hb dX12_drink_7 (by decide) ?_
  refine pl_i hx hb hK hP hL_this_a hK_this_a hN_this_a (vp_in_iff.mpr (by decide)) dX12_drink_8 ?_
  refine lv_tov 0 (fm_at hF 5 (v := 0) (by decide)) ?_
  refine lv_icmp_ge (tgt := 113) hx hb dX12_drink_9 (by decide) (fun c_1 => ?_) (fun c_1 => absurd c_1 (by decide))
  exact W.vret hx hb hr (fun t1 ht hW => ⟨⟨(σ, I, J, ri, rj, rq), rfl, rfl, by rw [ht]; exact hP, va_K.moved hW.alike hK, hD⟩, hS.F ht⟩) hS.2.2 dX12_drink_113

set_option maxHeartbeats 4000000 in
set_option maxRecDepth 100000 in
theorem c_X12_sleep (l : Launch) (D : va_G) (t : pq_T) (σ : pq_S) (I : Nat → Nat → Int32) (J : Nat → Nat → Int64) (ri : Nat → Nat → Int32) (rj : Nat → Nat → Int64) (rq : Nat → Nat → Option Nat) (sz : Nat) (this : Nat) (hL_this : this ∈ σ.1) (hK_this : σ.2.1 this = 12) (this_a : Nat) (hR_this_a : σ.2.2.1 384 this = some this_a) (hL_this_a : this_a ∈ σ.1) (hK_this_a : σ.2.1 this_a = 13) (hN_this_a : σ.2.2.2 this_a = 12720) (k : Nat) (hk : k < 600) (hF : fm (ri this_a) k) : MetV l yX12_sleep (wa yX12_sleep cX12_sleep 4 none) ({ frames := 0, cells := 0, slots := 0, locals := 0 }) [.ref this] D t σ (I, J, ri, rj, rq) sz 0 0 (fun (u : pq_S × pq_M) => u = (σ, I, J, ri, rj, rq)) := by
  refine Met.ofW (cc := cX12_sleep) (maxL := 4) (ret := none) (by decide) rfl ?_
  intro p e s m args below meth c s₁ B hml hv
  obtain ⟨rfl, hsz, hP, hK, hD0, hN⟩ := hv
  have hx := B.exec
  have hb := B.bytes
  have hr := B.returns
  have hts := atoms_spec (ws := (wa yX12_sleep cX12_sleep 4 none)) B.pre
  have hown : s.vm.findClass RX12 = some m.cls := findClass_of_methodNamed B.named
  have hlocks := B.notSynchronized
  subst hsz
  have hD : va_D (pq_B t σ (I, J, ri, rj, rq) s.heap.size) (pq_P t σ (I, J, ri, rj, rq)) := hD0.self
  generalize hAe : pq_B t σ (I, J, ri, rj, rq) s.heap.size = A at hD ⊢
  have hA : ∀ q : Nat, s.heap.size ≤ q → A q := fun q h => by rw [← hAe]; exact Or.inr h
  have hS : va_S A s.heap s.heap [] := va_S.rf
  have hl := lv_entry ([.ref this]) (n := 4) (Nat.le_of_ble_eq_true rfl)
  rw [lg_entry_eq]
  generalize (lg_sl ([.ref this]) ++ List.replicate (4 - (lg_sl ([.ref this])).length) Slot.unset).toArray = ls at hl ⊢
  have hl : lv_has ls 4 [(0, .ref this)] := hl
  refine lv_iconst (v := 0) hx hb dX12_sleep_0 (by decide) ?_
  refine lv_istore_n (lv' := [(1, .int 0), (0, .ref this)]) hx hb dX12_sleep_1 rfl hl (by decide) rfl (fun ls hl => ?_)
  refine lv_iload_n hx hb dX12_sleep_2 rfl (lv_at hl 0 rfl) ?_
  refine lv_aload_n hx hb dX12_sleep_3 rfl (lv_at hl 1 rfl) ?_
  refine pg_f (v := .ref this_a) (C := RX12) (T := TX12) (N := 31) hx hb hts (tw_i inlX12) hown hK hP hL_this hK_this (by decide) rfl 0 (by decide) (hts _ (tw_c tw_176)) (pq_hv rfl hR_this_a) dX12_sleep_4 ?_
  refine lv_iconst (v := 1) hx hb dX12_sleep_7 (by decide) ?_
  refine pl_i hx hb hK hP hL_this_a hK_this_a hN_this_a (vp_in_iff.mpr (by decide)) dX12_sleep_8 ?_
  refine lv_tov 0 (fm_at hF 1 (v := 0) (by decide)) ?_
  refine lv_icmp_ge (tgt := 123) hx hb dX12_sleep_9 (by decide) (fun c_1 => ?_) (fun c_1 => absurd c_1 (by decide))
  exact W.vret hx hb hr (fun t1 ht hW => ⟨⟨(σ, I, J, ri, rj, rq), rfl, rfl, by rw [ht]; exact hP, va_K.moved hW.alike hK, hD⟩, hS.F ht⟩) hS.2.2 dX12_sleep_123

set_option maxHeartbeats 4000000 in
set_option maxRecDepth 100000 in
theorem lp_X12_areaOf_30 (l : Launch) (D : va_G) (t : pq_T) (σ : pq_S) (I : Nat → Nat → Int32) (J : Nat → Nat → Int64) (ri : Nat → Nat → Int32) (rj : Nat → Nat → Int64) (rq : Nat → Nat → Option Nat) (this : Nat) (mo : Int32) (hL_this : this ∈ σ.1) (hK_this : σ.2.1 this = 12) (this_a : Nat) (hR_this_a : σ.2.2.1 384 this = some this_a) (hL_this_a : this_a ∈ σ.1) (hK_this_a : σ.2.1 this_a = 13) (hN_this_a : σ.2.2.2 this_a = 12720) (k : Nat) (hk : k < 600) (hF : fm (ri this_a) k) {p : Program} {e : Env} {s : State} {m : MethodId} {args : Array Value} {below : List Frame} {meth : Method} {c : Code} {cells slots : Nat} {Q : State → Prop} {A : Nat → Prop} (hx : p.tables.exec = Jvm.exec) (hb : c.code = cX12_areaOf) (hml : c.maxLocals = 10) (hts : ∀ w ∈ (wa yX12_areaOf cX12_areaOf 10 (some .int)), w.before args s = true) (hown : s.vm.findClass RX12 = some m.cls) (hK : va_K D vwCl (pq_ty t) s) (hN : pq_N s) (hA : ∀ q : Nat, s.heap.size ≤ q → A q) (hcs : cells = 0 ∧ slots = 0)
    (kk : ∀ (q : Nat) (H : Heap) (locs : List Loc) (ls : Array Slot), (q ≤ 1024) → va_P D vwCl (pq_P t σ (I, J, ri, rj, rq)) H → va_D A (pq_P t σ (I, J, ri, rj, rq)) → va_S A s.heap H locs → lv_has ls 10 [(5, .int (nI q)), (4, .int 0), (3, .int mo), (2, .int (-1)), (0, .ref this), (1, .int mo)] → W p l e ({ frames := 2, cells := 0, slots := 0, locals := 48 } : Room) s m args below meth c H locs cells slots Q (F0 m 163 ls [])) :
    ∀ (n : Nat) (q : Nat) (H : Heap) (locs : List Loc) (ls : Array Slot), (q ≤ 1024) → (1024 - q) < n → va_P D vwCl (pq_P t σ (I, J, ri, rj, rq)) H → va_D A (pq_P t σ (I, J, ri, rj, rq)) → va_S A s.heap H locs → lv_has ls 10 [(5, .int (nI q)), (4, .int 0), (3, .int mo), (2, .int (-1)), (0, .ref this), (1, .int mo)] → W p l e ({ frames := 2, cells := 0, slots := 0, locals := 48 } : Room) s m args below meth c H locs cells slots Q (F0 m 30 ls []) := by
  obtain ⟨rfl, rfl⟩ := hcs
  intro n
  induction n with
  | zero => intro q H locs ls hi hm; exact absurd hm (Nat.not_lt_zero _)
  | succ n ih =>
    intro q H locs ls hi hm hP hD hS hl
    refine lv_iload hx hb dX12_areaOf_30 (lv_at hl 0 rfl) ?_
    refine lv_sipush (v := 1024) hx hb dX12_areaOf_32 (by decide) ?_
    refine lv_icmp_ge (tgt := 163) hx hb dX12_areaOf_35 (by decide) (fun c_1 => ?_) (fun c_1 => ?_)
    · have nc_1 := nq_le (a := 1024) (b := q) (by omega) (by omega) c_1
      exact kk q _ _ _ hi hP hD hS (lv_sub hl [0, 1, 2, 3, 4, 5] rfl)
    · have nc_1 := nq_nle (a := 1024) (b := q) (by omega) (by omega) c_1
      refine lv_iconst (v := 0) hx hb dX12_areaOf_38 (by decide) ?_
      refine lv_istore (lv' := [(6, .int 0), (5, .int (nI q)), (4, .int 0), (3, .int mo), (2, .int (-1)), (0, .ref this), (1, .int mo)]) hx hb dX12_areaOf_39 hl (by decide) rfl (fun ls hl => ?_)
      refine lv_iconst (v := 0) hx hb dX12_areaOf_41 (by decide) ?_
      refine lv_istore (lv' := [(7, .int 0), (6, .int 0), (5, .int (nI q)), (4, .int 0), (3, .int mo), (2, .int (-1)), (0, .ref this), (1, .int mo)]) hx hb dX12_areaOf_42 hl (by decide) rfl (fun ls hl => ?_)
      refine lv_iload hx hb dX12_areaOf_44 (lv_at hl 0 rfl) ?_
      refine lv_aload_n hx hb dX12_areaOf_46 rfl (lv_at hl 6 rfl) ?_
      refine pg_f (v := .ref this_a) (C := RX12) (T := TX12) (N := 31) hx hb hts (tw_i inlX12) hown hK hP hL_this hK_this (by decide) rfl 0 (by decide) (hts _ (tw_c tw_176)) (pq_hv rfl hR_this_a) dX12_areaOf_47 ?_
      refine lv_iconst (v := 2) hx hb dX12_areaOf_50 (by decide) ?_
      refine pl_i hx hb hK hP hL_this_a hK_this_a hN_this_a (vp_in_iff.mpr (by decide)) dX12_areaOf_51 ?_
      refine lv_tov 0 (fm_at hF 2 (v := 0) (by decide)) ?_
      refine lv_icmp_ge (tgt := 142) hx hb dX12_areaOf_52 (by decide) (fun c_2 => ?_) (fun c_2 => absurd c_2 (by decide))
      refine lv_iload hx hb dX12_areaOf_142 (lv_at hl 3 rfl) ?_
      refine lv_iload hx hb dX12_areaOf_144 (lv_at hl 1 rfl) ?_
      refine lv_if_eq (tgt := 153) hx hb dX12_areaOf_146 (by decide) (fun c_3 => ?_) (fun c_3 => absurd c_3 (by decide))
      refine lv_iconst (v := 0) hx hb dX12_areaOf_153 (by decide) ?_
      refine lv_iadd hx hb dX12_areaOf_154 ?_
      refine lv_tov 0 (by decide) ?_
      refine lv_istore (lv' := [(4, .int 0), (7, .int 0), (6, .int 0), (5, .int (nI q)), (3, .int mo), (2, .int (-1)), (0, .ref this), (1, .int mo)]) hx hb dX12_areaOf_155 hl (by decide) rfl (fun ls hl => ?_)
      refine lv_iinc (v := (nI (q + 1))) (lv' := [(5, .int (nI (q + 1))), (4, .int 0), (7, .int 0), (6, .int 0), (3, .int mo), (2, .int (-1)), (0, .ref this), (1, .int mo)]) hx hb dX12_areaOf_157 hl (k := 3) rfl (nI_1 q) (by decide) rfl (fun ls hl => ?_)
      refine lv_goto (tgt := 30) hx hb dX12_areaOf_160 (by decide) ?_
      exact ih (q + 1) _ _ _ (by omega) (by omega) hP hD hS (lv_sub hl [0, 1, 4, 5, 6, 7] rfl)

set_option maxHeartbeats 4000000 in
set_option maxRecDepth 100000 in
theorem c_X12_areaOf (l : Launch) (D : va_G) (t : pq_T) (σ : pq_S) (I : Nat → Nat → Int32) (J : Nat → Nat → Int64) (ri : Nat → Nat → Int32) (rj : Nat → Nat → Int64) (rq : Nat → Nat → Option Nat) (sz : Nat) (this : Nat) (mo : Int32) (hL_this : this ∈ σ.1) (hK_this : σ.2.1 this = 12) (this_a : Nat) (hR_this_a : σ.2.2.1 384 this = some this_a) (hL_this_a : this_a ∈ σ.1) (hK_this_a : σ.2.1 this_a = 13) (hN_this_a : σ.2.2.2 this_a = 12720) (k : Nat) (hk : k < 600) (hF : fm (ri this_a) k) : MetI l yX12_areaOf (wa yX12_areaOf cX12_areaOf 10 (some .int)) ({ frames := 2, cells := 0, slots := 0, locals := 48 }) [.ref this, .int mo] D t σ (I, J, ri, rj, rq) sz 0 0 (fun (r : Int32) (u : pq_S × pq_M) => u = (σ, I, J, ri, rj, rq) ∧ (r = 0)) := by
  refine Met.ofW (cc := cX12_areaOf) (maxL := 10) (ret := (some .int)) (by decide) rfl ?_
  intro p e s m args below meth c s₁ B hml hv
  obtain ⟨rfl, hsz, hP, hK, hD0, hN⟩ := hv
  have hx := B.exec
  have hb := B.bytes
  have hr := B.returns
  have hts := atoms_spec (ws := (wa yX12_areaOf cX12_areaOf 10 (some .int))) B.pre
  have hown : s.vm.findClass RX12 = some m.cls := findClass_of_methodNamed B.named
  have hlocks := B.notSynchronized
  subst hsz
  have hD : va_D (pq_B t σ (I, J, ri, rj, rq) s.heap.size) (pq_P t σ (I, J, ri, rj, rq)) := hD0.self
  generalize hAe : pq_B t σ (I, J, ri, rj, rq) s.heap.size = A at hD ⊢
  have hA : ∀ q : Nat, s.heap.size ≤ q → A q := fun q h => by rw [← hAe]; exact Or.inr h
  have hS : va_S A s.heap s.heap [] := va_S.rf
  have hl := lv_entry ([.ref this, .int mo]) (n := 10) (Nat.le_of_ble_eq_true rfl)
  rw [lg_entry_eq]
  generalize (lg_sl ([.ref this, .int mo]) ++ List.replicate (10 - (lg_sl ([.ref this, .int mo])).length) Slot.unset).toArray = ls at hl ⊢
  have hl : lv_has ls 10 [(0, .ref this), (1, .int mo)] := hl
  refine lv_aload_n hx hb dX12_areaOf_0 rfl (lv_at hl 0 rfl) ?_
  refine lv_bipush (v := 8) hx hb dX12_areaOf_1 (by decide) ?_
  refine lv_iload_n hx hb dX12_areaOf_3 rfl (lv_at hl 1 rfl) ?_
  refine lv_iconst (v := (-1)) hx hb dX12_areaOf_4 (by decide) ?_
  refine pk_i (va_runV (As := [.int 8, .int mo, .int (-1)]) (rest := []) ⟨hx, hb, hml, hown, hts⟩ (c_X12_numberOf l D t σ I J ri rj rq (Array.size s.heap) this (8 : Int32) mo (-1 : Int32) hL_this hK_this this_a hR_this_a hL_this_a hK_this_a hN_this_a k (by omega) hF) (cwV 3 hts (tw_V tw_1016 tw_1017 tw_1018 tw_5 tw_1019) rfl rfl rfl (by decide +kernel) ⟨Nat.le_of_ble_eq_true rfl, Nat.le_of_ble_eq_true rfl⟩) ⟨pq_blind, pq_recv hK hP hL_this hK_this (by decide) rfl, pq_pre hK hN hP hD⟩ rfl rfl hl.1 rfl (lv_room (Nat.le_of_ble_eq_true rfl)) dX12_areaOf_5 ⟨Nat.le_of_ble_eq_true rfl, Nat.le_of_ble_eq_true rfl⟩) hD hS hA (fun r_1 σ1 μ1 H locs hw_2 hP hD hS => ?_)
  obtain ⟨hu_3, hr_4⟩ := hw_2
  obtain ⟨hu_3a, hu_3b⟩ := Prod.mk.inj hu_3
  rw [hu_3a, hu_3b] at hP hD
  refine lv_tov (-1 : Int32) hr_4 ?_
  refine lv_istore_n (lv' := [(2, .int (-1)), (0, .ref this), (1, .int mo)]) hx hb dX12_areaOf_8 rfl hl (by decide) rfl (fun ls hl => ?_)
  refine lv_iload_n hx hb dX12_areaOf_9 rfl (lv_at hl 0 rfl) ?_
  refine lv_if_lt (tgt := 22) hx hb dX12_areaOf_10 (by decide) (fun c_5 => ?_) (fun c_5 => absurd c_5 (by decide))
  refine lv_iload_n hx hb dX12_areaOf_22 rfl (lv_at hl 2 rfl) ?_
  refine lv_istore_n (lv' := [(3, .int mo), (2, .int (-1)), (0, .ref this), (1, .int mo)]) hx hb dX12_areaOf_23 rfl hl (by decide) rfl (fun ls hl => ?_)
  refine lv_iconst (v := 0) hx hb dX12_areaOf_24 (by decide) ?_
  refine lv_istore (lv' := [(4, .int 0), (3, .int mo), (2, .int (-1)), (0, .ref this), (1, .int mo)]) hx hb dX12_areaOf_25 hl (by decide) rfl (fun ls hl => ?_)
  refine lv_iconst (v := 0) hx hb dX12_areaOf_27 (by decide) ?_
  refine lv_istore (lv' := [(5, .int 0), (4, .int 0), (3, .int mo), (2, .int (-1)), (0, .ref this), (1, .int mo)]) hx hb dX12_areaOf_28 hl (by decide) rfl (fun ls hl => ?_)
  refine lp_X12_areaOf_30 l D t σ I J ri rj rq this mo hL_this hK_this this_a hR_this_a hL_this_a hK_this_a hN_this_a k hk hF hx hb hml hts hown hK hN hA ⟨rfl, rfl⟩ (fun q_6 H locs ls hi_7 hP hD hS hl => ?_) _ 0 _ _ _ (by decide) (Nat.lt_succ_self _) hP hD hS (lv_sub hl [0, 1, 2, 3, 4, 5] rfl)
  refine lv_iload hx hb dX12_areaOf_163 (lv_at hl 1 rfl) ?_
  exact W.iret (v := 0) hx hb hr (fun t1 ht hW => ⟨⟨0, (σ, I, J, ri, rj, rq), rfl, ⟨rfl, rfl⟩, by rw [ht]; exact hP, va_K.moved hW.alike hK, hD⟩, hS.F ht⟩) hS.2.2 dX12_areaOf_165

set_option maxHeartbeats 4000000 in
set_option maxRecDepth 100000 in
theorem c_X12_fundGoes (l : Launch) (D : va_G) (t : pq_T) (σ : pq_S) (I : Nat → Nat → Int32) (J : Nat → Nat → Int64) (ri : Nat → Nat → Int32) (rj : Nat → Nat → Int64) (rq : Nat → Nat → Option Nat) (sz : Nat) (this : Nat) (mo : Int32) (hL_this : this ∈ σ.1) (hK_this : σ.2.1 this = 12) (this_a : Nat) (hR_this_a : σ.2.2.1 384 this = some this_a) (hL_this_a : this_a ∈ σ.1) (hK_this_a : σ.2.1 this_a = 13) (hN_this_a : σ.2.2.2 this_a = 12720) (k : Nat) (hk : k < 600) (hF : fm (ri this_a) k) : MetV l yX12_fundGoes (wa yX12_fundGoes cX12_fundGoes 3 none) ({ frames := 3, cells := 0, slots := 0, locals := 77 }) [.ref this, .int mo] D t σ (I, J, ri, rj, rq) sz 0 0 (fun (u : pq_S × pq_M) => ∃ I' : Nat → Nat → Int32, ∃ ri' : Nat → Nat → Int32, u = (σ, I', J, ri', rj, rq) ∧ (∀ f, f ∉ ([410] : List Nat) → I' f = I f) ∧ (fm (ri' this_a) k ∧ ∀ b, b ≠ this_a → ri' b = ri b) ∧ (I' 410 this = 0)) := by
  refine Met.ofW (cc := cX12_fundGoes) (maxL := 3) (ret := none) (by decide) rfl ?_
  intro p e s m args below meth c s₁ B hml hv
  obtain ⟨rfl, hsz, hP, hK, hD0, hN⟩ := hv
  have hx := B.exec
  have hb := B.bytes
  have hr := B.returns
  have hts := atoms_spec (ws := (wa yX12_fundGoes cX12_fundGoes 3 none)) B.pre
  have hown : s.vm.findClass RX12 = some m.cls := findClass_of_methodNamed B.named
  have hlocks := B.notSynchronized
  subst hsz
  have hD : va_D (pq_B t σ (I, J, ri, rj, rq) s.heap.size) (pq_P t σ (I, J, ri, rj, rq)) := hD0.self
  generalize hAe : pq_B t σ (I, J, ri, rj, rq) s.heap.size = A at hD ⊢
  have hA : ∀ q : Nat, s.heap.size ≤ q → A q := fun q h => by rw [← hAe]; exact Or.inr h
  have hS : va_S A s.heap s.heap [] := va_S.rf
  have hl := lv_entry ([.ref this, .int mo]) (n := 3) (Nat.le_of_ble_eq_true rfl)
  rw [lg_entry_eq]
  generalize (lg_sl ([.ref this, .int mo]) ++ List.replicate (3 - (lg_sl ([.ref this, .int mo])).length) Slot.unset).toArray = ls at hl ⊢
  have hl : lv_has ls 3 [(0, .ref this), (1, .int mo)] := hl
  refine lv_iconst (v := 0) hx hb dX12_fundGoes_0 (by decide) ?_
  refine lv_istore_n (lv' := [(2, .int 0), (0, .ref this), (1, .int mo)]) hx hb dX12_fundGoes_1 rfl hl (by decide) rfl (fun ls hl => ?_)
  refine lv_iload_n hx hb dX12_fundGoes_2 rfl (lv_at hl 0 rfl) ?_
  refine lv_aload_n hx hb dX12_fundGoes_3 rfl (lv_at hl 1 rfl) ?_
  refine pg_f (v := .ref this_a) (C := RX12) (T := TX12) (N := 31) hx hb hts (tw_i inlX12) hown hK hP hL_this hK_this (by decide) rfl 0 (by decide) (hts _ (tw_c tw_176)) (pq_hv rfl hR_this_a) dX12_fundGoes_4 ?_
  refine lv_iconst (v := 5) hx hb dX12_fundGoes_7 (by decide) ?_
  refine pl_i hx hb hK hP hL_this_a hK_this_a hN_this_a (vp_in_iff.mpr (by decide)) dX12_fundGoes_8 ?_
  refine lv_tov 0 (fm_at hF 5 (v := 0) (by decide)) ?_
  refine lv_icmp_ge (tgt := 46) hx hb dX12_fundGoes_9 (by decide) (fun c_1 => ?_) (fun c_1 => absurd c_1 (by decide))
  refine lv_aload_n hx hb dX12_fundGoes_46 rfl (lv_at hl 1 rfl) ?_
  refine lv_iconst (v := 0) hx hb dX12_fundGoes_47 (by decide) ?_
  refine pp_i (v := 0) (ty := .int) (C := RX12) (T := TX12) (N := 31) hx hb hts (tw_i inlX12) tyX12 tyX12_ok nmX12 hown hK hP hD hS hL_this hK_this (by decide) rfl 26 410 (by decide) (hts _ (tw_c tw_1237)) rfl (by decide +kernel) rfl rfl (Nat.le_of_ble_eq_true rfl) (ps_410 _ _ _ _ _) dX12_fundGoes_48 (fun I_2 H locs eI_2 hP hD hS => ?_)
  refine lv_aload_n hx hb dX12_fundGoes_51 rfl (lv_at hl 1 rfl) ?_
  refine pg_f (v := .int (I_2 407 this)) (C := RX12) (T := TX12) (N := 31) hx hb hts (tw_i inlX12) hown hK hP hL_this hK_this (by decide) rfl 23 (by decide) (hts _ (tw_c tw_1238)) rfl dX12_fundGoes_52 ?_
  refine lv_iconst (v := 1) hx hb dX12_fundGoes_55 (by decide) ?_
  refine lv_icmp_ne (tgt := 60) hx hb dX12_fundGoes_56 (by decide) (fun c_3 => ?_) (fun c_3 => ?_)
  · refine lv_aload_n hx hb dX12_fundGoes_60 rfl (lv_at hl 1 rfl) ?_
    refine pg_f (v := .ref this_a) (C := RX12) (T := TX12) (N := 31) hx hb hts (tw_i inlX12) hown hK hP hL_this hK_this (by decide) rfl 0 (by decide) (hts _ (tw_c tw_176)) (pq_hv rfl hR_this_a) dX12_fundGoes_61 ?_
    refine lv_bipush (v := 18) hx hb dX12_fundGoes_64 (by decide) ?_
    refine lv_aload_n hx hb dX12_fundGoes_66 rfl (lv_at hl 1 rfl) ?_
    refine lv_iload_n hx hb dX12_fundGoes_67 rfl (lv_at hl 2 rfl) ?_
    refine pk_i (va_runV (As := [.int mo]) (rest := [.int 18, .ref this_a]) ⟨hx, hb, hml, hown, hts⟩ (c_X12_areaOf l D t σ I_2 J ri rj rq H.size this mo hL_this hK_this this_a hR_this_a hL_this_a hK_this_a hN_this_a k (by omega) hF) (cwV 1 hts (tw_V tw_1239 tw_1240 tw_1241 tw_5 tw_1242) rfl rfl rfl (by decide +kernel) ⟨Nat.le_of_ble_eq_true rfl, Nat.le_of_ble_eq_true rfl⟩) ⟨pq_blind, pq_recv hK hP hL_this hK_this (by decide) rfl, pq_pre hK hN hP hD⟩ rfl rfl hl.1 rfl (lv_room (Nat.le_of_ble_eq_true rfl)) dX12_fundGoes_68 ⟨Nat.le_of_ble_eq_true rfl, Nat.le_of_ble_eq_true rfl⟩) hD hS hA (fun r_4 σ1 μ1 H locs hw_5 hP hD hS => ?_)
    obtain ⟨hu_6, hr_7⟩ := hw_5
    obtain ⟨hu_6a, hu_6b⟩ := Prod.mk.inj hu_6
    rw [hu_6a, hu_6b] at hP hD
    refine lv_tov (0 : Int32) hr_7 ?_
    refine pt_i hx hb hK hP hD hS hL_this_a hK_this_a hN_this_a (vp_in_iff.mpr (by decide)) dX12_fundGoes_71 (fun r_8 H locs er_8 hP hD hS => ?_)
    refine lv_aload_n hx hb dX12_fundGoes_72 rfl (lv_at hl 1 rfl) ?_
    refine pg_f (v := .ref this_a) (C := RX12) (T := TX12) (N := 31) hx hb hts (tw_i inlX12) hown hK hP hL_this hK_this (by decide) rfl 0 (by decide) (hts _ (tw_c tw_176)) (pq_hv rfl hR_this_a) dX12_fundGoes_73 ?_
    refine lv_bipush (v := 8) hx hb dX12_fundGoes_76 (by decide) ?_
    refine lv_dup2_11 hx hb dX12_fundGoes_78 rfl rfl ?_
    refine pl_i hx hb hK hP hL_this_a hK_this_a hN_this_a (vp_in_iff.mpr (by decide)) dX12_fundGoes_79 ?_
    refine lv_tov 0 (fm_at (fm_hi hF er_8 (Or.inl rfl)) 8 (v := 0) (by decide)) ?_
    refine lv_aload_n hx hb dX12_fundGoes_80 rfl (lv_at hl 1 rfl) ?_
    refine lv_bipush (v := 9) hx hb dX12_fundGoes_81 (by decide) ?_
    refine lv_iload_n hx hb dX12_fundGoes_83 rfl (lv_at hl 2 rfl) ?_
    refine lv_bipush (v := 10) hx hb dX12_fundGoes_84 (by decide) ?_
    refine pk_i (va_runV (As := [.int 9, .int mo, .int 10]) (rest := [.int 0, .int 8, .ref this_a]) ⟨hx, hb, hml, hown, hts⟩ (c_X12_numberOf l D t σ I_2 J r_8 rj rq H.size this (9 : Int32) mo (10 : Int32) hL_this hK_this this_a hR_this_a hL_this_a hK_this_a hN_this_a k (by omega) (fm_hi hF er_8 (Or.inl rfl))) (cwV 3 hts (tw_V tw_1016 tw_1017 tw_1018 tw_5 tw_1019) rfl rfl rfl (by decide +kernel) ⟨Nat.le_of_ble_eq_true rfl, Nat.le_of_ble_eq_true rfl⟩) ⟨pq_blind, pq_recv hK hP hL_this hK_this (by decide) rfl, pq_pre hK hN hP hD⟩ rfl rfl hl.1 rfl (lv_room (Nat.le_of_ble_eq_true rfl)) dX12_fundGoes_86 ⟨Nat.le_of_ble_eq_true rfl, Nat.le_of_ble_eq_true rfl⟩) hD hS hA (fun r_9 σ1 μ1 H locs hw_10 hP hD hS => ?_)
    obtain ⟨hu_11, hr_12⟩ := hw_10
    obtain ⟨hu_11a, hu_11b⟩ := Prod.mk.inj hu_11
    rw [hu_11a, hu_11b] at hP hD
    refine lv_tov (10 : Int32) hr_12 ?_
    refine lv_aload_n hx hb dX12_fundGoes_89 rfl (lv_at hl 1 rfl) ?_
    refine pg_f (v := .ref this_a) (C := RX12) (T := TX12) (N := 31) hx hb hts (tw_i inlX12) hown hK hP hL_this hK_this (by decide) rfl 0 (by decide) (hts _ (tw_c tw_176)) (pq_hv rfl hR_this_a) dX12_fundGoes_90 ?_
    refine lv_bipush (v := 18) hx hb dX12_fundGoes_93 (by decide) ?_
    refine pl_i hx hb hK hP hL_this_a hK_this_a hN_this_a (vp_in_iff.mpr (by decide)) dX12_fundGoes_95 ?_
    refine lv_tov 0 (rd_eq er_8) ?_
    refine lv_imul hx hb dX12_fundGoes_96 ?_
    refine lv_tov 0 (by decide) ?_
    refine lv_bipush (v := 100) hx hb dX12_fundGoes_97 (by decide) ?_
    refine lv_idiv hx hb dX12_fundGoes_99 (by decide) ?_
    refine lv_tov 0 (by decide) ?_
    refine lv_iadd hx hb dX12_fundGoes_100 ?_
    refine lv_tov 0 (by decide) ?_
    refine pt_i hx hb hK hP hD hS hL_this_a hK_this_a hN_this_a (vp_in_iff.mpr (by decide)) dX12_fundGoes_101 (fun r_13 H locs er_13 hP hD hS => ?_)
    refine lv_iconst (v := 0) hx hb dX12_fundGoes_102 (by decide) ?_
    refine lv_istore_n (lv' := [(2, .int 0), (0, .ref this), (1, .int mo)]) hx hb dX12_fundGoes_103 rfl hl (by decide) rfl (fun ls hl => ?_)
    refine lv_iload_n hx hb dX12_fundGoes_104 rfl (lv_at hl 0 rfl) ?_
    refine lv_aload_n hx hb dX12_fundGoes_105 rfl (lv_at hl 1 rfl) ?_
    refine pg_f (v := .ref this_a) (C := RX12) (T := TX12) (N := 31) hx hb hts (tw_i inlX12) hown hK hP hL_this hK_this (by decide) rfl 0 (by decide) (hts _ (tw_c tw_176)) (pq_hv rfl hR_this_a) dX12_fundGoes_106 ?_
    refine lv_iconst (v := 2) hx hb dX12_fundGoes_109 (by decide) ?_
    refine pl_i hx hb hK hP hL_this_a hK_this_a hN_this_a (vp_in_iff.mpr (by decide)) dX12_fundGoes_110 ?_
    refine lv_tov 0 (fm_at (fm_b8 (fm_hi hF er_8 (Or.inl rfl)) er_13 (by decide) (by decide)) 2 (v := 0) (by decide)) ?_
    refine lv_icmp_ge (tgt := 147) hx hb dX12_fundGoes_111 (by decide) (fun c_14 => ?_) (fun c_14 => absurd c_14 (by decide))
    refine lv_aload_n hx hb dX12_fundGoes_147 rfl (lv_at hl 1 rfl) ?_
    refine pg_f (v := .ref this_a) (C := RX12) (T := TX12) (N := 31) hx hb hts (tw_i inlX12) hown hK hP hL_this hK_this (by decide) rfl 0 (by decide) (hts _ (tw_c tw_176)) (pq_hv rfl hR_this_a) dX12_fundGoes_148 ?_
    refine lv_bipush (v := 8) hx hb dX12_fundGoes_151 (by decide) ?_
    refine pl_i hx hb hK hP hL_this_a hK_this_a hN_this_a (vp_in_iff.mpr (by decide)) dX12_fundGoes_153 ?_
    refine lv_tov 0 (fm_at (fm_b8 (fm_hi hF er_8 (Or.inl rfl)) er_13 (by decide) (by decide)) 8 (v := 0) (by decide)) ?_
    refine lv_if_lt (tgt := 158) hx hb dX12_fundGoes_154 (by decide) (fun c_15 => absurd c_15 (by decide)) (fun c_15 => ?_)
    exact W.vret hx hb hr (fun t1 ht hW => ⟨⟨(σ, I_2, J, r_13, rj, rq), rfl, ⟨I_2, r_13, rfl, (fun f hg => by rw [eI_2, pq_uf _ _ _ (by intro q; subst q; exact hg (by decide))]), ⟨(fm_b8 (fm_hi hF er_8 (Or.inl rfl)) er_13 (by decide) (by decide)), (fun b hb => by rw [er_13, va_up_ne _ _ hb, er_8, va_up_ne _ _ hb])⟩, (by rw [eI_2]; exact pq_us _ _ _ _)⟩, by rw [ht]; exact hP, va_K.moved hW.alike hK, hD⟩, hS.F ht⟩) hS.2.2 dX12_fundGoes_157
  · exact W.vret hx hb hr (fun t1 ht hW => ⟨⟨(σ, I_2, J, ri, rj, rq), rfl, ⟨I_2, ri, rfl, (fun f hg => by rw [eI_2, pq_uf _ _ _ (by intro q; subst q; exact hg (by decide))]), ⟨hF, (fun b hb => rfl)⟩, (by rw [eI_2]; exact pq_us _ _ _ _)⟩, by rw [ht]; exact hP, va_K.moved hW.alike hK, hD⟩, hS.F ht⟩) hS.2.2 dX12_fundGoes_59

set_option maxHeartbeats 4000000 in
set_option maxRecDepth 100000 in
theorem c_X12_boatsGo (l : Launch) (D : va_G) (t : pq_T) (σ : pq_S) (I : Nat → Nat → Int32) (J : Nat → Nat → Int64) (ri : Nat → Nat → Int32) (rj : Nat → Nat → Int64) (rq : Nat → Nat → Option Nat) (sz : Nat) (this : Nat) (mo : Int32) (hL_this : this ∈ σ.1) (hK_this : σ.2.1 this = 12) (this_a : Nat) (hR_this_a : σ.2.2.1 384 this = some this_a) (hL_this_a : this_a ∈ σ.1) (hK_this_a : σ.2.1 this_a = 13) (hN_this_a : σ.2.2.2 this_a = 12720) (k : Nat) (hk : k < 600) (hF : fm (ri this_a) k) : MetV l yX12_boatsGo (wa yX12_boatsGo cX12_boatsGo 6 none) ({ frames := 2, cells := 0, slots := 0, locals := 47 }) [.ref this, .int mo] D t σ (I, J, ri, rj, rq) sz 0 0 (fun (u : pq_S × pq_M) => ∃ I' : Nat → Nat → Int32, u = (σ, I', J, ri, rj, rq) ∧ (∀ f, f ∉ ([406] : List Nat) → I' f = I f)) := by
  refine Met.ofW (cc := cX12_boatsGo) (maxL := 6) (ret := none) (by decide) rfl ?_
  intro p e s m args below meth c s₁ B hml hv
  obtain ⟨rfl, hsz, hP, hK, hD0, hN⟩ := hv
  have hx := B.exec
  have hb := B.bytes
  have hr := B.returns
  have hts := atoms_spec (ws := (wa yX12_boatsGo cX12_boatsGo 6 none)) B.pre
  have hown : s.vm.findClass RX12 = some m.cls := findClass_of_methodNamed B.named
  have hlocks := B.notSynchronized
  subst hsz
  have hD : va_D (pq_B t σ (I, J, ri, rj, rq) s.heap.size) (pq_P t σ (I, J, ri, rj, rq)) := hD0.self
  generalize hAe : pq_B t σ (I, J, ri, rj, rq) s.heap.size = A at hD ⊢
  have hA : ∀ q : Nat, s.heap.size ≤ q → A q := fun q h => by rw [← hAe]; exact Or.inr h
  have hS : va_S A s.heap s.heap [] := va_S.rf
  have hl := lv_entry ([.ref this, .int mo]) (n := 6) (Nat.le_of_ble_eq_true rfl)
  rw [lg_entry_eq]
  generalize (lg_sl ([.ref this, .int mo]) ++ List.replicate (6 - (lg_sl ([.ref this, .int mo])).length) Slot.unset).toArray = ls at hl ⊢
  have hl : lv_has ls 6 [(0, .ref this), (1, .int mo)] := hl
  refine lv_aload_n hx hb dX12_boatsGo_0 rfl (lv_at hl 0 rfl) ?_
  refine lv_iconst (v := 5) hx hb dX12_boatsGo_1 (by decide) ?_
  refine lv_iload_n hx hb dX12_boatsGo_2 rfl (lv_at hl 1 rfl) ?_
  refine pk_i (va_runV (As := [.int 5, .int mo]) (rest := []) ⟨hx, hb, hml, hown, hts⟩ (c_X12_keysFor l D t σ I J ri rj rq (Array.size s.heap) this (5 : Int32) mo hL_this hK_this this_a hR_this_a hL_this_a hK_this_a hN_this_a k (by omega) hF) (cwV 2 hts (tw_V tw_503 tw_504 tw_505 tw_5 tw_506) rfl rfl rfl (by decide +kernel) ⟨Nat.le_of_ble_eq_true rfl, Nat.le_of_ble_eq_true rfl⟩) ⟨pq_blind, pq_recv hK hP hL_this hK_this (by decide) rfl, pq_pre hK hN hP hD⟩ rfl rfl hl.1 rfl (lv_room (Nat.le_of_ble_eq_true rfl)) dX12_boatsGo_3 ⟨Nat.le_of_ble_eq_true rfl, Nat.le_of_ble_eq_true rfl⟩) hD hS hA (fun r_1 σ1 μ1 H locs hw_2 hP hD hS => ?_)
  obtain ⟨I_3, hu_4, hu_4f, hr_5⟩ := hw_2
  obtain ⟨hu_4a, hu_4b⟩ := Prod.mk.inj hu_4
  rw [hu_4a, hu_4b] at hP hD
  subst hr_5
  refine lv_istore_n (lv' := [(2, .int 0), (0, .ref this), (1, .int mo)]) hx hb dX12_boatsGo_6 rfl hl (by decide) rfl (fun ls hl => ?_)
  refine lv_iconst (v := 0) hx hb dX12_boatsGo_7 (by decide) ?_
  refine lv_istore_n (lv' := [(3, .int 0), (2, .int 0), (0, .ref this), (1, .int mo)]) hx hb dX12_boatsGo_8 rfl hl (by decide) rfl (fun ls hl => ?_)
  refine lv_iconst (v := 0) hx hb dX12_boatsGo_9 (by decide) ?_
  refine lv_istore (lv' := [(4, .int 0), (3, .int 0), (2, .int 0), (0, .ref this), (1, .int mo)]) hx hb dX12_boatsGo_10 hl (by decide) rfl (fun ls hl => ?_)
  refine lv_iload hx hb dX12_boatsGo_12 (lv_at hl 0 rfl) ?_
  refine lv_aload_n hx hb dX12_boatsGo_14 rfl (lv_at hl 3 rfl) ?_
  refine pg_f (v := .ref this_a) (C := RX12) (T := TX12) (N := 31) hx hb hts (tw_i inlX12) hown hK hP hL_this hK_this (by decide) rfl 0 (by decide) (hts _ (tw_c tw_176)) (pq_hv rfl hR_this_a) dX12_boatsGo_15 ?_
  refine lv_iconst (v := 5) hx hb dX12_boatsGo_18 (by decide) ?_
  refine pl_i hx hb hK hP hL_this_a hK_this_a hN_this_a (vp_in_iff.mpr (by decide)) dX12_boatsGo_19 ?_
  refine lv_tov 0 (fm_at hF 5 (v := 0) (by decide)) ?_
  refine lv_icmp_ge (tgt := 130) hx hb dX12_boatsGo_20 (by decide) (fun c_6 => ?_) (fun c_6 => absurd c_6 (by decide))
  refine lv_aload_n hx hb dX12_boatsGo_130 rfl (lv_at hl 3 rfl) ?_
  refine pg_f (v := .ref this_a) (C := RX12) (T := TX12) (N := 31) hx hb hts (tw_i inlX12) hown hK hP hL_this hK_this (by decide) rfl 0 (by decide) (hts _ (tw_c tw_176)) (pq_hv rfl hR_this_a) dX12_boatsGo_131 ?_
  refine lv_bipush (v := 11) hx hb dX12_boatsGo_134 (by decide) ?_
  refine pl_i hx hb hK hP hL_this_a hK_this_a hN_this_a (vp_in_iff.mpr (by decide)) dX12_boatsGo_136 ?_
  refine lv_tov 0 (fm_at hF 11 (v := 0) (by decide)) ?_
  refine lv_istore (lv' := [(4, .int 0), (3, .int 0), (2, .int 0), (0, .ref this), (1, .int mo)]) hx hb dX12_boatsGo_137 hl (by decide) rfl (fun ls hl => ?_)
  refine lv_iconst (v := 0) hx hb dX12_boatsGo_139 (by decide) ?_
  refine lv_istore (lv' := [(5, .int 0), (4, .int 0), (3, .int 0), (2, .int 0), (0, .ref this), (1, .int mo)]) hx hb dX12_boatsGo_140 hl (by decide) rfl (fun ls hl => ?_)
  refine lv_iload hx hb dX12_boatsGo_142 (lv_at hl 0 rfl) ?_
  refine lv_iload_n hx hb dX12_boatsGo_144 rfl (lv_at hl 2 rfl) ?_
  refine lv_icmp_ge (tgt := 188) hx hb dX12_boatsGo_145 (by decide) (fun c_7 => ?_) (fun c_7 => absurd c_7 (by decide))
  exact W.vret hx hb hr (fun t1 ht hW => ⟨⟨(σ, I_3, J, ri, rj, rq), rfl, ⟨I_3, rfl, (fun f hg => by rw [hu_4f f (fun q => hg (by revert q; simp only [List.mem_cons, List.not_mem_nil, or_false]; omega))])⟩, by rw [ht]; exact hP, va_K.moved hW.alike hK, hD⟩, hS.F ht⟩) hS.2.2 dX12_boatsGo_188

set_option maxHeartbeats 4000000 in
set_option maxRecDepth 100000 in
theorem c_X12_month (l : Launch) (D : va_G) (t : pq_T) (σ : pq_S) (I : Nat → Nat → Int32) (J : Nat → Nat → Int64) (ri : Nat → Nat → Int32) (rj : Nat → Nat → Int64) (rq : Nat → Nat → Option Nat) (sz : Nat) (this : Nat) (rise : Int32) (hL_this : this ∈ σ.1) (hK_this : σ.2.1 this = 12) (this_a : Nat) (hR_this_a : σ.2.2.1 384 this = some this_a) (hL_this_a : this_a ∈ σ.1) (hK_this_a : σ.2.1 this_a = 13) (hN_this_a : σ.2.2.2 this_a = 12720) (k : Nat) (hk : k < 600) (hF : fm (ri this_a) k) : MetV l yX12_month (wa yX12_month cX12_month 3 none) ({ frames := 4, cells := 0, slots := 0, locals := 99 }) [.ref this, .int rise] D t σ (I, J, ri, rj, rq) sz 0 0 (fun (u : pq_S × pq_M) => ∃ I' : Nat → Nat → Int32, ∃ ri' : Nat → Nat → Int32, u = (σ, I', J, ri', rj, rq) ∧ (∀ f, f ∉ ([406, 410] : List Nat) → I' f = I f) ∧ (fm (ri' this_a) (k + 1) ∧ ∀ b, b ≠ this_a → ri' b = ri b) ∧ (I' 410 this = 0)) := by
  refine Met.ofW (cc := cX12_month) (maxL := 3) (ret := none) (by decide) rfl ?_
  intro p e s m args below meth c s₁ B hml hv
  obtain ⟨rfl, hsz, hP, hK, hD0, hN⟩ := hv
  have hx := B.exec
  have hb := B.bytes
  have hr := B.returns
  have hts := atoms_spec (ws := (wa yX12_month cX12_month 3 none)) B.pre
  have hown : s.vm.findClass RX12 = some m.cls := findClass_of_methodNamed B.named
  have hlocks := B.notSynchronized
  subst hsz
  have hD : va_D (pq_B t σ (I, J, ri, rj, rq) s.heap.size) (pq_P t σ (I, J, ri, rj, rq)) := hD0.self
  generalize hAe : pq_B t σ (I, J, ri, rj, rq) s.heap.size = A at hD ⊢
  have hA : ∀ q : Nat, s.heap.size ≤ q → A q := fun q h => by rw [← hAe]; exact Or.inr h
  have hS : va_S A s.heap s.heap [] := va_S.rf
  have hl := lv_entry ([.ref this, .int rise]) (n := 3) (Nat.le_of_ble_eq_true rfl)
  rw [lg_entry_eq]
  generalize (lg_sl ([.ref this, .int rise]) ++ List.replicate (3 - (lg_sl ([.ref this, .int rise])).length) Slot.unset).toArray = ls at hl ⊢
  have hl : lv_has ls 3 [(0, .ref this), (1, .int rise)] := hl
  refine lv_aload_n hx hb dX12_month_0 rfl (lv_at hl 0 rfl) ?_
  refine pg_f (v := .ref this_a) (C := RX12) (T := TX12) (N := 31) hx hb hts (tw_i inlX12) hown hK hP hL_this hK_this (by decide) rfl 0 (by decide) (hts _ (tw_c tw_176)) (pq_hv rfl hR_this_a) dX12_month_1 ?_
  refine lv_iconst (v := 0) hx hb dX12_month_4 (by decide) ?_
  refine pl_i hx hb hK hP hL_this_a hK_this_a hN_this_a (vp_in_iff.mpr (by decide)) dX12_month_5 ?_
  refine lv_tov (nI k) hF.1 ?_
  refine lv_istore_n (lv' := [(2, .int (nI k)), (0, .ref this), (1, .int rise)]) hx hb dX12_month_6 rfl hl (by decide) rfl (fun ls hl => ?_)
  refine lv_aload_n hx hb dX12_month_7 rfl (lv_at hl 1 rfl) ?_
  refine lv_iload_n hx hb dX12_month_8 rfl (lv_at hl 0 rfl) ?_
  refine pk_v (va_runV (As := [.int (nI k)]) (rest := []) ⟨hx, hb, hml, hown, hts⟩ (c_X12_reefGoes l D t σ I J ri rj rq (Array.size s.heap) this (nI k) hL_this hK_this this_a hR_this_a hL_this_a hK_this_a hN_this_a k (by omega) hF) (cwV 1 hts (tw_V tw_1197 tw_1198 tw_1199 tw_5 tw_1200) rfl rfl rfl (by decide +kernel) ⟨Nat.le_of_ble_eq_true rfl, Nat.le_of_ble_eq_true rfl⟩) ⟨pq_blind, pq_recv hK hP hL_this hK_this (by decide) rfl, pq_pre hK hN hP hD⟩ rfl rfl hl.1 rfl (lv_room (Nat.le_of_ble_eq_true rfl)) dX12_month_9 ⟨Nat.le_of_ble_eq_true rfl, Nat.le_of_ble_eq_true rfl⟩) hD hS hA (fun σ1 μ1 H locs hw_2 hP hD hS => ?_)
  have hu_3 := hw_2
  obtain ⟨hu_3a, hu_3b⟩ := Prod.mk.inj hu_3
  rw [hu_3a, hu_3b] at hP hD
  refine lv_aload_n hx hb dX12_month_12 rfl (lv_at hl 1 rfl) ?_
  refine lv_iload_n hx hb dX12_month_13 rfl (lv_at hl 0 rfl) ?_
  refine pk_v (va_runV (As := [.int (nI k)]) (rest := []) ⟨hx, hb, hml, hown, hts⟩ (c_X12_sandGoes l D t σ I J ri rj rq H.size this (nI k) hL_this hK_this this_a hR_this_a hL_this_a hK_this_a hN_this_a k (by omega) hF) (cwV 1 hts (tw_V tw_1205 tw_1206 tw_1207 tw_5 tw_1208) rfl rfl rfl (by decide +kernel) ⟨Nat.le_of_ble_eq_true rfl, Nat.le_of_ble_eq_true rfl⟩) ⟨pq_blind, pq_recv hK hP hL_this hK_this (by decide) rfl, pq_pre hK hN hP hD⟩ rfl rfl hl.1 rfl (lv_room (Nat.le_of_ble_eq_true rfl)) dX12_month_14 ⟨Nat.le_of_ble_eq_true rfl, Nat.le_of_ble_eq_true rfl⟩) hD hS hA (fun σ1 μ1 H locs hw_6 hP hD hS => ?_)
  have hu_7 := hw_6
  obtain ⟨hu_7a, hu_7b⟩ := Prod.mk.inj hu_7
  rw [hu_7a, hu_7b] at hP hD
  refine lv_aload_n hx hb dX12_month_17 rfl (lv_at hl 1 rfl) ?_
  refine lv_iload_n hx hb dX12_month_18 rfl (lv_at hl 0 rfl) ?_
  refine lv_aload_n hx hb dX12_month_19 rfl (lv_at hl 1 rfl) ?_
  refine lv_iload_n hx hb dX12_month_20 rfl (lv_at hl 2 rfl) ?_
  refine lv_iload_n hx hb dX12_month_21 rfl (lv_at hl 0 rfl) ?_
  refine lv_iload_n hx hb dX12_month_22 rfl (lv_at hl 0 rfl) ?_
  refine pk_i (va_runV (As := [.int rise, .int (nI k), .int (nI k)]) (rest := [.int (nI k), .ref this]) ⟨hx, hb, hml, hown, hts⟩ (c_X12_levelAt l D t σ I J ri rj rq H.size this rise (nI k) (nI k) hL_this hK_this this_a hR_this_a hL_this_a hK_this_a hN_this_a k (by omega) hF) (cwV 3 hts (tw_V tw_289 tw_290 tw_291 tw_5 tw_292) rfl rfl rfl (by decide +kernel) ⟨Nat.le_of_ble_eq_true rfl, Nat.le_of_ble_eq_true rfl⟩) ⟨pq_blind, pq_recv hK hP hL_this hK_this (by decide) rfl, pq_pre hK hN hP hD⟩ rfl rfl hl.1 rfl (lv_room (Nat.le_of_ble_eq_true rfl)) dX12_month_23 ⟨Nat.le_of_ble_eq_true rfl, Nat.le_of_ble_eq_true rfl⟩) hD hS hA (fun r_9 σ1 μ1 H locs hw_10 hP hD hS => ?_)
  obtain ⟨hu_11, hr_12⟩ := hw_10
  obtain ⟨hu_11a, hu_11b⟩ := Prod.mk.inj hu_11
  rw [hu_11a, hu_11b] at hP hD
  subst hr_12
  refine pk_v (va_runV (As := [.int (nI k), .int 0]) (rest := []) ⟨hx, hb, hml, hown, hts⟩ (c_X12_seaStands l D t σ I J ri rj rq H.size this k (0 : Int32) hL_this hK_this this_a hR_this_a hL_this_a hK_this_a hN_this_a k (by omega) hF (by omega)) (cwV 2 hts (tw_V tw_1209 tw_1210 tw_1211 tw_5 tw_1212) rfl rfl rfl (by decide +kernel) ⟨Nat.le_of_ble_eq_true rfl, Nat.le_of_ble_eq_true rfl⟩) ⟨pq_blind, pq_recv hK hP hL_this hK_this (by decide) rfl, pq_pre hK hN hP hD⟩ rfl rfl hl.1 rfl (lv_room (Nat.le_of_ble_eq_true rfl)) dX12_month_26 ⟨Nat.le_of_ble_eq_true rfl, Nat.le_of_ble_eq_true rfl⟩) hD hS hA (fun σ1 μ1 H locs hw_14 hP hD hS => ?_)
  obtain ⟨ri_15, hu_16, hu_16p0⟩ := hw_14
  obtain ⟨hu_16a, hu_16b⟩ := Prod.mk.inj hu_16
  rw [hu_16a, hu_16b] at hP hD
  refine lv_aload_n hx hb dX12_month_29 rfl (lv_at hl 1 rfl) ?_
  refine pk_v (va_runV (As := []) (rest := []) ⟨hx, hb, hml, hown, hts⟩ (c_X12_drink l D t σ I J ri_15 rj rq H.size this hL_this hK_this this_a hR_this_a hL_this_a hK_this_a hN_this_a k (by omega) hu_16p0.1) (cwV 0 hts (tw_V tw_1217 tw_1218 tw_1219 tw_5 tw_1220) rfl rfl rfl (by decide +kernel) ⟨Nat.le_of_ble_eq_true rfl, Nat.le_of_ble_eq_true rfl⟩) ⟨pq_blind, pq_recv hK hP hL_this hK_this (by decide) rfl, pq_pre hK hN hP hD⟩ rfl rfl hl.1 rfl (lv_room (Nat.le_of_ble_eq_true rfl)) dX12_month_30 ⟨Nat.le_of_ble_eq_true rfl, Nat.le_of_ble_eq_true rfl⟩) hD hS hA (fun σ1 μ1 H locs hw_19 hP hD hS => ?_)
  have hu_20 := hw_19
  obtain ⟨hu_20a, hu_20b⟩ := Prod.mk.inj hu_20
  rw [hu_20a, hu_20b] at hP hD
  refine lv_aload_n hx hb dX12_month_33 rfl (lv_at hl 1 rfl) ?_
  refine pk_v (va_runV (As := []) (rest := []) ⟨hx, hb, hml, hown, hts⟩ (c_X12_sleep l D t σ I J ri_15 rj rq H.size this hL_this hK_this this_a hR_this_a hL_this_a hK_this_a hN_this_a k (by omega) hu_16p0.1) (cwV 0 hts (tw_V tw_1229 tw_1230 tw_1231 tw_5 tw_1232) rfl rfl rfl (by decide +kernel) ⟨Nat.le_of_ble_eq_true rfl, Nat.le_of_ble_eq_true rfl⟩) ⟨pq_blind, pq_recv hK hP hL_this hK_this (by decide) rfl, pq_pre hK hN hP hD⟩ rfl rfl hl.1 rfl (lv_room (Nat.le_of_ble_eq_true rfl)) dX12_month_34 ⟨Nat.le_of_ble_eq_true rfl, Nat.le_of_ble_eq_true rfl⟩) hD hS hA (fun σ1 μ1 H locs hw_23 hP hD hS => ?_)
  have hu_24 := hw_23
  obtain ⟨hu_24a, hu_24b⟩ := Prod.mk.inj hu_24
  rw [hu_24a, hu_24b] at hP hD
  refine lv_aload_n hx hb dX12_month_37 rfl (lv_at hl 1 rfl) ?_
  refine lv_iload_n hx hb dX12_month_38 rfl (lv_at hl 0 rfl) ?_
  refine pk_v (va_runV (As := [.int (nI k)]) (rest := []) ⟨hx, hb, hml, hown, hts⟩ (c_X12_fundGoes l D t σ I J ri_15 rj rq H.size this (nI k) hL_this hK_this this_a hR_this_a hL_this_a hK_this_a hN_this_a k (by omega) hu_16p0.1) (cwV 1 hts (tw_V tw_1233 tw_1234 tw_1235 tw_5 tw_1236) rfl rfl rfl (by decide +kernel) ⟨Nat.le_of_ble_eq_true rfl, Nat.le_of_ble_eq_true rfl⟩) ⟨pq_blind, pq_recv hK hP hL_this hK_this (by decide) rfl, pq_pre hK hN hP hD⟩ rfl rfl hl.1 rfl (lv_room (Nat.le_of_ble_eq_true rfl)) dX12_month_39 ⟨Nat.le_of_ble_eq_true rfl, Nat.le_of_ble_eq_true rfl⟩) hD hS hA (fun σ1 μ1 H locs hw_27 hP hD hS => ?_)
  obtain ⟨I_28, ri_29, hu_30, hu_30f, hu_30p0, hu_30p1⟩ := hw_27
  obtain ⟨hu_30a, hu_30b⟩ := Prod.mk.inj hu_30
  rw [hu_30a, hu_30b] at hP hD
  refine lv_aload_n hx hb dX12_month_42 rfl (lv_at hl 1 rfl) ?_
  refine lv_iload_n hx hb dX12_month_43 rfl (lv_at hl 0 rfl) ?_
  refine pk_v (va_runV (As := [.int (nI k)]) (rest := []) ⟨hx, hb, hml, hown, hts⟩ (c_X12_boatsGo l D t σ I_28 J ri_29 rj rq H.size this (nI k) hL_this hK_this this_a hR_this_a hL_this_a hK_this_a hN_this_a k (by omega) hu_30p0.1) (cwV 1 hts (tw_V tw_1247 tw_1248 tw_1249 tw_5 tw_1250) rfl rfl rfl (by decide +kernel) ⟨Nat.le_of_ble_eq_true rfl, Nat.le_of_ble_eq_true rfl⟩) ⟨pq_blind, pq_recv hK hP hL_this hK_this (by decide) rfl, pq_pre hK hN hP hD⟩ rfl rfl hl.1 rfl (lv_room (Nat.le_of_ble_eq_true rfl)) dX12_month_44 ⟨Nat.le_of_ble_eq_true rfl, Nat.le_of_ble_eq_true rfl⟩) hD hS hA (fun σ1 μ1 H locs hw_33 hP hD hS => ?_)
  obtain ⟨I_34, hu_35, hu_35f⟩ := hw_33
  obtain ⟨hu_35a, hu_35b⟩ := Prod.mk.inj hu_35
  rw [hu_35a, hu_35b] at hP hD
  refine lv_aload_n hx hb dX12_month_47 rfl (lv_at hl 1 rfl) ?_
  refine pg_f (v := .ref this_a) (C := RX12) (T := TX12) (N := 31) hx hb hts (tw_i inlX12) hown hK hP hL_this hK_this (by decide) rfl 0 (by decide) (hts _ (tw_c tw_176)) (pq_hv rfl hR_this_a) dX12_month_48 ?_
  refine lv_iconst (v := 0) hx hb dX12_month_51 (by decide) ?_
  refine lv_dup2_11 hx hb dX12_month_52 rfl rfl ?_
  refine pl_i hx hb hK hP hL_this_a hK_this_a hN_this_a (vp_in_iff.mpr (by decide)) dX12_month_53 ?_
  refine lv_tov (nI k) hu_30p0.1.1 ?_
  refine lv_iconst (v := 1) hx hb dX12_month_54 (by decide) ?_
  refine lv_iadd hx hb dX12_month_55 ?_
  refine lv_tov (nI (k + 1)) (nI_add k 1) ?_
  refine pt_i hx hb hK hP hD hS hL_this_a hK_this_a hN_this_a (vp_in_iff.mpr (by decide)) dX12_month_56 (fun r_37 H locs er_37 hP hD hS => ?_)
  exact W.vret hx hb hr (fun t1 ht hW => ⟨⟨(σ, I_34, J, r_37, rj, rq), rfl, ⟨I_34, r_37, rfl, (fun f hg => by rw [hu_35f f (fun q => hg (by revert q; simp only [List.mem_cons, List.not_mem_nil, or_false]; omega)), hu_30f f (fun q => hg (by revert q; simp only [List.mem_cons, List.not_mem_nil, or_false]; omega))]), ⟨(fm_0 (k1 := (k + 1)) hu_30p0.1 er_37 rfl), (fun b hb => by rw [er_37, va_up_ne _ _ hb, hu_30p0.2 b hb, hu_16p0.2 b hb])⟩, (by rw [hu_35f 410 (by decide)]; exact hu_30p1)⟩, by rw [ht]; exact hP, va_K.moved hW.alike hK, hD⟩, hS.F ht⟩) hS.2.2 dX12_month_57
