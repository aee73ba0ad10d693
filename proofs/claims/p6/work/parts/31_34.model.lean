theorem dX12_personAt_0 : decode cX12_personAt 0 = .ok (.aload_n 0, 1) := oc_42 (by decide +kernel)
theorem dX12_personAt_1 : decode cX12_personAt 1 = .ok (.getfield 7, 3) := oc_180 (a := 0) (b := 7) (by decide +kernel)
theorem dX12_personAt_4 : decode cX12_personAt 4 = .ok (.sipush 740, 3) := oc_17 (a := 2) (b := 228) (by decide +kernel)
theorem dX12_personAt_7 : decode cX12_personAt 7 = .ok (.bipush 12, 2) := oc_16 (a := 12) (by decide +kernel)
theorem dX12_personAt_9 : decode cX12_personAt 9 = .ok (.iload_n 1, 1) := oc_27 (by decide +kernel)
theorem dX12_personAt_10 : decode cX12_personAt 10 = .ok (.imul, 1) := oc_104 (by decide +kernel)
theorem dX12_personAt_11 : decode cX12_personAt 11 = .ok (.iadd, 1) := oc_96 (by decide +kernel)
theorem dX12_personAt_12 : decode cX12_personAt 12 = .ok (.iload_n 2, 1) := oc_28 (by decide +kernel)
theorem dX12_personAt_13 : decode cX12_personAt 13 = .ok (.iadd, 1) := oc_96 (by decide +kernel)
theorem dX12_personAt_14 : decode cX12_personAt 14 = .ok (.iaload, 1) := oc_46 (by decide +kernel)
theorem dX12_personAt_15 : decode cX12_personAt 15 = .ok (.ireturn, 1) := oc_172 (by decide +kernel)
theorem dX12_manyAt_0 : decode cX12_manyAt 0 = .ok (.iconst 0, 1) := oc_3 (by decide +kernel)
theorem dX12_manyAt_1 : decode cX12_manyAt 1 = .ok (.istore_n 2, 1) := oc_61 (by decide +kernel)
theorem dX12_manyAt_2 : decode cX12_manyAt 2 = .ok (.iconst 0, 1) := oc_3 (by decide +kernel)
theorem dX12_manyAt_3 : decode cX12_manyAt 3 = .ok (.istore_n 3, 1) := oc_62 (by decide +kernel)
theorem dX12_manyAt_4 : decode cX12_manyAt 4 = .ok (.iload_n 3, 1) := oc_29 (by decide +kernel)
theorem dX12_manyAt_5 : decode cX12_manyAt 5 = .ok (.aload_n 0, 1) := oc_42 (by decide +kernel)
theorem dX12_manyAt_6 : decode cX12_manyAt 6 = .ok (.getfield 7, 3) := oc_180 (a := 0) (b := 7) (by decide +kernel)
theorem dX12_manyAt_9 : decode cX12_manyAt 9 = .ok (.iconst 5, 1) := oc_8 (by decide +kernel)
theorem dX12_manyAt_10 : decode cX12_manyAt 10 = .ok (.iaload, 1) := oc_46 (by decide +kernel)
theorem dX12_manyAt_11 : decode cX12_manyAt 11 = .ok (.if_icmp .ge 27, 3) := oc_162 (a := 0) (b := 27) (by decide +kernel)
theorem dX12_manyAt_38 : decode cX12_manyAt 38 = .ok (.iload_n 2, 1) := oc_28 (by decide +kernel)
theorem dX12_manyAt_39 : decode cX12_manyAt 39 = .ok (.ireturn, 1) := oc_172 (by decide +kernel)
theorem dX12_manyAt_14 : decode cX12_manyAt 14 = .ok (.iload_n 2, 1) := oc_28 (by decide +kernel)
theorem dX12_manyAt_15 : decode cX12_manyAt 15 = .ok (.aload_n 0, 1) := oc_42 (by decide +kernel)
theorem dX12_manyAt_16 : decode cX12_manyAt 16 = .ok (.iload_n 3, 1) := oc_29 (by decide +kernel)
theorem dX12_manyAt_17 : decode cX12_manyAt 17 = .ok (.iconst 3, 1) := oc_6 (by decide +kernel)
theorem tw_437 : Cond.methodLink RX12 94 yX12_personAt ∈ wsL_law := sg_19 _ (List.mem_of_getElem? (i := 5) rfl)
theorem tw_438 : Cond.instanceMethod yX12_personAt ∈ wsL_law := sg_19 _ (List.mem_of_getElem? (i := 6) rfl)
theorem tw_439 : Cond.selects RX12 yX12_personAt yX12_personAt ∈ wsL_law := sg_19 _ (List.mem_of_getElem? (i := 7) rfl)
theorem tw_440 : Cond.code yX12_personAt cX12_personAt 3 (some .int) ∈ wsL_law := sg_19 _ (List.mem_of_getElem? (i := 8) rfl)
theorem dX12_manyAt_18 : decode cX12_manyAt 18 = .ok (.invokevirtual 94, 3) := oc_182 (a := 0) (b := 94) (by decide +kernel)
theorem dX12_manyAt_21 : decode cX12_manyAt 21 = .ok (.iload_n 1, 1) := oc_27 (by decide +kernel)
theorem dX12_manyAt_30 : decode cX12_manyAt 30 = .ok (.iadd, 1) := oc_96 (by decide +kernel)
theorem dX12_manyAt_31 : decode cX12_manyAt 31 = .ok (.istore_n 2, 1) := oc_61 (by decide +kernel)
theorem dX12_manyAt_32 : decode cX12_manyAt 32 = .ok (.iinc 3 1, 3) := oc_132 (b := 1) (by decide +kernel)
theorem dX12_manyAt_35 : decode cX12_manyAt 35 = .ok (.goto (-31), 3) := oc_167 (a := 255) (b := 225) (by decide +kernel)
theorem dX12_manyAt_22 : decode cX12_manyAt 22 = .ok (.if_icmp .ne 7, 3) := oc_160 (a := 0) (b := 7) (by decide +kernel)
theorem dX12_manyAt_29 : decode cX12_manyAt 29 = .ok (.iconst 0, 1) := oc_3 (by decide +kernel)
theorem dX12_manyAt_25 : decode cX12_manyAt 25 = .ok (.iconst 1, 1) := oc_4 (by decide +kernel)
theorem dX12_manyAt_26 : decode cX12_manyAt 26 = .ok (.goto 4, 3) := oc_167 (a := 0) (b := 4) (by decide +kernel)
theorem dX12_isLot_0 : decode cX12_isLot 0 = .ok (.iload_n 1, 1) := oc_27 (by decide +kernel)
theorem dX12_isLot_1 : decode cX12_isLot 1 = .ok (.bipush 100, 2) := oc_16 (a := 100) (by decide +kernel)
theorem dX12_isLot_3 : decode cX12_isLot 3 = .ok (.bipush 100, 2) := oc_16 (a := 100) (by decide +kernel)
theorem dX12_isLot_5 : decode cX12_isLot 5 = .ok (.aload_n 0, 1) := oc_42 (by decide +kernel)
theorem dX12_isLot_6 : decode cX12_isLot 6 = .ok (.getfield 7, 3) := oc_180 (a := 0) (b := 7) (by decide +kernel)
theorem dX12_isLot_9 : decode cX12_isLot 9 = .ok (.iconst 4, 1) := oc_7 (by decide +kernel)
theorem dX12_isLot_10 : decode cX12_isLot 10 = .ok (.iaload, 1) := oc_46 (by decide +kernel)
theorem dX12_isLot_11 : decode cX12_isLot 11 = .ok (.iadd, 1) := oc_96 (by decide +kernel)
theorem dX12_isLot_12 : decode cX12_isLot 12 = .ok (.iconst 1, 1) := oc_4 (by decide +kernel)
theorem dX12_isLot_13 : decode cX12_isLot 13 = .ok (.isub, 1) := oc_100 (by decide +kernel)
theorem dX12_isLot_14 : decode cX12_isLot 14 = .ok (.invokestatic 62, 3) := oc_184 (a := 0) (b := 62) (by decide +kernel)
theorem dX12_isLot_17 : decode cX12_isLot 17 = .ok (.ireturn, 1) := oc_172 (by decide +kernel)
theorem dX12_freeIn_0 : decode cX12_freeIn 0 = .ok (.aload_n 0, 1) := oc_42 (by decide +kernel)
theorem dX12_freeIn_1 : decode cX12_freeIn 1 = .ok (.getfield 7, 3) := oc_180 (a := 0) (b := 7) (by decide +kernel)
theorem dX12_freeIn_4 : decode cX12_freeIn 4 = .ok (.bipush 80, 2) := oc_16 (a := 80) (by decide +kernel)
theorem dX12_freeIn_6 : decode cX12_freeIn 6 = .ok (.iload_n 1, 1) := oc_27 (by decide +kernel)
theorem dX12_freeIn_7 : decode cX12_freeIn 7 = .ok (.iadd, 1) := oc_96 (by decide +kernel)
theorem dX12_freeIn_8 : decode cX12_freeIn 8 = .ok (.iaload, 1) := oc_46 (by decide +kernel)
theorem dX12_freeIn_9 : decode cX12_freeIn 9 = .ok (.aload_n 0, 1) := oc_42 (by decide +kernel)
theorem dX12_freeIn_10 : decode cX12_freeIn 10 = .ok (.bipush 100, 2) := oc_16 (a := 100) (by decide +kernel)
theorem dX12_freeIn_12 : decode cX12_freeIn 12 = .ok (.iload_n 1, 1) := oc_27 (by decide +kernel)
theorem dX12_freeIn_13 : decode cX12_freeIn 13 = .ok (.iadd, 1) := oc_96 (by decide +kernel)
theorem tw_445 : Cond.methodLink RX12 97 yX12_manyAt ∈ wsL_law := sg_19 _ (List.mem_of_getElem? (i := 13) rfl)
theorem tw_446 : Cond.instanceMethod yX12_manyAt ∈ wsL_law := sg_19 _ (List.mem_of_getElem? (i := 14) rfl)
theorem tw_447 : Cond.selects RX12 yX12_manyAt yX12_manyAt ∈ wsL_law := sg_19 _ (List.mem_of_getElem? (i := 15) rfl)
theorem tw_448 : Cond.code yX12_manyAt cX12_manyAt 4 (some .int) ∈ wsL_law := sg_19 _ (List.mem_of_getElem? (i := 16) rfl)
theorem dX12_freeIn_14 : decode cX12_freeIn 14 = .ok (.invokevirtual 97, 3) := oc_182 (a := 0) (b := 97) (by decide +kernel)
theorem dX12_freeIn_17 : decode cX12_freeIn 17 = .ok (.isub, 1) := oc_100 (by decide +kernel)
theorem dX12_freeIn_18 : decode cX12_freeIn 18 = .ok (.ireturn, 1) := oc_172 (by decide +kernel)
theorem dX12_isPlace_0 : decode cX12_isPlace 0 = .ok (.aload_n 0, 1) := oc_42 (by decide +kernel)
theorem dX12_isPlace_1 : decode cX12_isPlace 1 = .ok (.iload_n 1, 1) := oc_27 (by decide +kernel)
theorem dX12_isPlace_2 : decode cX12_isPlace 2 = .ok (.invokevirtual 66, 3) := oc_182 (a := 0) (b := 66) (by decide +kernel)
theorem dX12_isPlace_5 : decode cX12_isPlace 5 = .ok (.ifCond .ne 18, 3) := oc_154 (a := 0) (b := 18) (by decide +kernel)
theorem dX12_isPlace_23 : decode cX12_isPlace 23 = .ok (.iconst 1, 1) := oc_4 (by decide +kernel)
theorem dX12_isPlace_24 : decode cX12_isPlace 24 = .ok (.goto 4, 3) := oc_167 (a := 0) (b := 4) (by decide +kernel)
theorem dX12_isPlace_28 : decode cX12_isPlace 28 = .ok (.ireturn, 1) := oc_172 (by decide +kernel)
theorem dX12_isPlace_8 : decode cX12_isPlace 8 = .ok (.aload_n 0, 1) := oc_42 (by decide +kernel)
theorem dX12_isPlace_9 : decode cX12_isPlace 9 = .ok (.iload_n 1, 1) := oc_27 (by decide +kernel)
theorem tw_433 : Cond.methodLink RX12 101 yX12_isLot ∈ wsL_law := sg_19 _ (List.mem_of_getElem? (i := 1) rfl)
theorem tw_434 : Cond.instanceMethod yX12_isLot ∈ wsL_law := sg_19 _ (List.mem_of_getElem? (i := 2) rfl)
theorem tw_435 : Cond.selects RX12 yX12_isLot yX12_isLot ∈ wsL_law := sg_19 _ (List.mem_of_getElem? (i := 3) rfl)
theorem tw_436 : Cond.code yX12_isLot cX12_isLot 2 (some .boolean) ∈ wsL_law := sg_19 _ (List.mem_of_getElem? (i := 4) rfl)
theorem dX12_isPlace_10 : decode cX12_isPlace 10 = .ok (.invokevirtual 101, 3) := oc_182 (a := 0) (b := 101) (by decide +kernel)
theorem dX12_isPlace_13 : decode cX12_isPlace 13 = .ok (.ifCond .ne 10, 3) := oc_154 (a := 0) (b := 10) (by decide +kernel)
theorem dX12_isPlace_16 : decode cX12_isPlace 16 = .ok (.iload_n 1, 1) := oc_27 (by decide +kernel)
theorem dX12_isPlace_17 : decode cX12_isPlace 17 = .ok (.sipush 200, 3) := oc_17 (a := 0) (b := 200) (by decide +kernel)
theorem dX12_isPlace_20 : decode cX12_isPlace 20 = .ok (.if_icmp .ne 7, 3) := oc_160 (a := 0) (b := 7) (by decide +kernel)
theorem dX12_isPlace_27 : decode cX12_isPlace 27 = .ok (.iconst 0, 1) := oc_3 (by decide +kernel)
theorem dX12_go_0 : decode cX12_go 0 = .ok (.aload_n 0, 1) := oc_42 (by decide +kernel)
theorem dX12_go_1 : decode cX12_go 1 = .ok (.iload_n 1, 1) := oc_27 (by decide +kernel)
theorem tw_425 : Cond.methodLink RX12 104 yX12_isPerson ∈ wsL_law := sg_18 _ (List.mem_of_getElem? (i := 17) rfl)
theorem tw_426 : Cond.instanceMethod yX12_isPerson ∈ wsL_law := sg_18 _ (List.mem_of_getElem? (i := 18) rfl)
theorem tw_427 : Cond.selects RX12 yX12_isPerson yX12_isPerson ∈ wsL_law := sg_18 _ (List.mem_of_getElem? (i := 19) rfl)
theorem tw_428 : Cond.code yX12_isPerson cX12_isPerson 2 (some .boolean) ∈ wsL_law := sg_18 _ (List.mem_of_getElem? (i := 20) rfl)
theorem dX12_go_2 : decode cX12_go 2 = .ok (.invokevirtual 104, 3) := oc_182 (a := 0) (b := 104) (by decide +kernel)
theorem dX12_go_38 : decode cX12_go 38 = .ok (.iconst 0, 1) := oc_3 (by decide +kernel)
theorem dX12_go_39 : decode cX12_go 39 = .ok (.ireturn, 1) := oc_172 (by decide +kernel)
theorem dX12_go_5 : decode cX12_go 5 = .ok (.ifCond .eq 33, 3) := oc_153 (a := 0) (b := 33) (by decide +kernel)
theorem dX12_go_8 : decode cX12_go 8 = .ok (.aload_n 0, 1) := oc_42 (by decide +kernel)
theorem dX12_go_9 : decode cX12_go 9 = .ok (.iload_n 2, 1) := oc_28 (by decide +kernel)
theorem tw_429 : Cond.methodLink RX12 107 yX12_isPlace ∈ wsL_law := sg_18 _ (List.mem_of_getElem? (i := 21) rfl)
theorem tw_430 : Cond.instanceMethod yX12_isPlace ∈ wsL_law := sg_18 _ (List.mem_of_getElem? (i := 22) rfl)
theorem tw_431 : Cond.selects RX12 yX12_isPlace yX12_isPlace ∈ wsL_law := sg_18 _ (List.mem_of_getElem? (i := 23) rfl)
theorem tw_432 : Cond.code yX12_isPlace cX12_isPlace 2 (some .boolean) ∈ wsL_law := sg_19 _ (List.mem_of_getElem? (i := 0) rfl)
theorem dX12_go_10 : decode cX12_go 10 = .ok (.invokevirtual 107, 3) := oc_182 (a := 0) (b := 107) (by decide +kernel)
theorem dX12_go_13 : decode cX12_go 13 = .ok (.ifCond .eq 25, 3) := oc_153 (a := 0) (b := 25) (by decide +kernel)
theorem dX12_go_16 : decode cX12_go 16 = .ok (.aload_n 0, 1) := oc_42 (by decide +kernel)
theorem dX12_go_17 : decode cX12_go 17 = .ok (.iload_n 1, 1) := oc_27 (by decide +kernel)
theorem dX12_go_18 : decode cX12_go 18 = .ok (.iconst 3, 1) := oc_6 (by decide +kernel)
theorem dX12_go_19 : decode cX12_go 19 = .ok (.invokevirtual 94, 3) := oc_182 (a := 0) (b := 94) (by decide +kernel)
theorem dX12_go_22 : decode cX12_go 22 = .ok (.iload_n 2, 1) := oc_28 (by decide +kernel)
theorem dX12_go_23 : decode cX12_go 23 = .ok (.if_icmp .eq 15, 3) := oc_159 (a := 0) (b := 15) (by decide +kernel)
theorem dX12_go_26 : decode cX12_go 26 = .ok (.aload_n 0, 1) := oc_42 (by decide +kernel)
theorem dX12_go_27 : decode cX12_go 27 = .ok (.iload_n 1, 1) := oc_27 (by decide +kernel)
theorem dX12_go_28 : decode cX12_go 28 = .ok (.iconst 3, 1) := oc_6 (by decide +kernel)
theorem dX12_go_29 : decode cX12_go 29 = .ok (.invokevirtual 94, 3) := oc_182 (a := 0) (b := 94) (by decide +kernel)
theorem dX12_go_32 : decode cX12_go 32 = .ok (.sipush 300, 3) := oc_17 (a := 1) (b := 44) (by decide +kernel)
theorem dX12_go_35 : decode cX12_go 35 = .ok (.if_icmp .ne 5, 3) := oc_160 (a := 0) (b := 5) (by decide +kernel)
theorem dX12_go_40 : decode cX12_go 40 = .ok (.aload_n 0, 1) := oc_42 (by decide +kernel)
theorem dX12_go_41 : decode cX12_go 41 = .ok (.iload_n 2, 1) := oc_28 (by decide +kernel)
theorem dX12_go_42 : decode cX12_go 42 = .ok (.invokevirtual 101, 3) := oc_182 (a := 0) (b := 101) (by decide +kernel)
theorem dX12_go_61 : decode cX12_go 61 = .ok (.aload_n 0, 1) := oc_42 (by decide +kernel)
theorem dX12_go_62 : decode cX12_go 62 = .ok (.getfield 7, 3) := oc_180 (a := 0) (b := 7) (by decide +kernel)
theorem dX12_go_65 : decode cX12_go 65 = .ok (.sipush 740, 3) := oc_17 (a := 2) (b := 228) (by decide +kernel)
theorem dX12_go_68 : decode cX12_go 68 = .ok (.bipush 12, 2) := oc_16 (a := 12) (by decide +kernel)
theorem dX12_go_70 : decode cX12_go 70 = .ok (.iload_n 1, 1) := oc_27 (by decide +kernel)
theorem dX12_go_71 : decode cX12_go 71 = .ok (.imul, 1) := oc_104 (by decide +kernel)
theorem dX12_go_72 : decode cX12_go 72 = .ok (.iadd, 1) := oc_96 (by decide +kernel)
theorem dX12_go_73 : decode cX12_go 73 = .ok (.iconst 3, 1) := oc_6 (by decide +kernel)
theorem dX12_go_74 : decode cX12_go 74 = .ok (.iadd, 1) := oc_96 (by decide +kernel)
theorem dX12_go_75 : decode cX12_go 75 = .ok (.iload_n 2, 1) := oc_28 (by decide +kernel)
theorem dX12_go_76 : decode cX12_go 76 = .ok (.iastore, 1) := oc_79 (by decide +kernel)
theorem dX12_go_77 : decode cX12_go 77 = .ok (.iconst 1, 1) := oc_4 (by decide +kernel)
theorem dX12_go_78 : decode cX12_go 78 = .ok (.ireturn, 1) := oc_172 (by decide +kernel)
theorem dX12_go_45 : decode cX12_go 45 = .ok (.ifCond .eq 16, 3) := oc_153 (a := 0) (b := 16) (by decide +kernel)
theorem dX12_go_48 : decode cX12_go 48 = .ok (.aload_n 0, 1) := oc_42 (by decide +kernel)
theorem dX12_go_49 : decode cX12_go 49 = .ok (.iload_n 2, 1) := oc_28 (by decide +kernel)
theorem dX12_go_50 : decode cX12_go 50 = .ok (.bipush 100, 2) := oc_16 (a := 100) (by decide +kernel)
theorem dX12_go_52 : decode cX12_go 52 = .ok (.isub, 1) := oc_100 (by decide +kernel)
theorem tw_441 : Cond.methodLink RX12 110 yX12_freeIn ∈ wsL_law := sg_19 _ (List.mem_of_getElem? (i := 9) rfl)
theorem tw_442 : Cond.instanceMethod yX12_freeIn ∈ wsL_law := sg_19 _ (List.mem_of_getElem? (i := 10) rfl)
theorem tw_443 : Cond.selects RX12 yX12_freeIn yX12_freeIn ∈ wsL_law := sg_19 _ (List.mem_of_getElem? (i := 11) rfl)
theorem tw_444 : Cond.code yX12_freeIn cX12_freeIn 2 (some .int) ∈ wsL_law := sg_19 _ (List.mem_of_getElem? (i := 12) rfl)
theorem dX12_go_53 : decode cX12_go 53 = .ok (.invokevirtual 110, 3) := oc_182 (a := 0) (b := 110) (by decide +kernel)
theorem dX12_go_56 : decode cX12_go 56 = .ok (.ifCond .gt 5, 3) := oc_157 (a := 0) (b := 5) (by decide +kernel)
theorem dX12_go_59 : decode cX12_go 59 = .ok (.iconst 0, 1) := oc_3 (by decide +kernel)
theorem dX12_go_60 : decode cX12_go 60 = .ok (.ireturn, 1) := oc_172 (by decide +kernel)
theorem dX12_clausesOf_0 : decode cX12_clausesOf 0 = .ok (.aload_n 0, 1) := oc_42 (by decide +kernel)
theorem dX12_clausesOf_1 : decode cX12_clausesOf 1 = .ok (.getfield 7, 3) := oc_180 (a := 0) (b := 7) (by decide +kernel)
theorem dX12_clausesOf_4 : decode cX12_clausesOf 4 = .ok (.sipush 3720, 3) := oc_17 (a := 14) (b := 136) (by decide +kernel)
theorem dX12_clausesOf_7 : decode cX12_clausesOf 7 = .ok (.sipush 900, 3) := oc_17 (a := 3) (b := 132) (by decide +kernel)
theorem dX12_clausesOf_10 : decode cX12_clausesOf 10 = .ok (.iload_n 1, 1) := oc_27 (by decide +kernel)
theorem dX12_clausesOf_11 : decode cX12_clausesOf 11 = .ok (.imul, 1) := oc_104 (by decide +kernel)
theorem dX12_clausesOf_12 : decode cX12_clausesOf 12 = .ok (.iadd, 1) := oc_96 (by decide +kernel)
theorem dX12_clausesOf_13 : decode cX12_clausesOf 13 = .ok (.iaload, 1) := oc_46 (by decide +kernel)
theorem dX12_clausesOf_14 : decode cX12_clausesOf 14 = .ok (.ireturn, 1) := oc_172 (by decide +kernel)
theorem dX12_clauseAt_0 : decode cX12_clauseAt 0 = .ok (.sipush 3720, 3) := oc_17 (a := 14) (b := 136) (by decide +kernel)
theorem dX12_clauseAt_3 : decode cX12_clauseAt 3 = .ok (.sipush 900, 3) := oc_17 (a := 3) (b := 132) (by decide +kernel)
theorem dX12_clauseAt_6 : decode cX12_clauseAt 6 = .ok (.iload_n 1, 1) := oc_27 (by decide +kernel)
theorem dX12_clauseAt_7 : decode cX12_clauseAt 7 = .ok (.imul, 1) := oc_104 (by decide +kernel)
theorem dX12_clauseAt_8 : decode cX12_clauseAt 8 = .ok (.iadd, 1) := oc_96 (by decide +kernel)
theorem dX12_clauseAt_9 : decode cX12_clauseAt 9 = .ok (.iconst 1, 1) := oc_4 (by decide +kernel)
theorem dX12_clauseAt_10 : decode cX12_clauseAt 10 = .ok (.iadd, 1) := oc_96 (by decide +kernel)
theorem dX12_clauseAt_11 : decode cX12_clauseAt 11 = .ok (.bipush 12, 2) := oc_16 (a := 12) (by decide +kernel)
theorem dX12_clauseAt_13 : decode cX12_clauseAt 13 = .ok (.iload_n 2, 1) := oc_28 (by decide +kernel)
theorem dX12_clauseAt_14 : decode cX12_clauseAt 14 = .ok (.imul, 1) := oc_104 (by decide +kernel)
theorem dX12_clauseAt_15 : decode cX12_clauseAt 15 = .ok (.iadd, 1) := oc_96 (by decide +kernel)
theorem dX12_clauseAt_16 : decode cX12_clauseAt 16 = .ok (.ireturn, 1) := oc_172 (by decide +kernel)
theorem dX12_firstOf_0 : decode cX12_firstOf 0 = .ok (.iconst 0, 1) := oc_3 (by decide +kernel)
theorem dX12_firstOf_1 : decode cX12_firstOf 1 = .ok (.istore_n 3, 1) := oc_62 (by decide +kernel)
theorem dX12_firstOf_2 : decode cX12_firstOf 2 = .ok (.iload_n 3, 1) := oc_29 (by decide +kernel)
theorem dX12_firstOf_3 : decode cX12_firstOf 3 = .ok (.aload_n 0, 1) := oc_42 (by decide +kernel)
theorem dX12_firstOf_4 : decode cX12_firstOf 4 = .ok (.iload_n 1, 1) := oc_27 (by decide +kernel)
theorem tw_516 : Cond.methodLink RX12 266 yX12_clausesOf ∈ wsL_law := sg_22 _ (List.mem_of_getElem? (i := 12) rfl)
theorem tw_517 : Cond.instanceMethod yX12_clausesOf ∈ wsL_law := sg_22 _ (List.mem_of_getElem? (i := 13) rfl)
theorem tw_518 : Cond.selects RX12 yX12_clausesOf yX12_clausesOf ∈ wsL_law := sg_22 _ (List.mem_of_getElem? (i := 14) rfl)
theorem tw_519 : Cond.code yX12_clausesOf cX12_clausesOf 2 (some .int) ∈ wsL_law := sg_22 _ (List.mem_of_getElem? (i := 15) rfl)
theorem dX12_firstOf_5 : decode cX12_firstOf 5 = .ok (.invokevirtual 266, 3) := oc_182 (a := 1) (b := 10) (by decide +kernel)
theorem dX12_firstOf_8 : decode cX12_firstOf 8 = .ok (.if_icmp .ge 31, 3) := oc_162 (a := 0) (b := 31) (by decide +kernel)
theorem dX12_firstOf_39 : decode cX12_firstOf 39 = .ok (.iconst (-1), 1) := oc_2 (by decide +kernel)
theorem dX12_firstOf_40 : decode cX12_firstOf 40 = .ok (.ireturn, 1) := oc_172 (by decide +kernel)
theorem dX12_firstOf_11 : decode cX12_firstOf 11 = .ok (.aload_n 0, 1) := oc_42 (by decide +kernel)
theorem dX12_firstOf_12 : decode cX12_firstOf 12 = .ok (.getfield 7, 3) := oc_180 (a := 0) (b := 7) (by decide +kernel)
theorem dX12_firstOf_15 : decode cX12_firstOf 15 = .ok (.aload_n 0, 1) := oc_42 (by decide +kernel)
theorem dX12_firstOf_16 : decode cX12_firstOf 16 = .ok (.iload_n 1, 1) := oc_27 (by decide +kernel)
theorem dX12_firstOf_17 : decode cX12_firstOf 17 = .ok (.iload_n 3, 1) := oc_29 (by decide +kernel)
theorem tw_520 : Cond.methodLink RX12 269 yX12_clauseAt ∈ wsL_law := sg_22 _ (List.mem_of_getElem? (i := 16) rfl)
theorem tw_521 : Cond.instanceMethod yX12_clauseAt ∈ wsL_law := sg_22 _ (List.mem_of_getElem? (i := 17) rfl)
theorem tw_522 : Cond.selects RX12 yX12_clauseAt yX12_clauseAt ∈ wsL_law := sg_22 _ (List.mem_of_getElem? (i := 18) rfl)
theorem tw_523 : Cond.code yX12_clauseAt cX12_clauseAt 3 (some .int) ∈ wsL_law := sg_22 _ (List.mem_of_getElem? (i := 19) rfl)
theorem dX12_firstOf_18 : decode cX12_firstOf 18 = .ok (.invokevirtual 269, 3) := oc_182 (a := 1) (b := 13) (by decide +kernel)
theorem dX12_firstOf_21 : decode cX12_firstOf 21 = .ok (.iaload, 1) := oc_46 (by decide +kernel)
theorem dX12_firstOf_22 : decode cX12_firstOf 22 = .ok (.iload_n 2, 1) := oc_28 (by decide +kernel)
theorem dX12_firstOf_23 : decode cX12_firstOf 23 = .ok (.if_icmp .ne 10, 3) := oc_160 (a := 0) (b := 10) (by decide +kernel)
theorem dX12_firstOf_33 : decode cX12_firstOf 33 = .ok (.iinc 3 1, 3) := oc_132 (b := 1) (by decide +kernel)
theorem dX12_firstOf_36 : decode cX12_firstOf 36 = .ok (.goto (-34), 3) := oc_167 (a := 255) (b := 222) (by decide +kernel)
theorem dX12_firstOf_26 : decode cX12_firstOf 26 = .ok (.aload_n 0, 1) := oc_42 (by decide +kernel)
theorem dX12_firstOf_27 : decode cX12_firstOf 27 = .ok (.iload_n 1, 1) := oc_27 (by decide +kernel)
theorem dX12_firstOf_28 : decode cX12_firstOf 28 = .ok (.iload_n 3, 1) := oc_29 (by decide +kernel)
theorem dX12_firstOf_29 : decode cX12_firstOf 29 = .ok (.invokevirtual 269, 3) := oc_182 (a := 1) (b := 13) (by decide +kernel)
theorem dX12_firstOf_32 : decode cX12_firstOf 32 = .ok (.ireturn, 1) := oc_172 (by decide +kernel)
theorem dX12_textFor_0 : decode cX12_textFor 0 = .ok (.aload_n 0, 1) := oc_42 (by decide +kernel)
theorem dX12_textFor_1 : decode cX12_textFor 1 = .ok (.getfield 7, 3) := oc_180 (a := 0) (b := 7) (by decide +kernel)
theorem dX12_textFor_4 : decode cX12_textFor 4 = .ok (.bipush 7, 2) := oc_16 (a := 7) (by decide +kernel)
theorem dX12_textFor_6 : decode cX12_textFor 6 = .ok (.iaload, 1) := oc_46 (by decide +kernel)
theorem dX12_textFor_7 : decode cX12_textFor 7 = .ok (.iconst 1, 1) := oc_4 (by decide +kernel)
theorem dX12_textFor_8 : decode cX12_textFor 8 = .ok (.isub, 1) := oc_100 (by decide +kernel)
theorem dX12_textFor_9 : decode cX12_textFor 9 = .ok (.istore_n 3, 1) := oc_62 (by decide +kernel)
theorem dX12_textFor_10 : decode cX12_textFor 10 = .ok (.iload_n 3, 1) := oc_29 (by decide +kernel)
theorem dX12_textFor_11 : decode cX12_textFor 11 = .ok (.ifCond .lt 66, 3) := oc_155 (a := 0) (b := 66) (by decide +kernel)
theorem dX12_textFor_77 : decode cX12_textFor 77 = .ok (.iconst (-1), 1) := oc_2 (by decide +kernel)
theorem dX12_textFor_78 : decode cX12_textFor 78 = .ok (.ireturn, 1) := oc_172 (by decide +kernel)
theorem dX12_textFor_14 : decode cX12_textFor 14 = .ok (.sipush 2220, 3) := oc_17 (a := 8) (b := 172) (by decide +kernel)
theorem dX12_textFor_17 : decode cX12_textFor 17 = .ok (.iconst 4, 1) := oc_7 (by decide +kernel)
theorem dX12_textFor_18 : decode cX12_textFor 18 = .ok (.iload_n 3, 1) := oc_29 (by decide +kernel)
theorem dX12_textFor_19 : decode cX12_textFor 19 = .ok (.imul, 1) := oc_104 (by decide +kernel)
theorem dX12_textFor_20 : decode cX12_textFor 20 = .ok (.iadd, 1) := oc_96 (by decide +kernel)
theorem dX12_textFor_21 : decode cX12_textFor 21 = .ok (.istore 4, 2) := oc_54 (by decide +kernel)
theorem dX12_textFor_23 : decode cX12_textFor 23 = .ok (.iload_n 2, 1) := oc_28 (by decide +kernel)
theorem dX12_textFor_24 : decode cX12_textFor 24 = .ok (.aload_n 0, 1) := oc_42 (by decide +kernel)
theorem dX12_textFor_25 : decode cX12_textFor 25 = .ok (.getfield 7, 3) := oc_180 (a := 0) (b := 7) (by decide +kernel)
theorem dX12_textFor_28 : decode cX12_textFor 28 = .ok (.iload 4, 2) := oc_21 (by decide +kernel)
theorem dX12_textFor_30 : decode cX12_textFor 30 = .ok (.iconst 1, 1) := oc_4 (by decide +kernel)
theorem dX12_textFor_31 : decode cX12_textFor 31 = .ok (.iadd, 1) := oc_96 (by decide +kernel)
theorem dX12_textFor_32 : decode cX12_textFor 32 = .ok (.iaload, 1) := oc_46 (by decide +kernel)
theorem dX12_textFor_33 : decode cX12_textFor 33 = .ok (.aload_n 0, 1) := oc_42 (by decide +kernel)
theorem dX12_textFor_34 : decode cX12_textFor 34 = .ok (.getfield 7, 3) := oc_180 (a := 0) (b := 7) (by decide +kernel)
theorem dX12_textFor_37 : decode cX12_textFor 37 = .ok (.iload 4, 2) := oc_21 (by decide +kernel)
theorem dX12_textFor_39 : decode cX12_textFor 39 = .ok (.iconst 2, 1) := oc_5 (by decide +kernel)
theorem dX12_textFor_40 : decode cX12_textFor 40 = .ok (.iadd, 1) := oc_96 (by decide +kernel)
theorem dX12_textFor_41 : decode cX12_textFor 41 = .ok (.iaload, 1) := oc_46 (by decide +kernel)
theorem dX12_textFor_42 : decode cX12_textFor 42 = .ok (.invokestatic 62, 3) := oc_184 (a := 0) (b := 62) (by decide +kernel)
theorem dX12_textFor_71 : decode cX12_textFor 71 = .ok (.iinc 3 (-1), 3) := oc_132 (b := 255) (by decide +kernel)
theorem dX12_textFor_74 : decode cX12_textFor 74 = .ok (.goto (-64), 3) := oc_167 (a := 255) (b := 192) (by decide +kernel)
theorem dX12_textFor_45 : decode cX12_textFor 45 = .ok (.ifCond .eq 26, 3) := oc_153 (a := 0) (b := 26) (by decide +kernel)
theorem dX12_textFor_48 : decode cX12_textFor 48 = .ok (.aload_n 0, 1) := oc_42 (by decide +kernel)
theorem dX12_textFor_49 : decode cX12_textFor 49 = .ok (.aload_n 0, 1) := oc_42 (by decide +kernel)
theorem dX12_textFor_50 : decode cX12_textFor 50 = .ok (.getfield 7, 3) := oc_180 (a := 0) (b := 7) (by decide +kernel)
theorem dX12_textFor_53 : decode cX12_textFor 53 = .ok (.iload 4, 2) := oc_21 (by decide +kernel)
theorem dX12_textFor_55 : decode cX12_textFor 55 = .ok (.iaload, 1) := oc_46 (by decide +kernel)
theorem dX12_textFor_56 : decode cX12_textFor 56 = .ok (.iload_n 1, 1) := oc_27 (by decide +kernel)
theorem tw_512 : Cond.methodLink RX12 272 yX12_firstOf ∈ wsL_law := sg_22 _ (List.mem_of_getElem? (i := 8) rfl)
theorem tw_513 : Cond.instanceMethod yX12_firstOf ∈ wsL_law := sg_22 _ (List.mem_of_getElem? (i := 9) rfl)
theorem tw_514 : Cond.selects RX12 yX12_firstOf yX12_firstOf ∈ wsL_law := sg_22 _ (List.mem_of_getElem? (i := 10) rfl)
theorem tw_515 : Cond.code yX12_firstOf cX12_firstOf 4 (some .int) ∈ wsL_law := sg_22 _ (List.mem_of_getElem? (i := 11) rfl)
theorem dX12_textFor_57 : decode cX12_textFor 57 = .ok (.invokevirtual 272, 3) := oc_182 (a := 1) (b := 16) (by decide +kernel)
theorem dX12_textFor_60 : decode cX12_textFor 60 = .ok (.ifCond .lt 11, 3) := oc_155 (a := 0) (b := 11) (by decide +kernel)
theorem dX12_textFor_63 : decode cX12_textFor 63 = .ok (.aload_n 0, 1) := oc_42 (by decide +kernel)
theorem dX12_textFor_64 : decode cX12_textFor 64 = .ok (.getfield 7, 3) := oc_180 (a := 0) (b := 7) (by decide +kernel)
theorem dX12_textFor_67 : decode cX12_textFor 67 = .ok (.iload 4, 2) := oc_21 (by decide +kernel)
theorem dX12_textFor_69 : decode cX12_textFor 69 = .ok (.iaload, 1) := oc_46 (by decide +kernel)
theorem dX12_textFor_70 : decode cX12_textFor 70 = .ok (.ireturn, 1) := oc_172 (by decide +kernel)
theorem dX12_keysFor_0 : decode cX12_keysFor 0 = .ok (.aload_n 0, 1) := oc_42 (by decide +kernel)
theorem dX12_keysFor_1 : decode cX12_keysFor 1 = .ok (.iload_n 1, 1) := oc_27 (by decide +kernel)
theorem dX12_keysFor_2 : decode cX12_keysFor 2 = .ok (.iload_n 2, 1) := oc_28 (by decide +kernel)
theorem tw_508 : Cond.methodLink RX12 275 yX12_textFor ∈ wsL_law := sg_22 _ (List.mem_of_getElem? (i := 4) rfl)
theorem tw_509 : Cond.instanceMethod yX12_textFor ∈ wsL_law := sg_22 _ (List.mem_of_getElem? (i := 5) rfl)
theorem tw_510 : Cond.selects RX12 yX12_textFor yX12_textFor ∈ wsL_law := sg_22 _ (List.mem_of_getElem? (i := 6) rfl)
theorem tw_511 : Cond.code yX12_textFor cX12_textFor 5 (some .int) ∈ wsL_law := sg_22 _ (List.mem_of_getElem? (i := 7) rfl)
theorem dX12_keysFor_3 : decode cX12_keysFor 3 = .ok (.invokevirtual 275, 3) := oc_182 (a := 1) (b := 19) (by decide +kernel)
theorem dX12_keysFor_6 : decode cX12_keysFor 6 = .ok (.istore_n 3, 1) := oc_62 (by decide +kernel)
theorem dX12_keysFor_7 : decode cX12_keysFor 7 = .ok (.aload_n 0, 1) := oc_42 (by decide +kernel)
theorem dX12_keysFor_8 : decode cX12_keysFor 8 = .ok (.iload_n 3, 1) := oc_29 (by decide +kernel)
theorem dX12_keysFor_9 : decode cX12_keysFor 9 = .ok (.ifCond .ge 7, 3) := oc_156 (a := 0) (b := 7) (by decide +kernel)
theorem dX12_keysFor_16 : decode cX12_keysFor 16 = .ok (.aload_n 0, 1) := oc_42 (by decide +kernel)
theorem dX12_keysFor_17 : decode cX12_keysFor 17 = .ok (.iload_n 3, 1) := oc_29 (by decide +kernel)
theorem dX12_keysFor_18 : decode cX12_keysFor 18 = .ok (.iload_n 1, 1) := oc_27 (by decide +kernel)
theorem dX12_keysFor_19 : decode cX12_keysFor 19 = .ok (.invokevirtual 272, 3) := oc_182 (a := 1) (b := 16) (by decide +kernel)
theorem tw_507 : Cond.fieldLink RX12 307 "RingsUnderModel" "keys0" "I" ∈ wsL_law := sg_22 _ (List.mem_of_getElem? (i := 3) rfl)
theorem dX12_keysFor_22 : decode cX12_keysFor 22 = .ok (.putfield 307, 3) := oc_181 (a := 1) (b := 51) (by decide +kernel)
theorem dX12_keysFor_25 : decode cX12_keysFor 25 = .ok (.iload_n 3, 1) := oc_29 (by decide +kernel)
theorem dX12_keysFor_26 : decode cX12_keysFor 26 = .ok (.ifCond .lt 7, 3) := oc_155 (a := 0) (b := 7) (by decide +kernel)
theorem dX12_keysFor_29 : decode cX12_keysFor 29 = .ok (.iconst 1, 1) := oc_4 (by decide +kernel)
theorem dX12_keysFor_30 : decode cX12_keysFor 30 = .ok (.goto 4, 3) := oc_167 (a := 0) (b := 4) (by decide +kernel)
theorem dX12_keysFor_34 : decode cX12_keysFor 34 = .ok (.ireturn, 1) := oc_172 (by decide +kernel)
theorem dX12_keysFor_12 : decode cX12_keysFor 12 = .ok (.iconst (-1), 1) := oc_2 (by decide +kernel)
theorem dX12_keysFor_13 : decode cX12_keysFor 13 = .ok (.goto 9, 3) := oc_167 (a := 0) (b := 9) (by decide +kernel)
theorem dX12_keysFor_33 : decode cX12_keysFor 33 = .ok (.iconst 0, 1) := oc_3 (by decide +kernel)
set_option maxRecDepth 100000 in
def g_X12_personAt_c3 (a0 : Int32) (I : Nat → Int32) (J : Nat → Int64) (ri : Nat → Nat → Int32) (rj : Nat → Nat → Int64) (rq : Nat → Nat → Option Nat) : Int32 × vM := (ap1 ((12 : Int32) * a0) fun (x_1 : Int32) => (ap1 ((740 : Int32) + x_1) fun (x_3 : Int32) => (ap1 (x_3 + (3 : Int32)) fun (x_5 : Int32) => (ap1 (ri 384 (x_5).toNatClampNeg) fun (x_7 : Int32) => (x_7, I, J, ri, rj, rq)))))
set_option maxRecDepth 100000 in
theorem g_X12_personAt_c3_e {a0 : Int32} {I : Nat → Int32} {J : Nat → Int64} {ri : Nat → Nat → Int32} {rj : Nat → Nat → Int64} {rq : Nat → Nat → Option Nat} : g_X12_personAt_c3 a0 I J ri rj rq = (ap1 ((12 : Int32) * a0) fun (x_1 : Int32) => (ap1 ((740 : Int32) + x_1) fun (x_3 : Int32) => (ap1 (x_3 + (3 : Int32)) fun (x_5 : Int32) => (ap1 (ri 384 (x_5).toNatClampNeg) fun (x_7 : Int32) => (x_7, I, J, ri, rj, rq))))) := rfl
set_option maxHeartbeats 4000000 in
set_option maxRecDepth 100000 in
theorem s_X12_personAt_c3 (l : Launch) (D : va_G) (t : pq_T) (σ : pq_S) (I : Nat → Nat → Int32) (J : Nat → Nat → Int64) (ri : Nat → Nat → Int32) (rj : Nat → Nat → Int64) (rq : Nat → Nat → Option Nat) (sz : Nat) (tg : Nat → Nat) (hSH : SH σ tg) (hG0 : GT tg I ri) (this : Nat) (a0 : Int32) (hL_this : this ∈ σ.1) (hK_this : σ.2.1 this = 12) (h_a0 : rg a0 0 39) (this_a : Nat) (hR_this_a : σ.2.2.1 384 this = some this_a) (hL_this_a : this_a ∈ σ.1) (hK_this_a : σ.2.1 this_a = 13) (hN_this_a : σ.2.2.2 this_a = 12720) (hT_this_a : tg this_a = 384) : MetI l yX12_personAt (wa yX12_personAt cX12_personAt 3 (some .int)) ({ frames := 0, cells := 0, slots := 0, locals := 0 }) [.ref this, .int a0, .int 3] D t σ (I, J, ri, rj, rq) sz 0 0 (fun (r : Int32) (u : pq_S × pq_M) => u = (σ, I, J, ri, rj, rq) ∧ (r = ri this_a (743 + 12 * a0.toNatClampNeg)) ∧ (r.toInt < 5 ∨ 100 ≤ r.toInt) ∧ g_X12_personAt_c3 a0 (vI 12 σ this I) (vJ 12 σ this J) (vR 12 σ this ri) (vL 12 σ this rj) (vQ 12 σ this rq) = (r, (vI 12 σ this I), (vJ 12 σ this J), (vR 12 σ this ri), (vL 12 σ this rj), (vQ 12 σ this rq)) ∧ rg r 0 300) := by
  refine Met.ofW (cc := cX12_personAt) (maxL := 3) (ret := (some .int)) (by decide +kernel) rfl ?_
  intro p e s m args below meth c s₁ B hml hv
  obtain ⟨rfl, hsz, hP, hK, hD0, hN⟩ := hv
  have hx := B.exec
  have hb := B.bytes
  have hr := B.returns
  have hts := atoms_spec (ws := (wa yX12_personAt cX12_personAt 3 (some .int))) B.pre
  have hown : s.vm.findClass RX12 = some m.cls := findClass_of_methodNamed B.named
  have hlocks := B.notSynchronized
  subst hsz
  have hD : va_D (pq_B t σ (I, J, ri, rj, rq) s.heap.size) (pq_P t σ (I, J, ri, rj, rq)) := hD0.self
  generalize hAe : pq_B t σ (I, J, ri, rj, rq) s.heap.size = A at hD ⊢
  have hA : ∀ q : Nat, s.heap.size ≤ q → A q := fun q h => by rw [← hAe]; exact Or.inr h
  have hS : va_S A s.heap s.heap [] := va_S.rf
  have hG : GM [] tg σ I ri I ri rq := ⟨hG0, fun _ _ _ => rfl, fun _ _ _ _ _ => rfl, fun _ _ _ _ _ _ => rfl⟩
  have hl := lv_entry ([.ref this, .int a0, .int 3]) (n := 3) (Nat.le_of_ble_eq_true rfl)
  rw [lg_entry_eq]
  generalize (lg_sl ([.ref this, .int a0, .int 3]) ++ List.replicate (3 - (lg_sl ([.ref this, .int a0, .int 3])).length) Slot.unset).toArray = ls at hl ⊢
  have hl : lv_has ls 3 [(0, .ref this), (1, .int a0), (2, .int 3)] := hl
  refine q_gen (fun Q hQ => ?_)
  have go : ∀ (H : Heap) (locs : List Loc) (ls : Array Slot), va_P D vwCl (pq_P t σ (I, J, ri, rj, rq)) H → va_D A (pq_P t σ (I, J, ri, rj, rq)) → va_S A s.heap H locs → lv_has ls 3 [(0, .ref this), (1, .int a0), (2, .int 3)] → W p l e ({ frames := 0, cells := 0, slots := 0, locals := 0 } : Room) s m (List.toArray ([.ref this, .int a0, .int 3] : List Value)) below meth c H locs 0 0 Q (F0 m 0 ls []) := by
    intro H locs ls hP hD hS hl
    have hO_this : this = vo σ 12 this := rfl
    have hVT : VT 12 σ tg this := vt_12 hSH hL_this hK_this
    have hFr : FR 12 tg σ this (I, J, ri, rj, rq) (I, J, ri, rj, rq) := fr_rf
    have hO_this_a : this_a = vrow σ 384 this := vo_k (c := 12) hO_this hR_this_a
    obtain ⟨F, hF0⟩ : ∃ F, F = g_X12_personAt_c3 a0 (vI 12 σ this I) (vJ 12 σ this J) (vR 12 σ this ri) (vL 12 σ this rj) (vQ 12 σ this rq) := ⟨_, rfl⟩
    have hF := hF0.trans g_X12_personAt_c3_e
    refine lv_aload_n hx hb dX12_personAt_0 rfl (lv_at hl 0 rfl) ?_
    refine pg_f (v := .ref this_a) (C := RX12) (T := TX12) (N := 31) hx hb hts (tw_i inlX12) hown hK hP hL_this hK_this (by decide +kernel) rfl 0 (by decide +kernel) (hts _ (tw_c tw_176)) (pq_hv rfl hR_this_a) dX12_personAt_1 ?_
    refine lv_sipush (v := 740) hx hb dX12_personAt_4 (by decide +kernel) ?_
    refine lv_bipush (v := 12) hx hb dX12_personAt_7 (by decide +kernel) ?_
    refine lv_iload_n hx hb dX12_personAt_9 rfl (lv_at hl 1 rfl) ?_
    refine lv_imul hx hb dX12_personAt_10 ?_
    refine lv_topi (fun x_1 ex_1 => ?_)
    replace hF := hF.trans (ap_n ex_1)
    have h_2 : rg x_1 0 468 := rg_of_eq ex_1 (rg_mul (rg_k (12 : Int32) 12 rfl) h_a0 (by decide +kernel))
    have uh_2 := h_2.1
    have vh_2 := h_2.2
    have tx_1 : (x_1).toInt = 12 * (a0).toInt := by rw [ex_1]; exact i_mul_rg (a2 := 12) (b2 := (a0).toInt) rfl rfl (rg_k (12 : Int32) 12 rfl) h_a0 (by decide +kernel)
    refine lv_iadd hx hb dX12_personAt_11 ?_
    refine lv_topi (fun x_3 ex_3 => ?_)
    replace hF := hF.trans (ap_n ex_3)
    have h_4 : rg x_3 740 1208 := rg_of_eq ex_3 (rg_add (rg_k (740 : Int32) 740 rfl) h_2 (by decide +kernel))
    have uh_4 := h_4.1
    have vh_4 := h_4.2
    have tx_3 : (x_3).toInt = 740 + (x_1).toInt := by rw [ex_3]; exact i_add_rg (a2 := 740) (b2 := (x_1).toInt) rfl rfl (rg_k (740 : Int32) 740 rfl) h_2 (by decide +kernel)
    refine lv_iload_n hx hb dX12_personAt_12 rfl (lv_at hl 2 rfl) ?_
    refine lv_iadd hx hb dX12_personAt_13 ?_
    refine lv_topi (fun x_5 ex_5 => ?_)
    replace hF := hF.trans (ap_n ex_5)
    have h_6 : rg x_5 743 1211 := rg_of_eq ex_5 (rg_add h_4 (rg_k (3 : Int32) 3 rfl) (by decide +kernel))
    have uh_6 := h_6.1
    have vh_6 := h_6.2
    have tx_5 : (x_5).toInt = (x_3).toInt + 3 := by rw [ex_5]; exact i_add_rg (a2 := (x_3).toInt) (b2 := 3) rfl rfl h_4 (rg_k (3 : Int32) 3 rfl) (by decide +kernel)
    refine pl_i hx hb hK hP hL_this_a hK_this_a hN_this_a (rg_in h_6 (by decide +kernel)) dX12_personAt_14 ?_
    refine lv_topi (fun x_7 ex_7 => ?_)
    replace hF := hF.trans (ap_n (vR_r hO_this_a (by decide +kernel) ex_7))
    have h_8 : rg x_7 0 300 := rg_of_eq ex_7 (GM.z hG (by rw [hT_this_a]; decide) (zn_PERSON (c := a0.toNatClampNeg) (k := 3) (by have z_i := clampE x_5; have z_0 := clampE a0; omega) (rg_cl1 h_a0 (by decide +kernel)) (by decide +kernel)) rfl)
    have uh_8 := h_8.1
    have vh_8 := h_8.2
    subst hQ
    exact W.iret (v := x_7) hx hb hr (fun t1 ht hW => ⟨⟨x_7, (σ, I, J, ri, rj, rq), rfl, ⟨rfl, (show x_7 = ri this_a (743 + 12 * a0.toNatClampNeg) from ex_7.trans (congrArg (ri this_a) (by have z0 := clampE a0; have z1 := clampE x_5; omega))), (by rw [ex_7]; exact GM.hole hG (by rw [hT_this_a]; decide) (zn_PERSON (c := a0.toNatClampNeg) (k := 3) (by have z_i := clampE x_5; have z_0 := clampE a0; omega) (rg_cl1 h_a0 (by decide +kernel)) (by decide +kernel))), (hF0.symm.trans hF), (rg_w h_8 (by decide +kernel))⟩, by rw [ht]; exact hP, va_K.moved hW.alike hK, hD⟩, hS.F ht⟩) hS.2.2 dX12_personAt_15
  exact go _ _ _ hP hD hS hl

set_option maxRecDepth 100000 in
def g_X12_manyAt_K30 (x_828 : Int32) (x_829 : Int32) (k_g_X12_manyAt_L4 : (Int32) → (Int32) → Int32 × vM) : Int32 × vM := (ap1 (x_828 + (0 : Int32)) fun (x_902 : Int32) => (ap1 (x_829 + Int32.ofInt 1) fun (x_904 : Int32) => (k_g_X12_manyAt_L4 x_902 x_904)))
set_option maxRecDepth 100000 in
theorem g_X12_manyAt_K30_e {x_828 : Int32} {x_829 : Int32} {k_g_X12_manyAt_L4 : (Int32) → (Int32) → Int32 × vM} : g_X12_manyAt_K30 x_828 x_829 k_g_X12_manyAt_L4  = (ap1 (x_828 + (0 : Int32)) fun (x_902 : Int32) => (ap1 (x_829 + Int32.ofInt 1) fun (x_904 : Int32) => (k_g_X12_manyAt_L4 x_902 x_904))) := rfl
set_option maxRecDepth 100000 in
def g_X12_manyAt_K30_2 (x_828 : Int32) (x_829 : Int32) (k_g_X12_manyAt_L4 : (Int32) → (Int32) → Int32 × vM) : Int32 × vM := (ap1 (x_828 + (1 : Int32)) fun (x_909 : Int32) => (ap1 (x_829 + Int32.ofInt 1) fun (x_910 : Int32) => (k_g_X12_manyAt_L4 x_909 x_910)))
set_option maxRecDepth 100000 in
theorem g_X12_manyAt_K30_2_e {x_828 : Int32} {x_829 : Int32} {k_g_X12_manyAt_L4 : (Int32) → (Int32) → Int32 × vM} : g_X12_manyAt_K30_2 x_828 x_829 k_g_X12_manyAt_L4  = (ap1 (x_828 + (1 : Int32)) fun (x_909 : Int32) => (ap1 (x_829 + Int32.ofInt 1) fun (x_910 : Int32) => (k_g_X12_manyAt_L4 x_909 x_910))) := rfl
set_option maxRecDepth 100000 in
def g_X12_manyAt_L4 (a0 : Int32) (I : Nat → Int32) (J : Nat → Int64) (ri : Nat → Nat → Int32) (rj : Nat → Nat → Int64) (rq : Nat → Nat → Option Nat) : Nat → (Int32) → (Int32) → Int32 × vM
  | 0, x_828, x_829 => ((0 : Int32), I, J, ri, rj, rq)
  | n_862 + 1, x_828, x_829 => (ap1 (ri 384 5) fun (y_869 : Int32) => (if (y_869) ≤ x_829 then (x_828, I, J, ri, rj, rq) else (bnI (g_X12_personAt_c3 x_829 I J ri rj rq) fun (x_879 : Int32) (_ : Nat → Int32) (_ : Nat → Int64) (_ : Nat → Nat → Int32) (_ : Nat → Nat → Int64) (_ : Nat → Nat → Option Nat) => (if x_879 = a0 then (g_X12_manyAt_K30_2 x_828 x_829 (g_X12_manyAt_L4 a0 I J ri rj rq n_862) ) else (g_X12_manyAt_K30 x_828 x_829 (g_X12_manyAt_L4 a0 I J ri rj rq n_862) )))))
set_option maxRecDepth 100000 in
theorem g_X12_manyAt_L4_e {a0 : Int32} {I : Nat → Int32} {J : Nat → Int64} {ri : Nat → Nat → Int32} {rj : Nat → Nat → Int64} {rq : Nat → Nat → Option Nat} {n_862 : Nat} {x_828 : Int32} {x_829 : Int32} : g_X12_manyAt_L4 a0 I J ri rj rq (n_862 + 1) x_828 x_829 = (ap1 (ri 384 5) fun (y_869 : Int32) => (if (y_869) ≤ x_829 then (x_828, I, J, ri, rj, rq) else (bnI (g_X12_personAt_c3 x_829 I J ri rj rq) fun (x_879 : Int32) (_ : Nat → Int32) (_ : Nat → Int64) (_ : Nat → Nat → Int32) (_ : Nat → Nat → Int64) (_ : Nat → Nat → Option Nat) => (if x_879 = a0 then (g_X12_manyAt_K30_2 x_828 x_829 (g_X12_manyAt_L4 a0 I J ri rj rq n_862) ) else (g_X12_manyAt_K30 x_828 x_829 (g_X12_manyAt_L4 a0 I J ri rj rq n_862) ))))) := rfl
set_option maxRecDepth 100000 in
def g_X12_manyAt (a0 : Int32) (I : Nat → Int32) (J : Nat → Int64) (ri : Nat → Nat → Int32) (rj : Nat → Nat → Int64) (rq : Nat → Nat → Option Nat) : Int32 × vM := (g_X12_manyAt_L4 a0 I J ri rj rq ((40 - ((0 : Int32)).toInt).toNat + 1) (0 : Int32) (0 : Int32))
set_option maxRecDepth 100000 in
theorem g_X12_manyAt_e {a0 : Int32} {I : Nat → Int32} {J : Nat → Int64} {ri : Nat → Nat → Int32} {rj : Nat → Nat → Int64} {rq : Nat → Nat → Option Nat} : g_X12_manyAt a0 I J ri rj rq = (g_X12_manyAt_L4 a0 I J ri rj rq ((40 - ((0 : Int32)).toInt).toNat + 1) (0 : Int32) (0 : Int32)) := rfl
set_option maxHeartbeats 4000000 in
set_option maxRecDepth 100000 in
theorem s_X12_manyAt (l : Launch) (D : va_G) (t : pq_T) (σ : pq_S) (I : Nat → Nat → Int32) (J : Nat → Nat → Int64) (ri : Nat → Nat → Int32) (rj : Nat → Nat → Int64) (rq : Nat → Nat → Option Nat) (sz : Nat) (tg : Nat → Nat) (hSH : SH σ tg) (hG0 : GT tg I ri) (this : Nat) (a0 : Int32) (hL_this : this ∈ σ.1) (hK_this : σ.2.1 this = 12) : MetI l yX12_manyAt (wa yX12_manyAt cX12_manyAt 4 (some .int)) ({ frames := 1, cells := 0, slots := 0, locals := 22 }) [.ref this, .int a0] D t σ (I, J, ri, rj, rq) sz 0 0 (fun (r : Int32) (u : pq_S × pq_M) => u = (σ, I, J, ri, rj, rq) ∧ g_X12_manyAt a0 (vI 12 σ this I) (vJ 12 σ this J) (vR 12 σ this ri) (vL 12 σ this rj) (vQ 12 σ this rq) = (r, (vI 12 σ this I), (vJ 12 σ this J), (vR 12 σ this ri), (vL 12 σ this rj), (vQ 12 σ this rq))) := by
  refine Met.ofW (cc := cX12_manyAt) (maxL := 4) (ret := (some .int)) (by decide +kernel) rfl ?_
  intro p e s m args below meth c s₁ B hml hv
  obtain ⟨rfl, hsz, hP, hK, hD0, hN⟩ := hv
  have hx := B.exec
  have hb := B.bytes
  have hr := B.returns
  have hts := atoms_spec (ws := (wa yX12_manyAt cX12_manyAt 4 (some .int))) B.pre
  have hown : s.vm.findClass RX12 = some m.cls := findClass_of_methodNamed B.named
  have hlocks := B.notSynchronized
  subst hsz
  have hD : va_D (pq_B t σ (I, J, ri, rj, rq) s.heap.size) (pq_P t σ (I, J, ri, rj, rq)) := hD0.self
  generalize hAe : pq_B t σ (I, J, ri, rj, rq) s.heap.size = A at hD ⊢
  have hA : ∀ q : Nat, s.heap.size ≤ q → A q := fun q h => by rw [← hAe]; exact Or.inr h
  have hS : va_S A s.heap s.heap [] := va_S.rf
  have hG : GM [] tg σ I ri I ri rq := ⟨hG0, fun _ _ _ => rfl, fun _ _ _ _ _ => rfl, fun _ _ _ _ _ _ => rfl⟩
  have hl := lv_entry ([.ref this, .int a0]) (n := 4) (Nat.le_of_ble_eq_true rfl)
  rw [lg_entry_eq]
  generalize (lg_sl ([.ref this, .int a0]) ++ List.replicate (4 - (lg_sl ([.ref this, .int a0])).length) Slot.unset).toArray = ls at hl ⊢
  have hl : lv_has ls 4 [(0, .ref this), (1, .int a0)] := hl
  refine q_gen (fun Q hQ => ?_)
  have go : ∀ (H : Heap) (locs : List Loc) (ls : Array Slot), va_P D vwCl (pq_P t σ (I, J, ri, rj, rq)) H → va_D A (pq_P t σ (I, J, ri, rj, rq)) → va_S A s.heap H locs → lv_has ls 4 [(0, .ref this), (1, .int a0)] → W p l e ({ frames := 1, cells := 0, slots := 0, locals := 22 } : Room) s m (List.toArray ([.ref this, .int a0] : List Value)) below meth c H locs 0 0 Q (F0 m 0 ls []) := by
    intro H locs ls hP hD hS hl
    have hO_this : this = vo σ 12 this := rfl
    have hVT : VT 12 σ tg this := vt_12 hSH hL_this hK_this
    have hFr : FR 12 tg σ this (I, J, ri, rj, rq) (I, J, ri, rj, rq) := fr_rf
    obtain ⟨F, hF0⟩ : ∃ F, F = g_X12_manyAt a0 (vI 12 σ this I) (vJ 12 σ this J) (vR 12 σ this ri) (vL 12 σ this rj) (vQ 12 σ this rq) := ⟨_, rfl⟩
    have hF := hF0.trans g_X12_manyAt_e
    refine lv_iconst (v := 0) hx hb dX12_manyAt_0 (by decide +kernel) ?_
    refine lv_istore_n (lv' := [(2, .int 0), (0, .ref this), (1, .int a0)]) hx hb dX12_manyAt_1 rfl hl (by decide +kernel) rfl (fun ls hl => ?_)
    refine lv_iconst (v := 0) hx hb dX12_manyAt_2 (by decide +kernel) ?_
    refine lv_istore_n (lv' := [(3, .int 0), (2, .int 0), (0, .ref this), (1, .int a0)]) hx hb dX12_manyAt_3 rfl hl (by decide +kernel) rfl (fun ls hl => ?_)
    have L_863 : ∀ (n_862 : Nat) (x_828 : Int32) (x_829 : Int32) (H : Heap) (locs : List Loc) (ls : Array Slot), rg x_829 0 40 → (40 - (x_829).toInt).toNat < n_862 → F = g_X12_manyAt_L4 a0 (vI 12 σ this I) (vJ 12 σ this J) (vR 12 σ this ri) (vL 12 σ this rj) (vQ 12 σ this rq) n_862 x_828 x_829 → FR 12 tg σ this (I, J, ri, rj, rq) (I, J, ri, rj, rq) → GM [] tg σ I ri I ri rq → va_P D vwCl (pq_P t σ (I, J, ri, rj, rq)) H → va_D A (pq_P t σ (I, J, ri, rj, rq)) → va_S A s.heap H locs → lv_has ls 4 [(0, .ref this), (1, .int a0), (2, .int x_828), (3, .int x_829)] → W p l e ({ frames := 1, cells := 0, slots := 0, locals := 22 } : Room) s m (List.toArray ([.ref this, .int a0] : List Value)) below meth c H locs 0 0 Q (F0 m 4 ls []) := by
      intro n_862
      induction n_862 with
      | zero => intro x_828 x_829 H locs ls h_866 hm_861 hF hFr hG hP hD hS hl; exact absurd hm_861 (Nat.not_lt_zero _)
      | succ n_862 ih_864 =>
        intro x_828 x_829 H locs ls h_866 hm_861 hF hFr hG hP hD hS hl
        have uh_866 := h_866.1
        have vh_866 := h_866.2
        replace hF := hF.trans g_X12_manyAt_L4_e
        refine lv_iload_n hx hb dX12_manyAt_4 rfl (lv_at hl 3 rfl) ?_
        refine lv_aload_n hx hb dX12_manyAt_5 rfl (lv_at hl 0 rfl) ?_
        obtain ⟨w_867, hR_w_867, hL_w_867, hK_w_867, hN_w_867, hT_w_867⟩ := sh_a hSH 384 (ci := 12) (kd := 13) (len := 12720) rfl (by decide +kernel) hL_this hK_this
        have hO_w_867 : w_867 = vrow σ 384 this := vo_k (c := 12) hO_this hR_w_867
        refine pg_f (v := .ref w_867) (C := RX12) (T := TX12) (N := 31) hx hb hts (tw_i inlX12) hown hK hP hL_this hK_this (by decide +kernel) rfl 0 (by decide +kernel) (hts _ (tw_c tw_176)) (pq_hv rfl hR_w_867) dX12_manyAt_6 ?_
        refine lv_iconst (v := 5) hx hb dX12_manyAt_9 (by decide +kernel) ?_
        refine pl_i hx hb hK hP hL_w_867 hK_w_867 hN_w_867 (vp_in_iff.mpr (by decide +kernel)) dX12_manyAt_10 ?_
        refine lv_tov (ri w_867 5) rfl ?_
        have h_868 : rg (ri w_867 5) 0 40 := GM.z0 hG0 (by rw [hT_w_867]; decide) (i := 5) (k := 5) (by decide +kernel) rfl
        have uh_868 := h_868.1
        have vh_868 := h_868.2
        replace hF := hF.trans (ap_n (vR_r hO_w_867 (by decide +kernel) rfl))
        refine lv_icmp_ge (tgt := 38) hx hb dX12_manyAt_11 (by decide +kernel) (fun c_870 => ?_) (fun c_870 => ?_)
        · replace hF := hF.trans (if_pos c_870)
          have tc_875 : (ri w_867 5).toInt ≤ (x_829).toInt := Int32.le_iff_toInt_le.mp c_870
          refine lv_iload_n hx hb dX12_manyAt_38 rfl (lv_at hl 2 rfl) ?_
          subst hQ
          exact W.iret (v := x_828) hx hb hr (fun t1 ht hW => ⟨⟨x_828, (σ, I, J, ri, rj, rq), rfl, ⟨rfl, (hF0.symm.trans hF)⟩, by rw [ht]; exact hP, va_K.moved hW.alike hK, hD⟩, hS.F ht⟩) hS.2.2 dX12_manyAt_39
        · replace hF := hF.trans (if_neg c_870)
          have tc_876 : (x_829).toInt < (ri w_867 5).toInt := Int32.lt_iff_toInt_lt.mp (nle c_870)
          have h_877 : rg x_829 0 39 := rg_lt1 (nle c_870) h_866 h_868 (by decide +kernel)
          have uh_877 := h_877.1
          have vh_877 := h_877.2
          have h_878 : rg (ri w_867 5) 1 40 := rg_lt2 (nle c_870) h_866 h_868 (by decide +kernel)
          have uh_878 := h_878.1
          have vh_878 := h_878.2
          refine lv_iload_n hx hb dX12_manyAt_14 rfl (lv_at hl 2 rfl) ?_
          refine lv_aload_n hx hb dX12_manyAt_15 rfl (lv_at hl 0 rfl) ?_
          refine lv_iload_n hx hb dX12_manyAt_16 rfl (lv_at hl 3 rfl) ?_
          refine lv_iconst (v := 3) hx hb dX12_manyAt_17 (by decide +kernel) ?_
          refine pk_i (va_runV (As := [.int x_829, .int 3]) (rest := [.int x_828]) ⟨hx, hb, hml, hown, hts⟩ (s_X12_personAt_c3 l D t σ I J ri rj rq H.size tg hSH hG.1 this x_829 hL_this hK_this (rg_w h_877 (by decide +kernel)) w_867 hR_w_867 hL_w_867 hK_w_867 hN_w_867 hT_w_867) (cwV 2 hts (tw_V tw_437 tw_438 tw_439 tw_5 tw_440) rfl rfl rfl cv_yX12_personAt_2 ⟨Nat.le_of_ble_eq_true rfl, Nat.le_of_ble_eq_true rfl⟩) ⟨pq_blind, pq_recv hK hP hL_this hK_this (by decide +kernel) rfl, pq_pre hK hN hP hD⟩ rfl rfl hl.1 rfl (lv_room (Nat.le_of_ble_eq_true rfl)) dX12_manyAt_18 ⟨Nat.le_of_ble_eq_true rfl, Nat.le_of_ble_eq_true rfl⟩) hD hS hA (fun x_879 σ1 μ1 H locs hw_880 hP hD hS => ?_)
          obtain ⟨hu_881, hp_884, hp_885, hfn_886, hr_883⟩ := hw_880
          obtain ⟨hu_881a, hu_881b⟩ := Prod.mk.inj hu_881
          rw [hu_881a, hu_881b] at hP hD
          replace hF := hF.trans (bn_n hfn_886)
          have tt_888 := hp_885
          refine lv_iload_n hx hb dX12_manyAt_21 rfl (lv_at hl 1 rfl) ?_
          have K_901 : ∀  (H : Heap) (locs : List Loc) (ls : Array Slot), F = g_X12_manyAt_K30 x_828 x_829 (g_X12_manyAt_L4 a0 (vI 12 σ this I) (vJ 12 σ this J) (vR 12 σ this ri) (vL 12 σ this rj) (vQ 12 σ this rq) n_862)  → FR 12 tg σ this (I, J, ri, rj, rq) (I, J, ri, rj, rq) → GM [] tg σ I ri I ri rq → va_P D vwCl (pq_P t σ (I, J, ri, rj, rq)) H → va_D A (pq_P t σ (I, J, ri, rj, rq)) → va_S A s.heap H locs → lv_has ls 4 [(0, .ref this), (1, .int a0), (3, .int x_829)] → W p l e ({ frames := 1, cells := 0, slots := 0, locals := 22 } : Room) s m (List.toArray ([.ref this, .int a0] : List Value)) below meth c H locs 0 0 Q (F0 m 30 ls [.int 0, .int x_828]) := by
            intro H locs ls hF hFr hG hP hD hS hl
            replace hF := hF.trans g_X12_manyAt_K30_e
            refine lv_iadd hx hb dX12_manyAt_30 ?_
            refine lv_topi (fun x_902 ex_902 => ?_)
            replace hF := hF.trans (ap_n ex_902)
            have h_903 : rg x_902 (-2147483648) 2147483647 := rg_of_eq ex_902 (rg_add (rg_full _) (rg_k (0 : Int32) 0 rfl) (by decide +kernel))
            have uh_903 := h_903.1
            have vh_903 := h_903.2
            have tx_902 : (x_902).toInt = (x_828).toInt + 0 := by rw [ex_902]; exact i_add_rg (a2 := (x_828).toInt) (b2 := 0) rfl rfl (rg_full _) (rg_k (0 : Int32) 0 rfl) (by decide +kernel)
            refine lv_istore_n (lv' := [(2, .int x_902), (0, .ref this), (1, .int a0), (3, .int x_829)]) hx hb dX12_manyAt_31 rfl hl (by decide +kernel) rfl (fun ls hl => ?_)
            obtain ⟨x_904, ex_904⟩ : ∃ y : Int32, y = x_829 + Int32.ofInt 1 := ⟨_, rfl⟩
            replace hF := hF.trans (ap_n ex_904)
            have h_905 : rg x_904 1 40 := rg_of_eq ex_904 (rg_add h_877 (rg_k (Int32.ofInt 1) 1 rfl) (by decide +kernel))
            have uh_905 := h_905.1
            have vh_905 := h_905.2
            have tx_904 : (x_904).toInt = (x_829).toInt + 1 := by rw [ex_904]; exact i_add_rg (a2 := (x_829).toInt) (b2 := 1) rfl rfl h_877 (rg_k (Int32.ofInt 1) 1 rfl) (by decide +kernel)
            refine lv_iinc (v := x_904) (lv' := [(3, .int x_904), (2, .int x_902), (0, .ref this), (1, .int a0)]) hx hb dX12_manyAt_32 hl (k := 3) rfl ex_904.symm (by decide +kernel) rfl (fun ls hl => ?_)
            refine lv_goto (tgt := 4) hx hb dX12_manyAt_35 (by decide +kernel) ?_
            exact ih_864 x_902 x_904 _ _ _ (rg_w h_905 (by decide +kernel)) (ms_up 1 hm_861 ex_904 rfl (by decide +kernel) h_877 (by decide +kernel) (by decide +kernel)) hF hFr hG hP hD hS (lv_sub hl [2, 3, 1, 0] rfl)
          have K_906 : ∀  (H : Heap) (locs : List Loc) (ls : Array Slot), rg (a0) 0 300 → F = g_X12_manyAt_K30_2 x_828 x_829 (g_X12_manyAt_L4 a0 (vI 12 σ this I) (vJ 12 σ this J) (vR 12 σ this ri) (vL 12 σ this rj) (vQ 12 σ this rq) n_862)  → FR 12 tg σ this (I, J, ri, rj, rq) (I, J, ri, rj, rq) → GM [] tg σ I ri I ri rq → va_P D vwCl (pq_P t σ (I, J, ri, rj, rq)) H → va_D A (pq_P t σ (I, J, ri, rj, rq)) → va_S A s.heap H locs → lv_has ls 4 [(0, .ref this), (1, .int a0), (3, .int x_829)] → W p l e ({ frames := 1, cells := 0, slots := 0, locals := 22 } : Room) s m (List.toArray ([.ref this, .int a0] : List Value)) below meth c H locs 0 0 Q (F0 m 30 ls [.int 1, .int x_828]) := by
            intro H locs ls h_908 hF hFr hG hP hD hS hl
            have uh_908 := h_908.1
            have vh_908 := h_908.2
            replace hF := hF.trans g_X12_manyAt_K30_2_e
            refine lv_iadd hx hb dX12_manyAt_30 ?_
            refine lv_topi (fun x_909 ex_909 => ?_)
            replace hF := hF.trans (ap_n ex_909)
            refine lv_istore_n (lv' := [(2, .int x_909), (0, .ref this), (1, .int a0), (3, .int x_829)]) hx hb dX12_manyAt_31 rfl hl (by decide +kernel) rfl (fun ls hl => ?_)
            obtain ⟨x_910, ex_910⟩ : ∃ y : Int32, y = x_829 + Int32.ofInt 1 := ⟨_, rfl⟩
            replace hF := hF.trans (ap_n ex_910)
            have h_911 : rg x_910 1 40 := rg_of_eq ex_910 (rg_add h_877 (rg_k (Int32.ofInt 1) 1 rfl) (by decide +kernel))
            have uh_911 := h_911.1
            have vh_911 := h_911.2
            have tx_910 : (x_910).toInt = (x_829).toInt + 1 := by rw [ex_910]; exact i_add_rg (a2 := (x_829).toInt) (b2 := 1) rfl rfl h_877 (rg_k (Int32.ofInt 1) 1 rfl) (by decide +kernel)
            refine lv_iinc (v := x_910) (lv' := [(3, .int x_910), (2, .int x_909), (0, .ref this), (1, .int a0)]) hx hb dX12_manyAt_32 hl (k := 3) rfl ex_910.symm (by decide +kernel) rfl (fun ls hl => ?_)
            refine lv_goto (tgt := 4) hx hb dX12_manyAt_35 (by decide +kernel) ?_
            exact ih_864 x_909 x_910 _ _ _ (rg_w h_911 (by decide +kernel)) (ms_up 1 hm_861 ex_910 rfl (by decide +kernel) h_877 (by decide +kernel) (by decide +kernel)) hF hFr hG hP hD hS (lv_sub hl [2, 3, 1, 0] rfl)
          refine lv_icmp_ne (tgt := 29) hx hb dX12_manyAt_22 (by decide +kernel) (fun c_912 => ?_) (fun c_912 => ?_)
          · replace hF := hF.trans (if_neg c_912)
            have tc_916 : (x_879).toInt ≠ (a0).toInt := fun q => c_912 (Int32.toInt_inj.mp q)
            refine lv_iconst (v := 0) hx hb dX12_manyAt_29 (by decide +kernel) ?_
            exact K_901 _ _ _ hF hFr hG hP hD hS (lv_sub hl [0, 1, 3] rfl)
          · replace hF := hF.trans (if_pos c_912)
            have tc_917 : (x_879).toInt = (a0).toInt := congrArg Int32.toInt c_912
            have h_918 : rg a0 0 300 := rg_and (rg_full _) (rg_of_eq c_912.symm hr_883) (by decide +kernel)
            have uh_918 := h_918.1
            have vh_918 := h_918.2
            refine lv_iconst (v := 1) hx hb dX12_manyAt_25 (by decide +kernel) ?_
            refine lv_goto (tgt := 30) hx hb dX12_manyAt_26 (by decide +kernel) ?_
            exact K_906 _ _ _ (rg_w h_918 (by decide +kernel)) hF hFr hG hP hD hS (lv_sub hl [0, 1, 3] rfl)
    exact L_863 _ (0 : Int32) (0 : Int32) _ _ _ (rg_w (rg_k (0 : Int32) 0 rfl) (by decide +kernel)) (Nat.lt_succ_self _) hF hFr hG hP hD hS (lv_sub hl [2, 3, 1, 0] rfl)
  exact go _ _ _ hP hD hS hl

set_option maxRecDepth 100000 in
def g_X12_isLot (a0 : Int32) (I : Nat → Int32) (J : Nat → Int64) (ri : Nat → Nat → Int32) (rj : Nat → Nat → Int64) (rq : Nat → Nat → Option Nat) : Int32 × vM := (ap1 (ri 384 4) fun (y_3 : Int32) => (ap1 ((100 : Int32) + (y_3)) fun (x_4 : Int32) => (ap1 (x_4 - (1 : Int32)) fun (x_6 : Int32) => (ap1 (g_X12_isIn a0 (100 : Int32) x_6) fun (x_8 : Int32) => (x_8, I, J, ri, rj, rq)))))
set_option maxRecDepth 100000 in
theorem g_X12_isLot_e {a0 : Int32} {I : Nat → Int32} {J : Nat → Int64} {ri : Nat → Nat → Int32} {rj : Nat → Nat → Int64} {rq : Nat → Nat → Option Nat} : g_X12_isLot a0 I J ri rj rq = (ap1 (ri 384 4) fun (y_3 : Int32) => (ap1 ((100 : Int32) + (y_3)) fun (x_4 : Int32) => (ap1 (x_4 - (1 : Int32)) fun (x_6 : Int32) => (ap1 (g_X12_isIn a0 (100 : Int32) x_6) fun (x_8 : Int32) => (x_8, I, J, ri, rj, rq))))) := rfl
set_option maxHeartbeats 4000000 in
set_option maxRecDepth 100000 in
theorem s_X12_isLot (l : Launch) (D : va_G) (t : pq_T) (σ : pq_S) (I : Nat → Nat → Int32) (J : Nat → Nat → Int64) (ri : Nat → Nat → Int32) (rj : Nat → Nat → Int64) (rq : Nat → Nat → Option Nat) (sz : Nat) (tg : Nat → Nat) (hSH : SH σ tg) (hG0 : GT tg I ri) (this : Nat) (a0 : Int32) (hL_this : this ∈ σ.1) (hK_this : σ.2.1 this = 12) : MetI l yX12_isLot (wa yX12_isLot cX12_isLot 2 (some .boolean)) ({ frames := 1, cells := 0, slots := 0, locals := 22 }) [.ref this, .int a0] D t σ (I, J, ri, rj, rq) sz 0 0 (fun (r : Int32) (u : pq_S × pq_M) => u = (σ, I, J, ri, rj, rq) ∧ g_X12_isLot a0 (vI 12 σ this I) (vJ 12 σ this J) (vR 12 σ this ri) (vL 12 σ this rj) (vQ 12 σ this rq) = (r, (vI 12 σ this I), (vJ 12 σ this J), (vR 12 σ this ri), (vL 12 σ this rj), (vQ 12 σ this rq)) ∧ ((r = 1 ∧ rg a0 100 104) ∨ (r = 0 ∧ True))) := by
  refine Met.ofW (cc := cX12_isLot) (maxL := 2) (ret := (some .boolean)) (by decide +kernel) rfl ?_
  intro p e s m args below meth c s₁ B hml hv
  obtain ⟨rfl, hsz, hP, hK, hD0, hN⟩ := hv
  have hx := B.exec
  have hb := B.bytes
  have hr := B.returns
  have hts := atoms_spec (ws := (wa yX12_isLot cX12_isLot 2 (some .boolean))) B.pre
  have hown : s.vm.findClass RX12 = some m.cls := findClass_of_methodNamed B.named
  have hlocks := B.notSynchronized
  subst hsz
  have hD : va_D (pq_B t σ (I, J, ri, rj, rq) s.heap.size) (pq_P t σ (I, J, ri, rj, rq)) := hD0.self
  generalize hAe : pq_B t σ (I, J, ri, rj, rq) s.heap.size = A at hD ⊢
  have hA : ∀ q : Nat, s.heap.size ≤ q → A q := fun q h => by rw [← hAe]; exact Or.inr h
  have hS : va_S A s.heap s.heap [] := va_S.rf
  have hG : GM [] tg σ I ri I ri rq := ⟨hG0, fun _ _ _ => rfl, fun _ _ _ _ _ => rfl, fun _ _ _ _ _ _ => rfl⟩
  have hl := lv_entry ([.ref this, .int a0]) (n := 2) (Nat.le_of_ble_eq_true rfl)
  rw [lg_entry_eq]
  generalize (lg_sl ([.ref this, .int a0]) ++ List.replicate (2 - (lg_sl ([.ref this, .int a0])).length) Slot.unset).toArray = ls at hl ⊢
  have hl : lv_has ls 2 [(0, .ref this), (1, .int a0)] := hl
  refine q_gen (fun Q hQ => ?_)
  have go : ∀ (H : Heap) (locs : List Loc) (ls : Array Slot), va_P D vwCl (pq_P t σ (I, J, ri, rj, rq)) H → va_D A (pq_P t σ (I, J, ri, rj, rq)) → va_S A s.heap H locs → lv_has ls 2 [(0, .ref this), (1, .int a0)] → W p l e ({ frames := 1, cells := 0, slots := 0, locals := 22 } : Room) s m (List.toArray ([.ref this, .int a0] : List Value)) below meth c H locs 0 0 Q (F0 m 0 ls []) := by
    intro H locs ls hP hD hS hl
    have hO_this : this = vo σ 12 this := rfl
    have hVT : VT 12 σ tg this := vt_12 hSH hL_this hK_this
    have hFr : FR 12 tg σ this (I, J, ri, rj, rq) (I, J, ri, rj, rq) := fr_rf
    obtain ⟨F, hF0⟩ : ∃ F, F = g_X12_isLot a0 (vI 12 σ this I) (vJ 12 σ this J) (vR 12 σ this ri) (vL 12 σ this rj) (vQ 12 σ this rq) := ⟨_, rfl⟩
    have hF := hF0.trans g_X12_isLot_e
    refine lv_iload_n hx hb dX12_isLot_0 rfl (lv_at hl 1 rfl) ?_
    refine lv_bipush (v := 100) hx hb dX12_isLot_1 (by decide +kernel) ?_
    refine lv_bipush (v := 100) hx hb dX12_isLot_3 (by decide +kernel) ?_
    refine lv_aload_n hx hb dX12_isLot_5 rfl (lv_at hl 0 rfl) ?_
    obtain ⟨w_1, hR_w_1, hL_w_1, hK_w_1, hN_w_1, hT_w_1⟩ := sh_a hSH 384 (ci := 12) (kd := 13) (len := 12720) rfl (by decide +kernel) hL_this hK_this
    have hO_w_1 : w_1 = vrow σ 384 this := vo_k (c := 12) hO_this hR_w_1
    refine pg_f (v := .ref w_1) (C := RX12) (T := TX12) (N := 31) hx hb hts (tw_i inlX12) hown hK hP hL_this hK_this (by decide +kernel) rfl 0 (by decide +kernel) (hts _ (tw_c tw_176)) (pq_hv rfl hR_w_1) dX12_isLot_6 ?_
    refine lv_iconst (v := 4) hx hb dX12_isLot_9 (by decide +kernel) ?_
    refine pl_i hx hb hK hP hL_w_1 hK_w_1 hN_w_1 (vp_in_iff.mpr (by decide +kernel)) dX12_isLot_10 ?_
    refine lv_tov (ri w_1 4) rfl ?_
    have h_2 : rg (ri w_1 4) 0 5 := GM.z0 hG0 (by rw [hT_w_1]; decide) (i := 4) (k := 4) (by decide +kernel) rfl
    have uh_2 := h_2.1
    have vh_2 := h_2.2
    replace hF := hF.trans (ap_n (vR_r hO_w_1 (by decide +kernel) rfl))
    refine lv_iadd hx hb dX12_isLot_11 ?_
    refine lv_topi (fun x_4 ex_4 => ?_)
    replace hF := hF.trans (ap_n ex_4)
    have h_5 : rg x_4 100 105 := rg_of_eq ex_4 (rg_add (rg_k (100 : Int32) 100 rfl) h_2 (by decide +kernel))
    have uh_5 := h_5.1
    have vh_5 := h_5.2
    have tx_4 : (x_4).toInt = 100 + (ri w_1 4).toInt := by rw [ex_4]; exact i_add_rg (a2 := 100) (b2 := (ri w_1 4).toInt) rfl rfl (rg_k (100 : Int32) 100 rfl) h_2 (by decide +kernel)
    refine lv_iconst (v := 1) hx hb dX12_isLot_12 (by decide +kernel) ?_
    refine lv_isub hx hb dX12_isLot_13 ?_
    refine lv_topi (fun x_6 ex_6 => ?_)
    replace hF := hF.trans (ap_n ex_6)
    have h_7 : rg x_6 99 104 := rg_of_eq ex_6 (rg_sub h_5 (rg_k (1 : Int32) 1 rfl) (by decide +kernel))
    have uh_7 := h_7.1
    have vh_7 := h_7.2
    have tx_6 : (x_6).toInt = (x_4).toInt - 1 := by rw [ex_6]; exact i_sub_rg (a2 := (x_4).toInt) (b2 := 1) rfl rfl h_5 (rg_k (1 : Int32) 1 rfl) (by decide +kernel)
    refine pk_i (va_runS (As := [.int a0, .int 100, .int x_6]) (rest := []) ⟨hx, hb, hml, hown, hts⟩ (s_X12_isIn l D t σ I J ri rj rq H.size tg hSH hG.1 a0 (100 : Int32) x_6) (va_cwS 3 hts (tw_S tw_235 tw_236 tw_5 tw_237) rfl rfl rfl cd_yX12_isIn_3 ⟨Nat.le_of_ble_eq_true rfl, Nat.le_of_ble_eq_true rfl⟩) ⟨pq_blind, pq_pre hK hN hP hD⟩ rfl rfl hl.1 rfl (lv_room (Nat.le_of_ble_eq_true rfl)) dX12_isLot_14 ⟨Nat.le_of_ble_eq_true rfl, Nat.le_of_ble_eq_true rfl⟩) hD hS hA (fun x_8 σ1 μ1 H locs hw_9 hP hD hS => ?_)
    obtain ⟨hu_10, hfn_13, hr_12⟩ := hw_9
    obtain ⟨hu_10a, hu_10b⟩ := Prod.mk.inj hu_10
    rw [hu_10a, hu_10b] at hP hD
    replace hF := hF.trans (ap_n hfn_13.symm)
    have h_15 : rg x_8 0 1 := by rcases hr_12 with ⟨q, -⟩ | ⟨q, -⟩ <;> rw [q] <;> exact ⟨by decide +kernel, by decide +kernel⟩
    have uh_15 := h_15.1
    have vh_15 := h_15.2
    rcases hr_12 with ⟨e_19, f_16, f_17⟩ | ⟨e_19, f_18⟩
    · refine lv_tov 1 e_19 ?_
      have tc_20 : 100 ≤ (a0).toInt := Int32.le_iff_toInt_le.mp f_16
      have h_21 : rg a0 100 2147483647 := rg_le2 f_16 (rg_k (100 : Int32) 100 rfl) (rg_full _) (by decide +kernel)
      have uh_21 := h_21.1
      have vh_21 := h_21.2
      have tc_22 : (a0).toInt ≤ (x_6).toInt := Int32.le_iff_toInt_le.mp f_17
      have h_23 : rg a0 100 104 := rg_le1 f_17 h_21 h_7 (by decide +kernel)
      have uh_23 := h_23.1
      have vh_23 := h_23.2
      have h_24 : rg x_6 100 104 := rg_le2 f_17 h_21 h_7 (by decide +kernel)
      have uh_24 := h_24.1
      have vh_24 := h_24.2
      subst hQ
      exact W.zret (v := 1) hx hb hr (by decide +kernel) (fun t1 ht hW => ⟨⟨1, (σ, I, J, ri, rj, rq), rfl, ⟨rfl, (hF0.symm.trans (hF.trans (by rw [e_19]))), (Or.inl ⟨rfl, (rg_w h_23 (by decide +kernel))⟩)⟩, by rw [ht]; exact hP, va_K.moved hW.alike hK, hD⟩, hS.F ht⟩) hS.2.2 dX12_isLot_17
    · refine lv_tov 0 e_19 ?_
      subst hQ
      exact W.zret (v := 0) hx hb hr (by decide +kernel) (fun t1 ht hW => ⟨⟨0, (σ, I, J, ri, rj, rq), rfl, ⟨rfl, (hF0.symm.trans (hF.trans (by rw [e_19]))), (Or.inr ⟨rfl, trivial⟩)⟩, by rw [ht]; exact hP, va_K.moved hW.alike hK, hD⟩, hS.F ht⟩) hS.2.2 dX12_isLot_17
  exact go _ _ _ hP hD hS hl

set_option maxRecDepth 100000 in
def g_X12_freeIn (a0 : Int32) (I : Nat → Int32) (J : Nat → Int64) (ri : Nat → Nat → Int32) (rj : Nat → Nat → Int64) (rq : Nat → Nat → Option Nat) : Int32 × vM := (ap1 ((80 : Int32) + a0) fun (x_2 : Int32) => (ap1 (ri 384 (x_2).toNatClampNeg) fun (x_4 : Int32) => (ap1 ((100 : Int32) + a0) fun (x_5 : Int32) => (bnI (g_X12_manyAt x_5 I J ri rj rq) fun (x_7 : Int32) (_ : Nat → Int32) (_ : Nat → Int64) (_ : Nat → Nat → Int32) (_ : Nat → Nat → Int64) (_ : Nat → Nat → Option Nat) => (ap1 (x_4 - x_7) fun (x_14 : Int32) => (x_14, I, J, ri, rj, rq))))))
set_option maxRecDepth 100000 in
theorem g_X12_freeIn_e {a0 : Int32} {I : Nat → Int32} {J : Nat → Int64} {ri : Nat → Nat → Int32} {rj : Nat → Nat → Int64} {rq : Nat → Nat → Option Nat} : g_X12_freeIn a0 I J ri rj rq = (ap1 ((80 : Int32) + a0) fun (x_2 : Int32) => (ap1 (ri 384 (x_2).toNatClampNeg) fun (x_4 : Int32) => (ap1 ((100 : Int32) + a0) fun (x_5 : Int32) => (bnI (g_X12_manyAt x_5 I J ri rj rq) fun (x_7 : Int32) (_ : Nat → Int32) (_ : Nat → Int64) (_ : Nat → Nat → Int32) (_ : Nat → Nat → Int64) (_ : Nat → Nat → Option Nat) => (ap1 (x_4 - x_7) fun (x_14 : Int32) => (x_14, I, J, ri, rj, rq)))))) := rfl
set_option maxHeartbeats 4000000 in
set_option maxRecDepth 100000 in
theorem s_X12_freeIn (l : Launch) (D : va_G) (t : pq_T) (σ : pq_S) (I : Nat → Nat → Int32) (J : Nat → Nat → Int64) (ri : Nat → Nat → Int32) (rj : Nat → Nat → Int64) (rq : Nat → Nat → Option Nat) (sz : Nat) (tg : Nat → Nat) (hSH : SH σ tg) (hG0 : GT tg I ri) (this : Nat) (a0 : Int32) (hL_this : this ∈ σ.1) (hK_this : σ.2.1 this = 12) (h_a0 : rg a0 0 4) : MetI l yX12_freeIn (wa yX12_freeIn cX12_freeIn 2 (some .int)) ({ frames := 2, cells := 0, slots := 0, locals := 45 }) [.ref this, .int a0] D t σ (I, J, ri, rj, rq) sz 0 0 (fun (r : Int32) (u : pq_S × pq_M) => u = (σ, I, J, ri, rj, rq) ∧ g_X12_freeIn a0 (vI 12 σ this I) (vJ 12 σ this J) (vR 12 σ this ri) (vL 12 σ this rj) (vQ 12 σ this rq) = (r, (vI 12 σ this I), (vJ 12 σ this J), (vR 12 σ this ri), (vL 12 σ this rj), (vQ 12 σ this rq))) := by
  refine Met.ofW (cc := cX12_freeIn) (maxL := 2) (ret := (some .int)) (by decide +kernel) rfl ?_
  intro p e s m args below meth c s₁ B hml hv
  obtain ⟨rfl, hsz, hP, hK, hD0, hN⟩ := hv
  have hx := B.exec
  have hb := B.bytes
  have hr := B.returns
  have hts := atoms_spec (ws := (wa yX12_freeIn cX12_freeIn 2 (some .int))) B.pre
  have hown : s.vm.findClass RX12 = some m.cls := findClass_of_methodNamed B.named
  have hlocks := B.notSynchronized
  subst hsz
  have hD : va_D (pq_B t σ (I, J, ri, rj, rq) s.heap.size) (pq_P t σ (I, J, ri, rj, rq)) := hD0.self
  generalize hAe : pq_B t σ (I, J, ri, rj, rq) s.heap.size = A at hD ⊢
  have hA : ∀ q : Nat, s.heap.size ≤ q → A q := fun q h => by rw [← hAe]; exact Or.inr h
  have hS : va_S A s.heap s.heap [] := va_S.rf
  have hG : GM [] tg σ I ri I ri rq := ⟨hG0, fun _ _ _ => rfl, fun _ _ _ _ _ => rfl, fun _ _ _ _ _ _ => rfl⟩
  have hl := lv_entry ([.ref this, .int a0]) (n := 2) (Nat.le_of_ble_eq_true rfl)
  rw [lg_entry_eq]
  generalize (lg_sl ([.ref this, .int a0]) ++ List.replicate (2 - (lg_sl ([.ref this, .int a0])).length) Slot.unset).toArray = ls at hl ⊢
  have hl : lv_has ls 2 [(0, .ref this), (1, .int a0)] := hl
  refine q_gen (fun Q hQ => ?_)
  have go : ∀ (H : Heap) (locs : List Loc) (ls : Array Slot), va_P D vwCl (pq_P t σ (I, J, ri, rj, rq)) H → va_D A (pq_P t σ (I, J, ri, rj, rq)) → va_S A s.heap H locs → lv_has ls 2 [(0, .ref this), (1, .int a0)] → W p l e ({ frames := 2, cells := 0, slots := 0, locals := 45 } : Room) s m (List.toArray ([.ref this, .int a0] : List Value)) below meth c H locs 0 0 Q (F0 m 0 ls []) := by
    intro H locs ls hP hD hS hl
    have hO_this : this = vo σ 12 this := rfl
    have hVT : VT 12 σ tg this := vt_12 hSH hL_this hK_this
    have hFr : FR 12 tg σ this (I, J, ri, rj, rq) (I, J, ri, rj, rq) := fr_rf
    obtain ⟨F, hF0⟩ : ∃ F, F = g_X12_freeIn a0 (vI 12 σ this I) (vJ 12 σ this J) (vR 12 σ this ri) (vL 12 σ this rj) (vQ 12 σ this rq) := ⟨_, rfl⟩
    have hF := hF0.trans g_X12_freeIn_e
    refine lv_aload_n hx hb dX12_freeIn_0 rfl (lv_at hl 0 rfl) ?_
    obtain ⟨w_1, hR_w_1, hL_w_1, hK_w_1, hN_w_1, hT_w_1⟩ := sh_a hSH 384 (ci := 12) (kd := 13) (len := 12720) rfl (by decide +kernel) hL_this hK_this
    have hO_w_1 : w_1 = vrow σ 384 this := vo_k (c := 12) hO_this hR_w_1
    refine pg_f (v := .ref w_1) (C := RX12) (T := TX12) (N := 31) hx hb hts (tw_i inlX12) hown hK hP hL_this hK_this (by decide +kernel) rfl 0 (by decide +kernel) (hts _ (tw_c tw_176)) (pq_hv rfl hR_w_1) dX12_freeIn_1 ?_
    refine lv_bipush (v := 80) hx hb dX12_freeIn_4 (by decide +kernel) ?_
    refine lv_iload_n hx hb dX12_freeIn_6 rfl (lv_at hl 1 rfl) ?_
    refine lv_iadd hx hb dX12_freeIn_7 ?_
    refine lv_topi (fun x_2 ex_2 => ?_)
    replace hF := hF.trans (ap_n ex_2)
    have h_3 : rg x_2 80 84 := rg_of_eq ex_2 (rg_add (rg_k (80 : Int32) 80 rfl) h_a0 (by decide +kernel))
    have uh_3 := h_3.1
    have vh_3 := h_3.2
    have tx_2 : (x_2).toInt = 80 + (a0).toInt := by rw [ex_2]; exact i_add_rg (a2 := 80) (b2 := (a0).toInt) rfl rfl (rg_k (80 : Int32) 80 rfl) h_a0 (by decide +kernel)
    refine pl_i hx hb hK hP hL_w_1 hK_w_1 hN_w_1 (rg_in h_3 (by decide +kernel)) dX12_freeIn_8 ?_
    refine lv_topi (fun x_4 ex_4 => ?_)
    replace hF := hF.trans (ap_n (vR_r hO_w_1 (by decide +kernel) ex_4))
    refine lv_aload_n hx hb dX12_freeIn_9 rfl (lv_at hl 0 rfl) ?_
    refine lv_bipush (v := 100) hx hb dX12_freeIn_10 (by decide +kernel) ?_
    refine lv_iload_n hx hb dX12_freeIn_12 rfl (lv_at hl 1 rfl) ?_
    refine lv_iadd hx hb dX12_freeIn_13 ?_
    refine lv_topi (fun x_5 ex_5 => ?_)
    replace hF := hF.trans (ap_n ex_5)
    have h_6 : rg x_5 100 104 := rg_of_eq ex_5 (rg_add (rg_k (100 : Int32) 100 rfl) h_a0 (by decide +kernel))
    have uh_6 := h_6.1
    have vh_6 := h_6.2
    have tx_5 : (x_5).toInt = 100 + (a0).toInt := by rw [ex_5]; exact i_add_rg (a2 := 100) (b2 := (a0).toInt) rfl rfl (rg_k (100 : Int32) 100 rfl) h_a0 (by decide +kernel)
    refine pk_i (va_runV (As := [.int x_5]) (rest := [.int x_4]) ⟨hx, hb, hml, hown, hts⟩ (s_X12_manyAt l D t σ I J ri rj rq H.size tg hSH hG.1 this x_5 hL_this hK_this) (cwV 1 hts (tw_V tw_445 tw_446 tw_447 tw_5 tw_448) rfl rfl rfl cv_yX12_manyAt_1 ⟨Nat.le_of_ble_eq_true rfl, Nat.le_of_ble_eq_true rfl⟩) ⟨pq_blind, pq_recv hK hP hL_this hK_this (by decide +kernel) rfl, pq_pre hK hN hP hD⟩ rfl rfl hl.1 rfl (lv_room (Nat.le_of_ble_eq_true rfl)) dX12_freeIn_14 ⟨Nat.le_of_ble_eq_true rfl, Nat.le_of_ble_eq_true rfl⟩) hD hS hA (fun x_7 σ1 μ1 H locs hw_8 hP hD hS => ?_)
    obtain ⟨hu_9, hfn_12⟩ := hw_8
    obtain ⟨hu_9a, hu_9b⟩ := Prod.mk.inj hu_9
    rw [hu_9a, hu_9b] at hP hD
    replace hF := hF.trans (bn_n hfn_12)
    refine lv_isub hx hb dX12_freeIn_17 ?_
    refine lv_topi (fun x_14 ex_14 => ?_)
    replace hF := hF.trans (ap_n ex_14)
    subst hQ
    exact W.iret (v := x_14) hx hb hr (fun t1 ht hW => ⟨⟨x_14, (σ, I, J, ri, rj, rq), rfl, ⟨rfl, (hF0.symm.trans hF)⟩, by rw [ht]; exact hP, va_K.moved hW.alike hK, hD⟩, hS.F ht⟩) hS.2.2 dX12_freeIn_18
  exact go _ _ _ hP hD hS hl

set_option maxRecDepth 100000 in
def g_X12_isPlace (a0 : Int32) (I : Nat → Int32) (J : Nat → Int64) (ri : Nat → Nat → Int32) (rj : Nat → Nat → Int64) (rq : Nat → Nat → Option Nat) : Int32 × vM := (bnI (g_X12_isRing a0 I J ri rj rq) fun (x_1 : Int32) (_ : Nat → Int32) (_ : Nat → Int64) (_ : Nat → Nat → Int32) (_ : Nat → Nat → Int64) (_ : Nat → Nat → Option Nat) => (if x_1 = (0 : Int32) then (bnI (g_X12_isLot a0 I J ri rj rq) fun (x_22 : Int32) (_ : Nat → Int32) (_ : Nat → Int64) (_ : Nat → Nat → Int32) (_ : Nat → Nat → Int64) (_ : Nat → Nat → Option Nat) => (if x_22 = (0 : Int32) then (if a0 = (200 : Int32) then ((1 : Int32), I, J, ri, rj, rq) else ((0 : Int32), I, J, ri, rj, rq)) else ((1 : Int32), I, J, ri, rj, rq))) else ((1 : Int32), I, J, ri, rj, rq)))
set_option maxRecDepth 100000 in
theorem g_X12_isPlace_e {a0 : Int32} {I : Nat → Int32} {J : Nat → Int64} {ri : Nat → Nat → Int32} {rj : Nat → Nat → Int64} {rq : Nat → Nat → Option Nat} : g_X12_isPlace a0 I J ri rj rq = (bnI (g_X12_isRing a0 I J ri rj rq) fun (x_1 : Int32) (_ : Nat → Int32) (_ : Nat → Int64) (_ : Nat → Nat → Int32) (_ : Nat → Nat → Int64) (_ : Nat → Nat → Option Nat) => (if x_1 = (0 : Int32) then (bnI (g_X12_isLot a0 I J ri rj rq) fun (x_22 : Int32) (_ : Nat → Int32) (_ : Nat → Int64) (_ : Nat → Nat → Int32) (_ : Nat → Nat → Int64) (_ : Nat → Nat → Option Nat) => (if x_22 = (0 : Int32) then (if a0 = (200 : Int32) then ((1 : Int32), I, J, ri, rj, rq) else ((0 : Int32), I, J, ri, rj, rq)) else ((1 : Int32), I, J, ri, rj, rq))) else ((1 : Int32), I, J, ri, rj, rq))) := rfl
set_option maxHeartbeats 4000000 in
set_option maxRecDepth 100000 in
theorem s_X12_isPlace (l : Launch) (D : va_G) (t : pq_T) (σ : pq_S) (I : Nat → Nat → Int32) (J : Nat → Nat → Int64) (ri : Nat → Nat → Int32) (rj : Nat → Nat → Int64) (rq : Nat → Nat → Option Nat) (sz : Nat) (tg : Nat → Nat) (hSH : SH σ tg) (hG0 : GT tg I ri) (this : Nat) (a0 : Int32) (hL_this : this ∈ σ.1) (hK_this : σ.2.1 this = 12) : MetI l yX12_isPlace (wa yX12_isPlace cX12_isPlace 2 (some .boolean)) ({ frames := 2, cells := 0, slots := 0, locals := 43 }) [.ref this, .int a0] D t σ (I, J, ri, rj, rq) sz 0 0 (fun (r : Int32) (u : pq_S × pq_M) => u = (σ, I, J, ri, rj, rq) ∧ g_X12_isPlace a0 (vI 12 σ this I) (vJ 12 σ this J) (vR 12 σ this ri) (vL 12 σ this rj) (vQ 12 σ this rq) = (r, (vI 12 σ this I), (vJ 12 σ this J), (vR 12 σ this ri), (vL 12 σ this rj), (vQ 12 σ this rq)) ∧ ((r = 1 ∧ rg a0 0 200 ∧ (a0.toInt < 5 ∨ 100 ≤ a0.toInt)) ∨ (r = 0 ∧ True))) := by
  refine Met.ofW (cc := cX12_isPlace) (maxL := 2) (ret := (some .boolean)) (by decide +kernel) rfl ?_
  intro p e s m args below meth c s₁ B hml hv
  obtain ⟨rfl, hsz, hP, hK, hD0, hN⟩ := hv
  have hx := B.exec
  have hb := B.bytes
  have hr := B.returns
  have hts := atoms_spec (ws := (wa yX12_isPlace cX12_isPlace 2 (some .boolean))) B.pre
  have hown : s.vm.findClass RX12 = some m.cls := findClass_of_methodNamed B.named
  have hlocks := B.notSynchronized
  subst hsz
  have hD : va_D (pq_B t σ (I, J, ri, rj, rq) s.heap.size) (pq_P t σ (I, J, ri, rj, rq)) := hD0.self
  generalize hAe : pq_B t σ (I, J, ri, rj, rq) s.heap.size = A at hD ⊢
  have hA : ∀ q : Nat, s.heap.size ≤ q → A q := fun q h => by rw [← hAe]; exact Or.inr h
  have hS : va_S A s.heap s.heap [] := va_S.rf
  have hG : GM [] tg σ I ri I ri rq := ⟨hG0, fun _ _ _ => rfl, fun _ _ _ _ _ => rfl, fun _ _ _ _ _ _ => rfl⟩
  have hl := lv_entry ([.ref this, .int a0]) (n := 2) (Nat.le_of_ble_eq_true rfl)
  rw [lg_entry_eq]
  generalize (lg_sl ([.ref this, .int a0]) ++ List.replicate (2 - (lg_sl ([.ref this, .int a0])).length) Slot.unset).toArray = ls at hl ⊢
  have hl : lv_has ls 2 [(0, .ref this), (1, .int a0)] := hl
  refine q_gen (fun Q hQ => ?_)
  have go : ∀ (H : Heap) (locs : List Loc) (ls : Array Slot), va_P D vwCl (pq_P t σ (I, J, ri, rj, rq)) H → va_D A (pq_P t σ (I, J, ri, rj, rq)) → va_S A s.heap H locs → lv_has ls 2 [(0, .ref this), (1, .int a0)] → W p l e ({ frames := 2, cells := 0, slots := 0, locals := 43 } : Room) s m (List.toArray ([.ref this, .int a0] : List Value)) below meth c H locs 0 0 Q (F0 m 0 ls []) := by
    intro H locs ls hP hD hS hl
    have hO_this : this = vo σ 12 this := rfl
    have hVT : VT 12 σ tg this := vt_12 hSH hL_this hK_this
    have hFr : FR 12 tg σ this (I, J, ri, rj, rq) (I, J, ri, rj, rq) := fr_rf
    obtain ⟨F, hF0⟩ : ∃ F, F = g_X12_isPlace a0 (vI 12 σ this I) (vJ 12 σ this J) (vR 12 σ this ri) (vL 12 σ this rj) (vQ 12 σ this rq) := ⟨_, rfl⟩
    have hF := hF0.trans g_X12_isPlace_e
    refine lv_aload_n hx hb dX12_isPlace_0 rfl (lv_at hl 0 rfl) ?_
    refine lv_iload_n hx hb dX12_isPlace_1 rfl (lv_at hl 1 rfl) ?_
    refine pk_i (va_runV (As := [.int a0]) (rest := []) ⟨hx, hb, hml, hown, hts⟩ (s_X12_isRing l D t σ I J ri rj rq H.size tg hSH hG.1 this a0 hL_this hK_this) (cwV 1 hts (tw_V tw_231 tw_232 tw_233 tw_5 tw_234) rfl rfl rfl cv_yX12_isRing_1 ⟨Nat.le_of_ble_eq_true rfl, Nat.le_of_ble_eq_true rfl⟩) ⟨pq_blind, pq_recv hK hP hL_this hK_this (by decide +kernel) rfl, pq_pre hK hN hP hD⟩ rfl rfl hl.1 rfl (lv_room (Nat.le_of_ble_eq_true rfl)) dX12_isPlace_2 ⟨Nat.le_of_ble_eq_true rfl, Nat.le_of_ble_eq_true rfl⟩) hD hS hA (fun x_1 σ1 μ1 H locs hw_2 hP hD hS => ?_)
    obtain ⟨hu_3, hfn_6, hr_5⟩ := hw_2
    obtain ⟨hu_3a, hu_3b⟩ := Prod.mk.inj hu_3
    rw [hu_3a, hu_3b] at hP hD
    replace hF := hF.trans (bn_n hfn_6)
    have h_8 : rg x_1 0 1 := by rcases hr_5 with ⟨q, -⟩ | ⟨q, -⟩ <;> rw [q] <;> exact ⟨by decide +kernel, by decide +kernel⟩
    have uh_8 := h_8.1
    have vh_8 := h_8.2
    refine lv_if_ne (tgt := 23) hx hb dX12_isPlace_5 (by decide +kernel) (fun c_9 => ?_) (fun c_9 => ?_)
    · replace hF := hF.trans (if_neg c_9)
      have f_16 := (hr_5.resolve_right (fun q => c_9 q.1)).2
      have uf_16 := f_16.1
      have vf_16 := f_16.2
      have tc_17 : (x_1).toInt ≠ 0 := fun q => c_9 (Int32.toInt_inj.mp q)
      have h_18 : rg x_1 1 1 := rg_ne c_9 h_8 0 rfl (by decide +kernel)
      have uh_18 := h_18.1
      have vh_18 := h_18.2
      refine lv_iconst (v := 1) hx hb dX12_isPlace_23 (by decide +kernel) ?_
      refine lv_goto (tgt := 28) hx hb dX12_isPlace_24 (by decide +kernel) ?_
      subst hQ
      exact W.zret (v := 1) hx hb hr (by decide +kernel) (fun t1 ht hW => ⟨⟨1, (σ, I, J, ri, rj, rq), rfl, ⟨rfl, (hF0.symm.trans hF), (Or.inl ⟨rfl, (rg_w f_16 (by decide +kernel)), (by omega)⟩)⟩, by rw [ht]; exact hP, va_K.moved hW.alike hK, hD⟩, hS.F ht⟩) hS.2.2 dX12_isPlace_28
    · replace hF := hF.trans (if_pos c_9)
      have f_19 := (hr_5.resolve_left (fun q => absurd (q.1.symm.trans c_9) (by decide +kernel))).2
      have tc_20 : (x_1).toInt = 0 := congrArg Int32.toInt c_9
      have h_21 : rg x_1 0 0 := rg_and h_8 (rg_of_eq c_9 (rg_k (0 : Int32) 0 rfl)) (by decide +kernel)
      have uh_21 := h_21.1
      have vh_21 := h_21.2
      refine lv_aload_n hx hb dX12_isPlace_8 rfl (lv_at hl 0 rfl) ?_
      refine lv_iload_n hx hb dX12_isPlace_9 rfl (lv_at hl 1 rfl) ?_
      refine pk_i (va_runV (As := [.int a0]) (rest := []) ⟨hx, hb, hml, hown, hts⟩ (s_X12_isLot l D t σ I J ri rj rq H.size tg hSH hG.1 this a0 hL_this hK_this) (cwV 1 hts (tw_V tw_433 tw_434 tw_435 tw_5 tw_436) rfl rfl rfl cv_yX12_isLot_1 ⟨Nat.le_of_ble_eq_true rfl, Nat.le_of_ble_eq_true rfl⟩) ⟨pq_blind, pq_recv hK hP hL_this hK_this (by decide +kernel) rfl, pq_pre hK hN hP hD⟩ rfl rfl hl.1 rfl (lv_room (Nat.le_of_ble_eq_true rfl)) dX12_isPlace_10 ⟨Nat.le_of_ble_eq_true rfl, Nat.le_of_ble_eq_true rfl⟩) hD hS hA (fun x_22 σ1 μ1 H locs hw_23 hP hD hS => ?_)
      obtain ⟨hu_24, hfn_27, hr_26⟩ := hw_23
      obtain ⟨hu_24a, hu_24b⟩ := Prod.mk.inj hu_24
      rw [hu_24a, hu_24b] at hP hD
      replace hF := hF.trans (bn_n hfn_27)
      have h_29 : rg x_22 0 1 := by rcases hr_26 with ⟨q, -⟩ | ⟨q, -⟩ <;> rw [q] <;> exact ⟨by decide +kernel, by decide +kernel⟩
      have uh_29 := h_29.1
      have vh_29 := h_29.2
      refine lv_if_ne (tgt := 23) hx hb dX12_isPlace_13 (by decide +kernel) (fun c_30 => ?_) (fun c_30 => ?_)
      · replace hF := hF.trans (if_neg c_30)
        have f_37 := (hr_26.resolve_right (fun q => c_30 q.1)).2
        have uf_37 := f_37.1
        have vf_37 := f_37.2
        have tc_38 : (x_22).toInt ≠ 0 := fun q => c_30 (Int32.toInt_inj.mp q)
        have h_39 : rg x_22 1 1 := rg_ne c_30 h_29 0 rfl (by decide +kernel)
        have uh_39 := h_39.1
        have vh_39 := h_39.2
        refine lv_iconst (v := 1) hx hb dX12_isPlace_23 (by decide +kernel) ?_
        refine lv_goto (tgt := 28) hx hb dX12_isPlace_24 (by decide +kernel) ?_
        subst hQ
        exact W.zret (v := 1) hx hb hr (by decide +kernel) (fun t1 ht hW => ⟨⟨1, (σ, I, J, ri, rj, rq), rfl, ⟨rfl, (hF0.symm.trans hF), (Or.inl ⟨rfl, (rg_w f_37 (by decide +kernel)), (by omega)⟩)⟩, by rw [ht]; exact hP, va_K.moved hW.alike hK, hD⟩, hS.F ht⟩) hS.2.2 dX12_isPlace_28
      · replace hF := hF.trans (if_pos c_30)
        have f_40 := (hr_26.resolve_left (fun q => absurd (q.1.symm.trans c_30) (by decide +kernel))).2
        have tc_41 : (x_22).toInt = 0 := congrArg Int32.toInt c_30
        have h_42 : rg x_22 0 0 := rg_and h_29 (rg_of_eq c_30 (rg_k (0 : Int32) 0 rfl)) (by decide +kernel)
        have uh_42 := h_42.1
        have vh_42 := h_42.2
        refine lv_iload_n hx hb dX12_isPlace_16 rfl (lv_at hl 1 rfl) ?_
        refine lv_sipush (v := 200) hx hb dX12_isPlace_17 (by decide +kernel) ?_
        refine lv_icmp_ne (tgt := 27) hx hb dX12_isPlace_20 (by decide +kernel) (fun c_43 => ?_) (fun c_43 => ?_)
        · replace hF := hF.trans (if_neg c_43)
          have tc_47 : (a0).toInt ≠ 200 := fun q => c_43 (Int32.toInt_inj.mp q)
          refine lv_iconst (v := 0) hx hb dX12_isPlace_27 (by decide +kernel) ?_
          subst hQ
          exact W.zret (v := 0) hx hb hr (by decide +kernel) (fun t1 ht hW => ⟨⟨0, (σ, I, J, ri, rj, rq), rfl, ⟨rfl, (hF0.symm.trans hF), (Or.inr ⟨rfl, trivial⟩)⟩, by rw [ht]; exact hP, va_K.moved hW.alike hK, hD⟩, hS.F ht⟩) hS.2.2 dX12_isPlace_28
        · replace hF := hF.trans (if_pos c_43)
          have tc_48 : (a0).toInt = 200 := congrArg Int32.toInt c_43
          have h_49 : rg a0 200 200 := rg_and (rg_full _) (rg_of_eq c_43 (rg_k (200 : Int32) 200 rfl)) (by decide +kernel)
          have uh_49 := h_49.1
          have vh_49 := h_49.2
          refine lv_iconst (v := 1) hx hb dX12_isPlace_23 (by decide +kernel) ?_
          refine lv_goto (tgt := 28) hx hb dX12_isPlace_24 (by decide +kernel) ?_
          subst hQ
          exact W.zret (v := 1) hx hb hr (by decide +kernel) (fun t1 ht hW => ⟨⟨1, (σ, I, J, ri, rj, rq), rfl, ⟨rfl, (hF0.symm.trans hF), (Or.inl ⟨rfl, (rg_w h_49 (by decide +kernel)), (by omega)⟩)⟩, by rw [ht]; exact hP, va_K.moved hW.alike hK, hD⟩, hS.F ht⟩) hS.2.2 dX12_isPlace_28
  exact go _ _ _ hP hD hS hl

set_option maxRecDepth 100000 in
def g_X12_go_K38 (I : Nat → Int32) (J : Nat → Int64) (ri : Nat → Nat → Int32) (rj : Nat → Nat → Int64) (rq : Nat → Nat → Option Nat) : Int32 × vM := ((0 : Int32), I, J, ri, rj, rq)
set_option maxRecDepth 100000 in
theorem g_X12_go_K38_e {I : Nat → Int32} {J : Nat → Int64} {ri : Nat → Nat → Int32} {rj : Nat → Nat → Int64} {rq : Nat → Nat → Option Nat} : g_X12_go_K38 I J ri rj rq  = ((0 : Int32), I, J, ri, rj, rq) := rfl
set_option maxRecDepth 100000 in
def g_X12_go_K61 (a0 : Int32) (a1 : Int32) (I : Nat → Int32) (J : Nat → Int64) (ri : Nat → Nat → Int32) (rj : Nat → Nat → Int64) (rq : Nat → Nat → Option Nat) : Int32 × vM := (ap1 ((12 : Int32) * a0) fun (x_207 : Int32) => (ap1 ((740 : Int32) + x_207) fun (x_209 : Int32) => (ap1 (x_209 + (3 : Int32)) fun (x_211 : Int32) => (ap1 (va_up ri 384 (upd (ri 384) (x_211).toNatClampNeg a1)) fun (r_213 : Nat → Nat → Int32) => ((1 : Int32), I, J, r_213, rj, rq)))))
set_option maxRecDepth 100000 in
theorem g_X12_go_K61_e {a0 : Int32} {a1 : Int32} {I : Nat → Int32} {J : Nat → Int64} {ri : Nat → Nat → Int32} {rj : Nat → Nat → Int64} {rq : Nat → Nat → Option Nat} : g_X12_go_K61 a0 a1 I J ri rj rq  = (ap1 ((12 : Int32) * a0) fun (x_207 : Int32) => (ap1 ((740 : Int32) + x_207) fun (x_209 : Int32) => (ap1 (x_209 + (3 : Int32)) fun (x_211 : Int32) => (ap1 (va_up ri 384 (upd (ri 384) (x_211).toNatClampNeg a1)) fun (r_213 : Nat → Nat → Int32) => ((1 : Int32), I, J, r_213, rj, rq))))) := rfl
set_option maxRecDepth 100000 in
def g_X12_go (a0 : Int32) (a1 : Int32) (I : Nat → Int32) (J : Nat → Int64) (ri : Nat → Nat → Int32) (rj : Nat → Nat → Int64) (rq : Nat → Nat → Option Nat) : Int32 × vM := (bnI (g_X12_isPerson a0 I J ri rj rq) fun (x_1 : Int32) (_ : Nat → Int32) (_ : Nat → Int64) (_ : Nat → Nat → Int32) (_ : Nat → Nat → Int64) (_ : Nat → Nat → Option Nat) => (if x_1 = (0 : Int32) then (g_X12_go_K38 I J ri rj rq ) else (bnI (g_X12_isPlace a1 I J ri rj rq) fun (x_112 : Int32) (_ : Nat → Int32) (_ : Nat → Int64) (_ : Nat → Nat → Int32) (_ : Nat → Nat → Int64) (_ : Nat → Nat → Option Nat) => (if x_112 = (0 : Int32) then (g_X12_go_K38 I J ri rj rq ) else (bnI (g_X12_personAt_c3 a0 I J ri rj rq) fun (x_136 : Int32) (_ : Nat → Int32) (_ : Nat → Int64) (_ : Nat → Nat → Int32) (_ : Nat → Nat → Int64) (_ : Nat → Nat → Option Nat) => (if x_136 = a1 then (g_X12_go_K38 I J ri rj rq ) else (bnI (g_X12_personAt_c3 a0 I J ri rj rq) fun (x_153 : Int32) (_ : Nat → Int32) (_ : Nat → Int64) (_ : Nat → Nat → Int32) (_ : Nat → Nat → Int64) (_ : Nat → Nat → Option Nat) => (if x_153 = (300 : Int32) then (g_X12_go_K38 I J ri rj rq ) else (bnI (g_X12_isLot a1 I J ri rj rq) fun (x_170 : Int32) (_ : Nat → Int32) (_ : Nat → Int64) (_ : Nat → Nat → Int32) (_ : Nat → Nat → Int64) (_ : Nat → Nat → Option Nat) => (if x_170 = (0 : Int32) then (g_X12_go_K61 a0 a1 I J ri rj rq ) else (ap1 (a1 - (100 : Int32)) fun (x_227 : Int32) => (bnI (g_X12_freeIn x_227 I J ri rj rq) fun (x_229 : Int32) (_ : Nat → Int32) (_ : Nat → Int64) (_ : Nat → Nat → Int32) (_ : Nat → Nat → Int64) (_ : Nat → Nat → Option Nat) => (if (0 : Int32) < x_229 then (g_X12_go_K61 a0 a1 I J ri rj rq ) else ((0 : Int32), I, J, ri, rj, rq))))))))))))))
set_option maxRecDepth 100000 in
theorem g_X12_go_e {a0 : Int32} {a1 : Int32} {I : Nat → Int32} {J : Nat → Int64} {ri : Nat → Nat → Int32} {rj : Nat → Nat → Int64} {rq : Nat → Nat → Option Nat} : g_X12_go a0 a1 I J ri rj rq = (bnI (g_X12_isPerson a0 I J ri rj rq) fun (x_1 : Int32) (_ : Nat → Int32) (_ : Nat → Int64) (_ : Nat → Nat → Int32) (_ : Nat → Nat → Int64) (_ : Nat → Nat → Option Nat) => (if x_1 = (0 : Int32) then (g_X12_go_K38 I J ri rj rq ) else (bnI (g_X12_isPlace a1 I J ri rj rq) fun (x_112 : Int32) (_ : Nat → Int32) (_ : Nat → Int64) (_ : Nat → Nat → Int32) (_ : Nat → Nat → Int64) (_ : Nat → Nat → Option Nat) => (if x_112 = (0 : Int32) then (g_X12_go_K38 I J ri rj rq ) else (bnI (g_X12_personAt_c3 a0 I J ri rj rq) fun (x_136 : Int32) (_ : Nat → Int32) (_ : Nat → Int64) (_ : Nat → Nat → Int32) (_ : Nat → Nat → Int64) (_ : Nat → Nat → Option Nat) => (if x_136 = a1 then (g_X12_go_K38 I J ri rj rq ) else (bnI (g_X12_personAt_c3 a0 I J ri rj rq) fun (x_153 : Int32) (_ : Nat → Int32) (_ : Nat → Int64) (_ : Nat → Nat → Int32) (_ : Nat → Nat → Int64) (_ : Nat → Nat → Option Nat) => (if x_153 = (300 : Int32) then (g_X12_go_K38 I J ri rj rq ) else (bnI (g_X12_isLot a1 I J ri rj rq) fun (x_170 : Int32) (_ : Nat → Int32) (_ : Nat → Int64) (_ : Nat → Nat → Int32) (_ : Nat → Nat → Int64) (_ : Nat → Nat → Option Nat) => (if x_170 = (0 : Int32) then (g_X12_go_K61 a0 a1 I J ri rj rq ) else (ap1 (a1 - (100 : Int32)) fun (x_227 : Int32) => (bnI (g_X12_freeIn x_227 I J ri rj rq) fun (x_229 : Int32) (_ : Nat → Int32) (_ : Nat → Int64) (_ : Nat → Nat → Int32) (_ : Nat → Nat → Int64) (_ : Nat → Nat → Option Nat) => (if (0 : Int32) < x_229 then (g_X12_go_K61 a0 a1 I J ri rj rq ) else ((0 : Int32), I, J, ri, rj, rq)))))))))))))) := rfl
set_option maxHeartbeats 4000000 in
set_option maxRecDepth 100000 in
theorem s_X12_go (l : Launch) (D : va_G) (t : pq_T) (σ : pq_S) (I : Nat → Nat → Int32) (J : Nat → Nat → Int64) (ri : Nat → Nat → Int32) (rj : Nat → Nat → Int64) (rq : Nat → Nat → Option Nat) (sz : Nat) (tg : Nat → Nat) (hSH : SH σ tg) (hG0 : GT tg I ri) (this : Nat) (a0 : Int32) (a1 : Int32) (hL_this : this ∈ σ.1) (hK_this : σ.2.1 this = 12) : MetI l yX12_go (wa yX12_go cX12_go 3 (some .boolean)) ({ frames := 3, cells := 0, slots := 0, locals := 66 }) [.ref this, .int a0, .int a1] D t σ (I, J, ri, rj, rq) sz 0 0 (fun (r : Int32) (u : pq_S × pq_M) => ∃ ri' : Nat → Nat → Int32, u = (σ, I, J, ri', rj, rq) ∧ GM [1403] tg σ I ri I ri' rq ∧ g_X12_go a0 a1 (vI 12 σ this I) (vJ 12 σ this J) (vR 12 σ this ri) (vL 12 σ this rj) (vQ 12 σ this rq) = (r, (vI 12 σ this I), (vJ 12 σ this J), (vR 12 σ this ri'), (vL 12 σ this rj), (vQ 12 σ this rq)) ∧ FR 12 tg σ this (I, J, ri, rj, rq) (I, J, ri', rj, rq) ∧ ((r = 1 ∧ rg a0 0 39 ∧ rg a1 0 200) ∨ (r = 0 ∧ True))) := by
  refine Met.ofW (cc := cX12_go) (maxL := 3) (ret := (some .boolean)) (by decide +kernel) rfl ?_
  intro p e s m args below meth c s₁ B hml hv
  obtain ⟨rfl, hsz, hP, hK, hD0, hN⟩ := hv
  have hx := B.exec
  have hb := B.bytes
  have hr := B.returns
  have hts := atoms_spec (ws := (wa yX12_go cX12_go 3 (some .boolean))) B.pre
  have hown : s.vm.findClass RX12 = some m.cls := findClass_of_methodNamed B.named
  have hlocks := B.notSynchronized
  subst hsz
  have hD : va_D (pq_B t σ (I, J, ri, rj, rq) s.heap.size) (pq_P t σ (I, J, ri, rj, rq)) := hD0.self
  generalize hAe : pq_B t σ (I, J, ri, rj, rq) s.heap.size = A at hD ⊢
  have hA : ∀ q : Nat, s.heap.size ≤ q → A q := fun q h => by rw [← hAe]; exact Or.inr h
  have hS : va_S A s.heap s.heap [] := va_S.rf
  have hG : GM [1403] tg σ I ri I ri rq := ⟨hG0, fun _ _ _ => rfl, fun _ _ _ _ _ => rfl, fun _ _ _ _ _ _ => rfl⟩
  have hl := lv_entry ([.ref this, .int a0, .int a1]) (n := 3) (Nat.le_of_ble_eq_true rfl)
  rw [lg_entry_eq]
  generalize (lg_sl ([.ref this, .int a0, .int a1]) ++ List.replicate (3 - (lg_sl ([.ref this, .int a0, .int a1])).length) Slot.unset).toArray = ls at hl ⊢
  have hl : lv_has ls 3 [(0, .ref this), (1, .int a0), (2, .int a1)] := hl
  refine q_gen (fun Q hQ => ?_)
  have go : ∀ (H : Heap) (locs : List Loc) (ls : Array Slot), va_P D vwCl (pq_P t σ (I, J, ri, rj, rq)) H → va_D A (pq_P t σ (I, J, ri, rj, rq)) → va_S A s.heap H locs → lv_has ls 3 [(0, .ref this), (1, .int a0), (2, .int a1)] → W p l e ({ frames := 3, cells := 0, slots := 0, locals := 66 } : Room) s m (List.toArray ([.ref this, .int a0, .int a1] : List Value)) below meth c H locs 0 0 Q (F0 m 0 ls []) := by
    intro H locs ls hP hD hS hl
    have hO_this : this = vo σ 12 this := rfl
    have hVT : VT 12 σ tg this := vt_12 hSH hL_this hK_this
    have hFr : FR 12 tg σ this (I, J, ri, rj, rq) (I, J, ri, rj, rq) := fr_rf
    obtain ⟨F, hF0⟩ : ∃ F, F = g_X12_go a0 a1 (vI 12 σ this I) (vJ 12 σ this J) (vR 12 σ this ri) (vL 12 σ this rj) (vQ 12 σ this rq) := ⟨_, rfl⟩
    have hF := hF0.trans g_X12_go_e
    refine lv_aload_n hx hb dX12_go_0 rfl (lv_at hl 0 rfl) ?_
    refine lv_iload_n hx hb dX12_go_1 rfl (lv_at hl 1 rfl) ?_
    refine pk_i (va_runV (As := [.int a0]) (rest := []) ⟨hx, hb, hml, hown, hts⟩ (s_X12_isPerson l D t σ I J ri rj rq H.size tg hSH hG.1 this a0 hL_this hK_this) (cwV 1 hts (tw_V tw_425 tw_426 tw_427 tw_5 tw_428) rfl rfl rfl cv_yX12_isPerson_1 ⟨Nat.le_of_ble_eq_true rfl, Nat.le_of_ble_eq_true rfl⟩) ⟨pq_blind, pq_recv hK hP hL_this hK_this (by decide +kernel) rfl, pq_pre hK hN hP hD⟩ rfl rfl hl.1 rfl (lv_room (Nat.le_of_ble_eq_true rfl)) dX12_go_2 ⟨Nat.le_of_ble_eq_true rfl, Nat.le_of_ble_eq_true rfl⟩) hD hS hA (fun x_1 σ1 μ1 H locs hw_2 hP hD hS => ?_)
    obtain ⟨hu_3, hfn_6, hr_5⟩ := hw_2
    obtain ⟨hu_3a, hu_3b⟩ := Prod.mk.inj hu_3
    rw [hu_3a, hu_3b] at hP hD
    replace hF := hF.trans (bn_n hfn_6)
    have h_8 : rg x_1 0 1 := by rcases hr_5 with ⟨q, -⟩ | ⟨q, -⟩ <;> rw [q] <;> exact ⟨by decide +kernel, by decide +kernel⟩
    have uh_8 := h_8.1
    have vh_8 := h_8.2
    have K_98 : ∀  (H : Heap) (locs : List Loc) (ls : Array Slot), F = g_X12_go_K38 (vI 12 σ this I) (vJ 12 σ this J) (vR 12 σ this ri) (vL 12 σ this rj) (vQ 12 σ this rq)  → FR 12 tg σ this (I, J, ri, rj, rq) (I, J, ri, rj, rq) → GM [1403] tg σ I ri I ri rq → va_P D vwCl (pq_P t σ (I, J, ri, rj, rq)) H → va_D A (pq_P t σ (I, J, ri, rj, rq)) → va_S A s.heap H locs → lv_has ls 3 [] → W p l e ({ frames := 3, cells := 0, slots := 0, locals := 66 } : Room) s m (List.toArray ([.ref this, .int a0, .int a1] : List Value)) below meth c H locs 0 0 Q (F0 m 38 ls []) := by
      intro H locs ls hF hFr hG hP hD hS hl
      replace hF := hF.trans g_X12_go_K38_e
      refine lv_iconst (v := 0) hx hb dX12_go_38 (by decide +kernel) ?_
      subst hQ
      exact W.zret (v := 0) hx hb hr (by decide +kernel) (fun t1 ht hW => ⟨⟨0, (σ, I, J, ri, rj, rq), rfl, ⟨ri, rfl, hG, (hF0.symm.trans hF), hFr, (Or.inr ⟨rfl, trivial⟩)⟩, by rw [ht]; exact hP, va_K.moved hW.alike hK, hD⟩, hS.F ht⟩) hS.2.2 dX12_go_39
    refine lv_if_eq (tgt := 38) hx hb dX12_go_5 (by decide +kernel) (fun c_99 => ?_) (fun c_99 => ?_)
    · replace hF := hF.trans (if_pos c_99)
      have f_106 := (hr_5.resolve_left (fun q => absurd (q.1.symm.trans c_99) (by decide +kernel))).2
      have tc_107 : (x_1).toInt = 0 := congrArg Int32.toInt c_99
      have h_108 : rg x_1 0 0 := rg_and h_8 (rg_of_eq c_99 (rg_k (0 : Int32) 0 rfl)) (by decide +kernel)
      have uh_108 := h_108.1
      have vh_108 := h_108.2
      exact K_98 _ _ _ hF hFr hG hP hD hS (lv_sub hl [] rfl)
    · replace hF := hF.trans (if_neg c_99)
      have f_109 := (hr_5.resolve_right (fun q => c_99 q.1)).2
      have uf_109 := f_109.1
      have vf_109 := f_109.2
      have tc_110 : (x_1).toInt ≠ 0 := fun q => c_99 (Int32.toInt_inj.mp q)
      have h_111 : rg x_1 1 1 := rg_ne c_99 h_8 0 rfl (by decide +kernel)
      have uh_111 := h_111.1
      have vh_111 := h_111.2
      refine lv_aload_n hx hb dX12_go_8 rfl (lv_at hl 0 rfl) ?_
      refine lv_iload_n hx hb dX12_go_9 rfl (lv_at hl 2 rfl) ?_
      refine pk_i (va_runV (As := [.int a1]) (rest := []) ⟨hx, hb, hml, hown, hts⟩ (s_X12_isPlace l D t σ I J ri rj rq H.size tg hSH hG.1 this a1 hL_this hK_this) (cwV 1 hts (tw_V tw_429 tw_430 tw_431 tw_5 tw_432) rfl rfl rfl cv_yX12_isPlace_1 ⟨Nat.le_of_ble_eq_true rfl, Nat.le_of_ble_eq_true rfl⟩) ⟨pq_blind, pq_recv hK hP hL_this hK_this (by decide +kernel) rfl, pq_pre hK hN hP hD⟩ rfl rfl hl.1 rfl (lv_room (Nat.le_of_ble_eq_true rfl)) dX12_go_10 ⟨Nat.le_of_ble_eq_true rfl, Nat.le_of_ble_eq_true rfl⟩) hD hS hA (fun x_112 σ1 μ1 H locs hw_113 hP hD hS => ?_)
      obtain ⟨hu_114, hfn_117, hr_116⟩ := hw_113
      obtain ⟨hu_114a, hu_114b⟩ := Prod.mk.inj hu_114
      rw [hu_114a, hu_114b] at hP hD
      replace hF := hF.trans (bn_n hfn_117)
      have h_119 : rg x_112 0 1 := by rcases hr_116 with ⟨q, -⟩ | ⟨q, -⟩ <;> rw [q] <;> exact ⟨by decide +kernel, by decide +kernel⟩
      have uh_119 := h_119.1
      have vh_119 := h_119.2
      refine lv_if_eq (tgt := 38) hx hb dX12_go_13 (by decide +kernel) (fun c_120 => ?_) (fun c_120 => ?_)
      · replace hF := hF.trans (if_pos c_120)
        have f_128 := (hr_116.resolve_left (fun q => absurd (q.1.symm.trans c_120) (by decide +kernel))).2
        have tc_129 : (x_112).toInt = 0 := congrArg Int32.toInt c_120
        have h_130 : rg x_112 0 0 := rg_and h_119 (rg_of_eq c_120 (rg_k (0 : Int32) 0 rfl)) (by decide +kernel)
        have uh_130 := h_130.1
        have vh_130 := h_130.2
        exact K_98 _ _ _ hF hFr hG hP hD hS (lv_sub hl [] rfl)
      · replace hF := hF.trans (if_neg c_120)
        obtain ⟨f_131, f_132⟩ := (hr_116.resolve_right (fun q => c_120 q.1)).2
        have uf_131 := f_131.1
        have vf_131 := f_131.2
        have tc_133 : (x_112).toInt ≠ 0 := fun q => c_120 (Int32.toInt_inj.mp q)
        have h_134 : rg x_112 1 1 := rg_ne c_120 h_119 0 rfl (by decide +kernel)
        have uh_134 := h_134.1
        have vh_134 := h_134.2
        refine lv_aload_n hx hb dX12_go_16 rfl (lv_at hl 0 rfl) ?_
        refine lv_iload_n hx hb dX12_go_17 rfl (lv_at hl 1 rfl) ?_
        refine lv_iconst (v := 3) hx hb dX12_go_18 (by decide +kernel) ?_
        obtain ⟨w_135, hR_w_135, hL_w_135, hK_w_135, hN_w_135, hT_w_135⟩ := sh_a hSH 384 (ci := 12) (kd := 13) (len := 12720) rfl (by decide +kernel) hL_this hK_this
        have hO_w_135 : w_135 = vrow σ 384 this := vo_k (c := 12) hO_this hR_w_135
        refine pk_i (va_runV (As := [.int a0, .int 3]) (rest := []) ⟨hx, hb, hml, hown, hts⟩ (s_X12_personAt_c3 l D t σ I J ri rj rq H.size tg hSH hG.1 this a0 hL_this hK_this (rg_w f_109 (by decide +kernel)) w_135 hR_w_135 hL_w_135 hK_w_135 hN_w_135 hT_w_135) (cwV 2 hts (tw_V tw_437 tw_438 tw_439 tw_5 tw_440) rfl rfl rfl cv_yX12_personAt_2 ⟨Nat.le_of_ble_eq_true rfl, Nat.le_of_ble_eq_true rfl⟩) ⟨pq_blind, pq_recv hK hP hL_this hK_this (by decide +kernel) rfl, pq_pre hK hN hP hD⟩ rfl rfl hl.1 rfl (lv_room (Nat.le_of_ble_eq_true rfl)) dX12_go_19 ⟨Nat.le_of_ble_eq_true rfl, Nat.le_of_ble_eq_true rfl⟩) hD hS hA (fun x_136 σ1 μ1 H locs hw_137 hP hD hS => ?_)
        obtain ⟨hu_138, hp_141, hp_142, hfn_143, hr_140⟩ := hw_137
        obtain ⟨hu_138a, hu_138b⟩ := Prod.mk.inj hu_138
        rw [hu_138a, hu_138b] at hP hD
        replace hF := hF.trans (bn_n hfn_143)
        have tt_145 := hp_142
        refine lv_iload_n hx hb dX12_go_22 rfl (lv_at hl 2 rfl) ?_
        refine lv_icmp_eq (tgt := 38) hx hb dX12_go_23 (by decide +kernel) (fun c_146 => ?_) (fun c_146 => ?_)
        · replace hF := hF.trans (if_pos c_146)
          have tc_150 : (x_136).toInt = (a1).toInt := congrArg Int32.toInt c_146
          have h_151 : rg x_136 0 200 := rg_and hr_140 (rg_of_eq c_146 f_131) (by decide +kernel)
          have uh_151 := h_151.1
          have vh_151 := h_151.2
          exact K_98 _ _ _ hF hFr hG hP hD hS (lv_sub hl [] rfl)
        · replace hF := hF.trans (if_neg c_146)
          have tc_152 : (x_136).toInt ≠ (a1).toInt := fun q => c_146 (Int32.toInt_inj.mp q)
          refine lv_aload_n hx hb dX12_go_26 rfl (lv_at hl 0 rfl) ?_
          refine lv_iload_n hx hb dX12_go_27 rfl (lv_at hl 1 rfl) ?_
          refine lv_iconst (v := 3) hx hb dX12_go_28 (by decide +kernel) ?_
          refine pk_i (va_runV (As := [.int a0, .int 3]) (rest := []) ⟨hx, hb, hml, hown, hts⟩ (s_X12_personAt_c3 l D t σ I J ri rj rq H.size tg hSH hG.1 this a0 hL_this hK_this (rg_w f_109 (by decide +kernel)) w_135 hR_w_135 hL_w_135 hK_w_135 hN_w_135 hT_w_135) (cwV 2 hts (tw_V tw_437 tw_438 tw_439 tw_5 tw_440) rfl rfl rfl cv_yX12_personAt_2 ⟨Nat.le_of_ble_eq_true rfl, Nat.le_of_ble_eq_true rfl⟩) ⟨pq_blind, pq_recv hK hP hL_this hK_this (by decide +kernel) rfl, pq_pre hK hN hP hD⟩ rfl rfl hl.1 rfl (lv_room (Nat.le_of_ble_eq_true rfl)) dX12_go_29 ⟨Nat.le_of_ble_eq_true rfl, Nat.le_of_ble_eq_true rfl⟩) hD hS hA (fun x_153 σ1 μ1 H locs hw_154 hP hD hS => ?_)
          obtain ⟨hu_155, hp_158, hp_159, hfn_160, hr_157⟩ := hw_154
          obtain ⟨hu_155a, hu_155b⟩ := Prod.mk.inj hu_155
          rw [hu_155a, hu_155b] at hP hD
          replace hF := hF.trans (bn_n hfn_160)
          have tt_162 := hp_159
          refine lv_sipush (v := 300) hx hb dX12_go_32 (by decide +kernel) ?_
          refine lv_icmp_ne (tgt := 40) hx hb dX12_go_35 (by decide +kernel) (fun c_163 => ?_) (fun c_163 => ?_)
          · replace hF := hF.trans (if_neg c_163)
            have tc_168 : (x_153).toInt ≠ 300 := fun q => c_163 (Int32.toInt_inj.mp q)
            have h_169 : rg x_153 0 299 := rg_ne c_163 hr_157 300 rfl (by decide +kernel)
            have uh_169 := h_169.1
            have vh_169 := h_169.2
            refine lv_aload_n hx hb dX12_go_40 rfl (lv_at hl 0 rfl) ?_
            refine lv_iload_n hx hb dX12_go_41 rfl (lv_at hl 2 rfl) ?_
            refine pk_i (va_runV (As := [.int a1]) (rest := []) ⟨hx, hb, hml, hown, hts⟩ (s_X12_isLot l D t σ I J ri rj rq H.size tg hSH hG.1 this a1 hL_this hK_this) (cwV 1 hts (tw_V tw_433 tw_434 tw_435 tw_5 tw_436) rfl rfl rfl cv_yX12_isLot_1 ⟨Nat.le_of_ble_eq_true rfl, Nat.le_of_ble_eq_true rfl⟩) ⟨pq_blind, pq_recv hK hP hL_this hK_this (by decide +kernel) rfl, pq_pre hK hN hP hD⟩ rfl rfl hl.1 rfl (lv_room (Nat.le_of_ble_eq_true rfl)) dX12_go_42 ⟨Nat.le_of_ble_eq_true rfl, Nat.le_of_ble_eq_true rfl⟩) hD hS hA (fun x_170 σ1 μ1 H locs hw_171 hP hD hS => ?_)
            obtain ⟨hu_172, hfn_175, hr_174⟩ := hw_171
            obtain ⟨hu_172a, hu_172b⟩ := Prod.mk.inj hu_172
            rw [hu_172a, hu_172b] at hP hD
            replace hF := hF.trans (bn_n hfn_175)
            have h_177 : rg x_170 0 1 := by rcases hr_174 with ⟨q, -⟩ | ⟨q, -⟩ <;> rw [q] <;> exact ⟨by decide +kernel, by decide +kernel⟩
            have uh_177 := h_177.1
            have vh_177 := h_177.2
            have K_206 : ∀  (H : Heap) (locs : List Loc) (ls : Array Slot), F = g_X12_go_K61 a0 a1 (vI 12 σ this I) (vJ 12 σ this J) (vR 12 σ this ri) (vL 12 σ this rj) (vQ 12 σ this rq)  → FR 12 tg σ this (I, J, ri, rj, rq) (I, J, ri, rj, rq) → GM [1403] tg σ I ri I ri rq → va_P D vwCl (pq_P t σ (I, J, ri, rj, rq)) H → va_D A (pq_P t σ (I, J, ri, rj, rq)) → va_S A s.heap H locs → lv_has ls 3 [(0, .ref this), (1, .int a0), (2, .int a1)] → W p l e ({ frames := 3, cells := 0, slots := 0, locals := 66 } : Room) s m (List.toArray ([.ref this, .int a0, .int a1] : List Value)) below meth c H locs 0 0 Q (F0 m 61 ls []) := by
              intro H locs ls hF hFr hG hP hD hS hl
              replace hF := hF.trans g_X12_go_K61_e
              refine lv_aload_n hx hb dX12_go_61 rfl (lv_at hl 0 rfl) ?_
              refine pg_f (v := .ref w_135) (C := RX12) (T := TX12) (N := 31) hx hb hts (tw_i inlX12) hown hK hP hL_this hK_this (by decide +kernel) rfl 0 (by decide +kernel) (hts _ (tw_c tw_176)) (pq_hv rfl hR_w_135) dX12_go_62 ?_
              refine lv_sipush (v := 740) hx hb dX12_go_65 (by decide +kernel) ?_
              refine lv_bipush (v := 12) hx hb dX12_go_68 (by decide +kernel) ?_
              refine lv_iload_n hx hb dX12_go_70 rfl (lv_at hl 1 rfl) ?_
              refine lv_imul hx hb dX12_go_71 ?_
              refine lv_topi (fun x_207 ex_207 => ?_)
              replace hF := hF.trans (ap_n ex_207)
              have h_208 : rg x_207 0 468 := rg_of_eq ex_207 (rg_mul (rg_k (12 : Int32) 12 rfl) f_109 (by decide +kernel))
              have uh_208 := h_208.1
              have vh_208 := h_208.2
              have tx_207 : (x_207).toInt = 12 * (a0).toInt := by rw [ex_207]; exact i_mul_rg (a2 := 12) (b2 := (a0).toInt) rfl rfl (rg_k (12 : Int32) 12 rfl) f_109 (by decide +kernel)
              refine lv_iadd hx hb dX12_go_72 ?_
              refine lv_topi (fun x_209 ex_209 => ?_)
              replace hF := hF.trans (ap_n ex_209)
              have h_210 : rg x_209 740 1208 := rg_of_eq ex_209 (rg_add (rg_k (740 : Int32) 740 rfl) h_208 (by decide +kernel))
              have uh_210 := h_210.1
              have vh_210 := h_210.2
              have tx_209 : (x_209).toInt = 740 + (x_207).toInt := by rw [ex_209]; exact i_add_rg (a2 := 740) (b2 := (x_207).toInt) rfl rfl (rg_k (740 : Int32) 740 rfl) h_208 (by decide +kernel)
              refine lv_iconst (v := 3) hx hb dX12_go_73 (by decide +kernel) ?_
              refine lv_iadd hx hb dX12_go_74 ?_
              refine lv_topi (fun x_211 ex_211 => ?_)
              replace hF := hF.trans (ap_n ex_211)
              have h_212 : rg x_211 743 1211 := rg_of_eq ex_211 (rg_add h_210 (rg_k (3 : Int32) 3 rfl) (by decide +kernel))
              have uh_212 := h_212.1
              have vh_212 := h_212.2
              have tx_211 : (x_211).toInt = (x_209).toInt + 3 := by rw [ex_211]; exact i_add_rg (a2 := (x_209).toInt) (b2 := 3) rfl rfl h_210 (rg_k (3 : Int32) 3 rfl) (by decide +kernel)
              refine lv_iload_n hx hb dX12_go_75 rfl (lv_at hl 2 rfl) ?_
              refine pt_i hx hb hK hP hD hS hL_w_135 hK_w_135 hN_w_135 (rg_in h_212 (by decide +kernel)) dX12_go_76 (fun r_213 H locs er_213 hP hD hS => ?_)
              replace hFr := fr_R hFr hO_w_135 (by decide +kernel) er_213
              replace hF := hF.trans (ap_n (vR_st hVT hO_w_135 (by decide +kernel) er_213))
              have hG := GM.wp hG hT_w_135 (by decide +kernel) er_213 (zn_PERSON (c := a0.toNatClampNeg) (k := 3) (by have z_i := clampE x_211; have z_0 := clampE a0; omega) (rg_cl1 f_109 (by decide +kernel)) (by decide +kernel)) (rg_w f_131 (by decide +kernel)) (by omega) (by decide +kernel)
              refine lv_iconst (v := 1) hx hb dX12_go_77 (by decide +kernel) ?_
              subst hQ
              exact W.zret (v := 1) hx hb hr (by decide +kernel) (fun t1 ht hW => ⟨⟨1, (σ, I, J, r_213, rj, rq), rfl, ⟨r_213, rfl, hG, (hF0.symm.trans hF), hFr, (Or.inl ⟨rfl, (rg_w f_109 (by decide +kernel)), (rg_w f_131 (by decide +kernel))⟩)⟩, by rw [ht]; exact hP, va_K.moved hW.alike hK, hD⟩, hS.F ht⟩) hS.2.2 dX12_go_78
            refine lv_if_eq (tgt := 61) hx hb dX12_go_45 (by decide +kernel) (fun c_214 => ?_) (fun c_214 => ?_)
            · replace hF := hF.trans (if_pos c_214)
              have f_221 := (hr_174.resolve_left (fun q => absurd (q.1.symm.trans c_214) (by decide +kernel))).2
              have tc_222 : (x_170).toInt = 0 := congrArg Int32.toInt c_214
              have h_223 : rg x_170 0 0 := rg_and h_177 (rg_of_eq c_214 (rg_k (0 : Int32) 0 rfl)) (by decide +kernel)
              have uh_223 := h_223.1
              have vh_223 := h_223.2
              exact K_206 _ _ _ hF hFr hG hP hD hS (lv_sub hl [0, 1, 2] rfl)
            · replace hF := hF.trans (if_neg c_214)
              have f_224 := (hr_174.resolve_right (fun q => c_214 q.1)).2
              have uf_224 := f_224.1
              have vf_224 := f_224.2
              have tc_225 : (x_170).toInt ≠ 0 := fun q => c_214 (Int32.toInt_inj.mp q)
              have h_226 : rg x_170 1 1 := rg_ne c_214 h_177 0 rfl (by decide +kernel)
              have uh_226 := h_226.1
              have vh_226 := h_226.2
              refine lv_aload_n hx hb dX12_go_48 rfl (lv_at hl 0 rfl) ?_
              refine lv_iload_n hx hb dX12_go_49 rfl (lv_at hl 2 rfl) ?_
              refine lv_bipush (v := 100) hx hb dX12_go_50 (by decide +kernel) ?_
              refine lv_isub hx hb dX12_go_52 ?_
              refine lv_topi (fun x_227 ex_227 => ?_)
              replace hF := hF.trans (ap_n ex_227)
              have h_228 : rg x_227 0 4 := rg_of_eq ex_227 (rg_sub f_224 (rg_k (100 : Int32) 100 rfl) (by decide +kernel))
              have uh_228 := h_228.1
              have vh_228 := h_228.2
              have tx_227 : (x_227).toInt = (a1).toInt - 100 := by rw [ex_227]; exact i_sub_rg (a2 := (a1).toInt) (b2 := 100) rfl rfl f_224 (rg_k (100 : Int32) 100 rfl) (by decide +kernel)
              refine pk_i (va_runV (As := [.int x_227]) (rest := []) ⟨hx, hb, hml, hown, hts⟩ (s_X12_freeIn l D t σ I J ri rj rq H.size tg hSH hG.1 this x_227 hL_this hK_this (rg_w h_228 (by decide +kernel))) (cwV 1 hts (tw_V tw_441 tw_442 tw_443 tw_5 tw_444) rfl rfl rfl cv_yX12_freeIn_1 ⟨Nat.le_of_ble_eq_true rfl, Nat.le_of_ble_eq_true rfl⟩) ⟨pq_blind, pq_recv hK hP hL_this hK_this (by decide +kernel) rfl, pq_pre hK hN hP hD⟩ rfl rfl hl.1 rfl (lv_room (Nat.le_of_ble_eq_true rfl)) dX12_go_53 ⟨Nat.le_of_ble_eq_true rfl, Nat.le_of_ble_eq_true rfl⟩) hD hS hA (fun x_229 σ1 μ1 H locs hw_230 hP hD hS => ?_)
              obtain ⟨hu_231, hfn_234⟩ := hw_230
              obtain ⟨hu_231a, hu_231b⟩ := Prod.mk.inj hu_231
              rw [hu_231a, hu_231b] at hP hD
              replace hF := hF.trans (bn_n hfn_234)
              refine lv_if_gt (tgt := 61) hx hb dX12_go_56 (by decide +kernel) (fun c_236 => ?_) (fun c_236 => ?_)
              · replace hF := hF.trans (if_pos c_236)
                have tc_241 : 0 < (x_229).toInt := Int32.lt_iff_toInt_lt.mp c_236
                have h_242 : rg x_229 1 2147483647 := rg_lt2 c_236 (rg_k (0 : Int32) 0 rfl) (rg_full _) (by decide +kernel)
                have uh_242 := h_242.1
                have vh_242 := h_242.2
                exact K_206 _ _ _ hF hFr hG hP hD hS (lv_sub hl [0, 1, 2] rfl)
              · replace hF := hF.trans (if_neg c_236)
                have tc_243 : (x_229).toInt ≤ 0 := Int32.le_iff_toInt_le.mp (nlt c_236)
                have h_244 : rg x_229 (-2147483648) 0 := rg_le1 (nlt c_236) (rg_full _) (rg_k (0 : Int32) 0 rfl) (by decide +kernel)
                have uh_244 := h_244.1
                have vh_244 := h_244.2
                refine lv_iconst (v := 0) hx hb dX12_go_59 (by decide +kernel) ?_
                subst hQ
                exact W.zret (v := 0) hx hb hr (by decide +kernel) (fun t1 ht hW => ⟨⟨0, (σ, I, J, ri, rj, rq), rfl, ⟨ri, rfl, hG, (hF0.symm.trans hF), hFr, (Or.inr ⟨rfl, trivial⟩)⟩, by rw [ht]; exact hP, va_K.moved hW.alike hK, hD⟩, hS.F ht⟩) hS.2.2 dX12_go_60
          · replace hF := hF.trans (if_pos c_163)
            have tc_245 : (x_153).toInt = 300 := congrArg Int32.toInt c_163
            have h_246 : rg x_153 300 300 := rg_and hr_157 (rg_of_eq c_163 (rg_k (300 : Int32) 300 rfl)) (by decide +kernel)
            have uh_246 := h_246.1
            have vh_246 := h_246.2
            exact K_98 _ _ _ hF hFr hG hP hD hS (lv_sub hl [] rfl)
  exact go _ _ _ hP hD hS hl

set_option maxRecDepth 100000 in
def g_X12_clausesOf (a0 : Int32) (I : Nat → Int32) (J : Nat → Int64) (ri : Nat → Nat → Int32) (rj : Nat → Nat → Int64) (rq : Nat → Nat → Option Nat) : Int32 × vM := (ap1 ((900 : Int32) * a0) fun (x_1 : Int32) => (ap1 ((3720 : Int32) + x_1) fun (x_3 : Int32) => (ap1 (ri 384 (x_3).toNatClampNeg) fun (x_5 : Int32) => (x_5, I, J, ri, rj, rq))))
set_option maxRecDepth 100000 in
theorem g_X12_clausesOf_e {a0 : Int32} {I : Nat → Int32} {J : Nat → Int64} {ri : Nat → Nat → Int32} {rj : Nat → Nat → Int64} {rq : Nat → Nat → Option Nat} : g_X12_clausesOf a0 I J ri rj rq = (ap1 ((900 : Int32) * a0) fun (x_1 : Int32) => (ap1 ((3720 : Int32) + x_1) fun (x_3 : Int32) => (ap1 (ri 384 (x_3).toNatClampNeg) fun (x_5 : Int32) => (x_5, I, J, ri, rj, rq)))) := rfl
set_option maxHeartbeats 4000000 in
set_option maxRecDepth 100000 in
theorem s_X12_clausesOf (l : Launch) (D : va_G) (t : pq_T) (σ : pq_S) (I : Nat → Nat → Int32) (J : Nat → Nat → Int64) (ri : Nat → Nat → Int32) (rj : Nat → Nat → Int64) (rq : Nat → Nat → Option Nat) (sz : Nat) (tg : Nat → Nat) (hSH : SH σ tg) (hG0 : GT tg I ri) (this : Nat) (a0 : Int32) (hL_this : this ∈ σ.1) (hK_this : σ.2.1 this = 12) (h_a0 : rg a0 0 9) (this_a : Nat) (hR_this_a : σ.2.2.1 384 this = some this_a) (hL_this_a : this_a ∈ σ.1) (hK_this_a : σ.2.1 this_a = 13) (hN_this_a : σ.2.2.2 this_a = 12720) (hT_this_a : tg this_a = 384) : MetI l yX12_clausesOf (wa yX12_clausesOf cX12_clausesOf 2 (some .int)) ({ frames := 0, cells := 0, slots := 0, locals := 0 }) [.ref this, .int a0] D t σ (I, J, ri, rj, rq) sz 0 0 (fun (r : Int32) (u : pq_S × pq_M) => u = (σ, I, J, ri, rj, rq) ∧ (r = ri this_a (3720 + 900 * a0.toNatClampNeg)) ∧ g_X12_clausesOf a0 (vI 12 σ this I) (vJ 12 σ this J) (vR 12 σ this ri) (vL 12 σ this rj) (vQ 12 σ this rq) = (r, (vI 12 σ this I), (vJ 12 σ this J), (vR 12 σ this ri), (vL 12 σ this rj), (vQ 12 σ this rq)) ∧ rg r 0 20) := by
  refine Met.ofW (cc := cX12_clausesOf) (maxL := 2) (ret := (some .int)) (by decide +kernel) rfl ?_
  intro p e s m args below meth c s₁ B hml hv
  obtain ⟨rfl, hsz, hP, hK, hD0, hN⟩ := hv
  have hx := B.exec
  have hb := B.bytes
  have hr := B.returns
  have hts := atoms_spec (ws := (wa yX12_clausesOf cX12_clausesOf 2 (some .int))) B.pre
  have hown : s.vm.findClass RX12 = some m.cls := findClass_of_methodNamed B.named
  have hlocks := B.notSynchronized
  subst hsz
  have hD : va_D (pq_B t σ (I, J, ri, rj, rq) s.heap.size) (pq_P t σ (I, J, ri, rj, rq)) := hD0.self
  generalize hAe : pq_B t σ (I, J, ri, rj, rq) s.heap.size = A at hD ⊢
  have hA : ∀ q : Nat, s.heap.size ≤ q → A q := fun q h => by rw [← hAe]; exact Or.inr h
  have hS : va_S A s.heap s.heap [] := va_S.rf
  have hG : GM [] tg σ I ri I ri rq := ⟨hG0, fun _ _ _ => rfl, fun _ _ _ _ _ => rfl, fun _ _ _ _ _ _ => rfl⟩
  have hl := lv_entry ([.ref this, .int a0]) (n := 2) (Nat.le_of_ble_eq_true rfl)
  rw [lg_entry_eq]
  generalize (lg_sl ([.ref this, .int a0]) ++ List.replicate (2 - (lg_sl ([.ref this, .int a0])).length) Slot.unset).toArray = ls at hl ⊢
  have hl : lv_has ls 2 [(0, .ref this), (1, .int a0)] := hl
  refine q_gen (fun Q hQ => ?_)
  have go : ∀ (H : Heap) (locs : List Loc) (ls : Array Slot), va_P D vwCl (pq_P t σ (I, J, ri, rj, rq)) H → va_D A (pq_P t σ (I, J, ri, rj, rq)) → va_S A s.heap H locs → lv_has ls 2 [(0, .ref this), (1, .int a0)] → W p l e ({ frames := 0, cells := 0, slots := 0, locals := 0 } : Room) s m (List.toArray ([.ref this, .int a0] : List Value)) below meth c H locs 0 0 Q (F0 m 0 ls []) := by
    intro H locs ls hP hD hS hl
    have hO_this : this = vo σ 12 this := rfl
    have hVT : VT 12 σ tg this := vt_12 hSH hL_this hK_this
    have hFr : FR 12 tg σ this (I, J, ri, rj, rq) (I, J, ri, rj, rq) := fr_rf
    have hO_this_a : this_a = vrow σ 384 this := vo_k (c := 12) hO_this hR_this_a
    obtain ⟨F, hF0⟩ : ∃ F, F = g_X12_clausesOf a0 (vI 12 σ this I) (vJ 12 σ this J) (vR 12 σ this ri) (vL 12 σ this rj) (vQ 12 σ this rq) := ⟨_, rfl⟩
    have hF := hF0.trans g_X12_clausesOf_e
    refine lv_aload_n hx hb dX12_clausesOf_0 rfl (lv_at hl 0 rfl) ?_
    refine pg_f (v := .ref this_a) (C := RX12) (T := TX12) (N := 31) hx hb hts (tw_i inlX12) hown hK hP hL_this hK_this (by decide +kernel) rfl 0 (by decide +kernel) (hts _ (tw_c tw_176)) (pq_hv rfl hR_this_a) dX12_clausesOf_1 ?_
    refine lv_sipush (v := 3720) hx hb dX12_clausesOf_4 (by decide +kernel) ?_
    refine lv_sipush (v := 900) hx hb dX12_clausesOf_7 (by decide +kernel) ?_
    refine lv_iload_n hx hb dX12_clausesOf_10 rfl (lv_at hl 1 rfl) ?_
    refine lv_imul hx hb dX12_clausesOf_11 ?_
    refine lv_topi (fun x_1 ex_1 => ?_)
    replace hF := hF.trans (ap_n ex_1)
    have h_2 : rg x_1 0 8100 := rg_of_eq ex_1 (rg_mul (rg_k (900 : Int32) 900 rfl) h_a0 (by decide +kernel))
    have uh_2 := h_2.1
    have vh_2 := h_2.2
    have tx_1 : (x_1).toInt = 900 * (a0).toInt := by rw [ex_1]; exact i_mul_rg (a2 := 900) (b2 := (a0).toInt) rfl rfl (rg_k (900 : Int32) 900 rfl) h_a0 (by decide +kernel)
    refine lv_iadd hx hb dX12_clausesOf_12 ?_
    refine lv_topi (fun x_3 ex_3 => ?_)
    replace hF := hF.trans (ap_n ex_3)
    have h_4 : rg x_3 3720 11820 := rg_of_eq ex_3 (rg_add (rg_k (3720 : Int32) 3720 rfl) h_2 (by decide +kernel))
    have uh_4 := h_4.1
    have vh_4 := h_4.2
    have tx_3 : (x_3).toInt = 3720 + (x_1).toInt := by rw [ex_3]; exact i_add_rg (a2 := 3720) (b2 := (x_1).toInt) rfl rfl (rg_k (3720 : Int32) 3720 rfl) h_2 (by decide +kernel)
    refine pl_i hx hb hK hP hL_this_a hK_this_a hN_this_a (rg_in h_4 (by decide +kernel)) dX12_clausesOf_13 ?_
    refine lv_topi (fun x_5 ex_5 => ?_)
    replace hF := hF.trans (ap_n (vR_r hO_this_a (by decide +kernel) ex_5))
    have h_6 : rg x_5 0 20 := rg_of_eq ex_5 (GM.z hG (by rw [hT_this_a]; decide) (zn_t0 (t := a0.toNatClampNeg) (by have z_i := clampE x_3; have z_0 := clampE a0; omega) (rg_cl1 h_a0 (by decide +kernel))) rfl)
    have uh_6 := h_6.1
    have vh_6 := h_6.2
    subst hQ
    exact W.iret (v := x_5) hx hb hr (fun t1 ht hW => ⟨⟨x_5, (σ, I, J, ri, rj, rq), rfl, ⟨rfl, (show x_5 = ri this_a (3720 + 900 * a0.toNatClampNeg) from ex_5.trans (congrArg (ri this_a) (by have z0 := clampE a0; have z9 := clampE x_3; omega))), (hF0.symm.trans hF), (rg_w h_6 (by decide +kernel))⟩, by rw [ht]; exact hP, va_K.moved hW.alike hK, hD⟩, hS.F ht⟩) hS.2.2 dX12_clausesOf_14
  exact go _ _ _ hP hD hS hl

set_option maxRecDepth 100000 in
def g_X12_clauseAt (a0 : Int32) (a1 : Int32) (I : Nat → Int32) (J : Nat → Int64) (ri : Nat → Nat → Int32) (rj : Nat → Nat → Int64) (rq : Nat → Nat → Option Nat) : Int32 × vM := (ap1 ((900 : Int32) * a0) fun (x_1 : Int32) => (ap1 ((3720 : Int32) + x_1) fun (x_3 : Int32) => (ap1 (x_3 + (1 : Int32)) fun (x_5 : Int32) => (ap1 ((12 : Int32) * a1) fun (x_7 : Int32) => (ap1 (x_5 + x_7) fun (x_9 : Int32) => (x_9, I, J, ri, rj, rq))))))
set_option maxRecDepth 100000 in
theorem g_X12_clauseAt_e {a0 : Int32} {a1 : Int32} {I : Nat → Int32} {J : Nat → Int64} {ri : Nat → Nat → Int32} {rj : Nat → Nat → Int64} {rq : Nat → Nat → Option Nat} : g_X12_clauseAt a0 a1 I J ri rj rq = (ap1 ((900 : Int32) * a0) fun (x_1 : Int32) => (ap1 ((3720 : Int32) + x_1) fun (x_3 : Int32) => (ap1 (x_3 + (1 : Int32)) fun (x_5 : Int32) => (ap1 ((12 : Int32) * a1) fun (x_7 : Int32) => (ap1 (x_5 + x_7) fun (x_9 : Int32) => (x_9, I, J, ri, rj, rq)))))) := rfl
set_option maxHeartbeats 4000000 in
set_option maxRecDepth 100000 in
theorem s_X12_clauseAt (l : Launch) (D : va_G) (t : pq_T) (σ : pq_S) (I : Nat → Nat → Int32) (J : Nat → Nat → Int64) (ri : Nat → Nat → Int32) (rj : Nat → Nat → Int64) (rq : Nat → Nat → Option Nat) (sz : Nat) (tg : Nat → Nat) (hSH : SH σ tg) (hG0 : GT tg I ri) (this : Nat) (a0 : Int32) (a1 : Int32) (hL_this : this ∈ σ.1) (hK_this : σ.2.1 this = 12) (h_a0 : rg a0 0 9) (h_a1 : rg a1 0 20) : MetI l yX12_clauseAt (wa yX12_clauseAt cX12_clauseAt 3 (some .int)) ({ frames := 0, cells := 0, slots := 0, locals := 0 }) [.ref this, .int a0, .int a1] D t σ (I, J, ri, rj, rq) sz 0 0 (fun (r : Int32) (u : pq_S × pq_M) => u = (σ, I, J, ri, rj, rq) ∧ (r.toInt = 3721 + 900 * a0.toInt + 12 * a1.toInt) ∧ g_X12_clauseAt a0 a1 (vI 12 σ this I) (vJ 12 σ this J) (vR 12 σ this ri) (vL 12 σ this rj) (vQ 12 σ this rq) = (r, (vI 12 σ this I), (vJ 12 σ this J), (vR 12 σ this ri), (vL 12 σ this rj), (vQ 12 σ this rq)) ∧ rg r 3721 12061) := by
  refine Met.ofW (cc := cX12_clauseAt) (maxL := 3) (ret := (some .int)) (by decide +kernel) rfl ?_
  intro p e s m args below meth c s₁ B hml hv
  obtain ⟨rfl, hsz, hP, hK, hD0, hN⟩ := hv
  have hx := B.exec
  have hb := B.bytes
  have hr := B.returns
  have hts := atoms_spec (ws := (wa yX12_clauseAt cX12_clauseAt 3 (some .int))) B.pre
  have hown : s.vm.findClass RX12 = some m.cls := findClass_of_methodNamed B.named
  have hlocks := B.notSynchronized
  subst hsz
  have hD : va_D (pq_B t σ (I, J, ri, rj, rq) s.heap.size) (pq_P t σ (I, J, ri, rj, rq)) := hD0.self
  generalize hAe : pq_B t σ (I, J, ri, rj, rq) s.heap.size = A at hD ⊢
  have hA : ∀ q : Nat, s.heap.size ≤ q → A q := fun q h => by rw [← hAe]; exact Or.inr h
  have hS : va_S A s.heap s.heap [] := va_S.rf
  have hG : GM [] tg σ I ri I ri rq := ⟨hG0, fun _ _ _ => rfl, fun _ _ _ _ _ => rfl, fun _ _ _ _ _ _ => rfl⟩
  have hl := lv_entry ([.ref this, .int a0, .int a1]) (n := 3) (Nat.le_of_ble_eq_true rfl)
  rw [lg_entry_eq]
  generalize (lg_sl ([.ref this, .int a0, .int a1]) ++ List.replicate (3 - (lg_sl ([.ref this, .int a0, .int a1])).length) Slot.unset).toArray = ls at hl ⊢
  have hl : lv_has ls 3 [(0, .ref this), (1, .int a0), (2, .int a1)] := hl
  refine q_gen (fun Q hQ => ?_)
  have go : ∀ (H : Heap) (locs : List Loc) (ls : Array Slot), va_P D vwCl (pq_P t σ (I, J, ri, rj, rq)) H → va_D A (pq_P t σ (I, J, ri, rj, rq)) → va_S A s.heap H locs → lv_has ls 3 [(0, .ref this), (1, .int a0), (2, .int a1)] → W p l e ({ frames := 0, cells := 0, slots := 0, locals := 0 } : Room) s m (List.toArray ([.ref this, .int a0, .int a1] : List Value)) below meth c H locs 0 0 Q (F0 m 0 ls []) := by
    intro H locs ls hP hD hS hl
    have hO_this : this = vo σ 12 this := rfl
    have hVT : VT 12 σ tg this := vt_12 hSH hL_this hK_this
    have hFr : FR 12 tg σ this (I, J, ri, rj, rq) (I, J, ri, rj, rq) := fr_rf
    obtain ⟨F, hF0⟩ : ∃ F, F = g_X12_clauseAt a0 a1 (vI 12 σ this I) (vJ 12 σ this J) (vR 12 σ this ri) (vL 12 σ this rj) (vQ 12 σ this rq) := ⟨_, rfl⟩
    have hF := hF0.trans g_X12_clauseAt_e
    refine lv_sipush (v := 3720) hx hb dX12_clauseAt_0 (by decide +kernel) ?_
    refine lv_sipush (v := 900) hx hb dX12_clauseAt_3 (by decide +kernel) ?_
    refine lv_iload_n hx hb dX12_clauseAt_6 rfl (lv_at hl 1 rfl) ?_
    refine lv_imul hx hb dX12_clauseAt_7 ?_
    refine lv_topi (fun x_1 ex_1 => ?_)
    replace hF := hF.trans (ap_n ex_1)
    have h_2 : rg x_1 0 8100 := rg_of_eq ex_1 (rg_mul (rg_k (900 : Int32) 900 rfl) h_a0 (by decide +kernel))
    have uh_2 := h_2.1
    have vh_2 := h_2.2
    have tx_1 : (x_1).toInt = 900 * (a0).toInt := by rw [ex_1]; exact i_mul_rg (a2 := 900) (b2 := (a0).toInt) rfl rfl (rg_k (900 : Int32) 900 rfl) h_a0 (by decide +kernel)
    refine lv_iadd hx hb dX12_clauseAt_8 ?_
    refine lv_topi (fun x_3 ex_3 => ?_)
    replace hF := hF.trans (ap_n ex_3)
    have h_4 : rg x_3 3720 11820 := rg_of_eq ex_3 (rg_add (rg_k (3720 : Int32) 3720 rfl) h_2 (by decide +kernel))
    have uh_4 := h_4.1
    have vh_4 := h_4.2
    have tx_3 : (x_3).toInt = 3720 + (x_1).toInt := by rw [ex_3]; exact i_add_rg (a2 := 3720) (b2 := (x_1).toInt) rfl rfl (rg_k (3720 : Int32) 3720 rfl) h_2 (by decide +kernel)
    refine lv_iconst (v := 1) hx hb dX12_clauseAt_9 (by decide +kernel) ?_
    refine lv_iadd hx hb dX12_clauseAt_10 ?_
    refine lv_topi (fun x_5 ex_5 => ?_)
    replace hF := hF.trans (ap_n ex_5)
    have h_6 : rg x_5 3721 11821 := rg_of_eq ex_5 (rg_add h_4 (rg_k (1 : Int32) 1 rfl) (by decide +kernel))
    have uh_6 := h_6.1
    have vh_6 := h_6.2
    have tx_5 : (x_5).toInt = (x_3).toInt + 1 := by rw [ex_5]; exact i_add_rg (a2 := (x_3).toInt) (b2 := 1) rfl rfl h_4 (rg_k (1 : Int32) 1 rfl) (by decide +kernel)
    refine lv_bipush (v := 12) hx hb dX12_clauseAt_11 (by decide +kernel) ?_
    refine lv_iload_n hx hb dX12_clauseAt_13 rfl (lv_at hl 2 rfl) ?_
    refine lv_imul hx hb dX12_clauseAt_14 ?_
    refine lv_topi (fun x_7 ex_7 => ?_)
    replace hF := hF.trans (ap_n ex_7)
    have h_8 : rg x_7 0 240 := rg_of_eq ex_7 (rg_mul (rg_k (12 : Int32) 12 rfl) h_a1 (by decide +kernel))
    have uh_8 := h_8.1
    have vh_8 := h_8.2
    have tx_7 : (x_7).toInt = 12 * (a1).toInt := by rw [ex_7]; exact i_mul_rg (a2 := 12) (b2 := (a1).toInt) rfl rfl (rg_k (12 : Int32) 12 rfl) h_a1 (by decide +kernel)
    refine lv_iadd hx hb dX12_clauseAt_15 ?_
    refine lv_topi (fun x_9 ex_9 => ?_)
    replace hF := hF.trans (ap_n ex_9)
    have h_10 : rg x_9 3721 12061 := rg_of_eq ex_9 (rg_add h_6 h_8 (by decide +kernel))
    have uh_10 := h_10.1
    have vh_10 := h_10.2
    have tx_9 : (x_9).toInt = (x_5).toInt + (x_7).toInt := by rw [ex_9]; exact i_add_rg (a2 := (x_5).toInt) (b2 := (x_7).toInt) rfl rfl h_6 h_8 (by decide +kernel)
    subst hQ
    exact W.iret (v := x_9) hx hb hr (fun t1 ht hW => ⟨⟨x_9, (σ, I, J, ri, rj, rq), rfl, ⟨rfl, (by omega), (hF0.symm.trans hF), (rg_w h_10 (by decide +kernel))⟩, by rw [ht]; exact hP, va_K.moved hW.alike hK, hD⟩, hS.F ht⟩) hS.2.2 dX12_clauseAt_16
  exact go _ _ _ hP hD hS hl

set_option maxRecDepth 100000 in
def g_X12_firstOf_L2 (a0 : Int32) (a1 : Int32) (I : Nat → Int32) (J : Nat → Int64) (ri : Nat → Nat → Int32) (rj : Nat → Nat → Int64) (rq : Nat → Nat → Option Nat) : Nat → (Int32) → Int32 × vM
  | 0, x_319 => ((0 : Int32), I, J, ri, rj, rq)
  | n_360 + 1, x_319 => (bnI (g_X12_clausesOf a0 I J ri rj rq) fun (x_365 : Int32) (_ : Nat → Int32) (_ : Nat → Int64) (_ : Nat → Nat → Int32) (_ : Nat → Nat → Int64) (_ : Nat → Nat → Option Nat) => (if x_365 ≤ x_319 then ((-1 : Int32), I, J, ri, rj, rq) else (bnI (g_X12_clauseAt a0 x_319 I J ri rj rq) fun (x_383 : Int32) (_ : Nat → Int32) (_ : Nat → Int64) (_ : Nat → Nat → Int32) (_ : Nat → Nat → Int64) (_ : Nat → Nat → Option Nat) => (ap1 (ri 384 (x_383).toNatClampNeg) fun (x_392 : Int32) => (if x_392 = a1 then (bnI (g_X12_clauseAt a0 x_319 I J ri rj rq) fun (x_400 : Int32) (_ : Nat → Int32) (_ : Nat → Int64) (_ : Nat → Nat → Int32) (_ : Nat → Nat → Int64) (_ : Nat → Nat → Option Nat) => (x_400, I, J, ri, rj, rq)) else (ap1 (x_319 + Int32.ofInt 1) fun (x_397 : Int32) => ((g_X12_firstOf_L2 a0 a1 I J ri rj rq n_360) x_397)))))))
set_option maxRecDepth 100000 in
theorem g_X12_firstOf_L2_e {a0 : Int32} {a1 : Int32} {I : Nat → Int32} {J : Nat → Int64} {ri : Nat → Nat → Int32} {rj : Nat → Nat → Int64} {rq : Nat → Nat → Option Nat} {n_360 : Nat} {x_319 : Int32} : g_X12_firstOf_L2 a0 a1 I J ri rj rq (n_360 + 1) x_319 = (bnI (g_X12_clausesOf a0 I J ri rj rq) fun (x_365 : Int32) (_ : Nat → Int32) (_ : Nat → Int64) (_ : Nat → Nat → Int32) (_ : Nat → Nat → Int64) (_ : Nat → Nat → Option Nat) => (if x_365 ≤ x_319 then ((-1 : Int32), I, J, ri, rj, rq) else (bnI (g_X12_clauseAt a0 x_319 I J ri rj rq) fun (x_383 : Int32) (_ : Nat → Int32) (_ : Nat → Int64) (_ : Nat → Nat → Int32) (_ : Nat → Nat → Int64) (_ : Nat → Nat → Option Nat) => (ap1 (ri 384 (x_383).toNatClampNeg) fun (x_392 : Int32) => (if x_392 = a1 then (bnI (g_X12_clauseAt a0 x_319 I J ri rj rq) fun (x_400 : Int32) (_ : Nat → Int32) (_ : Nat → Int64) (_ : Nat → Nat → Int32) (_ : Nat → Nat → Int64) (_ : Nat → Nat → Option Nat) => (x_400, I, J, ri, rj, rq)) else (ap1 (x_319 + Int32.ofInt 1) fun (x_397 : Int32) => ((g_X12_firstOf_L2 a0 a1 I J ri rj rq n_360) x_397))))))) := rfl
set_option maxRecDepth 100000 in
def g_X12_firstOf (a0 : Int32) (a1 : Int32) (I : Nat → Int32) (J : Nat → Int64) (ri : Nat → Nat → Int32) (rj : Nat → Nat → Int64) (rq : Nat → Nat → Option Nat) : Int32 × vM := (g_X12_firstOf_L2 a0 a1 I J ri rj rq ((20 - ((0 : Int32)).toInt).toNat + 1) (0 : Int32))
set_option maxRecDepth 100000 in
theorem g_X12_firstOf_e {a0 : Int32} {a1 : Int32} {I : Nat → Int32} {J : Nat → Int64} {ri : Nat → Nat → Int32} {rj : Nat → Nat → Int64} {rq : Nat → Nat → Option Nat} : g_X12_firstOf a0 a1 I J ri rj rq = (g_X12_firstOf_L2 a0 a1 I J ri rj rq ((20 - ((0 : Int32)).toInt).toNat + 1) (0 : Int32)) := rfl
set_option maxHeartbeats 4000000 in
set_option maxRecDepth 100000 in
theorem s_X12_firstOf (l : Launch) (D : va_G) (t : pq_T) (σ : pq_S) (I : Nat → Nat → Int32) (J : Nat → Nat → Int64) (ri : Nat → Nat → Int32) (rj : Nat → Nat → Int64) (rq : Nat → Nat → Option Nat) (sz : Nat) (tg : Nat → Nat) (hSH : SH σ tg) (hG0 : GT tg I ri) (this : Nat) (a0 : Int32) (a1 : Int32) (hL_this : this ∈ σ.1) (hK_this : σ.2.1 this = 12) (h_a0 : rg a0 0 9) (this_a : Nat) (hR_this_a : σ.2.2.1 384 this = some this_a) (hL_this_a : this_a ∈ σ.1) (hK_this_a : σ.2.1 this_a = 13) (hN_this_a : σ.2.2.2 this_a = 12720) (hT_this_a : tg this_a = 384) : MetI l yX12_firstOf (wa yX12_firstOf cX12_firstOf 4 (some .int)) ({ frames := 1, cells := 0, slots := 0, locals := 22 }) [.ref this, .int a0, .int a1] D t σ (I, J, ri, rj, rq) sz 0 0 (fun (r : Int32) (u : pq_S × pq_M) => u = (σ, I, J, ri, rj, rq) ∧ (r.toInt = -1 ∨ ∃ c : Nat, c < 20 ∧ (c : Int) < (ri this_a (3720 + 900 * a0.toNatClampNeg)).toInt ∧ r.toInt = 3721 + 900 * a0.toInt + 12 * c) ∧ g_X12_firstOf a0 a1 (vI 12 σ this I) (vJ 12 σ this J) (vR 12 σ this ri) (vL 12 σ this rj) (vQ 12 σ this rq) = (r, (vI 12 σ this I), (vJ 12 σ this J), (vR 12 σ this ri), (vL 12 σ this rj), (vQ 12 σ this rq)) ∧ rg r (-1) 12061) := by
  refine Met.ofW (cc := cX12_firstOf) (maxL := 4) (ret := (some .int)) (by decide +kernel) rfl ?_
  intro p e s m args below meth c s₁ B hml hv
  obtain ⟨rfl, hsz, hP, hK, hD0, hN⟩ := hv
  have hx := B.exec
  have hb := B.bytes
  have hr := B.returns
  have hts := atoms_spec (ws := (wa yX12_firstOf cX12_firstOf 4 (some .int))) B.pre
  have hown : s.vm.findClass RX12 = some m.cls := findClass_of_methodNamed B.named
  have hlocks := B.notSynchronized
  subst hsz
  have hD : va_D (pq_B t σ (I, J, ri, rj, rq) s.heap.size) (pq_P t σ (I, J, ri, rj, rq)) := hD0.self
  generalize hAe : pq_B t σ (I, J, ri, rj, rq) s.heap.size = A at hD ⊢
  have hA : ∀ q : Nat, s.heap.size ≤ q → A q := fun q h => by rw [← hAe]; exact Or.inr h
  have hS : va_S A s.heap s.heap [] := va_S.rf
  have hG : GM [] tg σ I ri I ri rq := ⟨hG0, fun _ _ _ => rfl, fun _ _ _ _ _ => rfl, fun _ _ _ _ _ _ => rfl⟩
  have hl := lv_entry ([.ref this, .int a0, .int a1]) (n := 4) (Nat.le_of_ble_eq_true rfl)
  rw [lg_entry_eq]
  generalize (lg_sl ([.ref this, .int a0, .int a1]) ++ List.replicate (4 - (lg_sl ([.ref this, .int a0, .int a1])).length) Slot.unset).toArray = ls at hl ⊢
  have hl : lv_has ls 4 [(0, .ref this), (1, .int a0), (2, .int a1)] := hl
  refine q_gen (fun Q hQ => ?_)
  have go : ∀ (H : Heap) (locs : List Loc) (ls : Array Slot), va_P D vwCl (pq_P t σ (I, J, ri, rj, rq)) H → va_D A (pq_P t σ (I, J, ri, rj, rq)) → va_S A s.heap H locs → lv_has ls 4 [(0, .ref this), (1, .int a0), (2, .int a1)] → W p l e ({ frames := 1, cells := 0, slots := 0, locals := 22 } : Room) s m (List.toArray ([.ref this, .int a0, .int a1] : List Value)) below meth c H locs 0 0 Q (F0 m 0 ls []) := by
    intro H locs ls hP hD hS hl
    have hO_this : this = vo σ 12 this := rfl
    have hVT : VT 12 σ tg this := vt_12 hSH hL_this hK_this
    have hFr : FR 12 tg σ this (I, J, ri, rj, rq) (I, J, ri, rj, rq) := fr_rf
    have hO_this_a : this_a = vrow σ 384 this := vo_k (c := 12) hO_this hR_this_a
    obtain ⟨F, hF0⟩ : ∃ F, F = g_X12_firstOf a0 a1 (vI 12 σ this I) (vJ 12 σ this J) (vR 12 σ this ri) (vL 12 σ this rj) (vQ 12 σ this rq) := ⟨_, rfl⟩
    have hF := hF0.trans g_X12_firstOf_e
    refine lv_iconst (v := 0) hx hb dX12_firstOf_0 (by decide +kernel) ?_
    refine lv_istore_n (lv' := [(3, .int 0), (0, .ref this), (1, .int a0), (2, .int a1)]) hx hb dX12_firstOf_1 rfl hl (by decide +kernel) rfl (fun ls hl => ?_)
    have L_361 : ∀ (n_360 : Nat) (x_319 : Int32) (H : Heap) (locs : List Loc) (ls : Array Slot), rg x_319 0 20 → (20 - (x_319).toInt).toNat < n_360 → F = g_X12_firstOf_L2 a0 a1 (vI 12 σ this I) (vJ 12 σ this J) (vR 12 σ this ri) (vL 12 σ this rj) (vQ 12 σ this rq) n_360 x_319 → FR 12 tg σ this (I, J, ri, rj, rq) (I, J, ri, rj, rq) → GM [] tg σ I ri I ri rq → va_P D vwCl (pq_P t σ (I, J, ri, rj, rq)) H → va_D A (pq_P t σ (I, J, ri, rj, rq)) → va_S A s.heap H locs → lv_has ls 4 [(0, .ref this), (1, .int a0), (2, .int a1), (3, .int x_319)] → W p l e ({ frames := 1, cells := 0, slots := 0, locals := 22 } : Room) s m (List.toArray ([.ref this, .int a0, .int a1] : List Value)) below meth c H locs 0 0 Q (F0 m 2 ls []) := by
      intro n_360
      induction n_360 with
      | zero => intro x_319 H locs ls h_364 hm_359 hF hFr hG hP hD hS hl; exact absurd hm_359 (Nat.not_lt_zero _)
      | succ n_360 ih_362 =>
        intro x_319 H locs ls h_364 hm_359 hF hFr hG hP hD hS hl
        have uh_364 := h_364.1
        have vh_364 := h_364.2
        replace hF := hF.trans g_X12_firstOf_L2_e
        refine lv_iload_n hx hb dX12_firstOf_2 rfl (lv_at hl 3 rfl) ?_
        refine lv_aload_n hx hb dX12_firstOf_3 rfl (lv_at hl 0 rfl) ?_
        refine lv_iload_n hx hb dX12_firstOf_4 rfl (lv_at hl 1 rfl) ?_
        refine pk_i (va_runV (As := [.int a0]) (rest := [.int x_319]) ⟨hx, hb, hml, hown, hts⟩ (s_X12_clausesOf l D t σ I J ri rj rq H.size tg hSH hG.1 this a0 hL_this hK_this (rg_w h_a0 (by decide +kernel)) this_a hR_this_a hL_this_a hK_this_a hN_this_a hT_this_a) (cwV 1 hts (tw_V tw_516 tw_517 tw_518 tw_5 tw_519) rfl rfl rfl cv_yX12_clausesOf_1 ⟨Nat.le_of_ble_eq_true rfl, Nat.le_of_ble_eq_true rfl⟩) ⟨pq_blind, pq_recv hK hP hL_this hK_this (by decide +kernel) rfl, pq_pre hK hN hP hD⟩ rfl rfl hl.1 rfl (lv_room (Nat.le_of_ble_eq_true rfl)) dX12_firstOf_5 ⟨Nat.le_of_ble_eq_true rfl, Nat.le_of_ble_eq_true rfl⟩) hD hS hA (fun x_365 σ1 μ1 H locs hw_366 hP hD hS => ?_)
        obtain ⟨hu_367, hp_370, hfn_371, hr_369⟩ := hw_366
        obtain ⟨hu_367a, hu_367b⟩ := Prod.mk.inj hu_367
        rw [hu_367a, hu_367b] at hP hD
        replace hF := hF.trans (bn_n hfn_371)
        have tt_373 := congrArg Int32.toInt hp_370
        refine lv_icmp_ge (tgt := 39) hx hb dX12_firstOf_8 (by decide +kernel) (fun c_374 => ?_) (fun c_374 => ?_)
        · replace hF := hF.trans (if_pos c_374)
          have tc_379 : (x_365).toInt ≤ (x_319).toInt := Int32.le_iff_toInt_le.mp c_374
          refine lv_iconst (v := (-1)) hx hb dX12_firstOf_39 (by decide +kernel) ?_
          subst hQ
          exact W.iret (v := (-1)) hx hb hr (fun t1 ht hW => ⟨⟨(-1), (σ, I, J, ri, rj, rq), rfl, ⟨rfl, (Or.inl rfl), (hF0.symm.trans hF), (rg_w (rg_k (-1 : Int32) (-1) rfl) (by decide +kernel))⟩, by rw [ht]; exact hP, va_K.moved hW.alike hK, hD⟩, hS.F ht⟩) hS.2.2 dX12_firstOf_40
        · replace hF := hF.trans (if_neg c_374)
          have tc_380 : (x_319).toInt < (x_365).toInt := Int32.lt_iff_toInt_lt.mp (nle c_374)
          have h_381 : rg x_319 0 19 := rg_lt1 (nle c_374) h_364 hr_369 (by decide +kernel)
          have uh_381 := h_381.1
          have vh_381 := h_381.2
          have h_382 : rg x_365 1 20 := rg_lt2 (nle c_374) h_364 hr_369 (by decide +kernel)
          have uh_382 := h_382.1
          have vh_382 := h_382.2
          refine lv_aload_n hx hb dX12_firstOf_11 rfl (lv_at hl 0 rfl) ?_
          refine pg_f (v := .ref this_a) (C := RX12) (T := TX12) (N := 31) hx hb hts (tw_i inlX12) hown hK hP hL_this hK_this (by decide +kernel) rfl 0 (by decide +kernel) (hts _ (tw_c tw_176)) (pq_hv rfl hR_this_a) dX12_firstOf_12 ?_
          refine lv_aload_n hx hb dX12_firstOf_15 rfl (lv_at hl 0 rfl) ?_
          refine lv_iload_n hx hb dX12_firstOf_16 rfl (lv_at hl 1 rfl) ?_
          refine lv_iload_n hx hb dX12_firstOf_17 rfl (lv_at hl 3 rfl) ?_
          refine pk_i (va_runV (As := [.int a0, .int x_319]) (rest := [.ref this_a]) ⟨hx, hb, hml, hown, hts⟩ (s_X12_clauseAt l D t σ I J ri rj rq H.size tg hSH hG.1 this a0 x_319 hL_this hK_this (rg_w h_a0 (by decide +kernel)) (rg_w h_381 (by decide +kernel))) (cwV 2 hts (tw_V tw_520 tw_521 tw_522 tw_5 tw_523) rfl rfl rfl cv_yX12_clauseAt_2 ⟨Nat.le_of_ble_eq_true rfl, Nat.le_of_ble_eq_true rfl⟩) ⟨pq_blind, pq_recv hK hP hL_this hK_this (by decide +kernel) rfl, pq_pre hK hN hP hD⟩ rfl rfl hl.1 rfl (lv_room (Nat.le_of_ble_eq_true rfl)) dX12_firstOf_18 ⟨Nat.le_of_ble_eq_true rfl, Nat.le_of_ble_eq_true rfl⟩) hD hS hA (fun x_383 σ1 μ1 H locs hw_384 hP hD hS => ?_)
          obtain ⟨hu_385, hp_388, hfn_389, hr_387⟩ := hw_384
          obtain ⟨hu_385a, hu_385b⟩ := Prod.mk.inj hu_385
          rw [hu_385a, hu_385b] at hP hD
          replace hF := hF.trans (bn_n hfn_389)
          have tt_391 := hp_388
          refine pl_i hx hb hK hP hL_this_a hK_this_a hN_this_a (rg_in hr_387 (by decide +kernel)) dX12_firstOf_21 ?_
          refine lv_topi (fun x_392 ex_392 => ?_)
          replace hF := hF.trans (ap_n (vR_r hO_this_a (by decide +kernel) ex_392))
          refine lv_iload_n hx hb dX12_firstOf_22 rfl (lv_at hl 2 rfl) ?_
          refine lv_icmp_ne (tgt := 33) hx hb dX12_firstOf_23 (by decide +kernel) (fun c_393 => ?_) (fun c_393 => ?_)
          · replace hF := hF.trans (if_neg c_393)
            have tc_396 : (x_392).toInt ≠ (a1).toInt := fun q => c_393 (Int32.toInt_inj.mp q)
            obtain ⟨x_397, ex_397⟩ : ∃ y : Int32, y = x_319 + Int32.ofInt 1 := ⟨_, rfl⟩
            replace hF := hF.trans (ap_n ex_397)
            have h_398 : rg x_397 1 20 := rg_of_eq ex_397 (rg_add h_381 (rg_k (Int32.ofInt 1) 1 rfl) (by decide +kernel))
            have uh_398 := h_398.1
            have vh_398 := h_398.2
            have tx_397 : (x_397).toInt = (x_319).toInt + 1 := by rw [ex_397]; exact i_add_rg (a2 := (x_319).toInt) (b2 := 1) rfl rfl h_381 (rg_k (Int32.ofInt 1) 1 rfl) (by decide +kernel)
            refine lv_iinc (v := x_397) (lv' := [(3, .int x_397), (0, .ref this), (1, .int a0), (2, .int a1)]) hx hb dX12_firstOf_33 hl (k := 3) rfl ex_397.symm (by decide +kernel) rfl (fun ls hl => ?_)
            refine lv_goto (tgt := 2) hx hb dX12_firstOf_36 (by decide +kernel) ?_
            exact ih_362 x_397 _ _ _ (rg_w h_398 (by decide +kernel)) (ms_up 1 hm_359 ex_397 rfl (by decide +kernel) h_381 (by decide +kernel) (by decide +kernel)) hF hFr hG hP hD hS (lv_sub hl [1, 2, 3, 0] rfl)
          · replace hF := hF.trans (if_pos c_393)
            have tc_399 : (x_392).toInt = (a1).toInt := congrArg Int32.toInt c_393
            refine lv_aload_n hx hb dX12_firstOf_26 rfl (lv_at hl 0 rfl) ?_
            refine lv_iload_n hx hb dX12_firstOf_27 rfl (lv_at hl 1 rfl) ?_
            refine lv_iload_n hx hb dX12_firstOf_28 rfl (lv_at hl 3 rfl) ?_
            refine pk_i (va_runV (As := [.int a0, .int x_319]) (rest := []) ⟨hx, hb, hml, hown, hts⟩ (s_X12_clauseAt l D t σ I J ri rj rq H.size tg hSH hG.1 this a0 x_319 hL_this hK_this (rg_w h_a0 (by decide +kernel)) (rg_w h_381 (by decide +kernel))) (cwV 2 hts (tw_V tw_520 tw_521 tw_522 tw_5 tw_523) rfl rfl rfl cv_yX12_clauseAt_2 ⟨Nat.le_of_ble_eq_true rfl, Nat.le_of_ble_eq_true rfl⟩) ⟨pq_blind, pq_recv hK hP hL_this hK_this (by decide +kernel) rfl, pq_pre hK hN hP hD⟩ rfl rfl hl.1 rfl (lv_room (Nat.le_of_ble_eq_true rfl)) dX12_firstOf_29 ⟨Nat.le_of_ble_eq_true rfl, Nat.le_of_ble_eq_true rfl⟩) hD hS hA (fun x_400 σ1 μ1 H locs hw_401 hP hD hS => ?_)
            obtain ⟨hu_402, hp_405, hfn_406, hr_404⟩ := hw_401
            obtain ⟨hu_402a, hu_402b⟩ := Prod.mk.inj hu_402
            rw [hu_402a, hu_402b] at hP hD
            replace hF := hF.trans (bn_n hfn_406)
            have tt_408 := hp_405
            subst hQ
            exact W.iret (v := x_400) hx hb hr (fun t1 ht hW => ⟨⟨x_400, (σ, I, J, ri, rj, rq), rfl, ⟨rfl, (Or.inr ⟨x_319.toNatClampNeg, by have z0 := clampE x_319; omega, by have z0 := clampE x_319; omega, by have z0 := clampE x_319; omega⟩), (hF0.symm.trans hF), (rg_w hr_404 (by decide +kernel))⟩, by rw [ht]; exact hP, va_K.moved hW.alike hK, hD⟩, hS.F ht⟩) hS.2.2 dX12_firstOf_32
    exact L_361 _ (0 : Int32) _ _ _ (rg_w (rg_k (0 : Int32) 0 rfl) (by decide +kernel)) (Nat.lt_succ_self _) hF hFr hG hP hD hS (lv_sub hl [1, 2, 3, 0] rfl)
  exact go _ _ _ hP hD hS hl

set_option maxRecDepth 100000 in
def g_X12_textFor_K71 (x_162 : Int32) (k_g_X12_textFor_L10 : (Int32) → Int32 × vM) : Int32 × vM := (ap1 (x_162 + Int32.ofInt (-1)) fun (x_278 : Int32) => (k_g_X12_textFor_L10 x_278))
set_option maxRecDepth 100000 in
theorem g_X12_textFor_K71_e {x_162 : Int32} {k_g_X12_textFor_L10 : (Int32) → Int32 × vM} : g_X12_textFor_K71 x_162 k_g_X12_textFor_L10  = (ap1 (x_162 + Int32.ofInt (-1)) fun (x_278 : Int32) => (k_g_X12_textFor_L10 x_278)) := rfl
set_option maxRecDepth 100000 in
def g_X12_textFor_L10 (a0 : Int32) (a1 : Int32) (I : Nat → Int32) (J : Nat → Int64) (ri : Nat → Nat → Int32) (rj : Nat → Nat → Int64) (rq : Nat → Nat → Option Nat) : Nat → (Int32) → Int32 × vM
  | 0, x_162 => ((0 : Int32), I, J, ri, rj, rq)
  | n_216 + 1, x_162 => (if x_162 < (0 : Int32) then ((-1 : Int32), I, J, ri, rj, rq) else (ap1 ((4 : Int32) * x_162) fun (x_232 : Int32) => (ap1 ((2220 : Int32) + x_232) fun (x_234 : Int32) => (ap1 (x_234 + (1 : Int32)) fun (x_236 : Int32) => (ap1 (ri 384 (x_236).toNatClampNeg) fun (x_238 : Int32) => (ap1 (x_234 + (2 : Int32)) fun (x_239 : Int32) => (ap1 (ri 384 (x_239).toNatClampNeg) fun (x_241 : Int32) => (ap1 (g_X12_isIn a1 x_238 x_241) fun (x_242 : Int32) => (if x_242 = (0 : Int32) then (g_X12_textFor_K71 x_162 (g_X12_textFor_L10 a0 a1 I J ri rj rq n_216) ) else (ap1 (ri 384 (x_234).toNatClampNeg) fun (x_299 : Int32) => (bnI (g_X12_firstOf x_299 a0 I J ri rj rq) fun (x_301 : Int32) (_ : Nat → Int32) (_ : Nat → Int64) (_ : Nat → Nat → Int32) (_ : Nat → Nat → Int64) (_ : Nat → Nat → Option Nat) => (if x_301 < (0 : Int32) then (g_X12_textFor_K71 x_162 (g_X12_textFor_L10 a0 a1 I J ri rj rq n_216) ) else (x_299, I, J, ri, rj, rq)))))))))))))
set_option maxRecDepth 100000 in
theorem g_X12_textFor_L10_e {a0 : Int32} {a1 : Int32} {I : Nat → Int32} {J : Nat → Int64} {ri : Nat → Nat → Int32} {rj : Nat → Nat → Int64} {rq : Nat → Nat → Option Nat} {n_216 : Nat} {x_162 : Int32} : g_X12_textFor_L10 a0 a1 I J ri rj rq (n_216 + 1) x_162 = (if x_162 < (0 : Int32) then ((-1 : Int32), I, J, ri, rj, rq) else (ap1 ((4 : Int32) * x_162) fun (x_232 : Int32) => (ap1 ((2220 : Int32) + x_232) fun (x_234 : Int32) => (ap1 (x_234 + (1 : Int32)) fun (x_236 : Int32) => (ap1 (ri 384 (x_236).toNatClampNeg) fun (x_238 : Int32) => (ap1 (x_234 + (2 : Int32)) fun (x_239 : Int32) => (ap1 (ri 384 (x_239).toNatClampNeg) fun (x_241 : Int32) => (ap1 (g_X12_isIn a1 x_238 x_241) fun (x_242 : Int32) => (if x_242 = (0 : Int32) then (g_X12_textFor_K71 x_162 (g_X12_textFor_L10 a0 a1 I J ri rj rq n_216) ) else (ap1 (ri 384 (x_234).toNatClampNeg) fun (x_299 : Int32) => (bnI (g_X12_firstOf x_299 a0 I J ri rj rq) fun (x_301 : Int32) (_ : Nat → Int32) (_ : Nat → Int64) (_ : Nat → Nat → Int32) (_ : Nat → Nat → Int64) (_ : Nat → Nat → Option Nat) => (if x_301 < (0 : Int32) then (g_X12_textFor_K71 x_162 (g_X12_textFor_L10 a0 a1 I J ri rj rq n_216) ) else (x_299, I, J, ri, rj, rq))))))))))))) := rfl
set_option maxRecDepth 100000 in
def g_X12_textFor (a0 : Int32) (a1 : Int32) (I : Nat → Int32) (J : Nat → Int64) (ri : Nat → Nat → Int32) (rj : Nat → Nat → Int64) (rq : Nat → Nat → Option Nat) : Int32 × vM := (ap1 (ri 384 7) fun (y_2 : Int32) => (ap1 ((y_2) - (1 : Int32)) fun (x_3 : Int32) => (g_X12_textFor_L10 a0 a1 I J ri rj rq (((x_3).toInt - (-1)).toNat + 1) x_3)))
set_option maxRecDepth 100000 in
theorem g_X12_textFor_e {a0 : Int32} {a1 : Int32} {I : Nat → Int32} {J : Nat → Int64} {ri : Nat → Nat → Int32} {rj : Nat → Nat → Int64} {rq : Nat → Nat → Option Nat} : g_X12_textFor a0 a1 I J ri rj rq = (ap1 (ri 384 7) fun (y_2 : Int32) => (ap1 ((y_2) - (1 : Int32)) fun (x_3 : Int32) => (g_X12_textFor_L10 a0 a1 I J ri rj rq (((x_3).toInt - (-1)).toNat + 1) x_3))) := rfl
set_option maxHeartbeats 4000000 in
set_option maxRecDepth 100000 in
theorem s_X12_textFor (l : Launch) (D : va_G) (t : pq_T) (σ : pq_S) (I : Nat → Nat → Int32) (J : Nat → Nat → Int64) (ri : Nat → Nat → Int32) (rj : Nat → Nat → Int64) (rq : Nat → Nat → Option Nat) (sz : Nat) (tg : Nat → Nat) (hSH : SH σ tg) (hG0 : GT tg I ri) (this : Nat) (a0 : Int32) (a1 : Int32) (hL_this : this ∈ σ.1) (hK_this : σ.2.1 this = 12) (this_a : Nat) (hR_this_a : σ.2.2.1 384 this = some this_a) (hL_this_a : this_a ∈ σ.1) (hK_this_a : σ.2.1 this_a = 13) (hN_this_a : σ.2.2.2 this_a = 12720) (hT_this_a : tg this_a = 384) : MetI l yX12_textFor (wa yX12_textFor cX12_textFor 5 (some .int)) ({ frames := 2, cells := 0, slots := 0, locals := 45 }) [.ref this, .int a0, .int a1] D t σ (I, J, ri, rj, rq) sz 0 0 (fun (r : Int32) (u : pq_S × pq_M) => u = (σ, I, J, ri, rj, rq) ∧ (r.toInt = -1 ∨ 0 ≤ r.toInt ∧ r.toInt < (ri this_a 6).toInt) ∧ g_X12_textFor a0 a1 (vI 12 σ this I) (vJ 12 σ this J) (vR 12 σ this ri) (vL 12 σ this rj) (vQ 12 σ this rq) = (r, (vI 12 σ this I), (vJ 12 σ this J), (vR 12 σ this ri), (vL 12 σ this rj), (vQ 12 σ this rq)) ∧ rg r (-1) 9) := by
  refine Met.ofW (cc := cX12_textFor) (maxL := 5) (ret := (some .int)) (by decide +kernel) rfl ?_
  intro p e s m args below meth c s₁ B hml hv
  obtain ⟨rfl, hsz, hP, hK, hD0, hN⟩ := hv
  have hx := B.exec
  have hb := B.bytes
  have hr := B.returns
  have hts := atoms_spec (ws := (wa yX12_textFor cX12_textFor 5 (some .int))) B.pre
  have hown : s.vm.findClass RX12 = some m.cls := findClass_of_methodNamed B.named
  have hlocks := B.notSynchronized
  subst hsz
  have hD : va_D (pq_B t σ (I, J, ri, rj, rq) s.heap.size) (pq_P t σ (I, J, ri, rj, rq)) := hD0.self
  generalize hAe : pq_B t σ (I, J, ri, rj, rq) s.heap.size = A at hD ⊢
  have hA : ∀ q : Nat, s.heap.size ≤ q → A q := fun q h => by rw [← hAe]; exact Or.inr h
  have hS : va_S A s.heap s.heap [] := va_S.rf
  have hG : GM [] tg σ I ri I ri rq := ⟨hG0, fun _ _ _ => rfl, fun _ _ _ _ _ => rfl, fun _ _ _ _ _ _ => rfl⟩
  have hl := lv_entry ([.ref this, .int a0, .int a1]) (n := 5) (Nat.le_of_ble_eq_true rfl)
  rw [lg_entry_eq]
  generalize (lg_sl ([.ref this, .int a0, .int a1]) ++ List.replicate (5 - (lg_sl ([.ref this, .int a0, .int a1])).length) Slot.unset).toArray = ls at hl ⊢
  have hl : lv_has ls 5 [(0, .ref this), (1, .int a0), (2, .int a1)] := hl
  refine q_gen (fun Q hQ => ?_)
  have go : ∀ (H : Heap) (locs : List Loc) (ls : Array Slot), va_P D vwCl (pq_P t σ (I, J, ri, rj, rq)) H → va_D A (pq_P t σ (I, J, ri, rj, rq)) → va_S A s.heap H locs → lv_has ls 5 [(0, .ref this), (1, .int a0), (2, .int a1)] → W p l e ({ frames := 2, cells := 0, slots := 0, locals := 45 } : Room) s m (List.toArray ([.ref this, .int a0, .int a1] : List Value)) below meth c H locs 0 0 Q (F0 m 0 ls []) := by
    intro H locs ls hP hD hS hl
    have hO_this : this = vo σ 12 this := rfl
    have hVT : VT 12 σ tg this := vt_12 hSH hL_this hK_this
    have hFr : FR 12 tg σ this (I, J, ri, rj, rq) (I, J, ri, rj, rq) := fr_rf
    have hO_this_a : this_a = vrow σ 384 this := vo_k (c := 12) hO_this hR_this_a
    obtain ⟨F, hF0⟩ : ∃ F, F = g_X12_textFor a0 a1 (vI 12 σ this I) (vJ 12 σ this J) (vR 12 σ this ri) (vL 12 σ this rj) (vQ 12 σ this rq) := ⟨_, rfl⟩
    have hF := hF0.trans g_X12_textFor_e
    refine lv_aload_n hx hb dX12_textFor_0 rfl (lv_at hl 0 rfl) ?_
    refine pg_f (v := .ref this_a) (C := RX12) (T := TX12) (N := 31) hx hb hts (tw_i inlX12) hown hK hP hL_this hK_this (by decide +kernel) rfl 0 (by decide +kernel) (hts _ (tw_c tw_176)) (pq_hv rfl hR_this_a) dX12_textFor_1 ?_
    refine lv_bipush (v := 7) hx hb dX12_textFor_4 (by decide +kernel) ?_
    refine pl_i hx hb hK hP hL_this_a hK_this_a hN_this_a (vp_in_iff.mpr (by decide +kernel)) dX12_textFor_6 ?_
    refine lv_tov (ri this_a 7) rfl ?_
    have h_1 : rg (ri this_a 7) 0 30 := GM.z0 hG0 (by rw [hT_this_a]; decide) (i := 7) (k := 7) (by decide +kernel) rfl
    have uh_1 := h_1.1
    have vh_1 := h_1.2
    replace hF := hF.trans (ap_n (vR_r hO_this_a (by decide +kernel) rfl))
    refine lv_iconst (v := 1) hx hb dX12_textFor_7 (by decide +kernel) ?_
    refine lv_isub hx hb dX12_textFor_8 ?_
    refine lv_topi (fun x_3 ex_3 => ?_)
    replace hF := hF.trans (ap_n ex_3)
    have h_4 : rg x_3 (-1) 29 := rg_of_eq ex_3 (rg_sub h_1 (rg_k (1 : Int32) 1 rfl) (by decide +kernel))
    have uh_4 := h_4.1
    have vh_4 := h_4.2
    have tx_3 : (x_3).toInt = (ri this_a 7).toInt - 1 := by rw [ex_3]; exact i_sub_rg (a2 := (ri this_a 7).toInt) (b2 := 1) rfl rfl h_1 (rg_k (1 : Int32) 1 rfl) (by decide +kernel)
    refine lv_istore_n (lv' := [(3, .int x_3), (0, .ref this), (1, .int a0), (2, .int a1)]) hx hb dX12_textFor_9 rfl hl (by decide +kernel) rfl (fun ls hl => ?_)
    have L_217 : ∀ (n_216 : Nat) (x_162 : Int32) (H : Heap) (locs : List Loc) (ls : Array Slot), rg x_162 (-1) 29 → ((x_162).toInt + 1 ≤ (ri this_a 7).toInt) → ((x_162).toInt - (-1)).toNat < n_216 → F = g_X12_textFor_L10 a0 a1 (vI 12 σ this I) (vJ 12 σ this J) (vR 12 σ this ri) (vL 12 σ this rj) (vQ 12 σ this rq) n_216 x_162 → FR 12 tg σ this (I, J, ri, rj, rq) (I, J, ri, rj, rq) → GM [] tg σ I ri I ri rq → va_P D vwCl (pq_P t σ (I, J, ri, rj, rq)) H → va_D A (pq_P t σ (I, J, ri, rj, rq)) → va_S A s.heap H locs → lv_has ls 5 [(0, .ref this), (1, .int a0), (2, .int a1), (3, .int x_162)] → W p l e ({ frames := 2, cells := 0, slots := 0, locals := 45 } : Room) s m (List.toArray ([.ref this, .int a0, .int a1] : List Value)) below meth c H locs 0 0 Q (F0 m 10 ls []) := by
      intro n_216
      induction n_216 with
      | zero => intro x_162 H locs ls h_221 hrel_222 hm_215 hF hFr hG hP hD hS hl; exact absurd hm_215 (Nat.not_lt_zero _)
      | succ n_216 ih_218 =>
        intro x_162 H locs ls h_221 hrel_222 hm_215 hF hFr hG hP hD hS hl
        have uh_221 := h_221.1
        have vh_221 := h_221.2
        replace hF := hF.trans g_X12_textFor_L10_e
        refine lv_iload_n hx hb dX12_textFor_10 rfl (lv_at hl 3 rfl) ?_
        refine lv_if_lt (tgt := 77) hx hb dX12_textFor_11 (by decide +kernel) (fun c_223 => ?_) (fun c_223 => ?_)
        · replace hF := hF.trans (if_pos c_223)
          have tc_228 : (x_162).toInt < 0 := Int32.lt_iff_toInt_lt.mp c_223
          have h_229 : rg x_162 (-1) (-1) := rg_lt1 c_223 h_221 (rg_k (0 : Int32) 0 rfl) (by decide +kernel)
          have uh_229 := h_229.1
          have vh_229 := h_229.2
          refine lv_iconst (v := (-1)) hx hb dX12_textFor_77 (by decide +kernel) ?_
          subst hQ
          exact W.iret (v := (-1)) hx hb hr (fun t1 ht hW => ⟨⟨(-1), (σ, I, J, ri, rj, rq), rfl, ⟨rfl, (Or.inl rfl), (hF0.symm.trans hF), (rg_w (rg_k (-1 : Int32) (-1) rfl) (by decide +kernel))⟩, by rw [ht]; exact hP, va_K.moved hW.alike hK, hD⟩, hS.F ht⟩) hS.2.2 dX12_textFor_78
        · replace hF := hF.trans (if_neg c_223)
          have tc_230 : 0 ≤ (x_162).toInt := Int32.le_iff_toInt_le.mp (nlt c_223)
          have h_231 : rg x_162 0 29 := rg_le2 (nlt c_223) (rg_k (0 : Int32) 0 rfl) h_221 (by decide +kernel)
          have uh_231 := h_231.1
          have vh_231 := h_231.2
          refine lv_sipush (v := 2220) hx hb dX12_textFor_14 (by decide +kernel) ?_
          refine lv_iconst (v := 4) hx hb dX12_textFor_17 (by decide +kernel) ?_
          refine lv_iload_n hx hb dX12_textFor_18 rfl (lv_at hl 3 rfl) ?_
          refine lv_imul hx hb dX12_textFor_19 ?_
          refine lv_topi (fun x_232 ex_232 => ?_)
          replace hF := hF.trans (ap_n ex_232)
          have h_233 : rg x_232 0 116 := rg_of_eq ex_232 (rg_mul (rg_k (4 : Int32) 4 rfl) h_231 (by decide +kernel))
          have uh_233 := h_233.1
          have vh_233 := h_233.2
          have tx_232 : (x_232).toInt = 4 * (x_162).toInt := by rw [ex_232]; exact i_mul_rg (a2 := 4) (b2 := (x_162).toInt) rfl rfl (rg_k (4 : Int32) 4 rfl) h_231 (by decide +kernel)
          refine lv_iadd hx hb dX12_textFor_20 ?_
          refine lv_topi (fun x_234 ex_234 => ?_)
          replace hF := hF.trans (ap_n ex_234)
          have h_235 : rg x_234 2220 2336 := rg_of_eq ex_234 (rg_add (rg_k (2220 : Int32) 2220 rfl) h_233 (by decide +kernel))
          have uh_235 := h_235.1
          have vh_235 := h_235.2
          have tx_234 : (x_234).toInt = 2220 + (x_232).toInt := by rw [ex_234]; exact i_add_rg (a2 := 2220) (b2 := (x_232).toInt) rfl rfl (rg_k (2220 : Int32) 2220 rfl) h_233 (by decide +kernel)
          refine lv_istore (lv' := [(4, .int x_234), (0, .ref this), (1, .int a0), (2, .int a1), (3, .int x_162)]) hx hb dX12_textFor_21 hl (by decide +kernel) rfl (fun ls hl => ?_)
          refine lv_iload_n hx hb dX12_textFor_23 rfl (lv_at hl 3 rfl) ?_
          refine lv_aload_n hx hb dX12_textFor_24 rfl (lv_at hl 1 rfl) ?_
          refine pg_f (v := .ref this_a) (C := RX12) (T := TX12) (N := 31) hx hb hts (tw_i inlX12) hown hK hP hL_this hK_this (by decide +kernel) rfl 0 (by decide +kernel) (hts _ (tw_c tw_176)) (pq_hv rfl hR_this_a) dX12_textFor_25 ?_
          refine lv_iload hx hb dX12_textFor_28 (lv_at hl 0 rfl) ?_
          refine lv_iconst (v := 1) hx hb dX12_textFor_30 (by decide +kernel) ?_
          refine lv_iadd hx hb dX12_textFor_31 ?_
          refine lv_topi (fun x_236 ex_236 => ?_)
          replace hF := hF.trans (ap_n ex_236)
          have h_237 : rg x_236 2221 2337 := rg_of_eq ex_236 (rg_add h_235 (rg_k (1 : Int32) 1 rfl) (by decide +kernel))
          have uh_237 := h_237.1
          have vh_237 := h_237.2
          have tx_236 : (x_236).toInt = (x_234).toInt + 1 := by rw [ex_236]; exact i_add_rg (a2 := (x_234).toInt) (b2 := 1) rfl rfl h_235 (rg_k (1 : Int32) 1 rfl) (by decide +kernel)
          refine pl_i hx hb hK hP hL_this_a hK_this_a hN_this_a (rg_in h_237 (by decide +kernel)) dX12_textFor_32 ?_
          refine lv_topi (fun x_238 ex_238 => ?_)
          replace hF := hF.trans (ap_n (vR_r hO_this_a (by decide +kernel) ex_238))
          refine lv_aload_n hx hb dX12_textFor_33 rfl (lv_at hl 1 rfl) ?_
          refine pg_f (v := .ref this_a) (C := RX12) (T := TX12) (N := 31) hx hb hts (tw_i inlX12) hown hK hP hL_this hK_this (by decide +kernel) rfl 0 (by decide +kernel) (hts _ (tw_c tw_176)) (pq_hv rfl hR_this_a) dX12_textFor_34 ?_
          refine lv_iload hx hb dX12_textFor_37 (lv_at hl 0 rfl) ?_
          refine lv_iconst (v := 2) hx hb dX12_textFor_39 (by decide +kernel) ?_
          refine lv_iadd hx hb dX12_textFor_40 ?_
          refine lv_topi (fun x_239 ex_239 => ?_)
          replace hF := hF.trans (ap_n ex_239)
          have h_240 : rg x_239 2222 2338 := rg_of_eq ex_239 (rg_add h_235 (rg_k (2 : Int32) 2 rfl) (by decide +kernel))
          have uh_240 := h_240.1
          have vh_240 := h_240.2
          have tx_239 : (x_239).toInt = (x_234).toInt + 2 := by rw [ex_239]; exact i_add_rg (a2 := (x_234).toInt) (b2 := 2) rfl rfl h_235 (rg_k (2 : Int32) 2 rfl) (by decide +kernel)
          refine pl_i hx hb hK hP hL_this_a hK_this_a hN_this_a (rg_in h_240 (by decide +kernel)) dX12_textFor_41 ?_
          refine lv_topi (fun x_241 ex_241 => ?_)
          replace hF := hF.trans (ap_n (vR_r hO_this_a (by decide +kernel) ex_241))
          refine pk_i (va_runS (As := [.int a1, .int x_238, .int x_241]) (rest := []) ⟨hx, hb, hml, hown, hts⟩ (s_X12_isIn l D t σ I J ri rj rq H.size tg hSH hG.1 a1 x_238 x_241) (va_cwS 3 hts (tw_S tw_235 tw_236 tw_5 tw_237) rfl rfl rfl cd_yX12_isIn_3 ⟨Nat.le_of_ble_eq_true rfl, Nat.le_of_ble_eq_true rfl⟩) ⟨pq_blind, pq_pre hK hN hP hD⟩ rfl rfl hl.1 rfl (lv_room (Nat.le_of_ble_eq_true rfl)) dX12_textFor_42 ⟨Nat.le_of_ble_eq_true rfl, Nat.le_of_ble_eq_true rfl⟩) hD hS hA (fun x_242 σ1 μ1 H locs hw_243 hP hD hS => ?_)
          obtain ⟨hu_244, hfn_247, hr_246⟩ := hw_243
          obtain ⟨hu_244a, hu_244b⟩ := Prod.mk.inj hu_244
          rw [hu_244a, hu_244b] at hP hD
          replace hF := hF.trans (ap_n hfn_247.symm)
          have h_249 : rg x_242 0 1 := by rcases hr_246 with ⟨q, -⟩ | ⟨q, -⟩ <;> rw [q] <;> exact ⟨by decide +kernel, by decide +kernel⟩
          have uh_249 := h_249.1
          have vh_249 := h_249.2
          have K_277 : ∀  (H : Heap) (locs : List Loc) (ls : Array Slot), F = g_X12_textFor_K71 x_162 (g_X12_textFor_L10 a0 a1 (vI 12 σ this I) (vJ 12 σ this J) (vR 12 σ this ri) (vL 12 σ this rj) (vQ 12 σ this rq) n_216)  → FR 12 tg σ this (I, J, ri, rj, rq) (I, J, ri, rj, rq) → GM [] tg σ I ri I ri rq → va_P D vwCl (pq_P t σ (I, J, ri, rj, rq)) H → va_D A (pq_P t σ (I, J, ri, rj, rq)) → va_S A s.heap H locs → lv_has ls 5 [(0, .ref this), (1, .int a0), (2, .int a1), (3, .int x_162)] → W p l e ({ frames := 2, cells := 0, slots := 0, locals := 45 } : Room) s m (List.toArray ([.ref this, .int a0, .int a1] : List Value)) below meth c H locs 0 0 Q (F0 m 71 ls []) := by
            intro H locs ls hF hFr hG hP hD hS hl
            replace hF := hF.trans g_X12_textFor_K71_e
            obtain ⟨x_278, ex_278⟩ : ∃ y : Int32, y = x_162 + Int32.ofInt (-1) := ⟨_, rfl⟩
            replace hF := hF.trans (ap_n ex_278)
            have h_279 : rg x_278 (-1) 28 := rg_of_eq ex_278 (rg_add h_231 (rg_k (Int32.ofInt (-1)) (-1) rfl) (by decide +kernel))
            have uh_279 := h_279.1
            have vh_279 := h_279.2
            have tx_278 : (x_278).toInt = (x_162).toInt + (-1) := by rw [ex_278]; exact i_add_rg (a2 := (x_162).toInt) (b2 := (-1)) rfl rfl h_231 (rg_k (Int32.ofInt (-1)) (-1) rfl) (by decide +kernel)
            refine lv_iinc (v := x_278) (lv' := [(3, .int x_278), (0, .ref this), (1, .int a0), (2, .int a1)]) hx hb dX12_textFor_71 hl (k := 3) rfl ex_278.symm (by decide +kernel) rfl (fun ls hl => ?_)
            refine lv_goto (tgt := 10) hx hb dX12_textFor_74 (by decide +kernel) ?_
            exact ih_218 x_278 _ _ _ (rg_w h_279 (by decide +kernel)) (by omega) (ms_dn 1 hm_215 ex_278 rfl (by decide +kernel) h_231 (by decide +kernel) (by decide +kernel)) hF hFr hG hP hD hS (lv_sub hl [1, 2, 3, 0] rfl)
          refine lv_if_eq (tgt := 71) hx hb dX12_textFor_45 (by decide +kernel) (fun c_280 => ?_) (fun c_280 => ?_)
          · replace hF := hF.trans (if_pos c_280)
            have f_290 := (hr_246.resolve_left (fun q => absurd (q.1.symm.trans c_280) (by decide +kernel))).2
            have tc_291 : (x_242).toInt = 0 := congrArg Int32.toInt c_280
            have h_292 : rg x_242 0 0 := rg_and h_249 (rg_of_eq c_280 (rg_k (0 : Int32) 0 rfl)) (by decide +kernel)
            have uh_292 := h_292.1
            have vh_292 := h_292.2
            exact K_277 _ _ _ hF hFr hG hP hD hS (lv_sub hl [1, 2, 3, 4] rfl)
          · replace hF := hF.trans (if_neg c_280)
            obtain ⟨f_293, f_294⟩ := (hr_246.resolve_right (fun q => c_280 q.1)).2
            have tc_295 : (x_238).toInt ≤ (a1).toInt := Int32.le_iff_toInt_le.mp f_293
            have tc_296 : (a1).toInt ≤ (x_241).toInt := Int32.le_iff_toInt_le.mp f_294
            have tc_297 : (x_242).toInt ≠ 0 := fun q => c_280 (Int32.toInt_inj.mp q)
            have h_298 : rg x_242 1 1 := rg_ne c_280 h_249 0 rfl (by decide +kernel)
            have uh_298 := h_298.1
            have vh_298 := h_298.2
            refine lv_aload_n hx hb dX12_textFor_48 rfl (lv_at hl 1 rfl) ?_
            refine lv_aload_n hx hb dX12_textFor_49 rfl (lv_at hl 1 rfl) ?_
            refine pg_f (v := .ref this_a) (C := RX12) (T := TX12) (N := 31) hx hb hts (tw_i inlX12) hown hK hP hL_this hK_this (by decide +kernel) rfl 0 (by decide +kernel) (hts _ (tw_c tw_176)) (pq_hv rfl hR_this_a) dX12_textFor_50 ?_
            refine lv_iload hx hb dX12_textFor_53 (lv_at hl 0 rfl) ?_
            refine pl_i hx hb hK hP hL_this_a hK_this_a hN_this_a (rg_in h_235 (by decide +kernel)) dX12_textFor_55 ?_
            refine lv_topi (fun x_299 ex_299 => ?_)
            replace hF := hF.trans (ap_n (vR_r hO_this_a (by decide +kernel) ex_299))
            have h_300 : rg x_299 0 9 := rg_of_eq ex_299 (GM.z hG (by rw [hT_this_a]; decide) (zn_FORCE (c := x_162.toNatClampNeg) (k := 0) (by have z_i := clampE x_234; have z_0 := clampE x_162; omega) (rg_cl1 h_231 (by decide +kernel)) (by decide +kernel)) rfl)
            have uh_300 := h_300.1
            have vh_300 := h_300.2
            refine lv_iload_n hx hb dX12_textFor_56 rfl (lv_at hl 2 rfl) ?_
            refine pk_i (va_runV (As := [.int x_299, .int a0]) (rest := []) ⟨hx, hb, hml, hown, hts⟩ (s_X12_firstOf l D t σ I J ri rj rq H.size tg hSH hG.1 this x_299 a0 hL_this hK_this (rg_w h_300 (by decide +kernel)) this_a hR_this_a hL_this_a hK_this_a hN_this_a hT_this_a) (cwV 2 hts (tw_V tw_512 tw_513 tw_514 tw_5 tw_515) rfl rfl rfl cv_yX12_firstOf_2 ⟨Nat.le_of_ble_eq_true rfl, Nat.le_of_ble_eq_true rfl⟩) ⟨pq_blind, pq_recv hK hP hL_this hK_this (by decide +kernel) rfl, pq_pre hK hN hP hD⟩ rfl rfl hl.1 rfl (lv_room (Nat.le_of_ble_eq_true rfl)) dX12_textFor_57 ⟨Nat.le_of_ble_eq_true rfl, Nat.le_of_ble_eq_true rfl⟩) hD hS hA (fun x_301 σ1 μ1 H locs hw_302 hP hD hS => ?_)
            obtain ⟨hu_303, hp_306, hfn_307, hr_305⟩ := hw_302
            obtain ⟨hu_303a, hu_303b⟩ := Prod.mk.inj hu_303
            rw [hu_303a, hu_303b] at hP hD
            replace hF := hF.trans (bn_n hfn_307)
            refine lv_if_lt (tgt := 71) hx hb dX12_textFor_60 (by decide +kernel) (fun c_309 => ?_) (fun c_309 => ?_)
            · replace hF := hF.trans (if_pos c_309)
              have tc_314 : (x_301).toInt < 0 := Int32.lt_iff_toInt_lt.mp c_309
              have h_315 : rg x_301 (-1) (-1) := rg_lt1 c_309 hr_305 (rg_k (0 : Int32) 0 rfl) (by decide +kernel)
              have uh_315 := h_315.1
              have vh_315 := h_315.2
              exact K_277 _ _ _ hF hFr hG hP hD hS (lv_sub hl [1, 2, 3, 4] rfl)
            · replace hF := hF.trans (if_neg c_309)
              have tc_316 : 0 ≤ (x_301).toInt := Int32.le_iff_toInt_le.mp (nlt c_309)
              have h_317 : rg x_301 0 12061 := rg_le2 (nlt c_309) (rg_k (0 : Int32) 0 rfl) hr_305 (by decide +kernel)
              have uh_317 := h_317.1
              have vh_317 := h_317.2
              refine lv_aload_n hx hb dX12_textFor_63 rfl (lv_at hl 1 rfl) ?_
              refine pg_f (v := .ref this_a) (C := RX12) (T := TX12) (N := 31) hx hb hts (tw_i inlX12) hown hK hP hL_this hK_this (by decide +kernel) rfl 0 (by decide +kernel) (hts _ (tw_c tw_176)) (pq_hv rfl hR_this_a) dX12_textFor_64 ?_
              refine lv_iload hx hb dX12_textFor_67 (lv_at hl 0 rfl) ?_
              refine pl_i hx hb hK hP hL_this_a hK_this_a hN_this_a (rg_in h_235 (by decide +kernel)) dX12_textFor_69 ?_
              refine lv_tov x_299 ex_299.symm ?_
              have tz : (x_299).toInt = (ri this_a (2220 + 4 * x_162.toNatClampNeg)).toInt := congrArg Int32.toInt (show x_299 = ri this_a (2220 + 4 * x_162.toNatClampNeg) from ex_299.trans (congrArg (ri this_a) (by have z0 := clampE x_162; have z1 := clampE x_234; omega)))
              have tf := GT.frc hG0 (q := this_a) (by rw [hT_this_a]; decide) x_162.toNatClampNeg (by have z0 := clampE x_162; omega)
              subst hQ
              exact W.iret (v := x_299) hx hb hr (fun t1 ht hW => ⟨⟨x_299, (σ, I, J, ri, rj, rq), rfl, ⟨rfl, (by omega), (hF0.symm.trans hF), (rg_w h_300 (by decide +kernel))⟩, by rw [ht]; exact hP, va_K.moved hW.alike hK, hD⟩, hS.F ht⟩) hS.2.2 dX12_textFor_70
    exact L_217 _ x_3 _ _ _ (rg_w h_4 (by decide +kernel)) (by omega) (Nat.lt_succ_self _) hF hFr hG hP hD hS (lv_sub hl [1, 2, 3, 0] rfl)
  exact go _ _ _ hP hD hS hl

set_option maxRecDepth 100000 in
def g_X12_keysFor (a0 : Int32) (a1 : Int32) (I : Nat → Int32) (J : Nat → Int64) (ri : Nat → Nat → Int32) (rj : Nat → Nat → Int64) (rq : Nat → Nat → Option Nat) : Int32 × vM := (bnI (g_X12_textFor a0 a1 I J ri rj rq) fun (x_1 : Int32) (_ : Nat → Int32) (_ : Nat → Int64) (_ : Nat → Nat → Int32) (_ : Nat → Nat → Int64) (_ : Nat → Nat → Option Nat) => (if (0 : Int32) ≤ x_1 then (bnI (g_X12_firstOf x_1 a0 I J ri rj rq) fun (x_17 : Int32) (_ : Nat → Int32) (_ : Nat → Int64) (_ : Nat → Nat → Int32) (_ : Nat → Nat → Int64) (_ : Nat → Nat → Option Nat) => (ap1 (va_up I 406 x_17) fun (I_25 : Nat → Int32) => ((1 : Int32), I_25, J, ri, rj, rq))) else (ap1 (va_up I 406 (-1 : Int32)) fun (I_34 : Nat → Int32) => ((0 : Int32), I_34, J, ri, rj, rq))))
set_option maxRecDepth 100000 in
theorem g_X12_keysFor_e {a0 : Int32} {a1 : Int32} {I : Nat → Int32} {J : Nat → Int64} {ri : Nat → Nat → Int32} {rj : Nat → Nat → Int64} {rq : Nat → Nat → Option Nat} : g_X12_keysFor a0 a1 I J ri rj rq = (bnI (g_X12_textFor a0 a1 I J ri rj rq) fun (x_1 : Int32) (_ : Nat → Int32) (_ : Nat → Int64) (_ : Nat → Nat → Int32) (_ : Nat → Nat → Int64) (_ : Nat → Nat → Option Nat) => (if (0 : Int32) ≤ x_1 then (bnI (g_X12_firstOf x_1 a0 I J ri rj rq) fun (x_17 : Int32) (_ : Nat → Int32) (_ : Nat → Int64) (_ : Nat → Nat → Int32) (_ : Nat → Nat → Int64) (_ : Nat → Nat → Option Nat) => (ap1 (va_up I 406 x_17) fun (I_25 : Nat → Int32) => ((1 : Int32), I_25, J, ri, rj, rq))) else (ap1 (va_up I 406 (-1 : Int32)) fun (I_34 : Nat → Int32) => ((0 : Int32), I_34, J, ri, rj, rq)))) := rfl
set_option maxHeartbeats 4000000 in
set_option maxRecDepth 100000 in
theorem s_X12_keysFor (l : Launch) (D : va_G) (t : pq_T) (σ : pq_S) (I : Nat → Nat → Int32) (J : Nat → Nat → Int64) (ri : Nat → Nat → Int32) (rj : Nat → Nat → Int64) (rq : Nat → Nat → Option Nat) (sz : Nat) (tg : Nat → Nat) (hSH : SH σ tg) (hG0 : GT tg I ri) (this : Nat) (a0 : Int32) (a1 : Int32) (hL_this : this ∈ σ.1) (hK_this : σ.2.1 this = 12) (this_a : Nat) (hR_this_a : σ.2.2.1 384 this = some this_a) (hL_this_a : this_a ∈ σ.1) (hK_this_a : σ.2.1 this_a = 13) (hN_this_a : σ.2.2.2 this_a = 12720) (hT_this_a : tg this_a = 384) : MetI l yX12_keysFor (wa yX12_keysFor cX12_keysFor 4 (some .boolean)) ({ frames := 3, cells := 0, slots := 0, locals := 69 }) [.ref this, .int a0, .int a1] D t σ (I, J, ri, rj, rq) sz 0 0 (fun (r : Int32) (u : pq_S × pq_M) => ∃ I' : Nat → Nat → Int32, u = (σ, I', J, ri, rj, rq) ∧ GM [] tg σ I ri I' ri rq ∧ g_X12_keysFor a0 a1 (vI 12 σ this I) (vJ 12 σ this J) (vR 12 σ this ri) (vL 12 σ this rj) (vQ 12 σ this rq) = (r, (vI 12 σ this I'), (vJ 12 σ this J), (vR 12 σ this ri), (vL 12 σ this rj), (vQ 12 σ this rq)) ∧ FR 12 tg σ this (I, J, ri, rj, rq) (I', J, ri, rj, rq) ∧ ((r = 1 ∧ True) ∨ (r = 0 ∧ True))) := by
  refine Met.ofW (cc := cX12_keysFor) (maxL := 4) (ret := (some .boolean)) (by decide +kernel) rfl ?_
  intro p e s m args below meth c s₁ B hml hv
  obtain ⟨rfl, hsz, hP, hK, hD0, hN⟩ := hv
  have hx := B.exec
  have hb := B.bytes
  have hr := B.returns
  have hts := atoms_spec (ws := (wa yX12_keysFor cX12_keysFor 4 (some .boolean))) B.pre
  have hown : s.vm.findClass RX12 = some m.cls := findClass_of_methodNamed B.named
  have hlocks := B.notSynchronized
  subst hsz
  have hD : va_D (pq_B t σ (I, J, ri, rj, rq) s.heap.size) (pq_P t σ (I, J, ri, rj, rq)) := hD0.self
  generalize hAe : pq_B t σ (I, J, ri, rj, rq) s.heap.size = A at hD ⊢
  have hA : ∀ q : Nat, s.heap.size ≤ q → A q := fun q h => by rw [← hAe]; exact Or.inr h
  have hS : va_S A s.heap s.heap [] := va_S.rf
  have hG : GM [] tg σ I ri I ri rq := ⟨hG0, fun _ _ _ => rfl, fun _ _ _ _ _ => rfl, fun _ _ _ _ _ _ => rfl⟩
  have hl := lv_entry ([.ref this, .int a0, .int a1]) (n := 4) (Nat.le_of_ble_eq_true rfl)
  rw [lg_entry_eq]
  generalize (lg_sl ([.ref this, .int a0, .int a1]) ++ List.replicate (4 - (lg_sl ([.ref this, .int a0, .int a1])).length) Slot.unset).toArray = ls at hl ⊢
  have hl : lv_has ls 4 [(0, .ref this), (1, .int a0), (2, .int a1)] := hl
  refine q_gen (fun Q hQ => ?_)
  have go : ∀ (H : Heap) (locs : List Loc) (ls : Array Slot), va_P D vwCl (pq_P t σ (I, J, ri, rj, rq)) H → va_D A (pq_P t σ (I, J, ri, rj, rq)) → va_S A s.heap H locs → lv_has ls 4 [(0, .ref this), (1, .int a0), (2, .int a1)] → W p l e ({ frames := 3, cells := 0, slots := 0, locals := 69 } : Room) s m (List.toArray ([.ref this, .int a0, .int a1] : List Value)) below meth c H locs 0 0 Q (F0 m 0 ls []) := by
    intro H locs ls hP hD hS hl
    have hO_this : this = vo σ 12 this := rfl
    have hVT : VT 12 σ tg this := vt_12 hSH hL_this hK_this
    have hFr : FR 12 tg σ this (I, J, ri, rj, rq) (I, J, ri, rj, rq) := fr_rf
    have hO_this_a : this_a = vrow σ 384 this := vo_k (c := 12) hO_this hR_this_a
    obtain ⟨F, hF0⟩ : ∃ F, F = g_X12_keysFor a0 a1 (vI 12 σ this I) (vJ 12 σ this J) (vR 12 σ this ri) (vL 12 σ this rj) (vQ 12 σ this rq) := ⟨_, rfl⟩
    have hF := hF0.trans g_X12_keysFor_e
    refine lv_aload_n hx hb dX12_keysFor_0 rfl (lv_at hl 0 rfl) ?_
    refine lv_iload_n hx hb dX12_keysFor_1 rfl (lv_at hl 1 rfl) ?_
    refine lv_iload_n hx hb dX12_keysFor_2 rfl (lv_at hl 2 rfl) ?_
    refine pk_i (va_runV (As := [.int a0, .int a1]) (rest := []) ⟨hx, hb, hml, hown, hts⟩ (s_X12_textFor l D t σ I J ri rj rq H.size tg hSH hG.1 this a0 a1 hL_this hK_this this_a hR_this_a hL_this_a hK_this_a hN_this_a hT_this_a) (cwV 2 hts (tw_V tw_508 tw_509 tw_510 tw_5 tw_511) rfl rfl rfl cv_yX12_textFor_2 ⟨Nat.le_of_ble_eq_true rfl, Nat.le_of_ble_eq_true rfl⟩) ⟨pq_blind, pq_recv hK hP hL_this hK_this (by decide +kernel) rfl, pq_pre hK hN hP hD⟩ rfl rfl hl.1 rfl (lv_room (Nat.le_of_ble_eq_true rfl)) dX12_keysFor_3 ⟨Nat.le_of_ble_eq_true rfl, Nat.le_of_ble_eq_true rfl⟩) hD hS hA (fun x_1 σ1 μ1 H locs hw_2 hP hD hS => ?_)
    obtain ⟨hu_3, hp_6, hfn_7, hr_5⟩ := hw_2
    obtain ⟨hu_3a, hu_3b⟩ := Prod.mk.inj hu_3
    rw [hu_3a, hu_3b] at hP hD
    replace hF := hF.trans (bn_n hfn_7)
    have tt_9 := hp_6
    refine lv_istore_n (lv' := [(3, .int x_1), (0, .ref this), (1, .int a0), (2, .int a1)]) hx hb dX12_keysFor_6 rfl hl (by decide +kernel) rfl (fun ls hl => ?_)
    refine lv_aload_n hx hb dX12_keysFor_7 rfl (lv_at hl 1 rfl) ?_
    refine lv_iload_n hx hb dX12_keysFor_8 rfl (lv_at hl 0 rfl) ?_
    refine lv_if_ge (tgt := 16) hx hb dX12_keysFor_9 (by decide +kernel) (fun c_10 => ?_) (fun c_10 => ?_)
    · replace hF := hF.trans (if_pos c_10)
      have tc_15 : 0 ≤ (x_1).toInt := Int32.le_iff_toInt_le.mp c_10
      have h_16 : rg x_1 0 9 := rg_le2 c_10 (rg_k (0 : Int32) 0 rfl) hr_5 (by decide +kernel)
      have uh_16 := h_16.1
      have vh_16 := h_16.2
      refine lv_aload_n hx hb dX12_keysFor_16 rfl (lv_at hl 1 rfl) ?_
      refine lv_iload_n hx hb dX12_keysFor_17 rfl (lv_at hl 0 rfl) ?_
      refine lv_iload_n hx hb dX12_keysFor_18 rfl (lv_at hl 2 rfl) ?_
      refine pk_i (va_runV (As := [.int x_1, .int a0]) (rest := [.ref this]) ⟨hx, hb, hml, hown, hts⟩ (s_X12_firstOf l D t σ I J ri rj rq H.size tg hSH hG.1 this x_1 a0 hL_this hK_this (rg_w h_16 (by decide +kernel)) this_a hR_this_a hL_this_a hK_this_a hN_this_a hT_this_a) (cwV 2 hts (tw_V tw_512 tw_513 tw_514 tw_5 tw_515) rfl rfl rfl cv_yX12_firstOf_2 ⟨Nat.le_of_ble_eq_true rfl, Nat.le_of_ble_eq_true rfl⟩) ⟨pq_blind, pq_recv hK hP hL_this hK_this (by decide +kernel) rfl, pq_pre hK hN hP hD⟩ rfl rfl hl.1 rfl (lv_room (Nat.le_of_ble_eq_true rfl)) dX12_keysFor_19 ⟨Nat.le_of_ble_eq_true rfl, Nat.le_of_ble_eq_true rfl⟩) hD hS hA (fun x_17 σ1 μ1 H locs hw_18 hP hD hS => ?_)
      obtain ⟨hu_19, hp_22, hfn_23, hr_21⟩ := hw_18
      obtain ⟨hu_19a, hu_19b⟩ := Prod.mk.inj hu_19
      rw [hu_19a, hu_19b] at hP hD
      replace hF := hF.trans (bn_n hfn_23)
      refine pp_i (v := x_17) (ty := .int) (C := RX12) (T := TX12) (N := 31) hx hb hts (tw_i inlX12) tyX12 tyX12_ok nmX12 hown hK hP hD hS hL_this hK_this (by decide +kernel) rfl 22 406 (by decide +kernel) (hts _ (tw_c tw_507)) rfl (tyX12_ok 22 (by decide +kernel)) rfl rfl (Nat.le_of_ble_eq_true rfl) (ps_406 _ _ _ _ _) dX12_keysFor_22 (fun I_25 H locs eI_25 hP hD hS => ?_)
      replace hFr := fr_I (f := 406) hFr hO_this (by decide +kernel) eI_25
      replace hF := hF.trans (ap_n (vI_st (f := 406) hO_this (by decide +kernel) eI_25))
      have h_26 : rg x_17 (-1) 12060 := ⟨by omega, by omega⟩
      have uh_26 := h_26.1
      have vh_26 := h_26.2
      have hG := GM.wK hG rfl eI_25 (rg_w h_26 (by decide +kernel)) (by rcases hp_22 with q | ⟨c, hc, -, q⟩; exact Or.inl q; exact Or.inr (Or.inr ⟨x_1.toNatClampNeg, c, by have z0 := clampE x_1; omega, hc, by have z0 := clampE x_1; omega⟩)) (by decide +kernel)
      refine lv_iload_n hx hb dX12_keysFor_25 rfl (lv_at hl 0 rfl) ?_
      refine lv_if_lt (tgt := 33) hx hb dX12_keysFor_26 (by decide +kernel) (fun c_27 => ?_) (fun c_27 => ?_)
      · have tc_30 : (x_1).toInt < 0 := Int32.lt_iff_toInt_lt.mp c_27
        exact (rg_empty (rg_lt1 c_27 h_16 (rg_k (0 : Int32) 0 rfl) (lo := 0) (hi := (-1)) (by decide +kernel)) (by decide +kernel)).elim
      · have tc_31 : 0 ≤ (x_1).toInt := Int32.le_iff_toInt_le.mp (nlt c_27)
        refine lv_iconst (v := 1) hx hb dX12_keysFor_29 (by decide +kernel) ?_
        refine lv_goto (tgt := 34) hx hb dX12_keysFor_30 (by decide +kernel) ?_
        subst hQ
        exact W.zret (v := 1) hx hb hr (by decide +kernel) (fun t1 ht hW => ⟨⟨1, (σ, I_25, J, ri, rj, rq), rfl, ⟨I_25, rfl, hG, (hF0.symm.trans hF), hFr, (Or.inl ⟨rfl, trivial⟩)⟩, by rw [ht]; exact hP, va_K.moved hW.alike hK, hD⟩, hS.F ht⟩) hS.2.2 dX12_keysFor_34
    · replace hF := hF.trans (if_neg c_10)
      have tc_32 : (x_1).toInt < 0 := Int32.lt_iff_toInt_lt.mp (nle c_10)
      have h_33 : rg x_1 (-1) (-1) := rg_lt1 (nle c_10) hr_5 (rg_k (0 : Int32) 0 rfl) (by decide +kernel)
      have uh_33 := h_33.1
      have vh_33 := h_33.2
      refine lv_iconst (v := (-1)) hx hb dX12_keysFor_12 (by decide +kernel) ?_
      refine lv_goto (tgt := 22) hx hb dX12_keysFor_13 (by decide +kernel) ?_
      refine pp_i (v := (-1)) (ty := .int) (C := RX12) (T := TX12) (N := 31) hx hb hts (tw_i inlX12) tyX12 tyX12_ok nmX12 hown hK hP hD hS hL_this hK_this (by decide +kernel) rfl 22 406 (by decide +kernel) (hts _ (tw_c tw_507)) rfl (tyX12_ok 22 (by decide +kernel)) rfl rfl (Nat.le_of_ble_eq_true rfl) (ps_406 _ _ _ _ _) dX12_keysFor_22 (fun I_34 H locs eI_34 hP hD hS => ?_)
      replace hFr := fr_I (f := 406) hFr hO_this (by decide +kernel) eI_34
      replace hF := hF.trans (ap_n (vI_st (f := 406) hO_this (by decide +kernel) eI_34))
      have hG := GM.wK hG rfl eI_34 (rg_w (rg_k (-1 : Int32) (-1) rfl) (by decide +kernel)) (Or.inl rfl) (by decide +kernel)
      refine lv_iload_n hx hb dX12_keysFor_25 rfl (lv_at hl 0 rfl) ?_
      refine lv_if_lt (tgt := 33) hx hb dX12_keysFor_26 (by decide +kernel) (fun c_35 => ?_) (fun c_35 => ?_)
      · have tc_38 : (x_1).toInt < 0 := Int32.lt_iff_toInt_lt.mp c_35
        refine lv_iconst (v := 0) hx hb dX12_keysFor_33 (by decide +kernel) ?_
        subst hQ
        exact W.zret (v := 0) hx hb hr (by decide +kernel) (fun t1 ht hW => ⟨⟨0, (σ, I_34, J, ri, rj, rq), rfl, ⟨I_34, rfl, hG, (hF0.symm.trans hF), hFr, (Or.inr ⟨rfl, trivial⟩)⟩, by rw [ht]; exact hP, va_K.moved hW.alike hK, hD⟩, hS.F ht⟩) hS.2.2 dX12_keysFor_34
      · have tc_39 : 0 ≤ (x_1).toInt := Int32.le_iff_toInt_le.mp (nlt c_35)
        exact (rg_empty (rg_le2 (nlt c_35) (rg_k (0 : Int32) 0 rfl) h_33 (lo := 0) (hi := (-1)) (by decide +kernel)) (by decide +kernel)).elim
  exact go _ _ _ hP hD hS hl
theorem dX12_named_0 : decode cX12_named 0 = .ok (.iload_n 2, 1) := oc_28 (by decide +kernel)
theorem dX12_named_1 : decode cX12_named 1 = .ok (.tableswitch 65 0 4 #[35, 42, 49, 56, 63], 35) := by decide +kernel
theorem dX12_named_36 : decode cX12_named 36 = .ok (.aload_n 0, 1) := oc_42 (by decide +kernel)
theorem dX12_named_37 : decode cX12_named 37 = .ok (.iload_n 1, 1) := oc_27 (by decide +kernel)
theorem dX12_named_38 : decode cX12_named 38 = .ok (.iconst 1, 1) := oc_4 (by decide +kernel)
theorem dX12_named_39 : decode cX12_named 39 = .ok (.invokevirtual 94, 3) := oc_182 (a := 0) (b := 94) (by decide +kernel)
theorem dX12_named_42 : decode cX12_named 42 = .ok (.ireturn, 1) := oc_172 (by decide +kernel)
theorem dX12_named_43 : decode cX12_named 43 = .ok (.aload_n 0, 1) := oc_42 (by decide +kernel)
theorem dX12_named_44 : decode cX12_named 44 = .ok (.iload_n 1, 1) := oc_27 (by decide +kernel)
theorem dX12_named_45 : decode cX12_named 45 = .ok (.iconst 0, 1) := oc_3 (by decide +kernel)
theorem dX12_named_46 : decode cX12_named 46 = .ok (.invokevirtual 94, 3) := oc_182 (a := 0) (b := 94) (by decide +kernel)
theorem dX12_named_49 : decode cX12_named 49 = .ok (.ireturn, 1) := oc_172 (by decide +kernel)
theorem dX12_named_50 : decode cX12_named 50 = .ok (.aload_n 0, 1) := oc_42 (by decide +kernel)
theorem dX12_named_51 : decode cX12_named 51 = .ok (.iload_n 1, 1) := oc_27 (by decide +kernel)
theorem dX12_named_52 : decode cX12_named 52 = .ok (.iconst 2, 1) := oc_5 (by decide +kernel)
theorem dX12_named_53 : decode cX12_named 53 = .ok (.invokevirtual 94, 3) := oc_182 (a := 0) (b := 94) (by decide +kernel)
theorem dX12_named_56 : decode cX12_named 56 = .ok (.ireturn, 1) := oc_172 (by decide +kernel)
theorem dX12_named_57 : decode cX12_named 57 = .ok (.aload_n 0, 1) := oc_42 (by decide +kernel)
theorem dX12_named_58 : decode cX12_named 58 = .ok (.iload_n 1, 1) := oc_27 (by decide +kernel)
theorem dX12_named_59 : decode cX12_named 59 = .ok (.iconst 3, 1) := oc_6 (by decide +kernel)
theorem dX12_named_60 : decode cX12_named 60 = .ok (.invokevirtual 94, 3) := oc_182 (a := 0) (b := 94) (by decide +kernel)
theorem dX12_named_63 : decode cX12_named 63 = .ok (.ireturn, 1) := oc_172 (by decide +kernel)
theorem dX12_named_64 : decode cX12_named 64 = .ok (.iload_n 3, 1) := oc_29 (by decide +kernel)
theorem dX12_named_65 : decode cX12_named 65 = .ok (.ireturn, 1) := oc_172 (by decide +kernel)
theorem dX12_named_66 : decode cX12_named 66 = .ok (.iload 4, 2) := oc_21 (by decide +kernel)
theorem dX12_named_68 : decode cX12_named 68 = .ok (.ireturn, 1) := oc_172 (by decide +kernel)
theorem dX12_isAhead_0 : decode cX12_isAhead 0 = .ok (.iconst 0, 1) := oc_3 (by decide +kernel)
theorem dX12_isAhead_1 : decode cX12_isAhead 1 = .ok (.istore 4, 2) := oc_54 (by decide +kernel)
theorem dX12_isAhead_3 : decode cX12_isAhead 3 = .ok (.iload 4, 2) := oc_21 (by decide +kernel)
theorem dX12_isAhead_5 : decode cX12_isAhead 5 = .ok (.aload_n 0, 1) := oc_42 (by decide +kernel)
theorem dX12_isAhead_6 : decode cX12_isAhead 6 = .ok (.getfield 7, 3) := oc_180 (a := 0) (b := 7) (by decide +kernel)
theorem dX12_isAhead_9 : decode cX12_isAhead 9 = .ok (.aload_n 0, 1) := oc_42 (by decide +kernel)
theorem dX12_isAhead_10 : decode cX12_isAhead 10 = .ok (.getfield 307, 3) := oc_180 (a := 1) (b := 51) (by decide +kernel)
theorem dX12_isAhead_13 : decode cX12_isAhead 13 = .ok (.iconst 4, 1) := oc_7 (by decide +kernel)
theorem dX12_isAhead_14 : decode cX12_isAhead 14 = .ok (.iadd, 1) := oc_96 (by decide +kernel)
theorem dX12_isAhead_15 : decode cX12_isAhead 15 = .ok (.iaload, 1) := oc_46 (by decide +kernel)
theorem dX12_isAhead_16 : decode cX12_isAhead 16 = .ok (.if_icmp .ge 101, 3) := oc_162 (a := 0) (b := 101) (by decide +kernel)
theorem dX12_isAhead_117 : decode cX12_isAhead 117 = .ok (.iconst 0, 1) := oc_3 (by decide +kernel)
theorem dX12_isAhead_118 : decode cX12_isAhead 118 = .ok (.ireturn, 1) := oc_172 (by decide +kernel)
theorem dX12_isAhead_19 : decode cX12_isAhead 19 = .ok (.aload_n 0, 1) := oc_42 (by decide +kernel)
theorem dX12_isAhead_20 : decode cX12_isAhead 20 = .ok (.getfield 7, 3) := oc_180 (a := 0) (b := 7) (by decide +kernel)
theorem dX12_isAhead_23 : decode cX12_isAhead 23 = .ok (.aload_n 0, 1) := oc_42 (by decide +kernel)
theorem dX12_isAhead_24 : decode cX12_isAhead 24 = .ok (.getfield 307, 3) := oc_180 (a := 1) (b := 51) (by decide +kernel)
theorem dX12_isAhead_27 : decode cX12_isAhead 27 = .ok (.iconst 5, 1) := oc_8 (by decide +kernel)
theorem dX12_isAhead_28 : decode cX12_isAhead 28 = .ok (.iadd, 1) := oc_96 (by decide +kernel)
theorem dX12_isAhead_29 : decode cX12_isAhead 29 = .ok (.iload 4, 2) := oc_21 (by decide +kernel)
theorem dX12_isAhead_31 : decode cX12_isAhead 31 = .ok (.iadd, 1) := oc_96 (by decide +kernel)
theorem dX12_isAhead_32 : decode cX12_isAhead 32 = .ok (.iaload, 1) := oc_46 (by decide +kernel)
theorem dX12_isAhead_33 : decode cX12_isAhead 33 = .ok (.istore 5, 2) := oc_54 (by decide +kernel)
theorem dX12_isAhead_35 : decode cX12_isAhead 35 = .ok (.iload 5, 2) := oc_21 (by decide +kernel)
theorem dX12_isAhead_49 : decode cX12_isAhead 49 = .ok (.istore 6, 2) := oc_54 (by decide +kernel)
theorem dX12_isAhead_51 : decode cX12_isAhead 51 = .ok (.aload_n 0, 1) := oc_42 (by decide +kernel)
theorem dX12_isAhead_52 : decode cX12_isAhead 52 = .ok (.iload_n 1, 1) := oc_27 (by decide +kernel)
theorem dX12_isAhead_53 : decode cX12_isAhead 53 = .ok (.iload 6, 2) := oc_21 (by decide +kernel)
theorem dX12_isAhead_55 : decode cX12_isAhead 55 = .ok (.iload_n 3, 1) := oc_29 (by decide +kernel)
theorem dX12_isAhead_56 : decode cX12_isAhead 56 = .ok (.iconst 0, 1) := oc_3 (by decide +kernel)
theorem tw_528 : Cond.methodLink RX12 286 yX12_named ∈ wsL_law := sg_23 _ (List.mem_of_getElem? (i := 0) rfl)
theorem tw_529 : Cond.instanceMethod yX12_named ∈ wsL_law := sg_23 _ (List.mem_of_getElem? (i := 1) rfl)
theorem tw_530 : Cond.selects RX12 yX12_named yX12_named ∈ wsL_law := sg_23 _ (List.mem_of_getElem? (i := 2) rfl)
theorem tw_531 : Cond.code yX12_named cX12_named 5 (some .int) ∈ wsL_law := sg_23 _ (List.mem_of_getElem? (i := 3) rfl)
theorem dX12_isAhead_57 : decode cX12_isAhead 57 = .ok (.invokevirtual 286, 3) := oc_182 (a := 1) (b := 30) (by decide +kernel)
theorem dX12_isAhead_60 : decode cX12_isAhead 60 = .ok (.istore 7, 2) := oc_54 (by decide +kernel)
theorem dX12_isAhead_62 : decode cX12_isAhead 62 = .ok (.aload_n 0, 1) := oc_42 (by decide +kernel)
theorem dX12_isAhead_63 : decode cX12_isAhead 63 = .ok (.iload_n 2, 1) := oc_28 (by decide +kernel)
theorem dX12_isAhead_64 : decode cX12_isAhead 64 = .ok (.iload 6, 2) := oc_21 (by decide +kernel)
theorem dX12_isAhead_66 : decode cX12_isAhead 66 = .ok (.iload_n 3, 1) := oc_29 (by decide +kernel)
theorem dX12_isAhead_67 : decode cX12_isAhead 67 = .ok (.iconst 0, 1) := oc_3 (by decide +kernel)
theorem dX12_isAhead_68 : decode cX12_isAhead 68 = .ok (.invokevirtual 286, 3) := oc_182 (a := 1) (b := 30) (by decide +kernel)
theorem dX12_isAhead_71 : decode cX12_isAhead 71 = .ok (.istore 8, 2) := oc_54 (by decide +kernel)
theorem dX12_isAhead_73 : decode cX12_isAhead 73 = .ok (.iload 7, 2) := oc_21 (by decide +kernel)
theorem dX12_isAhead_75 : decode cX12_isAhead 75 = .ok (.iload 8, 2) := oc_21 (by decide +kernel)
theorem dX12_isAhead_77 : decode cX12_isAhead 77 = .ok (.if_icmp .eq 34, 3) := oc_159 (a := 0) (b := 34) (by decide +kernel)
theorem dX12_isAhead_111 : decode cX12_isAhead 111 = .ok (.iinc 4 1, 3) := oc_132 (b := 1) (by decide +kernel)
theorem dX12_isAhead_114 : decode cX12_isAhead 114 = .ok (.goto (-111), 3) := oc_167 (a := 255) (b := 145) (by decide +kernel)
theorem dX12_isAhead_80 : decode cX12_isAhead 80 = .ok (.iload 7, 2) := oc_21 (by decide +kernel)
theorem dX12_isAhead_82 : decode cX12_isAhead 82 = .ok (.iload 8, 2) := oc_21 (by decide +kernel)
theorem dX12_isAhead_92 : decode cX12_isAhead 92 = .ok (.iload 5, 2) := oc_21 (by decide +kernel)
theorem dX12_isAhead_102 : decode cX12_isAhead 102 = .ok (.if_icmp .ne 7, 3) := oc_160 (a := 0) (b := 7) (by decide +kernel)
theorem dX12_isAhead_105 : decode cX12_isAhead 105 = .ok (.iconst 1, 1) := oc_4 (by decide +kernel)
theorem dX12_isAhead_106 : decode cX12_isAhead 106 = .ok (.goto 4, 3) := oc_167 (a := 0) (b := 4) (by decide +kernel)
theorem dX12_isAhead_110 : decode cX12_isAhead 110 = .ok (.ireturn, 1) := oc_172 (by decide +kernel)
theorem dX12_isAhead_109 : decode cX12_isAhead 109 = .ok (.iconst 0, 1) := oc_3 (by decide +kernel)
theorem dX12_isAhead_94 : decode cX12_isAhead 94 = .ok (.ifCond .lt 7, 3) := oc_155 (a := 0) (b := 7) (by decide +kernel)
theorem dX12_isAhead_101 : decode cX12_isAhead 101 = .ok (.iconst 0, 1) := oc_3 (by decide +kernel)
theorem dX12_isAhead_97 : decode cX12_isAhead 97 = .ok (.iconst 1, 1) := oc_4 (by decide +kernel)
theorem dX12_isAhead_98 : decode cX12_isAhead 98 = .ok (.goto 4, 3) := oc_167 (a := 0) (b := 4) (by decide +kernel)
theorem dX12_isAhead_84 : decode cX12_isAhead 84 = .ok (.if_icmp .ge 7, 3) := oc_162 (a := 0) (b := 7) (by decide +kernel)
theorem dX12_isAhead_91 : decode cX12_isAhead 91 = .ok (.iconst 0, 1) := oc_3 (by decide +kernel)
theorem dX12_isAhead_87 : decode cX12_isAhead 87 = .ok (.iconst 1, 1) := oc_4 (by decide +kernel)
theorem dX12_isAhead_88 : decode cX12_isAhead 88 = .ok (.goto 4, 3) := oc_167 (a := 0) (b := 4) (by decide +kernel)
theorem dX12_isAhead_37 : decode cX12_isAhead 37 = .ok (.ifCond .ge 10, 3) := oc_156 (a := 0) (b := 10) (by decide +kernel)
theorem dX12_isAhead_47 : decode cX12_isAhead 47 = .ok (.iload 5, 2) := oc_21 (by decide +kernel)
theorem dX12_isAhead_40 : decode cX12_isAhead 40 = .ok (.iconst (-1), 1) := oc_2 (by decide +kernel)
theorem dX12_isAhead_41 : decode cX12_isAhead 41 = .ok (.iload 5, 2) := oc_21 (by decide +kernel)
theorem dX12_isAhead_43 : decode cX12_isAhead 43 = .ok (.isub, 1) := oc_100 (by decide +kernel)
theorem dX12_isAhead_44 : decode cX12_isAhead 44 = .ok (.goto 5, 3) := oc_167 (a := 0) (b := 5) (by decide +kernel)
theorem dX12_death_0 : decode cX12_death 0 = .ok (.aload_n 0, 1) := oc_42 (by decide +kernel)
theorem dX12_death_1 : decode cX12_death 1 = .ok (.iload_n 1, 1) := oc_27 (by decide +kernel)
theorem dX12_death_2 : decode cX12_death 2 = .ok (.invokevirtual 104, 3) := oc_182 (a := 0) (b := 104) (by decide +kernel)
theorem dX12_death_20 : decode cX12_death 20 = .ok (.iconst (-1), 1) := oc_2 (by decide +kernel)
theorem dX12_death_21 : decode cX12_death 21 = .ok (.ireturn, 1) := oc_172 (by decide +kernel)
theorem dX12_death_5 : decode cX12_death 5 = .ok (.ifCond .eq 15, 3) := oc_153 (a := 0) (b := 15) (by decide +kernel)
theorem dX12_death_8 : decode cX12_death 8 = .ok (.aload_n 0, 1) := oc_42 (by decide +kernel)
theorem dX12_death_9 : decode cX12_death 9 = .ok (.iload_n 1, 1) := oc_27 (by decide +kernel)
theorem dX12_death_10 : decode cX12_death 10 = .ok (.iconst 3, 1) := oc_6 (by decide +kernel)
theorem dX12_death_11 : decode cX12_death 11 = .ok (.invokevirtual 94, 3) := oc_182 (a := 0) (b := 94) (by decide +kernel)
theorem dX12_death_14 : decode cX12_death 14 = .ok (.sipush 300, 3) := oc_17 (a := 1) (b := 44) (by decide +kernel)
theorem dX12_death_17 : decode cX12_death 17 = .ok (.if_icmp .ne 5, 3) := oc_160 (a := 0) (b := 5) (by decide +kernel)
theorem dX12_death_22 : decode cX12_death 22 = .ok (.aload_n 0, 1) := oc_42 (by decide +kernel)
theorem dX12_death_23 : decode cX12_death 23 = .ok (.getfield 7, 3) := oc_180 (a := 0) (b := 7) (by decide +kernel)
theorem dX12_death_26 : decode cX12_death 26 = .ok (.sipush 740, 3) := oc_17 (a := 2) (b := 228) (by decide +kernel)
theorem dX12_death_29 : decode cX12_death 29 = .ok (.bipush 12, 2) := oc_16 (a := 12) (by decide +kernel)
theorem dX12_death_31 : decode cX12_death 31 = .ok (.iload_n 1, 1) := oc_27 (by decide +kernel)
theorem dX12_death_32 : decode cX12_death 32 = .ok (.imul, 1) := oc_104 (by decide +kernel)
theorem dX12_death_33 : decode cX12_death 33 = .ok (.iadd, 1) := oc_96 (by decide +kernel)
theorem dX12_death_34 : decode cX12_death 34 = .ok (.iconst 3, 1) := oc_6 (by decide +kernel)
theorem dX12_death_35 : decode cX12_death 35 = .ok (.iadd, 1) := oc_96 (by decide +kernel)
theorem dX12_death_36 : decode cX12_death 36 = .ok (.sipush 300, 3) := oc_17 (a := 1) (b := 44) (by decide +kernel)
theorem dX12_death_39 : decode cX12_death 39 = .ok (.iastore, 1) := oc_79 (by decide +kernel)
theorem dX12_death_40 : decode cX12_death 40 = .ok (.iconst (-1), 1) := oc_2 (by decide +kernel)
theorem dX12_death_41 : decode cX12_death 41 = .ok (.istore_n 2, 1) := oc_61 (by decide +kernel)
theorem dX12_death_42 : decode cX12_death 42 = .ok (.aload_n 0, 1) := oc_42 (by decide +kernel)
theorem dX12_death_43 : decode cX12_death 43 = .ok (.bipush 6, 2) := oc_16 (a := 6) (by decide +kernel)
theorem dX12_death_45 : decode cX12_death 45 = .ok (.aload_n 0, 1) := oc_42 (by decide +kernel)
theorem dX12_death_46 : decode cX12_death 46 = .ok (.getfield 7, 3) := oc_180 (a := 0) (b := 7) (by decide +kernel)
theorem dX12_death_49 : decode cX12_death 49 = .ok (.iconst 0, 1) := oc_3 (by decide +kernel)
theorem dX12_death_50 : decode cX12_death 50 = .ok (.iaload, 1) := oc_46 (by decide +kernel)
theorem tw_503 : Cond.methodLink RX12 113 yX12_keysFor ∈ wsL_law := sg_21 _ (List.mem_of_getElem? (i := 23) rfl)
theorem tw_504 : Cond.instanceMethod yX12_keysFor ∈ wsL_law := sg_22 _ (List.mem_of_getElem? (i := 0) rfl)
theorem tw_505 : Cond.selects RX12 yX12_keysFor yX12_keysFor ∈ wsL_law := sg_22 _ (List.mem_of_getElem? (i := 1) rfl)
theorem tw_506 : Cond.code yX12_keysFor cX12_keysFor 4 (some .boolean) ∈ wsL_law := sg_22 _ (List.mem_of_getElem? (i := 2) rfl)
theorem dX12_death_51 : decode cX12_death 51 = .ok (.invokevirtual 113, 3) := oc_182 (a := 0) (b := 113) (by decide +kernel)
theorem dX12_death_54 : decode cX12_death 54 = .ok (.istore_n 3, 1) := oc_62 (by decide +kernel)
theorem dX12_death_55 : decode cX12_death 55 = .ok (.iconst 0, 1) := oc_3 (by decide +kernel)
theorem dX12_death_56 : decode cX12_death 56 = .ok (.istore 4, 2) := oc_54 (by decide +kernel)
theorem dX12_death_58 : decode cX12_death 58 = .ok (.iload 4, 2) := oc_21 (by decide +kernel)
theorem dX12_death_60 : decode cX12_death 60 = .ok (.aload_n 0, 1) := oc_42 (by decide +kernel)
theorem dX12_death_61 : decode cX12_death 61 = .ok (.getfield 7, 3) := oc_180 (a := 0) (b := 7) (by decide +kernel)
theorem dX12_death_64 : decode cX12_death 64 = .ok (.iconst 5, 1) := oc_8 (by decide +kernel)
theorem dX12_death_65 : decode cX12_death 65 = .ok (.iaload, 1) := oc_46 (by decide +kernel)
theorem dX12_death_66 : decode cX12_death 66 = .ok (.if_icmp .ge 68, 3) := oc_162 (a := 0) (b := 68) (by decide +kernel)
theorem dX12_death_134 : decode cX12_death 134 = .ok (.iconst 0, 1) := oc_3 (by decide +kernel)
theorem dX12_death_135 : decode cX12_death 135 = .ok (.istore 4, 2) := oc_54 (by decide +kernel)
theorem dX12_death_137 : decode cX12_death 137 = .ok (.iconst 0, 1) := oc_3 (by decide +kernel)
theorem dX12_death_138 : decode cX12_death 138 = .ok (.istore 5, 2) := oc_54 (by decide +kernel)
theorem dX12_death_140 : decode cX12_death 140 = .ok (.iload 5, 2) := oc_21 (by decide +kernel)
theorem dX12_death_142 : decode cX12_death 142 = .ok (.aload_n 0, 1) := oc_42 (by decide +kernel)
theorem dX12_death_143 : decode cX12_death 143 = .ok (.getfield 7, 3) := oc_180 (a := 0) (b := 7) (by decide +kernel)
theorem dX12_death_146 : decode cX12_death 146 = .ok (.iconst 2, 1) := oc_5 (by decide +kernel)
theorem dX12_death_147 : decode cX12_death 147 = .ok (.iaload, 1) := oc_46 (by decide +kernel)
theorem dX12_death_148 : decode cX12_death 148 = .ok (.if_icmp .ge 44, 3) := oc_162 (a := 0) (b := 44) (by decide +kernel)
theorem dX12_death_192 : decode cX12_death 192 = .ok (.iload 4, 2) := oc_21 (by decide +kernel)
theorem dX12_death_194 : decode cX12_death 194 = .ok (.ireturn, 1) := oc_172 (by decide +kernel)
theorem dX12_death_151 : decode cX12_death 151 = .ok (.aload_n 0, 1) := oc_42 (by decide +kernel)
theorem dX12_death_152 : decode cX12_death 152 = .ok (.iload 5, 2) := oc_21 (by decide +kernel)
theorem dX12_death_154 : decode cX12_death 154 = .ok (.bipush 14, 2) := oc_16 (a := 14) (by decide +kernel)
theorem dX12_death_156 : decode cX12_death 156 = .ok (.invokevirtual 91, 3) := oc_182 (a := 0) (b := 91) (by decide +kernel)
theorem dX12_death_159 : decode cX12_death 159 = .ok (.iload_n 1, 1) := oc_27 (by decide +kernel)
theorem dX12_death_186 : decode cX12_death 186 = .ok (.iinc 5 1, 3) := oc_132 (b := 1) (by decide +kernel)
theorem dX12_death_189 : decode cX12_death 189 = .ok (.goto (-49), 3) := oc_167 (a := 255) (b := 207) (by decide +kernel)
theorem dX12_death_160 : decode cX12_death 160 = .ok (.if_icmp .eq 6, 3) := oc_159 (a := 0) (b := 6) (by decide +kernel)
theorem dX12_death_166 : decode cX12_death 166 = .ok (.aload_n 0, 1) := oc_42 (by decide +kernel)
theorem dX12_death_167 : decode cX12_death 167 = .ok (.getfield 7, 3) := oc_180 (a := 0) (b := 7) (by decide +kernel)
theorem dX12_death_170 : decode cX12_death 170 = .ok (.bipush 100, 2) := oc_16 (a := 100) (by decide +kernel)
theorem dX12_death_172 : decode cX12_death 172 = .ok (.bipush 16, 2) := oc_16 (a := 16) (by decide +kernel)
theorem dX12_death_174 : decode cX12_death 174 = .ok (.iload 5, 2) := oc_21 (by decide +kernel)
theorem dX12_death_176 : decode cX12_death 176 = .ok (.imul, 1) := oc_104 (by decide +kernel)
theorem dX12_death_177 : decode cX12_death 177 = .ok (.iadd, 1) := oc_96 (by decide +kernel)
theorem dX12_death_178 : decode cX12_death 178 = .ok (.bipush 14, 2) := oc_16 (a := 14) (by decide +kernel)
theorem dX12_death_180 : decode cX12_death 180 = .ok (.iadd, 1) := oc_96 (by decide +kernel)
theorem dX12_death_181 : decode cX12_death 181 = .ok (.iload_n 2, 1) := oc_28 (by decide +kernel)
theorem dX12_death_182 : decode cX12_death 182 = .ok (.iastore, 1) := oc_79 (by decide +kernel)
theorem dX12_death_183 : decode cX12_death 183 = .ok (.iinc 4 1, 3) := oc_132 (b := 1) (by decide +kernel)
theorem dX12_death_163 : decode cX12_death 163 = .ok (.goto 23, 3) := oc_167 (a := 0) (b := 23) (by decide +kernel)
theorem dX12_death_69 : decode cX12_death 69 = .ok (.aload_n 0, 1) := oc_42 (by decide +kernel)
theorem dX12_death_70 : decode cX12_death 70 = .ok (.iload 4, 2) := oc_21 (by decide +kernel)
theorem dX12_death_72 : decode cX12_death 72 = .ok (.iconst 0, 1) := oc_3 (by decide +kernel)
theorem dX12_death_73 : decode cX12_death 73 = .ok (.invokevirtual 94, 3) := oc_182 (a := 0) (b := 94) (by decide +kernel)
theorem dX12_death_76 : decode cX12_death 76 = .ok (.aload_n 0, 1) := oc_42 (by decide +kernel)
theorem dX12_death_77 : decode cX12_death 77 = .ok (.iload_n 1, 1) := oc_27 (by decide +kernel)
theorem dX12_death_78 : decode cX12_death 78 = .ok (.iconst 0, 1) := oc_3 (by decide +kernel)
theorem dX12_death_79 : decode cX12_death 79 = .ok (.invokevirtual 94, 3) := oc_182 (a := 0) (b := 94) (by decide +kernel)
theorem dX12_death_128 : decode cX12_death 128 = .ok (.iinc 4 1, 3) := oc_132 (b := 1) (by decide +kernel)
theorem dX12_death_131 : decode cX12_death 131 = .ok (.goto (-73), 3) := oc_167 (a := 255) (b := 183) (by decide +kernel)
theorem dX12_death_82 : decode cX12_death 82 = .ok (.if_icmp .ne 46, 3) := oc_160 (a := 0) (b := 46) (by decide +kernel)
theorem dX12_death_85 : decode cX12_death 85 = .ok (.aload_n 0, 1) := oc_42 (by decide +kernel)
theorem dX12_death_86 : decode cX12_death 86 = .ok (.iload 4, 2) := oc_21 (by decide +kernel)
theorem dX12_death_88 : decode cX12_death 88 = .ok (.iconst 3, 1) := oc_6 (by decide +kernel)
theorem dX12_death_89 : decode cX12_death 89 = .ok (.invokevirtual 94, 3) := oc_182 (a := 0) (b := 94) (by decide +kernel)
theorem dX12_death_92 : decode cX12_death 92 = .ok (.sipush 300, 3) := oc_17 (a := 1) (b := 44) (by decide +kernel)
theorem dX12_death_95 : decode cX12_death 95 = .ok (.if_icmp .ne 6, 3) := oc_160 (a := 0) (b := 6) (by decide +kernel)
theorem dX12_death_101 : decode cX12_death 101 = .ok (.iload_n 2, 1) := oc_28 (by decide +kernel)
theorem dX12_death_125 : decode cX12_death 125 = .ok (.iload 4, 2) := oc_21 (by decide +kernel)
theorem dX12_death_127 : decode cX12_death 127 = .ok (.istore_n 2, 1) := oc_61 (by decide +kernel)
theorem dX12_death_102 : decode cX12_death 102 = .ok (.ifCond .lt 23, 3) := oc_155 (a := 0) (b := 23) (by decide +kernel)
theorem dX12_death_105 : decode cX12_death 105 = .ok (.iload_n 3, 1) := oc_29 (by decide +kernel)
theorem dX12_death_106 : decode cX12_death 106 = .ok (.ifCond .eq 22, 3) := oc_153 (a := 0) (b := 22) (by decide +kernel)
theorem dX12_death_109 : decode cX12_death 109 = .ok (.aload_n 0, 1) := oc_42 (by decide +kernel)
theorem dX12_death_110 : decode cX12_death 110 = .ok (.iload 4, 2) := oc_21 (by decide +kernel)
theorem dX12_death_112 : decode cX12_death 112 = .ok (.iload_n 2, 1) := oc_28 (by decide +kernel)
theorem dX12_death_113 : decode cX12_death 113 = .ok (.aload_n 0, 1) := oc_42 (by decide +kernel)
theorem dX12_death_114 : decode cX12_death 114 = .ok (.getfield 7, 3) := oc_180 (a := 0) (b := 7) (by decide +kernel)
theorem dX12_death_117 : decode cX12_death 117 = .ok (.iconst 0, 1) := oc_3 (by decide +kernel)
theorem dX12_death_118 : decode cX12_death 118 = .ok (.iaload, 1) := oc_46 (by decide +kernel)
theorem tw_524 : Cond.methodLink RX12 117 yX12_isAhead ∈ wsL_law := sg_22 _ (List.mem_of_getElem? (i := 20) rfl)
theorem tw_525 : Cond.instanceMethod yX12_isAhead ∈ wsL_law := sg_22 _ (List.mem_of_getElem? (i := 21) rfl)
theorem tw_526 : Cond.selects RX12 yX12_isAhead yX12_isAhead ∈ wsL_law := sg_22 _ (List.mem_of_getElem? (i := 22) rfl)
theorem tw_527 : Cond.code yX12_isAhead cX12_isAhead 9 (some .boolean) ∈ wsL_law := sg_22 _ (List.mem_of_getElem? (i := 23) rfl)
theorem dX12_death_119 : decode cX12_death 119 = .ok (.invokevirtual 117, 3) := oc_182 (a := 0) (b := 117) (by decide +kernel)
theorem dX12_death_122 : decode cX12_death 122 = .ok (.ifCond .eq 6, 3) := oc_153 (a := 0) (b := 6) (by decide +kernel)
theorem dX12_death_98 : decode cX12_death 98 = .ok (.goto 30, 3) := oc_167 (a := 0) (b := 30) (by decide +kernel)
set_option maxRecDepth 100000 in
def g_X12_cellAt_c14 (a0 : Int32) (I : Nat → Int32) (J : Nat → Int64) (ri : Nat → Nat → Int32) (rj : Nat → Nat → Int64) (rq : Nat → Nat → Option Nat) : Int32 × vM := (ap1 ((16 : Int32) * a0) fun (x_2 : Int32) => (ap1 ((100 : Int32) + x_2) fun (x_4 : Int32) => (ap1 (x_4 + (14 : Int32)) fun (x_6 : Int32) => (ap1 (ri 384 (x_6).toNatClampNeg) fun (x_8 : Int32) => (x_8, I, J, ri, rj, rq)))))
set_option maxRecDepth 100000 in
theorem g_X12_cellAt_c14_e {a0 : Int32} {I : Nat → Int32} {J : Nat → Int64} {ri : Nat → Nat → Int32} {rj : Nat → Nat → Int64} {rq : Nat → Nat → Option Nat} : g_X12_cellAt_c14 a0 I J ri rj rq = (ap1 ((16 : Int32) * a0) fun (x_2 : Int32) => (ap1 ((100 : Int32) + x_2) fun (x_4 : Int32) => (ap1 (x_4 + (14 : Int32)) fun (x_6 : Int32) => (ap1 (ri 384 (x_6).toNatClampNeg) fun (x_8 : Int32) => (x_8, I, J, ri, rj, rq))))) := rfl
set_option maxHeartbeats 4000000 in
set_option maxRecDepth 100000 in
theorem s_X12_cellAt_c14 (l : Launch) (D : va_G) (t : pq_T) (σ : pq_S) (I : Nat → Nat → Int32) (J : Nat → Nat → Int64) (ri : Nat → Nat → Int32) (rj : Nat → Nat → Int64) (rq : Nat → Nat → Option Nat) (sz : Nat) (tg : Nat → Nat) (hSH : SH σ tg) (hG0 : GT tg I ri) (this : Nat) (a0 : Int32) (hL_this : this ∈ σ.1) (hK_this : σ.2.1 this = 12) (h_a0 : rg a0 0 39) : MetI l yX12_cellAt (wa yX12_cellAt cX12_cellAt 3 (some .int)) ({ frames := 0, cells := 0, slots := 0, locals := 0 }) [.ref this, .int a0, .int 14] D t σ (I, J, ri, rj, rq) sz 0 0 (fun (r : Int32) (u : pq_S × pq_M) => u = (σ, I, J, ri, rj, rq) ∧ g_X12_cellAt_c14 a0 (vI 12 σ this I) (vJ 12 σ this J) (vR 12 σ this ri) (vL 12 σ this rj) (vQ 12 σ this rq) = (r, (vI 12 σ this I), (vJ 12 σ this J), (vR 12 σ this ri), (vL 12 σ this rj), (vQ 12 σ this rq)) ∧ rg r (-1) 39) := by
  refine Met.ofW (cc := cX12_cellAt) (maxL := 3) (ret := (some .int)) (by decide +kernel) rfl ?_
  intro p e s m args below meth c s₁ B hml hv
  obtain ⟨rfl, hsz, hP, hK, hD0, hN⟩ := hv
  have hx := B.exec
  have hb := B.bytes
  have hr := B.returns
  have hts := atoms_spec (ws := (wa yX12_cellAt cX12_cellAt 3 (some .int))) B.pre
  have hown : s.vm.findClass RX12 = some m.cls := findClass_of_methodNamed B.named
  have hlocks := B.notSynchronized
  subst hsz
  have hD : va_D (pq_B t σ (I, J, ri, rj, rq) s.heap.size) (pq_P t σ (I, J, ri, rj, rq)) := hD0.self
  generalize hAe : pq_B t σ (I, J, ri, rj, rq) s.heap.size = A at hD ⊢
  have hA : ∀ q : Nat, s.heap.size ≤ q → A q := fun q h => by rw [← hAe]; exact Or.inr h
  have hS : va_S A s.heap s.heap [] := va_S.rf
  have hG : GM [] tg σ I ri I ri rq := ⟨hG0, fun _ _ _ => rfl, fun _ _ _ _ _ => rfl, fun _ _ _ _ _ _ => rfl⟩
  have hl := lv_entry ([.ref this, .int a0, .int 14]) (n := 3) (Nat.le_of_ble_eq_true rfl)
  rw [lg_entry_eq]
  generalize (lg_sl ([.ref this, .int a0, .int 14]) ++ List.replicate (3 - (lg_sl ([.ref this, .int a0, .int 14])).length) Slot.unset).toArray = ls at hl ⊢
  have hl : lv_has ls 3 [(0, .ref this), (1, .int a0), (2, .int 14)] := hl
  refine q_gen (fun Q hQ => ?_)
  have go : ∀ (H : Heap) (locs : List Loc) (ls : Array Slot), va_P D vwCl (pq_P t σ (I, J, ri, rj, rq)) H → va_D A (pq_P t σ (I, J, ri, rj, rq)) → va_S A s.heap H locs → lv_has ls 3 [(0, .ref this), (1, .int a0), (2, .int 14)] → W p l e ({ frames := 0, cells := 0, slots := 0, locals := 0 } : Room) s m (List.toArray ([.ref this, .int a0, .int 14] : List Value)) below meth c H locs 0 0 Q (F0 m 0 ls []) := by
    intro H locs ls hP hD hS hl
    have hO_this : this = vo σ 12 this := rfl
    have hVT : VT 12 σ tg this := vt_12 hSH hL_this hK_this
    have hFr : FR 12 tg σ this (I, J, ri, rj, rq) (I, J, ri, rj, rq) := fr_rf
    obtain ⟨F, hF0⟩ : ∃ F, F = g_X12_cellAt_c14 a0 (vI 12 σ this I) (vJ 12 σ this J) (vR 12 σ this ri) (vL 12 σ this rj) (vQ 12 σ this rq) := ⟨_, rfl⟩
    have hF := hF0.trans g_X12_cellAt_c14_e
    refine lv_aload_n hx hb dX12_cellAt_0 rfl (lv_at hl 0 rfl) ?_
    obtain ⟨w_1, hR_w_1, hL_w_1, hK_w_1, hN_w_1, hT_w_1⟩ := sh_a hSH 384 (ci := 12) (kd := 13) (len := 12720) rfl (by decide +kernel) hL_this hK_this
    have hO_w_1 : w_1 = vrow σ 384 this := vo_k (c := 12) hO_this hR_w_1
    refine pg_f (v := .ref w_1) (C := RX12) (T := TX12) (N := 31) hx hb hts (tw_i inlX12) hown hK hP hL_this hK_this (by decide +kernel) rfl 0 (by decide +kernel) (hts _ (tw_c tw_176)) (pq_hv rfl hR_w_1) dX12_cellAt_1 ?_
    refine lv_bipush (v := 100) hx hb dX12_cellAt_4 (by decide +kernel) ?_
    refine lv_bipush (v := 16) hx hb dX12_cellAt_6 (by decide +kernel) ?_
    refine lv_iload_n hx hb dX12_cellAt_8 rfl (lv_at hl 1 rfl) ?_
    refine lv_imul hx hb dX12_cellAt_9 ?_
    refine lv_topi (fun x_2 ex_2 => ?_)
    replace hF := hF.trans (ap_n ex_2)
    have h_3 : rg x_2 0 624 := rg_of_eq ex_2 (rg_mul (rg_k (16 : Int32) 16 rfl) h_a0 (by decide +kernel))
    have uh_3 := h_3.1
    have vh_3 := h_3.2
    have tx_2 : (x_2).toInt = 16 * (a0).toInt := by rw [ex_2]; exact i_mul_rg (a2 := 16) (b2 := (a0).toInt) rfl rfl (rg_k (16 : Int32) 16 rfl) h_a0 (by decide +kernel)
    refine lv_iadd hx hb dX12_cellAt_10 ?_
    refine lv_topi (fun x_4 ex_4 => ?_)
    replace hF := hF.trans (ap_n ex_4)
    have h_5 : rg x_4 100 724 := rg_of_eq ex_4 (rg_add (rg_k (100 : Int32) 100 rfl) h_3 (by decide +kernel))
    have uh_5 := h_5.1
    have vh_5 := h_5.2
    have tx_4 : (x_4).toInt = 100 + (x_2).toInt := by rw [ex_4]; exact i_add_rg (a2 := 100) (b2 := (x_2).toInt) rfl rfl (rg_k (100 : Int32) 100 rfl) h_3 (by decide +kernel)
    refine lv_iload_n hx hb dX12_cellAt_11 rfl (lv_at hl 2 rfl) ?_
    refine lv_iadd hx hb dX12_cellAt_12 ?_
    refine lv_topi (fun x_6 ex_6 => ?_)
    replace hF := hF.trans (ap_n ex_6)
    have h_7 : rg x_6 114 738 := rg_of_eq ex_6 (rg_add h_5 (rg_k (14 : Int32) 14 rfl) (by decide +kernel))
    have uh_7 := h_7.1
    have vh_7 := h_7.2
    have tx_6 : (x_6).toInt = (x_4).toInt + 14 := by rw [ex_6]; exact i_add_rg (a2 := (x_4).toInt) (b2 := 14) rfl rfl h_5 (rg_k (14 : Int32) 14 rfl) (by decide +kernel)
    refine pl_i hx hb hK hP hL_w_1 hK_w_1 hN_w_1 (rg_in h_7 (by decide +kernel)) dX12_cellAt_13 ?_
    refine lv_topi (fun x_8 ex_8 => ?_)
    replace hF := hF.trans (ap_n (vR_r hO_w_1 (by decide +kernel) ex_8))
    have h_9 : rg x_8 (-1) 39 := rg_of_eq ex_8 (GM.z hG (by rw [hT_w_1]; decide) (zn_CELL (c := a0.toNatClampNeg) (k := 14) (by have z_i := clampE x_6; have z_0 := clampE a0; omega) (rg_cl1 h_a0 (by decide +kernel)) (by decide +kernel)) rfl)
    have uh_9 := h_9.1
    have vh_9 := h_9.2
    subst hQ
    exact W.iret (v := x_8) hx hb hr (fun t1 ht hW => ⟨⟨x_8, (σ, I, J, ri, rj, rq), rfl, ⟨rfl, (hF0.symm.trans hF), (rg_w h_9 (by decide +kernel))⟩, by rw [ht]; exact hP, va_K.moved hW.alike hK, hD⟩, hS.F ht⟩) hS.2.2 dX12_cellAt_14
  exact go _ _ _ hP hD hS hl

set_option maxRecDepth 100000 in
def g_X12_personAt_c0 (a0 : Int32) (I : Nat → Int32) (J : Nat → Int64) (ri : Nat → Nat → Int32) (rj : Nat → Nat → Int64) (rq : Nat → Nat → Option Nat) : Int32 × vM := (ap1 ((12 : Int32) * a0) fun (x_1 : Int32) => (ap1 ((740 : Int32) + x_1) fun (x_3 : Int32) => (ap1 (x_3 + (0 : Int32)) fun (x_5 : Int32) => (ap1 (ri 384 (x_5).toNatClampNeg) fun (x_7 : Int32) => (x_7, I, J, ri, rj, rq)))))
set_option maxRecDepth 100000 in
theorem g_X12_personAt_c0_e {a0 : Int32} {I : Nat → Int32} {J : Nat → Int64} {ri : Nat → Nat → Int32} {rj : Nat → Nat → Int64} {rq : Nat → Nat → Option Nat} : g_X12_personAt_c0 a0 I J ri rj rq = (ap1 ((12 : Int32) * a0) fun (x_1 : Int32) => (ap1 ((740 : Int32) + x_1) fun (x_3 : Int32) => (ap1 (x_3 + (0 : Int32)) fun (x_5 : Int32) => (ap1 (ri 384 (x_5).toNatClampNeg) fun (x_7 : Int32) => (x_7, I, J, ri, rj, rq))))) := rfl
set_option maxHeartbeats 4000000 in
set_option maxRecDepth 100000 in
theorem s_X12_personAt_c0 (l : Launch) (D : va_G) (t : pq_T) (σ : pq_S) (I : Nat → Nat → Int32) (J : Nat → Nat → Int64) (ri : Nat → Nat → Int32) (rj : Nat → Nat → Int64) (rq : Nat → Nat → Option Nat) (sz : Nat) (tg : Nat → Nat) (hSH : SH σ tg) (hG0 : GT tg I ri) (this : Nat) (a0 : Int32) (hL_this : this ∈ σ.1) (hK_this : σ.2.1 this = 12) (h_a0 : rg a0 0 39) (this_a : Nat) (hR_this_a : σ.2.2.1 384 this = some this_a) (hL_this_a : this_a ∈ σ.1) (hK_this_a : σ.2.1 this_a = 13) (hN_this_a : σ.2.2.2 this_a = 12720) (hT_this_a : tg this_a = 384) : MetI l yX12_personAt (wa yX12_personAt cX12_personAt 3 (some .int)) ({ frames := 0, cells := 0, slots := 0, locals := 0 }) [.ref this, .int a0, .int 0] D t σ (I, J, ri, rj, rq) sz 0 0 (fun (r : Int32) (u : pq_S × pq_M) => u = (σ, I, J, ri, rj, rq) ∧ (r = ri this_a (740 + 12 * a0.toNatClampNeg)) ∧ g_X12_personAt_c0 a0 (vI 12 σ this I) (vJ 12 σ this J) (vR 12 σ this ri) (vL 12 σ this rj) (vQ 12 σ this rq) = (r, (vI 12 σ this I), (vJ 12 σ this J), (vR 12 σ this ri), (vL 12 σ this rj), (vQ 12 σ this rq))) := by
  refine Met.ofW (cc := cX12_personAt) (maxL := 3) (ret := (some .int)) (by decide +kernel) rfl ?_
  intro p e s m args below meth c s₁ B hml hv
  obtain ⟨rfl, hsz, hP, hK, hD0, hN⟩ := hv
  have hx := B.exec
  have hb := B.bytes
  have hr := B.returns
  have hts := atoms_spec (ws := (wa yX12_personAt cX12_personAt 3 (some .int))) B.pre
  have hown : s.vm.findClass RX12 = some m.cls := findClass_of_methodNamed B.named
  have hlocks := B.notSynchronized
  subst hsz
  have hD : va_D (pq_B t σ (I, J, ri, rj, rq) s.heap.size) (pq_P t σ (I, J, ri, rj, rq)) := hD0.self
  generalize hAe : pq_B t σ (I, J, ri, rj, rq) s.heap.size = A at hD ⊢
  have hA : ∀ q : Nat, s.heap.size ≤ q → A q := fun q h => by rw [← hAe]; exact Or.inr h
  have hS : va_S A s.heap s.heap [] := va_S.rf
  have hG : GM [] tg σ I ri I ri rq := ⟨hG0, fun _ _ _ => rfl, fun _ _ _ _ _ => rfl, fun _ _ _ _ _ _ => rfl⟩
  have hl := lv_entry ([.ref this, .int a0, .int 0]) (n := 3) (Nat.le_of_ble_eq_true rfl)
  rw [lg_entry_eq]
  generalize (lg_sl ([.ref this, .int a0, .int 0]) ++ List.replicate (3 - (lg_sl ([.ref this, .int a0, .int 0])).length) Slot.unset).toArray = ls at hl ⊢
  have hl : lv_has ls 3 [(0, .ref this), (1, .int a0), (2, .int 0)] := hl
  refine q_gen (fun Q hQ => ?_)
  have go : ∀ (H : Heap) (locs : List Loc) (ls : Array Slot), va_P D vwCl (pq_P t σ (I, J, ri, rj, rq)) H → va_D A (pq_P t σ (I, J, ri, rj, rq)) → va_S A s.heap H locs → lv_has ls 3 [(0, .ref this), (1, .int a0), (2, .int 0)] → W p l e ({ frames := 0, cells := 0, slots := 0, locals := 0 } : Room) s m (List.toArray ([.ref this, .int a0, .int 0] : List Value)) below meth c H locs 0 0 Q (F0 m 0 ls []) := by
    intro H locs ls hP hD hS hl
    have hO_this : this = vo σ 12 this := rfl
    have hVT : VT 12 σ tg this := vt_12 hSH hL_this hK_this
    have hFr : FR 12 tg σ this (I, J, ri, rj, rq) (I, J, ri, rj, rq) := fr_rf
    have hO_this_a : this_a = vrow σ 384 this := vo_k (c := 12) hO_this hR_this_a
    obtain ⟨F, hF0⟩ : ∃ F, F = g_X12_personAt_c0 a0 (vI 12 σ this I) (vJ 12 σ this J) (vR 12 σ this ri) (vL 12 σ this rj) (vQ 12 σ this rq) := ⟨_, rfl⟩
    have hF := hF0.trans g_X12_personAt_c0_e
    refine lv_aload_n hx hb dX12_personAt_0 rfl (lv_at hl 0 rfl) ?_
    refine pg_f (v := .ref this_a) (C := RX12) (T := TX12) (N := 31) hx hb hts (tw_i inlX12) hown hK hP hL_this hK_this (by decide +kernel) rfl 0 (by decide +kernel) (hts _ (tw_c tw_176)) (pq_hv rfl hR_this_a) dX12_personAt_1 ?_
    refine lv_sipush (v := 740) hx hb dX12_personAt_4 (by decide +kernel) ?_
    refine lv_bipush (v := 12) hx hb dX12_personAt_7 (by decide +kernel) ?_
    refine lv_iload_n hx hb dX12_personAt_9 rfl (lv_at hl 1 rfl) ?_
    refine lv_imul hx hb dX12_personAt_10 ?_
    refine lv_topi (fun x_1 ex_1 => ?_)
    replace hF := hF.trans (ap_n ex_1)
    have h_2 : rg x_1 0 468 := rg_of_eq ex_1 (rg_mul (rg_k (12 : Int32) 12 rfl) h_a0 (by decide +kernel))
    have uh_2 := h_2.1
    have vh_2 := h_2.2
    have tx_1 : (x_1).toInt = 12 * (a0).toInt := by rw [ex_1]; exact i_mul_rg (a2 := 12) (b2 := (a0).toInt) rfl rfl (rg_k (12 : Int32) 12 rfl) h_a0 (by decide +kernel)
    refine lv_iadd hx hb dX12_personAt_11 ?_
    refine lv_topi (fun x_3 ex_3 => ?_)
    replace hF := hF.trans (ap_n ex_3)
    have h_4 : rg x_3 740 1208 := rg_of_eq ex_3 (rg_add (rg_k (740 : Int32) 740 rfl) h_2 (by decide +kernel))
    have uh_4 := h_4.1
    have vh_4 := h_4.2
    have tx_3 : (x_3).toInt = 740 + (x_1).toInt := by rw [ex_3]; exact i_add_rg (a2 := 740) (b2 := (x_1).toInt) rfl rfl (rg_k (740 : Int32) 740 rfl) h_2 (by decide +kernel)
    refine lv_iload_n hx hb dX12_personAt_12 rfl (lv_at hl 2 rfl) ?_
    refine lv_iadd hx hb dX12_personAt_13 ?_
    refine lv_topi (fun x_5 ex_5 => ?_)
    replace hF := hF.trans (ap_n ex_5)
    have h_6 : rg x_5 740 1208 := rg_of_eq ex_5 (rg_add h_4 (rg_k (0 : Int32) 0 rfl) (by decide +kernel))
    have uh_6 := h_6.1
    have vh_6 := h_6.2
    have tx_5 : (x_5).toInt = (x_3).toInt + 0 := by rw [ex_5]; exact i_add_rg (a2 := (x_3).toInt) (b2 := 0) rfl rfl h_4 (rg_k (0 : Int32) 0 rfl) (by decide +kernel)
    refine pl_i hx hb hK hP hL_this_a hK_this_a hN_this_a (rg_in h_6 (by decide +kernel)) dX12_personAt_14 ?_
    refine lv_topi (fun x_7 ex_7 => ?_)
    replace hF := hF.trans (ap_n (vR_r hO_this_a (by decide +kernel) ex_7))
    subst hQ
    exact W.iret (v := x_7) hx hb hr (fun t1 ht hW => ⟨⟨x_7, (σ, I, J, ri, rj, rq), rfl, ⟨rfl, (show x_7 = ri this_a (740 + 12 * a0.toNatClampNeg) from ex_7.trans (congrArg (ri this_a) (by have z0 := clampE a0; have z1 := clampE x_5; omega))), (hF0.symm.trans hF)⟩, by rw [ht]; exact hP, va_K.moved hW.alike hK, hD⟩, hS.F ht⟩) hS.2.2 dX12_personAt_15
  exact go _ _ _ hP hD hS hl

set_option maxRecDepth 100000 in
def g_X12_personAt_c1 (a0 : Int32) (I : Nat → Int32) (J : Nat → Int64) (ri : Nat → Nat → Int32) (rj : Nat → Nat → Int64) (rq : Nat → Nat → Option Nat) : Int32 × vM := (ap1 ((12 : Int32) * a0) fun (x_1 : Int32) => (ap1 ((740 : Int32) + x_1) fun (x_3 : Int32) => (ap1 (x_3 + (1 : Int32)) fun (x_5 : Int32) => (ap1 (ri 384 (x_5).toNatClampNeg) fun (x_7 : Int32) => (x_7, I, J, ri, rj, rq)))))
set_option maxRecDepth 100000 in
theorem g_X12_personAt_c1_e {a0 : Int32} {I : Nat → Int32} {J : Nat → Int64} {ri : Nat → Nat → Int32} {rj : Nat → Nat → Int64} {rq : Nat → Nat → Option Nat} : g_X12_personAt_c1 a0 I J ri rj rq = (ap1 ((12 : Int32) * a0) fun (x_1 : Int32) => (ap1 ((740 : Int32) + x_1) fun (x_3 : Int32) => (ap1 (x_3 + (1 : Int32)) fun (x_5 : Int32) => (ap1 (ri 384 (x_5).toNatClampNeg) fun (x_7 : Int32) => (x_7, I, J, ri, rj, rq))))) := rfl
set_option maxHeartbeats 4000000 in
set_option maxRecDepth 100000 in
theorem s_X12_personAt_c1 (l : Launch) (D : va_G) (t : pq_T) (σ : pq_S) (I : Nat → Nat → Int32) (J : Nat → Nat → Int64) (ri : Nat → Nat → Int32) (rj : Nat → Nat → Int64) (rq : Nat → Nat → Option Nat) (sz : Nat) (tg : Nat → Nat) (hSH : SH σ tg) (hG0 : GT tg I ri) (this : Nat) (a0 : Int32) (hL_this : this ∈ σ.1) (hK_this : σ.2.1 this = 12) (h_a0 : rg a0 0 39) (this_a : Nat) (hR_this_a : σ.2.2.1 384 this = some this_a) (hL_this_a : this_a ∈ σ.1) (hK_this_a : σ.2.1 this_a = 13) (hN_this_a : σ.2.2.2 this_a = 12720) (hT_this_a : tg this_a = 384) : MetI l yX12_personAt (wa yX12_personAt cX12_personAt 3 (some .int)) ({ frames := 0, cells := 0, slots := 0, locals := 0 }) [.ref this, .int a0, .int 1] D t σ (I, J, ri, rj, rq) sz 0 0 (fun (r : Int32) (u : pq_S × pq_M) => u = (σ, I, J, ri, rj, rq) ∧ (r = ri this_a (741 + 12 * a0.toNatClampNeg)) ∧ g_X12_personAt_c1 a0 (vI 12 σ this I) (vJ 12 σ this J) (vR 12 σ this ri) (vL 12 σ this rj) (vQ 12 σ this rq) = (r, (vI 12 σ this I), (vJ 12 σ this J), (vR 12 σ this ri), (vL 12 σ this rj), (vQ 12 σ this rq))) := by
  refine Met.ofW (cc := cX12_personAt) (maxL := 3) (ret := (some .int)) (by decide +kernel) rfl ?_
  intro p e s m args below meth c s₁ B hml hv
  obtain ⟨rfl, hsz, hP, hK, hD0, hN⟩ := hv
  have hx := B.exec
  have hb := B.bytes
  have hr := B.returns
  have hts := atoms_spec (ws := (wa yX12_personAt cX12_personAt 3 (some .int))) B.pre
  have hown : s.vm.findClass RX12 = some m.cls := findClass_of_methodNamed B.named
  have hlocks := B.notSynchronized
  subst hsz
  have hD : va_D (pq_B t σ (I, J, ri, rj, rq) s.heap.size) (pq_P t σ (I, J, ri, rj, rq)) := hD0.self
  generalize hAe : pq_B t σ (I, J, ri, rj, rq) s.heap.size = A at hD ⊢
  have hA : ∀ q : Nat, s.heap.size ≤ q → A q := fun q h => by rw [← hAe]; exact Or.inr h
  have hS : va_S A s.heap s.heap [] := va_S.rf
  have hG : GM [] tg σ I ri I ri rq := ⟨hG0, fun _ _ _ => rfl, fun _ _ _ _ _ => rfl, fun _ _ _ _ _ _ => rfl⟩
  have hl := lv_entry ([.ref this, .int a0, .int 1]) (n := 3) (Nat.le_of_ble_eq_true rfl)
  rw [lg_entry_eq]
  generalize (lg_sl ([.ref this, .int a0, .int 1]) ++ List.replicate (3 - (lg_sl ([.ref this, .int a0, .int 1])).length) Slot.unset).toArray = ls at hl ⊢
  have hl : lv_has ls 3 [(0, .ref this), (1, .int a0), (2, .int 1)] := hl
  refine q_gen (fun Q hQ => ?_)
  have go : ∀ (H : Heap) (locs : List Loc) (ls : Array Slot), va_P D vwCl (pq_P t σ (I, J, ri, rj, rq)) H → va_D A (pq_P t σ (I, J, ri, rj, rq)) → va_S A s.heap H locs → lv_has ls 3 [(0, .ref this), (1, .int a0), (2, .int 1)] → W p l e ({ frames := 0, cells := 0, slots := 0, locals := 0 } : Room) s m (List.toArray ([.ref this, .int a0, .int 1] : List Value)) below meth c H locs 0 0 Q (F0 m 0 ls []) := by
    intro H locs ls hP hD hS hl
    have hO_this : this = vo σ 12 this := rfl
    have hVT : VT 12 σ tg this := vt_12 hSH hL_this hK_this
    have hFr : FR 12 tg σ this (I, J, ri, rj, rq) (I, J, ri, rj, rq) := fr_rf
    have hO_this_a : this_a = vrow σ 384 this := vo_k (c := 12) hO_this hR_this_a
    obtain ⟨F, hF0⟩ : ∃ F, F = g_X12_personAt_c1 a0 (vI 12 σ this I) (vJ 12 σ this J) (vR 12 σ this ri) (vL 12 σ this rj) (vQ 12 σ this rq) := ⟨_, rfl⟩
    have hF := hF0.trans g_X12_personAt_c1_e
    refine lv_aload_n hx hb dX12_personAt_0 rfl (lv_at hl 0 rfl) ?_
    refine pg_f (v := .ref this_a) (C := RX12) (T := TX12) (N := 31) hx hb hts (tw_i inlX12) hown hK hP hL_this hK_this (by decide +kernel) rfl 0 (by decide +kernel) (hts _ (tw_c tw_176)) (pq_hv rfl hR_this_a) dX12_personAt_1 ?_
    refine lv_sipush (v := 740) hx hb dX12_personAt_4 (by decide +kernel) ?_
    refine lv_bipush (v := 12) hx hb dX12_personAt_7 (by decide +kernel) ?_
    refine lv_iload_n hx hb dX12_personAt_9 rfl (lv_at hl 1 rfl) ?_
    refine lv_imul hx hb dX12_personAt_10 ?_
    refine lv_topi (fun x_1 ex_1 => ?_)
    replace hF := hF.trans (ap_n ex_1)
    have h_2 : rg x_1 0 468 := rg_of_eq ex_1 (rg_mul (rg_k (12 : Int32) 12 rfl) h_a0 (by decide +kernel))
    have uh_2 := h_2.1
    have vh_2 := h_2.2
    have tx_1 : (x_1).toInt = 12 * (a0).toInt := by rw [ex_1]; exact i_mul_rg (a2 := 12) (b2 := (a0).toInt) rfl rfl (rg_k (12 : Int32) 12 rfl) h_a0 (by decide +kernel)
    refine lv_iadd hx hb dX12_personAt_11 ?_
    refine lv_topi (fun x_3 ex_3 => ?_)
    replace hF := hF.trans (ap_n ex_3)
    have h_4 : rg x_3 740 1208 := rg_of_eq ex_3 (rg_add (rg_k (740 : Int32) 740 rfl) h_2 (by decide +kernel))
    have uh_4 := h_4.1
    have vh_4 := h_4.2
    have tx_3 : (x_3).toInt = 740 + (x_1).toInt := by rw [ex_3]; exact i_add_rg (a2 := 740) (b2 := (x_1).toInt) rfl rfl (rg_k (740 : Int32) 740 rfl) h_2 (by decide +kernel)
    refine lv_iload_n hx hb dX12_personAt_12 rfl (lv_at hl 2 rfl) ?_
    refine lv_iadd hx hb dX12_personAt_13 ?_
    refine lv_topi (fun x_5 ex_5 => ?_)
    replace hF := hF.trans (ap_n ex_5)
    have h_6 : rg x_5 741 1209 := rg_of_eq ex_5 (rg_add h_4 (rg_k (1 : Int32) 1 rfl) (by decide +kernel))
    have uh_6 := h_6.1
    have vh_6 := h_6.2
    have tx_5 : (x_5).toInt = (x_3).toInt + 1 := by rw [ex_5]; exact i_add_rg (a2 := (x_3).toInt) (b2 := 1) rfl rfl h_4 (rg_k (1 : Int32) 1 rfl) (by decide +kernel)
    refine pl_i hx hb hK hP hL_this_a hK_this_a hN_this_a (rg_in h_6 (by decide +kernel)) dX12_personAt_14 ?_
    refine lv_topi (fun x_7 ex_7 => ?_)
    replace hF := hF.trans (ap_n (vR_r hO_this_a (by decide +kernel) ex_7))
    subst hQ
    exact W.iret (v := x_7) hx hb hr (fun t1 ht hW => ⟨⟨x_7, (σ, I, J, ri, rj, rq), rfl, ⟨rfl, (show x_7 = ri this_a (741 + 12 * a0.toNatClampNeg) from ex_7.trans (congrArg (ri this_a) (by have z0 := clampE a0; have z1 := clampE x_5; omega))), (hF0.symm.trans hF)⟩, by rw [ht]; exact hP, va_K.moved hW.alike hK, hD⟩, hS.F ht⟩) hS.2.2 dX12_personAt_15
  exact go _ _ _ hP hD hS hl

set_option maxRecDepth 100000 in
def g_X12_personAt_c2 (a0 : Int32) (I : Nat → Int32) (J : Nat → Int64) (ri : Nat → Nat → Int32) (rj : Nat → Nat → Int64) (rq : Nat → Nat → Option Nat) : Int32 × vM := (ap1 ((12 : Int32) * a0) fun (x_1 : Int32) => (ap1 ((740 : Int32) + x_1) fun (x_3 : Int32) => (ap1 (x_3 + (2 : Int32)) fun (x_5 : Int32) => (ap1 (ri 384 (x_5).toNatClampNeg) fun (x_7 : Int32) => (x_7, I, J, ri, rj, rq)))))
set_option maxRecDepth 100000 in
theorem g_X12_personAt_c2_e {a0 : Int32} {I : Nat → Int32} {J : Nat → Int64} {ri : Nat → Nat → Int32} {rj : Nat → Nat → Int64} {rq : Nat → Nat → Option Nat} : g_X12_personAt_c2 a0 I J ri rj rq = (ap1 ((12 : Int32) * a0) fun (x_1 : Int32) => (ap1 ((740 : Int32) + x_1) fun (x_3 : Int32) => (ap1 (x_3 + (2 : Int32)) fun (x_5 : Int32) => (ap1 (ri 384 (x_5).toNatClampNeg) fun (x_7 : Int32) => (x_7, I, J, ri, rj, rq))))) := rfl
set_option maxHeartbeats 4000000 in
set_option maxRecDepth 100000 in
theorem s_X12_personAt_c2 (l : Launch) (D : va_G) (t : pq_T) (σ : pq_S) (I : Nat → Nat → Int32) (J : Nat → Nat → Int64) (ri : Nat → Nat → Int32) (rj : Nat → Nat → Int64) (rq : Nat → Nat → Option Nat) (sz : Nat) (tg : Nat → Nat) (hSH : SH σ tg) (hG0 : GT tg I ri) (this : Nat) (a0 : Int32) (hL_this : this ∈ σ.1) (hK_this : σ.2.1 this = 12) (h_a0 : rg a0 0 39) (this_a : Nat) (hR_this_a : σ.2.2.1 384 this = some this_a) (hL_this_a : this_a ∈ σ.1) (hK_this_a : σ.2.1 this_a = 13) (hN_this_a : σ.2.2.2 this_a = 12720) (hT_this_a : tg this_a = 384) : MetI l yX12_personAt (wa yX12_personAt cX12_personAt 3 (some .int)) ({ frames := 0, cells := 0, slots := 0, locals := 0 }) [.ref this, .int a0, .int 2] D t σ (I, J, ri, rj, rq) sz 0 0 (fun (r : Int32) (u : pq_S × pq_M) => u = (σ, I, J, ri, rj, rq) ∧ (r = ri this_a (742 + 12 * a0.toNatClampNeg)) ∧ g_X12_personAt_c2 a0 (vI 12 σ this I) (vJ 12 σ this J) (vR 12 σ this ri) (vL 12 σ this rj) (vQ 12 σ this rq) = (r, (vI 12 σ this I), (vJ 12 σ this J), (vR 12 σ this ri), (vL 12 σ this rj), (vQ 12 σ this rq))) := by
  refine Met.ofW (cc := cX12_personAt) (maxL := 3) (ret := (some .int)) (by decide +kernel) rfl ?_
  intro p e s m args below meth c s₁ B hml hv
  obtain ⟨rfl, hsz, hP, hK, hD0, hN⟩ := hv
  have hx := B.exec
  have hb := B.bytes
  have hr := B.returns
  have hts := atoms_spec (ws := (wa yX12_personAt cX12_personAt 3 (some .int))) B.pre
  have hown : s.vm.findClass RX12 = some m.cls := findClass_of_methodNamed B.named
  have hlocks := B.notSynchronized
  subst hsz
  have hD : va_D (pq_B t σ (I, J, ri, rj, rq) s.heap.size) (pq_P t σ (I, J, ri, rj, rq)) := hD0.self
  generalize hAe : pq_B t σ (I, J, ri, rj, rq) s.heap.size = A at hD ⊢
  have hA : ∀ q : Nat, s.heap.size ≤ q → A q := fun q h => by rw [← hAe]; exact Or.inr h
  have hS : va_S A s.heap s.heap [] := va_S.rf
  have hG : GM [] tg σ I ri I ri rq := ⟨hG0, fun _ _ _ => rfl, fun _ _ _ _ _ => rfl, fun _ _ _ _ _ _ => rfl⟩
  have hl := lv_entry ([.ref this, .int a0, .int 2]) (n := 3) (Nat.le_of_ble_eq_true rfl)
  rw [lg_entry_eq]
  generalize (lg_sl ([.ref this, .int a0, .int 2]) ++ List.replicate (3 - (lg_sl ([.ref this, .int a0, .int 2])).length) Slot.unset).toArray = ls at hl ⊢
  have hl : lv_has ls 3 [(0, .ref this), (1, .int a0), (2, .int 2)] := hl
  refine q_gen (fun Q hQ => ?_)
  have go : ∀ (H : Heap) (locs : List Loc) (ls : Array Slot), va_P D vwCl (pq_P t σ (I, J, ri, rj, rq)) H → va_D A (pq_P t σ (I, J, ri, rj, rq)) → va_S A s.heap H locs → lv_has ls 3 [(0, .ref this), (1, .int a0), (2, .int 2)] → W p l e ({ frames := 0, cells := 0, slots := 0, locals := 0 } : Room) s m (List.toArray ([.ref this, .int a0, .int 2] : List Value)) below meth c H locs 0 0 Q (F0 m 0 ls []) := by
    intro H locs ls hP hD hS hl
    have hO_this : this = vo σ 12 this := rfl
    have hVT : VT 12 σ tg this := vt_12 hSH hL_this hK_this
    have hFr : FR 12 tg σ this (I, J, ri, rj, rq) (I, J, ri, rj, rq) := fr_rf
    have hO_this_a : this_a = vrow σ 384 this := vo_k (c := 12) hO_this hR_this_a
    obtain ⟨F, hF0⟩ : ∃ F, F = g_X12_personAt_c2 a0 (vI 12 σ this I) (vJ 12 σ this J) (vR 12 σ this ri) (vL 12 σ this rj) (vQ 12 σ this rq) := ⟨_, rfl⟩
    have hF := hF0.trans g_X12_personAt_c2_e
    refine lv_aload_n hx hb dX12_personAt_0 rfl (lv_at hl 0 rfl) ?_
    refine pg_f (v := .ref this_a) (C := RX12) (T := TX12) (N := 31) hx hb hts (tw_i inlX12) hown hK hP hL_this hK_this (by decide +kernel) rfl 0 (by decide +kernel) (hts _ (tw_c tw_176)) (pq_hv rfl hR_this_a) dX12_personAt_1 ?_
    refine lv_sipush (v := 740) hx hb dX12_personAt_4 (by decide +kernel) ?_
    refine lv_bipush (v := 12) hx hb dX12_personAt_7 (by decide +kernel) ?_
    refine lv_iload_n hx hb dX12_personAt_9 rfl (lv_at hl 1 rfl) ?_
    refine lv_imul hx hb dX12_personAt_10 ?_
    refine lv_topi (fun x_1 ex_1 => ?_)
    replace hF := hF.trans (ap_n ex_1)
    have h_2 : rg x_1 0 468 := rg_of_eq ex_1 (rg_mul (rg_k (12 : Int32) 12 rfl) h_a0 (by decide +kernel))
    have uh_2 := h_2.1
    have vh_2 := h_2.2
    have tx_1 : (x_1).toInt = 12 * (a0).toInt := by rw [ex_1]; exact i_mul_rg (a2 := 12) (b2 := (a0).toInt) rfl rfl (rg_k (12 : Int32) 12 rfl) h_a0 (by decide +kernel)
    refine lv_iadd hx hb dX12_personAt_11 ?_
    refine lv_topi (fun x_3 ex_3 => ?_)
    replace hF := hF.trans (ap_n ex_3)
    have h_4 : rg x_3 740 1208 := rg_of_eq ex_3 (rg_add (rg_k (740 : Int32) 740 rfl) h_2 (by decide +kernel))
    have uh_4 := h_4.1
    have vh_4 := h_4.2
    have tx_3 : (x_3).toInt = 740 + (x_1).toInt := by rw [ex_3]; exact i_add_rg (a2 := 740) (b2 := (x_1).toInt) rfl rfl (rg_k (740 : Int32) 740 rfl) h_2 (by decide +kernel)
    refine lv_iload_n hx hb dX12_personAt_12 rfl (lv_at hl 2 rfl) ?_
    refine lv_iadd hx hb dX12_personAt_13 ?_
    refine lv_topi (fun x_5 ex_5 => ?_)
    replace hF := hF.trans (ap_n ex_5)
    have h_6 : rg x_5 742 1210 := rg_of_eq ex_5 (rg_add h_4 (rg_k (2 : Int32) 2 rfl) (by decide +kernel))
    have uh_6 := h_6.1
    have vh_6 := h_6.2
    have tx_5 : (x_5).toInt = (x_3).toInt + 2 := by rw [ex_5]; exact i_add_rg (a2 := (x_3).toInt) (b2 := 2) rfl rfl h_4 (rg_k (2 : Int32) 2 rfl) (by decide +kernel)
    refine pl_i hx hb hK hP hL_this_a hK_this_a hN_this_a (rg_in h_6 (by decide +kernel)) dX12_personAt_14 ?_
    refine lv_topi (fun x_7 ex_7 => ?_)
    replace hF := hF.trans (ap_n (vR_r hO_this_a (by decide +kernel) ex_7))
    subst hQ
    exact W.iret (v := x_7) hx hb hr (fun t1 ht hW => ⟨⟨x_7, (σ, I, J, ri, rj, rq), rfl, ⟨rfl, (show x_7 = ri this_a (742 + 12 * a0.toNatClampNeg) from ex_7.trans (congrArg (ri this_a) (by have z0 := clampE a0; have z1 := clampE x_5; omega))), (hF0.symm.trans hF)⟩, by rw [ht]; exact hP, va_K.moved hW.alike hK, hD⟩, hS.F ht⟩) hS.2.2 dX12_personAt_15
  exact go _ _ _ hP hD hS hl

set_option maxRecDepth 100000 in
def g_X12_named (a0 : Int32) (a1 : Int32) (a2 : Int32) (a3 : Int32) (I : Nat → Int32) (J : Nat → Int64) (ri : Nat → Nat → Int32) (rj : Nat → Nat → Int64) (rq : Nat → Nat → Option Nat) : Int32 × vM := (if a1 = (0 : Int32) then (bnI (g_X12_personAt_c1 a0 I J ri rj rq) fun (x_7 : Int32) (_ : Nat → Int32) (_ : Nat → Int64) (_ : Nat → Nat → Int32) (_ : Nat → Nat → Int64) (_ : Nat → Nat → Option Nat) => (x_7, I, J, ri, rj, rq)) else (if a1 = (1 : Int32) then (bnI (g_X12_personAt_c0 a0 I J ri rj rq) fun (x_21 : Int32) (_ : Nat → Int32) (_ : Nat → Int64) (_ : Nat → Nat → Int32) (_ : Nat → Nat → Int64) (_ : Nat → Nat → Option Nat) => (x_21, I, J, ri, rj, rq)) else (if a1 = (2 : Int32) then (bnI (g_X12_personAt_c2 a0 I J ri rj rq) fun (x_35 : Int32) (_ : Nat → Int32) (_ : Nat → Int64) (_ : Nat → Nat → Int32) (_ : Nat → Nat → Int64) (_ : Nat → Nat → Option Nat) => (x_35, I, J, ri, rj, rq)) else (if a1 = (3 : Int32) then (bnI (g_X12_personAt_c3 a0 I J ri rj rq) fun (x_49 : Int32) (_ : Nat → Int32) (_ : Nat → Int64) (_ : Nat → Nat → Int32) (_ : Nat → Nat → Int64) (_ : Nat → Nat → Option Nat) => (x_49, I, J, ri, rj, rq)) else (if a1 = (4 : Int32) then (a2, I, J, ri, rj, rq) else (a3, I, J, ri, rj, rq))))))
set_option maxRecDepth 100000 in
theorem g_X12_named_e {a0 : Int32} {a1 : Int32} {a2 : Int32} {a3 : Int32} {I : Nat → Int32} {J : Nat → Int64} {ri : Nat → Nat → Int32} {rj : Nat → Nat → Int64} {rq : Nat → Nat → Option Nat} : g_X12_named a0 a1 a2 a3 I J ri rj rq = (if a1 = (0 : Int32) then (bnI (g_X12_personAt_c1 a0 I J ri rj rq) fun (x_7 : Int32) (_ : Nat → Int32) (_ : Nat → Int64) (_ : Nat → Nat → Int32) (_ : Nat → Nat → Int64) (_ : Nat → Nat → Option Nat) => (x_7, I, J, ri, rj, rq)) else (if a1 = (1 : Int32) then (bnI (g_X12_personAt_c0 a0 I J ri rj rq) fun (x_21 : Int32) (_ : Nat → Int32) (_ : Nat → Int64) (_ : Nat → Nat → Int32) (_ : Nat → Nat → Int64) (_ : Nat → Nat → Option Nat) => (x_21, I, J, ri, rj, rq)) else (if a1 = (2 : Int32) then (bnI (g_X12_personAt_c2 a0 I J ri rj rq) fun (x_35 : Int32) (_ : Nat → Int32) (_ : Nat → Int64) (_ : Nat → Nat → Int32) (_ : Nat → Nat → Int64) (_ : Nat → Nat → Option Nat) => (x_35, I, J, ri, rj, rq)) else (if a1 = (3 : Int32) then (bnI (g_X12_personAt_c3 a0 I J ri rj rq) fun (x_49 : Int32) (_ : Nat → Int32) (_ : Nat → Int64) (_ : Nat → Nat → Int32) (_ : Nat → Nat → Int64) (_ : Nat → Nat → Option Nat) => (x_49, I, J, ri, rj, rq)) else (if a1 = (4 : Int32) then (a2, I, J, ri, rj, rq) else (a3, I, J, ri, rj, rq)))))) := rfl
set_option maxHeartbeats 4000000 in
set_option maxRecDepth 100000 in
theorem s_X12_named (l : Launch) (D : va_G) (t : pq_T) (σ : pq_S) (I : Nat → Nat → Int32) (J : Nat → Nat → Int64) (ri : Nat → Nat → Int32) (rj : Nat → Nat → Int64) (rq : Nat → Nat → Option Nat) (sz : Nat) (tg : Nat → Nat) (hSH : SH σ tg) (hG0 : GT tg I ri) (this : Nat) (a0 : Int32) (a1 : Int32) (a2 : Int32) (a3 : Int32) (hL_this : this ∈ σ.1) (hK_this : σ.2.1 this = 12) (h_a0 : rg a0 0 39) : MetI l yX12_named (wa yX12_named cX12_named 5 (some .int)) ({ frames := 1, cells := 0, slots := 0, locals := 22 }) [.ref this, .int a0, .int a1, .int a2, .int a3] D t σ (I, J, ri, rj, rq) sz 0 0 (fun (r : Int32) (u : pq_S × pq_M) => u = (σ, I, J, ri, rj, rq) ∧ g_X12_named a0 a1 a2 a3 (vI 12 σ this I) (vJ 12 σ this J) (vR 12 σ this ri) (vL 12 σ this rj) (vQ 12 σ this rq) = (r, (vI 12 σ this I), (vJ 12 σ this J), (vR 12 σ this ri), (vL 12 σ this rj), (vQ 12 σ this rq))) := by
  refine Met.ofW (cc := cX12_named) (maxL := 5) (ret := (some .int)) (by decide +kernel) rfl ?_
  intro p e s m args below meth c s₁ B hml hv
  obtain ⟨rfl, hsz, hP, hK, hD0, hN⟩ := hv
  have hx := B.exec
  have hb := B.bytes
  have hr := B.returns
  have hts := atoms_spec (ws := (wa yX12_named cX12_named 5 (some .int))) B.pre
  have hown : s.vm.findClass RX12 = some m.cls := findClass_of_methodNamed B.named
  have hlocks := B.notSynchronized
  subst hsz
  have hD : va_D (pq_B t σ (I, J, ri, rj, rq) s.heap.size) (pq_P t σ (I, J, ri, rj, rq)) := hD0.self
  generalize hAe : pq_B t σ (I, J, ri, rj, rq) s.heap.size = A at hD ⊢
  have hA : ∀ q : Nat, s.heap.size ≤ q → A q := fun q h => by rw [← hAe]; exact Or.inr h
  have hS : va_S A s.heap s.heap [] := va_S.rf
  have hG : GM [] tg σ I ri I ri rq := ⟨hG0, fun _ _ _ => rfl, fun _ _ _ _ _ => rfl, fun _ _ _ _ _ _ => rfl⟩
  have hl := lv_entry ([.ref this, .int a0, .int a1, .int a2, .int a3]) (n := 5) (Nat.le_of_ble_eq_true rfl)
  rw [lg_entry_eq]
  generalize (lg_sl ([.ref this, .int a0, .int a1, .int a2, .int a3]) ++ List.replicate (5 - (lg_sl ([.ref this, .int a0, .int a1, .int a2, .int a3])).length) Slot.unset).toArray = ls at hl ⊢
  have hl : lv_has ls 5 [(0, .ref this), (1, .int a0), (2, .int a1), (3, .int a2), (4, .int a3)] := hl
  refine q_gen (fun Q hQ => ?_)
  have go : ∀ (H : Heap) (locs : List Loc) (ls : Array Slot), va_P D vwCl (pq_P t σ (I, J, ri, rj, rq)) H → va_D A (pq_P t σ (I, J, ri, rj, rq)) → va_S A s.heap H locs → lv_has ls 5 [(0, .ref this), (1, .int a0), (2, .int a1), (3, .int a2), (4, .int a3)] → W p l e ({ frames := 1, cells := 0, slots := 0, locals := 22 } : Room) s m (List.toArray ([.ref this, .int a0, .int a1, .int a2, .int a3] : List Value)) below meth c H locs 0 0 Q (F0 m 0 ls []) := by
    intro H locs ls hP hD hS hl
    have hO_this : this = vo σ 12 this := rfl
    have hVT : VT 12 σ tg this := vt_12 hSH hL_this hK_this
    have hFr : FR 12 tg σ this (I, J, ri, rj, rq) (I, J, ri, rj, rq) := fr_rf
    obtain ⟨F, hF0⟩ : ∃ F, F = g_X12_named a0 a1 a2 a3 (vI 12 σ this I) (vJ 12 σ this J) (vR 12 σ this ri) (vL 12 σ this rj) (vQ 12 σ this rq) := ⟨_, rfl⟩
    have hF := hF0.trans g_X12_named_e
    refine lv_iload_n hx hb dX12_named_0 rfl (lv_at hl 2 rfl) ?_
    by_cases k_1 : a1 = (0 : Int32)
    · replace hF := hF.trans (if_pos k_1)
      have tc_4 : (a1).toInt = 0 := congrArg Int32.toInt k_1
      have h_5 : rg a1 0 0 := rg_and (rg_full _) (rg_of_eq k_1 (rg_k (0 : Int32) 0 rfl)) (by decide +kernel)
      have uh_5 := h_5.1
      have vh_5 := h_5.2
      refine lv_tov 0 k_1 ?_
      refine lv_tableIn (tgt := 36) hx hb dX12_named_1 (by decide +kernel) (by decide +kernel) rfl (by decide +kernel) ?_
      refine lv_aload_n hx hb dX12_named_36 rfl (lv_at hl 0 rfl) ?_
      refine lv_iload_n hx hb dX12_named_37 rfl (lv_at hl 1 rfl) ?_
      refine lv_iconst (v := 1) hx hb dX12_named_38 (by decide +kernel) ?_
      obtain ⟨w_6, hR_w_6, hL_w_6, hK_w_6, hN_w_6, hT_w_6⟩ := sh_a hSH 384 (ci := 12) (kd := 13) (len := 12720) rfl (by decide +kernel) hL_this hK_this
      have hO_w_6 : w_6 = vrow σ 384 this := vo_k (c := 12) hO_this hR_w_6
      refine pk_i (va_runV (As := [.int a0, .int 1]) (rest := []) ⟨hx, hb, hml, hown, hts⟩ (s_X12_personAt_c1 l D t σ I J ri rj rq H.size tg hSH hG.1 this a0 hL_this hK_this (rg_w h_a0 (by decide +kernel)) w_6 hR_w_6 hL_w_6 hK_w_6 hN_w_6 hT_w_6) (cwV 2 hts (tw_V tw_437 tw_438 tw_439 tw_5 tw_440) rfl rfl rfl cv_yX12_personAt_2 ⟨Nat.le_of_ble_eq_true rfl, Nat.le_of_ble_eq_true rfl⟩) ⟨pq_blind, pq_recv hK hP hL_this hK_this (by decide +kernel) rfl, pq_pre hK hN hP hD⟩ rfl rfl hl.1 rfl (lv_room (Nat.le_of_ble_eq_true rfl)) dX12_named_39 ⟨Nat.le_of_ble_eq_true rfl, Nat.le_of_ble_eq_true rfl⟩) hD hS hA (fun x_7 σ1 μ1 H locs hw_8 hP hD hS => ?_)
      obtain ⟨hu_9, hp_12, hfn_13⟩ := hw_8
      obtain ⟨hu_9a, hu_9b⟩ := Prod.mk.inj hu_9
      rw [hu_9a, hu_9b] at hP hD
      replace hF := hF.trans (bn_n hfn_13)
      subst hQ
      exact W.iret (v := x_7) hx hb hr (fun t1 ht hW => ⟨⟨x_7, (σ, I, J, ri, rj, rq), rfl, ⟨rfl, (hF0.symm.trans hF)⟩, by rw [ht]; exact hP, va_K.moved hW.alike hK, hD⟩, hS.F ht⟩) hS.2.2 dX12_named_42
    replace hF := hF.trans (if_neg k_1)
    by_cases k_15 : a1 = (1 : Int32)
    · replace hF := hF.trans (if_pos k_15)
      have tc_18 : (a1).toInt = 1 := congrArg Int32.toInt k_15
      have h_19 : rg a1 1 1 := rg_and (rg_full _) (rg_of_eq k_15 (rg_k (1 : Int32) 1 rfl)) (by decide +kernel)
      have uh_19 := h_19.1
      have vh_19 := h_19.2
      refine lv_tov 1 k_15 ?_
      refine lv_tableIn (tgt := 43) hx hb dX12_named_1 (by decide +kernel) (by decide +kernel) rfl (by decide +kernel) ?_
      refine lv_aload_n hx hb dX12_named_43 rfl (lv_at hl 0 rfl) ?_
      refine lv_iload_n hx hb dX12_named_44 rfl (lv_at hl 1 rfl) ?_
      refine lv_iconst (v := 0) hx hb dX12_named_45 (by decide +kernel) ?_
      obtain ⟨w_20, hR_w_20, hL_w_20, hK_w_20, hN_w_20, hT_w_20⟩ := sh_a hSH 384 (ci := 12) (kd := 13) (len := 12720) rfl (by decide +kernel) hL_this hK_this
      have hO_w_20 : w_20 = vrow σ 384 this := vo_k (c := 12) hO_this hR_w_20
      refine pk_i (va_runV (As := [.int a0, .int 0]) (rest := []) ⟨hx, hb, hml, hown, hts⟩ (s_X12_personAt_c0 l D t σ I J ri rj rq H.size tg hSH hG.1 this a0 hL_this hK_this (rg_w h_a0 (by decide +kernel)) w_20 hR_w_20 hL_w_20 hK_w_20 hN_w_20 hT_w_20) (cwV 2 hts (tw_V tw_437 tw_438 tw_439 tw_5 tw_440) rfl rfl rfl cv_yX12_personAt_2 ⟨Nat.le_of_ble_eq_true rfl, Nat.le_of_ble_eq_true rfl⟩) ⟨pq_blind, pq_recv hK hP hL_this hK_this (by decide +kernel) rfl, pq_pre hK hN hP hD⟩ rfl rfl hl.1 rfl (lv_room (Nat.le_of_ble_eq_true rfl)) dX12_named_46 ⟨Nat.le_of_ble_eq_true rfl, Nat.le_of_ble_eq_true rfl⟩) hD hS hA (fun x_21 σ1 μ1 H locs hw_22 hP hD hS => ?_)
      obtain ⟨hu_23, hp_26, hfn_27⟩ := hw_22
      obtain ⟨hu_23a, hu_23b⟩ := Prod.mk.inj hu_23
      rw [hu_23a, hu_23b] at hP hD
      replace hF := hF.trans (bn_n hfn_27)
      subst hQ
      exact W.iret (v := x_21) hx hb hr (fun t1 ht hW => ⟨⟨x_21, (σ, I, J, ri, rj, rq), rfl, ⟨rfl, (hF0.symm.trans hF)⟩, by rw [ht]; exact hP, va_K.moved hW.alike hK, hD⟩, hS.F ht⟩) hS.2.2 dX12_named_49
    replace hF := hF.trans (if_neg k_15)
    by_cases k_29 : a1 = (2 : Int32)
    · replace hF := hF.trans (if_pos k_29)
      have tc_32 : (a1).toInt = 2 := congrArg Int32.toInt k_29
      have h_33 : rg a1 2 2 := rg_and (rg_full _) (rg_of_eq k_29 (rg_k (2 : Int32) 2 rfl)) (by decide +kernel)
      have uh_33 := h_33.1
      have vh_33 := h_33.2
      refine lv_tov 2 k_29 ?_
      refine lv_tableIn (tgt := 50) hx hb dX12_named_1 (by decide +kernel) (by decide +kernel) rfl (by decide +kernel) ?_
      refine lv_aload_n hx hb dX12_named_50 rfl (lv_at hl 0 rfl) ?_
      refine lv_iload_n hx hb dX12_named_51 rfl (lv_at hl 1 rfl) ?_
      refine lv_iconst (v := 2) hx hb dX12_named_52 (by decide +kernel) ?_
      obtain ⟨w_34, hR_w_34, hL_w_34, hK_w_34, hN_w_34, hT_w_34⟩ := sh_a hSH 384 (ci := 12) (kd := 13) (len := 12720) rfl (by decide +kernel) hL_this hK_this
      have hO_w_34 : w_34 = vrow σ 384 this := vo_k (c := 12) hO_this hR_w_34
      refine pk_i (va_runV (As := [.int a0, .int 2]) (rest := []) ⟨hx, hb, hml, hown, hts⟩ (s_X12_personAt_c2 l D t σ I J ri rj rq H.size tg hSH hG.1 this a0 hL_this hK_this (rg_w h_a0 (by decide +kernel)) w_34 hR_w_34 hL_w_34 hK_w_34 hN_w_34 hT_w_34) (cwV 2 hts (tw_V tw_437 tw_438 tw_439 tw_5 tw_440) rfl rfl rfl cv_yX12_personAt_2 ⟨Nat.le_of_ble_eq_true rfl, Nat.le_of_ble_eq_true rfl⟩) ⟨pq_blind, pq_recv hK hP hL_this hK_this (by decide +kernel) rfl, pq_pre hK hN hP hD⟩ rfl rfl hl.1 rfl (lv_room (Nat.le_of_ble_eq_true rfl)) dX12_named_53 ⟨Nat.le_of_ble_eq_true rfl, Nat.le_of_ble_eq_true rfl⟩) hD hS hA (fun x_35 σ1 μ1 H locs hw_36 hP hD hS => ?_)
      obtain ⟨hu_37, hp_40, hfn_41⟩ := hw_36
      obtain ⟨hu_37a, hu_37b⟩ := Prod.mk.inj hu_37
      rw [hu_37a, hu_37b] at hP hD
      replace hF := hF.trans (bn_n hfn_41)
      subst hQ
      exact W.iret (v := x_35) hx hb hr (fun t1 ht hW => ⟨⟨x_35, (σ, I, J, ri, rj, rq), rfl, ⟨rfl, (hF0.symm.trans hF)⟩, by rw [ht]; exact hP, va_K.moved hW.alike hK, hD⟩, hS.F ht⟩) hS.2.2 dX12_named_56
    replace hF := hF.trans (if_neg k_29)
    by_cases k_43 : a1 = (3 : Int32)
    · replace hF := hF.trans (if_pos k_43)
      have tc_46 : (a1).toInt = 3 := congrArg Int32.toInt k_43
      have h_47 : rg a1 3 3 := rg_and (rg_full _) (rg_of_eq k_43 (rg_k (3 : Int32) 3 rfl)) (by decide +kernel)
      have uh_47 := h_47.1
      have vh_47 := h_47.2
      refine lv_tov 3 k_43 ?_
      refine lv_tableIn (tgt := 57) hx hb dX12_named_1 (by decide +kernel) (by decide +kernel) rfl (by decide +kernel) ?_
      refine lv_aload_n hx hb dX12_named_57 rfl (lv_at hl 0 rfl) ?_
      refine lv_iload_n hx hb dX12_named_58 rfl (lv_at hl 1 rfl) ?_
      refine lv_iconst (v := 3) hx hb dX12_named_59 (by decide +kernel) ?_
      obtain ⟨w_48, hR_w_48, hL_w_48, hK_w_48, hN_w_48, hT_w_48⟩ := sh_a hSH 384 (ci := 12) (kd := 13) (len := 12720) rfl (by decide +kernel) hL_this hK_this
      have hO_w_48 : w_48 = vrow σ 384 this := vo_k (c := 12) hO_this hR_w_48
      refine pk_i (va_runV (As := [.int a0, .int 3]) (rest := []) ⟨hx, hb, hml, hown, hts⟩ (s_X12_personAt_c3 l D t σ I J ri rj rq H.size tg hSH hG.1 this a0 hL_this hK_this (rg_w h_a0 (by decide +kernel)) w_48 hR_w_48 hL_w_48 hK_w_48 hN_w_48 hT_w_48) (cwV 2 hts (tw_V tw_437 tw_438 tw_439 tw_5 tw_440) rfl rfl rfl cv_yX12_personAt_2 ⟨Nat.le_of_ble_eq_true rfl, Nat.le_of_ble_eq_true rfl⟩) ⟨pq_blind, pq_recv hK hP hL_this hK_this (by decide +kernel) rfl, pq_pre hK hN hP hD⟩ rfl rfl hl.1 rfl (lv_room (Nat.le_of_ble_eq_true rfl)) dX12_named_60 ⟨Nat.le_of_ble_eq_true rfl, Nat.le_of_ble_eq_true rfl⟩) hD hS hA (fun x_49 σ1 μ1 H locs hw_50 hP hD hS => ?_)
      obtain ⟨hu_51, hp_54, hp_55, hfn_56, hr_53⟩ := hw_50
      obtain ⟨hu_51a, hu_51b⟩ := Prod.mk.inj hu_51
      rw [hu_51a, hu_51b] at hP hD
      replace hF := hF.trans (bn_n hfn_56)
      have tt_58 := hp_55
      subst hQ
      exact W.iret (v := x_49) hx hb hr (fun t1 ht hW => ⟨⟨x_49, (σ, I, J, ri, rj, rq), rfl, ⟨rfl, (hF0.symm.trans hF)⟩, by rw [ht]; exact hP, va_K.moved hW.alike hK, hD⟩, hS.F ht⟩) hS.2.2 dX12_named_63
    replace hF := hF.trans (if_neg k_43)
    by_cases k_59 : a1 = (4 : Int32)
    · replace hF := hF.trans (if_pos k_59)
      have tc_62 : (a1).toInt = 4 := congrArg Int32.toInt k_59
      have h_63 : rg a1 4 4 := rg_and (rg_full _) (rg_of_eq k_59 (rg_k (4 : Int32) 4 rfl)) (by decide +kernel)
      have uh_63 := h_63.1
      have vh_63 := h_63.2
      refine lv_tov 4 k_59 ?_
      refine lv_tableIn (tgt := 64) hx hb dX12_named_1 (by decide +kernel) (by decide +kernel) rfl (by decide +kernel) ?_
      refine lv_iload_n hx hb dX12_named_64 rfl (lv_at hl 3 rfl) ?_
      subst hQ
      exact W.iret (v := a2) hx hb hr (fun t1 ht hW => ⟨⟨a2, (σ, I, J, ri, rj, rq), rfl, ⟨rfl, (hF0.symm.trans hF)⟩, by rw [ht]; exact hP, va_K.moved hW.alike hK, hD⟩, hS.F ht⟩) hS.2.2 dX12_named_65
    replace hF := hF.trans (if_neg k_59)
    refine lv_tableOut (tgt := 66) hx hb dX12_named_1 (by have z_k_1 := sw_ne k_1 (n := 0) rfl; have z_k_15 := sw_ne k_15 (n := 1) rfl; have z_k_29 := sw_ne k_29 (n := 2) rfl; have z_k_43 := sw_ne k_43 (n := 3) rfl; have z_k_59 := sw_ne k_59 (n := 4) rfl; omega) (by decide +kernel) ?_
    refine lv_iload hx hb dX12_named_66 (lv_at hl 4 rfl) ?_
    subst hQ
    exact W.iret (v := a3) hx hb hr (fun t1 ht hW => ⟨⟨a3, (σ, I, J, ri, rj, rq), rfl, ⟨rfl, (hF0.symm.trans hF)⟩, by rw [ht]; exact hP, va_K.moved hW.alike hK, hD⟩, hS.F ht⟩) hS.2.2 dX12_named_68
  exact go _ _ _ hP hD hS hl

set_option maxRecDepth 100000 in
def g_X12_isAhead_K102 (I : Nat → Int32) (J : Nat → Int64) (ri : Nat → Nat → Int32) (rj : Nat → Nat → Int64) (rq : Nat → Nat → Option Nat) : Int32 × vM := ((1 : Int32), I, J, ri, rj, rq)
set_option maxRecDepth 100000 in
theorem g_X12_isAhead_K102_e {I : Nat → Int32} {J : Nat → Int64} {ri : Nat → Nat → Int32} {rj : Nat → Nat → Int64} {rq : Nat → Nat → Option Nat} : g_X12_isAhead_K102 I J ri rj rq  = ((1 : Int32), I, J, ri, rj, rq) := rfl
set_option maxRecDepth 100000 in
def g_X12_isAhead_K102_2 (I : Nat → Int32) (J : Nat → Int64) (ri : Nat → Nat → Int32) (rj : Nat → Nat → Int64) (rq : Nat → Nat → Option Nat) : Int32 × vM := ((0 : Int32), I, J, ri, rj, rq)
set_option maxRecDepth 100000 in
theorem g_X12_isAhead_K102_2_e {I : Nat → Int32} {J : Nat → Int64} {ri : Nat → Nat → Int32} {rj : Nat → Nat → Int64} {rq : Nat → Nat → Option Nat} : g_X12_isAhead_K102_2 I J ri rj rq  = ((0 : Int32), I, J, ri, rj, rq) := rfl
set_option maxRecDepth 100000 in
def g_X12_isAhead_K92 (I : Nat → Int32) (J : Nat → Int64) (ri : Nat → Nat → Int32) (rj : Nat → Nat → Int64) (rq : Nat → Nat → Option Nat) (x_1302 : Int32) : Int32 × vM := (if x_1302 < (0 : Int32) then (g_X12_isAhead_K102 I J ri rj rq ) else (g_X12_isAhead_K102_2 I J ri rj rq ))
set_option maxRecDepth 100000 in
theorem g_X12_isAhead_K92_e {I : Nat → Int32} {J : Nat → Int64} {ri : Nat → Nat → Int32} {rj : Nat → Nat → Int64} {rq : Nat → Nat → Option Nat} {x_1302 : Int32} : g_X12_isAhead_K92 I J ri rj rq x_1302  = (if x_1302 < (0 : Int32) then (g_X12_isAhead_K102 I J ri rj rq ) else (g_X12_isAhead_K102_2 I J ri rj rq )) := rfl
set_option maxRecDepth 100000 in
def g_X12_isAhead_K102_3 (I : Nat → Int32) (J : Nat → Int64) (ri : Nat → Nat → Int32) (rj : Nat → Nat → Int64) (rq : Nat → Nat → Option Nat) : Int32 × vM := ((0 : Int32), I, J, ri, rj, rq)
set_option maxRecDepth 100000 in
theorem g_X12_isAhead_K102_3_e {I : Nat → Int32} {J : Nat → Int64} {ri : Nat → Nat → Int32} {rj : Nat → Nat → Int64} {rq : Nat → Nat → Option Nat} : g_X12_isAhead_K102_3 I J ri rj rq  = ((0 : Int32), I, J, ri, rj, rq) := rfl
set_option maxRecDepth 100000 in
def g_X12_isAhead_K102_4 (I : Nat → Int32) (J : Nat → Int64) (ri : Nat → Nat → Int32) (rj : Nat → Nat → Int64) (rq : Nat → Nat → Option Nat) : Int32 × vM := ((1 : Int32), I, J, ri, rj, rq)
set_option maxRecDepth 100000 in
theorem g_X12_isAhead_K102_4_e {I : Nat → Int32} {J : Nat → Int64} {ri : Nat → Nat → Int32} {rj : Nat → Nat → Int64} {rq : Nat → Nat → Option Nat} : g_X12_isAhead_K102_4 I J ri rj rq  = ((1 : Int32), I, J, ri, rj, rq) := rfl
set_option maxRecDepth 100000 in
def g_X12_isAhead_K92_2 (I : Nat → Int32) (J : Nat → Int64) (ri : Nat → Nat → Int32) (rj : Nat → Nat → Int64) (rq : Nat → Nat → Option Nat) (x_1302 : Int32) : Int32 × vM := (if x_1302 < (0 : Int32) then (g_X12_isAhead_K102_3 I J ri rj rq ) else (g_X12_isAhead_K102_4 I J ri rj rq ))
set_option maxRecDepth 100000 in
theorem g_X12_isAhead_K92_2_e {I : Nat → Int32} {J : Nat → Int64} {ri : Nat → Nat → Int32} {rj : Nat → Nat → Int64} {rq : Nat → Nat → Option Nat} {x_1302 : Int32} : g_X12_isAhead_K92_2 I J ri rj rq x_1302  = (if x_1302 < (0 : Int32) then (g_X12_isAhead_K102_3 I J ri rj rq ) else (g_X12_isAhead_K102_4 I J ri rj rq )) := rfl
set_option maxRecDepth 100000 in
def g_X12_isAhead_K49 (a0 : Int32) (a1 : Int32) (a2 : Int32) (I : Nat → Int32) (J : Nat → Int64) (ri : Nat → Nat → Int32) (rj : Nat → Nat → Int64) (rq : Nat → Nat → Option Nat) (x_1206 : Int32) (k_g_X12_isAhead_L3 : (Int32) → Int32 × vM) (x_1302 : Int32) (x_1310 : Int32) : Int32 × vM := (bnI (g_X12_named a0 x_1310 a2 (0 : Int32) I J ri rj rq) fun (x_1359 : Int32) (_ : Nat → Int32) (_ : Nat → Int64) (_ : Nat → Nat → Int32) (_ : Nat → Nat → Int64) (_ : Nat → Nat → Option Nat) => (bnI (g_X12_named a1 x_1310 a2 (0 : Int32) I J ri rj rq) fun (x_1366 : Int32) (_ : Nat → Int32) (_ : Nat → Int64) (_ : Nat → Nat → Int32) (_ : Nat → Nat → Int64) (_ : Nat → Nat → Option Nat) => (if x_1359 = x_1366 then (ap1 (x_1206 + Int32.ofInt 1) fun (x_1377 : Int32) => (k_g_X12_isAhead_L3 x_1377)) else (if x_1366 ≤ x_1359 then (g_X12_isAhead_K92 I J ri rj rq x_1302 ) else (g_X12_isAhead_K92_2 I J ri rj rq x_1302 )))))
set_option maxRecDepth 100000 in
theorem g_X12_isAhead_K49_e {a0 : Int32} {a1 : Int32} {a2 : Int32} {I : Nat → Int32} {J : Nat → Int64} {ri : Nat → Nat → Int32} {rj : Nat → Nat → Int64} {rq : Nat → Nat → Option Nat} {x_1206 : Int32} {k_g_X12_isAhead_L3 : (Int32) → Int32 × vM} {x_1302 : Int32} {x_1310 : Int32} : g_X12_isAhead_K49 a0 a1 a2 I J ri rj rq x_1206 k_g_X12_isAhead_L3 x_1302 x_1310 = (bnI (g_X12_named a0 x_1310 a2 (0 : Int32) I J ri rj rq) fun (x_1359 : Int32) (_ : Nat → Int32) (_ : Nat → Int64) (_ : Nat → Nat → Int32) (_ : Nat → Nat → Int64) (_ : Nat → Nat → Option Nat) => (bnI (g_X12_named a1 x_1310 a2 (0 : Int32) I J ri rj rq) fun (x_1366 : Int32) (_ : Nat → Int32) (_ : Nat → Int64) (_ : Nat → Nat → Int32) (_ : Nat → Nat → Int64) (_ : Nat → Nat → Option Nat) => (if x_1359 = x_1366 then (ap1 (x_1206 + Int32.ofInt 1) fun (x_1377 : Int32) => (k_g_X12_isAhead_L3 x_1377)) else (if x_1366 ≤ x_1359 then (g_X12_isAhead_K92 I J ri rj rq x_1302 ) else (g_X12_isAhead_K92_2 I J ri rj rq x_1302 ))))) := rfl
set_option maxRecDepth 100000 in
def g_X12_isAhead_L3 (a0 : Int32) (a1 : Int32) (a2 : Int32) (I : Nat → Int32) (J : Nat → Int64) (ri : Nat → Nat → Int32) (rj : Nat → Nat → Int64) (rq : Nat → Nat → Option Nat) : Nat → (Int32) → Int32 × vM
  | 0, x_1206 => ((0 : Int32), I, J, ri, rj, rq)
  | n_1278 + 1, x_1206 => (ap1 (I 406) fun (y_1284 : Int32) => (ap1 ((y_1284) + (4 : Int32)) fun (x_1285 : Int32) => (ap1 (ri 384 (x_1285).toNatClampNeg) fun (x_1287 : Int32) => (if x_1287 ≤ x_1206 then ((0 : Int32), I, J, ri, rj, rq) else (ap1 ((y_1284) + (5 : Int32)) fun (x_1298 : Int32) => (ap1 (x_1298 + x_1206) fun (x_1300 : Int32) => (ap1 (ri 384 (x_1300).toNatClampNeg) fun (x_1302 : Int32) => (if (0 : Int32) ≤ x_1302 then (g_X12_isAhead_K49 a0 a1 a2 I J ri rj rq x_1206 (g_X12_isAhead_L3 a0 a1 a2 I J ri rj rq n_1278) x_1302 x_1302) else (ap1 ((-1 : Int32) - x_1302) fun (x_1481 : Int32) => (g_X12_isAhead_K49 a0 a1 a2 I J ri rj rq x_1206 (g_X12_isAhead_L3 a0 a1 a2 I J ri rj rq n_1278) x_1302 x_1481))))))))))
set_option maxRecDepth 100000 in
theorem g_X12_isAhead_L3_e {a0 : Int32} {a1 : Int32} {a2 : Int32} {I : Nat → Int32} {J : Nat → Int64} {ri : Nat → Nat → Int32} {rj : Nat → Nat → Int64} {rq : Nat → Nat → Option Nat} {n_1278 : Nat} {x_1206 : Int32} : g_X12_isAhead_L3 a0 a1 a2 I J ri rj rq (n_1278 + 1) x_1206 = (ap1 (I 406) fun (y_1284 : Int32) => (ap1 ((y_1284) + (4 : Int32)) fun (x_1285 : Int32) => (ap1 (ri 384 (x_1285).toNatClampNeg) fun (x_1287 : Int32) => (if x_1287 ≤ x_1206 then ((0 : Int32), I, J, ri, rj, rq) else (ap1 ((y_1284) + (5 : Int32)) fun (x_1298 : Int32) => (ap1 (x_1298 + x_1206) fun (x_1300 : Int32) => (ap1 (ri 384 (x_1300).toNatClampNeg) fun (x_1302 : Int32) => (if (0 : Int32) ≤ x_1302 then (g_X12_isAhead_K49 a0 a1 a2 I J ri rj rq x_1206 (g_X12_isAhead_L3 a0 a1 a2 I J ri rj rq n_1278) x_1302 x_1302) else (ap1 ((-1 : Int32) - x_1302) fun (x_1481 : Int32) => (g_X12_isAhead_K49 a0 a1 a2 I J ri rj rq x_1206 (g_X12_isAhead_L3 a0 a1 a2 I J ri rj rq n_1278) x_1302 x_1481)))))))))) := rfl
set_option maxRecDepth 100000 in
def g_X12_isAhead (a0 : Int32) (a1 : Int32) (a2 : Int32) (I : Nat → Int32) (J : Nat → Int64) (ri : Nat → Nat → Int32) (rj : Nat → Nat → Int64) (rq : Nat → Nat → Option Nat) : Int32 × vM := (g_X12_isAhead_L3 a0 a1 a2 I J ri rj rq ((200 - ((0 : Int32)).toInt).toNat + 1) (0 : Int32))
set_option maxRecDepth 100000 in
theorem g_X12_isAhead_e {a0 : Int32} {a1 : Int32} {a2 : Int32} {I : Nat → Int32} {J : Nat → Int64} {ri : Nat → Nat → Int32} {rj : Nat → Nat → Int64} {rq : Nat → Nat → Option Nat} : g_X12_isAhead a0 a1 a2 I J ri rj rq = (g_X12_isAhead_L3 a0 a1 a2 I J ri rj rq ((200 - ((0 : Int32)).toInt).toNat + 1) (0 : Int32)) := rfl
set_option maxHeartbeats 4000000 in
set_option maxRecDepth 100000 in
theorem s_X12_isAhead (l : Launch) (D : va_G) (t : pq_T) (σ : pq_S) (I : Nat → Nat → Int32) (J : Nat → Nat → Int64) (ri : Nat → Nat → Int32) (rj : Nat → Nat → Int64) (rq : Nat → Nat → Option Nat) (sz : Nat) (tg : Nat → Nat) (hSH : SH σ tg) (hG0 : GT tg I ri) (this : Nat) (a0 : Int32) (a1 : Int32) (a2 : Int32) (hL_this : this ∈ σ.1) (hK_this : σ.2.1 this = 12) (h_a0 : rg a0 0 39) (h_a1 : rg a1 0 39) (this_a : Nat) (hR_this_a : σ.2.2.1 384 this = some this_a) (hL_this_a : this_a ∈ σ.1) (hK_this_a : σ.2.1 this_a = 13) (hN_this_a : σ.2.2.2 this_a = 12720) (hT_this_a : tg this_a = 384) : MetI l yX12_isAhead (wa yX12_isAhead cX12_isAhead 9 (some .boolean)) ({ frames := 2, cells := 0, slots := 0, locals := 46 }) [.ref this, .int a0, .int a1, .int a2] D t σ (I, J, ri, rj, rq) sz 0 0 (fun (r : Int32) (u : pq_S × pq_M) => u = (σ, I, J, ri, rj, rq) ∧ g_X12_isAhead a0 a1 a2 (vI 12 σ this I) (vJ 12 σ this J) (vR 12 σ this ri) (vL 12 σ this rj) (vQ 12 σ this rq) = (r, (vI 12 σ this I), (vJ 12 σ this J), (vR 12 σ this ri), (vL 12 σ this rj), (vQ 12 σ this rq)) ∧ ((r = 1 ∧ True) ∨ (r = 0 ∧ True))) := by
  refine Met.ofW (cc := cX12_isAhead) (maxL := 9) (ret := (some .boolean)) (by decide +kernel) rfl ?_
  intro p e s m args below meth c s₁ B hml hv
  obtain ⟨rfl, hsz, hP, hK, hD0, hN⟩ := hv
  have hx := B.exec
  have hb := B.bytes
  have hr := B.returns
  have hts := atoms_spec (ws := (wa yX12_isAhead cX12_isAhead 9 (some .boolean))) B.pre
  have hown : s.vm.findClass RX12 = some m.cls := findClass_of_methodNamed B.named
  have hlocks := B.notSynchronized
  subst hsz
  have hD : va_D (pq_B t σ (I, J, ri, rj, rq) s.heap.size) (pq_P t σ (I, J, ri, rj, rq)) := hD0.self
  generalize hAe : pq_B t σ (I, J, ri, rj, rq) s.heap.size = A at hD ⊢
  have hA : ∀ q : Nat, s.heap.size ≤ q → A q := fun q h => by rw [← hAe]; exact Or.inr h
  have hS : va_S A s.heap s.heap [] := va_S.rf
  have hG : GM [] tg σ I ri I ri rq := ⟨hG0, fun _ _ _ => rfl, fun _ _ _ _ _ => rfl, fun _ _ _ _ _ _ => rfl⟩
  have hl := lv_entry ([.ref this, .int a0, .int a1, .int a2]) (n := 9) (Nat.le_of_ble_eq_true rfl)
  rw [lg_entry_eq]
  generalize (lg_sl ([.ref this, .int a0, .int a1, .int a2]) ++ List.replicate (9 - (lg_sl ([.ref this, .int a0, .int a1, .int a2])).length) Slot.unset).toArray = ls at hl ⊢
  have hl : lv_has ls 9 [(0, .ref this), (1, .int a0), (2, .int a1), (3, .int a2)] := hl
  refine q_gen (fun Q hQ => ?_)
  have go : ∀ (H : Heap) (locs : List Loc) (ls : Array Slot), va_P D vwCl (pq_P t σ (I, J, ri, rj, rq)) H → va_D A (pq_P t σ (I, J, ri, rj, rq)) → va_S A s.heap H locs → lv_has ls 9 [(0, .ref this), (1, .int a0), (2, .int a1), (3, .int a2)] → W p l e ({ frames := 2, cells := 0, slots := 0, locals := 46 } : Room) s m (List.toArray ([.ref this, .int a0, .int a1, .int a2] : List Value)) below meth c H locs 0 0 Q (F0 m 0 ls []) := by
    intro H locs ls hP hD hS hl
    have hO_this : this = vo σ 12 this := rfl
    have hVT : VT 12 σ tg this := vt_12 hSH hL_this hK_this
    have hFr : FR 12 tg σ this (I, J, ri, rj, rq) (I, J, ri, rj, rq) := fr_rf
    have hO_this_a : this_a = vrow σ 384 this := vo_k (c := 12) hO_this hR_this_a
    obtain ⟨F, hF0⟩ : ∃ F, F = g_X12_isAhead a0 a1 a2 (vI 12 σ this I) (vJ 12 σ this J) (vR 12 σ this ri) (vL 12 σ this rj) (vQ 12 σ this rq) := ⟨_, rfl⟩
    have hF := hF0.trans g_X12_isAhead_e
    refine lv_iconst (v := 0) hx hb dX12_isAhead_0 (by decide +kernel) ?_
    refine lv_istore (lv' := [(4, .int 0), (0, .ref this), (1, .int a0), (2, .int a1), (3, .int a2)]) hx hb dX12_isAhead_1 hl (by decide +kernel) rfl (fun ls hl => ?_)
    have L_1279 : ∀ (n_1278 : Nat) (x_1206 : Int32) (H : Heap) (locs : List Loc) (ls : Array Slot), rg x_1206 0 200 → (200 - (x_1206).toInt).toNat < n_1278 → F = g_X12_isAhead_L3 a0 a1 a2 (vI 12 σ this I) (vJ 12 σ this J) (vR 12 σ this ri) (vL 12 σ this rj) (vQ 12 σ this rq) n_1278 x_1206 → FR 12 tg σ this (I, J, ri, rj, rq) (I, J, ri, rj, rq) → GM [] tg σ I ri I ri rq → va_P D vwCl (pq_P t σ (I, J, ri, rj, rq)) H → va_D A (pq_P t σ (I, J, ri, rj, rq)) → va_S A s.heap H locs → lv_has ls 9 [(0, .ref this), (1, .int a0), (2, .int a1), (3, .int a2), (4, .int x_1206)] → W p l e ({ frames := 2, cells := 0, slots := 0, locals := 46 } : Room) s m (List.toArray ([.ref this, .int a0, .int a1, .int a2] : List Value)) below meth c H locs 0 0 Q (F0 m 3 ls []) := by
      intro n_1278
      induction n_1278 with
      | zero => intro x_1206 H locs ls h_1282 hm_1277 hF hFr hG hP hD hS hl; exact absurd hm_1277 (Nat.not_lt_zero _)
      | succ n_1278 ih_1280 =>
        intro x_1206 H locs ls h_1282 hm_1277 hF hFr hG hP hD hS hl
        have uh_1282 := h_1282.1
        have vh_1282 := h_1282.2
        replace hF := hF.trans g_X12_isAhead_L3_e
        refine lv_iload hx hb dX12_isAhead_3 (lv_at hl 4 rfl) ?_
        refine lv_aload_n hx hb dX12_isAhead_5 rfl (lv_at hl 0 rfl) ?_
        refine pg_f (v := .ref this_a) (C := RX12) (T := TX12) (N := 31) hx hb hts (tw_i inlX12) hown hK hP hL_this hK_this (by decide +kernel) rfl 0 (by decide +kernel) (hts _ (tw_c tw_176)) (pq_hv rfl hR_this_a) dX12_isAhead_6 ?_
        refine lv_aload_n hx hb dX12_isAhead_9 rfl (lv_at hl 0 rfl) ?_
        refine pg_f (v := .int (I 406 this)) (C := RX12) (T := TX12) (N := 31) hx hb hts (tw_i inlX12) hown hK hP hL_this hK_this (by decide +kernel) rfl 22 (by decide +kernel) (hts _ (tw_c tw_507)) rfl dX12_isAhead_10 ?_
        have h_1283 : rg (I 406 this) (-1) 12060 := GM.rI hG 406 rfl
        have uh_1283 := h_1283.1
        have vh_1283 := h_1283.2
        replace hF := hF.trans (ap_n (vI_e (f := 406) hO_this (by decide +kernel)))
        refine lv_iconst (v := 4) hx hb dX12_isAhead_13 (by decide +kernel) ?_
        refine lv_iadd hx hb dX12_isAhead_14 ?_
        refine lv_topi (fun x_1285 ex_1285 => ?_)
        replace hF := hF.trans (ap_n ex_1285)
        have h_1286 : rg x_1285 3 12064 := rg_of_eq ex_1285 (rg_add h_1283 (rg_k (4 : Int32) 4 rfl) (by decide +kernel))
        have uh_1286 := h_1286.1
        have vh_1286 := h_1286.2
        have tx_1285 : (x_1285).toInt = (I 406 this).toInt + 4 := by rw [ex_1285]; exact i_add_rg (a2 := (I 406 this).toInt) (b2 := 4) rfl rfl h_1283 (rg_k (4 : Int32) 4 rfl) (by decide +kernel)
        refine pl_i hx hb hK hP hL_this_a hK_this_a hN_this_a (rg_in h_1286 (by decide +kernel)) dX12_isAhead_15 ?_
        refine lv_topi (fun x_1287 ex_1287 => ?_)
        replace hF := hF.trans (ap_n (vR_r hO_this_a (by decide +kernel) ex_1287))
        have h_1288 : rg x_1287 0 200 := rg_of_eq ex_1287 (GT.kv4 hG0 (a := this) (by rw [hT_this_a]; decide) (by omega))
        have uh_1288 := h_1288.1
        have vh_1288 := h_1288.2
        refine lv_icmp_ge (tgt := 117) hx hb dX12_isAhead_16 (by decide +kernel) (fun c_1289 => ?_) (fun c_1289 => ?_)
        · replace hF := hF.trans (if_pos c_1289)
          have tc_1294 : (x_1287).toInt ≤ (x_1206).toInt := Int32.le_iff_toInt_le.mp c_1289
          refine lv_iconst (v := 0) hx hb dX12_isAhead_117 (by decide +kernel) ?_
          subst hQ
          exact W.zret (v := 0) hx hb hr (by decide +kernel) (fun t1 ht hW => ⟨⟨0, (σ, I, J, ri, rj, rq), rfl, ⟨rfl, (hF0.symm.trans hF), (Or.inr ⟨rfl, trivial⟩)⟩, by rw [ht]; exact hP, va_K.moved hW.alike hK, hD⟩, hS.F ht⟩) hS.2.2 dX12_isAhead_118
        · replace hF := hF.trans (if_neg c_1289)
          have tc_1295 : (x_1206).toInt < (x_1287).toInt := Int32.lt_iff_toInt_lt.mp (nle c_1289)
          have h_1296 : rg x_1206 0 199 := rg_lt1 (nle c_1289) h_1282 h_1288 (by decide +kernel)
          have uh_1296 := h_1296.1
          have vh_1296 := h_1296.2
          have h_1297 : rg x_1287 1 200 := rg_lt2 (nle c_1289) h_1282 h_1288 (by decide +kernel)
          have uh_1297 := h_1297.1
          have vh_1297 := h_1297.2
          refine lv_aload_n hx hb dX12_isAhead_19 rfl (lv_at hl 0 rfl) ?_
          refine pg_f (v := .ref this_a) (C := RX12) (T := TX12) (N := 31) hx hb hts (tw_i inlX12) hown hK hP hL_this hK_this (by decide +kernel) rfl 0 (by decide +kernel) (hts _ (tw_c tw_176)) (pq_hv rfl hR_this_a) dX12_isAhead_20 ?_
          refine lv_aload_n hx hb dX12_isAhead_23 rfl (lv_at hl 0 rfl) ?_
          refine pg_f (v := .int (I 406 this)) (C := RX12) (T := TX12) (N := 31) hx hb hts (tw_i inlX12) hown hK hP hL_this hK_this (by decide +kernel) rfl 22 (by decide +kernel) (hts _ (tw_c tw_507)) rfl dX12_isAhead_24 ?_
          refine lv_iconst (v := 5) hx hb dX12_isAhead_27 (by decide +kernel) ?_
          refine lv_iadd hx hb dX12_isAhead_28 ?_
          refine lv_topi (fun x_1298 ex_1298 => ?_)
          replace hF := hF.trans (ap_n ex_1298)
          have h_1299 : rg x_1298 4 12065 := rg_of_eq ex_1298 (rg_add h_1283 (rg_k (5 : Int32) 5 rfl) (by decide +kernel))
          have uh_1299 := h_1299.1
          have vh_1299 := h_1299.2
          have tx_1298 : (x_1298).toInt = (I 406 this).toInt + 5 := by rw [ex_1298]; exact i_add_rg (a2 := (I 406 this).toInt) (b2 := 5) rfl rfl h_1283 (rg_k (5 : Int32) 5 rfl) (by decide +kernel)
          refine lv_iload hx hb dX12_isAhead_29 (lv_at hl 4 rfl) ?_
          refine lv_iadd hx hb dX12_isAhead_31 ?_
          refine lv_topi (fun x_1300 ex_1300 => ?_)
          replace hF := hF.trans (ap_n ex_1300)
          have h_1301 : rg x_1300 4 12264 := rg_of_eq ex_1300 (rg_add h_1299 h_1296 (by decide +kernel))
          have uh_1301 := h_1301.1
          have vh_1301 := h_1301.2
          have tx_1300 : (x_1300).toInt = (x_1298).toInt + (x_1206).toInt := by rw [ex_1300]; exact i_add_rg (a2 := (x_1298).toInt) (b2 := (x_1206).toInt) rfl rfl h_1299 h_1296 (by decide +kernel)
          refine pl_i hx hb hK hP hL_this_a hK_this_a hN_this_a (rg_in h_1301 (by decide +kernel)) dX12_isAhead_32 ?_
          refine lv_topi (fun x_1302 ex_1302 => ?_)
          replace hF := hF.trans (ap_n (vR_r hO_this_a (by decide +kernel) ex_1302))
          refine lv_istore (lv' := [(5, .int x_1302), (0, .ref this), (1, .int a0), (2, .int a1), (3, .int a2), (4, .int x_1206)]) hx hb dX12_isAhead_33 hl (by decide +kernel) rfl (fun ls hl => ?_)
          refine lv_iload hx hb dX12_isAhead_35 (lv_at hl 0 rfl) ?_
          have K_1356 : ∀  (x_1310 : Int32) (H : Heap) (locs : List Loc) (ls : Array Slot), rg x_1310 0 2147483647 → F = g_X12_isAhead_K49 a0 a1 a2 (vI 12 σ this I) (vJ 12 σ this J) (vR 12 σ this ri) (vL 12 σ this rj) (vQ 12 σ this rq) x_1206 (g_X12_isAhead_L3 a0 a1 a2 (vI 12 σ this I) (vJ 12 σ this J) (vR 12 σ this ri) (vL 12 σ this rj) (vQ 12 σ this rq) n_1278) x_1302 x_1310 → FR 12 tg σ this (I, J, ri, rj, rq) (I, J, ri, rj, rq) → GM [] tg σ I ri I ri rq → va_P D vwCl (pq_P t σ (I, J, ri, rj, rq)) H → va_D A (pq_P t σ (I, J, ri, rj, rq)) → va_S A s.heap H locs → lv_has ls 9 [(0, .ref this), (1, .int a0), (2, .int a1), (3, .int a2), (4, .int x_1206), (5, .int x_1302)] → W p l e ({ frames := 2, cells := 0, slots := 0, locals := 46 } : Room) s m (List.toArray ([.ref this, .int a0, .int a1, .int a2] : List Value)) below meth c H locs 0 0 Q (F0 m 49 ls [.int x_1310]) := by
            intro x_1310 H locs ls h_1358 hF hFr hG hP hD hS hl
            have uh_1358 := h_1358.1
            have vh_1358 := h_1358.2
            replace hF := hF.trans g_X12_isAhead_K49_e
            refine lv_istore (lv' := [(6, .int x_1310), (0, .ref this), (1, .int a0), (2, .int a1), (3, .int a2), (4, .int x_1206), (5, .int x_1302)]) hx hb dX12_isAhead_49 hl (by decide +kernel) rfl (fun ls hl => ?_)
            refine lv_aload_n hx hb dX12_isAhead_51 rfl (lv_at hl 1 rfl) ?_
            refine lv_iload_n hx hb dX12_isAhead_52 rfl (lv_at hl 2 rfl) ?_
            refine lv_iload hx hb dX12_isAhead_53 (lv_at hl 0 rfl) ?_
            refine lv_iload_n hx hb dX12_isAhead_55 rfl (lv_at hl 4 rfl) ?_
            refine lv_iconst (v := 0) hx hb dX12_isAhead_56 (by decide +kernel) ?_
            refine pk_i (va_runV (As := [.int a0, .int x_1310, .int a2, .int 0]) (rest := []) ⟨hx, hb, hml, hown, hts⟩ (s_X12_named l D t σ I J ri rj rq H.size tg hSH hG.1 this a0 x_1310 a2 (0 : Int32) hL_this hK_this (rg_w h_a0 (by decide +kernel))) (cwV 4 hts (tw_V tw_528 tw_529 tw_530 tw_5 tw_531) rfl rfl rfl cv_yX12_named_4 ⟨Nat.le_of_ble_eq_true rfl, Nat.le_of_ble_eq_true rfl⟩) ⟨pq_blind, pq_recv hK hP hL_this hK_this (by decide +kernel) rfl, pq_pre hK hN hP hD⟩ rfl rfl hl.1 rfl (lv_room (Nat.le_of_ble_eq_true rfl)) dX12_isAhead_57 ⟨Nat.le_of_ble_eq_true rfl, Nat.le_of_ble_eq_true rfl⟩) hD hS hA (fun x_1359 σ1 μ1 H locs hw_1360 hP hD hS => ?_)
            obtain ⟨hu_1361, hfn_1364⟩ := hw_1360
            obtain ⟨hu_1361a, hu_1361b⟩ := Prod.mk.inj hu_1361
            rw [hu_1361a, hu_1361b] at hP hD
            replace hF := hF.trans (bn_n hfn_1364)
            refine lv_istore (lv' := [(7, .int x_1359), (6, .int x_1310), (0, .ref this), (1, .int a0), (2, .int a1), (3, .int a2), (4, .int x_1206), (5, .int x_1302)]) hx hb dX12_isAhead_60 hl (by decide +kernel) rfl (fun ls hl => ?_)
            refine lv_aload_n hx hb dX12_isAhead_62 rfl (lv_at hl 2 rfl) ?_
            refine lv_iload_n hx hb dX12_isAhead_63 rfl (lv_at hl 4 rfl) ?_
            refine lv_iload hx hb dX12_isAhead_64 (lv_at hl 1 rfl) ?_
            refine lv_iload_n hx hb dX12_isAhead_66 rfl (lv_at hl 5 rfl) ?_
            refine lv_iconst (v := 0) hx hb dX12_isAhead_67 (by decide +kernel) ?_
            refine pk_i (va_runV (As := [.int a1, .int x_1310, .int a2, .int 0]) (rest := []) ⟨hx, hb, hml, hown, hts⟩ (s_X12_named l D t σ I J ri rj rq H.size tg hSH hG.1 this a1 x_1310 a2 (0 : Int32) hL_this hK_this (rg_w h_a1 (by decide +kernel))) (cwV 4 hts (tw_V tw_528 tw_529 tw_530 tw_5 tw_531) rfl rfl rfl cv_yX12_named_4 ⟨Nat.le_of_ble_eq_true rfl, Nat.le_of_ble_eq_true rfl⟩) ⟨pq_blind, pq_recv hK hP hL_this hK_this (by decide +kernel) rfl, pq_pre hK hN hP hD⟩ rfl rfl hl.1 rfl (lv_room (Nat.le_of_ble_eq_true rfl)) dX12_isAhead_68 ⟨Nat.le_of_ble_eq_true rfl, Nat.le_of_ble_eq_true rfl⟩) hD hS hA (fun x_1366 σ1 μ1 H locs hw_1367 hP hD hS => ?_)
            obtain ⟨hu_1368, hfn_1371⟩ := hw_1367
            obtain ⟨hu_1368a, hu_1368b⟩ := Prod.mk.inj hu_1368
            rw [hu_1368a, hu_1368b] at hP hD
            replace hF := hF.trans (bn_n hfn_1371)
            refine lv_istore (lv' := [(8, .int x_1366), (7, .int x_1359), (6, .int x_1310), (0, .ref this), (1, .int a0), (2, .int a1), (3, .int a2), (4, .int x_1206), (5, .int x_1302)]) hx hb dX12_isAhead_71 hl (by decide +kernel) rfl (fun ls hl => ?_)
            refine lv_iload hx hb dX12_isAhead_73 (lv_at hl 1 rfl) ?_
            refine lv_iload hx hb dX12_isAhead_75 (lv_at hl 0 rfl) ?_
            refine lv_icmp_eq (tgt := 111) hx hb dX12_isAhead_77 (by decide +kernel) (fun c_1373 => ?_) (fun c_1373 => ?_)
            · replace hF := hF.trans (if_pos c_1373)
              have tc_1376 : (x_1359).toInt = (x_1366).toInt := congrArg Int32.toInt c_1373
              obtain ⟨x_1377, ex_1377⟩ : ∃ y : Int32, y = x_1206 + Int32.ofInt 1 := ⟨_, rfl⟩
              replace hF := hF.trans (ap_n ex_1377)
              have h_1378 : rg x_1377 1 200 := rg_of_eq ex_1377 (rg_add h_1296 (rg_k (Int32.ofInt 1) 1 rfl) (by decide +kernel))
              have uh_1378 := h_1378.1
              have vh_1378 := h_1378.2
              have tx_1377 : (x_1377).toInt = (x_1206).toInt + 1 := by rw [ex_1377]; exact i_add_rg (a2 := (x_1206).toInt) (b2 := 1) rfl rfl h_1296 (rg_k (Int32.ofInt 1) 1 rfl) (by decide +kernel)
              refine lv_iinc (v := x_1377) (lv' := [(4, .int x_1377), (8, .int x_1366), (7, .int x_1359), (6, .int x_1310), (0, .ref this), (1, .int a0), (2, .int a1), (3, .int a2), (5, .int x_1302)]) hx hb dX12_isAhead_111 hl (k := 7) rfl ex_1377.symm (by decide +kernel) rfl (fun ls hl => ?_)
              refine lv_goto (tgt := 3) hx hb dX12_isAhead_114 (by decide +kernel) ?_
              exact ih_1280 x_1377 _ _ _ (rg_w h_1378 (by decide +kernel)) (ms_up 1 hm_1277 ex_1377 rfl (by decide +kernel) h_1296 (by decide +kernel) (by decide +kernel)) hF hFr hG hP hD hS (lv_sub hl [4, 5, 6, 7, 0] rfl)
            · replace hF := hF.trans (if_neg c_1373)
              have tc_1379 : (x_1359).toInt ≠ (x_1366).toInt := fun q => c_1373 (Int32.toInt_inj.mp q)
              refine lv_iload hx hb dX12_isAhead_80 (lv_at hl 1 rfl) ?_
              refine lv_iload hx hb dX12_isAhead_82 (lv_at hl 0 rfl) ?_
              have K_1405 : ∀  (H : Heap) (locs : List Loc) (ls : Array Slot), F = g_X12_isAhead_K92 (vI 12 σ this I) (vJ 12 σ this J) (vR 12 σ this ri) (vL 12 σ this rj) (vQ 12 σ this rq) x_1302  → FR 12 tg σ this (I, J, ri, rj, rq) (I, J, ri, rj, rq) → GM [] tg σ I ri I ri rq → va_P D vwCl (pq_P t σ (I, J, ri, rj, rq)) H → va_D A (pq_P t σ (I, J, ri, rj, rq)) → va_S A s.heap H locs → lv_has ls 9 [(5, .int x_1302)] → W p l e ({ frames := 2, cells := 0, slots := 0, locals := 46 } : Room) s m (List.toArray ([.ref this, .int a0, .int a1, .int a2] : List Value)) below meth c H locs 0 0 Q (F0 m 92 ls [.int 0]) := by
                intro H locs ls hF hFr hG hP hD hS hl
                replace hF := hF.trans g_X12_isAhead_K92_e
                refine lv_iload hx hb dX12_isAhead_92 (lv_at hl 0 rfl) ?_
                have K_1415 : ∀  (H : Heap) (locs : List Loc) (ls : Array Slot), rg (x_1302) (-2147483648) (-1) → F = g_X12_isAhead_K102 (vI 12 σ this I) (vJ 12 σ this J) (vR 12 σ this ri) (vL 12 σ this rj) (vQ 12 σ this rq)  → FR 12 tg σ this (I, J, ri, rj, rq) (I, J, ri, rj, rq) → GM [] tg σ I ri I ri rq → va_P D vwCl (pq_P t σ (I, J, ri, rj, rq)) H → va_D A (pq_P t σ (I, J, ri, rj, rq)) → va_S A s.heap H locs → lv_has ls 9 [] → W p l e ({ frames := 2, cells := 0, slots := 0, locals := 46 } : Room) s m (List.toArray ([.ref this, .int a0, .int a1, .int a2] : List Value)) below meth c H locs 0 0 Q (F0 m 102 ls [.int 0, .int 0]) := by
                  intro H locs ls h_1417 hF hFr hG hP hD hS hl
                  have uh_1417 := h_1417.1
                  have vh_1417 := h_1417.2
                  replace hF := hF.trans g_X12_isAhead_K102_e
                  refine lv_icmp_ne (tgt := 109) hx hb dX12_isAhead_102 (by decide +kernel) (fun c_1418 => absurd c_1418 (by decide +kernel)) (fun c_1418 => ?_)
                  refine lv_iconst (v := 1) hx hb dX12_isAhead_105 (by decide +kernel) ?_
                  refine lv_goto (tgt := 110) hx hb dX12_isAhead_106 (by decide +kernel) ?_
                  subst hQ
                  exact W.zret (v := 1) hx hb hr (by decide +kernel) (fun t1 ht hW => ⟨⟨1, (σ, I, J, ri, rj, rq), rfl, ⟨rfl, (hF0.symm.trans hF), (Or.inl ⟨rfl, trivial⟩)⟩, by rw [ht]; exact hP, va_K.moved hW.alike hK, hD⟩, hS.F ht⟩) hS.2.2 dX12_isAhead_110
                have K_1419 : ∀  (H : Heap) (locs : List Loc) (ls : Array Slot), rg (x_1302) 0 2147483647 → F = g_X12_isAhead_K102_2 (vI 12 σ this I) (vJ 12 σ this J) (vR 12 σ this ri) (vL 12 σ this rj) (vQ 12 σ this rq)  → FR 12 tg σ this (I, J, ri, rj, rq) (I, J, ri, rj, rq) → GM [] tg σ I ri I ri rq → va_P D vwCl (pq_P t σ (I, J, ri, rj, rq)) H → va_D A (pq_P t σ (I, J, ri, rj, rq)) → va_S A s.heap H locs → lv_has ls 9 [] → W p l e ({ frames := 2, cells := 0, slots := 0, locals := 46 } : Room) s m (List.toArray ([.ref this, .int a0, .int a1, .int a2] : List Value)) below meth c H locs 0 0 Q (F0 m 102 ls [.int 1, .int 0]) := by
                  intro H locs ls h_1421 hF hFr hG hP hD hS hl
                  have uh_1421 := h_1421.1
                  have vh_1421 := h_1421.2
                  replace hF := hF.trans g_X12_isAhead_K102_2_e
                  refine lv_icmp_ne (tgt := 109) hx hb dX12_isAhead_102 (by decide +kernel) (fun c_1422 => ?_) (fun c_1422 => absurd c_1422 (by decide +kernel))
                  refine lv_iconst (v := 0) hx hb dX12_isAhead_109 (by decide +kernel) ?_
                  subst hQ
                  exact W.zret (v := 0) hx hb hr (by decide +kernel) (fun t1 ht hW => ⟨⟨0, (σ, I, J, ri, rj, rq), rfl, ⟨rfl, (hF0.symm.trans hF), (Or.inr ⟨rfl, trivial⟩)⟩, by rw [ht]; exact hP, va_K.moved hW.alike hK, hD⟩, hS.F ht⟩) hS.2.2 dX12_isAhead_110
                refine lv_if_lt (tgt := 101) hx hb dX12_isAhead_94 (by decide +kernel) (fun c_1423 => ?_) (fun c_1423 => ?_)
                · replace hF := hF.trans (if_pos c_1423)
                  have tc_1428 : (x_1302).toInt < 0 := Int32.lt_iff_toInt_lt.mp c_1423
                  have h_1429 : rg x_1302 (-2147483648) (-1) := rg_lt1 c_1423 (rg_full _) (rg_k (0 : Int32) 0 rfl) (by decide +kernel)
                  have uh_1429 := h_1429.1
                  have vh_1429 := h_1429.2
                  refine lv_iconst (v := 0) hx hb dX12_isAhead_101 (by decide +kernel) ?_
                  exact K_1415 _ _ _ (rg_w h_1429 (by decide +kernel)) hF hFr hG hP hD hS (lv_sub hl [] rfl)
                · replace hF := hF.trans (if_neg c_1423)
                  have tc_1430 : 0 ≤ (x_1302).toInt := Int32.le_iff_toInt_le.mp (nlt c_1423)
                  have h_1431 : rg x_1302 0 2147483647 := rg_le2 (nlt c_1423) (rg_k (0 : Int32) 0 rfl) (rg_full _) (by decide +kernel)
                  have uh_1431 := h_1431.1
                  have vh_1431 := h_1431.2
                  refine lv_iconst (v := 1) hx hb dX12_isAhead_97 (by decide +kernel) ?_
                  refine lv_goto (tgt := 102) hx hb dX12_isAhead_98 (by decide +kernel) ?_
                  exact K_1419 _ _ _ (rg_w h_1431 (by decide +kernel)) hF hFr hG hP hD hS (lv_sub hl [] rfl)
              have K_1432 : ∀  (H : Heap) (locs : List Loc) (ls : Array Slot), rg (x_1359) (-2147483648) 2147483646 → rg (x_1366) (-2147483647) 2147483647 → F = g_X12_isAhead_K92_2 (vI 12 σ this I) (vJ 12 σ this J) (vR 12 σ this ri) (vL 12 σ this rj) (vQ 12 σ this rq) x_1302  → FR 12 tg σ this (I, J, ri, rj, rq) (I, J, ri, rj, rq) → GM [] tg σ I ri I ri rq → va_P D vwCl (pq_P t σ (I, J, ri, rj, rq)) H → va_D A (pq_P t σ (I, J, ri, rj, rq)) → va_S A s.heap H locs → lv_has ls 9 [(5, .int x_1302)] → W p l e ({ frames := 2, cells := 0, slots := 0, locals := 46 } : Room) s m (List.toArray ([.ref this, .int a0, .int a1, .int a2] : List Value)) below meth c H locs 0 0 Q (F0 m 92 ls [.int 1]) := by
                intro H locs ls h_1435 h_1436 hF hFr hG hP hD hS hl
                have uh_1435 := h_1435.1
                have vh_1435 := h_1435.2
                have uh_1436 := h_1436.1
                have vh_1436 := h_1436.2
                replace hF := hF.trans g_X12_isAhead_K92_2_e
                refine lv_iload hx hb dX12_isAhead_92 (lv_at hl 0 rfl) ?_
                have K_1446 : ∀  (H : Heap) (locs : List Loc) (ls : Array Slot), rg (x_1302) (-2147483648) (-1) → F = g_X12_isAhead_K102_3 (vI 12 σ this I) (vJ 12 σ this J) (vR 12 σ this ri) (vL 12 σ this rj) (vQ 12 σ this rq)  → FR 12 tg σ this (I, J, ri, rj, rq) (I, J, ri, rj, rq) → GM [] tg σ I ri I ri rq → va_P D vwCl (pq_P t σ (I, J, ri, rj, rq)) H → va_D A (pq_P t σ (I, J, ri, rj, rq)) → va_S A s.heap H locs → lv_has ls 9 [] → W p l e ({ frames := 2, cells := 0, slots := 0, locals := 46 } : Room) s m (List.toArray ([.ref this, .int a0, .int a1, .int a2] : List Value)) below meth c H locs 0 0 Q (F0 m 102 ls [.int 0, .int 1]) := by
                  intro H locs ls h_1448 hF hFr hG hP hD hS hl
                  have uh_1448 := h_1448.1
                  have vh_1448 := h_1448.2
                  replace hF := hF.trans g_X12_isAhead_K102_3_e
                  refine lv_icmp_ne (tgt := 109) hx hb dX12_isAhead_102 (by decide +kernel) (fun c_1449 => ?_) (fun c_1449 => absurd c_1449 (by decide +kernel))
                  refine lv_iconst (v := 0) hx hb dX12_isAhead_109 (by decide +kernel) ?_
                  subst hQ
                  exact W.zret (v := 0) hx hb hr (by decide +kernel) (fun t1 ht hW => ⟨⟨0, (σ, I, J, ri, rj, rq), rfl, ⟨rfl, (hF0.symm.trans hF), (Or.inr ⟨rfl, trivial⟩)⟩, by rw [ht]; exact hP, va_K.moved hW.alike hK, hD⟩, hS.F ht⟩) hS.2.2 dX12_isAhead_110
                have K_1450 : ∀  (H : Heap) (locs : List Loc) (ls : Array Slot), rg (x_1302) 0 2147483647 → F = g_X12_isAhead_K102_4 (vI 12 σ this I) (vJ 12 σ this J) (vR 12 σ this ri) (vL 12 σ this rj) (vQ 12 σ this rq)  → FR 12 tg σ this (I, J, ri, rj, rq) (I, J, ri, rj, rq) → GM [] tg σ I ri I ri rq → va_P D vwCl (pq_P t σ (I, J, ri, rj, rq)) H → va_D A (pq_P t σ (I, J, ri, rj, rq)) → va_S A s.heap H locs → lv_has ls 9 [] → W p l e ({ frames := 2, cells := 0, slots := 0, locals := 46 } : Room) s m (List.toArray ([.ref this, .int a0, .int a1, .int a2] : List Value)) below meth c H locs 0 0 Q (F0 m 102 ls [.int 1, .int 1]) := by
                  intro H locs ls h_1452 hF hFr hG hP hD hS hl
                  have uh_1452 := h_1452.1
                  have vh_1452 := h_1452.2
                  replace hF := hF.trans g_X12_isAhead_K102_4_e
                  refine lv_icmp_ne (tgt := 109) hx hb dX12_isAhead_102 (by decide +kernel) (fun c_1453 => absurd c_1453 (by decide +kernel)) (fun c_1453 => ?_)
                  refine lv_iconst (v := 1) hx hb dX12_isAhead_105 (by decide +kernel) ?_
                  refine lv_goto (tgt := 110) hx hb dX12_isAhead_106 (by decide +kernel) ?_
                  subst hQ
                  exact W.zret (v := 1) hx hb hr (by decide +kernel) (fun t1 ht hW => ⟨⟨1, (σ, I, J, ri, rj, rq), rfl, ⟨rfl, (hF0.symm.trans hF), (Or.inl ⟨rfl, trivial⟩)⟩, by rw [ht]; exact hP, va_K.moved hW.alike hK, hD⟩, hS.F ht⟩) hS.2.2 dX12_isAhead_110
                refine lv_if_lt (tgt := 101) hx hb dX12_isAhead_94 (by decide +kernel) (fun c_1454 => ?_) (fun c_1454 => ?_)
                · replace hF := hF.trans (if_pos c_1454)
                  have tc_1459 : (x_1302).toInt < 0 := Int32.lt_iff_toInt_lt.mp c_1454
                  have h_1460 : rg x_1302 (-2147483648) (-1) := rg_lt1 c_1454 (rg_full _) (rg_k (0 : Int32) 0 rfl) (by decide +kernel)
                  have uh_1460 := h_1460.1
                  have vh_1460 := h_1460.2
                  refine lv_iconst (v := 0) hx hb dX12_isAhead_101 (by decide +kernel) ?_
                  exact K_1446 _ _ _ (rg_w h_1460 (by decide +kernel)) hF hFr hG hP hD hS (lv_sub hl [] rfl)
                · replace hF := hF.trans (if_neg c_1454)
                  have tc_1461 : 0 ≤ (x_1302).toInt := Int32.le_iff_toInt_le.mp (nlt c_1454)
                  have h_1462 : rg x_1302 0 2147483647 := rg_le2 (nlt c_1454) (rg_k (0 : Int32) 0 rfl) (rg_full _) (by decide +kernel)
                  have uh_1462 := h_1462.1
                  have vh_1462 := h_1462.2
                  refine lv_iconst (v := 1) hx hb dX12_isAhead_97 (by decide +kernel) ?_
                  refine lv_goto (tgt := 102) hx hb dX12_isAhead_98 (by decide +kernel) ?_
                  exact K_1450 _ _ _ (rg_w h_1462 (by decide +kernel)) hF hFr hG hP hD hS (lv_sub hl [] rfl)
              refine lv_icmp_ge (tgt := 91) hx hb dX12_isAhead_84 (by decide +kernel) (fun c_1463 => ?_) (fun c_1463 => ?_)
              · replace hF := hF.trans (if_pos c_1463)
                have tc_1468 : (x_1366).toInt ≤ (x_1359).toInt := Int32.le_iff_toInt_le.mp c_1463
                refine lv_iconst (v := 0) hx hb dX12_isAhead_91 (by decide +kernel) ?_
                exact K_1405 _ _ _ hF hFr hG hP hD hS (lv_sub hl [8] rfl)
              · replace hF := hF.trans (if_neg c_1463)
                have tc_1469 : (x_1359).toInt < (x_1366).toInt := Int32.lt_iff_toInt_lt.mp (nle c_1463)
                have h_1470 : rg x_1359 (-2147483648) 2147483646 := rg_lt1 (nle c_1463) (rg_full _) (rg_full _) (by decide +kernel)
                have uh_1470 := h_1470.1
                have vh_1470 := h_1470.2
                have h_1471 : rg x_1366 (-2147483647) 2147483647 := rg_lt2 (nle c_1463) (rg_full _) (rg_full _) (by decide +kernel)
                have uh_1471 := h_1471.1
                have vh_1471 := h_1471.2
                refine lv_iconst (v := 1) hx hb dX12_isAhead_87 (by decide +kernel) ?_
                refine lv_goto (tgt := 92) hx hb dX12_isAhead_88 (by decide +kernel) ?_
                exact K_1432 _ _ _ (rg_w h_1470 (by decide +kernel)) (rg_w h_1471 (by decide +kernel)) hF hFr hG hP hD hS (lv_sub hl [8] rfl)
          refine lv_if_ge (tgt := 47) hx hb dX12_isAhead_37 (by decide +kernel) (fun c_1472 => ?_) (fun c_1472 => ?_)
          · replace hF := hF.trans (if_pos c_1472)
            have tc_1477 : 0 ≤ (x_1302).toInt := Int32.le_iff_toInt_le.mp c_1472
            have h_1478 : rg x_1302 0 2147483647 := rg_le2 c_1472 (rg_k (0 : Int32) 0 rfl) (rg_full _) (by decide +kernel)
            have uh_1478 := h_1478.1
            have vh_1478 := h_1478.2
            refine lv_iload hx hb dX12_isAhead_47 (lv_at hl 0 rfl) ?_
            exact K_1356 x_1302 _ _ _ (rg_w h_1478 (by decide +kernel)) hF hFr hG hP hD hS (lv_sub hl [1, 2, 3, 4, 5, 0] rfl)
          · replace hF := hF.trans (if_neg c_1472)
            have tc_1479 : (x_1302).toInt < 0 := Int32.lt_iff_toInt_lt.mp (nle c_1472)
            have h_1480 : rg x_1302 (-2147483648) (-1) := rg_lt1 (nle c_1472) (rg_full _) (rg_k (0 : Int32) 0 rfl) (by decide +kernel)
            have uh_1480 := h_1480.1
            have vh_1480 := h_1480.2
            refine lv_iconst (v := (-1)) hx hb dX12_isAhead_40 (by decide +kernel) ?_
            refine lv_iload hx hb dX12_isAhead_41 (lv_at hl 0 rfl) ?_
            refine lv_isub hx hb dX12_isAhead_43 ?_
            refine lv_topi (fun x_1481 ex_1481 => ?_)
            replace hF := hF.trans (ap_n ex_1481)
            have h_1482 : rg x_1481 0 2147483647 := rg_of_eq ex_1481 (rg_sub (rg_k (-1 : Int32) (-1) rfl) h_1480 (by decide +kernel))
            have uh_1482 := h_1482.1
            have vh_1482 := h_1482.2
            have tx_1481 : (x_1481).toInt = (-1) - (x_1302).toInt := by rw [ex_1481]; exact i_sub_rg (a2 := (-1)) (b2 := (x_1302).toInt) rfl rfl (rg_k (-1 : Int32) (-1) rfl) h_1480 (by decide +kernel)
            refine lv_goto (tgt := 49) hx hb dX12_isAhead_44 (by decide +kernel) ?_
            exact K_1356 x_1481 _ _ _ (rg_w h_1482 (by decide +kernel)) hF hFr hG hP hD hS (lv_sub hl [1, 2, 3, 4, 5, 0] rfl)
    exact L_1279 _ (0 : Int32) _ _ _ (rg_w (rg_k (0 : Int32) 0 rfl) (by decide +kernel)) (Nat.lt_succ_self _) hF hFr hG hP hD hS (lv_sub hl [1, 2, 3, 4, 0] rfl)
  exact go _ _ _ hP hD hS hl

set_option maxRecDepth 100000 in
def g_X12_death_K20 (I : Nat → Int32) (J : Nat → Int64) (ri : Nat → Nat → Int32) (rj : Nat → Nat → Int64) (rq : Nat → Nat → Option Nat) : Int32 × vM := ((-1 : Int32), I, J, ri, rj, rq)
set_option maxRecDepth 100000 in
theorem g_X12_death_K20_e {I : Nat → Int32} {J : Nat → Int64} {ri : Nat → Nat → Int32} {rj : Nat → Nat → Int64} {rq : Nat → Nat → Option Nat} : g_X12_death_K20 I J ri rj rq  = ((-1 : Int32), I, J, ri, rj, rq) := rfl
set_option maxRecDepth 100000 in
def g_X12_death_K186 (x_28110 : Int32) (k_g_X12_death_L140 : (Int32) → (Int32) → (Nat → Nat → Int32) → Int32 × vM) (x_28179 : Int32) (ri_28180 : Nat → Nat → Int32) : Int32 × vM := (ap1 (x_28110 + Int32.ofInt 1) fun (x_28184 : Int32) => (k_g_X12_death_L140 x_28179 x_28184 ri_28180))
set_option maxRecDepth 100000 in
theorem g_X12_death_K186_e {x_28110 : Int32} {k_g_X12_death_L140 : (Int32) → (Int32) → (Nat → Nat → Int32) → Int32 × vM} {x_28179 : Int32} {ri_28180 : Nat → Nat → Int32} : g_X12_death_K186 x_28110 k_g_X12_death_L140 x_28179 ri_28180 = (ap1 (x_28110 + Int32.ofInt 1) fun (x_28184 : Int32) => (k_g_X12_death_L140 x_28179 x_28184 ri_28180)) := rfl
set_option maxRecDepth 100000 in
def g_X12_death_L140 (a0 : Int32) (J : Nat → Int64) (ri : Nat → Nat → Int32) (rj : Nat → Nat → Int64) (rq : Nat → Nat → Option Nat) (I_14159 : Nat → Int32) (x_26216 : Int32) : Nat → (Int32) → (Int32) → (Nat → Nat → Int32) → Int32 × vM
  | 0, x_28109, x_28110, ri_28111 => ((0 : Int32), I_14159, J, ri_28111, rj, rq)
  | n_28144 + 1, x_28109, x_28110, ri_28111 => (ap1 (ri 384 2) fun (y_28150 : Int32) => (if (y_28150) ≤ x_28110 then (x_28109, I_14159, J, ri_28111, rj, rq) else (bnI (g_X12_cellAt_c14 x_28110 I_14159 J ri_28111 rj rq) fun (x_28160 : Int32) (_ : Nat → Int32) (_ : Nat → Int64) (_ : Nat → Nat → Int32) (_ : Nat → Nat → Int64) (_ : Nat → Nat → Option Nat) => (if x_28160 = a0 then (ap1 ((16 : Int32) * x_28110) fun (x_28192 : Int32) => (ap1 ((100 : Int32) + x_28192) fun (x_28194 : Int32) => (ap1 (x_28194 + (14 : Int32)) fun (x_28196 : Int32) => (ap1 (va_up ri_28111 384 (upd (ri_28111 384) (x_28196).toNatClampNeg x_26216)) fun (r_28198 : Nat → Nat → Int32) => (ap1 (x_28109 + Int32.ofInt 1) fun (x_28199 : Int32) => (g_X12_death_K186 x_28110 (g_X12_death_L140 a0 J ri rj rq I_14159 x_26216 n_28144) x_28199 r_28198)))))) else (g_X12_death_K186 x_28110 (g_X12_death_L140 a0 J ri rj rq I_14159 x_26216 n_28144) x_28109 ri_28111)))))
set_option maxRecDepth 100000 in
theorem g_X12_death_L140_e {a0 : Int32} {J : Nat → Int64} {ri : Nat → Nat → Int32} {rj : Nat → Nat → Int64} {rq : Nat → Nat → Option Nat} {I_14159 : Nat → Int32} {x_26216 : Int32} {n_28144 : Nat} {x_28109 : Int32} {x_28110 : Int32} {ri_28111 : Nat → Nat → Int32} : g_X12_death_L140 a0 J ri rj rq I_14159 x_26216 (n_28144 + 1) x_28109 x_28110 ri_28111 = (ap1 (ri 384 2) fun (y_28150 : Int32) => (if (y_28150) ≤ x_28110 then (x_28109, I_14159, J, ri_28111, rj, rq) else (bnI (g_X12_cellAt_c14 x_28110 I_14159 J ri_28111 rj rq) fun (x_28160 : Int32) (_ : Nat → Int32) (_ : Nat → Int64) (_ : Nat → Nat → Int32) (_ : Nat → Nat → Int64) (_ : Nat → Nat → Option Nat) => (if x_28160 = a0 then (ap1 ((16 : Int32) * x_28110) fun (x_28192 : Int32) => (ap1 ((100 : Int32) + x_28192) fun (x_28194 : Int32) => (ap1 (x_28194 + (14 : Int32)) fun (x_28196 : Int32) => (ap1 (va_up ri_28111 384 (upd (ri_28111 384) (x_28196).toNatClampNeg x_26216)) fun (r_28198 : Nat → Nat → Int32) => (ap1 (x_28109 + Int32.ofInt 1) fun (x_28199 : Int32) => (g_X12_death_K186 x_28110 (g_X12_death_L140 a0 J ri rj rq I_14159 x_26216 n_28144) x_28199 r_28198)))))) else (g_X12_death_K186 x_28110 (g_X12_death_L140 a0 J ri rj rq I_14159 x_26216 n_28144) x_28109 ri_28111))))) := rfl
set_option maxRecDepth 100000 in
def g_X12_death_K128 (x_26217 : Int32) (k_g_X12_death_L58 : (Int32) → (Int32) → Int32 × vM) (x_28261 : Int32) : Int32 × vM := (ap1 (x_26217 + Int32.ofInt 1) fun (x_28268 : Int32) => (k_g_X12_death_L58 x_28261 x_28268))
set_option maxRecDepth 100000 in
theorem g_X12_death_K128_e {x_26217 : Int32} {k_g_X12_death_L58 : (Int32) → (Int32) → Int32 × vM} {x_28261 : Int32} : g_X12_death_K128 x_26217 k_g_X12_death_L58 x_28261 = (ap1 (x_26217 + Int32.ofInt 1) fun (x_28268 : Int32) => (k_g_X12_death_L58 x_28261 x_28268)) := rfl
set_option maxRecDepth 100000 in
def g_X12_death_K125 (x_26217 : Int32) (k_g_X12_death_L58 : (Int32) → (Int32) → Int32 × vM) : Int32 × vM := (g_X12_death_K128 x_26217 k_g_X12_death_L58 x_26217)
set_option maxRecDepth 100000 in
theorem g_X12_death_K125_e {x_26217 : Int32} {k_g_X12_death_L58 : (Int32) → (Int32) → Int32 × vM} : g_X12_death_K125 x_26217 k_g_X12_death_L58  = (g_X12_death_K128 x_26217 k_g_X12_death_L58 x_26217) := rfl
set_option maxRecDepth 100000 in
def g_X12_death_L58 (a0 : Int32) (J : Nat → Int64) (ri : Nat → Nat → Int32) (rj : Nat → Nat → Int64) (rq : Nat → Nat → Option Nat) (r_14154 : Nat → Nat → Int32) (y_14156 : Int32) (I_14159 : Nat → Int32) (x_14157 : Int32) : Nat → (Int32) → (Int32) → Int32 × vM
  | 0, x_26216, x_26217 => ((0 : Int32), I_14159, J, r_14154, rj, rq)
  | n_27225 + 1, x_26216, x_26217 => (ap1 (ri 384 5) fun (y_27233 : Int32) => (if (y_27233) ≤ x_26217 then (g_X12_death_L140 a0 J ri rj rq I_14159 x_26216 ((40 - ((0 : Int32)).toInt).toNat + 1) (0 : Int32) (0 : Int32) r_14154) else (bnI (g_X12_personAt_c0 x_26217 I_14159 J r_14154 rj rq) fun (x_28204 : Int32) (_ : Nat → Int32) (_ : Nat → Int64) (_ : Nat → Nat → Int32) (_ : Nat → Nat → Int64) (_ : Nat → Nat → Option Nat) => (bnI (g_X12_personAt_c0 a0 I_14159 J r_14154 rj rq) fun (x_28212 : Int32) (_ : Nat → Int32) (_ : Nat → Int64) (_ : Nat → Nat → Int32) (_ : Nat → Nat → Int64) (_ : Nat → Nat → Option Nat) => (if x_28204 = x_28212 then (bnI (g_X12_personAt_c3 x_26217 I_14159 J r_14154 rj rq) fun (x_28275 : Int32) (_ : Nat → Int32) (_ : Nat → Int64) (_ : Nat → Nat → Int32) (_ : Nat → Nat → Int64) (_ : Nat → Nat → Option Nat) => (if x_28275 = (300 : Int32) then (g_X12_death_K128 x_26217 (g_X12_death_L58 a0 J ri rj rq r_14154 y_14156 I_14159 x_14157 n_27225) x_26216) else (if x_26216 < (0 : Int32) then (g_X12_death_K125 x_26217 (g_X12_death_L58 a0 J ri rj rq r_14154 y_14156 I_14159 x_14157 n_27225) ) else (if x_14157 = (0 : Int32) then (g_X12_death_K128 x_26217 (g_X12_death_L58 a0 J ri rj rq r_14154 y_14156 I_14159 x_14157 n_27225) x_26216) else (bnI (g_X12_isAhead x_26217 x_26216 (y_14156) I_14159 J r_14154 rj rq) fun (x_28334 : Int32) (_ : Nat → Int32) (_ : Nat → Int64) (_ : Nat → Nat → Int32) (_ : Nat → Nat → Int64) (_ : Nat → Nat → Option Nat) => (if x_28334 = (0 : Int32) then (g_X12_death_K128 x_26217 (g_X12_death_L58 a0 J ri rj rq r_14154 y_14156 I_14159 x_14157 n_27225) x_26216) else (g_X12_death_K125 x_26217 (g_X12_death_L58 a0 J ri rj rq r_14154 y_14156 I_14159 x_14157 n_27225) ))))))) else (g_X12_death_K128 x_26217 (g_X12_death_L58 a0 J ri rj rq r_14154 y_14156 I_14159 x_14157 n_27225) x_26216))))))
set_option maxRecDepth 100000 in
theorem g_X12_death_L58_e {a0 : Int32} {J : Nat → Int64} {ri : Nat → Nat → Int32} {rj : Nat → Nat → Int64} {rq : Nat → Nat → Option Nat} {r_14154 : Nat → Nat → Int32} {y_14156 : Int32} {I_14159 : Nat → Int32} {x_14157 : Int32} {n_27225 : Nat} {x_26216 : Int32} {x_26217 : Int32} : g_X12_death_L58 a0 J ri rj rq r_14154 y_14156 I_14159 x_14157 (n_27225 + 1) x_26216 x_26217 = (ap1 (ri 384 5) fun (y_27233 : Int32) => (if (y_27233) ≤ x_26217 then (g_X12_death_L140 a0 J ri rj rq I_14159 x_26216 ((40 - ((0 : Int32)).toInt).toNat + 1) (0 : Int32) (0 : Int32) r_14154) else (bnI (g_X12_personAt_c0 x_26217 I_14159 J r_14154 rj rq) fun (x_28204 : Int32) (_ : Nat → Int32) (_ : Nat → Int64) (_ : Nat → Nat → Int32) (_ : Nat → Nat → Int64) (_ : Nat → Nat → Option Nat) => (bnI (g_X12_personAt_c0 a0 I_14159 J r_14154 rj rq) fun (x_28212 : Int32) (_ : Nat → Int32) (_ : Nat → Int64) (_ : Nat → Nat → Int32) (_ : Nat → Nat → Int64) (_ : Nat → Nat → Option Nat) => (if x_28204 = x_28212 then (bnI (g_X12_personAt_c3 x_26217 I_14159 J r_14154 rj rq) fun (x_28275 : Int32) (_ : Nat → Int32) (_ : Nat → Int64) (_ : Nat → Nat → Int32) (_ : Nat → Nat → Int64) (_ : Nat → Nat → Option Nat) => (if x_28275 = (300 : Int32) then (g_X12_death_K128 x_26217 (g_X12_death_L58 a0 J ri rj rq r_14154 y_14156 I_14159 x_14157 n_27225) x_26216) else (if x_26216 < (0 : Int32) then (g_X12_death_K125 x_26217 (g_X12_death_L58 a0 J ri rj rq r_14154 y_14156 I_14159 x_14157 n_27225) ) else (if x_14157 = (0 : Int32) then (g_X12_death_K128 x_26217 (g_X12_death_L58 a0 J ri rj rq r_14154 y_14156 I_14159 x_14157 n_27225) x_26216) else (bnI (g_X12_isAhead x_26217 x_26216 (y_14156) I_14159 J r_14154 rj rq) fun (x_28334 : Int32) (_ : Nat → Int32) (_ : Nat → Int64) (_ : Nat → Nat → Int32) (_ : Nat → Nat → Int64) (_ : Nat → Nat → Option Nat) => (if x_28334 = (0 : Int32) then (g_X12_death_K128 x_26217 (g_X12_death_L58 a0 J ri rj rq r_14154 y_14156 I_14159 x_14157 n_27225) x_26216) else (g_X12_death_K125 x_26217 (g_X12_death_L58 a0 J ri rj rq r_14154 y_14156 I_14159 x_14157 n_27225) ))))))) else (g_X12_death_K128 x_26217 (g_X12_death_L58 a0 J ri rj rq r_14154 y_14156 I_14159 x_14157 n_27225) x_26216)))))) := rfl
set_option maxRecDepth 100000 in
def g_X12_death (a0 : Int32) (I : Nat → Int32) (J : Nat → Int64) (ri : Nat → Nat → Int32) (rj : Nat → Nat → Int64) (rq : Nat → Nat → Option Nat) : Int32 × vM := (bnI (g_X12_isPerson a0 I J ri rj rq) fun (x_1 : Int32) (_ : Nat → Int32) (_ : Nat → Int64) (_ : Nat → Nat → Int32) (_ : Nat → Nat → Int64) (_ : Nat → Nat → Option Nat) => (if x_1 = (0 : Int32) then (g_X12_death_K20 I J ri rj rq ) else (bnI (g_X12_personAt_c3 a0 I J ri rj rq) fun (x_14131 : Int32) (_ : Nat → Int32) (_ : Nat → Int64) (_ : Nat → Nat → Int32) (_ : Nat → Nat → Int64) (_ : Nat → Nat → Option Nat) => (if x_14131 = (300 : Int32) then (g_X12_death_K20 I J ri rj rq ) else (ap1 ((12 : Int32) * a0) fun (x_14148 : Int32) => (ap1 ((740 : Int32) + x_14148) fun (x_14150 : Int32) => (ap1 (x_14150 + (3 : Int32)) fun (x_14152 : Int32) => (ap1 (va_up ri 384 (upd (ri 384) (x_14152).toNatClampNeg (300 : Int32))) fun (r_14154 : Nat → Nat → Int32) => (ap1 (ri 384 0) fun (y_14156 : Int32) => (bnI (g_X12_keysFor (6 : Int32) (y_14156) I J r_14154 rj rq) fun (x_14157 : Int32) (I_14159 : Nat → Int32) (_ : Nat → Int64) (_ : Nat → Nat → Int32) (_ : Nat → Nat → Int64) (_ : Nat → Nat → Option Nat) => (g_X12_death_L58 a0 J ri rj rq r_14154 y_14156 I_14159 x_14157 ((40 - ((0 : Int32)).toInt).toNat + 1) (-1 : Int32) (0 : Int32))))))))))))
set_option maxRecDepth 100000 in
theorem g_X12_death_e {a0 : Int32} {I : Nat → Int32} {J : Nat → Int64} {ri : Nat → Nat → Int32} {rj : Nat → Nat → Int64} {rq : Nat → Nat → Option Nat} : g_X12_death a0 I J ri rj rq = (bnI (g_X12_isPerson a0 I J ri rj rq) fun (x_1 : Int32) (_ : Nat → Int32) (_ : Nat → Int64) (_ : Nat → Nat → Int32) (_ : Nat → Nat → Int64) (_ : Nat → Nat → Option Nat) => (if x_1 = (0 : Int32) then (g_X12_death_K20 I J ri rj rq ) else (bnI (g_X12_personAt_c3 a0 I J ri rj rq) fun (x_14131 : Int32) (_ : Nat → Int32) (_ : Nat → Int64) (_ : Nat → Nat → Int32) (_ : Nat → Nat → Int64) (_ : Nat → Nat → Option Nat) => (if x_14131 = (300 : Int32) then (g_X12_death_K20 I J ri rj rq ) else (ap1 ((12 : Int32) * a0) fun (x_14148 : Int32) => (ap1 ((740 : Int32) + x_14148) fun (x_14150 : Int32) => (ap1 (x_14150 + (3 : Int32)) fun (x_14152 : Int32) => (ap1 (va_up ri 384 (upd (ri 384) (x_14152).toNatClampNeg (300 : Int32))) fun (r_14154 : Nat → Nat → Int32) => (ap1 (ri 384 0) fun (y_14156 : Int32) => (bnI (g_X12_keysFor (6 : Int32) (y_14156) I J r_14154 rj rq) fun (x_14157 : Int32) (I_14159 : Nat → Int32) (_ : Nat → Int64) (_ : Nat → Nat → Int32) (_ : Nat → Nat → Int64) (_ : Nat → Nat → Option Nat) => (g_X12_death_L58 a0 J ri rj rq r_14154 y_14156 I_14159 x_14157 ((40 - ((0 : Int32)).toInt).toNat + 1) (-1 : Int32) (0 : Int32)))))))))))) := rfl
set_option maxHeartbeats 4000000 in
set_option maxRecDepth 100000 in
theorem s_X12_death (l : Launch) (D : va_G) (t : pq_T) (σ : pq_S) (I : Nat → Nat → Int32) (J : Nat → Nat → Int64) (ri : Nat → Nat → Int32) (rj : Nat → Nat → Int64) (rq : Nat → Nat → Option Nat) (sz : Nat) (tg : Nat → Nat) (hSH : SH σ tg) (hG0 : GT tg I ri) (this : Nat) (a0 : Int32) (hL_this : this ∈ σ.1) (hK_this : σ.2.1 this = 12) : MetI l yX12_death (wa yX12_death cX12_death 6 (some .int)) ({ frames := 4, cells := 0, slots := 0, locals := 92 }) [.ref this, .int a0] D t σ (I, J, ri, rj, rq) sz 0 0 (fun (r : Int32) (u : pq_S × pq_M) => ∃ I' : Nat → Nat → Int32, ∃ ri' : Nat → Nat → Int32, u = (σ, I', J, ri', rj, rq) ∧ GM [1403] tg σ I ri I' ri' rq ∧ g_X12_death a0 (vI 12 σ this I) (vJ 12 σ this J) (vR 12 σ this ri) (vL 12 σ this rj) (vQ 12 σ this rq) = (r, (vI 12 σ this I'), (vJ 12 σ this J), (vR 12 σ this ri'), (vL 12 σ this rj), (vQ 12 σ this rq)) ∧ FR 12 tg σ this (I, J, ri, rj, rq) (I', J, ri', rj, rq)) := by
  refine Met.ofW (cc := cX12_death) (maxL := 6) (ret := (some .int)) (by decide +kernel) rfl ?_
  intro p e s m args below meth c s₁ B hml hv
  obtain ⟨rfl, hsz, hP, hK, hD0, hN⟩ := hv
  have hx := B.exec
  have hb := B.bytes
  have hr := B.returns
  have hts := atoms_spec (ws := (wa yX12_death cX12_death 6 (some .int))) B.pre
  have hown : s.vm.findClass RX12 = some m.cls := findClass_of_methodNamed B.named
  have hlocks := B.notSynchronized
  subst hsz
  have hD : va_D (pq_B t σ (I, J, ri, rj, rq) s.heap.size) (pq_P t σ (I, J, ri, rj, rq)) := hD0.self
  generalize hAe : pq_B t σ (I, J, ri, rj, rq) s.heap.size = A at hD ⊢
  have hA : ∀ q : Nat, s.heap.size ≤ q → A q := fun q h => by rw [← hAe]; exact Or.inr h
  have hS : va_S A s.heap s.heap [] := va_S.rf
  have hG : GM [1403] tg σ I ri I ri rq := ⟨hG0, fun _ _ _ => rfl, fun _ _ _ _ _ => rfl, fun _ _ _ _ _ _ => rfl⟩
  have hl := lv_entry ([.ref this, .int a0]) (n := 6) (Nat.le_of_ble_eq_true rfl)
  rw [lg_entry_eq]
  generalize (lg_sl ([.ref this, .int a0]) ++ List.replicate (6 - (lg_sl ([.ref this, .int a0])).length) Slot.unset).toArray = ls at hl ⊢
  have hl : lv_has ls 6 [(0, .ref this), (1, .int a0)] := hl
  refine q_gen (fun Q hQ => ?_)
  have go : ∀ (H : Heap) (locs : List Loc) (ls : Array Slot), va_P D vwCl (pq_P t σ (I, J, ri, rj, rq)) H → va_D A (pq_P t σ (I, J, ri, rj, rq)) → va_S A s.heap H locs → lv_has ls 6 [(0, .ref this), (1, .int a0)] → W p l e ({ frames := 4, cells := 0, slots := 0, locals := 92 } : Room) s m (List.toArray ([.ref this, .int a0] : List Value)) below meth c H locs 0 0 Q (F0 m 0 ls []) := by
    intro H locs ls hP hD hS hl
    have hO_this : this = vo σ 12 this := rfl
    have hVT : VT 12 σ tg this := vt_12 hSH hL_this hK_this
    have hFr : FR 12 tg σ this (I, J, ri, rj, rq) (I, J, ri, rj, rq) := fr_rf
    obtain ⟨F, hF0⟩ : ∃ F, F = g_X12_death a0 (vI 12 σ this I) (vJ 12 σ this J) (vR 12 σ this ri) (vL 12 σ this rj) (vQ 12 σ this rq) := ⟨_, rfl⟩
    have hF := hF0.trans g_X12_death_e
    refine lv_aload_n hx hb dX12_death_0 rfl (lv_at hl 0 rfl) ?_
    refine lv_iload_n hx hb dX12_death_1 rfl (lv_at hl 1 rfl) ?_
    refine pk_i (va_runV (As := [.int a0]) (rest := []) ⟨hx, hb, hml, hown, hts⟩ (s_X12_isPerson l D t σ I J ri rj rq H.size tg hSH hG.1 this a0 hL_this hK_this) (cwV 1 hts (tw_V tw_425 tw_426 tw_427 tw_5 tw_428) rfl rfl rfl cv_yX12_isPerson_1 ⟨Nat.le_of_ble_eq_true rfl, Nat.le_of_ble_eq_true rfl⟩) ⟨pq_blind, pq_recv hK hP hL_this hK_this (by decide +kernel) rfl, pq_pre hK hN hP hD⟩ rfl rfl hl.1 rfl (lv_room (Nat.le_of_ble_eq_true rfl)) dX12_death_2 ⟨Nat.le_of_ble_eq_true rfl, Nat.le_of_ble_eq_true rfl⟩) hD hS hA (fun x_1 σ1 μ1 H locs hw_2 hP hD hS => ?_)
    obtain ⟨hu_3, hfn_6, hr_5⟩ := hw_2
    obtain ⟨hu_3a, hu_3b⟩ := Prod.mk.inj hu_3
    rw [hu_3a, hu_3b] at hP hD
    replace hF := hF.trans (bn_n hfn_6)
    have h_8 : rg x_1 0 1 := by rcases hr_5 with ⟨q, -⟩ | ⟨q, -⟩ <;> rw [q] <;> exact ⟨by decide +kernel, by decide +kernel⟩
    have uh_8 := h_8.1
    have vh_8 := h_8.2
    have K_14116 : ∀  (H : Heap) (locs : List Loc) (ls : Array Slot), F = g_X12_death_K20 (vI 12 σ this I) (vJ 12 σ this J) (vR 12 σ this ri) (vL 12 σ this rj) (vQ 12 σ this rq)  → FR 12 tg σ this (I, J, ri, rj, rq) (I, J, ri, rj, rq) → GM [1403] tg σ I ri I ri rq → va_P D vwCl (pq_P t σ (I, J, ri, rj, rq)) H → va_D A (pq_P t σ (I, J, ri, rj, rq)) → va_S A s.heap H locs → lv_has ls 6 [] → W p l e ({ frames := 4, cells := 0, slots := 0, locals := 92 } : Room) s m (List.toArray ([.ref this, .int a0] : List Value)) below meth c H locs 0 0 Q (F0 m 20 ls []) := by
      intro H locs ls hF hFr hG hP hD hS hl
      replace hF := hF.trans g_X12_death_K20_e
      refine lv_iconst (v := (-1)) hx hb dX12_death_20 (by decide +kernel) ?_
      subst hQ
      exact W.iret (v := (-1)) hx hb hr (fun t1 ht hW => ⟨⟨(-1), (σ, I, J, ri, rj, rq), rfl, ⟨I, ri, rfl, hG, (hF0.symm.trans hF), hFr⟩, by rw [ht]; exact hP, va_K.moved hW.alike hK, hD⟩, hS.F ht⟩) hS.2.2 dX12_death_21
    refine lv_if_eq (tgt := 20) hx hb dX12_death_5 (by decide +kernel) (fun c_14117 => ?_) (fun c_14117 => ?_)
    · replace hF := hF.trans (if_pos c_14117)
      have f_14124 := (hr_5.resolve_left (fun q => absurd (q.1.symm.trans c_14117) (by decide +kernel))).2
      have tc_14125 : (x_1).toInt = 0 := congrArg Int32.toInt c_14117
      have h_14126 : rg x_1 0 0 := rg_and h_8 (rg_of_eq c_14117 (rg_k (0 : Int32) 0 rfl)) (by decide +kernel)
      have uh_14126 := h_14126.1
      have vh_14126 := h_14126.2
      exact K_14116 _ _ _ hF hFr hG hP hD hS (lv_sub hl [] rfl)
    · replace hF := hF.trans (if_neg c_14117)
      have f_14127 := (hr_5.resolve_right (fun q => c_14117 q.1)).2
      have uf_14127 := f_14127.1
      have vf_14127 := f_14127.2
      have tc_14128 : (x_1).toInt ≠ 0 := fun q => c_14117 (Int32.toInt_inj.mp q)
      have h_14129 : rg x_1 1 1 := rg_ne c_14117 h_8 0 rfl (by decide +kernel)
      have uh_14129 := h_14129.1
      have vh_14129 := h_14129.2
      refine lv_aload_n hx hb dX12_death_8 rfl (lv_at hl 0 rfl) ?_
      refine lv_iload_n hx hb dX12_death_9 rfl (lv_at hl 1 rfl) ?_
      refine lv_iconst (v := 3) hx hb dX12_death_10 (by decide +kernel) ?_
      obtain ⟨w_14130, hR_w_14130, hL_w_14130, hK_w_14130, hN_w_14130, hT_w_14130⟩ := sh_a hSH 384 (ci := 12) (kd := 13) (len := 12720) rfl (by decide +kernel) hL_this hK_this
      have hO_w_14130 : w_14130 = vrow σ 384 this := vo_k (c := 12) hO_this hR_w_14130
      refine pk_i (va_runV (As := [.int a0, .int 3]) (rest := []) ⟨hx, hb, hml, hown, hts⟩ (s_X12_personAt_c3 l D t σ I J ri rj rq H.size tg hSH hG.1 this a0 hL_this hK_this (rg_w f_14127 (by decide +kernel)) w_14130 hR_w_14130 hL_w_14130 hK_w_14130 hN_w_14130 hT_w_14130) (cwV 2 hts (tw_V tw_437 tw_438 tw_439 tw_5 tw_440) rfl rfl rfl cv_yX12_personAt_2 ⟨Nat.le_of_ble_eq_true rfl, Nat.le_of_ble_eq_true rfl⟩) ⟨pq_blind, pq_recv hK hP hL_this hK_this (by decide +kernel) rfl, pq_pre hK hN hP hD⟩ rfl rfl hl.1 rfl (lv_room (Nat.le_of_ble_eq_true rfl)) dX12_death_11 ⟨Nat.le_of_ble_eq_true rfl, Nat.le_of_ble_eq_true rfl⟩) hD hS hA (fun x_14131 σ1 μ1 H locs hw_14132 hP hD hS => ?_)
      obtain ⟨hu_14133, hp_14136, hp_14137, hfn_14138, hr_14135⟩ := hw_14132
      obtain ⟨hu_14133a, hu_14133b⟩ := Prod.mk.inj hu_14133
      rw [hu_14133a, hu_14133b] at hP hD
      replace hF := hF.trans (bn_n hfn_14138)
      have tt_14140 := hp_14137
      refine lv_sipush (v := 300) hx hb dX12_death_14 (by decide +kernel) ?_
      refine lv_icmp_ne (tgt := 22) hx hb dX12_death_17 (by decide +kernel) (fun c_14141 => ?_) (fun c_14141 => ?_)
      · replace hF := hF.trans (if_neg c_14141)
        have tc_14146 : (x_14131).toInt ≠ 300 := fun q => c_14141 (Int32.toInt_inj.mp q)
        have h_14147 : rg x_14131 0 299 := rg_ne c_14141 hr_14135 300 rfl (by decide +kernel)
        have uh_14147 := h_14147.1
        have vh_14147 := h_14147.2
        refine lv_aload_n hx hb dX12_death_22 rfl (lv_at hl 0 rfl) ?_
        refine pg_f (v := .ref w_14130) (C := RX12) (T := TX12) (N := 31) hx hb hts (tw_i inlX12) hown hK hP hL_this hK_this (by decide +kernel) rfl 0 (by decide +kernel) (hts _ (tw_c tw_176)) (pq_hv rfl hR_w_14130) dX12_death_23 ?_
        refine lv_sipush (v := 740) hx hb dX12_death_26 (by decide +kernel) ?_
        refine lv_bipush (v := 12) hx hb dX12_death_29 (by decide +kernel) ?_
        refine lv_iload_n hx hb dX12_death_31 rfl (lv_at hl 1 rfl) ?_
        refine lv_imul hx hb dX12_death_32 ?_
        refine lv_topi (fun x_14148 ex_14148 => ?_)
        replace hF := hF.trans (ap_n ex_14148)
        have h_14149 : rg x_14148 0 468 := rg_of_eq ex_14148 (rg_mul (rg_k (12 : Int32) 12 rfl) f_14127 (by decide +kernel))
        have uh_14149 := h_14149.1
        have vh_14149 := h_14149.2
        have tx_14148 : (x_14148).toInt = 12 * (a0).toInt := by rw [ex_14148]; exact i_mul_rg (a2 := 12) (b2 := (a0).toInt) rfl rfl (rg_k (12 : Int32) 12 rfl) f_14127 (by decide +kernel)
        refine lv_iadd hx hb dX12_death_33 ?_
        refine lv_topi (fun x_14150 ex_14150 => ?_)
        replace hF := hF.trans (ap_n ex_14150)
        have h_14151 : rg x_14150 740 1208 := rg_of_eq ex_14150 (rg_add (rg_k (740 : Int32) 740 rfl) h_14149 (by decide +kernel))
        have uh_14151 := h_14151.1
        have vh_14151 := h_14151.2
        have tx_14150 : (x_14150).toInt = 740 + (x_14148).toInt := by rw [ex_14150]; exact i_add_rg (a2 := 740) (b2 := (x_14148).toInt) rfl rfl (rg_k (740 : Int32) 740 rfl) h_14149 (by decide +kernel)
        refine lv_iconst (v := 3) hx hb dX12_death_34 (by decide +kernel) ?_
        refine lv_iadd hx hb dX12_death_35 ?_
        refine lv_topi (fun x_14152 ex_14152 => ?_)
        replace hF := hF.trans (ap_n ex_14152)
        have h_14153 : rg x_14152 743 1211 := rg_of_eq ex_14152 (rg_add h_14151 (rg_k (3 : Int32) 3 rfl) (by decide +kernel))
        have uh_14153 := h_14153.1
        have vh_14153 := h_14153.2
        have tx_14152 : (x_14152).toInt = (x_14150).toInt + 3 := by rw [ex_14152]; exact i_add_rg (a2 := (x_14150).toInt) (b2 := 3) rfl rfl h_14151 (rg_k (3 : Int32) 3 rfl) (by decide +kernel)
        refine lv_sipush (v := 300) hx hb dX12_death_36 (by decide +kernel) ?_
        refine pt_i hx hb hK hP hD hS hL_w_14130 hK_w_14130 hN_w_14130 (rg_in h_14153 (by decide +kernel)) dX12_death_39 (fun r_14154 H locs er_14154 hP hD hS => ?_)
        replace hFr := fr_R hFr hO_w_14130 (by decide +kernel) er_14154
        replace hF := hF.trans (ap_n (vR_st hVT hO_w_14130 (by decide +kernel) er_14154))
        have hG := GM.wp hG hT_w_14130 (by decide +kernel) er_14154 (zn_PERSON (c := a0.toNatClampNeg) (k := 3) (by have z_i := clampE x_14152; have z_0 := clampE a0; omega) (rg_cl1 f_14127 (by decide +kernel)) (by decide +kernel)) (rg_w (rg_k (300 : Int32) 300 rfl) (by decide +kernel)) (by decide +kernel) (by decide +kernel)
        refine lv_iconst (v := (-1)) hx hb dX12_death_40 (by decide +kernel) ?_
        refine lv_istore_n (lv' := [(2, .int (-1)), (0, .ref this), (1, .int a0)]) hx hb dX12_death_41 rfl hl (by decide +kernel) rfl (fun ls hl => ?_)
        refine lv_aload_n hx hb dX12_death_42 rfl (lv_at hl 1 rfl) ?_
        refine lv_bipush (v := 6) hx hb dX12_death_43 (by decide +kernel) ?_
        refine lv_aload_n hx hb dX12_death_45 rfl (lv_at hl 1 rfl) ?_
        refine pg_f (v := .ref w_14130) (C := RX12) (T := TX12) (N := 31) hx hb hts (tw_i inlX12) hown hK hP hL_this hK_this (by decide +kernel) rfl 0 (by decide +kernel) (hts _ (tw_c tw_176)) (pq_hv rfl hR_w_14130) dX12_death_46 ?_
        refine lv_iconst (v := 0) hx hb dX12_death_49 (by decide +kernel) ?_
        refine pl_i hx hb hK hP hL_w_14130 hK_w_14130 hN_w_14130 (vp_in_iff.mpr (by decide +kernel)) dX12_death_50 ?_
        refine lv_tov (ri w_14130 0) (hG.2.2.1 w_14130 hT_w_14130 0 (by decide +kernel) (by decide +kernel)) ?_
        have h_14155 : rg (ri w_14130 0) 0 600 := GM.z0 hG0 (by rw [hT_w_14130]; decide) (i := 0) (k := 0) (by decide +kernel) rfl
        have uh_14155 := h_14155.1
        have vh_14155 := h_14155.2
        replace hF := hF.trans (ap_n (vR_r hO_w_14130 (by decide +kernel) rfl))
        refine pk_i (va_runV (As := [.int 6, .int (ri w_14130 0)]) (rest := []) ⟨hx, hb, hml, hown, hts⟩ (s_X12_keysFor l D t σ I J r_14154 rj rq H.size tg hSH hG.1 this (6 : Int32) (ri w_14130 0) hL_this hK_this w_14130 hR_w_14130 hL_w_14130 hK_w_14130 hN_w_14130 hT_w_14130) (cwV 2 hts (tw_V tw_503 tw_504 tw_505 tw_5 tw_506) rfl rfl rfl cv_yX12_keysFor_2 ⟨Nat.le_of_ble_eq_true rfl, Nat.le_of_ble_eq_true rfl⟩) ⟨pq_blind, pq_recv hK hP hL_this hK_this (by decide +kernel) rfl, pq_pre hK hN hP hD⟩ rfl rfl hl.1 rfl (lv_room (Nat.le_of_ble_eq_true rfl)) dX12_death_51 ⟨Nat.le_of_ble_eq_true rfl, Nat.le_of_ble_eq_true rfl⟩) hD hS hA (fun x_14157 σ1 μ1 H locs hw_14158 hP hD hS => ?_)
        obtain ⟨I_14159, hu_14160, hg_14161, hfn_14163, hfr_14164, hr_14162⟩ := hw_14158
        obtain ⟨hu_14160a, hu_14160b⟩ := Prod.mk.inj hu_14160
        rw [hu_14160a, hu_14160b] at hP hD
        replace hF := hF.trans (bn_n hfn_14163)
        replace hFr := fr_tr hFr hfr_14164
        have hG := GM.tr hG hg_14161 (by decide +kernel)
        have h_14165 : rg x_14157 0 1 := by rcases hr_14162 with ⟨q, -⟩ | ⟨q, -⟩ <;> rw [q] <;> exact ⟨by decide +kernel, by decide +kernel⟩
        have uh_14165 := h_14165.1
        have vh_14165 := h_14165.2
        refine lv_istore_n (lv' := [(3, .int x_14157), (2, .int (-1)), (0, .ref this), (1, .int a0)]) hx hb dX12_death_54 rfl hl (by decide +kernel) rfl (fun ls hl => ?_)
        refine lv_iconst (v := 0) hx hb dX12_death_55 (by decide +kernel) ?_
        refine lv_istore (lv' := [(4, .int 0), (3, .int x_14157), (2, .int (-1)), (0, .ref this), (1, .int a0)]) hx hb dX12_death_56 hl (by decide +kernel) rfl (fun ls hl => ?_)
        have L_27226 : ∀ (n_27225 : Nat) (x_26216 : Int32) (x_26217 : Int32) (H : Heap) (locs : List Loc) (ls : Array Slot), rg x_26216 (-1) 39 → rg x_26217 0 40 → (40 - (x_26217).toInt).toNat < n_27225 → F = g_X12_death_L58 a0 (vJ 12 σ this J) (vR 12 σ this ri) (vL 12 σ this rj) (vQ 12 σ this rq) (vR 12 σ this r_14154) (ri w_14130 0) (vI 12 σ this I_14159) x_14157 n_27225 x_26216 x_26217 → FR 12 tg σ this (I, J, ri, rj, rq) (I_14159, J, r_14154, rj, rq) → GM [1403] tg σ I ri I_14159 r_14154 rq → va_P D vwCl (pq_P t σ (I_14159, J, r_14154, rj, rq)) H → va_D A (pq_P t σ (I_14159, J, r_14154, rj, rq)) → va_S A s.heap H locs → lv_has ls 6 [(0, .ref this), (1, .int a0), (2, .int x_26216), (3, .int x_14157), (4, .int x_26217)] → W p l e ({ frames := 4, cells := 0, slots := 0, locals := 92 } : Room) s m (List.toArray ([.ref this, .int a0] : List Value)) below meth c H locs 0 0 Q (F0 m 58 ls []) := by
          intro n_27225
          induction n_27225 with
          | zero => intro x_26216 x_26217 H locs ls h_27230 h_27231 hm_27224 hF hFr hG hP hD hS hl; exact absurd hm_27224 (Nat.not_lt_zero _)
          | succ n_27225 ih_27227 =>
            intro x_26216 x_26217 H locs ls h_27230 h_27231 hm_27224 hF hFr hG hP hD hS hl
            have uh_27230 := h_27230.1
            have vh_27230 := h_27230.2
            have uh_27231 := h_27231.1
            have vh_27231 := h_27231.2
            replace hF := hF.trans g_X12_death_L58_e
            refine lv_iload hx hb dX12_death_58 (lv_at hl 4 rfl) ?_
            refine lv_aload_n hx hb dX12_death_60 rfl (lv_at hl 0 rfl) ?_
            refine pg_f (v := .ref w_14130) (C := RX12) (T := TX12) (N := 31) hx hb hts (tw_i inlX12) hown hK hP hL_this hK_this (by decide +kernel) rfl 0 (by decide +kernel) (hts _ (tw_c tw_176)) (pq_hv rfl hR_w_14130) dX12_death_61 ?_
            refine lv_iconst (v := 5) hx hb dX12_death_64 (by decide +kernel) ?_
            refine pl_i hx hb hK hP hL_w_14130 hK_w_14130 hN_w_14130 (vp_in_iff.mpr (by decide +kernel)) dX12_death_65 ?_
            refine lv_tov (ri w_14130 5) (hG.2.2.1 w_14130 hT_w_14130 5 (by decide +kernel) (by decide +kernel)) ?_
            have h_27232 : rg (ri w_14130 5) 0 40 := GM.z0 hG0 (by rw [hT_w_14130]; decide) (i := 5) (k := 5) (by decide +kernel) rfl
            have uh_27232 := h_27232.1
            have vh_27232 := h_27232.2
            replace hF := hF.trans (ap_n (vR_r hO_w_14130 (by decide +kernel) rfl))
            refine lv_icmp_ge (tgt := 134) hx hb dX12_death_66 (by decide +kernel) (fun c_27234 => ?_) (fun c_27234 => ?_)
            · replace hF := hF.trans (if_pos c_27234)
              have tc_27239 : (ri w_14130 5).toInt ≤ (x_26217).toInt := Int32.le_iff_toInt_le.mp c_27234
              refine lv_iconst (v := 0) hx hb dX12_death_134 (by decide +kernel) ?_
              refine lv_istore (lv' := [(4, .int 0), (0, .ref this), (1, .int a0), (2, .int x_26216), (3, .int x_14157)]) hx hb dX12_death_135 hl (by decide +kernel) rfl (fun ls hl => ?_)
              refine lv_iconst (v := 0) hx hb dX12_death_137 (by decide +kernel) ?_
              refine lv_istore (lv' := [(5, .int 0), (4, .int 0), (0, .ref this), (1, .int a0), (2, .int x_26216), (3, .int x_14157)]) hx hb dX12_death_138 hl (by decide +kernel) rfl (fun ls hl => ?_)
              have L_28145 : ∀ (n_28144 : Nat) (x_28109 : Int32) (x_28110 : Int32) (ri_28111 : Nat → Nat → Int32) (H : Heap) (locs : List Loc) (ls : Array Slot), rg x_28110 0 40 → (40 - (x_28110).toInt).toNat < n_28144 → F = g_X12_death_L140 a0 (vJ 12 σ this J) (vR 12 σ this ri) (vL 12 σ this rj) (vQ 12 σ this rq) (vI 12 σ this I_14159) x_26216 n_28144 x_28109 x_28110 (vR 12 σ this ri_28111) → FR 12 tg σ this (I, J, ri, rj, rq) (I_14159, J, ri_28111, rj, rq) → GM [1403] tg σ I ri I_14159 ri_28111 rq → va_P D vwCl (pq_P t σ (I_14159, J, ri_28111, rj, rq)) H → va_D A (pq_P t σ (I_14159, J, ri_28111, rj, rq)) → va_S A s.heap H locs → lv_has ls 6 [(0, .ref this), (1, .int a0), (2, .int x_26216), (4, .int x_28109), (5, .int x_28110)] → W p l e ({ frames := 4, cells := 0, slots := 0, locals := 92 } : Room) s m (List.toArray ([.ref this, .int a0] : List Value)) below meth c H locs 0 0 Q (F0 m 140 ls []) := by
                intro n_28144
                induction n_28144 with
                | zero => intro x_28109 x_28110 ri_28111 H locs ls h_28148 hm_28143 hF hFr hG hP hD hS hl; exact absurd hm_28143 (Nat.not_lt_zero _)
                | succ n_28144 ih_28146 =>
                  intro x_28109 x_28110 ri_28111 H locs ls h_28148 hm_28143 hF hFr hG hP hD hS hl
                  have uh_28148 := h_28148.1
                  have vh_28148 := h_28148.2
                  replace hF := hF.trans g_X12_death_L140_e
                  refine lv_iload hx hb dX12_death_140 (lv_at hl 4 rfl) ?_
                  refine lv_aload_n hx hb dX12_death_142 rfl (lv_at hl 0 rfl) ?_
                  refine pg_f (v := .ref w_14130) (C := RX12) (T := TX12) (N := 31) hx hb hts (tw_i inlX12) hown hK hP hL_this hK_this (by decide +kernel) rfl 0 (by decide +kernel) (hts _ (tw_c tw_176)) (pq_hv rfl hR_w_14130) dX12_death_143 ?_
                  refine lv_iconst (v := 2) hx hb dX12_death_146 (by decide +kernel) ?_
                  refine pl_i hx hb hK hP hL_w_14130 hK_w_14130 hN_w_14130 (vp_in_iff.mpr (by decide +kernel)) dX12_death_147 ?_
                  refine lv_tov (ri w_14130 2) (hG.2.2.1 w_14130 hT_w_14130 2 (by decide +kernel) (by decide +kernel)) ?_
                  have h_28149 : rg (ri w_14130 2) 0 40 := GM.z0 hG0 (by rw [hT_w_14130]; decide) (i := 2) (k := 2) (by decide +kernel) rfl
                  have uh_28149 := h_28149.1
                  have vh_28149 := h_28149.2
                  replace hF := hF.trans (ap_n (vR_r hO_w_14130 (by decide +kernel) rfl))
                  refine lv_icmp_ge (tgt := 192) hx hb dX12_death_148 (by decide +kernel) (fun c_28151 => ?_) (fun c_28151 => ?_)
                  · replace hF := hF.trans (if_pos c_28151)
                    have tc_28156 : (ri w_14130 2).toInt ≤ (x_28110).toInt := Int32.le_iff_toInt_le.mp c_28151
                    refine lv_iload hx hb dX12_death_192 (lv_at hl 3 rfl) ?_
                    subst hQ
                    exact W.iret (v := x_28109) hx hb hr (fun t1 ht hW => ⟨⟨x_28109, (σ, I_14159, J, ri_28111, rj, rq), rfl, ⟨I_14159, ri_28111, rfl, hG, (hF0.symm.trans hF), hFr⟩, by rw [ht]; exact hP, va_K.moved hW.alike hK, hD⟩, hS.F ht⟩) hS.2.2 dX12_death_194
                  · replace hF := hF.trans (if_neg c_28151)
                    have tc_28157 : (x_28110).toInt < (ri w_14130 2).toInt := Int32.lt_iff_toInt_lt.mp (nle c_28151)
                    have h_28158 : rg x_28110 0 39 := rg_lt1 (nle c_28151) h_28148 h_28149 (by decide +kernel)
                    have uh_28158 := h_28158.1
                    have vh_28158 := h_28158.2
                    have h_28159 : rg (ri w_14130 2) 1 40 := rg_lt2 (nle c_28151) h_28148 h_28149 (by decide +kernel)
                    have uh_28159 := h_28159.1
                    have vh_28159 := h_28159.2
                    refine lv_aload_n hx hb dX12_death_151 rfl (lv_at hl 0 rfl) ?_
                    refine lv_iload hx hb dX12_death_152 (lv_at hl 4 rfl) ?_
                    refine lv_bipush (v := 14) hx hb dX12_death_154 (by decide +kernel) ?_
                    refine pk_i (va_runV (As := [.int x_28110, .int 14]) (rest := []) ⟨hx, hb, hml, hown, hts⟩ (s_X12_cellAt_c14 l D t σ I_14159 J ri_28111 rj rq H.size tg hSH hG.1 this x_28110 hL_this hK_this (rg_w h_28158 (by decide +kernel))) (cwV 2 hts (tw_V tw_361 tw_362 tw_363 tw_5 tw_364) rfl rfl rfl cv_yX12_cellAt_2 ⟨Nat.le_of_ble_eq_true rfl, Nat.le_of_ble_eq_true rfl⟩) ⟨pq_blind, pq_recv hK hP hL_this hK_this (by decide +kernel) rfl, pq_pre hK hN hP hD⟩ rfl rfl hl.1 rfl (lv_room (Nat.le_of_ble_eq_true rfl)) dX12_death_156 ⟨Nat.le_of_ble_eq_true rfl, Nat.le_of_ble_eq_true rfl⟩) hD hS hA (fun x_28160 σ1 μ1 H locs hw_28161 hP hD hS => ?_)
                    obtain ⟨hu_28162, hfn_28165, hr_28164⟩ := hw_28161
                    obtain ⟨hu_28162a, hu_28162b⟩ := Prod.mk.inj hu_28162
                    rw [hu_28162a, hu_28162b] at hP hD
                    replace hF := hF.trans (bn_n hfn_28165)
                    refine lv_iload_n hx hb dX12_death_159 rfl (lv_at hl 1 rfl) ?_
                    have K_28183 : ∀  (x_28179 : Int32) (ri_28180 : Nat → Nat → Int32) (H : Heap) (locs : List Loc) (ls : Array Slot), F = g_X12_death_K186 x_28110 (g_X12_death_L140 a0 (vJ 12 σ this J) (vR 12 σ this ri) (vL 12 σ this rj) (vQ 12 σ this rq) (vI 12 σ this I_14159) x_26216 n_28144) x_28179 (vR 12 σ this ri_28180) → FR 12 tg σ this (I, J, ri, rj, rq) (I_14159, J, ri_28180, rj, rq) → GM [1403] tg σ I ri I_14159 ri_28180 rq → va_P D vwCl (pq_P t σ (I_14159, J, ri_28180, rj, rq)) H → va_D A (pq_P t σ (I_14159, J, ri_28180, rj, rq)) → va_S A s.heap H locs → lv_has ls 6 [(0, .ref this), (1, .int a0), (2, .int x_26216), (4, .int x_28179), (5, .int x_28110)] → W p l e ({ frames := 4, cells := 0, slots := 0, locals := 92 } : Room) s m (List.toArray ([.ref this, .int a0] : List Value)) below meth c H locs 0 0 Q (F0 m 186 ls []) := by
                      intro x_28179 ri_28180 H locs ls hF hFr hG hP hD hS hl
                      replace hF := hF.trans g_X12_death_K186_e
                      obtain ⟨x_28184, ex_28184⟩ : ∃ y : Int32, y = x_28110 + Int32.ofInt 1 := ⟨_, rfl⟩
                      replace hF := hF.trans (ap_n ex_28184)
                      have h_28185 : rg x_28184 1 40 := rg_of_eq ex_28184 (rg_add h_28158 (rg_k (Int32.ofInt 1) 1 rfl) (by decide +kernel))
                      have uh_28185 := h_28185.1
                      have vh_28185 := h_28185.2
                      have tx_28184 : (x_28184).toInt = (x_28110).toInt + 1 := by rw [ex_28184]; exact i_add_rg (a2 := (x_28110).toInt) (b2 := 1) rfl rfl h_28158 (rg_k (Int32.ofInt 1) 1 rfl) (by decide +kernel)
                      refine lv_iinc (v := x_28184) (lv' := [(5, .int x_28184), (0, .ref this), (1, .int a0), (2, .int x_26216), (4, .int x_28179)]) hx hb dX12_death_186 hl (k := 4) rfl ex_28184.symm (by decide +kernel) rfl (fun ls hl => ?_)
                      refine lv_goto (tgt := 140) hx hb dX12_death_189 (by decide +kernel) ?_
                      exact ih_28146 x_28179 x_28184 ri_28180 _ _ _ (rg_w h_28185 (by decide +kernel)) (ms_up 1 hm_28143 ex_28184 rfl (by decide +kernel) h_28158 (by decide +kernel) (by decide +kernel)) hF hFr hG hP hD hS (lv_sub hl [1, 2, 3, 4, 0] rfl)
                    refine lv_icmp_eq (tgt := 166) hx hb dX12_death_160 (by decide +kernel) (fun c_28186 => ?_) (fun c_28186 => ?_)
                    · replace hF := hF.trans (if_pos c_28186)
                      have tc_28190 : (x_28160).toInt = (a0).toInt := congrArg Int32.toInt c_28186
                      have h_28191 : rg x_28160 0 39 := rg_and hr_28164 (rg_of_eq c_28186 f_14127) (by decide +kernel)
                      have uh_28191 := h_28191.1
                      have vh_28191 := h_28191.2
                      refine lv_aload_n hx hb dX12_death_166 rfl (lv_at hl 0 rfl) ?_
                      refine pg_f (v := .ref w_14130) (C := RX12) (T := TX12) (N := 31) hx hb hts (tw_i inlX12) hown hK hP hL_this hK_this (by decide +kernel) rfl 0 (by decide +kernel) (hts _ (tw_c tw_176)) (pq_hv rfl hR_w_14130) dX12_death_167 ?_
                      refine lv_bipush (v := 100) hx hb dX12_death_170 (by decide +kernel) ?_
                      refine lv_bipush (v := 16) hx hb dX12_death_172 (by decide +kernel) ?_
                      refine lv_iload hx hb dX12_death_174 (lv_at hl 4 rfl) ?_
                      refine lv_imul hx hb dX12_death_176 ?_
                      refine lv_topi (fun x_28192 ex_28192 => ?_)
                      replace hF := hF.trans (ap_n ex_28192)
                      have h_28193 : rg x_28192 0 624 := rg_of_eq ex_28192 (rg_mul (rg_k (16 : Int32) 16 rfl) h_28158 (by decide +kernel))
                      have uh_28193 := h_28193.1
                      have vh_28193 := h_28193.2
                      have tx_28192 : (x_28192).toInt = 16 * (x_28110).toInt := by rw [ex_28192]; exact i_mul_rg (a2 := 16) (b2 := (x_28110).toInt) rfl rfl (rg_k (16 : Int32) 16 rfl) h_28158 (by decide +kernel)
                      refine lv_iadd hx hb dX12_death_177 ?_
                      refine lv_topi (fun x_28194 ex_28194 => ?_)
                      replace hF := hF.trans (ap_n ex_28194)
                      have h_28195 : rg x_28194 100 724 := rg_of_eq ex_28194 (rg_add (rg_k (100 : Int32) 100 rfl) h_28193 (by decide +kernel))
                      have uh_28195 := h_28195.1
                      have vh_28195 := h_28195.2
                      have tx_28194 : (x_28194).toInt = 100 + (x_28192).toInt := by rw [ex_28194]; exact i_add_rg (a2 := 100) (b2 := (x_28192).toInt) rfl rfl (rg_k (100 : Int32) 100 rfl) h_28193 (by decide +kernel)
                      refine lv_bipush (v := 14) hx hb dX12_death_178 (by decide +kernel) ?_
                      refine lv_iadd hx hb dX12_death_180 ?_
                      refine lv_topi (fun x_28196 ex_28196 => ?_)
                      replace hF := hF.trans (ap_n ex_28196)
                      have h_28197 : rg x_28196 114 738 := rg_of_eq ex_28196 (rg_add h_28195 (rg_k (14 : Int32) 14 rfl) (by decide +kernel))
                      have uh_28197 := h_28197.1
                      have vh_28197 := h_28197.2
                      have tx_28196 : (x_28196).toInt = (x_28194).toInt + 14 := by rw [ex_28196]; exact i_add_rg (a2 := (x_28194).toInt) (b2 := 14) rfl rfl h_28195 (rg_k (14 : Int32) 14 rfl) (by decide +kernel)
                      refine lv_iload_n hx hb dX12_death_181 rfl (lv_at hl 2 rfl) ?_
                      refine pt_i hx hb hK hP hD hS hL_w_14130 hK_w_14130 hN_w_14130 (rg_in h_28197 (by decide +kernel)) dX12_death_182 (fun r_28198 H locs er_28198 hP hD hS => ?_)
                      replace hFr := fr_R hFr hO_w_14130 (by decide +kernel) er_28198
                      replace hF := hF.trans (ap_n (vR_st hVT hO_w_14130 (by decide +kernel) er_28198))
                      have hG := GM.wz hG hT_w_14130 (by decide +kernel) er_28198 (zn_CELL (c := x_28110.toNatClampNeg) (k := 14) (by have z_i := clampE x_28196; have z_0 := clampE x_28110; omega) (rg_cl1 h_28158 (by decide +kernel)) (by decide +kernel)) rfl (rg_w h_27230 (by decide +kernel)) (by decide +kernel)
                      obtain ⟨x_28199, ex_28199⟩ : ∃ y : Int32, y = x_28109 + Int32.ofInt 1 := ⟨_, rfl⟩
                      replace hF := hF.trans (ap_n ex_28199)
                      refine lv_iinc (v := x_28199) (lv' := [(4, .int x_28199), (0, .ref this), (1, .int a0), (2, .int x_26216), (5, .int x_28110)]) hx hb dX12_death_183 hl (k := 3) rfl ex_28199.symm (by decide +kernel) rfl (fun ls hl => ?_)
                      exact K_28183 x_28199 r_28198 _ _ _ hF hFr hG hP hD hS (lv_sub hl [1, 2, 3, 0, 4] rfl)
                    · replace hF := hF.trans (if_neg c_28186)
                      have tc_28200 : (x_28160).toInt ≠ (a0).toInt := fun q => c_28186 (Int32.toInt_inj.mp q)
                      refine lv_goto (tgt := 186) hx hb dX12_death_163 (by decide +kernel) ?_
                      exact K_28183 x_28109 ri_28111 _ _ _ hF hFr hG hP hD hS (lv_sub hl [0, 1, 2, 3, 4] rfl)
              exact L_28145 _ (0 : Int32) (0 : Int32) r_14154 _ _ _ (rg_w (rg_k (0 : Int32) 0 rfl) (by decide +kernel)) (Nat.lt_succ_self _) hF hFr hG hP hD hS (lv_sub hl [2, 3, 4, 1, 0] rfl)
            · replace hF := hF.trans (if_neg c_27234)
              have tc_28201 : (x_26217).toInt < (ri w_14130 5).toInt := Int32.lt_iff_toInt_lt.mp (nle c_27234)
              have h_28202 : rg x_26217 0 39 := rg_lt1 (nle c_27234) h_27231 h_27232 (by decide +kernel)
              have uh_28202 := h_28202.1
              have vh_28202 := h_28202.2
              have h_28203 : rg (ri w_14130 5) 1 40 := rg_lt2 (nle c_27234) h_27231 h_27232 (by decide +kernel)
              have uh_28203 := h_28203.1
              have vh_28203 := h_28203.2
              refine lv_aload_n hx hb dX12_death_69 rfl (lv_at hl 0 rfl) ?_
              refine lv_iload hx hb dX12_death_70 (lv_at hl 4 rfl) ?_
              refine lv_iconst (v := 0) hx hb dX12_death_72 (by decide +kernel) ?_
              refine pk_i (va_runV (As := [.int x_26217, .int 0]) (rest := []) ⟨hx, hb, hml, hown, hts⟩ (s_X12_personAt_c0 l D t σ I_14159 J r_14154 rj rq H.size tg hSH hG.1 this x_26217 hL_this hK_this (rg_w h_28202 (by decide +kernel)) w_14130 hR_w_14130 hL_w_14130 hK_w_14130 hN_w_14130 hT_w_14130) (cwV 2 hts (tw_V tw_437 tw_438 tw_439 tw_5 tw_440) rfl rfl rfl cv_yX12_personAt_2 ⟨Nat.le_of_ble_eq_true rfl, Nat.le_of_ble_eq_true rfl⟩) ⟨pq_blind, pq_recv hK hP hL_this hK_this (by decide +kernel) rfl, pq_pre hK hN hP hD⟩ rfl rfl hl.1 rfl (lv_room (Nat.le_of_ble_eq_true rfl)) dX12_death_73 ⟨Nat.le_of_ble_eq_true rfl, Nat.le_of_ble_eq_true rfl⟩) hD hS hA (fun x_28204 σ1 μ1 H locs hw_28205 hP hD hS => ?_)
              obtain ⟨hu_28206, hp_28209, hfn_28210⟩ := hw_28205
              obtain ⟨hu_28206a, hu_28206b⟩ := Prod.mk.inj hu_28206
              rw [hu_28206a, hu_28206b] at hP hD
              replace hF := hF.trans (bn_n hfn_28210)
              refine lv_aload_n hx hb dX12_death_76 rfl (lv_at hl 0 rfl) ?_
              refine lv_iload_n hx hb dX12_death_77 rfl (lv_at hl 1 rfl) ?_
              refine lv_iconst (v := 0) hx hb dX12_death_78 (by decide +kernel) ?_
              refine pk_i (va_runV (As := [.int a0, .int 0]) (rest := [.int x_28204]) ⟨hx, hb, hml, hown, hts⟩ (s_X12_personAt_c0 l D t σ I_14159 J r_14154 rj rq H.size tg hSH hG.1 this a0 hL_this hK_this (rg_w f_14127 (by decide +kernel)) w_14130 hR_w_14130 hL_w_14130 hK_w_14130 hN_w_14130 hT_w_14130) (cwV 2 hts (tw_V tw_437 tw_438 tw_439 tw_5 tw_440) rfl rfl rfl cv_yX12_personAt_2 ⟨Nat.le_of_ble_eq_true rfl, Nat.le_of_ble_eq_true rfl⟩) ⟨pq_blind, pq_recv hK hP hL_this hK_this (by decide +kernel) rfl, pq_pre hK hN hP hD⟩ rfl rfl hl.1 rfl (lv_room (Nat.le_of_ble_eq_true rfl)) dX12_death_79 ⟨Nat.le_of_ble_eq_true rfl, Nat.le_of_ble_eq_true rfl⟩) hD hS hA (fun x_28212 σ1 μ1 H locs hw_28213 hP hD hS => ?_)
              obtain ⟨hu_28214, hp_28217, hfn_28218⟩ := hw_28213
              obtain ⟨hu_28214a, hu_28214b⟩ := Prod.mk.inj hu_28214
              rw [hu_28214a, hu_28214b] at hP hD
              replace hF := hF.trans (bn_n hfn_28218)
              have K_28265 : ∀  (x_28261 : Int32) (H : Heap) (locs : List Loc) (ls : Array Slot), rg x_28261 (-1) 39 → F = g_X12_death_K128 x_26217 (g_X12_death_L58 a0 (vJ 12 σ this J) (vR 12 σ this ri) (vL 12 σ this rj) (vQ 12 σ this rq) (vR 12 σ this r_14154) (ri w_14130 0) (vI 12 σ this I_14159) x_14157 n_27225) x_28261 → FR 12 tg σ this (I, J, ri, rj, rq) (I_14159, J, r_14154, rj, rq) → GM [1403] tg σ I ri I_14159 r_14154 rq → va_P D vwCl (pq_P t σ (I_14159, J, r_14154, rj, rq)) H → va_D A (pq_P t σ (I_14159, J, r_14154, rj, rq)) → va_S A s.heap H locs → lv_has ls 6 [(0, .ref this), (1, .int a0), (2, .int x_28261), (3, .int x_14157), (4, .int x_26217)] → W p l e ({ frames := 4, cells := 0, slots := 0, locals := 92 } : Room) s m (List.toArray ([.ref this, .int a0] : List Value)) below meth c H locs 0 0 Q (F0 m 128 ls []) := by
                intro x_28261 H locs ls h_28267 hF hFr hG hP hD hS hl
                have uh_28267 := h_28267.1
                have vh_28267 := h_28267.2
                replace hF := hF.trans g_X12_death_K128_e
                obtain ⟨x_28268, ex_28268⟩ : ∃ y : Int32, y = x_26217 + Int32.ofInt 1 := ⟨_, rfl⟩
                replace hF := hF.trans (ap_n ex_28268)
                have h_28269 : rg x_28268 1 40 := rg_of_eq ex_28268 (rg_add h_28202 (rg_k (Int32.ofInt 1) 1 rfl) (by decide +kernel))
                have uh_28269 := h_28269.1
                have vh_28269 := h_28269.2
                have tx_28268 : (x_28268).toInt = (x_26217).toInt + 1 := by rw [ex_28268]; exact i_add_rg (a2 := (x_26217).toInt) (b2 := 1) rfl rfl h_28202 (rg_k (Int32.ofInt 1) 1 rfl) (by decide +kernel)
                refine lv_iinc (v := x_28268) (lv' := [(4, .int x_28268), (0, .ref this), (1, .int a0), (2, .int x_28261), (3, .int x_14157)]) hx hb dX12_death_128 hl (k := 4) rfl ex_28268.symm (by decide +kernel) rfl (fun ls hl => ?_)
                refine lv_goto (tgt := 58) hx hb dX12_death_131 (by decide +kernel) ?_
                exact ih_27227 x_28261 x_28268 _ _ _ (rg_w h_28267 (by decide +kernel)) (rg_w h_28269 (by decide +kernel)) (ms_up 1 hm_27224 ex_28268 rfl (by decide +kernel) h_28202 (by decide +kernel) (by decide +kernel)) hF hFr hG hP hD hS (lv_sub hl [1, 2, 3, 4, 0] rfl)
              refine lv_icmp_ne (tgt := 128) hx hb dX12_death_82 (by decide +kernel) (fun c_28270 => ?_) (fun c_28270 => ?_)
              · replace hF := hF.trans (if_neg c_28270)
                have tc_28273 : (x_28204).toInt ≠ (x_28212).toInt := fun q => c_28270 (Int32.toInt_inj.mp q)
                exact K_28265 x_26216 _ _ _ (rg_w h_27230 (by decide +kernel)) hF hFr hG hP hD hS (lv_sub hl [0, 1, 2, 3, 4] rfl)
              · replace hF := hF.trans (if_pos c_28270)
                have tc_28274 : (x_28204).toInt = (x_28212).toInt := congrArg Int32.toInt c_28270
                refine lv_aload_n hx hb dX12_death_85 rfl (lv_at hl 0 rfl) ?_
                refine lv_iload hx hb dX12_death_86 (lv_at hl 4 rfl) ?_
                refine lv_iconst (v := 3) hx hb dX12_death_88 (by decide +kernel) ?_
                refine pk_i (va_runV (As := [.int x_26217, .int 3]) (rest := []) ⟨hx, hb, hml, hown, hts⟩ (s_X12_personAt_c3 l D t σ I_14159 J r_14154 rj rq H.size tg hSH hG.1 this x_26217 hL_this hK_this (rg_w h_28202 (by decide +kernel)) w_14130 hR_w_14130 hL_w_14130 hK_w_14130 hN_w_14130 hT_w_14130) (cwV 2 hts (tw_V tw_437 tw_438 tw_439 tw_5 tw_440) rfl rfl rfl cv_yX12_personAt_2 ⟨Nat.le_of_ble_eq_true rfl, Nat.le_of_ble_eq_true rfl⟩) ⟨pq_blind, pq_recv hK hP hL_this hK_this (by decide +kernel) rfl, pq_pre hK hN hP hD⟩ rfl rfl hl.1 rfl (lv_room (Nat.le_of_ble_eq_true rfl)) dX12_death_89 ⟨Nat.le_of_ble_eq_true rfl, Nat.le_of_ble_eq_true rfl⟩) hD hS hA (fun x_28275 σ1 μ1 H locs hw_28276 hP hD hS => ?_)
                obtain ⟨hu_28277, hp_28280, hp_28281, hfn_28282, hr_28279⟩ := hw_28276
                obtain ⟨hu_28277a, hu_28277b⟩ := Prod.mk.inj hu_28277
                rw [hu_28277a, hu_28277b] at hP hD
                replace hF := hF.trans (bn_n hfn_28282)
                have tt_28284 := hp_28281
                refine lv_sipush (v := 300) hx hb dX12_death_92 (by decide +kernel) ?_
                refine lv_icmp_ne (tgt := 101) hx hb dX12_death_95 (by decide +kernel) (fun c_28285 => ?_) (fun c_28285 => ?_)
                · replace hF := hF.trans (if_neg c_28285)
                  have tc_28290 : (x_28275).toInt ≠ 300 := fun q => c_28285 (Int32.toInt_inj.mp q)
                  have h_28291 : rg x_28275 0 299 := rg_ne c_28285 hr_28279 300 rfl (by decide +kernel)
                  have uh_28291 := h_28291.1
                  have vh_28291 := h_28291.2
                  refine lv_iload_n hx hb dX12_death_101 rfl (lv_at hl 2 rfl) ?_
                  have K_28315 : ∀  (H : Heap) (locs : List Loc) (ls : Array Slot), F = g_X12_death_K125 x_26217 (g_X12_death_L58 a0 (vJ 12 σ this J) (vR 12 σ this ri) (vL 12 σ this rj) (vQ 12 σ this rq) (vR 12 σ this r_14154) (ri w_14130 0) (vI 12 σ this I_14159) x_14157 n_27225)  → FR 12 tg σ this (I, J, ri, rj, rq) (I_14159, J, r_14154, rj, rq) → GM [1403] tg σ I ri I_14159 r_14154 rq → va_P D vwCl (pq_P t σ (I_14159, J, r_14154, rj, rq)) H → va_D A (pq_P t σ (I_14159, J, r_14154, rj, rq)) → va_S A s.heap H locs → lv_has ls 6 [(0, .ref this), (1, .int a0), (3, .int x_14157), (4, .int x_26217)] → W p l e ({ frames := 4, cells := 0, slots := 0, locals := 92 } : Room) s m (List.toArray ([.ref this, .int a0] : List Value)) below meth c H locs 0 0 Q (F0 m 125 ls []) := by
                    intro H locs ls hF hFr hG hP hD hS hl
                    replace hF := hF.trans g_X12_death_K125_e
                    refine lv_iload hx hb dX12_death_125 (lv_at hl 3 rfl) ?_
                    refine lv_istore_n (lv' := [(2, .int x_26217), (0, .ref this), (1, .int a0), (3, .int x_14157), (4, .int x_26217)]) hx hb dX12_death_127 rfl hl (by decide +kernel) rfl (fun ls hl => ?_)
                    exact K_28265 x_26217 _ _ _ (rg_w h_28202 (by decide +kernel)) hF hFr hG hP hD hS (lv_sub hl [1, 2, 0, 3, 4] rfl)
                  refine lv_if_lt (tgt := 125) hx hb dX12_death_102 (by decide +kernel) (fun c_28316 => ?_) (fun c_28316 => ?_)
                  · replace hF := hF.trans (if_pos c_28316)
                    have tc_28321 : (x_26216).toInt < 0 := Int32.lt_iff_toInt_lt.mp c_28316
                    have h_28322 : rg x_26216 (-1) (-1) := rg_lt1 c_28316 h_27230 (rg_k (0 : Int32) 0 rfl) (by decide +kernel)
                    have uh_28322 := h_28322.1
                    have vh_28322 := h_28322.2
                    exact K_28315 _ _ _ hF hFr hG hP hD hS (lv_sub hl [0, 1, 3, 4] rfl)
                  · replace hF := hF.trans (if_neg c_28316)
                    have tc_28323 : 0 ≤ (x_26216).toInt := Int32.le_iff_toInt_le.mp (nlt c_28316)
                    have h_28324 : rg x_26216 0 39 := rg_le2 (nlt c_28316) (rg_k (0 : Int32) 0 rfl) h_27230 (by decide +kernel)
                    have uh_28324 := h_28324.1
                    have vh_28324 := h_28324.2
                    refine lv_iload_n hx hb dX12_death_105 rfl (lv_at hl 3 rfl) ?_
                    refine lv_if_eq (tgt := 128) hx hb dX12_death_106 (by decide +kernel) (fun c_28325 => ?_) (fun c_28325 => ?_)
                    · replace hF := hF.trans (if_pos c_28325)
                      have tc_28330 : (x_14157).toInt = 0 := congrArg Int32.toInt c_28325
                      have h_28331 : rg x_14157 0 0 := rg_and h_14165 (rg_of_eq c_28325 (rg_k (0 : Int32) 0 rfl)) (by decide +kernel)
                      have uh_28331 := h_28331.1
                      have vh_28331 := h_28331.2
                      exact K_28265 x_26216 _ _ _ (rg_w h_28324 (by decide +kernel)) hF hFr hG hP hD hS (lv_sub hl [0, 1, 2, 3, 4] rfl)
                    · replace hF := hF.trans (if_neg c_28325)
                      have tc_28332 : (x_14157).toInt ≠ 0 := fun q => c_28325 (Int32.toInt_inj.mp q)
                      have h_28333 : rg x_14157 1 1 := rg_ne c_28325 h_14165 0 rfl (by decide +kernel)
                      have uh_28333 := h_28333.1
                      have vh_28333 := h_28333.2
                      refine lv_aload_n hx hb dX12_death_109 rfl (lv_at hl 0 rfl) ?_
                      refine lv_iload hx hb dX12_death_110 (lv_at hl 4 rfl) ?_
                      refine lv_iload_n hx hb dX12_death_112 rfl (lv_at hl 2 rfl) ?_
                      refine lv_aload_n hx hb dX12_death_113 rfl (lv_at hl 0 rfl) ?_
                      refine pg_f (v := .ref w_14130) (C := RX12) (T := TX12) (N := 31) hx hb hts (tw_i inlX12) hown hK hP hL_this hK_this (by decide +kernel) rfl 0 (by decide +kernel) (hts _ (tw_c tw_176)) (pq_hv rfl hR_w_14130) dX12_death_114 ?_
                      refine lv_iconst (v := 0) hx hb dX12_death_117 (by decide +kernel) ?_
                      refine pl_i hx hb hK hP hL_w_14130 hK_w_14130 hN_w_14130 (vp_in_iff.mpr (by decide +kernel)) dX12_death_118 ?_
                      refine lv_tov (ri w_14130 0) (hG.2.2.1 w_14130 hT_w_14130 0 (by decide +kernel) (by decide +kernel)) ?_
                      refine pk_i (va_runV (As := [.int x_26217, .int x_26216, .int (ri w_14130 0)]) (rest := []) ⟨hx, hb, hml, hown, hts⟩ (s_X12_isAhead l D t σ I_14159 J r_14154 rj rq H.size tg hSH hG.1 this x_26217 x_26216 (ri w_14130 0) hL_this hK_this (rg_w h_28202 (by decide +kernel)) (rg_w h_28324 (by decide +kernel)) w_14130 hR_w_14130 hL_w_14130 hK_w_14130 hN_w_14130 hT_w_14130) (cwV 3 hts (tw_V tw_524 tw_525 tw_526 tw_5 tw_527) rfl rfl rfl cv_yX12_isAhead_3 ⟨Nat.le_of_ble_eq_true rfl, Nat.le_of_ble_eq_true rfl⟩) ⟨pq_blind, pq_recv hK hP hL_this hK_this (by decide +kernel) rfl, pq_pre hK hN hP hD⟩ rfl rfl hl.1 rfl (lv_room (Nat.le_of_ble_eq_true rfl)) dX12_death_119 ⟨Nat.le_of_ble_eq_true rfl, Nat.le_of_ble_eq_true rfl⟩) hD hS hA (fun x_28334 σ1 μ1 H locs hw_28335 hP hD hS => ?_)
                      obtain ⟨hu_28336, hfn_28339, hr_28338⟩ := hw_28335
                      obtain ⟨hu_28336a, hu_28336b⟩ := Prod.mk.inj hu_28336
                      rw [hu_28336a, hu_28336b] at hP hD
                      replace hF := hF.trans (bn_n hfn_28339)
                      have h_28341 : rg x_28334 0 1 := by rcases hr_28338 with ⟨q, -⟩ | ⟨q, -⟩ <;> rw [q] <;> exact ⟨by decide +kernel, by decide +kernel⟩
                      have uh_28341 := h_28341.1
                      have vh_28341 := h_28341.2
                      refine lv_if_eq (tgt := 128) hx hb dX12_death_122 (by decide +kernel) (fun c_28342 => ?_) (fun c_28342 => ?_)
                      · replace hF := hF.trans (if_pos c_28342)
                        have tc_28347 : (x_28334).toInt = 0 := congrArg Int32.toInt c_28342
                        have h_28348 : rg x_28334 0 0 := rg_and h_28341 (rg_of_eq c_28342 (rg_k (0 : Int32) 0 rfl)) (by decide +kernel)
                        have uh_28348 := h_28348.1
                        have vh_28348 := h_28348.2
                        exact K_28265 x_26216 _ _ _ (rg_w h_28324 (by decide +kernel)) hF hFr hG hP hD hS (lv_sub hl [0, 1, 2, 3, 4] rfl)
                      · replace hF := hF.trans (if_neg c_28342)
                        have tc_28349 : (x_28334).toInt ≠ 0 := fun q => c_28342 (Int32.toInt_inj.mp q)
                        have h_28350 : rg x_28334 1 1 := rg_ne c_28342 h_28341 0 rfl (by decide +kernel)
                        have uh_28350 := h_28350.1
                        have vh_28350 := h_28350.2
                        exact K_28315 _ _ _ hF hFr hG hP hD hS (lv_sub hl [0, 1, 3, 4] rfl)
                · replace hF := hF.trans (if_pos c_28285)
                  have tc_28351 : (x_28275).toInt = 300 := congrArg Int32.toInt c_28285
                  have h_28352 : rg x_28275 300 300 := rg_and hr_28279 (rg_of_eq c_28285 (rg_k (300 : Int32) 300 rfl)) (by decide +kernel)
                  have uh_28352 := h_28352.1
                  have vh_28352 := h_28352.2
                  refine lv_goto (tgt := 128) hx hb dX12_death_98 (by decide +kernel) ?_
                  exact K_28265 x_26216 _ _ _ (rg_w h_27230 (by decide +kernel)) hF hFr hG hP hD hS (lv_sub hl [0, 1, 2, 3, 4] rfl)
        exact L_27226 _ (-1 : Int32) (0 : Int32) _ _ _ (rg_w (rg_k (-1 : Int32) (-1) rfl) (by decide +kernel)) (rg_w (rg_k (0 : Int32) 0 rfl) (by decide +kernel)) (Nat.lt_succ_self _) hF hFr hG hP hD hS (lv_sub hl [3, 4, 2, 1, 0] rfl)
      · replace hF := hF.trans (if_pos c_14141)
        have tc_28353 : (x_14131).toInt = 300 := congrArg Int32.toInt c_14141
        have h_28354 : rg x_14131 300 300 := rg_and hr_14135 (rg_of_eq c_14141 (rg_k (300 : Int32) 300 rfl)) (by decide +kernel)
        have uh_28354 := h_28354.1
        have vh_28354 := h_28354.2
        exact K_14116 _ _ _ hF hFr hG hP hD hS (lv_sub hl [] rfl)
  exact go _ _ _ hP hD hS hl
