theorem dX3_addForce_0 : decode cX3_addForce 0 = .ok (.aload_n 0, 1) := oc_42 (by decide +kernel)
theorem dX3_addForce_1 : decode cX3_addForce 1 = .ok (.getfield 37, 3) := oc_180 (a := 0) (b := 37) (by decide +kernel)
theorem dX3_addForce_4 : decode cX3_addForce 4 = .ok (.bipush 30, 2) := oc_16 (a := 30) (by decide +kernel)
theorem dX3_addForce_6 : decode cX3_addForce 6 = .ok (.if_icmp .lt 5, 3) := oc_161 (a := 0) (b := 5) (by decide +kernel)
theorem dX3_addForce_11 : decode cX3_addForce 11 = .ok (.aload_n 0, 1) := oc_42 (by decide +kernel)
theorem dX3_addForce_12 : decode cX3_addForce 12 = .ok (.getfield 17, 3) := oc_180 (a := 0) (b := 17) (by decide +kernel)
theorem dX3_addForce_15 : decode cX3_addForce 15 = .ok (.aload_n 0, 1) := oc_42 (by decide +kernel)
theorem dX3_addForce_16 : decode cX3_addForce 16 = .ok (.getfield 37, 3) := oc_180 (a := 0) (b := 37) (by decide +kernel)
theorem dX3_addForce_19 : decode cX3_addForce 19 = .ok (.iload_n 1, 1) := oc_27 (by decide +kernel)
theorem dX3_addForce_20 : decode cX3_addForce 20 = .ok (.iastore, 1) := oc_79 (by decide +kernel)
theorem dX3_addForce_21 : decode cX3_addForce 21 = .ok (.aload_n 0, 1) := oc_42 (by decide +kernel)
theorem dX3_addForce_22 : decode cX3_addForce 22 = .ok (.getfield 21, 3) := oc_180 (a := 0) (b := 21) (by decide +kernel)
theorem dX3_addForce_25 : decode cX3_addForce 25 = .ok (.aload_n 0, 1) := oc_42 (by decide +kernel)
theorem dX3_addForce_26 : decode cX3_addForce 26 = .ok (.getfield 37, 3) := oc_180 (a := 0) (b := 37) (by decide +kernel)
theorem dX3_addForce_29 : decode cX3_addForce 29 = .ok (.iload_n 2, 1) := oc_28 (by decide +kernel)
theorem dX3_addForce_30 : decode cX3_addForce 30 = .ok (.iastore, 1) := oc_79 (by decide +kernel)
theorem dX3_addForce_31 : decode cX3_addForce 31 = .ok (.aload_n 0, 1) := oc_42 (by decide +kernel)
theorem dX3_addForce_32 : decode cX3_addForce 32 = .ok (.getfield 24, 3) := oc_180 (a := 0) (b := 24) (by decide +kernel)
theorem dX3_addForce_35 : decode cX3_addForce 35 = .ok (.aload_n 0, 1) := oc_42 (by decide +kernel)
theorem dX3_addForce_36 : decode cX3_addForce 36 = .ok (.getfield 37, 3) := oc_180 (a := 0) (b := 37) (by decide +kernel)
theorem dX3_addForce_39 : decode cX3_addForce 39 = .ok (.iload_n 3, 1) := oc_29 (by decide +kernel)
theorem dX3_addForce_40 : decode cX3_addForce 40 = .ok (.iastore, 1) := oc_79 (by decide +kernel)
theorem dX3_addForce_41 : decode cX3_addForce 41 = .ok (.aload_n 0, 1) := oc_42 (by decide +kernel)
theorem dX3_addForce_42 : decode cX3_addForce 42 = .ok (.dup, 1) := oc_89 (by decide +kernel)
theorem dX3_addForce_43 : decode cX3_addForce 43 = .ok (.getfield 37, 3) := oc_180 (a := 0) (b := 37) (by decide +kernel)
theorem dX3_addForce_46 : decode cX3_addForce 46 = .ok (.iconst 1, 1) := oc_4 (by decide +kernel)
theorem dX3_addForce_47 : decode cX3_addForce 47 = .ok (.iadd, 1) := oc_96 (by decide +kernel)
theorem dX3_addForce_48 : decode cX3_addForce 48 = .ok (.putfield 37, 3) := oc_181 (a := 0) (b := 37) (by decide +kernel)
theorem dX3_addForce_51 : decode cX3_addForce 51 = .ok (.aload_n 0, 1) := oc_42 (by decide +kernel)
theorem dX3_addForce_52 : decode cX3_addForce 52 = .ok (.getfield 37, 3) := oc_180 (a := 0) (b := 37) (by decide +kernel)
theorem dX3_addForce_55 : decode cX3_addForce 55 = .ok (.iconst 1, 1) := oc_4 (by decide +kernel)
theorem dX3_addForce_56 : decode cX3_addForce 56 = .ok (.isub, 1) := oc_100 (by decide +kernel)
theorem dX3_addForce_57 : decode cX3_addForce 57 = .ok (.ireturn, 1) := oc_172 (by decide +kernel)
theorem dX3_addForce_9 : decode cX3_addForce 9 = .ok (.iconst (-1), 1) := oc_2 (by decide +kernel)
theorem dX3_addForce_10 : decode cX3_addForce 10 = .ok (.ireturn, 1) := oc_172 (by decide +kernel)
theorem dX8_firstOf_0 : decode cX8_firstOf 0 = .ok (.iconst 0, 1) := oc_3 (by decide +kernel)
theorem dX8_firstOf_1 : decode cX8_firstOf 1 = .ok (.istore_n 2, 1) := oc_61 (by decide +kernel)
theorem dX8_firstOf_2 : decode cX8_firstOf 2 = .ok (.iload_n 2, 1) := oc_28 (by decide +kernel)
theorem dX8_firstOf_3 : decode cX8_firstOf 3 = .ok (.aload_n 0, 1) := oc_42 (by decide +kernel)
theorem tw_478 : Cond.fieldLink RX8 21 "RingsUnder$Text" "clauses" "I" ∈ wsL_law := sg_20 _ (List.mem_of_getElem? (i := 22) rfl)
theorem dX8_firstOf_4 : decode cX8_firstOf 4 = .ok (.getfield 21, 3) := oc_180 (a := 0) (b := 21) (by decide +kernel)
theorem dX8_firstOf_7 : decode cX8_firstOf 7 = .ok (.if_icmp .ge 21, 3) := oc_162 (a := 0) (b := 21) (by decide +kernel)
theorem dX8_firstOf_28 : decode cX8_firstOf 28 = .ok (.iconst (-1), 1) := oc_2 (by decide +kernel)
theorem dX8_firstOf_29 : decode cX8_firstOf 29 = .ok (.ireturn, 1) := oc_172 (by decide +kernel)
theorem dX8_firstOf_10 : decode cX8_firstOf 10 = .ok (.aload_n 0, 1) := oc_42 (by decide +kernel)
theorem tw_169 : Cond.fieldLink RX8 9 "RingsUnder$Text" "sorts" "[I" ∈ wsL_law := sg_8 _ (List.mem_of_getElem? (i := 1) rfl)
theorem dX8_firstOf_11 : decode cX8_firstOf 11 = .ok (.getfield 9, 3) := oc_180 (a := 0) (b := 9) (by decide +kernel)
theorem dX8_firstOf_14 : decode cX8_firstOf 14 = .ok (.iload_n 2, 1) := oc_28 (by decide +kernel)
theorem dX8_firstOf_15 : decode cX8_firstOf 15 = .ok (.iaload, 1) := oc_46 (by decide +kernel)
theorem dX8_firstOf_16 : decode cX8_firstOf 16 = .ok (.iload_n 1, 1) := oc_27 (by decide +kernel)
theorem dX8_firstOf_17 : decode cX8_firstOf 17 = .ok (.if_icmp .ne 5, 3) := oc_160 (a := 0) (b := 5) (by decide +kernel)
theorem dX8_firstOf_22 : decode cX8_firstOf 22 = .ok (.iinc 2 1, 3) := oc_132 (b := 1) (by decide +kernel)
theorem dX8_firstOf_25 : decode cX8_firstOf 25 = .ok (.goto (-23), 3) := oc_167 (a := 255) (b := 233) (by decide +kernel)
theorem dX8_firstOf_20 : decode cX8_firstOf 20 = .ok (.iload_n 2, 1) := oc_28 (by decide +kernel)
theorem dX8_firstOf_21 : decode cX8_firstOf 21 = .ok (.ireturn, 1) := oc_172 (by decide +kernel)
theorem dX3_textFor_0 : decode cX3_textFor 0 = .ok (.aload_n 0, 1) := oc_42 (by decide +kernel)
theorem dX3_textFor_1 : decode cX3_textFor 1 = .ok (.getfield 37, 3) := oc_180 (a := 0) (b := 37) (by decide +kernel)
theorem dX3_textFor_4 : decode cX3_textFor 4 = .ok (.iconst 1, 1) := oc_4 (by decide +kernel)
theorem dX3_textFor_5 : decode cX3_textFor 5 = .ok (.isub, 1) := oc_100 (by decide +kernel)
theorem dX3_textFor_6 : decode cX3_textFor 6 = .ok (.istore_n 3, 1) := oc_62 (by decide +kernel)
theorem dX3_textFor_7 : decode cX3_textFor 7 = .ok (.iload_n 3, 1) := oc_29 (by decide +kernel)
theorem dX3_textFor_8 : decode cX3_textFor 8 = .ok (.ifCond .lt 60, 3) := oc_155 (a := 0) (b := 60) (by decide +kernel)
theorem dX3_textFor_68 : decode cX3_textFor 68 = .ok (.aconst_null, 1) := oc_1 (by decide +kernel)
theorem dX3_textFor_69 : decode cX3_textFor 69 = .ok (.areturn, 1) := oc_176 (by decide +kernel)
theorem dX3_textFor_11 : decode cX3_textFor 11 = .ok (.aload_n 0, 1) := oc_42 (by decide +kernel)
theorem dX3_textFor_12 : decode cX3_textFor 12 = .ok (.getfield 21, 3) := oc_180 (a := 0) (b := 21) (by decide +kernel)
theorem dX3_textFor_15 : decode cX3_textFor 15 = .ok (.iload_n 3, 1) := oc_29 (by decide +kernel)
theorem dX3_textFor_16 : decode cX3_textFor 16 = .ok (.iaload, 1) := oc_46 (by decide +kernel)
theorem dX3_textFor_17 : decode cX3_textFor 17 = .ok (.iload_n 2, 1) := oc_28 (by decide +kernel)
theorem dX3_textFor_62 : decode cX3_textFor 62 = .ok (.iinc 3 (-1), 3) := oc_132 (b := 255) (by decide +kernel)
theorem dX3_textFor_65 : decode cX3_textFor 65 = .ok (.goto (-58), 3) := oc_167 (a := 255) (b := 198) (by decide +kernel)
theorem dX3_textFor_18 : decode cX3_textFor 18 = .ok (.if_icmp .gt 44, 3) := oc_163 (a := 0) (b := 44) (by decide +kernel)
theorem dX3_textFor_21 : decode cX3_textFor 21 = .ok (.iload_n 2, 1) := oc_28 (by decide +kernel)
theorem dX3_textFor_22 : decode cX3_textFor 22 = .ok (.aload_n 0, 1) := oc_42 (by decide +kernel)
theorem dX3_textFor_23 : decode cX3_textFor 23 = .ok (.getfield 24, 3) := oc_180 (a := 0) (b := 24) (by decide +kernel)
theorem dX3_textFor_26 : decode cX3_textFor 26 = .ok (.iload_n 3, 1) := oc_29 (by decide +kernel)
theorem dX3_textFor_27 : decode cX3_textFor 27 = .ok (.iaload, 1) := oc_46 (by decide +kernel)
theorem dX3_textFor_28 : decode cX3_textFor 28 = .ok (.if_icmp .gt 34, 3) := oc_163 (a := 0) (b := 34) (by decide +kernel)
theorem dX3_textFor_31 : decode cX3_textFor 31 = .ok (.aload_n 0, 1) := oc_42 (by decide +kernel)
theorem dX3_textFor_32 : decode cX3_textFor 32 = .ok (.getfield 11, 3) := oc_180 (a := 0) (b := 11) (by decide +kernel)
theorem dX3_textFor_35 : decode cX3_textFor 35 = .ok (.aload_n 0, 1) := oc_42 (by decide +kernel)
theorem dX3_textFor_36 : decode cX3_textFor 36 = .ok (.getfield 17, 3) := oc_180 (a := 0) (b := 17) (by decide +kernel)
theorem dX3_textFor_39 : decode cX3_textFor 39 = .ok (.iload_n 3, 1) := oc_29 (by decide +kernel)
theorem dX3_textFor_40 : decode cX3_textFor 40 = .ok (.iaload, 1) := oc_46 (by decide +kernel)
theorem dX3_textFor_41 : decode cX3_textFor 41 = .ok (.aaload, 1) := oc_50 (by decide +kernel)
theorem dX3_textFor_42 : decode cX3_textFor 42 = .ok (.astore 4, 2) := oc_58 (by decide +kernel)
theorem dX3_textFor_44 : decode cX3_textFor 44 = .ok (.aload 4, 2) := oc_25 (by decide +kernel)
theorem dX3_textFor_46 : decode cX3_textFor 46 = .ok (.ifnull 16, 3) := oc_198 (a := 0) (b := 16) (by decide +kernel)
theorem dX3_textFor_49 : decode cX3_textFor 49 = .ok (.aload 4, 2) := oc_25 (by decide +kernel)
theorem dX3_textFor_51 : decode cX3_textFor 51 = .ok (.iload_n 1, 1) := oc_27 (by decide +kernel)
theorem tw_474 : Cond.methodLink RX3 44 yX8_firstOf ∈ wsL_law := sg_20 _ (List.mem_of_getElem? (i := 18) rfl)
theorem tw_475 : Cond.instanceMethod yX8_firstOf ∈ wsL_law := sg_20 _ (List.mem_of_getElem? (i := 19) rfl)
theorem tw_476 : Cond.selects RX8 yX8_firstOf yX8_firstOf ∈ wsL_law := sg_20 _ (List.mem_of_getElem? (i := 20) rfl)
theorem tw_159 : Cond.initialized RX8 ∈ wsL_law := sg_7 _ (List.mem_of_getElem? (i := 15) rfl)
theorem tw_477 : Cond.code yX8_firstOf cX8_firstOf 3 (some .int) ∈ wsL_law := sg_20 _ (List.mem_of_getElem? (i := 21) rfl)
theorem dX3_textFor_52 : decode cX3_textFor 52 = .ok (.invokevirtual 44, 3) := oc_182 (a := 0) (b := 44) (by decide +kernel)
theorem dX3_textFor_55 : decode cX3_textFor 55 = .ok (.iconst (-1), 1) := oc_2 (by decide +kernel)
theorem dX3_textFor_56 : decode cX3_textFor 56 = .ok (.if_icmp .eq 6, 3) := oc_159 (a := 0) (b := 6) (by decide +kernel)
theorem dX3_textFor_59 : decode cX3_textFor 59 = .ok (.aload 4, 2) := oc_25 (by decide +kernel)
theorem dX3_textFor_61 : decode cX3_textFor 61 = .ok (.areturn, 1) := oc_176 (by decide +kernel)
theorem dX8_numberOf_0 : decode cX8_numberOf 0 = .ok (.aload_n 0, 1) := oc_42 (by decide +kernel)
theorem dX8_numberOf_1 : decode cX8_numberOf 1 = .ok (.iload_n 1, 1) := oc_27 (by decide +kernel)
theorem tw_1003 : Cond.methodLink RX8 25 yX8_firstOf ∈ wsL_law := sg_42 _ (List.mem_of_getElem? (i := 19) rfl)
theorem dX8_numberOf_2 : decode cX8_numberOf 2 = .ok (.invokevirtual 25, 3) := oc_182 (a := 0) (b := 25) (by decide +kernel)
theorem dX8_numberOf_5 : decode cX8_numberOf 5 = .ok (.istore_n 3, 1) := oc_62 (by decide +kernel)
theorem dX8_numberOf_6 : decode cX8_numberOf 6 = .ok (.iload_n 3, 1) := oc_29 (by decide +kernel)
theorem dX8_numberOf_7 : decode cX8_numberOf 7 = .ok (.iconst (-1), 1) := oc_2 (by decide +kernel)
theorem dX8_numberOf_8 : decode cX8_numberOf 8 = .ok (.if_icmp .ne 7, 3) := oc_160 (a := 0) (b := 7) (by decide +kernel)
theorem dX8_numberOf_15 : decode cX8_numberOf 15 = .ok (.aload_n 0, 1) := oc_42 (by decide +kernel)
theorem tw_171 : Cond.fieldLink RX8 18 "RingsUnder$Text" "code" "[I" ∈ wsL_law := sg_8 _ (List.mem_of_getElem? (i := 3) rfl)
theorem dX8_numberOf_16 : decode cX8_numberOf 16 = .ok (.getfield 18, 3) := oc_180 (a := 0) (b := 18) (by decide +kernel)
theorem dX8_numberOf_19 : decode cX8_numberOf 19 = .ok (.aload_n 0, 1) := oc_42 (by decide +kernel)
theorem tw_170 : Cond.fieldLink RX8 15 "RingsUnder$Text" "from" "[I" ∈ wsL_law := sg_8 _ (List.mem_of_getElem? (i := 2) rfl)
theorem dX8_numberOf_20 : decode cX8_numberOf 20 = .ok (.getfield 15, 3) := oc_180 (a := 0) (b := 15) (by decide +kernel)
theorem dX8_numberOf_23 : decode cX8_numberOf 23 = .ok (.iload_n 3, 1) := oc_29 (by decide +kernel)
theorem dX8_numberOf_24 : decode cX8_numberOf 24 = .ok (.iaload, 1) := oc_46 (by decide +kernel)
theorem dX8_numberOf_25 : decode cX8_numberOf 25 = .ok (.iaload, 1) := oc_46 (by decide +kernel)
theorem dX8_numberOf_26 : decode cX8_numberOf 26 = .ok (.ireturn, 1) := oc_172 (by decide +kernel)
theorem dX8_numberOf_11 : decode cX8_numberOf 11 = .ok (.iload_n 2, 1) := oc_28 (by decide +kernel)
theorem dX8_numberOf_12 : decode cX8_numberOf 12 = .ok (.goto 14, 3) := oc_167 (a := 0) (b := 14) (by decide +kernel)
theorem dX3_numberIn_0 : decode cX3_numberIn 0 = .ok (.aload_n 0, 1) := oc_42 (by decide +kernel)
theorem dX3_numberIn_1 : decode cX3_numberIn 1 = .ok (.iload_n 1, 1) := oc_27 (by decide +kernel)
theorem dX3_numberIn_2 : decode cX3_numberIn 2 = .ok (.iload_n 2, 1) := oc_28 (by decide +kernel)
theorem tw_469 : Cond.methodLink RX3 52 yX3_textFor ∈ wsL_law := sg_20 _ (List.mem_of_getElem? (i := 13) rfl)
theorem tw_470 : Cond.instanceMethod yX3_textFor ∈ wsL_law := sg_20 _ (List.mem_of_getElem? (i := 14) rfl)
theorem tw_471 : Cond.selects RX3 yX3_textFor yX3_textFor ∈ wsL_law := sg_20 _ (List.mem_of_getElem? (i := 15) rfl)
theorem tw_49 : Cond.initialized RX3 ∈ wsL_law := sg_3 _ (List.mem_of_getElem? (i := 1) rfl)
theorem tw_472 : Cond.code yX3_textFor cX3_textFor 5 (some (.object "RingsUnder$Text")) ∈ wsL_law := sg_20 _ (List.mem_of_getElem? (i := 16) rfl)
theorem dX3_numberIn_3 : decode cX3_numberIn 3 = .ok (.invokevirtual 52, 3) := oc_182 (a := 0) (b := 52) (by decide +kernel)
theorem dX3_numberIn_6 : decode cX3_numberIn 6 = .ok (.astore 4, 2) := oc_58 (by decide +kernel)
theorem dX3_numberIn_8 : decode cX3_numberIn 8 = .ok (.aload 4, 2) := oc_25 (by decide +kernel)
theorem dX3_numberIn_10 : decode cX3_numberIn 10 = .ok (.ifnonnull 7, 3) := oc_199 (a := 0) (b := 7) (by decide +kernel)
theorem dX3_numberIn_13 : decode cX3_numberIn 13 = .ok (.iload_n 3, 1) := oc_29 (by decide +kernel)
theorem dX3_numberIn_14 : decode cX3_numberIn 14 = .ok (.goto 10, 3) := oc_167 (a := 0) (b := 10) (by decide +kernel)
theorem dX3_numberIn_24 : decode cX3_numberIn 24 = .ok (.ireturn, 1) := oc_172 (by decide +kernel)
theorem dX3_numberIn_17 : decode cX3_numberIn 17 = .ok (.aload 4, 2) := oc_25 (by decide +kernel)
theorem dX3_numberIn_19 : decode cX3_numberIn 19 = .ok (.iload_n 1, 1) := oc_27 (by decide +kernel)
theorem dX3_numberIn_20 : decode cX3_numberIn 20 = .ok (.iload_n 3, 1) := oc_29 (by decide +kernel)
theorem tw_999 : Cond.methodLink RX3 56 yX8_numberOf ∈ wsL_law := sg_42 _ (List.mem_of_getElem? (i := 15) rfl)
theorem tw_1000 : Cond.instanceMethod yX8_numberOf ∈ wsL_law := sg_42 _ (List.mem_of_getElem? (i := 16) rfl)
theorem tw_1001 : Cond.selects RX8 yX8_numberOf yX8_numberOf ∈ wsL_law := sg_42 _ (List.mem_of_getElem? (i := 17) rfl)
theorem tw_1002 : Cond.code yX8_numberOf cX8_numberOf 4 (some .int) ∈ wsL_law := sg_42 _ (List.mem_of_getElem? (i := 18) rfl)
theorem dX3_numberIn_21 : decode cX3_numberIn 21 = .ok (.invokevirtual 56, 3) := oc_182 (a := 0) (b := 56) (by decide +kernel)
theorem dX3_councilIn_0 : decode cX3_councilIn 0 = .ok (.aload_n 0, 1) := oc_42 (by decide +kernel)
theorem dX3_councilIn_1 : decode cX3_councilIn 1 = .ok (.bipush 6, 2) := oc_16 (a := 6) (by decide +kernel)
theorem dX3_councilIn_3 : decode cX3_councilIn 3 = .ok (.iload_n 1, 1) := oc_27 (by decide +kernel)
theorem dX3_councilIn_4 : decode cX3_councilIn 4 = .ok (.bipush 50, 2) := oc_16 (a := 50) (by decide +kernel)
theorem tw_995 : Cond.methodLink RX3 48 yX3_numberIn ∈ wsL_law := sg_42 _ (List.mem_of_getElem? (i := 11) rfl)
theorem tw_996 : Cond.instanceMethod yX3_numberIn ∈ wsL_law := sg_42 _ (List.mem_of_getElem? (i := 12) rfl)
theorem tw_997 : Cond.selects RX3 yX3_numberIn yX3_numberIn ∈ wsL_law := sg_42 _ (List.mem_of_getElem? (i := 13) rfl)
theorem tw_998 : Cond.code yX3_numberIn cX3_numberIn 5 (some .int) ∈ wsL_law := sg_42 _ (List.mem_of_getElem? (i := 14) rfl)
theorem dX3_councilIn_6 : decode cX3_councilIn 6 = .ok (.invokevirtual 48, 3) := oc_182 (a := 0) (b := 48) (by decide +kernel)
theorem dX3_councilIn_9 : decode cX3_councilIn 9 = .ok (.ireturn, 1) := oc_172 (by decide +kernel)
theorem dX3_leaveIn_0 : decode cX3_leaveIn 0 = .ok (.aload_n 0, 1) := oc_42 (by decide +kernel)
theorem dX3_leaveIn_1 : decode cX3_leaveIn 1 = .ok (.bipush 8, 2) := oc_16 (a := 8) (by decide +kernel)
theorem dX3_leaveIn_3 : decode cX3_leaveIn 3 = .ok (.iload_n 1, 1) := oc_27 (by decide +kernel)
theorem dX3_leaveIn_4 : decode cX3_leaveIn 4 = .ok (.bipush 10, 2) := oc_16 (a := 10) (by decide +kernel)
theorem dX3_leaveIn_6 : decode cX3_leaveIn 6 = .ok (.invokevirtual 48, 3) := oc_182 (a := 0) (b := 48) (by decide +kernel)
theorem dX3_leaveIn_9 : decode cX3_leaveIn 9 = .ok (.ireturn, 1) := oc_172 (by decide +kernel)
theorem dX3_fixIn_0 : decode cX3_fixIn 0 = .ok (.aload_n 0, 1) := oc_42 (by decide +kernel)
theorem dX3_fixIn_1 : decode cX3_fixIn 1 = .ok (.bipush 7, 2) := oc_16 (a := 7) (by decide +kernel)
theorem dX3_fixIn_3 : decode cX3_fixIn 3 = .ok (.iload_n 1, 1) := oc_27 (by decide +kernel)
theorem dX3_fixIn_4 : decode cX3_fixIn 4 = .ok (.iconst (-1), 1) := oc_2 (by decide +kernel)
theorem dX3_fixIn_5 : decode cX3_fixIn 5 = .ok (.invokevirtual 48, 3) := oc_182 (a := 0) (b := 48) (by decide +kernel)
theorem dX3_fixIn_8 : decode cX3_fixIn 8 = .ok (.ireturn, 1) := oc_172 (by decide +kernel)
theorem dX3_nameAll_0 : decode cX3_nameAll 0 = .ok (.bipush 12, 2) := oc_16 (a := 12) (by decide +kernel)
theorem dX3_nameAll_2 : decode cX3_nameAll 2 = .ok (.istore 5, 2) := oc_54 (by decide +kernel)
theorem dX3_nameAll_4 : decode cX3_nameAll 4 = .ok (.iload 5, 2) := oc_21 (by decide +kernel)
theorem dX3_nameAll_6 : decode cX3_nameAll 6 = .ok (.bipush 17, 2) := oc_16 (a := 17) (by decide +kernel)
theorem dX3_nameAll_8 : decode cX3_nameAll 8 = .ok (.if_icmp .ge 27, 3) := oc_162 (a := 0) (b := 27) (by decide +kernel)
theorem dX3_nameAll_35 : decode cX3_nameAll 35 = .ok (.aload_n 0, 1) := oc_42 (by decide +kernel)
theorem tw_132 : Cond.fieldLink RX3 27 "RingsUnder$Law" "names" "[I" ∈ wsL_law := sg_6 _ (List.mem_of_getElem? (i := 12) rfl)
theorem dX3_nameAll_36 : decode cX3_nameAll 36 = .ok (.getfield 27, 3) := oc_180 (a := 0) (b := 27) (by decide +kernel)
theorem dX3_nameAll_39 : decode cX3_nameAll 39 = .ok (.iconst 5, 1) := oc_8 (by decide +kernel)
theorem dX3_nameAll_40 : decode cX3_nameAll 40 = .ok (.iload 4, 2) := oc_21 (by decide +kernel)
theorem dX3_nameAll_42 : decode cX3_nameAll 42 = .ok (.iastore, 1) := oc_79 (by decide +kernel)
theorem dX3_nameAll_43 : decode cX3_nameAll 43 = .ok (.return_, 1) := oc_177 (by decide +kernel)
theorem dX3_nameAll_11 : decode cX3_nameAll 11 = .ok (.aload_n 0, 1) := oc_42 (by decide +kernel)
theorem dX3_nameAll_12 : decode cX3_nameAll 12 = .ok (.getfield 27, 3) := oc_180 (a := 0) (b := 27) (by decide +kernel)
theorem dX3_nameAll_15 : decode cX3_nameAll 15 = .ok (.iload 5, 2) := oc_21 (by decide +kernel)
theorem dX3_nameAll_17 : decode cX3_nameAll 17 = .ok (.bipush 12, 2) := oc_16 (a := 12) (by decide +kernel)
theorem dX3_nameAll_19 : decode cX3_nameAll 19 = .ok (.isub, 1) := oc_100 (by decide +kernel)
theorem dX3_nameAll_20 : decode cX3_nameAll 20 = .ok (.aload_n 1, 1) := oc_43 (by decide +kernel)
theorem dX3_nameAll_21 : decode cX3_nameAll 21 = .ok (.iload_n 2, 1) := oc_28 (by decide +kernel)
theorem dX3_nameAll_22 : decode cX3_nameAll 22 = .ok (.iload 5, 2) := oc_21 (by decide +kernel)
theorem dX3_nameAll_24 : decode cX3_nameAll 24 = .ok (.iload_n 3, 1) := oc_29 (by decide +kernel)
theorem tw_569 : Cond.methodLink RX3 77 yX0_valueOf ∈ wsL_law := sg_24 _ (List.mem_of_getElem? (i := 17) rfl)
theorem tw_487 : Cond.instanceMethod yX0_valueOf ∈ wsL_law := sg_21 _ (List.mem_of_getElem? (i := 7) rfl)
theorem tw_488 : Cond.selects RX0 yX0_valueOf yX0_valueOf ∈ wsL_law := sg_21 _ (List.mem_of_getElem? (i := 8) rfl)
theorem tw_489 : Cond.code yX0_valueOf cX0_valueOf 4 (some .int) ∈ wsL_law := sg_21 _ (List.mem_of_getElem? (i := 9) rfl)
theorem dX3_nameAll_25 : decode cX3_nameAll 25 = .ok (.invokevirtual 77, 3) := oc_182 (a := 0) (b := 77) (by decide +kernel)
theorem dX3_nameAll_28 : decode cX3_nameAll 28 = .ok (.iastore, 1) := oc_79 (by decide +kernel)
theorem dX3_nameAll_29 : decode cX3_nameAll 29 = .ok (.iinc 5 1, 3) := oc_132 (b := 1) (by decide +kernel)
theorem dX3_nameAll_32 : decode cX3_nameAll 32 = .ok (.goto (-28), 3) := oc_167 (a := 255) (b := 228) (by decide +kernel)
theorem dX8_join_0 : decode cX8_join 0 = .ok (.iload_n 0, 1) := oc_26 (by decide +kernel)
theorem tw_581 : Cond.constantLong RX8 53 (-1000000000) ∈ wsL_law := sg_25 _ (List.mem_of_getElem? (i := 5) rfl)
theorem dX8_join_205 : decode cX8_join 205 = .ok (.ldc2_w 53, 3) := oc_20 (a := 0) (b := 53) (by decide +kernel)
theorem tw_582 : Cond.constantLong RX8 55 (1000000000) ∈ wsL_law := sg_25 _ (List.mem_of_getElem? (i := 6) rfl)
theorem dX8_join_208 : decode cX8_join 208 = .ok (.ldc2_w 55, 3) := oc_20 (a := 0) (b := 55) (by decide +kernel)
theorem dX8_join_211 : decode cX8_join 211 = .ok (.lload_n 3, 1) := oc_33 (by decide +kernel)
theorem tw_583 : Cond.methodLink RX8 57 Lib.MathLoose.min_long.x ∈ wsL_law := sg_25 _ (List.mem_of_getElem? (i := 7) rfl)
theorem tw_584 : Cond.static Lib.MathLoose.min_long.x ∈ wsL_law := sg_25 _ (List.mem_of_getElem? (i := 8) rfl)
theorem tw_585 : Cond.code Lib.MathLoose.min_long.x Lib.MathLoose.min_long.code 4 (some .long) ∈ wsL_law := sg_25 _ (List.mem_of_getElem? (i := 9) rfl)
theorem dX8_join_212 : decode cX8_join 212 = .ok (.invokestatic 57, 3) := oc_184 (a := 0) (b := 57) (by decide +kernel)
theorem tw_586 : Cond.methodLink RX8 61 Lib.MathLoose.max_long.x ∈ wsL_law := sg_25 _ (List.mem_of_getElem? (i := 10) rfl)
theorem tw_587 : Cond.static Lib.MathLoose.max_long.x ∈ wsL_law := sg_25 _ (List.mem_of_getElem? (i := 11) rfl)
theorem tw_588 : Cond.code Lib.MathLoose.max_long.x Lib.MathLoose.max_long.code 4 (some .long) ∈ wsL_law := sg_25 _ (List.mem_of_getElem? (i := 12) rfl)
theorem dX8_join_215 : decode cX8_join 215 = .ok (.invokestatic 61, 3) := oc_184 (a := 0) (b := 61) (by decide +kernel)
theorem dX8_join_218 : decode cX8_join 218 = .ok (.l2i, 1) := oc_136 (by decide +kernel)
theorem dX8_join_219 : decode cX8_join 219 = .ok (.ireturn, 1) := oc_172 (by decide +kernel)
theorem dX8_join_1 : decode cX8_join 1 = .ok (.tableswitch 192 9 27 #[91, 95, 192, 192, 192, 192, 192, 192, 192, 192, 99, 110, 121, 132, 143, 154, 165, 174, 183], 91) := by decide +kernel
theorem dX8_join_92 : decode cX8_join 92 = .ok (.iload_n 1, 1) := oc_27 (by decide +kernel)
theorem dX8_join_93 : decode cX8_join 93 = .ok (.iload_n 2, 1) := oc_28 (by decide +kernel)
theorem dX8_join_94 : decode cX8_join 94 = .ok (.ior, 1) := oc_128 (by decide +kernel)
theorem dX8_join_95 : decode cX8_join 95 = .ok (.ireturn, 1) := oc_172 (by decide +kernel)
theorem dX8_join_96 : decode cX8_join 96 = .ok (.iload_n 1, 1) := oc_27 (by decide +kernel)
theorem dX8_join_97 : decode cX8_join 97 = .ok (.iload_n 2, 1) := oc_28 (by decide +kernel)
theorem dX8_join_98 : decode cX8_join 98 = .ok (.iand, 1) := oc_126 (by decide +kernel)
theorem dX8_join_99 : decode cX8_join 99 = .ok (.ireturn, 1) := oc_172 (by decide +kernel)
theorem dX8_join_193 : decode cX8_join 193 = .ok (.iload_n 2, 1) := oc_28 (by decide +kernel)
theorem dX8_join_194 : decode cX8_join 194 = .ok (.ifCond .ne 7, 3) := oc_154 (a := 0) (b := 7) (by decide +kernel)
theorem dX8_join_201 : decode cX8_join 201 = .ok (.iload_n 1, 1) := oc_27 (by decide +kernel)
theorem dX8_join_202 : decode cX8_join 202 = .ok (.iload_n 2, 1) := oc_28 (by decide +kernel)
theorem dX8_join_203 : decode cX8_join 203 = .ok (.idiv, 1) := oc_108 (by decide +kernel)
theorem dX8_join_204 : decode cX8_join 204 = .ok (.ireturn, 1) := oc_172 (by decide +kernel)
theorem dX8_join_197 : decode cX8_join 197 = .ok (.iconst 0, 1) := oc_3 (by decide +kernel)
theorem dX8_join_198 : decode cX8_join 198 = .ok (.goto 6, 3) := oc_167 (a := 0) (b := 6) (by decide +kernel)
theorem dX8_join_100 : decode cX8_join 100 = .ok (.iload_n 1, 1) := oc_27 (by decide +kernel)
theorem dX8_join_101 : decode cX8_join 101 = .ok (.iload_n 2, 1) := oc_28 (by decide +kernel)
theorem dX8_join_102 : decode cX8_join 102 = .ok (.if_icmp .ge 7, 3) := oc_162 (a := 0) (b := 7) (by decide +kernel)
theorem dX8_join_109 : decode cX8_join 109 = .ok (.iconst 0, 1) := oc_3 (by decide +kernel)
theorem dX8_join_110 : decode cX8_join 110 = .ok (.ireturn, 1) := oc_172 (by decide +kernel)
theorem dX8_join_105 : decode cX8_join 105 = .ok (.iconst 1, 1) := oc_4 (by decide +kernel)
theorem dX8_join_106 : decode cX8_join 106 = .ok (.goto 4, 3) := oc_167 (a := 0) (b := 4) (by decide +kernel)
theorem dX8_join_111 : decode cX8_join 111 = .ok (.iload_n 1, 1) := oc_27 (by decide +kernel)
theorem dX8_join_112 : decode cX8_join 112 = .ok (.iload_n 2, 1) := oc_28 (by decide +kernel)
theorem dX8_join_113 : decode cX8_join 113 = .ok (.if_icmp .gt 7, 3) := oc_163 (a := 0) (b := 7) (by decide +kernel)
theorem dX8_join_120 : decode cX8_join 120 = .ok (.iconst 0, 1) := oc_3 (by decide +kernel)
theorem dX8_join_121 : decode cX8_join 121 = .ok (.ireturn, 1) := oc_172 (by decide +kernel)
theorem dX8_join_116 : decode cX8_join 116 = .ok (.iconst 1, 1) := oc_4 (by decide +kernel)
theorem dX8_join_117 : decode cX8_join 117 = .ok (.goto 4, 3) := oc_167 (a := 0) (b := 4) (by decide +kernel)
theorem dX8_join_122 : decode cX8_join 122 = .ok (.iload_n 1, 1) := oc_27 (by decide +kernel)
theorem dX8_join_123 : decode cX8_join 123 = .ok (.iload_n 2, 1) := oc_28 (by decide +kernel)
theorem dX8_join_124 : decode cX8_join 124 = .ok (.if_icmp .le 7, 3) := oc_164 (a := 0) (b := 7) (by decide +kernel)
theorem dX8_join_131 : decode cX8_join 131 = .ok (.iconst 0, 1) := oc_3 (by decide +kernel)
theorem dX8_join_132 : decode cX8_join 132 = .ok (.ireturn, 1) := oc_172 (by decide +kernel)
theorem dX8_join_127 : decode cX8_join 127 = .ok (.iconst 1, 1) := oc_4 (by decide +kernel)
theorem dX8_join_128 : decode cX8_join 128 = .ok (.goto 4, 3) := oc_167 (a := 0) (b := 4) (by decide +kernel)
theorem dX8_join_133 : decode cX8_join 133 = .ok (.iload_n 1, 1) := oc_27 (by decide +kernel)
theorem dX8_join_134 : decode cX8_join 134 = .ok (.iload_n 2, 1) := oc_28 (by decide +kernel)
theorem dX8_join_135 : decode cX8_join 135 = .ok (.if_icmp .lt 7, 3) := oc_161 (a := 0) (b := 7) (by decide +kernel)
theorem dX8_join_142 : decode cX8_join 142 = .ok (.iconst 0, 1) := oc_3 (by decide +kernel)
theorem dX8_join_143 : decode cX8_join 143 = .ok (.ireturn, 1) := oc_172 (by decide +kernel)
theorem dX8_join_138 : decode cX8_join 138 = .ok (.iconst 1, 1) := oc_4 (by decide +kernel)
theorem dX8_join_139 : decode cX8_join 139 = .ok (.goto 4, 3) := oc_167 (a := 0) (b := 4) (by decide +kernel)
theorem dX8_join_144 : decode cX8_join 144 = .ok (.iload_n 1, 1) := oc_27 (by decide +kernel)
theorem dX8_join_145 : decode cX8_join 145 = .ok (.iload_n 2, 1) := oc_28 (by decide +kernel)
theorem dX8_join_146 : decode cX8_join 146 = .ok (.if_icmp .ne 7, 3) := oc_160 (a := 0) (b := 7) (by decide +kernel)
theorem dX8_join_153 : decode cX8_join 153 = .ok (.iconst 0, 1) := oc_3 (by decide +kernel)
theorem dX8_join_154 : decode cX8_join 154 = .ok (.ireturn, 1) := oc_172 (by decide +kernel)
theorem dX8_join_149 : decode cX8_join 149 = .ok (.iconst 1, 1) := oc_4 (by decide +kernel)
theorem dX8_join_150 : decode cX8_join 150 = .ok (.goto 4, 3) := oc_167 (a := 0) (b := 4) (by decide +kernel)
theorem dX8_join_155 : decode cX8_join 155 = .ok (.iload_n 1, 1) := oc_27 (by decide +kernel)
theorem dX8_join_156 : decode cX8_join 156 = .ok (.iload_n 2, 1) := oc_28 (by decide +kernel)
theorem dX8_join_157 : decode cX8_join 157 = .ok (.if_icmp .eq 7, 3) := oc_159 (a := 0) (b := 7) (by decide +kernel)
theorem dX8_join_164 : decode cX8_join 164 = .ok (.iconst 0, 1) := oc_3 (by decide +kernel)
theorem dX8_join_165 : decode cX8_join 165 = .ok (.ireturn, 1) := oc_172 (by decide +kernel)
theorem dX8_join_160 : decode cX8_join 160 = .ok (.iconst 1, 1) := oc_4 (by decide +kernel)
theorem dX8_join_161 : decode cX8_join 161 = .ok (.goto 4, 3) := oc_167 (a := 0) (b := 4) (by decide +kernel)
theorem dX8_join_166 : decode cX8_join 166 = .ok (.iload_n 1, 1) := oc_27 (by decide +kernel)
theorem dX8_join_167 : decode cX8_join 167 = .ok (.i2l, 1) := oc_133 (by decide +kernel)
theorem dX8_join_168 : decode cX8_join 168 = .ok (.iload_n 2, 1) := oc_28 (by decide +kernel)
theorem dX8_join_169 : decode cX8_join 169 = .ok (.i2l, 1) := oc_133 (by decide +kernel)
theorem dX8_join_170 : decode cX8_join 170 = .ok (.ladd, 1) := oc_97 (by decide +kernel)
theorem dX8_join_171 : decode cX8_join 171 = .ok (.lstore_n 3, 1) := oc_66 (by decide +kernel)
theorem dX8_join_172 : decode cX8_join 172 = .ok (.goto 33, 3) := oc_167 (a := 0) (b := 33) (by decide +kernel)
theorem dX8_join_175 : decode cX8_join 175 = .ok (.iload_n 1, 1) := oc_27 (by decide +kernel)
theorem dX8_join_176 : decode cX8_join 176 = .ok (.i2l, 1) := oc_133 (by decide +kernel)
theorem dX8_join_177 : decode cX8_join 177 = .ok (.iload_n 2, 1) := oc_28 (by decide +kernel)
theorem dX8_join_178 : decode cX8_join 178 = .ok (.i2l, 1) := oc_133 (by decide +kernel)
theorem dX8_join_179 : decode cX8_join 179 = .ok (.lsub, 1) := oc_101 (by decide +kernel)
theorem dX8_join_180 : decode cX8_join 180 = .ok (.lstore_n 3, 1) := oc_66 (by decide +kernel)
theorem dX8_join_181 : decode cX8_join 181 = .ok (.goto 24, 3) := oc_167 (a := 0) (b := 24) (by decide +kernel)
theorem dX8_join_184 : decode cX8_join 184 = .ok (.iload_n 1, 1) := oc_27 (by decide +kernel)
theorem dX8_join_185 : decode cX8_join 185 = .ok (.i2l, 1) := oc_133 (by decide +kernel)
theorem dX8_join_186 : decode cX8_join 186 = .ok (.iload_n 2, 1) := oc_28 (by decide +kernel)
theorem dX8_join_187 : decode cX8_join 187 = .ok (.i2l, 1) := oc_133 (by decide +kernel)
theorem dX8_join_188 : decode cX8_join 188 = .ok (.lmul, 1) := oc_105 (by decide +kernel)
theorem dX8_join_189 : decode cX8_join 189 = .ok (.lstore_n 3, 1) := oc_66 (by decide +kernel)
theorem dX8_join_190 : decode cX8_join 190 = .ok (.goto 15, 3) := oc_167 (a := 0) (b := 15) (by decide +kernel)
theorem dX8_work_0 : decode cX8_work 0 = .ok (.iconst (-1), 1) := oc_2 (by decide +kernel)
theorem dX8_work_1 : decode cX8_work 1 = .ok (.istore 4, 2) := oc_54 (by decide +kernel)
theorem dX8_work_3 : decode cX8_work 3 = .ok (.aload_n 0, 1) := oc_42 (by decide +kernel)
theorem dX8_work_4 : decode cX8_work 4 = .ok (.getfield 15, 3) := oc_180 (a := 0) (b := 15) (by decide +kernel)
theorem dX8_work_7 : decode cX8_work 7 = .ok (.iload_n 1, 1) := oc_27 (by decide +kernel)
theorem dX8_work_8 : decode cX8_work 8 = .ok (.iaload, 1) := oc_46 (by decide +kernel)
theorem dX8_work_9 : decode cX8_work 9 = .ok (.istore 5, 2) := oc_54 (by decide +kernel)
theorem dX8_work_11 : decode cX8_work 11 = .ok (.iload 5, 2) := oc_21 (by decide +kernel)
theorem dX8_work_13 : decode cX8_work 13 = .ok (.aload_n 0, 1) := oc_42 (by decide +kernel)
theorem dX8_work_14 : decode cX8_work 14 = .ok (.getfield 15, 3) := oc_180 (a := 0) (b := 15) (by decide +kernel)
theorem dX8_work_17 : decode cX8_work 17 = .ok (.iload_n 1, 1) := oc_27 (by decide +kernel)
theorem dX8_work_18 : decode cX8_work 18 = .ok (.iconst 1, 1) := oc_4 (by decide +kernel)
theorem dX8_work_19 : decode cX8_work 19 = .ok (.iadd, 1) := oc_96 (by decide +kernel)
theorem dX8_work_20 : decode cX8_work 20 = .ok (.iaload, 1) := oc_46 (by decide +kernel)
theorem dX8_work_21 : decode cX8_work 21 = .ok (.if_icmp .ge 157, 3) := oc_162 (a := 0) (b := 157) (by decide +kernel)
theorem dX8_work_178 : decode cX8_work 178 = .ok (.iload 4, 2) := oc_21 (by decide +kernel)
theorem dX8_work_180 : decode cX8_work 180 = .ok (.ifCond .ne 10, 3) := oc_154 (a := 0) (b := 10) (by decide +kernel)
theorem dX8_work_190 : decode cX8_work 190 = .ok (.iconst 0, 1) := oc_3 (by decide +kernel)
theorem dX8_work_191 : decode cX8_work 191 = .ok (.ireturn, 1) := oc_172 (by decide +kernel)
theorem dX8_work_183 : decode cX8_work 183 = .ok (.aload_n 3, 1) := oc_45 (by decide +kernel)
theorem dX8_work_184 : decode cX8_work 184 = .ok (.iload 4, 2) := oc_21 (by decide +kernel)
theorem dX8_work_186 : decode cX8_work 186 = .ok (.iaload, 1) := oc_46 (by decide +kernel)
theorem dX8_work_187 : decode cX8_work 187 = .ok (.goto 4, 3) := oc_167 (a := 0) (b := 4) (by decide +kernel)
theorem dX8_work_24 : decode cX8_work 24 = .ok (.aload_n 0, 1) := oc_42 (by decide +kernel)
theorem dX8_work_25 : decode cX8_work 25 = .ok (.getfield 18, 3) := oc_180 (a := 0) (b := 18) (by decide +kernel)
theorem dX8_work_28 : decode cX8_work 28 = .ok (.iload 5, 2) := oc_21 (by decide +kernel)
theorem dX8_work_30 : decode cX8_work 30 = .ok (.iaload, 1) := oc_46 (by decide +kernel)
theorem dX8_work_31 : decode cX8_work 31 = .ok (.ineg, 1) := oc_116 (by decide +kernel)
theorem dX8_work_32 : decode cX8_work 32 = .ok (.istore 6, 2) := oc_54 (by decide +kernel)
theorem dX8_work_34 : decode cX8_work 34 = .ok (.iload 6, 2) := oc_21 (by decide +kernel)
theorem dX8_work_172 : decode cX8_work 172 = .ok (.iinc 5 1, 3) := oc_132 (b := 1) (by decide +kernel)
theorem dX8_work_175 : decode cX8_work 175 = .ok (.goto (-164), 3) := oc_167 (a := 255) (b := 92) (by decide +kernel)
theorem dX8_work_36 : decode cX8_work 36 = .ok (.ifCond .le 17, 3) := oc_158 (a := 0) (b := 17) (by decide +kernel)
theorem dX8_work_53 : decode cX8_work 53 = .ok (.iinc 4 1, 3) := oc_132 (b := 1) (by decide +kernel)
theorem dX8_work_56 : decode cX8_work 56 = .ok (.iload 4, 2) := oc_21 (by decide +kernel)
theorem dX8_work_58 : decode cX8_work 58 = .ok (.aload_n 3, 1) := oc_45 (by decide +kernel)
theorem dX8_work_59 : decode cX8_work 59 = .ok (.arraylength, 1) := oc_190 (by decide +kernel)
theorem dX8_work_60 : decode cX8_work 60 = .ok (.if_icmp .lt 5, 3) := oc_161 (a := 0) (b := 5) (by decide +kernel)
theorem dX8_work_65 : decode cX8_work 65 = .ok (.aload_n 3, 1) := oc_45 (by decide +kernel)
theorem dX8_work_66 : decode cX8_work 66 = .ok (.iload 4, 2) := oc_21 (by decide +kernel)
theorem dX8_work_68 : decode cX8_work 68 = .ok (.iload 6, 2) := oc_21 (by decide +kernel)
theorem dX8_work_90 : decode cX8_work 90 = .ok (.iastore, 1) := oc_79 (by decide +kernel)
theorem dX8_work_91 : decode cX8_work 91 = .ok (.goto 81, 3) := oc_167 (a := 0) (b := 81) (by decide +kernel)
theorem dX8_work_70 : decode cX8_work 70 = .ok (.ifCond .gt 13, 3) := oc_157 (a := 0) (b := 13) (by decide +kernel)
theorem dX8_work_73 : decode cX8_work 73 = .ok (.aload_n 0, 1) := oc_42 (by decide +kernel)
theorem dX8_work_74 : decode cX8_work 74 = .ok (.getfield 18, 3) := oc_180 (a := 0) (b := 18) (by decide +kernel)
theorem dX8_work_77 : decode cX8_work 77 = .ok (.iload 5, 2) := oc_21 (by decide +kernel)
theorem dX8_work_79 : decode cX8_work 79 = .ok (.iaload, 1) := oc_46 (by decide +kernel)
theorem dX8_work_80 : decode cX8_work 80 = .ok (.goto 10, 3) := oc_167 (a := 0) (b := 10) (by decide +kernel)
theorem dX8_work_63 : decode cX8_work 63 = .ok (.iconst 0, 1) := oc_3 (by decide +kernel)
theorem dX8_work_64 : decode cX8_work 64 = .ok (.ireturn, 1) := oc_172 (by decide +kernel)
theorem dX8_work_39 : decode cX8_work 39 = .ok (.iload 6, 2) := oc_21 (by decide +kernel)
theorem dX8_work_41 : decode cX8_work 41 = .ok (.bipush 12, 2) := oc_16 (a := 12) (by decide +kernel)
theorem dX8_work_94 : decode cX8_work 94 = .ok (.iload 6, 2) := oc_21 (by decide +kernel)
theorem dX8_work_96 : decode cX8_work 96 = .ok (.bipush 11, 2) := oc_16 (a := 11) (by decide +kernel)
theorem dX8_work_108 : decode cX8_work 108 = .ok (.iload 4, 2) := oc_21 (by decide +kernel)
theorem dX8_work_110 : decode cX8_work 110 = .ok (.ifCond .ge 5, 3) := oc_156 (a := 0) (b := 5) (by decide +kernel)
theorem dX8_work_115 : decode cX8_work 115 = .ok (.aload_n 3, 1) := oc_45 (by decide +kernel)
theorem dX8_work_116 : decode cX8_work 116 = .ok (.iload 4, 2) := oc_21 (by decide +kernel)
theorem dX8_work_118 : decode cX8_work 118 = .ok (.iload 6, 2) := oc_21 (by decide +kernel)
theorem dX8_work_120 : decode cX8_work 120 = .ok (.bipush 11, 2) := oc_16 (a := 11) (by decide +kernel)
theorem dX8_work_139 : decode cX8_work 139 = .ok (.iastore, 1) := oc_79 (by decide +kernel)
theorem dX8_work_140 : decode cX8_work 140 = .ok (.goto 32, 3) := oc_167 (a := 0) (b := 32) (by decide +kernel)
theorem dX8_work_122 : decode cX8_work 122 = .ok (.if_icmp .ne 12, 3) := oc_160 (a := 0) (b := 12) (by decide +kernel)
theorem dX8_work_134 : decode cX8_work 134 = .ok (.aload_n 3, 1) := oc_45 (by decide +kernel)
theorem dX8_work_135 : decode cX8_work 135 = .ok (.iload 4, 2) := oc_21 (by decide +kernel)
theorem dX8_work_137 : decode cX8_work 137 = .ok (.iaload, 1) := oc_46 (by decide +kernel)
theorem dX8_work_138 : decode cX8_work 138 = .ok (.ineg, 1) := oc_116 (by decide +kernel)
theorem dX8_work_125 : decode cX8_work 125 = .ok (.iconst 1, 1) := oc_4 (by decide +kernel)
theorem dX8_work_126 : decode cX8_work 126 = .ok (.aload_n 3, 1) := oc_45 (by decide +kernel)
theorem dX8_work_127 : decode cX8_work 127 = .ok (.iload 4, 2) := oc_21 (by decide +kernel)
theorem dX8_work_129 : decode cX8_work 129 = .ok (.iaload, 1) := oc_46 (by decide +kernel)
theorem dX8_work_130 : decode cX8_work 130 = .ok (.isub, 1) := oc_100 (by decide +kernel)
theorem dX8_work_131 : decode cX8_work 131 = .ok (.goto 8, 3) := oc_167 (a := 0) (b := 8) (by decide +kernel)
theorem dX8_work_113 : decode cX8_work 113 = .ok (.iconst 0, 1) := oc_3 (by decide +kernel)
theorem dX8_work_114 : decode cX8_work 114 = .ok (.ireturn, 1) := oc_172 (by decide +kernel)
theorem dX8_work_98 : decode cX8_work 98 = .ok (.if_icmp .eq 10, 3) := oc_159 (a := 0) (b := 10) (by decide +kernel)
theorem dX8_work_101 : decode cX8_work 101 = .ok (.iload 6, 2) := oc_21 (by decide +kernel)
theorem dX8_work_103 : decode cX8_work 103 = .ok (.bipush 35, 2) := oc_16 (a := 35) (by decide +kernel)
theorem dX8_work_105 : decode cX8_work 105 = .ok (.if_icmp .ne 38, 3) := oc_160 (a := 0) (b := 38) (by decide +kernel)
theorem dX8_work_143 : decode cX8_work 143 = .ok (.iinc 4 (-1), 3) := oc_132 (b := 255) (by decide +kernel)
theorem dX8_work_146 : decode cX8_work 146 = .ok (.iload 4, 2) := oc_21 (by decide +kernel)
theorem dX8_work_148 : decode cX8_work 148 = .ok (.ifCond .ge 5, 3) := oc_156 (a := 0) (b := 5) (by decide +kernel)
theorem dX8_work_153 : decode cX8_work 153 = .ok (.aload_n 3, 1) := oc_45 (by decide +kernel)
theorem dX8_work_154 : decode cX8_work 154 = .ok (.iload 4, 2) := oc_21 (by decide +kernel)
theorem dX8_work_156 : decode cX8_work 156 = .ok (.iload 6, 2) := oc_21 (by decide +kernel)
theorem dX8_work_158 : decode cX8_work 158 = .ok (.aload_n 3, 1) := oc_45 (by decide +kernel)
theorem dX8_work_159 : decode cX8_work 159 = .ok (.iload 4, 2) := oc_21 (by decide +kernel)
theorem dX8_work_161 : decode cX8_work 161 = .ok (.iaload, 1) := oc_46 (by decide +kernel)
theorem dX8_work_162 : decode cX8_work 162 = .ok (.aload_n 3, 1) := oc_45 (by decide +kernel)
theorem dX8_work_163 : decode cX8_work 163 = .ok (.iload 4, 2) := oc_21 (by decide +kernel)
theorem dX8_work_165 : decode cX8_work 165 = .ok (.iconst 1, 1) := oc_4 (by decide +kernel)
theorem dX8_work_166 : decode cX8_work 166 = .ok (.iadd, 1) := oc_96 (by decide +kernel)
theorem dX8_work_167 : decode cX8_work 167 = .ok (.iaload, 1) := oc_46 (by decide +kernel)
theorem tw_578 : Cond.methodLink RX8 50 yX8_join ∈ wsL_law := sg_25 _ (List.mem_of_getElem? (i := 2) rfl)
theorem tw_579 : Cond.static yX8_join ∈ wsL_law := sg_25 _ (List.mem_of_getElem? (i := 3) rfl)
theorem tw_580 : Cond.code yX8_join cX8_join 5 (some .int) ∈ wsL_law := sg_25 _ (List.mem_of_getElem? (i := 4) rfl)
theorem dX8_work_168 : decode cX8_work 168 = .ok (.invokestatic 50, 3) := oc_184 (a := 0) (b := 50) (by decide +kernel)
theorem dX8_work_171 : decode cX8_work 171 = .ok (.iastore, 1) := oc_79 (by decide +kernel)
theorem dX8_work_151 : decode cX8_work 151 = .ok (.iconst 0, 1) := oc_3 (by decide +kernel)
theorem dX8_work_152 : decode cX8_work 152 = .ok (.ireturn, 1) := oc_172 (by decide +kernel)
theorem dX8_work_43 : decode cX8_work 43 = .ok (.if_icmp .lt 51, 3) := oc_161 (a := 0) (b := 51) (by decide +kernel)
theorem dX8_work_46 : decode cX8_work 46 = .ok (.iload 6, 2) := oc_21 (by decide +kernel)
theorem dX8_work_48 : decode cX8_work 48 = .ok (.bipush 17, 2) := oc_16 (a := 17) (by decide +kernel)
theorem dX8_work_50 : decode cX8_work 50 = .ok (.if_icmp .gt 44, 3) := oc_163 (a := 0) (b := 44) (by decide +kernel)
theorem dX8_work_83 : decode cX8_work 83 = .ok (.aload_n 2, 1) := oc_44 (by decide +kernel)
theorem dX8_work_84 : decode cX8_work 84 = .ok (.iload 6, 2) := oc_21 (by decide +kernel)
theorem dX8_work_86 : decode cX8_work 86 = .ok (.bipush 12, 2) := oc_16 (a := 12) (by decide +kernel)
theorem dX8_work_88 : decode cX8_work 88 = .ok (.isub, 1) := oc_100 (by decide +kernel)
theorem dX8_work_89 : decode cX8_work 89 = .ok (.iaload, 1) := oc_46 (by decide +kernel)
theorem dX8_firstSo_0 : decode cX8_firstSo 0 = .ok (.iconst 0, 1) := oc_3 (by decide +kernel)
theorem dX8_firstSo_1 : decode cX8_firstSo 1 = .ok (.istore 4, 2) := oc_54 (by decide +kernel)
theorem dX8_firstSo_3 : decode cX8_firstSo 3 = .ok (.iload 4, 2) := oc_21 (by decide +kernel)
theorem dX8_firstSo_5 : decode cX8_firstSo 5 = .ok (.aload_n 0, 1) := oc_42 (by decide +kernel)
theorem dX8_firstSo_6 : decode cX8_firstSo 6 = .ok (.getfield 21, 3) := oc_180 (a := 0) (b := 21) (by decide +kernel)
theorem dX8_firstSo_9 : decode cX8_firstSo 9 = .ok (.if_icmp .ge 34, 3) := oc_162 (a := 0) (b := 34) (by decide +kernel)
theorem dX8_firstSo_43 : decode cX8_firstSo 43 = .ok (.iconst (-1), 1) := oc_2 (by decide +kernel)
theorem dX8_firstSo_44 : decode cX8_firstSo 44 = .ok (.ireturn, 1) := oc_172 (by decide +kernel)
theorem dX8_firstSo_12 : decode cX8_firstSo 12 = .ok (.aload_n 0, 1) := oc_42 (by decide +kernel)
theorem dX8_firstSo_13 : decode cX8_firstSo 13 = .ok (.getfield 9, 3) := oc_180 (a := 0) (b := 9) (by decide +kernel)
theorem dX8_firstSo_16 : decode cX8_firstSo 16 = .ok (.iload 4, 2) := oc_21 (by decide +kernel)
theorem dX8_firstSo_18 : decode cX8_firstSo 18 = .ok (.iaload, 1) := oc_46 (by decide +kernel)
theorem dX8_firstSo_19 : decode cX8_firstSo 19 = .ok (.iload_n 1, 1) := oc_27 (by decide +kernel)
theorem dX8_firstSo_37 : decode cX8_firstSo 37 = .ok (.iinc 4 1, 3) := oc_132 (b := 1) (by decide +kernel)
theorem dX8_firstSo_40 : decode cX8_firstSo 40 = .ok (.goto (-37), 3) := oc_167 (a := 255) (b := 219) (by decide +kernel)
theorem dX8_firstSo_20 : decode cX8_firstSo 20 = .ok (.if_icmp .ne 17, 3) := oc_160 (a := 0) (b := 17) (by decide +kernel)
theorem dX8_firstSo_23 : decode cX8_firstSo 23 = .ok (.aload_n 0, 1) := oc_42 (by decide +kernel)
theorem dX8_firstSo_24 : decode cX8_firstSo 24 = .ok (.iload 4, 2) := oc_21 (by decide +kernel)
theorem dX8_firstSo_26 : decode cX8_firstSo 26 = .ok (.aload_n 2, 1) := oc_44 (by decide +kernel)
theorem dX8_firstSo_27 : decode cX8_firstSo 27 = .ok (.aload_n 3, 1) := oc_45 (by decide +kernel)
theorem tw_574 : Cond.methodLink RX8 29 yX8_work ∈ wsL_law := sg_24 _ (List.mem_of_getElem? (i := 22) rfl)
theorem tw_575 : Cond.instanceMethod yX8_work ∈ wsL_law := sg_24 _ (List.mem_of_getElem? (i := 23) rfl)
theorem tw_576 : Cond.selects RX8 yX8_work yX8_work ∈ wsL_law := sg_25 _ (List.mem_of_getElem? (i := 0) rfl)
theorem tw_577 : Cond.code yX8_work cX8_work 7 (some .int) ∈ wsL_law := sg_25 _ (List.mem_of_getElem? (i := 1) rfl)
theorem dX8_firstSo_28 : decode cX8_firstSo 28 = .ok (.invokevirtual 29, 3) := oc_182 (a := 0) (b := 29) (by decide +kernel)
theorem dX8_firstSo_31 : decode cX8_firstSo 31 = .ok (.ifCond .eq 6, 3) := oc_153 (a := 0) (b := 6) (by decide +kernel)
theorem dX8_firstSo_34 : decode cX8_firstSo 34 = .ok (.iload 4, 2) := oc_21 (by decide +kernel)
theorem dX8_firstSo_36 : decode cX8_firstSo 36 = .ok (.ireturn, 1) := oc_172 (by decide +kernel)
theorem dX3_whoIsSo_0 : decode cX3_whoIsSo 0 = .ok (.aload_n 0, 1) := oc_42 (by decide +kernel)
theorem dX3_whoIsSo_1 : decode cX3_whoIsSo 1 = .ok (.iload_n 1, 1) := oc_27 (by decide +kernel)
theorem dX3_whoIsSo_2 : decode cX3_whoIsSo 2 = .ok (.iload_n 2, 1) := oc_28 (by decide +kernel)
theorem dX3_whoIsSo_3 : decode cX3_whoIsSo 3 = .ok (.invokevirtual 52, 3) := oc_182 (a := 0) (b := 52) (by decide +kernel)
theorem dX3_whoIsSo_6 : decode cX3_whoIsSo 6 = .ok (.astore 6, 2) := oc_58 (by decide +kernel)
theorem dX3_whoIsSo_8 : decode cX3_whoIsSo 8 = .ok (.aload 6, 2) := oc_25 (by decide +kernel)
theorem dX3_whoIsSo_10 : decode cX3_whoIsSo 10 = .ok (.ifnonnull 6, 3) := oc_199 (a := 0) (b := 6) (by decide +kernel)
theorem dX3_whoIsSo_13 : decode cX3_whoIsSo 13 = .ok (.lload 4, 2) := oc_22 (by decide +kernel)
theorem dX3_whoIsSo_15 : decode cX3_whoIsSo 15 = .ok (.lreturn, 1) := oc_173 (by decide +kernel)
theorem dX3_whoIsSo_16 : decode cX3_whoIsSo 16 = .ok (.lconst 0, 1) := oc_9 (by decide +kernel)
theorem dX3_whoIsSo_17 : decode cX3_whoIsSo 17 = .ok (.lstore 7, 2) := oc_55 (by decide +kernel)
theorem dX3_whoIsSo_19 : decode cX3_whoIsSo 19 = .ok (.iconst 0, 1) := oc_3 (by decide +kernel)
theorem dX3_whoIsSo_20 : decode cX3_whoIsSo 20 = .ok (.istore 9, 2) := oc_54 (by decide +kernel)
theorem dX3_whoIsSo_22 : decode cX3_whoIsSo 22 = .ok (.iload 9, 2) := oc_21 (by decide +kernel)
theorem dX3_whoIsSo_24 : decode cX3_whoIsSo 24 = .ok (.aload_n 3, 1) := oc_45 (by decide +kernel)
theorem tw_465 : Cond.fieldLink RX3 60 "RingsUnder$Folk" "persons" "I" ∈ wsL_law := sg_20 _ (List.mem_of_getElem? (i := 9) rfl)
theorem dX3_whoIsSo_25 : decode cX3_whoIsSo 25 = .ok (.getfield 60, 3) := oc_180 (a := 0) (b := 60) (by decide +kernel)
theorem dX3_whoIsSo_28 : decode cX3_whoIsSo 28 = .ok (.if_icmp .ge 55, 3) := oc_162 (a := 0) (b := 55) (by decide +kernel)
theorem dX3_whoIsSo_83 : decode cX3_whoIsSo 83 = .ok (.lload 7, 2) := oc_22 (by decide +kernel)
theorem dX3_whoIsSo_85 : decode cX3_whoIsSo 85 = .ok (.lreturn, 1) := oc_173 (by decide +kernel)
theorem dX3_whoIsSo_31 : decode cX3_whoIsSo 31 = .ok (.lload 4, 2) := oc_22 (by decide +kernel)
theorem dX3_whoIsSo_33 : decode cX3_whoIsSo 33 = .ok (.iload 9, 2) := oc_21 (by decide +kernel)
theorem dX3_whoIsSo_35 : decode cX3_whoIsSo 35 = .ok (.invokestatic 65, 3) := oc_184 (a := 0) (b := 65) (by decide +kernel)
theorem dX3_whoIsSo_77 : decode cX3_whoIsSo 77 = .ok (.iinc 9 1, 3) := oc_132 (b := 1) (by decide +kernel)
theorem dX3_whoIsSo_80 : decode cX3_whoIsSo 80 = .ok (.goto (-58), 3) := oc_167 (a := 255) (b := 198) (by decide +kernel)
theorem dX3_whoIsSo_38 : decode cX3_whoIsSo 38 = .ok (.ifCond .eq 39, 3) := oc_153 (a := 0) (b := 39) (by decide +kernel)
theorem dX3_whoIsSo_41 : decode cX3_whoIsSo 41 = .ok (.aload_n 0, 1) := oc_42 (by decide +kernel)
theorem dX3_whoIsSo_42 : decode cX3_whoIsSo 42 = .ok (.aload_n 3, 1) := oc_45 (by decide +kernel)
theorem dX3_whoIsSo_43 : decode cX3_whoIsSo 43 = .ok (.iload 9, 2) := oc_21 (by decide +kernel)
theorem dX3_whoIsSo_45 : decode cX3_whoIsSo 45 = .ok (.iload_n 2, 1) := oc_28 (by decide +kernel)
theorem dX3_whoIsSo_46 : decode cX3_whoIsSo 46 = .ok (.iconst 0, 1) := oc_3 (by decide +kernel)
theorem tw_565 : Cond.methodLink RX3 69 yX3_nameAll ∈ wsL_law := sg_24 _ (List.mem_of_getElem? (i := 13) rfl)
theorem tw_566 : Cond.instanceMethod yX3_nameAll ∈ wsL_law := sg_24 _ (List.mem_of_getElem? (i := 14) rfl)
theorem tw_567 : Cond.selects RX3 yX3_nameAll yX3_nameAll ∈ wsL_law := sg_24 _ (List.mem_of_getElem? (i := 15) rfl)
theorem tw_568 : Cond.code yX3_nameAll cX3_nameAll 6 none ∈ wsL_law := sg_24 _ (List.mem_of_getElem? (i := 16) rfl)
theorem dX3_whoIsSo_47 : decode cX3_whoIsSo 47 = .ok (.invokevirtual 69, 3) := oc_182 (a := 0) (b := 69) (by decide +kernel)
theorem dX3_whoIsSo_50 : decode cX3_whoIsSo 50 = .ok (.aload 6, 2) := oc_25 (by decide +kernel)
theorem dX3_whoIsSo_52 : decode cX3_whoIsSo 52 = .ok (.iload_n 1, 1) := oc_27 (by decide +kernel)
theorem dX3_whoIsSo_53 : decode cX3_whoIsSo 53 = .ok (.aload_n 0, 1) := oc_42 (by decide +kernel)
theorem dX3_whoIsSo_54 : decode cX3_whoIsSo 54 = .ok (.getfield 27, 3) := oc_180 (a := 0) (b := 27) (by decide +kernel)
theorem dX3_whoIsSo_57 : decode cX3_whoIsSo 57 = .ok (.aload_n 0, 1) := oc_42 (by decide +kernel)
theorem tw_133 : Cond.fieldLink RX3 30 "RingsUnder$Law" "stack" "[I" ∈ wsL_law := sg_6 _ (List.mem_of_getElem? (i := 13) rfl)
theorem dX3_whoIsSo_58 : decode cX3_whoIsSo 58 = .ok (.getfield 30, 3) := oc_180 (a := 0) (b := 30) (by decide +kernel)
theorem tw_570 : Cond.methodLink RX3 73 yX8_firstSo ∈ wsL_law := sg_24 _ (List.mem_of_getElem? (i := 18) rfl)
theorem tw_571 : Cond.instanceMethod yX8_firstSo ∈ wsL_law := sg_24 _ (List.mem_of_getElem? (i := 19) rfl)
theorem tw_572 : Cond.selects RX8 yX8_firstSo yX8_firstSo ∈ wsL_law := sg_24 _ (List.mem_of_getElem? (i := 20) rfl)
theorem tw_573 : Cond.code yX8_firstSo cX8_firstSo 5 (some .int) ∈ wsL_law := sg_24 _ (List.mem_of_getElem? (i := 21) rfl)
theorem dX3_whoIsSo_61 : decode cX3_whoIsSo 61 = .ok (.invokevirtual 73, 3) := oc_182 (a := 0) (b := 73) (by decide +kernel)
theorem dX3_whoIsSo_64 : decode cX3_whoIsSo 64 = .ok (.iconst (-1), 1) := oc_2 (by decide +kernel)
theorem dX3_whoIsSo_65 : decode cX3_whoIsSo 65 = .ok (.if_icmp .eq 12, 3) := oc_159 (a := 0) (b := 12) (by decide +kernel)
theorem dX3_whoIsSo_68 : decode cX3_whoIsSo 68 = .ok (.lload 7, 2) := oc_22 (by decide +kernel)
theorem dX3_whoIsSo_70 : decode cX3_whoIsSo 70 = .ok (.lconst 1, 1) := oc_10 (by decide +kernel)
theorem dX3_whoIsSo_71 : decode cX3_whoIsSo 71 = .ok (.iload 9, 2) := oc_21 (by decide +kernel)
theorem dX3_whoIsSo_73 : decode cX3_whoIsSo 73 = .ok (.lshl, 1) := oc_121 (by decide +kernel)
theorem dX3_whoIsSo_74 : decode cX3_whoIsSo 74 = .ok (.lor, 1) := oc_129 (by decide +kernel)
theorem dX3_whoIsSo_75 : decode cX3_whoIsSo 75 = .ok (.lstore 7, 2) := oc_55 (by decide +kernel)
set_option maxHeartbeats 4000000 in
set_option maxRecDepth 100000 in
theorem s_X3_addForce (l : Launch) (D : va_G) (t : pq_T) (σ : pq_S) (I : Nat → Nat → Int32) (J : Nat → Nat → Int64) (ri : Nat → Nat → Int32) (rj : Nat → Nat → Int64) (rq : Nat → Nat → Option Nat) (sz : Nat) (tg : Nat → Nat) (hSH : SH σ tg) (hG0 : GS tg σ I ri rq) (this : Nat) (a0 : Int32) (a1 : Int32) (a2 : Int32) (hL_this : this ∈ σ.1) (hK_this : σ.2.1 this = 3) (h_a0 : rg a0 0 9) : MetI l yX3_addForce (wa yX3_addForce cX3_addForce 4 (some .int)) ({ frames := 0, cells := 0, slots := 0, locals := 0 }) [.ref this, .int a0, .int a1, .int a2] D t σ (I, J, ri, rj, rq) sz 0 0 (fun (r : Int32) (u : pq_S × pq_M) => ∃ I' : Nat → Nat → Int32, ∃ ri' : Nat → Nat → Int32, u = (σ, I', J, ri', rj, rq) ∧ GX [98] tg σ I ri rj I' ri' rj rq ∧ rg r (-1) 29) := by
  refine Met.ofW (cc := cX3_addForce) (maxL := 4) (ret := (some .int)) (by decide) rfl ?_
  intro p e s m args below meth c s₁ B hml hv
  obtain ⟨rfl, hsz, hP, hK, hD0, hN⟩ := hv
  have hx := B.exec
  have hb := B.bytes
  have hr := B.returns
  have hts := atoms_spec (ws := (wa yX3_addForce cX3_addForce 4 (some .int))) B.pre
  have hown : s.vm.findClass RX3 = some m.cls := findClass_of_methodNamed B.named
  have hlocks := B.notSynchronized
  subst hsz
  have hD : va_D (pq_B t σ (I, J, ri, rj, rq) s.heap.size) (pq_P t σ (I, J, ri, rj, rq)) := hD0.self
  generalize hAe : pq_B t σ (I, J, ri, rj, rq) s.heap.size = A at hD ⊢
  have hA : ∀ q : Nat, s.heap.size ≤ q → A q := fun q h => by rw [← hAe]; exact Or.inr h
  have hS : va_S A s.heap s.heap [] := va_S.rf
  have hG : GX [98] tg σ I ri rj I ri rj rq := ⟨hG0, fun _ _ _ => rfl, fun _ _ _ _ _ => rfl, fun _ _ _ _ _ => rfl⟩
  have hl := lv_entry ([.ref this, .int a0, .int a1, .int a2]) (n := 4) (Nat.le_of_ble_eq_true rfl)
  rw [lg_entry_eq]
  generalize (lg_sl ([.ref this, .int a0, .int a1, .int a2]) ++ List.replicate (4 - (lg_sl ([.ref this, .int a0, .int a1, .int a2])).length) Slot.unset).toArray = ls at hl ⊢
  have hl : lv_has ls 4 [(0, .ref this), (1, .int a0), (2, .int a1), (3, .int a2)] := hl
  refine q_gen (fun Q hQ => ?_)
  have go : ∀ (H : Heap) (locs : List Loc) (ls : Array Slot), va_P D vwCl (pq_P t σ (I, J, ri, rj, rq)) H → va_D A (pq_P t σ (I, J, ri, rj, rq)) → va_S A s.heap H locs → lv_has ls 4 [(0, .ref this), (1, .int a0), (2, .int a1), (3, .int a2)] → W p l e ({ frames := 0, cells := 0, slots := 0, locals := 0 } : Room) s m (List.toArray ([.ref this, .int a0, .int a1, .int a2] : List Value)) below meth c H locs 0 0 Q (F0 m 0 ls []) := by
    intro H locs ls hP hD hS hl
    refine lv_aload_n hx hb dX3_addForce_0 rfl (lv_at hl 0 rfl) ?_
    refine pg_f (v := .int (I 98 this)) (C := RX3) (T := TX3) (N := 8) hx hb hts (tw_i inlX3) hown hK hP hL_this hK_this (by decide) rfl 2 (by decide) (hts _ (tw_c tw_473)) rfl dX3_addForce_1 ?_
    have h_1 : rg (I 98 this) 0 30 := GX.rI hG 98 rfl
    refine lv_bipush (v := 30) hx hb dX3_addForce_4 (by decide) ?_
    refine lv_icmp_lt (tgt := 11) hx hb dX3_addForce_6 (by decide) (fun c_2 => ?_) (fun c_2 => ?_)
    · have h_3 : rg (I 98 this) 0 29 := rg_lt1 c_2 h_1 (rg_k (30 : Int32) 30 rfl) (by decide)
      refine lv_aload_n hx hb dX3_addForce_11 rfl (lv_at hl 0 rfl) ?_
      obtain ⟨w_4, hR_w_4, hL_w_4, hK_w_4, hN_w_4, hT_w_4⟩ := sh_a hSH 99 (ci := 3) (kd := 13) (len := 30) rfl (by decide) hL_this hK_this
      refine pg_f (v := .ref w_4) (C := RX3) (T := TX3) (N := 8) hx hb hts (tw_i inlX3) hown hK hP hL_this hK_this (by decide) rfl 3 (by decide) (hts _ (tw_c tw_129)) (pq_hv rfl hR_w_4) dX3_addForce_12 ?_
      refine lv_aload_n hx hb dX3_addForce_15 rfl (lv_at hl 0 rfl) ?_
      refine pg_f (v := .int (I 98 this)) (C := RX3) (T := TX3) (N := 8) hx hb hts (tw_i inlX3) hown hK hP hL_this hK_this (by decide) rfl 2 (by decide) (hts _ (tw_c tw_473)) rfl dX3_addForce_16 ?_
      refine lv_iload_n hx hb dX3_addForce_19 rfl (lv_at hl 1 rfl) ?_
      refine pt_i hx hb hK hP hD hS hL_w_4 hK_w_4 hN_w_4 (rg_in h_3 (by decide)) dX3_addForce_20 (fun r_5 H locs er_5 hP hD hS => ?_)
      have hG := GX.wR hG hSH hT_w_4 rfl er_5 (rg_w h_a0 (by decide)) (by decide)
      refine lv_aload_n hx hb dX3_addForce_21 rfl (lv_at hl 0 rfl) ?_
      obtain ⟨w_6, hR_w_6, hL_w_6, hK_w_6, hN_w_6, hT_w_6⟩ := sh_a hSH 100 (ci := 3) (kd := 13) (len := 30) rfl (by decide) hL_this hK_this
      refine pg_f (v := .ref w_6) (C := RX3) (T := TX3) (N := 8) hx hb hts (tw_i inlX3) hown hK hP hL_this hK_this (by decide) rfl 4 (by decide) (hts _ (tw_c tw_130)) (pq_hv rfl hR_w_6) dX3_addForce_22 ?_
      refine lv_aload_n hx hb dX3_addForce_25 rfl (lv_at hl 0 rfl) ?_
      refine pg_f (v := .int (I 98 this)) (C := RX3) (T := TX3) (N := 8) hx hb hts (tw_i inlX3) hown hK hP hL_this hK_this (by decide) rfl 2 (by decide) (hts _ (tw_c tw_473)) rfl dX3_addForce_26 ?_
      refine lv_iload_n hx hb dX3_addForce_29 rfl (lv_at hl 2 rfl) ?_
      refine pt_i hx hb hK hP hD hS hL_w_6 hK_w_6 hN_w_6 (rg_in h_3 (by decide)) dX3_addForce_30 (fun r_7 H locs er_7 hP hD hS => ?_)
      have hG := GX.wR hG hSH hT_w_6 rfl er_7 (rg_w (rg_full _) (by decide)) (by decide)
      refine lv_aload_n hx hb dX3_addForce_31 rfl (lv_at hl 0 rfl) ?_
      obtain ⟨w_8, hR_w_8, hL_w_8, hK_w_8, hN_w_8, hT_w_8⟩ := sh_a hSH 101 (ci := 3) (kd := 13) (len := 30) rfl (by decide) hL_this hK_this
      refine pg_f (v := .ref w_8) (C := RX3) (T := TX3) (N := 8) hx hb hts (tw_i inlX3) hown hK hP hL_this hK_this (by decide) rfl 5 (by decide) (hts _ (tw_c tw_131)) (pq_hv rfl hR_w_8) dX3_addForce_32 ?_
      refine lv_aload_n hx hb dX3_addForce_35 rfl (lv_at hl 0 rfl) ?_
      refine pg_f (v := .int (I 98 this)) (C := RX3) (T := TX3) (N := 8) hx hb hts (tw_i inlX3) hown hK hP hL_this hK_this (by decide) rfl 2 (by decide) (hts _ (tw_c tw_473)) rfl dX3_addForce_36 ?_
      refine lv_iload_n hx hb dX3_addForce_39 rfl (lv_at hl 3 rfl) ?_
      refine pt_i hx hb hK hP hD hS hL_w_8 hK_w_8 hN_w_8 (rg_in h_3 (by decide)) dX3_addForce_40 (fun r_9 H locs er_9 hP hD hS => ?_)
      have hG := GX.wR hG hSH hT_w_8 rfl er_9 (rg_w (rg_full _) (by decide)) (by decide)
      refine lv_aload_n hx hb dX3_addForce_41 rfl (lv_at hl 0 rfl) ?_
      refine lv_dup hx hb dX3_addForce_42 rfl ?_
      refine pg_f (v := .int (I 98 this)) (C := RX3) (T := TX3) (N := 8) hx hb hts (tw_i inlX3) hown hK hP hL_this hK_this (by decide) rfl 2 (by decide) (hts _ (tw_c tw_473)) rfl dX3_addForce_43 ?_
      refine lv_iconst (v := 1) hx hb dX3_addForce_46 (by decide) ?_
      refine lv_iadd hx hb dX3_addForce_47 ?_
      refine lv_topi (fun x_10 ex_10 => ?_)
      have h_11 : rg x_10 1 30 := rg_of_eq ex_10 (rg_add h_3 (rg_k (1 : Int32) 1 rfl) (by decide))
      refine pp_i (v := x_10) (ty := .int) (C := RX3) (T := TX3) (N := 8) hx hb hts (tw_i inlX3) tyX3 tyX3_ok nmX3 hown hK hP hD hS hL_this hK_this (by decide) rfl 2 98 (by decide) (hts _ (tw_c tw_473)) rfl (tyX3_ok 2 (by decide)) rfl rfl (Nat.le_of_ble_eq_true rfl) (ps_98 _ _ _ _ _) dX3_addForce_48 (fun I_12 H locs eI_12 hP hD hS => ?_)
      have hG := GX.wI hG 98 rfl eI_12 (rg_w h_11 (by decide)) (by decide)
      refine lv_aload_n hx hb dX3_addForce_51 rfl (lv_at hl 0 rfl) ?_
      refine pg_f (v := .int (I_12 98 this)) (C := RX3) (T := TX3) (N := 8) hx hb hts (tw_i inlX3) hown hK hP hL_this hK_this (by decide) rfl 2 (by decide) (hts _ (tw_c tw_473)) rfl dX3_addForce_52 ?_
      have h_13 : rg (I_12 98 this) 1 30 := (by rw [eI_12, pq_us]; exact h_11)
      refine lv_iconst (v := 1) hx hb dX3_addForce_55 (by decide) ?_
      refine lv_isub hx hb dX3_addForce_56 ?_
      refine lv_topi (fun x_14 ex_14 => ?_)
      have h_15 : rg x_14 0 29 := rg_of_eq ex_14 (rg_sub h_13 (rg_k (1 : Int32) 1 rfl) (by decide))
      subst hQ
      exact W.iret (v := x_14) hx hb hr (fun t1 ht hW => ⟨⟨x_14, (σ, I_12, J, r_9, rj, rq), rfl, ⟨I_12, r_9, rfl, hG, (rg_w h_15 (by decide))⟩, by rw [ht]; exact hP, va_K.moved hW.alike hK, hD⟩, hS.F ht⟩) hS.2.2 dX3_addForce_57
    · have h_16 : rg (I 98 this) 30 30 := rg_le2 (nlt c_2) (rg_k (30 : Int32) 30 rfl) h_1 (by decide)
      refine lv_iconst (v := (-1)) hx hb dX3_addForce_9 (by decide) ?_
      subst hQ
      exact W.iret (v := (-1)) hx hb hr (fun t1 ht hW => ⟨⟨(-1), (σ, I, J, ri, rj, rq), rfl, ⟨I, ri, rfl, hG, (rg_w (rg_k (-1 : Int32) (-1) rfl) (by decide))⟩, by rw [ht]; exact hP, va_K.moved hW.alike hK, hD⟩, hS.F ht⟩) hS.2.2 dX3_addForce_10
  exact go _ _ _ hP hD hS hl

set_option maxHeartbeats 4000000 in
set_option maxRecDepth 100000 in
theorem s_X8_firstOf (l : Launch) (D : va_G) (t : pq_T) (σ : pq_S) (I : Nat → Nat → Int32) (J : Nat → Nat → Int64) (ri : Nat → Nat → Int32) (rj : Nat → Nat → Int64) (rq : Nat → Nat → Option Nat) (sz : Nat) (tg : Nat → Nat) (hSH : SH σ tg) (hG0 : GS tg σ I ri rq) (this : Nat) (a0 : Int32) (hL_this : this ∈ σ.1) (hK_this : σ.2.1 this = 8) : MetI l yX8_firstOf (wa yX8_firstOf cX8_firstOf 3 (some .int)) ({ frames := 0, cells := 0, slots := 0, locals := 0 }) [.ref this, .int a0] D t σ (I, J, ri, rj, rq) sz 0 0 (fun (r : Int32) (u : pq_S × pq_M) => u = (σ, I, J, ri, rj, rq) ∧ (r.toInt = -1 ∨ r.toInt < (I 256 this).toInt) ∧ rg r (-1) 19) := by
  refine Met.ofW (cc := cX8_firstOf) (maxL := 3) (ret := (some .int)) (by decide) rfl ?_
  intro p e s m args below meth c s₁ B hml hv
  obtain ⟨rfl, hsz, hP, hK, hD0, hN⟩ := hv
  have hx := B.exec
  have hb := B.bytes
  have hr := B.returns
  have hts := atoms_spec (ws := (wa yX8_firstOf cX8_firstOf 3 (some .int))) B.pre
  have hown : s.vm.findClass RX8 = some m.cls := findClass_of_methodNamed B.named
  have hlocks := B.notSynchronized
  subst hsz
  have hD : va_D (pq_B t σ (I, J, ri, rj, rq) s.heap.size) (pq_P t σ (I, J, ri, rj, rq)) := hD0.self
  generalize hAe : pq_B t σ (I, J, ri, rj, rq) s.heap.size = A at hD ⊢
  have hA : ∀ q : Nat, s.heap.size ≤ q → A q := fun q h => by rw [← hAe]; exact Or.inr h
  have hS : va_S A s.heap s.heap [] := va_S.rf
  have hG : GX [] tg σ I ri rj I ri rj rq := ⟨hG0, fun _ _ _ => rfl, fun _ _ _ _ _ => rfl, fun _ _ _ _ _ => rfl⟩
  have hl := lv_entry ([.ref this, .int a0]) (n := 3) (Nat.le_of_ble_eq_true rfl)
  rw [lg_entry_eq]
  generalize (lg_sl ([.ref this, .int a0]) ++ List.replicate (3 - (lg_sl ([.ref this, .int a0])).length) Slot.unset).toArray = ls at hl ⊢
  have hl : lv_has ls 3 [(0, .ref this), (1, .int a0)] := hl
  refine q_gen (fun Q hQ => ?_)
  have go : ∀ (H : Heap) (locs : List Loc) (ls : Array Slot), va_P D vwCl (pq_P t σ (I, J, ri, rj, rq)) H → va_D A (pq_P t σ (I, J, ri, rj, rq)) → va_S A s.heap H locs → lv_has ls 3 [(0, .ref this), (1, .int a0)] → W p l e ({ frames := 0, cells := 0, slots := 0, locals := 0 } : Room) s m (List.toArray ([.ref this, .int a0] : List Value)) below meth c H locs 0 0 Q (F0 m 0 ls []) := by
    intro H locs ls hP hD hS hl
    refine lv_iconst (v := 0) hx hb dX8_firstOf_0 (by decide) ?_
    refine lv_istore_n (lv' := [(2, .int 0), (0, .ref this), (1, .int a0)]) hx hb dX8_firstOf_1 rfl hl (by decide) rfl (fun ls hl => ?_)
    have L_136 : ∀ (n_135 : Nat) (x_119 : Int32) (H : Heap) (locs : List Loc) (ls : Array Slot), rg x_119 0 20 → (20 - (x_119).toInt).toNat < n_135 → GX [] tg σ I ri rj I ri rj rq → va_P D vwCl (pq_P t σ (I, J, ri, rj, rq)) H → va_D A (pq_P t σ (I, J, ri, rj, rq)) → va_S A s.heap H locs → lv_has ls 3 [(0, .ref this), (1, .int a0), (2, .int x_119)] → W p l e ({ frames := 0, cells := 0, slots := 0, locals := 0 } : Room) s m (List.toArray ([.ref this, .int a0] : List Value)) below meth c H locs 0 0 Q (F0 m 2 ls []) := by
      intro n_135
      induction n_135 with
      | zero => intro x_119 H locs ls h_139 hm_134 hG hP hD hS hl; exact absurd hm_134 (Nat.not_lt_zero _)
      | succ n_135 ih_137 =>
        intro x_119 H locs ls h_139 hm_134 hG hP hD hS hl
        have uh_139 := h_139.1
        have vh_139 := h_139.2
        refine lv_iload_n hx hb dX8_firstOf_2 rfl (lv_at hl 2 rfl) ?_
        refine lv_aload_n hx hb dX8_firstOf_3 rfl (lv_at hl 0 rfl) ?_
        refine pg_f (v := .int (I 256 this)) (C := RX8) (T := TX8) (N := 4) hx hb hts (tw_i inlX8) hown hK hP hL_this hK_this (by decide) rfl 0 (by decide) (hts _ (tw_c tw_478)) rfl dX8_firstOf_4 ?_
        have h_140 : rg (I 256 this) 0 20 := GX.rI hG 256 rfl
        have uh_140 := h_140.1
        have vh_140 := h_140.2
        refine lv_icmp_ge (tgt := 28) hx hb dX8_firstOf_7 (by decide) (fun c_141 => ?_) (fun c_141 => ?_)
        · have tc_142 : (I 256 this).toInt ≤ (x_119).toInt := Int32.le_iff_toInt_le.mp c_141
          refine lv_iconst (v := (-1)) hx hb dX8_firstOf_28 (by decide) ?_
          subst hQ
          exact W.iret (v := (-1)) hx hb hr (fun t1 ht hW => ⟨⟨(-1), (σ, I, J, ri, rj, rq), rfl, ⟨rfl, (Or.inl rfl), (rg_w (rg_k (-1 : Int32) (-1) rfl) (by decide))⟩, by rw [ht]; exact hP, va_K.moved hW.alike hK, hD⟩, hS.F ht⟩) hS.2.2 dX8_firstOf_29
        · have tc_143 : (x_119).toInt < (I 256 this).toInt := Int32.lt_iff_toInt_lt.mp (nle c_141)
          have h_144 : rg x_119 0 19 := rg_lt1 (nle c_141) h_139 h_140 (by decide)
          have uh_144 := h_144.1
          have vh_144 := h_144.2
          have h_145 : rg (I 256 this) 1 20 := rg_lt2 (nle c_141) h_139 h_140 (by decide)
          have uh_145 := h_145.1
          have vh_145 := h_145.2
          refine lv_aload_n hx hb dX8_firstOf_10 rfl (lv_at hl 0 rfl) ?_
          obtain ⟨w_146, hR_w_146, hL_w_146, hK_w_146, hN_w_146, hT_w_146⟩ := sh_a hSH 257 (ci := 8) (kd := 13) (len := 20) rfl (by decide) hL_this hK_this
          refine pg_f (v := .ref w_146) (C := RX8) (T := TX8) (N := 4) hx hb hts (tw_i inlX8) hown hK hP hL_this hK_this (by decide) rfl 1 (by decide) (hts _ (tw_c tw_169)) (pq_hv rfl hR_w_146) dX8_firstOf_11 ?_
          refine lv_iload_n hx hb dX8_firstOf_14 rfl (lv_at hl 2 rfl) ?_
          refine pl_i hx hb hK hP hL_w_146 hK_w_146 hN_w_146 (rg_in h_144 (by decide)) dX8_firstOf_15 ?_
          refine lv_topi (fun x_147 ex_147 => ?_)
          refine lv_iload_n hx hb dX8_firstOf_16 rfl (lv_at hl 1 rfl) ?_
          refine lv_icmp_ne (tgt := 22) hx hb dX8_firstOf_17 (by decide) (fun c_148 => ?_) (fun c_148 => ?_)
          · have tc_149 : (x_147).toInt ≠ (a0).toInt := fun q => c_148 (Int32.toInt_inj.mp q)
            obtain ⟨x_150, ex_150⟩ : ∃ y : Int32, y = x_119 + Int32.ofInt 1 := ⟨_, rfl⟩
            have h_151 : rg x_150 1 20 := rg_of_eq ex_150 (rg_add h_144 (rg_k (Int32.ofInt 1) 1 rfl) (by decide))
            have uh_151 := h_151.1
            have vh_151 := h_151.2
            have tx_150 : (x_150).toInt = (x_119).toInt + 1 := by rw [ex_150]; exact i_add_rg (a2 := (x_119).toInt) (b2 := 1) rfl rfl h_144 (rg_k (Int32.ofInt 1) 1 rfl) (by decide)
            refine lv_iinc (v := x_150) (lv' := [(2, .int x_150), (0, .ref this), (1, .int a0)]) hx hb dX8_firstOf_22 hl (k := 2) rfl ex_150.symm (by decide) rfl (fun ls hl => ?_)
            refine lv_goto (tgt := 2) hx hb dX8_firstOf_25 (by decide) ?_
            exact ih_137 x_150 _ _ _ (rg_w h_151 (by decide)) (ms_up 1 hm_134 ex_150 rfl (by decide) h_144 (by decide) (by decide)) hG hP hD hS (lv_sub hl [1, 2, 0] rfl)
          · have tc_152 : (x_147).toInt = (a0).toInt := congrArg Int32.toInt c_148
            refine lv_iload_n hx hb dX8_firstOf_20 rfl (lv_at hl 2 rfl) ?_
            subst hQ
            exact W.iret (v := x_119) hx hb hr (fun t1 ht hW => ⟨⟨x_119, (σ, I, J, ri, rj, rq), rfl, ⟨rfl, (by omega), (rg_w h_144 (by decide))⟩, by rw [ht]; exact hP, va_K.moved hW.alike hK, hD⟩, hS.F ht⟩) hS.2.2 dX8_firstOf_21
    exact L_136 _ (0 : Int32) _ _ _ (rg_w (rg_k (0 : Int32) 0 rfl) (by decide)) (Nat.lt_succ_self _) hG hP hD hS (lv_sub hl [1, 2, 0] rfl)
  exact go _ _ _ hP hD hS hl

set_option maxHeartbeats 4000000 in
set_option maxRecDepth 100000 in
theorem s_X3_textFor (l : Launch) (D : va_G) (t : pq_T) (σ : pq_S) (I : Nat → Nat → Int32) (J : Nat → Nat → Int64) (ri : Nat → Nat → Int32) (rj : Nat → Nat → Int64) (rq : Nat → Nat → Option Nat) (sz : Nat) (tg : Nat → Nat) (hSH : SH σ tg) (hG0 : GS tg σ I ri rq) (this : Nat) (a0 : Int32) (a1 : Int32) (hL_this : this ∈ σ.1) (hK_this : σ.2.1 this = 3) : MetQ l yX3_textFor (wa yX3_textFor cX3_textFor 5 (some (.object "RingsUnder$Text"))) ({ frames := 1, cells := 0, slots := 0, locals := 22 }) [.ref this, .int a0, .int a1] D t σ (I, J, ri, rj, rq) sz 0 0 (fun (r : Option Nat) (u : pq_S × pq_M) => u = (σ, I, J, ri, rj, rq) ∧ (r = none ∨ ∃ w, r = some w ∧ w ∈ σ.1 ∧ σ.2.1 w = 8)) := by
  refine Met.ofW (cc := cX3_textFor) (maxL := 5) (ret := (some (.object "RingsUnder$Text"))) (by decide) rfl ?_
  intro p e s m args below meth c s₁ B hml hv
  obtain ⟨rfl, hsz, hP, hK, hD0, hN⟩ := hv
  have hx := B.exec
  have hb := B.bytes
  have hr := B.returns
  have hts := atoms_spec (ws := (wa yX3_textFor cX3_textFor 5 (some (.object "RingsUnder$Text")))) B.pre
  have hown : s.vm.findClass RX3 = some m.cls := findClass_of_methodNamed B.named
  have hlocks := B.notSynchronized
  subst hsz
  have hD : va_D (pq_B t σ (I, J, ri, rj, rq) s.heap.size) (pq_P t σ (I, J, ri, rj, rq)) := hD0.self
  generalize hAe : pq_B t σ (I, J, ri, rj, rq) s.heap.size = A at hD ⊢
  have hA : ∀ q : Nat, s.heap.size ≤ q → A q := fun q h => by rw [← hAe]; exact Or.inr h
  have hS : va_S A s.heap s.heap [] := va_S.rf
  have hG : GX [] tg σ I ri rj I ri rj rq := ⟨hG0, fun _ _ _ => rfl, fun _ _ _ _ _ => rfl, fun _ _ _ _ _ => rfl⟩
  have hl := lv_entry ([.ref this, .int a0, .int a1]) (n := 5) (Nat.le_of_ble_eq_true rfl)
  rw [lg_entry_eq]
  generalize (lg_sl ([.ref this, .int a0, .int a1]) ++ List.replicate (5 - (lg_sl ([.ref this, .int a0, .int a1])).length) Slot.unset).toArray = ls at hl ⊢
  have hl : lv_has ls 5 [(0, .ref this), (1, .int a0), (2, .int a1)] := hl
  refine q_gen (fun Q hQ => ?_)
  have go : ∀ (H : Heap) (locs : List Loc) (ls : Array Slot), va_P D vwCl (pq_P t σ (I, J, ri, rj, rq)) H → va_D A (pq_P t σ (I, J, ri, rj, rq)) → va_S A s.heap H locs → lv_has ls 5 [(0, .ref this), (1, .int a0), (2, .int a1)] → W p l e ({ frames := 1, cells := 0, slots := 0, locals := 22 } : Room) s m (List.toArray ([.ref this, .int a0, .int a1] : List Value)) below meth c H locs 0 0 Q (F0 m 0 ls []) := by
    intro H locs ls hP hD hS hl
    refine lv_aload_n hx hb dX3_textFor_0 rfl (lv_at hl 0 rfl) ?_
    refine pg_f (v := .int (I 98 this)) (C := RX3) (T := TX3) (N := 8) hx hb hts (tw_i inlX3) hown hK hP hL_this hK_this (by decide) rfl 2 (by decide) (hts _ (tw_c tw_473)) rfl dX3_textFor_1 ?_
    have h_1 : rg (I 98 this) 0 30 := GX.rI hG 98 rfl
    refine lv_iconst (v := 1) hx hb dX3_textFor_4 (by decide) ?_
    refine lv_isub hx hb dX3_textFor_5 ?_
    refine lv_topi (fun x_2 ex_2 => ?_)
    have h_3 : rg x_2 (-1) 29 := rg_of_eq ex_2 (rg_sub h_1 (rg_k (1 : Int32) 1 rfl) (by decide))
    refine lv_istore_n (lv' := [(3, .int x_2), (0, .ref this), (1, .int a0), (2, .int a1)]) hx hb dX3_textFor_6 rfl hl (by decide) rfl (fun ls hl => ?_)
    have L_128 : ∀ (n_127 : Nat) (x_95 : Int32) (H : Heap) (locs : List Loc) (ls : Array Slot), rg x_95 (-1) 29 → ((x_95).toInt - (-1)).toNat < n_127 → GX [] tg σ I ri rj I ri rj rq → va_P D vwCl (pq_P t σ (I, J, ri, rj, rq)) H → va_D A (pq_P t σ (I, J, ri, rj, rq)) → va_S A s.heap H locs → lv_has ls 5 [(0, .ref this), (1, .int a0), (2, .int a1), (3, .int x_95)] → W p l e ({ frames := 1, cells := 0, slots := 0, locals := 22 } : Room) s m (List.toArray ([.ref this, .int a0, .int a1] : List Value)) below meth c H locs 0 0 Q (F0 m 7 ls []) := by
      intro n_127
      induction n_127 with
      | zero => intro x_95 H locs ls h_131 hm_126 hG hP hD hS hl; exact absurd hm_126 (Nat.not_lt_zero _)
      | succ n_127 ih_129 =>
        intro x_95 H locs ls h_131 hm_126 hG hP hD hS hl
        refine lv_iload_n hx hb dX3_textFor_7 rfl (lv_at hl 3 rfl) ?_
        refine lv_if_lt (tgt := 68) hx hb dX3_textFor_8 (by decide) (fun c_132 => ?_) (fun c_132 => ?_)
        · have h_133 : rg x_95 (-1) (-1) := rg_lt1 c_132 h_131 (rg_k (0 : Int32) 0 rfl) (by decide)
          refine lv_null hx hb dX3_textFor_68 ?_
          subst hQ
          exact W.aret (v := .null) hx hb hr (Or.inl ⟨_, rfl⟩) (Or.inl rfl) (fun t1 ht hW => ⟨⟨none, (σ, I, J, ri, rj, rq), rfl, ⟨rfl, (Or.inl rfl)⟩, by rw [ht]; exact hP, va_K.moved hW.alike hK, hD⟩, hS.F ht⟩) hS.2.2 dX3_textFor_69
        · have h_134 : rg x_95 0 29 := rg_le2 (nlt c_132) (rg_k (0 : Int32) 0 rfl) h_131 (by decide)
          refine lv_aload_n hx hb dX3_textFor_11 rfl (lv_at hl 0 rfl) ?_
          obtain ⟨w_135, hR_w_135, hL_w_135, hK_w_135, hN_w_135, hT_w_135⟩ := sh_a hSH 100 (ci := 3) (kd := 13) (len := 30) rfl (by decide) hL_this hK_this
          refine pg_f (v := .ref w_135) (C := RX3) (T := TX3) (N := 8) hx hb hts (tw_i inlX3) hown hK hP hL_this hK_this (by decide) rfl 4 (by decide) (hts _ (tw_c tw_130)) (pq_hv rfl hR_w_135) dX3_textFor_12 ?_
          refine lv_iload_n hx hb dX3_textFor_15 rfl (lv_at hl 3 rfl) ?_
          refine pl_i hx hb hK hP hL_w_135 hK_w_135 hN_w_135 (rg_in h_134 (by decide)) dX3_textFor_16 ?_
          refine lv_topi (fun x_136 ex_136 => ?_)
          refine lv_iload_n hx hb dX3_textFor_17 rfl (lv_at hl 2 rfl) ?_
          have K_161 : ∀  (H : Heap) (locs : List Loc) (ls : Array Slot), GX [] tg σ I ri rj I ri rj rq → va_P D vwCl (pq_P t σ (I, J, ri, rj, rq)) H → va_D A (pq_P t σ (I, J, ri, rj, rq)) → va_S A s.heap H locs → lv_has ls 5 [(0, .ref this), (1, .int a0), (2, .int a1), (3, .int x_95)] → W p l e ({ frames := 1, cells := 0, slots := 0, locals := 22 } : Room) s m (List.toArray ([.ref this, .int a0, .int a1] : List Value)) below meth c H locs 0 0 Q (F0 m 62 ls []) := by
            intro H locs ls hG hP hD hS hl
            obtain ⟨x_162, ex_162⟩ : ∃ y : Int32, y = x_95 + Int32.ofInt (-1) := ⟨_, rfl⟩
            have h_163 : rg x_162 (-1) 28 := rg_of_eq ex_162 (rg_add h_134 (rg_k (Int32.ofInt (-1)) (-1) rfl) (by decide))
            refine lv_iinc (v := x_162) (lv' := [(3, .int x_162), (0, .ref this), (1, .int a0), (2, .int a1)]) hx hb dX3_textFor_62 hl (k := 3) rfl ex_162.symm (by decide) rfl (fun ls hl => ?_)
            refine lv_goto (tgt := 7) hx hb dX3_textFor_65 (by decide) ?_
            exact ih_129 x_162 _ _ _ (rg_w h_163 (by decide)) (ms_dn 1 hm_126 ex_162 rfl (by decide) h_134 (by decide) (by decide)) hG hP hD hS (lv_sub hl [1, 2, 3, 0] rfl)
          refine lv_icmp_gt (tgt := 62) hx hb dX3_textFor_18 (by decide) (fun c_164 => ?_) (fun c_164 => ?_)
          · have h_165 : rg a1 (-2147483648) 2147483646 := rg_lt1 c_164 (rg_full _) (rg_full _) (by decide)
            have h_166 : rg x_136 (-2147483647) 2147483647 := rg_lt2 c_164 (rg_full _) (rg_full _) (by decide)
            exact K_161 _ _ _ hG hP hD hS (lv_sub hl [0, 1, 2, 3] rfl)
          · refine lv_iload_n hx hb dX3_textFor_21 rfl (lv_at hl 2 rfl) ?_
            refine lv_aload_n hx hb dX3_textFor_22 rfl (lv_at hl 0 rfl) ?_
            obtain ⟨w_167, hR_w_167, hL_w_167, hK_w_167, hN_w_167, hT_w_167⟩ := sh_a hSH 101 (ci := 3) (kd := 13) (len := 30) rfl (by decide) hL_this hK_this
            refine pg_f (v := .ref w_167) (C := RX3) (T := TX3) (N := 8) hx hb hts (tw_i inlX3) hown hK hP hL_this hK_this (by decide) rfl 5 (by decide) (hts _ (tw_c tw_131)) (pq_hv rfl hR_w_167) dX3_textFor_23 ?_
            refine lv_iload_n hx hb dX3_textFor_26 rfl (lv_at hl 3 rfl) ?_
            refine pl_i hx hb hK hP hL_w_167 hK_w_167 hN_w_167 (rg_in h_134 (by decide)) dX3_textFor_27 ?_
            refine lv_topi (fun x_168 ex_168 => ?_)
            refine lv_icmp_gt (tgt := 62) hx hb dX3_textFor_28 (by decide) (fun c_169 => ?_) (fun c_169 => ?_)
            · have h_170 : rg x_168 (-2147483648) 2147483646 := rg_lt1 c_169 (rg_full _) (rg_full _) (by decide)
              have h_171 : rg a1 (-2147483647) 2147483647 := rg_lt2 c_169 (rg_full _) (rg_full _) (by decide)
              exact K_161 _ _ _ hG hP hD hS (lv_sub hl [0, 1, 2, 3] rfl)
            · refine lv_aload_n hx hb dX3_textFor_31 rfl (lv_at hl 0 rfl) ?_
              obtain ⟨w_172, hR_w_172, hL_w_172, hK_w_172, hN_w_172, hT_w_172⟩ := sh_a hSH 97 (ci := 3) (kd := 16) (len := 10) rfl (by decide) hL_this hK_this
              refine pg_f (v := .ref w_172) (C := RX3) (T := TX3) (N := 8) hx hb hts (tw_i inlX3) hown hK hP hL_this hK_this (by decide) rfl 1 (by decide) (hts _ (tw_c tw_128)) (pq_hv rfl hR_w_172) dX3_textFor_32 ?_
              refine lv_aload_n hx hb dX3_textFor_35 rfl (lv_at hl 0 rfl) ?_
              obtain ⟨w_173, hR_w_173, hL_w_173, hK_w_173, hN_w_173, hT_w_173⟩ := sh_a hSH 99 (ci := 3) (kd := 13) (len := 30) rfl (by decide) hL_this hK_this
              refine pg_f (v := .ref w_173) (C := RX3) (T := TX3) (N := 8) hx hb hts (tw_i inlX3) hown hK hP hL_this hK_this (by decide) rfl 3 (by decide) (hts _ (tw_c tw_129)) (pq_hv rfl hR_w_173) dX3_textFor_36 ?_
              refine lv_iload_n hx hb dX3_textFor_39 rfl (lv_at hl 3 rfl) ?_
              refine pl_i hx hb hK hP hL_w_173 hK_w_173 hN_w_173 (rg_in h_134 (by decide)) dX3_textFor_40 ?_
              refine lv_topi (fun x_174 ex_174 => ?_)
              have h_175 : rg x_174 0 9 := rg_of_eq ex_174 (GX.rR hG hT_w_173 rfl)
              refine pl_q hx hb hK hP hL_w_172 hK_w_172 hN_w_172 (rg_in h_175 (by decide)) dX3_textFor_41 ?_
              obtain ⟨o_x_176, eo_x_176⟩ : ∃ o, o = rq w_172 (x_174).toNatClampNeg := ⟨_, rfl⟩
              rw [← eo_x_176]
              rcases o_x_176 with _ | w_x_176
              · refine lv_astoreN (lv' := [(4, .null), (0, .ref this), (1, .int a0), (2, .int a1), (3, .int x_95)]) hx hb dX3_textFor_42 hl (by decide) rfl (fun ls hl => ?_)
                refine lv_aloadN hx hb dX3_textFor_44 (lv_at hl 0 rfl) ?_
                refine lv_ifnullN (tgt := 62) hx hb dX3_textFor_46 (by decide) ?_
                exact K_161 _ _ _ hG hP hD hS (lv_sub hl [1, 2, 3, 4] rfl)
              · have hL_w_x_176 := (GX.rQ hG eo_x_176.symm).1
                have hK_w_x_176 := (GX.rQ hG eo_x_176.symm).2
                refine lv_astore (lv' := [(4, .ref w_x_176), (0, .ref this), (1, .int a0), (2, .int a1), (3, .int x_95)]) hx hb dX3_textFor_42 hl (by decide) rfl (fun ls hl => ?_)
                refine lv_aload hx hb dX3_textFor_44 (lv_at hl 0 rfl) ?_
                refine lv_ifnull hx hb dX3_textFor_46 ?_
                refine lv_aload hx hb dX3_textFor_49 (lv_at hl 0 rfl) ?_
                refine lv_iload_n hx hb dX3_textFor_51 rfl (lv_at hl 2 rfl) ?_
                refine pk_i (va_runV (As := [.int a0]) (rest := []) ⟨hx, hb, hml, hown, hts⟩ (s_X8_firstOf l D t σ I J ri rj rq H.size tg hSH hG.1 w_x_176 a0 hL_w_x_176 hK_w_x_176) (cwV 1 hts (tw_V tw_474 tw_475 tw_476 tw_159 tw_477) rfl rfl rfl cv_yX8_firstOf_1 ⟨Nat.le_of_ble_eq_true rfl, Nat.le_of_ble_eq_true rfl⟩) ⟨pq_blind, pq_recv hK hP hL_w_x_176 hK_w_x_176 (by decide) rfl, pq_pre hK hN hP hD⟩ rfl rfl hl.1 rfl (lv_room (Nat.le_of_ble_eq_true rfl)) dX3_textFor_52 ⟨Nat.le_of_ble_eq_true rfl, Nat.le_of_ble_eq_true rfl⟩) hD hS hA (fun x_177 σ1 μ1 H locs hw_178 hP hD hS => ?_)
                obtain ⟨hu_179, hp_182, hr_181⟩ := hw_178
                obtain ⟨hu_179a, hu_179b⟩ := Prod.mk.inj hu_179
                rw [hu_179a, hu_179b] at hP hD
                refine lv_iconst (v := (-1)) hx hb dX3_textFor_55 (by decide) ?_
                refine lv_icmp_eq (tgt := 62) hx hb dX3_textFor_56 (by decide) (fun c_183 => ?_) (fun c_183 => ?_)
                · have h_184 : rg x_177 (-1) (-1) := rg_and hr_181 (rg_of_eq c_183 (rg_k (-1 : Int32) (-1) rfl)) (by decide)
                  exact K_161 _ _ _ hG hP hD hS (lv_sub hl [1, 2, 3, 4] rfl)
                · have h_185 : rg x_177 0 19 := rg_ne c_183 hr_181 (-1) rfl (by decide)
                  refine lv_aload hx hb dX3_textFor_59 (lv_at hl 0 rfl) ?_
                  subst hQ
                  exact W.aret (v := .ref w_x_176) hx hb hr (Or.inl ⟨_, rfl⟩) (Or.inr ⟨_, rfl⟩) (fun t1 ht hW => ⟨⟨(some w_x_176), (σ, I, J, ri, rj, rq), rfl, ⟨rfl, (Or.inr ⟨w_x_176, rfl, hL_w_x_176, hK_w_x_176⟩)⟩, by rw [ht]; exact hP, va_K.moved hW.alike hK, hD⟩, hS.F ht⟩) hS.2.2 dX3_textFor_61
    exact L_128 _ x_2 _ _ _ (rg_w h_3 (by decide)) (Nat.lt_succ_self _) hG hP hD hS (lv_sub hl [1, 2, 3, 0] rfl)
  exact go _ _ _ hP hD hS hl

set_option maxHeartbeats 4000000 in
set_option maxRecDepth 100000 in
theorem s_X8_numberOf (l : Launch) (D : va_G) (t : pq_T) (σ : pq_S) (I : Nat → Nat → Int32) (J : Nat → Nat → Int64) (ri : Nat → Nat → Int32) (rj : Nat → Nat → Int64) (rq : Nat → Nat → Option Nat) (sz : Nat) (tg : Nat → Nat) (hSH : SH σ tg) (hG0 : GS tg σ I ri rq) (this : Nat) (a0 : Int32) (a1 : Int32) (hL_this : this ∈ σ.1) (hK_this : σ.2.1 this = 8) : MetI l yX8_numberOf (wa yX8_numberOf cX8_numberOf 4 (some .int)) ({ frames := 1, cells := 0, slots := 0, locals := 22 }) [.ref this, .int a0, .int a1] D t σ (I, J, ri, rj, rq) sz 0 0 (fun (r : Int32) (u : pq_S × pq_M) => u = (σ, I, J, ri, rj, rq)) := by
  refine Met.ofW (cc := cX8_numberOf) (maxL := 4) (ret := (some .int)) (by decide) rfl ?_
  intro p e s m args below meth c s₁ B hml hv
  obtain ⟨rfl, hsz, hP, hK, hD0, hN⟩ := hv
  have hx := B.exec
  have hb := B.bytes
  have hr := B.returns
  have hts := atoms_spec (ws := (wa yX8_numberOf cX8_numberOf 4 (some .int))) B.pre
  have hown : s.vm.findClass RX8 = some m.cls := findClass_of_methodNamed B.named
  have hlocks := B.notSynchronized
  subst hsz
  have hD : va_D (pq_B t σ (I, J, ri, rj, rq) s.heap.size) (pq_P t σ (I, J, ri, rj, rq)) := hD0.self
  generalize hAe : pq_B t σ (I, J, ri, rj, rq) s.heap.size = A at hD ⊢
  have hA : ∀ q : Nat, s.heap.size ≤ q → A q := fun q h => by rw [← hAe]; exact Or.inr h
  have hS : va_S A s.heap s.heap [] := va_S.rf
  have hG : GX [] tg σ I ri rj I ri rj rq := ⟨hG0, fun _ _ _ => rfl, fun _ _ _ _ _ => rfl, fun _ _ _ _ _ => rfl⟩
  have hl := lv_entry ([.ref this, .int a0, .int a1]) (n := 4) (Nat.le_of_ble_eq_true rfl)
  rw [lg_entry_eq]
  generalize (lg_sl ([.ref this, .int a0, .int a1]) ++ List.replicate (4 - (lg_sl ([.ref this, .int a0, .int a1])).length) Slot.unset).toArray = ls at hl ⊢
  have hl : lv_has ls 4 [(0, .ref this), (1, .int a0), (2, .int a1)] := hl
  refine q_gen (fun Q hQ => ?_)
  have go : ∀ (H : Heap) (locs : List Loc) (ls : Array Slot), va_P D vwCl (pq_P t σ (I, J, ri, rj, rq)) H → va_D A (pq_P t σ (I, J, ri, rj, rq)) → va_S A s.heap H locs → lv_has ls 4 [(0, .ref this), (1, .int a0), (2, .int a1)] → W p l e ({ frames := 1, cells := 0, slots := 0, locals := 22 } : Room) s m (List.toArray ([.ref this, .int a0, .int a1] : List Value)) below meth c H locs 0 0 Q (F0 m 0 ls []) := by
    intro H locs ls hP hD hS hl
    refine lv_aload_n hx hb dX8_numberOf_0 rfl (lv_at hl 0 rfl) ?_
    refine lv_iload_n hx hb dX8_numberOf_1 rfl (lv_at hl 1 rfl) ?_
    refine pk_i (va_runV (As := [.int a0]) (rest := []) ⟨hx, hb, hml, hown, hts⟩ (s_X8_firstOf l D t σ I J ri rj rq H.size tg hSH hG.1 this a0 hL_this hK_this) (cwV 1 hts (tw_V tw_1003 tw_475 tw_476 tw_159 tw_477) rfl rfl rfl cv_yX8_firstOf_1 ⟨Nat.le_of_ble_eq_true rfl, Nat.le_of_ble_eq_true rfl⟩) ⟨pq_blind, pq_recv hK hP hL_this hK_this (by decide) rfl, pq_pre hK hN hP hD⟩ rfl rfl hl.1 rfl (lv_room (Nat.le_of_ble_eq_true rfl)) dX8_numberOf_2 ⟨Nat.le_of_ble_eq_true rfl, Nat.le_of_ble_eq_true rfl⟩) hD hS hA (fun x_1 σ1 μ1 H locs hw_2 hP hD hS => ?_)
    obtain ⟨hu_3, hp_6, hr_5⟩ := hw_2
    obtain ⟨hu_3a, hu_3b⟩ := Prod.mk.inj hu_3
    rw [hu_3a, hu_3b] at hP hD
    refine lv_istore_n (lv' := [(3, .int x_1), (0, .ref this), (1, .int a0), (2, .int a1)]) hx hb dX8_numberOf_5 rfl hl (by decide) rfl (fun ls hl => ?_)
    refine lv_iload_n hx hb dX8_numberOf_6 rfl (lv_at hl 0 rfl) ?_
    refine lv_iconst (v := (-1)) hx hb dX8_numberOf_7 (by decide) ?_
    refine lv_icmp_ne (tgt := 15) hx hb dX8_numberOf_8 (by decide) (fun c_7 => ?_) (fun c_7 => ?_)
    · have tc_8 : (x_1).toInt ≠ (-1) := fun q => c_7 (Int32.toInt_inj.mp q)
      have h_9 : rg x_1 0 19 := rg_ne c_7 hr_5 (-1) rfl (by decide)
      have uh_9 := h_9.1
      have vh_9 := h_9.2
      refine lv_aload_n hx hb dX8_numberOf_15 rfl (lv_at hl 1 rfl) ?_
      obtain ⟨w_10, hR_w_10, hL_w_10, hK_w_10, hN_w_10, hT_w_10⟩ := sh_a hSH 259 (ci := 8) (kd := 13) (len := 300) rfl (by decide) hL_this hK_this
      refine pg_f (v := .ref w_10) (C := RX8) (T := TX8) (N := 4) hx hb hts (tw_i inlX8) hown hK hP hL_this hK_this (by decide) rfl 3 (by decide) (hts _ (tw_c tw_171)) (pq_hv rfl hR_w_10) dX8_numberOf_16 ?_
      refine lv_aload_n hx hb dX8_numberOf_19 rfl (lv_at hl 1 rfl) ?_
      obtain ⟨w_11, hR_w_11, hL_w_11, hK_w_11, hN_w_11, hT_w_11⟩ := sh_a hSH 258 (ci := 8) (kd := 13) (len := 21) rfl (by decide) hL_this hK_this
      refine pg_f (v := .ref w_11) (C := RX8) (T := TX8) (N := 4) hx hb hts (tw_i inlX8) hown hK hP hL_this hK_this (by decide) rfl 2 (by decide) (hts _ (tw_c tw_170)) (pq_hv rfl hR_w_11) dX8_numberOf_20 ?_
      refine lv_iload_n hx hb dX8_numberOf_23 rfl (lv_at hl 0 rfl) ?_
      have h_12 : rg (ri w_11 (x_1).toNatClampNeg) 0 299 := GX.tx hG hL_this hK_this hR_w_11 hT_w_11 (by omega) (by omega)
      refine pl_i hx hb hK hP hL_w_11 hK_w_11 hN_w_11 (rg_in h_9 (by decide)) dX8_numberOf_24 ?_
      refine lv_topi (fun x_13 ex_13 => ?_)
      have h_14 : rg x_13 0 299 := rg_of_eq ex_13 (h_12)
      have uh_14 := h_14.1
      have vh_14 := h_14.2
      refine pl_i hx hb hK hP hL_w_10 hK_w_10 hN_w_10 (rg_in h_14 (by decide)) dX8_numberOf_25 ?_
      refine lv_topi (fun x_15 ex_15 => ?_)
      subst hQ
      exact W.iret (v := x_15) hx hb hr (fun t1 ht hW => ⟨⟨x_15, (σ, I, J, ri, rj, rq), rfl, rfl, by rw [ht]; exact hP, va_K.moved hW.alike hK, hD⟩, hS.F ht⟩) hS.2.2 dX8_numberOf_26
    · have tc_16 : (x_1).toInt = (-1) := congrArg Int32.toInt c_7
      have h_17 : rg x_1 (-1) (-1) := rg_and hr_5 (rg_of_eq c_7 (rg_k (-1 : Int32) (-1) rfl)) (by decide)
      have uh_17 := h_17.1
      have vh_17 := h_17.2
      refine lv_iload_n hx hb dX8_numberOf_11 rfl (lv_at hl 3 rfl) ?_
      refine lv_goto (tgt := 26) hx hb dX8_numberOf_12 (by decide) ?_
      subst hQ
      exact W.iret (v := a1) hx hb hr (fun t1 ht hW => ⟨⟨a1, (σ, I, J, ri, rj, rq), rfl, rfl, by rw [ht]; exact hP, va_K.moved hW.alike hK, hD⟩, hS.F ht⟩) hS.2.2 dX8_numberOf_26
  exact go _ _ _ hP hD hS hl

set_option maxHeartbeats 4000000 in
set_option maxRecDepth 100000 in
theorem s_X3_numberIn (l : Launch) (D : va_G) (t : pq_T) (σ : pq_S) (I : Nat → Nat → Int32) (J : Nat → Nat → Int64) (ri : Nat → Nat → Int32) (rj : Nat → Nat → Int64) (rq : Nat → Nat → Option Nat) (sz : Nat) (tg : Nat → Nat) (hSH : SH σ tg) (hG0 : GS tg σ I ri rq) (this : Nat) (a0 : Int32) (a1 : Int32) (a2 : Int32) (hL_this : this ∈ σ.1) (hK_this : σ.2.1 this = 3) : MetI l yX3_numberIn (wa yX3_numberIn cX3_numberIn 5 (some .int)) ({ frames := 2, cells := 0, slots := 0, locals := 46 }) [.ref this, .int a0, .int a1, .int a2] D t σ (I, J, ri, rj, rq) sz 0 0 (fun (r : Int32) (u : pq_S × pq_M) => u = (σ, I, J, ri, rj, rq)) := by
  refine Met.ofW (cc := cX3_numberIn) (maxL := 5) (ret := (some .int)) (by decide) rfl ?_
  intro p e s m args below meth c s₁ B hml hv
  obtain ⟨rfl, hsz, hP, hK, hD0, hN⟩ := hv
  have hx := B.exec
  have hb := B.bytes
  have hr := B.returns
  have hts := atoms_spec (ws := (wa yX3_numberIn cX3_numberIn 5 (some .int))) B.pre
  have hown : s.vm.findClass RX3 = some m.cls := findClass_of_methodNamed B.named
  have hlocks := B.notSynchronized
  subst hsz
  have hD : va_D (pq_B t σ (I, J, ri, rj, rq) s.heap.size) (pq_P t σ (I, J, ri, rj, rq)) := hD0.self
  generalize hAe : pq_B t σ (I, J, ri, rj, rq) s.heap.size = A at hD ⊢
  have hA : ∀ q : Nat, s.heap.size ≤ q → A q := fun q h => by rw [← hAe]; exact Or.inr h
  have hS : va_S A s.heap s.heap [] := va_S.rf
  have hG : GX [] tg σ I ri rj I ri rj rq := ⟨hG0, fun _ _ _ => rfl, fun _ _ _ _ _ => rfl, fun _ _ _ _ _ => rfl⟩
  have hl := lv_entry ([.ref this, .int a0, .int a1, .int a2]) (n := 5) (Nat.le_of_ble_eq_true rfl)
  rw [lg_entry_eq]
  generalize (lg_sl ([.ref this, .int a0, .int a1, .int a2]) ++ List.replicate (5 - (lg_sl ([.ref this, .int a0, .int a1, .int a2])).length) Slot.unset).toArray = ls at hl ⊢
  have hl : lv_has ls 5 [(0, .ref this), (1, .int a0), (2, .int a1), (3, .int a2)] := hl
  refine q_gen (fun Q hQ => ?_)
  have go : ∀ (H : Heap) (locs : List Loc) (ls : Array Slot), va_P D vwCl (pq_P t σ (I, J, ri, rj, rq)) H → va_D A (pq_P t σ (I, J, ri, rj, rq)) → va_S A s.heap H locs → lv_has ls 5 [(0, .ref this), (1, .int a0), (2, .int a1), (3, .int a2)] → W p l e ({ frames := 2, cells := 0, slots := 0, locals := 46 } : Room) s m (List.toArray ([.ref this, .int a0, .int a1, .int a2] : List Value)) below meth c H locs 0 0 Q (F0 m 0 ls []) := by
    intro H locs ls hP hD hS hl
    refine lv_aload_n hx hb dX3_numberIn_0 rfl (lv_at hl 0 rfl) ?_
    refine lv_iload_n hx hb dX3_numberIn_1 rfl (lv_at hl 1 rfl) ?_
    refine lv_iload_n hx hb dX3_numberIn_2 rfl (lv_at hl 2 rfl) ?_
    refine pk_q (va_runV (As := [.int a0, .int a1]) (rest := []) ⟨hx, hb, hml, hown, hts⟩ (s_X3_textFor l D t σ I J ri rj rq H.size tg hSH hG.1 this a0 a1 hL_this hK_this) (cwV 2 hts (tw_V tw_469 tw_470 tw_471 tw_49 tw_472) rfl rfl rfl cv_yX3_textFor_2 ⟨Nat.le_of_ble_eq_true rfl, Nat.le_of_ble_eq_true rfl⟩) ⟨pq_blind, pq_recv hK hP hL_this hK_this (by decide) rfl, pq_pre hK hN hP hD⟩ rfl rfl hl.1 rfl (lv_room (Nat.le_of_ble_eq_true rfl)) dX3_numberIn_3 ⟨Nat.le_of_ble_eq_true rfl, Nat.le_of_ble_eq_true rfl⟩) hD hS hA (fun x_1 σ1 μ1 H locs hw_2 hP hD hS => ?_)
    obtain ⟨hu_3, hr_5⟩ := hw_2
    obtain ⟨hu_3a, hu_3b⟩ := Prod.mk.inj hu_3
    rw [hu_3a, hu_3b] at hP hD
    rcases hr_5 with rfl | ⟨w_x_1, rfl, hL_w_x_1, hK_w_x_1⟩
    · refine lv_astoreN (lv' := [(4, .null), (0, .ref this), (1, .int a0), (2, .int a1), (3, .int a2)]) hx hb dX3_numberIn_6 hl (by decide) rfl (fun ls hl => ?_)
      refine lv_aloadN hx hb dX3_numberIn_8 (lv_at hl 0 rfl) ?_
      refine lv_ifnonnullN hx hb dX3_numberIn_10 ?_
      refine lv_iload_n hx hb dX3_numberIn_13 rfl (lv_at hl 4 rfl) ?_
      refine lv_goto (tgt := 24) hx hb dX3_numberIn_14 (by decide) ?_
      subst hQ
      exact W.iret (v := a2) hx hb hr (fun t1 ht hW => ⟨⟨a2, (σ, I, J, ri, rj, rq), rfl, rfl, by rw [ht]; exact hP, va_K.moved hW.alike hK, hD⟩, hS.F ht⟩) hS.2.2 dX3_numberIn_24
    · refine lv_astore (lv' := [(4, .ref w_x_1), (0, .ref this), (1, .int a0), (2, .int a1), (3, .int a2)]) hx hb dX3_numberIn_6 hl (by decide) rfl (fun ls hl => ?_)
      refine lv_aload hx hb dX3_numberIn_8 (lv_at hl 0 rfl) ?_
      refine lv_ifnonnull (tgt := 17) hx hb dX3_numberIn_10 (by decide) ?_
      refine lv_aload hx hb dX3_numberIn_17 (lv_at hl 0 rfl) ?_
      refine lv_iload_n hx hb dX3_numberIn_19 rfl (lv_at hl 2 rfl) ?_
      refine lv_iload_n hx hb dX3_numberIn_20 rfl (lv_at hl 4 rfl) ?_
      refine pk_i (va_runV (As := [.int a0, .int a2]) (rest := []) ⟨hx, hb, hml, hown, hts⟩ (s_X8_numberOf l D t σ I J ri rj rq H.size tg hSH hG.1 w_x_1 a0 a2 hL_w_x_1 hK_w_x_1) (cwV 2 hts (tw_V tw_999 tw_1000 tw_1001 tw_159 tw_1002) rfl rfl rfl cv_yX8_numberOf_2 ⟨Nat.le_of_ble_eq_true rfl, Nat.le_of_ble_eq_true rfl⟩) ⟨pq_blind, pq_recv hK hP hL_w_x_1 hK_w_x_1 (by decide) rfl, pq_pre hK hN hP hD⟩ rfl rfl hl.1 rfl (lv_room (Nat.le_of_ble_eq_true rfl)) dX3_numberIn_21 ⟨Nat.le_of_ble_eq_true rfl, Nat.le_of_ble_eq_true rfl⟩) hD hS hA (fun x_6 σ1 μ1 H locs hw_7 hP hD hS => ?_)
      have hu_8 := hw_7
      obtain ⟨hu_8a, hu_8b⟩ := Prod.mk.inj hu_8
      rw [hu_8a, hu_8b] at hP hD
      subst hQ
      exact W.iret (v := x_6) hx hb hr (fun t1 ht hW => ⟨⟨x_6, (σ, I, J, ri, rj, rq), rfl, rfl, by rw [ht]; exact hP, va_K.moved hW.alike hK, hD⟩, hS.F ht⟩) hS.2.2 dX3_numberIn_24
  exact go _ _ _ hP hD hS hl

set_option maxHeartbeats 4000000 in
set_option maxRecDepth 100000 in
theorem s_X3_councilIn (l : Launch) (D : va_G) (t : pq_T) (σ : pq_S) (I : Nat → Nat → Int32) (J : Nat → Nat → Int64) (ri : Nat → Nat → Int32) (rj : Nat → Nat → Int64) (rq : Nat → Nat → Option Nat) (sz : Nat) (tg : Nat → Nat) (hSH : SH σ tg) (hG0 : GS tg σ I ri rq) (this : Nat) (a0 : Int32) (hL_this : this ∈ σ.1) (hK_this : σ.2.1 this = 3) : MetI l yX3_councilIn (wa yX3_councilIn cX3_councilIn 2 (some .int)) ({ frames := 3, cells := 0, slots := 0, locals := 70 }) [.ref this, .int a0] D t σ (I, J, ri, rj, rq) sz 0 0 (fun (r : Int32) (u : pq_S × pq_M) => u = (σ, I, J, ri, rj, rq)) := by
  refine Met.ofW (cc := cX3_councilIn) (maxL := 2) (ret := (some .int)) (by decide) rfl ?_
  intro p e s m args below meth c s₁ B hml hv
  obtain ⟨rfl, hsz, hP, hK, hD0, hN⟩ := hv
  have hx := B.exec
  have hb := B.bytes
  have hr := B.returns
  have hts := atoms_spec (ws := (wa yX3_councilIn cX3_councilIn 2 (some .int))) B.pre
  have hown : s.vm.findClass RX3 = some m.cls := findClass_of_methodNamed B.named
  have hlocks := B.notSynchronized
  subst hsz
  have hD : va_D (pq_B t σ (I, J, ri, rj, rq) s.heap.size) (pq_P t σ (I, J, ri, rj, rq)) := hD0.self
  generalize hAe : pq_B t σ (I, J, ri, rj, rq) s.heap.size = A at hD ⊢
  have hA : ∀ q : Nat, s.heap.size ≤ q → A q := fun q h => by rw [← hAe]; exact Or.inr h
  have hS : va_S A s.heap s.heap [] := va_S.rf
  have hG : GX [] tg σ I ri rj I ri rj rq := ⟨hG0, fun _ _ _ => rfl, fun _ _ _ _ _ => rfl, fun _ _ _ _ _ => rfl⟩
  have hl := lv_entry ([.ref this, .int a0]) (n := 2) (Nat.le_of_ble_eq_true rfl)
  rw [lg_entry_eq]
  generalize (lg_sl ([.ref this, .int a0]) ++ List.replicate (2 - (lg_sl ([.ref this, .int a0])).length) Slot.unset).toArray = ls at hl ⊢
  have hl : lv_has ls 2 [(0, .ref this), (1, .int a0)] := hl
  refine q_gen (fun Q hQ => ?_)
  have go : ∀ (H : Heap) (locs : List Loc) (ls : Array Slot), va_P D vwCl (pq_P t σ (I, J, ri, rj, rq)) H → va_D A (pq_P t σ (I, J, ri, rj, rq)) → va_S A s.heap H locs → lv_has ls 2 [(0, .ref this), (1, .int a0)] → W p l e ({ frames := 3, cells := 0, slots := 0, locals := 70 } : Room) s m (List.toArray ([.ref this, .int a0] : List Value)) below meth c H locs 0 0 Q (F0 m 0 ls []) := by
    intro H locs ls hP hD hS hl
    refine lv_aload_n hx hb dX3_councilIn_0 rfl (lv_at hl 0 rfl) ?_
    refine lv_bipush (v := 6) hx hb dX3_councilIn_1 (by decide) ?_
    refine lv_iload_n hx hb dX3_councilIn_3 rfl (lv_at hl 1 rfl) ?_
    refine lv_bipush (v := 50) hx hb dX3_councilIn_4 (by decide) ?_
    refine pk_i (va_runV (As := [.int 6, .int a0, .int 50]) (rest := []) ⟨hx, hb, hml, hown, hts⟩ (s_X3_numberIn l D t σ I J ri rj rq H.size tg hSH hG.1 this (6 : Int32) a0 (50 : Int32) hL_this hK_this) (cwV 3 hts (tw_V tw_995 tw_996 tw_997 tw_49 tw_998) rfl rfl rfl cv_yX3_numberIn_3 ⟨Nat.le_of_ble_eq_true rfl, Nat.le_of_ble_eq_true rfl⟩) ⟨pq_blind, pq_recv hK hP hL_this hK_this (by decide) rfl, pq_pre hK hN hP hD⟩ rfl rfl hl.1 rfl (lv_room (Nat.le_of_ble_eq_true rfl)) dX3_councilIn_6 ⟨Nat.le_of_ble_eq_true rfl, Nat.le_of_ble_eq_true rfl⟩) hD hS hA (fun x_1 σ1 μ1 H locs hw_2 hP hD hS => ?_)
    have hu_3 := hw_2
    obtain ⟨hu_3a, hu_3b⟩ := Prod.mk.inj hu_3
    rw [hu_3a, hu_3b] at hP hD
    subst hQ
    exact W.iret (v := x_1) hx hb hr (fun t1 ht hW => ⟨⟨x_1, (σ, I, J, ri, rj, rq), rfl, rfl, by rw [ht]; exact hP, va_K.moved hW.alike hK, hD⟩, hS.F ht⟩) hS.2.2 dX3_councilIn_9
  exact go _ _ _ hP hD hS hl

set_option maxHeartbeats 4000000 in
set_option maxRecDepth 100000 in
theorem s_X3_leaveIn (l : Launch) (D : va_G) (t : pq_T) (σ : pq_S) (I : Nat → Nat → Int32) (J : Nat → Nat → Int64) (ri : Nat → Nat → Int32) (rj : Nat → Nat → Int64) (rq : Nat → Nat → Option Nat) (sz : Nat) (tg : Nat → Nat) (hSH : SH σ tg) (hG0 : GS tg σ I ri rq) (this : Nat) (a0 : Int32) (hL_this : this ∈ σ.1) (hK_this : σ.2.1 this = 3) : MetI l yX3_leaveIn (wa yX3_leaveIn cX3_leaveIn 2 (some .int)) ({ frames := 3, cells := 0, slots := 0, locals := 70 }) [.ref this, .int a0] D t σ (I, J, ri, rj, rq) sz 0 0 (fun (r : Int32) (u : pq_S × pq_M) => u = (σ, I, J, ri, rj, rq)) := by
  refine Met.ofW (cc := cX3_leaveIn) (maxL := 2) (ret := (some .int)) (by decide) rfl ?_
  intro p e s m args below meth c s₁ B hml hv
  obtain ⟨rfl, hsz, hP, hK, hD0, hN⟩ := hv
  have hx := B.exec
  have hb := B.bytes
  have hr := B.returns
  have hts := atoms_spec (ws := (wa yX3_leaveIn cX3_leaveIn 2 (some .int))) B.pre
  have hown : s.vm.findClass RX3 = some m.cls := findClass_of_methodNamed B.named
  have hlocks := B.notSynchronized
  subst hsz
  have hD : va_D (pq_B t σ (I, J, ri, rj, rq) s.heap.size) (pq_P t σ (I, J, ri, rj, rq)) := hD0.self
  generalize hAe : pq_B t σ (I, J, ri, rj, rq) s.heap.size = A at hD ⊢
  have hA : ∀ q : Nat, s.heap.size ≤ q → A q := fun q h => by rw [← hAe]; exact Or.inr h
  have hS : va_S A s.heap s.heap [] := va_S.rf
  have hG : GX [] tg σ I ri rj I ri rj rq := ⟨hG0, fun _ _ _ => rfl, fun _ _ _ _ _ => rfl, fun _ _ _ _ _ => rfl⟩
  have hl := lv_entry ([.ref this, .int a0]) (n := 2) (Nat.le_of_ble_eq_true rfl)
  rw [lg_entry_eq]
  generalize (lg_sl ([.ref this, .int a0]) ++ List.replicate (2 - (lg_sl ([.ref this, .int a0])).length) Slot.unset).toArray = ls at hl ⊢
  have hl : lv_has ls 2 [(0, .ref this), (1, .int a0)] := hl
  refine q_gen (fun Q hQ => ?_)
  have go : ∀ (H : Heap) (locs : List Loc) (ls : Array Slot), va_P D vwCl (pq_P t σ (I, J, ri, rj, rq)) H → va_D A (pq_P t σ (I, J, ri, rj, rq)) → va_S A s.heap H locs → lv_has ls 2 [(0, .ref this), (1, .int a0)] → W p l e ({ frames := 3, cells := 0, slots := 0, locals := 70 } : Room) s m (List.toArray ([.ref this, .int a0] : List Value)) below meth c H locs 0 0 Q (F0 m 0 ls []) := by
    intro H locs ls hP hD hS hl
    refine lv_aload_n hx hb dX3_leaveIn_0 rfl (lv_at hl 0 rfl) ?_
    refine lv_bipush (v := 8) hx hb dX3_leaveIn_1 (by decide) ?_
    refine lv_iload_n hx hb dX3_leaveIn_3 rfl (lv_at hl 1 rfl) ?_
    refine lv_bipush (v := 10) hx hb dX3_leaveIn_4 (by decide) ?_
    refine pk_i (va_runV (As := [.int 8, .int a0, .int 10]) (rest := []) ⟨hx, hb, hml, hown, hts⟩ (s_X3_numberIn l D t σ I J ri rj rq H.size tg hSH hG.1 this (8 : Int32) a0 (10 : Int32) hL_this hK_this) (cwV 3 hts (tw_V tw_995 tw_996 tw_997 tw_49 tw_998) rfl rfl rfl cv_yX3_numberIn_3 ⟨Nat.le_of_ble_eq_true rfl, Nat.le_of_ble_eq_true rfl⟩) ⟨pq_blind, pq_recv hK hP hL_this hK_this (by decide) rfl, pq_pre hK hN hP hD⟩ rfl rfl hl.1 rfl (lv_room (Nat.le_of_ble_eq_true rfl)) dX3_leaveIn_6 ⟨Nat.le_of_ble_eq_true rfl, Nat.le_of_ble_eq_true rfl⟩) hD hS hA (fun x_1 σ1 μ1 H locs hw_2 hP hD hS => ?_)
    have hu_3 := hw_2
    obtain ⟨hu_3a, hu_3b⟩ := Prod.mk.inj hu_3
    rw [hu_3a, hu_3b] at hP hD
    subst hQ
    exact W.iret (v := x_1) hx hb hr (fun t1 ht hW => ⟨⟨x_1, (σ, I, J, ri, rj, rq), rfl, rfl, by rw [ht]; exact hP, va_K.moved hW.alike hK, hD⟩, hS.F ht⟩) hS.2.2 dX3_leaveIn_9
  exact go _ _ _ hP hD hS hl

set_option maxHeartbeats 4000000 in
set_option maxRecDepth 100000 in
theorem s_X3_fixIn (l : Launch) (D : va_G) (t : pq_T) (σ : pq_S) (I : Nat → Nat → Int32) (J : Nat → Nat → Int64) (ri : Nat → Nat → Int32) (rj : Nat → Nat → Int64) (rq : Nat → Nat → Option Nat) (sz : Nat) (tg : Nat → Nat) (hSH : SH σ tg) (hG0 : GS tg σ I ri rq) (this : Nat) (a0 : Int32) (hL_this : this ∈ σ.1) (hK_this : σ.2.1 this = 3) : MetI l yX3_fixIn (wa yX3_fixIn cX3_fixIn 2 (some .int)) ({ frames := 3, cells := 0, slots := 0, locals := 70 }) [.ref this, .int a0] D t σ (I, J, ri, rj, rq) sz 0 0 (fun (r : Int32) (u : pq_S × pq_M) => u = (σ, I, J, ri, rj, rq)) := by
  refine Met.ofW (cc := cX3_fixIn) (maxL := 2) (ret := (some .int)) (by decide) rfl ?_
  intro p e s m args below meth c s₁ B hml hv
  obtain ⟨rfl, hsz, hP, hK, hD0, hN⟩ := hv
  have hx := B.exec
  have hb := B.bytes
  have hr := B.returns
  have hts := atoms_spec (ws := (wa yX3_fixIn cX3_fixIn 2 (some .int))) B.pre
  have hown : s.vm.findClass RX3 = some m.cls := findClass_of_methodNamed B.named
  have hlocks := B.notSynchronized
  subst hsz
  have hD : va_D (pq_B t σ (I, J, ri, rj, rq) s.heap.size) (pq_P t σ (I, J, ri, rj, rq)) := hD0.self
  generalize hAe : pq_B t σ (I, J, ri, rj, rq) s.heap.size = A at hD ⊢
  have hA : ∀ q : Nat, s.heap.size ≤ q → A q := fun q h => by rw [← hAe]; exact Or.inr h
  have hS : va_S A s.heap s.heap [] := va_S.rf
  have hG : GX [] tg σ I ri rj I ri rj rq := ⟨hG0, fun _ _ _ => rfl, fun _ _ _ _ _ => rfl, fun _ _ _ _ _ => rfl⟩
  have hl := lv_entry ([.ref this, .int a0]) (n := 2) (Nat.le_of_ble_eq_true rfl)
  rw [lg_entry_eq]
  generalize (lg_sl ([.ref this, .int a0]) ++ List.replicate (2 - (lg_sl ([.ref this, .int a0])).length) Slot.unset).toArray = ls at hl ⊢
  have hl : lv_has ls 2 [(0, .ref this), (1, .int a0)] := hl
  refine q_gen (fun Q hQ => ?_)
  have go : ∀ (H : Heap) (locs : List Loc) (ls : Array Slot), va_P D vwCl (pq_P t σ (I, J, ri, rj, rq)) H → va_D A (pq_P t σ (I, J, ri, rj, rq)) → va_S A s.heap H locs → lv_has ls 2 [(0, .ref this), (1, .int a0)] → W p l e ({ frames := 3, cells := 0, slots := 0, locals := 70 } : Room) s m (List.toArray ([.ref this, .int a0] : List Value)) below meth c H locs 0 0 Q (F0 m 0 ls []) := by
    intro H locs ls hP hD hS hl
    refine lv_aload_n hx hb dX3_fixIn_0 rfl (lv_at hl 0 rfl) ?_
    refine lv_bipush (v := 7) hx hb dX3_fixIn_1 (by decide) ?_
    refine lv_iload_n hx hb dX3_fixIn_3 rfl (lv_at hl 1 rfl) ?_
    refine lv_iconst (v := (-1)) hx hb dX3_fixIn_4 (by decide) ?_
    refine pk_i (va_runV (As := [.int 7, .int a0, .int (-1)]) (rest := []) ⟨hx, hb, hml, hown, hts⟩ (s_X3_numberIn l D t σ I J ri rj rq H.size tg hSH hG.1 this (7 : Int32) a0 (-1 : Int32) hL_this hK_this) (cwV 3 hts (tw_V tw_995 tw_996 tw_997 tw_49 tw_998) rfl rfl rfl cv_yX3_numberIn_3 ⟨Nat.le_of_ble_eq_true rfl, Nat.le_of_ble_eq_true rfl⟩) ⟨pq_blind, pq_recv hK hP hL_this hK_this (by decide) rfl, pq_pre hK hN hP hD⟩ rfl rfl hl.1 rfl (lv_room (Nat.le_of_ble_eq_true rfl)) dX3_fixIn_5 ⟨Nat.le_of_ble_eq_true rfl, Nat.le_of_ble_eq_true rfl⟩) hD hS hA (fun x_1 σ1 μ1 H locs hw_2 hP hD hS => ?_)
    have hu_3 := hw_2
    obtain ⟨hu_3a, hu_3b⟩ := Prod.mk.inj hu_3
    rw [hu_3a, hu_3b] at hP hD
    subst hQ
    exact W.iret (v := x_1) hx hb hr (fun t1 ht hW => ⟨⟨x_1, (σ, I, J, ri, rj, rq), rfl, rfl, by rw [ht]; exact hP, va_K.moved hW.alike hK, hD⟩, hS.F ht⟩) hS.2.2 dX3_fixIn_8
  exact go _ _ _ hP hD hS hl

set_option maxHeartbeats 4000000 in
set_option maxRecDepth 100000 in
theorem s_X3_nameAll (l : Launch) (D : va_G) (t : pq_T) (σ : pq_S) (I : Nat → Nat → Int32) (J : Nat → Nat → Int64) (ri : Nat → Nat → Int32) (rj : Nat → Nat → Int64) (rq : Nat → Nat → Option Nat) (sz : Nat) (tg : Nat → Nat) (hSH : SH σ tg) (hG0 : GS tg σ I ri rq) (this : Nat) (a0 : Nat) (a1 : Int32) (a2 : Int32) (a3 : Int32) (hL_this : this ∈ σ.1) (hK_this : σ.2.1 this = 3) (hL_a0 : a0 ∈ σ.1) (hK_a0 : σ.2.1 a0 = 0) (h_a1 : rg a1 0 39) : MetV l yX3_nameAll (wa yX3_nameAll cX3_nameAll 6 none) ({ frames := 1, cells := 0, slots := 0, locals := 23 }) [.ref this, .ref a0, .int a1, .int a2, .int a3] D t σ (I, J, ri, rj, rq) sz 0 0 (fun (u : pq_S × pq_M) => ∃ ri' : Nat → Nat → Int32, u = (σ, I, J, ri', rj, rq) ∧ GX [] tg σ I ri rj I ri' rj rq) := by
  refine Met.ofW (cc := cX3_nameAll) (maxL := 6) (ret := none) (by decide) rfl ?_
  intro p e s m args below meth c s₁ B hml hv
  obtain ⟨rfl, hsz, hP, hK, hD0, hN⟩ := hv
  have hx := B.exec
  have hb := B.bytes
  have hr := B.returns
  have hts := atoms_spec (ws := (wa yX3_nameAll cX3_nameAll 6 none)) B.pre
  have hown : s.vm.findClass RX3 = some m.cls := findClass_of_methodNamed B.named
  have hlocks := B.notSynchronized
  subst hsz
  have hD : va_D (pq_B t σ (I, J, ri, rj, rq) s.heap.size) (pq_P t σ (I, J, ri, rj, rq)) := hD0.self
  generalize hAe : pq_B t σ (I, J, ri, rj, rq) s.heap.size = A at hD ⊢
  have hA : ∀ q : Nat, s.heap.size ≤ q → A q := fun q h => by rw [← hAe]; exact Or.inr h
  have hS : va_S A s.heap s.heap [] := va_S.rf
  have hG : GX [] tg σ I ri rj I ri rj rq := ⟨hG0, fun _ _ _ => rfl, fun _ _ _ _ _ => rfl, fun _ _ _ _ _ => rfl⟩
  have hl := lv_entry ([.ref this, .ref a0, .int a1, .int a2, .int a3]) (n := 6) (Nat.le_of_ble_eq_true rfl)
  rw [lg_entry_eq]
  generalize (lg_sl ([.ref this, .ref a0, .int a1, .int a2, .int a3]) ++ List.replicate (6 - (lg_sl ([.ref this, .ref a0, .int a1, .int a2, .int a3])).length) Slot.unset).toArray = ls at hl ⊢
  have hl : lv_has ls 6 [(0, .ref this), (1, .ref a0), (2, .int a1), (3, .int a2), (4, .int a3)] := hl
  refine q_gen (fun Q hQ => ?_)
  have go : ∀ (H : Heap) (locs : List Loc) (ls : Array Slot), va_P D vwCl (pq_P t σ (I, J, ri, rj, rq)) H → va_D A (pq_P t σ (I, J, ri, rj, rq)) → va_S A s.heap H locs → lv_has ls 6 [(0, .ref this), (1, .ref a0), (2, .int a1), (3, .int a2), (4, .int a3)] → W p l e ({ frames := 1, cells := 0, slots := 0, locals := 23 } : Room) s m (List.toArray ([.ref this, .ref a0, .int a1, .int a2, .int a3] : List Value)) below meth c H locs 0 0 Q (F0 m 0 ls []) := by
    intro H locs ls hP hD hS hl
    refine lv_bipush (v := 12) hx hb dX3_nameAll_0 (by decide) ?_
    refine lv_istore (lv' := [(5, .int 12), (0, .ref this), (1, .ref a0), (2, .int a1), (3, .int a2), (4, .int a3)]) hx hb dX3_nameAll_2 hl (by decide) rfl (fun ls hl => ?_)
    have L_137 : ∀ (n_136 : Nat) (x_116 : Int32) (ri_117 : Nat → Nat → Int32) (H : Heap) (locs : List Loc) (ls : Array Slot), rg x_116 12 17 → (17 - (x_116).toInt).toNat < n_136 → GX [] tg σ I ri rj I ri_117 rj rq → va_P D vwCl (pq_P t σ (I, J, ri_117, rj, rq)) H → va_D A (pq_P t σ (I, J, ri_117, rj, rq)) → va_S A s.heap H locs → lv_has ls 6 [(0, .ref this), (1, .ref a0), (2, .int a1), (3, .int a2), (4, .int a3), (5, .int x_116)] → W p l e ({ frames := 1, cells := 0, slots := 0, locals := 23 } : Room) s m (List.toArray ([.ref this, .ref a0, .int a1, .int a2, .int a3] : List Value)) below meth c H locs 0 0 Q (F0 m 4 ls []) := by
      intro n_136
      induction n_136 with
      | zero => intro x_116 ri_117 H locs ls h_140 hm_135 hG hP hD hS hl; exact absurd hm_135 (Nat.not_lt_zero _)
      | succ n_136 ih_138 =>
        intro x_116 ri_117 H locs ls h_140 hm_135 hG hP hD hS hl
        refine lv_iload hx hb dX3_nameAll_4 (lv_at hl 5 rfl) ?_
        refine lv_bipush (v := 17) hx hb dX3_nameAll_6 (by decide) ?_
        refine lv_icmp_ge (tgt := 35) hx hb dX3_nameAll_8 (by decide) (fun c_141 => ?_) (fun c_141 => ?_)
        · have h_142 : rg x_116 17 17 := rg_le2 c_141 (rg_k (17 : Int32) 17 rfl) h_140 (by decide)
          refine lv_aload_n hx hb dX3_nameAll_35 rfl (lv_at hl 0 rfl) ?_
          obtain ⟨w_143, hR_w_143, hL_w_143, hK_w_143, hN_w_143, hT_w_143⟩ := sh_a hSH 102 (ci := 3) (kd := 13) (len := 6) rfl (by decide) hL_this hK_this
          refine pg_f (v := .ref w_143) (C := RX3) (T := TX3) (N := 8) hx hb hts (tw_i inlX3) hown hK hP hL_this hK_this (by decide) rfl 6 (by decide) (hts _ (tw_c tw_132)) (pq_hv rfl hR_w_143) dX3_nameAll_36 ?_
          refine lv_iconst (v := 5) hx hb dX3_nameAll_39 (by decide) ?_
          refine lv_iload hx hb dX3_nameAll_40 (lv_at hl 4 rfl) ?_
          refine pt_i hx hb hK hP hD hS hL_w_143 hK_w_143 hN_w_143 (vp_in_iff.mpr (by decide)) dX3_nameAll_42 (fun r_144 H locs er_144 hP hD hS => ?_)
          have hG := GX.wR hG hSH hT_w_143 rfl er_144 (rg_w (rg_full _) (by decide)) (by decide)
          subst hQ
          exact W.vret hx hb hr (fun t1 ht hW => ⟨⟨(σ, I, J, r_144, rj, rq), rfl, ⟨r_144, rfl, hG⟩, by rw [ht]; exact hP, va_K.moved hW.alike hK, hD⟩, hS.F ht⟩) hS.2.2 dX3_nameAll_43
        · have h_145 : rg x_116 12 16 := rg_lt1 (nle c_141) h_140 (rg_k (17 : Int32) 17 rfl) (by decide)
          refine lv_aload_n hx hb dX3_nameAll_11 rfl (lv_at hl 0 rfl) ?_
          obtain ⟨w_146, hR_w_146, hL_w_146, hK_w_146, hN_w_146, hT_w_146⟩ := sh_a hSH 102 (ci := 3) (kd := 13) (len := 6) rfl (by decide) hL_this hK_this
          refine pg_f (v := .ref w_146) (C := RX3) (T := TX3) (N := 8) hx hb hts (tw_i inlX3) hown hK hP hL_this hK_this (by decide) rfl 6 (by decide) (hts _ (tw_c tw_132)) (pq_hv rfl hR_w_146) dX3_nameAll_12 ?_
          refine lv_iload hx hb dX3_nameAll_15 (lv_at hl 5 rfl) ?_
          refine lv_bipush (v := 12) hx hb dX3_nameAll_17 (by decide) ?_
          refine lv_isub hx hb dX3_nameAll_19 ?_
          refine lv_topi (fun x_147 ex_147 => ?_)
          have h_148 : rg x_147 0 4 := rg_of_eq ex_147 (rg_sub h_145 (rg_k (12 : Int32) 12 rfl) (by decide))
          refine lv_aload_n hx hb dX3_nameAll_20 rfl (lv_at hl 1 rfl) ?_
          refine lv_iload_n hx hb dX3_nameAll_21 rfl (lv_at hl 2 rfl) ?_
          refine lv_iload hx hb dX3_nameAll_22 (lv_at hl 5 rfl) ?_
          refine lv_iload_n hx hb dX3_nameAll_24 rfl (lv_at hl 3 rfl) ?_
          refine pk_i (va_runV (As := [.int a1, .int x_116, .int a2]) (rest := [.int x_147, .ref w_146]) ⟨hx, hb, hml, hown, hts⟩ (s_X0_valueOf l D t σ I J ri_117 rj rq H.size tg hSH hG.1 a0 a1 x_116 a2 hL_a0 hK_a0 (rg_w h_a1 (by decide))) (cwV 3 hts (tw_V tw_569 tw_487 tw_488 tw_45 tw_489) rfl rfl rfl cv_yX0_valueOf_3 ⟨Nat.le_of_ble_eq_true rfl, Nat.le_of_ble_eq_true rfl⟩) ⟨pq_blind, pq_recv hK hP hL_a0 hK_a0 (by decide) rfl, pq_pre hK hN hP hD⟩ rfl rfl hl.1 rfl (lv_room (Nat.le_of_ble_eq_true rfl)) dX3_nameAll_25 ⟨Nat.le_of_ble_eq_true rfl, Nat.le_of_ble_eq_true rfl⟩) hD hS hA (fun x_149 σ1 μ1 H locs hw_150 hP hD hS => ?_)
          have hu_151 := hw_150
          obtain ⟨hu_151a, hu_151b⟩ := Prod.mk.inj hu_151
          rw [hu_151a, hu_151b] at hP hD
          refine pt_i hx hb hK hP hD hS hL_w_146 hK_w_146 hN_w_146 (rg_in h_148 (by decide)) dX3_nameAll_28 (fun r_154 H locs er_154 hP hD hS => ?_)
          have hG := GX.wR hG hSH hT_w_146 rfl er_154 (rg_w (rg_full _) (by decide)) (by decide)
          obtain ⟨x_155, ex_155⟩ : ∃ y : Int32, y = x_116 + Int32.ofInt 1 := ⟨_, rfl⟩
          have h_156 : rg x_155 13 17 := rg_of_eq ex_155 (rg_add h_145 (rg_k (Int32.ofInt 1) 1 rfl) (by decide))
          refine lv_iinc (v := x_155) (lv' := [(5, .int x_155), (0, .ref this), (1, .ref a0), (2, .int a1), (3, .int a2), (4, .int a3)]) hx hb dX3_nameAll_29 hl (k := 5) rfl ex_155.symm (by decide) rfl (fun ls hl => ?_)
          refine lv_goto (tgt := 4) hx hb dX3_nameAll_32 (by decide) ?_
          exact ih_138 x_155 r_154 _ _ _ (rg_w h_156 (by decide)) (ms_up 1 hm_135 ex_155 rfl (by decide) h_145 (by decide) (by decide)) hG hP hD hS (lv_sub hl [1, 2, 3, 4, 5, 0] rfl)
    exact L_137 _ (12 : Int32) ri _ _ _ (rg_w (rg_k (12 : Int32) 12 rfl) (by decide)) (Nat.lt_succ_self _) hG hP hD hS (lv_sub hl [1, 2, 3, 4, 5, 0] rfl)
  exact go _ _ _ hP hD hS hl

set_option maxHeartbeats 4000000 in
set_option maxRecDepth 100000 in
theorem s_X8_join (l : Launch) (D : va_G) (t : pq_T) (σ : pq_S) (I : Nat → Nat → Int32) (J : Nat → Nat → Int64) (ri : Nat → Nat → Int32) (rj : Nat → Nat → Int64) (rq : Nat → Nat → Option Nat) (sz : Nat) (tg : Nat → Nat) (hSH : SH σ tg) (hG0 : GS tg σ I ri rq) (a0 : Int32) (a1 : Int32) (a2 : Int32) : MetI l yX8_join (wa yX8_join cX8_join 5 (some .int)) ({ frames := 1, cells := 0, slots := 0, locals := 40 }) [.int a0, .int a1, .int a2] D t σ (I, J, ri, rj, rq) sz 0 0 (fun (r : Int32) (u : pq_S × pq_M) => u = (σ, I, J, ri, rj, rq)) := by
  refine Met.ofW (cc := cX8_join) (maxL := 5) (ret := (some .int)) (by decide) rfl ?_
  intro p e s m args below meth c s₁ B hml hv
  obtain ⟨rfl, hsz, hP, hK, hD0, hN⟩ := hv
  have hx := B.exec
  have hb := B.bytes
  have hr := B.returns
  have hts := atoms_spec (ws := (wa yX8_join cX8_join 5 (some .int))) B.pre
  have hown : s.vm.findClass RX8 = some m.cls := findClass_of_methodNamed B.named
  have hlocks := B.notSynchronized
  subst hsz
  have hD : va_D (pq_B t σ (I, J, ri, rj, rq) s.heap.size) (pq_P t σ (I, J, ri, rj, rq)) := hD0.self
  generalize hAe : pq_B t σ (I, J, ri, rj, rq) s.heap.size = A at hD ⊢
  have hA : ∀ q : Nat, s.heap.size ≤ q → A q := fun q h => by rw [← hAe]; exact Or.inr h
  have hS : va_S A s.heap s.heap [] := va_S.rf
  have hG : GX [] tg σ I ri rj I ri rj rq := ⟨hG0, fun _ _ _ => rfl, fun _ _ _ _ _ => rfl, fun _ _ _ _ _ => rfl⟩
  have hl := lv_entry ([.int a0, .int a1, .int a2]) (n := 5) (Nat.le_of_ble_eq_true rfl)
  rw [lg_entry_eq]
  generalize (lg_sl ([.int a0, .int a1, .int a2]) ++ List.replicate (5 - (lg_sl ([.int a0, .int a1, .int a2])).length) Slot.unset).toArray = ls at hl ⊢
  have hl : lv_has ls 5 [(0, .int a0), (1, .int a1), (2, .int a2)] := hl
  refine q_gen (fun Q hQ => ?_)
  have go : ∀ (H : Heap) (locs : List Loc) (ls : Array Slot), va_P D vwCl (pq_P t σ (I, J, ri, rj, rq)) H → va_D A (pq_P t σ (I, J, ri, rj, rq)) → va_S A s.heap H locs → lv_has ls 5 [(0, .int a0), (1, .int a1), (2, .int a2)] → W p l e ({ frames := 1, cells := 0, slots := 0, locals := 40 } : Room) s m (List.toArray ([.int a0, .int a1, .int a2] : List Value)) below meth c H locs 0 0 Q (F0 m 0 ls []) := by
    intro H locs ls hP hD hS hl
    refine lv_iload_n hx hb dX8_join_0 rfl (lv_at hl 0 rfl) ?_
    have K_96 : ∀  (x_91 : Int64) (H : Heap) (locs : List Loc) (ls : Array Slot), rg (a0) 25 27 → GX [] tg σ I ri rj I ri rj rq → va_P D vwCl (pq_P t σ (I, J, ri, rj, rq)) H → va_D A (pq_P t σ (I, J, ri, rj, rq)) → va_S A s.heap H locs → lv_has ls 5 [(3, .long x_91)] → W p l e ({ frames := 1, cells := 0, slots := 0, locals := 40 } : Room) s m (List.toArray ([.int a0, .int a1, .int a2] : List Value)) below meth c H locs 0 0 Q (F0 m 205 ls []) := by
      intro x_91 H locs ls h_98 hG hP hD hS hl
      refine lv_ldc2 hx hb hown (hts _ (tw_c tw_581)) dX8_join_205 ?_
      refine lv_ldc2 hx hb hown (hts _ (tw_c tw_582)) dX8_join_208 ?_
      refine lv_lload_n hx hb dX8_join_211 rfl (lv_at hl 0 rfl) ?_
      refine va_mmin_long hx hb (hml.trans hl.1.symm) hown (hts _ (tw_c tw_583)) (hts _ (tw_c tw_584)) (hts _ (tw_c tw_276)) (hts _ (tw_c tw_585)) (Nat.le_of_ble_eq_true rfl) (Nat.le_of_ble_eq_true rfl) (Nat.zero_le _) (Nat.zero_le _) dX8_join_212 ?_
      refine lv_topl (fun x_99 ex_99 => ?_)
      refine va_mmax_long hx hb (hml.trans hl.1.symm) hown (hts _ (tw_c tw_586)) (hts _ (tw_c tw_587)) (hts _ (tw_c tw_276)) (hts _ (tw_c tw_588)) (Nat.le_of_ble_eq_true rfl) (Nat.le_of_ble_eq_true rfl) (Nat.zero_le _) (Nat.zero_le _) dX8_join_215 ?_
      refine lv_topl (fun x_100 ex_100 => ?_)
      refine lv_l2i hx hb dX8_join_218 rfl ?_
      refine lv_topi (fun x_101 ex_101 => ?_)
      subst hQ
      exact W.iret (v := x_101) hx hb hr (fun t1 ht hW => ⟨⟨x_101, (σ, I, J, ri, rj, rq), rfl, rfl, by rw [ht]; exact hP, va_K.moved hW.alike hK, hD⟩, hS.F ht⟩) hS.2.2 dX8_join_219
    by_cases k_102 : a0 = (9 : Int32)
    · have h_103 : rg a0 9 9 := rg_and (rg_full _) (rg_of_eq k_102 (rg_k (9 : Int32) 9 rfl)) (by decide)
      refine lv_tov 9 k_102 ?_
      refine lv_tableIn (tgt := 92) hx hb dX8_join_1 (by decide) (by decide) rfl (by decide) ?_
      refine lv_iload_n hx hb dX8_join_92 rfl (lv_at hl 1 rfl) ?_
      refine lv_iload_n hx hb dX8_join_93 rfl (lv_at hl 2 rfl) ?_
      refine lv_ior hx hb dX8_join_94 ?_
      refine lv_topi (fun x_104 ex_104 => ?_)
      subst hQ
      exact W.iret (v := x_104) hx hb hr (fun t1 ht hW => ⟨⟨x_104, (σ, I, J, ri, rj, rq), rfl, rfl, by rw [ht]; exact hP, va_K.moved hW.alike hK, hD⟩, hS.F ht⟩) hS.2.2 dX8_join_95
    by_cases k_105 : a0 = (10 : Int32)
    · have h_106 : rg a0 10 10 := rg_and (rg_full _) (rg_of_eq k_105 (rg_k (10 : Int32) 10 rfl)) (by decide)
      refine lv_tov 10 k_105 ?_
      refine lv_tableIn (tgt := 96) hx hb dX8_join_1 (by decide) (by decide) rfl (by decide) ?_
      refine lv_iload_n hx hb dX8_join_96 rfl (lv_at hl 1 rfl) ?_
      refine lv_iload_n hx hb dX8_join_97 rfl (lv_at hl 2 rfl) ?_
      refine lv_iand hx hb dX8_join_98 ?_
      refine lv_topi (fun x_107 ex_107 => ?_)
      subst hQ
      exact W.iret (v := x_107) hx hb hr (fun t1 ht hW => ⟨⟨x_107, (σ, I, J, ri, rj, rq), rfl, rfl, by rw [ht]; exact hP, va_K.moved hW.alike hK, hD⟩, hS.F ht⟩) hS.2.2 dX8_join_99
    by_cases k_108 : a0 = (11 : Int32)
    · have h_109 : rg a0 11 11 := rg_and (rg_full _) (rg_of_eq k_108 (rg_k (11 : Int32) 11 rfl)) (by decide)
      refine lv_tov 11 k_108 ?_
      refine lv_tableIn (tgt := 193) hx hb dX8_join_1 (by decide) (by decide) rfl (by decide) ?_
      refine lv_iload_n hx hb dX8_join_193 rfl (lv_at hl 2 rfl) ?_
      refine lv_if_ne (tgt := 201) hx hb dX8_join_194 (by decide) (fun c_110 => ?_) (fun c_110 => ?_)
      · refine lv_iload_n hx hb dX8_join_201 rfl (lv_at hl 1 rfl) ?_
        refine lv_iload_n hx hb dX8_join_202 rfl (lv_at hl 2 rfl) ?_
        refine lv_idiv hx hb dX8_join_203 c_110 ?_
        refine lv_topi (fun x_111 ex_111 => ?_)
        subst hQ
        exact W.iret (v := x_111) hx hb hr (fun t1 ht hW => ⟨⟨x_111, (σ, I, J, ri, rj, rq), rfl, rfl, by rw [ht]; exact hP, va_K.moved hW.alike hK, hD⟩, hS.F ht⟩) hS.2.2 dX8_join_204
      · have h_112 : rg a2 0 0 := rg_and (rg_full _) (rg_of_eq c_110 (rg_k (0 : Int32) 0 rfl)) (by decide)
        refine lv_iconst (v := 0) hx hb dX8_join_197 (by decide) ?_
        refine lv_goto (tgt := 204) hx hb dX8_join_198 (by decide) ?_
        subst hQ
        exact W.iret (v := 0) hx hb hr (fun t1 ht hW => ⟨⟨0, (σ, I, J, ri, rj, rq), rfl, rfl, by rw [ht]; exact hP, va_K.moved hW.alike hK, hD⟩, hS.F ht⟩) hS.2.2 dX8_join_204
    by_cases k_113 : a0 = (12 : Int32)
    · have h_114 : rg a0 12 12 := rg_and (rg_full _) (rg_of_eq k_113 (rg_k (12 : Int32) 12 rfl)) (by decide)
      refine lv_tov 12 k_113 ?_
      refine lv_tableIn (tgt := 193) hx hb dX8_join_1 (by decide) (by decide) rfl (by decide) ?_
      refine lv_iload_n hx hb dX8_join_193 rfl (lv_at hl 2 rfl) ?_
      refine lv_if_ne (tgt := 201) hx hb dX8_join_194 (by decide) (fun c_115 => ?_) (fun c_115 => ?_)
      · refine lv_iload_n hx hb dX8_join_201 rfl (lv_at hl 1 rfl) ?_
        refine lv_iload_n hx hb dX8_join_202 rfl (lv_at hl 2 rfl) ?_
        refine lv_idiv hx hb dX8_join_203 c_115 ?_
        refine lv_topi (fun x_116 ex_116 => ?_)
        subst hQ
        exact W.iret (v := x_116) hx hb hr (fun t1 ht hW => ⟨⟨x_116, (σ, I, J, ri, rj, rq), rfl, rfl, by rw [ht]; exact hP, va_K.moved hW.alike hK, hD⟩, hS.F ht⟩) hS.2.2 dX8_join_204
      · have h_117 : rg a2 0 0 := rg_and (rg_full _) (rg_of_eq c_115 (rg_k (0 : Int32) 0 rfl)) (by decide)
        refine lv_iconst (v := 0) hx hb dX8_join_197 (by decide) ?_
        refine lv_goto (tgt := 204) hx hb dX8_join_198 (by decide) ?_
        subst hQ
        exact W.iret (v := 0) hx hb hr (fun t1 ht hW => ⟨⟨0, (σ, I, J, ri, rj, rq), rfl, rfl, by rw [ht]; exact hP, va_K.moved hW.alike hK, hD⟩, hS.F ht⟩) hS.2.2 dX8_join_204
    by_cases k_118 : a0 = (13 : Int32)
    · have h_119 : rg a0 13 13 := rg_and (rg_full _) (rg_of_eq k_118 (rg_k (13 : Int32) 13 rfl)) (by decide)
      refine lv_tov 13 k_118 ?_
      refine lv_tableIn (tgt := 193) hx hb dX8_join_1 (by decide) (by decide) rfl (by decide) ?_
      refine lv_iload_n hx hb dX8_join_193 rfl (lv_at hl 2 rfl) ?_
      refine lv_if_ne (tgt := 201) hx hb dX8_join_194 (by decide) (fun c_120 => ?_) (fun c_120 => ?_)
      · refine lv_iload_n hx hb dX8_join_201 rfl (lv_at hl 1 rfl) ?_
        refine lv_iload_n hx hb dX8_join_202 rfl (lv_at hl 2 rfl) ?_
        refine lv_idiv hx hb dX8_join_203 c_120 ?_
        refine lv_topi (fun x_121 ex_121 => ?_)
        subst hQ
        exact W.iret (v := x_121) hx hb hr (fun t1 ht hW => ⟨⟨x_121, (σ, I, J, ri, rj, rq), rfl, rfl, by rw [ht]; exact hP, va_K.moved hW.alike hK, hD⟩, hS.F ht⟩) hS.2.2 dX8_join_204
      · have h_122 : rg a2 0 0 := rg_and (rg_full _) (rg_of_eq c_120 (rg_k (0 : Int32) 0 rfl)) (by decide)
        refine lv_iconst (v := 0) hx hb dX8_join_197 (by decide) ?_
        refine lv_goto (tgt := 204) hx hb dX8_join_198 (by decide) ?_
        subst hQ
        exact W.iret (v := 0) hx hb hr (fun t1 ht hW => ⟨⟨0, (σ, I, J, ri, rj, rq), rfl, rfl, by rw [ht]; exact hP, va_K.moved hW.alike hK, hD⟩, hS.F ht⟩) hS.2.2 dX8_join_204
    by_cases k_123 : a0 = (14 : Int32)
    · have h_124 : rg a0 14 14 := rg_and (rg_full _) (rg_of_eq k_123 (rg_k (14 : Int32) 14 rfl)) (by decide)
      refine lv_tov 14 k_123 ?_
      refine lv_tableIn (tgt := 193) hx hb dX8_join_1 (by decide) (by decide) rfl (by decide) ?_
      refine lv_iload_n hx hb dX8_join_193 rfl (lv_at hl 2 rfl) ?_
      refine lv_if_ne (tgt := 201) hx hb dX8_join_194 (by decide) (fun c_125 => ?_) (fun c_125 => ?_)
      · refine lv_iload_n hx hb dX8_join_201 rfl (lv_at hl 1 rfl) ?_
        refine lv_iload_n hx hb dX8_join_202 rfl (lv_at hl 2 rfl) ?_
        refine lv_idiv hx hb dX8_join_203 c_125 ?_
        refine lv_topi (fun x_126 ex_126 => ?_)
        subst hQ
        exact W.iret (v := x_126) hx hb hr (fun t1 ht hW => ⟨⟨x_126, (σ, I, J, ri, rj, rq), rfl, rfl, by rw [ht]; exact hP, va_K.moved hW.alike hK, hD⟩, hS.F ht⟩) hS.2.2 dX8_join_204
      · have h_127 : rg a2 0 0 := rg_and (rg_full _) (rg_of_eq c_125 (rg_k (0 : Int32) 0 rfl)) (by decide)
        refine lv_iconst (v := 0) hx hb dX8_join_197 (by decide) ?_
        refine lv_goto (tgt := 204) hx hb dX8_join_198 (by decide) ?_
        subst hQ
        exact W.iret (v := 0) hx hb hr (fun t1 ht hW => ⟨⟨0, (σ, I, J, ri, rj, rq), rfl, rfl, by rw [ht]; exact hP, va_K.moved hW.alike hK, hD⟩, hS.F ht⟩) hS.2.2 dX8_join_204
    by_cases k_128 : a0 = (15 : Int32)
    · have h_129 : rg a0 15 15 := rg_and (rg_full _) (rg_of_eq k_128 (rg_k (15 : Int32) 15 rfl)) (by decide)
      refine lv_tov 15 k_128 ?_
      refine lv_tableIn (tgt := 193) hx hb dX8_join_1 (by decide) (by decide) rfl (by decide) ?_
      refine lv_iload_n hx hb dX8_join_193 rfl (lv_at hl 2 rfl) ?_
      refine lv_if_ne (tgt := 201) hx hb dX8_join_194 (by decide) (fun c_130 => ?_) (fun c_130 => ?_)
      · refine lv_iload_n hx hb dX8_join_201 rfl (lv_at hl 1 rfl) ?_
        refine lv_iload_n hx hb dX8_join_202 rfl (lv_at hl 2 rfl) ?_
        refine lv_idiv hx hb dX8_join_203 c_130 ?_
        refine lv_topi (fun x_131 ex_131 => ?_)
        subst hQ
        exact W.iret (v := x_131) hx hb hr (fun t1 ht hW => ⟨⟨x_131, (σ, I, J, ri, rj, rq), rfl, rfl, by rw [ht]; exact hP, va_K.moved hW.alike hK, hD⟩, hS.F ht⟩) hS.2.2 dX8_join_204
      · have h_132 : rg a2 0 0 := rg_and (rg_full _) (rg_of_eq c_130 (rg_k (0 : Int32) 0 rfl)) (by decide)
        refine lv_iconst (v := 0) hx hb dX8_join_197 (by decide) ?_
        refine lv_goto (tgt := 204) hx hb dX8_join_198 (by decide) ?_
        subst hQ
        exact W.iret (v := 0) hx hb hr (fun t1 ht hW => ⟨⟨0, (σ, I, J, ri, rj, rq), rfl, rfl, by rw [ht]; exact hP, va_K.moved hW.alike hK, hD⟩, hS.F ht⟩) hS.2.2 dX8_join_204
    by_cases k_133 : a0 = (16 : Int32)
    · have h_134 : rg a0 16 16 := rg_and (rg_full _) (rg_of_eq k_133 (rg_k (16 : Int32) 16 rfl)) (by decide)
      refine lv_tov 16 k_133 ?_
      refine lv_tableIn (tgt := 193) hx hb dX8_join_1 (by decide) (by decide) rfl (by decide) ?_
      refine lv_iload_n hx hb dX8_join_193 rfl (lv_at hl 2 rfl) ?_
      refine lv_if_ne (tgt := 201) hx hb dX8_join_194 (by decide) (fun c_135 => ?_) (fun c_135 => ?_)
      · refine lv_iload_n hx hb dX8_join_201 rfl (lv_at hl 1 rfl) ?_
        refine lv_iload_n hx hb dX8_join_202 rfl (lv_at hl 2 rfl) ?_
        refine lv_idiv hx hb dX8_join_203 c_135 ?_
        refine lv_topi (fun x_136 ex_136 => ?_)
        subst hQ
        exact W.iret (v := x_136) hx hb hr (fun t1 ht hW => ⟨⟨x_136, (σ, I, J, ri, rj, rq), rfl, rfl, by rw [ht]; exact hP, va_K.moved hW.alike hK, hD⟩, hS.F ht⟩) hS.2.2 dX8_join_204
      · have h_137 : rg a2 0 0 := rg_and (rg_full _) (rg_of_eq c_135 (rg_k (0 : Int32) 0 rfl)) (by decide)
        refine lv_iconst (v := 0) hx hb dX8_join_197 (by decide) ?_
        refine lv_goto (tgt := 204) hx hb dX8_join_198 (by decide) ?_
        subst hQ
        exact W.iret (v := 0) hx hb hr (fun t1 ht hW => ⟨⟨0, (σ, I, J, ri, rj, rq), rfl, rfl, by rw [ht]; exact hP, va_K.moved hW.alike hK, hD⟩, hS.F ht⟩) hS.2.2 dX8_join_204
    by_cases k_138 : a0 = (17 : Int32)
    · have h_139 : rg a0 17 17 := rg_and (rg_full _) (rg_of_eq k_138 (rg_k (17 : Int32) 17 rfl)) (by decide)
      refine lv_tov 17 k_138 ?_
      refine lv_tableIn (tgt := 193) hx hb dX8_join_1 (by decide) (by decide) rfl (by decide) ?_
      refine lv_iload_n hx hb dX8_join_193 rfl (lv_at hl 2 rfl) ?_
      refine lv_if_ne (tgt := 201) hx hb dX8_join_194 (by decide) (fun c_140 => ?_) (fun c_140 => ?_)
      · refine lv_iload_n hx hb dX8_join_201 rfl (lv_at hl 1 rfl) ?_
        refine lv_iload_n hx hb dX8_join_202 rfl (lv_at hl 2 rfl) ?_
        refine lv_idiv hx hb dX8_join_203 c_140 ?_
        refine lv_topi (fun x_141 ex_141 => ?_)
        subst hQ
        exact W.iret (v := x_141) hx hb hr (fun t1 ht hW => ⟨⟨x_141, (σ, I, J, ri, rj, rq), rfl, rfl, by rw [ht]; exact hP, va_K.moved hW.alike hK, hD⟩, hS.F ht⟩) hS.2.2 dX8_join_204
      · have h_142 : rg a2 0 0 := rg_and (rg_full _) (rg_of_eq c_140 (rg_k (0 : Int32) 0 rfl)) (by decide)
        refine lv_iconst (v := 0) hx hb dX8_join_197 (by decide) ?_
        refine lv_goto (tgt := 204) hx hb dX8_join_198 (by decide) ?_
        subst hQ
        exact W.iret (v := 0) hx hb hr (fun t1 ht hW => ⟨⟨0, (σ, I, J, ri, rj, rq), rfl, rfl, by rw [ht]; exact hP, va_K.moved hW.alike hK, hD⟩, hS.F ht⟩) hS.2.2 dX8_join_204
    by_cases k_143 : a0 = (18 : Int32)
    · have h_144 : rg a0 18 18 := rg_and (rg_full _) (rg_of_eq k_143 (rg_k (18 : Int32) 18 rfl)) (by decide)
      refine lv_tov 18 k_143 ?_
      refine lv_tableIn (tgt := 193) hx hb dX8_join_1 (by decide) (by decide) rfl (by decide) ?_
      refine lv_iload_n hx hb dX8_join_193 rfl (lv_at hl 2 rfl) ?_
      refine lv_if_ne (tgt := 201) hx hb dX8_join_194 (by decide) (fun c_145 => ?_) (fun c_145 => ?_)
      · refine lv_iload_n hx hb dX8_join_201 rfl (lv_at hl 1 rfl) ?_
        refine lv_iload_n hx hb dX8_join_202 rfl (lv_at hl 2 rfl) ?_
        refine lv_idiv hx hb dX8_join_203 c_145 ?_
        refine lv_topi (fun x_146 ex_146 => ?_)
        subst hQ
        exact W.iret (v := x_146) hx hb hr (fun t1 ht hW => ⟨⟨x_146, (σ, I, J, ri, rj, rq), rfl, rfl, by rw [ht]; exact hP, va_K.moved hW.alike hK, hD⟩, hS.F ht⟩) hS.2.2 dX8_join_204
      · have h_147 : rg a2 0 0 := rg_and (rg_full _) (rg_of_eq c_145 (rg_k (0 : Int32) 0 rfl)) (by decide)
        refine lv_iconst (v := 0) hx hb dX8_join_197 (by decide) ?_
        refine lv_goto (tgt := 204) hx hb dX8_join_198 (by decide) ?_
        subst hQ
        exact W.iret (v := 0) hx hb hr (fun t1 ht hW => ⟨⟨0, (σ, I, J, ri, rj, rq), rfl, rfl, by rw [ht]; exact hP, va_K.moved hW.alike hK, hD⟩, hS.F ht⟩) hS.2.2 dX8_join_204
    by_cases k_148 : a0 = (19 : Int32)
    · have h_149 : rg a0 19 19 := rg_and (rg_full _) (rg_of_eq k_148 (rg_k (19 : Int32) 19 rfl)) (by decide)
      refine lv_tov 19 k_148 ?_
      refine lv_tableIn (tgt := 100) hx hb dX8_join_1 (by decide) (by decide) rfl (by decide) ?_
      refine lv_iload_n hx hb dX8_join_100 rfl (lv_at hl 1 rfl) ?_
      refine lv_iload_n hx hb dX8_join_101 rfl (lv_at hl 2 rfl) ?_
      refine lv_icmp_ge (tgt := 109) hx hb dX8_join_102 (by decide) (fun c_150 => ?_) (fun c_150 => ?_)
      · refine lv_iconst (v := 0) hx hb dX8_join_109 (by decide) ?_
        subst hQ
        exact W.iret (v := 0) hx hb hr (fun t1 ht hW => ⟨⟨0, (σ, I, J, ri, rj, rq), rfl, rfl, by rw [ht]; exact hP, va_K.moved hW.alike hK, hD⟩, hS.F ht⟩) hS.2.2 dX8_join_110
      · have h_151 : rg a1 (-2147483648) 2147483646 := rg_lt1 (nle c_150) (rg_full _) (rg_full _) (by decide)
        have h_152 : rg a2 (-2147483647) 2147483647 := rg_lt2 (nle c_150) (rg_full _) (rg_full _) (by decide)
        refine lv_iconst (v := 1) hx hb dX8_join_105 (by decide) ?_
        refine lv_goto (tgt := 110) hx hb dX8_join_106 (by decide) ?_
        subst hQ
        exact W.iret (v := 1) hx hb hr (fun t1 ht hW => ⟨⟨1, (σ, I, J, ri, rj, rq), rfl, rfl, by rw [ht]; exact hP, va_K.moved hW.alike hK, hD⟩, hS.F ht⟩) hS.2.2 dX8_join_110
    by_cases k_153 : a0 = (20 : Int32)
    · have h_154 : rg a0 20 20 := rg_and (rg_full _) (rg_of_eq k_153 (rg_k (20 : Int32) 20 rfl)) (by decide)
      refine lv_tov 20 k_153 ?_
      refine lv_tableIn (tgt := 111) hx hb dX8_join_1 (by decide) (by decide) rfl (by decide) ?_
      refine lv_iload_n hx hb dX8_join_111 rfl (lv_at hl 1 rfl) ?_
      refine lv_iload_n hx hb dX8_join_112 rfl (lv_at hl 2 rfl) ?_
      refine lv_icmp_gt (tgt := 120) hx hb dX8_join_113 (by decide) (fun c_155 => ?_) (fun c_155 => ?_)
      · have h_156 : rg a2 (-2147483648) 2147483646 := rg_lt1 c_155 (rg_full _) (rg_full _) (by decide)
        have h_157 : rg a1 (-2147483647) 2147483647 := rg_lt2 c_155 (rg_full _) (rg_full _) (by decide)
        refine lv_iconst (v := 0) hx hb dX8_join_120 (by decide) ?_
        subst hQ
        exact W.iret (v := 0) hx hb hr (fun t1 ht hW => ⟨⟨0, (σ, I, J, ri, rj, rq), rfl, rfl, by rw [ht]; exact hP, va_K.moved hW.alike hK, hD⟩, hS.F ht⟩) hS.2.2 dX8_join_121
      · refine lv_iconst (v := 1) hx hb dX8_join_116 (by decide) ?_
        refine lv_goto (tgt := 121) hx hb dX8_join_117 (by decide) ?_
        subst hQ
        exact W.iret (v := 1) hx hb hr (fun t1 ht hW => ⟨⟨1, (σ, I, J, ri, rj, rq), rfl, rfl, by rw [ht]; exact hP, va_K.moved hW.alike hK, hD⟩, hS.F ht⟩) hS.2.2 dX8_join_121
    by_cases k_158 : a0 = (21 : Int32)
    · have h_159 : rg a0 21 21 := rg_and (rg_full _) (rg_of_eq k_158 (rg_k (21 : Int32) 21 rfl)) (by decide)
      refine lv_tov 21 k_158 ?_
      refine lv_tableIn (tgt := 122) hx hb dX8_join_1 (by decide) (by decide) rfl (by decide) ?_
      refine lv_iload_n hx hb dX8_join_122 rfl (lv_at hl 1 rfl) ?_
      refine lv_iload_n hx hb dX8_join_123 rfl (lv_at hl 2 rfl) ?_
      refine lv_icmp_le (tgt := 131) hx hb dX8_join_124 (by decide) (fun c_160 => ?_) (fun c_160 => ?_)
      · refine lv_iconst (v := 0) hx hb dX8_join_131 (by decide) ?_
        subst hQ
        exact W.iret (v := 0) hx hb hr (fun t1 ht hW => ⟨⟨0, (σ, I, J, ri, rj, rq), rfl, rfl, by rw [ht]; exact hP, va_K.moved hW.alike hK, hD⟩, hS.F ht⟩) hS.2.2 dX8_join_132
      · have h_161 : rg a2 (-2147483648) 2147483646 := rg_lt1 (nle c_160) (rg_full _) (rg_full _) (by decide)
        have h_162 : rg a1 (-2147483647) 2147483647 := rg_lt2 (nle c_160) (rg_full _) (rg_full _) (by decide)
        refine lv_iconst (v := 1) hx hb dX8_join_127 (by decide) ?_
        refine lv_goto (tgt := 132) hx hb dX8_join_128 (by decide) ?_
        subst hQ
        exact W.iret (v := 1) hx hb hr (fun t1 ht hW => ⟨⟨1, (σ, I, J, ri, rj, rq), rfl, rfl, by rw [ht]; exact hP, va_K.moved hW.alike hK, hD⟩, hS.F ht⟩) hS.2.2 dX8_join_132
    by_cases k_163 : a0 = (22 : Int32)
    · have h_164 : rg a0 22 22 := rg_and (rg_full _) (rg_of_eq k_163 (rg_k (22 : Int32) 22 rfl)) (by decide)
      refine lv_tov 22 k_163 ?_
      refine lv_tableIn (tgt := 133) hx hb dX8_join_1 (by decide) (by decide) rfl (by decide) ?_
      refine lv_iload_n hx hb dX8_join_133 rfl (lv_at hl 1 rfl) ?_
      refine lv_iload_n hx hb dX8_join_134 rfl (lv_at hl 2 rfl) ?_
      refine lv_icmp_lt (tgt := 142) hx hb dX8_join_135 (by decide) (fun c_165 => ?_) (fun c_165 => ?_)
      · have h_166 : rg a1 (-2147483648) 2147483646 := rg_lt1 c_165 (rg_full _) (rg_full _) (by decide)
        have h_167 : rg a2 (-2147483647) 2147483647 := rg_lt2 c_165 (rg_full _) (rg_full _) (by decide)
        refine lv_iconst (v := 0) hx hb dX8_join_142 (by decide) ?_
        subst hQ
        exact W.iret (v := 0) hx hb hr (fun t1 ht hW => ⟨⟨0, (σ, I, J, ri, rj, rq), rfl, rfl, by rw [ht]; exact hP, va_K.moved hW.alike hK, hD⟩, hS.F ht⟩) hS.2.2 dX8_join_143
      · refine lv_iconst (v := 1) hx hb dX8_join_138 (by decide) ?_
        refine lv_goto (tgt := 143) hx hb dX8_join_139 (by decide) ?_
        subst hQ
        exact W.iret (v := 1) hx hb hr (fun t1 ht hW => ⟨⟨1, (σ, I, J, ri, rj, rq), rfl, rfl, by rw [ht]; exact hP, va_K.moved hW.alike hK, hD⟩, hS.F ht⟩) hS.2.2 dX8_join_143
    by_cases k_168 : a0 = (23 : Int32)
    · have h_169 : rg a0 23 23 := rg_and (rg_full _) (rg_of_eq k_168 (rg_k (23 : Int32) 23 rfl)) (by decide)
      refine lv_tov 23 k_168 ?_
      refine lv_tableIn (tgt := 144) hx hb dX8_join_1 (by decide) (by decide) rfl (by decide) ?_
      refine lv_iload_n hx hb dX8_join_144 rfl (lv_at hl 1 rfl) ?_
      refine lv_iload_n hx hb dX8_join_145 rfl (lv_at hl 2 rfl) ?_
      refine lv_icmp_ne (tgt := 153) hx hb dX8_join_146 (by decide) (fun c_170 => ?_) (fun c_170 => ?_)
      · refine lv_iconst (v := 0) hx hb dX8_join_153 (by decide) ?_
        subst hQ
        exact W.iret (v := 0) hx hb hr (fun t1 ht hW => ⟨⟨0, (σ, I, J, ri, rj, rq), rfl, rfl, by rw [ht]; exact hP, va_K.moved hW.alike hK, hD⟩, hS.F ht⟩) hS.2.2 dX8_join_154
      · refine lv_iconst (v := 1) hx hb dX8_join_149 (by decide) ?_
        refine lv_goto (tgt := 154) hx hb dX8_join_150 (by decide) ?_
        subst hQ
        exact W.iret (v := 1) hx hb hr (fun t1 ht hW => ⟨⟨1, (σ, I, J, ri, rj, rq), rfl, rfl, by rw [ht]; exact hP, va_K.moved hW.alike hK, hD⟩, hS.F ht⟩) hS.2.2 dX8_join_154
    by_cases k_171 : a0 = (24 : Int32)
    · have h_172 : rg a0 24 24 := rg_and (rg_full _) (rg_of_eq k_171 (rg_k (24 : Int32) 24 rfl)) (by decide)
      refine lv_tov 24 k_171 ?_
      refine lv_tableIn (tgt := 155) hx hb dX8_join_1 (by decide) (by decide) rfl (by decide) ?_
      refine lv_iload_n hx hb dX8_join_155 rfl (lv_at hl 1 rfl) ?_
      refine lv_iload_n hx hb dX8_join_156 rfl (lv_at hl 2 rfl) ?_
      refine lv_icmp_eq (tgt := 164) hx hb dX8_join_157 (by decide) (fun c_173 => ?_) (fun c_173 => ?_)
      · refine lv_iconst (v := 0) hx hb dX8_join_164 (by decide) ?_
        subst hQ
        exact W.iret (v := 0) hx hb hr (fun t1 ht hW => ⟨⟨0, (σ, I, J, ri, rj, rq), rfl, rfl, by rw [ht]; exact hP, va_K.moved hW.alike hK, hD⟩, hS.F ht⟩) hS.2.2 dX8_join_165
      · refine lv_iconst (v := 1) hx hb dX8_join_160 (by decide) ?_
        refine lv_goto (tgt := 165) hx hb dX8_join_161 (by decide) ?_
        subst hQ
        exact W.iret (v := 1) hx hb hr (fun t1 ht hW => ⟨⟨1, (σ, I, J, ri, rj, rq), rfl, rfl, by rw [ht]; exact hP, va_K.moved hW.alike hK, hD⟩, hS.F ht⟩) hS.2.2 dX8_join_165
    by_cases k_174 : a0 = (25 : Int32)
    · have h_175 : rg a0 25 25 := rg_and (rg_full _) (rg_of_eq k_174 (rg_k (25 : Int32) 25 rfl)) (by decide)
      refine lv_tov 25 k_174 ?_
      refine lv_tableIn (tgt := 166) hx hb dX8_join_1 (by decide) (by decide) rfl (by decide) ?_
      refine lv_iload_n hx hb dX8_join_166 rfl (lv_at hl 1 rfl) ?_
      refine lv_i2l hx hb dX8_join_167 rfl ?_
      refine lv_topl (fun x_176 ex_176 => ?_)
      refine lv_iload_n hx hb dX8_join_168 rfl (lv_at hl 2 rfl) ?_
      refine lv_i2l hx hb dX8_join_169 rfl ?_
      refine lv_topl (fun x_177 ex_177 => ?_)
      refine lv_ladd hx hb dX8_join_170 ?_
      refine lv_topl (fun x_178 ex_178 => ?_)
      refine lv_lstore_n (lv' := [(3, .long x_178), (0, .int a0), (1, .int a1), (2, .int a2)]) hx hb dX8_join_171 rfl hl (by decide) rfl (fun ls hl => ?_)
      refine lv_goto (tgt := 205) hx hb dX8_join_172 (by decide) ?_
      exact K_96 x_178 _ _ _ (rg_w h_175 (by decide)) hG hP hD hS (lv_sub hl [0] rfl)
    by_cases k_179 : a0 = (26 : Int32)
    · have h_180 : rg a0 26 26 := rg_and (rg_full _) (rg_of_eq k_179 (rg_k (26 : Int32) 26 rfl)) (by decide)
      refine lv_tov 26 k_179 ?_
      refine lv_tableIn (tgt := 175) hx hb dX8_join_1 (by decide) (by decide) rfl (by decide) ?_
      refine lv_iload_n hx hb dX8_join_175 rfl (lv_at hl 1 rfl) ?_
      refine lv_i2l hx hb dX8_join_176 rfl ?_
      refine lv_topl (fun x_181 ex_181 => ?_)
      refine lv_iload_n hx hb dX8_join_177 rfl (lv_at hl 2 rfl) ?_
      refine lv_i2l hx hb dX8_join_178 rfl ?_
      refine lv_topl (fun x_182 ex_182 => ?_)
      refine lv_lsub hx hb dX8_join_179 ?_
      refine lv_topl (fun x_183 ex_183 => ?_)
      refine lv_lstore_n (lv' := [(3, .long x_183), (0, .int a0), (1, .int a1), (2, .int a2)]) hx hb dX8_join_180 rfl hl (by decide) rfl (fun ls hl => ?_)
      refine lv_goto (tgt := 205) hx hb dX8_join_181 (by decide) ?_
      exact K_96 x_183 _ _ _ (rg_w h_180 (by decide)) hG hP hD hS (lv_sub hl [0] rfl)
    by_cases k_184 : a0 = (27 : Int32)
    · have h_185 : rg a0 27 27 := rg_and (rg_full _) (rg_of_eq k_184 (rg_k (27 : Int32) 27 rfl)) (by decide)
      refine lv_tov 27 k_184 ?_
      refine lv_tableIn (tgt := 184) hx hb dX8_join_1 (by decide) (by decide) rfl (by decide) ?_
      refine lv_iload_n hx hb dX8_join_184 rfl (lv_at hl 1 rfl) ?_
      refine lv_i2l hx hb dX8_join_185 rfl ?_
      refine lv_topl (fun x_186 ex_186 => ?_)
      refine lv_iload_n hx hb dX8_join_186 rfl (lv_at hl 2 rfl) ?_
      refine lv_i2l hx hb dX8_join_187 rfl ?_
      refine lv_topl (fun x_187 ex_187 => ?_)
      refine lv_lmul hx hb dX8_join_188 ?_
      refine lv_topl (fun x_188 ex_188 => ?_)
      refine lv_lstore_n (lv' := [(3, .long x_188), (0, .int a0), (1, .int a1), (2, .int a2)]) hx hb dX8_join_189 rfl hl (by decide) rfl (fun ls hl => ?_)
      refine lv_goto (tgt := 205) hx hb dX8_join_190 (by decide) ?_
      exact K_96 x_188 _ _ _ (rg_w h_185 (by decide)) hG hP hD hS (lv_sub hl [0] rfl)
    refine lv_tableOut (tgt := 193) hx hb dX8_join_1 (by have z_k_102 := sw_ne k_102 (n := 9) rfl; have z_k_105 := sw_ne k_105 (n := 10) rfl; have z_k_108 := sw_ne k_108 (n := 11) rfl; have z_k_113 := sw_ne k_113 (n := 12) rfl; have z_k_118 := sw_ne k_118 (n := 13) rfl; have z_k_123 := sw_ne k_123 (n := 14) rfl; have z_k_128 := sw_ne k_128 (n := 15) rfl; have z_k_133 := sw_ne k_133 (n := 16) rfl; have z_k_138 := sw_ne k_138 (n := 17) rfl; have z_k_143 := sw_ne k_143 (n := 18) rfl; have z_k_148 := sw_ne k_148 (n := 19) rfl; have z_k_153 := sw_ne k_153 (n := 20) rfl; have z_k_158 := sw_ne k_158 (n := 21) rfl; have z_k_163 := sw_ne k_163 (n := 22) rfl; have z_k_168 := sw_ne k_168 (n := 23) rfl; have z_k_171 := sw_ne k_171 (n := 24) rfl; have z_k_174 := sw_ne k_174 (n := 25) rfl; have z_k_179 := sw_ne k_179 (n := 26) rfl; have z_k_184 := sw_ne k_184 (n := 27) rfl; omega) (by decide) ?_
    refine lv_iload_n hx hb dX8_join_193 rfl (lv_at hl 2 rfl) ?_
    refine lv_if_ne (tgt := 201) hx hb dX8_join_194 (by decide) (fun c_189 => ?_) (fun c_189 => ?_)
    · refine lv_iload_n hx hb dX8_join_201 rfl (lv_at hl 1 rfl) ?_
      refine lv_iload_n hx hb dX8_join_202 rfl (lv_at hl 2 rfl) ?_
      refine lv_idiv hx hb dX8_join_203 c_189 ?_
      refine lv_topi (fun x_190 ex_190 => ?_)
      subst hQ
      exact W.iret (v := x_190) hx hb hr (fun t1 ht hW => ⟨⟨x_190, (σ, I, J, ri, rj, rq), rfl, rfl, by rw [ht]; exact hP, va_K.moved hW.alike hK, hD⟩, hS.F ht⟩) hS.2.2 dX8_join_204
    · have h_191 : rg a2 0 0 := rg_and (rg_full _) (rg_of_eq c_189 (rg_k (0 : Int32) 0 rfl)) (by decide)
      refine lv_iconst (v := 0) hx hb dX8_join_197 (by decide) ?_
      refine lv_goto (tgt := 204) hx hb dX8_join_198 (by decide) ?_
      subst hQ
      exact W.iret (v := 0) hx hb hr (fun t1 ht hW => ⟨⟨0, (σ, I, J, ri, rj, rq), rfl, rfl, by rw [ht]; exact hP, va_K.moved hW.alike hK, hD⟩, hS.F ht⟩) hS.2.2 dX8_join_204
  exact go _ _ _ hP hD hS hl

set_option maxHeartbeats 4000000 in
set_option maxRecDepth 100000 in
theorem s_X8_work_102_103 (l : Launch) (D : va_G) (t : pq_T) (σ : pq_S) (I : Nat → Nat → Int32) (J : Nat → Nat → Int64) (ri : Nat → Nat → Int32) (rj : Nat → Nat → Int64) (rq : Nat → Nat → Option Nat) (sz : Nat) (tg : Nat → Nat) (hSH : SH σ tg) (hG0 : GS tg σ I ri rq) (this : Nat) (a0 : Int32) (a1 : Nat) (a2 : Nat) (hL_this : this ∈ σ.1) (hK_this : σ.2.1 this = 8) (h_a0 : rg a0 0 19) (hL_a1 : a1 ∈ σ.1) (hK_a1 : σ.2.1 a1 = 13) (hN_a1 : σ.2.2.2 a1 = 6) (hT_a1 : tg a1 = 102) (hL_a2 : a2 ∈ σ.1) (hK_a2 : σ.2.1 a2 = 13) (hN_a2 : σ.2.2.2 a2 = 40) (hT_a2 : tg a2 = 103) : MetI l yX8_work (wa yX8_work cX8_work 7 (some .int)) ({ frames := 2, cells := 0, slots := 0, locals := 64 }) [.ref this, .int a0, .ref a1, .ref a2] D t σ (I, J, ri, rj, rq) sz 0 0 (fun (r : Int32) (u : pq_S × pq_M) => ∃ ri' : Nat → Nat → Int32, u = (σ, I, J, ri', rj, rq) ∧ GX [] tg σ I ri rj I ri' rj rq) := by
  refine Met.ofW (cc := cX8_work) (maxL := 7) (ret := (some .int)) (by decide) rfl ?_
  intro p e s m args below meth c s₁ B hml hv
  obtain ⟨rfl, hsz, hP, hK, hD0, hN⟩ := hv
  have hx := B.exec
  have hb := B.bytes
  have hr := B.returns
  have hts := atoms_spec (ws := (wa yX8_work cX8_work 7 (some .int))) B.pre
  have hown : s.vm.findClass RX8 = some m.cls := findClass_of_methodNamed B.named
  have hlocks := B.notSynchronized
  subst hsz
  have hD : va_D (pq_B t σ (I, J, ri, rj, rq) s.heap.size) (pq_P t σ (I, J, ri, rj, rq)) := hD0.self
  generalize hAe : pq_B t σ (I, J, ri, rj, rq) s.heap.size = A at hD ⊢
  have hA : ∀ q : Nat, s.heap.size ≤ q → A q := fun q h => by rw [← hAe]; exact Or.inr h
  have hS : va_S A s.heap s.heap [] := va_S.rf
  have hG : GX [] tg σ I ri rj I ri rj rq := ⟨hG0, fun _ _ _ => rfl, fun _ _ _ _ _ => rfl, fun _ _ _ _ _ => rfl⟩
  have hl := lv_entry ([.ref this, .int a0, .ref a1, .ref a2]) (n := 7) (Nat.le_of_ble_eq_true rfl)
  rw [lg_entry_eq]
  generalize (lg_sl ([.ref this, .int a0, .ref a1, .ref a2]) ++ List.replicate (7 - (lg_sl ([.ref this, .int a0, .ref a1, .ref a2])).length) Slot.unset).toArray = ls at hl ⊢
  have hl : lv_has ls 7 [(0, .ref this), (1, .int a0), (2, .ref a1), (3, .ref a2)] := hl
  refine q_gen (fun Q hQ => ?_)
  have go : ∀ (H : Heap) (locs : List Loc) (ls : Array Slot), va_P D vwCl (pq_P t σ (I, J, ri, rj, rq)) H → va_D A (pq_P t σ (I, J, ri, rj, rq)) → va_S A s.heap H locs → lv_has ls 7 [(0, .ref this), (1, .int a0), (2, .ref a1), (3, .ref a2)] → W p l e ({ frames := 2, cells := 0, slots := 0, locals := 64 } : Room) s m (List.toArray ([.ref this, .int a0, .ref a1, .ref a2] : List Value)) below meth c H locs 0 0 Q (F0 m 0 ls []) := by
    intro H locs ls hP hD hS hl
    refine lv_iconst (v := (-1)) hx hb dX8_work_0 (by decide) ?_
    refine lv_istore (lv' := [(4, .int (-1)), (0, .ref this), (1, .int a0), (2, .ref a1), (3, .ref a2)]) hx hb dX8_work_1 hl (by decide) rfl (fun ls hl => ?_)
    refine lv_aload_n hx hb dX8_work_3 rfl (lv_at hl 1 rfl) ?_
    obtain ⟨w_1, hR_w_1, hL_w_1, hK_w_1, hN_w_1, hT_w_1⟩ := sh_a hSH 258 (ci := 8) (kd := 13) (len := 21) rfl (by decide) hL_this hK_this
    refine pg_f (v := .ref w_1) (C := RX8) (T := TX8) (N := 4) hx hb hts (tw_i inlX8) hown hK hP hL_this hK_this (by decide) rfl 2 (by decide) (hts _ (tw_c tw_170)) (pq_hv rfl hR_w_1) dX8_work_4 ?_
    refine lv_iload_n hx hb dX8_work_7 rfl (lv_at hl 2 rfl) ?_
    refine pl_i hx hb hK hP hL_w_1 hK_w_1 hN_w_1 (rg_in h_a0 (by decide)) dX8_work_8 ?_
    refine lv_topi (fun x_2 ex_2 => ?_)
    have h_3 : rg x_2 0 300 := rg_of_eq ex_2 (GX.rR hG hT_w_1 rfl)
    refine lv_istore (lv' := [(5, .int x_2), (4, .int (-1)), (0, .ref this), (1, .int a0), (2, .ref a1), (3, .ref a2)]) hx hb dX8_work_9 hl (by decide) rfl (fun ls hl => ?_)
    have L_969 : ∀ (n_968 : Nat) (x_885 : Int32) (x_886 : Int32) (ri_887 : Nat → Nat → Int32) (H : Heap) (locs : List Loc) (ls : Array Slot), rg x_885 (-1) 39 → rg x_886 0 300 → (300 - (x_886).toInt).toNat < n_968 → GX [] tg σ I ri rj I ri_887 rj rq → va_P D vwCl (pq_P t σ (I, J, ri_887, rj, rq)) H → va_D A (pq_P t σ (I, J, ri_887, rj, rq)) → va_S A s.heap H locs → lv_has ls 7 [(0, .ref this), (1, .int a0), (2, .ref a1), (3, .ref a2), (4, .int x_885), (5, .int x_886)] → W p l e ({ frames := 2, cells := 0, slots := 0, locals := 64 } : Room) s m (List.toArray ([.ref this, .int a0, .ref a1, .ref a2] : List Value)) below meth c H locs 0 0 Q (F0 m 11 ls []) := by
      intro n_968
      induction n_968 with
      | zero => intro x_885 x_886 ri_887 H locs ls h_973 h_974 hm_967 hG hP hD hS hl; exact absurd hm_967 (Nat.not_lt_zero _)
      | succ n_968 ih_970 =>
        intro x_885 x_886 ri_887 H locs ls h_973 h_974 hm_967 hG hP hD hS hl
        refine lv_iload hx hb dX8_work_11 (lv_at hl 5 rfl) ?_
        refine lv_aload_n hx hb dX8_work_13 rfl (lv_at hl 0 rfl) ?_
        refine pg_f (v := .ref w_1) (C := RX8) (T := TX8) (N := 4) hx hb hts (tw_i inlX8) hown hK hP hL_this hK_this (by decide) rfl 2 (by decide) (hts _ (tw_c tw_170)) (pq_hv rfl hR_w_1) dX8_work_14 ?_
        refine lv_iload_n hx hb dX8_work_17 rfl (lv_at hl 1 rfl) ?_
        refine lv_iconst (v := 1) hx hb dX8_work_18 (by decide) ?_
        refine lv_iadd hx hb dX8_work_19 ?_
        refine lv_topi (fun x_975 ex_975 => ?_)
        have h_976 : rg x_975 1 20 := rg_of_eq ex_975 (rg_add h_a0 (rg_k (1 : Int32) 1 rfl) (by decide))
        refine pl_i hx hb hK hP hL_w_1 hK_w_1 hN_w_1 (rg_in h_976 (by decide)) dX8_work_20 ?_
        refine lv_topi (fun x_977 ex_977 => ?_)
        have h_978 : rg x_977 0 300 := rg_of_eq ex_977 (GX.rR hG hT_w_1 rfl)
        refine lv_icmp_ge (tgt := 178) hx hb dX8_work_21 (by decide) (fun c_979 => ?_) (fun c_979 => ?_)
        · refine lv_iload hx hb dX8_work_178 (lv_at hl 4 rfl) ?_
          refine lv_if_ne (tgt := 190) hx hb dX8_work_180 (by decide) (fun c_980 => ?_) (fun c_980 => ?_)
          · refine lv_iconst (v := 0) hx hb dX8_work_190 (by decide) ?_
            subst hQ
            exact W.iret (v := 0) hx hb hr (fun t1 ht hW => ⟨⟨0, (σ, I, J, ri_887, rj, rq), rfl, ⟨ri_887, rfl, hG⟩, by rw [ht]; exact hP, va_K.moved hW.alike hK, hD⟩, hS.F ht⟩) hS.2.2 dX8_work_191
          · have h_981 : rg x_885 0 0 := rg_and h_973 (rg_of_eq c_980 (rg_k (0 : Int32) 0 rfl)) (by decide)
            refine lv_aload_n hx hb dX8_work_183 rfl (lv_at hl 3 rfl) ?_
            refine lv_iload hx hb dX8_work_184 (lv_at hl 4 rfl) ?_
            refine pl_i hx hb hK hP hL_a2 hK_a2 hN_a2 (rg_in h_981 (by decide)) dX8_work_186 ?_
            refine lv_topi (fun x_982 ex_982 => ?_)
            refine lv_goto (tgt := 191) hx hb dX8_work_187 (by decide) ?_
            subst hQ
            exact W.iret (v := x_982) hx hb hr (fun t1 ht hW => ⟨⟨x_982, (σ, I, J, ri_887, rj, rq), rfl, ⟨ri_887, rfl, hG⟩, by rw [ht]; exact hP, va_K.moved hW.alike hK, hD⟩, hS.F ht⟩) hS.2.2 dX8_work_191
        · have h_983 : rg x_886 0 299 := rg_lt1 (nle c_979) h_974 h_978 (by decide)
          have h_984 : rg x_977 1 300 := rg_lt2 (nle c_979) h_974 h_978 (by decide)
          refine lv_aload_n hx hb dX8_work_24 rfl (lv_at hl 0 rfl) ?_
          obtain ⟨w_985, hR_w_985, hL_w_985, hK_w_985, hN_w_985, hT_w_985⟩ := sh_a hSH 259 (ci := 8) (kd := 13) (len := 300) rfl (by decide) hL_this hK_this
          refine pg_f (v := .ref w_985) (C := RX8) (T := TX8) (N := 4) hx hb hts (tw_i inlX8) hown hK hP hL_this hK_this (by decide) rfl 3 (by decide) (hts _ (tw_c tw_171)) (pq_hv rfl hR_w_985) dX8_work_25 ?_
          refine lv_iload hx hb dX8_work_28 (lv_at hl 5 rfl) ?_
          refine pl_i hx hb hK hP hL_w_985 hK_w_985 hN_w_985 (rg_in h_983 (by decide)) dX8_work_30 ?_
          refine lv_topi (fun x_986 ex_986 => ?_)
          refine lv_ineg hx hb dX8_work_31 ?_
          refine lv_topi (fun x_987 ex_987 => ?_)
          refine lv_istore (lv' := [(6, .int x_987), (0, .ref this), (1, .int a0), (2, .ref a1), (3, .ref a2), (4, .int x_885), (5, .int x_886)]) hx hb dX8_work_32 hl (by decide) rfl (fun ls hl => ?_)
          refine lv_iload hx hb dX8_work_34 (lv_at hl 0 rfl) ?_
          have K_1052 : ∀  (x_1047 : Int32) (ri_1048 : Nat → Nat → Int32) (H : Heap) (locs : List Loc) (ls : Array Slot), rg x_1047 0 39 → GX [] tg σ I ri rj I ri_1048 rj rq → va_P D vwCl (pq_P t σ (I, J, ri_1048, rj, rq)) H → va_D A (pq_P t σ (I, J, ri_1048, rj, rq)) → va_S A s.heap H locs → lv_has ls 7 [(0, .ref this), (1, .int a0), (2, .ref a1), (3, .ref a2), (4, .int x_1047), (5, .int x_886)] → W p l e ({ frames := 2, cells := 0, slots := 0, locals := 64 } : Room) s m (List.toArray ([.ref this, .int a0, .ref a1, .ref a2] : List Value)) below meth c H locs 0 0 Q (F0 m 172 ls []) := by
            intro x_1047 ri_1048 H locs ls h_1054 hG hP hD hS hl
            obtain ⟨x_1055, ex_1055⟩ : ∃ y : Int32, y = x_886 + Int32.ofInt 1 := ⟨_, rfl⟩
            have h_1056 : rg x_1055 1 300 := rg_of_eq ex_1055 (rg_add h_983 (rg_k (Int32.ofInt 1) 1 rfl) (by decide))
            refine lv_iinc (v := x_1055) (lv' := [(5, .int x_1055), (0, .ref this), (1, .int a0), (2, .ref a1), (3, .ref a2), (4, .int x_1047)]) hx hb dX8_work_172 hl (k := 5) rfl ex_1055.symm (by decide) rfl (fun ls hl => ?_)
            refine lv_goto (tgt := 11) hx hb dX8_work_175 (by decide) ?_
            exact ih_970 x_1047 x_1055 ri_1048 _ _ _ (rg_w h_1054 (by decide)) (rg_w h_1056 (by decide)) (ms_up 1 hm_967 ex_1055 rfl (by decide) h_983 (by decide) (by decide)) hG hP hD hS (lv_sub hl [1, 2, 3, 4, 5, 0] rfl)
          refine lv_if_le (tgt := 53) hx hb dX8_work_36 (by decide) (fun c_1057 => ?_) (fun c_1057 => ?_)
          · have h_1058 : rg x_987 (-2147483648) 0 := rg_le1 c_1057 (rg_full _) (rg_k (0 : Int32) 0 rfl) (by decide)
            obtain ⟨x_1059, ex_1059⟩ : ∃ y : Int32, y = x_885 + Int32.ofInt 1 := ⟨_, rfl⟩
            have h_1060 : rg x_1059 0 40 := rg_of_eq ex_1059 (rg_add h_973 (rg_k (Int32.ofInt 1) 1 rfl) (by decide))
            refine lv_iinc (v := x_1059) (lv' := [(4, .int x_1059), (6, .int x_987), (0, .ref this), (1, .int a0), (2, .ref a1), (3, .ref a2), (5, .int x_886)]) hx hb dX8_work_53 hl (k := 5) rfl ex_1059.symm (by decide) rfl (fun ls hl => ?_)
            refine lv_iload hx hb dX8_work_56 (lv_at hl 0 rfl) ?_
            refine lv_aload_n hx hb dX8_work_58 rfl (lv_at hl 5 rfl) ?_
            refine pn_i (v := 40) hx hb hK hP hL_a2 hK_a2 hN_a2 (by decide) dX8_work_59 ?_
            refine lv_icmp_lt (tgt := 65) hx hb dX8_work_60 (by decide) (fun c_1061 => ?_) (fun c_1061 => ?_)
            · have h_1062 : rg x_1059 0 39 := rg_lt1 c_1061 h_1060 (rg_k (40 : Int32) 40 rfl) (by decide)
              refine lv_aload_n hx hb dX8_work_65 rfl (lv_at hl 5 rfl) ?_
              refine lv_iload hx hb dX8_work_66 (lv_at hl 0 rfl) ?_
              refine lv_iload hx hb dX8_work_68 (lv_at hl 1 rfl) ?_
              have K_1065 : ∀  (H : Heap) (locs : List Loc) (ls : Array Slot), GX [] tg σ I ri rj I ri_887 rj rq → va_P D vwCl (pq_P t σ (I, J, ri_887, rj, rq)) H → va_D A (pq_P t σ (I, J, ri_887, rj, rq)) → va_S A s.heap H locs → lv_has ls 7 [(0, .ref this), (1, .int a0), (2, .ref a1), (3, .ref a2), (4, .int x_1059), (5, .int x_886)] → W p l e ({ frames := 2, cells := 0, slots := 0, locals := 64 } : Room) s m (List.toArray ([.ref this, .int a0, .ref a1, .ref a2] : List Value)) below meth c H locs 0 0 Q (F0 m 90 ls [.int x_986, .int x_1059, .ref a2]) := by
                intro H locs ls hG hP hD hS hl
                refine pt_i hx hb hK hP hD hS hL_a2 hK_a2 hN_a2 (rg_in h_1062 (by decide)) dX8_work_90 (fun r_1066 H locs er_1066 hP hD hS => ?_)
                have hG := GX.wR hG hSH hT_a2 rfl er_1066 (rg_w (rg_full _) (by decide)) (by decide)
                refine lv_goto (tgt := 172) hx hb dX8_work_91 (by decide) ?_
                exact K_1052 x_1059 r_1066 _ _ _ (rg_w h_1062 (by decide)) hG hP hD hS (lv_sub hl [0, 1, 2, 3, 4, 5] rfl)
              refine lv_if_gt (tgt := 83) hx hb dX8_work_70 (by decide) (fun c_1067 => ?_) (fun c_1067 => ?_)
              · exact (rg_empty (rg_lt2 c_1067 (rg_k (0 : Int32) 0 rfl) h_1058 (lo := 1) (hi := 0) (by decide)) (by decide)).elim
              · refine lv_aload_n hx hb dX8_work_73 rfl (lv_at hl 2 rfl) ?_
                refine pg_f (v := .ref w_985) (C := RX8) (T := TX8) (N := 4) hx hb hts (tw_i inlX8) hown hK hP hL_this hK_this (by decide) rfl 3 (by decide) (hts _ (tw_c tw_171)) (pq_hv rfl hR_w_985) dX8_work_74 ?_
                refine lv_iload hx hb dX8_work_77 (lv_at hl 6 rfl) ?_
                refine pl_i hx hb hK hP hL_w_985 hK_w_985 hN_w_985 (rg_in h_983 (by decide)) dX8_work_79 ?_
                refine lv_tov x_986 ex_986.symm ?_
                refine lv_goto (tgt := 90) hx hb dX8_work_80 (by decide) ?_
                exact K_1065 _ _ _ hG hP hD hS (lv_sub hl [2, 3, 4, 5, 0, 6] rfl)
            · have h_1068 : rg x_1059 40 40 := rg_le2 (nlt c_1061) (rg_k (40 : Int32) 40 rfl) h_1060 (by decide)
              refine lv_iconst (v := 0) hx hb dX8_work_63 (by decide) ?_
              subst hQ
              exact W.iret (v := 0) hx hb hr (fun t1 ht hW => ⟨⟨0, (σ, I, J, ri_887, rj, rq), rfl, ⟨ri_887, rfl, hG⟩, by rw [ht]; exact hP, va_K.moved hW.alike hK, hD⟩, hS.F ht⟩) hS.2.2 dX8_work_64
          · have h_1069 : rg x_987 1 2147483647 := rg_lt2 (nle c_1057) (rg_k (0 : Int32) 0 rfl) (rg_full _) (by decide)
            refine lv_iload hx hb dX8_work_39 (lv_at hl 0 rfl) ?_
            refine lv_bipush (v := 12) hx hb dX8_work_41 (by decide) ?_
            have K_1119 : ∀  (H : Heap) (locs : List Loc) (ls : Array Slot), GX [] tg σ I ri rj I ri_887 rj rq → va_P D vwCl (pq_P t σ (I, J, ri_887, rj, rq)) H → va_D A (pq_P t σ (I, J, ri_887, rj, rq)) → va_S A s.heap H locs → lv_has ls 7 [(0, .ref this), (1, .int a0), (2, .ref a1), (3, .ref a2), (4, .int x_885), (5, .int x_886), (6, .int x_987)] → W p l e ({ frames := 2, cells := 0, slots := 0, locals := 64 } : Room) s m (List.toArray ([.ref this, .int a0, .ref a1, .ref a2] : List Value)) below meth c H locs 0 0 Q (F0 m 94 ls []) := by
              intro H locs ls hG hP hD hS hl
              refine lv_iload hx hb dX8_work_94 (lv_at hl 6 rfl) ?_
              refine lv_bipush (v := 11) hx hb dX8_work_96 (by decide) ?_
              have K_1152 : ∀  (H : Heap) (locs : List Loc) (ls : Array Slot), rg (x_987) 11 35 → GX [] tg σ I ri rj I ri_887 rj rq → va_P D vwCl (pq_P t σ (I, J, ri_887, rj, rq)) H → va_D A (pq_P t σ (I, J, ri_887, rj, rq)) → va_S A s.heap H locs → lv_has ls 7 [(0, .ref this), (1, .int a0), (2, .ref a1), (3, .ref a2), (4, .int x_885), (5, .int x_886), (6, .int x_987)] → W p l e ({ frames := 2, cells := 0, slots := 0, locals := 64 } : Room) s m (List.toArray ([.ref this, .int a0, .ref a1, .ref a2] : List Value)) below meth c H locs 0 0 Q (F0 m 108 ls []) := by
                intro H locs ls h_1154 hG hP hD hS hl
                refine lv_iload hx hb dX8_work_108 (lv_at hl 4 rfl) ?_
                refine lv_if_ge (tgt := 115) hx hb dX8_work_110 (by decide) (fun c_1155 => ?_) (fun c_1155 => ?_)
                · have h_1156 : rg x_885 0 39 := rg_le2 c_1155 (rg_k (0 : Int32) 0 rfl) h_973 (by decide)
                  refine lv_aload_n hx hb dX8_work_115 rfl (lv_at hl 3 rfl) ?_
                  refine lv_iload hx hb dX8_work_116 (lv_at hl 4 rfl) ?_
                  refine lv_iload hx hb dX8_work_118 (lv_at hl 6 rfl) ?_
                  refine lv_bipush (v := 11) hx hb dX8_work_120 (by decide) ?_
                  have K_1166 : ∀  (x_1164 : Int32) (H : Heap) (locs : List Loc) (ls : Array Slot), GX [] tg σ I ri rj I ri_887 rj rq → va_P D vwCl (pq_P t σ (I, J, ri_887, rj, rq)) H → va_D A (pq_P t σ (I, J, ri_887, rj, rq)) → va_S A s.heap H locs → lv_has ls 7 [(0, .ref this), (1, .int a0), (2, .ref a1), (3, .ref a2), (4, .int x_885), (5, .int x_886)] → W p l e ({ frames := 2, cells := 0, slots := 0, locals := 64 } : Room) s m (List.toArray ([.ref this, .int a0, .ref a1, .ref a2] : List Value)) below meth c H locs 0 0 Q (F0 m 139 ls [.int x_1164, .int x_885, .ref a2]) := by
                    intro x_1164 H locs ls hG hP hD hS hl
                    refine pt_i hx hb hK hP hD hS hL_a2 hK_a2 hN_a2 (rg_in h_1156 (by decide)) dX8_work_139 (fun r_1167 H locs er_1167 hP hD hS => ?_)
                    have hG := GX.wR hG hSH hT_a2 rfl er_1167 (rg_w (rg_full _) (by decide)) (by decide)
                    refine lv_goto (tgt := 172) hx hb dX8_work_140 (by decide) ?_
                    exact K_1052 x_885 r_1167 _ _ _ (rg_w h_1156 (by decide)) hG hP hD hS (lv_sub hl [0, 1, 2, 3, 4, 5] rfl)
                  refine lv_icmp_ne (tgt := 134) hx hb dX8_work_122 (by decide) (fun c_1168 => ?_) (fun c_1168 => ?_)
                  · have h_1169 : rg x_987 12 35 := rg_ne c_1168 h_1154 11 rfl (by decide)
                    refine lv_aload_n hx hb dX8_work_134 rfl (lv_at hl 3 rfl) ?_
                    refine lv_iload hx hb dX8_work_135 (lv_at hl 4 rfl) ?_
                    refine pl_i hx hb hK hP hL_a2 hK_a2 hN_a2 (rg_in h_1156 (by decide)) dX8_work_137 ?_
                    refine lv_topi (fun x_1170 ex_1170 => ?_)
                    refine lv_ineg hx hb dX8_work_138 ?_
                    refine lv_topi (fun x_1171 ex_1171 => ?_)
                    exact K_1166 x_1171 _ _ _ hG hP hD hS (lv_sub hl [0, 1, 2, 3, 4, 5] rfl)
                  · have h_1172 : rg x_987 11 11 := rg_and h_1154 (rg_of_eq c_1168 (rg_k (11 : Int32) 11 rfl)) (by decide)
                    refine lv_iconst (v := 1) hx hb dX8_work_125 (by decide) ?_
                    refine lv_aload_n hx hb dX8_work_126 rfl (lv_at hl 3 rfl) ?_
                    refine lv_iload hx hb dX8_work_127 (lv_at hl 4 rfl) ?_
                    refine pl_i hx hb hK hP hL_a2 hK_a2 hN_a2 (rg_in h_1156 (by decide)) dX8_work_129 ?_
                    refine lv_topi (fun x_1173 ex_1173 => ?_)
                    refine lv_isub hx hb dX8_work_130 ?_
                    refine lv_topi (fun x_1174 ex_1174 => ?_)
                    refine lv_goto (tgt := 139) hx hb dX8_work_131 (by decide) ?_
                    exact K_1166 x_1174 _ _ _ hG hP hD hS (lv_sub hl [0, 1, 2, 3, 4, 5] rfl)
                · have h_1175 : rg x_885 (-1) (-1) := rg_lt1 (nle c_1155) h_973 (rg_k (0 : Int32) 0 rfl) (by decide)
                  refine lv_iconst (v := 0) hx hb dX8_work_113 (by decide) ?_
                  subst hQ
                  exact W.iret (v := 0) hx hb hr (fun t1 ht hW => ⟨⟨0, (σ, I, J, ri_887, rj, rq), rfl, ⟨ri_887, rfl, hG⟩, by rw [ht]; exact hP, va_K.moved hW.alike hK, hD⟩, hS.F ht⟩) hS.2.2 dX8_work_114
              refine lv_icmp_eq (tgt := 108) hx hb dX8_work_98 (by decide) (fun c_1176 => ?_) (fun c_1176 => ?_)
              · have h_1177 : rg x_987 11 11 := rg_and h_1069 (rg_of_eq c_1176 (rg_k (11 : Int32) 11 rfl)) (by decide)
                exact K_1152 _ _ _ (rg_w h_1177 (by decide)) hG hP hD hS (lv_sub hl [0, 1, 2, 3, 4, 5, 6] rfl)
              · refine lv_iload hx hb dX8_work_101 (lv_at hl 6 rfl) ?_
                refine lv_bipush (v := 35) hx hb dX8_work_103 (by decide) ?_
                refine lv_icmp_ne (tgt := 143) hx hb dX8_work_105 (by decide) (fun c_1178 => ?_) (fun c_1178 => ?_)
                · obtain ⟨x_1179, ex_1179⟩ : ∃ y : Int32, y = x_885 + Int32.ofInt (-1) := ⟨_, rfl⟩
                  have h_1180 : rg x_1179 (-2) 38 := rg_of_eq ex_1179 (rg_add h_973 (rg_k (Int32.ofInt (-1)) (-1) rfl) (by decide))
                  refine lv_iinc (v := x_1179) (lv' := [(4, .int x_1179), (0, .ref this), (1, .int a0), (2, .ref a1), (3, .ref a2), (5, .int x_886), (6, .int x_987)]) hx hb dX8_work_143 hl (k := 4) rfl ex_1179.symm (by decide) rfl (fun ls hl => ?_)
                  refine lv_iload hx hb dX8_work_146 (lv_at hl 0 rfl) ?_
                  refine lv_if_ge (tgt := 153) hx hb dX8_work_148 (by decide) (fun c_1181 => ?_) (fun c_1181 => ?_)
                  · have h_1182 : rg x_1179 0 38 := rg_le2 c_1181 (rg_k (0 : Int32) 0 rfl) h_1180 (by decide)
                    refine lv_aload_n hx hb dX8_work_153 rfl (lv_at hl 4 rfl) ?_
                    refine lv_iload hx hb dX8_work_154 (lv_at hl 0 rfl) ?_
                    refine lv_iload hx hb dX8_work_156 (lv_at hl 6 rfl) ?_
                    refine lv_aload_n hx hb dX8_work_158 rfl (lv_at hl 4 rfl) ?_
                    refine lv_iload hx hb dX8_work_159 (lv_at hl 0 rfl) ?_
                    refine pl_i hx hb hK hP hL_a2 hK_a2 hN_a2 (rg_in h_1182 (by decide)) dX8_work_161 ?_
                    refine lv_topi (fun x_1183 ex_1183 => ?_)
                    refine lv_aload_n hx hb dX8_work_162 rfl (lv_at hl 4 rfl) ?_
                    refine lv_iload hx hb dX8_work_163 (lv_at hl 0 rfl) ?_
                    refine lv_iconst (v := 1) hx hb dX8_work_165 (by decide) ?_
                    refine lv_iadd hx hb dX8_work_166 ?_
                    refine lv_topi (fun x_1184 ex_1184 => ?_)
                    have h_1185 : rg x_1184 1 39 := rg_of_eq ex_1184 (rg_add h_1182 (rg_k (1 : Int32) 1 rfl) (by decide))
                    refine pl_i hx hb hK hP hL_a2 hK_a2 hN_a2 (rg_in h_1185 (by decide)) dX8_work_167 ?_
                    refine lv_topi (fun x_1186 ex_1186 => ?_)
                    refine pk_i (va_runS (As := [.int x_987, .int x_1183, .int x_1186]) (rest := [.int x_1179, .ref a2]) ⟨hx, hb, hml, hown, hts⟩ (s_X8_join l D t σ I J ri_887 rj rq H.size tg hSH hG.1 x_987 x_1183 x_1186) (va_cwS 3 hts (tw_S tw_578 tw_579 tw_159 tw_580) rfl rfl rfl cd_yX8_join_3 ⟨Nat.le_of_ble_eq_true rfl, Nat.le_of_ble_eq_true rfl⟩) ⟨pq_blind, pq_pre hK hN hP hD⟩ rfl rfl hl.1 rfl (lv_room (Nat.le_of_ble_eq_true rfl)) dX8_work_168 ⟨Nat.le_of_ble_eq_true rfl, Nat.le_of_ble_eq_true rfl⟩) hD hS hA (fun x_1187 σ1 μ1 H locs hw_1188 hP hD hS => ?_)
                    have hu_1189 := hw_1188
                    obtain ⟨hu_1189a, hu_1189b⟩ := Prod.mk.inj hu_1189
                    rw [hu_1189a, hu_1189b] at hP hD
                    refine pt_i hx hb hK hP hD hS hL_a2 hK_a2 hN_a2 (rg_in h_1182 (by decide)) dX8_work_171 (fun r_1192 H locs er_1192 hP hD hS => ?_)
                    have hG := GX.wR hG hSH hT_a2 rfl er_1192 (rg_w (rg_full _) (by decide)) (by decide)
                    exact K_1052 x_1179 r_1192 _ _ _ (rg_w h_1182 (by decide)) hG hP hD hS (lv_sub hl [1, 2, 3, 4, 0, 5] rfl)
                  · have h_1193 : rg x_1179 (-2) (-1) := rg_lt1 (nle c_1181) h_1180 (rg_k (0 : Int32) 0 rfl) (by decide)
                    refine lv_iconst (v := 0) hx hb dX8_work_151 (by decide) ?_
                    subst hQ
                    exact W.iret (v := 0) hx hb hr (fun t1 ht hW => ⟨⟨0, (σ, I, J, ri_887, rj, rq), rfl, ⟨ri_887, rfl, hG⟩, by rw [ht]; exact hP, va_K.moved hW.alike hK, hD⟩, hS.F ht⟩) hS.2.2 dX8_work_152
                · have h_1194 : rg x_987 35 35 := rg_and h_1069 (rg_of_eq c_1178 (rg_k (35 : Int32) 35 rfl)) (by decide)
                  exact K_1152 _ _ _ (rg_w h_1194 (by decide)) hG hP hD hS (lv_sub hl [0, 1, 2, 3, 4, 5, 6] rfl)
            refine lv_icmp_lt (tgt := 94) hx hb dX8_work_43 (by decide) (fun c_1195 => ?_) (fun c_1195 => ?_)
            · have h_1196 : rg x_987 1 11 := rg_lt1 c_1195 h_1069 (rg_k (12 : Int32) 12 rfl) (by decide)
              exact K_1119 _ _ _ hG hP hD hS (lv_sub hl [1, 2, 3, 4, 5, 6, 0] rfl)
            · have h_1197 : rg x_987 12 2147483647 := rg_le2 (nlt c_1195) (rg_k (12 : Int32) 12 rfl) h_1069 (by decide)
              refine lv_iload hx hb dX8_work_46 (lv_at hl 0 rfl) ?_
              refine lv_bipush (v := 17) hx hb dX8_work_48 (by decide) ?_
              refine lv_icmp_gt (tgt := 94) hx hb dX8_work_50 (by decide) (fun c_1198 => ?_) (fun c_1198 => ?_)
              · have h_1199 : rg x_987 18 2147483647 := rg_lt2 c_1198 (rg_k (17 : Int32) 17 rfl) h_1197 (by decide)
                exact K_1119 _ _ _ hG hP hD hS (lv_sub hl [1, 2, 3, 4, 5, 6, 0] rfl)
              · have h_1200 : rg x_987 12 17 := rg_le1 (nlt c_1198) h_1197 (rg_k (17 : Int32) 17 rfl) (by decide)
                obtain ⟨x_1201, ex_1201⟩ : ∃ y : Int32, y = x_885 + Int32.ofInt 1 := ⟨_, rfl⟩
                have h_1202 : rg x_1201 0 40 := rg_of_eq ex_1201 (rg_add h_973 (rg_k (Int32.ofInt 1) 1 rfl) (by decide))
                refine lv_iinc (v := x_1201) (lv' := [(4, .int x_1201), (6, .int x_987), (0, .ref this), (1, .int a0), (2, .ref a1), (3, .ref a2), (5, .int x_886)]) hx hb dX8_work_53 hl (k := 5) rfl ex_1201.symm (by decide) rfl (fun ls hl => ?_)
                refine lv_iload hx hb dX8_work_56 (lv_at hl 0 rfl) ?_
                refine lv_aload_n hx hb dX8_work_58 rfl (lv_at hl 5 rfl) ?_
                refine pn_i (v := 40) hx hb hK hP hL_a2 hK_a2 hN_a2 (by decide) dX8_work_59 ?_
                refine lv_icmp_lt (tgt := 65) hx hb dX8_work_60 (by decide) (fun c_1203 => ?_) (fun c_1203 => ?_)
                · have h_1204 : rg x_1201 0 39 := rg_lt1 c_1203 h_1202 (rg_k (40 : Int32) 40 rfl) (by decide)
                  refine lv_aload_n hx hb dX8_work_65 rfl (lv_at hl 5 rfl) ?_
                  refine lv_iload hx hb dX8_work_66 (lv_at hl 0 rfl) ?_
                  refine lv_iload hx hb dX8_work_68 (lv_at hl 1 rfl) ?_
                  have K_1211 : ∀  (x_1209 : Int32) (H : Heap) (locs : List Loc) (ls : Array Slot), GX [] tg σ I ri rj I ri_887 rj rq → va_P D vwCl (pq_P t σ (I, J, ri_887, rj, rq)) H → va_D A (pq_P t σ (I, J, ri_887, rj, rq)) → va_S A s.heap H locs → lv_has ls 7 [(0, .ref this), (1, .int a0), (2, .ref a1), (3, .ref a2), (4, .int x_1201), (5, .int x_886)] → W p l e ({ frames := 2, cells := 0, slots := 0, locals := 64 } : Room) s m (List.toArray ([.ref this, .int a0, .ref a1, .ref a2] : List Value)) below meth c H locs 0 0 Q (F0 m 90 ls [.int x_1209, .int x_1201, .ref a2]) := by
                    intro x_1209 H locs ls hG hP hD hS hl
                    refine pt_i hx hb hK hP hD hS hL_a2 hK_a2 hN_a2 (rg_in h_1204 (by decide)) dX8_work_90 (fun r_1212 H locs er_1212 hP hD hS => ?_)
                    have hG := GX.wR hG hSH hT_a2 rfl er_1212 (rg_w (rg_full _) (by decide)) (by decide)
                    refine lv_goto (tgt := 172) hx hb dX8_work_91 (by decide) ?_
                    exact K_1052 x_1201 r_1212 _ _ _ (rg_w h_1204 (by decide)) hG hP hD hS (lv_sub hl [0, 1, 2, 3, 4, 5] rfl)
                  refine lv_if_gt (tgt := 83) hx hb dX8_work_70 (by decide) (fun c_1213 => ?_) (fun c_1213 => ?_)
                  · refine lv_aload_n hx hb dX8_work_83 rfl (lv_at hl 4 rfl) ?_
                    refine lv_iload hx hb dX8_work_84 (lv_at hl 1 rfl) ?_
                    refine lv_bipush (v := 12) hx hb dX8_work_86 (by decide) ?_
                    refine lv_isub hx hb dX8_work_88 ?_
                    refine lv_topi (fun x_1214 ex_1214 => ?_)
                    have h_1215 : rg x_1214 0 5 := rg_of_eq ex_1214 (rg_sub h_1200 (rg_k (12 : Int32) 12 rfl) (by decide))
                    refine pl_i hx hb hK hP hL_a1 hK_a1 hN_a1 (rg_in h_1215 (by decide)) dX8_work_89 ?_
                    refine lv_topi (fun x_1216 ex_1216 => ?_)
                    exact K_1211 x_1216 _ _ _ hG hP hD hS (lv_sub hl [2, 3, 4, 5, 0, 6] rfl)
                  · exact (rg_empty (rg_le1 (nlt c_1213) h_1200 (rg_k (0 : Int32) 0 rfl) (lo := 12) (hi := 0) (by decide)) (by decide)).elim
                · have h_1217 : rg x_1201 40 40 := rg_le2 (nlt c_1203) (rg_k (40 : Int32) 40 rfl) h_1202 (by decide)
                  refine lv_iconst (v := 0) hx hb dX8_work_63 (by decide) ?_
                  subst hQ
                  exact W.iret (v := 0) hx hb hr (fun t1 ht hW => ⟨⟨0, (σ, I, J, ri_887, rj, rq), rfl, ⟨ri_887, rfl, hG⟩, by rw [ht]; exact hP, va_K.moved hW.alike hK, hD⟩, hS.F ht⟩) hS.2.2 dX8_work_64
    exact L_969 _ (-1 : Int32) x_2 ri _ _ _ (rg_w (rg_k (-1 : Int32) (-1) rfl) (by decide)) (rg_w h_3 (by decide)) (Nat.lt_succ_self _) hG hP hD hS (lv_sub hl [2, 3, 4, 5, 1, 0] rfl)
  exact go _ _ _ hP hD hS hl

set_option maxHeartbeats 4000000 in
set_option maxRecDepth 100000 in
theorem s_X8_firstSo_102_103 (l : Launch) (D : va_G) (t : pq_T) (σ : pq_S) (I : Nat → Nat → Int32) (J : Nat → Nat → Int64) (ri : Nat → Nat → Int32) (rj : Nat → Nat → Int64) (rq : Nat → Nat → Option Nat) (sz : Nat) (tg : Nat → Nat) (hSH : SH σ tg) (hG0 : GS tg σ I ri rq) (this : Nat) (a0 : Int32) (a1 : Nat) (a2 : Nat) (hL_this : this ∈ σ.1) (hK_this : σ.2.1 this = 8) (hL_a1 : a1 ∈ σ.1) (hK_a1 : σ.2.1 a1 = 13) (hN_a1 : σ.2.2.2 a1 = 6) (hT_a1 : tg a1 = 102) (hL_a2 : a2 ∈ σ.1) (hK_a2 : σ.2.1 a2 = 13) (hN_a2 : σ.2.2.2 a2 = 40) (hT_a2 : tg a2 = 103) : MetI l yX8_firstSo (wa yX8_firstSo cX8_firstSo 5 (some .int)) ({ frames := 3, cells := 0, slots := 0, locals := 90 }) [.ref this, .int a0, .ref a1, .ref a2] D t σ (I, J, ri, rj, rq) sz 0 0 (fun (r : Int32) (u : pq_S × pq_M) => ∃ ri' : Nat → Nat → Int32, u = (σ, I, J, ri', rj, rq) ∧ GX [] tg σ I ri rj I ri' rj rq ∧ rg r (-1) 19) := by
  refine Met.ofW (cc := cX8_firstSo) (maxL := 5) (ret := (some .int)) (by decide) rfl ?_
  intro p e s m args below meth c s₁ B hml hv
  obtain ⟨rfl, hsz, hP, hK, hD0, hN⟩ := hv
  have hx := B.exec
  have hb := B.bytes
  have hr := B.returns
  have hts := atoms_spec (ws := (wa yX8_firstSo cX8_firstSo 5 (some .int))) B.pre
  have hown : s.vm.findClass RX8 = some m.cls := findClass_of_methodNamed B.named
  have hlocks := B.notSynchronized
  subst hsz
  have hD : va_D (pq_B t σ (I, J, ri, rj, rq) s.heap.size) (pq_P t σ (I, J, ri, rj, rq)) := hD0.self
  generalize hAe : pq_B t σ (I, J, ri, rj, rq) s.heap.size = A at hD ⊢
  have hA : ∀ q : Nat, s.heap.size ≤ q → A q := fun q h => by rw [← hAe]; exact Or.inr h
  have hS : va_S A s.heap s.heap [] := va_S.rf
  have hG : GX [] tg σ I ri rj I ri rj rq := ⟨hG0, fun _ _ _ => rfl, fun _ _ _ _ _ => rfl, fun _ _ _ _ _ => rfl⟩
  have hl := lv_entry ([.ref this, .int a0, .ref a1, .ref a2]) (n := 5) (Nat.le_of_ble_eq_true rfl)
  rw [lg_entry_eq]
  generalize (lg_sl ([.ref this, .int a0, .ref a1, .ref a2]) ++ List.replicate (5 - (lg_sl ([.ref this, .int a0, .ref a1, .ref a2])).length) Slot.unset).toArray = ls at hl ⊢
  have hl : lv_has ls 5 [(0, .ref this), (1, .int a0), (2, .ref a1), (3, .ref a2)] := hl
  refine q_gen (fun Q hQ => ?_)
  have go : ∀ (H : Heap) (locs : List Loc) (ls : Array Slot), va_P D vwCl (pq_P t σ (I, J, ri, rj, rq)) H → va_D A (pq_P t σ (I, J, ri, rj, rq)) → va_S A s.heap H locs → lv_has ls 5 [(0, .ref this), (1, .int a0), (2, .ref a1), (3, .ref a2)] → W p l e ({ frames := 3, cells := 0, slots := 0, locals := 90 } : Room) s m (List.toArray ([.ref this, .int a0, .ref a1, .ref a2] : List Value)) below meth c H locs 0 0 Q (F0 m 0 ls []) := by
    intro H locs ls hP hD hS hl
    refine lv_iconst (v := 0) hx hb dX8_firstSo_0 (by decide) ?_
    refine lv_istore (lv' := [(4, .int 0), (0, .ref this), (1, .int a0), (2, .ref a1), (3, .ref a2)]) hx hb dX8_firstSo_1 hl (by decide) rfl (fun ls hl => ?_)
    have L_189 : ∀ (n_188 : Nat) (x_166 : Int32) (ri_167 : Nat → Nat → Int32) (H : Heap) (locs : List Loc) (ls : Array Slot), rg x_166 0 20 → (20 - (x_166).toInt).toNat < n_188 → GX [] tg σ I ri rj I ri_167 rj rq → va_P D vwCl (pq_P t σ (I, J, ri_167, rj, rq)) H → va_D A (pq_P t σ (I, J, ri_167, rj, rq)) → va_S A s.heap H locs → lv_has ls 5 [(0, .ref this), (1, .int a0), (2, .ref a1), (3, .ref a2), (4, .int x_166)] → W p l e ({ frames := 3, cells := 0, slots := 0, locals := 90 } : Room) s m (List.toArray ([.ref this, .int a0, .ref a1, .ref a2] : List Value)) below meth c H locs 0 0 Q (F0 m 3 ls []) := by
      intro n_188
      induction n_188 with
      | zero => intro x_166 ri_167 H locs ls h_192 hm_187 hG hP hD hS hl; exact absurd hm_187 (Nat.not_lt_zero _)
      | succ n_188 ih_190 =>
        intro x_166 ri_167 H locs ls h_192 hm_187 hG hP hD hS hl
        refine lv_iload hx hb dX8_firstSo_3 (lv_at hl 4 rfl) ?_
        refine lv_aload_n hx hb dX8_firstSo_5 rfl (lv_at hl 0 rfl) ?_
        refine pg_f (v := .int (I 256 this)) (C := RX8) (T := TX8) (N := 4) hx hb hts (tw_i inlX8) hown hK hP hL_this hK_this (by decide) rfl 0 (by decide) (hts _ (tw_c tw_478)) rfl dX8_firstSo_6 ?_
        have h_193 : rg (I 256 this) 0 20 := GX.rI hG 256 rfl
        refine lv_icmp_ge (tgt := 43) hx hb dX8_firstSo_9 (by decide) (fun c_194 => ?_) (fun c_194 => ?_)
        · refine lv_iconst (v := (-1)) hx hb dX8_firstSo_43 (by decide) ?_
          subst hQ
          exact W.iret (v := (-1)) hx hb hr (fun t1 ht hW => ⟨⟨(-1), (σ, I, J, ri_167, rj, rq), rfl, ⟨ri_167, rfl, hG, (rg_w (rg_k (-1 : Int32) (-1) rfl) (by decide))⟩, by rw [ht]; exact hP, va_K.moved hW.alike hK, hD⟩, hS.F ht⟩) hS.2.2 dX8_firstSo_44
        · have h_195 : rg x_166 0 19 := rg_lt1 (nle c_194) h_192 h_193 (by decide)
          have h_196 : rg (I 256 this) 1 20 := rg_lt2 (nle c_194) h_192 h_193 (by decide)
          refine lv_aload_n hx hb dX8_firstSo_12 rfl (lv_at hl 0 rfl) ?_
          obtain ⟨w_197, hR_w_197, hL_w_197, hK_w_197, hN_w_197, hT_w_197⟩ := sh_a hSH 257 (ci := 8) (kd := 13) (len := 20) rfl (by decide) hL_this hK_this
          refine pg_f (v := .ref w_197) (C := RX8) (T := TX8) (N := 4) hx hb hts (tw_i inlX8) hown hK hP hL_this hK_this (by decide) rfl 1 (by decide) (hts _ (tw_c tw_169)) (pq_hv rfl hR_w_197) dX8_firstSo_13 ?_
          refine lv_iload hx hb dX8_firstSo_16 (lv_at hl 4 rfl) ?_
          refine pl_i hx hb hK hP hL_w_197 hK_w_197 hN_w_197 (rg_in h_195 (by decide)) dX8_firstSo_18 ?_
          refine lv_topi (fun x_198 ex_198 => ?_)
          refine lv_iload_n hx hb dX8_firstSo_19 rfl (lv_at hl 1 rfl) ?_
          have K_211 : ∀  (ri_208 : Nat → Nat → Int32) (H : Heap) (locs : List Loc) (ls : Array Slot), GX [] tg σ I ri rj I ri_208 rj rq → va_P D vwCl (pq_P t σ (I, J, ri_208, rj, rq)) H → va_D A (pq_P t σ (I, J, ri_208, rj, rq)) → va_S A s.heap H locs → lv_has ls 5 [(0, .ref this), (1, .int a0), (2, .ref a1), (3, .ref a2), (4, .int x_166)] → W p l e ({ frames := 3, cells := 0, slots := 0, locals := 90 } : Room) s m (List.toArray ([.ref this, .int a0, .ref a1, .ref a2] : List Value)) below meth c H locs 0 0 Q (F0 m 37 ls []) := by
            intro ri_208 H locs ls hG hP hD hS hl
            obtain ⟨x_212, ex_212⟩ : ∃ y : Int32, y = x_166 + Int32.ofInt 1 := ⟨_, rfl⟩
            have h_213 : rg x_212 1 20 := rg_of_eq ex_212 (rg_add h_195 (rg_k (Int32.ofInt 1) 1 rfl) (by decide))
            refine lv_iinc (v := x_212) (lv' := [(4, .int x_212), (0, .ref this), (1, .int a0), (2, .ref a1), (3, .ref a2)]) hx hb dX8_firstSo_37 hl (k := 4) rfl ex_212.symm (by decide) rfl (fun ls hl => ?_)
            refine lv_goto (tgt := 3) hx hb dX8_firstSo_40 (by decide) ?_
            exact ih_190 x_212 ri_208 _ _ _ (rg_w h_213 (by decide)) (ms_up 1 hm_187 ex_212 rfl (by decide) h_195 (by decide) (by decide)) hG hP hD hS (lv_sub hl [1, 2, 3, 4, 0] rfl)
          refine lv_icmp_ne (tgt := 37) hx hb dX8_firstSo_20 (by decide) (fun c_214 => ?_) (fun c_214 => ?_)
          · exact K_211 ri_167 _ _ _ hG hP hD hS (lv_sub hl [0, 1, 2, 3, 4] rfl)
          · refine lv_aload_n hx hb dX8_firstSo_23 rfl (lv_at hl 0 rfl) ?_
            refine lv_iload hx hb dX8_firstSo_24 (lv_at hl 4 rfl) ?_
            refine lv_aload_n hx hb dX8_firstSo_26 rfl (lv_at hl 2 rfl) ?_
            refine lv_aload_n hx hb dX8_firstSo_27 rfl (lv_at hl 3 rfl) ?_
            refine pk_i (va_runV (As := [.int x_166, .ref a1, .ref a2]) (rest := []) ⟨hx, hb, hml, hown, hts⟩ (s_X8_work_102_103 l D t σ I J ri_167 rj rq H.size tg hSH hG.1 this x_166 a1 a2 hL_this hK_this (rg_w h_195 (by decide)) hL_a1 hK_a1 hN_a1 hT_a1 hL_a2 hK_a2 hN_a2 hT_a2) (cwV 3 hts (tw_V tw_574 tw_575 tw_576 tw_159 tw_577) rfl rfl rfl cv_yX8_work_3 ⟨Nat.le_of_ble_eq_true rfl, Nat.le_of_ble_eq_true rfl⟩) ⟨pq_blind, pq_recv hK hP hL_this hK_this (by decide) rfl, pq_pre hK hN hP hD⟩ rfl rfl hl.1 rfl (lv_room (Nat.le_of_ble_eq_true rfl)) dX8_firstSo_28 ⟨Nat.le_of_ble_eq_true rfl, Nat.le_of_ble_eq_true rfl⟩) hD hS hA (fun x_215 σ1 μ1 H locs hw_216 hP hD hS => ?_)
            obtain ⟨ri_217, hu_218, hg_219⟩ := hw_216
            obtain ⟨hu_218a, hu_218b⟩ := Prod.mk.inj hu_218
            rw [hu_218a, hu_218b] at hP hD
            have hG := GX.tr hG hg_219 (by decide)
            refine lv_if_eq (tgt := 37) hx hb dX8_firstSo_31 (by decide) (fun c_221 => ?_) (fun c_221 => ?_)
            · have h_222 : rg x_215 0 0 := rg_and (rg_full _) (rg_of_eq c_221 (rg_k (0 : Int32) 0 rfl)) (by decide)
              exact K_211 ri_217 _ _ _ hG hP hD hS (lv_sub hl [0, 1, 2, 3, 4] rfl)
            · refine lv_iload hx hb dX8_firstSo_34 (lv_at hl 4 rfl) ?_
              subst hQ
              exact W.iret (v := x_166) hx hb hr (fun t1 ht hW => ⟨⟨x_166, (σ, I, J, ri_217, rj, rq), rfl, ⟨ri_217, rfl, hG, (rg_w h_195 (by decide))⟩, by rw [ht]; exact hP, va_K.moved hW.alike hK, hD⟩, hS.F ht⟩) hS.2.2 dX8_firstSo_36
    exact L_189 _ (0 : Int32) ri _ _ _ (rg_w (rg_k (0 : Int32) 0 rfl) (by decide)) (Nat.lt_succ_self _) hG hP hD hS (lv_sub hl [1, 2, 3, 4, 0] rfl)
  exact go _ _ _ hP hD hS hl

set_option maxHeartbeats 4000000 in
set_option maxRecDepth 100000 in
theorem s_X3_whoIsSo (l : Launch) (D : va_G) (t : pq_T) (σ : pq_S) (I : Nat → Nat → Int32) (J : Nat → Nat → Int64) (ri : Nat → Nat → Int32) (rj : Nat → Nat → Int64) (rq : Nat → Nat → Option Nat) (sz : Nat) (tg : Nat → Nat) (hSH : SH σ tg) (hG0 : GS tg σ I ri rq) (this : Nat) (a0 : Int32) (a1 : Int32) (a2 : Nat) (a3 : Int64) (hL_this : this ∈ σ.1) (hK_this : σ.2.1 this = 3) (hL_a2 : a2 ∈ σ.1) (hK_a2 : σ.2.1 a2 = 0) : MetL l yX3_whoIsSo (wa yX3_whoIsSo cX3_whoIsSo 10 (some .long)) ({ frames := 4, cells := 0, slots := 0, locals := 114 }) [.ref this, .int a0, .int a1, .ref a2, .long a3] D t σ (I, J, ri, rj, rq) sz 0 0 (fun (r : Int64) (u : pq_S × pq_M) => ∃ ri' : Nat → Nat → Int32, u = (σ, I, J, ri', rj, rq) ∧ GX [] tg σ I ri rj I ri' rj rq) := by
  refine Met.ofW (cc := cX3_whoIsSo) (maxL := 10) (ret := (some .long)) (by decide) rfl ?_
  intro p e s m args below meth c s₁ B hml hv
  obtain ⟨rfl, hsz, hP, hK, hD0, hN⟩ := hv
  have hx := B.exec
  have hb := B.bytes
  have hr := B.returns
  have hts := atoms_spec (ws := (wa yX3_whoIsSo cX3_whoIsSo 10 (some .long))) B.pre
  have hown : s.vm.findClass RX3 = some m.cls := findClass_of_methodNamed B.named
  have hlocks := B.notSynchronized
  subst hsz
  have hD : va_D (pq_B t σ (I, J, ri, rj, rq) s.heap.size) (pq_P t σ (I, J, ri, rj, rq)) := hD0.self
  generalize hAe : pq_B t σ (I, J, ri, rj, rq) s.heap.size = A at hD ⊢
  have hA : ∀ q : Nat, s.heap.size ≤ q → A q := fun q h => by rw [← hAe]; exact Or.inr h
  have hS : va_S A s.heap s.heap [] := va_S.rf
  have hG : GX [] tg σ I ri rj I ri rj rq := ⟨hG0, fun _ _ _ => rfl, fun _ _ _ _ _ => rfl, fun _ _ _ _ _ => rfl⟩
  have hl := lv_entry ([.ref this, .int a0, .int a1, .ref a2, .long a3]) (n := 10) (Nat.le_of_ble_eq_true rfl)
  rw [lg_entry_eq]
  generalize (lg_sl ([.ref this, .int a0, .int a1, .ref a2, .long a3]) ++ List.replicate (10 - (lg_sl ([.ref this, .int a0, .int a1, .ref a2, .long a3])).length) Slot.unset).toArray = ls at hl ⊢
  have hl : lv_has ls 10 [(0, .ref this), (1, .int a0), (2, .int a1), (3, .ref a2), (4, .long a3)] := hl
  refine q_gen (fun Q hQ => ?_)
  have go : ∀ (H : Heap) (locs : List Loc) (ls : Array Slot), va_P D vwCl (pq_P t σ (I, J, ri, rj, rq)) H → va_D A (pq_P t σ (I, J, ri, rj, rq)) → va_S A s.heap H locs → lv_has ls 10 [(0, .ref this), (1, .int a0), (2, .int a1), (3, .ref a2), (4, .long a3)] → W p l e ({ frames := 4, cells := 0, slots := 0, locals := 114 } : Room) s m (List.toArray ([.ref this, .int a0, .int a1, .ref a2, .long a3] : List Value)) below meth c H locs 0 0 Q (F0 m 0 ls []) := by
    intro H locs ls hP hD hS hl
    refine lv_aload_n hx hb dX3_whoIsSo_0 rfl (lv_at hl 0 rfl) ?_
    refine lv_iload_n hx hb dX3_whoIsSo_1 rfl (lv_at hl 1 rfl) ?_
    refine lv_iload_n hx hb dX3_whoIsSo_2 rfl (lv_at hl 2 rfl) ?_
    refine pk_q (va_runV (As := [.int a0, .int a1]) (rest := []) ⟨hx, hb, hml, hown, hts⟩ (s_X3_textFor l D t σ I J ri rj rq H.size tg hSH hG.1 this a0 a1 hL_this hK_this) (cwV 2 hts (tw_V tw_469 tw_470 tw_471 tw_49 tw_472) rfl rfl rfl cv_yX3_textFor_2 ⟨Nat.le_of_ble_eq_true rfl, Nat.le_of_ble_eq_true rfl⟩) ⟨pq_blind, pq_recv hK hP hL_this hK_this (by decide) rfl, pq_pre hK hN hP hD⟩ rfl rfl hl.1 rfl (lv_room (Nat.le_of_ble_eq_true rfl)) dX3_whoIsSo_3 ⟨Nat.le_of_ble_eq_true rfl, Nat.le_of_ble_eq_true rfl⟩) hD hS hA (fun x_1 σ1 μ1 H locs hw_2 hP hD hS => ?_)
    obtain ⟨hu_3, hr_5⟩ := hw_2
    obtain ⟨hu_3a, hu_3b⟩ := Prod.mk.inj hu_3
    rw [hu_3a, hu_3b] at hP hD
    rcases hr_5 with rfl | ⟨w_x_1, rfl, hL_w_x_1, hK_w_x_1⟩
    · refine lv_astoreN (lv' := [(6, .null), (0, .ref this), (1, .int a0), (2, .int a1), (3, .ref a2), (4, .long a3)]) hx hb dX3_whoIsSo_6 hl (by decide) rfl (fun ls hl => ?_)
      refine lv_aloadN hx hb dX3_whoIsSo_8 (lv_at hl 0 rfl) ?_
      refine lv_ifnonnullN hx hb dX3_whoIsSo_10 ?_
      refine lv_lload hx hb dX3_whoIsSo_13 (lv_at hl 5 rfl) ?_
      subst hQ
      exact W.lret (v := a3) hx hb hr (fun t1 ht hW => ⟨⟨a3, (σ, I, J, ri, rj, rq), rfl, ⟨ri, rfl, hG⟩, by rw [ht]; exact hP, va_K.moved hW.alike hK, hD⟩, hS.F ht⟩) hS.2.2 dX3_whoIsSo_15
    · refine lv_astore (lv' := [(6, .ref w_x_1), (0, .ref this), (1, .int a0), (2, .int a1), (3, .ref a2), (4, .long a3)]) hx hb dX3_whoIsSo_6 hl (by decide) rfl (fun ls hl => ?_)
      refine lv_aload hx hb dX3_whoIsSo_8 (lv_at hl 0 rfl) ?_
      refine lv_ifnonnull (tgt := 16) hx hb dX3_whoIsSo_10 (by decide) ?_
      refine lv_lconst (v := 0) hx hb dX3_whoIsSo_16 (by decide) ?_
      refine lv_lstore (lv' := [(7, .long 0), (6, .ref w_x_1), (0, .ref this), (1, .int a0), (2, .int a1), (3, .ref a2), (4, .long a3)]) hx hb dX3_whoIsSo_17 hl (by decide) rfl (fun ls hl => ?_)
      refine lv_iconst (v := 0) hx hb dX3_whoIsSo_19 (by decide) ?_
      refine lv_istore (lv' := [(9, .int 0), (7, .long 0), (6, .ref w_x_1), (0, .ref this), (1, .int a0), (2, .int a1), (3, .ref a2), (4, .long a3)]) hx hb dX3_whoIsSo_20 hl (by decide) rfl (fun ls hl => ?_)
      have L_524 : ∀ (n_523 : Nat) (x_482 : Int64) (x_483 : Int32) (ri_484 : Nat → Nat → Int32) (H : Heap) (locs : List Loc) (ls : Array Slot), rg x_483 0 40 → (40 - (x_483).toInt).toNat < n_523 → GX [] tg σ I ri rj I ri_484 rj rq → va_P D vwCl (pq_P t σ (I, J, ri_484, rj, rq)) H → va_D A (pq_P t σ (I, J, ri_484, rj, rq)) → va_S A s.heap H locs → lv_has ls 10 [(0, .ref this), (1, .int a0), (2, .int a1), (3, .ref a2), (4, .long a3), (6, .ref w_x_1), (7, .long x_482), (9, .int x_483)] → W p l e ({ frames := 4, cells := 0, slots := 0, locals := 114 } : Room) s m (List.toArray ([.ref this, .int a0, .int a1, .ref a2, .long a3] : List Value)) below meth c H locs 0 0 Q (F0 m 22 ls []) := by
        intro n_523
        induction n_523 with
        | zero => intro x_482 x_483 ri_484 H locs ls h_527 hm_522 hG hP hD hS hl; exact absurd hm_522 (Nat.not_lt_zero _)
        | succ n_523 ih_525 =>
          intro x_482 x_483 ri_484 H locs ls h_527 hm_522 hG hP hD hS hl
          refine lv_iload hx hb dX3_whoIsSo_22 (lv_at hl 7 rfl) ?_
          refine lv_aload_n hx hb dX3_whoIsSo_24 rfl (lv_at hl 3 rfl) ?_
          refine pg_f (v := .int (I 0 a2)) (C := RX0) (T := TX0) (N := 16) hx hb hts (tw_i inlX0) hown hK hP hL_a2 hK_a2 (by decide) rfl 0 (by decide) (hts _ (tw_c tw_465)) rfl dX3_whoIsSo_25 ?_
          have h_528 : rg (I 0 a2) 0 40 := GX.rI hG 0 rfl
          refine lv_icmp_ge (tgt := 83) hx hb dX3_whoIsSo_28 (by decide) (fun c_529 => ?_) (fun c_529 => ?_)
          · refine lv_lload hx hb dX3_whoIsSo_83 (lv_at hl 6 rfl) ?_
            subst hQ
            exact W.lret (v := x_482) hx hb hr (fun t1 ht hW => ⟨⟨x_482, (σ, I, J, ri_484, rj, rq), rfl, ⟨ri_484, rfl, hG⟩, by rw [ht]; exact hP, va_K.moved hW.alike hK, hD⟩, hS.F ht⟩) hS.2.2 dX3_whoIsSo_85
          · have h_530 : rg x_483 0 39 := rg_lt1 (nle c_529) h_527 h_528 (by decide)
            have h_531 : rg (I 0 a2) 1 40 := rg_lt2 (nle c_529) h_527 h_528 (by decide)
            refine lv_lload hx hb dX3_whoIsSo_31 (lv_at hl 4 rfl) ?_
            refine lv_iload hx hb dX3_whoIsSo_33 (lv_at hl 7 rfl) ?_
            refine pk_i (va_runSN (As := [.long a3, .int x_483]) (rest := []) ⟨hx, hb, hml, hown, hts⟩ (s_X11_hasBit l D t σ I J ri_484 rj rq H.size tg hSH hG.1 a3 x_483) ⟨va_cnB (host := "RingsUnder") 2 hts (tw_W tw_560) rfl rfl rfl (nl_12 hN) (hts _ (tw_c tw_2)) cd_yX11_hasBit_2 ⟨Nat.le_of_ble_eq_true rfl, Nat.le_of_ble_eq_true rfl⟩, hts (.static yX11_hasBit) (tw_c tq_static_yX11_hasBit), trivial⟩ ⟨pq_blind, pq_pre hK hN hP hD⟩ rfl rfl hl.1 rfl (lv_room (Nat.le_of_ble_eq_true rfl)) dX3_whoIsSo_35 ⟨Nat.le_of_ble_eq_true rfl, Nat.le_of_ble_eq_true rfl⟩) hD hS hA (fun x_532 σ1 μ1 H locs hw_533 hP hD hS => ?_)
            obtain ⟨hu_534, hr_536⟩ := hw_533
            obtain ⟨hu_534a, hu_534b⟩ := Prod.mk.inj hu_534
            rw [hu_534a, hu_534b] at hP hD
            have h_537 : rg x_532 0 1 := by rcases hr_536 with ⟨q, -⟩ | ⟨q, -⟩ <;> rw [q] <;> exact ⟨by decide, by decide⟩
            have K_564 : ∀  (x_560 : Int64) (ri_561 : Nat → Nat → Int32) (H : Heap) (locs : List Loc) (ls : Array Slot), GX [] tg σ I ri rj I ri_561 rj rq → va_P D vwCl (pq_P t σ (I, J, ri_561, rj, rq)) H → va_D A (pq_P t σ (I, J, ri_561, rj, rq)) → va_S A s.heap H locs → lv_has ls 10 [(0, .ref this), (1, .int a0), (2, .int a1), (3, .ref a2), (4, .long a3), (6, .ref w_x_1), (7, .long x_560), (9, .int x_483)] → W p l e ({ frames := 4, cells := 0, slots := 0, locals := 114 } : Room) s m (List.toArray ([.ref this, .int a0, .int a1, .ref a2, .long a3] : List Value)) below meth c H locs 0 0 Q (F0 m 77 ls []) := by
              intro x_560 ri_561 H locs ls hG hP hD hS hl
              obtain ⟨x_565, ex_565⟩ : ∃ y : Int32, y = x_483 + Int32.ofInt 1 := ⟨_, rfl⟩
              have h_566 : rg x_565 1 40 := rg_of_eq ex_565 (rg_add h_530 (rg_k (Int32.ofInt 1) 1 rfl) (by decide))
              refine lv_iinc (v := x_565) (lv' := [(9, .int x_565), (0, .ref this), (1, .int a0), (2, .int a1), (3, .ref a2), (4, .long a3), (6, .ref w_x_1), (7, .long x_560)]) hx hb dX3_whoIsSo_77 hl (k := 7) rfl ex_565.symm (by decide) rfl (fun ls hl => ?_)
              refine lv_goto (tgt := 22) hx hb dX3_whoIsSo_80 (by decide) ?_
              exact ih_525 x_560 x_565 ri_561 _ _ _ (rg_w h_566 (by decide)) (ms_up 1 hm_522 ex_565 rfl (by decide) h_530 (by decide) (by decide)) hG hP hD hS (lv_sub hl [1, 2, 3, 4, 5, 6, 7, 0] rfl)
            refine lv_if_eq (tgt := 77) hx hb dX3_whoIsSo_38 (by decide) (fun c_567 => ?_) (fun c_567 => ?_)
            · have h_568 : rg x_532 0 0 := rg_and h_537 (rg_of_eq c_567 (rg_k (0 : Int32) 0 rfl)) (by decide)
              exact K_564 x_482 ri_484 _ _ _ hG hP hD hS (lv_sub hl [0, 1, 2, 3, 4, 5, 6, 7] rfl)
            · have h_569 : rg x_532 1 1 := rg_ne c_567 h_537 0 rfl (by decide)
              refine lv_aload_n hx hb dX3_whoIsSo_41 rfl (lv_at hl 0 rfl) ?_
              refine lv_aload_n hx hb dX3_whoIsSo_42 rfl (lv_at hl 3 rfl) ?_
              refine lv_iload hx hb dX3_whoIsSo_43 (lv_at hl 7 rfl) ?_
              refine lv_iload_n hx hb dX3_whoIsSo_45 rfl (lv_at hl 2 rfl) ?_
              refine lv_iconst (v := 0) hx hb dX3_whoIsSo_46 (by decide) ?_
              refine pk_v (va_runV (As := [.ref a2, .int x_483, .int a1, .int 0]) (rest := []) ⟨hx, hb, hml, hown, hts⟩ (s_X3_nameAll l D t σ I J ri_484 rj rq H.size tg hSH hG.1 this a2 x_483 a1 (0 : Int32) hL_this hK_this hL_a2 hK_a2 (rg_w h_530 (by decide))) (cwV 4 hts (tw_V tw_565 tw_566 tw_567 tw_49 tw_568) rfl rfl rfl cv_yX3_nameAll_4 ⟨Nat.le_of_ble_eq_true rfl, Nat.le_of_ble_eq_true rfl⟩) ⟨pq_blind, pq_recv hK hP hL_this hK_this (by decide) rfl, pq_pre hK hN hP hD⟩ rfl rfl hl.1 rfl (lv_room (Nat.le_of_ble_eq_true rfl)) dX3_whoIsSo_47 ⟨Nat.le_of_ble_eq_true rfl, Nat.le_of_ble_eq_true rfl⟩) hD hS hA (fun σ1 μ1 H locs hw_571 hP hD hS => ?_)
              obtain ⟨ri_572, hu_573, hg_574⟩ := hw_571
              obtain ⟨hu_573a, hu_573b⟩ := Prod.mk.inj hu_573
              rw [hu_573a, hu_573b] at hP hD
              have hG := GX.tr hG hg_574 (by decide)
              refine lv_aload hx hb dX3_whoIsSo_50 (lv_at hl 5 rfl) ?_
              refine lv_iload_n hx hb dX3_whoIsSo_52 rfl (lv_at hl 1 rfl) ?_
              refine lv_aload_n hx hb dX3_whoIsSo_53 rfl (lv_at hl 0 rfl) ?_
              obtain ⟨w_576, hR_w_576, hL_w_576, hK_w_576, hN_w_576, hT_w_576⟩ := sh_a hSH 102 (ci := 3) (kd := 13) (len := 6) rfl (by decide) hL_this hK_this
              refine pg_f (v := .ref w_576) (C := RX3) (T := TX3) (N := 8) hx hb hts (tw_i inlX3) hown hK hP hL_this hK_this (by decide) rfl 6 (by decide) (hts _ (tw_c tw_132)) (pq_hv rfl hR_w_576) dX3_whoIsSo_54 ?_
              refine lv_aload_n hx hb dX3_whoIsSo_57 rfl (lv_at hl 0 rfl) ?_
              obtain ⟨w_577, hR_w_577, hL_w_577, hK_w_577, hN_w_577, hT_w_577⟩ := sh_a hSH 103 (ci := 3) (kd := 13) (len := 40) rfl (by decide) hL_this hK_this
              refine pg_f (v := .ref w_577) (C := RX3) (T := TX3) (N := 8) hx hb hts (tw_i inlX3) hown hK hP hL_this hK_this (by decide) rfl 7 (by decide) (hts _ (tw_c tw_133)) (pq_hv rfl hR_w_577) dX3_whoIsSo_58 ?_
              refine pk_i (va_runV (As := [.int a0, .ref w_576, .ref w_577]) (rest := []) ⟨hx, hb, hml, hown, hts⟩ (s_X8_firstSo_102_103 l D t σ I J ri_572 rj rq H.size tg hSH hG.1 w_x_1 a0 w_576 w_577 hL_w_x_1 hK_w_x_1 hL_w_576 hK_w_576 hN_w_576 hT_w_576 hL_w_577 hK_w_577 hN_w_577 hT_w_577) (cwV 3 hts (tw_V tw_570 tw_571 tw_572 tw_159 tw_573) rfl rfl rfl cv_yX8_firstSo_3 ⟨Nat.le_of_ble_eq_true rfl, Nat.le_of_ble_eq_true rfl⟩) ⟨pq_blind, pq_recv hK hP hL_w_x_1 hK_w_x_1 (by decide) rfl, pq_pre hK hN hP hD⟩ rfl rfl hl.1 rfl (lv_room (Nat.le_of_ble_eq_true rfl)) dX3_whoIsSo_61 ⟨Nat.le_of_ble_eq_true rfl, Nat.le_of_ble_eq_true rfl⟩) hD hS hA (fun x_578 σ1 μ1 H locs hw_579 hP hD hS => ?_)
              obtain ⟨ri_580, hu_581, hg_582, hr_583⟩ := hw_579
              obtain ⟨hu_581a, hu_581b⟩ := Prod.mk.inj hu_581
              rw [hu_581a, hu_581b] at hP hD
              have hG := GX.tr hG hg_582 (by decide)
              refine lv_iconst (v := (-1)) hx hb dX3_whoIsSo_64 (by decide) ?_
              refine lv_icmp_eq (tgt := 77) hx hb dX3_whoIsSo_65 (by decide) (fun c_584 => ?_) (fun c_584 => ?_)
              · have h_585 : rg x_578 (-1) (-1) := rg_and hr_583 (rg_of_eq c_584 (rg_k (-1 : Int32) (-1) rfl)) (by decide)
                exact K_564 x_482 ri_580 _ _ _ hG hP hD hS (lv_sub hl [0, 1, 2, 3, 4, 5, 6, 7] rfl)
              · have h_586 : rg x_578 0 19 := rg_ne c_584 hr_583 (-1) rfl (by decide)
                refine lv_lload hx hb dX3_whoIsSo_68 (lv_at hl 6 rfl) ?_
                refine lv_lconst (v := 1) hx hb dX3_whoIsSo_70 (by decide) ?_
                refine lv_iload hx hb dX3_whoIsSo_71 (lv_at hl 7 rfl) ?_
                refine lv_lshl hx hb dX3_whoIsSo_73 rfl ?_
                refine lv_topl (fun x_587 ex_587 => ?_)
                refine lv_lor hx hb dX3_whoIsSo_74 ?_
                refine lv_topl (fun x_588 ex_588 => ?_)
                refine lv_lstore (lv' := [(7, .long x_588), (0, .ref this), (1, .int a0), (2, .int a1), (3, .ref a2), (4, .long a3), (6, .ref w_x_1), (9, .int x_483)]) hx hb dX3_whoIsSo_75 hl (by decide) rfl (fun ls hl => ?_)
                exact K_564 x_588 ri_580 _ _ _ hG hP hD hS (lv_sub hl [1, 2, 3, 4, 5, 6, 0, 7] rfl)
      exact L_524 _ (0 : Int64) (0 : Int32) ri _ _ _ (rg_w (rg_k (0 : Int32) 0 rfl) (by decide)) (Nat.lt_succ_self _) hG hP hD hS (lv_sub hl [3, 4, 5, 6, 7, 2, 1, 0] rfl)
  exact go _ _ _ hP hD hS hl
