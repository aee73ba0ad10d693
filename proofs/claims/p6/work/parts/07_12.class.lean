theorem dX3_copyFrom_0 : decode cX3_copyFrom 0 = .ok (.aload_n 0, 1) := oc_42 (by decide +kernel)
theorem dX3_copyFrom_1 : decode cX3_copyFrom 1 = .ok (.aload_n 1, 1) := oc_43 (by decide +kernel)
theorem tw_1388 : Cond.fieldLink RX3 33 "RingsUnder$Law" "textCount" "I" ∈ wsL_law := sg_58 _ (List.mem_of_getElem? (i := 20) rfl)
theorem dX3_copyFrom_2 : decode cX3_copyFrom 2 = .ok (.getfield 33, 3) := oc_180 (a := 0) (b := 33) (by decide +kernel)
theorem dX3_copyFrom_5 : decode cX3_copyFrom 5 = .ok (.putfield 33, 3) := oc_181 (a := 0) (b := 33) (by decide +kernel)
theorem dX3_copyFrom_8 : decode cX3_copyFrom 8 = .ok (.iconst 0, 1) := oc_3 (by decide +kernel)
theorem dX3_copyFrom_9 : decode cX3_copyFrom 9 = .ok (.istore_n 2, 1) := oc_61 (by decide +kernel)
theorem dX3_copyFrom_10 : decode cX3_copyFrom 10 = .ok (.iload_n 2, 1) := oc_28 (by decide +kernel)
theorem dX3_copyFrom_11 : decode cX3_copyFrom 11 = .ok (.bipush 10, 2) := oc_16 (a := 10) (by decide +kernel)
theorem dX3_copyFrom_13 : decode cX3_copyFrom 13 = .ok (.if_icmp .ge 21, 3) := oc_162 (a := 0) (b := 21) (by decide +kernel)
theorem dX3_copyFrom_34 : decode cX3_copyFrom 34 = .ok (.aload_n 0, 1) := oc_42 (by decide +kernel)
theorem dX3_copyFrom_35 : decode cX3_copyFrom 35 = .ok (.aload_n 1, 1) := oc_43 (by decide +kernel)
theorem tw_473 : Cond.fieldLink RX3 37 "RingsUnder$Law" "forces" "I" ∈ wsL_law := sg_20 _ (List.mem_of_getElem? (i := 17) rfl)
theorem dX3_copyFrom_36 : decode cX3_copyFrom 36 = .ok (.getfield 37, 3) := oc_180 (a := 0) (b := 37) (by decide +kernel)
theorem dX3_copyFrom_39 : decode cX3_copyFrom 39 = .ok (.putfield 37, 3) := oc_181 (a := 0) (b := 37) (by decide +kernel)
theorem dX3_copyFrom_42 : decode cX3_copyFrom 42 = .ok (.aload_n 1, 1) := oc_43 (by decide +kernel)
theorem tw_129 : Cond.fieldLink RX3 17 "RingsUnder$Law" "forceText" "[I" ∈ wsL_law := sg_6 _ (List.mem_of_getElem? (i := 9) rfl)
theorem dX3_copyFrom_43 : decode cX3_copyFrom 43 = .ok (.getfield 17, 3) := oc_180 (a := 0) (b := 17) (by decide +kernel)
theorem dX3_copyFrom_46 : decode cX3_copyFrom 46 = .ok (.aload_n 0, 1) := oc_42 (by decide +kernel)
theorem dX3_copyFrom_47 : decode cX3_copyFrom 47 = .ok (.getfield 17, 3) := oc_180 (a := 0) (b := 17) (by decide +kernel)
theorem dX3_copyFrom_50 : decode cX3_copyFrom 50 = .ok (.invokestatic 40, 3) := oc_184 (a := 0) (b := 40) (by decide +kernel)
theorem dX3_copyFrom_53 : decode cX3_copyFrom 53 = .ok (.aload_n 1, 1) := oc_43 (by decide +kernel)
theorem tw_130 : Cond.fieldLink RX3 21 "RingsUnder$Law" "forceFrom" "[I" ∈ wsL_law := sg_6 _ (List.mem_of_getElem? (i := 10) rfl)
theorem dX3_copyFrom_54 : decode cX3_copyFrom 54 = .ok (.getfield 21, 3) := oc_180 (a := 0) (b := 21) (by decide +kernel)
theorem dX3_copyFrom_57 : decode cX3_copyFrom 57 = .ok (.aload_n 0, 1) := oc_42 (by decide +kernel)
theorem dX3_copyFrom_58 : decode cX3_copyFrom 58 = .ok (.getfield 21, 3) := oc_180 (a := 0) (b := 21) (by decide +kernel)
theorem dX3_copyFrom_61 : decode cX3_copyFrom 61 = .ok (.invokestatic 40, 3) := oc_184 (a := 0) (b := 40) (by decide +kernel)
theorem dX3_copyFrom_64 : decode cX3_copyFrom 64 = .ok (.aload_n 1, 1) := oc_43 (by decide +kernel)
theorem tw_131 : Cond.fieldLink RX3 24 "RingsUnder$Law" "forceTo" "[I" ∈ wsL_law := sg_6 _ (List.mem_of_getElem? (i := 11) rfl)
theorem dX3_copyFrom_65 : decode cX3_copyFrom 65 = .ok (.getfield 24, 3) := oc_180 (a := 0) (b := 24) (by decide +kernel)
theorem dX3_copyFrom_68 : decode cX3_copyFrom 68 = .ok (.aload_n 0, 1) := oc_42 (by decide +kernel)
theorem dX3_copyFrom_69 : decode cX3_copyFrom 69 = .ok (.getfield 24, 3) := oc_180 (a := 0) (b := 24) (by decide +kernel)
theorem dX3_copyFrom_72 : decode cX3_copyFrom 72 = .ok (.invokestatic 40, 3) := oc_184 (a := 0) (b := 40) (by decide +kernel)
theorem dX3_copyFrom_75 : decode cX3_copyFrom 75 = .ok (.return_, 1) := oc_177 (by decide +kernel)
theorem dX3_copyFrom_16 : decode cX3_copyFrom 16 = .ok (.aload_n 0, 1) := oc_42 (by decide +kernel)
theorem tw_128 : Cond.fieldLink RX3 11 "RingsUnder$Law" "texts" "[LRingsUnder$Text;" ∈ wsL_law := sg_6 _ (List.mem_of_getElem? (i := 8) rfl)
theorem dX3_copyFrom_17 : decode cX3_copyFrom 17 = .ok (.getfield 11, 3) := oc_180 (a := 0) (b := 11) (by decide +kernel)
theorem dX3_copyFrom_20 : decode cX3_copyFrom 20 = .ok (.iload_n 2, 1) := oc_28 (by decide +kernel)
theorem dX3_copyFrom_21 : decode cX3_copyFrom 21 = .ok (.aload_n 1, 1) := oc_43 (by decide +kernel)
theorem dX3_copyFrom_22 : decode cX3_copyFrom 22 = .ok (.getfield 11, 3) := oc_180 (a := 0) (b := 11) (by decide +kernel)
theorem dX3_copyFrom_25 : decode cX3_copyFrom 25 = .ok (.iload_n 2, 1) := oc_28 (by decide +kernel)
theorem dX3_copyFrom_26 : decode cX3_copyFrom 26 = .ok (.aaload, 1) := oc_50 (by decide +kernel)
theorem dX3_copyFrom_27 : decode cX3_copyFrom 27 = .ok (.aastore, 1) := oc_83 (by decide +kernel)
theorem dX3_copyFrom_28 : decode cX3_copyFrom 28 = .ok (.iinc 2 1, 3) := oc_132 (b := 1) (by decide +kernel)
theorem dX3_copyFrom_31 : decode cX3_copyFrom 31 = .ok (.goto (-21), 3) := oc_167 (a := 255) (b := 235) (by decide +kernel)
theorem dX3_addForce_0 : decode cX3_addForce 0 = .ok (.aload_n 0, 1) := oc_42 (by decide +kernel)
theorem dX3_addForce_1 : decode cX3_addForce 1 = .ok (.getfield 37, 3) := oc_180 (a := 0) (b := 37) (by decide +kernel)
theorem dX3_addForce_4 : decode cX3_addForce 4 = .ok (.bipush 30, 2) := oc_16 (a := 30) (by decide +kernel)
theorem dX3_addForce_6 : decode cX3_addForce 6 = .ok (.if_icmp .lt 5, 3) := oc_161 (a := 0) (b := 5) (by decide +kernel)
theorem dX3_addForce_11 : decode cX3_addForce 11 = .ok (.aload_n 0, 1) := oc_42 (by decide +kernel)
theorem dX3_addForce_12 : decode cX3_addForce 12 = .ok (.getfield 17, 3) := oc_180 (a := 0) (b := 17) (by decide +kernel)
theorem dX3_addForce_15 : decode cX3_addForce 15 = .ok (.aload_n 0, 1) := oc_42 (by decide +kernel)
theorem dX3_addForce_16 : decode cX3_addForce 16 = .ok (.getfield 37, 3) := oc_180 (a := 0) (b := 37) (by decide +kernel)
theorem dX3_addForce_19 : decode cX3_addForce 19 = .ok (.iload_n 1, 1) := oc_27 (by decide +kernel)
theorem dX3_addForce_20 : decode cX3_addForce 20 = .ok (.iastore, 1) := oc_79 (by decide +kernel)
theorem dX3_addForce_21 : decode cX3_addForce 21 = .ok (.aload_n 0, 1) := oc_42 (by decide +kernel)
theorem dX3_addForce_22 : decode cX3_addForce 22 = .ok (.getfield 21, 3) := oc_180 (a := 0) (b := 21) (by decide +kernel)
theorem dX3_addForce_25 : decode cX3_addForce 25 = .ok (.aload_n 0, 1) := oc_42 (by decide +kernel)
theorem dX3_addForce_26 : decode cX3_addForce 26 = .ok (.getfield 37, 3) := oc_180 (a := 0) (b := 37) (by decide +kernel)
theorem dX3_addForce_29 : decode cX3_addForce 29 = .ok (.iload_n 2, 1) := oc_28 (by decide +kernel)
theorem dX3_addForce_30 : decode cX3_addForce 30 = .ok (.iastore, 1) := oc_79 (by decide +kernel)
theorem dX3_addForce_31 : decode cX3_addForce 31 = .ok (.aload_n 0, 1) := oc_42 (by decide +kernel)
theorem dX3_addForce_32 : decode cX3_addForce 32 = .ok (.getfield 24, 3) := oc_180 (a := 0) (b := 24) (by decide +kernel)
theorem dX3_addForce_35 : decode cX3_addForce 35 = .ok (.aload_n 0, 1) := oc_42 (by decide +kernel)
theorem dX3_addForce_36 : decode cX3_addForce 36 = .ok (.getfield 37, 3) := oc_180 (a := 0) (b := 37) (by decide +kernel)
theorem dX3_addForce_39 : decode cX3_addForce 39 = .ok (.iload_n 3, 1) := oc_29 (by decide +kernel)
theorem dX3_addForce_40 : decode cX3_addForce 40 = .ok (.iastore, 1) := oc_79 (by decide +kernel)
theorem dX3_addForce_41 : decode cX3_addForce 41 = .ok (.aload_n 0, 1) := oc_42 (by decide +kernel)
theorem dX3_addForce_42 : decode cX3_addForce 42 = .ok (.dup, 1) := oc_89 (by decide +kernel)
theorem dX3_addForce_43 : decode cX3_addForce 43 = .ok (.getfield 37, 3) := oc_180 (a := 0) (b := 37) (by decide +kernel)
theorem dX3_addForce_46 : decode cX3_addForce 46 = .ok (.iconst 1, 1) := oc_4 (by decide +kernel)
theorem dX3_addForce_47 : decode cX3_addForce 47 = .ok (.iadd, 1) := oc_96 (by decide +kernel)
theorem dX3_addForce_48 : decode cX3_addForce 48 = .ok (.putfield 37, 3) := oc_181 (a := 0) (b := 37) (by decide +kernel)
theorem dX3_addForce_51 : decode cX3_addForce 51 = .ok (.aload_n 0, 1) := oc_42 (by decide +kernel)
theorem dX3_addForce_52 : decode cX3_addForce 52 = .ok (.getfield 37, 3) := oc_180 (a := 0) (b := 37) (by decide +kernel)
theorem dX3_addForce_55 : decode cX3_addForce 55 = .ok (.iconst 1, 1) := oc_4 (by decide +kernel)
theorem dX3_addForce_56 : decode cX3_addForce 56 = .ok (.isub, 1) := oc_100 (by decide +kernel)
theorem dX3_addForce_57 : decode cX3_addForce 57 = .ok (.ireturn, 1) := oc_172 (by decide +kernel)
theorem dX3_addForce_9 : decode cX3_addForce 9 = .ok (.iconst (-1), 1) := oc_2 (by decide +kernel)
theorem dX3_addForce_10 : decode cX3_addForce 10 = .ok (.ireturn, 1) := oc_172 (by decide +kernel)
theorem dX8_firstOf_0 : decode cX8_firstOf 0 = .ok (.iconst 0, 1) := oc_3 (by decide +kernel)
theorem dX8_firstOf_1 : decode cX8_firstOf 1 = .ok (.istore_n 2, 1) := oc_61 (by decide +kernel)
theorem dX8_firstOf_2 : decode cX8_firstOf 2 = .ok (.iload_n 2, 1) := oc_28 (by decide +kernel)
theorem dX8_firstOf_3 : decode cX8_firstOf 3 = .ok (.aload_n 0, 1) := oc_42 (by decide +kernel)
theorem tw_478 : Cond.fieldLink RX8 21 "RingsUnder$Text" "clauses" "I" ∈ wsL_law := sg_20 _ (List.mem_of_getElem? (i := 22) rfl)
theorem dX8_firstOf_4 : decode cX8_firstOf 4 = .ok (.getfield 21, 3) := oc_180 (a := 0) (b := 21) (by decide +kernel)
theorem dX8_firstOf_7 : decode cX8_firstOf 7 = .ok (.if_icmp .ge 21, 3) := oc_162 (a := 0) (b := 21) (by decide +kernel)
theorem dX8_firstOf_28 : decode cX8_firstOf 28 = .ok (.iconst (-1), 1) := oc_2 (by decide +kernel)
theorem dX8_firstOf_29 : decode cX8_firstOf 29 = .ok (.ireturn, 1) := oc_172 (by decide +kernel)
theorem dX8_firstOf_10 : decode cX8_firstOf 10 = .ok (.aload_n 0, 1) := oc_42 (by decide +kernel)
theorem tw_169 : Cond.fieldLink RX8 9 "RingsUnder$Text" "sorts" "[I" ∈ wsL_law := sg_8 _ (List.mem_of_getElem? (i := 1) rfl)
theorem dX8_firstOf_11 : decode cX8_firstOf 11 = .ok (.getfield 9, 3) := oc_180 (a := 0) (b := 9) (by decide +kernel)
theorem dX8_firstOf_14 : decode cX8_firstOf 14 = .ok (.iload_n 2, 1) := oc_28 (by decide +kernel)
theorem dX8_firstOf_15 : decode cX8_firstOf 15 = .ok (.iaload, 1) := oc_46 (by decide +kernel)
theorem dX8_firstOf_16 : decode cX8_firstOf 16 = .ok (.iload_n 1, 1) := oc_27 (by decide +kernel)
theorem dX8_firstOf_17 : decode cX8_firstOf 17 = .ok (.if_icmp .ne 5, 3) := oc_160 (a := 0) (b := 5) (by decide +kernel)
theorem dX8_firstOf_22 : decode cX8_firstOf 22 = .ok (.iinc 2 1, 3) := oc_132 (b := 1) (by decide +kernel)
theorem dX8_firstOf_25 : decode cX8_firstOf 25 = .ok (.goto (-23), 3) := oc_167 (a := 255) (b := 233) (by decide +kernel)
theorem dX8_firstOf_20 : decode cX8_firstOf 20 = .ok (.iload_n 2, 1) := oc_28 (by decide +kernel)
theorem dX8_firstOf_21 : decode cX8_firstOf 21 = .ok (.ireturn, 1) := oc_172 (by decide +kernel)
theorem dX3_textFor_0 : decode cX3_textFor 0 = .ok (.aload_n 0, 1) := oc_42 (by decide +kernel)
theorem dX3_textFor_1 : decode cX3_textFor 1 = .ok (.getfield 37, 3) := oc_180 (a := 0) (b := 37) (by decide +kernel)
theorem dX3_textFor_4 : decode cX3_textFor 4 = .ok (.iconst 1, 1) := oc_4 (by decide +kernel)
theorem dX3_textFor_5 : decode cX3_textFor 5 = .ok (.isub, 1) := oc_100 (by decide +kernel)
theorem dX3_textFor_6 : decode cX3_textFor 6 = .ok (.istore_n 3, 1) := oc_62 (by decide +kernel)
theorem dX3_textFor_7 : decode cX3_textFor 7 = .ok (.iload_n 3, 1) := oc_29 (by decide +kernel)
theorem dX3_textFor_8 : decode cX3_textFor 8 = .ok (.ifCond .lt 60, 3) := oc_155 (a := 0) (b := 60) (by decide +kernel)
theorem dX3_textFor_68 : decode cX3_textFor 68 = .ok (.aconst_null, 1) := oc_1 (by decide +kernel)
theorem dX3_textFor_69 : decode cX3_textFor 69 = .ok (.areturn, 1) := oc_176 (by decide +kernel)
theorem dX3_textFor_11 : decode cX3_textFor 11 = .ok (.aload_n 0, 1) := oc_42 (by decide +kernel)
theorem dX3_textFor_12 : decode cX3_textFor 12 = .ok (.getfield 21, 3) := oc_180 (a := 0) (b := 21) (by decide +kernel)
theorem dX3_textFor_15 : decode cX3_textFor 15 = .ok (.iload_n 3, 1) := oc_29 (by decide +kernel)
theorem dX3_textFor_16 : decode cX3_textFor 16 = .ok (.iaload, 1) := oc_46 (by decide +kernel)
theorem dX3_textFor_17 : decode cX3_textFor 17 = .ok (.iload_n 2, 1) := oc_28 (by decide +kernel)
theorem dX3_textFor_62 : decode cX3_textFor 62 = .ok (.iinc 3 (-1), 3) := oc_132 (b := 255) (by decide +kernel)
theorem dX3_textFor_65 : decode cX3_textFor 65 = .ok (.goto (-58), 3) := oc_167 (a := 255) (b := 198) (by decide +kernel)
theorem dX3_textFor_18 : decode cX3_textFor 18 = .ok (.if_icmp .gt 44, 3) := oc_163 (a := 0) (b := 44) (by decide +kernel)
theorem dX3_textFor_21 : decode cX3_textFor 21 = .ok (.iload_n 2, 1) := oc_28 (by decide +kernel)
theorem dX3_textFor_22 : decode cX3_textFor 22 = .ok (.aload_n 0, 1) := oc_42 (by decide +kernel)
theorem dX3_textFor_23 : decode cX3_textFor 23 = .ok (.getfield 24, 3) := oc_180 (a := 0) (b := 24) (by decide +kernel)
theorem dX3_textFor_26 : decode cX3_textFor 26 = .ok (.iload_n 3, 1) := oc_29 (by decide +kernel)
theorem dX3_textFor_27 : decode cX3_textFor 27 = .ok (.iaload, 1) := oc_46 (by decide +kernel)
theorem dX3_textFor_28 : decode cX3_textFor 28 = .ok (.if_icmp .gt 34, 3) := oc_163 (a := 0) (b := 34) (by decide +kernel)
theorem dX3_textFor_31 : decode cX3_textFor 31 = .ok (.aload_n 0, 1) := oc_42 (by decide +kernel)
theorem dX3_textFor_32 : decode cX3_textFor 32 = .ok (.getfield 11, 3) := oc_180 (a := 0) (b := 11) (by decide +kernel)
theorem dX3_textFor_35 : decode cX3_textFor 35 = .ok (.aload_n 0, 1) := oc_42 (by decide +kernel)
theorem dX3_textFor_36 : decode cX3_textFor 36 = .ok (.getfield 17, 3) := oc_180 (a := 0) (b := 17) (by decide +kernel)
theorem dX3_textFor_39 : decode cX3_textFor 39 = .ok (.iload_n 3, 1) := oc_29 (by decide +kernel)
theorem dX3_textFor_40 : decode cX3_textFor 40 = .ok (.iaload, 1) := oc_46 (by decide +kernel)
theorem dX3_textFor_41 : decode cX3_textFor 41 = .ok (.aaload, 1) := oc_50 (by decide +kernel)
theorem dX3_textFor_42 : decode cX3_textFor 42 = .ok (.astore 4, 2) := oc_58 (by decide +kernel)
theorem dX3_textFor_44 : decode cX3_textFor 44 = .ok (.aload 4, 2) := oc_25 (by decide +kernel)
theorem dX3_textFor_46 : decode cX3_textFor 46 = .ok (.ifnull 16, 3) := oc_198 (a := 0) (b := 16) (by decide +kernel)
theorem dX3_textFor_49 : decode cX3_textFor 49 = .ok (.aload 4, 2) := oc_25 (by decide +kernel)
theorem dX3_textFor_51 : decode cX3_textFor 51 = .ok (.iload_n 1, 1) := oc_27 (by decide +kernel)
theorem tw_474 : Cond.methodLink RX3 44 yX8_firstOf ∈ wsL_law := sg_20 _ (List.mem_of_getElem? (i := 18) rfl)
theorem tw_475 : Cond.instanceMethod yX8_firstOf ∈ wsL_law := sg_20 _ (List.mem_of_getElem? (i := 19) rfl)
theorem tw_476 : Cond.selects RX8 yX8_firstOf yX8_firstOf ∈ wsL_law := sg_20 _ (List.mem_of_getElem? (i := 20) rfl)
theorem tw_159 : Cond.initialized RX8 ∈ wsL_law := sg_7 _ (List.mem_of_getElem? (i := 15) rfl)
theorem tw_477 : Cond.code yX8_firstOf cX8_firstOf 3 (some .int) ∈ wsL_law := sg_20 _ (List.mem_of_getElem? (i := 21) rfl)
theorem dX3_textFor_52 : decode cX3_textFor 52 = .ok (.invokevirtual 44, 3) := oc_182 (a := 0) (b := 44) (by decide +kernel)
theorem dX3_textFor_55 : decode cX3_textFor 55 = .ok (.iconst (-1), 1) := oc_2 (by decide +kernel)
theorem dX3_textFor_56 : decode cX3_textFor 56 = .ok (.if_icmp .eq 6, 3) := oc_159 (a := 0) (b := 6) (by decide +kernel)
theorem dX3_textFor_59 : decode cX3_textFor 59 = .ok (.aload 4, 2) := oc_25 (by decide +kernel)
theorem dX3_textFor_61 : decode cX3_textFor 61 = .ok (.areturn, 1) := oc_176 (by decide +kernel)
theorem dX8_numberOf_0 : decode cX8_numberOf 0 = .ok (.aload_n 0, 1) := oc_42 (by decide +kernel)
theorem dX8_numberOf_1 : decode cX8_numberOf 1 = .ok (.iload_n 1, 1) := oc_27 (by decide +kernel)
theorem tw_1003 : Cond.methodLink RX8 25 yX8_firstOf ∈ wsL_law := sg_42 _ (List.mem_of_getElem? (i := 19) rfl)
theorem dX8_numberOf_2 : decode cX8_numberOf 2 = .ok (.invokevirtual 25, 3) := oc_182 (a := 0) (b := 25) (by decide +kernel)
theorem dX8_numberOf_5 : decode cX8_numberOf 5 = .ok (.istore_n 3, 1) := oc_62 (by decide +kernel)
theorem dX8_numberOf_6 : decode cX8_numberOf 6 = .ok (.iload_n 3, 1) := oc_29 (by decide +kernel)
theorem dX8_numberOf_7 : decode cX8_numberOf 7 = .ok (.iconst (-1), 1) := oc_2 (by decide +kernel)
theorem dX8_numberOf_8 : decode cX8_numberOf 8 = .ok (.if_icmp .ne 7, 3) := oc_160 (a := 0) (b := 7) (by decide +kernel)
theorem dX8_numberOf_15 : decode cX8_numberOf 15 = .ok (.aload_n 0, 1) := oc_42 (by decide +kernel)
theorem tw_171 : Cond.fieldLink RX8 18 "RingsUnder$Text" "code" "[I" ∈ wsL_law := sg_8 _ (List.mem_of_getElem? (i := 3) rfl)
theorem dX8_numberOf_16 : decode cX8_numberOf 16 = .ok (.getfield 18, 3) := oc_180 (a := 0) (b := 18) (by decide +kernel)
theorem dX8_numberOf_19 : decode cX8_numberOf 19 = .ok (.aload_n 0, 1) := oc_42 (by decide +kernel)
theorem tw_170 : Cond.fieldLink RX8 15 "RingsUnder$Text" "from" "[I" ∈ wsL_law := sg_8 _ (List.mem_of_getElem? (i := 2) rfl)
theorem dX8_numberOf_20 : decode cX8_numberOf 20 = .ok (.getfield 15, 3) := oc_180 (a := 0) (b := 15) (by decide +kernel)
theorem dX8_numberOf_23 : decode cX8_numberOf 23 = .ok (.iload_n 3, 1) := oc_29 (by decide +kernel)
theorem dX8_numberOf_24 : decode cX8_numberOf 24 = .ok (.iaload, 1) := oc_46 (by decide +kernel)
theorem dX8_numberOf_25 : decode cX8_numberOf 25 = .ok (.iaload, 1) := oc_46 (by decide +kernel)
theorem dX8_numberOf_26 : decode cX8_numberOf 26 = .ok (.ireturn, 1) := oc_172 (by decide +kernel)
theorem dX8_numberOf_11 : decode cX8_numberOf 11 = .ok (.iload_n 2, 1) := oc_28 (by decide +kernel)
theorem dX8_numberOf_12 : decode cX8_numberOf 12 = .ok (.goto 14, 3) := oc_167 (a := 0) (b := 14) (by decide +kernel)
theorem dX3_numberIn_0 : decode cX3_numberIn 0 = .ok (.aload_n 0, 1) := oc_42 (by decide +kernel)
theorem dX3_numberIn_1 : decode cX3_numberIn 1 = .ok (.iload_n 1, 1) := oc_27 (by decide +kernel)
theorem dX3_numberIn_2 : decode cX3_numberIn 2 = .ok (.iload_n 2, 1) := oc_28 (by decide +kernel)
theorem tw_469 : Cond.methodLink RX3 52 yX3_textFor ∈ wsL_law := sg_20 _ (List.mem_of_getElem? (i := 13) rfl)
theorem tw_470 : Cond.instanceMethod yX3_textFor ∈ wsL_law := sg_20 _ (List.mem_of_getElem? (i := 14) rfl)
theorem tw_471 : Cond.selects RX3 yX3_textFor yX3_textFor ∈ wsL_law := sg_20 _ (List.mem_of_getElem? (i := 15) rfl)
theorem tw_49 : Cond.initialized RX3 ∈ wsL_law := sg_3 _ (List.mem_of_getElem? (i := 1) rfl)
theorem tw_472 : Cond.code yX3_textFor cX3_textFor 5 (some (.object "RingsUnder$Text")) ∈ wsL_law := sg_20 _ (List.mem_of_getElem? (i := 16) rfl)
theorem dX3_numberIn_3 : decode cX3_numberIn 3 = .ok (.invokevirtual 52, 3) := oc_182 (a := 0) (b := 52) (by decide +kernel)
theorem dX3_numberIn_6 : decode cX3_numberIn 6 = .ok (.astore 4, 2) := oc_58 (by decide +kernel)
theorem dX3_numberIn_8 : decode cX3_numberIn 8 = .ok (.aload 4, 2) := oc_25 (by decide +kernel)
theorem dX3_numberIn_10 : decode cX3_numberIn 10 = .ok (.ifnonnull 7, 3) := oc_199 (a := 0) (b := 7) (by decide +kernel)
theorem dX3_numberIn_13 : decode cX3_numberIn 13 = .ok (.iload_n 3, 1) := oc_29 (by decide +kernel)
theorem dX3_numberIn_14 : decode cX3_numberIn 14 = .ok (.goto 10, 3) := oc_167 (a := 0) (b := 10) (by decide +kernel)
theorem dX3_numberIn_24 : decode cX3_numberIn 24 = .ok (.ireturn, 1) := oc_172 (by decide +kernel)
theorem dX3_numberIn_17 : decode cX3_numberIn 17 = .ok (.aload 4, 2) := oc_25 (by decide +kernel)
theorem dX3_numberIn_19 : decode cX3_numberIn 19 = .ok (.iload_n 1, 1) := oc_27 (by decide +kernel)
theorem dX3_numberIn_20 : decode cX3_numberIn 20 = .ok (.iload_n 3, 1) := oc_29 (by decide +kernel)
theorem tw_999 : Cond.methodLink RX3 56 yX8_numberOf ∈ wsL_law := sg_42 _ (List.mem_of_getElem? (i := 15) rfl)
theorem tw_1000 : Cond.instanceMethod yX8_numberOf ∈ wsL_law := sg_42 _ (List.mem_of_getElem? (i := 16) rfl)
theorem tw_1001 : Cond.selects RX8 yX8_numberOf yX8_numberOf ∈ wsL_law := sg_42 _ (List.mem_of_getElem? (i := 17) rfl)
theorem tw_1002 : Cond.code yX8_numberOf cX8_numberOf 4 (some .int) ∈ wsL_law := sg_42 _ (List.mem_of_getElem? (i := 18) rfl)
theorem dX3_numberIn_21 : decode cX3_numberIn 21 = .ok (.invokevirtual 56, 3) := oc_182 (a := 0) (b := 56) (by decide +kernel)
theorem dX3_councilIn_0 : decode cX3_councilIn 0 = .ok (.aload_n 0, 1) := oc_42 (by decide +kernel)
theorem dX3_councilIn_1 : decode cX3_councilIn 1 = .ok (.bipush 6, 2) := oc_16 (a := 6) (by decide +kernel)
theorem dX3_councilIn_3 : decode cX3_councilIn 3 = .ok (.iload_n 1, 1) := oc_27 (by decide +kernel)
theorem dX3_councilIn_4 : decode cX3_councilIn 4 = .ok (.bipush 50, 2) := oc_16 (a := 50) (by decide +kernel)
theorem tw_995 : Cond.methodLink RX3 48 yX3_numberIn ∈ wsL_law := sg_42 _ (List.mem_of_getElem? (i := 11) rfl)
theorem tw_996 : Cond.instanceMethod yX3_numberIn ∈ wsL_law := sg_42 _ (List.mem_of_getElem? (i := 12) rfl)
theorem tw_997 : Cond.selects RX3 yX3_numberIn yX3_numberIn ∈ wsL_law := sg_42 _ (List.mem_of_getElem? (i := 13) rfl)
theorem tw_998 : Cond.code yX3_numberIn cX3_numberIn 5 (some .int) ∈ wsL_law := sg_42 _ (List.mem_of_getElem? (i := 14) rfl)
theorem dX3_councilIn_6 : decode cX3_councilIn 6 = .ok (.invokevirtual 48, 3) := oc_182 (a := 0) (b := 48) (by decide +kernel)
theorem dX3_councilIn_9 : decode cX3_councilIn 9 = .ok (.ireturn, 1) := oc_172 (by decide +kernel)
theorem dX3_leaveIn_0 : decode cX3_leaveIn 0 = .ok (.aload_n 0, 1) := oc_42 (by decide +kernel)
theorem dX3_leaveIn_1 : decode cX3_leaveIn 1 = .ok (.bipush 8, 2) := oc_16 (a := 8) (by decide +kernel)
theorem dX3_leaveIn_3 : decode cX3_leaveIn 3 = .ok (.iload_n 1, 1) := oc_27 (by decide +kernel)
theorem dX3_leaveIn_4 : decode cX3_leaveIn 4 = .ok (.bipush 10, 2) := oc_16 (a := 10) (by decide +kernel)
theorem dX3_leaveIn_6 : decode cX3_leaveIn 6 = .ok (.invokevirtual 48, 3) := oc_182 (a := 0) (b := 48) (by decide +kernel)
theorem dX3_leaveIn_9 : decode cX3_leaveIn 9 = .ok (.ireturn, 1) := oc_172 (by decide +kernel)
theorem dX3_fixIn_0 : decode cX3_fixIn 0 = .ok (.aload_n 0, 1) := oc_42 (by decide +kernel)
theorem dX3_fixIn_1 : decode cX3_fixIn 1 = .ok (.bipush 7, 2) := oc_16 (a := 7) (by decide +kernel)
theorem dX3_fixIn_3 : decode cX3_fixIn 3 = .ok (.iload_n 1, 1) := oc_27 (by decide +kernel)
theorem dX3_fixIn_4 : decode cX3_fixIn 4 = .ok (.iconst (-1), 1) := oc_2 (by decide +kernel)
theorem dX3_fixIn_5 : decode cX3_fixIn 5 = .ok (.invokevirtual 48, 3) := oc_182 (a := 0) (b := 48) (by decide +kernel)
theorem dX3_fixIn_8 : decode cX3_fixIn 8 = .ok (.ireturn, 1) := oc_172 (by decide +kernel)
theorem dX3_nameAll_0 : decode cX3_nameAll 0 = .ok (.bipush 12, 2) := oc_16 (a := 12) (by decide +kernel)
theorem dX3_nameAll_2 : decode cX3_nameAll 2 = .ok (.istore 5, 2) := oc_54 (by decide +kernel)
theorem dX3_nameAll_4 : decode cX3_nameAll 4 = .ok (.iload 5, 2) := oc_21 (by decide +kernel)
theorem dX3_nameAll_6 : decode cX3_nameAll 6 = .ok (.bipush 17, 2) := oc_16 (a := 17) (by decide +kernel)
theorem dX3_nameAll_8 : decode cX3_nameAll 8 = .ok (.if_icmp .ge 27, 3) := oc_162 (a := 0) (b := 27) (by decide +kernel)
theorem dX3_nameAll_35 : decode cX3_nameAll 35 = .ok (.aload_n 0, 1) := oc_42 (by decide +kernel)
theorem tw_132 : Cond.fieldLink RX3 27 "RingsUnder$Law" "names" "[I" ∈ wsL_law := sg_6 _ (List.mem_of_getElem? (i := 12) rfl)
theorem dX3_nameAll_36 : decode cX3_nameAll 36 = .ok (.getfield 27, 3) := oc_180 (a := 0) (b := 27) (by decide +kernel)
theorem dX3_nameAll_39 : decode cX3_nameAll 39 = .ok (.iconst 5, 1) := oc_8 (by decide +kernel)
theorem dX3_nameAll_40 : decode cX3_nameAll 40 = .ok (.iload 4, 2) := oc_21 (by decide +kernel)
theorem dX3_nameAll_42 : decode cX3_nameAll 42 = .ok (.iastore, 1) := oc_79 (by decide +kernel)
theorem dX3_nameAll_43 : decode cX3_nameAll 43 = .ok (.return_, 1) := oc_177 (by decide +kernel)
theorem dX3_nameAll_11 : decode cX3_nameAll 11 = .ok (.aload_n 0, 1) := oc_42 (by decide +kernel)
theorem dX3_nameAll_12 : decode cX3_nameAll 12 = .ok (.getfield 27, 3) := oc_180 (a := 0) (b := 27) (by decide +kernel)
theorem dX3_nameAll_15 : decode cX3_nameAll 15 = .ok (.iload 5, 2) := oc_21 (by decide +kernel)
theorem dX3_nameAll_17 : decode cX3_nameAll 17 = .ok (.bipush 12, 2) := oc_16 (a := 12) (by decide +kernel)
theorem dX3_nameAll_19 : decode cX3_nameAll 19 = .ok (.isub, 1) := oc_100 (by decide +kernel)
theorem dX3_nameAll_20 : decode cX3_nameAll 20 = .ok (.aload_n 1, 1) := oc_43 (by decide +kernel)
theorem dX3_nameAll_21 : decode cX3_nameAll 21 = .ok (.iload_n 2, 1) := oc_28 (by decide +kernel)
theorem dX3_nameAll_22 : decode cX3_nameAll 22 = .ok (.iload 5, 2) := oc_21 (by decide +kernel)
theorem dX3_nameAll_24 : decode cX3_nameAll 24 = .ok (.iload_n 3, 1) := oc_29 (by decide +kernel)
theorem tw_569 : Cond.methodLink RX3 77 yX0_valueOf ∈ wsL_law := sg_24 _ (List.mem_of_getElem? (i := 17) rfl)
theorem tw_487 : Cond.instanceMethod yX0_valueOf ∈ wsL_law := sg_21 _ (List.mem_of_getElem? (i := 7) rfl)
theorem tw_488 : Cond.selects RX0 yX0_valueOf yX0_valueOf ∈ wsL_law := sg_21 _ (List.mem_of_getElem? (i := 8) rfl)
theorem tw_489 : Cond.code yX0_valueOf cX0_valueOf 4 (some .int) ∈ wsL_law := sg_21 _ (List.mem_of_getElem? (i := 9) rfl)
theorem dX3_nameAll_25 : decode cX3_nameAll 25 = .ok (.invokevirtual 77, 3) := oc_182 (a := 0) (b := 77) (by decide +kernel)
theorem dX3_nameAll_28 : decode cX3_nameAll 28 = .ok (.iastore, 1) := oc_79 (by decide +kernel)
theorem dX3_nameAll_29 : decode cX3_nameAll 29 = .ok (.iinc 5 1, 3) := oc_132 (b := 1) (by decide +kernel)
theorem dX3_nameAll_32 : decode cX3_nameAll 32 = .ok (.goto (-28), 3) := oc_167 (a := 255) (b := 228) (by decide +kernel)
theorem dX8_join_0 : decode cX8_join 0 = .ok (.iload_n 0, 1) := oc_26 (by decide +kernel)
theorem tw_581 : Cond.constantLong RX8 53 (-1000000000) ∈ wsL_law := sg_25 _ (List.mem_of_getElem? (i := 5) rfl)
theorem dX8_join_205 : decode cX8_join 205 = .ok (.ldc2_w 53, 3) := oc_20 (a := 0) (b := 53) (by decide +kernel)
theorem tw_582 : Cond.constantLong RX8 55 (1000000000) ∈ wsL_law := sg_25 _ (List.mem_of_getElem? (i := 6) rfl)
theorem dX8_join_208 : decode cX8_join 208 = .ok (.ldc2_w 55, 3) := oc_20 (a := 0) (b := 55) (by decide +kernel)
theorem dX8_join_211 : decode cX8_join 211 = .ok (.lload_n 3, 1) := oc_33 (by decide +kernel)
theorem tw_583 : Cond.methodLink RX8 57 Lib.MathLoose.min_long.x ∈ wsL_law := sg_25 _ (List.mem_of_getElem? (i := 7) rfl)
theorem tw_584 : Cond.static Lib.MathLoose.min_long.x ∈ wsL_law := sg_25 _ (List.mem_of_getElem? (i := 8) rfl)
theorem tw_585 : Cond.code Lib.MathLoose.min_long.x Lib.MathLoose.min_long.code 4 (some .long) ∈ wsL_law := sg_25 _ (List.mem_of_getElem? (i := 9) rfl)
theorem dX8_join_212 : decode cX8_join 212 = .ok (.invokestatic 57, 3) := oc_184 (a := 0) (b := 57) (by decide +kernel)
theorem tw_586 : Cond.methodLink RX8 61 Lib.MathLoose.max_long.x ∈ wsL_law := sg_25 _ (List.mem_of_getElem? (i := 10) rfl)
theorem tw_587 : Cond.static Lib.MathLoose.max_long.x ∈ wsL_law := sg_25 _ (List.mem_of_getElem? (i := 11) rfl)
theorem tw_588 : Cond.code Lib.MathLoose.max_long.x Lib.MathLoose.max_long.code 4 (some .long) ∈ wsL_law := sg_25 _ (List.mem_of_getElem? (i := 12) rfl)
theorem dX8_join_215 : decode cX8_join 215 = .ok (.invokestatic 61, 3) := oc_184 (a := 0) (b := 61) (by decide +kernel)
theorem dX8_join_218 : decode cX8_join 218 = .ok (.l2i, 1) := oc_136 (by decide +kernel)
theorem dX8_join_219 : decode cX8_join 219 = .ok (.ireturn, 1) := oc_172 (by decide +kernel)
theorem dX8_join_1 : decode cX8_join 1 = .ok (.tableswitch 192 9 27 #[91, 95, 192, 192, 192, 192, 192, 192, 192, 192, 99, 110, 121, 132, 143, 154, 165, 174, 183], 91) := by decide +kernel
theorem dX8_join_92 : decode cX8_join 92 = .ok (.iload_n 1, 1) := oc_27 (by decide +kernel)
theorem dX8_join_93 : decode cX8_join 93 = .ok (.iload_n 2, 1) := oc_28 (by decide +kernel)
theorem dX8_join_94 : decode cX8_join 94 = .ok (.ior, 1) := oc_128 (by decide +kernel)
theorem dX8_join_95 : decode cX8_join 95 = .ok (.ireturn, 1) := oc_172 (by decide +kernel)
theorem dX8_join_96 : decode cX8_join 96 = .ok (.iload_n 1, 1) := oc_27 (by decide +kernel)
theorem dX8_join_97 : decode cX8_join 97 = .ok (.iload_n 2, 1) := oc_28 (by decide +kernel)
theorem dX8_join_98 : decode cX8_join 98 = .ok (.iand, 1) := oc_126 (by decide +kernel)
theorem dX8_join_99 : decode cX8_join 99 = .ok (.ireturn, 1) := oc_172 (by decide +kernel)
theorem dX8_join_193 : decode cX8_join 193 = .ok (.iload_n 2, 1) := oc_28 (by decide +kernel)
theorem dX8_join_194 : decode cX8_join 194 = .ok (.ifCond .ne 7, 3) := oc_154 (a := 0) (b := 7) (by decide +kernel)
theorem dX8_join_201 : decode cX8_join 201 = .ok (.iload_n 1, 1) := oc_27 (by decide +kernel)
theorem dX8_join_202 : decode cX8_join 202 = .ok (.iload_n 2, 1) := oc_28 (by decide +kernel)
theorem dX8_join_203 : decode cX8_join 203 = .ok (.idiv, 1) := oc_108 (by decide +kernel)
theorem dX8_join_204 : decode cX8_join 204 = .ok (.ireturn, 1) := oc_172 (by decide +kernel)
theorem dX8_join_197 : decode cX8_join 197 = .ok (.iconst 0, 1) := oc_3 (by decide +kernel)
theorem dX8_join_198 : decode cX8_join 198 = .ok (.goto 6, 3) := oc_167 (a := 0) (b := 6) (by decide +kernel)
theorem dX8_join_100 : decode cX8_join 100 = .ok (.iload_n 1, 1) := oc_27 (by decide +kernel)
theorem dX8_join_101 : decode cX8_join 101 = .ok (.iload_n 2, 1) := oc_28 (by decide +kernel)
theorem dX8_join_102 : decode cX8_join 102 = .ok (.if_icmp .ge 7, 3) := oc_162 (a := 0) (b := 7) (by decide +kernel)
theorem dX8_join_109 : decode cX8_join 109 = .ok (.iconst 0, 1) := oc_3 (by decide +kernel)
theorem dX8_join_110 : decode cX8_join 110 = .ok (.ireturn, 1) := oc_172 (by decide +kernel)
theorem dX8_join_105 : decode cX8_join 105 = .ok (.iconst 1, 1) := oc_4 (by decide +kernel)
theorem dX8_join_106 : decode cX8_join 106 = .ok (.goto 4, 3) := oc_167 (a := 0) (b := 4) (by decide +kernel)
theorem dX8_join_111 : decode cX8_join 111 = .ok (.iload_n 1, 1) := oc_27 (by decide +kernel)
theorem dX8_join_112 : decode cX8_join 112 = .ok (.iload_n 2, 1) := oc_28 (by decide +kernel)
theorem dX8_join_113 : decode cX8_join 113 = .ok (.if_icmp .gt 7, 3) := oc_163 (a := 0) (b := 7) (by decide +kernel)
theorem dX8_join_120 : decode cX8_join 120 = .ok (.iconst 0, 1) := oc_3 (by decide +kernel)
theorem dX8_join_121 : decode cX8_join 121 = .ok (.ireturn, 1) := oc_172 (by decide +kernel)
theorem dX8_join_116 : decode cX8_join 116 = .ok (.iconst 1, 1) := oc_4 (by decide +kernel)
theorem dX8_join_117 : decode cX8_join 117 = .ok (.goto 4, 3) := oc_167 (a := 0) (b := 4) (by decide +kernel)
theorem dX8_join_122 : decode cX8_join 122 = .ok (.iload_n 1, 1) := oc_27 (by decide +kernel)
theorem dX8_join_123 : decode cX8_join 123 = .ok (.iload_n 2, 1) := oc_28 (by decide +kernel)
theorem dX8_join_124 : decode cX8_join 124 = .ok (.if_icmp .le 7, 3) := oc_164 (a := 0) (b := 7) (by decide +kernel)
theorem dX8_join_131 : decode cX8_join 131 = .ok (.iconst 0, 1) := oc_3 (by decide +kernel)
theorem dX8_join_132 : decode cX8_join 132 = .ok (.ireturn, 1) := oc_172 (by decide +kernel)
theorem dX8_join_127 : decode cX8_join 127 = .ok (.iconst 1, 1) := oc_4 (by decide +kernel)
theorem dX8_join_128 : decode cX8_join 128 = .ok (.goto 4, 3) := oc_167 (a := 0) (b := 4) (by decide +kernel)
theorem dX8_join_133 : decode cX8_join 133 = .ok (.iload_n 1, 1) := oc_27 (by decide +kernel)
theorem dX8_join_134 : decode cX8_join 134 = .ok (.iload_n 2, 1) := oc_28 (by decide +kernel)
theorem dX8_join_135 : decode cX8_join 135 = .ok (.if_icmp .lt 7, 3) := oc_161 (a := 0) (b := 7) (by decide +kernel)
theorem dX8_join_142 : decode cX8_join 142 = .ok (.iconst 0, 1) := oc_3 (by decide +kernel)
theorem dX8_join_143 : decode cX8_join 143 = .ok (.ireturn, 1) := oc_172 (by decide +kernel)
theorem dX8_join_138 : decode cX8_join 138 = .ok (.iconst 1, 1) := oc_4 (by decide +kernel)
theorem dX8_join_139 : decode cX8_join 139 = .ok (.goto 4, 3) := oc_167 (a := 0) (b := 4) (by decide +kernel)
theorem dX8_join_144 : decode cX8_join 144 = .ok (.iload_n 1, 1) := oc_27 (by decide +kernel)
theorem dX8_join_145 : decode cX8_join 145 = .ok (.iload_n 2, 1) := oc_28 (by decide +kernel)
theorem dX8_join_146 : decode cX8_join 146 = .ok (.if_icmp .ne 7, 3) := oc_160 (a := 0) (b := 7) (by decide +kernel)
theorem dX8_join_153 : decode cX8_join 153 = .ok (.iconst 0, 1) := oc_3 (by decide +kernel)
theorem dX8_join_154 : decode cX8_join 154 = .ok (.ireturn, 1) := oc_172 (by decide +kernel)
theorem dX8_join_149 : decode cX8_join 149 = .ok (.iconst 1, 1) := oc_4 (by decide +kernel)
theorem dX8_join_150 : decode cX8_join 150 = .ok (.goto 4, 3) := oc_167 (a := 0) (b := 4) (by decide +kernel)
theorem dX8_join_155 : decode cX8_join 155 = .ok (.iload_n 1, 1) := oc_27 (by decide +kernel)
theorem dX8_join_156 : decode cX8_join 156 = .ok (.iload_n 2, 1) := oc_28 (by decide +kernel)
theorem dX8_join_157 : decode cX8_join 157 = .ok (.if_icmp .eq 7, 3) := oc_159 (a := 0) (b := 7) (by decide +kernel)
theorem dX8_join_164 : decode cX8_join 164 = .ok (.iconst 0, 1) := oc_3 (by decide +kernel)
theorem dX8_join_165 : decode cX8_join 165 = .ok (.ireturn, 1) := oc_172 (by decide +kernel)
theorem dX8_join_160 : decode cX8_join 160 = .ok (.iconst 1, 1) := oc_4 (by decide +kernel)
theorem dX8_join_161 : decode cX8_join 161 = .ok (.goto 4, 3) := oc_167 (a := 0) (b := 4) (by decide +kernel)
theorem dX8_join_166 : decode cX8_join 166 = .ok (.iload_n 1, 1) := oc_27 (by decide +kernel)
theorem dX8_join_167 : decode cX8_join 167 = .ok (.i2l, 1) := oc_133 (by decide +kernel)
theorem dX8_join_168 : decode cX8_join 168 = .ok (.iload_n 2, 1) := oc_28 (by decide +kernel)
theorem dX8_join_169 : decode cX8_join 169 = .ok (.i2l, 1) := oc_133 (by decide +kernel)
theorem dX8_join_170 : decode cX8_join 170 = .ok (.ladd, 1) := oc_97 (by decide +kernel)
theorem dX8_join_171 : decode cX8_join 171 = .ok (.lstore_n 3, 1) := oc_66 (by decide +kernel)
theorem dX8_join_172 : decode cX8_join 172 = .ok (.goto 33, 3) := oc_167 (a := 0) (b := 33) (by decide +kernel)
theorem dX8_join_175 : decode cX8_join 175 = .ok (.iload_n 1, 1) := oc_27 (by decide +kernel)
theorem dX8_join_176 : decode cX8_join 176 = .ok (.i2l, 1) := oc_133 (by decide +kernel)
theorem dX8_join_177 : decode cX8_join 177 = .ok (.iload_n 2, 1) := oc_28 (by decide +kernel)
theorem dX8_join_178 : decode cX8_join 178 = .ok (.i2l, 1) := oc_133 (by decide +kernel)
theorem dX8_join_179 : decode cX8_join 179 = .ok (.lsub, 1) := oc_101 (by decide +kernel)
theorem dX8_join_180 : decode cX8_join 180 = .ok (.lstore_n 3, 1) := oc_66 (by decide +kernel)
theorem dX8_join_181 : decode cX8_join 181 = .ok (.goto 24, 3) := oc_167 (a := 0) (b := 24) (by decide +kernel)
theorem dX8_join_184 : decode cX8_join 184 = .ok (.iload_n 1, 1) := oc_27 (by decide +kernel)
theorem dX8_join_185 : decode cX8_join 185 = .ok (.i2l, 1) := oc_133 (by decide +kernel)
theorem dX8_join_186 : decode cX8_join 186 = .ok (.iload_n 2, 1) := oc_28 (by decide +kernel)
theorem dX8_join_187 : decode cX8_join 187 = .ok (.i2l, 1) := oc_133 (by decide +kernel)
theorem dX8_join_188 : decode cX8_join 188 = .ok (.lmul, 1) := oc_105 (by decide +kernel)
theorem dX8_join_189 : decode cX8_join 189 = .ok (.lstore_n 3, 1) := oc_66 (by decide +kernel)
theorem dX8_join_190 : decode cX8_join 190 = .ok (.goto 15, 3) := oc_167 (a := 0) (b := 15) (by decide +kernel)
set_option maxHeartbeats 4000000 in
set_option maxRecDepth 100000 in
theorem s_X11_copy_99_99 (l : Launch) (D : va_G) (t : pq_T) (σ : pq_S) (I : Nat → Nat → Int32) (J : Nat → Nat → Int64) (ri : Nat → Nat → Int32) (rj : Nat → Nat → Int64) (rq : Nat → Nat → Option Nat) (sz : Nat) (tg : Nat → Nat) (hSH : SH σ tg) (hG0 : GS tg σ I ri rq) (a0 : Nat) (a1 : Nat) (hL_a0 : a0 ∈ σ.1) (hK_a0 : σ.2.1 a0 = 13) (hN_a0 : σ.2.2.2 a0 = 30) (hT_a0 : tg a0 = 99) (hL_a1 : a1 ∈ σ.1) (hK_a1 : σ.2.1 a1 = 13) (hN_a1 : σ.2.2.2 a1 = 30) (hT_a1 : tg a1 = 99) : MetV l yX11_copy (wa yX11_copy cX11_copy 2 none) ({ frames := 1, cells := 0, slots := 0, locals := 60 }) [.ref a0, .ref a1] D t σ (I, J, ri, rj, rq) sz 0 0 (fun (u : pq_S × pq_M) => ∃ ri' : Nat → Nat → Int32, u = (σ, I, J, ri', rj, rq) ∧ GX [] tg σ I ri rj I ri' rj rq ∧ (∀ j, j < 30 → ri' a1 j = ri a0 j) ∧ (∀ q, q ≠ a1 → ri' q = ri q) ∧ (ri' = va_up ri a1 (va_cpy (ri a0) (ri a1) 0 0 30))) := by
  refine Met.ofW (cc := cX11_copy) (maxL := 2) (ret := none) (by decide +kernel) rfl ?_
  intro p e s m args below meth c s₁ B hml hv
  obtain ⟨rfl, hsz, hP, hK, hD0, hN⟩ := hv
  have hx := B.exec
  have hb := B.bytes
  have hr := B.returns
  have hts := atoms_spec (ws := (wa yX11_copy cX11_copy 2 none)) B.pre
  have hown : s.vm.findClass RX11 = some m.cls := findClass_of_methodNamed B.named
  have hlocks := B.notSynchronized
  subst hsz
  have hD : va_D (pq_B t σ (I, J, ri, rj, rq) s.heap.size) (pq_P t σ (I, J, ri, rj, rq)) := hD0.self
  generalize hAe : pq_B t σ (I, J, ri, rj, rq) s.heap.size = A at hD ⊢
  have hA : ∀ q : Nat, s.heap.size ≤ q → A q := fun q h => by rw [← hAe]; exact Or.inr h
  have hS : va_S A s.heap s.heap [] := va_S.rf
  have hG : GX [] tg σ I ri rj I ri rj rq := ⟨hG0, fun _ _ _ => rfl, fun _ _ _ _ _ => rfl, fun _ _ _ _ _ => rfl⟩
  have hl := lv_entry ([.ref a0, .ref a1]) (n := 2) (Nat.le_of_ble_eq_true rfl)
  rw [lg_entry_eq]
  generalize (lg_sl ([.ref a0, .ref a1]) ++ List.replicate (2 - (lg_sl ([.ref a0, .ref a1])).length) Slot.unset).toArray = ls at hl ⊢
  have hl : lv_has ls 2 [(0, .ref a0), (1, .ref a1)] := hl
  refine q_gen (fun Q hQ => ?_)
  have go : ∀ (H : Heap) (locs : List Loc) (ls : Array Slot), va_P D vwCl (pq_P t σ (I, J, ri, rj, rq)) H → va_D A (pq_P t σ (I, J, ri, rj, rq)) → va_S A s.heap H locs → lv_has ls 2 [(0, .ref a0), (1, .ref a1)] → W p l e ({ frames := 1, cells := 0, slots := 0, locals := 60 } : Room) s m (List.toArray ([.ref a0, .ref a1] : List Value)) below meth c H locs 0 0 Q (F0 m 0 ls []) := by
    intro H locs ls hP hD hS hl
    refine lv_aload_n hx hb dX11_copy_0 rfl (lv_at hl 0 rfl) ?_
    refine lv_iconst (v := 0) hx hb dX11_copy_1 (by decide +kernel) ?_
    refine lv_aload_n hx hb dX11_copy_2 rfl (lv_at hl 1 rfl) ?_
    refine lv_iconst (v := 0) hx hb dX11_copy_3 (by decide +kernel) ?_
    refine lv_aload_n hx hb dX11_copy_4 rfl (lv_at hl 0 rfl) ?_
    refine pn_i (v := 30) hx hb hK hP hL_a0 hK_a0 hN_a0 (by decide +kernel) dX11_copy_5 ?_
    refine lv_aload_n hx hb dX11_copy_6 rfl (lv_at hl 1 rfl) ?_
    refine pn_i (v := 30) hx hb hK hP hL_a1 hK_a1 hN_a1 (by decide +kernel) dX11_copy_7 ?_
    refine va_mmin hx hb (hml.trans hl.1.symm) hown (hts _ (tw_c tw_1103)) (hts _ (tw_c tw_467)) (hts _ (tw_c tw_276)) (hts _ (tw_c tw_468)) (Nat.le_of_ble_eq_true rfl) (Nat.le_of_ble_eq_true rfl) (Nat.zero_le _) (Nat.zero_le _) dX11_copy_8 ?_
    refine lv_topi (fun x_1 ex_1 => ?_)
    have h_2 : rg x_1 30 30 := rg_of_eq ex_1 (rg_min2 (rg_k (30 : Int32) 30 rfl) (rg_k (30 : Int32) 30 rfl) (by decide +kernel))
    refine pc_i hx hb (hml.trans hl.1.symm) hown (hts _ (tw_c tw_1104)) (hts _ (tw_c tw_1105)) (hts _ (tw_c tw_1106)) (hts _ (tw_c tw_1107)) hK hP hD hS hL_a0 hK_a0 hN_a0 hL_a1 hK_a1 hN_a1 (rg_pos (rg_k (0 : Int32) 0 rfl) (by decide +kernel)) (rg_pos h_2 (by decide +kernel)) (rg_cp (rg_k (0 : Int32) 0 rfl) h_2 (by decide +kernel)) (rg_cl h_2 (by decide +kernel)) (Nat.le_of_ble_eq_true rfl) (Nat.le_of_ble_eq_true rfl) dX11_copy_11 (fun r_3 H locs er_3 hP hD hS => ?_)
    have hG := GX.cR hG hSH hT_a0 rfl hT_a1 rfl er_3 (by decide +kernel)
    subst hQ
    exact W.vret hx hb hr (fun t1 ht hW => ⟨⟨(σ, I, J, r_3, rj, rq), rfl, ⟨r_3, rfl, hG, (cpy_eq er_3 h_2 rfl), (fun q hq => by rw [er_3, va_up_ne _ _ hq]), (by rw [er_3, show (x_1).toNatClampNeg = 30 from by have z_i := clampE x_1; have z_r := h_2; have z_1 := z_r.1; have z_2 := z_r.2; omega]; rfl)⟩, by rw [ht]; exact hP, va_K.moved hW.alike hK, hD⟩, hS.F ht⟩) hS.2.2 dX11_copy_14
  exact go _ _ _ hP hD hS hl

set_option maxHeartbeats 4000000 in
set_option maxRecDepth 100000 in
theorem s_X11_copy_100_100 (l : Launch) (D : va_G) (t : pq_T) (σ : pq_S) (I : Nat → Nat → Int32) (J : Nat → Nat → Int64) (ri : Nat → Nat → Int32) (rj : Nat → Nat → Int64) (rq : Nat → Nat → Option Nat) (sz : Nat) (tg : Nat → Nat) (hSH : SH σ tg) (hG0 : GS tg σ I ri rq) (a0 : Nat) (a1 : Nat) (hL_a0 : a0 ∈ σ.1) (hK_a0 : σ.2.1 a0 = 13) (hN_a0 : σ.2.2.2 a0 = 30) (hT_a0 : tg a0 = 100) (hL_a1 : a1 ∈ σ.1) (hK_a1 : σ.2.1 a1 = 13) (hN_a1 : σ.2.2.2 a1 = 30) (hT_a1 : tg a1 = 100) : MetV l yX11_copy (wa yX11_copy cX11_copy 2 none) ({ frames := 1, cells := 0, slots := 0, locals := 60 }) [.ref a0, .ref a1] D t σ (I, J, ri, rj, rq) sz 0 0 (fun (u : pq_S × pq_M) => ∃ ri' : Nat → Nat → Int32, u = (σ, I, J, ri', rj, rq) ∧ GX [] tg σ I ri rj I ri' rj rq ∧ (∀ j, j < 30 → ri' a1 j = ri a0 j) ∧ (∀ q, q ≠ a1 → ri' q = ri q) ∧ (ri' = va_up ri a1 (va_cpy (ri a0) (ri a1) 0 0 30))) := by
  refine Met.ofW (cc := cX11_copy) (maxL := 2) (ret := none) (by decide +kernel) rfl ?_
  intro p e s m args below meth c s₁ B hml hv
  obtain ⟨rfl, hsz, hP, hK, hD0, hN⟩ := hv
  have hx := B.exec
  have hb := B.bytes
  have hr := B.returns
  have hts := atoms_spec (ws := (wa yX11_copy cX11_copy 2 none)) B.pre
  have hown : s.vm.findClass RX11 = some m.cls := findClass_of_methodNamed B.named
  have hlocks := B.notSynchronized
  subst hsz
  have hD : va_D (pq_B t σ (I, J, ri, rj, rq) s.heap.size) (pq_P t σ (I, J, ri, rj, rq)) := hD0.self
  generalize hAe : pq_B t σ (I, J, ri, rj, rq) s.heap.size = A at hD ⊢
  have hA : ∀ q : Nat, s.heap.size ≤ q → A q := fun q h => by rw [← hAe]; exact Or.inr h
  have hS : va_S A s.heap s.heap [] := va_S.rf
  have hG : GX [] tg σ I ri rj I ri rj rq := ⟨hG0, fun _ _ _ => rfl, fun _ _ _ _ _ => rfl, fun _ _ _ _ _ => rfl⟩
  have hl := lv_entry ([.ref a0, .ref a1]) (n := 2) (Nat.le_of_ble_eq_true rfl)
  rw [lg_entry_eq]
  generalize (lg_sl ([.ref a0, .ref a1]) ++ List.replicate (2 - (lg_sl ([.ref a0, .ref a1])).length) Slot.unset).toArray = ls at hl ⊢
  have hl : lv_has ls 2 [(0, .ref a0), (1, .ref a1)] := hl
  refine q_gen (fun Q hQ => ?_)
  have go : ∀ (H : Heap) (locs : List Loc) (ls : Array Slot), va_P D vwCl (pq_P t σ (I, J, ri, rj, rq)) H → va_D A (pq_P t σ (I, J, ri, rj, rq)) → va_S A s.heap H locs → lv_has ls 2 [(0, .ref a0), (1, .ref a1)] → W p l e ({ frames := 1, cells := 0, slots := 0, locals := 60 } : Room) s m (List.toArray ([.ref a0, .ref a1] : List Value)) below meth c H locs 0 0 Q (F0 m 0 ls []) := by
    intro H locs ls hP hD hS hl
    refine lv_aload_n hx hb dX11_copy_0 rfl (lv_at hl 0 rfl) ?_
    refine lv_iconst (v := 0) hx hb dX11_copy_1 (by decide +kernel) ?_
    refine lv_aload_n hx hb dX11_copy_2 rfl (lv_at hl 1 rfl) ?_
    refine lv_iconst (v := 0) hx hb dX11_copy_3 (by decide +kernel) ?_
    refine lv_aload_n hx hb dX11_copy_4 rfl (lv_at hl 0 rfl) ?_
    refine pn_i (v := 30) hx hb hK hP hL_a0 hK_a0 hN_a0 (by decide +kernel) dX11_copy_5 ?_
    refine lv_aload_n hx hb dX11_copy_6 rfl (lv_at hl 1 rfl) ?_
    refine pn_i (v := 30) hx hb hK hP hL_a1 hK_a1 hN_a1 (by decide +kernel) dX11_copy_7 ?_
    refine va_mmin hx hb (hml.trans hl.1.symm) hown (hts _ (tw_c tw_1103)) (hts _ (tw_c tw_467)) (hts _ (tw_c tw_276)) (hts _ (tw_c tw_468)) (Nat.le_of_ble_eq_true rfl) (Nat.le_of_ble_eq_true rfl) (Nat.zero_le _) (Nat.zero_le _) dX11_copy_8 ?_
    refine lv_topi (fun x_1 ex_1 => ?_)
    have h_2 : rg x_1 30 30 := rg_of_eq ex_1 (rg_min2 (rg_k (30 : Int32) 30 rfl) (rg_k (30 : Int32) 30 rfl) (by decide +kernel))
    refine pc_i hx hb (hml.trans hl.1.symm) hown (hts _ (tw_c tw_1104)) (hts _ (tw_c tw_1105)) (hts _ (tw_c tw_1106)) (hts _ (tw_c tw_1107)) hK hP hD hS hL_a0 hK_a0 hN_a0 hL_a1 hK_a1 hN_a1 (rg_pos (rg_k (0 : Int32) 0 rfl) (by decide +kernel)) (rg_pos h_2 (by decide +kernel)) (rg_cp (rg_k (0 : Int32) 0 rfl) h_2 (by decide +kernel)) (rg_cl h_2 (by decide +kernel)) (Nat.le_of_ble_eq_true rfl) (Nat.le_of_ble_eq_true rfl) dX11_copy_11 (fun r_3 H locs er_3 hP hD hS => ?_)
    have hG := GX.cR hG hSH hT_a0 rfl hT_a1 rfl er_3 (by decide +kernel)
    subst hQ
    exact W.vret hx hb hr (fun t1 ht hW => ⟨⟨(σ, I, J, r_3, rj, rq), rfl, ⟨r_3, rfl, hG, (cpy_eq er_3 h_2 rfl), (fun q hq => by rw [er_3, va_up_ne _ _ hq]), (by rw [er_3, show (x_1).toNatClampNeg = 30 from by have z_i := clampE x_1; have z_r := h_2; have z_1 := z_r.1; have z_2 := z_r.2; omega]; rfl)⟩, by rw [ht]; exact hP, va_K.moved hW.alike hK, hD⟩, hS.F ht⟩) hS.2.2 dX11_copy_14
  exact go _ _ _ hP hD hS hl

set_option maxHeartbeats 4000000 in
set_option maxRecDepth 100000 in
theorem s_X11_copy_101_101 (l : Launch) (D : va_G) (t : pq_T) (σ : pq_S) (I : Nat → Nat → Int32) (J : Nat → Nat → Int64) (ri : Nat → Nat → Int32) (rj : Nat → Nat → Int64) (rq : Nat → Nat → Option Nat) (sz : Nat) (tg : Nat → Nat) (hSH : SH σ tg) (hG0 : GS tg σ I ri rq) (a0 : Nat) (a1 : Nat) (hL_a0 : a0 ∈ σ.1) (hK_a0 : σ.2.1 a0 = 13) (hN_a0 : σ.2.2.2 a0 = 30) (hT_a0 : tg a0 = 101) (hL_a1 : a1 ∈ σ.1) (hK_a1 : σ.2.1 a1 = 13) (hN_a1 : σ.2.2.2 a1 = 30) (hT_a1 : tg a1 = 101) : MetV l yX11_copy (wa yX11_copy cX11_copy 2 none) ({ frames := 1, cells := 0, slots := 0, locals := 60 }) [.ref a0, .ref a1] D t σ (I, J, ri, rj, rq) sz 0 0 (fun (u : pq_S × pq_M) => ∃ ri' : Nat → Nat → Int32, u = (σ, I, J, ri', rj, rq) ∧ GX [] tg σ I ri rj I ri' rj rq ∧ (∀ j, j < 30 → ri' a1 j = ri a0 j) ∧ (∀ q, q ≠ a1 → ri' q = ri q) ∧ (ri' = va_up ri a1 (va_cpy (ri a0) (ri a1) 0 0 30))) := by
  refine Met.ofW (cc := cX11_copy) (maxL := 2) (ret := none) (by decide +kernel) rfl ?_
  intro p e s m args below meth c s₁ B hml hv
  obtain ⟨rfl, hsz, hP, hK, hD0, hN⟩ := hv
  have hx := B.exec
  have hb := B.bytes
  have hr := B.returns
  have hts := atoms_spec (ws := (wa yX11_copy cX11_copy 2 none)) B.pre
  have hown : s.vm.findClass RX11 = some m.cls := findClass_of_methodNamed B.named
  have hlocks := B.notSynchronized
  subst hsz
  have hD : va_D (pq_B t σ (I, J, ri, rj, rq) s.heap.size) (pq_P t σ (I, J, ri, rj, rq)) := hD0.self
  generalize hAe : pq_B t σ (I, J, ri, rj, rq) s.heap.size = A at hD ⊢
  have hA : ∀ q : Nat, s.heap.size ≤ q → A q := fun q h => by rw [← hAe]; exact Or.inr h
  have hS : va_S A s.heap s.heap [] := va_S.rf
  have hG : GX [] tg σ I ri rj I ri rj rq := ⟨hG0, fun _ _ _ => rfl, fun _ _ _ _ _ => rfl, fun _ _ _ _ _ => rfl⟩
  have hl := lv_entry ([.ref a0, .ref a1]) (n := 2) (Nat.le_of_ble_eq_true rfl)
  rw [lg_entry_eq]
  generalize (lg_sl ([.ref a0, .ref a1]) ++ List.replicate (2 - (lg_sl ([.ref a0, .ref a1])).length) Slot.unset).toArray = ls at hl ⊢
  have hl : lv_has ls 2 [(0, .ref a0), (1, .ref a1)] := hl
  refine q_gen (fun Q hQ => ?_)
  have go : ∀ (H : Heap) (locs : List Loc) (ls : Array Slot), va_P D vwCl (pq_P t σ (I, J, ri, rj, rq)) H → va_D A (pq_P t σ (I, J, ri, rj, rq)) → va_S A s.heap H locs → lv_has ls 2 [(0, .ref a0), (1, .ref a1)] → W p l e ({ frames := 1, cells := 0, slots := 0, locals := 60 } : Room) s m (List.toArray ([.ref a0, .ref a1] : List Value)) below meth c H locs 0 0 Q (F0 m 0 ls []) := by
    intro H locs ls hP hD hS hl
    refine lv_aload_n hx hb dX11_copy_0 rfl (lv_at hl 0 rfl) ?_
    refine lv_iconst (v := 0) hx hb dX11_copy_1 (by decide +kernel) ?_
    refine lv_aload_n hx hb dX11_copy_2 rfl (lv_at hl 1 rfl) ?_
    refine lv_iconst (v := 0) hx hb dX11_copy_3 (by decide +kernel) ?_
    refine lv_aload_n hx hb dX11_copy_4 rfl (lv_at hl 0 rfl) ?_
    refine pn_i (v := 30) hx hb hK hP hL_a0 hK_a0 hN_a0 (by decide +kernel) dX11_copy_5 ?_
    refine lv_aload_n hx hb dX11_copy_6 rfl (lv_at hl 1 rfl) ?_
    refine pn_i (v := 30) hx hb hK hP hL_a1 hK_a1 hN_a1 (by decide +kernel) dX11_copy_7 ?_
    refine va_mmin hx hb (hml.trans hl.1.symm) hown (hts _ (tw_c tw_1103)) (hts _ (tw_c tw_467)) (hts _ (tw_c tw_276)) (hts _ (tw_c tw_468)) (Nat.le_of_ble_eq_true rfl) (Nat.le_of_ble_eq_true rfl) (Nat.zero_le _) (Nat.zero_le _) dX11_copy_8 ?_
    refine lv_topi (fun x_1 ex_1 => ?_)
    have h_2 : rg x_1 30 30 := rg_of_eq ex_1 (rg_min2 (rg_k (30 : Int32) 30 rfl) (rg_k (30 : Int32) 30 rfl) (by decide +kernel))
    refine pc_i hx hb (hml.trans hl.1.symm) hown (hts _ (tw_c tw_1104)) (hts _ (tw_c tw_1105)) (hts _ (tw_c tw_1106)) (hts _ (tw_c tw_1107)) hK hP hD hS hL_a0 hK_a0 hN_a0 hL_a1 hK_a1 hN_a1 (rg_pos (rg_k (0 : Int32) 0 rfl) (by decide +kernel)) (rg_pos h_2 (by decide +kernel)) (rg_cp (rg_k (0 : Int32) 0 rfl) h_2 (by decide +kernel)) (rg_cl h_2 (by decide +kernel)) (Nat.le_of_ble_eq_true rfl) (Nat.le_of_ble_eq_true rfl) dX11_copy_11 (fun r_3 H locs er_3 hP hD hS => ?_)
    have hG := GX.cR hG hSH hT_a0 rfl hT_a1 rfl er_3 (by decide +kernel)
    subst hQ
    exact W.vret hx hb hr (fun t1 ht hW => ⟨⟨(σ, I, J, r_3, rj, rq), rfl, ⟨r_3, rfl, hG, (cpy_eq er_3 h_2 rfl), (fun q hq => by rw [er_3, va_up_ne _ _ hq]), (by rw [er_3, show (x_1).toNatClampNeg = 30 from by have z_i := clampE x_1; have z_r := h_2; have z_1 := z_r.1; have z_2 := z_r.2; omega]; rfl)⟩, by rw [ht]; exact hP, va_K.moved hW.alike hK, hD⟩, hS.F ht⟩) hS.2.2 dX11_copy_14
  exact go _ _ _ hP hD hS hl

set_option maxRecDepth 100000 in
def g_X3_copyFrom_L10 (J : Nat → Int64) (ri : Nat → Nat → Int32) (rj : Nat → Nat → Int64) (nI : Nat → Int32) (I_3 : Nat → Int32) (nQ : Nat → Nat → Option Nat) (nR : Nat → Nat → Int32) : Nat → (Int32) → (Nat → Nat → Option Nat) → vM
  | 0, x_180, rq_181 => (I_3, J, ri, rj, rq_181)
  | n_238 + 1, x_180, rq_181 => (if (10 : Int32) ≤ x_180 then (ap1 (nI 98) fun (y_248 : Int32) => (ap1 (va_up I_3 98 (y_248)) fun (I_249 : Nat → Int32) => (ap1 (va_up ri 99 (va_cpy (nR 99) (ri 99) 0 0 30)) fun (ri_254 : Nat → Nat → Int32) => (ap1 (va_up ri_254 100 (va_cpy (nR 100) (ri_254 100) 0 0 30)) fun (ri_267 : Nat → Nat → Int32) => (ap1 (va_up ri_267 101 (va_cpy (nR 101) (ri_267 101) 0 0 30)) fun (ri_280 : Nat → Nat → Int32) => (I_249, J, ri_280, rj, rq_181)))))) else (opt1 (nQ 97 (x_180).toNatClampNeg) (ap1 (va_up rq_181 97 (va_up (rq_181 97) (x_180).toNatClampNeg none)) fun (rq_293 : Nat → Nat → Option Nat) => (ap1 (x_180 + Int32.ofInt 1) fun (x_294 : Int32) => ((g_X3_copyFrom_L10 J ri rj nI I_3 nQ nR n_238) x_294 rq_293))) fun (w_x_292 : Nat) => (ap1 (va_up rq_181 97 (va_up (rq_181 97) (x_180).toNatClampNeg (some w_x_292))) fun (rq_296 : Nat → Nat → Option Nat) => (ap1 (x_180 + Int32.ofInt 1) fun (x_297 : Int32) => ((g_X3_copyFrom_L10 J ri rj nI I_3 nQ nR n_238) x_297 rq_296)))))
set_option maxRecDepth 100000 in
theorem g_X3_copyFrom_L10_e {J : Nat → Int64} {ri : Nat → Nat → Int32} {rj : Nat → Nat → Int64} {nI : Nat → Int32} {I_3 : Nat → Int32} {nQ : Nat → Nat → Option Nat} {nR : Nat → Nat → Int32} {n_238 : Nat} {x_180 : Int32} {rq_181 : Nat → Nat → Option Nat} : g_X3_copyFrom_L10 J ri rj nI I_3 nQ nR (n_238 + 1) x_180 rq_181 = (if (10 : Int32) ≤ x_180 then (ap1 (nI 98) fun (y_248 : Int32) => (ap1 (va_up I_3 98 (y_248)) fun (I_249 : Nat → Int32) => (ap1 (va_up ri 99 (va_cpy (nR 99) (ri 99) 0 0 30)) fun (ri_254 : Nat → Nat → Int32) => (ap1 (va_up ri_254 100 (va_cpy (nR 100) (ri_254 100) 0 0 30)) fun (ri_267 : Nat → Nat → Int32) => (ap1 (va_up ri_267 101 (va_cpy (nR 101) (ri_267 101) 0 0 30)) fun (ri_280 : Nat → Nat → Int32) => (I_249, J, ri_280, rj, rq_181)))))) else (opt1 (nQ 97 (x_180).toNatClampNeg) (ap1 (va_up rq_181 97 (va_up (rq_181 97) (x_180).toNatClampNeg none)) fun (rq_293 : Nat → Nat → Option Nat) => (ap1 (x_180 + Int32.ofInt 1) fun (x_294 : Int32) => ((g_X3_copyFrom_L10 J ri rj nI I_3 nQ nR n_238) x_294 rq_293))) fun (w_x_292 : Nat) => (ap1 (va_up rq_181 97 (va_up (rq_181 97) (x_180).toNatClampNeg (some w_x_292))) fun (rq_296 : Nat → Nat → Option Nat) => (ap1 (x_180 + Int32.ofInt 1) fun (x_297 : Int32) => ((g_X3_copyFrom_L10 J ri rj nI I_3 nQ nR n_238) x_297 rq_296))))) := rfl
set_option maxRecDepth 100000 in
def g_X3_copyFrom (nI : Nat → Int32) (nR : Nat → Nat → Int32) (nQ : Nat → Nat → Option Nat) (I : Nat → Int32) (J : Nat → Int64) (ri : Nat → Nat → Int32) (rj : Nat → Nat → Int64) (rq : Nat → Nat → Option Nat) : vM := (ap1 (nI 96) fun (y_2 : Int32) => (ap1 (va_up I 96 (y_2)) fun (I_3 : Nat → Int32) => (g_X3_copyFrom_L10 J ri rj nI I_3 nQ nR ((10 - ((0 : Int32)).toInt).toNat + 1) (0 : Int32) rq)))
set_option maxRecDepth 100000 in
theorem g_X3_copyFrom_e {nI : Nat → Int32} {nR : Nat → Nat → Int32} {nQ : Nat → Nat → Option Nat} {I : Nat → Int32} {J : Nat → Int64} {ri : Nat → Nat → Int32} {rj : Nat → Nat → Int64} {rq : Nat → Nat → Option Nat} : g_X3_copyFrom nI nR nQ I J ri rj rq = (ap1 (nI 96) fun (y_2 : Int32) => (ap1 (va_up I 96 (y_2)) fun (I_3 : Nat → Int32) => (g_X3_copyFrom_L10 J ri rj nI I_3 nQ nR ((10 - ((0 : Int32)).toInt).toNat + 1) (0 : Int32) rq))) := rfl
set_option maxHeartbeats 4000000 in
set_option maxRecDepth 100000 in
theorem s_X3_copyFrom (l : Launch) (D : va_G) (t : pq_T) (σ : pq_S) (I : Nat → Nat → Int32) (J : Nat → Nat → Int64) (ri : Nat → Nat → Int32) (rj : Nat → Nat → Int64) (rq : Nat → Nat → Option Nat) (sz : Nat) (tg : Nat → Nat) (hSH : SH σ tg) (hG0 : GS tg σ I ri rq) (this : Nat) (a0 : Nat) (hL_this : this ∈ σ.1) (hK_this : σ.2.1 this = 3) (hL_a0 : a0 ∈ σ.1) (hK_a0 : σ.2.1 a0 = 3) (M : Nat) (hL_M : M ∈ σ.1) (hK_M : σ.2.1 M = 10) (N : Nat) (hL_N : N ∈ σ.1) (hK_N : σ.2.1 N = 10) (hO_this : this = vo σ 3 M) (hO_a0 : a0 = vo σ 3 N) (hap : AP 10 tg σ M N) : MetV l yX3_copyFrom (wa yX3_copyFrom cX3_copyFrom 3 none) ({ frames := 2, cells := 0, slots := 0, locals := 81 }) [.ref this, .ref a0] D t σ (I, J, ri, rj, rq) sz 0 0 (fun (u : pq_S × pq_M) => ∃ I' : Nat → Nat → Int32, ∃ ri' : Nat → Nat → Int32, ∃ rq' : Nat → Nat → Option Nat, u = (σ, I', J, ri', rj, rq') ∧ GX [96, 98] tg σ I ri rj I' ri' rj rq' ∧ g_X3_copyFrom (vI 10 σ N I) (vR 10 σ N ri) (vQ 10 σ N rq) (vI 10 σ M I) (vJ 10 σ M J) (vR 10 σ M ri) (vL 10 σ M rj) (vQ 10 σ M rq) = ((vI 10 σ M I'), (vJ 10 σ M J), (vR 10 σ M ri'), (vL 10 σ M rj), (vQ 10 σ M rq')) ∧ FR 10 tg σ M (I, J, ri, rj, rq) (I', J, ri', rj, rq')) := by
  refine Met.ofW (cc := cX3_copyFrom) (maxL := 3) (ret := none) (by decide +kernel) rfl ?_
  intro p e s m args below meth c s₁ B hml hv
  obtain ⟨rfl, hsz, hP, hK, hD0, hN⟩ := hv
  have hx := B.exec
  have hb := B.bytes
  have hr := B.returns
  have hts := atoms_spec (ws := (wa yX3_copyFrom cX3_copyFrom 3 none)) B.pre
  have hown : s.vm.findClass RX3 = some m.cls := findClass_of_methodNamed B.named
  have hlocks := B.notSynchronized
  subst hsz
  have hD : va_D (pq_B t σ (I, J, ri, rj, rq) s.heap.size) (pq_P t σ (I, J, ri, rj, rq)) := hD0.self
  generalize hAe : pq_B t σ (I, J, ri, rj, rq) s.heap.size = A at hD ⊢
  have hA : ∀ q : Nat, s.heap.size ≤ q → A q := fun q h => by rw [← hAe]; exact Or.inr h
  have hS : va_S A s.heap s.heap [] := va_S.rf
  have hG : GX [96, 98] tg σ I ri rj I ri rj rq := ⟨hG0, fun _ _ _ => rfl, fun _ _ _ _ _ => rfl, fun _ _ _ _ _ => rfl⟩
  have hl := lv_entry ([.ref this, .ref a0]) (n := 3) (Nat.le_of_ble_eq_true rfl)
  rw [lg_entry_eq]
  generalize (lg_sl ([.ref this, .ref a0]) ++ List.replicate (3 - (lg_sl ([.ref this, .ref a0])).length) Slot.unset).toArray = ls at hl ⊢
  have hl : lv_has ls 3 [(0, .ref this), (1, .ref a0)] := hl
  refine q_gen (fun Q hQ => ?_)
  have go : ∀ (H : Heap) (locs : List Loc) (ls : Array Slot), va_P D vwCl (pq_P t σ (I, J, ri, rj, rq)) H → va_D A (pq_P t σ (I, J, ri, rj, rq)) → va_S A s.heap H locs → lv_has ls 3 [(0, .ref this), (1, .ref a0)] → W p l e ({ frames := 2, cells := 0, slots := 0, locals := 81 } : Room) s m (List.toArray ([.ref this, .ref a0] : List Value)) below meth c H locs 0 0 Q (F0 m 0 ls []) := by
    intro H locs ls hP hD hS hl
    have hVT : VT 10 σ tg M := vt_10 hSH hL_M hK_M
    have hFr : FR 10 tg σ M (I, J, ri, rj, rq) (I, J, ri, rj, rq) := fr_rf
    obtain ⟨F, hF0⟩ : ∃ F, F = g_X3_copyFrom (vI 10 σ N I) (vR 10 σ N ri) (vQ 10 σ N rq) (vI 10 σ M I) (vJ 10 σ M J) (vR 10 σ M ri) (vL 10 σ M rj) (vQ 10 σ M rq) := ⟨_, rfl⟩
    have hF := hF0.trans g_X3_copyFrom_e
    refine lv_aload_n hx hb dX3_copyFrom_0 rfl (lv_at hl 0 rfl) ?_
    refine lv_aload_n hx hb dX3_copyFrom_1 rfl (lv_at hl 1 rfl) ?_
    refine pg_f (v := .int (I 96 a0)) (C := RX3) (T := TX3) (N := 8) hx hb hts (tw_i inlX3) hown hK hP hL_a0 hK_a0 (by decide +kernel) rfl 0 (by decide +kernel) (hts _ (tw_c tw_1388)) rfl dX3_copyFrom_2 ?_
    have h_1 : rg (I 96 a0) 0 10 := GX.rI hG 96 rfl
    replace hF := hF.trans (ap_n (cI_e (f := 96) hFr hap hO_a0 (by decide +kernel)))
    refine pp_i (v := (I 96 a0)) (ty := .int) (C := RX3) (T := TX3) (N := 8) hx hb hts (tw_i inlX3) tyX3 tyX3_ok nmX3 hown hK hP hD hS hL_this hK_this (by decide +kernel) rfl 0 96 (by decide +kernel) (hts _ (tw_c tw_1388)) rfl (tyX3_ok 0 (by decide +kernel)) rfl rfl (Nat.le_of_ble_eq_true rfl) (ps_96 _ _ _ _ _) dX3_copyFrom_5 (fun I_3 H locs eI_3 hP hD hS => ?_)
    replace hFr := fr_I (f := 96) hFr hO_this (by decide +kernel) eI_3
    replace hF := hF.trans (ap_n (vI_st (f := 96) hO_this (by decide +kernel) eI_3))
    have hG := GX.wI hG 96 rfl eI_3 (rg_w h_1 (by decide +kernel)) (by decide +kernel)
    refine lv_iconst (v := 0) hx hb dX3_copyFrom_8 (by decide +kernel) ?_
    refine lv_istore_n (lv' := [(2, .int 0), (0, .ref this), (1, .ref a0)]) hx hb dX3_copyFrom_9 rfl hl (by decide +kernel) rfl (fun ls hl => ?_)
    have L_239 : ∀ (n_238 : Nat) (x_180 : Int32) (rq_181 : Nat → Nat → Option Nat) (H : Heap) (locs : List Loc) (ls : Array Slot), rg x_180 0 10 → (10 - (x_180).toInt).toNat < n_238 → F = g_X3_copyFrom_L10 (vJ 10 σ M J) (vR 10 σ M ri) (vL 10 σ M rj) (vI 10 σ N I) (vI 10 σ M I_3) (vQ 10 σ N rq) (vR 10 σ N ri) n_238 x_180 (vQ 10 σ M rq_181) → FR 10 tg σ M (I, J, ri, rj, rq) (I_3, J, ri, rj, rq_181) → GX [96, 98] tg σ I ri rj I_3 ri rj rq_181 → va_P D vwCl (pq_P t σ (I_3, J, ri, rj, rq_181)) H → va_D A (pq_P t σ (I_3, J, ri, rj, rq_181)) → va_S A s.heap H locs → lv_has ls 3 [(0, .ref this), (1, .ref a0), (2, .int x_180)] → W p l e ({ frames := 2, cells := 0, slots := 0, locals := 81 } : Room) s m (List.toArray ([.ref this, .ref a0] : List Value)) below meth c H locs 0 0 Q (F0 m 10 ls []) := by
      intro n_238
      induction n_238 with
      | zero => intro x_180 rq_181 H locs ls h_242 hm_237 hF hFr hG hP hD hS hl; exact absurd hm_237 (Nat.not_lt_zero _)
      | succ n_238 ih_240 =>
        intro x_180 rq_181 H locs ls h_242 hm_237 hF hFr hG hP hD hS hl
        replace hF := hF.trans g_X3_copyFrom_L10_e
        refine lv_iload_n hx hb dX3_copyFrom_10 rfl (lv_at hl 2 rfl) ?_
        refine lv_bipush (v := 10) hx hb dX3_copyFrom_11 (by decide +kernel) ?_
        refine lv_icmp_ge (tgt := 34) hx hb dX3_copyFrom_13 (by decide +kernel) (fun c_243 => ?_) (fun c_243 => ?_)
        · replace hF := hF.trans (if_pos c_243)
          have h_246 : rg x_180 10 10 := rg_le2 c_243 (rg_k (10 : Int32) 10 rfl) h_242 (by decide +kernel)
          refine lv_aload_n hx hb dX3_copyFrom_34 rfl (lv_at hl 0 rfl) ?_
          refine lv_aload_n hx hb dX3_copyFrom_35 rfl (lv_at hl 1 rfl) ?_
          refine pg_f (v := .int (I_3 98 a0)) (C := RX3) (T := TX3) (N := 8) hx hb hts (tw_i inlX3) hown hK hP hL_a0 hK_a0 (by decide +kernel) rfl 2 (by decide +kernel) (hts _ (tw_c tw_473)) rfl dX3_copyFrom_36 ?_
          have h_247 : rg (I_3 98 a0) 0 30 := GX.rI hG 98 rfl
          replace hF := hF.trans (ap_n (cI_e (f := 98) hFr hap hO_a0 (by decide +kernel)))
          refine pp_i (v := (I_3 98 a0)) (ty := .int) (C := RX3) (T := TX3) (N := 8) hx hb hts (tw_i inlX3) tyX3 tyX3_ok nmX3 hown hK hP hD hS hL_this hK_this (by decide +kernel) rfl 2 98 (by decide +kernel) (hts _ (tw_c tw_473)) rfl (tyX3_ok 2 (by decide +kernel)) rfl rfl (Nat.le_of_ble_eq_true rfl) (ps_98 _ _ _ _ _) dX3_copyFrom_39 (fun I_249 H locs eI_249 hP hD hS => ?_)
          replace hFr := fr_I (f := 98) hFr hO_this (by decide +kernel) eI_249
          replace hF := hF.trans (ap_n (vI_st (f := 98) hO_this (by decide +kernel) eI_249))
          have hG := GX.wI hG 98 rfl eI_249 (rg_w h_247 (by decide +kernel)) (by decide +kernel)
          refine lv_aload_n hx hb dX3_copyFrom_42 rfl (lv_at hl 1 rfl) ?_
          obtain ⟨w_250, hR_w_250, hL_w_250, hK_w_250, hN_w_250, hT_w_250⟩ := sh_a hSH 99 (ci := 3) (kd := 13) (len := 30) rfl (by decide +kernel) hL_a0 hK_a0
          have hO_w_250 : w_250 = vrow σ 99 N := vo_k (c := 3) hO_a0 hR_w_250
          refine pg_f (v := .ref w_250) (C := RX3) (T := TX3) (N := 8) hx hb hts (tw_i inlX3) hown hK hP hL_a0 hK_a0 (by decide +kernel) rfl 3 (by decide +kernel) (hts _ (tw_c tw_129)) (pq_hv rfl hR_w_250) dX3_copyFrom_43 ?_
          refine lv_aload_n hx hb dX3_copyFrom_46 rfl (lv_at hl 0 rfl) ?_
          obtain ⟨w_251, hR_w_251, hL_w_251, hK_w_251, hN_w_251, hT_w_251⟩ := sh_a hSH 99 (ci := 3) (kd := 13) (len := 30) rfl (by decide +kernel) hL_this hK_this
          have hO_w_251 : w_251 = vrow σ 99 M := vo_k (c := 3) hO_this hR_w_251
          refine pg_f (v := .ref w_251) (C := RX3) (T := TX3) (N := 8) hx hb hts (tw_i inlX3) hown hK hP hL_this hK_this (by decide +kernel) rfl 3 (by decide +kernel) (hts _ (tw_c tw_129)) (pq_hv rfl hR_w_251) dX3_copyFrom_47 ?_
          refine pk_v (va_runSN (As := [.ref w_250, .ref w_251]) (rest := []) ⟨hx, hb, hml, hown, hts⟩ (s_X11_copy_99_99 l D t σ I_249 J ri rj rq_181 H.size tg hSH hG.1 w_250 w_251 hL_w_250 hK_w_250 hN_w_250 hT_w_250 hL_w_251 hK_w_251 hN_w_251 hT_w_251) ⟨va_cnB (host := "RingsUnder") 2 hts (tw_W tw_1102) rfl rfl rfl (nl_21 hN) (hts _ (tw_c tw_2)) cd_yX11_copy_2 ⟨Nat.le_of_ble_eq_true rfl, Nat.le_of_ble_eq_true rfl⟩, hts (.static yX11_copy) (tw_c tq_static_yX11_copy), trivial⟩ ⟨pq_blind, pq_pre hK hN hP hD⟩ rfl rfl hl.1 rfl (lv_room (Nat.le_of_ble_eq_true rfl)) dX3_copyFrom_50 ⟨Nat.le_of_ble_eq_true rfl, Nat.le_of_ble_eq_true rfl⟩) hD hS hA (fun σ1 μ1 H locs hw_253 hP hD hS => ?_)
          obtain ⟨ri_254, hu_255, hg_256, hp_258, hp_259, hp_260⟩ := hw_253
          obtain ⟨hu_255a, hu_255b⟩ := Prod.mk.inj hu_255
          rw [hu_255a, hu_255b] at hP hD
          replace hF := hF.trans (ap_n (vR_cp hVT hO_w_251 (by decide +kernel) (funext fun _ => (cR_r hFr hap hO_w_250 (by decide +kernel) rfl)) hp_260))
          replace hFr := fr_R hFr hO_w_251 (by decide +kernel) hp_260
          have hG := GX.tr hG hg_256 (by decide +kernel)
          refine lv_aload_n hx hb dX3_copyFrom_53 rfl (lv_at hl 1 rfl) ?_
          obtain ⟨w_263, hR_w_263, hL_w_263, hK_w_263, hN_w_263, hT_w_263⟩ := sh_a hSH 100 (ci := 3) (kd := 13) (len := 30) rfl (by decide +kernel) hL_a0 hK_a0
          have hO_w_263 : w_263 = vrow σ 100 N := vo_k (c := 3) hO_a0 hR_w_263
          refine pg_f (v := .ref w_263) (C := RX3) (T := TX3) (N := 8) hx hb hts (tw_i inlX3) hown hK hP hL_a0 hK_a0 (by decide +kernel) rfl 4 (by decide +kernel) (hts _ (tw_c tw_130)) (pq_hv rfl hR_w_263) dX3_copyFrom_54 ?_
          refine lv_aload_n hx hb dX3_copyFrom_57 rfl (lv_at hl 0 rfl) ?_
          obtain ⟨w_264, hR_w_264, hL_w_264, hK_w_264, hN_w_264, hT_w_264⟩ := sh_a hSH 100 (ci := 3) (kd := 13) (len := 30) rfl (by decide +kernel) hL_this hK_this
          have hO_w_264 : w_264 = vrow σ 100 M := vo_k (c := 3) hO_this hR_w_264
          refine pg_f (v := .ref w_264) (C := RX3) (T := TX3) (N := 8) hx hb hts (tw_i inlX3) hown hK hP hL_this hK_this (by decide +kernel) rfl 4 (by decide +kernel) (hts _ (tw_c tw_130)) (pq_hv rfl hR_w_264) dX3_copyFrom_58 ?_
          refine pk_v (va_runSN (As := [.ref w_263, .ref w_264]) (rest := []) ⟨hx, hb, hml, hown, hts⟩ (s_X11_copy_100_100 l D t σ I_249 J ri_254 rj rq_181 H.size tg hSH hG.1 w_263 w_264 hL_w_263 hK_w_263 hN_w_263 hT_w_263 hL_w_264 hK_w_264 hN_w_264 hT_w_264) ⟨va_cnB (host := "RingsUnder") 2 hts (tw_W tw_1102) rfl rfl rfl (nl_21 hN) (hts _ (tw_c tw_2)) cd_yX11_copy_2 ⟨Nat.le_of_ble_eq_true rfl, Nat.le_of_ble_eq_true rfl⟩, hts (.static yX11_copy) (tw_c tq_static_yX11_copy), trivial⟩ ⟨pq_blind, pq_pre hK hN hP hD⟩ rfl rfl hl.1 rfl (lv_room (Nat.le_of_ble_eq_true rfl)) dX3_copyFrom_61 ⟨Nat.le_of_ble_eq_true rfl, Nat.le_of_ble_eq_true rfl⟩) hD hS hA (fun σ1 μ1 H locs hw_266 hP hD hS => ?_)
          obtain ⟨ri_267, hu_268, hg_269, hp_271, hp_272, hp_273⟩ := hw_266
          obtain ⟨hu_268a, hu_268b⟩ := Prod.mk.inj hu_268
          rw [hu_268a, hu_268b] at hP hD
          replace hF := hF.trans (ap_n (vR_cp hVT hO_w_264 (by decide +kernel) (funext fun _ => (cR_r hFr hap hO_w_263 (by decide +kernel) rfl)) hp_273))
          replace hFr := fr_R hFr hO_w_264 (by decide +kernel) hp_273
          have hG := GX.tr hG hg_269 (by decide +kernel)
          refine lv_aload_n hx hb dX3_copyFrom_64 rfl (lv_at hl 1 rfl) ?_
          obtain ⟨w_276, hR_w_276, hL_w_276, hK_w_276, hN_w_276, hT_w_276⟩ := sh_a hSH 101 (ci := 3) (kd := 13) (len := 30) rfl (by decide +kernel) hL_a0 hK_a0
          have hO_w_276 : w_276 = vrow σ 101 N := vo_k (c := 3) hO_a0 hR_w_276
          refine pg_f (v := .ref w_276) (C := RX3) (T := TX3) (N := 8) hx hb hts (tw_i inlX3) hown hK hP hL_a0 hK_a0 (by decide +kernel) rfl 5 (by decide +kernel) (hts _ (tw_c tw_131)) (pq_hv rfl hR_w_276) dX3_copyFrom_65 ?_
          refine lv_aload_n hx hb dX3_copyFrom_68 rfl (lv_at hl 0 rfl) ?_
          obtain ⟨w_277, hR_w_277, hL_w_277, hK_w_277, hN_w_277, hT_w_277⟩ := sh_a hSH 101 (ci := 3) (kd := 13) (len := 30) rfl (by decide +kernel) hL_this hK_this
          have hO_w_277 : w_277 = vrow σ 101 M := vo_k (c := 3) hO_this hR_w_277
          refine pg_f (v := .ref w_277) (C := RX3) (T := TX3) (N := 8) hx hb hts (tw_i inlX3) hown hK hP hL_this hK_this (by decide +kernel) rfl 5 (by decide +kernel) (hts _ (tw_c tw_131)) (pq_hv rfl hR_w_277) dX3_copyFrom_69 ?_
          refine pk_v (va_runSN (As := [.ref w_276, .ref w_277]) (rest := []) ⟨hx, hb, hml, hown, hts⟩ (s_X11_copy_101_101 l D t σ I_249 J ri_267 rj rq_181 H.size tg hSH hG.1 w_276 w_277 hL_w_276 hK_w_276 hN_w_276 hT_w_276 hL_w_277 hK_w_277 hN_w_277 hT_w_277) ⟨va_cnB (host := "RingsUnder") 2 hts (tw_W tw_1102) rfl rfl rfl (nl_21 hN) (hts _ (tw_c tw_2)) cd_yX11_copy_2 ⟨Nat.le_of_ble_eq_true rfl, Nat.le_of_ble_eq_true rfl⟩, hts (.static yX11_copy) (tw_c tq_static_yX11_copy), trivial⟩ ⟨pq_blind, pq_pre hK hN hP hD⟩ rfl rfl hl.1 rfl (lv_room (Nat.le_of_ble_eq_true rfl)) dX3_copyFrom_72 ⟨Nat.le_of_ble_eq_true rfl, Nat.le_of_ble_eq_true rfl⟩) hD hS hA (fun σ1 μ1 H locs hw_279 hP hD hS => ?_)
          obtain ⟨ri_280, hu_281, hg_282, hp_284, hp_285, hp_286⟩ := hw_279
          obtain ⟨hu_281a, hu_281b⟩ := Prod.mk.inj hu_281
          rw [hu_281a, hu_281b] at hP hD
          replace hF := hF.trans (ap_n (vR_cp hVT hO_w_277 (by decide +kernel) (funext fun _ => (cR_r hFr hap hO_w_276 (by decide +kernel) rfl)) hp_286))
          replace hFr := fr_R hFr hO_w_277 (by decide +kernel) hp_286
          have hG := GX.tr hG hg_282 (by decide +kernel)
          subst hQ
          exact W.vret hx hb hr (fun t1 ht hW => ⟨⟨(σ, I_249, J, ri_280, rj, rq_181), rfl, ⟨I_249, ri_280, rq_181, rfl, hG, (hF0.symm.trans hF), hFr⟩, by rw [ht]; exact hP, va_K.moved hW.alike hK, hD⟩, hS.F ht⟩) hS.2.2 dX3_copyFrom_75
        · replace hF := hF.trans (if_neg c_243)
          have h_289 : rg x_180 0 9 := rg_lt1 (nle c_243) h_242 (rg_k (10 : Int32) 10 rfl) (by decide +kernel)
          refine lv_aload_n hx hb dX3_copyFrom_16 rfl (lv_at hl 0 rfl) ?_
          obtain ⟨w_290, hR_w_290, hL_w_290, hK_w_290, hN_w_290, hT_w_290⟩ := sh_a hSH 97 (ci := 3) (kd := 16) (len := 10) rfl (by decide +kernel) hL_this hK_this
          have hO_w_290 : w_290 = vrow σ 97 M := vo_k (c := 3) hO_this hR_w_290
          refine pg_f (v := .ref w_290) (C := RX3) (T := TX3) (N := 8) hx hb hts (tw_i inlX3) hown hK hP hL_this hK_this (by decide +kernel) rfl 1 (by decide +kernel) (hts _ (tw_c tw_128)) (pq_hv rfl hR_w_290) dX3_copyFrom_17 ?_
          refine lv_iload_n hx hb dX3_copyFrom_20 rfl (lv_at hl 2 rfl) ?_
          refine lv_aload_n hx hb dX3_copyFrom_21 rfl (lv_at hl 1 rfl) ?_
          obtain ⟨w_291, hR_w_291, hL_w_291, hK_w_291, hN_w_291, hT_w_291⟩ := sh_a hSH 97 (ci := 3) (kd := 16) (len := 10) rfl (by decide +kernel) hL_a0 hK_a0
          have hO_w_291 : w_291 = vrow σ 97 N := vo_k (c := 3) hO_a0 hR_w_291
          refine pg_f (v := .ref w_291) (C := RX3) (T := TX3) (N := 8) hx hb hts (tw_i inlX3) hown hK hP hL_a0 hK_a0 (by decide +kernel) rfl 1 (by decide +kernel) (hts _ (tw_c tw_128)) (pq_hv rfl hR_w_291) dX3_copyFrom_22 ?_
          refine lv_iload_n hx hb dX3_copyFrom_25 rfl (lv_at hl 2 rfl) ?_
          refine pl_q hx hb hK hP hL_w_291 hK_w_291 hN_w_291 (rg_in h_289 (by decide +kernel)) dX3_copyFrom_26 ?_
          obtain ⟨o_x_292, eo_x_292⟩ : ∃ o, o = rq_181 w_291 (x_180).toNatClampNeg := ⟨_, rfl⟩
          rw [← eo_x_292]
          replace hF := hF.trans (op_n (cQ_r hFr hap hO_w_291 (by decide +kernel) eo_x_292))
          rcases o_x_292 with _ | w_x_292
          · replace hF := hF.trans op_0
            refine pt_qn hx hb hK hP hD hS hL_w_290 hK_w_290 hN_w_290 (rg_in h_289 (by decide +kernel)) dX3_copyFrom_27 (fun rq_293 H locs erq_293 hP hD hS => ?_)
            have hG := GX.wQn hG erq_293
            replace hFr := fr_Q hFr hO_w_290 (by decide +kernel) erq_293
            replace hF := hF.trans (ap_n (vQ_st hVT hO_w_290 (by decide +kernel) erq_293))
            obtain ⟨x_294, ex_294⟩ : ∃ y : Int32, y = x_180 + Int32.ofInt 1 := ⟨_, rfl⟩
            replace hF := hF.trans (ap_n ex_294)
            have h_295 : rg x_294 1 10 := rg_of_eq ex_294 (rg_add h_289 (rg_k (Int32.ofInt 1) 1 rfl) (by decide +kernel))
            refine lv_iinc (v := x_294) (lv' := [(2, .int x_294), (0, .ref this), (1, .ref a0)]) hx hb dX3_copyFrom_28 hl (k := 2) rfl ex_294.symm (by decide +kernel) rfl (fun ls hl => ?_)
            refine lv_goto (tgt := 10) hx hb dX3_copyFrom_31 (by decide +kernel) ?_
            exact ih_240 x_294 rq_293 _ _ _ (rg_w h_295 (by decide +kernel)) (ms_up 1 hm_237 ex_294 rfl (by decide +kernel) h_289 (by decide +kernel) (by decide +kernel)) hF hFr hG hP hD hS (lv_sub hl [1, 2, 0] rfl)
          · replace hF := hF.trans op_1
            have hL_w_x_292 := (GX.rQ hG eo_x_292.symm).1
            have hK_w_x_292 := (GX.rQ hG eo_x_292.symm).2
            refine pt_q hx hb hK hP hD hS hL_w_290 hK_w_290 hN_w_290 hL_w_x_292 hK_w_x_292 (rg_in h_289 (by decide +kernel)) dX3_copyFrom_27 (fun rq_296 H locs erq_296 hP hD hS => ?_)
            have hG := GX.wQ hG hL_w_x_292 hK_w_x_292 erq_296
            replace hFr := fr_Q hFr hO_w_290 (by decide +kernel) erq_296
            replace hF := hF.trans (ap_n (vQ_st hVT hO_w_290 (by decide +kernel) erq_296))
            obtain ⟨x_297, ex_297⟩ : ∃ y : Int32, y = x_180 + Int32.ofInt 1 := ⟨_, rfl⟩
            replace hF := hF.trans (ap_n ex_297)
            have h_298 : rg x_297 1 10 := rg_of_eq ex_297 (rg_add h_289 (rg_k (Int32.ofInt 1) 1 rfl) (by decide +kernel))
            refine lv_iinc (v := x_297) (lv' := [(2, .int x_297), (0, .ref this), (1, .ref a0)]) hx hb dX3_copyFrom_28 hl (k := 2) rfl ex_297.symm (by decide +kernel) rfl (fun ls hl => ?_)
            refine lv_goto (tgt := 10) hx hb dX3_copyFrom_31 (by decide +kernel) ?_
            exact ih_240 x_297 rq_296 _ _ _ (rg_w h_298 (by decide +kernel)) (ms_up 1 hm_237 ex_297 rfl (by decide +kernel) h_289 (by decide +kernel) (by decide +kernel)) hF hFr hG hP hD hS (lv_sub hl [1, 2, 0] rfl)
    exact L_239 _ (0 : Int32) rq _ _ _ (rg_w (rg_k (0 : Int32) 0 rfl) (by decide +kernel)) (Nat.lt_succ_self _) hF hFr hG hP hD hS (lv_sub hl [1, 2, 0] rfl)
  exact go _ _ _ hP hD hS hl

set_option maxRecDepth 100000 in
def g_X3_addForce (a0 : Int32) (a1 : Int32) (a2 : Int32) (I : Nat → Int32) (J : Nat → Int64) (ri : Nat → Nat → Int32) (rj : Nat → Nat → Int64) (rq : Nat → Nat → Option Nat) : Int32 × vM := (ap1 (I 98) fun (y_2 : Int32) => (if (y_2) < (30 : Int32) then (ap1 (va_up ri 99 (upd (ri 99) ((y_2)).toNatClampNeg a0)) fun (r_8 : Nat → Nat → Int32) => (ap1 (va_up r_8 100 (upd (r_8 100) ((y_2)).toNatClampNeg a1)) fun (r_10 : Nat → Nat → Int32) => (ap1 (va_up r_10 101 (upd (r_10 101) ((y_2)).toNatClampNeg a2)) fun (r_12 : Nat → Nat → Int32) => (ap1 ((y_2) + (1 : Int32)) fun (x_13 : Int32) => (ap1 (va_up I 98 x_13) fun (I_15 : Nat → Int32) => (ap1 (I_15 98) fun (y_17 : Int32) => (ap1 ((y_17) - (1 : Int32)) fun (x_18 : Int32) => (x_18, I_15, J, r_12, rj, rq)))))))) else ((-1 : Int32), I, J, ri, rj, rq)))
set_option maxRecDepth 100000 in
theorem g_X3_addForce_e {a0 : Int32} {a1 : Int32} {a2 : Int32} {I : Nat → Int32} {J : Nat → Int64} {ri : Nat → Nat → Int32} {rj : Nat → Nat → Int64} {rq : Nat → Nat → Option Nat} : g_X3_addForce a0 a1 a2 I J ri rj rq = (ap1 (I 98) fun (y_2 : Int32) => (if (y_2) < (30 : Int32) then (ap1 (va_up ri 99 (upd (ri 99) ((y_2)).toNatClampNeg a0)) fun (r_8 : Nat → Nat → Int32) => (ap1 (va_up r_8 100 (upd (r_8 100) ((y_2)).toNatClampNeg a1)) fun (r_10 : Nat → Nat → Int32) => (ap1 (va_up r_10 101 (upd (r_10 101) ((y_2)).toNatClampNeg a2)) fun (r_12 : Nat → Nat → Int32) => (ap1 ((y_2) + (1 : Int32)) fun (x_13 : Int32) => (ap1 (va_up I 98 x_13) fun (I_15 : Nat → Int32) => (ap1 (I_15 98) fun (y_17 : Int32) => (ap1 ((y_17) - (1 : Int32)) fun (x_18 : Int32) => (x_18, I_15, J, r_12, rj, rq)))))))) else ((-1 : Int32), I, J, ri, rj, rq))) := rfl
set_option maxHeartbeats 4000000 in
set_option maxRecDepth 100000 in
theorem s_X3_addForce (l : Launch) (D : va_G) (t : pq_T) (σ : pq_S) (I : Nat → Nat → Int32) (J : Nat → Nat → Int64) (ri : Nat → Nat → Int32) (rj : Nat → Nat → Int64) (rq : Nat → Nat → Option Nat) (sz : Nat) (tg : Nat → Nat) (hSH : SH σ tg) (hG0 : GS tg σ I ri rq) (this : Nat) (a0 : Int32) (a1 : Int32) (a2 : Int32) (hL_this : this ∈ σ.1) (hK_this : σ.2.1 this = 3) (h_a0 : rg a0 0 9) (M : Nat) (hL_M : M ∈ σ.1) (hK_M : σ.2.1 M = 10) (hO_this : this = vo σ 3 M) : MetI l yX3_addForce (wa yX3_addForce cX3_addForce 4 (some .int)) ({ frames := 0, cells := 0, slots := 0, locals := 0 }) [.ref this, .int a0, .int a1, .int a2] D t σ (I, J, ri, rj, rq) sz 0 0 (fun (r : Int32) (u : pq_S × pq_M) => ∃ I' : Nat → Nat → Int32, ∃ ri' : Nat → Nat → Int32, u = (σ, I', J, ri', rj, rq) ∧ GX [98] tg σ I ri rj I' ri' rj rq ∧ g_X3_addForce a0 a1 a2 (vI 10 σ M I) (vJ 10 σ M J) (vR 10 σ M ri) (vL 10 σ M rj) (vQ 10 σ M rq) = (r, (vI 10 σ M I'), (vJ 10 σ M J), (vR 10 σ M ri'), (vL 10 σ M rj), (vQ 10 σ M rq)) ∧ FR 10 tg σ M (I, J, ri, rj, rq) (I', J, ri', rj, rq) ∧ rg r (-1) 29) := by
  refine Met.ofW (cc := cX3_addForce) (maxL := 4) (ret := (some .int)) (by decide +kernel) rfl ?_
  intro p e s m args below meth c s₁ B hml hv
  obtain ⟨rfl, hsz, hP, hK, hD0, hN⟩ := hv
  have hx := B.exec
  have hb := B.bytes
  have hr := B.returns
  have hts := atoms_spec (ws := (wa yX3_addForce cX3_addForce 4 (some .int))) B.pre
  have hown : s.vm.findClass RX3 = some m.cls := findClass_of_methodNamed B.named
  have hlocks := B.notSynchronized
  subst hsz
  have hD : va_D (pq_B t σ (I, J, ri, rj, rq) s.heap.size) (pq_P t σ (I, J, ri, rj, rq)) := hD0.self
  generalize hAe : pq_B t σ (I, J, ri, rj, rq) s.heap.size = A at hD ⊢
  have hA : ∀ q : Nat, s.heap.size ≤ q → A q := fun q h => by rw [← hAe]; exact Or.inr h
  have hS : va_S A s.heap s.heap [] := va_S.rf
  have hG : GX [98] tg σ I ri rj I ri rj rq := ⟨hG0, fun _ _ _ => rfl, fun _ _ _ _ _ => rfl, fun _ _ _ _ _ => rfl⟩
  have hl := lv_entry ([.ref this, .int a0, .int a1, .int a2]) (n := 4) (Nat.le_of_ble_eq_true rfl)
  rw [lg_entry_eq]
  generalize (lg_sl ([.ref this, .int a0, .int a1, .int a2]) ++ List.replicate (4 - (lg_sl ([.ref this, .int a0, .int a1, .int a2])).length) Slot.unset).toArray = ls at hl ⊢
  have hl : lv_has ls 4 [(0, .ref this), (1, .int a0), (2, .int a1), (3, .int a2)] := hl
  refine q_gen (fun Q hQ => ?_)
  have go : ∀ (H : Heap) (locs : List Loc) (ls : Array Slot), va_P D vwCl (pq_P t σ (I, J, ri, rj, rq)) H → va_D A (pq_P t σ (I, J, ri, rj, rq)) → va_S A s.heap H locs → lv_has ls 4 [(0, .ref this), (1, .int a0), (2, .int a1), (3, .int a2)] → W p l e ({ frames := 0, cells := 0, slots := 0, locals := 0 } : Room) s m (List.toArray ([.ref this, .int a0, .int a1, .int a2] : List Value)) below meth c H locs 0 0 Q (F0 m 0 ls []) := by
    intro H locs ls hP hD hS hl
    have hVT : VT 10 σ tg M := vt_10 hSH hL_M hK_M
    have hFr : FR 10 tg σ M (I, J, ri, rj, rq) (I, J, ri, rj, rq) := fr_rf
    obtain ⟨F, hF0⟩ : ∃ F, F = g_X3_addForce a0 a1 a2 (vI 10 σ M I) (vJ 10 σ M J) (vR 10 σ M ri) (vL 10 σ M rj) (vQ 10 σ M rq) := ⟨_, rfl⟩
    have hF := hF0.trans g_X3_addForce_e
    refine lv_aload_n hx hb dX3_addForce_0 rfl (lv_at hl 0 rfl) ?_
    refine pg_f (v := .int (I 98 this)) (C := RX3) (T := TX3) (N := 8) hx hb hts (tw_i inlX3) hown hK hP hL_this hK_this (by decide +kernel) rfl 2 (by decide +kernel) (hts _ (tw_c tw_473)) rfl dX3_addForce_1 ?_
    have h_1 : rg (I 98 this) 0 30 := GX.rI hG 98 rfl
    replace hF := hF.trans (ap_n (vI_e (f := 98) hO_this (by decide +kernel)))
    refine lv_bipush (v := 30) hx hb dX3_addForce_4 (by decide +kernel) ?_
    refine lv_icmp_lt (tgt := 11) hx hb dX3_addForce_6 (by decide +kernel) (fun c_3 => ?_) (fun c_3 => ?_)
    · replace hF := hF.trans (if_pos c_3)
      have h_6 : rg (I 98 this) 0 29 := rg_lt1 c_3 h_1 (rg_k (30 : Int32) 30 rfl) (by decide +kernel)
      refine lv_aload_n hx hb dX3_addForce_11 rfl (lv_at hl 0 rfl) ?_
      obtain ⟨w_7, hR_w_7, hL_w_7, hK_w_7, hN_w_7, hT_w_7⟩ := sh_a hSH 99 (ci := 3) (kd := 13) (len := 30) rfl (by decide +kernel) hL_this hK_this
      have hO_w_7 : w_7 = vrow σ 99 M := vo_k (c := 3) hO_this hR_w_7
      refine pg_f (v := .ref w_7) (C := RX3) (T := TX3) (N := 8) hx hb hts (tw_i inlX3) hown hK hP hL_this hK_this (by decide +kernel) rfl 3 (by decide +kernel) (hts _ (tw_c tw_129)) (pq_hv rfl hR_w_7) dX3_addForce_12 ?_
      refine lv_aload_n hx hb dX3_addForce_15 rfl (lv_at hl 0 rfl) ?_
      refine pg_f (v := .int (I 98 this)) (C := RX3) (T := TX3) (N := 8) hx hb hts (tw_i inlX3) hown hK hP hL_this hK_this (by decide +kernel) rfl 2 (by decide +kernel) (hts _ (tw_c tw_473)) rfl dX3_addForce_16 ?_
      refine lv_iload_n hx hb dX3_addForce_19 rfl (lv_at hl 1 rfl) ?_
      refine pt_i hx hb hK hP hD hS hL_w_7 hK_w_7 hN_w_7 (rg_in h_6 (by decide +kernel)) dX3_addForce_20 (fun r_8 H locs er_8 hP hD hS => ?_)
      replace hFr := fr_R hFr hO_w_7 (by decide +kernel) er_8
      replace hF := hF.trans (ap_n (vR_st hVT hO_w_7 (by decide +kernel) er_8))
      have hG := GX.wR hG hSH hT_w_7 rfl er_8 (rg_w h_a0 (by decide +kernel)) (by decide +kernel)
      refine lv_aload_n hx hb dX3_addForce_21 rfl (lv_at hl 0 rfl) ?_
      obtain ⟨w_9, hR_w_9, hL_w_9, hK_w_9, hN_w_9, hT_w_9⟩ := sh_a hSH 100 (ci := 3) (kd := 13) (len := 30) rfl (by decide +kernel) hL_this hK_this
      have hO_w_9 : w_9 = vrow σ 100 M := vo_k (c := 3) hO_this hR_w_9
      refine pg_f (v := .ref w_9) (C := RX3) (T := TX3) (N := 8) hx hb hts (tw_i inlX3) hown hK hP hL_this hK_this (by decide +kernel) rfl 4 (by decide +kernel) (hts _ (tw_c tw_130)) (pq_hv rfl hR_w_9) dX3_addForce_22 ?_
      refine lv_aload_n hx hb dX3_addForce_25 rfl (lv_at hl 0 rfl) ?_
      refine pg_f (v := .int (I 98 this)) (C := RX3) (T := TX3) (N := 8) hx hb hts (tw_i inlX3) hown hK hP hL_this hK_this (by decide +kernel) rfl 2 (by decide +kernel) (hts _ (tw_c tw_473)) rfl dX3_addForce_26 ?_
      refine lv_iload_n hx hb dX3_addForce_29 rfl (lv_at hl 2 rfl) ?_
      refine pt_i hx hb hK hP hD hS hL_w_9 hK_w_9 hN_w_9 (rg_in h_6 (by decide +kernel)) dX3_addForce_30 (fun r_10 H locs er_10 hP hD hS => ?_)
      replace hFr := fr_R hFr hO_w_9 (by decide +kernel) er_10
      replace hF := hF.trans (ap_n (vR_st hVT hO_w_9 (by decide +kernel) er_10))
      have hG := GX.wR hG hSH hT_w_9 rfl er_10 (rg_w (rg_full _) (by decide +kernel)) (by decide +kernel)
      refine lv_aload_n hx hb dX3_addForce_31 rfl (lv_at hl 0 rfl) ?_
      obtain ⟨w_11, hR_w_11, hL_w_11, hK_w_11, hN_w_11, hT_w_11⟩ := sh_a hSH 101 (ci := 3) (kd := 13) (len := 30) rfl (by decide +kernel) hL_this hK_this
      have hO_w_11 : w_11 = vrow σ 101 M := vo_k (c := 3) hO_this hR_w_11
      refine pg_f (v := .ref w_11) (C := RX3) (T := TX3) (N := 8) hx hb hts (tw_i inlX3) hown hK hP hL_this hK_this (by decide +kernel) rfl 5 (by decide +kernel) (hts _ (tw_c tw_131)) (pq_hv rfl hR_w_11) dX3_addForce_32 ?_
      refine lv_aload_n hx hb dX3_addForce_35 rfl (lv_at hl 0 rfl) ?_
      refine pg_f (v := .int (I 98 this)) (C := RX3) (T := TX3) (N := 8) hx hb hts (tw_i inlX3) hown hK hP hL_this hK_this (by decide +kernel) rfl 2 (by decide +kernel) (hts _ (tw_c tw_473)) rfl dX3_addForce_36 ?_
      refine lv_iload_n hx hb dX3_addForce_39 rfl (lv_at hl 3 rfl) ?_
      refine pt_i hx hb hK hP hD hS hL_w_11 hK_w_11 hN_w_11 (rg_in h_6 (by decide +kernel)) dX3_addForce_40 (fun r_12 H locs er_12 hP hD hS => ?_)
      replace hFr := fr_R hFr hO_w_11 (by decide +kernel) er_12
      replace hF := hF.trans (ap_n (vR_st hVT hO_w_11 (by decide +kernel) er_12))
      have hG := GX.wR hG hSH hT_w_11 rfl er_12 (rg_w (rg_full _) (by decide +kernel)) (by decide +kernel)
      refine lv_aload_n hx hb dX3_addForce_41 rfl (lv_at hl 0 rfl) ?_
      refine lv_dup hx hb dX3_addForce_42 rfl ?_
      refine pg_f (v := .int (I 98 this)) (C := RX3) (T := TX3) (N := 8) hx hb hts (tw_i inlX3) hown hK hP hL_this hK_this (by decide +kernel) rfl 2 (by decide +kernel) (hts _ (tw_c tw_473)) rfl dX3_addForce_43 ?_
      refine lv_iconst (v := 1) hx hb dX3_addForce_46 (by decide +kernel) ?_
      refine lv_iadd hx hb dX3_addForce_47 ?_
      refine lv_topi (fun x_13 ex_13 => ?_)
      replace hF := hF.trans (ap_n ex_13)
      have h_14 : rg x_13 1 30 := rg_of_eq ex_13 (rg_add h_6 (rg_k (1 : Int32) 1 rfl) (by decide +kernel))
      refine pp_i (v := x_13) (ty := .int) (C := RX3) (T := TX3) (N := 8) hx hb hts (tw_i inlX3) tyX3 tyX3_ok nmX3 hown hK hP hD hS hL_this hK_this (by decide +kernel) rfl 2 98 (by decide +kernel) (hts _ (tw_c tw_473)) rfl (tyX3_ok 2 (by decide +kernel)) rfl rfl (Nat.le_of_ble_eq_true rfl) (ps_98 _ _ _ _ _) dX3_addForce_48 (fun I_15 H locs eI_15 hP hD hS => ?_)
      replace hFr := fr_I (f := 98) hFr hO_this (by decide +kernel) eI_15
      replace hF := hF.trans (ap_n (vI_st (f := 98) hO_this (by decide +kernel) eI_15))
      have hG := GX.wI hG 98 rfl eI_15 (rg_w h_14 (by decide +kernel)) (by decide +kernel)
      refine lv_aload_n hx hb dX3_addForce_51 rfl (lv_at hl 0 rfl) ?_
      refine pg_f (v := .int (I_15 98 this)) (C := RX3) (T := TX3) (N := 8) hx hb hts (tw_i inlX3) hown hK hP hL_this hK_this (by decide +kernel) rfl 2 (by decide +kernel) (hts _ (tw_c tw_473)) rfl dX3_addForce_52 ?_
      have h_16 : rg (I_15 98 this) 1 30 := (by rw [eI_15, pq_us]; exact h_14)
      replace hF := hF.trans (ap_n (vI_e (f := 98) hO_this (by decide +kernel)))
      refine lv_iconst (v := 1) hx hb dX3_addForce_55 (by decide +kernel) ?_
      refine lv_isub hx hb dX3_addForce_56 ?_
      refine lv_topi (fun x_18 ex_18 => ?_)
      replace hF := hF.trans (ap_n ex_18)
      have h_19 : rg x_18 0 29 := rg_of_eq ex_18 (rg_sub h_16 (rg_k (1 : Int32) 1 rfl) (by decide +kernel))
      subst hQ
      exact W.iret (v := x_18) hx hb hr (fun t1 ht hW => ⟨⟨x_18, (σ, I_15, J, r_12, rj, rq), rfl, ⟨I_15, r_12, rfl, hG, (hF0.symm.trans hF), hFr, (rg_w h_19 (by decide +kernel))⟩, by rw [ht]; exact hP, va_K.moved hW.alike hK, hD⟩, hS.F ht⟩) hS.2.2 dX3_addForce_57
    · replace hF := hF.trans (if_neg c_3)
      have h_20 : rg (I 98 this) 30 30 := rg_le2 (nlt c_3) (rg_k (30 : Int32) 30 rfl) h_1 (by decide +kernel)
      refine lv_iconst (v := (-1)) hx hb dX3_addForce_9 (by decide +kernel) ?_
      subst hQ
      exact W.iret (v := (-1)) hx hb hr (fun t1 ht hW => ⟨⟨(-1), (σ, I, J, ri, rj, rq), rfl, ⟨I, ri, rfl, hG, (hF0.symm.trans hF), hFr, (rg_w (rg_k (-1 : Int32) (-1) rfl) (by decide +kernel))⟩, by rw [ht]; exact hP, va_K.moved hW.alike hK, hD⟩, hS.F ht⟩) hS.2.2 dX3_addForce_10
  exact go _ _ _ hP hD hS hl

set_option maxRecDepth 100000 in
def g_X8_firstOf_L2 (this : Nat) (a0 : Int32) (I : Nat → Int32) (J : Nat → Int64) (ri : Nat → Nat → Int32) (rj : Nat → Nat → Int64) (rq : Nat → Nat → Option Nat) (tI : Nat → Nat → Int32) (tR : Nat → Nat → Nat → Int32) : Nat → (Int32) → Int32 × vM
  | 0, x_127 => ((0 : Int32), I, J, ri, rj, rq)
  | n_144 + 1, x_127 => (ap1 (tI 256 this) fun (y_150 : Int32) => (if (y_150) ≤ x_127 then ((-1 : Int32), I, J, ri, rj, rq) else (ap1 (tR 257 this (x_127).toNatClampNeg) fun (x_161 : Int32) => (if x_161 = a0 then (x_127, I, J, ri, rj, rq) else (ap1 (x_127 + Int32.ofInt 1) fun (x_166 : Int32) => ((g_X8_firstOf_L2 this a0 I J ri rj rq tI tR n_144) x_166))))))
set_option maxRecDepth 100000 in
theorem g_X8_firstOf_L2_e {this : Nat} {a0 : Int32} {I : Nat → Int32} {J : Nat → Int64} {ri : Nat → Nat → Int32} {rj : Nat → Nat → Int64} {rq : Nat → Nat → Option Nat} {tI : Nat → Nat → Int32} {tR : Nat → Nat → Nat → Int32} {n_144 : Nat} {x_127 : Int32} : g_X8_firstOf_L2 this a0 I J ri rj rq tI tR (n_144 + 1) x_127 = (ap1 (tI 256 this) fun (y_150 : Int32) => (if (y_150) ≤ x_127 then ((-1 : Int32), I, J, ri, rj, rq) else (ap1 (tR 257 this (x_127).toNatClampNeg) fun (x_161 : Int32) => (if x_161 = a0 then (x_127, I, J, ri, rj, rq) else (ap1 (x_127 + Int32.ofInt 1) fun (x_166 : Int32) => ((g_X8_firstOf_L2 this a0 I J ri rj rq tI tR n_144) x_166)))))) := rfl
set_option maxRecDepth 100000 in
def g_X8_firstOf (tI : Nat → Nat → Int32) (tR : Nat → Nat → Nat → Int32) (this : Nat) (a0 : Int32) (I : Nat → Int32) (J : Nat → Int64) (ri : Nat → Nat → Int32) (rj : Nat → Nat → Int64) (rq : Nat → Nat → Option Nat) : Int32 × vM := (g_X8_firstOf_L2 this a0 I J ri rj rq tI tR ((20 - ((0 : Int32)).toInt).toNat + 1) (0 : Int32))
set_option maxRecDepth 100000 in
theorem g_X8_firstOf_e {tI : Nat → Nat → Int32} {tR : Nat → Nat → Nat → Int32} {this : Nat} {a0 : Int32} {I : Nat → Int32} {J : Nat → Int64} {ri : Nat → Nat → Int32} {rj : Nat → Nat → Int64} {rq : Nat → Nat → Option Nat} : g_X8_firstOf tI tR this a0 I J ri rj rq = (g_X8_firstOf_L2 this a0 I J ri rj rq tI tR ((20 - ((0 : Int32)).toInt).toNat + 1) (0 : Int32)) := rfl
set_option maxHeartbeats 4000000 in
set_option maxRecDepth 100000 in
theorem s_X8_firstOf (l : Launch) (D : va_G) (t : pq_T) (σ : pq_S) (I : Nat → Nat → Int32) (J : Nat → Nat → Int64) (ri : Nat → Nat → Int32) (rj : Nat → Nat → Int64) (rq : Nat → Nat → Option Nat) (sz : Nat) (tg : Nat → Nat) (hSH : SH σ tg) (hG0 : GS tg σ I ri rq) (this : Nat) (a0 : Int32) (hL_this : this ∈ σ.1) (hK_this : σ.2.1 this = 8) (M : Nat) (hL_M : M ∈ σ.1) (hK_M : σ.2.1 M = 10) : MetI l yX8_firstOf (wa yX8_firstOf cX8_firstOf 3 (some .int)) ({ frames := 0, cells := 0, slots := 0, locals := 0 }) [.ref this, .int a0] D t σ (I, J, ri, rj, rq) sz 0 0 (fun (r : Int32) (u : pq_S × pq_M) => u = (σ, I, J, ri, rj, rq) ∧ (r.toInt = -1 ∨ r.toInt < (I 256 this).toInt) ∧ g_X8_firstOf (tI σ I) (tR σ ri) this a0 (vI 10 σ M I) (vJ 10 σ M J) (vR 10 σ M ri) (vL 10 σ M rj) (vQ 10 σ M rq) = (r, (vI 10 σ M I), (vJ 10 σ M J), (vR 10 σ M ri), (vL 10 σ M rj), (vQ 10 σ M rq)) ∧ rg r (-1) 19) := by
  refine Met.ofW (cc := cX8_firstOf) (maxL := 3) (ret := (some .int)) (by decide +kernel) rfl ?_
  intro p e s m args below meth c s₁ B hml hv
  obtain ⟨rfl, hsz, hP, hK, hD0, hN⟩ := hv
  have hx := B.exec
  have hb := B.bytes
  have hr := B.returns
  have hts := atoms_spec (ws := (wa yX8_firstOf cX8_firstOf 3 (some .int))) B.pre
  have hown : s.vm.findClass RX8 = some m.cls := findClass_of_methodNamed B.named
  have hlocks := B.notSynchronized
  subst hsz
  have hD : va_D (pq_B t σ (I, J, ri, rj, rq) s.heap.size) (pq_P t σ (I, J, ri, rj, rq)) := hD0.self
  generalize hAe : pq_B t σ (I, J, ri, rj, rq) s.heap.size = A at hD ⊢
  have hA : ∀ q : Nat, s.heap.size ≤ q → A q := fun q h => by rw [← hAe]; exact Or.inr h
  have hS : va_S A s.heap s.heap [] := va_S.rf
  have hG : GX [] tg σ I ri rj I ri rj rq := ⟨hG0, fun _ _ _ => rfl, fun _ _ _ _ _ => rfl, fun _ _ _ _ _ => rfl⟩
  have hl := lv_entry ([.ref this, .int a0]) (n := 3) (Nat.le_of_ble_eq_true rfl)
  rw [lg_entry_eq]
  generalize (lg_sl ([.ref this, .int a0]) ++ List.replicate (3 - (lg_sl ([.ref this, .int a0])).length) Slot.unset).toArray = ls at hl ⊢
  have hl : lv_has ls 3 [(0, .ref this), (1, .int a0)] := hl
  refine q_gen (fun Q hQ => ?_)
  have go : ∀ (H : Heap) (locs : List Loc) (ls : Array Slot), va_P D vwCl (pq_P t σ (I, J, ri, rj, rq)) H → va_D A (pq_P t σ (I, J, ri, rj, rq)) → va_S A s.heap H locs → lv_has ls 3 [(0, .ref this), (1, .int a0)] → W p l e ({ frames := 0, cells := 0, slots := 0, locals := 0 } : Room) s m (List.toArray ([.ref this, .int a0] : List Value)) below meth c H locs 0 0 Q (F0 m 0 ls []) := by
    intro H locs ls hP hD hS hl
    have hVT : VT 10 σ tg M := vt_10 hSH hL_M hK_M
    have hFr : FR 10 tg σ M (I, J, ri, rj, rq) (I, J, ri, rj, rq) := fr_rf
    obtain ⟨F, hF0⟩ : ∃ F, F = g_X8_firstOf (tI σ I) (tR σ ri) this a0 (vI 10 σ M I) (vJ 10 σ M J) (vR 10 σ M ri) (vL 10 σ M rj) (vQ 10 σ M rq) := ⟨_, rfl⟩
    have hF := hF0.trans g_X8_firstOf_e
    refine lv_iconst (v := 0) hx hb dX8_firstOf_0 (by decide +kernel) ?_
    refine lv_istore_n (lv' := [(2, .int 0), (0, .ref this), (1, .int a0)]) hx hb dX8_firstOf_1 rfl hl (by decide +kernel) rfl (fun ls hl => ?_)
    have L_145 : ∀ (n_144 : Nat) (x_127 : Int32) (H : Heap) (locs : List Loc) (ls : Array Slot), rg x_127 0 20 → (20 - (x_127).toInt).toNat < n_144 → F = g_X8_firstOf_L2 this a0 (vI 10 σ M I) (vJ 10 σ M J) (vR 10 σ M ri) (vL 10 σ M rj) (vQ 10 σ M rq) (tI σ I) (tR σ ri) n_144 x_127 → FR 10 tg σ M (I, J, ri, rj, rq) (I, J, ri, rj, rq) → GX [] tg σ I ri rj I ri rj rq → va_P D vwCl (pq_P t σ (I, J, ri, rj, rq)) H → va_D A (pq_P t σ (I, J, ri, rj, rq)) → va_S A s.heap H locs → lv_has ls 3 [(0, .ref this), (1, .int a0), (2, .int x_127)] → W p l e ({ frames := 0, cells := 0, slots := 0, locals := 0 } : Room) s m (List.toArray ([.ref this, .int a0] : List Value)) below meth c H locs 0 0 Q (F0 m 2 ls []) := by
      intro n_144
      induction n_144 with
      | zero => intro x_127 H locs ls h_148 hm_143 hF hFr hG hP hD hS hl; exact absurd hm_143 (Nat.not_lt_zero _)
      | succ n_144 ih_146 =>
        intro x_127 H locs ls h_148 hm_143 hF hFr hG hP hD hS hl
        have uh_148 := h_148.1
        have vh_148 := h_148.2
        replace hF := hF.trans g_X8_firstOf_L2_e
        refine lv_iload_n hx hb dX8_firstOf_2 rfl (lv_at hl 2 rfl) ?_
        refine lv_aload_n hx hb dX8_firstOf_3 rfl (lv_at hl 0 rfl) ?_
        refine pg_f (v := .int (I 256 this)) (C := RX8) (T := TX8) (N := 4) hx hb hts (tw_i inlX8) hown hK hP hL_this hK_this (by decide +kernel) rfl 0 (by decide +kernel) (hts _ (tw_c tw_478)) rfl dX8_firstOf_4 ?_
        have h_149 : rg (I 256 this) 0 20 := GX.rI hG 256 rfl
        have uh_149 := h_149.1
        have vh_149 := h_149.2
        replace hF := hF.trans (ap_n (tI_e (f := 256) hFr hL_this hK_this (by decide +kernel)))
        refine lv_icmp_ge (tgt := 28) hx hb dX8_firstOf_7 (by decide +kernel) (fun c_151 => ?_) (fun c_151 => ?_)
        · replace hF := hF.trans (if_pos c_151)
          have tc_156 : (I 256 this).toInt ≤ (x_127).toInt := Int32.le_iff_toInt_le.mp c_151
          refine lv_iconst (v := (-1)) hx hb dX8_firstOf_28 (by decide +kernel) ?_
          subst hQ
          exact W.iret (v := (-1)) hx hb hr (fun t1 ht hW => ⟨⟨(-1), (σ, I, J, ri, rj, rq), rfl, ⟨rfl, (Or.inl rfl), (hF0.symm.trans hF), (rg_w (rg_k (-1 : Int32) (-1) rfl) (by decide +kernel))⟩, by rw [ht]; exact hP, va_K.moved hW.alike hK, hD⟩, hS.F ht⟩) hS.2.2 dX8_firstOf_29
        · replace hF := hF.trans (if_neg c_151)
          have tc_157 : (x_127).toInt < (I 256 this).toInt := Int32.lt_iff_toInt_lt.mp (nle c_151)
          have h_158 : rg x_127 0 19 := rg_lt1 (nle c_151) h_148 h_149 (by decide +kernel)
          have uh_158 := h_158.1
          have vh_158 := h_158.2
          have h_159 : rg (I 256 this) 1 20 := rg_lt2 (nle c_151) h_148 h_149 (by decide +kernel)
          have uh_159 := h_159.1
          have vh_159 := h_159.2
          refine lv_aload_n hx hb dX8_firstOf_10 rfl (lv_at hl 0 rfl) ?_
          obtain ⟨w_160, hR_w_160, hL_w_160, hK_w_160, hN_w_160, hT_w_160⟩ := sh_a hSH 257 (ci := 8) (kd := 13) (len := 20) rfl (by decide +kernel) hL_this hK_this
          refine pg_f (v := .ref w_160) (C := RX8) (T := TX8) (N := 4) hx hb hts (tw_i inlX8) hown hK hP hL_this hK_this (by decide +kernel) rfl 1 (by decide +kernel) (hts _ (tw_c tw_169)) (pq_hv rfl hR_w_160) dX8_firstOf_11 ?_
          refine lv_iload_n hx hb dX8_firstOf_14 rfl (lv_at hl 2 rfl) ?_
          refine pl_i hx hb hK hP hL_w_160 hK_w_160 hN_w_160 (rg_in h_158 (by decide +kernel)) dX8_firstOf_15 ?_
          refine lv_topi (fun x_161 ex_161 => ?_)
          replace hF := hF.trans (ap_n (tR_r hFr hVT hL_this hK_this hR_w_160 hT_w_160 (by decide +kernel) ex_161))
          refine lv_iload_n hx hb dX8_firstOf_16 rfl (lv_at hl 1 rfl) ?_
          refine lv_icmp_ne (tgt := 22) hx hb dX8_firstOf_17 (by decide +kernel) (fun c_162 => ?_) (fun c_162 => ?_)
          · replace hF := hF.trans (if_neg c_162)
            have tc_165 : (x_161).toInt ≠ (a0).toInt := fun q => c_162 (Int32.toInt_inj.mp q)
            obtain ⟨x_166, ex_166⟩ : ∃ y : Int32, y = x_127 + Int32.ofInt 1 := ⟨_, rfl⟩
            replace hF := hF.trans (ap_n ex_166)
            have h_167 : rg x_166 1 20 := rg_of_eq ex_166 (rg_add h_158 (rg_k (Int32.ofInt 1) 1 rfl) (by decide +kernel))
            have uh_167 := h_167.1
            have vh_167 := h_167.2
            have tx_166 : (x_166).toInt = (x_127).toInt + 1 := by rw [ex_166]; exact i_add_rg (a2 := (x_127).toInt) (b2 := 1) rfl rfl h_158 (rg_k (Int32.ofInt 1) 1 rfl) (by decide +kernel)
            refine lv_iinc (v := x_166) (lv' := [(2, .int x_166), (0, .ref this), (1, .int a0)]) hx hb dX8_firstOf_22 hl (k := 2) rfl ex_166.symm (by decide +kernel) rfl (fun ls hl => ?_)
            refine lv_goto (tgt := 2) hx hb dX8_firstOf_25 (by decide +kernel) ?_
            exact ih_146 x_166 _ _ _ (rg_w h_167 (by decide +kernel)) (ms_up 1 hm_143 ex_166 rfl (by decide +kernel) h_158 (by decide +kernel) (by decide +kernel)) hF hFr hG hP hD hS (lv_sub hl [1, 2, 0] rfl)
          · replace hF := hF.trans (if_pos c_162)
            have tc_168 : (x_161).toInt = (a0).toInt := congrArg Int32.toInt c_162
            refine lv_iload_n hx hb dX8_firstOf_20 rfl (lv_at hl 2 rfl) ?_
            subst hQ
            exact W.iret (v := x_127) hx hb hr (fun t1 ht hW => ⟨⟨x_127, (σ, I, J, ri, rj, rq), rfl, ⟨rfl, (by omega), (hF0.symm.trans hF), (rg_w h_158 (by decide +kernel))⟩, by rw [ht]; exact hP, va_K.moved hW.alike hK, hD⟩, hS.F ht⟩) hS.2.2 dX8_firstOf_21
    exact L_145 _ (0 : Int32) _ _ _ (rg_w (rg_k (0 : Int32) 0 rfl) (by decide +kernel)) (Nat.lt_succ_self _) hF hFr hG hP hD hS (lv_sub hl [1, 2, 0] rfl)
  exact go _ _ _ hP hD hS hl

set_option maxRecDepth 100000 in
def g_X3_textFor_K62 (x_102 : Int32) (k_g_X3_textFor_L7 : (Int32) → Option Nat × vM) : Option Nat × vM := (ap1 (x_102 + Int32.ofInt (-1)) fun (x_175 : Int32) => (k_g_X3_textFor_L7 x_175))
set_option maxRecDepth 100000 in
theorem g_X3_textFor_K62_e {x_102 : Int32} {k_g_X3_textFor_L7 : (Int32) → Option Nat × vM} : g_X3_textFor_K62 x_102 k_g_X3_textFor_L7  = (ap1 (x_102 + Int32.ofInt (-1)) fun (x_175 : Int32) => (k_g_X3_textFor_L7 x_175)) := rfl
set_option maxRecDepth 100000 in
def g_X3_textFor_L7 (a0 : Int32) (a1 : Int32) (I : Nat → Int32) (J : Nat → Int64) (ri : Nat → Nat → Int32) (rj : Nat → Nat → Int64) (rq : Nat → Nat → Option Nat) (tI : Nat → Nat → Int32) (tR : Nat → Nat → Nat → Int32) : Nat → (Int32) → Option Nat × vM
  | 0, x_102 => (none, I, J, ri, rj, rq)
  | n_136 + 1, x_102 => (if x_102 < (0 : Int32) then (none, I, J, ri, rj, rq) else (ap1 (ri 100 (x_102).toNatClampNeg) fun (x_147 : Int32) => (if a1 < x_147 then (g_X3_textFor_K62 x_102 (g_X3_textFor_L7 a0 a1 I J ri rj rq tI tR n_136) ) else (ap1 (ri 101 (x_102).toNatClampNeg) fun (x_183 : Int32) => (if x_183 < a1 then (g_X3_textFor_K62 x_102 (g_X3_textFor_L7 a0 a1 I J ri rj rq tI tR n_136) ) else (ap1 (ri 99 (x_102).toNatClampNeg) fun (x_191 : Int32) => (opt1 (rq 97 (x_191).toNatClampNeg) (g_X3_textFor_K62 x_102 (g_X3_textFor_L7 a0 a1 I J ri rj rq tI tR n_136) ) fun (w_x_193 : Nat) => (bnI (g_X8_firstOf tI tR w_x_193 a0 I J ri rj rq) fun (x_194 : Int32) (_ : Nat → Int32) (_ : Nat → Int64) (_ : Nat → Nat → Int32) (_ : Nat → Nat → Int64) (_ : Nat → Nat → Option Nat) => (if x_194 = (-1 : Int32) then (g_X3_textFor_K62 x_102 (g_X3_textFor_L7 a0 a1 I J ri rj rq tI tR n_136) ) else ((some w_x_193), I, J, ri, rj, rq))))))))))
set_option maxRecDepth 100000 in
theorem g_X3_textFor_L7_e {a0 : Int32} {a1 : Int32} {I : Nat → Int32} {J : Nat → Int64} {ri : Nat → Nat → Int32} {rj : Nat → Nat → Int64} {rq : Nat → Nat → Option Nat} {tI : Nat → Nat → Int32} {tR : Nat → Nat → Nat → Int32} {n_136 : Nat} {x_102 : Int32} : g_X3_textFor_L7 a0 a1 I J ri rj rq tI tR (n_136 + 1) x_102 = (if x_102 < (0 : Int32) then (none, I, J, ri, rj, rq) else (ap1 (ri 100 (x_102).toNatClampNeg) fun (x_147 : Int32) => (if a1 < x_147 then (g_X3_textFor_K62 x_102 (g_X3_textFor_L7 a0 a1 I J ri rj rq tI tR n_136) ) else (ap1 (ri 101 (x_102).toNatClampNeg) fun (x_183 : Int32) => (if x_183 < a1 then (g_X3_textFor_K62 x_102 (g_X3_textFor_L7 a0 a1 I J ri rj rq tI tR n_136) ) else (ap1 (ri 99 (x_102).toNatClampNeg) fun (x_191 : Int32) => (opt1 (rq 97 (x_191).toNatClampNeg) (g_X3_textFor_K62 x_102 (g_X3_textFor_L7 a0 a1 I J ri rj rq tI tR n_136) ) fun (w_x_193 : Nat) => (bnI (g_X8_firstOf tI tR w_x_193 a0 I J ri rj rq) fun (x_194 : Int32) (_ : Nat → Int32) (_ : Nat → Int64) (_ : Nat → Nat → Int32) (_ : Nat → Nat → Int64) (_ : Nat → Nat → Option Nat) => (if x_194 = (-1 : Int32) then (g_X3_textFor_K62 x_102 (g_X3_textFor_L7 a0 a1 I J ri rj rq tI tR n_136) ) else ((some w_x_193), I, J, ri, rj, rq)))))))))) := rfl
set_option maxRecDepth 100000 in
def g_X3_textFor (tI : Nat → Nat → Int32) (tR : Nat → Nat → Nat → Int32) (a0 : Int32) (a1 : Int32) (I : Nat → Int32) (J : Nat → Int64) (ri : Nat → Nat → Int32) (rj : Nat → Nat → Int64) (rq : Nat → Nat → Option Nat) : Option Nat × vM := (ap1 (I 98) fun (y_2 : Int32) => (ap1 ((y_2) - (1 : Int32)) fun (x_3 : Int32) => (g_X3_textFor_L7 a0 a1 I J ri rj rq tI tR (((x_3).toInt - (-1)).toNat + 1) x_3)))
set_option maxRecDepth 100000 in
theorem g_X3_textFor_e {tI : Nat → Nat → Int32} {tR : Nat → Nat → Nat → Int32} {a0 : Int32} {a1 : Int32} {I : Nat → Int32} {J : Nat → Int64} {ri : Nat → Nat → Int32} {rj : Nat → Nat → Int64} {rq : Nat → Nat → Option Nat} : g_X3_textFor tI tR a0 a1 I J ri rj rq = (ap1 (I 98) fun (y_2 : Int32) => (ap1 ((y_2) - (1 : Int32)) fun (x_3 : Int32) => (g_X3_textFor_L7 a0 a1 I J ri rj rq tI tR (((x_3).toInt - (-1)).toNat + 1) x_3))) := rfl
set_option maxHeartbeats 4000000 in
set_option maxRecDepth 100000 in
theorem s_X3_textFor (l : Launch) (D : va_G) (t : pq_T) (σ : pq_S) (I : Nat → Nat → Int32) (J : Nat → Nat → Int64) (ri : Nat → Nat → Int32) (rj : Nat → Nat → Int64) (rq : Nat → Nat → Option Nat) (sz : Nat) (tg : Nat → Nat) (hSH : SH σ tg) (hG0 : GS tg σ I ri rq) (this : Nat) (a0 : Int32) (a1 : Int32) (hL_this : this ∈ σ.1) (hK_this : σ.2.1 this = 3) (M : Nat) (hL_M : M ∈ σ.1) (hK_M : σ.2.1 M = 10) (hO_this : this = vo σ 3 M) : MetQ l yX3_textFor (wa yX3_textFor cX3_textFor 5 (some (.object "RingsUnder$Text"))) ({ frames := 1, cells := 0, slots := 0, locals := 22 }) [.ref this, .int a0, .int a1] D t σ (I, J, ri, rj, rq) sz 0 0 (fun (r : Option Nat) (u : pq_S × pq_M) => u = (σ, I, J, ri, rj, rq) ∧ g_X3_textFor (tI σ I) (tR σ ri) a0 a1 (vI 10 σ M I) (vJ 10 σ M J) (vR 10 σ M ri) (vL 10 σ M rj) (vQ 10 σ M rq) = (r, (vI 10 σ M I), (vJ 10 σ M J), (vR 10 σ M ri), (vL 10 σ M rj), (vQ 10 σ M rq)) ∧ (r = none ∨ ∃ w, r = some w ∧ w ∈ σ.1 ∧ σ.2.1 w = 8)) := by
  refine Met.ofW (cc := cX3_textFor) (maxL := 5) (ret := (some (.object "RingsUnder$Text"))) (by decide +kernel) rfl ?_
  intro p e s m args below meth c s₁ B hml hv
  obtain ⟨rfl, hsz, hP, hK, hD0, hN⟩ := hv
  have hx := B.exec
  have hb := B.bytes
  have hr := B.returns
  have hts := atoms_spec (ws := (wa yX3_textFor cX3_textFor 5 (some (.object "RingsUnder$Text")))) B.pre
  have hown : s.vm.findClass RX3 = some m.cls := findClass_of_methodNamed B.named
  have hlocks := B.notSynchronized
  subst hsz
  have hD : va_D (pq_B t σ (I, J, ri, rj, rq) s.heap.size) (pq_P t σ (I, J, ri, rj, rq)) := hD0.self
  generalize hAe : pq_B t σ (I, J, ri, rj, rq) s.heap.size = A at hD ⊢
  have hA : ∀ q : Nat, s.heap.size ≤ q → A q := fun q h => by rw [← hAe]; exact Or.inr h
  have hS : va_S A s.heap s.heap [] := va_S.rf
  have hG : GX [] tg σ I ri rj I ri rj rq := ⟨hG0, fun _ _ _ => rfl, fun _ _ _ _ _ => rfl, fun _ _ _ _ _ => rfl⟩
  have hl := lv_entry ([.ref this, .int a0, .int a1]) (n := 5) (Nat.le_of_ble_eq_true rfl)
  rw [lg_entry_eq]
  generalize (lg_sl ([.ref this, .int a0, .int a1]) ++ List.replicate (5 - (lg_sl ([.ref this, .int a0, .int a1])).length) Slot.unset).toArray = ls at hl ⊢
  have hl : lv_has ls 5 [(0, .ref this), (1, .int a0), (2, .int a1)] := hl
  refine q_gen (fun Q hQ => ?_)
  have go : ∀ (H : Heap) (locs : List Loc) (ls : Array Slot), va_P D vwCl (pq_P t σ (I, J, ri, rj, rq)) H → va_D A (pq_P t σ (I, J, ri, rj, rq)) → va_S A s.heap H locs → lv_has ls 5 [(0, .ref this), (1, .int a0), (2, .int a1)] → W p l e ({ frames := 1, cells := 0, slots := 0, locals := 22 } : Room) s m (List.toArray ([.ref this, .int a0, .int a1] : List Value)) below meth c H locs 0 0 Q (F0 m 0 ls []) := by
    intro H locs ls hP hD hS hl
    have hVT : VT 10 σ tg M := vt_10 hSH hL_M hK_M
    have hFr : FR 10 tg σ M (I, J, ri, rj, rq) (I, J, ri, rj, rq) := fr_rf
    obtain ⟨F, hF0⟩ : ∃ F, F = g_X3_textFor (tI σ I) (tR σ ri) a0 a1 (vI 10 σ M I) (vJ 10 σ M J) (vR 10 σ M ri) (vL 10 σ M rj) (vQ 10 σ M rq) := ⟨_, rfl⟩
    have hF := hF0.trans g_X3_textFor_e
    refine lv_aload_n hx hb dX3_textFor_0 rfl (lv_at hl 0 rfl) ?_
    refine pg_f (v := .int (I 98 this)) (C := RX3) (T := TX3) (N := 8) hx hb hts (tw_i inlX3) hown hK hP hL_this hK_this (by decide +kernel) rfl 2 (by decide +kernel) (hts _ (tw_c tw_473)) rfl dX3_textFor_1 ?_
    have h_1 : rg (I 98 this) 0 30 := GX.rI hG 98 rfl
    replace hF := hF.trans (ap_n (vI_e (f := 98) hO_this (by decide +kernel)))
    refine lv_iconst (v := 1) hx hb dX3_textFor_4 (by decide +kernel) ?_
    refine lv_isub hx hb dX3_textFor_5 ?_
    refine lv_topi (fun x_3 ex_3 => ?_)
    replace hF := hF.trans (ap_n ex_3)
    have h_4 : rg x_3 (-1) 29 := rg_of_eq ex_3 (rg_sub h_1 (rg_k (1 : Int32) 1 rfl) (by decide +kernel))
    refine lv_istore_n (lv' := [(3, .int x_3), (0, .ref this), (1, .int a0), (2, .int a1)]) hx hb dX3_textFor_6 rfl hl (by decide +kernel) rfl (fun ls hl => ?_)
    have L_137 : ∀ (n_136 : Nat) (x_102 : Int32) (H : Heap) (locs : List Loc) (ls : Array Slot), rg x_102 (-1) 29 → ((x_102).toInt - (-1)).toNat < n_136 → F = g_X3_textFor_L7 a0 a1 (vI 10 σ M I) (vJ 10 σ M J) (vR 10 σ M ri) (vL 10 σ M rj) (vQ 10 σ M rq) (tI σ I) (tR σ ri) n_136 x_102 → FR 10 tg σ M (I, J, ri, rj, rq) (I, J, ri, rj, rq) → GX [] tg σ I ri rj I ri rj rq → va_P D vwCl (pq_P t σ (I, J, ri, rj, rq)) H → va_D A (pq_P t σ (I, J, ri, rj, rq)) → va_S A s.heap H locs → lv_has ls 5 [(0, .ref this), (1, .int a0), (2, .int a1), (3, .int x_102)] → W p l e ({ frames := 1, cells := 0, slots := 0, locals := 22 } : Room) s m (List.toArray ([.ref this, .int a0, .int a1] : List Value)) below meth c H locs 0 0 Q (F0 m 7 ls []) := by
      intro n_136
      induction n_136 with
      | zero => intro x_102 H locs ls h_140 hm_135 hF hFr hG hP hD hS hl; exact absurd hm_135 (Nat.not_lt_zero _)
      | succ n_136 ih_138 =>
        intro x_102 H locs ls h_140 hm_135 hF hFr hG hP hD hS hl
        replace hF := hF.trans g_X3_textFor_L7_e
        refine lv_iload_n hx hb dX3_textFor_7 rfl (lv_at hl 3 rfl) ?_
        refine lv_if_lt (tgt := 68) hx hb dX3_textFor_8 (by decide +kernel) (fun c_141 => ?_) (fun c_141 => ?_)
        · replace hF := hF.trans (if_pos c_141)
          have h_144 : rg x_102 (-1) (-1) := rg_lt1 c_141 h_140 (rg_k (0 : Int32) 0 rfl) (by decide +kernel)
          refine lv_null hx hb dX3_textFor_68 ?_
          subst hQ
          exact W.aret (v := .null) hx hb hr (Or.inl ⟨_, rfl⟩) (Or.inl rfl) (fun t1 ht hW => ⟨⟨none, (σ, I, J, ri, rj, rq), rfl, ⟨rfl, (hF0.symm.trans hF), (Or.inl rfl)⟩, by rw [ht]; exact hP, va_K.moved hW.alike hK, hD⟩, hS.F ht⟩) hS.2.2 dX3_textFor_69
        · replace hF := hF.trans (if_neg c_141)
          have h_145 : rg x_102 0 29 := rg_le2 (nlt c_141) (rg_k (0 : Int32) 0 rfl) h_140 (by decide +kernel)
          refine lv_aload_n hx hb dX3_textFor_11 rfl (lv_at hl 0 rfl) ?_
          obtain ⟨w_146, hR_w_146, hL_w_146, hK_w_146, hN_w_146, hT_w_146⟩ := sh_a hSH 100 (ci := 3) (kd := 13) (len := 30) rfl (by decide +kernel) hL_this hK_this
          have hO_w_146 : w_146 = vrow σ 100 M := vo_k (c := 3) hO_this hR_w_146
          refine pg_f (v := .ref w_146) (C := RX3) (T := TX3) (N := 8) hx hb hts (tw_i inlX3) hown hK hP hL_this hK_this (by decide +kernel) rfl 4 (by decide +kernel) (hts _ (tw_c tw_130)) (pq_hv rfl hR_w_146) dX3_textFor_12 ?_
          refine lv_iload_n hx hb dX3_textFor_15 rfl (lv_at hl 3 rfl) ?_
          refine pl_i hx hb hK hP hL_w_146 hK_w_146 hN_w_146 (rg_in h_145 (by decide +kernel)) dX3_textFor_16 ?_
          refine lv_topi (fun x_147 ex_147 => ?_)
          replace hF := hF.trans (ap_n (vR_r hO_w_146 (by decide +kernel) ex_147))
          refine lv_iload_n hx hb dX3_textFor_17 rfl (lv_at hl 2 rfl) ?_
          have K_174 : ∀  (H : Heap) (locs : List Loc) (ls : Array Slot), F = g_X3_textFor_K62 x_102 (g_X3_textFor_L7 a0 a1 (vI 10 σ M I) (vJ 10 σ M J) (vR 10 σ M ri) (vL 10 σ M rj) (vQ 10 σ M rq) (tI σ I) (tR σ ri) n_136)  → FR 10 tg σ M (I, J, ri, rj, rq) (I, J, ri, rj, rq) → GX [] tg σ I ri rj I ri rj rq → va_P D vwCl (pq_P t σ (I, J, ri, rj, rq)) H → va_D A (pq_P t σ (I, J, ri, rj, rq)) → va_S A s.heap H locs → lv_has ls 5 [(0, .ref this), (1, .int a0), (2, .int a1), (3, .int x_102)] → W p l e ({ frames := 1, cells := 0, slots := 0, locals := 22 } : Room) s m (List.toArray ([.ref this, .int a0, .int a1] : List Value)) below meth c H locs 0 0 Q (F0 m 62 ls []) := by
            intro H locs ls hF hFr hG hP hD hS hl
            replace hF := hF.trans g_X3_textFor_K62_e
            obtain ⟨x_175, ex_175⟩ : ∃ y : Int32, y = x_102 + Int32.ofInt (-1) := ⟨_, rfl⟩
            replace hF := hF.trans (ap_n ex_175)
            have h_176 : rg x_175 (-1) 28 := rg_of_eq ex_175 (rg_add h_145 (rg_k (Int32.ofInt (-1)) (-1) rfl) (by decide +kernel))
            refine lv_iinc (v := x_175) (lv' := [(3, .int x_175), (0, .ref this), (1, .int a0), (2, .int a1)]) hx hb dX3_textFor_62 hl (k := 3) rfl ex_175.symm (by decide +kernel) rfl (fun ls hl => ?_)
            refine lv_goto (tgt := 7) hx hb dX3_textFor_65 (by decide +kernel) ?_
            exact ih_138 x_175 _ _ _ (rg_w h_176 (by decide +kernel)) (ms_dn 1 hm_135 ex_175 rfl (by decide +kernel) h_145 (by decide +kernel) (by decide +kernel)) hF hFr hG hP hD hS (lv_sub hl [1, 2, 3, 0] rfl)
          refine lv_icmp_gt (tgt := 62) hx hb dX3_textFor_18 (by decide +kernel) (fun c_177 => ?_) (fun c_177 => ?_)
          · replace hF := hF.trans (if_pos c_177)
            have h_180 : rg a1 (-2147483648) 2147483646 := rg_lt1 c_177 (rg_full _) (rg_full _) (by decide +kernel)
            have h_181 : rg x_147 (-2147483647) 2147483647 := rg_lt2 c_177 (rg_full _) (rg_full _) (by decide +kernel)
            exact K_174 _ _ _ hF hFr hG hP hD hS (lv_sub hl [0, 1, 2, 3] rfl)
          · replace hF := hF.trans (if_neg c_177)
            refine lv_iload_n hx hb dX3_textFor_21 rfl (lv_at hl 2 rfl) ?_
            refine lv_aload_n hx hb dX3_textFor_22 rfl (lv_at hl 0 rfl) ?_
            obtain ⟨w_182, hR_w_182, hL_w_182, hK_w_182, hN_w_182, hT_w_182⟩ := sh_a hSH 101 (ci := 3) (kd := 13) (len := 30) rfl (by decide +kernel) hL_this hK_this
            have hO_w_182 : w_182 = vrow σ 101 M := vo_k (c := 3) hO_this hR_w_182
            refine pg_f (v := .ref w_182) (C := RX3) (T := TX3) (N := 8) hx hb hts (tw_i inlX3) hown hK hP hL_this hK_this (by decide +kernel) rfl 5 (by decide +kernel) (hts _ (tw_c tw_131)) (pq_hv rfl hR_w_182) dX3_textFor_23 ?_
            refine lv_iload_n hx hb dX3_textFor_26 rfl (lv_at hl 3 rfl) ?_
            refine pl_i hx hb hK hP hL_w_182 hK_w_182 hN_w_182 (rg_in h_145 (by decide +kernel)) dX3_textFor_27 ?_
            refine lv_topi (fun x_183 ex_183 => ?_)
            replace hF := hF.trans (ap_n (vR_r hO_w_182 (by decide +kernel) ex_183))
            refine lv_icmp_gt (tgt := 62) hx hb dX3_textFor_28 (by decide +kernel) (fun c_184 => ?_) (fun c_184 => ?_)
            · replace hF := hF.trans (if_pos c_184)
              have h_187 : rg x_183 (-2147483648) 2147483646 := rg_lt1 c_184 (rg_full _) (rg_full _) (by decide +kernel)
              have h_188 : rg a1 (-2147483647) 2147483647 := rg_lt2 c_184 (rg_full _) (rg_full _) (by decide +kernel)
              exact K_174 _ _ _ hF hFr hG hP hD hS (lv_sub hl [0, 1, 2, 3] rfl)
            · replace hF := hF.trans (if_neg c_184)
              refine lv_aload_n hx hb dX3_textFor_31 rfl (lv_at hl 0 rfl) ?_
              obtain ⟨w_189, hR_w_189, hL_w_189, hK_w_189, hN_w_189, hT_w_189⟩ := sh_a hSH 97 (ci := 3) (kd := 16) (len := 10) rfl (by decide +kernel) hL_this hK_this
              have hO_w_189 : w_189 = vrow σ 97 M := vo_k (c := 3) hO_this hR_w_189
              refine pg_f (v := .ref w_189) (C := RX3) (T := TX3) (N := 8) hx hb hts (tw_i inlX3) hown hK hP hL_this hK_this (by decide +kernel) rfl 1 (by decide +kernel) (hts _ (tw_c tw_128)) (pq_hv rfl hR_w_189) dX3_textFor_32 ?_
              refine lv_aload_n hx hb dX3_textFor_35 rfl (lv_at hl 0 rfl) ?_
              obtain ⟨w_190, hR_w_190, hL_w_190, hK_w_190, hN_w_190, hT_w_190⟩ := sh_a hSH 99 (ci := 3) (kd := 13) (len := 30) rfl (by decide +kernel) hL_this hK_this
              have hO_w_190 : w_190 = vrow σ 99 M := vo_k (c := 3) hO_this hR_w_190
              refine pg_f (v := .ref w_190) (C := RX3) (T := TX3) (N := 8) hx hb hts (tw_i inlX3) hown hK hP hL_this hK_this (by decide +kernel) rfl 3 (by decide +kernel) (hts _ (tw_c tw_129)) (pq_hv rfl hR_w_190) dX3_textFor_36 ?_
              refine lv_iload_n hx hb dX3_textFor_39 rfl (lv_at hl 3 rfl) ?_
              refine pl_i hx hb hK hP hL_w_190 hK_w_190 hN_w_190 (rg_in h_145 (by decide +kernel)) dX3_textFor_40 ?_
              refine lv_topi (fun x_191 ex_191 => ?_)
              replace hF := hF.trans (ap_n (vR_r hO_w_190 (by decide +kernel) ex_191))
              have h_192 : rg x_191 0 9 := rg_of_eq ex_191 (GX.rR hG hT_w_190 rfl)
              refine pl_q hx hb hK hP hL_w_189 hK_w_189 hN_w_189 (rg_in h_192 (by decide +kernel)) dX3_textFor_41 ?_
              obtain ⟨o_x_193, eo_x_193⟩ : ∃ o, o = rq w_189 (x_191).toNatClampNeg := ⟨_, rfl⟩
              rw [← eo_x_193]
              replace hF := hF.trans (op_n (vQ_r hO_w_189 (by decide +kernel) eo_x_193))
              rcases o_x_193 with _ | w_x_193
              · replace hF := hF.trans op_0
                refine lv_astoreN (lv' := [(4, .null), (0, .ref this), (1, .int a0), (2, .int a1), (3, .int x_102)]) hx hb dX3_textFor_42 hl (by decide +kernel) rfl (fun ls hl => ?_)
                refine lv_aloadN hx hb dX3_textFor_44 (lv_at hl 0 rfl) ?_
                refine lv_ifnullN (tgt := 62) hx hb dX3_textFor_46 (by decide +kernel) ?_
                exact K_174 _ _ _ hF hFr hG hP hD hS (lv_sub hl [1, 2, 3, 4] rfl)
              · replace hF := hF.trans op_1
                have hL_w_x_193 := (GX.rQ hG eo_x_193.symm).1
                have hK_w_x_193 := (GX.rQ hG eo_x_193.symm).2
                refine lv_astore (lv' := [(4, .ref w_x_193), (0, .ref this), (1, .int a0), (2, .int a1), (3, .int x_102)]) hx hb dX3_textFor_42 hl (by decide +kernel) rfl (fun ls hl => ?_)
                refine lv_aload hx hb dX3_textFor_44 (lv_at hl 0 rfl) ?_
                refine lv_ifnull hx hb dX3_textFor_46 ?_
                refine lv_aload hx hb dX3_textFor_49 (lv_at hl 0 rfl) ?_
                refine lv_iload_n hx hb dX3_textFor_51 rfl (lv_at hl 2 rfl) ?_
                refine pk_i (va_runV (As := [.int a0]) (rest := []) ⟨hx, hb, hml, hown, hts⟩ (s_X8_firstOf l D t σ I J ri rj rq H.size tg hSH hG.1 w_x_193 a0 hL_w_x_193 hK_w_x_193 M hL_M hK_M) (cwV 1 hts (tw_V tw_474 tw_475 tw_476 tw_159 tw_477) rfl rfl rfl cv_yX8_firstOf_1 ⟨Nat.le_of_ble_eq_true rfl, Nat.le_of_ble_eq_true rfl⟩) ⟨pq_blind, pq_recv hK hP hL_w_x_193 hK_w_x_193 (by decide +kernel) rfl, pq_pre hK hN hP hD⟩ rfl rfl hl.1 rfl (lv_room (Nat.le_of_ble_eq_true rfl)) dX3_textFor_52 ⟨Nat.le_of_ble_eq_true rfl, Nat.le_of_ble_eq_true rfl⟩) hD hS hA (fun x_194 σ1 μ1 H locs hw_195 hP hD hS => ?_)
                obtain ⟨hu_196, hp_199, hfn_200, hr_198⟩ := hw_195
                obtain ⟨hu_196a, hu_196b⟩ := Prod.mk.inj hu_196
                rw [hu_196a, hu_196b] at hP hD
                replace hF := hF.trans (bn_n hfn_200)
                refine lv_iconst (v := (-1)) hx hb dX3_textFor_55 (by decide +kernel) ?_
                refine lv_icmp_eq (tgt := 62) hx hb dX3_textFor_56 (by decide +kernel) (fun c_202 => ?_) (fun c_202 => ?_)
                · replace hF := hF.trans (if_pos c_202)
                  have h_205 : rg x_194 (-1) (-1) := rg_and hr_198 (rg_of_eq c_202 (rg_k (-1 : Int32) (-1) rfl)) (by decide +kernel)
                  exact K_174 _ _ _ hF hFr hG hP hD hS (lv_sub hl [1, 2, 3, 4] rfl)
                · replace hF := hF.trans (if_neg c_202)
                  have h_206 : rg x_194 0 19 := rg_ne c_202 hr_198 (-1) rfl (by decide +kernel)
                  refine lv_aload hx hb dX3_textFor_59 (lv_at hl 0 rfl) ?_
                  subst hQ
                  exact W.aret (v := .ref w_x_193) hx hb hr (Or.inl ⟨_, rfl⟩) (Or.inr ⟨_, rfl⟩) (fun t1 ht hW => ⟨⟨(some w_x_193), (σ, I, J, ri, rj, rq), rfl, ⟨rfl, (hF0.symm.trans hF), (Or.inr ⟨w_x_193, rfl, hL_w_x_193, hK_w_x_193⟩)⟩, by rw [ht]; exact hP, va_K.moved hW.alike hK, hD⟩, hS.F ht⟩) hS.2.2 dX3_textFor_61
    exact L_137 _ x_3 _ _ _ (rg_w h_4 (by decide +kernel)) (Nat.lt_succ_self _) hF hFr hG hP hD hS (lv_sub hl [1, 2, 3, 0] rfl)
  exact go _ _ _ hP hD hS hl

set_option maxRecDepth 100000 in
def g_X8_numberOf (tI : Nat → Nat → Int32) (tR : Nat → Nat → Nat → Int32) (this : Nat) (a0 : Int32) (a1 : Int32) (I : Nat → Int32) (J : Nat → Int64) (ri : Nat → Nat → Int32) (rj : Nat → Nat → Int64) (rq : Nat → Nat → Option Nat) : Int32 × vM := (bnI (g_X8_firstOf tI tR this a0 I J ri rj rq) fun (x_1 : Int32) (_ : Nat → Int32) (_ : Nat → Int64) (_ : Nat → Nat → Int32) (_ : Nat → Nat → Int64) (_ : Nat → Nat → Option Nat) => (if x_1 = (-1 : Int32) then (a1, I, J, ri, rj, rq) else (ap1 (tR 258 this (x_1).toNatClampNeg) fun (x_19 : Int32) => (ap1 (tR 259 this (x_19).toNatClampNeg) fun (x_21 : Int32) => (x_21, I, J, ri, rj, rq)))))
set_option maxRecDepth 100000 in
theorem g_X8_numberOf_e {tI : Nat → Nat → Int32} {tR : Nat → Nat → Nat → Int32} {this : Nat} {a0 : Int32} {a1 : Int32} {I : Nat → Int32} {J : Nat → Int64} {ri : Nat → Nat → Int32} {rj : Nat → Nat → Int64} {rq : Nat → Nat → Option Nat} : g_X8_numberOf tI tR this a0 a1 I J ri rj rq = (bnI (g_X8_firstOf tI tR this a0 I J ri rj rq) fun (x_1 : Int32) (_ : Nat → Int32) (_ : Nat → Int64) (_ : Nat → Nat → Int32) (_ : Nat → Nat → Int64) (_ : Nat → Nat → Option Nat) => (if x_1 = (-1 : Int32) then (a1, I, J, ri, rj, rq) else (ap1 (tR 258 this (x_1).toNatClampNeg) fun (x_19 : Int32) => (ap1 (tR 259 this (x_19).toNatClampNeg) fun (x_21 : Int32) => (x_21, I, J, ri, rj, rq))))) := rfl
set_option maxHeartbeats 4000000 in
set_option maxRecDepth 100000 in
theorem s_X8_numberOf (l : Launch) (D : va_G) (t : pq_T) (σ : pq_S) (I : Nat → Nat → Int32) (J : Nat → Nat → Int64) (ri : Nat → Nat → Int32) (rj : Nat → Nat → Int64) (rq : Nat → Nat → Option Nat) (sz : Nat) (tg : Nat → Nat) (hSH : SH σ tg) (hG0 : GS tg σ I ri rq) (this : Nat) (a0 : Int32) (a1 : Int32) (hL_this : this ∈ σ.1) (hK_this : σ.2.1 this = 8) (M : Nat) (hL_M : M ∈ σ.1) (hK_M : σ.2.1 M = 10) : MetI l yX8_numberOf (wa yX8_numberOf cX8_numberOf 4 (some .int)) ({ frames := 1, cells := 0, slots := 0, locals := 22 }) [.ref this, .int a0, .int a1] D t σ (I, J, ri, rj, rq) sz 0 0 (fun (r : Int32) (u : pq_S × pq_M) => u = (σ, I, J, ri, rj, rq) ∧ g_X8_numberOf (tI σ I) (tR σ ri) this a0 a1 (vI 10 σ M I) (vJ 10 σ M J) (vR 10 σ M ri) (vL 10 σ M rj) (vQ 10 σ M rq) = (r, (vI 10 σ M I), (vJ 10 σ M J), (vR 10 σ M ri), (vL 10 σ M rj), (vQ 10 σ M rq))) := by
  refine Met.ofW (cc := cX8_numberOf) (maxL := 4) (ret := (some .int)) (by decide +kernel) rfl ?_
  intro p e s m args below meth c s₁ B hml hv
  obtain ⟨rfl, hsz, hP, hK, hD0, hN⟩ := hv
  have hx := B.exec
  have hb := B.bytes
  have hr := B.returns
  have hts := atoms_spec (ws := (wa yX8_numberOf cX8_numberOf 4 (some .int))) B.pre
  have hown : s.vm.findClass RX8 = some m.cls := findClass_of_methodNamed B.named
  have hlocks := B.notSynchronized
  subst hsz
  have hD : va_D (pq_B t σ (I, J, ri, rj, rq) s.heap.size) (pq_P t σ (I, J, ri, rj, rq)) := hD0.self
  generalize hAe : pq_B t σ (I, J, ri, rj, rq) s.heap.size = A at hD ⊢
  have hA : ∀ q : Nat, s.heap.size ≤ q → A q := fun q h => by rw [← hAe]; exact Or.inr h
  have hS : va_S A s.heap s.heap [] := va_S.rf
  have hG : GX [] tg σ I ri rj I ri rj rq := ⟨hG0, fun _ _ _ => rfl, fun _ _ _ _ _ => rfl, fun _ _ _ _ _ => rfl⟩
  have hl := lv_entry ([.ref this, .int a0, .int a1]) (n := 4) (Nat.le_of_ble_eq_true rfl)
  rw [lg_entry_eq]
  generalize (lg_sl ([.ref this, .int a0, .int a1]) ++ List.replicate (4 - (lg_sl ([.ref this, .int a0, .int a1])).length) Slot.unset).toArray = ls at hl ⊢
  have hl : lv_has ls 4 [(0, .ref this), (1, .int a0), (2, .int a1)] := hl
  refine q_gen (fun Q hQ => ?_)
  have go : ∀ (H : Heap) (locs : List Loc) (ls : Array Slot), va_P D vwCl (pq_P t σ (I, J, ri, rj, rq)) H → va_D A (pq_P t σ (I, J, ri, rj, rq)) → va_S A s.heap H locs → lv_has ls 4 [(0, .ref this), (1, .int a0), (2, .int a1)] → W p l e ({ frames := 1, cells := 0, slots := 0, locals := 22 } : Room) s m (List.toArray ([.ref this, .int a0, .int a1] : List Value)) below meth c H locs 0 0 Q (F0 m 0 ls []) := by
    intro H locs ls hP hD hS hl
    have hVT : VT 10 σ tg M := vt_10 hSH hL_M hK_M
    have hFr : FR 10 tg σ M (I, J, ri, rj, rq) (I, J, ri, rj, rq) := fr_rf
    obtain ⟨F, hF0⟩ : ∃ F, F = g_X8_numberOf (tI σ I) (tR σ ri) this a0 a1 (vI 10 σ M I) (vJ 10 σ M J) (vR 10 σ M ri) (vL 10 σ M rj) (vQ 10 σ M rq) := ⟨_, rfl⟩
    have hF := hF0.trans g_X8_numberOf_e
    refine lv_aload_n hx hb dX8_numberOf_0 rfl (lv_at hl 0 rfl) ?_
    refine lv_iload_n hx hb dX8_numberOf_1 rfl (lv_at hl 1 rfl) ?_
    refine pk_i (va_runV (As := [.int a0]) (rest := []) ⟨hx, hb, hml, hown, hts⟩ (s_X8_firstOf l D t σ I J ri rj rq H.size tg hSH hG.1 this a0 hL_this hK_this M hL_M hK_M) (cwV 1 hts (tw_V tw_1003 tw_475 tw_476 tw_159 tw_477) rfl rfl rfl cv_yX8_firstOf_1 ⟨Nat.le_of_ble_eq_true rfl, Nat.le_of_ble_eq_true rfl⟩) ⟨pq_blind, pq_recv hK hP hL_this hK_this (by decide +kernel) rfl, pq_pre hK hN hP hD⟩ rfl rfl hl.1 rfl (lv_room (Nat.le_of_ble_eq_true rfl)) dX8_numberOf_2 ⟨Nat.le_of_ble_eq_true rfl, Nat.le_of_ble_eq_true rfl⟩) hD hS hA (fun x_1 σ1 μ1 H locs hw_2 hP hD hS => ?_)
    obtain ⟨hu_3, hp_6, hfn_7, hr_5⟩ := hw_2
    obtain ⟨hu_3a, hu_3b⟩ := Prod.mk.inj hu_3
    rw [hu_3a, hu_3b] at hP hD
    replace hF := hF.trans (bn_n hfn_7)
    refine lv_istore_n (lv' := [(3, .int x_1), (0, .ref this), (1, .int a0), (2, .int a1)]) hx hb dX8_numberOf_5 rfl hl (by decide +kernel) rfl (fun ls hl => ?_)
    refine lv_iload_n hx hb dX8_numberOf_6 rfl (lv_at hl 0 rfl) ?_
    refine lv_iconst (v := (-1)) hx hb dX8_numberOf_7 (by decide +kernel) ?_
    refine lv_icmp_ne (tgt := 15) hx hb dX8_numberOf_8 (by decide +kernel) (fun c_9 => ?_) (fun c_9 => ?_)
    · replace hF := hF.trans (if_neg c_9)
      have tc_14 : (x_1).toInt ≠ (-1) := fun q => c_9 (Int32.toInt_inj.mp q)
      have h_15 : rg x_1 0 19 := rg_ne c_9 hr_5 (-1) rfl (by decide +kernel)
      have uh_15 := h_15.1
      have vh_15 := h_15.2
      refine lv_aload_n hx hb dX8_numberOf_15 rfl (lv_at hl 1 rfl) ?_
      obtain ⟨w_16, hR_w_16, hL_w_16, hK_w_16, hN_w_16, hT_w_16⟩ := sh_a hSH 259 (ci := 8) (kd := 13) (len := 300) rfl (by decide +kernel) hL_this hK_this
      refine pg_f (v := .ref w_16) (C := RX8) (T := TX8) (N := 4) hx hb hts (tw_i inlX8) hown hK hP hL_this hK_this (by decide +kernel) rfl 3 (by decide +kernel) (hts _ (tw_c tw_171)) (pq_hv rfl hR_w_16) dX8_numberOf_16 ?_
      refine lv_aload_n hx hb dX8_numberOf_19 rfl (lv_at hl 1 rfl) ?_
      obtain ⟨w_17, hR_w_17, hL_w_17, hK_w_17, hN_w_17, hT_w_17⟩ := sh_a hSH 258 (ci := 8) (kd := 13) (len := 21) rfl (by decide +kernel) hL_this hK_this
      refine pg_f (v := .ref w_17) (C := RX8) (T := TX8) (N := 4) hx hb hts (tw_i inlX8) hown hK hP hL_this hK_this (by decide +kernel) rfl 2 (by decide +kernel) (hts _ (tw_c tw_170)) (pq_hv rfl hR_w_17) dX8_numberOf_20 ?_
      refine lv_iload_n hx hb dX8_numberOf_23 rfl (lv_at hl 0 rfl) ?_
      have h_18 : rg (ri w_17 (x_1).toNatClampNeg) 0 299 := GX.tx hG hL_this hK_this hR_w_17 hT_w_17 (by omega) (by omega)
      refine pl_i hx hb hK hP hL_w_17 hK_w_17 hN_w_17 (rg_in h_15 (by decide +kernel)) dX8_numberOf_24 ?_
      refine lv_topi (fun x_19 ex_19 => ?_)
      replace hF := hF.trans (ap_n (tR_r hFr hVT hL_this hK_this hR_w_17 hT_w_17 (by decide +kernel) ex_19))
      have h_20 : rg x_19 0 299 := rg_of_eq ex_19 (h_18)
      have uh_20 := h_20.1
      have vh_20 := h_20.2
      refine pl_i hx hb hK hP hL_w_16 hK_w_16 hN_w_16 (rg_in h_20 (by decide +kernel)) dX8_numberOf_25 ?_
      refine lv_topi (fun x_21 ex_21 => ?_)
      replace hF := hF.trans (ap_n (tR_r hFr hVT hL_this hK_this hR_w_16 hT_w_16 (by decide +kernel) ex_21))
      subst hQ
      exact W.iret (v := x_21) hx hb hr (fun t1 ht hW => ⟨⟨x_21, (σ, I, J, ri, rj, rq), rfl, ⟨rfl, (hF0.symm.trans hF)⟩, by rw [ht]; exact hP, va_K.moved hW.alike hK, hD⟩, hS.F ht⟩) hS.2.2 dX8_numberOf_26
    · replace hF := hF.trans (if_pos c_9)
      have tc_22 : (x_1).toInt = (-1) := congrArg Int32.toInt c_9
      have h_23 : rg x_1 (-1) (-1) := rg_and hr_5 (rg_of_eq c_9 (rg_k (-1 : Int32) (-1) rfl)) (by decide +kernel)
      have uh_23 := h_23.1
      have vh_23 := h_23.2
      refine lv_iload_n hx hb dX8_numberOf_11 rfl (lv_at hl 3 rfl) ?_
      refine lv_goto (tgt := 26) hx hb dX8_numberOf_12 (by decide +kernel) ?_
      subst hQ
      exact W.iret (v := a1) hx hb hr (fun t1 ht hW => ⟨⟨a1, (σ, I, J, ri, rj, rq), rfl, ⟨rfl, (hF0.symm.trans hF)⟩, by rw [ht]; exact hP, va_K.moved hW.alike hK, hD⟩, hS.F ht⟩) hS.2.2 dX8_numberOf_26
  exact go _ _ _ hP hD hS hl

set_option maxRecDepth 100000 in
def g_X3_numberIn (tI : Nat → Nat → Int32) (tR : Nat → Nat → Nat → Int32) (a0 : Int32) (a1 : Int32) (a2 : Int32) (I : Nat → Int32) (J : Nat → Int64) (ri : Nat → Nat → Int32) (rj : Nat → Nat → Int64) (rq : Nat → Nat → Option Nat) : Int32 × vM := (bnI (g_X3_textFor tI tR a0 a1 I J ri rj rq) fun (x_1 : Option Nat) (_ : Nat → Int32) (_ : Nat → Int64) (_ : Nat → Nat → Int32) (_ : Nat → Nat → Int64) (_ : Nat → Nat → Option Nat) => (opt1 (x_1) (a2, I, J, ri, rj, rq) fun (w_x_1 : Nat) => (bnI (g_X8_numberOf tI tR w_x_1 a0 a2 I J ri rj rq) fun (x_8 : Int32) (_ : Nat → Int32) (_ : Nat → Int64) (_ : Nat → Nat → Int32) (_ : Nat → Nat → Int64) (_ : Nat → Nat → Option Nat) => (x_8, I, J, ri, rj, rq))))
set_option maxRecDepth 100000 in
theorem g_X3_numberIn_e {tI : Nat → Nat → Int32} {tR : Nat → Nat → Nat → Int32} {a0 : Int32} {a1 : Int32} {a2 : Int32} {I : Nat → Int32} {J : Nat → Int64} {ri : Nat → Nat → Int32} {rj : Nat → Nat → Int64} {rq : Nat → Nat → Option Nat} : g_X3_numberIn tI tR a0 a1 a2 I J ri rj rq = (bnI (g_X3_textFor tI tR a0 a1 I J ri rj rq) fun (x_1 : Option Nat) (_ : Nat → Int32) (_ : Nat → Int64) (_ : Nat → Nat → Int32) (_ : Nat → Nat → Int64) (_ : Nat → Nat → Option Nat) => (opt1 (x_1) (a2, I, J, ri, rj, rq) fun (w_x_1 : Nat) => (bnI (g_X8_numberOf tI tR w_x_1 a0 a2 I J ri rj rq) fun (x_8 : Int32) (_ : Nat → Int32) (_ : Nat → Int64) (_ : Nat → Nat → Int32) (_ : Nat → Nat → Int64) (_ : Nat → Nat → Option Nat) => (x_8, I, J, ri, rj, rq)))) := rfl
set_option maxHeartbeats 4000000 in
set_option maxRecDepth 100000 in
theorem s_X3_numberIn (l : Launch) (D : va_G) (t : pq_T) (σ : pq_S) (I : Nat → Nat → Int32) (J : Nat → Nat → Int64) (ri : Nat → Nat → Int32) (rj : Nat → Nat → Int64) (rq : Nat → Nat → Option Nat) (sz : Nat) (tg : Nat → Nat) (hSH : SH σ tg) (hG0 : GS tg σ I ri rq) (this : Nat) (a0 : Int32) (a1 : Int32) (a2 : Int32) (hL_this : this ∈ σ.1) (hK_this : σ.2.1 this = 3) (M : Nat) (hL_M : M ∈ σ.1) (hK_M : σ.2.1 M = 10) (hO_this : this = vo σ 3 M) : MetI l yX3_numberIn (wa yX3_numberIn cX3_numberIn 5 (some .int)) ({ frames := 2, cells := 0, slots := 0, locals := 46 }) [.ref this, .int a0, .int a1, .int a2] D t σ (I, J, ri, rj, rq) sz 0 0 (fun (r : Int32) (u : pq_S × pq_M) => u = (σ, I, J, ri, rj, rq) ∧ g_X3_numberIn (tI σ I) (tR σ ri) a0 a1 a2 (vI 10 σ M I) (vJ 10 σ M J) (vR 10 σ M ri) (vL 10 σ M rj) (vQ 10 σ M rq) = (r, (vI 10 σ M I), (vJ 10 σ M J), (vR 10 σ M ri), (vL 10 σ M rj), (vQ 10 σ M rq))) := by
  refine Met.ofW (cc := cX3_numberIn) (maxL := 5) (ret := (some .int)) (by decide +kernel) rfl ?_
  intro p e s m args below meth c s₁ B hml hv
  obtain ⟨rfl, hsz, hP, hK, hD0, hN⟩ := hv
  have hx := B.exec
  have hb := B.bytes
  have hr := B.returns
  have hts := atoms_spec (ws := (wa yX3_numberIn cX3_numberIn 5 (some .int))) B.pre
  have hown : s.vm.findClass RX3 = some m.cls := findClass_of_methodNamed B.named
  have hlocks := B.notSynchronized
  subst hsz
  have hD : va_D (pq_B t σ (I, J, ri, rj, rq) s.heap.size) (pq_P t σ (I, J, ri, rj, rq)) := hD0.self
  generalize hAe : pq_B t σ (I, J, ri, rj, rq) s.heap.size = A at hD ⊢
  have hA : ∀ q : Nat, s.heap.size ≤ q → A q := fun q h => by rw [← hAe]; exact Or.inr h
  have hS : va_S A s.heap s.heap [] := va_S.rf
  have hG : GX [] tg σ I ri rj I ri rj rq := ⟨hG0, fun _ _ _ => rfl, fun _ _ _ _ _ => rfl, fun _ _ _ _ _ => rfl⟩
  have hl := lv_entry ([.ref this, .int a0, .int a1, .int a2]) (n := 5) (Nat.le_of_ble_eq_true rfl)
  rw [lg_entry_eq]
  generalize (lg_sl ([.ref this, .int a0, .int a1, .int a2]) ++ List.replicate (5 - (lg_sl ([.ref this, .int a0, .int a1, .int a2])).length) Slot.unset).toArray = ls at hl ⊢
  have hl : lv_has ls 5 [(0, .ref this), (1, .int a0), (2, .int a1), (3, .int a2)] := hl
  refine q_gen (fun Q hQ => ?_)
  have go : ∀ (H : Heap) (locs : List Loc) (ls : Array Slot), va_P D vwCl (pq_P t σ (I, J, ri, rj, rq)) H → va_D A (pq_P t σ (I, J, ri, rj, rq)) → va_S A s.heap H locs → lv_has ls 5 [(0, .ref this), (1, .int a0), (2, .int a1), (3, .int a2)] → W p l e ({ frames := 2, cells := 0, slots := 0, locals := 46 } : Room) s m (List.toArray ([.ref this, .int a0, .int a1, .int a2] : List Value)) below meth c H locs 0 0 Q (F0 m 0 ls []) := by
    intro H locs ls hP hD hS hl
    have hVT : VT 10 σ tg M := vt_10 hSH hL_M hK_M
    have hFr : FR 10 tg σ M (I, J, ri, rj, rq) (I, J, ri, rj, rq) := fr_rf
    obtain ⟨F, hF0⟩ : ∃ F, F = g_X3_numberIn (tI σ I) (tR σ ri) a0 a1 a2 (vI 10 σ M I) (vJ 10 σ M J) (vR 10 σ M ri) (vL 10 σ M rj) (vQ 10 σ M rq) := ⟨_, rfl⟩
    have hF := hF0.trans g_X3_numberIn_e
    refine lv_aload_n hx hb dX3_numberIn_0 rfl (lv_at hl 0 rfl) ?_
    refine lv_iload_n hx hb dX3_numberIn_1 rfl (lv_at hl 1 rfl) ?_
    refine lv_iload_n hx hb dX3_numberIn_2 rfl (lv_at hl 2 rfl) ?_
    refine pk_q (va_runV (As := [.int a0, .int a1]) (rest := []) ⟨hx, hb, hml, hown, hts⟩ (s_X3_textFor l D t σ I J ri rj rq H.size tg hSH hG.1 this a0 a1 hL_this hK_this M hL_M hK_M hO_this) (cwV 2 hts (tw_V tw_469 tw_470 tw_471 tw_49 tw_472) rfl rfl rfl cv_yX3_textFor_2 ⟨Nat.le_of_ble_eq_true rfl, Nat.le_of_ble_eq_true rfl⟩) ⟨pq_blind, pq_recv hK hP hL_this hK_this (by decide +kernel) rfl, pq_pre hK hN hP hD⟩ rfl rfl hl.1 rfl (lv_room (Nat.le_of_ble_eq_true rfl)) dX3_numberIn_3 ⟨Nat.le_of_ble_eq_true rfl, Nat.le_of_ble_eq_true rfl⟩) hD hS hA (fun x_1 σ1 μ1 H locs hw_2 hP hD hS => ?_)
    obtain ⟨hu_3, hfn_6, hr_5⟩ := hw_2
    obtain ⟨hu_3a, hu_3b⟩ := Prod.mk.inj hu_3
    rw [hu_3a, hu_3b] at hP hD
    replace hF := hF.trans (bn_n hfn_6)
    rcases hr_5 with rfl | ⟨w_x_1, rfl, hL_w_x_1, hK_w_x_1⟩
    · replace hF := hF.trans op_0
      refine lv_astoreN (lv' := [(4, .null), (0, .ref this), (1, .int a0), (2, .int a1), (3, .int a2)]) hx hb dX3_numberIn_6 hl (by decide +kernel) rfl (fun ls hl => ?_)
      refine lv_aloadN hx hb dX3_numberIn_8 (lv_at hl 0 rfl) ?_
      refine lv_ifnonnullN hx hb dX3_numberIn_10 ?_
      refine lv_iload_n hx hb dX3_numberIn_13 rfl (lv_at hl 4 rfl) ?_
      refine lv_goto (tgt := 24) hx hb dX3_numberIn_14 (by decide +kernel) ?_
      subst hQ
      exact W.iret (v := a2) hx hb hr (fun t1 ht hW => ⟨⟨a2, (σ, I, J, ri, rj, rq), rfl, ⟨rfl, (hF0.symm.trans hF)⟩, by rw [ht]; exact hP, va_K.moved hW.alike hK, hD⟩, hS.F ht⟩) hS.2.2 dX3_numberIn_24
    · replace hF := hF.trans op_1
      refine lv_astore (lv' := [(4, .ref w_x_1), (0, .ref this), (1, .int a0), (2, .int a1), (3, .int a2)]) hx hb dX3_numberIn_6 hl (by decide +kernel) rfl (fun ls hl => ?_)
      refine lv_aload hx hb dX3_numberIn_8 (lv_at hl 0 rfl) ?_
      refine lv_ifnonnull (tgt := 17) hx hb dX3_numberIn_10 (by decide +kernel) ?_
      refine lv_aload hx hb dX3_numberIn_17 (lv_at hl 0 rfl) ?_
      refine lv_iload_n hx hb dX3_numberIn_19 rfl (lv_at hl 2 rfl) ?_
      refine lv_iload_n hx hb dX3_numberIn_20 rfl (lv_at hl 4 rfl) ?_
      refine pk_i (va_runV (As := [.int a0, .int a2]) (rest := []) ⟨hx, hb, hml, hown, hts⟩ (s_X8_numberOf l D t σ I J ri rj rq H.size tg hSH hG.1 w_x_1 a0 a2 hL_w_x_1 hK_w_x_1 M hL_M hK_M) (cwV 2 hts (tw_V tw_999 tw_1000 tw_1001 tw_159 tw_1002) rfl rfl rfl cv_yX8_numberOf_2 ⟨Nat.le_of_ble_eq_true rfl, Nat.le_of_ble_eq_true rfl⟩) ⟨pq_blind, pq_recv hK hP hL_w_x_1 hK_w_x_1 (by decide +kernel) rfl, pq_pre hK hN hP hD⟩ rfl rfl hl.1 rfl (lv_room (Nat.le_of_ble_eq_true rfl)) dX3_numberIn_21 ⟨Nat.le_of_ble_eq_true rfl, Nat.le_of_ble_eq_true rfl⟩) hD hS hA (fun x_8 σ1 μ1 H locs hw_9 hP hD hS => ?_)
      obtain ⟨hu_10, hfn_13⟩ := hw_9
      obtain ⟨hu_10a, hu_10b⟩ := Prod.mk.inj hu_10
      rw [hu_10a, hu_10b] at hP hD
      replace hF := hF.trans (bn_n hfn_13)
      subst hQ
      exact W.iret (v := x_8) hx hb hr (fun t1 ht hW => ⟨⟨x_8, (σ, I, J, ri, rj, rq), rfl, ⟨rfl, (hF0.symm.trans hF)⟩, by rw [ht]; exact hP, va_K.moved hW.alike hK, hD⟩, hS.F ht⟩) hS.2.2 dX3_numberIn_24
  exact go _ _ _ hP hD hS hl

set_option maxRecDepth 100000 in
def g_X3_councilIn (tI : Nat → Nat → Int32) (tR : Nat → Nat → Nat → Int32) (a0 : Int32) (I : Nat → Int32) (J : Nat → Int64) (ri : Nat → Nat → Int32) (rj : Nat → Nat → Int64) (rq : Nat → Nat → Option Nat) : Int32 × vM := (bnI (g_X3_numberIn tI tR (6 : Int32) a0 (50 : Int32) I J ri rj rq) fun (x_1 : Int32) (_ : Nat → Int32) (_ : Nat → Int64) (_ : Nat → Nat → Int32) (_ : Nat → Nat → Int64) (_ : Nat → Nat → Option Nat) => (x_1, I, J, ri, rj, rq))
set_option maxRecDepth 100000 in
theorem g_X3_councilIn_e {tI : Nat → Nat → Int32} {tR : Nat → Nat → Nat → Int32} {a0 : Int32} {I : Nat → Int32} {J : Nat → Int64} {ri : Nat → Nat → Int32} {rj : Nat → Nat → Int64} {rq : Nat → Nat → Option Nat} : g_X3_councilIn tI tR a0 I J ri rj rq = (bnI (g_X3_numberIn tI tR (6 : Int32) a0 (50 : Int32) I J ri rj rq) fun (x_1 : Int32) (_ : Nat → Int32) (_ : Nat → Int64) (_ : Nat → Nat → Int32) (_ : Nat → Nat → Int64) (_ : Nat → Nat → Option Nat) => (x_1, I, J, ri, rj, rq)) := rfl
set_option maxHeartbeats 4000000 in
set_option maxRecDepth 100000 in
theorem s_X3_councilIn (l : Launch) (D : va_G) (t : pq_T) (σ : pq_S) (I : Nat → Nat → Int32) (J : Nat → Nat → Int64) (ri : Nat → Nat → Int32) (rj : Nat → Nat → Int64) (rq : Nat → Nat → Option Nat) (sz : Nat) (tg : Nat → Nat) (hSH : SH σ tg) (hG0 : GS tg σ I ri rq) (this : Nat) (a0 : Int32) (hL_this : this ∈ σ.1) (hK_this : σ.2.1 this = 3) (M : Nat) (hL_M : M ∈ σ.1) (hK_M : σ.2.1 M = 10) (hO_this : this = vo σ 3 M) : MetI l yX3_councilIn (wa yX3_councilIn cX3_councilIn 2 (some .int)) ({ frames := 3, cells := 0, slots := 0, locals := 70 }) [.ref this, .int a0] D t σ (I, J, ri, rj, rq) sz 0 0 (fun (r : Int32) (u : pq_S × pq_M) => u = (σ, I, J, ri, rj, rq) ∧ g_X3_councilIn (tI σ I) (tR σ ri) a0 (vI 10 σ M I) (vJ 10 σ M J) (vR 10 σ M ri) (vL 10 σ M rj) (vQ 10 σ M rq) = (r, (vI 10 σ M I), (vJ 10 σ M J), (vR 10 σ M ri), (vL 10 σ M rj), (vQ 10 σ M rq))) := by
  refine Met.ofW (cc := cX3_councilIn) (maxL := 2) (ret := (some .int)) (by decide +kernel) rfl ?_
  intro p e s m args below meth c s₁ B hml hv
  obtain ⟨rfl, hsz, hP, hK, hD0, hN⟩ := hv
  have hx := B.exec
  have hb := B.bytes
  have hr := B.returns
  have hts := atoms_spec (ws := (wa yX3_councilIn cX3_councilIn 2 (some .int))) B.pre
  have hown : s.vm.findClass RX3 = some m.cls := findClass_of_methodNamed B.named
  have hlocks := B.notSynchronized
  subst hsz
  have hD : va_D (pq_B t σ (I, J, ri, rj, rq) s.heap.size) (pq_P t σ (I, J, ri, rj, rq)) := hD0.self
  generalize hAe : pq_B t σ (I, J, ri, rj, rq) s.heap.size = A at hD ⊢
  have hA : ∀ q : Nat, s.heap.size ≤ q → A q := fun q h => by rw [← hAe]; exact Or.inr h
  have hS : va_S A s.heap s.heap [] := va_S.rf
  have hG : GX [] tg σ I ri rj I ri rj rq := ⟨hG0, fun _ _ _ => rfl, fun _ _ _ _ _ => rfl, fun _ _ _ _ _ => rfl⟩
  have hl := lv_entry ([.ref this, .int a0]) (n := 2) (Nat.le_of_ble_eq_true rfl)
  rw [lg_entry_eq]
  generalize (lg_sl ([.ref this, .int a0]) ++ List.replicate (2 - (lg_sl ([.ref this, .int a0])).length) Slot.unset).toArray = ls at hl ⊢
  have hl : lv_has ls 2 [(0, .ref this), (1, .int a0)] := hl
  refine q_gen (fun Q hQ => ?_)
  have go : ∀ (H : Heap) (locs : List Loc) (ls : Array Slot), va_P D vwCl (pq_P t σ (I, J, ri, rj, rq)) H → va_D A (pq_P t σ (I, J, ri, rj, rq)) → va_S A s.heap H locs → lv_has ls 2 [(0, .ref this), (1, .int a0)] → W p l e ({ frames := 3, cells := 0, slots := 0, locals := 70 } : Room) s m (List.toArray ([.ref this, .int a0] : List Value)) below meth c H locs 0 0 Q (F0 m 0 ls []) := by
    intro H locs ls hP hD hS hl
    have hVT : VT 10 σ tg M := vt_10 hSH hL_M hK_M
    have hFr : FR 10 tg σ M (I, J, ri, rj, rq) (I, J, ri, rj, rq) := fr_rf
    obtain ⟨F, hF0⟩ : ∃ F, F = g_X3_councilIn (tI σ I) (tR σ ri) a0 (vI 10 σ M I) (vJ 10 σ M J) (vR 10 σ M ri) (vL 10 σ M rj) (vQ 10 σ M rq) := ⟨_, rfl⟩
    have hF := hF0.trans g_X3_councilIn_e
    refine lv_aload_n hx hb dX3_councilIn_0 rfl (lv_at hl 0 rfl) ?_
    refine lv_bipush (v := 6) hx hb dX3_councilIn_1 (by decide +kernel) ?_
    refine lv_iload_n hx hb dX3_councilIn_3 rfl (lv_at hl 1 rfl) ?_
    refine lv_bipush (v := 50) hx hb dX3_councilIn_4 (by decide +kernel) ?_
    refine pk_i (va_runV (As := [.int 6, .int a0, .int 50]) (rest := []) ⟨hx, hb, hml, hown, hts⟩ (s_X3_numberIn l D t σ I J ri rj rq H.size tg hSH hG.1 this (6 : Int32) a0 (50 : Int32) hL_this hK_this M hL_M hK_M hO_this) (cwV 3 hts (tw_V tw_995 tw_996 tw_997 tw_49 tw_998) rfl rfl rfl cv_yX3_numberIn_3 ⟨Nat.le_of_ble_eq_true rfl, Nat.le_of_ble_eq_true rfl⟩) ⟨pq_blind, pq_recv hK hP hL_this hK_this (by decide +kernel) rfl, pq_pre hK hN hP hD⟩ rfl rfl hl.1 rfl (lv_room (Nat.le_of_ble_eq_true rfl)) dX3_councilIn_6 ⟨Nat.le_of_ble_eq_true rfl, Nat.le_of_ble_eq_true rfl⟩) hD hS hA (fun x_1 σ1 μ1 H locs hw_2 hP hD hS => ?_)
    obtain ⟨hu_3, hfn_6⟩ := hw_2
    obtain ⟨hu_3a, hu_3b⟩ := Prod.mk.inj hu_3
    rw [hu_3a, hu_3b] at hP hD
    replace hF := hF.trans (bn_n hfn_6)
    subst hQ
    exact W.iret (v := x_1) hx hb hr (fun t1 ht hW => ⟨⟨x_1, (σ, I, J, ri, rj, rq), rfl, ⟨rfl, (hF0.symm.trans hF)⟩, by rw [ht]; exact hP, va_K.moved hW.alike hK, hD⟩, hS.F ht⟩) hS.2.2 dX3_councilIn_9
  exact go _ _ _ hP hD hS hl

set_option maxRecDepth 100000 in
def g_X3_leaveIn (tI : Nat → Nat → Int32) (tR : Nat → Nat → Nat → Int32) (a0 : Int32) (I : Nat → Int32) (J : Nat → Int64) (ri : Nat → Nat → Int32) (rj : Nat → Nat → Int64) (rq : Nat → Nat → Option Nat) : Int32 × vM := (bnI (g_X3_numberIn tI tR (8 : Int32) a0 (10 : Int32) I J ri rj rq) fun (x_1 : Int32) (_ : Nat → Int32) (_ : Nat → Int64) (_ : Nat → Nat → Int32) (_ : Nat → Nat → Int64) (_ : Nat → Nat → Option Nat) => (x_1, I, J, ri, rj, rq))
set_option maxRecDepth 100000 in
theorem g_X3_leaveIn_e {tI : Nat → Nat → Int32} {tR : Nat → Nat → Nat → Int32} {a0 : Int32} {I : Nat → Int32} {J : Nat → Int64} {ri : Nat → Nat → Int32} {rj : Nat → Nat → Int64} {rq : Nat → Nat → Option Nat} : g_X3_leaveIn tI tR a0 I J ri rj rq = (bnI (g_X3_numberIn tI tR (8 : Int32) a0 (10 : Int32) I J ri rj rq) fun (x_1 : Int32) (_ : Nat → Int32) (_ : Nat → Int64) (_ : Nat → Nat → Int32) (_ : Nat → Nat → Int64) (_ : Nat → Nat → Option Nat) => (x_1, I, J, ri, rj, rq)) := rfl
set_option maxHeartbeats 4000000 in
set_option maxRecDepth 100000 in
theorem s_X3_leaveIn (l : Launch) (D : va_G) (t : pq_T) (σ : pq_S) (I : Nat → Nat → Int32) (J : Nat → Nat → Int64) (ri : Nat → Nat → Int32) (rj : Nat → Nat → Int64) (rq : Nat → Nat → Option Nat) (sz : Nat) (tg : Nat → Nat) (hSH : SH σ tg) (hG0 : GS tg σ I ri rq) (this : Nat) (a0 : Int32) (hL_this : this ∈ σ.1) (hK_this : σ.2.1 this = 3) (M : Nat) (hL_M : M ∈ σ.1) (hK_M : σ.2.1 M = 10) (hO_this : this = vo σ 3 M) : MetI l yX3_leaveIn (wa yX3_leaveIn cX3_leaveIn 2 (some .int)) ({ frames := 3, cells := 0, slots := 0, locals := 70 }) [.ref this, .int a0] D t σ (I, J, ri, rj, rq) sz 0 0 (fun (r : Int32) (u : pq_S × pq_M) => u = (σ, I, J, ri, rj, rq) ∧ g_X3_leaveIn (tI σ I) (tR σ ri) a0 (vI 10 σ M I) (vJ 10 σ M J) (vR 10 σ M ri) (vL 10 σ M rj) (vQ 10 σ M rq) = (r, (vI 10 σ M I), (vJ 10 σ M J), (vR 10 σ M ri), (vL 10 σ M rj), (vQ 10 σ M rq))) := by
  refine Met.ofW (cc := cX3_leaveIn) (maxL := 2) (ret := (some .int)) (by decide +kernel) rfl ?_
  intro p e s m args below meth c s₁ B hml hv
  obtain ⟨rfl, hsz, hP, hK, hD0, hN⟩ := hv
  have hx := B.exec
  have hb := B.bytes
  have hr := B.returns
  have hts := atoms_spec (ws := (wa yX3_leaveIn cX3_leaveIn 2 (some .int))) B.pre
  have hown : s.vm.findClass RX3 = some m.cls := findClass_of_methodNamed B.named
  have hlocks := B.notSynchronized
  subst hsz
  have hD : va_D (pq_B t σ (I, J, ri, rj, rq) s.heap.size) (pq_P t σ (I, J, ri, rj, rq)) := hD0.self
  generalize hAe : pq_B t σ (I, J, ri, rj, rq) s.heap.size = A at hD ⊢
  have hA : ∀ q : Nat, s.heap.size ≤ q → A q := fun q h => by rw [← hAe]; exact Or.inr h
  have hS : va_S A s.heap s.heap [] := va_S.rf
  have hG : GX [] tg σ I ri rj I ri rj rq := ⟨hG0, fun _ _ _ => rfl, fun _ _ _ _ _ => rfl, fun _ _ _ _ _ => rfl⟩
  have hl := lv_entry ([.ref this, .int a0]) (n := 2) (Nat.le_of_ble_eq_true rfl)
  rw [lg_entry_eq]
  generalize (lg_sl ([.ref this, .int a0]) ++ List.replicate (2 - (lg_sl ([.ref this, .int a0])).length) Slot.unset).toArray = ls at hl ⊢
  have hl : lv_has ls 2 [(0, .ref this), (1, .int a0)] := hl
  refine q_gen (fun Q hQ => ?_)
  have go : ∀ (H : Heap) (locs : List Loc) (ls : Array Slot), va_P D vwCl (pq_P t σ (I, J, ri, rj, rq)) H → va_D A (pq_P t σ (I, J, ri, rj, rq)) → va_S A s.heap H locs → lv_has ls 2 [(0, .ref this), (1, .int a0)] → W p l e ({ frames := 3, cells := 0, slots := 0, locals := 70 } : Room) s m (List.toArray ([.ref this, .int a0] : List Value)) below meth c H locs 0 0 Q (F0 m 0 ls []) := by
    intro H locs ls hP hD hS hl
    have hVT : VT 10 σ tg M := vt_10 hSH hL_M hK_M
    have hFr : FR 10 tg σ M (I, J, ri, rj, rq) (I, J, ri, rj, rq) := fr_rf
    obtain ⟨F, hF0⟩ : ∃ F, F = g_X3_leaveIn (tI σ I) (tR σ ri) a0 (vI 10 σ M I) (vJ 10 σ M J) (vR 10 σ M ri) (vL 10 σ M rj) (vQ 10 σ M rq) := ⟨_, rfl⟩
    have hF := hF0.trans g_X3_leaveIn_e
    refine lv_aload_n hx hb dX3_leaveIn_0 rfl (lv_at hl 0 rfl) ?_
    refine lv_bipush (v := 8) hx hb dX3_leaveIn_1 (by decide +kernel) ?_
    refine lv_iload_n hx hb dX3_leaveIn_3 rfl (lv_at hl 1 rfl) ?_
    refine lv_bipush (v := 10) hx hb dX3_leaveIn_4 (by decide +kernel) ?_
    refine pk_i (va_runV (As := [.int 8, .int a0, .int 10]) (rest := []) ⟨hx, hb, hml, hown, hts⟩ (s_X3_numberIn l D t σ I J ri rj rq H.size tg hSH hG.1 this (8 : Int32) a0 (10 : Int32) hL_this hK_this M hL_M hK_M hO_this) (cwV 3 hts (tw_V tw_995 tw_996 tw_997 tw_49 tw_998) rfl rfl rfl cv_yX3_numberIn_3 ⟨Nat.le_of_ble_eq_true rfl, Nat.le_of_ble_eq_true rfl⟩) ⟨pq_blind, pq_recv hK hP hL_this hK_this (by decide +kernel) rfl, pq_pre hK hN hP hD⟩ rfl rfl hl.1 rfl (lv_room (Nat.le_of_ble_eq_true rfl)) dX3_leaveIn_6 ⟨Nat.le_of_ble_eq_true rfl, Nat.le_of_ble_eq_true rfl⟩) hD hS hA (fun x_1 σ1 μ1 H locs hw_2 hP hD hS => ?_)
    obtain ⟨hu_3, hfn_6⟩ := hw_2
    obtain ⟨hu_3a, hu_3b⟩ := Prod.mk.inj hu_3
    rw [hu_3a, hu_3b] at hP hD
    replace hF := hF.trans (bn_n hfn_6)
    subst hQ
    exact W.iret (v := x_1) hx hb hr (fun t1 ht hW => ⟨⟨x_1, (σ, I, J, ri, rj, rq), rfl, ⟨rfl, (hF0.symm.trans hF)⟩, by rw [ht]; exact hP, va_K.moved hW.alike hK, hD⟩, hS.F ht⟩) hS.2.2 dX3_leaveIn_9
  exact go _ _ _ hP hD hS hl

set_option maxRecDepth 100000 in
def g_X3_fixIn (tI : Nat → Nat → Int32) (tR : Nat → Nat → Nat → Int32) (a0 : Int32) (I : Nat → Int32) (J : Nat → Int64) (ri : Nat → Nat → Int32) (rj : Nat → Nat → Int64) (rq : Nat → Nat → Option Nat) : Int32 × vM := (bnI (g_X3_numberIn tI tR (7 : Int32) a0 (-1 : Int32) I J ri rj rq) fun (x_1 : Int32) (_ : Nat → Int32) (_ : Nat → Int64) (_ : Nat → Nat → Int32) (_ : Nat → Nat → Int64) (_ : Nat → Nat → Option Nat) => (x_1, I, J, ri, rj, rq))
set_option maxRecDepth 100000 in
theorem g_X3_fixIn_e {tI : Nat → Nat → Int32} {tR : Nat → Nat → Nat → Int32} {a0 : Int32} {I : Nat → Int32} {J : Nat → Int64} {ri : Nat → Nat → Int32} {rj : Nat → Nat → Int64} {rq : Nat → Nat → Option Nat} : g_X3_fixIn tI tR a0 I J ri rj rq = (bnI (g_X3_numberIn tI tR (7 : Int32) a0 (-1 : Int32) I J ri rj rq) fun (x_1 : Int32) (_ : Nat → Int32) (_ : Nat → Int64) (_ : Nat → Nat → Int32) (_ : Nat → Nat → Int64) (_ : Nat → Nat → Option Nat) => (x_1, I, J, ri, rj, rq)) := rfl
set_option maxHeartbeats 4000000 in
set_option maxRecDepth 100000 in
theorem s_X3_fixIn (l : Launch) (D : va_G) (t : pq_T) (σ : pq_S) (I : Nat → Nat → Int32) (J : Nat → Nat → Int64) (ri : Nat → Nat → Int32) (rj : Nat → Nat → Int64) (rq : Nat → Nat → Option Nat) (sz : Nat) (tg : Nat → Nat) (hSH : SH σ tg) (hG0 : GS tg σ I ri rq) (this : Nat) (a0 : Int32) (hL_this : this ∈ σ.1) (hK_this : σ.2.1 this = 3) (M : Nat) (hL_M : M ∈ σ.1) (hK_M : σ.2.1 M = 10) (hO_this : this = vo σ 3 M) : MetI l yX3_fixIn (wa yX3_fixIn cX3_fixIn 2 (some .int)) ({ frames := 3, cells := 0, slots := 0, locals := 70 }) [.ref this, .int a0] D t σ (I, J, ri, rj, rq) sz 0 0 (fun (r : Int32) (u : pq_S × pq_M) => u = (σ, I, J, ri, rj, rq) ∧ g_X3_fixIn (tI σ I) (tR σ ri) a0 (vI 10 σ M I) (vJ 10 σ M J) (vR 10 σ M ri) (vL 10 σ M rj) (vQ 10 σ M rq) = (r, (vI 10 σ M I), (vJ 10 σ M J), (vR 10 σ M ri), (vL 10 σ M rj), (vQ 10 σ M rq))) := by
  refine Met.ofW (cc := cX3_fixIn) (maxL := 2) (ret := (some .int)) (by decide +kernel) rfl ?_
  intro p e s m args below meth c s₁ B hml hv
  obtain ⟨rfl, hsz, hP, hK, hD0, hN⟩ := hv
  have hx := B.exec
  have hb := B.bytes
  have hr := B.returns
  have hts := atoms_spec (ws := (wa yX3_fixIn cX3_fixIn 2 (some .int))) B.pre
  have hown : s.vm.findClass RX3 = some m.cls := findClass_of_methodNamed B.named
  have hlocks := B.notSynchronized
  subst hsz
  have hD : va_D (pq_B t σ (I, J, ri, rj, rq) s.heap.size) (pq_P t σ (I, J, ri, rj, rq)) := hD0.self
  generalize hAe : pq_B t σ (I, J, ri, rj, rq) s.heap.size = A at hD ⊢
  have hA : ∀ q : Nat, s.heap.size ≤ q → A q := fun q h => by rw [← hAe]; exact Or.inr h
  have hS : va_S A s.heap s.heap [] := va_S.rf
  have hG : GX [] tg σ I ri rj I ri rj rq := ⟨hG0, fun _ _ _ => rfl, fun _ _ _ _ _ => rfl, fun _ _ _ _ _ => rfl⟩
  have hl := lv_entry ([.ref this, .int a0]) (n := 2) (Nat.le_of_ble_eq_true rfl)
  rw [lg_entry_eq]
  generalize (lg_sl ([.ref this, .int a0]) ++ List.replicate (2 - (lg_sl ([.ref this, .int a0])).length) Slot.unset).toArray = ls at hl ⊢
  have hl : lv_has ls 2 [(0, .ref this), (1, .int a0)] := hl
  refine q_gen (fun Q hQ => ?_)
  have go : ∀ (H : Heap) (locs : List Loc) (ls : Array Slot), va_P D vwCl (pq_P t σ (I, J, ri, rj, rq)) H → va_D A (pq_P t σ (I, J, ri, rj, rq)) → va_S A s.heap H locs → lv_has ls 2 [(0, .ref this), (1, .int a0)] → W p l e ({ frames := 3, cells := 0, slots := 0, locals := 70 } : Room) s m (List.toArray ([.ref this, .int a0] : List Value)) below meth c H locs 0 0 Q (F0 m 0 ls []) := by
    intro H locs ls hP hD hS hl
    have hVT : VT 10 σ tg M := vt_10 hSH hL_M hK_M
    have hFr : FR 10 tg σ M (I, J, ri, rj, rq) (I, J, ri, rj, rq) := fr_rf
    obtain ⟨F, hF0⟩ : ∃ F, F = g_X3_fixIn (tI σ I) (tR σ ri) a0 (vI 10 σ M I) (vJ 10 σ M J) (vR 10 σ M ri) (vL 10 σ M rj) (vQ 10 σ M rq) := ⟨_, rfl⟩
    have hF := hF0.trans g_X3_fixIn_e
    refine lv_aload_n hx hb dX3_fixIn_0 rfl (lv_at hl 0 rfl) ?_
    refine lv_bipush (v := 7) hx hb dX3_fixIn_1 (by decide +kernel) ?_
    refine lv_iload_n hx hb dX3_fixIn_3 rfl (lv_at hl 1 rfl) ?_
    refine lv_iconst (v := (-1)) hx hb dX3_fixIn_4 (by decide +kernel) ?_
    refine pk_i (va_runV (As := [.int 7, .int a0, .int (-1)]) (rest := []) ⟨hx, hb, hml, hown, hts⟩ (s_X3_numberIn l D t σ I J ri rj rq H.size tg hSH hG.1 this (7 : Int32) a0 (-1 : Int32) hL_this hK_this M hL_M hK_M hO_this) (cwV 3 hts (tw_V tw_995 tw_996 tw_997 tw_49 tw_998) rfl rfl rfl cv_yX3_numberIn_3 ⟨Nat.le_of_ble_eq_true rfl, Nat.le_of_ble_eq_true rfl⟩) ⟨pq_blind, pq_recv hK hP hL_this hK_this (by decide +kernel) rfl, pq_pre hK hN hP hD⟩ rfl rfl hl.1 rfl (lv_room (Nat.le_of_ble_eq_true rfl)) dX3_fixIn_5 ⟨Nat.le_of_ble_eq_true rfl, Nat.le_of_ble_eq_true rfl⟩) hD hS hA (fun x_1 σ1 μ1 H locs hw_2 hP hD hS => ?_)
    obtain ⟨hu_3, hfn_6⟩ := hw_2
    obtain ⟨hu_3a, hu_3b⟩ := Prod.mk.inj hu_3
    rw [hu_3a, hu_3b] at hP hD
    replace hF := hF.trans (bn_n hfn_6)
    subst hQ
    exact W.iret (v := x_1) hx hb hr (fun t1 ht hW => ⟨⟨x_1, (σ, I, J, ri, rj, rq), rfl, ⟨rfl, (hF0.symm.trans hF)⟩, by rw [ht]; exact hP, va_K.moved hW.alike hK, hD⟩, hS.F ht⟩) hS.2.2 dX3_fixIn_8
  exact go _ _ _ hP hD hS hl

set_option maxRecDepth 100000 in
def g_X3_nameAll_L4 (a1 : Int32) (a2 : Int32) (a3 : Int32) (I : Nat → Int32) (J : Nat → Int64) (rj : Nat → Nat → Int64) (rq : Nat → Nat → Option Nat) : Nat → (Int32) → (Nat → Nat → Int32) → vM
  | 0, x_130, ri_131 => (I, J, ri_131, rj, rq)
  | n_152 + 1, x_130, ri_131 => (if (17 : Int32) ≤ x_130 then (ap1 (va_up ri_131 102 (upd (ri_131 102) ((5 : Int32)).toNatClampNeg a3)) fun (r_162 : Nat → Nat → Int32) => (I, J, r_162, rj, rq)) else (ap1 (x_130 - (12 : Int32)) fun (x_165 : Int32) => (bnI (g_X0_valueOf a1 x_130 a2 I J ri_131 rj rq) fun (x_167 : Int32) (_ : Nat → Int32) (_ : Nat → Int64) (_ : Nat → Nat → Int32) (_ : Nat → Nat → Int64) (_ : Nat → Nat → Option Nat) => (ap1 (va_up ri_131 102 (upd (ri_131 102) (x_165).toNatClampNeg x_167)) fun (r_174 : Nat → Nat → Int32) => (ap1 (x_130 + Int32.ofInt 1) fun (x_175 : Int32) => ((g_X3_nameAll_L4 a1 a2 a3 I J rj rq n_152) x_175 r_174))))))
set_option maxRecDepth 100000 in
theorem g_X3_nameAll_L4_e {a1 : Int32} {a2 : Int32} {a3 : Int32} {I : Nat → Int32} {J : Nat → Int64} {rj : Nat → Nat → Int64} {rq : Nat → Nat → Option Nat} {n_152 : Nat} {x_130 : Int32} {ri_131 : Nat → Nat → Int32} : g_X3_nameAll_L4 a1 a2 a3 I J rj rq (n_152 + 1) x_130 ri_131 = (if (17 : Int32) ≤ x_130 then (ap1 (va_up ri_131 102 (upd (ri_131 102) ((5 : Int32)).toNatClampNeg a3)) fun (r_162 : Nat → Nat → Int32) => (I, J, r_162, rj, rq)) else (ap1 (x_130 - (12 : Int32)) fun (x_165 : Int32) => (bnI (g_X0_valueOf a1 x_130 a2 I J ri_131 rj rq) fun (x_167 : Int32) (_ : Nat → Int32) (_ : Nat → Int64) (_ : Nat → Nat → Int32) (_ : Nat → Nat → Int64) (_ : Nat → Nat → Option Nat) => (ap1 (va_up ri_131 102 (upd (ri_131 102) (x_165).toNatClampNeg x_167)) fun (r_174 : Nat → Nat → Int32) => (ap1 (x_130 + Int32.ofInt 1) fun (x_175 : Int32) => ((g_X3_nameAll_L4 a1 a2 a3 I J rj rq n_152) x_175 r_174)))))) := rfl
set_option maxRecDepth 100000 in
def g_X3_nameAll (a1 : Int32) (a2 : Int32) (a3 : Int32) (I : Nat → Int32) (J : Nat → Int64) (ri : Nat → Nat → Int32) (rj : Nat → Nat → Int64) (rq : Nat → Nat → Option Nat) : vM := (g_X3_nameAll_L4 a1 a2 a3 I J rj rq ((17 - ((12 : Int32)).toInt).toNat + 1) (12 : Int32) ri)
set_option maxRecDepth 100000 in
theorem g_X3_nameAll_e {a1 : Int32} {a2 : Int32} {a3 : Int32} {I : Nat → Int32} {J : Nat → Int64} {ri : Nat → Nat → Int32} {rj : Nat → Nat → Int64} {rq : Nat → Nat → Option Nat} : g_X3_nameAll a1 a2 a3 I J ri rj rq = (g_X3_nameAll_L4 a1 a2 a3 I J rj rq ((17 - ((12 : Int32)).toInt).toNat + 1) (12 : Int32) ri) := rfl
set_option maxHeartbeats 4000000 in
set_option maxRecDepth 100000 in
theorem s_X3_nameAll (l : Launch) (D : va_G) (t : pq_T) (σ : pq_S) (I : Nat → Nat → Int32) (J : Nat → Nat → Int64) (ri : Nat → Nat → Int32) (rj : Nat → Nat → Int64) (rq : Nat → Nat → Option Nat) (sz : Nat) (tg : Nat → Nat) (hSH : SH σ tg) (hG0 : GS tg σ I ri rq) (this : Nat) (a0 : Nat) (a1 : Int32) (a2 : Int32) (a3 : Int32) (hL_this : this ∈ σ.1) (hK_this : σ.2.1 this = 3) (hL_a0 : a0 ∈ σ.1) (hK_a0 : σ.2.1 a0 = 0) (h_a1 : rg a1 0 39) (M : Nat) (hL_M : M ∈ σ.1) (hK_M : σ.2.1 M = 10) (hO_this : this = vo σ 3 M) (hO_a0 : a0 = vo σ 0 M) : MetV l yX3_nameAll (wa yX3_nameAll cX3_nameAll 6 none) ({ frames := 1, cells := 0, slots := 0, locals := 23 }) [.ref this, .ref a0, .int a1, .int a2, .int a3] D t σ (I, J, ri, rj, rq) sz 0 0 (fun (u : pq_S × pq_M) => ∃ ri' : Nat → Nat → Int32, u = (σ, I, J, ri', rj, rq) ∧ GX [] tg σ I ri rj I ri' rj rq ∧ g_X3_nameAll a1 a2 a3 (vI 10 σ M I) (vJ 10 σ M J) (vR 10 σ M ri) (vL 10 σ M rj) (vQ 10 σ M rq) = ((vI 10 σ M I), (vJ 10 σ M J), (vR 10 σ M ri'), (vL 10 σ M rj), (vQ 10 σ M rq)) ∧ FR 10 tg σ M (I, J, ri, rj, rq) (I, J, ri', rj, rq)) := by
  refine Met.ofW (cc := cX3_nameAll) (maxL := 6) (ret := none) (by decide +kernel) rfl ?_
  intro p e s m args below meth c s₁ B hml hv
  obtain ⟨rfl, hsz, hP, hK, hD0, hN⟩ := hv
  have hx := B.exec
  have hb := B.bytes
  have hr := B.returns
  have hts := atoms_spec (ws := (wa yX3_nameAll cX3_nameAll 6 none)) B.pre
  have hown : s.vm.findClass RX3 = some m.cls := findClass_of_methodNamed B.named
  have hlocks := B.notSynchronized
  subst hsz
  have hD : va_D (pq_B t σ (I, J, ri, rj, rq) s.heap.size) (pq_P t σ (I, J, ri, rj, rq)) := hD0.self
  generalize hAe : pq_B t σ (I, J, ri, rj, rq) s.heap.size = A at hD ⊢
  have hA : ∀ q : Nat, s.heap.size ≤ q → A q := fun q h => by rw [← hAe]; exact Or.inr h
  have hS : va_S A s.heap s.heap [] := va_S.rf
  have hG : GX [] tg σ I ri rj I ri rj rq := ⟨hG0, fun _ _ _ => rfl, fun _ _ _ _ _ => rfl, fun _ _ _ _ _ => rfl⟩
  have hl := lv_entry ([.ref this, .ref a0, .int a1, .int a2, .int a3]) (n := 6) (Nat.le_of_ble_eq_true rfl)
  rw [lg_entry_eq]
  generalize (lg_sl ([.ref this, .ref a0, .int a1, .int a2, .int a3]) ++ List.replicate (6 - (lg_sl ([.ref this, .ref a0, .int a1, .int a2, .int a3])).length) Slot.unset).toArray = ls at hl ⊢
  have hl : lv_has ls 6 [(0, .ref this), (1, .ref a0), (2, .int a1), (3, .int a2), (4, .int a3)] := hl
  refine q_gen (fun Q hQ => ?_)
  have go : ∀ (H : Heap) (locs : List Loc) (ls : Array Slot), va_P D vwCl (pq_P t σ (I, J, ri, rj, rq)) H → va_D A (pq_P t σ (I, J, ri, rj, rq)) → va_S A s.heap H locs → lv_has ls 6 [(0, .ref this), (1, .ref a0), (2, .int a1), (3, .int a2), (4, .int a3)] → W p l e ({ frames := 1, cells := 0, slots := 0, locals := 23 } : Room) s m (List.toArray ([.ref this, .ref a0, .int a1, .int a2, .int a3] : List Value)) below meth c H locs 0 0 Q (F0 m 0 ls []) := by
    intro H locs ls hP hD hS hl
    have hVT : VT 10 σ tg M := vt_10 hSH hL_M hK_M
    have hFr : FR 10 tg σ M (I, J, ri, rj, rq) (I, J, ri, rj, rq) := fr_rf
    obtain ⟨F, hF0⟩ : ∃ F, F = g_X3_nameAll a1 a2 a3 (vI 10 σ M I) (vJ 10 σ M J) (vR 10 σ M ri) (vL 10 σ M rj) (vQ 10 σ M rq) := ⟨_, rfl⟩
    have hF := hF0.trans g_X3_nameAll_e
    refine lv_bipush (v := 12) hx hb dX3_nameAll_0 (by decide +kernel) ?_
    refine lv_istore (lv' := [(5, .int 12), (0, .ref this), (1, .ref a0), (2, .int a1), (3, .int a2), (4, .int a3)]) hx hb dX3_nameAll_2 hl (by decide +kernel) rfl (fun ls hl => ?_)
    have L_153 : ∀ (n_152 : Nat) (x_130 : Int32) (ri_131 : Nat → Nat → Int32) (H : Heap) (locs : List Loc) (ls : Array Slot), rg x_130 12 17 → (17 - (x_130).toInt).toNat < n_152 → F = g_X3_nameAll_L4 a1 a2 a3 (vI 10 σ M I) (vJ 10 σ M J) (vL 10 σ M rj) (vQ 10 σ M rq) n_152 x_130 (vR 10 σ M ri_131) → FR 10 tg σ M (I, J, ri, rj, rq) (I, J, ri_131, rj, rq) → GX [] tg σ I ri rj I ri_131 rj rq → va_P D vwCl (pq_P t σ (I, J, ri_131, rj, rq)) H → va_D A (pq_P t σ (I, J, ri_131, rj, rq)) → va_S A s.heap H locs → lv_has ls 6 [(0, .ref this), (1, .ref a0), (2, .int a1), (3, .int a2), (4, .int a3), (5, .int x_130)] → W p l e ({ frames := 1, cells := 0, slots := 0, locals := 23 } : Room) s m (List.toArray ([.ref this, .ref a0, .int a1, .int a2, .int a3] : List Value)) below meth c H locs 0 0 Q (F0 m 4 ls []) := by
      intro n_152
      induction n_152 with
      | zero => intro x_130 ri_131 H locs ls h_156 hm_151 hF hFr hG hP hD hS hl; exact absurd hm_151 (Nat.not_lt_zero _)
      | succ n_152 ih_154 =>
        intro x_130 ri_131 H locs ls h_156 hm_151 hF hFr hG hP hD hS hl
        replace hF := hF.trans g_X3_nameAll_L4_e
        refine lv_iload hx hb dX3_nameAll_4 (lv_at hl 5 rfl) ?_
        refine lv_bipush (v := 17) hx hb dX3_nameAll_6 (by decide +kernel) ?_
        refine lv_icmp_ge (tgt := 35) hx hb dX3_nameAll_8 (by decide +kernel) (fun c_157 => ?_) (fun c_157 => ?_)
        · replace hF := hF.trans (if_pos c_157)
          have h_160 : rg x_130 17 17 := rg_le2 c_157 (rg_k (17 : Int32) 17 rfl) h_156 (by decide +kernel)
          refine lv_aload_n hx hb dX3_nameAll_35 rfl (lv_at hl 0 rfl) ?_
          obtain ⟨w_161, hR_w_161, hL_w_161, hK_w_161, hN_w_161, hT_w_161⟩ := sh_a hSH 102 (ci := 3) (kd := 13) (len := 6) rfl (by decide +kernel) hL_this hK_this
          have hO_w_161 : w_161 = vrow σ 102 M := vo_k (c := 3) hO_this hR_w_161
          refine pg_f (v := .ref w_161) (C := RX3) (T := TX3) (N := 8) hx hb hts (tw_i inlX3) hown hK hP hL_this hK_this (by decide +kernel) rfl 6 (by decide +kernel) (hts _ (tw_c tw_132)) (pq_hv rfl hR_w_161) dX3_nameAll_36 ?_
          refine lv_iconst (v := 5) hx hb dX3_nameAll_39 (by decide +kernel) ?_
          refine lv_iload hx hb dX3_nameAll_40 (lv_at hl 4 rfl) ?_
          refine pt_i hx hb hK hP hD hS hL_w_161 hK_w_161 hN_w_161 (vp_in_iff.mpr (by decide +kernel)) dX3_nameAll_42 (fun r_162 H locs er_162 hP hD hS => ?_)
          replace hFr := fr_R hFr hO_w_161 (by decide +kernel) er_162
          replace hF := hF.trans (ap_n (vR_st hVT hO_w_161 (by decide +kernel) er_162))
          have hG := GX.wR hG hSH hT_w_161 rfl er_162 (rg_w (rg_full _) (by decide +kernel)) (by decide +kernel)
          subst hQ
          exact W.vret hx hb hr (fun t1 ht hW => ⟨⟨(σ, I, J, r_162, rj, rq), rfl, ⟨r_162, rfl, hG, (hF0.symm.trans hF), hFr⟩, by rw [ht]; exact hP, va_K.moved hW.alike hK, hD⟩, hS.F ht⟩) hS.2.2 dX3_nameAll_43
        · replace hF := hF.trans (if_neg c_157)
          have h_163 : rg x_130 12 16 := rg_lt1 (nle c_157) h_156 (rg_k (17 : Int32) 17 rfl) (by decide +kernel)
          refine lv_aload_n hx hb dX3_nameAll_11 rfl (lv_at hl 0 rfl) ?_
          obtain ⟨w_164, hR_w_164, hL_w_164, hK_w_164, hN_w_164, hT_w_164⟩ := sh_a hSH 102 (ci := 3) (kd := 13) (len := 6) rfl (by decide +kernel) hL_this hK_this
          have hO_w_164 : w_164 = vrow σ 102 M := vo_k (c := 3) hO_this hR_w_164
          refine pg_f (v := .ref w_164) (C := RX3) (T := TX3) (N := 8) hx hb hts (tw_i inlX3) hown hK hP hL_this hK_this (by decide +kernel) rfl 6 (by decide +kernel) (hts _ (tw_c tw_132)) (pq_hv rfl hR_w_164) dX3_nameAll_12 ?_
          refine lv_iload hx hb dX3_nameAll_15 (lv_at hl 5 rfl) ?_
          refine lv_bipush (v := 12) hx hb dX3_nameAll_17 (by decide +kernel) ?_
          refine lv_isub hx hb dX3_nameAll_19 ?_
          refine lv_topi (fun x_165 ex_165 => ?_)
          replace hF := hF.trans (ap_n ex_165)
          have h_166 : rg x_165 0 4 := rg_of_eq ex_165 (rg_sub h_163 (rg_k (12 : Int32) 12 rfl) (by decide +kernel))
          refine lv_aload_n hx hb dX3_nameAll_20 rfl (lv_at hl 1 rfl) ?_
          refine lv_iload_n hx hb dX3_nameAll_21 rfl (lv_at hl 2 rfl) ?_
          refine lv_iload hx hb dX3_nameAll_22 (lv_at hl 5 rfl) ?_
          refine lv_iload_n hx hb dX3_nameAll_24 rfl (lv_at hl 3 rfl) ?_
          refine pk_i (va_runV (As := [.int a1, .int x_130, .int a2]) (rest := [.int x_165, .ref w_164]) ⟨hx, hb, hml, hown, hts⟩ (s_X0_valueOf l D t σ I J ri_131 rj rq H.size tg hSH hG.1 a0 a1 x_130 a2 hL_a0 hK_a0 (rg_w h_a1 (by decide +kernel)) M hL_M hK_M hO_a0) (cwV 3 hts (tw_V tw_569 tw_487 tw_488 tw_45 tw_489) rfl rfl rfl cv_yX0_valueOf_3 ⟨Nat.le_of_ble_eq_true rfl, Nat.le_of_ble_eq_true rfl⟩) ⟨pq_blind, pq_recv hK hP hL_a0 hK_a0 (by decide +kernel) rfl, pq_pre hK hN hP hD⟩ rfl rfl hl.1 rfl (lv_room (Nat.le_of_ble_eq_true rfl)) dX3_nameAll_25 ⟨Nat.le_of_ble_eq_true rfl, Nat.le_of_ble_eq_true rfl⟩) hD hS hA (fun x_167 σ1 μ1 H locs hw_168 hP hD hS => ?_)
          obtain ⟨hu_169, hfn_172⟩ := hw_168
          obtain ⟨hu_169a, hu_169b⟩ := Prod.mk.inj hu_169
          rw [hu_169a, hu_169b] at hP hD
          replace hF := hF.trans (bn_n hfn_172)
          refine pt_i hx hb hK hP hD hS hL_w_164 hK_w_164 hN_w_164 (rg_in h_166 (by decide +kernel)) dX3_nameAll_28 (fun r_174 H locs er_174 hP hD hS => ?_)
          replace hFr := fr_R hFr hO_w_164 (by decide +kernel) er_174
          replace hF := hF.trans (ap_n (vR_st hVT hO_w_164 (by decide +kernel) er_174))
          have hG := GX.wR hG hSH hT_w_164 rfl er_174 (rg_w (rg_full _) (by decide +kernel)) (by decide +kernel)
          obtain ⟨x_175, ex_175⟩ : ∃ y : Int32, y = x_130 + Int32.ofInt 1 := ⟨_, rfl⟩
          replace hF := hF.trans (ap_n ex_175)
          have h_176 : rg x_175 13 17 := rg_of_eq ex_175 (rg_add h_163 (rg_k (Int32.ofInt 1) 1 rfl) (by decide +kernel))
          refine lv_iinc (v := x_175) (lv' := [(5, .int x_175), (0, .ref this), (1, .ref a0), (2, .int a1), (3, .int a2), (4, .int a3)]) hx hb dX3_nameAll_29 hl (k := 5) rfl ex_175.symm (by decide +kernel) rfl (fun ls hl => ?_)
          refine lv_goto (tgt := 4) hx hb dX3_nameAll_32 (by decide +kernel) ?_
          exact ih_154 x_175 r_174 _ _ _ (rg_w h_176 (by decide +kernel)) (ms_up 1 hm_151 ex_175 rfl (by decide +kernel) h_163 (by decide +kernel) (by decide +kernel)) hF hFr hG hP hD hS (lv_sub hl [1, 2, 3, 4, 5, 0] rfl)
    exact L_153 _ (12 : Int32) ri _ _ _ (rg_w (rg_k (12 : Int32) 12 rfl) (by decide +kernel)) (Nat.lt_succ_self _) hF hFr hG hP hD hS (lv_sub hl [1, 2, 3, 4, 5, 0] rfl)
  exact go _ _ _ hP hD hS hl

set_option maxRecDepth 100000 in
def g_X8_join_K205 (x_91 : Int64) : Int32 := (ap1 (if x_91 < (1000000000 : Int64) then x_91 else (1000000000 : Int64)) fun (x_99 : Int64) => (ap1 (if x_99 < (-1000000000 : Int64) then (-1000000000 : Int64) else x_99) fun (x_100 : Int64) => (ap1 (x_100.toInt32) fun (x_101 : Int32) => x_101)))
set_option maxRecDepth 100000 in
theorem g_X8_join_K205_e {x_91 : Int64} : g_X8_join_K205  x_91 = (ap1 (if x_91 < (1000000000 : Int64) then x_91 else (1000000000 : Int64)) fun (x_99 : Int64) => (ap1 (if x_99 < (-1000000000 : Int64) then (-1000000000 : Int64) else x_99) fun (x_100 : Int64) => (ap1 (x_100.toInt32) fun (x_101 : Int32) => x_101))) := rfl
set_option maxRecDepth 100000 in
def g_X8_join (a0 : Int32) (a1 : Int32) (a2 : Int32) : Int32 := (if a0 = (9 : Int32) then (ap1 (a1 ||| a2) fun (x_105 : Int32) => x_105) else (if a0 = (10 : Int32) then (ap1 (a1 &&& a2) fun (x_109 : Int32) => x_109) else (if a0 = (11 : Int32) then (if a2 = (0 : Int32) then (0 : Int32) else (ap1 (a1 / a2) fun (x_115 : Int32) => x_115)) else (if a0 = (12 : Int32) then (if a2 = (0 : Int32) then (0 : Int32) else (ap1 (a1 / a2) fun (x_122 : Int32) => x_122)) else (if a0 = (13 : Int32) then (if a2 = (0 : Int32) then (0 : Int32) else (ap1 (a1 / a2) fun (x_129 : Int32) => x_129)) else (if a0 = (14 : Int32) then (if a2 = (0 : Int32) then (0 : Int32) else (ap1 (a1 / a2) fun (x_136 : Int32) => x_136)) else (if a0 = (15 : Int32) then (if a2 = (0 : Int32) then (0 : Int32) else (ap1 (a1 / a2) fun (x_143 : Int32) => x_143)) else (if a0 = (16 : Int32) then (if a2 = (0 : Int32) then (0 : Int32) else (ap1 (a1 / a2) fun (x_150 : Int32) => x_150)) else (if a0 = (17 : Int32) then (if a2 = (0 : Int32) then (0 : Int32) else (ap1 (a1 / a2) fun (x_157 : Int32) => x_157)) else (if a0 = (18 : Int32) then (if a2 = (0 : Int32) then (0 : Int32) else (ap1 (a1 / a2) fun (x_164 : Int32) => x_164)) else (if a0 = (19 : Int32) then (if a2 ≤ a1 then (0 : Int32) else (1 : Int32)) else (if a0 = (20 : Int32) then (if a2 < a1 then (0 : Int32) else (1 : Int32)) else (if a0 = (21 : Int32) then (if a1 ≤ a2 then (0 : Int32) else (1 : Int32)) else (if a0 = (22 : Int32) then (if a1 < a2 then (0 : Int32) else (1 : Int32)) else (if a0 = (23 : Int32) then (if a1 = a2 then (1 : Int32) else (0 : Int32)) else (if a0 = (24 : Int32) then (if a1 = a2 then (0 : Int32) else (1 : Int32)) else (if a0 = (25 : Int32) then (ap1 (a1.toInt64) fun (x_209 : Int64) => (ap1 (a2.toInt64) fun (x_210 : Int64) => (ap1 (x_209 + x_210) fun (x_211 : Int64) => (g_X8_join_K205  x_211)))) else (if a0 = (26 : Int32) then (ap1 (a1.toInt64) fun (x_215 : Int64) => (ap1 (a2.toInt64) fun (x_216 : Int64) => (ap1 (x_215 - x_216) fun (x_217 : Int64) => (g_X8_join_K205  x_217)))) else (if a0 = (27 : Int32) then (ap1 (a1.toInt64) fun (x_221 : Int64) => (ap1 (a2.toInt64) fun (x_222 : Int64) => (ap1 (x_221 * x_222) fun (x_223 : Int64) => (g_X8_join_K205  x_223)))) else (if a2 = (0 : Int32) then (0 : Int32) else (ap1 (a1 / a2) fun (x_226 : Int32) => x_226)))))))))))))))))))))
set_option maxRecDepth 100000 in
theorem g_X8_join_e {a0 : Int32} {a1 : Int32} {a2 : Int32} : g_X8_join a0 a1 a2 = (if a0 = (9 : Int32) then (ap1 (a1 ||| a2) fun (x_105 : Int32) => x_105) else (if a0 = (10 : Int32) then (ap1 (a1 &&& a2) fun (x_109 : Int32) => x_109) else (if a0 = (11 : Int32) then (if a2 = (0 : Int32) then (0 : Int32) else (ap1 (a1 / a2) fun (x_115 : Int32) => x_115)) else (if a0 = (12 : Int32) then (if a2 = (0 : Int32) then (0 : Int32) else (ap1 (a1 / a2) fun (x_122 : Int32) => x_122)) else (if a0 = (13 : Int32) then (if a2 = (0 : Int32) then (0 : Int32) else (ap1 (a1 / a2) fun (x_129 : Int32) => x_129)) else (if a0 = (14 : Int32) then (if a2 = (0 : Int32) then (0 : Int32) else (ap1 (a1 / a2) fun (x_136 : Int32) => x_136)) else (if a0 = (15 : Int32) then (if a2 = (0 : Int32) then (0 : Int32) else (ap1 (a1 / a2) fun (x_143 : Int32) => x_143)) else (if a0 = (16 : Int32) then (if a2 = (0 : Int32) then (0 : Int32) else (ap1 (a1 / a2) fun (x_150 : Int32) => x_150)) else (if a0 = (17 : Int32) then (if a2 = (0 : Int32) then (0 : Int32) else (ap1 (a1 / a2) fun (x_157 : Int32) => x_157)) else (if a0 = (18 : Int32) then (if a2 = (0 : Int32) then (0 : Int32) else (ap1 (a1 / a2) fun (x_164 : Int32) => x_164)) else (if a0 = (19 : Int32) then (if a2 ≤ a1 then (0 : Int32) else (1 : Int32)) else (if a0 = (20 : Int32) then (if a2 < a1 then (0 : Int32) else (1 : Int32)) else (if a0 = (21 : Int32) then (if a1 ≤ a2 then (0 : Int32) else (1 : Int32)) else (if a0 = (22 : Int32) then (if a1 < a2 then (0 : Int32) else (1 : Int32)) else (if a0 = (23 : Int32) then (if a1 = a2 then (1 : Int32) else (0 : Int32)) else (if a0 = (24 : Int32) then (if a1 = a2 then (0 : Int32) else (1 : Int32)) else (if a0 = (25 : Int32) then (ap1 (a1.toInt64) fun (x_209 : Int64) => (ap1 (a2.toInt64) fun (x_210 : Int64) => (ap1 (x_209 + x_210) fun (x_211 : Int64) => (g_X8_join_K205  x_211)))) else (if a0 = (26 : Int32) then (ap1 (a1.toInt64) fun (x_215 : Int64) => (ap1 (a2.toInt64) fun (x_216 : Int64) => (ap1 (x_215 - x_216) fun (x_217 : Int64) => (g_X8_join_K205  x_217)))) else (if a0 = (27 : Int32) then (ap1 (a1.toInt64) fun (x_221 : Int64) => (ap1 (a2.toInt64) fun (x_222 : Int64) => (ap1 (x_221 * x_222) fun (x_223 : Int64) => (g_X8_join_K205  x_223)))) else (if a2 = (0 : Int32) then (0 : Int32) else (ap1 (a1 / a2) fun (x_226 : Int32) => x_226))))))))))))))))))))) := rfl
set_option maxHeartbeats 4000000 in
set_option maxRecDepth 100000 in
theorem s_X8_join (l : Launch) (D : va_G) (t : pq_T) (σ : pq_S) (I : Nat → Nat → Int32) (J : Nat → Nat → Int64) (ri : Nat → Nat → Int32) (rj : Nat → Nat → Int64) (rq : Nat → Nat → Option Nat) (sz : Nat) (tg : Nat → Nat) (hSH : SH σ tg) (hG0 : GS tg σ I ri rq) (a0 : Int32) (a1 : Int32) (a2 : Int32) : MetI l yX8_join (wa yX8_join cX8_join 5 (some .int)) ({ frames := 1, cells := 0, slots := 0, locals := 40 }) [.int a0, .int a1, .int a2] D t σ (I, J, ri, rj, rq) sz 0 0 (fun (r : Int32) (u : pq_S × pq_M) => u = (σ, I, J, ri, rj, rq) ∧ g_X8_join a0 a1 a2 = r) := by
  refine Met.ofW (cc := cX8_join) (maxL := 5) (ret := (some .int)) (by decide +kernel) rfl ?_
  intro p e s m args below meth c s₁ B hml hv
  obtain ⟨rfl, hsz, hP, hK, hD0, hN⟩ := hv
  have hx := B.exec
  have hb := B.bytes
  have hr := B.returns
  have hts := atoms_spec (ws := (wa yX8_join cX8_join 5 (some .int))) B.pre
  have hown : s.vm.findClass RX8 = some m.cls := findClass_of_methodNamed B.named
  have hlocks := B.notSynchronized
  subst hsz
  have hD : va_D (pq_B t σ (I, J, ri, rj, rq) s.heap.size) (pq_P t σ (I, J, ri, rj, rq)) := hD0.self
  generalize hAe : pq_B t σ (I, J, ri, rj, rq) s.heap.size = A at hD ⊢
  have hA : ∀ q : Nat, s.heap.size ≤ q → A q := fun q h => by rw [← hAe]; exact Or.inr h
  have hS : va_S A s.heap s.heap [] := va_S.rf
  have hG : GX [] tg σ I ri rj I ri rj rq := ⟨hG0, fun _ _ _ => rfl, fun _ _ _ _ _ => rfl, fun _ _ _ _ _ => rfl⟩
  have hl := lv_entry ([.int a0, .int a1, .int a2]) (n := 5) (Nat.le_of_ble_eq_true rfl)
  rw [lg_entry_eq]
  generalize (lg_sl ([.int a0, .int a1, .int a2]) ++ List.replicate (5 - (lg_sl ([.int a0, .int a1, .int a2])).length) Slot.unset).toArray = ls at hl ⊢
  have hl : lv_has ls 5 [(0, .int a0), (1, .int a1), (2, .int a2)] := hl
  refine q_gen (fun Q hQ => ?_)
  have go : ∀ (H : Heap) (locs : List Loc) (ls : Array Slot), va_P D vwCl (pq_P t σ (I, J, ri, rj, rq)) H → va_D A (pq_P t σ (I, J, ri, rj, rq)) → va_S A s.heap H locs → lv_has ls 5 [(0, .int a0), (1, .int a1), (2, .int a2)] → W p l e ({ frames := 1, cells := 0, slots := 0, locals := 40 } : Room) s m (List.toArray ([.int a0, .int a1, .int a2] : List Value)) below meth c H locs 0 0 Q (F0 m 0 ls []) := by
    intro H locs ls hP hD hS hl
    obtain ⟨F, hF0⟩ : ∃ F, F = g_X8_join a0 a1 a2 := ⟨_, rfl⟩
    have hF := hF0.trans g_X8_join_e
    refine lv_iload_n hx hb dX8_join_0 rfl (lv_at hl 0 rfl) ?_
    have K_96 : ∀  (x_91 : Int64) (H : Heap) (locs : List Loc) (ls : Array Slot), rg (a0) 25 27 → F = g_X8_join_K205  x_91 → GX [] tg σ I ri rj I ri rj rq → va_P D vwCl (pq_P t σ (I, J, ri, rj, rq)) H → va_D A (pq_P t σ (I, J, ri, rj, rq)) → va_S A s.heap H locs → lv_has ls 5 [(3, .long x_91)] → W p l e ({ frames := 1, cells := 0, slots := 0, locals := 40 } : Room) s m (List.toArray ([.int a0, .int a1, .int a2] : List Value)) below meth c H locs 0 0 Q (F0 m 205 ls []) := by
      intro x_91 H locs ls h_98 hF hG hP hD hS hl
      replace hF := hF.trans g_X8_join_K205_e
      refine lv_ldc2 hx hb hown (hts _ (tw_c tw_581)) dX8_join_205 ?_
      refine lv_ldc2 hx hb hown (hts _ (tw_c tw_582)) dX8_join_208 ?_
      refine lv_lload_n hx hb dX8_join_211 rfl (lv_at hl 0 rfl) ?_
      refine va_mmin_long hx hb (hml.trans hl.1.symm) hown (hts _ (tw_c tw_583)) (hts _ (tw_c tw_584)) (hts _ (tw_c tw_276)) (hts _ (tw_c tw_585)) (Nat.le_of_ble_eq_true rfl) (Nat.le_of_ble_eq_true rfl) (Nat.zero_le _) (Nat.zero_le _) dX8_join_212 ?_
      refine lv_topl (fun x_99 ex_99 => ?_)
      replace hF := hF.trans (ap_n ex_99)
      refine va_mmax_long hx hb (hml.trans hl.1.symm) hown (hts _ (tw_c tw_586)) (hts _ (tw_c tw_587)) (hts _ (tw_c tw_276)) (hts _ (tw_c tw_588)) (Nat.le_of_ble_eq_true rfl) (Nat.le_of_ble_eq_true rfl) (Nat.zero_le _) (Nat.zero_le _) dX8_join_215 ?_
      refine lv_topl (fun x_100 ex_100 => ?_)
      replace hF := hF.trans (ap_n ex_100)
      refine lv_l2i hx hb dX8_join_218 rfl ?_
      refine lv_topi (fun x_101 ex_101 => ?_)
      replace hF := hF.trans (ap_n ex_101)
      subst hQ
      exact W.iret (v := x_101) hx hb hr (fun t1 ht hW => ⟨⟨x_101, (σ, I, J, ri, rj, rq), rfl, ⟨rfl, (hF0.symm.trans hF)⟩, by rw [ht]; exact hP, va_K.moved hW.alike hK, hD⟩, hS.F ht⟩) hS.2.2 dX8_join_219
    by_cases k_102 : a0 = (9 : Int32)
    · replace hF := hF.trans (if_pos k_102)
      have h_104 : rg a0 9 9 := rg_and (rg_full _) (rg_of_eq k_102 (rg_k (9 : Int32) 9 rfl)) (by decide +kernel)
      refine lv_tov 9 k_102 ?_
      refine lv_tableIn (tgt := 92) hx hb dX8_join_1 (by decide +kernel) (by decide +kernel) rfl (by decide +kernel) ?_
      refine lv_iload_n hx hb dX8_join_92 rfl (lv_at hl 1 rfl) ?_
      refine lv_iload_n hx hb dX8_join_93 rfl (lv_at hl 2 rfl) ?_
      refine lv_ior hx hb dX8_join_94 ?_
      refine lv_topi (fun x_105 ex_105 => ?_)
      replace hF := hF.trans (ap_n ex_105)
      subst hQ
      exact W.iret (v := x_105) hx hb hr (fun t1 ht hW => ⟨⟨x_105, (σ, I, J, ri, rj, rq), rfl, ⟨rfl, (hF0.symm.trans hF)⟩, by rw [ht]; exact hP, va_K.moved hW.alike hK, hD⟩, hS.F ht⟩) hS.2.2 dX8_join_95
    replace hF := hF.trans (if_neg k_102)
    by_cases k_106 : a0 = (10 : Int32)
    · replace hF := hF.trans (if_pos k_106)
      have h_108 : rg a0 10 10 := rg_and (rg_full _) (rg_of_eq k_106 (rg_k (10 : Int32) 10 rfl)) (by decide +kernel)
      refine lv_tov 10 k_106 ?_
      refine lv_tableIn (tgt := 96) hx hb dX8_join_1 (by decide +kernel) (by decide +kernel) rfl (by decide +kernel) ?_
      refine lv_iload_n hx hb dX8_join_96 rfl (lv_at hl 1 rfl) ?_
      refine lv_iload_n hx hb dX8_join_97 rfl (lv_at hl 2 rfl) ?_
      refine lv_iand hx hb dX8_join_98 ?_
      refine lv_topi (fun x_109 ex_109 => ?_)
      replace hF := hF.trans (ap_n ex_109)
      subst hQ
      exact W.iret (v := x_109) hx hb hr (fun t1 ht hW => ⟨⟨x_109, (σ, I, J, ri, rj, rq), rfl, ⟨rfl, (hF0.symm.trans hF)⟩, by rw [ht]; exact hP, va_K.moved hW.alike hK, hD⟩, hS.F ht⟩) hS.2.2 dX8_join_99
    replace hF := hF.trans (if_neg k_106)
    by_cases k_110 : a0 = (11 : Int32)
    · replace hF := hF.trans (if_pos k_110)
      have h_112 : rg a0 11 11 := rg_and (rg_full _) (rg_of_eq k_110 (rg_k (11 : Int32) 11 rfl)) (by decide +kernel)
      refine lv_tov 11 k_110 ?_
      refine lv_tableIn (tgt := 193) hx hb dX8_join_1 (by decide +kernel) (by decide +kernel) rfl (by decide +kernel) ?_
      refine lv_iload_n hx hb dX8_join_193 rfl (lv_at hl 2 rfl) ?_
      refine lv_if_ne (tgt := 201) hx hb dX8_join_194 (by decide +kernel) (fun c_113 => ?_) (fun c_113 => ?_)
      · replace hF := hF.trans (if_neg c_113)
        refine lv_iload_n hx hb dX8_join_201 rfl (lv_at hl 1 rfl) ?_
        refine lv_iload_n hx hb dX8_join_202 rfl (lv_at hl 2 rfl) ?_
        refine lv_idiv hx hb dX8_join_203 c_113 ?_
        refine lv_topi (fun x_115 ex_115 => ?_)
        replace hF := hF.trans (ap_n ex_115)
        subst hQ
        exact W.iret (v := x_115) hx hb hr (fun t1 ht hW => ⟨⟨x_115, (σ, I, J, ri, rj, rq), rfl, ⟨rfl, (hF0.symm.trans hF)⟩, by rw [ht]; exact hP, va_K.moved hW.alike hK, hD⟩, hS.F ht⟩) hS.2.2 dX8_join_204
      · replace hF := hF.trans (if_pos c_113)
        have h_116 : rg a2 0 0 := rg_and (rg_full _) (rg_of_eq c_113 (rg_k (0 : Int32) 0 rfl)) (by decide +kernel)
        refine lv_iconst (v := 0) hx hb dX8_join_197 (by decide +kernel) ?_
        refine lv_goto (tgt := 204) hx hb dX8_join_198 (by decide +kernel) ?_
        subst hQ
        exact W.iret (v := 0) hx hb hr (fun t1 ht hW => ⟨⟨0, (σ, I, J, ri, rj, rq), rfl, ⟨rfl, (hF0.symm.trans hF)⟩, by rw [ht]; exact hP, va_K.moved hW.alike hK, hD⟩, hS.F ht⟩) hS.2.2 dX8_join_204
    replace hF := hF.trans (if_neg k_110)
    by_cases k_117 : a0 = (12 : Int32)
    · replace hF := hF.trans (if_pos k_117)
      have h_119 : rg a0 12 12 := rg_and (rg_full _) (rg_of_eq k_117 (rg_k (12 : Int32) 12 rfl)) (by decide +kernel)
      refine lv_tov 12 k_117 ?_
      refine lv_tableIn (tgt := 193) hx hb dX8_join_1 (by decide +kernel) (by decide +kernel) rfl (by decide +kernel) ?_
      refine lv_iload_n hx hb dX8_join_193 rfl (lv_at hl 2 rfl) ?_
      refine lv_if_ne (tgt := 201) hx hb dX8_join_194 (by decide +kernel) (fun c_120 => ?_) (fun c_120 => ?_)
      · replace hF := hF.trans (if_neg c_120)
        refine lv_iload_n hx hb dX8_join_201 rfl (lv_at hl 1 rfl) ?_
        refine lv_iload_n hx hb dX8_join_202 rfl (lv_at hl 2 rfl) ?_
        refine lv_idiv hx hb dX8_join_203 c_120 ?_
        refine lv_topi (fun x_122 ex_122 => ?_)
        replace hF := hF.trans (ap_n ex_122)
        subst hQ
        exact W.iret (v := x_122) hx hb hr (fun t1 ht hW => ⟨⟨x_122, (σ, I, J, ri, rj, rq), rfl, ⟨rfl, (hF0.symm.trans hF)⟩, by rw [ht]; exact hP, va_K.moved hW.alike hK, hD⟩, hS.F ht⟩) hS.2.2 dX8_join_204
      · replace hF := hF.trans (if_pos c_120)
        have h_123 : rg a2 0 0 := rg_and (rg_full _) (rg_of_eq c_120 (rg_k (0 : Int32) 0 rfl)) (by decide +kernel)
        refine lv_iconst (v := 0) hx hb dX8_join_197 (by decide +kernel) ?_
        refine lv_goto (tgt := 204) hx hb dX8_join_198 (by decide +kernel) ?_
        subst hQ
        exact W.iret (v := 0) hx hb hr (fun t1 ht hW => ⟨⟨0, (σ, I, J, ri, rj, rq), rfl, ⟨rfl, (hF0.symm.trans hF)⟩, by rw [ht]; exact hP, va_K.moved hW.alike hK, hD⟩, hS.F ht⟩) hS.2.2 dX8_join_204
    replace hF := hF.trans (if_neg k_117)
    by_cases k_124 : a0 = (13 : Int32)
    · replace hF := hF.trans (if_pos k_124)
      have h_126 : rg a0 13 13 := rg_and (rg_full _) (rg_of_eq k_124 (rg_k (13 : Int32) 13 rfl)) (by decide +kernel)
      refine lv_tov 13 k_124 ?_
      refine lv_tableIn (tgt := 193) hx hb dX8_join_1 (by decide +kernel) (by decide +kernel) rfl (by decide +kernel) ?_
      refine lv_iload_n hx hb dX8_join_193 rfl (lv_at hl 2 rfl) ?_
      refine lv_if_ne (tgt := 201) hx hb dX8_join_194 (by decide +kernel) (fun c_127 => ?_) (fun c_127 => ?_)
      · replace hF := hF.trans (if_neg c_127)
        refine lv_iload_n hx hb dX8_join_201 rfl (lv_at hl 1 rfl) ?_
        refine lv_iload_n hx hb dX8_join_202 rfl (lv_at hl 2 rfl) ?_
        refine lv_idiv hx hb dX8_join_203 c_127 ?_
        refine lv_topi (fun x_129 ex_129 => ?_)
        replace hF := hF.trans (ap_n ex_129)
        subst hQ
        exact W.iret (v := x_129) hx hb hr (fun t1 ht hW => ⟨⟨x_129, (σ, I, J, ri, rj, rq), rfl, ⟨rfl, (hF0.symm.trans hF)⟩, by rw [ht]; exact hP, va_K.moved hW.alike hK, hD⟩, hS.F ht⟩) hS.2.2 dX8_join_204
      · replace hF := hF.trans (if_pos c_127)
        have h_130 : rg a2 0 0 := rg_and (rg_full _) (rg_of_eq c_127 (rg_k (0 : Int32) 0 rfl)) (by decide +kernel)
        refine lv_iconst (v := 0) hx hb dX8_join_197 (by decide +kernel) ?_
        refine lv_goto (tgt := 204) hx hb dX8_join_198 (by decide +kernel) ?_
        subst hQ
        exact W.iret (v := 0) hx hb hr (fun t1 ht hW => ⟨⟨0, (σ, I, J, ri, rj, rq), rfl, ⟨rfl, (hF0.symm.trans hF)⟩, by rw [ht]; exact hP, va_K.moved hW.alike hK, hD⟩, hS.F ht⟩) hS.2.2 dX8_join_204
    replace hF := hF.trans (if_neg k_124)
    by_cases k_131 : a0 = (14 : Int32)
    · replace hF := hF.trans (if_pos k_131)
      have h_133 : rg a0 14 14 := rg_and (rg_full _) (rg_of_eq k_131 (rg_k (14 : Int32) 14 rfl)) (by decide +kernel)
      refine lv_tov 14 k_131 ?_
      refine lv_tableIn (tgt := 193) hx hb dX8_join_1 (by decide +kernel) (by decide +kernel) rfl (by decide +kernel) ?_
      refine lv_iload_n hx hb dX8_join_193 rfl (lv_at hl 2 rfl) ?_
      refine lv_if_ne (tgt := 201) hx hb dX8_join_194 (by decide +kernel) (fun c_134 => ?_) (fun c_134 => ?_)
      · replace hF := hF.trans (if_neg c_134)
        refine lv_iload_n hx hb dX8_join_201 rfl (lv_at hl 1 rfl) ?_
        refine lv_iload_n hx hb dX8_join_202 rfl (lv_at hl 2 rfl) ?_
        refine lv_idiv hx hb dX8_join_203 c_134 ?_
        refine lv_topi (fun x_136 ex_136 => ?_)
        replace hF := hF.trans (ap_n ex_136)
        subst hQ
        exact W.iret (v := x_136) hx hb hr (fun t1 ht hW => ⟨⟨x_136, (σ, I, J, ri, rj, rq), rfl, ⟨rfl, (hF0.symm.trans hF)⟩, by rw [ht]; exact hP, va_K.moved hW.alike hK, hD⟩, hS.F ht⟩) hS.2.2 dX8_join_204
      · replace hF := hF.trans (if_pos c_134)
        have h_137 : rg a2 0 0 := rg_and (rg_full _) (rg_of_eq c_134 (rg_k (0 : Int32) 0 rfl)) (by decide +kernel)
        refine lv_iconst (v := 0) hx hb dX8_join_197 (by decide +kernel) ?_
        refine lv_goto (tgt := 204) hx hb dX8_join_198 (by decide +kernel) ?_
        subst hQ
        exact W.iret (v := 0) hx hb hr (fun t1 ht hW => ⟨⟨0, (σ, I, J, ri, rj, rq), rfl, ⟨rfl, (hF0.symm.trans hF)⟩, by rw [ht]; exact hP, va_K.moved hW.alike hK, hD⟩, hS.F ht⟩) hS.2.2 dX8_join_204
    replace hF := hF.trans (if_neg k_131)
    by_cases k_138 : a0 = (15 : Int32)
    · replace hF := hF.trans (if_pos k_138)
      have h_140 : rg a0 15 15 := rg_and (rg_full _) (rg_of_eq k_138 (rg_k (15 : Int32) 15 rfl)) (by decide +kernel)
      refine lv_tov 15 k_138 ?_
      refine lv_tableIn (tgt := 193) hx hb dX8_join_1 (by decide +kernel) (by decide +kernel) rfl (by decide +kernel) ?_
      refine lv_iload_n hx hb dX8_join_193 rfl (lv_at hl 2 rfl) ?_
      refine lv_if_ne (tgt := 201) hx hb dX8_join_194 (by decide +kernel) (fun c_141 => ?_) (fun c_141 => ?_)
      · replace hF := hF.trans (if_neg c_141)
        refine lv_iload_n hx hb dX8_join_201 rfl (lv_at hl 1 rfl) ?_
        refine lv_iload_n hx hb dX8_join_202 rfl (lv_at hl 2 rfl) ?_
        refine lv_idiv hx hb dX8_join_203 c_141 ?_
        refine lv_topi (fun x_143 ex_143 => ?_)
        replace hF := hF.trans (ap_n ex_143)
        subst hQ
        exact W.iret (v := x_143) hx hb hr (fun t1 ht hW => ⟨⟨x_143, (σ, I, J, ri, rj, rq), rfl, ⟨rfl, (hF0.symm.trans hF)⟩, by rw [ht]; exact hP, va_K.moved hW.alike hK, hD⟩, hS.F ht⟩) hS.2.2 dX8_join_204
      · replace hF := hF.trans (if_pos c_141)
        have h_144 : rg a2 0 0 := rg_and (rg_full _) (rg_of_eq c_141 (rg_k (0 : Int32) 0 rfl)) (by decide +kernel)
        refine lv_iconst (v := 0) hx hb dX8_join_197 (by decide +kernel) ?_
        refine lv_goto (tgt := 204) hx hb dX8_join_198 (by decide +kernel) ?_
        subst hQ
        exact W.iret (v := 0) hx hb hr (fun t1 ht hW => ⟨⟨0, (σ, I, J, ri, rj, rq), rfl, ⟨rfl, (hF0.symm.trans hF)⟩, by rw [ht]; exact hP, va_K.moved hW.alike hK, hD⟩, hS.F ht⟩) hS.2.2 dX8_join_204
    replace hF := hF.trans (if_neg k_138)
    by_cases k_145 : a0 = (16 : Int32)
    · replace hF := hF.trans (if_pos k_145)
      have h_147 : rg a0 16 16 := rg_and (rg_full _) (rg_of_eq k_145 (rg_k (16 : Int32) 16 rfl)) (by decide +kernel)
      refine lv_tov 16 k_145 ?_
      refine lv_tableIn (tgt := 193) hx hb dX8_join_1 (by decide +kernel) (by decide +kernel) rfl (by decide +kernel) ?_
      refine lv_iload_n hx hb dX8_join_193 rfl (lv_at hl 2 rfl) ?_
      refine lv_if_ne (tgt := 201) hx hb dX8_join_194 (by decide +kernel) (fun c_148 => ?_) (fun c_148 => ?_)
      · replace hF := hF.trans (if_neg c_148)
        refine lv_iload_n hx hb dX8_join_201 rfl (lv_at hl 1 rfl) ?_
        refine lv_iload_n hx hb dX8_join_202 rfl (lv_at hl 2 rfl) ?_
        refine lv_idiv hx hb dX8_join_203 c_148 ?_
        refine lv_topi (fun x_150 ex_150 => ?_)
        replace hF := hF.trans (ap_n ex_150)
        subst hQ
        exact W.iret (v := x_150) hx hb hr (fun t1 ht hW => ⟨⟨x_150, (σ, I, J, ri, rj, rq), rfl, ⟨rfl, (hF0.symm.trans hF)⟩, by rw [ht]; exact hP, va_K.moved hW.alike hK, hD⟩, hS.F ht⟩) hS.2.2 dX8_join_204
      · replace hF := hF.trans (if_pos c_148)
        have h_151 : rg a2 0 0 := rg_and (rg_full _) (rg_of_eq c_148 (rg_k (0 : Int32) 0 rfl)) (by decide +kernel)
        refine lv_iconst (v := 0) hx hb dX8_join_197 (by decide +kernel) ?_
        refine lv_goto (tgt := 204) hx hb dX8_join_198 (by decide +kernel) ?_
        subst hQ
        exact W.iret (v := 0) hx hb hr (fun t1 ht hW => ⟨⟨0, (σ, I, J, ri, rj, rq), rfl, ⟨rfl, (hF0.symm.trans hF)⟩, by rw [ht]; exact hP, va_K.moved hW.alike hK, hD⟩, hS.F ht⟩) hS.2.2 dX8_join_204
    replace hF := hF.trans (if_neg k_145)
    by_cases k_152 : a0 = (17 : Int32)
    · replace hF := hF.trans (if_pos k_152)
      have h_154 : rg a0 17 17 := rg_and (rg_full _) (rg_of_eq k_152 (rg_k (17 : Int32) 17 rfl)) (by decide +kernel)
      refine lv_tov 17 k_152 ?_
      refine lv_tableIn (tgt := 193) hx hb dX8_join_1 (by decide +kernel) (by decide +kernel) rfl (by decide +kernel) ?_
      refine lv_iload_n hx hb dX8_join_193 rfl (lv_at hl 2 rfl) ?_
      refine lv_if_ne (tgt := 201) hx hb dX8_join_194 (by decide +kernel) (fun c_155 => ?_) (fun c_155 => ?_)
      · replace hF := hF.trans (if_neg c_155)
        refine lv_iload_n hx hb dX8_join_201 rfl (lv_at hl 1 rfl) ?_
        refine lv_iload_n hx hb dX8_join_202 rfl (lv_at hl 2 rfl) ?_
        refine lv_idiv hx hb dX8_join_203 c_155 ?_
        refine lv_topi (fun x_157 ex_157 => ?_)
        replace hF := hF.trans (ap_n ex_157)
        subst hQ
        exact W.iret (v := x_157) hx hb hr (fun t1 ht hW => ⟨⟨x_157, (σ, I, J, ri, rj, rq), rfl, ⟨rfl, (hF0.symm.trans hF)⟩, by rw [ht]; exact hP, va_K.moved hW.alike hK, hD⟩, hS.F ht⟩) hS.2.2 dX8_join_204
      · replace hF := hF.trans (if_pos c_155)
        have h_158 : rg a2 0 0 := rg_and (rg_full _) (rg_of_eq c_155 (rg_k (0 : Int32) 0 rfl)) (by decide +kernel)
        refine lv_iconst (v := 0) hx hb dX8_join_197 (by decide +kernel) ?_
        refine lv_goto (tgt := 204) hx hb dX8_join_198 (by decide +kernel) ?_
        subst hQ
        exact W.iret (v := 0) hx hb hr (fun t1 ht hW => ⟨⟨0, (σ, I, J, ri, rj, rq), rfl, ⟨rfl, (hF0.symm.trans hF)⟩, by rw [ht]; exact hP, va_K.moved hW.alike hK, hD⟩, hS.F ht⟩) hS.2.2 dX8_join_204
    replace hF := hF.trans (if_neg k_152)
    by_cases k_159 : a0 = (18 : Int32)
    · replace hF := hF.trans (if_pos k_159)
      have h_161 : rg a0 18 18 := rg_and (rg_full _) (rg_of_eq k_159 (rg_k (18 : Int32) 18 rfl)) (by decide +kernel)
      refine lv_tov 18 k_159 ?_
      refine lv_tableIn (tgt := 193) hx hb dX8_join_1 (by decide +kernel) (by decide +kernel) rfl (by decide +kernel) ?_
      refine lv_iload_n hx hb dX8_join_193 rfl (lv_at hl 2 rfl) ?_
      refine lv_if_ne (tgt := 201) hx hb dX8_join_194 (by decide +kernel) (fun c_162 => ?_) (fun c_162 => ?_)
      · replace hF := hF.trans (if_neg c_162)
        refine lv_iload_n hx hb dX8_join_201 rfl (lv_at hl 1 rfl) ?_
        refine lv_iload_n hx hb dX8_join_202 rfl (lv_at hl 2 rfl) ?_
        refine lv_idiv hx hb dX8_join_203 c_162 ?_
        refine lv_topi (fun x_164 ex_164 => ?_)
        replace hF := hF.trans (ap_n ex_164)
        subst hQ
        exact W.iret (v := x_164) hx hb hr (fun t1 ht hW => ⟨⟨x_164, (σ, I, J, ri, rj, rq), rfl, ⟨rfl, (hF0.symm.trans hF)⟩, by rw [ht]; exact hP, va_K.moved hW.alike hK, hD⟩, hS.F ht⟩) hS.2.2 dX8_join_204
      · replace hF := hF.trans (if_pos c_162)
        have h_165 : rg a2 0 0 := rg_and (rg_full _) (rg_of_eq c_162 (rg_k (0 : Int32) 0 rfl)) (by decide +kernel)
        refine lv_iconst (v := 0) hx hb dX8_join_197 (by decide +kernel) ?_
        refine lv_goto (tgt := 204) hx hb dX8_join_198 (by decide +kernel) ?_
        subst hQ
        exact W.iret (v := 0) hx hb hr (fun t1 ht hW => ⟨⟨0, (σ, I, J, ri, rj, rq), rfl, ⟨rfl, (hF0.symm.trans hF)⟩, by rw [ht]; exact hP, va_K.moved hW.alike hK, hD⟩, hS.F ht⟩) hS.2.2 dX8_join_204
    replace hF := hF.trans (if_neg k_159)
    by_cases k_166 : a0 = (19 : Int32)
    · replace hF := hF.trans (if_pos k_166)
      have h_168 : rg a0 19 19 := rg_and (rg_full _) (rg_of_eq k_166 (rg_k (19 : Int32) 19 rfl)) (by decide +kernel)
      refine lv_tov 19 k_166 ?_
      refine lv_tableIn (tgt := 100) hx hb dX8_join_1 (by decide +kernel) (by decide +kernel) rfl (by decide +kernel) ?_
      refine lv_iload_n hx hb dX8_join_100 rfl (lv_at hl 1 rfl) ?_
      refine lv_iload_n hx hb dX8_join_101 rfl (lv_at hl 2 rfl) ?_
      refine lv_icmp_ge (tgt := 109) hx hb dX8_join_102 (by decide +kernel) (fun c_169 => ?_) (fun c_169 => ?_)
      · replace hF := hF.trans (if_pos c_169)
        refine lv_iconst (v := 0) hx hb dX8_join_109 (by decide +kernel) ?_
        subst hQ
        exact W.iret (v := 0) hx hb hr (fun t1 ht hW => ⟨⟨0, (σ, I, J, ri, rj, rq), rfl, ⟨rfl, (hF0.symm.trans hF)⟩, by rw [ht]; exact hP, va_K.moved hW.alike hK, hD⟩, hS.F ht⟩) hS.2.2 dX8_join_110
      · replace hF := hF.trans (if_neg c_169)
        have h_172 : rg a1 (-2147483648) 2147483646 := rg_lt1 (nle c_169) (rg_full _) (rg_full _) (by decide +kernel)
        have h_173 : rg a2 (-2147483647) 2147483647 := rg_lt2 (nle c_169) (rg_full _) (rg_full _) (by decide +kernel)
        refine lv_iconst (v := 1) hx hb dX8_join_105 (by decide +kernel) ?_
        refine lv_goto (tgt := 110) hx hb dX8_join_106 (by decide +kernel) ?_
        subst hQ
        exact W.iret (v := 1) hx hb hr (fun t1 ht hW => ⟨⟨1, (σ, I, J, ri, rj, rq), rfl, ⟨rfl, (hF0.symm.trans hF)⟩, by rw [ht]; exact hP, va_K.moved hW.alike hK, hD⟩, hS.F ht⟩) hS.2.2 dX8_join_110
    replace hF := hF.trans (if_neg k_166)
    by_cases k_174 : a0 = (20 : Int32)
    · replace hF := hF.trans (if_pos k_174)
      have h_176 : rg a0 20 20 := rg_and (rg_full _) (rg_of_eq k_174 (rg_k (20 : Int32) 20 rfl)) (by decide +kernel)
      refine lv_tov 20 k_174 ?_
      refine lv_tableIn (tgt := 111) hx hb dX8_join_1 (by decide +kernel) (by decide +kernel) rfl (by decide +kernel) ?_
      refine lv_iload_n hx hb dX8_join_111 rfl (lv_at hl 1 rfl) ?_
      refine lv_iload_n hx hb dX8_join_112 rfl (lv_at hl 2 rfl) ?_
      refine lv_icmp_gt (tgt := 120) hx hb dX8_join_113 (by decide +kernel) (fun c_177 => ?_) (fun c_177 => ?_)
      · replace hF := hF.trans (if_pos c_177)
        have h_180 : rg a2 (-2147483648) 2147483646 := rg_lt1 c_177 (rg_full _) (rg_full _) (by decide +kernel)
        have h_181 : rg a1 (-2147483647) 2147483647 := rg_lt2 c_177 (rg_full _) (rg_full _) (by decide +kernel)
        refine lv_iconst (v := 0) hx hb dX8_join_120 (by decide +kernel) ?_
        subst hQ
        exact W.iret (v := 0) hx hb hr (fun t1 ht hW => ⟨⟨0, (σ, I, J, ri, rj, rq), rfl, ⟨rfl, (hF0.symm.trans hF)⟩, by rw [ht]; exact hP, va_K.moved hW.alike hK, hD⟩, hS.F ht⟩) hS.2.2 dX8_join_121
      · replace hF := hF.trans (if_neg c_177)
        refine lv_iconst (v := 1) hx hb dX8_join_116 (by decide +kernel) ?_
        refine lv_goto (tgt := 121) hx hb dX8_join_117 (by decide +kernel) ?_
        subst hQ
        exact W.iret (v := 1) hx hb hr (fun t1 ht hW => ⟨⟨1, (σ, I, J, ri, rj, rq), rfl, ⟨rfl, (hF0.symm.trans hF)⟩, by rw [ht]; exact hP, va_K.moved hW.alike hK, hD⟩, hS.F ht⟩) hS.2.2 dX8_join_121
    replace hF := hF.trans (if_neg k_174)
    by_cases k_182 : a0 = (21 : Int32)
    · replace hF := hF.trans (if_pos k_182)
      have h_184 : rg a0 21 21 := rg_and (rg_full _) (rg_of_eq k_182 (rg_k (21 : Int32) 21 rfl)) (by decide +kernel)
      refine lv_tov 21 k_182 ?_
      refine lv_tableIn (tgt := 122) hx hb dX8_join_1 (by decide +kernel) (by decide +kernel) rfl (by decide +kernel) ?_
      refine lv_iload_n hx hb dX8_join_122 rfl (lv_at hl 1 rfl) ?_
      refine lv_iload_n hx hb dX8_join_123 rfl (lv_at hl 2 rfl) ?_
      refine lv_icmp_le (tgt := 131) hx hb dX8_join_124 (by decide +kernel) (fun c_185 => ?_) (fun c_185 => ?_)
      · replace hF := hF.trans (if_pos c_185)
        refine lv_iconst (v := 0) hx hb dX8_join_131 (by decide +kernel) ?_
        subst hQ
        exact W.iret (v := 0) hx hb hr (fun t1 ht hW => ⟨⟨0, (σ, I, J, ri, rj, rq), rfl, ⟨rfl, (hF0.symm.trans hF)⟩, by rw [ht]; exact hP, va_K.moved hW.alike hK, hD⟩, hS.F ht⟩) hS.2.2 dX8_join_132
      · replace hF := hF.trans (if_neg c_185)
        have h_188 : rg a2 (-2147483648) 2147483646 := rg_lt1 (nle c_185) (rg_full _) (rg_full _) (by decide +kernel)
        have h_189 : rg a1 (-2147483647) 2147483647 := rg_lt2 (nle c_185) (rg_full _) (rg_full _) (by decide +kernel)
        refine lv_iconst (v := 1) hx hb dX8_join_127 (by decide +kernel) ?_
        refine lv_goto (tgt := 132) hx hb dX8_join_128 (by decide +kernel) ?_
        subst hQ
        exact W.iret (v := 1) hx hb hr (fun t1 ht hW => ⟨⟨1, (σ, I, J, ri, rj, rq), rfl, ⟨rfl, (hF0.symm.trans hF)⟩, by rw [ht]; exact hP, va_K.moved hW.alike hK, hD⟩, hS.F ht⟩) hS.2.2 dX8_join_132
    replace hF := hF.trans (if_neg k_182)
    by_cases k_190 : a0 = (22 : Int32)
    · replace hF := hF.trans (if_pos k_190)
      have h_192 : rg a0 22 22 := rg_and (rg_full _) (rg_of_eq k_190 (rg_k (22 : Int32) 22 rfl)) (by decide +kernel)
      refine lv_tov 22 k_190 ?_
      refine lv_tableIn (tgt := 133) hx hb dX8_join_1 (by decide +kernel) (by decide +kernel) rfl (by decide +kernel) ?_
      refine lv_iload_n hx hb dX8_join_133 rfl (lv_at hl 1 rfl) ?_
      refine lv_iload_n hx hb dX8_join_134 rfl (lv_at hl 2 rfl) ?_
      refine lv_icmp_lt (tgt := 142) hx hb dX8_join_135 (by decide +kernel) (fun c_193 => ?_) (fun c_193 => ?_)
      · replace hF := hF.trans (if_pos c_193)
        have h_196 : rg a1 (-2147483648) 2147483646 := rg_lt1 c_193 (rg_full _) (rg_full _) (by decide +kernel)
        have h_197 : rg a2 (-2147483647) 2147483647 := rg_lt2 c_193 (rg_full _) (rg_full _) (by decide +kernel)
        refine lv_iconst (v := 0) hx hb dX8_join_142 (by decide +kernel) ?_
        subst hQ
        exact W.iret (v := 0) hx hb hr (fun t1 ht hW => ⟨⟨0, (σ, I, J, ri, rj, rq), rfl, ⟨rfl, (hF0.symm.trans hF)⟩, by rw [ht]; exact hP, va_K.moved hW.alike hK, hD⟩, hS.F ht⟩) hS.2.2 dX8_join_143
      · replace hF := hF.trans (if_neg c_193)
        refine lv_iconst (v := 1) hx hb dX8_join_138 (by decide +kernel) ?_
        refine lv_goto (tgt := 143) hx hb dX8_join_139 (by decide +kernel) ?_
        subst hQ
        exact W.iret (v := 1) hx hb hr (fun t1 ht hW => ⟨⟨1, (σ, I, J, ri, rj, rq), rfl, ⟨rfl, (hF0.symm.trans hF)⟩, by rw [ht]; exact hP, va_K.moved hW.alike hK, hD⟩, hS.F ht⟩) hS.2.2 dX8_join_143
    replace hF := hF.trans (if_neg k_190)
    by_cases k_198 : a0 = (23 : Int32)
    · replace hF := hF.trans (if_pos k_198)
      have h_200 : rg a0 23 23 := rg_and (rg_full _) (rg_of_eq k_198 (rg_k (23 : Int32) 23 rfl)) (by decide +kernel)
      refine lv_tov 23 k_198 ?_
      refine lv_tableIn (tgt := 144) hx hb dX8_join_1 (by decide +kernel) (by decide +kernel) rfl (by decide +kernel) ?_
      refine lv_iload_n hx hb dX8_join_144 rfl (lv_at hl 1 rfl) ?_
      refine lv_iload_n hx hb dX8_join_145 rfl (lv_at hl 2 rfl) ?_
      refine lv_icmp_ne (tgt := 153) hx hb dX8_join_146 (by decide +kernel) (fun c_201 => ?_) (fun c_201 => ?_)
      · replace hF := hF.trans (if_neg c_201)
        refine lv_iconst (v := 0) hx hb dX8_join_153 (by decide +kernel) ?_
        subst hQ
        exact W.iret (v := 0) hx hb hr (fun t1 ht hW => ⟨⟨0, (σ, I, J, ri, rj, rq), rfl, ⟨rfl, (hF0.symm.trans hF)⟩, by rw [ht]; exact hP, va_K.moved hW.alike hK, hD⟩, hS.F ht⟩) hS.2.2 dX8_join_154
      · replace hF := hF.trans (if_pos c_201)
        refine lv_iconst (v := 1) hx hb dX8_join_149 (by decide +kernel) ?_
        refine lv_goto (tgt := 154) hx hb dX8_join_150 (by decide +kernel) ?_
        subst hQ
        exact W.iret (v := 1) hx hb hr (fun t1 ht hW => ⟨⟨1, (σ, I, J, ri, rj, rq), rfl, ⟨rfl, (hF0.symm.trans hF)⟩, by rw [ht]; exact hP, va_K.moved hW.alike hK, hD⟩, hS.F ht⟩) hS.2.2 dX8_join_154
    replace hF := hF.trans (if_neg k_198)
    by_cases k_202 : a0 = (24 : Int32)
    · replace hF := hF.trans (if_pos k_202)
      have h_204 : rg a0 24 24 := rg_and (rg_full _) (rg_of_eq k_202 (rg_k (24 : Int32) 24 rfl)) (by decide +kernel)
      refine lv_tov 24 k_202 ?_
      refine lv_tableIn (tgt := 155) hx hb dX8_join_1 (by decide +kernel) (by decide +kernel) rfl (by decide +kernel) ?_
      refine lv_iload_n hx hb dX8_join_155 rfl (lv_at hl 1 rfl) ?_
      refine lv_iload_n hx hb dX8_join_156 rfl (lv_at hl 2 rfl) ?_
      refine lv_icmp_eq (tgt := 164) hx hb dX8_join_157 (by decide +kernel) (fun c_205 => ?_) (fun c_205 => ?_)
      · replace hF := hF.trans (if_pos c_205)
        refine lv_iconst (v := 0) hx hb dX8_join_164 (by decide +kernel) ?_
        subst hQ
        exact W.iret (v := 0) hx hb hr (fun t1 ht hW => ⟨⟨0, (σ, I, J, ri, rj, rq), rfl, ⟨rfl, (hF0.symm.trans hF)⟩, by rw [ht]; exact hP, va_K.moved hW.alike hK, hD⟩, hS.F ht⟩) hS.2.2 dX8_join_165
      · replace hF := hF.trans (if_neg c_205)
        refine lv_iconst (v := 1) hx hb dX8_join_160 (by decide +kernel) ?_
        refine lv_goto (tgt := 165) hx hb dX8_join_161 (by decide +kernel) ?_
        subst hQ
        exact W.iret (v := 1) hx hb hr (fun t1 ht hW => ⟨⟨1, (σ, I, J, ri, rj, rq), rfl, ⟨rfl, (hF0.symm.trans hF)⟩, by rw [ht]; exact hP, va_K.moved hW.alike hK, hD⟩, hS.F ht⟩) hS.2.2 dX8_join_165
    replace hF := hF.trans (if_neg k_202)
    by_cases k_206 : a0 = (25 : Int32)
    · replace hF := hF.trans (if_pos k_206)
      have h_208 : rg a0 25 25 := rg_and (rg_full _) (rg_of_eq k_206 (rg_k (25 : Int32) 25 rfl)) (by decide +kernel)
      refine lv_tov 25 k_206 ?_
      refine lv_tableIn (tgt := 166) hx hb dX8_join_1 (by decide +kernel) (by decide +kernel) rfl (by decide +kernel) ?_
      refine lv_iload_n hx hb dX8_join_166 rfl (lv_at hl 1 rfl) ?_
      refine lv_i2l hx hb dX8_join_167 rfl ?_
      refine lv_topl (fun x_209 ex_209 => ?_)
      replace hF := hF.trans (ap_n ex_209)
      refine lv_iload_n hx hb dX8_join_168 rfl (lv_at hl 2 rfl) ?_
      refine lv_i2l hx hb dX8_join_169 rfl ?_
      refine lv_topl (fun x_210 ex_210 => ?_)
      replace hF := hF.trans (ap_n ex_210)
      refine lv_ladd hx hb dX8_join_170 ?_
      refine lv_topl (fun x_211 ex_211 => ?_)
      replace hF := hF.trans (ap_n ex_211)
      refine lv_lstore_n (lv' := [(3, .long x_211), (0, .int a0), (1, .int a1), (2, .int a2)]) hx hb dX8_join_171 rfl hl (by decide +kernel) rfl (fun ls hl => ?_)
      refine lv_goto (tgt := 205) hx hb dX8_join_172 (by decide +kernel) ?_
      exact K_96 x_211 _ _ _ (rg_w h_208 (by decide +kernel)) hF hG hP hD hS (lv_sub hl [0] rfl)
    replace hF := hF.trans (if_neg k_206)
    by_cases k_212 : a0 = (26 : Int32)
    · replace hF := hF.trans (if_pos k_212)
      have h_214 : rg a0 26 26 := rg_and (rg_full _) (rg_of_eq k_212 (rg_k (26 : Int32) 26 rfl)) (by decide +kernel)
      refine lv_tov 26 k_212 ?_
      refine lv_tableIn (tgt := 175) hx hb dX8_join_1 (by decide +kernel) (by decide +kernel) rfl (by decide +kernel) ?_
      refine lv_iload_n hx hb dX8_join_175 rfl (lv_at hl 1 rfl) ?_
      refine lv_i2l hx hb dX8_join_176 rfl ?_
      refine lv_topl (fun x_215 ex_215 => ?_)
      replace hF := hF.trans (ap_n ex_215)
      refine lv_iload_n hx hb dX8_join_177 rfl (lv_at hl 2 rfl) ?_
      refine lv_i2l hx hb dX8_join_178 rfl ?_
      refine lv_topl (fun x_216 ex_216 => ?_)
      replace hF := hF.trans (ap_n ex_216)
      refine lv_lsub hx hb dX8_join_179 ?_
      refine lv_topl (fun x_217 ex_217 => ?_)
      replace hF := hF.trans (ap_n ex_217)
      refine lv_lstore_n (lv' := [(3, .long x_217), (0, .int a0), (1, .int a1), (2, .int a2)]) hx hb dX8_join_180 rfl hl (by decide +kernel) rfl (fun ls hl => ?_)
      refine lv_goto (tgt := 205) hx hb dX8_join_181 (by decide +kernel) ?_
      exact K_96 x_217 _ _ _ (rg_w h_214 (by decide +kernel)) hF hG hP hD hS (lv_sub hl [0] rfl)
    replace hF := hF.trans (if_neg k_212)
    by_cases k_218 : a0 = (27 : Int32)
    · replace hF := hF.trans (if_pos k_218)
      have h_220 : rg a0 27 27 := rg_and (rg_full _) (rg_of_eq k_218 (rg_k (27 : Int32) 27 rfl)) (by decide +kernel)
      refine lv_tov 27 k_218 ?_
      refine lv_tableIn (tgt := 184) hx hb dX8_join_1 (by decide +kernel) (by decide +kernel) rfl (by decide +kernel) ?_
      refine lv_iload_n hx hb dX8_join_184 rfl (lv_at hl 1 rfl) ?_
      refine lv_i2l hx hb dX8_join_185 rfl ?_
      refine lv_topl (fun x_221 ex_221 => ?_)
      replace hF := hF.trans (ap_n ex_221)
      refine lv_iload_n hx hb dX8_join_186 rfl (lv_at hl 2 rfl) ?_
      refine lv_i2l hx hb dX8_join_187 rfl ?_
      refine lv_topl (fun x_222 ex_222 => ?_)
      replace hF := hF.trans (ap_n ex_222)
      refine lv_lmul hx hb dX8_join_188 ?_
      refine lv_topl (fun x_223 ex_223 => ?_)
      replace hF := hF.trans (ap_n ex_223)
      refine lv_lstore_n (lv' := [(3, .long x_223), (0, .int a0), (1, .int a1), (2, .int a2)]) hx hb dX8_join_189 rfl hl (by decide +kernel) rfl (fun ls hl => ?_)
      refine lv_goto (tgt := 205) hx hb dX8_join_190 (by decide +kernel) ?_
      exact K_96 x_223 _ _ _ (rg_w h_220 (by decide +kernel)) hF hG hP hD hS (lv_sub hl [0] rfl)
    replace hF := hF.trans (if_neg k_218)
    refine lv_tableOut (tgt := 193) hx hb dX8_join_1 (by have z_k_102 := sw_ne k_102 (n := 9) rfl; have z_k_106 := sw_ne k_106 (n := 10) rfl; have z_k_110 := sw_ne k_110 (n := 11) rfl; have z_k_117 := sw_ne k_117 (n := 12) rfl; have z_k_124 := sw_ne k_124 (n := 13) rfl; have z_k_131 := sw_ne k_131 (n := 14) rfl; have z_k_138 := sw_ne k_138 (n := 15) rfl; have z_k_145 := sw_ne k_145 (n := 16) rfl; have z_k_152 := sw_ne k_152 (n := 17) rfl; have z_k_159 := sw_ne k_159 (n := 18) rfl; have z_k_166 := sw_ne k_166 (n := 19) rfl; have z_k_174 := sw_ne k_174 (n := 20) rfl; have z_k_182 := sw_ne k_182 (n := 21) rfl; have z_k_190 := sw_ne k_190 (n := 22) rfl; have z_k_198 := sw_ne k_198 (n := 23) rfl; have z_k_202 := sw_ne k_202 (n := 24) rfl; have z_k_206 := sw_ne k_206 (n := 25) rfl; have z_k_212 := sw_ne k_212 (n := 26) rfl; have z_k_218 := sw_ne k_218 (n := 27) rfl; omega) (by decide +kernel) ?_
    refine lv_iload_n hx hb dX8_join_193 rfl (lv_at hl 2 rfl) ?_
    refine lv_if_ne (tgt := 201) hx hb dX8_join_194 (by decide +kernel) (fun c_224 => ?_) (fun c_224 => ?_)
    · replace hF := hF.trans (if_neg c_224)
      refine lv_iload_n hx hb dX8_join_201 rfl (lv_at hl 1 rfl) ?_
      refine lv_iload_n hx hb dX8_join_202 rfl (lv_at hl 2 rfl) ?_
      refine lv_idiv hx hb dX8_join_203 c_224 ?_
      refine lv_topi (fun x_226 ex_226 => ?_)
      replace hF := hF.trans (ap_n ex_226)
      subst hQ
      exact W.iret (v := x_226) hx hb hr (fun t1 ht hW => ⟨⟨x_226, (σ, I, J, ri, rj, rq), rfl, ⟨rfl, (hF0.symm.trans hF)⟩, by rw [ht]; exact hP, va_K.moved hW.alike hK, hD⟩, hS.F ht⟩) hS.2.2 dX8_join_204
    · replace hF := hF.trans (if_pos c_224)
      have h_227 : rg a2 0 0 := rg_and (rg_full _) (rg_of_eq c_224 (rg_k (0 : Int32) 0 rfl)) (by decide +kernel)
      refine lv_iconst (v := 0) hx hb dX8_join_197 (by decide +kernel) ?_
      refine lv_goto (tgt := 204) hx hb dX8_join_198 (by decide +kernel) ?_
      subst hQ
      exact W.iret (v := 0) hx hb hr (fun t1 ht hW => ⟨⟨0, (σ, I, J, ri, rj, rq), rfl, ⟨rfl, (hF0.symm.trans hF)⟩, by rw [ht]; exact hP, va_K.moved hW.alike hK, hD⟩, hS.F ht⟩) hS.2.2 dX8_join_204
  exact go _ _ _ hP hD hS hl
