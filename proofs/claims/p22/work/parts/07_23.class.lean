theorem dX11_sail_0 : decode cX11_sail 0 = .ok (.iload_n 1, 1) := oc_27 (by decide +kernel)
theorem dX11_sail_1 : decode cX11_sail 1 = .ok (.iconst 0, 1) := oc_3 (by decide +kernel)
theorem dX11_sail_2 : decode cX11_sail 2 = .ok (.bipush 40, 2) := oc_16 (a := 40) (by decide +kernel)
theorem dX11_sail_4 : decode cX11_sail 4 = .ok (.invokestatic 50, 3) := oc_184 (a := 0) (b := 50) (by decide +kernel)
theorem dX11_sail_20 : decode cX11_sail 20 = .ok (.iconst 0, 1) := oc_3 (by decide +kernel)
theorem dX11_sail_21 : decode cX11_sail 21 = .ok (.ireturn, 1) := oc_172 (by decide +kernel)
theorem dX11_sail_7 : decode cX11_sail 7 = .ok (.ifCond .eq 13, 3) := oc_153 (a := 0) (b := 13) (by decide +kernel)
theorem dX11_sail_10 : decode cX11_sail 10 = .ok (.iload_n 2, 1) := oc_28 (by decide +kernel)
theorem dX11_sail_11 : decode cX11_sail 11 = .ok (.iconst 0, 1) := oc_3 (by decide +kernel)
theorem tw_1024 : Cond.constant RX11 253 (100000) ∈ wsL_law := sg_43 _ (List.mem_of_getElem? (i := 16) rfl)
theorem dX11_sail_12 : decode cX11_sail 12 = .ok (.ldc 253, 2) := oc_18 (by decide +kernel)
theorem dX11_sail_14 : decode cX11_sail 14 = .ok (.invokestatic 50, 3) := oc_184 (a := 0) (b := 50) (by decide +kernel)
theorem dX11_sail_17 : decode cX11_sail 17 = .ok (.ifCond .ne 5, 3) := oc_154 (a := 0) (b := 5) (by decide +kernel)
theorem dX11_sail_22 : decode cX11_sail 22 = .ok (.aload_n 0, 1) := oc_42 (by decide +kernel)
theorem dX11_sail_23 : decode cX11_sail 23 = .ok (.getfield 10, 3) := oc_180 (a := 0) (b := 10) (by decide +kernel)
theorem dX11_sail_26 : decode cX11_sail 26 = .ok (.iload_n 1, 1) := oc_27 (by decide +kernel)
theorem tw_1025 : Cond.fieldLink RX11 254 "RingsUnder$World" "boats" "I" ∈ wsL_law := sg_43 _ (List.mem_of_getElem? (i := 17) rfl)
theorem dX11_sail_27 : decode cX11_sail 27 = .ok (.putfield 254, 3) := oc_181 (a := 0) (b := 254) (by decide +kernel)
theorem dX11_sail_30 : decode cX11_sail 30 = .ok (.aload_n 0, 1) := oc_42 (by decide +kernel)
theorem dX11_sail_31 : decode cX11_sail 31 = .ok (.getfield 10, 3) := oc_180 (a := 0) (b := 10) (by decide +kernel)
theorem dX11_sail_34 : decode cX11_sail 34 = .ok (.dup, 1) := oc_89 (by decide +kernel)
theorem tw_1026 : Cond.fieldLink RX11 257 "RingsUnder$World" "fund" "I" ∈ wsL_law := sg_43 _ (List.mem_of_getElem? (i := 18) rfl)
theorem dX11_sail_35 : decode cX11_sail 35 = .ok (.getfield 257, 3) := oc_180 (a := 1) (b := 1) (by decide +kernel)
theorem dX11_sail_38 : decode cX11_sail 38 = .ok (.iload_n 2, 1) := oc_28 (by decide +kernel)
theorem dX11_sail_39 : decode cX11_sail 39 = .ok (.iadd, 1) := oc_96 (by decide +kernel)
theorem dX11_sail_40 : decode cX11_sail 40 = .ok (.putfield 257, 3) := oc_181 (a := 1) (b := 1) (by decide +kernel)
theorem dX11_sail_43 : decode cX11_sail 43 = .ok (.iconst 1, 1) := oc_4 (by decide +kernel)
theorem dX11_sail_44 : decode cX11_sail 44 = .ok (.ireturn, 1) := oc_172 (by decide +kernel)
theorem dX11_canGoBy_0 : decode cX11_canGoBy 0 = .ok (.iload_n 1, 1) := oc_27 (by decide +kernel)
theorem dX11_canGoBy_1 : decode cX11_canGoBy 1 = .ok (.invokestatic 64, 3) := oc_184 (a := 0) (b := 64) (by decide +kernel)
theorem dX11_canGoBy_35 : decode cX11_canGoBy 35 = .ok (.iconst 0, 1) := oc_3 (by decide +kernel)
theorem dX11_canGoBy_36 : decode cX11_canGoBy 36 = .ok (.ireturn, 1) := oc_172 (by decide +kernel)
theorem dX11_canGoBy_4 : decode cX11_canGoBy 4 = .ok (.ifCond .eq 31, 3) := oc_153 (a := 0) (b := 31) (by decide +kernel)
theorem dX11_canGoBy_7 : decode cX11_canGoBy 7 = .ok (.iload_n 2, 1) := oc_28 (by decide +kernel)
theorem dX11_canGoBy_8 : decode cX11_canGoBy 8 = .ok (.iconst 1, 1) := oc_4 (by decide +kernel)
theorem dX11_canGoBy_9 : decode cX11_canGoBy 9 = .ok (.iload_n 3, 1) := oc_29 (by decide +kernel)
theorem dX11_canGoBy_10 : decode cX11_canGoBy 10 = .ok (.invokestatic 50, 3) := oc_184 (a := 0) (b := 50) (by decide +kernel)
theorem dX11_canGoBy_13 : decode cX11_canGoBy 13 = .ok (.ifCond .eq 22, 3) := oc_153 (a := 0) (b := 22) (by decide +kernel)
theorem dX11_canGoBy_16 : decode cX11_canGoBy 16 = .ok (.aload_n 0, 1) := oc_42 (by decide +kernel)
theorem dX11_canGoBy_17 : decode cX11_canGoBy 17 = .ok (.getfield 10, 3) := oc_180 (a := 0) (b := 10) (by decide +kernel)
theorem dX11_canGoBy_20 : decode cX11_canGoBy 20 = .ok (.getfield 54, 3) := oc_180 (a := 0) (b := 54) (by decide +kernel)
theorem dX11_canGoBy_23 : decode cX11_canGoBy 23 = .ok (.iload_n 2, 1) := oc_28 (by decide +kernel)
theorem dX11_canGoBy_24 : decode cX11_canGoBy 24 = .ok (.iadd, 1) := oc_96 (by decide +kernel)
theorem dX11_canGoBy_25 : decode cX11_canGoBy 25 = .ok (.sipush 600, 3) := oc_17 (a := 2) (b := 88) (by decide +kernel)
theorem dX11_canGoBy_28 : decode cX11_canGoBy 28 = .ok (.if_icmp .gt 7, 3) := oc_163 (a := 0) (b := 7) (by decide +kernel)
theorem dX11_canGoBy_31 : decode cX11_canGoBy 31 = .ok (.iconst 1, 1) := oc_4 (by decide +kernel)
theorem dX11_canGoBy_32 : decode cX11_canGoBy 32 = .ok (.goto 4, 3) := oc_167 (a := 0) (b := 4) (by decide +kernel)
theorem dX11_months_0 : decode cX11_months 0 = .ok (.aload_n 0, 1) := oc_42 (by decide +kernel)
theorem dX11_months_1 : decode cX11_months 1 = .ok (.iload_n 2, 1) := oc_28 (by decide +kernel)
theorem dX11_months_2 : decode cX11_months 2 = .ok (.iload_n 1, 1) := oc_27 (by decide +kernel)
theorem dX11_months_3 : decode cX11_months 3 = .ok (.bipush 60, 2) := oc_16 (a := 60) (by decide +kernel)
theorem tw_1035 : Cond.methodLink RX11 260 yX11_canGoBy ∈ wsL_law := sg_44 _ (List.mem_of_getElem? (i := 3) rfl)
theorem tw_1036 : Cond.instanceMethod yX11_canGoBy ∈ wsL_law := sg_44 _ (List.mem_of_getElem? (i := 4) rfl)
theorem tw_1037 : Cond.selects RX11 yX11_canGoBy yX11_canGoBy ∈ wsL_law := sg_44 _ (List.mem_of_getElem? (i := 5) rfl)
theorem tw_1038 : Cond.code yX11_canGoBy cX11_canGoBy 4 (some .boolean) ∈ wsL_law := sg_44 _ (List.mem_of_getElem? (i := 6) rfl)
theorem dX11_months_5 : decode cX11_months 5 = .ok (.invokevirtual 260, 3) := oc_182 (a := 1) (b := 4) (by decide +kernel)
theorem dX11_months_8 : decode cX11_months 8 = .ok (.ifCond .ne 5, 3) := oc_154 (a := 0) (b := 5) (by decide +kernel)
theorem dX11_months_13 : decode cX11_months 13 = .ok (.iconst 0, 1) := oc_3 (by decide +kernel)
theorem dX11_months_14 : decode cX11_months 14 = .ok (.istore_n 3, 1) := oc_62 (by decide +kernel)
theorem dX11_months_15 : decode cX11_months 15 = .ok (.iload_n 3, 1) := oc_29 (by decide +kernel)
theorem dX11_months_16 : decode cX11_months 16 = .ok (.iload_n 1, 1) := oc_27 (by decide +kernel)
theorem dX11_months_17 : decode cX11_months 17 = .ok (.if_icmp .ge 17, 3) := oc_162 (a := 0) (b := 17) (by decide +kernel)
theorem dX11_months_34 : decode cX11_months 34 = .ok (.aload_n 0, 1) := oc_42 (by decide +kernel)
theorem dX11_months_35 : decode cX11_months 35 = .ok (.getfield 10, 3) := oc_180 (a := 0) (b := 10) (by decide +kernel)
theorem dX11_months_38 : decode cX11_months 38 = .ok (.getfield 54, 3) := oc_180 (a := 0) (b := 54) (by decide +kernel)
theorem dX11_months_41 : decode cX11_months 41 = .ok (.ireturn, 1) := oc_172 (by decide +kernel)
theorem dX11_months_20 : decode cX11_months 20 = .ok (.aload_n 0, 1) := oc_42 (by decide +kernel)
theorem dX11_months_21 : decode cX11_months 21 = .ok (.getfield 10, 3) := oc_180 (a := 0) (b := 10) (by decide +kernel)
theorem dX11_months_24 : decode cX11_months 24 = .ok (.iload_n 2, 1) := oc_28 (by decide +kernel)
theorem tw_1039 : Cond.methodLink RX11 263 yX10_goBy ∈ wsL_law := sg_44 _ (List.mem_of_getElem? (i := 7) rfl)
theorem tw_1040 : Cond.instanceMethod yX10_goBy ∈ wsL_law := sg_44 _ (List.mem_of_getElem? (i := 8) rfl)
theorem tw_1041 : Cond.selects RX10 yX10_goBy yX10_goBy ∈ wsL_law := sg_44 _ (List.mem_of_getElem? (i := 9) rfl)
theorem tw_1042 : Cond.code yX10_goBy cX10_goBy 4 none ∈ wsL_law := sg_44 _ (List.mem_of_getElem? (i := 10) rfl)
theorem dX11_months_25 : decode cX11_months 25 = .ok (.invokevirtual 263, 3) := oc_182 (a := 1) (b := 7) (by decide +kernel)
theorem dX11_months_28 : decode cX11_months 28 = .ok (.iinc 3 1, 3) := oc_132 (b := 1) (by decide +kernel)
theorem dX11_months_31 : decode cX11_months 31 = .ok (.goto (-16), 3) := oc_167 (a := 255) (b := 240) (by decide +kernel)
theorem dX11_months_11 : decode cX11_months 11 = .ok (.iconst (-1), 1) := oc_2 (by decide +kernel)
theorem dX11_months_12 : decode cX11_months 12 = .ok (.ireturn, 1) := oc_172 (by decide +kernel)
theorem dX11_sinks_0 : decode cX11_sinks 0 = .ok (.aload_n 0, 1) := oc_42 (by decide +kernel)
theorem dX11_sinks_1 : decode cX11_sinks 1 = .ok (.iload_n 1, 1) := oc_27 (by decide +kernel)
theorem dX11_sinks_2 : decode cX11_sinks 2 = .ok (.invokevirtual 119, 3) := oc_182 (a := 0) (b := 119) (by decide +kernel)
theorem dX11_sinks_19 : decode cX11_sinks 19 = .ok (.iconst (-1), 1) := oc_2 (by decide +kernel)
theorem dX11_sinks_20 : decode cX11_sinks 20 = .ok (.ireturn, 1) := oc_172 (by decide +kernel)
theorem dX11_sinks_5 : decode cX11_sinks 5 = .ok (.ifCond .eq 14, 3) := oc_153 (a := 0) (b := 14) (by decide +kernel)
theorem dX11_sinks_8 : decode cX11_sinks 8 = .ok (.aload_n 0, 1) := oc_42 (by decide +kernel)
theorem dX11_sinks_9 : decode cX11_sinks 9 = .ok (.iload_n 2, 1) := oc_28 (by decide +kernel)
theorem dX11_sinks_10 : decode cX11_sinks 10 = .ok (.iload_n 3, 1) := oc_29 (by decide +kernel)
theorem dX11_sinks_11 : decode cX11_sinks 11 = .ok (.bipush 60, 2) := oc_16 (a := 60) (by decide +kernel)
theorem dX11_sinks_13 : decode cX11_sinks 13 = .ok (.invokevirtual 260, 3) := oc_182 (a := 1) (b := 4) (by decide +kernel)
theorem dX11_sinks_16 : decode cX11_sinks 16 = .ok (.ifCond .ne 5, 3) := oc_154 (a := 0) (b := 5) (by decide +kernel)
theorem dX11_sinks_21 : decode cX11_sinks 21 = .ok (.aload_n 0, 1) := oc_42 (by decide +kernel)
theorem tw_18 : Cond.fieldLink RX11 19 "RingsUnder" "trial" "LRingsUnder$World;" ∈ wsL_law := sg_1 _ (List.mem_of_getElem? (i := 18) rfl)
theorem dX11_sinks_22 : decode cX11_sinks 22 = .ok (.getfield 19, 3) := oc_180 (a := 0) (b := 19) (by decide +kernel)
theorem dX11_sinks_25 : decode cX11_sinks 25 = .ok (.aload_n 0, 1) := oc_42 (by decide +kernel)
theorem dX11_sinks_26 : decode cX11_sinks 26 = .ok (.getfield 10, 3) := oc_180 (a := 0) (b := 10) (by decide +kernel)
theorem tw_1362 : Cond.methodLink RX11 266 yX10_copyFrom ∈ wsL_law := sg_57 _ (List.mem_of_getElem? (i := 18) rfl)
theorem tw_1363 : Cond.instanceMethod yX10_copyFrom ∈ wsL_law := sg_57 _ (List.mem_of_getElem? (i := 19) rfl)
theorem tw_1364 : Cond.selects RX10 yX10_copyFrom yX10_copyFrom ∈ wsL_law := sg_57 _ (List.mem_of_getElem? (i := 20) rfl)
theorem tw_1365 : Cond.code yX10_copyFrom cX10_copyFrom 2 none ∈ wsL_law := sg_57 _ (List.mem_of_getElem? (i := 21) rfl)
theorem dX11_sinks_29 : decode cX11_sinks 29 = .ok (.invokevirtual 266, 3) := oc_182 (a := 1) (b := 10) (by decide +kernel)
theorem dX11_sinks_32 : decode cX11_sinks 32 = .ok (.iconst 0, 1) := oc_3 (by decide +kernel)
theorem dX11_sinks_33 : decode cX11_sinks 33 = .ok (.istore 4, 2) := oc_54 (by decide +kernel)
theorem dX11_sinks_35 : decode cX11_sinks 35 = .ok (.iload 4, 2) := oc_21 (by decide +kernel)
theorem dX11_sinks_37 : decode cX11_sinks 37 = .ok (.iload_n 3, 1) := oc_29 (by decide +kernel)
theorem dX11_sinks_38 : decode cX11_sinks 38 = .ok (.if_icmp .ge 52, 3) := oc_162 (a := 0) (b := 52) (by decide +kernel)
theorem dX11_sinks_90 : decode cX11_sinks 90 = .ok (.iconst (-1), 1) := oc_2 (by decide +kernel)
theorem dX11_sinks_91 : decode cX11_sinks 91 = .ok (.ireturn, 1) := oc_172 (by decide +kernel)
theorem dX11_sinks_41 : decode cX11_sinks 41 = .ok (.aload_n 0, 1) := oc_42 (by decide +kernel)
theorem dX11_sinks_42 : decode cX11_sinks 42 = .ok (.getfield 19, 3) := oc_180 (a := 0) (b := 19) (by decide +kernel)
theorem dX11_sinks_45 : decode cX11_sinks 45 = .ok (.iload_n 2, 1) := oc_28 (by decide +kernel)
theorem tw_1395 : Cond.methodLink RX11 270 yX10_nature ∈ wsL_law := sg_59 _ (List.mem_of_getElem? (i := 3) rfl)
theorem dX11_sinks_46 : decode cX11_sinks 46 = .ok (.invokevirtual 270, 3) := oc_182 (a := 1) (b := 14) (by decide +kernel)
theorem dX11_sinks_49 : decode cX11_sinks 49 = .ok (.aload_n 0, 1) := oc_42 (by decide +kernel)
theorem dX11_sinks_50 : decode cX11_sinks 50 = .ok (.getfield 19, 3) := oc_180 (a := 0) (b := 19) (by decide +kernel)
theorem dX11_sinks_53 : decode cX11_sinks 53 = .ok (.getfield 36, 3) := oc_180 (a := 0) (b := 36) (by decide +kernel)
theorem dX11_sinks_56 : decode cX11_sinks 56 = .ok (.iload_n 1, 1) := oc_27 (by decide +kernel)
theorem tw_1396 : Cond.methodLink RX11 273 yX2_isDry ∈ wsL_law := sg_59 _ (List.mem_of_getElem? (i := 4) rfl)
theorem dX11_sinks_57 : decode cX11_sinks 57 = .ok (.invokevirtual 273, 3) := oc_182 (a := 1) (b := 17) (by decide +kernel)
theorem dX11_sinks_60 : decode cX11_sinks 60 = .ok (.ifCond .ne 11, 3) := oc_154 (a := 0) (b := 11) (by decide +kernel)
theorem dX11_sinks_71 : decode cX11_sinks 71 = .ok (.aload_n 0, 1) := oc_42 (by decide +kernel)
theorem dX11_sinks_72 : decode cX11_sinks 72 = .ok (.getfield 19, 3) := oc_180 (a := 0) (b := 19) (by decide +kernel)
theorem dX11_sinks_75 : decode cX11_sinks 75 = .ok (.dup, 1) := oc_89 (by decide +kernel)
theorem dX11_sinks_76 : decode cX11_sinks 76 = .ok (.getfield 54, 3) := oc_180 (a := 0) (b := 54) (by decide +kernel)
theorem dX11_sinks_79 : decode cX11_sinks 79 = .ok (.iconst 1, 1) := oc_4 (by decide +kernel)
theorem dX11_sinks_80 : decode cX11_sinks 80 = .ok (.iadd, 1) := oc_96 (by decide +kernel)
theorem dX11_sinks_81 : decode cX11_sinks 81 = .ok (.putfield 54, 3) := oc_181 (a := 0) (b := 54) (by decide +kernel)
theorem dX11_sinks_84 : decode cX11_sinks 84 = .ok (.iinc 4 1, 3) := oc_132 (b := 1) (by decide +kernel)
theorem dX11_sinks_87 : decode cX11_sinks 87 = .ok (.goto (-52), 3) := oc_167 (a := 255) (b := 204) (by decide +kernel)
theorem dX11_sinks_63 : decode cX11_sinks 63 = .ok (.aload_n 0, 1) := oc_42 (by decide +kernel)
theorem dX11_sinks_64 : decode cX11_sinks 64 = .ok (.getfield 19, 3) := oc_180 (a := 0) (b := 19) (by decide +kernel)
theorem dX11_sinks_67 : decode cX11_sinks 67 = .ok (.getfield 54, 3) := oc_180 (a := 0) (b := 54) (by decide +kernel)
theorem dX11_sinks_70 : decode cX11_sinks 70 = .ok (.ireturn, 1) := oc_172 (by decide +kernel)
theorem dX11_cant_0 : decode cX11_cant 0 = .ok (.aload_n 0, 1) := oc_42 (by decide +kernel)
theorem dX11_cant_1 : decode cX11_cant 1 = .ok (.iload_n 1, 1) := oc_27 (by decide +kernel)
theorem dX11_cant_2 : decode cX11_cant 2 = .ok (.iload_n 2, 1) := oc_28 (by decide +kernel)
theorem dX11_cant_3 : decode cX11_cant 3 = .ok (.bipush 60, 2) := oc_16 (a := 60) (by decide +kernel)
theorem dX11_cant_5 : decode cX11_cant 5 = .ok (.invokevirtual 260, 3) := oc_182 (a := 1) (b := 4) (by decide +kernel)
theorem dX11_cant_8 : decode cX11_cant 8 = .ok (.ifCond .ne 5, 3) := oc_154 (a := 0) (b := 5) (by decide +kernel)
theorem dX11_cant_13 : decode cX11_cant 13 = .ok (.aload_n 0, 1) := oc_42 (by decide +kernel)
theorem dX11_cant_14 : decode cX11_cant 14 = .ok (.getfield 19, 3) := oc_180 (a := 0) (b := 19) (by decide +kernel)
theorem dX11_cant_17 : decode cX11_cant 17 = .ok (.aload_n 0, 1) := oc_42 (by decide +kernel)
theorem dX11_cant_18 : decode cX11_cant 18 = .ok (.getfield 10, 3) := oc_180 (a := 0) (b := 10) (by decide +kernel)
theorem dX11_cant_21 : decode cX11_cant 21 = .ok (.invokevirtual 266, 3) := oc_182 (a := 1) (b := 10) (by decide +kernel)
theorem dX11_cant_24 : decode cX11_cant 24 = .ok (.aload_n 0, 1) := oc_42 (by decide +kernel)
theorem dX11_cant_25 : decode cX11_cant 25 = .ok (.getfield 19, 3) := oc_180 (a := 0) (b := 19) (by decide +kernel)
theorem dX11_cant_28 : decode cX11_cant 28 = .ok (.iconst (-1), 1) := oc_2 (by decide +kernel)
theorem tw_1405 : Cond.fieldLink RX11 276 "RingsUnder$World" "cantMonth" "I" ∈ wsL_law := sg_59 _ (List.mem_of_getElem? (i := 13) rfl)
theorem dX11_cant_29 : decode cX11_cant 29 = .ok (.putfield 276, 3) := oc_181 (a := 1) (b := 20) (by decide +kernel)
theorem dX11_cant_32 : decode cX11_cant 32 = .ok (.iconst 0, 1) := oc_3 (by decide +kernel)
theorem dX11_cant_33 : decode cX11_cant 33 = .ok (.istore_n 3, 1) := oc_62 (by decide +kernel)
theorem dX11_cant_34 : decode cX11_cant 34 = .ok (.iload_n 3, 1) := oc_29 (by decide +kernel)
theorem dX11_cant_35 : decode cX11_cant 35 = .ok (.iload_n 2, 1) := oc_28 (by decide +kernel)
theorem dX11_cant_84 : decode cX11_cant 84 = .ok (.aload_n 0, 1) := oc_42 (by decide +kernel)
theorem dX11_cant_85 : decode cX11_cant 85 = .ok (.getfield 19, 3) := oc_180 (a := 0) (b := 19) (by decide +kernel)
theorem dX11_cant_88 : decode cX11_cant 88 = .ok (.getfield 276, 3) := oc_180 (a := 1) (b := 20) (by decide +kernel)
theorem dX11_cant_91 : decode cX11_cant 91 = .ok (.ireturn, 1) := oc_172 (by decide +kernel)
theorem dX11_cant_36 : decode cX11_cant 36 = .ok (.if_icmp .ge 48, 3) := oc_162 (a := 0) (b := 48) (by decide +kernel)
theorem dX11_cant_39 : decode cX11_cant 39 = .ok (.aload_n 0, 1) := oc_42 (by decide +kernel)
theorem dX11_cant_40 : decode cX11_cant 40 = .ok (.getfield 19, 3) := oc_180 (a := 0) (b := 19) (by decide +kernel)
theorem dX11_cant_43 : decode cX11_cant 43 = .ok (.getfield 276, 3) := oc_180 (a := 1) (b := 20) (by decide +kernel)
theorem dX11_cant_46 : decode cX11_cant 46 = .ok (.iconst (-1), 1) := oc_2 (by decide +kernel)
theorem dX11_cant_47 : decode cX11_cant 47 = .ok (.if_icmp .ne 37, 3) := oc_160 (a := 0) (b := 37) (by decide +kernel)
theorem dX11_cant_50 : decode cX11_cant 50 = .ok (.aload_n 0, 1) := oc_42 (by decide +kernel)
theorem dX11_cant_51 : decode cX11_cant 51 = .ok (.getfield 19, 3) := oc_180 (a := 0) (b := 19) (by decide +kernel)
theorem dX11_cant_54 : decode cX11_cant 54 = .ok (.iload_n 1, 1) := oc_27 (by decide +kernel)
theorem dX11_cant_55 : decode cX11_cant 55 = .ok (.invokevirtual 270, 3) := oc_182 (a := 1) (b := 14) (by decide +kernel)
theorem dX11_cant_58 : decode cX11_cant 58 = .ok (.aload_n 0, 1) := oc_42 (by decide +kernel)
theorem dX11_cant_59 : decode cX11_cant 59 = .ok (.getfield 19, 3) := oc_180 (a := 0) (b := 19) (by decide +kernel)
theorem tw_1406 : Cond.methodLink RX11 279 yX10_reckon ∈ wsL_law := sg_59 _ (List.mem_of_getElem? (i := 14) rfl)
theorem dX11_cant_62 : decode cX11_cant 62 = .ok (.invokevirtual 279, 3) := oc_182 (a := 1) (b := 23) (by decide +kernel)
theorem dX11_cant_65 : decode cX11_cant 65 = .ok (.aload_n 0, 1) := oc_42 (by decide +kernel)
theorem dX11_cant_66 : decode cX11_cant 66 = .ok (.getfield 19, 3) := oc_180 (a := 0) (b := 19) (by decide +kernel)
theorem dX11_cant_69 : decode cX11_cant 69 = .ok (.dup, 1) := oc_89 (by decide +kernel)
theorem dX11_cant_70 : decode cX11_cant 70 = .ok (.getfield 54, 3) := oc_180 (a := 0) (b := 54) (by decide +kernel)
theorem dX11_cant_73 : decode cX11_cant 73 = .ok (.iconst 1, 1) := oc_4 (by decide +kernel)
theorem dX11_cant_74 : decode cX11_cant 74 = .ok (.iadd, 1) := oc_96 (by decide +kernel)
theorem dX11_cant_75 : decode cX11_cant 75 = .ok (.putfield 54, 3) := oc_181 (a := 0) (b := 54) (by decide +kernel)
theorem dX11_cant_78 : decode cX11_cant 78 = .ok (.iinc 3 1, 3) := oc_132 (b := 1) (by decide +kernel)
theorem dX11_cant_81 : decode cX11_cant 81 = .ok (.goto (-47), 3) := oc_167 (a := 255) (b := 209) (by decide +kernel)
theorem dX11_cant_11 : decode cX11_cant 11 = .ok (.iconst (-1), 1) := oc_2 (by decide +kernel)
theorem dX11_cant_12 : decode cX11_cant 12 = .ok (.ireturn, 1) := oc_172 (by decide +kernel)
theorem dX11_keeps_0 : decode cX11_keeps 0 = .ok (.aload_n 0, 1) := oc_42 (by decide +kernel)
theorem dX11_keeps_1 : decode cX11_keeps 1 = .ok (.iload_n 1, 1) := oc_27 (by decide +kernel)
theorem dX11_keeps_2 : decode cX11_keeps 2 = .ok (.invokevirtual 119, 3) := oc_182 (a := 0) (b := 119) (by decide +kernel)
theorem dX11_keeps_33 : decode cX11_keeps 33 = .ok (.istore 5, 2) := oc_54 (by decide +kernel)
theorem dX11_keeps_35 : decode cX11_keeps 35 = .ok (.iload 5, 2) := oc_21 (by decide +kernel)
theorem dX11_keeps_55 : decode cX11_keeps 55 = .ok (.ldc 83, 2) := oc_18 (by decide +kernel)
theorem dX11_keeps_57 : decode cX11_keeps 57 = .ok (.ireturn, 1) := oc_172 (by decide +kernel)
theorem dX11_keeps_37 : decode cX11_keeps 37 = .ok (.ifCond .eq 18, 3) := oc_153 (a := 0) (b := 18) (by decide +kernel)
theorem dX11_keeps_40 : decode cX11_keeps 40 = .ok (.aload_n 0, 1) := oc_42 (by decide +kernel)
theorem dX11_keeps_41 : decode cX11_keeps 41 = .ok (.getfield 10, 3) := oc_180 (a := 0) (b := 10) (by decide +kernel)
theorem dX11_keeps_44 : decode cX11_keeps 44 = .ok (.getfield 36, 3) := oc_180 (a := 0) (b := 36) (by decide +kernel)
theorem dX11_keeps_47 : decode cX11_keeps 47 = .ok (.getfield 122, 3) := oc_180 (a := 0) (b := 122) (by decide +kernel)
theorem dX11_keeps_50 : decode cX11_keeps 50 = .ok (.iload_n 1, 1) := oc_27 (by decide +kernel)
theorem dX11_keeps_51 : decode cX11_keeps 51 = .ok (.iaload, 1) := oc_46 (by decide +kernel)
theorem dX11_keeps_52 : decode cX11_keeps 52 = .ok (.ifCond .ne 6, 3) := oc_154 (a := 0) (b := 6) (by decide +kernel)
theorem dX11_keeps_58 : decode cX11_keeps 58 = .ok (.aload_n 0, 1) := oc_42 (by decide +kernel)
theorem dX11_keeps_59 : decode cX11_keeps 59 = .ok (.getfield 19, 3) := oc_180 (a := 0) (b := 19) (by decide +kernel)
theorem dX11_keeps_62 : decode cX11_keeps 62 = .ok (.aload_n 0, 1) := oc_42 (by decide +kernel)
theorem dX11_keeps_63 : decode cX11_keeps 63 = .ok (.getfield 10, 3) := oc_180 (a := 0) (b := 10) (by decide +kernel)
theorem dX11_keeps_66 : decode cX11_keeps 66 = .ok (.invokevirtual 266, 3) := oc_182 (a := 1) (b := 10) (by decide +kernel)
theorem dX11_keeps_69 : decode cX11_keeps 69 = .ok (.aload_n 0, 1) := oc_42 (by decide +kernel)
theorem dX11_keeps_70 : decode cX11_keeps 70 = .ok (.getfield 19, 3) := oc_180 (a := 0) (b := 19) (by decide +kernel)
theorem dX11_keeps_73 : decode cX11_keeps 73 = .ok (.iload 4, 2) := oc_21 (by decide +kernel)
theorem dX11_keeps_75 : decode cX11_keeps 75 = .ok (.iload_n 2, 1) := oc_28 (by decide +kernel)
theorem tw_1415 : Cond.methodLink RX11 282 yX10_sandBehind ∈ wsL_law := sg_59 _ (List.mem_of_getElem? (i := 23) rfl)
theorem tw_1416 : Cond.instanceMethod yX10_sandBehind ∈ wsL_law := sg_60 _ (List.mem_of_getElem? (i := 0) rfl)
theorem tw_1417 : Cond.selects RX10 yX10_sandBehind yX10_sandBehind ∈ wsL_law := sg_60 _ (List.mem_of_getElem? (i := 1) rfl)
theorem tw_1418 : Cond.code yX10_sandBehind cX10_sandBehind 4 (some .int) ∈ wsL_law := sg_60 _ (List.mem_of_getElem? (i := 2) rfl)
theorem dX11_keeps_76 : decode cX11_keeps 76 = .ok (.invokevirtual 282, 3) := oc_182 (a := 1) (b := 26) (by decide +kernel)
theorem dX11_keeps_79 : decode cX11_keeps 79 = .ok (.istore 6, 2) := oc_54 (by decide +kernel)
theorem dX11_keeps_81 : decode cX11_keeps 81 = .ok (.aload_n 0, 1) := oc_42 (by decide +kernel)
theorem dX11_keeps_82 : decode cX11_keeps 82 = .ok (.getfield 19, 3) := oc_180 (a := 0) (b := 19) (by decide +kernel)
theorem dX11_keeps_85 : decode cX11_keeps 85 = .ok (.aload_n 0, 1) := oc_42 (by decide +kernel)
theorem dX11_keeps_86 : decode cX11_keeps 86 = .ok (.getfield 10, 3) := oc_180 (a := 0) (b := 10) (by decide +kernel)
theorem dX11_keeps_89 : decode cX11_keeps 89 = .ok (.invokevirtual 266, 3) := oc_182 (a := 1) (b := 10) (by decide +kernel)
theorem dX11_keeps_92 : decode cX11_keeps 92 = .ok (.aload_n 0, 1) := oc_42 (by decide +kernel)
theorem dX11_keeps_93 : decode cX11_keeps 93 = .ok (.getfield 19, 3) := oc_180 (a := 0) (b := 19) (by decide +kernel)
theorem dX11_keeps_96 : decode cX11_keeps 96 = .ok (.getfield 36, 3) := oc_180 (a := 0) (b := 36) (by decide +kernel)
theorem dX11_keeps_99 : decode cX11_keeps 99 = .ok (.getfield 122, 3) := oc_180 (a := 0) (b := 122) (by decide +kernel)
theorem dX11_keeps_102 : decode cX11_keeps 102 = .ok (.iload_n 1, 1) := oc_27 (by decide +kernel)
theorem dX11_keeps_103 : decode cX11_keeps 103 = .ok (.iconst 0, 1) := oc_3 (by decide +kernel)
theorem dX11_keeps_104 : decode cX11_keeps 104 = .ok (.iastore, 1) := oc_79 (by decide +kernel)
theorem dX11_keeps_105 : decode cX11_keeps 105 = .ok (.iload 6, 2) := oc_21 (by decide +kernel)
theorem dX11_keeps_107 : decode cX11_keeps 107 = .ok (.aload_n 0, 1) := oc_42 (by decide +kernel)
theorem dX11_keeps_108 : decode cX11_keeps 108 = .ok (.getfield 19, 3) := oc_180 (a := 0) (b := 19) (by decide +kernel)
theorem dX11_keeps_111 : decode cX11_keeps 111 = .ok (.iload 4, 2) := oc_21 (by decide +kernel)
theorem dX11_keeps_113 : decode cX11_keeps 113 = .ok (.iload_n 2, 1) := oc_28 (by decide +kernel)
theorem dX11_keeps_114 : decode cX11_keeps 114 = .ok (.invokevirtual 282, 3) := oc_182 (a := 1) (b := 26) (by decide +kernel)
theorem dX11_keeps_117 : decode cX11_keeps 117 = .ok (.isub, 1) := oc_100 (by decide +kernel)
theorem dX11_keeps_118 : decode cX11_keeps 118 = .ok (.ireturn, 1) := oc_172 (by decide +kernel)
theorem dX11_keeps_32 : decode cX11_keeps 32 = .ok (.iconst 0, 1) := oc_3 (by decide +kernel)
theorem dX11_keeps_5 : decode cX11_keeps 5 = .ok (.ifCond .eq 27, 3) := oc_153 (a := 0) (b := 27) (by decide +kernel)
theorem dX11_keeps_8 : decode cX11_keeps 8 = .ok (.aload_n 0, 1) := oc_42 (by decide +kernel)
theorem dX11_keeps_9 : decode cX11_keeps 9 = .ok (.iload_n 2, 1) := oc_28 (by decide +kernel)
theorem dX11_keeps_10 : decode cX11_keeps 10 = .ok (.invokevirtual 119, 3) := oc_182 (a := 0) (b := 119) (by decide +kernel)
theorem dX11_keeps_13 : decode cX11_keeps 13 = .ok (.ifCond .eq 19, 3) := oc_153 (a := 0) (b := 19) (by decide +kernel)
theorem dX11_keeps_16 : decode cX11_keeps 16 = .ok (.aload_n 0, 1) := oc_42 (by decide +kernel)
theorem dX11_keeps_17 : decode cX11_keeps 17 = .ok (.iload_n 3, 1) := oc_29 (by decide +kernel)
theorem dX11_keeps_18 : decode cX11_keeps 18 = .ok (.iload 4, 2) := oc_21 (by decide +kernel)
theorem dX11_keeps_20 : decode cX11_keeps 20 = .ok (.bipush 60, 2) := oc_16 (a := 60) (by decide +kernel)
theorem dX11_keeps_22 : decode cX11_keeps 22 = .ok (.invokevirtual 260, 3) := oc_182 (a := 1) (b := 4) (by decide +kernel)
theorem dX11_keeps_25 : decode cX11_keeps 25 = .ok (.ifCond .eq 7, 3) := oc_153 (a := 0) (b := 7) (by decide +kernel)
theorem dX11_keeps_28 : decode cX11_keeps 28 = .ok (.iconst 1, 1) := oc_4 (by decide +kernel)
theorem dX11_keeps_29 : decode cX11_keeps 29 = .ok (.goto 4, 3) := oc_167 (a := 0) (b := 4) (by decide +kernel)
set_option maxRecDepth 100000 in
def g_X11_sail_K20 (I : Nat → Int32) (J : Nat → Int64) (ri : Nat → Nat → Int32) (rj : Nat → Nat → Int64) (rq : Nat → Nat → Option Nat) : Int32 × vM := ((0 : Int32), I, J, ri, rj, rq)
set_option maxRecDepth 100000 in
theorem g_X11_sail_K20_e {I : Nat → Int32} {J : Nat → Int64} {ri : Nat → Nat → Int32} {rj : Nat → Nat → Int64} {rq : Nat → Nat → Option Nat} : g_X11_sail_K20 I J ri rj rq  = ((0 : Int32), I, J, ri, rj, rq) := rfl
set_option maxRecDepth 100000 in
def g_X11_sail (a0 : Int32) (a1 : Int32) (I : Nat → Int32) (J : Nat → Int64) (ri : Nat → Nat → Int32) (rj : Nat → Nat → Int64) (rq : Nat → Nat → Option Nat) : Int32 × vM := (ap1 (g_X11_between a0 (0 : Int32) (40 : Int32)) fun (x_1 : Int32) => (if x_1 = (0 : Int32) then (g_X11_sail_K20 I J ri rj rq ) else (ap1 (g_X11_between a1 (0 : Int32) (100000 : Int32)) fun (x_53 : Int32) => (if x_53 = (0 : Int32) then (g_X11_sail_K20 I J ri rj rq ) else (ap1 (va_up I 322 a0) fun (I_74 : Nat → Int32) => (ap1 (I_74 321) fun (y_75 : Int32) => (ap1 ((y_75) + a1) fun (x_76 : Int32) => (ap1 (va_up I_74 321 x_76) fun (I_77 : Nat → Int32) => ((1 : Int32), I_77, J, ri, rj, rq)))))))))
set_option maxRecDepth 100000 in
theorem g_X11_sail_e {a0 : Int32} {a1 : Int32} {I : Nat → Int32} {J : Nat → Int64} {ri : Nat → Nat → Int32} {rj : Nat → Nat → Int64} {rq : Nat → Nat → Option Nat} : g_X11_sail a0 a1 I J ri rj rq = (ap1 (g_X11_between a0 (0 : Int32) (40 : Int32)) fun (x_1 : Int32) => (if x_1 = (0 : Int32) then (g_X11_sail_K20 I J ri rj rq ) else (ap1 (g_X11_between a1 (0 : Int32) (100000 : Int32)) fun (x_53 : Int32) => (if x_53 = (0 : Int32) then (g_X11_sail_K20 I J ri rj rq ) else (ap1 (va_up I 322 a0) fun (I_74 : Nat → Int32) => (ap1 (I_74 321) fun (y_75 : Int32) => (ap1 ((y_75) + a1) fun (x_76 : Int32) => (ap1 (va_up I_74 321 x_76) fun (I_77 : Nat → Int32) => ((1 : Int32), I_77, J, ri, rj, rq))))))))) := rfl
set_option maxHeartbeats 4000000 in
set_option maxRecDepth 100000 in
theorem s_X11_sail (l : Launch) (D : va_G) (t : pq_T) (σ : pq_S) (I : Nat → Nat → Int32) (J : Nat → Nat → Int64) (ri : Nat → Nat → Int32) (rj : Nat → Nat → Int64) (rq : Nat → Nat → Option Nat) (sz : Nat) (tg : Nat → Nat) (hSH : SH σ tg) (hG0 : GS tg σ I ri rq) (this : Nat) (a0 : Int32) (a1 : Int32) (hL_this : this ∈ σ.1) (hK_this : σ.2.1 this = 11) (this_now : Nat) (hR_this_now : σ.2.2.1 352 this = some this_now) (hL_this_now : this_now ∈ σ.1) (hK_this_now : σ.2.1 this_now = 10) : MetI l yX11_sail (wa yX11_sail cX11_sail 3 (some .boolean)) ({ frames := 1, cells := 0, slots := 0, locals := 22 }) [.ref this, .int a0, .int a1] D t σ (I, J, ri, rj, rq) sz 0 0 (fun (r : Int32) (u : pq_S × pq_M) => ∃ I' : Nat → Nat → Int32, u = (σ, I', J, ri, rj, rq) ∧ GX [322, 321] tg σ I ri rj I' ri rj rq ∧ g_X11_sail a0 a1 (vI 10 σ this_now I) (vJ 10 σ this_now J) (vR 10 σ this_now ri) (vL 10 σ this_now rj) (vQ 10 σ this_now rq) = (r, (vI 10 σ this_now I'), (vJ 10 σ this_now J), (vR 10 σ this_now ri), (vL 10 σ this_now rj), (vQ 10 σ this_now rq)) ∧ FR 10 tg σ this_now (I, J, ri, rj, rq) (I', J, ri, rj, rq) ∧ ((r = 1 ∧ rg a0 0 40 ∧ rg a1 0 100000) ∨ (r = 0 ∧ True))) := by
  refine Met.ofW (cc := cX11_sail) (maxL := 3) (ret := (some .boolean)) (by decide) rfl ?_
  intro p e s m args below meth c s₁ B hml hv
  obtain ⟨rfl, hsz, hP, hK, hD0, hN⟩ := hv
  have hx := B.exec
  have hb := B.bytes
  have hr := B.returns
  have hts := atoms_spec (ws := (wa yX11_sail cX11_sail 3 (some .boolean))) B.pre
  have hown : s.vm.findClass RX11 = some m.cls := findClass_of_methodNamed B.named
  have hlocks := B.notSynchronized
  subst hsz
  have hD : va_D (pq_B t σ (I, J, ri, rj, rq) s.heap.size) (pq_P t σ (I, J, ri, rj, rq)) := hD0.self
  generalize hAe : pq_B t σ (I, J, ri, rj, rq) s.heap.size = A at hD ⊢
  have hA : ∀ q : Nat, s.heap.size ≤ q → A q := fun q h => by rw [← hAe]; exact Or.inr h
  have hS : va_S A s.heap s.heap [] := va_S.rf
  have hG : GX [322, 321] tg σ I ri rj I ri rj rq := ⟨hG0, fun _ _ _ => rfl, fun _ _ _ _ _ => rfl, fun _ _ _ _ _ => rfl⟩
  have hl := lv_entry ([.ref this, .int a0, .int a1]) (n := 3) (Nat.le_of_ble_eq_true rfl)
  rw [lg_entry_eq]
  generalize (lg_sl ([.ref this, .int a0, .int a1]) ++ List.replicate (3 - (lg_sl ([.ref this, .int a0, .int a1])).length) Slot.unset).toArray = ls at hl ⊢
  have hl : lv_has ls 3 [(0, .ref this), (1, .int a0), (2, .int a1)] := hl
  refine q_gen (fun Q hQ => ?_)
  have go : ∀ (H : Heap) (locs : List Loc) (ls : Array Slot), va_P D vwCl (pq_P t σ (I, J, ri, rj, rq)) H → va_D A (pq_P t σ (I, J, ri, rj, rq)) → va_S A s.heap H locs → lv_has ls 3 [(0, .ref this), (1, .int a0), (2, .int a1)] → W p l e ({ frames := 1, cells := 0, slots := 0, locals := 22 } : Room) s m (List.toArray ([.ref this, .int a0, .int a1] : List Value)) below meth c H locs 0 0 Q (F0 m 0 ls []) := by
    intro H locs ls hP hD hS hl
    have hVT : VT 10 σ tg this_now := vt_10 hSH hL_this_now hK_this_now
    have hFr : FR 10 tg σ this_now (I, J, ri, rj, rq) (I, J, ri, rj, rq) := fr_rf
    have hO_this_now : this_now = vo σ 10 this_now := rfl
    obtain ⟨F, hF0⟩ : ∃ F, F = g_X11_sail a0 a1 (vI 10 σ this_now I) (vJ 10 σ this_now J) (vR 10 σ this_now ri) (vL 10 σ this_now rj) (vQ 10 σ this_now rq) := ⟨_, rfl⟩
    have hF := hF0.trans g_X11_sail_e
    refine lv_iload_n hx hb dX11_sail_0 rfl (lv_at hl 1 rfl) ?_
    refine lv_iconst (v := 0) hx hb dX11_sail_1 (by decide) ?_
    refine lv_bipush (v := 40) hx hb dX11_sail_2 (by decide) ?_
    refine pk_i (va_runS (As := [.int a0, .int 0, .int 40]) (rest := []) ⟨hx, hb, hml, hown, hts⟩ (s_X11_between l D t σ I J ri rj rq H.size tg hSH hG.1 a0 (0 : Int32) (40 : Int32)) (va_cwS 3 hts (tw_S tw_215 tw_216 tw_2 tw_217) rfl rfl rfl cd_yX11_between_3 ⟨Nat.le_of_ble_eq_true rfl, Nat.le_of_ble_eq_true rfl⟩) ⟨pq_blind, pq_pre hK hN hP hD⟩ rfl rfl hl.1 rfl (lv_room (Nat.le_of_ble_eq_true rfl)) dX11_sail_4 ⟨Nat.le_of_ble_eq_true rfl, Nat.le_of_ble_eq_true rfl⟩) hD hS hA (fun x_1 σ1 μ1 H locs hw_2 hP hD hS => ?_)
    obtain ⟨hu_3, hfn_6, hr_5⟩ := hw_2
    obtain ⟨hu_3a, hu_3b⟩ := Prod.mk.inj hu_3
    rw [hu_3a, hu_3b] at hP hD
    replace hF := hF.trans (ap_n hfn_6.symm)
    have h_8 : rg x_1 0 1 := by rcases hr_5 with ⟨q, -⟩ | ⟨q, -⟩ <;> rw [q] <;> exact ⟨by decide, by decide⟩
    have K_37 : ∀  (H : Heap) (locs : List Loc) (ls : Array Slot), F = g_X11_sail_K20 (vI 10 σ this_now I) (vJ 10 σ this_now J) (vR 10 σ this_now ri) (vL 10 σ this_now rj) (vQ 10 σ this_now rq)  → FR 10 tg σ this_now (I, J, ri, rj, rq) (I, J, ri, rj, rq) → GX [322, 321] tg σ I ri rj I ri rj rq → va_P D vwCl (pq_P t σ (I, J, ri, rj, rq)) H → va_D A (pq_P t σ (I, J, ri, rj, rq)) → va_S A s.heap H locs → lv_has ls 3 [] → W p l e ({ frames := 1, cells := 0, slots := 0, locals := 22 } : Room) s m (List.toArray ([.ref this, .int a0, .int a1] : List Value)) below meth c H locs 0 0 Q (F0 m 20 ls []) := by
      intro H locs ls hF hFr hG hP hD hS hl
      replace hF := hF.trans g_X11_sail_K20_e
      refine lv_iconst (v := 0) hx hb dX11_sail_20 (by decide) ?_
      subst hQ
      exact W.zret (v := 0) hx hb hr (by decide) (fun t1 ht hW => ⟨⟨0, (σ, I, J, ri, rj, rq), rfl, ⟨I, rfl, hG, (hF0.symm.trans hF), hFr, (Or.inr ⟨rfl, trivial⟩)⟩, by rw [ht]; exact hP, va_K.moved hW.alike hK, hD⟩, hS.F ht⟩) hS.2.2 dX11_sail_21
    refine lv_if_eq (tgt := 20) hx hb dX11_sail_7 (by decide) (fun c_38 => ?_) (fun c_38 => ?_)
    · replace hF := hF.trans (if_pos c_38)
      have f_46 := (hr_5.resolve_left (fun q => absurd (q.1.symm.trans c_38) (by decide))).2
      have h_47 : rg x_1 0 0 := rg_and h_8 (rg_of_eq c_38 (rg_k (0 : Int32) 0 rfl)) (by decide)
      exact K_37 _ _ _ hF hFr hG hP hD hS (lv_sub hl [] rfl)
    · replace hF := hF.trans (if_neg c_38)
      obtain ⟨f_48, f_49⟩ := (hr_5.resolve_right (fun q => c_38 q.1)).2
      have h_50 : rg a0 0 2147483647 := rg_le2 f_48 (rg_k (0 : Int32) 0 rfl) (rg_full _) (by decide)
      have h_51 : rg a0 0 40 := rg_le1 f_49 h_50 (rg_k (40 : Int32) 40 rfl) (by decide)
      have h_52 : rg x_1 1 1 := rg_ne c_38 h_8 0 rfl (by decide)
      refine lv_iload_n hx hb dX11_sail_10 rfl (lv_at hl 2 rfl) ?_
      refine lv_iconst (v := 0) hx hb dX11_sail_11 (by decide) ?_
      refine lv_ldc hx hb hown (hts _ (tw_c tw_1024)) dX11_sail_12 ?_
      refine pk_i (va_runS (As := [.int a1, .int 0, .int 100000]) (rest := []) ⟨hx, hb, hml, hown, hts⟩ (s_X11_between l D t σ I J ri rj rq H.size tg hSH hG.1 a1 (0 : Int32) (100000 : Int32)) (va_cwS 3 hts (tw_S tw_215 tw_216 tw_2 tw_217) rfl rfl rfl cd_yX11_between_3 ⟨Nat.le_of_ble_eq_true rfl, Nat.le_of_ble_eq_true rfl⟩) ⟨pq_blind, pq_pre hK hN hP hD⟩ rfl rfl hl.1 rfl (lv_room (Nat.le_of_ble_eq_true rfl)) dX11_sail_14 ⟨Nat.le_of_ble_eq_true rfl, Nat.le_of_ble_eq_true rfl⟩) hD hS hA (fun x_53 σ1 μ1 H locs hw_54 hP hD hS => ?_)
      obtain ⟨hu_55, hfn_58, hr_57⟩ := hw_54
      obtain ⟨hu_55a, hu_55b⟩ := Prod.mk.inj hu_55
      rw [hu_55a, hu_55b] at hP hD
      replace hF := hF.trans (ap_n hfn_58.symm)
      have h_60 : rg x_53 0 1 := by rcases hr_57 with ⟨q, -⟩ | ⟨q, -⟩ <;> rw [q] <;> exact ⟨by decide, by decide⟩
      refine lv_if_ne (tgt := 22) hx hb dX11_sail_17 (by decide) (fun c_61 => ?_) (fun c_61 => ?_)
      · replace hF := hF.trans (if_neg c_61)
        obtain ⟨f_69, f_70⟩ := (hr_57.resolve_right (fun q => c_61 q.1)).2
        have h_71 : rg a1 0 2147483647 := rg_le2 f_69 (rg_k (0 : Int32) 0 rfl) (rg_full _) (by decide)
        have h_72 : rg a1 0 100000 := rg_le1 f_70 h_71 (rg_k (100000 : Int32) 100000 rfl) (by decide)
        have h_73 : rg x_53 1 1 := rg_ne c_61 h_60 0 rfl (by decide)
        refine lv_aload_n hx hb dX11_sail_22 rfl (lv_at hl 0 rfl) ?_
        refine pg_f (v := .ref this_now) (C := RX11) (T := TX11) (N := 5) hx hb hts (tw_i inlX11) hown hK hP hL_this hK_this (by decide) rfl 0 (by decide) (hts _ (tw_c tw_16)) (pq_hv rfl hR_this_now) dX11_sail_23 ?_
        refine lv_iload_n hx hb dX11_sail_26 rfl (lv_at hl 1 rfl) ?_
        refine pp_i (v := a0) (ty := .int) (C := RX10) (T := TX10) (N := 13) hx hb hts (tw_i inlX10) tyX10 tyX10_ok nmX10 hown hK hP hD hS hL_this_now hK_this_now (by decide) rfl 2 322 (by decide) (hts _ (tw_c tw_1025)) rfl (tyX10_ok 2 (by decide)) rfl rfl (Nat.le_of_ble_eq_true rfl) (ps_322 _ _ _ _ _) dX11_sail_27 (fun I_74 H locs eI_74 hP hD hS => ?_)
        replace hFr := fr_I (f := 322) hFr hO_this_now (by decide) eI_74
        replace hF := hF.trans (ap_n (vI_st (f := 322) hO_this_now (by decide) eI_74))
        have hG := GX.wI hG 322 rfl eI_74 (rg_w h_51 (by decide)) (by decide)
        refine lv_aload_n hx hb dX11_sail_30 rfl (lv_at hl 0 rfl) ?_
        refine pg_f (v := .ref this_now) (C := RX11) (T := TX11) (N := 5) hx hb hts (tw_i inlX11) hown hK hP hL_this hK_this (by decide) rfl 0 (by decide) (hts _ (tw_c tw_16)) (pq_hv rfl hR_this_now) dX11_sail_31 ?_
        refine lv_dup hx hb dX11_sail_34 rfl ?_
        refine pg_f (v := .int (I_74 321 this_now)) (C := RX10) (T := TX10) (N := 13) hx hb hts (tw_i inlX10) hown hK hP hL_this_now hK_this_now (by decide) rfl 1 (by decide) (hts _ (tw_c tw_1026)) rfl dX11_sail_35 ?_
        replace hF := hF.trans (ap_n (vI_e (f := 321) hO_this_now (by decide)))
        refine lv_iload_n hx hb dX11_sail_38 rfl (lv_at hl 2 rfl) ?_
        refine lv_iadd hx hb dX11_sail_39 ?_
        refine lv_topi (fun x_76 ex_76 => ?_)
        replace hF := hF.trans (ap_n ex_76)
        refine pp_i (v := x_76) (ty := .int) (C := RX10) (T := TX10) (N := 13) hx hb hts (tw_i inlX10) tyX10 tyX10_ok nmX10 hown hK hP hD hS hL_this_now hK_this_now (by decide) rfl 1 321 (by decide) (hts _ (tw_c tw_1026)) rfl (tyX10_ok 1 (by decide)) rfl rfl (Nat.le_of_ble_eq_true rfl) (ps_321 _ _ _ _ _) dX11_sail_40 (fun I_77 H locs eI_77 hP hD hS => ?_)
        replace hFr := fr_I (f := 321) hFr hO_this_now (by decide) eI_77
        replace hF := hF.trans (ap_n (vI_st (f := 321) hO_this_now (by decide) eI_77))
        have hG := GX.wI hG 321 rfl eI_77 (rg_w (rg_full _) (by decide)) (by decide)
        refine lv_iconst (v := 1) hx hb dX11_sail_43 (by decide) ?_
        subst hQ
        exact W.zret (v := 1) hx hb hr (by decide) (fun t1 ht hW => ⟨⟨1, (σ, I_77, J, ri, rj, rq), rfl, ⟨I_77, rfl, hG, (hF0.symm.trans hF), hFr, (Or.inl ⟨rfl, (rg_w h_51 (by decide)), (rg_w h_72 (by decide))⟩)⟩, by rw [ht]; exact hP, va_K.moved hW.alike hK, hD⟩, hS.F ht⟩) hS.2.2 dX11_sail_44
      · replace hF := hF.trans (if_pos c_61)
        have f_78 := (hr_57.resolve_left (fun q => absurd (q.1.symm.trans c_61) (by decide))).2
        have h_79 : rg x_53 0 0 := rg_and h_60 (rg_of_eq c_61 (rg_k (0 : Int32) 0 rfl)) (by decide)
        exact K_37 _ _ _ hF hFr hG hP hD hS (lv_sub hl [] rfl)
  exact go _ _ _ hP hD hS hl

set_option maxRecDepth 100000 in
def g_X11_canGoBy_K35 (I : Nat → Int32) (J : Nat → Int64) (ri : Nat → Nat → Int32) (rj : Nat → Nat → Int64) (rq : Nat → Nat → Option Nat) : Int32 × vM := ((0 : Int32), I, J, ri, rj, rq)
set_option maxRecDepth 100000 in
theorem g_X11_canGoBy_K35_e {I : Nat → Int32} {J : Nat → Int64} {ri : Nat → Nat → Int32} {rj : Nat → Nat → Int64} {rq : Nat → Nat → Option Nat} : g_X11_canGoBy_K35 I J ri rj rq  = ((0 : Int32), I, J, ri, rj, rq) := rfl
set_option maxRecDepth 100000 in
def g_X11_canGoBy (a0 : Int32) (a1 : Int32) (a2 : Int32) (I : Nat → Int32) (J : Nat → Int64) (ri : Nat → Nat → Int32) (rj : Nat → Nat → Int64) (rq : Nat → Nat → Option Nat) : Int32 × vM := (ap1 (g_X11_isRise a0) fun (x_1 : Int32) => (if x_1 = (0 : Int32) then (g_X11_canGoBy_K35 I J ri rj rq ) else (ap1 (g_X11_between a1 (1 : Int32) a2) fun (x_59 : Int32) => (if x_59 = (0 : Int32) then (g_X11_canGoBy_K35 I J ri rj rq ) else (ap1 (I 320) fun (y_91 : Int32) => (ap1 ((y_91) + a1) fun (x_92 : Int32) => (if (600 : Int32) < x_92 then (g_X11_canGoBy_K35 I J ri rj rq ) else ((1 : Int32), I, J, ri, rj, rq))))))))
set_option maxRecDepth 100000 in
theorem g_X11_canGoBy_e {a0 : Int32} {a1 : Int32} {a2 : Int32} {I : Nat → Int32} {J : Nat → Int64} {ri : Nat → Nat → Int32} {rj : Nat → Nat → Int64} {rq : Nat → Nat → Option Nat} : g_X11_canGoBy a0 a1 a2 I J ri rj rq = (ap1 (g_X11_isRise a0) fun (x_1 : Int32) => (if x_1 = (0 : Int32) then (g_X11_canGoBy_K35 I J ri rj rq ) else (ap1 (g_X11_between a1 (1 : Int32) a2) fun (x_59 : Int32) => (if x_59 = (0 : Int32) then (g_X11_canGoBy_K35 I J ri rj rq ) else (ap1 (I 320) fun (y_91 : Int32) => (ap1 ((y_91) + a1) fun (x_92 : Int32) => (if (600 : Int32) < x_92 then (g_X11_canGoBy_K35 I J ri rj rq ) else ((1 : Int32), I, J, ri, rj, rq)))))))) := rfl
set_option maxHeartbeats 4000000 in
set_option maxRecDepth 100000 in
theorem s_X11_canGoBy (l : Launch) (D : va_G) (t : pq_T) (σ : pq_S) (I : Nat → Nat → Int32) (J : Nat → Nat → Int64) (ri : Nat → Nat → Int32) (rj : Nat → Nat → Int64) (rq : Nat → Nat → Option Nat) (sz : Nat) (tg : Nat → Nat) (hSH : SH σ tg) (hG0 : GS tg σ I ri rq) (this : Nat) (a0 : Int32) (a1 : Int32) (a2 : Int32) (hL_this : this ∈ σ.1) (hK_this : σ.2.1 this = 11) (h_a2 : rg a2 12 60) (this_now : Nat) (hR_this_now : σ.2.2.1 352 this = some this_now) (hL_this_now : this_now ∈ σ.1) (hK_this_now : σ.2.1 this_now = 10) : MetI l yX11_canGoBy (wa yX11_canGoBy cX11_canGoBy 4 (some .boolean)) ({ frames := 2, cells := 0, slots := 0, locals := 42 }) [.ref this, .int a0, .int a1, .int a2] D t σ (I, J, ri, rj, rq) sz 0 0 (fun (r : Int32) (u : pq_S × pq_M) => u = (σ, I, J, ri, rj, rq) ∧ g_X11_canGoBy a0 a1 a2 (vI 10 σ this_now I) (vJ 10 σ this_now J) (vR 10 σ this_now ri) (vL 10 σ this_now rj) (vQ 10 σ this_now rq) = (r, (vI 10 σ this_now I), (vJ 10 σ this_now J), (vR 10 σ this_now ri), (vL 10 σ this_now rj), (vQ 10 σ this_now rq)) ∧ ((r = 1 ∧ rg a0 0 2 ∧ rg a1 1 60 ∧ a1 ≤ a2 ∧ ((I 320 this_now).toInt + a1.toInt ≤ 600)) ∨ (r = 0 ∧ True))) := by
  refine Met.ofW (cc := cX11_canGoBy) (maxL := 4) (ret := (some .boolean)) (by decide) rfl ?_
  intro p e s m args below meth c s₁ B hml hv
  obtain ⟨rfl, hsz, hP, hK, hD0, hN⟩ := hv
  have hx := B.exec
  have hb := B.bytes
  have hr := B.returns
  have hts := atoms_spec (ws := (wa yX11_canGoBy cX11_canGoBy 4 (some .boolean))) B.pre
  have hown : s.vm.findClass RX11 = some m.cls := findClass_of_methodNamed B.named
  have hlocks := B.notSynchronized
  subst hsz
  have hD : va_D (pq_B t σ (I, J, ri, rj, rq) s.heap.size) (pq_P t σ (I, J, ri, rj, rq)) := hD0.self
  generalize hAe : pq_B t σ (I, J, ri, rj, rq) s.heap.size = A at hD ⊢
  have hA : ∀ q : Nat, s.heap.size ≤ q → A q := fun q h => by rw [← hAe]; exact Or.inr h
  have hS : va_S A s.heap s.heap [] := va_S.rf
  have hG : GX [] tg σ I ri rj I ri rj rq := ⟨hG0, fun _ _ _ => rfl, fun _ _ _ _ _ => rfl, fun _ _ _ _ _ => rfl⟩
  have hl := lv_entry ([.ref this, .int a0, .int a1, .int a2]) (n := 4) (Nat.le_of_ble_eq_true rfl)
  rw [lg_entry_eq]
  generalize (lg_sl ([.ref this, .int a0, .int a1, .int a2]) ++ List.replicate (4 - (lg_sl ([.ref this, .int a0, .int a1, .int a2])).length) Slot.unset).toArray = ls at hl ⊢
  have hl : lv_has ls 4 [(0, .ref this), (1, .int a0), (2, .int a1), (3, .int a2)] := hl
  refine q_gen (fun Q hQ => ?_)
  have go : ∀ (H : Heap) (locs : List Loc) (ls : Array Slot), va_P D vwCl (pq_P t σ (I, J, ri, rj, rq)) H → va_D A (pq_P t σ (I, J, ri, rj, rq)) → va_S A s.heap H locs → lv_has ls 4 [(0, .ref this), (1, .int a0), (2, .int a1), (3, .int a2)] → W p l e ({ frames := 2, cells := 0, slots := 0, locals := 42 } : Room) s m (List.toArray ([.ref this, .int a0, .int a1, .int a2] : List Value)) below meth c H locs 0 0 Q (F0 m 0 ls []) := by
    intro H locs ls hP hD hS hl
    have hVT : VT 10 σ tg this_now := vt_10 hSH hL_this_now hK_this_now
    have hFr : FR 10 tg σ this_now (I, J, ri, rj, rq) (I, J, ri, rj, rq) := fr_rf
    have hO_this_now : this_now = vo σ 10 this_now := rfl
    obtain ⟨F, hF0⟩ : ∃ F, F = g_X11_canGoBy a0 a1 a2 (vI 10 σ this_now I) (vJ 10 σ this_now J) (vR 10 σ this_now ri) (vL 10 σ this_now rj) (vQ 10 σ this_now rq) := ⟨_, rfl⟩
    have hF := hF0.trans g_X11_canGoBy_e
    refine lv_iload_n hx hb dX11_canGoBy_0 rfl (lv_at hl 1 rfl) ?_
    refine pk_i (va_runS (As := [.int a0]) (rest := []) ⟨hx, hb, hml, hown, hts⟩ (s_X11_isRise l D t σ I J ri rj rq H.size tg hSH hG.1 a0) (va_cwS 1 hts (tw_S tw_244 tw_245 tw_2 tw_246) rfl rfl rfl cd_yX11_isRise_1 ⟨Nat.le_of_ble_eq_true rfl, Nat.le_of_ble_eq_true rfl⟩) ⟨pq_blind, pq_pre hK hN hP hD⟩ rfl rfl hl.1 rfl (lv_room (Nat.le_of_ble_eq_true rfl)) dX11_canGoBy_1 ⟨Nat.le_of_ble_eq_true rfl, Nat.le_of_ble_eq_true rfl⟩) hD hS hA (fun x_1 σ1 μ1 H locs hw_2 hP hD hS => ?_)
    obtain ⟨hu_3, hfn_6, hr_5⟩ := hw_2
    obtain ⟨hu_3a, hu_3b⟩ := Prod.mk.inj hu_3
    rw [hu_3a, hu_3b] at hP hD
    replace hF := hF.trans (ap_n hfn_6.symm)
    have h_8 : rg x_1 0 1 := by rcases hr_5 with ⟨q, -⟩ | ⟨q, -⟩ <;> rw [q] <;> exact ⟨by decide, by decide⟩
    have uh_8 := h_8.1
    have vh_8 := h_8.2
    have K_45 : ∀  (H : Heap) (locs : List Loc) (ls : Array Slot), F = g_X11_canGoBy_K35 (vI 10 σ this_now I) (vJ 10 σ this_now J) (vR 10 σ this_now ri) (vL 10 σ this_now rj) (vQ 10 σ this_now rq)  → FR 10 tg σ this_now (I, J, ri, rj, rq) (I, J, ri, rj, rq) → GX [] tg σ I ri rj I ri rj rq → va_P D vwCl (pq_P t σ (I, J, ri, rj, rq)) H → va_D A (pq_P t σ (I, J, ri, rj, rq)) → va_S A s.heap H locs → lv_has ls 4 [] → W p l e ({ frames := 2, cells := 0, slots := 0, locals := 42 } : Room) s m (List.toArray ([.ref this, .int a0, .int a1, .int a2] : List Value)) below meth c H locs 0 0 Q (F0 m 35 ls []) := by
      intro H locs ls hF hFr hG hP hD hS hl
      replace hF := hF.trans g_X11_canGoBy_K35_e
      refine lv_iconst (v := 0) hx hb dX11_canGoBy_35 (by decide) ?_
      subst hQ
      exact W.zret (v := 0) hx hb hr (by decide) (fun t1 ht hW => ⟨⟨0, (σ, I, J, ri, rj, rq), rfl, ⟨rfl, (hF0.symm.trans hF), (Or.inr ⟨rfl, trivial⟩)⟩, by rw [ht]; exact hP, va_K.moved hW.alike hK, hD⟩, hS.F ht⟩) hS.2.2 dX11_canGoBy_36
    refine lv_if_eq (tgt := 35) hx hb dX11_canGoBy_4 (by decide) (fun c_46 => ?_) (fun c_46 => ?_)
    · replace hF := hF.trans (if_pos c_46)
      have f_53 := (hr_5.resolve_left (fun q => absurd (q.1.symm.trans c_46) (by decide))).2
      have tc_54 : (x_1).toInt = 0 := congrArg Int32.toInt c_46
      have h_55 : rg x_1 0 0 := rg_and h_8 (rg_of_eq c_46 (rg_k (0 : Int32) 0 rfl)) (by decide)
      have uh_55 := h_55.1
      have vh_55 := h_55.2
      exact K_45 _ _ _ hF hFr hG hP hD hS (lv_sub hl [] rfl)
    · replace hF := hF.trans (if_neg c_46)
      have f_56 := (hr_5.resolve_right (fun q => c_46 q.1)).2
      have tc_57 : (x_1).toInt ≠ 0 := fun q => c_46 (Int32.toInt_inj.mp q)
      have h_58 : rg x_1 1 1 := rg_ne c_46 h_8 0 rfl (by decide)
      have uh_58 := h_58.1
      have vh_58 := h_58.2
      refine lv_iload_n hx hb dX11_canGoBy_7 rfl (lv_at hl 2 rfl) ?_
      refine lv_iconst (v := 1) hx hb dX11_canGoBy_8 (by decide) ?_
      refine lv_iload_n hx hb dX11_canGoBy_9 rfl (lv_at hl 3 rfl) ?_
      refine pk_i (va_runS (As := [.int a1, .int 1, .int a2]) (rest := []) ⟨hx, hb, hml, hown, hts⟩ (s_X11_between l D t σ I J ri rj rq H.size tg hSH hG.1 a1 (1 : Int32) a2) (va_cwS 3 hts (tw_S tw_215 tw_216 tw_2 tw_217) rfl rfl rfl cd_yX11_between_3 ⟨Nat.le_of_ble_eq_true rfl, Nat.le_of_ble_eq_true rfl⟩) ⟨pq_blind, pq_pre hK hN hP hD⟩ rfl rfl hl.1 rfl (lv_room (Nat.le_of_ble_eq_true rfl)) dX11_canGoBy_10 ⟨Nat.le_of_ble_eq_true rfl, Nat.le_of_ble_eq_true rfl⟩) hD hS hA (fun x_59 σ1 μ1 H locs hw_60 hP hD hS => ?_)
      obtain ⟨hu_61, hfn_64, hr_63⟩ := hw_60
      obtain ⟨hu_61a, hu_61b⟩ := Prod.mk.inj hu_61
      rw [hu_61a, hu_61b] at hP hD
      replace hF := hF.trans (ap_n hfn_64.symm)
      have h_66 : rg x_59 0 1 := by rcases hr_63 with ⟨q, -⟩ | ⟨q, -⟩ <;> rw [q] <;> exact ⟨by decide, by decide⟩
      have uh_66 := h_66.1
      have vh_66 := h_66.2
      refine lv_if_eq (tgt := 35) hx hb dX11_canGoBy_13 (by decide) (fun c_67 => ?_) (fun c_67 => ?_)
      · replace hF := hF.trans (if_pos c_67)
        have f_79 := (hr_63.resolve_left (fun q => absurd (q.1.symm.trans c_67) (by decide))).2
        have tc_80 : (x_59).toInt = 0 := congrArg Int32.toInt c_67
        have h_81 : rg x_59 0 0 := rg_and h_66 (rg_of_eq c_67 (rg_k (0 : Int32) 0 rfl)) (by decide)
        have uh_81 := h_81.1
        have vh_81 := h_81.2
        exact K_45 _ _ _ hF hFr hG hP hD hS (lv_sub hl [] rfl)
      · replace hF := hF.trans (if_neg c_67)
        obtain ⟨f_82, f_83⟩ := (hr_63.resolve_right (fun q => c_67 q.1)).2
        have tc_84 : 1 ≤ (a1).toInt := Int32.le_iff_toInt_le.mp f_82
        have h_85 : rg a1 1 2147483647 := rg_le2 f_82 (rg_k (1 : Int32) 1 rfl) (rg_full _) (by decide)
        have uh_85 := h_85.1
        have vh_85 := h_85.2
        have tc_86 : (a1).toInt ≤ (a2).toInt := Int32.le_iff_toInt_le.mp f_83
        have h_87 : rg a1 1 60 := rg_le1 f_83 h_85 h_a2 (by decide)
        have uh_87 := h_87.1
        have vh_87 := h_87.2
        have tc_88 : (x_59).toInt ≠ 0 := fun q => c_67 (Int32.toInt_inj.mp q)
        have h_89 : rg x_59 1 1 := rg_ne c_67 h_66 0 rfl (by decide)
        have uh_89 := h_89.1
        have vh_89 := h_89.2
        refine lv_aload_n hx hb dX11_canGoBy_16 rfl (lv_at hl 0 rfl) ?_
        refine pg_f (v := .ref this_now) (C := RX11) (T := TX11) (N := 5) hx hb hts (tw_i inlX11) hown hK hP hL_this hK_this (by decide) rfl 0 (by decide) (hts _ (tw_c tw_16)) (pq_hv rfl hR_this_now) dX11_canGoBy_17 ?_
        refine pg_f (v := .int (I 320 this_now)) (C := RX10) (T := TX10) (N := 13) hx hb hts (tw_i inlX10) hown hK hP hL_this_now hK_this_now (by decide) rfl 0 (by decide) (hts _ (tw_c tw_209)) rfl dX11_canGoBy_20 ?_
        have h_90 : rg (I 320 this_now) 0 600 := GX.rI hG 320 rfl
        have uh_90 := h_90.1
        have vh_90 := h_90.2
        replace hF := hF.trans (ap_n (vI_e (f := 320) hO_this_now (by decide)))
        refine lv_iload_n hx hb dX11_canGoBy_23 rfl (lv_at hl 2 rfl) ?_
        refine lv_iadd hx hb dX11_canGoBy_24 ?_
        refine lv_topi (fun x_92 ex_92 => ?_)
        replace hF := hF.trans (ap_n ex_92)
        have h_93 : rg x_92 1 660 := rg_of_eq ex_92 (rg_add h_90 h_87 (by decide))
        have uh_93 := h_93.1
        have vh_93 := h_93.2
        have tx_92 : (x_92).toInt = (I 320 this_now).toInt + (a1).toInt := by rw [ex_92]; exact i_add_rg (a2 := (I 320 this_now).toInt) (b2 := (a1).toInt) rfl rfl h_90 h_87 (by decide)
        refine lv_sipush (v := 600) hx hb dX11_canGoBy_25 (by decide) ?_
        refine lv_icmp_gt (tgt := 35) hx hb dX11_canGoBy_28 (by decide) (fun c_94 => ?_) (fun c_94 => ?_)
        · replace hF := hF.trans (if_pos c_94)
          have tc_99 : 600 < (x_92).toInt := Int32.lt_iff_toInt_lt.mp c_94
          have h_100 : rg x_92 601 660 := rg_lt2 c_94 (rg_k (600 : Int32) 600 rfl) h_93 (by decide)
          have uh_100 := h_100.1
          have vh_100 := h_100.2
          exact K_45 _ _ _ hF hFr hG hP hD hS (lv_sub hl [] rfl)
        · replace hF := hF.trans (if_neg c_94)
          have tc_101 : (x_92).toInt ≤ 600 := Int32.le_iff_toInt_le.mp (nlt c_94)
          have h_102 : rg x_92 1 600 := rg_le1 (nlt c_94) h_93 (rg_k (600 : Int32) 600 rfl) (by decide)
          have uh_102 := h_102.1
          have vh_102 := h_102.2
          refine lv_iconst (v := 1) hx hb dX11_canGoBy_31 (by decide) ?_
          refine lv_goto (tgt := 36) hx hb dX11_canGoBy_32 (by decide) ?_
          subst hQ
          exact W.zret (v := 1) hx hb hr (by decide) (fun t1 ht hW => ⟨⟨1, (σ, I, J, ri, rj, rq), rfl, ⟨rfl, (hF0.symm.trans hF), (Or.inl ⟨rfl, (rg_w f_56 (by decide)), (rg_w h_87 (by decide)), f_83, (by omega)⟩)⟩, by rw [ht]; exact hP, va_K.moved hW.alike hK, hD⟩, hS.F ht⟩) hS.2.2 dX11_canGoBy_36
  exact go _ _ _ hP hD hS hl

set_option maxRecDepth 100000 in
def g_X11_months_L15 (a0 : Int32) (a1 : Int32) (rq : Nat → Nat → Option Nat) (tI : Nat → Nat → Int32) (tR : Nat → Nat → Nat → Int32) : Nat → (Int32) → (Nat → Int32) → (Nat → Int64) → (Nat → Nat → Int32) → (Nat → Nat → Int64) → Int32 × vM
  | 0, x_344, I_345, J_346, ri_347, rj_348 => ((0 : Int32), I_345, J_346, ri_347, rj_348, rq)
  | n_369 + 1, x_344, I_345, J_346, ri_347, rj_348 => (if a0 ≤ x_344 then (ap1 (I_345 320) fun (y_379 : Int32) => ((y_379), I_345, J_346, ri_347, rj_348, rq)) else (bnV (g_X10_goBy tI tR a1 I_345 J_346 ri_347 rj_348 rq) fun (I_383 : Nat → Int32) (J_384 : Nat → Int64) (ri_385 : Nat → Nat → Int32) (rj_386 : Nat → Nat → Int64) (_ : Nat → Nat → Option Nat) => (ap1 (x_344 + Int32.ofInt 1) fun (x_392 : Int32) => ((g_X11_months_L15 a0 a1 rq tI tR n_369) x_392 I_383 J_384 ri_385 rj_386))))
set_option maxRecDepth 100000 in
theorem g_X11_months_L15_e {a0 : Int32} {a1 : Int32} {rq : Nat → Nat → Option Nat} {tI : Nat → Nat → Int32} {tR : Nat → Nat → Nat → Int32} {n_369 : Nat} {x_344 : Int32} {I_345 : Nat → Int32} {J_346 : Nat → Int64} {ri_347 : Nat → Nat → Int32} {rj_348 : Nat → Nat → Int64} : g_X11_months_L15 a0 a1 rq tI tR (n_369 + 1) x_344 I_345 J_346 ri_347 rj_348 = (if a0 ≤ x_344 then (ap1 (I_345 320) fun (y_379 : Int32) => ((y_379), I_345, J_346, ri_347, rj_348, rq)) else (bnV (g_X10_goBy tI tR a1 I_345 J_346 ri_347 rj_348 rq) fun (I_383 : Nat → Int32) (J_384 : Nat → Int64) (ri_385 : Nat → Nat → Int32) (rj_386 : Nat → Nat → Int64) (_ : Nat → Nat → Option Nat) => (ap1 (x_344 + Int32.ofInt 1) fun (x_392 : Int32) => ((g_X11_months_L15 a0 a1 rq tI tR n_369) x_392 I_383 J_384 ri_385 rj_386)))) := rfl
set_option maxRecDepth 100000 in
def g_X11_months (tI : Nat → Nat → Int32) (tR : Nat → Nat → Nat → Int32) (a0 : Int32) (a1 : Int32) (I : Nat → Int32) (J : Nat → Int64) (ri : Nat → Nat → Int32) (rj : Nat → Nat → Int64) (rq : Nat → Nat → Option Nat) : Int32 × vM := (bnI (g_X11_canGoBy a1 a0 (60 : Int32) I J ri rj rq) fun (x_1 : Int32) (_ : Nat → Int32) (_ : Nat → Int64) (_ : Nat → Nat → Int32) (_ : Nat → Nat → Int64) (_ : Nat → Nat → Option Nat) => (if x_1 = (0 : Int32) then ((-1 : Int32), I, J, ri, rj, rq) else (g_X11_months_L15 a0 a1 rq tI tR ((60 - ((0 : Int32)).toInt).toNat + 1) (0 : Int32) I J ri rj)))
set_option maxRecDepth 100000 in
theorem g_X11_months_e {tI : Nat → Nat → Int32} {tR : Nat → Nat → Nat → Int32} {a0 : Int32} {a1 : Int32} {I : Nat → Int32} {J : Nat → Int64} {ri : Nat → Nat → Int32} {rj : Nat → Nat → Int64} {rq : Nat → Nat → Option Nat} : g_X11_months tI tR a0 a1 I J ri rj rq = (bnI (g_X11_canGoBy a1 a0 (60 : Int32) I J ri rj rq) fun (x_1 : Int32) (_ : Nat → Int32) (_ : Nat → Int64) (_ : Nat → Nat → Int32) (_ : Nat → Nat → Int64) (_ : Nat → Nat → Option Nat) => (if x_1 = (0 : Int32) then ((-1 : Int32), I, J, ri, rj, rq) else (g_X11_months_L15 a0 a1 rq tI tR ((60 - ((0 : Int32)).toInt).toNat + 1) (0 : Int32) I J ri rj))) := rfl
set_option maxHeartbeats 4000000 in
set_option maxRecDepth 100000 in
theorem s_X11_months (l : Launch) (D : va_G) (t : pq_T) (σ : pq_S) (I : Nat → Nat → Int32) (J : Nat → Nat → Int64) (ri : Nat → Nat → Int32) (rj : Nat → Nat → Int64) (rq : Nat → Nat → Option Nat) (sz : Nat) (tg : Nat → Nat) (hSH : SH σ tg) (hG0 : GS tg σ I ri rq) (this : Nat) (a0 : Int32) (a1 : Int32) (hL_this : this ∈ σ.1) (hK_this : σ.2.1 this = 11) (this_now : Nat) (hR_this_now : σ.2.2.1 352 this = some this_now) (hL_this_now : this_now ∈ σ.1) (hK_this_now : σ.2.1 this_now = 10) : MetI l yX11_months (wa yX11_months cX11_months 4 (some .int)) ({ frames := 6, cells := 0, slots := 0, locals := 166 }) [.ref this, .int a0, .int a1] D t σ (I, J, ri, rj, rq) sz 0 0 (fun (r : Int32) (u : pq_S × pq_M) => ∃ I' : Nat → Nat → Int32, ∃ J' : Nat → Nat → Int64, ∃ ri' : Nat → Nat → Int32, ∃ rj' : Nat → Nat → Int64, u = (σ, I', J', ri', rj', rq) ∧ GX [1074, 1073, 1068, 1077, 324, 321, 323, 1005, 320] tg σ I ri rj I' ri' rj' rq ∧ g_X11_months (tI σ I) (tR σ ri) a0 a1 (vI 10 σ this_now I) (vJ 10 σ this_now J) (vR 10 σ this_now ri) (vL 10 σ this_now rj) (vQ 10 σ this_now rq) = (r, (vI 10 σ this_now I'), (vJ 10 σ this_now J'), (vR 10 σ this_now ri'), (vL 10 σ this_now rj'), (vQ 10 σ this_now rq)) ∧ FR 10 tg σ this_now (I, J, ri, rj, rq) (I', J', ri', rj', rq) ∧ rg r (-1) 600) := by
  refine Met.ofW (cc := cX11_months) (maxL := 4) (ret := (some .int)) (by decide) rfl ?_
  intro p e s m args below meth c s₁ B hml hv
  obtain ⟨rfl, hsz, hP, hK, hD0, hN⟩ := hv
  have hx := B.exec
  have hb := B.bytes
  have hr := B.returns
  have hts := atoms_spec (ws := (wa yX11_months cX11_months 4 (some .int))) B.pre
  have hown : s.vm.findClass RX11 = some m.cls := findClass_of_methodNamed B.named
  have hlocks := B.notSynchronized
  subst hsz
  have hD : va_D (pq_B t σ (I, J, ri, rj, rq) s.heap.size) (pq_P t σ (I, J, ri, rj, rq)) := hD0.self
  generalize hAe : pq_B t σ (I, J, ri, rj, rq) s.heap.size = A at hD ⊢
  have hA : ∀ q : Nat, s.heap.size ≤ q → A q := fun q h => by rw [← hAe]; exact Or.inr h
  have hS : va_S A s.heap s.heap [] := va_S.rf
  have hG : GX [1074, 1073, 1068, 1077, 324, 321, 323, 1005, 320] tg σ I ri rj I ri rj rq := ⟨hG0, fun _ _ _ => rfl, fun _ _ _ _ _ => rfl, fun _ _ _ _ _ => rfl⟩
  have hl := lv_entry ([.ref this, .int a0, .int a1]) (n := 4) (Nat.le_of_ble_eq_true rfl)
  rw [lg_entry_eq]
  generalize (lg_sl ([.ref this, .int a0, .int a1]) ++ List.replicate (4 - (lg_sl ([.ref this, .int a0, .int a1])).length) Slot.unset).toArray = ls at hl ⊢
  have hl : lv_has ls 4 [(0, .ref this), (1, .int a0), (2, .int a1)] := hl
  refine q_gen (fun Q hQ => ?_)
  have go : ∀ (H : Heap) (locs : List Loc) (ls : Array Slot), va_P D vwCl (pq_P t σ (I, J, ri, rj, rq)) H → va_D A (pq_P t σ (I, J, ri, rj, rq)) → va_S A s.heap H locs → lv_has ls 4 [(0, .ref this), (1, .int a0), (2, .int a1)] → W p l e ({ frames := 6, cells := 0, slots := 0, locals := 166 } : Room) s m (List.toArray ([.ref this, .int a0, .int a1] : List Value)) below meth c H locs 0 0 Q (F0 m 0 ls []) := by
    intro H locs ls hP hD hS hl
    have hVT : VT 10 σ tg this_now := vt_10 hSH hL_this_now hK_this_now
    have hFr : FR 10 tg σ this_now (I, J, ri, rj, rq) (I, J, ri, rj, rq) := fr_rf
    have hO_this_now : this_now = vo σ 10 this_now := rfl
    obtain ⟨F, hF0⟩ : ∃ F, F = g_X11_months (tI σ I) (tR σ ri) a0 a1 (vI 10 σ this_now I) (vJ 10 σ this_now J) (vR 10 σ this_now ri) (vL 10 σ this_now rj) (vQ 10 σ this_now rq) := ⟨_, rfl⟩
    have hF := hF0.trans g_X11_months_e
    refine lv_aload_n hx hb dX11_months_0 rfl (lv_at hl 0 rfl) ?_
    refine lv_iload_n hx hb dX11_months_1 rfl (lv_at hl 2 rfl) ?_
    refine lv_iload_n hx hb dX11_months_2 rfl (lv_at hl 1 rfl) ?_
    refine lv_bipush (v := 60) hx hb dX11_months_3 (by decide) ?_
    refine pk_i (va_runV (As := [.int a1, .int a0, .int 60]) (rest := []) ⟨hx, hb, hml, hown, hts⟩ (s_X11_canGoBy l D t σ I J ri rj rq H.size tg hSH hG.1 this a1 a0 (60 : Int32) hL_this hK_this (rg_w (rg_k (60 : Int32) 60 rfl) (by decide)) this_now hR_this_now hL_this_now hK_this_now) (cwV 3 hts (tw_V tw_1035 tw_1036 tw_1037 tw_2 tw_1038) rfl rfl rfl cv_yX11_canGoBy_3 ⟨Nat.le_of_ble_eq_true rfl, Nat.le_of_ble_eq_true rfl⟩) ⟨pq_blind, pq_recv hK hP hL_this hK_this (by decide) rfl, pq_pre hK hN hP hD⟩ rfl rfl hl.1 rfl (lv_room (Nat.le_of_ble_eq_true rfl)) dX11_months_5 ⟨Nat.le_of_ble_eq_true rfl, Nat.le_of_ble_eq_true rfl⟩) hD hS hA (fun x_1 σ1 μ1 H locs hw_2 hP hD hS => ?_)
    obtain ⟨hu_3, hfn_6, hr_5⟩ := hw_2
    obtain ⟨hu_3a, hu_3b⟩ := Prod.mk.inj hu_3
    rw [hu_3a, hu_3b] at hP hD
    replace hF := hF.trans (bn_n hfn_6)
    have h_8 : rg x_1 0 1 := by rcases hr_5 with ⟨q, -⟩ | ⟨q, -⟩ <;> rw [q] <;> exact ⟨by decide, by decide⟩
    refine lv_if_ne (tgt := 13) hx hb dX11_months_8 (by decide) (fun c_9 => ?_) (fun c_9 => ?_)
    · replace hF := hF.trans (if_neg c_9)
      obtain ⟨f_17, f_18, f_19, f_20⟩ := (hr_5.resolve_right (fun q => c_9 q.1)).2
      have h_21 : rg x_1 1 1 := rg_ne c_9 h_8 0 rfl (by decide)
      refine lv_iconst (v := 0) hx hb dX11_months_13 (by decide) ?_
      refine lv_istore_n (lv' := [(3, .int 0), (0, .ref this), (1, .int a0), (2, .int a1)]) hx hb dX11_months_14 rfl hl (by decide) rfl (fun ls hl => ?_)
      have L_370 : ∀ (n_369 : Nat) (x_344 : Int32) (I_345 : Nat → Nat → Int32) (J_346 : Nat → Nat → Int64) (ri_347 : Nat → Nat → Int32) (rj_348 : Nat → Nat → Int64) (H : Heap) (locs : List Loc) (ls : Array Slot), rg x_344 0 60 → (60 - (x_344).toInt).toNat < n_369 → F = g_X11_months_L15 a0 a1 (vQ 10 σ this_now rq) (tI σ I) (tR σ ri) n_369 x_344 (vI 10 σ this_now I_345) (vJ 10 σ this_now J_346) (vR 10 σ this_now ri_347) (vL 10 σ this_now rj_348) → FR 10 tg σ this_now (I, J, ri, rj, rq) (I_345, J_346, ri_347, rj_348, rq) → GX [1074, 1073, 1068, 1077, 324, 321, 323, 1005, 320] tg σ I ri rj I_345 ri_347 rj_348 rq → va_P D vwCl (pq_P t σ (I_345, J_346, ri_347, rj_348, rq)) H → va_D A (pq_P t σ (I_345, J_346, ri_347, rj_348, rq)) → va_S A s.heap H locs → lv_has ls 4 [(0, .ref this), (1, .int a0), (2, .int a1), (3, .int x_344)] → W p l e ({ frames := 6, cells := 0, slots := 0, locals := 166 } : Room) s m (List.toArray ([.ref this, .int a0, .int a1] : List Value)) below meth c H locs 0 0 Q (F0 m 15 ls []) := by
        intro n_369
        induction n_369 with
        | zero => intro x_344 I_345 J_346 ri_347 rj_348 H locs ls h_373 hm_368 hF hFr hG hP hD hS hl; exact absurd hm_368 (Nat.not_lt_zero _)
        | succ n_369 ih_371 =>
          intro x_344 I_345 J_346 ri_347 rj_348 H locs ls h_373 hm_368 hF hFr hG hP hD hS hl
          replace hF := hF.trans g_X11_months_L15_e
          refine lv_iload_n hx hb dX11_months_15 rfl (lv_at hl 3 rfl) ?_
          refine lv_iload_n hx hb dX11_months_16 rfl (lv_at hl 1 rfl) ?_
          refine lv_icmp_ge (tgt := 34) hx hb dX11_months_17 (by decide) (fun c_374 => ?_) (fun c_374 => ?_)
          · replace hF := hF.trans (if_pos c_374)
            have h_377 : rg x_344 1 60 := rg_le2 c_374 f_18 h_373 (by decide)
            refine lv_aload_n hx hb dX11_months_34 rfl (lv_at hl 0 rfl) ?_
            refine pg_f (v := .ref this_now) (C := RX11) (T := TX11) (N := 5) hx hb hts (tw_i inlX11) hown hK hP hL_this hK_this (by decide) rfl 0 (by decide) (hts _ (tw_c tw_16)) (pq_hv rfl hR_this_now) dX11_months_35 ?_
            refine pg_f (v := .int (I_345 320 this_now)) (C := RX10) (T := TX10) (N := 13) hx hb hts (tw_i inlX10) hown hK hP hL_this_now hK_this_now (by decide) rfl 0 (by decide) (hts _ (tw_c tw_209)) rfl dX11_months_38 ?_
            have h_378 : rg (I_345 320 this_now) 0 600 := GX.rI hG 320 rfl
            replace hF := hF.trans (ap_n (vI_e (f := 320) hO_this_now (by decide)))
            subst hQ
            exact W.iret (v := (I_345 320 this_now)) hx hb hr (fun t1 ht hW => ⟨⟨(I_345 320 this_now), (σ, I_345, J_346, ri_347, rj_348, rq), rfl, ⟨I_345, J_346, ri_347, rj_348, rfl, hG, (hF0.symm.trans hF), hFr, (rg_w h_378 (by decide))⟩, by rw [ht]; exact hP, va_K.moved hW.alike hK, hD⟩, hS.F ht⟩) hS.2.2 dX11_months_41
          · replace hF := hF.trans (if_neg c_374)
            have h_380 : rg x_344 0 59 := rg_lt1 (nle c_374) h_373 f_18 (by decide)
            refine lv_aload_n hx hb dX11_months_20 rfl (lv_at hl 0 rfl) ?_
            refine pg_f (v := .ref this_now) (C := RX11) (T := TX11) (N := 5) hx hb hts (tw_i inlX11) hown hK hP hL_this hK_this (by decide) rfl 0 (by decide) (hts _ (tw_c tw_16)) (pq_hv rfl hR_this_now) dX11_months_21 ?_
            refine lv_iload_n hx hb dX11_months_24 rfl (lv_at hl 2 rfl) ?_
            refine pk_v (va_runV (As := [.int a1]) (rest := []) ⟨hx, hb, hml, hown, hts⟩ (s_X10_goBy l D t σ I_345 J_346 ri_347 rj_348 rq H.size tg hSH hG.1 this_now a1 hL_this_now hK_this_now) (cwV 1 hts (tw_V tw_1039 tw_1040 tw_1041 tw_15 tw_1042) rfl rfl rfl cv_yX10_goBy_1 ⟨Nat.le_of_ble_eq_true rfl, Nat.le_of_ble_eq_true rfl⟩) ⟨pq_blind, pq_recv hK hP hL_this_now hK_this_now (by decide) rfl, pq_pre hK hN hP hD⟩ rfl rfl hl.1 rfl (lv_room (Nat.le_of_ble_eq_true rfl)) dX11_months_25 ⟨Nat.le_of_ble_eq_true rfl, Nat.le_of_ble_eq_true rfl⟩) hD hS hA (fun σ1 μ1 H locs hw_382 hP hD hS => ?_)
            obtain ⟨I_383, J_384, ri_385, rj_386, hu_387, hg_388, hfn_390, hfr_391⟩ := hw_382
            obtain ⟨hu_387a, hu_387b⟩ := Prod.mk.inj hu_387
            rw [hu_387a, hu_387b] at hP hD
            rw [fr_tI hFr hVT, fr_tR hFr hVT] at hfn_390
            replace hF := hF.trans (bv_n hfn_390)
            replace hFr := fr_tr hFr hfr_391
            have hG := GX.tr hG hg_388 (by decide)
            obtain ⟨x_392, ex_392⟩ : ∃ y : Int32, y = x_344 + Int32.ofInt 1 := ⟨_, rfl⟩
            replace hF := hF.trans (ap_n ex_392)
            have h_393 : rg x_392 1 60 := rg_of_eq ex_392 (rg_add h_380 (rg_k (Int32.ofInt 1) 1 rfl) (by decide))
            refine lv_iinc (v := x_392) (lv' := [(3, .int x_392), (0, .ref this), (1, .int a0), (2, .int a1)]) hx hb dX11_months_28 hl (k := 3) rfl ex_392.symm (by decide) rfl (fun ls hl => ?_)
            refine lv_goto (tgt := 15) hx hb dX11_months_31 (by decide) ?_
            exact ih_371 x_392 I_383 J_384 ri_385 rj_386 _ _ _ (rg_w h_393 (by decide)) (ms_up 1 hm_368 ex_392 rfl (by decide) h_380 (by decide) (by decide)) hF hFr hG hP hD hS (lv_sub hl [1, 2, 3, 0] rfl)
      exact L_370 _ (0 : Int32) I J ri rj _ _ _ (rg_w (rg_k (0 : Int32) 0 rfl) (by decide)) (Nat.lt_succ_self _) hF hFr hG hP hD hS (lv_sub hl [1, 2, 3, 0] rfl)
    · replace hF := hF.trans (if_pos c_9)
      have f_394 := (hr_5.resolve_left (fun q => absurd (q.1.symm.trans c_9) (by decide))).2
      have h_395 : rg x_1 0 0 := rg_and h_8 (rg_of_eq c_9 (rg_k (0 : Int32) 0 rfl)) (by decide)
      refine lv_iconst (v := (-1)) hx hb dX11_months_11 (by decide) ?_
      subst hQ
      exact W.iret (v := (-1)) hx hb hr (fun t1 ht hW => ⟨⟨(-1), (σ, I, J, ri, rj, rq), rfl, ⟨I, J, ri, rj, rfl, hG, (hF0.symm.trans hF), hFr, (rg_w (rg_k (-1 : Int32) (-1) rfl) (by decide))⟩, by rw [ht]; exact hP, va_K.moved hW.alike hK, hD⟩, hS.F ht⟩) hS.2.2 dX11_months_12
  exact go _ _ _ hP hD hS hl

set_option maxRecDepth 100000 in
def g_X11_sinks_K19 (I : Nat → Int32) (J : Nat → Int64) (ri : Nat → Nat → Int32) (rj : Nat → Nat → Int64) (rq : Nat → Nat → Option Nat) : Int32 × vM := ((-1 : Int32), I, J, ri, rj, rq)
set_option maxRecDepth 100000 in
theorem g_X11_sinks_K19_e {I : Nat → Int32} {J : Nat → Int64} {ri : Nat → Nat → Int32} {rj : Nat → Nat → Int64} {rq : Nat → Nat → Option Nat} : g_X11_sinks_K19 I J ri rj rq  = ((-1 : Int32), I, J, ri, rj, rq) := rfl
set_option maxRecDepth 100000 in
def g_X11_sinks_L35 (a0 : Int32) (a1 : Int32) (a2 : Int32) (rq_866 : Nat → Nat → Option Nat) : Nat → (Int32) → (Nat → Int32) → (Nat → Int64) → (Nat → Nat → Int32) → (Nat → Nat → Int64) → Int32 × vM
  | 0, x_1550, I_1551, J_1552, ri_1553, rj_1554 => ((0 : Int32), I_1551, J_1552, ri_1553, rj_1554, rq_866)
  | n_1600 + 1, x_1550, I_1551, J_1552, ri_1553, rj_1554 => (if a2 ≤ x_1550 then ((-1 : Int32), I_1551, J_1552, ri_1553, rj_1554, rq_866) else (bnV (g_X10_nature a1 I_1551 J_1552 ri_1553 rj_1554 rq_866) fun (I_1618 : Nat → Int32) (J_1619 : Nat → Int64) (ri_1620 : Nat → Nat → Int32) (rj_1621 : Nat → Nat → Int64) (_ : Nat → Nat → Option Nat) => (bnI (g_X2_isDry a0 I_1618 J_1619 ri_1620 rj_1621 rq_866) fun (x_1629 : Int32) (_ : Nat → Int32) (_ : Nat → Int64) (_ : Nat → Nat → Int32) (_ : Nat → Nat → Int64) (_ : Nat → Nat → Option Nat) => (if x_1629 = (0 : Int32) then (ap1 (I_1618 320) fun (y_1656 : Int32) => ((y_1656), I_1618, J_1619, ri_1620, rj_1621, rq_866)) else (ap1 (I_1618 320) fun (y_1645 : Int32) => (ap1 ((y_1645) + (1 : Int32)) fun (x_1646 : Int32) => (ap1 (va_up I_1618 320 x_1646) fun (I_1648 : Nat → Int32) => (ap1 (x_1550 + Int32.ofInt 1) fun (x_1651 : Int32) => ((g_X11_sinks_L35 a0 a1 a2 rq_866 n_1600) x_1651 I_1648 J_1619 ri_1620 rj_1621)))))))))
set_option maxRecDepth 100000 in
theorem g_X11_sinks_L35_e {a0 : Int32} {a1 : Int32} {a2 : Int32} {rq_866 : Nat → Nat → Option Nat} {n_1600 : Nat} {x_1550 : Int32} {I_1551 : Nat → Int32} {J_1552 : Nat → Int64} {ri_1553 : Nat → Nat → Int32} {rj_1554 : Nat → Nat → Int64} : g_X11_sinks_L35 a0 a1 a2 rq_866 (n_1600 + 1) x_1550 I_1551 J_1552 ri_1553 rj_1554 = (if a2 ≤ x_1550 then ((-1 : Int32), I_1551, J_1552, ri_1553, rj_1554, rq_866) else (bnV (g_X10_nature a1 I_1551 J_1552 ri_1553 rj_1554 rq_866) fun (I_1618 : Nat → Int32) (J_1619 : Nat → Int64) (ri_1620 : Nat → Nat → Int32) (rj_1621 : Nat → Nat → Int64) (_ : Nat → Nat → Option Nat) => (bnI (g_X2_isDry a0 I_1618 J_1619 ri_1620 rj_1621 rq_866) fun (x_1629 : Int32) (_ : Nat → Int32) (_ : Nat → Int64) (_ : Nat → Nat → Int32) (_ : Nat → Nat → Int64) (_ : Nat → Nat → Option Nat) => (if x_1629 = (0 : Int32) then (ap1 (I_1618 320) fun (y_1656 : Int32) => ((y_1656), I_1618, J_1619, ri_1620, rj_1621, rq_866)) else (ap1 (I_1618 320) fun (y_1645 : Int32) => (ap1 ((y_1645) + (1 : Int32)) fun (x_1646 : Int32) => (ap1 (va_up I_1618 320 x_1646) fun (I_1648 : Nat → Int32) => (ap1 (x_1550 + Int32.ofInt 1) fun (x_1651 : Int32) => ((g_X11_sinks_L35 a0 a1 a2 rq_866 n_1600) x_1651 I_1648 J_1619 ri_1620 rj_1621))))))))) := rfl
set_option maxRecDepth 100000 in
def g_X11_sinks (nI : Nat → Int32) (nJ : Nat → Int64) (nR : Nat → Nat → Int32) (nL : Nat → Nat → Int64) (nQ : Nat → Nat → Option Nat) (a0 : Int32) (a1 : Int32) (a2 : Int32) (I : Nat → Int32) (J : Nat → Int64) (ri : Nat → Nat → Int32) (rj : Nat → Nat → Int64) (rq : Nat → Nat → Option Nat) : Int32 × vM := (bnI (g_X11_isCell a0 nI nJ nR nL nQ) fun (x_1 : Int32) (_ : Nat → Int32) (_ : Nat → Int64) (_ : Nat → Nat → Int32) (_ : Nat → Nat → Int64) (_ : Nat → Nat → Option Nat) => (if x_1 = (0 : Int32) then (g_X11_sinks_K19 I J ri rj rq ) else (bnI (g_X11_canGoBy a1 a2 (60 : Int32) nI nJ nR nL nQ) fun (x_834 : Int32) (_ : Nat → Int32) (_ : Nat → Int64) (_ : Nat → Nat → Int32) (_ : Nat → Nat → Int64) (_ : Nat → Nat → Option Nat) => (if x_834 = (0 : Int32) then (g_X11_sinks_K19 I J ri rj rq ) else (bnV (g_X10_copyFrom nI nJ nR nL nQ I J ri rj rq) fun (I_862 : Nat → Int32) (J_863 : Nat → Int64) (ri_864 : Nat → Nat → Int32) (rj_865 : Nat → Nat → Int64) (rq_866 : Nat → Nat → Option Nat) => (g_X11_sinks_L35 a0 a1 a2 rq_866 ((60 - ((0 : Int32)).toInt).toNat + 1) (0 : Int32) I_862 J_863 ri_864 rj_865))))))
set_option maxRecDepth 100000 in
theorem g_X11_sinks_e {nI : Nat → Int32} {nJ : Nat → Int64} {nR : Nat → Nat → Int32} {nL : Nat → Nat → Int64} {nQ : Nat → Nat → Option Nat} {a0 : Int32} {a1 : Int32} {a2 : Int32} {I : Nat → Int32} {J : Nat → Int64} {ri : Nat → Nat → Int32} {rj : Nat → Nat → Int64} {rq : Nat → Nat → Option Nat} : g_X11_sinks nI nJ nR nL nQ a0 a1 a2 I J ri rj rq = (bnI (g_X11_isCell a0 nI nJ nR nL nQ) fun (x_1 : Int32) (_ : Nat → Int32) (_ : Nat → Int64) (_ : Nat → Nat → Int32) (_ : Nat → Nat → Int64) (_ : Nat → Nat → Option Nat) => (if x_1 = (0 : Int32) then (g_X11_sinks_K19 I J ri rj rq ) else (bnI (g_X11_canGoBy a1 a2 (60 : Int32) nI nJ nR nL nQ) fun (x_834 : Int32) (_ : Nat → Int32) (_ : Nat → Int64) (_ : Nat → Nat → Int32) (_ : Nat → Nat → Int64) (_ : Nat → Nat → Option Nat) => (if x_834 = (0 : Int32) then (g_X11_sinks_K19 I J ri rj rq ) else (bnV (g_X10_copyFrom nI nJ nR nL nQ I J ri rj rq) fun (I_862 : Nat → Int32) (J_863 : Nat → Int64) (ri_864 : Nat → Nat → Int32) (rj_865 : Nat → Nat → Int64) (rq_866 : Nat → Nat → Option Nat) => (g_X11_sinks_L35 a0 a1 a2 rq_866 ((60 - ((0 : Int32)).toInt).toNat + 1) (0 : Int32) I_862 J_863 ri_864 rj_865)))))) := rfl
set_option maxHeartbeats 4000000 in
set_option maxRecDepth 100000 in
theorem s_X11_sinks (l : Launch) (D : va_G) (t : pq_T) (σ : pq_S) (I : Nat → Nat → Int32) (J : Nat → Nat → Int64) (ri : Nat → Nat → Int32) (rj : Nat → Nat → Int64) (rq : Nat → Nat → Option Nat) (sz : Nat) (tg : Nat → Nat) (hSH : SH σ tg) (hG0 : GS tg σ I ri rq) (this : Nat) (a0 : Int32) (a1 : Int32) (a2 : Int32) (hL_this : this ∈ σ.1) (hK_this : σ.2.1 this = 11) (this_now : Nat) (hR_this_now : σ.2.2.1 352 this = some this_now) (hL_this_now : this_now ∈ σ.1) (hK_this_now : σ.2.1 this_now = 10) (this_trial : Nat) (hR_this_trial : σ.2.2.1 354 this = some this_trial) (hL_this_trial : this_trial ∈ σ.1) (hK_this_trial : σ.2.1 this_trial = 10) (hap : AP 10 tg σ this_trial this_now) : MetI l yX11_sinks (wa yX11_sinks cX11_sinks 5 (some .int)) ({ frames := 5, cells := 0, slots := 0, locals := 144 }) [.ref this, .int a0, .int a1, .int a2] D t σ (I, J, ri, rj, rq) sz 0 0 (fun (r : Int32) (u : pq_S × pq_M) => ∃ I' : Nat → Nat → Int32, ∃ J' : Nat → Nat → Int64, ∃ ri' : Nat → Nat → Int32, ∃ rj' : Nat → Nat → Int64, ∃ rq' : Nat → Nat → Option Nat, u = (σ, I', J', ri', rj', rq') ∧ GX [320, 321, 322, 323, 324, 1325, 224, 1225, 1226, 1227, 1228, 1229, 1230, 1231, 1232, 1233, 234, 235, 236, 237, 238, 64, 65, 1068, 1069, 1070, 1071, 1072, 1073, 1074, 1075, 1077, 1288, 1079, 0, 1001, 1002, 1003, 1004, 1005, 1009, 10, 1011, 96, 98, 1099, 1100, 1101, 32, 1033, 1034] tg σ I ri rj I' ri' rj' rq' ∧ g_X11_sinks (vI 10 σ this_now I) (vJ 10 σ this_now J) (vR 10 σ this_now ri) (vL 10 σ this_now rj) (vQ 10 σ this_now rq) a0 a1 a2 (vI 10 σ this_trial I) (vJ 10 σ this_trial J) (vR 10 σ this_trial ri) (vL 10 σ this_trial rj) (vQ 10 σ this_trial rq) = (r, (vI 10 σ this_trial I'), (vJ 10 σ this_trial J'), (vR 10 σ this_trial ri'), (vL 10 σ this_trial rj'), (vQ 10 σ this_trial rq')) ∧ FR 10 tg σ this_trial (I, J, ri, rj, rq) (I', J', ri', rj', rq') ∧ rg r (-1) 600) := by
  refine Met.ofW (cc := cX11_sinks) (maxL := 5) (ret := (some .int)) (by decide) rfl ?_
  intro p e s m args below meth c s₁ B hml hv
  obtain ⟨rfl, hsz, hP, hK, hD0, hN⟩ := hv
  have hx := B.exec
  have hb := B.bytes
  have hr := B.returns
  have hts := atoms_spec (ws := (wa yX11_sinks cX11_sinks 5 (some .int))) B.pre
  have hown : s.vm.findClass RX11 = some m.cls := findClass_of_methodNamed B.named
  have hlocks := B.notSynchronized
  subst hsz
  have hD : va_D (pq_B t σ (I, J, ri, rj, rq) s.heap.size) (pq_P t σ (I, J, ri, rj, rq)) := hD0.self
  generalize hAe : pq_B t σ (I, J, ri, rj, rq) s.heap.size = A at hD ⊢
  have hA : ∀ q : Nat, s.heap.size ≤ q → A q := fun q h => by rw [← hAe]; exact Or.inr h
  have hS : va_S A s.heap s.heap [] := va_S.rf
  have hG : GX [320, 321, 322, 323, 324, 1325, 224, 1225, 1226, 1227, 1228, 1229, 1230, 1231, 1232, 1233, 234, 235, 236, 237, 238, 64, 65, 1068, 1069, 1070, 1071, 1072, 1073, 1074, 1075, 1077, 1288, 1079, 0, 1001, 1002, 1003, 1004, 1005, 1009, 10, 1011, 96, 98, 1099, 1100, 1101, 32, 1033, 1034] tg σ I ri rj I ri rj rq := ⟨hG0, fun _ _ _ => rfl, fun _ _ _ _ _ => rfl, fun _ _ _ _ _ => rfl⟩
  have hl := lv_entry ([.ref this, .int a0, .int a1, .int a2]) (n := 5) (Nat.le_of_ble_eq_true rfl)
  rw [lg_entry_eq]
  generalize (lg_sl ([.ref this, .int a0, .int a1, .int a2]) ++ List.replicate (5 - (lg_sl ([.ref this, .int a0, .int a1, .int a2])).length) Slot.unset).toArray = ls at hl ⊢
  have hl : lv_has ls 5 [(0, .ref this), (1, .int a0), (2, .int a1), (3, .int a2)] := hl
  refine q_gen (fun Q hQ => ?_)
  have go : ∀ (H : Heap) (locs : List Loc) (ls : Array Slot), va_P D vwCl (pq_P t σ (I, J, ri, rj, rq)) H → va_D A (pq_P t σ (I, J, ri, rj, rq)) → va_S A s.heap H locs → lv_has ls 5 [(0, .ref this), (1, .int a0), (2, .int a1), (3, .int a2)] → W p l e ({ frames := 5, cells := 0, slots := 0, locals := 144 } : Room) s m (List.toArray ([.ref this, .int a0, .int a1, .int a2] : List Value)) below meth c H locs 0 0 Q (F0 m 0 ls []) := by
    intro H locs ls hP hD hS hl
    have hVT : VT 10 σ tg this_trial := vt_10 hSH hL_this_trial hK_this_trial
    have hFr : FR 10 tg σ this_trial (I, J, ri, rj, rq) (I, J, ri, rj, rq) := fr_rf
    have hO_this_now : this_now = vo σ 10 this_now := rfl
    have hO_this_trial : this_trial = vo σ 10 this_trial := rfl
    obtain ⟨F, hF0⟩ : ∃ F, F = g_X11_sinks (vI 10 σ this_now I) (vJ 10 σ this_now J) (vR 10 σ this_now ri) (vL 10 σ this_now rj) (vQ 10 σ this_now rq) a0 a1 a2 (vI 10 σ this_trial I) (vJ 10 σ this_trial J) (vR 10 σ this_trial ri) (vL 10 σ this_trial rj) (vQ 10 σ this_trial rq) := ⟨_, rfl⟩
    have hF := hF0.trans g_X11_sinks_e
    refine lv_aload_n hx hb dX11_sinks_0 rfl (lv_at hl 0 rfl) ?_
    refine lv_iload_n hx hb dX11_sinks_1 rfl (lv_at hl 1 rfl) ?_
    refine pk_i (va_runV (As := [.int a0]) (rest := []) ⟨hx, hb, hml, hown, hts⟩ (s_X11_isCell l D t σ I J ri rj rq H.size tg hSH hG.1 this a0 hL_this hK_this this_now hR_this_now hL_this_now hK_this_now) (cwV 1 hts (tw_V tw_332 tw_333 tw_334 tw_2 tw_335) rfl rfl rfl cv_yX11_isCell_1 ⟨Nat.le_of_ble_eq_true rfl, Nat.le_of_ble_eq_true rfl⟩) ⟨pq_blind, pq_recv hK hP hL_this hK_this (by decide) rfl, pq_pre hK hN hP hD⟩ rfl rfl hl.1 rfl (lv_room (Nat.le_of_ble_eq_true rfl)) dX11_sinks_2 ⟨Nat.le_of_ble_eq_true rfl, Nat.le_of_ble_eq_true rfl⟩) hD hS hA (fun x_1 σ1 μ1 H locs hw_2 hP hD hS => ?_)
    obtain ⟨hu_3, hfn_6, hr_5⟩ := hw_2
    obtain ⟨hu_3a, hu_3b⟩ := Prod.mk.inj hu_3
    rw [hu_3a, hu_3b] at hP hD
    rw [fr_cI hFr hap, fr_cJ hFr hap, fr_cR hFr hap, fr_cL hFr hap, fr_cQ hFr hap] at hfn_6
    replace hF := hF.trans (bn_n hfn_6)
    have h_8 : rg x_1 0 1 := by rcases hr_5 with ⟨q, -⟩ | ⟨q, -⟩ <;> rw [q] <;> exact ⟨by decide, by decide⟩
    have uh_8 := h_8.1
    have vh_8 := h_8.2
    have K_820 : ∀  (H : Heap) (locs : List Loc) (ls : Array Slot), F = g_X11_sinks_K19 (vI 10 σ this_trial I) (vJ 10 σ this_trial J) (vR 10 σ this_trial ri) (vL 10 σ this_trial rj) (vQ 10 σ this_trial rq)  → FR 10 tg σ this_trial (I, J, ri, rj, rq) (I, J, ri, rj, rq) → GX [320, 321, 322, 323, 324, 1325, 224, 1225, 1226, 1227, 1228, 1229, 1230, 1231, 1232, 1233, 234, 235, 236, 237, 238, 64, 65, 1068, 1069, 1070, 1071, 1072, 1073, 1074, 1075, 1077, 1288, 1079, 0, 1001, 1002, 1003, 1004, 1005, 1009, 10, 1011, 96, 98, 1099, 1100, 1101, 32, 1033, 1034] tg σ I ri rj I ri rj rq → va_P D vwCl (pq_P t σ (I, J, ri, rj, rq)) H → va_D A (pq_P t σ (I, J, ri, rj, rq)) → va_S A s.heap H locs → lv_has ls 5 [] → W p l e ({ frames := 5, cells := 0, slots := 0, locals := 144 } : Room) s m (List.toArray ([.ref this, .int a0, .int a1, .int a2] : List Value)) below meth c H locs 0 0 Q (F0 m 19 ls []) := by
      intro H locs ls hF hFr hG hP hD hS hl
      replace hF := hF.trans g_X11_sinks_K19_e
      refine lv_iconst (v := (-1)) hx hb dX11_sinks_19 (by decide) ?_
      subst hQ
      exact W.iret (v := (-1)) hx hb hr (fun t1 ht hW => ⟨⟨(-1), (σ, I, J, ri, rj, rq), rfl, ⟨I, J, ri, rj, rq, rfl, hG, (hF0.symm.trans hF), hFr, (rg_w (rg_k (-1 : Int32) (-1) rfl) (by decide))⟩, by rw [ht]; exact hP, va_K.moved hW.alike hK, hD⟩, hS.F ht⟩) hS.2.2 dX11_sinks_20
    refine lv_if_eq (tgt := 19) hx hb dX11_sinks_5 (by decide) (fun c_821 => ?_) (fun c_821 => ?_)
    · replace hF := hF.trans (if_pos c_821)
      have f_828 := (hr_5.resolve_left (fun q => absurd (q.1.symm.trans c_821) (by decide))).2
      have tc_829 : (x_1).toInt = 0 := congrArg Int32.toInt c_821
      have h_830 : rg x_1 0 0 := rg_and h_8 (rg_of_eq c_821 (rg_k (0 : Int32) 0 rfl)) (by decide)
      have uh_830 := h_830.1
      have vh_830 := h_830.2
      exact K_820 _ _ _ hF hFr hG hP hD hS (lv_sub hl [] rfl)
    · replace hF := hF.trans (if_neg c_821)
      have f_831 := (hr_5.resolve_right (fun q => c_821 q.1)).2
      have tc_832 : (x_1).toInt ≠ 0 := fun q => c_821 (Int32.toInt_inj.mp q)
      have h_833 : rg x_1 1 1 := rg_ne c_821 h_8 0 rfl (by decide)
      have uh_833 := h_833.1
      have vh_833 := h_833.2
      refine lv_aload_n hx hb dX11_sinks_8 rfl (lv_at hl 0 rfl) ?_
      refine lv_iload_n hx hb dX11_sinks_9 rfl (lv_at hl 2 rfl) ?_
      refine lv_iload_n hx hb dX11_sinks_10 rfl (lv_at hl 3 rfl) ?_
      refine lv_bipush (v := 60) hx hb dX11_sinks_11 (by decide) ?_
      refine pk_i (va_runV (As := [.int a1, .int a2, .int 60]) (rest := []) ⟨hx, hb, hml, hown, hts⟩ (s_X11_canGoBy l D t σ I J ri rj rq H.size tg hSH hG.1 this a1 a2 (60 : Int32) hL_this hK_this (rg_w (rg_k (60 : Int32) 60 rfl) (by decide)) this_now hR_this_now hL_this_now hK_this_now) (cwV 3 hts (tw_V tw_1035 tw_1036 tw_1037 tw_2 tw_1038) rfl rfl rfl cv_yX11_canGoBy_3 ⟨Nat.le_of_ble_eq_true rfl, Nat.le_of_ble_eq_true rfl⟩) ⟨pq_blind, pq_recv hK hP hL_this hK_this (by decide) rfl, pq_pre hK hN hP hD⟩ rfl rfl hl.1 rfl (lv_room (Nat.le_of_ble_eq_true rfl)) dX11_sinks_13 ⟨Nat.le_of_ble_eq_true rfl, Nat.le_of_ble_eq_true rfl⟩) hD hS hA (fun x_834 σ1 μ1 H locs hw_835 hP hD hS => ?_)
      obtain ⟨hu_836, hfn_839, hr_838⟩ := hw_835
      obtain ⟨hu_836a, hu_836b⟩ := Prod.mk.inj hu_836
      rw [hu_836a, hu_836b] at hP hD
      rw [fr_cI hFr hap, fr_cJ hFr hap, fr_cR hFr hap, fr_cL hFr hap, fr_cQ hFr hap] at hfn_839
      replace hF := hF.trans (bn_n hfn_839)
      have h_841 : rg x_834 0 1 := by rcases hr_838 with ⟨q, -⟩ | ⟨q, -⟩ <;> rw [q] <;> exact ⟨by decide, by decide⟩
      have uh_841 := h_841.1
      have vh_841 := h_841.2
      refine lv_if_ne (tgt := 21) hx hb dX11_sinks_16 (by decide) (fun c_842 => ?_) (fun c_842 => ?_)
      · replace hF := hF.trans (if_neg c_842)
        obtain ⟨f_853, f_854, f_855, f_856⟩ := (hr_838.resolve_right (fun q => c_842 q.1)).2
        have tc_857 : (a2).toInt ≤ 60 := Int32.le_iff_toInt_le.mp f_855
        have tc_858 : (x_834).toInt ≠ 0 := fun q => c_842 (Int32.toInt_inj.mp q)
        have h_859 : rg x_834 1 1 := rg_ne c_842 h_841 0 rfl (by decide)
        have uh_859 := h_859.1
        have vh_859 := h_859.2
        refine lv_aload_n hx hb dX11_sinks_21 rfl (lv_at hl 0 rfl) ?_
        refine pg_f (v := .ref this_trial) (C := RX11) (T := TX11) (N := 5) hx hb hts (tw_i inlX11) hown hK hP hL_this hK_this (by decide) rfl 2 (by decide) (hts _ (tw_c tw_18)) (pq_hv rfl hR_this_trial) dX11_sinks_22 ?_
        refine lv_aload_n hx hb dX11_sinks_25 rfl (lv_at hl 0 rfl) ?_
        refine pg_f (v := .ref this_now) (C := RX11) (T := TX11) (N := 5) hx hb hts (tw_i inlX11) hown hK hP hL_this hK_this (by decide) rfl 0 (by decide) (hts _ (tw_c tw_16)) (pq_hv rfl hR_this_now) dX11_sinks_26 ?_
        refine pk_v (va_runV (As := [.ref this_now]) (rest := []) ⟨hx, hb, hml, hown, hts⟩ (s_X10_copyFrom l D t σ I J ri rj rq H.size tg hSH hG.1 this_trial this_now hL_this_trial hK_this_trial hL_this_now hK_this_now hap) (cwV 1 hts (tw_V tw_1362 tw_1363 tw_1364 tw_15 tw_1365) rfl rfl rfl cv_yX10_copyFrom_1 ⟨Nat.le_of_ble_eq_true rfl, Nat.le_of_ble_eq_true rfl⟩) ⟨pq_blind, pq_recv hK hP hL_this_trial hK_this_trial (by decide) rfl, pq_pre hK hN hP hD⟩ rfl rfl hl.1 rfl (lv_room (Nat.le_of_ble_eq_true rfl)) dX11_sinks_29 ⟨Nat.le_of_ble_eq_true rfl, Nat.le_of_ble_eq_true rfl⟩) hD hS hA (fun σ1 μ1 H locs hw_861 hP hD hS => ?_)
        obtain ⟨I_862, J_863, ri_864, rj_865, rq_866, hu_867, hg_868, hp_870, hfn_871, hfr_872⟩ := hw_861
        obtain ⟨hu_867a, hu_867b⟩ := Prod.mk.inj hu_867
        rw [hu_867a, hu_867b] at hP hD
        replace hF := hF.trans (bv_n hfn_871)
        replace hFr := fr_tr hFr hfr_872
        have tt_873 : (I_862 320 this_trial).toInt = (I 320 this_now).toInt := congrArg Int32.toInt hp_870
        have hG := GX.tr hG hg_868 (by decide)
        refine lv_iconst (v := 0) hx hb dX11_sinks_32 (by decide) ?_
        refine lv_istore (lv' := [(4, .int 0), (0, .ref this), (1, .int a0), (2, .int a1), (3, .int a2)]) hx hb dX11_sinks_33 hl (by decide) rfl (fun ls hl => ?_)
        have L_1601 : ∀ (n_1600 : Nat) (x_1550 : Int32) (I_1551 : Nat → Nat → Int32) (J_1552 : Nat → Nat → Int64) (ri_1553 : Nat → Nat → Int32) (rj_1554 : Nat → Nat → Int64) (H : Heap) (locs : List Loc) (ls : Array Slot), rg x_1550 0 60 → ((I_1551 320 this_trial).toInt = (I 320 this_now).toInt + (x_1550).toInt) → (60 - (x_1550).toInt).toNat < n_1600 → F = g_X11_sinks_L35 a0 a1 a2 (vQ 10 σ this_trial rq_866) n_1600 x_1550 (vI 10 σ this_trial I_1551) (vJ 10 σ this_trial J_1552) (vR 10 σ this_trial ri_1553) (vL 10 σ this_trial rj_1554) → FR 10 tg σ this_trial (I, J, ri, rj, rq) (I_1551, J_1552, ri_1553, rj_1554, rq_866) → GX [320, 321, 322, 323, 324, 1325, 224, 1225, 1226, 1227, 1228, 1229, 1230, 1231, 1232, 1233, 234, 235, 236, 237, 238, 64, 65, 1068, 1069, 1070, 1071, 1072, 1073, 1074, 1075, 1077, 1288, 1079, 0, 1001, 1002, 1003, 1004, 1005, 1009, 10, 1011, 96, 98, 1099, 1100, 1101, 32, 1033, 1034] tg σ I ri rj I_1551 ri_1553 rj_1554 rq_866 → va_P D vwCl (pq_P t σ (I_1551, J_1552, ri_1553, rj_1554, rq_866)) H → va_D A (pq_P t σ (I_1551, J_1552, ri_1553, rj_1554, rq_866)) → va_S A s.heap H locs → lv_has ls 5 [(0, .ref this), (1, .int a0), (2, .int a1), (3, .int a2), (4, .int x_1550)] → W p l e ({ frames := 5, cells := 0, slots := 0, locals := 144 } : Room) s m (List.toArray ([.ref this, .int a0, .int a1, .int a2] : List Value)) below meth c H locs 0 0 Q (F0 m 35 ls []) := by
          intro n_1600
          induction n_1600 with
          | zero => intro x_1550 I_1551 J_1552 ri_1553 rj_1554 H locs ls h_1605 hrel_1606 hm_1599 hF hFr hG hP hD hS hl; exact absurd hm_1599 (Nat.not_lt_zero _)
          | succ n_1600 ih_1602 =>
            intro x_1550 I_1551 J_1552 ri_1553 rj_1554 H locs ls h_1605 hrel_1606 hm_1599 hF hFr hG hP hD hS hl
            have uh_1605 := h_1605.1
            have vh_1605 := h_1605.2
            replace hF := hF.trans g_X11_sinks_L35_e
            refine lv_iload hx hb dX11_sinks_35 (lv_at hl 4 rfl) ?_
            refine lv_iload_n hx hb dX11_sinks_37 rfl (lv_at hl 3 rfl) ?_
            refine lv_icmp_ge (tgt := 90) hx hb dX11_sinks_38 (by decide) (fun c_1607 => ?_) (fun c_1607 => ?_)
            · replace hF := hF.trans (if_pos c_1607)
              have tc_1612 : (a2).toInt ≤ (x_1550).toInt := Int32.le_iff_toInt_le.mp c_1607
              have h_1613 : rg x_1550 1 60 := rg_le2 c_1607 f_854 h_1605 (by decide)
              have uh_1613 := h_1613.1
              have vh_1613 := h_1613.2
              refine lv_iconst (v := (-1)) hx hb dX11_sinks_90 (by decide) ?_
              subst hQ
              exact W.iret (v := (-1)) hx hb hr (fun t1 ht hW => ⟨⟨(-1), (σ, I_1551, J_1552, ri_1553, rj_1554, rq_866), rfl, ⟨I_1551, J_1552, ri_1553, rj_1554, rq_866, rfl, hG, (hF0.symm.trans hF), hFr, (rg_w (rg_k (-1 : Int32) (-1) rfl) (by decide))⟩, by rw [ht]; exact hP, va_K.moved hW.alike hK, hD⟩, hS.F ht⟩) hS.2.2 dX11_sinks_91
            · replace hF := hF.trans (if_neg c_1607)
              have tc_1614 : (x_1550).toInt < (a2).toInt := Int32.lt_iff_toInt_lt.mp (nle c_1607)
              have h_1615 : rg x_1550 0 59 := rg_lt1 (nle c_1607) h_1605 f_854 (by decide)
              have uh_1615 := h_1615.1
              have vh_1615 := h_1615.2
              refine lv_aload_n hx hb dX11_sinks_41 rfl (lv_at hl 0 rfl) ?_
              refine pg_f (v := .ref this_trial) (C := RX11) (T := TX11) (N := 5) hx hb hts (tw_i inlX11) hown hK hP hL_this hK_this (by decide) rfl 2 (by decide) (hts _ (tw_c tw_18)) (pq_hv rfl hR_this_trial) dX11_sinks_42 ?_
              refine lv_iload_n hx hb dX11_sinks_45 rfl (lv_at hl 2 rfl) ?_
              refine pk_v (va_runV (As := [.int a1]) (rest := []) ⟨hx, hb, hml, hown, hts⟩ (s_X10_nature l D t σ I_1551 J_1552 ri_1553 rj_1554 rq_866 H.size tg hSH hG.1 this_trial a1 hL_this_trial hK_this_trial) (cwV 1 hts (tw_V tw_1395 tw_1048 tw_1049 tw_15 tw_1050) rfl rfl rfl cv_yX10_nature_1 ⟨Nat.le_of_ble_eq_true rfl, Nat.le_of_ble_eq_true rfl⟩) ⟨pq_blind, pq_recv hK hP hL_this_trial hK_this_trial (by decide) rfl, pq_pre hK hN hP hD⟩ rfl rfl hl.1 rfl (lv_room (Nat.le_of_ble_eq_true rfl)) dX11_sinks_46 ⟨Nat.le_of_ble_eq_true rfl, Nat.le_of_ble_eq_true rfl⟩) hD hS hA (fun σ1 μ1 H locs hw_1617 hP hD hS => ?_)
              obtain ⟨I_1618, J_1619, ri_1620, rj_1621, hu_1622, hg_1623, hfn_1625, hfr_1626⟩ := hw_1617
              obtain ⟨hu_1622a, hu_1622b⟩ := Prod.mk.inj hu_1622
              rw [hu_1622a, hu_1622b] at hP hD
              replace hF := hF.trans (bv_n hfn_1625)
              replace hFr := fr_tr hFr hfr_1626
              have hG := GX.tr hG hg_1623 (by decide)
              have tt_1627 : (I_1618 320 this_trial).toInt = (I_1551 320 this_trial).toInt := by rw [hg_1623.2.1 320 (by decide) (by decide)]
              refine lv_aload_n hx hb dX11_sinks_49 rfl (lv_at hl 0 rfl) ?_
              refine pg_f (v := .ref this_trial) (C := RX11) (T := TX11) (N := 5) hx hb hts (tw_i inlX11) hown hK hP hL_this hK_this (by decide) rfl 2 (by decide) (hts _ (tw_c tw_18)) (pq_hv rfl hR_this_trial) dX11_sinks_50 ?_
              obtain ⟨w_1628, hR_w_1628, hL_w_1628, hK_w_1628⟩ := sh_o hSH 327 (ci := 10) (kd := 2) rfl hL_this_trial hK_this_trial
              have hO_w_1628 : w_1628 = vo σ 2 this_trial := vo_k (c := 10) hO_this_trial hR_w_1628
              refine pg_f (v := .ref w_1628) (C := RX10) (T := TX10) (N := 13) hx hb hts (tw_i inlX10) hown hK hP hL_this_trial hK_this_trial (by decide) rfl 7 (by decide) (hts _ (tw_c tw_199)) (pq_hv rfl hR_w_1628) dX11_sinks_53 ?_
              refine lv_iload_n hx hb dX11_sinks_56 rfl (lv_at hl 1 rfl) ?_
              refine pk_i (va_runV (As := [.int a0]) (rest := []) ⟨hx, hb, hml, hown, hts⟩ (s_X2_isDry l D t σ I_1618 J_1619 ri_1620 rj_1621 rq_866 H.size tg hSH hG.1 w_1628 a0 hL_w_1628 hK_w_1628 this_trial hL_this_trial hK_this_trial hO_w_1628) (cwV 1 hts (tw_V tw_1396 tw_555 tw_556 tw_41 tw_557) rfl rfl rfl cv_yX2_isDry_1 ⟨Nat.le_of_ble_eq_true rfl, Nat.le_of_ble_eq_true rfl⟩) ⟨pq_blind, pq_recv hK hP hL_w_1628 hK_w_1628 (by decide) rfl, pq_pre hK hN hP hD⟩ rfl rfl hl.1 rfl (lv_room (Nat.le_of_ble_eq_true rfl)) dX11_sinks_57 ⟨Nat.le_of_ble_eq_true rfl, Nat.le_of_ble_eq_true rfl⟩) hD hS hA (fun x_1629 σ1 μ1 H locs hw_1630 hP hD hS => ?_)
              obtain ⟨hu_1631, hfn_1634, hr_1633⟩ := hw_1630
              obtain ⟨hu_1631a, hu_1631b⟩ := Prod.mk.inj hu_1631
              rw [hu_1631a, hu_1631b] at hP hD
              replace hF := hF.trans (bn_n hfn_1634)
              have h_1636 : rg x_1629 0 1 := by rcases hr_1633 with ⟨q, -⟩ | ⟨q, -⟩ <;> rw [q] <;> exact ⟨by decide, by decide⟩
              have uh_1636 := h_1636.1
              have vh_1636 := h_1636.2
              refine lv_if_ne (tgt := 71) hx hb dX11_sinks_60 (by decide) (fun c_1637 => ?_) (fun c_1637 => ?_)
              · replace hF := hF.trans (if_neg c_1637)
                have tc_1642 : (x_1629).toInt ≠ 0 := fun q => c_1637 (Int32.toInt_inj.mp q)
                have h_1643 : rg x_1629 1 1 := rg_ne c_1637 h_1636 0 rfl (by decide)
                have uh_1643 := h_1643.1
                have vh_1643 := h_1643.2
                refine lv_aload_n hx hb dX11_sinks_71 rfl (lv_at hl 0 rfl) ?_
                refine pg_f (v := .ref this_trial) (C := RX11) (T := TX11) (N := 5) hx hb hts (tw_i inlX11) hown hK hP hL_this hK_this (by decide) rfl 2 (by decide) (hts _ (tw_c tw_18)) (pq_hv rfl hR_this_trial) dX11_sinks_72 ?_
                refine lv_dup hx hb dX11_sinks_75 rfl ?_
                refine pg_f (v := .int (I_1618 320 this_trial)) (C := RX10) (T := TX10) (N := 13) hx hb hts (tw_i inlX10) hown hK hP hL_this_trial hK_this_trial (by decide) rfl 0 (by decide) (hts _ (tw_c tw_209)) rfl dX11_sinks_76 ?_
                have h_1644 : rg (I_1618 320 this_trial) 0 600 := GX.rI hG 320 rfl
                have uh_1644 := h_1644.1
                have vh_1644 := h_1644.2
                replace hF := hF.trans (ap_n (vI_e (f := 320) hO_this_trial (by decide)))
                refine lv_iconst (v := 1) hx hb dX11_sinks_79 (by decide) ?_
                refine lv_iadd hx hb dX11_sinks_80 ?_
                refine lv_topi (fun x_1646 ex_1646 => ?_)
                replace hF := hF.trans (ap_n ex_1646)
                have h_1647 : rg x_1646 1 601 := rg_of_eq ex_1646 (rg_add h_1644 (rg_k (1 : Int32) 1 rfl) (by decide))
                have uh_1647 := h_1647.1
                have vh_1647 := h_1647.2
                have tx_1646 : (x_1646).toInt = (I_1618 320 this_trial).toInt + 1 := by rw [ex_1646]; exact i_add_rg (a2 := (I_1618 320 this_trial).toInt) (b2 := 1) rfl rfl h_1644 (rg_k (1 : Int32) 1 rfl) (by decide)
                refine pp_i (v := x_1646) (ty := .int) (C := RX10) (T := TX10) (N := 13) hx hb hts (tw_i inlX10) tyX10 tyX10_ok nmX10 hown hK hP hD hS hL_this_trial hK_this_trial (by decide) rfl 0 320 (by decide) (hts _ (tw_c tw_209)) rfl (tyX10_ok 0 (by decide)) rfl rfl (Nat.le_of_ble_eq_true rfl) (ps_320 _ _ _ _ _) dX11_sinks_81 (fun I_1648 H locs eI_1648 hP hD hS => ?_)
                replace hFr := fr_I (f := 320) hFr hO_this_trial (by decide) eI_1648
                replace hF := hF.trans (ap_n (vI_st (f := 320) hO_this_trial (by decide) eI_1648))
                have h_1649 : rg x_1646 1 600 := ⟨by omega, by omega⟩
                have uh_1649 := h_1649.1
                have vh_1649 := h_1649.2
                have hG := GX.wI hG 320 rfl eI_1648 (rg_w h_1649 (by decide)) (by decide)
                have tt_1650 : (I_1648 320 this_trial).toInt = (x_1646).toInt := by rw [eI_1648, pq_us]
                obtain ⟨x_1651, ex_1651⟩ : ∃ y : Int32, y = x_1550 + Int32.ofInt 1 := ⟨_, rfl⟩
                replace hF := hF.trans (ap_n ex_1651)
                have h_1652 : rg x_1651 1 60 := rg_of_eq ex_1651 (rg_add h_1615 (rg_k (Int32.ofInt 1) 1 rfl) (by decide))
                have uh_1652 := h_1652.1
                have vh_1652 := h_1652.2
                have tx_1651 : (x_1651).toInt = (x_1550).toInt + 1 := by rw [ex_1651]; exact i_add_rg (a2 := (x_1550).toInt) (b2 := 1) rfl rfl h_1615 (rg_k (Int32.ofInt 1) 1 rfl) (by decide)
                refine lv_iinc (v := x_1651) (lv' := [(4, .int x_1651), (0, .ref this), (1, .int a0), (2, .int a1), (3, .int a2)]) hx hb dX11_sinks_84 hl (k := 4) rfl ex_1651.symm (by decide) rfl (fun ls hl => ?_)
                refine lv_goto (tgt := 35) hx hb dX11_sinks_87 (by decide) ?_
                exact ih_1602 x_1651 I_1648 J_1619 ri_1620 rj_1621 _ _ _ (rg_w h_1652 (by decide)) (by omega) (ms_up 1 hm_1599 ex_1651 rfl (by decide) h_1615 (by decide) (by decide)) hF hFr hG hP hD hS (lv_sub hl [1, 2, 3, 4, 0] rfl)
              · replace hF := hF.trans (if_pos c_1637)
                have tc_1653 : (x_1629).toInt = 0 := congrArg Int32.toInt c_1637
                have h_1654 : rg x_1629 0 0 := rg_and h_1636 (rg_of_eq c_1637 (rg_k (0 : Int32) 0 rfl)) (by decide)
                have uh_1654 := h_1654.1
                have vh_1654 := h_1654.2
                refine lv_aload_n hx hb dX11_sinks_63 rfl (lv_at hl 0 rfl) ?_
                refine pg_f (v := .ref this_trial) (C := RX11) (T := TX11) (N := 5) hx hb hts (tw_i inlX11) hown hK hP hL_this hK_this (by decide) rfl 2 (by decide) (hts _ (tw_c tw_18)) (pq_hv rfl hR_this_trial) dX11_sinks_64 ?_
                refine pg_f (v := .int (I_1618 320 this_trial)) (C := RX10) (T := TX10) (N := 13) hx hb hts (tw_i inlX10) hown hK hP hL_this_trial hK_this_trial (by decide) rfl 0 (by decide) (hts _ (tw_c tw_209)) rfl dX11_sinks_67 ?_
                have h_1655 : rg (I_1618 320 this_trial) 0 600 := GX.rI hG 320 rfl
                have uh_1655 := h_1655.1
                have vh_1655 := h_1655.2
                replace hF := hF.trans (ap_n (vI_e (f := 320) hO_this_trial (by decide)))
                subst hQ
                exact W.iret (v := (I_1618 320 this_trial)) hx hb hr (fun t1 ht hW => ⟨⟨(I_1618 320 this_trial), (σ, I_1618, J_1619, ri_1620, rj_1621, rq_866), rfl, ⟨I_1618, J_1619, ri_1620, rj_1621, rq_866, rfl, hG, (hF0.symm.trans hF), hFr, (rg_w h_1655 (by decide))⟩, by rw [ht]; exact hP, va_K.moved hW.alike hK, hD⟩, hS.F ht⟩) hS.2.2 dX11_sinks_70
        exact L_1601 _ (0 : Int32) I_862 J_863 ri_864 rj_865 _ _ _ (rg_w (rg_k (0 : Int32) 0 rfl) (by decide)) (by have k0 : (0 : Int32).toInt = 0 := rfl; omega) (Nat.lt_succ_self _) hF hFr hG hP hD hS (lv_sub hl [1, 2, 3, 4, 0] rfl)
      · replace hF := hF.trans (if_pos c_842)
        have f_1657 := (hr_838.resolve_left (fun q => absurd (q.1.symm.trans c_842) (by decide))).2
        have tc_1658 : (x_834).toInt = 0 := congrArg Int32.toInt c_842
        have h_1659 : rg x_834 0 0 := rg_and h_841 (rg_of_eq c_842 (rg_k (0 : Int32) 0 rfl)) (by decide)
        have uh_1659 := h_1659.1
        have vh_1659 := h_1659.2
        exact K_820 _ _ _ hF hFr hG hP hD hS (lv_sub hl [] rfl)
  exact go _ _ _ hP hD hS hl

set_option maxRecDepth 100000 in
def g_X11_cant_K84 (rq_33 : Nat → Nat → Option Nat) (I_719 : Nat → Int32) (J_720 : Nat → Int64) (ri_721 : Nat → Nat → Int32) (rj_722 : Nat → Nat → Int64) : Int32 × vM := (ap1 (I_719 323) fun (y_818 : Int32) => ((y_818), I_719, J_720, ri_721, rj_722, rq_33))
set_option maxRecDepth 100000 in
theorem g_X11_cant_K84_e {rq_33 : Nat → Nat → Option Nat} {I_719 : Nat → Int32} {J_720 : Nat → Int64} {ri_721 : Nat → Nat → Int32} {rj_722 : Nat → Nat → Int64} : g_X11_cant_K84 rq_33 I_719 J_720 ri_721 rj_722  = (ap1 (I_719 323) fun (y_818 : Int32) => ((y_818), I_719, J_720, ri_721, rj_722, rq_33)) := rfl
set_option maxRecDepth 100000 in
def g_X11_cant_L34 (a0 : Int32) (a1 : Int32) (tI : Nat → Nat → Int32) (tR : Nat → Nat → Nat → Int32) (rq_33 : Nat → Nat → Option Nat) : Nat → (Int32) → (Nat → Int32) → (Nat → Int64) → (Nat → Nat → Int32) → (Nat → Nat → Int64) → Int32 × vM
  | 0, x_718, I_719, J_720, ri_721, rj_722 => ((0 : Int32), I_719, J_720, ri_721, rj_722, rq_33)
  | n_768 + 1, x_718, I_719, J_720, ri_721, rj_722 => (if a1 ≤ x_718 then (g_X11_cant_K84 rq_33 I_719 J_720 ri_721 rj_722 ) else (ap1 (I_719 323) fun (y_828 : Int32) => (if (y_828) = (-1 : Int32) then (bnV (g_X10_nature a0 I_719 J_720 ri_721 rj_722 rq_33) fun (I_838 : Nat → Int32) (J_839 : Nat → Int64) (ri_840 : Nat → Nat → Int32) (rj_841 : Nat → Nat → Int64) (_ : Nat → Nat → Option Nat) => (bnV (g_X10_reckon tI tR I_838 J_839 ri_840 rj_841 rq_33) fun (I_850 : Nat → Int32) (_ : Nat → Int64) (ri_851 : Nat → Nat → Int32) (_ : Nat → Nat → Int64) (_ : Nat → Nat → Option Nat) => (ap1 (I_850 320) fun (y_859 : Int32) => (ap1 ((y_859) + (1 : Int32)) fun (x_860 : Int32) => (ap1 (va_up I_850 320 x_860) fun (I_862 : Nat → Int32) => (ap1 (x_718 + Int32.ofInt 1) fun (x_865 : Int32) => ((g_X11_cant_L34 a0 a1 tI tR rq_33 n_768) x_865 I_862 J_839 ri_851 rj_841))))))) else (g_X11_cant_K84 rq_33 I_719 J_720 ri_721 rj_722 ))))
set_option maxRecDepth 100000 in
theorem g_X11_cant_L34_e {a0 : Int32} {a1 : Int32} {tI : Nat → Nat → Int32} {tR : Nat → Nat → Nat → Int32} {rq_33 : Nat → Nat → Option Nat} {n_768 : Nat} {x_718 : Int32} {I_719 : Nat → Int32} {J_720 : Nat → Int64} {ri_721 : Nat → Nat → Int32} {rj_722 : Nat → Nat → Int64} : g_X11_cant_L34 a0 a1 tI tR rq_33 (n_768 + 1) x_718 I_719 J_720 ri_721 rj_722 = (if a1 ≤ x_718 then (g_X11_cant_K84 rq_33 I_719 J_720 ri_721 rj_722 ) else (ap1 (I_719 323) fun (y_828 : Int32) => (if (y_828) = (-1 : Int32) then (bnV (g_X10_nature a0 I_719 J_720 ri_721 rj_722 rq_33) fun (I_838 : Nat → Int32) (J_839 : Nat → Int64) (ri_840 : Nat → Nat → Int32) (rj_841 : Nat → Nat → Int64) (_ : Nat → Nat → Option Nat) => (bnV (g_X10_reckon tI tR I_838 J_839 ri_840 rj_841 rq_33) fun (I_850 : Nat → Int32) (_ : Nat → Int64) (ri_851 : Nat → Nat → Int32) (_ : Nat → Nat → Int64) (_ : Nat → Nat → Option Nat) => (ap1 (I_850 320) fun (y_859 : Int32) => (ap1 ((y_859) + (1 : Int32)) fun (x_860 : Int32) => (ap1 (va_up I_850 320 x_860) fun (I_862 : Nat → Int32) => (ap1 (x_718 + Int32.ofInt 1) fun (x_865 : Int32) => ((g_X11_cant_L34 a0 a1 tI tR rq_33 n_768) x_865 I_862 J_839 ri_851 rj_841))))))) else (g_X11_cant_K84 rq_33 I_719 J_720 ri_721 rj_722 )))) := rfl
set_option maxRecDepth 100000 in
def g_X11_cant (nI : Nat → Int32) (nJ : Nat → Int64) (nR : Nat → Nat → Int32) (nL : Nat → Nat → Int64) (nQ : Nat → Nat → Option Nat) (tI : Nat → Nat → Int32) (tR : Nat → Nat → Nat → Int32) (a0 : Int32) (a1 : Int32) (I : Nat → Int32) (J : Nat → Int64) (ri : Nat → Nat → Int32) (rj : Nat → Nat → Int64) (rq : Nat → Nat → Option Nat) : Int32 × vM := (bnI (g_X11_canGoBy a0 a1 (60 : Int32) nI nJ nR nL nQ) fun (x_1 : Int32) (_ : Nat → Int32) (_ : Nat → Int64) (_ : Nat → Nat → Int32) (_ : Nat → Nat → Int64) (_ : Nat → Nat → Option Nat) => (if x_1 = (0 : Int32) then ((-1 : Int32), I, J, ri, rj, rq) else (bnV (g_X10_copyFrom nI nJ nR nL nQ I J ri rj rq) fun (I_29 : Nat → Int32) (J_30 : Nat → Int64) (ri_31 : Nat → Nat → Int32) (rj_32 : Nat → Nat → Int64) (rq_33 : Nat → Nat → Option Nat) => (ap1 (va_up I_29 323 (-1 : Int32)) fun (I_41 : Nat → Int32) => (g_X11_cant_L34 a0 a1 tI tR rq_33 ((60 - ((0 : Int32)).toInt).toNat + 1) (0 : Int32) I_41 J_30 ri_31 rj_32)))))
set_option maxRecDepth 100000 in
theorem g_X11_cant_e {nI : Nat → Int32} {nJ : Nat → Int64} {nR : Nat → Nat → Int32} {nL : Nat → Nat → Int64} {nQ : Nat → Nat → Option Nat} {tI : Nat → Nat → Int32} {tR : Nat → Nat → Nat → Int32} {a0 : Int32} {a1 : Int32} {I : Nat → Int32} {J : Nat → Int64} {ri : Nat → Nat → Int32} {rj : Nat → Nat → Int64} {rq : Nat → Nat → Option Nat} : g_X11_cant nI nJ nR nL nQ tI tR a0 a1 I J ri rj rq = (bnI (g_X11_canGoBy a0 a1 (60 : Int32) nI nJ nR nL nQ) fun (x_1 : Int32) (_ : Nat → Int32) (_ : Nat → Int64) (_ : Nat → Nat → Int32) (_ : Nat → Nat → Int64) (_ : Nat → Nat → Option Nat) => (if x_1 = (0 : Int32) then ((-1 : Int32), I, J, ri, rj, rq) else (bnV (g_X10_copyFrom nI nJ nR nL nQ I J ri rj rq) fun (I_29 : Nat → Int32) (J_30 : Nat → Int64) (ri_31 : Nat → Nat → Int32) (rj_32 : Nat → Nat → Int64) (rq_33 : Nat → Nat → Option Nat) => (ap1 (va_up I_29 323 (-1 : Int32)) fun (I_41 : Nat → Int32) => (g_X11_cant_L34 a0 a1 tI tR rq_33 ((60 - ((0 : Int32)).toInt).toNat + 1) (0 : Int32) I_41 J_30 ri_31 rj_32))))) := rfl
set_option maxHeartbeats 4000000 in
set_option maxRecDepth 100000 in
theorem s_X11_cant (l : Launch) (D : va_G) (t : pq_T) (σ : pq_S) (I : Nat → Nat → Int32) (J : Nat → Nat → Int64) (ri : Nat → Nat → Int32) (rj : Nat → Nat → Int64) (rq : Nat → Nat → Option Nat) (sz : Nat) (tg : Nat → Nat) (hSH : SH σ tg) (hG0 : GS tg σ I ri rq) (this : Nat) (a0 : Int32) (a1 : Int32) (hL_this : this ∈ σ.1) (hK_this : σ.2.1 this = 11) (this_now : Nat) (hR_this_now : σ.2.2.1 352 this = some this_now) (hL_this_now : this_now ∈ σ.1) (hK_this_now : σ.2.1 this_now = 10) (this_trial : Nat) (hR_this_trial : σ.2.2.1 354 this = some this_trial) (hL_this_trial : this_trial ∈ σ.1) (hK_this_trial : σ.2.1 this_trial = 10) (hap : AP 10 tg σ this_trial this_now) : MetI l yX11_cant (wa yX11_cant cX11_cant 4 (some .int)) ({ frames := 5, cells := 0, slots := 0, locals := 144 }) [.ref this, .int a0, .int a1] D t σ (I, J, ri, rj, rq) sz 0 0 (fun (r : Int32) (u : pq_S × pq_M) => ∃ I' : Nat → Nat → Int32, ∃ J' : Nat → Nat → Int64, ∃ ri' : Nat → Nat → Int32, ∃ rj' : Nat → Nat → Int64, ∃ rq' : Nat → Nat → Option Nat, u = (σ, I', J', ri', rj', rq') ∧ GX [320, 321, 322, 323, 324, 1325, 224, 1225, 1226, 1227, 1228, 1229, 1230, 1231, 1232, 1233, 234, 235, 236, 237, 238, 64, 65, 1068, 1069, 1070, 1071, 1072, 1073, 1074, 1075, 1077, 1288, 1079, 0, 1001, 1002, 1003, 1004, 1005, 1009, 10, 1011, 96, 98, 1099, 1100, 1101, 32, 1033, 1034] tg σ I ri rj I' ri' rj' rq' ∧ g_X11_cant (vI 10 σ this_now I) (vJ 10 σ this_now J) (vR 10 σ this_now ri) (vL 10 σ this_now rj) (vQ 10 σ this_now rq) (tI σ I) (tR σ ri) a0 a1 (vI 10 σ this_trial I) (vJ 10 σ this_trial J) (vR 10 σ this_trial ri) (vL 10 σ this_trial rj) (vQ 10 σ this_trial rq) = (r, (vI 10 σ this_trial I'), (vJ 10 σ this_trial J'), (vR 10 σ this_trial ri'), (vL 10 σ this_trial rj'), (vQ 10 σ this_trial rq')) ∧ FR 10 tg σ this_trial (I, J, ri, rj, rq) (I', J', ri', rj', rq')) := by
  refine Met.ofW (cc := cX11_cant) (maxL := 4) (ret := (some .int)) (by decide) rfl ?_
  intro p e s m args below meth c s₁ B hml hv
  obtain ⟨rfl, hsz, hP, hK, hD0, hN⟩ := hv
  have hx := B.exec
  have hb := B.bytes
  have hr := B.returns
  have hts := atoms_spec (ws := (wa yX11_cant cX11_cant 4 (some .int))) B.pre
  have hown : s.vm.findClass RX11 = some m.cls := findClass_of_methodNamed B.named
  have hlocks := B.notSynchronized
  subst hsz
  have hD : va_D (pq_B t σ (I, J, ri, rj, rq) s.heap.size) (pq_P t σ (I, J, ri, rj, rq)) := hD0.self
  generalize hAe : pq_B t σ (I, J, ri, rj, rq) s.heap.size = A at hD ⊢
  have hA : ∀ q : Nat, s.heap.size ≤ q → A q := fun q h => by rw [← hAe]; exact Or.inr h
  have hS : va_S A s.heap s.heap [] := va_S.rf
  have hG : GX [320, 321, 322, 323, 324, 1325, 224, 1225, 1226, 1227, 1228, 1229, 1230, 1231, 1232, 1233, 234, 235, 236, 237, 238, 64, 65, 1068, 1069, 1070, 1071, 1072, 1073, 1074, 1075, 1077, 1288, 1079, 0, 1001, 1002, 1003, 1004, 1005, 1009, 10, 1011, 96, 98, 1099, 1100, 1101, 32, 1033, 1034] tg σ I ri rj I ri rj rq := ⟨hG0, fun _ _ _ => rfl, fun _ _ _ _ _ => rfl, fun _ _ _ _ _ => rfl⟩
  have hl := lv_entry ([.ref this, .int a0, .int a1]) (n := 4) (Nat.le_of_ble_eq_true rfl)
  rw [lg_entry_eq]
  generalize (lg_sl ([.ref this, .int a0, .int a1]) ++ List.replicate (4 - (lg_sl ([.ref this, .int a0, .int a1])).length) Slot.unset).toArray = ls at hl ⊢
  have hl : lv_has ls 4 [(0, .ref this), (1, .int a0), (2, .int a1)] := hl
  refine q_gen (fun Q hQ => ?_)
  have go : ∀ (H : Heap) (locs : List Loc) (ls : Array Slot), va_P D vwCl (pq_P t σ (I, J, ri, rj, rq)) H → va_D A (pq_P t σ (I, J, ri, rj, rq)) → va_S A s.heap H locs → lv_has ls 4 [(0, .ref this), (1, .int a0), (2, .int a1)] → W p l e ({ frames := 5, cells := 0, slots := 0, locals := 144 } : Room) s m (List.toArray ([.ref this, .int a0, .int a1] : List Value)) below meth c H locs 0 0 Q (F0 m 0 ls []) := by
    intro H locs ls hP hD hS hl
    have hVT : VT 10 σ tg this_trial := vt_10 hSH hL_this_trial hK_this_trial
    have hFr : FR 10 tg σ this_trial (I, J, ri, rj, rq) (I, J, ri, rj, rq) := fr_rf
    have hO_this_now : this_now = vo σ 10 this_now := rfl
    have hO_this_trial : this_trial = vo σ 10 this_trial := rfl
    obtain ⟨F, hF0⟩ : ∃ F, F = g_X11_cant (vI 10 σ this_now I) (vJ 10 σ this_now J) (vR 10 σ this_now ri) (vL 10 σ this_now rj) (vQ 10 σ this_now rq) (tI σ I) (tR σ ri) a0 a1 (vI 10 σ this_trial I) (vJ 10 σ this_trial J) (vR 10 σ this_trial ri) (vL 10 σ this_trial rj) (vQ 10 σ this_trial rq) := ⟨_, rfl⟩
    have hF := hF0.trans g_X11_cant_e
    refine lv_aload_n hx hb dX11_cant_0 rfl (lv_at hl 0 rfl) ?_
    refine lv_iload_n hx hb dX11_cant_1 rfl (lv_at hl 1 rfl) ?_
    refine lv_iload_n hx hb dX11_cant_2 rfl (lv_at hl 2 rfl) ?_
    refine lv_bipush (v := 60) hx hb dX11_cant_3 (by decide) ?_
    refine pk_i (va_runV (As := [.int a0, .int a1, .int 60]) (rest := []) ⟨hx, hb, hml, hown, hts⟩ (s_X11_canGoBy l D t σ I J ri rj rq H.size tg hSH hG.1 this a0 a1 (60 : Int32) hL_this hK_this (rg_w (rg_k (60 : Int32) 60 rfl) (by decide)) this_now hR_this_now hL_this_now hK_this_now) (cwV 3 hts (tw_V tw_1035 tw_1036 tw_1037 tw_2 tw_1038) rfl rfl rfl cv_yX11_canGoBy_3 ⟨Nat.le_of_ble_eq_true rfl, Nat.le_of_ble_eq_true rfl⟩) ⟨pq_blind, pq_recv hK hP hL_this hK_this (by decide) rfl, pq_pre hK hN hP hD⟩ rfl rfl hl.1 rfl (lv_room (Nat.le_of_ble_eq_true rfl)) dX11_cant_5 ⟨Nat.le_of_ble_eq_true rfl, Nat.le_of_ble_eq_true rfl⟩) hD hS hA (fun x_1 σ1 μ1 H locs hw_2 hP hD hS => ?_)
    obtain ⟨hu_3, hfn_6, hr_5⟩ := hw_2
    obtain ⟨hu_3a, hu_3b⟩ := Prod.mk.inj hu_3
    rw [hu_3a, hu_3b] at hP hD
    rw [fr_cI hFr hap, fr_cJ hFr hap, fr_cR hFr hap, fr_cL hFr hap, fr_cQ hFr hap] at hfn_6
    replace hF := hF.trans (bn_n hfn_6)
    have h_8 : rg x_1 0 1 := by rcases hr_5 with ⟨q, -⟩ | ⟨q, -⟩ <;> rw [q] <;> exact ⟨by decide, by decide⟩
    have uh_8 := h_8.1
    have vh_8 := h_8.2
    refine lv_if_ne (tgt := 13) hx hb dX11_cant_8 (by decide) (fun c_9 => ?_) (fun c_9 => ?_)
    · replace hF := hF.trans (if_neg c_9)
      obtain ⟨f_20, f_21, f_22, f_23⟩ := (hr_5.resolve_right (fun q => c_9 q.1)).2
      have tc_24 : (a1).toInt ≤ 60 := Int32.le_iff_toInt_le.mp f_22
      have tc_25 : (x_1).toInt ≠ 0 := fun q => c_9 (Int32.toInt_inj.mp q)
      have h_26 : rg x_1 1 1 := rg_ne c_9 h_8 0 rfl (by decide)
      have uh_26 := h_26.1
      have vh_26 := h_26.2
      refine lv_aload_n hx hb dX11_cant_13 rfl (lv_at hl 0 rfl) ?_
      refine pg_f (v := .ref this_trial) (C := RX11) (T := TX11) (N := 5) hx hb hts (tw_i inlX11) hown hK hP hL_this hK_this (by decide) rfl 2 (by decide) (hts _ (tw_c tw_18)) (pq_hv rfl hR_this_trial) dX11_cant_14 ?_
      refine lv_aload_n hx hb dX11_cant_17 rfl (lv_at hl 0 rfl) ?_
      refine pg_f (v := .ref this_now) (C := RX11) (T := TX11) (N := 5) hx hb hts (tw_i inlX11) hown hK hP hL_this hK_this (by decide) rfl 0 (by decide) (hts _ (tw_c tw_16)) (pq_hv rfl hR_this_now) dX11_cant_18 ?_
      refine pk_v (va_runV (As := [.ref this_now]) (rest := []) ⟨hx, hb, hml, hown, hts⟩ (s_X10_copyFrom l D t σ I J ri rj rq H.size tg hSH hG.1 this_trial this_now hL_this_trial hK_this_trial hL_this_now hK_this_now hap) (cwV 1 hts (tw_V tw_1362 tw_1363 tw_1364 tw_15 tw_1365) rfl rfl rfl cv_yX10_copyFrom_1 ⟨Nat.le_of_ble_eq_true rfl, Nat.le_of_ble_eq_true rfl⟩) ⟨pq_blind, pq_recv hK hP hL_this_trial hK_this_trial (by decide) rfl, pq_pre hK hN hP hD⟩ rfl rfl hl.1 rfl (lv_room (Nat.le_of_ble_eq_true rfl)) dX11_cant_21 ⟨Nat.le_of_ble_eq_true rfl, Nat.le_of_ble_eq_true rfl⟩) hD hS hA (fun σ1 μ1 H locs hw_28 hP hD hS => ?_)
      obtain ⟨I_29, J_30, ri_31, rj_32, rq_33, hu_34, hg_35, hp_37, hfn_38, hfr_39⟩ := hw_28
      obtain ⟨hu_34a, hu_34b⟩ := Prod.mk.inj hu_34
      rw [hu_34a, hu_34b] at hP hD
      replace hF := hF.trans (bv_n hfn_38)
      replace hFr := fr_tr hFr hfr_39
      have tt_40 : (I_29 320 this_trial).toInt = (I 320 this_now).toInt := congrArg Int32.toInt hp_37
      have hG := GX.tr hG hg_35 (by decide)
      refine lv_aload_n hx hb dX11_cant_24 rfl (lv_at hl 0 rfl) ?_
      refine pg_f (v := .ref this_trial) (C := RX11) (T := TX11) (N := 5) hx hb hts (tw_i inlX11) hown hK hP hL_this hK_this (by decide) rfl 2 (by decide) (hts _ (tw_c tw_18)) (pq_hv rfl hR_this_trial) dX11_cant_25 ?_
      refine lv_iconst (v := (-1)) hx hb dX11_cant_28 (by decide) ?_
      refine pp_i (v := (-1)) (ty := .int) (C := RX10) (T := TX10) (N := 13) hx hb hts (tw_i inlX10) tyX10 tyX10_ok nmX10 hown hK hP hD hS hL_this_trial hK_this_trial (by decide) rfl 3 323 (by decide) (hts _ (tw_c tw_1405)) rfl (tyX10_ok 3 (by decide)) rfl rfl (Nat.le_of_ble_eq_true rfl) (ps_323 _ _ _ _ _) dX11_cant_29 (fun I_41 H locs eI_41 hP hD hS => ?_)
      replace hFr := fr_I (f := 323) hFr hO_this_trial (by decide) eI_41
      replace hF := hF.trans (ap_n (vI_st (f := 323) hO_this_trial (by decide) eI_41))
      have hG := GX.wI hG 323 rfl eI_41 (rg_w (rg_k (-1 : Int32) (-1) rfl) (by decide)) (by decide)
      have tt_42 : (I_41 320 this_trial).toInt = (I_29 320 this_trial).toInt := by rw [eI_41, pq_uf _ _ _ (by decide)]
      refine lv_iconst (v := 0) hx hb dX11_cant_32 (by decide) ?_
      refine lv_istore_n (lv' := [(3, .int 0), (0, .ref this), (1, .int a0), (2, .int a1)]) hx hb dX11_cant_33 rfl hl (by decide) rfl (fun ls hl => ?_)
      have L_769 : ∀ (n_768 : Nat) (x_718 : Int32) (I_719 : Nat → Nat → Int32) (J_720 : Nat → Nat → Int64) (ri_721 : Nat → Nat → Int32) (rj_722 : Nat → Nat → Int64) (H : Heap) (locs : List Loc) (ls : Array Slot), rg x_718 0 60 → ((I_719 320 this_trial).toInt = (I 320 this_now).toInt + (x_718).toInt) → (60 - (x_718).toInt).toNat < n_768 → F = g_X11_cant_L34 a0 a1 (tI σ I) (tR σ ri) (vQ 10 σ this_trial rq_33) n_768 x_718 (vI 10 σ this_trial I_719) (vJ 10 σ this_trial J_720) (vR 10 σ this_trial ri_721) (vL 10 σ this_trial rj_722) → FR 10 tg σ this_trial (I, J, ri, rj, rq) (I_719, J_720, ri_721, rj_722, rq_33) → GX [320, 321, 322, 323, 324, 1325, 224, 1225, 1226, 1227, 1228, 1229, 1230, 1231, 1232, 1233, 234, 235, 236, 237, 238, 64, 65, 1068, 1069, 1070, 1071, 1072, 1073, 1074, 1075, 1077, 1288, 1079, 0, 1001, 1002, 1003, 1004, 1005, 1009, 10, 1011, 96, 98, 1099, 1100, 1101, 32, 1033, 1034] tg σ I ri rj I_719 ri_721 rj_722 rq_33 → va_P D vwCl (pq_P t σ (I_719, J_720, ri_721, rj_722, rq_33)) H → va_D A (pq_P t σ (I_719, J_720, ri_721, rj_722, rq_33)) → va_S A s.heap H locs → lv_has ls 4 [(0, .ref this), (1, .int a0), (2, .int a1), (3, .int x_718)] → W p l e ({ frames := 5, cells := 0, slots := 0, locals := 144 } : Room) s m (List.toArray ([.ref this, .int a0, .int a1] : List Value)) below meth c H locs 0 0 Q (F0 m 34 ls []) := by
        intro n_768
        induction n_768 with
        | zero => intro x_718 I_719 J_720 ri_721 rj_722 H locs ls h_773 hrel_774 hm_767 hF hFr hG hP hD hS hl; exact absurd hm_767 (Nat.not_lt_zero _)
        | succ n_768 ih_770 =>
          intro x_718 I_719 J_720 ri_721 rj_722 H locs ls h_773 hrel_774 hm_767 hF hFr hG hP hD hS hl
          have uh_773 := h_773.1
          have vh_773 := h_773.2
          replace hF := hF.trans g_X11_cant_L34_e
          refine lv_iload_n hx hb dX11_cant_34 rfl (lv_at hl 3 rfl) ?_
          refine lv_iload_n hx hb dX11_cant_35 rfl (lv_at hl 2 rfl) ?_
          have K_817 : ∀  (H : Heap) (locs : List Loc) (ls : Array Slot), F = g_X11_cant_K84 (vQ 10 σ this_trial rq_33) (vI 10 σ this_trial I_719) (vJ 10 σ this_trial J_720) (vR 10 σ this_trial ri_721) (vL 10 σ this_trial rj_722)  → FR 10 tg σ this_trial (I, J, ri, rj, rq) (I_719, J_720, ri_721, rj_722, rq_33) → GX [320, 321, 322, 323, 324, 1325, 224, 1225, 1226, 1227, 1228, 1229, 1230, 1231, 1232, 1233, 234, 235, 236, 237, 238, 64, 65, 1068, 1069, 1070, 1071, 1072, 1073, 1074, 1075, 1077, 1288, 1079, 0, 1001, 1002, 1003, 1004, 1005, 1009, 10, 1011, 96, 98, 1099, 1100, 1101, 32, 1033, 1034] tg σ I ri rj I_719 ri_721 rj_722 rq_33 → va_P D vwCl (pq_P t σ (I_719, J_720, ri_721, rj_722, rq_33)) H → va_D A (pq_P t σ (I_719, J_720, ri_721, rj_722, rq_33)) → va_S A s.heap H locs → lv_has ls 4 [(0, .ref this)] → W p l e ({ frames := 5, cells := 0, slots := 0, locals := 144 } : Room) s m (List.toArray ([.ref this, .int a0, .int a1] : List Value)) below meth c H locs 0 0 Q (F0 m 84 ls []) := by
            intro H locs ls hF hFr hG hP hD hS hl
            replace hF := hF.trans g_X11_cant_K84_e
            refine lv_aload_n hx hb dX11_cant_84 rfl (lv_at hl 0 rfl) ?_
            refine pg_f (v := .ref this_trial) (C := RX11) (T := TX11) (N := 5) hx hb hts (tw_i inlX11) hown hK hP hL_this hK_this (by decide) rfl 2 (by decide) (hts _ (tw_c tw_18)) (pq_hv rfl hR_this_trial) dX11_cant_85 ?_
            refine pg_f (v := .int (I_719 323 this_trial)) (C := RX10) (T := TX10) (N := 13) hx hb hts (tw_i inlX10) hown hK hP hL_this_trial hK_this_trial (by decide) rfl 3 (by decide) (hts _ (tw_c tw_1405)) rfl dX11_cant_88 ?_
            replace hF := hF.trans (ap_n (vI_e (f := 323) hO_this_trial (by decide)))
            subst hQ
            exact W.iret (v := (I_719 323 this_trial)) hx hb hr (fun t1 ht hW => ⟨⟨(I_719 323 this_trial), (σ, I_719, J_720, ri_721, rj_722, rq_33), rfl, ⟨I_719, J_720, ri_721, rj_722, rq_33, rfl, hG, (hF0.symm.trans hF), hFr⟩, by rw [ht]; exact hP, va_K.moved hW.alike hK, hD⟩, hS.F ht⟩) hS.2.2 dX11_cant_91
          refine lv_icmp_ge (tgt := 84) hx hb dX11_cant_36 (by decide) (fun c_819 => ?_) (fun c_819 => ?_)
          · replace hF := hF.trans (if_pos c_819)
            have tc_824 : (a1).toInt ≤ (x_718).toInt := Int32.le_iff_toInt_le.mp c_819
            have h_825 : rg x_718 1 60 := rg_le2 c_819 f_21 h_773 (by decide)
            have uh_825 := h_825.1
            have vh_825 := h_825.2
            exact K_817 _ _ _ hF hFr hG hP hD hS (lv_sub hl [0] rfl)
          · replace hF := hF.trans (if_neg c_819)
            have tc_826 : (x_718).toInt < (a1).toInt := Int32.lt_iff_toInt_lt.mp (nle c_819)
            have h_827 : rg x_718 0 59 := rg_lt1 (nle c_819) h_773 f_21 (by decide)
            have uh_827 := h_827.1
            have vh_827 := h_827.2
            refine lv_aload_n hx hb dX11_cant_39 rfl (lv_at hl 0 rfl) ?_
            refine pg_f (v := .ref this_trial) (C := RX11) (T := TX11) (N := 5) hx hb hts (tw_i inlX11) hown hK hP hL_this hK_this (by decide) rfl 2 (by decide) (hts _ (tw_c tw_18)) (pq_hv rfl hR_this_trial) dX11_cant_40 ?_
            refine pg_f (v := .int (I_719 323 this_trial)) (C := RX10) (T := TX10) (N := 13) hx hb hts (tw_i inlX10) hown hK hP hL_this_trial hK_this_trial (by decide) rfl 3 (by decide) (hts _ (tw_c tw_1405)) rfl dX11_cant_43 ?_
            replace hF := hF.trans (ap_n (vI_e (f := 323) hO_this_trial (by decide)))
            refine lv_iconst (v := (-1)) hx hb dX11_cant_46 (by decide) ?_
            refine lv_icmp_ne (tgt := 84) hx hb dX11_cant_47 (by decide) (fun c_829 => ?_) (fun c_829 => ?_)
            · replace hF := hF.trans (if_neg c_829)
              have tc_833 : (I_719 323 this_trial).toInt ≠ (-1) := fun q => c_829 (Int32.toInt_inj.mp q)
              exact K_817 _ _ _ hF hFr hG hP hD hS (lv_sub hl [0] rfl)
            · replace hF := hF.trans (if_pos c_829)
              have tc_834 : (I_719 323 this_trial).toInt = (-1) := congrArg Int32.toInt c_829
              have h_835 : rg (I_719 323 this_trial) (-1) (-1) := rg_and (rg_full _) (rg_of_eq c_829 (rg_k (-1 : Int32) (-1) rfl)) (by decide)
              have uh_835 := h_835.1
              have vh_835 := h_835.2
              refine lv_aload_n hx hb dX11_cant_50 rfl (lv_at hl 0 rfl) ?_
              refine pg_f (v := .ref this_trial) (C := RX11) (T := TX11) (N := 5) hx hb hts (tw_i inlX11) hown hK hP hL_this hK_this (by decide) rfl 2 (by decide) (hts _ (tw_c tw_18)) (pq_hv rfl hR_this_trial) dX11_cant_51 ?_
              refine lv_iload_n hx hb dX11_cant_54 rfl (lv_at hl 1 rfl) ?_
              refine pk_v (va_runV (As := [.int a0]) (rest := []) ⟨hx, hb, hml, hown, hts⟩ (s_X10_nature l D t σ I_719 J_720 ri_721 rj_722 rq_33 H.size tg hSH hG.1 this_trial a0 hL_this_trial hK_this_trial) (cwV 1 hts (tw_V tw_1395 tw_1048 tw_1049 tw_15 tw_1050) rfl rfl rfl cv_yX10_nature_1 ⟨Nat.le_of_ble_eq_true rfl, Nat.le_of_ble_eq_true rfl⟩) ⟨pq_blind, pq_recv hK hP hL_this_trial hK_this_trial (by decide) rfl, pq_pre hK hN hP hD⟩ rfl rfl hl.1 rfl (lv_room (Nat.le_of_ble_eq_true rfl)) dX11_cant_55 ⟨Nat.le_of_ble_eq_true rfl, Nat.le_of_ble_eq_true rfl⟩) hD hS hA (fun σ1 μ1 H locs hw_837 hP hD hS => ?_)
              obtain ⟨I_838, J_839, ri_840, rj_841, hu_842, hg_843, hfn_845, hfr_846⟩ := hw_837
              obtain ⟨hu_842a, hu_842b⟩ := Prod.mk.inj hu_842
              rw [hu_842a, hu_842b] at hP hD
              replace hF := hF.trans (bv_n hfn_845)
              replace hFr := fr_tr hFr hfr_846
              have hG := GX.tr hG hg_843 (by decide)
              have tt_847 : (I_838 320 this_trial).toInt = (I_719 320 this_trial).toInt := by rw [hg_843.2.1 320 (by decide) (by decide)]
              refine lv_aload_n hx hb dX11_cant_58 rfl (lv_at hl 0 rfl) ?_
              refine pg_f (v := .ref this_trial) (C := RX11) (T := TX11) (N := 5) hx hb hts (tw_i inlX11) hown hK hP hL_this hK_this (by decide) rfl 2 (by decide) (hts _ (tw_c tw_18)) (pq_hv rfl hR_this_trial) dX11_cant_59 ?_
              refine pk_v (va_runV (As := []) (rest := []) ⟨hx, hb, hml, hown, hts⟩ (s_X10_reckon l D t σ I_838 J_839 ri_840 rj_841 rq_33 H.size tg hSH hG.1 this_trial hL_this_trial hK_this_trial) (cwV 0 hts (tw_V tw_1406 tw_1126 tw_1127 tw_15 tw_1128) rfl rfl rfl cv_yX10_reckon_0 ⟨Nat.le_of_ble_eq_true rfl, Nat.le_of_ble_eq_true rfl⟩) ⟨pq_blind, pq_recv hK hP hL_this_trial hK_this_trial (by decide) rfl, pq_pre hK hN hP hD⟩ rfl rfl hl.1 rfl (lv_room (Nat.le_of_ble_eq_true rfl)) dX11_cant_62 ⟨Nat.le_of_ble_eq_true rfl, Nat.le_of_ble_eq_true rfl⟩) hD hS hA (fun σ1 μ1 H locs hw_849 hP hD hS => ?_)
              obtain ⟨I_850, ri_851, hu_852, hg_853, hfn_855, hfr_856⟩ := hw_849
              obtain ⟨hu_852a, hu_852b⟩ := Prod.mk.inj hu_852
              rw [hu_852a, hu_852b] at hP hD
              rw [fr_tI hFr hVT, fr_tR hFr hVT] at hfn_855
              replace hF := hF.trans (bv_n hfn_855)
              replace hFr := fr_tr hFr hfr_856
              have hG := GX.tr hG hg_853 (by decide)
              have tt_857 : (I_850 320 this_trial).toInt = (I_838 320 this_trial).toInt := by rw [hg_853.2.1 320 (by decide) (by decide)]
              refine lv_aload_n hx hb dX11_cant_65 rfl (lv_at hl 0 rfl) ?_
              refine pg_f (v := .ref this_trial) (C := RX11) (T := TX11) (N := 5) hx hb hts (tw_i inlX11) hown hK hP hL_this hK_this (by decide) rfl 2 (by decide) (hts _ (tw_c tw_18)) (pq_hv rfl hR_this_trial) dX11_cant_66 ?_
              refine lv_dup hx hb dX11_cant_69 rfl ?_
              refine pg_f (v := .int (I_850 320 this_trial)) (C := RX10) (T := TX10) (N := 13) hx hb hts (tw_i inlX10) hown hK hP hL_this_trial hK_this_trial (by decide) rfl 0 (by decide) (hts _ (tw_c tw_209)) rfl dX11_cant_70 ?_
              have h_858 : rg (I_850 320 this_trial) 0 600 := GX.rI hG 320 rfl
              have uh_858 := h_858.1
              have vh_858 := h_858.2
              replace hF := hF.trans (ap_n (vI_e (f := 320) hO_this_trial (by decide)))
              refine lv_iconst (v := 1) hx hb dX11_cant_73 (by decide) ?_
              refine lv_iadd hx hb dX11_cant_74 ?_
              refine lv_topi (fun x_860 ex_860 => ?_)
              replace hF := hF.trans (ap_n ex_860)
              have h_861 : rg x_860 1 601 := rg_of_eq ex_860 (rg_add h_858 (rg_k (1 : Int32) 1 rfl) (by decide))
              have uh_861 := h_861.1
              have vh_861 := h_861.2
              have tx_860 : (x_860).toInt = (I_850 320 this_trial).toInt + 1 := by rw [ex_860]; exact i_add_rg (a2 := (I_850 320 this_trial).toInt) (b2 := 1) rfl rfl h_858 (rg_k (1 : Int32) 1 rfl) (by decide)
              refine pp_i (v := x_860) (ty := .int) (C := RX10) (T := TX10) (N := 13) hx hb hts (tw_i inlX10) tyX10 tyX10_ok nmX10 hown hK hP hD hS hL_this_trial hK_this_trial (by decide) rfl 0 320 (by decide) (hts _ (tw_c tw_209)) rfl (tyX10_ok 0 (by decide)) rfl rfl (Nat.le_of_ble_eq_true rfl) (ps_320 _ _ _ _ _) dX11_cant_75 (fun I_862 H locs eI_862 hP hD hS => ?_)
              replace hFr := fr_I (f := 320) hFr hO_this_trial (by decide) eI_862
              replace hF := hF.trans (ap_n (vI_st (f := 320) hO_this_trial (by decide) eI_862))
              have h_863 : rg x_860 1 600 := ⟨by omega, by omega⟩
              have uh_863 := h_863.1
              have vh_863 := h_863.2
              have hG := GX.wI hG 320 rfl eI_862 (rg_w h_863 (by decide)) (by decide)
              have tt_864 : (I_862 320 this_trial).toInt = (x_860).toInt := by rw [eI_862, pq_us]
              obtain ⟨x_865, ex_865⟩ : ∃ y : Int32, y = x_718 + Int32.ofInt 1 := ⟨_, rfl⟩
              replace hF := hF.trans (ap_n ex_865)
              have h_866 : rg x_865 1 60 := rg_of_eq ex_865 (rg_add h_827 (rg_k (Int32.ofInt 1) 1 rfl) (by decide))
              have uh_866 := h_866.1
              have vh_866 := h_866.2
              have tx_865 : (x_865).toInt = (x_718).toInt + 1 := by rw [ex_865]; exact i_add_rg (a2 := (x_718).toInt) (b2 := 1) rfl rfl h_827 (rg_k (Int32.ofInt 1) 1 rfl) (by decide)
              refine lv_iinc (v := x_865) (lv' := [(3, .int x_865), (0, .ref this), (1, .int a0), (2, .int a1)]) hx hb dX11_cant_78 hl (k := 3) rfl ex_865.symm (by decide) rfl (fun ls hl => ?_)
              refine lv_goto (tgt := 34) hx hb dX11_cant_81 (by decide) ?_
              exact ih_770 x_865 I_862 J_839 ri_851 rj_841 _ _ _ (rg_w h_866 (by decide)) (by omega) (ms_up 1 hm_767 ex_865 rfl (by decide) h_827 (by decide) (by decide)) hF hFr hG hP hD hS (lv_sub hl [1, 2, 3, 0] rfl)
      exact L_769 _ (0 : Int32) I_41 J_30 ri_31 rj_32 _ _ _ (rg_w (rg_k (0 : Int32) 0 rfl) (by decide)) (by have k0 : (0 : Int32).toInt = 0 := rfl; omega) (Nat.lt_succ_self _) hF hFr hG hP hD hS (lv_sub hl [1, 2, 3, 0] rfl)
    · replace hF := hF.trans (if_pos c_9)
      have f_867 := (hr_5.resolve_left (fun q => absurd (q.1.symm.trans c_9) (by decide))).2
      have tc_868 : (x_1).toInt = 0 := congrArg Int32.toInt c_9
      have h_869 : rg x_1 0 0 := rg_and h_8 (rg_of_eq c_9 (rg_k (0 : Int32) 0 rfl)) (by decide)
      have uh_869 := h_869.1
      have vh_869 := h_869.2
      refine lv_iconst (v := (-1)) hx hb dX11_cant_11 (by decide) ?_
      subst hQ
      exact W.iret (v := (-1)) hx hb hr (fun t1 ht hW => ⟨⟨(-1), (σ, I, J, ri, rj, rq), rfl, ⟨I, J, ri, rj, rq, rfl, hG, (hF0.symm.trans hF), hFr⟩, by rw [ht]; exact hP, va_K.moved hW.alike hK, hD⟩, hS.F ht⟩) hS.2.2 dX11_cant_12
  exact go _ _ _ hP hD hS hl

set_option maxRecDepth 100000 in
def g_X11_keeps_K55 (I : Nat → Int32) (J : Nat → Int64) (ri : Nat → Nat → Int32) (rj : Nat → Nat → Int64) (rq : Nat → Nat → Option Nat) : Int32 × vM := ((-1000000 : Int32), I, J, ri, rj, rq)
set_option maxRecDepth 100000 in
theorem g_X11_keeps_K55_e {I : Nat → Int32} {J : Nat → Int64} {ri : Nat → Nat → Int32} {rj : Nat → Nat → Int64} {rq : Nat → Nat → Option Nat} : g_X11_keeps_K55 I J ri rj rq  = ((-1000000 : Int32), I, J, ri, rj, rq) := rfl
set_option maxRecDepth 100000 in
def g_X11_keeps_K33 (a0 : Int32) (a1 : Int32) (a3 : Int32) (I : Nat → Int32) (J : Nat → Int64) (ri : Nat → Nat → Int32) (rj : Nat → Nat → Int64) (rq : Nat → Nat → Option Nat) (nI : Nat → Int32) (nJ : Nat → Int64) (nR : Nat → Nat → Int32) (nL : Nat → Nat → Int64) (nQ : Nat → Nat → Option Nat) : Int32 × vM := (ap1 (nR 75 (a0).toNatClampNeg) fun (x_175 : Int32) => (if x_175 = (0 : Int32) then (g_X11_keeps_K55 I J ri rj rq ) else (bnV (g_X10_copyFrom nI nJ nR nL nQ I J ri rj rq) fun (I_180 : Nat → Int32) (J_181 : Nat → Int64) (ri_182 : Nat → Nat → Int32) (rj_183 : Nat → Nat → Int64) (rq_184 : Nat → Nat → Option Nat) => (bnI (g_X10_sandBehind a3 a1 I_180 J_181 ri_182 rj_183 rq_184) fun (x_191 : Int32) (I_193 : Nat → Int32) (_ : Nat → Int64) (ri_194 : Nat → Nat → Int32) (_ : Nat → Nat → Int64) (_ : Nat → Nat → Option Nat) => (bnV (g_X10_copyFrom nI nJ nR nL nQ I_193 J_181 ri_194 rj_183 rq_184) fun (I_202 : Nat → Int32) (J_203 : Nat → Int64) (ri_204 : Nat → Nat → Int32) (rj_205 : Nat → Nat → Int64) (rq_206 : Nat → Nat → Option Nat) => (ap1 (va_up ri_204 75 (upd (ri_204 75) (a0).toNatClampNeg (0 : Int32))) fun (r_215 : Nat → Nat → Int32) => (bnI (g_X10_sandBehind a3 a1 I_202 J_203 r_215 rj_205 rq_206) fun (x_216 : Int32) (I_218 : Nat → Int32) (_ : Nat → Int64) (ri_219 : Nat → Nat → Int32) (_ : Nat → Nat → Int64) (_ : Nat → Nat → Option Nat) => (ap1 (x_191 - x_216) fun (x_225 : Int32) => (x_225, I_218, J_203, ri_219, rj_205, rq_206)))))))))
set_option maxRecDepth 100000 in
theorem g_X11_keeps_K33_e {a0 : Int32} {a1 : Int32} {a3 : Int32} {I : Nat → Int32} {J : Nat → Int64} {ri : Nat → Nat → Int32} {rj : Nat → Nat → Int64} {rq : Nat → Nat → Option Nat} {nI : Nat → Int32} {nJ : Nat → Int64} {nR : Nat → Nat → Int32} {nL : Nat → Nat → Int64} {nQ : Nat → Nat → Option Nat} : g_X11_keeps_K33 a0 a1 a3 I J ri rj rq nI nJ nR nL nQ  = (ap1 (nR 75 (a0).toNatClampNeg) fun (x_175 : Int32) => (if x_175 = (0 : Int32) then (g_X11_keeps_K55 I J ri rj rq ) else (bnV (g_X10_copyFrom nI nJ nR nL nQ I J ri rj rq) fun (I_180 : Nat → Int32) (J_181 : Nat → Int64) (ri_182 : Nat → Nat → Int32) (rj_183 : Nat → Nat → Int64) (rq_184 : Nat → Nat → Option Nat) => (bnI (g_X10_sandBehind a3 a1 I_180 J_181 ri_182 rj_183 rq_184) fun (x_191 : Int32) (I_193 : Nat → Int32) (_ : Nat → Int64) (ri_194 : Nat → Nat → Int32) (_ : Nat → Nat → Int64) (_ : Nat → Nat → Option Nat) => (bnV (g_X10_copyFrom nI nJ nR nL nQ I_193 J_181 ri_194 rj_183 rq_184) fun (I_202 : Nat → Int32) (J_203 : Nat → Int64) (ri_204 : Nat → Nat → Int32) (rj_205 : Nat → Nat → Int64) (rq_206 : Nat → Nat → Option Nat) => (ap1 (va_up ri_204 75 (upd (ri_204 75) (a0).toNatClampNeg (0 : Int32))) fun (r_215 : Nat → Nat → Int32) => (bnI (g_X10_sandBehind a3 a1 I_202 J_203 r_215 rj_205 rq_206) fun (x_216 : Int32) (I_218 : Nat → Int32) (_ : Nat → Int64) (ri_219 : Nat → Nat → Int32) (_ : Nat → Nat → Int64) (_ : Nat → Nat → Option Nat) => (ap1 (x_191 - x_216) fun (x_225 : Int32) => (x_225, I_218, J_203, ri_219, rj_205, rq_206))))))))) := rfl
set_option maxRecDepth 100000 in
def g_X11_keeps_K55_2 (I : Nat → Int32) (J : Nat → Int64) (ri : Nat → Nat → Int32) (rj : Nat → Nat → Int64) (rq : Nat → Nat → Option Nat) : Int32 × vM := ((-1000000 : Int32), I, J, ri, rj, rq)
set_option maxRecDepth 100000 in
theorem g_X11_keeps_K55_2_e {I : Nat → Int32} {J : Nat → Int64} {ri : Nat → Nat → Int32} {rj : Nat → Nat → Int64} {rq : Nat → Nat → Option Nat} : g_X11_keeps_K55_2 I J ri rj rq  = ((-1000000 : Int32), I, J, ri, rj, rq) := rfl
set_option maxRecDepth 100000 in
def g_X11_keeps_K33_2 (I : Nat → Int32) (J : Nat → Int64) (ri : Nat → Nat → Int32) (rj : Nat → Nat → Int64) (rq : Nat → Nat → Option Nat) : Int32 × vM := (g_X11_keeps_K55_2 I J ri rj rq )
set_option maxRecDepth 100000 in
theorem g_X11_keeps_K33_2_e {I : Nat → Int32} {J : Nat → Int64} {ri : Nat → Nat → Int32} {rj : Nat → Nat → Int64} {rq : Nat → Nat → Option Nat} : g_X11_keeps_K33_2 I J ri rj rq  = (g_X11_keeps_K55_2 I J ri rj rq ) := rfl
set_option maxRecDepth 100000 in
def g_X11_keeps_K32 (I : Nat → Int32) (J : Nat → Int64) (ri : Nat → Nat → Int32) (rj : Nat → Nat → Int64) (rq : Nat → Nat → Option Nat) : Int32 × vM := (g_X11_keeps_K33_2 I J ri rj rq )
set_option maxRecDepth 100000 in
theorem g_X11_keeps_K32_e {I : Nat → Int32} {J : Nat → Int64} {ri : Nat → Nat → Int32} {rj : Nat → Nat → Int64} {rq : Nat → Nat → Option Nat} : g_X11_keeps_K32 I J ri rj rq  = (g_X11_keeps_K33_2 I J ri rj rq ) := rfl
set_option maxRecDepth 100000 in
def g_X11_keeps (nI : Nat → Int32) (nJ : Nat → Int64) (nR : Nat → Nat → Int32) (nL : Nat → Nat → Int64) (nQ : Nat → Nat → Option Nat) (a0 : Int32) (a1 : Int32) (a2 : Int32) (a3 : Int32) (I : Nat → Int32) (J : Nat → Int64) (ri : Nat → Nat → Int32) (rj : Nat → Nat → Int64) (rq : Nat → Nat → Option Nat) : Int32 × vM := (bnI (g_X11_isCell a0 nI nJ nR nL nQ) fun (x_1 : Int32) (_ : Nat → Int32) (_ : Nat → Int64) (_ : Nat → Nat → Int32) (_ : Nat → Nat → Int64) (_ : Nat → Nat → Option Nat) => (if x_1 = (0 : Int32) then (g_X11_keeps_K32 I J ri rj rq ) else (bnI (g_X11_isCell a1 nI nJ nR nL nQ) fun (x_241 : Int32) (_ : Nat → Int32) (_ : Nat → Int64) (_ : Nat → Nat → Int32) (_ : Nat → Nat → Int64) (_ : Nat → Nat → Option Nat) => (if x_241 = (0 : Int32) then (g_X11_keeps_K32 I J ri rj rq ) else (bnI (g_X11_canGoBy a2 a3 (60 : Int32) nI nJ nR nL nQ) fun (x_258 : Int32) (_ : Nat → Int32) (_ : Nat → Int64) (_ : Nat → Nat → Int32) (_ : Nat → Nat → Int64) (_ : Nat → Nat → Option Nat) => (if x_258 = (0 : Int32) then (g_X11_keeps_K32 I J ri rj rq ) else (g_X11_keeps_K33 a0 a1 a3 I J ri rj rq nI nJ nR nL nQ )))))))
set_option maxRecDepth 100000 in
theorem g_X11_keeps_e {nI : Nat → Int32} {nJ : Nat → Int64} {nR : Nat → Nat → Int32} {nL : Nat → Nat → Int64} {nQ : Nat → Nat → Option Nat} {a0 : Int32} {a1 : Int32} {a2 : Int32} {a3 : Int32} {I : Nat → Int32} {J : Nat → Int64} {ri : Nat → Nat → Int32} {rj : Nat → Nat → Int64} {rq : Nat → Nat → Option Nat} : g_X11_keeps nI nJ nR nL nQ a0 a1 a2 a3 I J ri rj rq = (bnI (g_X11_isCell a0 nI nJ nR nL nQ) fun (x_1 : Int32) (_ : Nat → Int32) (_ : Nat → Int64) (_ : Nat → Nat → Int32) (_ : Nat → Nat → Int64) (_ : Nat → Nat → Option Nat) => (if x_1 = (0 : Int32) then (g_X11_keeps_K32 I J ri rj rq ) else (bnI (g_X11_isCell a1 nI nJ nR nL nQ) fun (x_241 : Int32) (_ : Nat → Int32) (_ : Nat → Int64) (_ : Nat → Nat → Int32) (_ : Nat → Nat → Int64) (_ : Nat → Nat → Option Nat) => (if x_241 = (0 : Int32) then (g_X11_keeps_K32 I J ri rj rq ) else (bnI (g_X11_canGoBy a2 a3 (60 : Int32) nI nJ nR nL nQ) fun (x_258 : Int32) (_ : Nat → Int32) (_ : Nat → Int64) (_ : Nat → Nat → Int32) (_ : Nat → Nat → Int64) (_ : Nat → Nat → Option Nat) => (if x_258 = (0 : Int32) then (g_X11_keeps_K32 I J ri rj rq ) else (g_X11_keeps_K33 a0 a1 a3 I J ri rj rq nI nJ nR nL nQ ))))))) := rfl
set_option maxHeartbeats 4000000 in
set_option maxRecDepth 100000 in
theorem s_X11_keeps (l : Launch) (D : va_G) (t : pq_T) (σ : pq_S) (I : Nat → Nat → Int32) (J : Nat → Nat → Int64) (ri : Nat → Nat → Int32) (rj : Nat → Nat → Int64) (rq : Nat → Nat → Option Nat) (sz : Nat) (tg : Nat → Nat) (hSH : SH σ tg) (hG0 : GS tg σ I ri rq) (this : Nat) (a0 : Int32) (a1 : Int32) (a2 : Int32) (a3 : Int32) (hL_this : this ∈ σ.1) (hK_this : σ.2.1 this = 11) (this_now : Nat) (hR_this_now : σ.2.2.1 352 this = some this_now) (hL_this_now : this_now ∈ σ.1) (hK_this_now : σ.2.1 this_now = 10) (this_trial : Nat) (hR_this_trial : σ.2.2.1 354 this = some this_trial) (hL_this_trial : this_trial ∈ σ.1) (hK_this_trial : σ.2.1 this_trial = 10) (hap : AP 10 tg σ this_trial this_now) : MetI l yX11_keeps (wa yX11_keeps cX11_keeps 7 (some .int)) ({ frames := 5, cells := 0, slots := 0, locals := 144 }) [.ref this, .int a0, .int a1, .int a2, .int a3] D t σ (I, J, ri, rj, rq) sz 0 0 (fun (r : Int32) (u : pq_S × pq_M) => ∃ I' : Nat → Nat → Int32, ∃ J' : Nat → Nat → Int64, ∃ ri' : Nat → Nat → Int32, ∃ rj' : Nat → Nat → Int64, ∃ rq' : Nat → Nat → Option Nat, u = (σ, I', J', ri', rj', rq') ∧ GX [320, 321, 322, 323, 324, 1325, 224, 1225, 1226, 1227, 1228, 1229, 1230, 1231, 1232, 1233, 234, 235, 236, 237, 238, 64, 65, 1068, 1069, 1070, 1071, 1072, 1073, 1074, 1075, 1077, 1288, 1079, 0, 1001, 1002, 1003, 1004, 1005, 1009, 10, 1011, 96, 98, 1099, 1100, 1101, 32, 1033, 1034] tg σ I ri rj I' ri' rj' rq' ∧ g_X11_keeps (vI 10 σ this_now I) (vJ 10 σ this_now J) (vR 10 σ this_now ri) (vL 10 σ this_now rj) (vQ 10 σ this_now rq) a0 a1 a2 a3 (vI 10 σ this_trial I) (vJ 10 σ this_trial J) (vR 10 σ this_trial ri) (vL 10 σ this_trial rj) (vQ 10 σ this_trial rq) = (r, (vI 10 σ this_trial I'), (vJ 10 σ this_trial J'), (vR 10 σ this_trial ri'), (vL 10 σ this_trial rj'), (vQ 10 σ this_trial rq')) ∧ FR 10 tg σ this_trial (I, J, ri, rj, rq) (I', J', ri', rj', rq')) := by
  refine Met.ofW (cc := cX11_keeps) (maxL := 7) (ret := (some .int)) (by decide) rfl ?_
  intro p e s m args below meth c s₁ B hml hv
  obtain ⟨rfl, hsz, hP, hK, hD0, hN⟩ := hv
  have hx := B.exec
  have hb := B.bytes
  have hr := B.returns
  have hts := atoms_spec (ws := (wa yX11_keeps cX11_keeps 7 (some .int))) B.pre
  have hown : s.vm.findClass RX11 = some m.cls := findClass_of_methodNamed B.named
  have hlocks := B.notSynchronized
  subst hsz
  have hD : va_D (pq_B t σ (I, J, ri, rj, rq) s.heap.size) (pq_P t σ (I, J, ri, rj, rq)) := hD0.self
  generalize hAe : pq_B t σ (I, J, ri, rj, rq) s.heap.size = A at hD ⊢
  have hA : ∀ q : Nat, s.heap.size ≤ q → A q := fun q h => by rw [← hAe]; exact Or.inr h
  have hS : va_S A s.heap s.heap [] := va_S.rf
  have hG : GX [320, 321, 322, 323, 324, 1325, 224, 1225, 1226, 1227, 1228, 1229, 1230, 1231, 1232, 1233, 234, 235, 236, 237, 238, 64, 65, 1068, 1069, 1070, 1071, 1072, 1073, 1074, 1075, 1077, 1288, 1079, 0, 1001, 1002, 1003, 1004, 1005, 1009, 10, 1011, 96, 98, 1099, 1100, 1101, 32, 1033, 1034] tg σ I ri rj I ri rj rq := ⟨hG0, fun _ _ _ => rfl, fun _ _ _ _ _ => rfl, fun _ _ _ _ _ => rfl⟩
  have hl := lv_entry ([.ref this, .int a0, .int a1, .int a2, .int a3]) (n := 7) (Nat.le_of_ble_eq_true rfl)
  rw [lg_entry_eq]
  generalize (lg_sl ([.ref this, .int a0, .int a1, .int a2, .int a3]) ++ List.replicate (7 - (lg_sl ([.ref this, .int a0, .int a1, .int a2, .int a3])).length) Slot.unset).toArray = ls at hl ⊢
  have hl : lv_has ls 7 [(0, .ref this), (1, .int a0), (2, .int a1), (3, .int a2), (4, .int a3)] := hl
  refine q_gen (fun Q hQ => ?_)
  have go : ∀ (H : Heap) (locs : List Loc) (ls : Array Slot), va_P D vwCl (pq_P t σ (I, J, ri, rj, rq)) H → va_D A (pq_P t σ (I, J, ri, rj, rq)) → va_S A s.heap H locs → lv_has ls 7 [(0, .ref this), (1, .int a0), (2, .int a1), (3, .int a2), (4, .int a3)] → W p l e ({ frames := 5, cells := 0, slots := 0, locals := 144 } : Room) s m (List.toArray ([.ref this, .int a0, .int a1, .int a2, .int a3] : List Value)) below meth c H locs 0 0 Q (F0 m 0 ls []) := by
    intro H locs ls hP hD hS hl
    have hVT : VT 10 σ tg this_trial := vt_10 hSH hL_this_trial hK_this_trial
    have hFr : FR 10 tg σ this_trial (I, J, ri, rj, rq) (I, J, ri, rj, rq) := fr_rf
    have hO_this_now : this_now = vo σ 10 this_now := rfl
    have hO_this_trial : this_trial = vo σ 10 this_trial := rfl
    obtain ⟨F, hF0⟩ : ∃ F, F = g_X11_keeps (vI 10 σ this_now I) (vJ 10 σ this_now J) (vR 10 σ this_now ri) (vL 10 σ this_now rj) (vQ 10 σ this_now rq) a0 a1 a2 a3 (vI 10 σ this_trial I) (vJ 10 σ this_trial J) (vR 10 σ this_trial ri) (vL 10 σ this_trial rj) (vQ 10 σ this_trial rq) := ⟨_, rfl⟩
    have hF := hF0.trans g_X11_keeps_e
    refine lv_aload_n hx hb dX11_keeps_0 rfl (lv_at hl 0 rfl) ?_
    refine lv_iload_n hx hb dX11_keeps_1 rfl (lv_at hl 1 rfl) ?_
    refine pk_i (va_runV (As := [.int a0]) (rest := []) ⟨hx, hb, hml, hown, hts⟩ (s_X11_isCell l D t σ I J ri rj rq H.size tg hSH hG.1 this a0 hL_this hK_this this_now hR_this_now hL_this_now hK_this_now) (cwV 1 hts (tw_V tw_332 tw_333 tw_334 tw_2 tw_335) rfl rfl rfl cv_yX11_isCell_1 ⟨Nat.le_of_ble_eq_true rfl, Nat.le_of_ble_eq_true rfl⟩) ⟨pq_blind, pq_recv hK hP hL_this hK_this (by decide) rfl, pq_pre hK hN hP hD⟩ rfl rfl hl.1 rfl (lv_room (Nat.le_of_ble_eq_true rfl)) dX11_keeps_2 ⟨Nat.le_of_ble_eq_true rfl, Nat.le_of_ble_eq_true rfl⟩) hD hS hA (fun x_1 σ1 μ1 H locs hw_2 hP hD hS => ?_)
    obtain ⟨hu_3, hfn_6, hr_5⟩ := hw_2
    obtain ⟨hu_3a, hu_3b⟩ := Prod.mk.inj hu_3
    rw [hu_3a, hu_3b] at hP hD
    rw [fr_cI hFr hap, fr_cJ hFr hap, fr_cR hFr hap, fr_cL hFr hap, fr_cQ hFr hap] at hfn_6
    replace hF := hF.trans (bn_n hfn_6)
    have h_8 : rg x_1 0 1 := by rcases hr_5 with ⟨q, -⟩ | ⟨q, -⟩ <;> rw [q] <;> exact ⟨by decide, by decide⟩
    have K_104 : ∀  (H : Heap) (locs : List Loc) (ls : Array Slot), rg (a0) 0 39 → rg (a1) 0 39 → rg (a2) 0 2 → rg (a3) 1 60 → rg (x_1) 1 1 → ((I 320 this_now).toInt + a3.toInt ≤ 600) → F = g_X11_keeps_K33 a0 a1 a3 (vI 10 σ this_trial I) (vJ 10 σ this_trial J) (vR 10 σ this_trial ri) (vL 10 σ this_trial rj) (vQ 10 σ this_trial rq) (vI 10 σ this_now I) (vJ 10 σ this_now J) (vR 10 σ this_now ri) (vL 10 σ this_now rj) (vQ 10 σ this_now rq)  → FR 10 tg σ this_trial (I, J, ri, rj, rq) (I, J, ri, rj, rq) → GX [320, 321, 322, 323, 324, 1325, 224, 1225, 1226, 1227, 1228, 1229, 1230, 1231, 1232, 1233, 234, 235, 236, 237, 238, 64, 65, 1068, 1069, 1070, 1071, 1072, 1073, 1074, 1075, 1077, 1288, 1079, 0, 1001, 1002, 1003, 1004, 1005, 1009, 10, 1011, 96, 98, 1099, 1100, 1101, 32, 1033, 1034] tg σ I ri rj I ri rj rq → va_P D vwCl (pq_P t σ (I, J, ri, rj, rq)) H → va_D A (pq_P t σ (I, J, ri, rj, rq)) → va_S A s.heap H locs → lv_has ls 7 [(0, .ref this), (1, .int a0), (2, .int a1), (4, .int a3)] → W p l e ({ frames := 5, cells := 0, slots := 0, locals := 144 } : Room) s m (List.toArray ([.ref this, .int a0, .int a1, .int a2, .int a3] : List Value)) below meth c H locs 0 0 Q (F0 m 33 ls [.int 1]) := by
      intro H locs ls h_111 h_112 h_113 h_114 h_115 hw_116 hF hFr hG hP hD hS hl
      replace hF := hF.trans g_X11_keeps_K33_e
      refine lv_istore (lv' := [(5, .int 1), (0, .ref this), (1, .int a0), (2, .int a1), (4, .int a3)]) hx hb dX11_keeps_33 hl (by decide) rfl (fun ls hl => ?_)
      refine lv_iload hx hb dX11_keeps_35 (lv_at hl 0 rfl) ?_
      have K_171 : ∀  (H : Heap) (locs : List Loc) (ls : Array Slot), F = g_X11_keeps_K55 (vI 10 σ this_trial I) (vJ 10 σ this_trial J) (vR 10 σ this_trial ri) (vL 10 σ this_trial rj) (vQ 10 σ this_trial rq)  → FR 10 tg σ this_trial (I, J, ri, rj, rq) (I, J, ri, rj, rq) → GX [320, 321, 322, 323, 324, 1325, 224, 1225, 1226, 1227, 1228, 1229, 1230, 1231, 1232, 1233, 234, 235, 236, 237, 238, 64, 65, 1068, 1069, 1070, 1071, 1072, 1073, 1074, 1075, 1077, 1288, 1079, 0, 1001, 1002, 1003, 1004, 1005, 1009, 10, 1011, 96, 98, 1099, 1100, 1101, 32, 1033, 1034] tg σ I ri rj I ri rj rq → va_P D vwCl (pq_P t σ (I, J, ri, rj, rq)) H → va_D A (pq_P t σ (I, J, ri, rj, rq)) → va_S A s.heap H locs → lv_has ls 7 [] → W p l e ({ frames := 5, cells := 0, slots := 0, locals := 144 } : Room) s m (List.toArray ([.ref this, .int a0, .int a1, .int a2, .int a3] : List Value)) below meth c H locs 0 0 Q (F0 m 55 ls []) := by
        intro H locs ls hF hFr hG hP hD hS hl
        replace hF := hF.trans g_X11_keeps_K55_e
        refine lv_ldc hx hb hown (hts _ (tw_c tw_269)) dX11_keeps_55 ?_
        subst hQ
        exact W.iret (v := (-1000000)) hx hb hr (fun t1 ht hW => ⟨⟨(-1000000), (σ, I, J, ri, rj, rq), rfl, ⟨I, J, ri, rj, rq, rfl, hG, (hF0.symm.trans hF), hFr⟩, by rw [ht]; exact hP, va_K.moved hW.alike hK, hD⟩, hS.F ht⟩) hS.2.2 dX11_keeps_57
      refine lv_if_eq (tgt := 55) hx hb dX11_keeps_37 (by decide) (fun c_172 => absurd c_172 (by decide)) (fun c_172 => ?_)
      refine lv_aload_n hx hb dX11_keeps_40 rfl (lv_at hl 1 rfl) ?_
      refine pg_f (v := .ref this_now) (C := RX11) (T := TX11) (N := 5) hx hb hts (tw_i inlX11) hown hK hP hL_this hK_this (by decide) rfl 0 (by decide) (hts _ (tw_c tw_16)) (pq_hv rfl hR_this_now) dX11_keeps_41 ?_
      obtain ⟨w_173, hR_w_173, hL_w_173, hK_w_173⟩ := sh_o hSH 327 (ci := 10) (kd := 2) rfl hL_this_now hK_this_now
      have hO_w_173 : w_173 = vo σ 2 this_now := vo_k (c := 10) hO_this_now hR_w_173
      refine pg_f (v := .ref w_173) (C := RX10) (T := TX10) (N := 13) hx hb hts (tw_i inlX10) hown hK hP hL_this_now hK_this_now (by decide) rfl 7 (by decide) (hts _ (tw_c tw_199)) (pq_hv rfl hR_w_173) dX11_keeps_44 ?_
      obtain ⟨w_174, hR_w_174, hL_w_174, hK_w_174, hN_w_174, hT_w_174⟩ := sh_a hSH 75 (ci := 2) (kd := 13) (len := 40) rfl (by decide) hL_w_173 hK_w_173
      have hO_w_174 : w_174 = vrow σ 75 this_now := vo_k (c := 2) hO_w_173 hR_w_174
      refine pg_f (v := .ref w_174) (C := RX2) (T := TX2) (N := 20) hx hb hts (tw_i inlX2) hown hK hP hL_w_173 hK_w_173 (by decide) rfl 11 (by decide) (hts _ (tw_c tw_331)) (pq_hv rfl hR_w_174) dX11_keeps_47 ?_
      refine lv_iload_n hx hb dX11_keeps_50 rfl (lv_at hl 2 rfl) ?_
      refine pl_i hx hb hK hP hL_w_174 hK_w_174 hN_w_174 (rg_in h_111 (by decide)) dX11_keeps_51 ?_
      refine lv_topi (fun x_175 ex_175 => ?_)
      replace hF := hF.trans (ap_n (cR_r hFr hap hO_w_174 (by decide) ex_175))
      refine lv_if_ne (tgt := 58) hx hb dX11_keeps_52 (by decide) (fun c_176 => ?_) (fun c_176 => ?_)
      · replace hF := hF.trans (if_neg c_176)
        refine lv_aload_n hx hb dX11_keeps_58 rfl (lv_at hl 1 rfl) ?_
        refine pg_f (v := .ref this_trial) (C := RX11) (T := TX11) (N := 5) hx hb hts (tw_i inlX11) hown hK hP hL_this hK_this (by decide) rfl 2 (by decide) (hts _ (tw_c tw_18)) (pq_hv rfl hR_this_trial) dX11_keeps_59 ?_
        refine lv_aload_n hx hb dX11_keeps_62 rfl (lv_at hl 1 rfl) ?_
        refine pg_f (v := .ref this_now) (C := RX11) (T := TX11) (N := 5) hx hb hts (tw_i inlX11) hown hK hP hL_this hK_this (by decide) rfl 0 (by decide) (hts _ (tw_c tw_16)) (pq_hv rfl hR_this_now) dX11_keeps_63 ?_
        refine pk_v (va_runV (As := [.ref this_now]) (rest := []) ⟨hx, hb, hml, hown, hts⟩ (s_X10_copyFrom l D t σ I J ri rj rq H.size tg hSH hG.1 this_trial this_now hL_this_trial hK_this_trial hL_this_now hK_this_now hap) (cwV 1 hts (tw_V tw_1362 tw_1363 tw_1364 tw_15 tw_1365) rfl rfl rfl cv_yX10_copyFrom_1 ⟨Nat.le_of_ble_eq_true rfl, Nat.le_of_ble_eq_true rfl⟩) ⟨pq_blind, pq_recv hK hP hL_this_trial hK_this_trial (by decide) rfl, pq_pre hK hN hP hD⟩ rfl rfl hl.1 rfl (lv_room (Nat.le_of_ble_eq_true rfl)) dX11_keeps_66 ⟨Nat.le_of_ble_eq_true rfl, Nat.le_of_ble_eq_true rfl⟩) hD hS hA (fun σ1 μ1 H locs hw_179 hP hD hS => ?_)
        obtain ⟨I_180, J_181, ri_182, rj_183, rq_184, hu_185, hg_186, hp_188, hfn_189, hfr_190⟩ := hw_179
        obtain ⟨hu_185a, hu_185b⟩ := Prod.mk.inj hu_185
        rw [hu_185a, hu_185b] at hP hD
        replace hF := hF.trans (bv_n hfn_189)
        replace hFr := fr_tr hFr hfr_190
        have hG := GX.tr hG hg_186 (by decide)
        refine lv_aload_n hx hb dX11_keeps_69 rfl (lv_at hl 1 rfl) ?_
        refine pg_f (v := .ref this_trial) (C := RX11) (T := TX11) (N := 5) hx hb hts (tw_i inlX11) hown hK hP hL_this hK_this (by decide) rfl 2 (by decide) (hts _ (tw_c tw_18)) (pq_hv rfl hR_this_trial) dX11_keeps_70 ?_
        refine lv_iload hx hb dX11_keeps_73 (lv_at hl 4 rfl) ?_
        refine lv_iload_n hx hb dX11_keeps_75 rfl (lv_at hl 3 rfl) ?_
        refine pk_i (va_runV (As := [.int a3, .int a1]) (rest := []) ⟨hx, hb, hml, hown, hts⟩ (s_X10_sandBehind l D t σ I_180 J_181 ri_182 rj_183 rq_184 H.size tg hSH hG.1 this_trial a3 a1 hL_this_trial hK_this_trial (rg_w h_114 (by decide)) (rg_w h_112 (by decide))) (cwV 2 hts (tw_V tw_1415 tw_1416 tw_1417 tw_15 tw_1418) rfl rfl rfl cv_yX10_sandBehind_2 ⟨Nat.le_of_ble_eq_true rfl, Nat.le_of_ble_eq_true rfl⟩) ⟨pq_blind, pq_recv hK hP hL_this_trial hK_this_trial (by decide) rfl, pq_pre hK hN hP hD⟩ rfl rfl hl.1 rfl (lv_room (Nat.le_of_ble_eq_true rfl)) dX11_keeps_76 ⟨Nat.le_of_ble_eq_true rfl, Nat.le_of_ble_eq_true rfl⟩) hD hS hA (fun x_191 σ1 μ1 H locs hw_192 hP hD hS => ?_)
        obtain ⟨I_193, ri_194, hu_195, hg_196, hfn_198, hfr_199⟩ := hw_192
        obtain ⟨hu_195a, hu_195b⟩ := Prod.mk.inj hu_195
        rw [hu_195a, hu_195b] at hP hD
        replace hF := hF.trans (bn_n hfn_198)
        replace hFr := fr_tr hFr hfr_199
        have hG := GX.tr hG hg_196 (by decide)
        refine lv_istore (lv' := [(6, .int x_191), (5, .int 1), (0, .ref this), (1, .int a0), (2, .int a1), (4, .int a3)]) hx hb dX11_keeps_79 hl (by decide) rfl (fun ls hl => ?_)
        refine lv_aload_n hx hb dX11_keeps_81 rfl (lv_at hl 2 rfl) ?_
        refine pg_f (v := .ref this_trial) (C := RX11) (T := TX11) (N := 5) hx hb hts (tw_i inlX11) hown hK hP hL_this hK_this (by decide) rfl 2 (by decide) (hts _ (tw_c tw_18)) (pq_hv rfl hR_this_trial) dX11_keeps_82 ?_
        refine lv_aload_n hx hb dX11_keeps_85 rfl (lv_at hl 2 rfl) ?_
        refine pg_f (v := .ref this_now) (C := RX11) (T := TX11) (N := 5) hx hb hts (tw_i inlX11) hown hK hP hL_this hK_this (by decide) rfl 0 (by decide) (hts _ (tw_c tw_16)) (pq_hv rfl hR_this_now) dX11_keeps_86 ?_
        refine pk_v (va_runV (As := [.ref this_now]) (rest := []) ⟨hx, hb, hml, hown, hts⟩ (s_X10_copyFrom l D t σ I_193 J_181 ri_194 rj_183 rq_184 H.size tg hSH hG.1 this_trial this_now hL_this_trial hK_this_trial hL_this_now hK_this_now hap) (cwV 1 hts (tw_V tw_1362 tw_1363 tw_1364 tw_15 tw_1365) rfl rfl rfl cv_yX10_copyFrom_1 ⟨Nat.le_of_ble_eq_true rfl, Nat.le_of_ble_eq_true rfl⟩) ⟨pq_blind, pq_recv hK hP hL_this_trial hK_this_trial (by decide) rfl, pq_pre hK hN hP hD⟩ rfl rfl hl.1 rfl (lv_room (Nat.le_of_ble_eq_true rfl)) dX11_keeps_89 ⟨Nat.le_of_ble_eq_true rfl, Nat.le_of_ble_eq_true rfl⟩) hD hS hA (fun σ1 μ1 H locs hw_201 hP hD hS => ?_)
        obtain ⟨I_202, J_203, ri_204, rj_205, rq_206, hu_207, hg_208, hp_210, hfn_211, hfr_212⟩ := hw_201
        obtain ⟨hu_207a, hu_207b⟩ := Prod.mk.inj hu_207
        rw [hu_207a, hu_207b] at hP hD
        rw [fr_cI hFr hap, fr_cJ hFr hap, fr_cR hFr hap, fr_cL hFr hap, fr_cQ hFr hap] at hfn_211
        replace hF := hF.trans (bv_n hfn_211)
        replace hFr := fr_tr hFr hfr_212
        have hG := GX.tr hG hg_208 (by decide)
        refine lv_aload_n hx hb dX11_keeps_92 rfl (lv_at hl 2 rfl) ?_
        refine pg_f (v := .ref this_trial) (C := RX11) (T := TX11) (N := 5) hx hb hts (tw_i inlX11) hown hK hP hL_this hK_this (by decide) rfl 2 (by decide) (hts _ (tw_c tw_18)) (pq_hv rfl hR_this_trial) dX11_keeps_93 ?_
        obtain ⟨w_213, hR_w_213, hL_w_213, hK_w_213⟩ := sh_o hSH 327 (ci := 10) (kd := 2) rfl hL_this_trial hK_this_trial
        have hO_w_213 : w_213 = vo σ 2 this_trial := vo_k (c := 10) hO_this_trial hR_w_213
        refine pg_f (v := .ref w_213) (C := RX10) (T := TX10) (N := 13) hx hb hts (tw_i inlX10) hown hK hP hL_this_trial hK_this_trial (by decide) rfl 7 (by decide) (hts _ (tw_c tw_199)) (pq_hv rfl hR_w_213) dX11_keeps_96 ?_
        obtain ⟨w_214, hR_w_214, hL_w_214, hK_w_214, hN_w_214, hT_w_214⟩ := sh_a hSH 75 (ci := 2) (kd := 13) (len := 40) rfl (by decide) hL_w_213 hK_w_213
        have hO_w_214 : w_214 = vrow σ 75 this_trial := vo_k (c := 2) hO_w_213 hR_w_214
        refine pg_f (v := .ref w_214) (C := RX2) (T := TX2) (N := 20) hx hb hts (tw_i inlX2) hown hK hP hL_w_213 hK_w_213 (by decide) rfl 11 (by decide) (hts _ (tw_c tw_331)) (pq_hv rfl hR_w_214) dX11_keeps_99 ?_
        refine lv_iload_n hx hb dX11_keeps_102 rfl (lv_at hl 3 rfl) ?_
        refine lv_iconst (v := 0) hx hb dX11_keeps_103 (by decide) ?_
        refine pt_i hx hb hK hP hD hS hL_w_214 hK_w_214 hN_w_214 (rg_in h_111 (by decide)) dX11_keeps_104 (fun r_215 H locs er_215 hP hD hS => ?_)
        replace hFr := fr_R hFr hO_w_214 (by decide) er_215
        replace hF := hF.trans (ap_n (vR_st hVT hO_w_214 (by decide) er_215))
        have hG := GX.wR hG hSH hT_w_214 rfl er_215 (rg_w (rg_k (0 : Int32) 0 rfl) (by decide)) (by decide)
        refine lv_iload hx hb dX11_keeps_105 (lv_at hl 0 rfl) ?_
        refine lv_aload_n hx hb dX11_keeps_107 rfl (lv_at hl 2 rfl) ?_
        refine pg_f (v := .ref this_trial) (C := RX11) (T := TX11) (N := 5) hx hb hts (tw_i inlX11) hown hK hP hL_this hK_this (by decide) rfl 2 (by decide) (hts _ (tw_c tw_18)) (pq_hv rfl hR_this_trial) dX11_keeps_108 ?_
        refine lv_iload hx hb dX11_keeps_111 (lv_at hl 5 rfl) ?_
        refine lv_iload_n hx hb dX11_keeps_113 rfl (lv_at hl 4 rfl) ?_
        refine pk_i (va_runV (As := [.int a3, .int a1]) (rest := [.int x_191]) ⟨hx, hb, hml, hown, hts⟩ (s_X10_sandBehind l D t σ I_202 J_203 r_215 rj_205 rq_206 H.size tg hSH hG.1 this_trial a3 a1 hL_this_trial hK_this_trial (rg_w h_114 (by decide)) (rg_w h_112 (by decide))) (cwV 2 hts (tw_V tw_1415 tw_1416 tw_1417 tw_15 tw_1418) rfl rfl rfl cv_yX10_sandBehind_2 ⟨Nat.le_of_ble_eq_true rfl, Nat.le_of_ble_eq_true rfl⟩) ⟨pq_blind, pq_recv hK hP hL_this_trial hK_this_trial (by decide) rfl, pq_pre hK hN hP hD⟩ rfl rfl hl.1 rfl (lv_room (Nat.le_of_ble_eq_true rfl)) dX11_keeps_114 ⟨Nat.le_of_ble_eq_true rfl, Nat.le_of_ble_eq_true rfl⟩) hD hS hA (fun x_216 σ1 μ1 H locs hw_217 hP hD hS => ?_)
        obtain ⟨I_218, ri_219, hu_220, hg_221, hfn_223, hfr_224⟩ := hw_217
        obtain ⟨hu_220a, hu_220b⟩ := Prod.mk.inj hu_220
        rw [hu_220a, hu_220b] at hP hD
        replace hF := hF.trans (bn_n hfn_223)
        replace hFr := fr_tr hFr hfr_224
        have hG := GX.tr hG hg_221 (by decide)
        refine lv_isub hx hb dX11_keeps_117 ?_
        refine lv_topi (fun x_225 ex_225 => ?_)
        replace hF := hF.trans (ap_n ex_225)
        subst hQ
        exact W.iret (v := x_225) hx hb hr (fun t1 ht hW => ⟨⟨x_225, (σ, I_218, J_203, ri_219, rj_205, rq_206), rfl, ⟨I_218, J_203, ri_219, rj_205, rq_206, rfl, hG, (hF0.symm.trans hF), hFr⟩, by rw [ht]; exact hP, va_K.moved hW.alike hK, hD⟩, hS.F ht⟩) hS.2.2 dX11_keeps_118
      · replace hF := hF.trans (if_pos c_176)
        have h_226 : rg x_175 0 0 := rg_and (rg_full _) (rg_of_eq c_176 (rg_k (0 : Int32) 0 rfl)) (by decide)
        exact K_171 _ _ _ hF hFr hG hP hD hS (lv_sub hl [] rfl)
    have K_227 : ∀  (H : Heap) (locs : List Loc) (ls : Array Slot), F = g_X11_keeps_K33_2 (vI 10 σ this_trial I) (vJ 10 σ this_trial J) (vR 10 σ this_trial ri) (vL 10 σ this_trial rj) (vQ 10 σ this_trial rq)  → FR 10 tg σ this_trial (I, J, ri, rj, rq) (I, J, ri, rj, rq) → GX [320, 321, 322, 323, 324, 1325, 224, 1225, 1226, 1227, 1228, 1229, 1230, 1231, 1232, 1233, 234, 235, 236, 237, 238, 64, 65, 1068, 1069, 1070, 1071, 1072, 1073, 1074, 1075, 1077, 1288, 1079, 0, 1001, 1002, 1003, 1004, 1005, 1009, 10, 1011, 96, 98, 1099, 1100, 1101, 32, 1033, 1034] tg σ I ri rj I ri rj rq → va_P D vwCl (pq_P t σ (I, J, ri, rj, rq)) H → va_D A (pq_P t σ (I, J, ri, rj, rq)) → va_S A s.heap H locs → lv_has ls 7 [(0, .ref this), (1, .int a0), (2, .int a1), (4, .int a3)] → W p l e ({ frames := 5, cells := 0, slots := 0, locals := 144 } : Room) s m (List.toArray ([.ref this, .int a0, .int a1, .int a2, .int a3] : List Value)) below meth c H locs 0 0 Q (F0 m 33 ls [.int 0]) := by
      intro H locs ls hF hFr hG hP hD hS hl
      replace hF := hF.trans g_X11_keeps_K33_2_e
      refine lv_istore (lv' := [(5, .int 0), (0, .ref this), (1, .int a0), (2, .int a1), (4, .int a3)]) hx hb dX11_keeps_33 hl (by decide) rfl (fun ls hl => ?_)
      refine lv_iload hx hb dX11_keeps_35 (lv_at hl 0 rfl) ?_
      have K_229 : ∀  (H : Heap) (locs : List Loc) (ls : Array Slot), F = g_X11_keeps_K55_2 (vI 10 σ this_trial I) (vJ 10 σ this_trial J) (vR 10 σ this_trial ri) (vL 10 σ this_trial rj) (vQ 10 σ this_trial rq)  → FR 10 tg σ this_trial (I, J, ri, rj, rq) (I, J, ri, rj, rq) → GX [320, 321, 322, 323, 324, 1325, 224, 1225, 1226, 1227, 1228, 1229, 1230, 1231, 1232, 1233, 234, 235, 236, 237, 238, 64, 65, 1068, 1069, 1070, 1071, 1072, 1073, 1074, 1075, 1077, 1288, 1079, 0, 1001, 1002, 1003, 1004, 1005, 1009, 10, 1011, 96, 98, 1099, 1100, 1101, 32, 1033, 1034] tg σ I ri rj I ri rj rq → va_P D vwCl (pq_P t σ (I, J, ri, rj, rq)) H → va_D A (pq_P t σ (I, J, ri, rj, rq)) → va_S A s.heap H locs → lv_has ls 7 [] → W p l e ({ frames := 5, cells := 0, slots := 0, locals := 144 } : Room) s m (List.toArray ([.ref this, .int a0, .int a1, .int a2, .int a3] : List Value)) below meth c H locs 0 0 Q (F0 m 55 ls []) := by
        intro H locs ls hF hFr hG hP hD hS hl
        replace hF := hF.trans g_X11_keeps_K55_2_e
        refine lv_ldc hx hb hown (hts _ (tw_c tw_269)) dX11_keeps_55 ?_
        subst hQ
        exact W.iret (v := (-1000000)) hx hb hr (fun t1 ht hW => ⟨⟨(-1000000), (σ, I, J, ri, rj, rq), rfl, ⟨I, J, ri, rj, rq, rfl, hG, (hF0.symm.trans hF), hFr⟩, by rw [ht]; exact hP, va_K.moved hW.alike hK, hD⟩, hS.F ht⟩) hS.2.2 dX11_keeps_57
      refine lv_if_eq (tgt := 55) hx hb dX11_keeps_37 (by decide) (fun c_230 => ?_) (fun c_230 => absurd c_230 (by decide))
      exact K_229 _ _ _ hF hFr hG hP hD hS (lv_sub hl [] rfl)
    have K_231 : ∀  (H : Heap) (locs : List Loc) (ls : Array Slot), F = g_X11_keeps_K32 (vI 10 σ this_trial I) (vJ 10 σ this_trial J) (vR 10 σ this_trial ri) (vL 10 σ this_trial rj) (vQ 10 σ this_trial rq)  → FR 10 tg σ this_trial (I, J, ri, rj, rq) (I, J, ri, rj, rq) → GX [320, 321, 322, 323, 324, 1325, 224, 1225, 1226, 1227, 1228, 1229, 1230, 1231, 1232, 1233, 234, 235, 236, 237, 238, 64, 65, 1068, 1069, 1070, 1071, 1072, 1073, 1074, 1075, 1077, 1288, 1079, 0, 1001, 1002, 1003, 1004, 1005, 1009, 10, 1011, 96, 98, 1099, 1100, 1101, 32, 1033, 1034] tg σ I ri rj I ri rj rq → va_P D vwCl (pq_P t σ (I, J, ri, rj, rq)) H → va_D A (pq_P t σ (I, J, ri, rj, rq)) → va_S A s.heap H locs → lv_has ls 7 [(0, .ref this), (1, .int a0), (2, .int a1), (4, .int a3)] → W p l e ({ frames := 5, cells := 0, slots := 0, locals := 144 } : Room) s m (List.toArray ([.ref this, .int a0, .int a1, .int a2, .int a3] : List Value)) below meth c H locs 0 0 Q (F0 m 32 ls []) := by
      intro H locs ls hF hFr hG hP hD hS hl
      replace hF := hF.trans g_X11_keeps_K32_e
      refine lv_iconst (v := 0) hx hb dX11_keeps_32 (by decide) ?_
      exact K_227 _ _ _ hF hFr hG hP hD hS (lv_sub hl [0, 1, 2, 3] rfl)
    refine lv_if_eq (tgt := 32) hx hb dX11_keeps_5 (by decide) (fun c_232 => ?_) (fun c_232 => ?_)
    · replace hF := hF.trans (if_pos c_232)
      have f_237 := (hr_5.resolve_left (fun q => absurd (q.1.symm.trans c_232) (by decide))).2
      have h_238 : rg x_1 0 0 := rg_and h_8 (rg_of_eq c_232 (rg_k (0 : Int32) 0 rfl)) (by decide)
      exact K_231 _ _ _ hF hFr hG hP hD hS (lv_sub hl [0, 1, 2, 4] rfl)
    · replace hF := hF.trans (if_neg c_232)
      have f_239 := (hr_5.resolve_right (fun q => c_232 q.1)).2
      have h_240 : rg x_1 1 1 := rg_ne c_232 h_8 0 rfl (by decide)
      refine lv_aload_n hx hb dX11_keeps_8 rfl (lv_at hl 0 rfl) ?_
      refine lv_iload_n hx hb dX11_keeps_9 rfl (lv_at hl 2 rfl) ?_
      refine pk_i (va_runV (As := [.int a1]) (rest := []) ⟨hx, hb, hml, hown, hts⟩ (s_X11_isCell l D t σ I J ri rj rq H.size tg hSH hG.1 this a1 hL_this hK_this this_now hR_this_now hL_this_now hK_this_now) (cwV 1 hts (tw_V tw_332 tw_333 tw_334 tw_2 tw_335) rfl rfl rfl cv_yX11_isCell_1 ⟨Nat.le_of_ble_eq_true rfl, Nat.le_of_ble_eq_true rfl⟩) ⟨pq_blind, pq_recv hK hP hL_this hK_this (by decide) rfl, pq_pre hK hN hP hD⟩ rfl rfl hl.1 rfl (lv_room (Nat.le_of_ble_eq_true rfl)) dX11_keeps_10 ⟨Nat.le_of_ble_eq_true rfl, Nat.le_of_ble_eq_true rfl⟩) hD hS hA (fun x_241 σ1 μ1 H locs hw_242 hP hD hS => ?_)
      obtain ⟨hu_243, hfn_246, hr_245⟩ := hw_242
      obtain ⟨hu_243a, hu_243b⟩ := Prod.mk.inj hu_243
      rw [hu_243a, hu_243b] at hP hD
      rw [fr_cI hFr hap, fr_cJ hFr hap, fr_cR hFr hap, fr_cL hFr hap, fr_cQ hFr hap] at hfn_246
      replace hF := hF.trans (bn_n hfn_246)
      have h_248 : rg x_241 0 1 := by rcases hr_245 with ⟨q, -⟩ | ⟨q, -⟩ <;> rw [q] <;> exact ⟨by decide, by decide⟩
      refine lv_if_eq (tgt := 32) hx hb dX11_keeps_13 (by decide) (fun c_249 => ?_) (fun c_249 => ?_)
      · replace hF := hF.trans (if_pos c_249)
        have f_254 := (hr_245.resolve_left (fun q => absurd (q.1.symm.trans c_249) (by decide))).2
        have h_255 : rg x_241 0 0 := rg_and h_248 (rg_of_eq c_249 (rg_k (0 : Int32) 0 rfl)) (by decide)
        exact K_231 _ _ _ hF hFr hG hP hD hS (lv_sub hl [0, 1, 2, 4] rfl)
      · replace hF := hF.trans (if_neg c_249)
        have f_256 := (hr_245.resolve_right (fun q => c_249 q.1)).2
        have h_257 : rg x_241 1 1 := rg_ne c_249 h_248 0 rfl (by decide)
        refine lv_aload_n hx hb dX11_keeps_16 rfl (lv_at hl 0 rfl) ?_
        refine lv_iload_n hx hb dX11_keeps_17 rfl (lv_at hl 3 rfl) ?_
        refine lv_iload hx hb dX11_keeps_18 (lv_at hl 4 rfl) ?_
        refine lv_bipush (v := 60) hx hb dX11_keeps_20 (by decide) ?_
        refine pk_i (va_runV (As := [.int a2, .int a3, .int 60]) (rest := []) ⟨hx, hb, hml, hown, hts⟩ (s_X11_canGoBy l D t σ I J ri rj rq H.size tg hSH hG.1 this a2 a3 (60 : Int32) hL_this hK_this (rg_w (rg_k (60 : Int32) 60 rfl) (by decide)) this_now hR_this_now hL_this_now hK_this_now) (cwV 3 hts (tw_V tw_1035 tw_1036 tw_1037 tw_2 tw_1038) rfl rfl rfl cv_yX11_canGoBy_3 ⟨Nat.le_of_ble_eq_true rfl, Nat.le_of_ble_eq_true rfl⟩) ⟨pq_blind, pq_recv hK hP hL_this hK_this (by decide) rfl, pq_pre hK hN hP hD⟩ rfl rfl hl.1 rfl (lv_room (Nat.le_of_ble_eq_true rfl)) dX11_keeps_22 ⟨Nat.le_of_ble_eq_true rfl, Nat.le_of_ble_eq_true rfl⟩) hD hS hA (fun x_258 σ1 μ1 H locs hw_259 hP hD hS => ?_)
        obtain ⟨hu_260, hfn_263, hr_262⟩ := hw_259
        obtain ⟨hu_260a, hu_260b⟩ := Prod.mk.inj hu_260
        rw [hu_260a, hu_260b] at hP hD
        rw [fr_cI hFr hap, fr_cJ hFr hap, fr_cR hFr hap, fr_cL hFr hap, fr_cQ hFr hap] at hfn_263
        replace hF := hF.trans (bn_n hfn_263)
        have h_265 : rg x_258 0 1 := by rcases hr_262 with ⟨q, -⟩ | ⟨q, -⟩ <;> rw [q] <;> exact ⟨by decide, by decide⟩
        refine lv_if_eq (tgt := 32) hx hb dX11_keeps_25 (by decide) (fun c_266 => ?_) (fun c_266 => ?_)
        · replace hF := hF.trans (if_pos c_266)
          have f_274 := (hr_262.resolve_left (fun q => absurd (q.1.symm.trans c_266) (by decide))).2
          have h_275 : rg x_258 0 0 := rg_and h_265 (rg_of_eq c_266 (rg_k (0 : Int32) 0 rfl)) (by decide)
          exact K_231 _ _ _ hF hFr hG hP hD hS (lv_sub hl [0, 1, 2, 4] rfl)
        · replace hF := hF.trans (if_neg c_266)
          obtain ⟨f_276, f_277, f_278, f_279⟩ := (hr_262.resolve_right (fun q => c_266 q.1)).2
          have h_280 : rg x_258 1 1 := rg_ne c_266 h_265 0 rfl (by decide)
          refine lv_iconst (v := 1) hx hb dX11_keeps_28 (by decide) ?_
          refine lv_goto (tgt := 33) hx hb dX11_keeps_29 (by decide) ?_
          exact K_104 _ _ _ (rg_w f_239 (by decide)) (rg_w f_256 (by decide)) (rg_w f_276 (by decide)) (rg_w f_277 (by decide)) (rg_w h_240 (by decide)) f_279 hF hFr hG hP hD hS (lv_sub hl [0, 1, 2, 4] rfl)
  exact go _ _ _ hP hD hS hl
