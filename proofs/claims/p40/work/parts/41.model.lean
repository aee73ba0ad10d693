theorem dX12_month_0 : decode cX12_month 0 = .ok (.aload_n 0, 1) := oc_42 (by decide +kernel)
theorem dX12_month_1 : decode cX12_month 1 = .ok (.getfield 7, 3) := oc_180 (a := 0) (b := 7) (by decide +kernel)
theorem dX12_month_4 : decode cX12_month 4 = .ok (.iconst 0, 1) := oc_3 (by decide +kernel)
theorem dX12_month_5 : decode cX12_month 5 = .ok (.iaload, 1) := oc_46 (by decide +kernel)
theorem dX12_month_6 : decode cX12_month 6 = .ok (.istore_n 2, 1) := oc_61 (by decide +kernel)
theorem dX12_month_7 : decode cX12_month 7 = .ok (.aload_n 0, 1) := oc_42 (by decide +kernel)
theorem dX12_month_8 : decode cX12_month 8 = .ok (.iload_n 2, 1) := oc_28 (by decide +kernel)
theorem tw_1197 : Cond.methodLink RX12 348 yX12_reefGoes ∈ wsL_law := sg_50 _ (List.mem_of_getElem? (i := 21) rfl)
theorem tw_1198 : Cond.instanceMethod yX12_reefGoes ∈ wsL_law := sg_50 _ (List.mem_of_getElem? (i := 22) rfl)
theorem tw_1199 : Cond.selects RX12 yX12_reefGoes yX12_reefGoes ∈ wsL_law := sg_50 _ (List.mem_of_getElem? (i := 23) rfl)
theorem tw_1200 : Cond.code yX12_reefGoes cX12_reefGoes 4 none ∈ wsL_law := sg_51 _ (List.mem_of_getElem? (i := 0) rfl)
theorem dX12_month_9 : decode cX12_month 9 = .ok (.invokevirtual 348, 3) := oc_182 (a := 1) (b := 92) (by decide +kernel)
theorem dX12_month_12 : decode cX12_month 12 = .ok (.aload_n 0, 1) := oc_42 (by decide +kernel)
theorem dX12_month_13 : decode cX12_month 13 = .ok (.iload_n 2, 1) := oc_28 (by decide +kernel)
theorem tw_1205 : Cond.methodLink RX12 351 yX12_sandGoes ∈ wsL_law := sg_51 _ (List.mem_of_getElem? (i := 5) rfl)
theorem tw_1206 : Cond.instanceMethod yX12_sandGoes ∈ wsL_law := sg_51 _ (List.mem_of_getElem? (i := 6) rfl)
theorem tw_1207 : Cond.selects RX12 yX12_sandGoes yX12_sandGoes ∈ wsL_law := sg_51 _ (List.mem_of_getElem? (i := 7) rfl)
theorem tw_1208 : Cond.code yX12_sandGoes cX12_sandGoes 4 none ∈ wsL_law := sg_51 _ (List.mem_of_getElem? (i := 8) rfl)
theorem dX12_month_14 : decode cX12_month 14 = .ok (.invokevirtual 351, 3) := oc_182 (a := 1) (b := 95) (by decide +kernel)
theorem dX12_month_17 : decode cX12_month 17 = .ok (.aload_n 0, 1) := oc_42 (by decide +kernel)
theorem dX12_month_18 : decode cX12_month 18 = .ok (.iload_n 2, 1) := oc_28 (by decide +kernel)
theorem dX12_month_19 : decode cX12_month 19 = .ok (.aload_n 0, 1) := oc_42 (by decide +kernel)
theorem dX12_month_20 : decode cX12_month 20 = .ok (.iload_n 1, 1) := oc_27 (by decide +kernel)
theorem dX12_month_21 : decode cX12_month 21 = .ok (.iload_n 2, 1) := oc_28 (by decide +kernel)
theorem dX12_month_22 : decode cX12_month 22 = .ok (.iload_n 2, 1) := oc_28 (by decide +kernel)
theorem dX12_month_23 : decode cX12_month 23 = .ok (.invokevirtual 84, 3) := oc_182 (a := 0) (b := 84) (by decide +kernel)
theorem tw_1209 : Cond.methodLink RX12 354 yX12_seaStands ∈ wsL_law := sg_51 _ (List.mem_of_getElem? (i := 9) rfl)
theorem tw_1210 : Cond.instanceMethod yX12_seaStands ∈ wsL_law := sg_51 _ (List.mem_of_getElem? (i := 10) rfl)
theorem tw_1211 : Cond.selects RX12 yX12_seaStands yX12_seaStands ∈ wsL_law := sg_51 _ (List.mem_of_getElem? (i := 11) rfl)
theorem tw_1212 : Cond.code yX12_seaStands cX12_seaStands 9 none ∈ wsL_law := sg_51 _ (List.mem_of_getElem? (i := 12) rfl)
theorem dX12_month_26 : decode cX12_month 26 = .ok (.invokevirtual 354, 3) := oc_182 (a := 1) (b := 98) (by decide +kernel)
theorem dX12_month_29 : decode cX12_month 29 = .ok (.aload_n 0, 1) := oc_42 (by decide +kernel)
theorem tw_1217 : Cond.methodLink RX12 357 yX12_drink ∈ wsL_law := sg_51 _ (List.mem_of_getElem? (i := 17) rfl)
theorem tw_1218 : Cond.instanceMethod yX12_drink ∈ wsL_law := sg_51 _ (List.mem_of_getElem? (i := 18) rfl)
theorem tw_1219 : Cond.selects RX12 yX12_drink yX12_drink ∈ wsL_law := sg_51 _ (List.mem_of_getElem? (i := 19) rfl)
theorem tw_1220 : Cond.code yX12_drink cX12_drink 3 none ∈ wsL_law := sg_51 _ (List.mem_of_getElem? (i := 20) rfl)
theorem dX12_month_30 : decode cX12_month 30 = .ok (.invokevirtual 357, 3) := oc_182 (a := 1) (b := 101) (by decide +kernel)
theorem dX12_month_33 : decode cX12_month 33 = .ok (.aload_n 0, 1) := oc_42 (by decide +kernel)
theorem tw_1229 : Cond.methodLink RX12 360 yX12_sleep ∈ wsL_law := sg_52 _ (List.mem_of_getElem? (i := 5) rfl)
theorem tw_1230 : Cond.instanceMethod yX12_sleep ∈ wsL_law := sg_52 _ (List.mem_of_getElem? (i := 6) rfl)
theorem tw_1231 : Cond.selects RX12 yX12_sleep yX12_sleep ∈ wsL_law := sg_52 _ (List.mem_of_getElem? (i := 7) rfl)
theorem tw_1232 : Cond.code yX12_sleep cX12_sleep 4 none ∈ wsL_law := sg_52 _ (List.mem_of_getElem? (i := 8) rfl)
theorem dX12_month_34 : decode cX12_month 34 = .ok (.invokevirtual 360, 3) := oc_182 (a := 1) (b := 104) (by decide +kernel)
theorem dX12_month_37 : decode cX12_month 37 = .ok (.aload_n 0, 1) := oc_42 (by decide +kernel)
theorem dX12_month_38 : decode cX12_month 38 = .ok (.iload_n 2, 1) := oc_28 (by decide +kernel)
theorem tw_1233 : Cond.methodLink RX12 363 yX12_fundGoes ∈ wsL_law := sg_52 _ (List.mem_of_getElem? (i := 9) rfl)
theorem tw_1234 : Cond.instanceMethod yX12_fundGoes ∈ wsL_law := sg_52 _ (List.mem_of_getElem? (i := 10) rfl)
theorem tw_1235 : Cond.selects RX12 yX12_fundGoes yX12_fundGoes ∈ wsL_law := sg_52 _ (List.mem_of_getElem? (i := 11) rfl)
theorem tw_1236 : Cond.code yX12_fundGoes cX12_fundGoes 3 none ∈ wsL_law := sg_52 _ (List.mem_of_getElem? (i := 12) rfl)
theorem dX12_month_39 : decode cX12_month 39 = .ok (.invokevirtual 363, 3) := oc_182 (a := 1) (b := 107) (by decide +kernel)
theorem dX12_month_42 : decode cX12_month 42 = .ok (.aload_n 0, 1) := oc_42 (by decide +kernel)
theorem dX12_month_43 : decode cX12_month 43 = .ok (.iload_n 2, 1) := oc_28 (by decide +kernel)
theorem tw_1247 : Cond.methodLink RX12 366 yX12_boatsGo ∈ wsL_law := sg_52 _ (List.mem_of_getElem? (i := 23) rfl)
theorem tw_1248 : Cond.instanceMethod yX12_boatsGo ∈ wsL_law := sg_53 _ (List.mem_of_getElem? (i := 0) rfl)
theorem tw_1249 : Cond.selects RX12 yX12_boatsGo yX12_boatsGo ∈ wsL_law := sg_53 _ (List.mem_of_getElem? (i := 1) rfl)
theorem tw_1250 : Cond.code yX12_boatsGo cX12_boatsGo 6 none ∈ wsL_law := sg_53 _ (List.mem_of_getElem? (i := 2) rfl)
theorem dX12_month_44 : decode cX12_month 44 = .ok (.invokevirtual 366, 3) := oc_182 (a := 1) (b := 110) (by decide +kernel)
theorem dX12_month_47 : decode cX12_month 47 = .ok (.aload_n 0, 1) := oc_42 (by decide +kernel)
theorem dX12_month_48 : decode cX12_month 48 = .ok (.getfield 7, 3) := oc_180 (a := 0) (b := 7) (by decide +kernel)
theorem dX12_month_51 : decode cX12_month 51 = .ok (.iconst 0, 1) := oc_3 (by decide +kernel)
theorem dX12_month_52 : decode cX12_month 52 = .ok (.dup2, 1) := oc_92 (by decide +kernel)
theorem dX12_month_53 : decode cX12_month 53 = .ok (.iaload, 1) := oc_46 (by decide +kernel)
theorem dX12_month_54 : decode cX12_month 54 = .ok (.iconst 1, 1) := oc_4 (by decide +kernel)
theorem dX12_month_55 : decode cX12_month 55 = .ok (.iadd, 1) := oc_96 (by decide +kernel)
theorem dX12_month_56 : decode cX12_month 56 = .ok (.iastore, 1) := oc_79 (by decide +kernel)
theorem dX12_month_57 : decode cX12_month 57 = .ok (.return_, 1) := oc_177 (by decide +kernel)
theorem dX12_sail_0 : decode cX12_sail 0 = .ok (.iload_n 1, 1) := oc_27 (by decide +kernel)
theorem dX12_sail_1 : decode cX12_sail 1 = .ok (.iconst 0, 1) := oc_3 (by decide +kernel)
theorem dX12_sail_2 : decode cX12_sail 2 = .ok (.bipush 40, 2) := oc_16 (a := 40) (by decide +kernel)
theorem dX12_sail_4 : decode cX12_sail 4 = .ok (.invokestatic 62, 3) := oc_184 (a := 0) (b := 62) (by decide +kernel)
theorem dX12_sail_20 : decode cX12_sail 20 = .ok (.iconst 0, 1) := oc_3 (by decide +kernel)
theorem dX12_sail_21 : decode cX12_sail 21 = .ok (.ireturn, 1) := oc_172 (by decide +kernel)
theorem dX12_sail_7 : decode cX12_sail 7 = .ok (.ifCond .eq 13, 3) := oc_153 (a := 0) (b := 13) (by decide +kernel)
theorem dX12_sail_10 : decode cX12_sail 10 = .ok (.iload_n 2, 1) := oc_28 (by decide +kernel)
theorem dX12_sail_11 : decode cX12_sail 11 = .ok (.iconst 0, 1) := oc_3 (by decide +kernel)
theorem dX12_sail_12 : decode cX12_sail 12 = .ok (.ldc 152, 2) := oc_18 (by decide +kernel)
theorem dX12_sail_14 : decode cX12_sail 14 = .ok (.invokestatic 62, 3) := oc_184 (a := 0) (b := 62) (by decide +kernel)
theorem dX12_sail_17 : decode cX12_sail 17 = .ok (.ifCond .ne 5, 3) := oc_154 (a := 0) (b := 5) (by decide +kernel)
theorem dX12_sail_22 : decode cX12_sail 22 = .ok (.aload_n 0, 1) := oc_42 (by decide +kernel)
theorem dX12_sail_23 : decode cX12_sail 23 = .ok (.getfield 7, 3) := oc_180 (a := 0) (b := 7) (by decide +kernel)
theorem dX12_sail_26 : decode cX12_sail 26 = .ok (.bipush 11, 2) := oc_16 (a := 11) (by decide +kernel)
theorem dX12_sail_28 : decode cX12_sail 28 = .ok (.iload_n 1, 1) := oc_27 (by decide +kernel)
theorem dX12_sail_29 : decode cX12_sail 29 = .ok (.iastore, 1) := oc_79 (by decide +kernel)
theorem dX12_sail_30 : decode cX12_sail 30 = .ok (.aload_n 0, 1) := oc_42 (by decide +kernel)
theorem dX12_sail_31 : decode cX12_sail 31 = .ok (.getfield 7, 3) := oc_180 (a := 0) (b := 7) (by decide +kernel)
theorem dX12_sail_34 : decode cX12_sail 34 = .ok (.bipush 8, 2) := oc_16 (a := 8) (by decide +kernel)
theorem dX12_sail_36 : decode cX12_sail 36 = .ok (.dup2, 1) := oc_92 (by decide +kernel)
theorem dX12_sail_37 : decode cX12_sail 37 = .ok (.iaload, 1) := oc_46 (by decide +kernel)
theorem dX12_sail_38 : decode cX12_sail 38 = .ok (.iload_n 2, 1) := oc_28 (by decide +kernel)
theorem dX12_sail_39 : decode cX12_sail 39 = .ok (.iadd, 1) := oc_96 (by decide +kernel)
theorem dX12_sail_40 : decode cX12_sail 40 = .ok (.iastore, 1) := oc_79 (by decide +kernel)
theorem dX12_sail_41 : decode cX12_sail 41 = .ok (.iconst 1, 1) := oc_4 (by decide +kernel)
theorem dX12_sail_42 : decode cX12_sail 42 = .ok (.ireturn, 1) := oc_172 (by decide +kernel)
theorem dX12_isTime_0 : decode cX12_isTime 0 = .ok (.iload_n 1, 1) := oc_27 (by decide +kernel)
theorem dX12_isTime_1 : decode cX12_isTime 1 = .ok (.iconst 1, 1) := oc_4 (by decide +kernel)
theorem dX12_isTime_2 : decode cX12_isTime 2 = .ok (.iload_n 2, 1) := oc_28 (by decide +kernel)
theorem dX12_isTime_3 : decode cX12_isTime 3 = .ok (.invokestatic 62, 3) := oc_184 (a := 0) (b := 62) (by decide +kernel)
theorem dX12_isTime_34 : decode cX12_isTime 34 = .ok (.iconst 0, 1) := oc_3 (by decide +kernel)
theorem dX12_isTime_35 : decode cX12_isTime 35 = .ok (.ireturn, 1) := oc_172 (by decide +kernel)
theorem dX12_isTime_6 : decode cX12_isTime 6 = .ok (.ifCond .eq 28, 3) := oc_153 (a := 0) (b := 28) (by decide +kernel)
theorem dX12_isTime_9 : decode cX12_isTime 9 = .ok (.iload_n 3, 1) := oc_29 (by decide +kernel)
theorem dX12_isTime_10 : decode cX12_isTime 10 = .ok (.invokestatic 70, 3) := oc_184 (a := 0) (b := 70) (by decide +kernel)
theorem dX12_isTime_13 : decode cX12_isTime 13 = .ok (.ifCond .eq 21, 3) := oc_153 (a := 0) (b := 21) (by decide +kernel)
theorem dX12_isTime_16 : decode cX12_isTime 16 = .ok (.aload_n 0, 1) := oc_42 (by decide +kernel)
theorem dX12_isTime_17 : decode cX12_isTime 17 = .ok (.getfield 7, 3) := oc_180 (a := 0) (b := 7) (by decide +kernel)
theorem dX12_isTime_20 : decode cX12_isTime 20 = .ok (.iconst 0, 1) := oc_3 (by decide +kernel)
theorem dX12_isTime_21 : decode cX12_isTime 21 = .ok (.iaload, 1) := oc_46 (by decide +kernel)
theorem dX12_isTime_22 : decode cX12_isTime 22 = .ok (.iload_n 1, 1) := oc_27 (by decide +kernel)
theorem dX12_isTime_23 : decode cX12_isTime 23 = .ok (.iadd, 1) := oc_96 (by decide +kernel)
theorem dX12_isTime_24 : decode cX12_isTime 24 = .ok (.sipush 600, 3) := oc_17 (a := 2) (b := 88) (by decide +kernel)
theorem dX12_isTime_27 : decode cX12_isTime 27 = .ok (.if_icmp .gt 7, 3) := oc_163 (a := 0) (b := 7) (by decide +kernel)
theorem dX12_isTime_30 : decode cX12_isTime 30 = .ok (.iconst 1, 1) := oc_4 (by decide +kernel)
theorem dX12_isTime_31 : decode cX12_isTime 31 = .ok (.goto 4, 3) := oc_167 (a := 0) (b := 4) (by decide +kernel)
theorem dX12_months_0 : decode cX12_months 0 = .ok (.aload_n 0, 1) := oc_42 (by decide +kernel)
theorem dX12_months_1 : decode cX12_months 1 = .ok (.iload_n 1, 1) := oc_27 (by decide +kernel)
theorem dX12_months_2 : decode cX12_months 2 = .ok (.bipush 60, 2) := oc_16 (a := 60) (by decide +kernel)
theorem dX12_months_4 : decode cX12_months 4 = .ok (.iload_n 2, 1) := oc_28 (by decide +kernel)
theorem tw_1189 : Cond.methodLink RX12 369 yX12_isTime ∈ wsL_law := sg_50 _ (List.mem_of_getElem? (i := 13) rfl)
theorem tw_1190 : Cond.instanceMethod yX12_isTime ∈ wsL_law := sg_50 _ (List.mem_of_getElem? (i := 14) rfl)
theorem tw_1191 : Cond.selects RX12 yX12_isTime yX12_isTime ∈ wsL_law := sg_50 _ (List.mem_of_getElem? (i := 15) rfl)
theorem tw_1192 : Cond.code yX12_isTime cX12_isTime 4 (some .boolean) ∈ wsL_law := sg_50 _ (List.mem_of_getElem? (i := 16) rfl)
theorem dX12_months_5 : decode cX12_months 5 = .ok (.invokevirtual 369, 3) := oc_182 (a := 1) (b := 113) (by decide +kernel)
theorem dX12_months_8 : decode cX12_months 8 = .ok (.ifCond .ne 5, 3) := oc_154 (a := 0) (b := 5) (by decide +kernel)
theorem dX12_months_13 : decode cX12_months 13 = .ok (.iconst 0, 1) := oc_3 (by decide +kernel)
theorem dX12_months_14 : decode cX12_months 14 = .ok (.istore_n 3, 1) := oc_62 (by decide +kernel)
theorem dX12_months_15 : decode cX12_months 15 = .ok (.iload_n 3, 1) := oc_29 (by decide +kernel)
theorem dX12_months_16 : decode cX12_months 16 = .ok (.iload_n 1, 1) := oc_27 (by decide +kernel)
theorem dX12_months_17 : decode cX12_months 17 = .ok (.if_icmp .ge 14, 3) := oc_162 (a := 0) (b := 14) (by decide +kernel)
theorem dX12_months_31 : decode cX12_months 31 = .ok (.aload_n 0, 1) := oc_42 (by decide +kernel)
theorem dX12_months_32 : decode cX12_months 32 = .ok (.getfield 7, 3) := oc_180 (a := 0) (b := 7) (by decide +kernel)
theorem dX12_months_35 : decode cX12_months 35 = .ok (.iconst 0, 1) := oc_3 (by decide +kernel)
theorem dX12_months_36 : decode cX12_months 36 = .ok (.iaload, 1) := oc_46 (by decide +kernel)
theorem dX12_months_37 : decode cX12_months 37 = .ok (.ireturn, 1) := oc_172 (by decide +kernel)
theorem dX12_months_20 : decode cX12_months 20 = .ok (.aload_n 0, 1) := oc_42 (by decide +kernel)
theorem dX12_months_21 : decode cX12_months 21 = .ok (.iload_n 2, 1) := oc_28 (by decide +kernel)
theorem tw_1193 : Cond.methodLink RX12 372 yX12_month ∈ wsL_law := sg_50 _ (List.mem_of_getElem? (i := 17) rfl)
theorem tw_1194 : Cond.instanceMethod yX12_month ∈ wsL_law := sg_50 _ (List.mem_of_getElem? (i := 18) rfl)
theorem tw_1195 : Cond.selects RX12 yX12_month yX12_month ∈ wsL_law := sg_50 _ (List.mem_of_getElem? (i := 19) rfl)
theorem tw_1196 : Cond.code yX12_month cX12_month 3 none ∈ wsL_law := sg_50 _ (List.mem_of_getElem? (i := 20) rfl)
theorem dX12_months_22 : decode cX12_months 22 = .ok (.invokevirtual 372, 3) := oc_182 (a := 1) (b := 116) (by decide +kernel)
theorem dX12_months_25 : decode cX12_months 25 = .ok (.iinc 3 1, 3) := oc_132 (b := 1) (by decide +kernel)
theorem dX12_months_28 : decode cX12_months 28 = .ok (.goto (-13), 3) := oc_167 (a := 255) (b := 243) (by decide +kernel)
theorem dX12_months_11 : decode cX12_months 11 = .ok (.iconst (-1), 1) := oc_2 (by decide +kernel)
theorem dX12_months_12 : decode cX12_months 12 = .ok (.ireturn, 1) := oc_172 (by decide +kernel)
theorem dX12_cellOf_0 : decode cX12_cellOf 0 = .ok (.aload_n 0, 1) := oc_42 (by decide +kernel)
theorem dX12_cellOf_1 : decode cX12_cellOf 1 = .ok (.iload_n 1, 1) := oc_27 (by decide +kernel)
theorem dX12_cellOf_2 : decode cX12_cellOf 2 = .ok (.invokevirtual 88, 3) := oc_182 (a := 0) (b := 88) (by decide +kernel)
theorem dX12_cellOf_5 : decode cX12_cellOf 5 = .ok (.ifCond .ne 6, 3) := oc_154 (a := 0) (b := 6) (by decide +kernel)
theorem dX12_cellOf_11 : decode cX12_cellOf 11 = .ok (.iload_n 2, 1) := oc_28 (by decide +kernel)
theorem dX12_cellOf_12 : decode cX12_cellOf 12 = .ok (.tableswitch 208 0 11 #[64, 71, 78, 85, 92, 100, 106, 114, 136, 158, 166, 187], 64) := by decide +kernel
theorem dX12_cellOf_76 : decode cX12_cellOf 76 = .ok (.aload_n 0, 1) := oc_42 (by decide +kernel)
theorem dX12_cellOf_77 : decode cX12_cellOf 77 = .ok (.iload_n 1, 1) := oc_27 (by decide +kernel)
theorem dX12_cellOf_78 : decode cX12_cellOf 78 = .ok (.iconst 0, 1) := oc_3 (by decide +kernel)
theorem dX12_cellOf_79 : decode cX12_cellOf 79 = .ok (.invokevirtual 91, 3) := oc_182 (a := 0) (b := 91) (by decide +kernel)
theorem dX12_cellOf_82 : decode cX12_cellOf 82 = .ok (.ireturn, 1) := oc_172 (by decide +kernel)
theorem dX12_cellOf_83 : decode cX12_cellOf 83 = .ok (.aload_n 0, 1) := oc_42 (by decide +kernel)
theorem dX12_cellOf_84 : decode cX12_cellOf 84 = .ok (.iload_n 1, 1) := oc_27 (by decide +kernel)
theorem dX12_cellOf_85 : decode cX12_cellOf 85 = .ok (.iconst 1, 1) := oc_4 (by decide +kernel)
theorem dX12_cellOf_86 : decode cX12_cellOf 86 = .ok (.invokevirtual 91, 3) := oc_182 (a := 0) (b := 91) (by decide +kernel)
theorem dX12_cellOf_89 : decode cX12_cellOf 89 = .ok (.ireturn, 1) := oc_172 (by decide +kernel)
theorem dX12_cellOf_90 : decode cX12_cellOf 90 = .ok (.aload_n 0, 1) := oc_42 (by decide +kernel)
theorem dX12_cellOf_91 : decode cX12_cellOf 91 = .ok (.iload_n 1, 1) := oc_27 (by decide +kernel)
theorem dX12_cellOf_92 : decode cX12_cellOf 92 = .ok (.iconst 4, 1) := oc_7 (by decide +kernel)
theorem dX12_cellOf_93 : decode cX12_cellOf 93 = .ok (.invokevirtual 91, 3) := oc_182 (a := 0) (b := 91) (by decide +kernel)
theorem dX12_cellOf_96 : decode cX12_cellOf 96 = .ok (.ireturn, 1) := oc_172 (by decide +kernel)
theorem dX12_cellOf_97 : decode cX12_cellOf 97 = .ok (.aload_n 0, 1) := oc_42 (by decide +kernel)
theorem dX12_cellOf_98 : decode cX12_cellOf 98 = .ok (.iload_n 1, 1) := oc_27 (by decide +kernel)
theorem dX12_cellOf_99 : decode cX12_cellOf 99 = .ok (.iconst 5, 1) := oc_8 (by decide +kernel)
theorem dX12_cellOf_100 : decode cX12_cellOf 100 = .ok (.invokevirtual 91, 3) := oc_182 (a := 0) (b := 91) (by decide +kernel)
theorem dX12_cellOf_103 : decode cX12_cellOf 103 = .ok (.ireturn, 1) := oc_172 (by decide +kernel)
theorem dX12_cellOf_104 : decode cX12_cellOf 104 = .ok (.aload_n 0, 1) := oc_42 (by decide +kernel)
theorem dX12_cellOf_105 : decode cX12_cellOf 105 = .ok (.iload_n 1, 1) := oc_27 (by decide +kernel)
theorem dX12_cellOf_106 : decode cX12_cellOf 106 = .ok (.bipush 6, 2) := oc_16 (a := 6) (by decide +kernel)
theorem dX12_cellOf_108 : decode cX12_cellOf 108 = .ok (.invokevirtual 91, 3) := oc_182 (a := 0) (b := 91) (by decide +kernel)
theorem dX12_cellOf_111 : decode cX12_cellOf 111 = .ok (.ireturn, 1) := oc_172 (by decide +kernel)
theorem dX12_cellOf_112 : decode cX12_cellOf 112 = .ok (.aload_n 0, 1) := oc_42 (by decide +kernel)
theorem dX12_cellOf_113 : decode cX12_cellOf 113 = .ok (.iload_n 1, 1) := oc_27 (by decide +kernel)
theorem dX12_cellOf_114 : decode cX12_cellOf 114 = .ok (.invokevirtual 313, 3) := oc_182 (a := 1) (b := 57) (by decide +kernel)
theorem dX12_cellOf_117 : decode cX12_cellOf 117 = .ok (.ireturn, 1) := oc_172 (by decide +kernel)
theorem dX12_cellOf_118 : decode cX12_cellOf 118 = .ok (.aload_n 0, 1) := oc_42 (by decide +kernel)
theorem dX12_cellOf_119 : decode cX12_cellOf 119 = .ok (.iload_n 1, 1) := oc_27 (by decide +kernel)
theorem dX12_cellOf_120 : decode cX12_cellOf 120 = .ok (.bipush 7, 2) := oc_16 (a := 7) (by decide +kernel)
theorem dX12_cellOf_122 : decode cX12_cellOf 122 = .ok (.invokevirtual 91, 3) := oc_182 (a := 0) (b := 91) (by decide +kernel)
theorem dX12_cellOf_125 : decode cX12_cellOf 125 = .ok (.ireturn, 1) := oc_172 (by decide +kernel)
theorem dX12_cellOf_126 : decode cX12_cellOf 126 = .ok (.aload_n 0, 1) := oc_42 (by decide +kernel)
theorem dX12_cellOf_127 : decode cX12_cellOf 127 = .ok (.iload_n 1, 1) := oc_27 (by decide +kernel)
theorem dX12_cellOf_128 : decode cX12_cellOf 128 = .ok (.bipush 8, 2) := oc_16 (a := 8) (by decide +kernel)
theorem dX12_cellOf_130 : decode cX12_cellOf 130 = .ok (.invokevirtual 91, 3) := oc_182 (a := 0) (b := 91) (by decide +kernel)
theorem dX12_cellOf_133 : decode cX12_cellOf 133 = .ok (.ifCond .ne 7, 3) := oc_154 (a := 0) (b := 7) (by decide +kernel)
theorem dX12_cellOf_140 : decode cX12_cellOf 140 = .ok (.aload_n 0, 1) := oc_42 (by decide +kernel)
theorem dX12_cellOf_141 : decode cX12_cellOf 141 = .ok (.iload_n 1, 1) := oc_27 (by decide +kernel)
theorem dX12_cellOf_142 : decode cX12_cellOf 142 = .ok (.bipush 9, 2) := oc_16 (a := 9) (by decide +kernel)
theorem dX12_cellOf_144 : decode cX12_cellOf 144 = .ok (.invokevirtual 91, 3) := oc_182 (a := 0) (b := 91) (by decide +kernel)
theorem dX12_cellOf_147 : decode cX12_cellOf 147 = .ok (.ireturn, 1) := oc_172 (by decide +kernel)
theorem dX12_cellOf_136 : decode cX12_cellOf 136 = .ok (.iconst (-1), 1) := oc_2 (by decide +kernel)
theorem dX12_cellOf_137 : decode cX12_cellOf 137 = .ok (.goto 10, 3) := oc_167 (a := 0) (b := 10) (by decide +kernel)
theorem dX12_cellOf_148 : decode cX12_cellOf 148 = .ok (.aload_n 0, 1) := oc_42 (by decide +kernel)
theorem dX12_cellOf_149 : decode cX12_cellOf 149 = .ok (.iload_n 1, 1) := oc_27 (by decide +kernel)
theorem dX12_cellOf_150 : decode cX12_cellOf 150 = .ok (.bipush 8, 2) := oc_16 (a := 8) (by decide +kernel)
theorem dX12_cellOf_152 : decode cX12_cellOf 152 = .ok (.invokevirtual 91, 3) := oc_182 (a := 0) (b := 91) (by decide +kernel)
theorem dX12_cellOf_155 : decode cX12_cellOf 155 = .ok (.ifCond .ne 7, 3) := oc_154 (a := 0) (b := 7) (by decide +kernel)
theorem dX12_cellOf_162 : decode cX12_cellOf 162 = .ok (.aload_n 0, 1) := oc_42 (by decide +kernel)
theorem dX12_cellOf_163 : decode cX12_cellOf 163 = .ok (.iload_n 1, 1) := oc_27 (by decide +kernel)
theorem dX12_cellOf_164 : decode cX12_cellOf 164 = .ok (.bipush 10, 2) := oc_16 (a := 10) (by decide +kernel)
theorem dX12_cellOf_166 : decode cX12_cellOf 166 = .ok (.invokevirtual 91, 3) := oc_182 (a := 0) (b := 91) (by decide +kernel)
theorem dX12_cellOf_169 : decode cX12_cellOf 169 = .ok (.ireturn, 1) := oc_172 (by decide +kernel)
theorem dX12_cellOf_158 : decode cX12_cellOf 158 = .ok (.iconst (-1), 1) := oc_2 (by decide +kernel)
theorem dX12_cellOf_159 : decode cX12_cellOf 159 = .ok (.goto 10, 3) := oc_167 (a := 0) (b := 10) (by decide +kernel)
theorem dX12_cellOf_170 : decode cX12_cellOf 170 = .ok (.aload_n 0, 1) := oc_42 (by decide +kernel)
theorem dX12_cellOf_171 : decode cX12_cellOf 171 = .ok (.iload_n 1, 1) := oc_27 (by decide +kernel)
theorem dX12_cellOf_172 : decode cX12_cellOf 172 = .ok (.bipush 11, 2) := oc_16 (a := 11) (by decide +kernel)
theorem dX12_cellOf_174 : decode cX12_cellOf 174 = .ok (.invokevirtual 91, 3) := oc_182 (a := 0) (b := 91) (by decide +kernel)
theorem dX12_cellOf_177 : decode cX12_cellOf 177 = .ok (.ireturn, 1) := oc_172 (by decide +kernel)
theorem dX12_cellOf_178 : decode cX12_cellOf 178 = .ok (.aload_n 0, 1) := oc_42 (by decide +kernel)
theorem dX12_cellOf_179 : decode cX12_cellOf 179 = .ok (.getfield 7, 3) := oc_180 (a := 0) (b := 7) (by decide +kernel)
theorem dX12_cellOf_182 : decode cX12_cellOf 182 = .ok (.iconst 0, 1) := oc_3 (by decide +kernel)
theorem dX12_cellOf_183 : decode cX12_cellOf 183 = .ok (.iaload, 1) := oc_46 (by decide +kernel)
theorem dX12_cellOf_184 : decode cX12_cellOf 184 = .ok (.ifCond .ne 7, 3) := oc_154 (a := 0) (b := 7) (by decide +kernel)
theorem dX12_cellOf_191 : decode cX12_cellOf 191 = .ok (.aload_n 0, 1) := oc_42 (by decide +kernel)
theorem dX12_cellOf_192 : decode cX12_cellOf 192 = .ok (.iload_n 1, 1) := oc_27 (by decide +kernel)
theorem dX12_cellOf_193 : decode cX12_cellOf 193 = .ok (.bipush 12, 2) := oc_16 (a := 12) (by decide +kernel)
theorem dX12_cellOf_195 : decode cX12_cellOf 195 = .ok (.invokevirtual 91, 3) := oc_182 (a := 0) (b := 91) (by decide +kernel)
theorem dX12_cellOf_198 : decode cX12_cellOf 198 = .ok (.ireturn, 1) := oc_172 (by decide +kernel)
theorem dX12_cellOf_187 : decode cX12_cellOf 187 = .ok (.iconst (-1), 1) := oc_2 (by decide +kernel)
theorem dX12_cellOf_188 : decode cX12_cellOf 188 = .ok (.goto 10, 3) := oc_167 (a := 0) (b := 10) (by decide +kernel)
theorem dX12_cellOf_199 : decode cX12_cellOf 199 = .ok (.aload_n 0, 1) := oc_42 (by decide +kernel)
theorem dX12_cellOf_200 : decode cX12_cellOf 200 = .ok (.getfield 7, 3) := oc_180 (a := 0) (b := 7) (by decide +kernel)
theorem dX12_cellOf_203 : decode cX12_cellOf 203 = .ok (.iconst 0, 1) := oc_3 (by decide +kernel)
theorem dX12_cellOf_204 : decode cX12_cellOf 204 = .ok (.iaload, 1) := oc_46 (by decide +kernel)
theorem dX12_cellOf_205 : decode cX12_cellOf 205 = .ok (.ifCond .ne 7, 3) := oc_154 (a := 0) (b := 7) (by decide +kernel)
theorem dX12_cellOf_212 : decode cX12_cellOf 212 = .ok (.aload_n 0, 1) := oc_42 (by decide +kernel)
theorem dX12_cellOf_213 : decode cX12_cellOf 213 = .ok (.iload_n 1, 1) := oc_27 (by decide +kernel)
theorem dX12_cellOf_214 : decode cX12_cellOf 214 = .ok (.bipush 13, 2) := oc_16 (a := 13) (by decide +kernel)
theorem dX12_cellOf_216 : decode cX12_cellOf 216 = .ok (.invokevirtual 91, 3) := oc_182 (a := 0) (b := 91) (by decide +kernel)
theorem dX12_cellOf_219 : decode cX12_cellOf 219 = .ok (.ireturn, 1) := oc_172 (by decide +kernel)
theorem dX12_cellOf_208 : decode cX12_cellOf 208 = .ok (.iconst (-1), 1) := oc_2 (by decide +kernel)
theorem dX12_cellOf_209 : decode cX12_cellOf 209 = .ok (.goto 10, 3) := oc_167 (a := 0) (b := 10) (by decide +kernel)
theorem dX12_cellOf_220 : decode cX12_cellOf 220 = .ok (.ldc 87, 2) := oc_18 (by decide +kernel)
theorem dX12_cellOf_222 : decode cX12_cellOf 222 = .ok (.ireturn, 1) := oc_172 (by decide +kernel)
theorem dX12_cellOf_8 : decode cX12_cellOf 8 = .ok (.ldc 87, 2) := oc_18 (by decide +kernel)
theorem dX12_cellOf_10 : decode cX12_cellOf 10 = .ok (.ireturn, 1) := oc_172 (by decide +kernel)
theorem dX12_personOf_0 : decode cX12_personOf 0 = .ok (.aload_n 0, 1) := oc_42 (by decide +kernel)
theorem dX12_personOf_1 : decode cX12_personOf 1 = .ok (.iload_n 1, 1) := oc_27 (by decide +kernel)
theorem dX12_personOf_2 : decode cX12_personOf 2 = .ok (.invokevirtual 104, 3) := oc_182 (a := 0) (b := 104) (by decide +kernel)
theorem dX12_personOf_5 : decode cX12_personOf 5 = .ok (.ifCond .ne 5, 3) := oc_154 (a := 0) (b := 5) (by decide +kernel)
theorem dX12_personOf_10 : decode cX12_personOf 10 = .ok (.iload_n 2, 1) := oc_28 (by decide +kernel)
theorem dX12_personOf_11 : decode cX12_personOf 11 = .ok (.tableswitch 103 0 7 #[45, 52, 59, 66, 73, 80, 87, 95], 45) := by decide +kernel
theorem dX12_personOf_56 : decode cX12_personOf 56 = .ok (.aload_n 0, 1) := oc_42 (by decide +kernel)
theorem dX12_personOf_57 : decode cX12_personOf 57 = .ok (.iload_n 1, 1) := oc_27 (by decide +kernel)
theorem dX12_personOf_58 : decode cX12_personOf 58 = .ok (.iconst 3, 1) := oc_6 (by decide +kernel)
theorem dX12_personOf_59 : decode cX12_personOf 59 = .ok (.invokevirtual 94, 3) := oc_182 (a := 0) (b := 94) (by decide +kernel)
theorem dX12_personOf_62 : decode cX12_personOf 62 = .ok (.ireturn, 1) := oc_172 (by decide +kernel)
theorem dX12_personOf_63 : decode cX12_personOf 63 = .ok (.aload_n 0, 1) := oc_42 (by decide +kernel)
theorem dX12_personOf_64 : decode cX12_personOf 64 = .ok (.iload_n 1, 1) := oc_27 (by decide +kernel)
theorem dX12_personOf_65 : decode cX12_personOf 65 = .ok (.iconst 0, 1) := oc_3 (by decide +kernel)
theorem dX12_personOf_66 : decode cX12_personOf 66 = .ok (.invokevirtual 94, 3) := oc_182 (a := 0) (b := 94) (by decide +kernel)
theorem dX12_personOf_69 : decode cX12_personOf 69 = .ok (.ireturn, 1) := oc_172 (by decide +kernel)
theorem dX12_personOf_70 : decode cX12_personOf 70 = .ok (.aload_n 0, 1) := oc_42 (by decide +kernel)
theorem dX12_personOf_71 : decode cX12_personOf 71 = .ok (.iload_n 1, 1) := oc_27 (by decide +kernel)
theorem dX12_personOf_72 : decode cX12_personOf 72 = .ok (.iconst 1, 1) := oc_4 (by decide +kernel)
theorem dX12_personOf_73 : decode cX12_personOf 73 = .ok (.invokevirtual 94, 3) := oc_182 (a := 0) (b := 94) (by decide +kernel)
theorem dX12_personOf_76 : decode cX12_personOf 76 = .ok (.ireturn, 1) := oc_172 (by decide +kernel)
theorem dX12_personOf_77 : decode cX12_personOf 77 = .ok (.aload_n 0, 1) := oc_42 (by decide +kernel)
theorem dX12_personOf_78 : decode cX12_personOf 78 = .ok (.iload_n 1, 1) := oc_27 (by decide +kernel)
theorem dX12_personOf_79 : decode cX12_personOf 79 = .ok (.iconst 2, 1) := oc_5 (by decide +kernel)
theorem dX12_personOf_80 : decode cX12_personOf 80 = .ok (.invokevirtual 94, 3) := oc_182 (a := 0) (b := 94) (by decide +kernel)
theorem dX12_personOf_83 : decode cX12_personOf 83 = .ok (.ireturn, 1) := oc_172 (by decide +kernel)
theorem dX12_personOf_84 : decode cX12_personOf 84 = .ok (.aload_n 0, 1) := oc_42 (by decide +kernel)
theorem dX12_personOf_85 : decode cX12_personOf 85 = .ok (.iload_n 1, 1) := oc_27 (by decide +kernel)
theorem dX12_personOf_86 : decode cX12_personOf 86 = .ok (.iconst 4, 1) := oc_7 (by decide +kernel)
theorem dX12_personOf_87 : decode cX12_personOf 87 = .ok (.invokevirtual 94, 3) := oc_182 (a := 0) (b := 94) (by decide +kernel)
theorem dX12_personOf_90 : decode cX12_personOf 90 = .ok (.ireturn, 1) := oc_172 (by decide +kernel)
theorem dX12_personOf_91 : decode cX12_personOf 91 = .ok (.aload_n 0, 1) := oc_42 (by decide +kernel)
theorem dX12_personOf_92 : decode cX12_personOf 92 = .ok (.iload_n 1, 1) := oc_27 (by decide +kernel)
theorem dX12_personOf_93 : decode cX12_personOf 93 = .ok (.iconst 5, 1) := oc_8 (by decide +kernel)
theorem dX12_personOf_94 : decode cX12_personOf 94 = .ok (.invokevirtual 94, 3) := oc_182 (a := 0) (b := 94) (by decide +kernel)
theorem dX12_personOf_97 : decode cX12_personOf 97 = .ok (.ireturn, 1) := oc_172 (by decide +kernel)
theorem dX12_personOf_98 : decode cX12_personOf 98 = .ok (.aload_n 0, 1) := oc_42 (by decide +kernel)
theorem dX12_personOf_99 : decode cX12_personOf 99 = .ok (.iload_n 1, 1) := oc_27 (by decide +kernel)
theorem dX12_personOf_100 : decode cX12_personOf 100 = .ok (.bipush 6, 2) := oc_16 (a := 6) (by decide +kernel)
theorem dX12_personOf_102 : decode cX12_personOf 102 = .ok (.invokevirtual 94, 3) := oc_182 (a := 0) (b := 94) (by decide +kernel)
theorem dX12_personOf_105 : decode cX12_personOf 105 = .ok (.ireturn, 1) := oc_172 (by decide +kernel)
theorem dX12_personOf_106 : decode cX12_personOf 106 = .ok (.aload_n 0, 1) := oc_42 (by decide +kernel)
theorem dX12_personOf_107 : decode cX12_personOf 107 = .ok (.iload_n 1, 1) := oc_27 (by decide +kernel)
theorem dX12_personOf_108 : decode cX12_personOf 108 = .ok (.bipush 7, 2) := oc_16 (a := 7) (by decide +kernel)
theorem dX12_personOf_110 : decode cX12_personOf 110 = .ok (.invokevirtual 94, 3) := oc_182 (a := 0) (b := 94) (by decide +kernel)
theorem dX12_personOf_113 : decode cX12_personOf 113 = .ok (.ireturn, 1) := oc_172 (by decide +kernel)
theorem dX12_personOf_114 : decode cX12_personOf 114 = .ok (.iconst (-1), 1) := oc_2 (by decide +kernel)
theorem dX12_personOf_115 : decode cX12_personOf 115 = .ok (.ireturn, 1) := oc_172 (by decide +kernel)
theorem dX12_personOf_8 : decode cX12_personOf 8 = .ok (.iconst (-1), 1) := oc_2 (by decide +kernel)
theorem dX12_personOf_9 : decode cX12_personOf 9 = .ok (.ireturn, 1) := oc_172 (by decide +kernel)
theorem dX12_at_0 : decode cX12_at 0 = .ok (.aload_n 0, 1) := oc_42 (by decide +kernel)
theorem dX12_at_1 : decode cX12_at 1 = .ok (.iload_n 1, 1) := oc_27 (by decide +kernel)
theorem dX12_at_2 : decode cX12_at 2 = .ok (.invokevirtual 107, 3) := oc_182 (a := 0) (b := 107) (by decide +kernel)
theorem dX12_at_15 : decode cX12_at 15 = .ok (.aload_n 0, 1) := oc_42 (by decide +kernel)
theorem dX12_at_16 : decode cX12_at 16 = .ok (.iload_n 1, 1) := oc_27 (by decide +kernel)
theorem dX12_at_17 : decode cX12_at 17 = .ok (.invokevirtual 97, 3) := oc_182 (a := 0) (b := 97) (by decide +kernel)
theorem dX12_at_20 : decode cX12_at 20 = .ok (.goto 4, 3) := oc_167 (a := 0) (b := 4) (by decide +kernel)
theorem dX12_at_24 : decode cX12_at 24 = .ok (.ireturn, 1) := oc_172 (by decide +kernel)
theorem dX12_at_5 : decode cX12_at 5 = .ok (.ifCond .ne 10, 3) := oc_154 (a := 0) (b := 10) (by decide +kernel)
theorem dX12_at_8 : decode cX12_at 8 = .ok (.iload_n 1, 1) := oc_27 (by decide +kernel)
theorem dX12_at_9 : decode cX12_at 9 = .ok (.sipush 300, 3) := oc_17 (a := 1) (b := 44) (by decide +kernel)
theorem dX12_at_12 : decode cX12_at 12 = .ok (.if_icmp .ne 11, 3) := oc_160 (a := 0) (b := 11) (by decide +kernel)
theorem dX12_at_23 : decode cX12_at 23 = .ok (.iconst (-1), 1) := oc_2 (by decide +kernel)
theorem dX12_area_0 : decode cX12_area 0 = .ok (.aload_n 0, 1) := oc_42 (by decide +kernel)
theorem dX12_area_1 : decode cX12_area 1 = .ok (.getfield 7, 3) := oc_180 (a := 0) (b := 7) (by decide +kernel)
theorem dX12_area_4 : decode cX12_area 4 = .ok (.iconst 0, 1) := oc_3 (by decide +kernel)
theorem dX12_area_5 : decode cX12_area 5 = .ok (.iaload, 1) := oc_46 (by decide +kernel)
theorem dX12_area_6 : decode cX12_area 6 = .ok (.ifCond .ne 7, 3) := oc_154 (a := 0) (b := 7) (by decide +kernel)
theorem dX12_area_13 : decode cX12_area 13 = .ok (.aload_n 0, 1) := oc_42 (by decide +kernel)
theorem dX12_area_14 : decode cX12_area 14 = .ok (.getfield 7, 3) := oc_180 (a := 0) (b := 7) (by decide +kernel)
theorem dX12_area_17 : decode cX12_area 17 = .ok (.bipush 18, 2) := oc_16 (a := 18) (by decide +kernel)
theorem dX12_area_19 : decode cX12_area 19 = .ok (.iaload, 1) := oc_46 (by decide +kernel)
theorem dX12_area_20 : decode cX12_area 20 = .ok (.ireturn, 1) := oc_172 (by decide +kernel)
theorem dX12_area_9 : decode cX12_area 9 = .ok (.iconst (-1), 1) := oc_2 (by decide +kernel)
theorem dX12_area_10 : decode cX12_area 10 = .ok (.goto 10, 3) := oc_167 (a := 0) (b := 10) (by decide +kernel)
theorem dX12_choose_0 : decode cX12_choose 0 = .ok (.aload_n 0, 1) := oc_42 (by decide +kernel)
theorem dX12_choose_1 : decode cX12_choose 1 = .ok (.iload_n 1, 1) := oc_27 (by decide +kernel)
theorem dX12_choose_2 : decode cX12_choose 2 = .ok (.invokevirtual 104, 3) := oc_182 (a := 0) (b := 104) (by decide +kernel)
theorem dX12_choose_17 : decode cX12_choose 17 = .ok (.iconst 0, 1) := oc_3 (by decide +kernel)
theorem dX12_choose_18 : decode cX12_choose 18 = .ok (.ireturn, 1) := oc_172 (by decide +kernel)
theorem dX12_choose_5 : decode cX12_choose 5 = .ok (.ifCond .eq 12, 3) := oc_153 (a := 0) (b := 12) (by decide +kernel)
theorem dX12_choose_8 : decode cX12_choose 8 = .ok (.iload_n 2, 1) := oc_28 (by decide +kernel)
theorem dX12_choose_9 : decode cX12_choose 9 = .ok (.iconst (-1), 1) := oc_2 (by decide +kernel)
theorem dX12_choose_10 : decode cX12_choose 10 = .ok (.iconst 1, 1) := oc_4 (by decide +kernel)
theorem dX12_choose_11 : decode cX12_choose 11 = .ok (.invokestatic 62, 3) := oc_184 (a := 0) (b := 62) (by decide +kernel)
theorem dX12_choose_14 : decode cX12_choose 14 = .ok (.ifCond .ne 5, 3) := oc_154 (a := 0) (b := 5) (by decide +kernel)
theorem dX12_choose_19 : decode cX12_choose 19 = .ok (.aload_n 0, 1) := oc_42 (by decide +kernel)
theorem dX12_choose_20 : decode cX12_choose 20 = .ok (.getfield 7, 3) := oc_180 (a := 0) (b := 7) (by decide +kernel)
theorem dX12_choose_23 : decode cX12_choose 23 = .ok (.sipush 740, 3) := oc_17 (a := 2) (b := 228) (by decide +kernel)
theorem dX12_choose_26 : decode cX12_choose 26 = .ok (.bipush 12, 2) := oc_16 (a := 12) (by decide +kernel)
theorem dX12_choose_28 : decode cX12_choose 28 = .ok (.iload_n 1, 1) := oc_27 (by decide +kernel)
theorem dX12_choose_29 : decode cX12_choose 29 = .ok (.imul, 1) := oc_104 (by decide +kernel)
theorem dX12_choose_30 : decode cX12_choose 30 = .ok (.iadd, 1) := oc_96 (by decide +kernel)
theorem dX12_choose_31 : decode cX12_choose 31 = .ok (.bipush 8, 2) := oc_16 (a := 8) (by decide +kernel)
theorem dX12_choose_33 : decode cX12_choose 33 = .ok (.iadd, 1) := oc_96 (by decide +kernel)
theorem dX12_choose_34 : decode cX12_choose 34 = .ok (.iload_n 2, 1) := oc_28 (by decide +kernel)
theorem dX12_choose_35 : decode cX12_choose 35 = .ok (.iastore, 1) := oc_79 (by decide +kernel)
theorem dX12_choose_36 : decode cX12_choose 36 = .ok (.iconst 1, 1) := oc_4 (by decide +kernel)
theorem dX12_choose_37 : decode cX12_choose 37 = .ok (.ireturn, 1) := oc_172 (by decide +kernel)
set_option maxHeartbeats 4000000 in
set_option maxRecDepth 100000 in
theorem s_X12_month (l : Launch) (D : va_G) (t : pq_T) (σ : pq_S) (I : Nat → Nat → Int32) (J : Nat → Nat → Int64) (ri : Nat → Nat → Int32) (rj : Nat → Nat → Int64) (rq : Nat → Nat → Option Nat) (sz : Nat) (tg : Nat → Nat) (hSH : SH σ tg) (hG0 : GT tg I ri) (this : Nat) (a0 : Int32) (hL_this : this ∈ σ.1) (hK_this : σ.2.1 this = 12) (this_a : Nat) (hR_this_a : σ.2.2.1 384 this = some this_a) (hL_this_a : this_a ∈ σ.1) (hK_this_a : σ.2.1 this_a = 13) (hN_this_a : σ.2.2.2 this_a = 12720) (hT_this_a : tg this_a = 384) (hm5 : (ri this_a 0).toInt ≤ 599) : MetV l yX12_month (wa yX12_month cX12_month 3 none) ({ frames := 6, cells := 0, slots := 0, locals := 150 }) [.ref this, .int a0] D t σ (I, J, ri, rj, rq) sz 0 0 (fun (u : pq_S × pq_M) => ∃ I' : Nat → Nat → Int32, ∃ ri' : Nat → Nat → Int32, ∃ rj' : Nat → Nat → Int64, u = (σ, I', J, ri', rj', rq) ∧ GM [1305, 1304, 1403, 1000] tg σ I ri I' ri' rq ∧ ((ri' this_a 0).toInt = (ri this_a 0).toInt + 1)) := by
  refine Met.ofW (cc := cX12_month) (maxL := 3) (ret := none) (by decide) rfl ?_
  intro p e s m args below meth c s₁ B hml hv
  obtain ⟨rfl, hsz, hP, hK, hD0, hN⟩ := hv
  have hx := B.exec
  have hb := B.bytes
  have hr := B.returns
  have hts := atoms_spec (ws := (wa yX12_month cX12_month 3 none)) B.pre
  have hown : s.vm.findClass RX12 = some m.cls := findClass_of_methodNamed B.named
  have hlocks := B.notSynchronized
  subst hsz
  have hD : va_D (pq_B t σ (I, J, ri, rj, rq) s.heap.size) (pq_P t σ (I, J, ri, rj, rq)) := hD0.self
  generalize hAe : pq_B t σ (I, J, ri, rj, rq) s.heap.size = A at hD ⊢
  have hA : ∀ q : Nat, s.heap.size ≤ q → A q := fun q h => by rw [← hAe]; exact Or.inr h
  have hS : va_S A s.heap s.heap [] := va_S.rf
  have hG : GM [1305, 1304, 1403, 1000] tg σ I ri I ri rq := ⟨hG0, fun _ _ _ => rfl, fun _ _ _ _ _ => rfl, fun _ _ _ _ _ _ => rfl⟩
  have hl := lv_entry ([.ref this, .int a0]) (n := 3) (Nat.le_of_ble_eq_true rfl)
  rw [lg_entry_eq]
  generalize (lg_sl ([.ref this, .int a0]) ++ List.replicate (3 - (lg_sl ([.ref this, .int a0])).length) Slot.unset).toArray = ls at hl ⊢
  have hl : lv_has ls 3 [(0, .ref this), (1, .int a0)] := hl
  refine q_gen (fun Q hQ => ?_)
  have go : ∀ (H : Heap) (locs : List Loc) (ls : Array Slot), va_P D vwCl (pq_P t σ (I, J, ri, rj, rq)) H → va_D A (pq_P t σ (I, J, ri, rj, rq)) → va_S A s.heap H locs → lv_has ls 3 [(0, .ref this), (1, .int a0)] → W p l e ({ frames := 6, cells := 0, slots := 0, locals := 150 } : Room) s m (List.toArray ([.ref this, .int a0] : List Value)) below meth c H locs 0 0 Q (F0 m 0 ls []) := by
    intro H locs ls hP hD hS hl
    refine lv_aload_n hx hb dX12_month_0 rfl (lv_at hl 0 rfl) ?_
    refine pg_f (v := .ref this_a) (C := RX12) (T := TX12) (N := 31) hx hb hts (tw_i inlX12) hown hK hP hL_this hK_this (by decide) rfl 0 (by decide) (hts _ (tw_c tw_176)) (pq_hv rfl hR_this_a) dX12_month_1 ?_
    refine lv_iconst (v := 0) hx hb dX12_month_4 (by decide) ?_
    refine pl_i hx hb hK hP hL_this_a hK_this_a hN_this_a (vp_in_iff.mpr (by decide)) dX12_month_5 ?_
    refine lv_topi (fun x_1 ex_1 => ?_)
    have h_2 : rg x_1 0 600 := rg_of_eq ex_1 (GM.z hG (by rw [hT_this_a]; decide) (show zn ((0 : Int32)).toNatClampNeg = 0 from by decide) rfl)
    have uh_2 := h_2.1
    have vh_2 := h_2.2
    refine lv_istore_n (lv' := [(2, .int x_1), (0, .ref this), (1, .int a0)]) hx hb dX12_month_6 rfl hl (by decide) rfl (fun ls hl => ?_)
    have h_3 : rg x_1 0 599 := ⟨(h_2).1, by have z1 := congrArg Int32.toInt (show x_1 = ri this_a 0 from ex_1); omega⟩
    have uh_3 := h_3.1
    have vh_3 := h_3.2
    refine lv_aload_n hx hb dX12_month_7 rfl (lv_at hl 1 rfl) ?_
    refine lv_iload_n hx hb dX12_month_8 rfl (lv_at hl 0 rfl) ?_
    refine pk_v (va_runV (As := [.int x_1]) (rest := []) ⟨hx, hb, hml, hown, hts⟩ (s_X12_reefGoes l D t σ I J ri rj rq H.size tg hSH hG.1 this x_1 hL_this hK_this (rg_w h_3 (by decide))) (cwV 1 hts (tw_V tw_1197 tw_1198 tw_1199 tw_5 tw_1200) rfl rfl rfl cv_yX12_reefGoes_1 ⟨Nat.le_of_ble_eq_true rfl, Nat.le_of_ble_eq_true rfl⟩) ⟨pq_blind, pq_recv hK hP hL_this hK_this (by decide) rfl, pq_pre hK hN hP hD⟩ rfl rfl hl.1 rfl (lv_room (Nat.le_of_ble_eq_true rfl)) dX12_month_9 ⟨Nat.le_of_ble_eq_true rfl, Nat.le_of_ble_eq_true rfl⟩) hD hS hA (fun σ1 μ1 H locs hw_5 hP hD hS => ?_)
    obtain ⟨ri_6, hu_7, hg_8⟩ := hw_5
    obtain ⟨hu_7a, hu_7b⟩ := Prod.mk.inj hu_7
    rw [hu_7a, hu_7b] at hP hD
    have hG := GM.tr hG hg_8 (by decide)
    refine lv_aload_n hx hb dX12_month_12 rfl (lv_at hl 1 rfl) ?_
    refine lv_iload_n hx hb dX12_month_13 rfl (lv_at hl 0 rfl) ?_
    refine pk_v (va_runV (As := [.int x_1]) (rest := []) ⟨hx, hb, hml, hown, hts⟩ (s_X12_sandGoes l D t σ I J ri_6 rj rq H.size tg hSH hG.1 this x_1 hL_this hK_this (rg_w h_3 (by decide))) (cwV 1 hts (tw_V tw_1205 tw_1206 tw_1207 tw_5 tw_1208) rfl rfl rfl cv_yX12_sandGoes_1 ⟨Nat.le_of_ble_eq_true rfl, Nat.le_of_ble_eq_true rfl⟩) ⟨pq_blind, pq_recv hK hP hL_this hK_this (by decide) rfl, pq_pre hK hN hP hD⟩ rfl rfl hl.1 rfl (lv_room (Nat.le_of_ble_eq_true rfl)) dX12_month_14 ⟨Nat.le_of_ble_eq_true rfl, Nat.le_of_ble_eq_true rfl⟩) hD hS hA (fun σ1 μ1 H locs hw_11 hP hD hS => ?_)
    obtain ⟨ri_12, hu_13, hg_14⟩ := hw_11
    obtain ⟨hu_13a, hu_13b⟩ := Prod.mk.inj hu_13
    rw [hu_13a, hu_13b] at hP hD
    have hG := GM.tr hG hg_14 (by decide)
    refine lv_aload_n hx hb dX12_month_17 rfl (lv_at hl 1 rfl) ?_
    refine lv_iload_n hx hb dX12_month_18 rfl (lv_at hl 0 rfl) ?_
    refine lv_aload_n hx hb dX12_month_19 rfl (lv_at hl 1 rfl) ?_
    refine lv_iload_n hx hb dX12_month_20 rfl (lv_at hl 2 rfl) ?_
    refine lv_iload_n hx hb dX12_month_21 rfl (lv_at hl 0 rfl) ?_
    refine lv_iload_n hx hb dX12_month_22 rfl (lv_at hl 0 rfl) ?_
    refine pk_i (va_runV (As := [.int a0, .int x_1, .int x_1]) (rest := [.int x_1, .ref this]) ⟨hx, hb, hml, hown, hts⟩ (s_X12_levelAt l D t σ I J ri_12 rj rq H.size tg hSH hG.1 this a0 x_1 x_1 hL_this hK_this) (cwV 3 hts (tw_V tw_289 tw_290 tw_291 tw_5 tw_292) rfl rfl rfl cv_yX12_levelAt_3 ⟨Nat.le_of_ble_eq_true rfl, Nat.le_of_ble_eq_true rfl⟩) ⟨pq_blind, pq_recv hK hP hL_this hK_this (by decide) rfl, pq_pre hK hN hP hD⟩ rfl rfl hl.1 rfl (lv_room (Nat.le_of_ble_eq_true rfl)) dX12_month_23 ⟨Nat.le_of_ble_eq_true rfl, Nat.le_of_ble_eq_true rfl⟩) hD hS hA (fun x_16 σ1 μ1 H locs hw_17 hP hD hS => ?_)
    have hu_18 := hw_17
    obtain ⟨hu_18a, hu_18b⟩ := Prod.mk.inj hu_18
    rw [hu_18a, hu_18b] at hP hD
    refine pk_v (va_runV (As := [.int x_1, .int x_16]) (rest := []) ⟨hx, hb, hml, hown, hts⟩ (s_X12_seaStands l D t σ I J ri_12 rj rq H.size tg hSH hG.1 this x_1 x_16 hL_this hK_this (rg_w h_3 (by decide))) (cwV 2 hts (tw_V tw_1209 tw_1210 tw_1211 tw_5 tw_1212) rfl rfl rfl cv_yX12_seaStands_2 ⟨Nat.le_of_ble_eq_true rfl, Nat.le_of_ble_eq_true rfl⟩) ⟨pq_blind, pq_recv hK hP hL_this hK_this (by decide) rfl, pq_pre hK hN hP hD⟩ rfl rfl hl.1 rfl (lv_room (Nat.le_of_ble_eq_true rfl)) dX12_month_26 ⟨Nat.le_of_ble_eq_true rfl, Nat.le_of_ble_eq_true rfl⟩) hD hS hA (fun σ1 μ1 H locs hw_22 hP hD hS => ?_)
    obtain ⟨ri_23, hu_24, hg_25⟩ := hw_22
    obtain ⟨hu_24a, hu_24b⟩ := Prod.mk.inj hu_24
    rw [hu_24a, hu_24b] at hP hD
    have hG := GM.tr hG hg_25 (by decide)
    refine lv_aload_n hx hb dX12_month_29 rfl (lv_at hl 1 rfl) ?_
    refine pk_v (va_runV (As := []) (rest := []) ⟨hx, hb, hml, hown, hts⟩ (s_X12_drink l D t σ I J ri_23 rj rq H.size tg hSH hG.1 this hL_this hK_this) (cwV 0 hts (tw_V tw_1217 tw_1218 tw_1219 tw_5 tw_1220) rfl rfl rfl cv_yX12_drink_0 ⟨Nat.le_of_ble_eq_true rfl, Nat.le_of_ble_eq_true rfl⟩) ⟨pq_blind, pq_recv hK hP hL_this hK_this (by decide) rfl, pq_pre hK hN hP hD⟩ rfl rfl hl.1 rfl (lv_room (Nat.le_of_ble_eq_true rfl)) dX12_month_30 ⟨Nat.le_of_ble_eq_true rfl, Nat.le_of_ble_eq_true rfl⟩) hD hS hA (fun σ1 μ1 H locs hw_28 hP hD hS => ?_)
    obtain ⟨ri_29, hu_30, hg_31⟩ := hw_28
    obtain ⟨hu_30a, hu_30b⟩ := Prod.mk.inj hu_30
    rw [hu_30a, hu_30b] at hP hD
    have hG := GM.tr hG hg_31 (by decide)
    refine lv_aload_n hx hb dX12_month_33 rfl (lv_at hl 1 rfl) ?_
    refine pk_v (va_runV (As := []) (rest := []) ⟨hx, hb, hml, hown, hts⟩ (s_X12_sleep l D t σ I J ri_29 rj rq H.size tg hSH hG.1 this hL_this hK_this) (cwV 0 hts (tw_V tw_1229 tw_1230 tw_1231 tw_5 tw_1232) rfl rfl rfl cv_yX12_sleep_0 ⟨Nat.le_of_ble_eq_true rfl, Nat.le_of_ble_eq_true rfl⟩) ⟨pq_blind, pq_recv hK hP hL_this hK_this (by decide) rfl, pq_pre hK hN hP hD⟩ rfl rfl hl.1 rfl (lv_room (Nat.le_of_ble_eq_true rfl)) dX12_month_34 ⟨Nat.le_of_ble_eq_true rfl, Nat.le_of_ble_eq_true rfl⟩) hD hS hA (fun σ1 μ1 H locs hw_34 hP hD hS => ?_)
    obtain ⟨ri_35, hu_36, hg_37⟩ := hw_34
    obtain ⟨hu_36a, hu_36b⟩ := Prod.mk.inj hu_36
    rw [hu_36a, hu_36b] at hP hD
    have hG := GM.tr hG hg_37 (by decide)
    refine lv_aload_n hx hb dX12_month_37 rfl (lv_at hl 1 rfl) ?_
    refine lv_iload_n hx hb dX12_month_38 rfl (lv_at hl 0 rfl) ?_
    refine pk_v (va_runV (As := [.int x_1]) (rest := []) ⟨hx, hb, hml, hown, hts⟩ (s_X12_fundGoes l D t σ I J ri_35 rj rq H.size tg hSH hG.1 this x_1 hL_this hK_this (rg_w h_3 (by decide))) (cwV 1 hts (tw_V tw_1233 tw_1234 tw_1235 tw_5 tw_1236) rfl rfl rfl cv_yX12_fundGoes_1 ⟨Nat.le_of_ble_eq_true rfl, Nat.le_of_ble_eq_true rfl⟩) ⟨pq_blind, pq_recv hK hP hL_this hK_this (by decide) rfl, pq_pre hK hN hP hD⟩ rfl rfl hl.1 rfl (lv_room (Nat.le_of_ble_eq_true rfl)) dX12_month_39 ⟨Nat.le_of_ble_eq_true rfl, Nat.le_of_ble_eq_true rfl⟩) hD hS hA (fun σ1 μ1 H locs hw_40 hP hD hS => ?_)
    obtain ⟨I_41, ri_42, hu_43, hg_44⟩ := hw_40
    obtain ⟨hu_43a, hu_43b⟩ := Prod.mk.inj hu_43
    rw [hu_43a, hu_43b] at hP hD
    have hG := GM.tr hG hg_44 (by decide)
    refine lv_aload_n hx hb dX12_month_42 rfl (lv_at hl 1 rfl) ?_
    refine lv_iload_n hx hb dX12_month_43 rfl (lv_at hl 0 rfl) ?_
    obtain ⟨w_46, hR_w_46, hL_w_46, hK_w_46, hN_w_46, hT_w_46⟩ := sh_a hSH 411 (ci := 12) (kd := 13) (len := 40) rfl (by decide) hL_this hK_this
    obtain ⟨w_47, hR_w_47, hL_w_47, hK_w_47, hN_w_47, hT_w_47⟩ := sh_a hSH 412 (ci := 12) (kd := 15) (len := 40) rfl (by decide) hL_this hK_this
    refine pk_v (va_runV (As := [.int x_1]) (rest := []) ⟨hx, hb, hml, hown, hts⟩ (s_X12_boatsGo l D t σ I_41 J ri_42 rj rq H.size tg hSH hG.1 this x_1 hL_this hK_this (rg_w h_3 (by decide)) this_a hR_this_a hL_this_a hK_this_a hN_this_a hT_this_a w_46 hR_w_46 hL_w_46 hK_w_46 hN_w_46 hT_w_46 w_47 hR_w_47 hL_w_47 hK_w_47 hN_w_47 hT_w_47) (cwV 1 hts (tw_V tw_1247 tw_1248 tw_1249 tw_5 tw_1250) rfl rfl rfl cv_yX12_boatsGo_1 ⟨Nat.le_of_ble_eq_true rfl, Nat.le_of_ble_eq_true rfl⟩) ⟨pq_blind, pq_recv hK hP hL_this hK_this (by decide) rfl, pq_pre hK hN hP hD⟩ rfl rfl hl.1 rfl (lv_room (Nat.le_of_ble_eq_true rfl)) dX12_month_44 ⟨Nat.le_of_ble_eq_true rfl, Nat.le_of_ble_eq_true rfl⟩) hD hS hA (fun σ1 μ1 H locs hw_49 hP hD hS => ?_)
    obtain ⟨I_50, ri_51, rj_52, hu_53, hg_54⟩ := hw_49
    obtain ⟨hu_53a, hu_53b⟩ := Prod.mk.inj hu_53
    rw [hu_53a, hu_53b] at hP hD
    have hG := GM.tr hG hg_54 (by decide)
    refine lv_aload_n hx hb dX12_month_47 rfl (lv_at hl 1 rfl) ?_
    refine pg_f (v := .ref this_a) (C := RX12) (T := TX12) (N := 31) hx hb hts (tw_i inlX12) hown hK hP hL_this hK_this (by decide) rfl 0 (by decide) (hts _ (tw_c tw_176)) (pq_hv rfl hR_this_a) dX12_month_48 ?_
    refine lv_iconst (v := 0) hx hb dX12_month_51 (by decide) ?_
    refine lv_dup2_11 hx hb dX12_month_52 rfl rfl ?_
    refine pl_i hx hb hK hP hL_this_a hK_this_a hN_this_a (vp_in_iff.mpr (by decide)) dX12_month_53 ?_
    refine lv_tov x_1 ((hg_54.2.2.1 this_a hT_this_a 0 (by decide) (by decide)).trans ((hg_44.2.2.1 this_a hT_this_a 0 (by decide) (by decide)).trans ((hg_37.2.2.1 this_a hT_this_a 0 (by decide) (by decide)).trans ((hg_31.2.2.1 this_a hT_this_a 0 (by decide) (by decide)).trans ((hg_25.2.2.1 this_a hT_this_a 0 (by decide) (by decide)).trans ((hg_14.2.2.1 this_a hT_this_a 0 (by decide) (by decide)).trans ((hg_8.2.2.1 this_a hT_this_a 0 (by decide) (by decide)).trans ex_1.symm))))))) ?_
    refine lv_iconst (v := 1) hx hb dX12_month_54 (by decide) ?_
    refine lv_iadd hx hb dX12_month_55 ?_
    refine lv_topi (fun x_56 ex_56 => ?_)
    have h_57 : rg x_56 1 600 := rg_of_eq ex_56 (rg_add h_3 (rg_k (1 : Int32) 1 rfl) (by decide))
    have uh_57 := h_57.1
    have vh_57 := h_57.2
    have tx_56 : (x_56).toInt = (x_1).toInt + 1 := by rw [ex_56]; exact i_add_rg (a2 := (x_1).toInt) (b2 := 1) rfl rfl h_3 (rg_k (1 : Int32) 1 rfl) (by decide)
    refine pt_i hx hb hK hP hD hS hL_this_a hK_this_a hN_this_a (vp_in_iff.mpr (by decide)) dX12_month_56 (fun r_58 H locs er_58 hP hD hS => ?_)
    have hG := GM.wz hG hT_this_a (by decide) er_58 (show zn ((0 : Int32)).toNatClampNeg = 0 from by decide) rfl (rg_w h_57 (by decide)) (by decide)
    have h_59 : r_58 this_a 0 = x_56 := cz_eq er_58
    subst hQ
    exact W.vret hx hb hr (fun t1 ht hW => ⟨⟨(σ, I_50, J, r_58, rj_52, rq), rfl, ⟨I_50, r_58, rj_52, rfl, hG, (by have z1 := congrArg Int32.toInt (show r_58 this_a 0 = x_56 from h_59); have z2 := congrArg Int32.toInt (show x_1 = ri this_a 0 from ex_1); omega)⟩, by rw [ht]; exact hP, va_K.moved hW.alike hK, hD⟩, hS.F ht⟩) hS.2.2 dX12_month_57
  exact go _ _ _ hP hD hS hl

set_option maxHeartbeats 4000000 in
set_option maxRecDepth 100000 in
theorem s_X12_sail (l : Launch) (D : va_G) (t : pq_T) (σ : pq_S) (I : Nat → Nat → Int32) (J : Nat → Nat → Int64) (ri : Nat → Nat → Int32) (rj : Nat → Nat → Int64) (rq : Nat → Nat → Option Nat) (sz : Nat) (tg : Nat → Nat) (hSH : SH σ tg) (hG0 : GT tg I ri) (this : Nat) (a0 : Int32) (a1 : Int32) (hL_this : this ∈ σ.1) (hK_this : σ.2.1 this = 12) : MetI l yX12_sail (wa yX12_sail cX12_sail 3 (some .boolean)) ({ frames := 1, cells := 0, slots := 0, locals := 22 }) [.ref this, .int a0, .int a1] D t σ (I, J, ri, rj, rq) sz 0 0 (fun (r : Int32) (u : pq_S × pq_M) => ∃ ri' : Nat → Nat → Int32, u = (σ, I, J, ri', rj, rq) ∧ GM [] tg σ I ri I ri' rq ∧ ((r = 1 ∧ rg a0 0 40 ∧ rg a1 0 100000) ∨ (r = 0 ∧ True))) := by
  refine Met.ofW (cc := cX12_sail) (maxL := 3) (ret := (some .boolean)) (by decide) rfl ?_
  intro p e s m args below meth c s₁ B hml hv
  obtain ⟨rfl, hsz, hP, hK, hD0, hN⟩ := hv
  have hx := B.exec
  have hb := B.bytes
  have hr := B.returns
  have hts := atoms_spec (ws := (wa yX12_sail cX12_sail 3 (some .boolean))) B.pre
  have hown : s.vm.findClass RX12 = some m.cls := findClass_of_methodNamed B.named
  have hlocks := B.notSynchronized
  subst hsz
  have hD : va_D (pq_B t σ (I, J, ri, rj, rq) s.heap.size) (pq_P t σ (I, J, ri, rj, rq)) := hD0.self
  generalize hAe : pq_B t σ (I, J, ri, rj, rq) s.heap.size = A at hD ⊢
  have hA : ∀ q : Nat, s.heap.size ≤ q → A q := fun q h => by rw [← hAe]; exact Or.inr h
  have hS : va_S A s.heap s.heap [] := va_S.rf
  have hG : GM [] tg σ I ri I ri rq := ⟨hG0, fun _ _ _ => rfl, fun _ _ _ _ _ => rfl, fun _ _ _ _ _ _ => rfl⟩
  have hl := lv_entry ([.ref this, .int a0, .int a1]) (n := 3) (Nat.le_of_ble_eq_true rfl)
  rw [lg_entry_eq]
  generalize (lg_sl ([.ref this, .int a0, .int a1]) ++ List.replicate (3 - (lg_sl ([.ref this, .int a0, .int a1])).length) Slot.unset).toArray = ls at hl ⊢
  have hl : lv_has ls 3 [(0, .ref this), (1, .int a0), (2, .int a1)] := hl
  refine q_gen (fun Q hQ => ?_)
  have go : ∀ (H : Heap) (locs : List Loc) (ls : Array Slot), va_P D vwCl (pq_P t σ (I, J, ri, rj, rq)) H → va_D A (pq_P t σ (I, J, ri, rj, rq)) → va_S A s.heap H locs → lv_has ls 3 [(0, .ref this), (1, .int a0), (2, .int a1)] → W p l e ({ frames := 1, cells := 0, slots := 0, locals := 22 } : Room) s m (List.toArray ([.ref this, .int a0, .int a1] : List Value)) below meth c H locs 0 0 Q (F0 m 0 ls []) := by
    intro H locs ls hP hD hS hl
    refine lv_iload_n hx hb dX12_sail_0 rfl (lv_at hl 1 rfl) ?_
    refine lv_iconst (v := 0) hx hb dX12_sail_1 (by decide) ?_
    refine lv_bipush (v := 40) hx hb dX12_sail_2 (by decide) ?_
    refine pk_i (va_runS (As := [.int a0, .int 0, .int 40]) (rest := []) ⟨hx, hb, hml, hown, hts⟩ (s_X12_isIn l D t σ I J ri rj rq H.size tg hSH hG.1 a0 (0 : Int32) (40 : Int32)) (va_cwS 3 hts (tw_S tw_235 tw_236 tw_5 tw_237) rfl rfl rfl cd_yX12_isIn_3 ⟨Nat.le_of_ble_eq_true rfl, Nat.le_of_ble_eq_true rfl⟩) ⟨pq_blind, pq_pre hK hN hP hD⟩ rfl rfl hl.1 rfl (lv_room (Nat.le_of_ble_eq_true rfl)) dX12_sail_4 ⟨Nat.le_of_ble_eq_true rfl, Nat.le_of_ble_eq_true rfl⟩) hD hS hA (fun x_1 σ1 μ1 H locs hw_2 hP hD hS => ?_)
    obtain ⟨hu_3, hr_5⟩ := hw_2
    obtain ⟨hu_3a, hu_3b⟩ := Prod.mk.inj hu_3
    rw [hu_3a, hu_3b] at hP hD
    have h_6 : rg x_1 0 1 := by rcases hr_5 with ⟨q, -⟩ | ⟨q, -⟩ <;> rw [q] <;> exact ⟨by decide, by decide⟩
    have uh_6 := h_6.1
    have vh_6 := h_6.2
    have K_42 : ∀  (H : Heap) (locs : List Loc) (ls : Array Slot), GM [] tg σ I ri I ri rq → va_P D vwCl (pq_P t σ (I, J, ri, rj, rq)) H → va_D A (pq_P t σ (I, J, ri, rj, rq)) → va_S A s.heap H locs → lv_has ls 3 [] → W p l e ({ frames := 1, cells := 0, slots := 0, locals := 22 } : Room) s m (List.toArray ([.ref this, .int a0, .int a1] : List Value)) below meth c H locs 0 0 Q (F0 m 20 ls []) := by
      intro H locs ls hG hP hD hS hl
      refine lv_iconst (v := 0) hx hb dX12_sail_20 (by decide) ?_
      subst hQ
      exact W.zret (v := 0) hx hb hr (by decide) (fun t1 ht hW => ⟨⟨0, (σ, I, J, ri, rj, rq), rfl, ⟨ri, rfl, hG, (Or.inr ⟨rfl, trivial⟩)⟩, by rw [ht]; exact hP, va_K.moved hW.alike hK, hD⟩, hS.F ht⟩) hS.2.2 dX12_sail_21
    refine lv_if_eq (tgt := 20) hx hb dX12_sail_7 (by decide) (fun c_43 => ?_) (fun c_43 => ?_)
    · have f_44 := (hr_5.resolve_left (fun q => absurd (q.1.symm.trans c_43) (by decide))).2
      have tc_45 : (x_1).toInt = 0 := congrArg Int32.toInt c_43
      have h_46 : rg x_1 0 0 := rg_and h_6 (rg_of_eq c_43 (rg_k (0 : Int32) 0 rfl)) (by decide)
      have uh_46 := h_46.1
      have vh_46 := h_46.2
      exact K_42 _ _ _ hG hP hD hS (lv_sub hl [] rfl)
    · obtain ⟨f_47, f_48⟩ := (hr_5.resolve_right (fun q => c_43 q.1)).2
      have tc_49 : 0 ≤ (a0).toInt := Int32.le_iff_toInt_le.mp f_47
      have h_50 : rg a0 0 2147483647 := rg_le2 f_47 (rg_k (0 : Int32) 0 rfl) (rg_full _) (by decide)
      have uh_50 := h_50.1
      have vh_50 := h_50.2
      have tc_51 : (a0).toInt ≤ 40 := Int32.le_iff_toInt_le.mp f_48
      have h_52 : rg a0 0 40 := rg_le1 f_48 h_50 (rg_k (40 : Int32) 40 rfl) (by decide)
      have uh_52 := h_52.1
      have vh_52 := h_52.2
      have tc_53 : (x_1).toInt ≠ 0 := fun q => c_43 (Int32.toInt_inj.mp q)
      have h_54 : rg x_1 1 1 := rg_ne c_43 h_6 0 rfl (by decide)
      have uh_54 := h_54.1
      have vh_54 := h_54.2
      refine lv_iload_n hx hb dX12_sail_10 rfl (lv_at hl 2 rfl) ?_
      refine lv_iconst (v := 0) hx hb dX12_sail_11 (by decide) ?_
      refine lv_ldc hx hb hown (hts _ (tw_c tw_837)) dX12_sail_12 ?_
      refine pk_i (va_runS (As := [.int a1, .int 0, .int 100000]) (rest := []) ⟨hx, hb, hml, hown, hts⟩ (s_X12_isIn l D t σ I J ri rj rq H.size tg hSH hG.1 a1 (0 : Int32) (100000 : Int32)) (va_cwS 3 hts (tw_S tw_235 tw_236 tw_5 tw_237) rfl rfl rfl cd_yX12_isIn_3 ⟨Nat.le_of_ble_eq_true rfl, Nat.le_of_ble_eq_true rfl⟩) ⟨pq_blind, pq_pre hK hN hP hD⟩ rfl rfl hl.1 rfl (lv_room (Nat.le_of_ble_eq_true rfl)) dX12_sail_14 ⟨Nat.le_of_ble_eq_true rfl, Nat.le_of_ble_eq_true rfl⟩) hD hS hA (fun x_55 σ1 μ1 H locs hw_56 hP hD hS => ?_)
      obtain ⟨hu_57, hr_59⟩ := hw_56
      obtain ⟨hu_57a, hu_57b⟩ := Prod.mk.inj hu_57
      rw [hu_57a, hu_57b] at hP hD
      have h_60 : rg x_55 0 1 := by rcases hr_59 with ⟨q, -⟩ | ⟨q, -⟩ <;> rw [q] <;> exact ⟨by decide, by decide⟩
      have uh_60 := h_60.1
      have vh_60 := h_60.2
      refine lv_if_ne (tgt := 22) hx hb dX12_sail_17 (by decide) (fun c_61 => ?_) (fun c_61 => ?_)
      · obtain ⟨f_62, f_63⟩ := (hr_59.resolve_right (fun q => c_61 q.1)).2
        have tc_64 : 0 ≤ (a1).toInt := Int32.le_iff_toInt_le.mp f_62
        have h_65 : rg a1 0 2147483647 := rg_le2 f_62 (rg_k (0 : Int32) 0 rfl) (rg_full _) (by decide)
        have uh_65 := h_65.1
        have vh_65 := h_65.2
        have tc_66 : (a1).toInt ≤ 100000 := Int32.le_iff_toInt_le.mp f_63
        have h_67 : rg a1 0 100000 := rg_le1 f_63 h_65 (rg_k (100000 : Int32) 100000 rfl) (by decide)
        have uh_67 := h_67.1
        have vh_67 := h_67.2
        have tc_68 : (x_55).toInt ≠ 0 := fun q => c_61 (Int32.toInt_inj.mp q)
        have h_69 : rg x_55 1 1 := rg_ne c_61 h_60 0 rfl (by decide)
        have uh_69 := h_69.1
        have vh_69 := h_69.2
        refine lv_aload_n hx hb dX12_sail_22 rfl (lv_at hl 0 rfl) ?_
        obtain ⟨w_70, hR_w_70, hL_w_70, hK_w_70, hN_w_70, hT_w_70⟩ := sh_a hSH 384 (ci := 12) (kd := 13) (len := 12720) rfl (by decide) hL_this hK_this
        refine pg_f (v := .ref w_70) (C := RX12) (T := TX12) (N := 31) hx hb hts (tw_i inlX12) hown hK hP hL_this hK_this (by decide) rfl 0 (by decide) (hts _ (tw_c tw_176)) (pq_hv rfl hR_w_70) dX12_sail_23 ?_
        refine lv_bipush (v := 11) hx hb dX12_sail_26 (by decide) ?_
        refine lv_iload_n hx hb dX12_sail_28 rfl (lv_at hl 1 rfl) ?_
        refine pt_i hx hb hK hP hD hS hL_w_70 hK_w_70 hN_w_70 (vp_in_iff.mpr (by decide)) dX12_sail_29 (fun r_71 H locs er_71 hP hD hS => ?_)
        have hG := GM.wz hG hT_w_70 (by decide) er_71 (show zn ((11 : Int32)).toNatClampNeg = 11 from by decide) rfl (rg_w h_52 (by decide)) (by decide)
        refine lv_aload_n hx hb dX12_sail_30 rfl (lv_at hl 0 rfl) ?_
        refine pg_f (v := .ref w_70) (C := RX12) (T := TX12) (N := 31) hx hb hts (tw_i inlX12) hown hK hP hL_this hK_this (by decide) rfl 0 (by decide) (hts _ (tw_c tw_176)) (pq_hv rfl hR_w_70) dX12_sail_31 ?_
        refine lv_bipush (v := 8) hx hb dX12_sail_34 (by decide) ?_
        refine lv_dup2_11 hx hb dX12_sail_36 rfl rfl ?_
        refine pl_i hx hb hK hP hL_w_70 hK_w_70 hN_w_70 (vp_in_iff.mpr (by decide)) dX12_sail_37 ?_
        refine lv_topi (fun x_72 ex_72 => ?_)
        refine lv_iload_n hx hb dX12_sail_38 rfl (lv_at hl 2 rfl) ?_
        refine lv_iadd hx hb dX12_sail_39 ?_
        refine lv_topi (fun x_73 ex_73 => ?_)
        refine pt_i hx hb hK hP hD hS hL_w_70 hK_w_70 hN_w_70 (vp_in_iff.mpr (by decide)) dX12_sail_40 (fun r_74 H locs er_74 hP hD hS => ?_)
        have hG := GM.wz hG hT_w_70 (by decide) er_74 (show zn ((8 : Int32)).toNatClampNeg = 8 from by decide) rfl (rg_w (rg_full _) (by decide)) (by decide)
        refine lv_iconst (v := 1) hx hb dX12_sail_41 (by decide) ?_
        subst hQ
        exact W.zret (v := 1) hx hb hr (by decide) (fun t1 ht hW => ⟨⟨1, (σ, I, J, r_74, rj, rq), rfl, ⟨r_74, rfl, hG, (Or.inl ⟨rfl, (rg_w h_52 (by decide)), (rg_w h_67 (by decide))⟩)⟩, by rw [ht]; exact hP, va_K.moved hW.alike hK, hD⟩, hS.F ht⟩) hS.2.2 dX12_sail_42
      · have f_75 := (hr_59.resolve_left (fun q => absurd (q.1.symm.trans c_61) (by decide))).2
        have tc_76 : (x_55).toInt = 0 := congrArg Int32.toInt c_61
        have h_77 : rg x_55 0 0 := rg_and h_60 (rg_of_eq c_61 (rg_k (0 : Int32) 0 rfl)) (by decide)
        have uh_77 := h_77.1
        have vh_77 := h_77.2
        exact K_42 _ _ _ hG hP hD hS (lv_sub hl [] rfl)
  exact go _ _ _ hP hD hS hl

set_option maxHeartbeats 4000000 in
set_option maxRecDepth 100000 in
theorem s_X12_cellAt_c13 (l : Launch) (D : va_G) (t : pq_T) (σ : pq_S) (I : Nat → Nat → Int32) (J : Nat → Nat → Int64) (ri : Nat → Nat → Int32) (rj : Nat → Nat → Int64) (rq : Nat → Nat → Option Nat) (sz : Nat) (tg : Nat → Nat) (hSH : SH σ tg) (hG0 : GT tg I ri) (this : Nat) (a0 : Int32) (hL_this : this ∈ σ.1) (hK_this : σ.2.1 this = 12) (h_a0 : rg a0 0 39) : MetI l yX12_cellAt (wa yX12_cellAt cX12_cellAt 3 (some .int)) ({ frames := 0, cells := 0, slots := 0, locals := 0 }) [.ref this, .int a0, .int 13] D t σ (I, J, ri, rj, rq) sz 0 0 (fun (r : Int32) (u : pq_S × pq_M) => u = (σ, I, J, ri, rj, rq)) := by
  refine Met.ofW (cc := cX12_cellAt) (maxL := 3) (ret := (some .int)) (by decide) rfl ?_
  intro p e s m args below meth c s₁ B hml hv
  obtain ⟨rfl, hsz, hP, hK, hD0, hN⟩ := hv
  have hx := B.exec
  have hb := B.bytes
  have hr := B.returns
  have hts := atoms_spec (ws := (wa yX12_cellAt cX12_cellAt 3 (some .int))) B.pre
  have hown : s.vm.findClass RX12 = some m.cls := findClass_of_methodNamed B.named
  have hlocks := B.notSynchronized
  subst hsz
  have hD : va_D (pq_B t σ (I, J, ri, rj, rq) s.heap.size) (pq_P t σ (I, J, ri, rj, rq)) := hD0.self
  generalize hAe : pq_B t σ (I, J, ri, rj, rq) s.heap.size = A at hD ⊢
  have hA : ∀ q : Nat, s.heap.size ≤ q → A q := fun q h => by rw [← hAe]; exact Or.inr h
  have hS : va_S A s.heap s.heap [] := va_S.rf
  have hG : GM [] tg σ I ri I ri rq := ⟨hG0, fun _ _ _ => rfl, fun _ _ _ _ _ => rfl, fun _ _ _ _ _ _ => rfl⟩
  have hl := lv_entry ([.ref this, .int a0, .int 13]) (n := 3) (Nat.le_of_ble_eq_true rfl)
  rw [lg_entry_eq]
  generalize (lg_sl ([.ref this, .int a0, .int 13]) ++ List.replicate (3 - (lg_sl ([.ref this, .int a0, .int 13])).length) Slot.unset).toArray = ls at hl ⊢
  have hl : lv_has ls 3 [(0, .ref this), (1, .int a0), (2, .int 13)] := hl
  refine q_gen (fun Q hQ => ?_)
  have go : ∀ (H : Heap) (locs : List Loc) (ls : Array Slot), va_P D vwCl (pq_P t σ (I, J, ri, rj, rq)) H → va_D A (pq_P t σ (I, J, ri, rj, rq)) → va_S A s.heap H locs → lv_has ls 3 [(0, .ref this), (1, .int a0), (2, .int 13)] → W p l e ({ frames := 0, cells := 0, slots := 0, locals := 0 } : Room) s m (List.toArray ([.ref this, .int a0, .int 13] : List Value)) below meth c H locs 0 0 Q (F0 m 0 ls []) := by
    intro H locs ls hP hD hS hl
    refine lv_aload_n hx hb dX12_cellAt_0 rfl (lv_at hl 0 rfl) ?_
    obtain ⟨w_1, hR_w_1, hL_w_1, hK_w_1, hN_w_1, hT_w_1⟩ := sh_a hSH 384 (ci := 12) (kd := 13) (len := 12720) rfl (by decide) hL_this hK_this
    refine pg_f (v := .ref w_1) (C := RX12) (T := TX12) (N := 31) hx hb hts (tw_i inlX12) hown hK hP hL_this hK_this (by decide) rfl 0 (by decide) (hts _ (tw_c tw_176)) (pq_hv rfl hR_w_1) dX12_cellAt_1 ?_
    refine lv_bipush (v := 100) hx hb dX12_cellAt_4 (by decide) ?_
    refine lv_bipush (v := 16) hx hb dX12_cellAt_6 (by decide) ?_
    refine lv_iload_n hx hb dX12_cellAt_8 rfl (lv_at hl 1 rfl) ?_
    refine lv_imul hx hb dX12_cellAt_9 ?_
    refine lv_topi (fun x_2 ex_2 => ?_)
    have h_3 : rg x_2 0 624 := rg_of_eq ex_2 (rg_mul (rg_k (16 : Int32) 16 rfl) h_a0 (by decide))
    have uh_3 := h_3.1
    have vh_3 := h_3.2
    have tx_2 : (x_2).toInt = 16 * (a0).toInt := by rw [ex_2]; exact i_mul_rg (a2 := 16) (b2 := (a0).toInt) rfl rfl (rg_k (16 : Int32) 16 rfl) h_a0 (by decide)
    refine lv_iadd hx hb dX12_cellAt_10 ?_
    refine lv_topi (fun x_4 ex_4 => ?_)
    have h_5 : rg x_4 100 724 := rg_of_eq ex_4 (rg_add (rg_k (100 : Int32) 100 rfl) h_3 (by decide))
    have uh_5 := h_5.1
    have vh_5 := h_5.2
    have tx_4 : (x_4).toInt = 100 + (x_2).toInt := by rw [ex_4]; exact i_add_rg (a2 := 100) (b2 := (x_2).toInt) rfl rfl (rg_k (100 : Int32) 100 rfl) h_3 (by decide)
    refine lv_iload_n hx hb dX12_cellAt_11 rfl (lv_at hl 2 rfl) ?_
    refine lv_iadd hx hb dX12_cellAt_12 ?_
    refine lv_topi (fun x_6 ex_6 => ?_)
    have h_7 : rg x_6 113 737 := rg_of_eq ex_6 (rg_add h_5 (rg_k (13 : Int32) 13 rfl) (by decide))
    have uh_7 := h_7.1
    have vh_7 := h_7.2
    have tx_6 : (x_6).toInt = (x_4).toInt + 13 := by rw [ex_6]; exact i_add_rg (a2 := (x_4).toInt) (b2 := 13) rfl rfl h_5 (rg_k (13 : Int32) 13 rfl) (by decide)
    refine pl_i hx hb hK hP hL_w_1 hK_w_1 hN_w_1 (rg_in h_7 (by decide)) dX12_cellAt_13 ?_
    refine lv_topi (fun x_8 ex_8 => ?_)
    subst hQ
    exact W.iret (v := x_8) hx hb hr (fun t1 ht hW => ⟨⟨x_8, (σ, I, J, ri, rj, rq), rfl, rfl, by rw [ht]; exact hP, va_K.moved hW.alike hK, hD⟩, hS.F ht⟩) hS.2.2 dX12_cellAt_14
  exact go _ _ _ hP hD hS hl

set_option maxHeartbeats 4000000 in
set_option maxRecDepth 100000 in
theorem s_X12_cellOf (l : Launch) (D : va_G) (t : pq_T) (σ : pq_S) (I : Nat → Nat → Int32) (J : Nat → Nat → Int64) (ri : Nat → Nat → Int32) (rj : Nat → Nat → Int64) (rq : Nat → Nat → Option Nat) (sz : Nat) (tg : Nat → Nat) (hSH : SH σ tg) (hG0 : GT tg I ri) (this : Nat) (a0 : Int32) (a1 : Int32) (hL_this : this ∈ σ.1) (hK_this : σ.2.1 this = 12) : MetI l yX12_cellOf (wa yX12_cellOf cX12_cellOf 3 (some .int)) ({ frames := 2, cells := 0, slots := 0, locals := 43 }) [.ref this, .int a0, .int a1] D t σ (I, J, ri, rj, rq) sz 0 0 (fun (r : Int32) (u : pq_S × pq_M) => u = (σ, I, J, ri, rj, rq)) := by
  refine Met.ofW (cc := cX12_cellOf) (maxL := 3) (ret := (some .int)) (by decide) rfl ?_
  intro p e s m args below meth c s₁ B hml hv
  obtain ⟨rfl, hsz, hP, hK, hD0, hN⟩ := hv
  have hx := B.exec
  have hb := B.bytes
  have hr := B.returns
  have hts := atoms_spec (ws := (wa yX12_cellOf cX12_cellOf 3 (some .int))) B.pre
  have hown : s.vm.findClass RX12 = some m.cls := findClass_of_methodNamed B.named
  have hlocks := B.notSynchronized
  subst hsz
  have hD : va_D (pq_B t σ (I, J, ri, rj, rq) s.heap.size) (pq_P t σ (I, J, ri, rj, rq)) := hD0.self
  generalize hAe : pq_B t σ (I, J, ri, rj, rq) s.heap.size = A at hD ⊢
  have hA : ∀ q : Nat, s.heap.size ≤ q → A q := fun q h => by rw [← hAe]; exact Or.inr h
  have hS : va_S A s.heap s.heap [] := va_S.rf
  have hG : GM [] tg σ I ri I ri rq := ⟨hG0, fun _ _ _ => rfl, fun _ _ _ _ _ => rfl, fun _ _ _ _ _ _ => rfl⟩
  have hl := lv_entry ([.ref this, .int a0, .int a1]) (n := 3) (Nat.le_of_ble_eq_true rfl)
  rw [lg_entry_eq]
  generalize (lg_sl ([.ref this, .int a0, .int a1]) ++ List.replicate (3 - (lg_sl ([.ref this, .int a0, .int a1])).length) Slot.unset).toArray = ls at hl ⊢
  have hl : lv_has ls 3 [(0, .ref this), (1, .int a0), (2, .int a1)] := hl
  refine q_gen (fun Q hQ => ?_)
  have go : ∀ (H : Heap) (locs : List Loc) (ls : Array Slot), va_P D vwCl (pq_P t σ (I, J, ri, rj, rq)) H → va_D A (pq_P t σ (I, J, ri, rj, rq)) → va_S A s.heap H locs → lv_has ls 3 [(0, .ref this), (1, .int a0), (2, .int a1)] → W p l e ({ frames := 2, cells := 0, slots := 0, locals := 43 } : Room) s m (List.toArray ([.ref this, .int a0, .int a1] : List Value)) below meth c H locs 0 0 Q (F0 m 0 ls []) := by
    intro H locs ls hP hD hS hl
    refine lv_aload_n hx hb dX12_cellOf_0 rfl (lv_at hl 0 rfl) ?_
    refine lv_iload_n hx hb dX12_cellOf_1 rfl (lv_at hl 1 rfl) ?_
    refine pk_i (va_runV (As := [.int a0]) (rest := []) ⟨hx, hb, hml, hown, hts⟩ (s_X12_isCell l D t σ I J ri rj rq H.size tg hSH hG.1 this a0 hL_this hK_this) (cwV 1 hts (tw_V tw_340 tw_341 tw_342 tw_5 tw_343) rfl rfl rfl cv_yX12_isCell_1 ⟨Nat.le_of_ble_eq_true rfl, Nat.le_of_ble_eq_true rfl⟩) ⟨pq_blind, pq_recv hK hP hL_this hK_this (by decide) rfl, pq_pre hK hN hP hD⟩ rfl rfl hl.1 rfl (lv_room (Nat.le_of_ble_eq_true rfl)) dX12_cellOf_2 ⟨Nat.le_of_ble_eq_true rfl, Nat.le_of_ble_eq_true rfl⟩) hD hS hA (fun x_1 σ1 μ1 H locs hw_2 hP hD hS => ?_)
    obtain ⟨hu_3, hr_5⟩ := hw_2
    obtain ⟨hu_3a, hu_3b⟩ := Prod.mk.inj hu_3
    rw [hu_3a, hu_3b] at hP hD
    have h_6 : rg x_1 0 1 := by rcases hr_5 with ⟨q, -⟩ | ⟨q, -⟩ <;> rw [q] <;> exact ⟨by decide, by decide⟩
    have uh_6 := h_6.1
    have vh_6 := h_6.2
    refine lv_if_ne (tgt := 11) hx hb dX12_cellOf_5 (by decide) (fun c_7 => ?_) (fun c_7 => ?_)
    · have f_8 := (hr_5.resolve_right (fun q => c_7 q.1)).2
      have uf_8 := f_8.1
      have vf_8 := f_8.2
      have tc_9 : (x_1).toInt ≠ 0 := fun q => c_7 (Int32.toInt_inj.mp q)
      have h_10 : rg x_1 1 1 := rg_ne c_7 h_6 0 rfl (by decide)
      have uh_10 := h_10.1
      have vh_10 := h_10.2
      refine lv_iload_n hx hb dX12_cellOf_11 rfl (lv_at hl 2 rfl) ?_
      by_cases k_11 : a1 = (0 : Int32)
      · have tc_12 : (a1).toInt = 0 := congrArg Int32.toInt k_11
        have h_13 : rg a1 0 0 := rg_and (rg_full _) (rg_of_eq k_11 (rg_k (0 : Int32) 0 rfl)) (by decide)
        have uh_13 := h_13.1
        have vh_13 := h_13.2
        refine lv_tov 0 k_11 ?_
        refine lv_tableIn (tgt := 76) hx hb dX12_cellOf_12 (by decide) (by decide) rfl (by decide) ?_
        refine lv_aload_n hx hb dX12_cellOf_76 rfl (lv_at hl 0 rfl) ?_
        refine lv_iload_n hx hb dX12_cellOf_77 rfl (lv_at hl 1 rfl) ?_
        refine lv_iconst (v := 0) hx hb dX12_cellOf_78 (by decide) ?_
        refine pk_i (va_runV (As := [.int a0, .int 0]) (rest := []) ⟨hx, hb, hml, hown, hts⟩ (s_X12_cellAt_c0 l D t σ I J ri rj rq H.size tg hSH hG.1 this a0 hL_this hK_this (rg_w f_8 (by decide))) (cwV 2 hts (tw_V tw_361 tw_362 tw_363 tw_5 tw_364) rfl rfl rfl cv_yX12_cellAt_2 ⟨Nat.le_of_ble_eq_true rfl, Nat.le_of_ble_eq_true rfl⟩) ⟨pq_blind, pq_recv hK hP hL_this hK_this (by decide) rfl, pq_pre hK hN hP hD⟩ rfl rfl hl.1 rfl (lv_room (Nat.le_of_ble_eq_true rfl)) dX12_cellOf_79 ⟨Nat.le_of_ble_eq_true rfl, Nat.le_of_ble_eq_true rfl⟩) hD hS hA (fun x_14 σ1 μ1 H locs hw_15 hP hD hS => ?_)
        have hu_16 := hw_15
        obtain ⟨hu_16a, hu_16b⟩ := Prod.mk.inj hu_16
        rw [hu_16a, hu_16b] at hP hD
        subst hQ
        exact W.iret (v := x_14) hx hb hr (fun t1 ht hW => ⟨⟨x_14, (σ, I, J, ri, rj, rq), rfl, rfl, by rw [ht]; exact hP, va_K.moved hW.alike hK, hD⟩, hS.F ht⟩) hS.2.2 dX12_cellOf_82
      by_cases k_19 : a1 = (1 : Int32)
      · have tc_20 : (a1).toInt = 1 := congrArg Int32.toInt k_19
        have h_21 : rg a1 1 1 := rg_and (rg_full _) (rg_of_eq k_19 (rg_k (1 : Int32) 1 rfl)) (by decide)
        have uh_21 := h_21.1
        have vh_21 := h_21.2
        refine lv_tov 1 k_19 ?_
        refine lv_tableIn (tgt := 83) hx hb dX12_cellOf_12 (by decide) (by decide) rfl (by decide) ?_
        refine lv_aload_n hx hb dX12_cellOf_83 rfl (lv_at hl 0 rfl) ?_
        refine lv_iload_n hx hb dX12_cellOf_84 rfl (lv_at hl 1 rfl) ?_
        refine lv_iconst (v := 1) hx hb dX12_cellOf_85 (by decide) ?_
        refine pk_i (va_runV (As := [.int a0, .int 1]) (rest := []) ⟨hx, hb, hml, hown, hts⟩ (s_X12_cellAt_c1 l D t σ I J ri rj rq H.size tg hSH hG.1 this a0 hL_this hK_this (rg_w f_8 (by decide))) (cwV 2 hts (tw_V tw_361 tw_362 tw_363 tw_5 tw_364) rfl rfl rfl cv_yX12_cellAt_2 ⟨Nat.le_of_ble_eq_true rfl, Nat.le_of_ble_eq_true rfl⟩) ⟨pq_blind, pq_recv hK hP hL_this hK_this (by decide) rfl, pq_pre hK hN hP hD⟩ rfl rfl hl.1 rfl (lv_room (Nat.le_of_ble_eq_true rfl)) dX12_cellOf_86 ⟨Nat.le_of_ble_eq_true rfl, Nat.le_of_ble_eq_true rfl⟩) hD hS hA (fun x_22 σ1 μ1 H locs hw_23 hP hD hS => ?_)
        have hu_24 := hw_23
        obtain ⟨hu_24a, hu_24b⟩ := Prod.mk.inj hu_24
        rw [hu_24a, hu_24b] at hP hD
        subst hQ
        exact W.iret (v := x_22) hx hb hr (fun t1 ht hW => ⟨⟨x_22, (σ, I, J, ri, rj, rq), rfl, rfl, by rw [ht]; exact hP, va_K.moved hW.alike hK, hD⟩, hS.F ht⟩) hS.2.2 dX12_cellOf_89
      by_cases k_27 : a1 = (2 : Int32)
      · have tc_28 : (a1).toInt = 2 := congrArg Int32.toInt k_27
        have h_29 : rg a1 2 2 := rg_and (rg_full _) (rg_of_eq k_27 (rg_k (2 : Int32) 2 rfl)) (by decide)
        have uh_29 := h_29.1
        have vh_29 := h_29.2
        refine lv_tov 2 k_27 ?_
        refine lv_tableIn (tgt := 90) hx hb dX12_cellOf_12 (by decide) (by decide) rfl (by decide) ?_
        refine lv_aload_n hx hb dX12_cellOf_90 rfl (lv_at hl 0 rfl) ?_
        refine lv_iload_n hx hb dX12_cellOf_91 rfl (lv_at hl 1 rfl) ?_
        refine lv_iconst (v := 4) hx hb dX12_cellOf_92 (by decide) ?_
        refine pk_i (va_runV (As := [.int a0, .int 4]) (rest := []) ⟨hx, hb, hml, hown, hts⟩ (s_X12_cellAt_c4 l D t σ I J ri rj rq H.size tg hSH hG.1 this a0 hL_this hK_this (rg_w f_8 (by decide))) (cwV 2 hts (tw_V tw_361 tw_362 tw_363 tw_5 tw_364) rfl rfl rfl cv_yX12_cellAt_2 ⟨Nat.le_of_ble_eq_true rfl, Nat.le_of_ble_eq_true rfl⟩) ⟨pq_blind, pq_recv hK hP hL_this hK_this (by decide) rfl, pq_pre hK hN hP hD⟩ rfl rfl hl.1 rfl (lv_room (Nat.le_of_ble_eq_true rfl)) dX12_cellOf_93 ⟨Nat.le_of_ble_eq_true rfl, Nat.le_of_ble_eq_true rfl⟩) hD hS hA (fun x_30 σ1 μ1 H locs hw_31 hP hD hS => ?_)
        have hu_32 := hw_31
        obtain ⟨hu_32a, hu_32b⟩ := Prod.mk.inj hu_32
        rw [hu_32a, hu_32b] at hP hD
        subst hQ
        exact W.iret (v := x_30) hx hb hr (fun t1 ht hW => ⟨⟨x_30, (σ, I, J, ri, rj, rq), rfl, rfl, by rw [ht]; exact hP, va_K.moved hW.alike hK, hD⟩, hS.F ht⟩) hS.2.2 dX12_cellOf_96
      by_cases k_35 : a1 = (3 : Int32)
      · have tc_36 : (a1).toInt = 3 := congrArg Int32.toInt k_35
        have h_37 : rg a1 3 3 := rg_and (rg_full _) (rg_of_eq k_35 (rg_k (3 : Int32) 3 rfl)) (by decide)
        have uh_37 := h_37.1
        have vh_37 := h_37.2
        refine lv_tov 3 k_35 ?_
        refine lv_tableIn (tgt := 97) hx hb dX12_cellOf_12 (by decide) (by decide) rfl (by decide) ?_
        refine lv_aload_n hx hb dX12_cellOf_97 rfl (lv_at hl 0 rfl) ?_
        refine lv_iload_n hx hb dX12_cellOf_98 rfl (lv_at hl 1 rfl) ?_
        refine lv_iconst (v := 5) hx hb dX12_cellOf_99 (by decide) ?_
        refine pk_i (va_runV (As := [.int a0, .int 5]) (rest := []) ⟨hx, hb, hml, hown, hts⟩ (s_X12_cellAt_c5 l D t σ I J ri rj rq H.size tg hSH hG.1 this a0 hL_this hK_this (rg_w f_8 (by decide))) (cwV 2 hts (tw_V tw_361 tw_362 tw_363 tw_5 tw_364) rfl rfl rfl cv_yX12_cellAt_2 ⟨Nat.le_of_ble_eq_true rfl, Nat.le_of_ble_eq_true rfl⟩) ⟨pq_blind, pq_recv hK hP hL_this hK_this (by decide) rfl, pq_pre hK hN hP hD⟩ rfl rfl hl.1 rfl (lv_room (Nat.le_of_ble_eq_true rfl)) dX12_cellOf_100 ⟨Nat.le_of_ble_eq_true rfl, Nat.le_of_ble_eq_true rfl⟩) hD hS hA (fun x_38 σ1 μ1 H locs hw_39 hP hD hS => ?_)
        have hu_40 := hw_39
        obtain ⟨hu_40a, hu_40b⟩ := Prod.mk.inj hu_40
        rw [hu_40a, hu_40b] at hP hD
        subst hQ
        exact W.iret (v := x_38) hx hb hr (fun t1 ht hW => ⟨⟨x_38, (σ, I, J, ri, rj, rq), rfl, rfl, by rw [ht]; exact hP, va_K.moved hW.alike hK, hD⟩, hS.F ht⟩) hS.2.2 dX12_cellOf_103
      by_cases k_43 : a1 = (4 : Int32)
      · have tc_44 : (a1).toInt = 4 := congrArg Int32.toInt k_43
        have h_45 : rg a1 4 4 := rg_and (rg_full _) (rg_of_eq k_43 (rg_k (4 : Int32) 4 rfl)) (by decide)
        have uh_45 := h_45.1
        have vh_45 := h_45.2
        refine lv_tov 4 k_43 ?_
        refine lv_tableIn (tgt := 104) hx hb dX12_cellOf_12 (by decide) (by decide) rfl (by decide) ?_
        refine lv_aload_n hx hb dX12_cellOf_104 rfl (lv_at hl 0 rfl) ?_
        refine lv_iload_n hx hb dX12_cellOf_105 rfl (lv_at hl 1 rfl) ?_
        refine lv_bipush (v := 6) hx hb dX12_cellOf_106 (by decide) ?_
        refine pk_i (va_runV (As := [.int a0, .int 6]) (rest := []) ⟨hx, hb, hml, hown, hts⟩ (s_X12_cellAt_c6 l D t σ I J ri rj rq H.size tg hSH hG.1 this a0 hL_this hK_this (rg_w f_8 (by decide))) (cwV 2 hts (tw_V tw_361 tw_362 tw_363 tw_5 tw_364) rfl rfl rfl cv_yX12_cellAt_2 ⟨Nat.le_of_ble_eq_true rfl, Nat.le_of_ble_eq_true rfl⟩) ⟨pq_blind, pq_recv hK hP hL_this hK_this (by decide) rfl, pq_pre hK hN hP hD⟩ rfl rfl hl.1 rfl (lv_room (Nat.le_of_ble_eq_true rfl)) dX12_cellOf_108 ⟨Nat.le_of_ble_eq_true rfl, Nat.le_of_ble_eq_true rfl⟩) hD hS hA (fun x_46 σ1 μ1 H locs hw_47 hP hD hS => ?_)
        have hu_48 := hw_47
        obtain ⟨hu_48a, hu_48b⟩ := Prod.mk.inj hu_48
        rw [hu_48a, hu_48b] at hP hD
        subst hQ
        exact W.iret (v := x_46) hx hb hr (fun t1 ht hW => ⟨⟨x_46, (σ, I, J, ri, rj, rq), rfl, rfl, by rw [ht]; exact hP, va_K.moved hW.alike hK, hD⟩, hS.F ht⟩) hS.2.2 dX12_cellOf_111
      by_cases k_51 : a1 = (5 : Int32)
      · have tc_52 : (a1).toInt = 5 := congrArg Int32.toInt k_51
        have h_53 : rg a1 5 5 := rg_and (rg_full _) (rg_of_eq k_51 (rg_k (5 : Int32) 5 rfl)) (by decide)
        have uh_53 := h_53.1
        have vh_53 := h_53.2
        refine lv_tov 5 k_51 ?_
        refine lv_tableIn (tgt := 112) hx hb dX12_cellOf_12 (by decide) (by decide) rfl (by decide) ?_
        refine lv_aload_n hx hb dX12_cellOf_112 rfl (lv_at hl 0 rfl) ?_
        refine lv_iload_n hx hb dX12_cellOf_113 rfl (lv_at hl 1 rfl) ?_
        refine pk_i (va_runV (As := [.int a0]) (rest := []) ⟨hx, hb, hml, hown, hts⟩ (s_X12_topOf l D t σ I J ri rj rq H.size tg hSH hG.1 this a0 hL_this hK_this (rg_w f_8 (by decide))) (cwV 1 hts (tw_V tw_1213 tw_1214 tw_1215 tw_5 tw_1216) rfl rfl rfl cv_yX12_topOf_1 ⟨Nat.le_of_ble_eq_true rfl, Nat.le_of_ble_eq_true rfl⟩) ⟨pq_blind, pq_recv hK hP hL_this hK_this (by decide) rfl, pq_pre hK hN hP hD⟩ rfl rfl hl.1 rfl (lv_room (Nat.le_of_ble_eq_true rfl)) dX12_cellOf_114 ⟨Nat.le_of_ble_eq_true rfl, Nat.le_of_ble_eq_true rfl⟩) hD hS hA (fun x_54 σ1 μ1 H locs hw_55 hP hD hS => ?_)
        have hu_56 := hw_55
        obtain ⟨hu_56a, hu_56b⟩ := Prod.mk.inj hu_56
        rw [hu_56a, hu_56b] at hP hD
        subst hQ
        exact W.iret (v := x_54) hx hb hr (fun t1 ht hW => ⟨⟨x_54, (σ, I, J, ri, rj, rq), rfl, rfl, by rw [ht]; exact hP, va_K.moved hW.alike hK, hD⟩, hS.F ht⟩) hS.2.2 dX12_cellOf_117
      by_cases k_59 : a1 = (6 : Int32)
      · have tc_60 : (a1).toInt = 6 := congrArg Int32.toInt k_59
        have h_61 : rg a1 6 6 := rg_and (rg_full _) (rg_of_eq k_59 (rg_k (6 : Int32) 6 rfl)) (by decide)
        have uh_61 := h_61.1
        have vh_61 := h_61.2
        refine lv_tov 6 k_59 ?_
        refine lv_tableIn (tgt := 118) hx hb dX12_cellOf_12 (by decide) (by decide) rfl (by decide) ?_
        refine lv_aload_n hx hb dX12_cellOf_118 rfl (lv_at hl 0 rfl) ?_
        refine lv_iload_n hx hb dX12_cellOf_119 rfl (lv_at hl 1 rfl) ?_
        refine lv_bipush (v := 7) hx hb dX12_cellOf_120 (by decide) ?_
        refine pk_i (va_runV (As := [.int a0, .int 7]) (rest := []) ⟨hx, hb, hml, hown, hts⟩ (s_X12_cellAt_c7 l D t σ I J ri rj rq H.size tg hSH hG.1 this a0 hL_this hK_this (rg_w f_8 (by decide))) (cwV 2 hts (tw_V tw_361 tw_362 tw_363 tw_5 tw_364) rfl rfl rfl cv_yX12_cellAt_2 ⟨Nat.le_of_ble_eq_true rfl, Nat.le_of_ble_eq_true rfl⟩) ⟨pq_blind, pq_recv hK hP hL_this hK_this (by decide) rfl, pq_pre hK hN hP hD⟩ rfl rfl hl.1 rfl (lv_room (Nat.le_of_ble_eq_true rfl)) dX12_cellOf_122 ⟨Nat.le_of_ble_eq_true rfl, Nat.le_of_ble_eq_true rfl⟩) hD hS hA (fun x_62 σ1 μ1 H locs hw_63 hP hD hS => ?_)
        have hu_64 := hw_63
        obtain ⟨hu_64a, hu_64b⟩ := Prod.mk.inj hu_64
        rw [hu_64a, hu_64b] at hP hD
        subst hQ
        exact W.iret (v := x_62) hx hb hr (fun t1 ht hW => ⟨⟨x_62, (σ, I, J, ri, rj, rq), rfl, rfl, by rw [ht]; exact hP, va_K.moved hW.alike hK, hD⟩, hS.F ht⟩) hS.2.2 dX12_cellOf_125
      by_cases k_67 : a1 = (7 : Int32)
      · have tc_68 : (a1).toInt = 7 := congrArg Int32.toInt k_67
        have h_69 : rg a1 7 7 := rg_and (rg_full _) (rg_of_eq k_67 (rg_k (7 : Int32) 7 rfl)) (by decide)
        have uh_69 := h_69.1
        have vh_69 := h_69.2
        refine lv_tov 7 k_67 ?_
        refine lv_tableIn (tgt := 126) hx hb dX12_cellOf_12 (by decide) (by decide) rfl (by decide) ?_
        refine lv_aload_n hx hb dX12_cellOf_126 rfl (lv_at hl 0 rfl) ?_
        refine lv_iload_n hx hb dX12_cellOf_127 rfl (lv_at hl 1 rfl) ?_
        refine lv_bipush (v := 8) hx hb dX12_cellOf_128 (by decide) ?_
        refine pk_i (va_runV (As := [.int a0, .int 8]) (rest := []) ⟨hx, hb, hml, hown, hts⟩ (s_X12_cellAt_c8 l D t σ I J ri rj rq H.size tg hSH hG.1 this a0 hL_this hK_this (rg_w f_8 (by decide))) (cwV 2 hts (tw_V tw_361 tw_362 tw_363 tw_5 tw_364) rfl rfl rfl cv_yX12_cellAt_2 ⟨Nat.le_of_ble_eq_true rfl, Nat.le_of_ble_eq_true rfl⟩) ⟨pq_blind, pq_recv hK hP hL_this hK_this (by decide) rfl, pq_pre hK hN hP hD⟩ rfl rfl hl.1 rfl (lv_room (Nat.le_of_ble_eq_true rfl)) dX12_cellOf_130 ⟨Nat.le_of_ble_eq_true rfl, Nat.le_of_ble_eq_true rfl⟩) hD hS hA (fun x_70 σ1 μ1 H locs hw_71 hP hD hS => ?_)
        have hu_72 := hw_71
        obtain ⟨hu_72a, hu_72b⟩ := Prod.mk.inj hu_72
        rw [hu_72a, hu_72b] at hP hD
        refine lv_if_ne (tgt := 140) hx hb dX12_cellOf_133 (by decide) (fun c_75 => ?_) (fun c_75 => ?_)
        · have tc_76 : (x_70).toInt ≠ 0 := fun q => c_75 (Int32.toInt_inj.mp q)
          refine lv_aload_n hx hb dX12_cellOf_140 rfl (lv_at hl 0 rfl) ?_
          refine lv_iload_n hx hb dX12_cellOf_141 rfl (lv_at hl 1 rfl) ?_
          refine lv_bipush (v := 9) hx hb dX12_cellOf_142 (by decide) ?_
          refine pk_i (va_runV (As := [.int a0, .int 9]) (rest := []) ⟨hx, hb, hml, hown, hts⟩ (s_X12_cellAt_c9 l D t σ I J ri rj rq H.size tg hSH hG.1 this a0 hL_this hK_this (rg_w f_8 (by decide))) (cwV 2 hts (tw_V tw_361 tw_362 tw_363 tw_5 tw_364) rfl rfl rfl cv_yX12_cellAt_2 ⟨Nat.le_of_ble_eq_true rfl, Nat.le_of_ble_eq_true rfl⟩) ⟨pq_blind, pq_recv hK hP hL_this hK_this (by decide) rfl, pq_pre hK hN hP hD⟩ rfl rfl hl.1 rfl (lv_room (Nat.le_of_ble_eq_true rfl)) dX12_cellOf_144 ⟨Nat.le_of_ble_eq_true rfl, Nat.le_of_ble_eq_true rfl⟩) hD hS hA (fun x_77 σ1 μ1 H locs hw_78 hP hD hS => ?_)
          have hu_79 := hw_78
          obtain ⟨hu_79a, hu_79b⟩ := Prod.mk.inj hu_79
          rw [hu_79a, hu_79b] at hP hD
          subst hQ
          exact W.iret (v := x_77) hx hb hr (fun t1 ht hW => ⟨⟨x_77, (σ, I, J, ri, rj, rq), rfl, rfl, by rw [ht]; exact hP, va_K.moved hW.alike hK, hD⟩, hS.F ht⟩) hS.2.2 dX12_cellOf_147
        · have tc_82 : (x_70).toInt = 0 := congrArg Int32.toInt c_75
          have h_83 : rg x_70 0 0 := rg_and (rg_full _) (rg_of_eq c_75 (rg_k (0 : Int32) 0 rfl)) (by decide)
          have uh_83 := h_83.1
          have vh_83 := h_83.2
          refine lv_iconst (v := (-1)) hx hb dX12_cellOf_136 (by decide) ?_
          refine lv_goto (tgt := 147) hx hb dX12_cellOf_137 (by decide) ?_
          subst hQ
          exact W.iret (v := (-1)) hx hb hr (fun t1 ht hW => ⟨⟨(-1), (σ, I, J, ri, rj, rq), rfl, rfl, by rw [ht]; exact hP, va_K.moved hW.alike hK, hD⟩, hS.F ht⟩) hS.2.2 dX12_cellOf_147
      by_cases k_84 : a1 = (8 : Int32)
      · have tc_85 : (a1).toInt = 8 := congrArg Int32.toInt k_84
        have h_86 : rg a1 8 8 := rg_and (rg_full _) (rg_of_eq k_84 (rg_k (8 : Int32) 8 rfl)) (by decide)
        have uh_86 := h_86.1
        have vh_86 := h_86.2
        refine lv_tov 8 k_84 ?_
        refine lv_tableIn (tgt := 148) hx hb dX12_cellOf_12 (by decide) (by decide) rfl (by decide) ?_
        refine lv_aload_n hx hb dX12_cellOf_148 rfl (lv_at hl 0 rfl) ?_
        refine lv_iload_n hx hb dX12_cellOf_149 rfl (lv_at hl 1 rfl) ?_
        refine lv_bipush (v := 8) hx hb dX12_cellOf_150 (by decide) ?_
        refine pk_i (va_runV (As := [.int a0, .int 8]) (rest := []) ⟨hx, hb, hml, hown, hts⟩ (s_X12_cellAt_c8 l D t σ I J ri rj rq H.size tg hSH hG.1 this a0 hL_this hK_this (rg_w f_8 (by decide))) (cwV 2 hts (tw_V tw_361 tw_362 tw_363 tw_5 tw_364) rfl rfl rfl cv_yX12_cellAt_2 ⟨Nat.le_of_ble_eq_true rfl, Nat.le_of_ble_eq_true rfl⟩) ⟨pq_blind, pq_recv hK hP hL_this hK_this (by decide) rfl, pq_pre hK hN hP hD⟩ rfl rfl hl.1 rfl (lv_room (Nat.le_of_ble_eq_true rfl)) dX12_cellOf_152 ⟨Nat.le_of_ble_eq_true rfl, Nat.le_of_ble_eq_true rfl⟩) hD hS hA (fun x_87 σ1 μ1 H locs hw_88 hP hD hS => ?_)
        have hu_89 := hw_88
        obtain ⟨hu_89a, hu_89b⟩ := Prod.mk.inj hu_89
        rw [hu_89a, hu_89b] at hP hD
        refine lv_if_ne (tgt := 162) hx hb dX12_cellOf_155 (by decide) (fun c_92 => ?_) (fun c_92 => ?_)
        · have tc_93 : (x_87).toInt ≠ 0 := fun q => c_92 (Int32.toInt_inj.mp q)
          refine lv_aload_n hx hb dX12_cellOf_162 rfl (lv_at hl 0 rfl) ?_
          refine lv_iload_n hx hb dX12_cellOf_163 rfl (lv_at hl 1 rfl) ?_
          refine lv_bipush (v := 10) hx hb dX12_cellOf_164 (by decide) ?_
          refine pk_i (va_runV (As := [.int a0, .int 10]) (rest := []) ⟨hx, hb, hml, hown, hts⟩ (s_X12_cellAt_c10 l D t σ I J ri rj rq H.size tg hSH hG.1 this a0 hL_this hK_this (rg_w f_8 (by decide))) (cwV 2 hts (tw_V tw_361 tw_362 tw_363 tw_5 tw_364) rfl rfl rfl cv_yX12_cellAt_2 ⟨Nat.le_of_ble_eq_true rfl, Nat.le_of_ble_eq_true rfl⟩) ⟨pq_blind, pq_recv hK hP hL_this hK_this (by decide) rfl, pq_pre hK hN hP hD⟩ rfl rfl hl.1 rfl (lv_room (Nat.le_of_ble_eq_true rfl)) dX12_cellOf_166 ⟨Nat.le_of_ble_eq_true rfl, Nat.le_of_ble_eq_true rfl⟩) hD hS hA (fun x_94 σ1 μ1 H locs hw_95 hP hD hS => ?_)
          have hu_96 := hw_95
          obtain ⟨hu_96a, hu_96b⟩ := Prod.mk.inj hu_96
          rw [hu_96a, hu_96b] at hP hD
          subst hQ
          exact W.iret (v := x_94) hx hb hr (fun t1 ht hW => ⟨⟨x_94, (σ, I, J, ri, rj, rq), rfl, rfl, by rw [ht]; exact hP, va_K.moved hW.alike hK, hD⟩, hS.F ht⟩) hS.2.2 dX12_cellOf_169
        · have tc_99 : (x_87).toInt = 0 := congrArg Int32.toInt c_92
          have h_100 : rg x_87 0 0 := rg_and (rg_full _) (rg_of_eq c_92 (rg_k (0 : Int32) 0 rfl)) (by decide)
          have uh_100 := h_100.1
          have vh_100 := h_100.2
          refine lv_iconst (v := (-1)) hx hb dX12_cellOf_158 (by decide) ?_
          refine lv_goto (tgt := 169) hx hb dX12_cellOf_159 (by decide) ?_
          subst hQ
          exact W.iret (v := (-1)) hx hb hr (fun t1 ht hW => ⟨⟨(-1), (σ, I, J, ri, rj, rq), rfl, rfl, by rw [ht]; exact hP, va_K.moved hW.alike hK, hD⟩, hS.F ht⟩) hS.2.2 dX12_cellOf_169
      by_cases k_101 : a1 = (9 : Int32)
      · have tc_102 : (a1).toInt = 9 := congrArg Int32.toInt k_101
        have h_103 : rg a1 9 9 := rg_and (rg_full _) (rg_of_eq k_101 (rg_k (9 : Int32) 9 rfl)) (by decide)
        have uh_103 := h_103.1
        have vh_103 := h_103.2
        refine lv_tov 9 k_101 ?_
        refine lv_tableIn (tgt := 170) hx hb dX12_cellOf_12 (by decide) (by decide) rfl (by decide) ?_
        refine lv_aload_n hx hb dX12_cellOf_170 rfl (lv_at hl 0 rfl) ?_
        refine lv_iload_n hx hb dX12_cellOf_171 rfl (lv_at hl 1 rfl) ?_
        refine lv_bipush (v := 11) hx hb dX12_cellOf_172 (by decide) ?_
        refine pk_i (va_runV (As := [.int a0, .int 11]) (rest := []) ⟨hx, hb, hml, hown, hts⟩ (s_X12_cellAt_c11 l D t σ I J ri rj rq H.size tg hSH hG.1 this a0 hL_this hK_this (rg_w f_8 (by decide))) (cwV 2 hts (tw_V tw_361 tw_362 tw_363 tw_5 tw_364) rfl rfl rfl cv_yX12_cellAt_2 ⟨Nat.le_of_ble_eq_true rfl, Nat.le_of_ble_eq_true rfl⟩) ⟨pq_blind, pq_recv hK hP hL_this hK_this (by decide) rfl, pq_pre hK hN hP hD⟩ rfl rfl hl.1 rfl (lv_room (Nat.le_of_ble_eq_true rfl)) dX12_cellOf_174 ⟨Nat.le_of_ble_eq_true rfl, Nat.le_of_ble_eq_true rfl⟩) hD hS hA (fun x_104 σ1 μ1 H locs hw_105 hP hD hS => ?_)
        have hu_106 := hw_105
        obtain ⟨hu_106a, hu_106b⟩ := Prod.mk.inj hu_106
        rw [hu_106a, hu_106b] at hP hD
        subst hQ
        exact W.iret (v := x_104) hx hb hr (fun t1 ht hW => ⟨⟨x_104, (σ, I, J, ri, rj, rq), rfl, rfl, by rw [ht]; exact hP, va_K.moved hW.alike hK, hD⟩, hS.F ht⟩) hS.2.2 dX12_cellOf_177
      by_cases k_109 : a1 = (10 : Int32)
      · have tc_110 : (a1).toInt = 10 := congrArg Int32.toInt k_109
        have h_111 : rg a1 10 10 := rg_and (rg_full _) (rg_of_eq k_109 (rg_k (10 : Int32) 10 rfl)) (by decide)
        have uh_111 := h_111.1
        have vh_111 := h_111.2
        refine lv_tov 10 k_109 ?_
        refine lv_tableIn (tgt := 178) hx hb dX12_cellOf_12 (by decide) (by decide) rfl (by decide) ?_
        refine lv_aload_n hx hb dX12_cellOf_178 rfl (lv_at hl 0 rfl) ?_
        obtain ⟨w_112, hR_w_112, hL_w_112, hK_w_112, hN_w_112, hT_w_112⟩ := sh_a hSH 384 (ci := 12) (kd := 13) (len := 12720) rfl (by decide) hL_this hK_this
        refine pg_f (v := .ref w_112) (C := RX12) (T := TX12) (N := 31) hx hb hts (tw_i inlX12) hown hK hP hL_this hK_this (by decide) rfl 0 (by decide) (hts _ (tw_c tw_176)) (pq_hv rfl hR_w_112) dX12_cellOf_179 ?_
        refine lv_iconst (v := 0) hx hb dX12_cellOf_182 (by decide) ?_
        refine pl_i hx hb hK hP hL_w_112 hK_w_112 hN_w_112 (vp_in_iff.mpr (by decide)) dX12_cellOf_183 ?_
        refine lv_tov (ri w_112 0) rfl ?_
        have h_113 : rg (ri w_112 0) 0 600 := GM.z0 hG0 (by rw [hT_w_112]; decide) (i := 0) (k := 0) (by decide) rfl
        have uh_113 := h_113.1
        have vh_113 := h_113.2
        refine lv_if_ne (tgt := 191) hx hb dX12_cellOf_184 (by decide) (fun c_114 => ?_) (fun c_114 => ?_)
        · have tc_115 : (ri w_112 0).toInt ≠ 0 := fun q => c_114 (Int32.toInt_inj.mp q)
          have h_116 : rg (ri w_112 0) 1 600 := rg_ne c_114 h_113 0 rfl (by decide)
          have uh_116 := h_116.1
          have vh_116 := h_116.2
          refine lv_aload_n hx hb dX12_cellOf_191 rfl (lv_at hl 0 rfl) ?_
          refine lv_iload_n hx hb dX12_cellOf_192 rfl (lv_at hl 1 rfl) ?_
          refine lv_bipush (v := 12) hx hb dX12_cellOf_193 (by decide) ?_
          refine pk_i (va_runV (As := [.int a0, .int 12]) (rest := []) ⟨hx, hb, hml, hown, hts⟩ (s_X12_cellAt_c12 l D t σ I J ri rj rq H.size tg hSH hG.1 this a0 hL_this hK_this (rg_w f_8 (by decide))) (cwV 2 hts (tw_V tw_361 tw_362 tw_363 tw_5 tw_364) rfl rfl rfl cv_yX12_cellAt_2 ⟨Nat.le_of_ble_eq_true rfl, Nat.le_of_ble_eq_true rfl⟩) ⟨pq_blind, pq_recv hK hP hL_this hK_this (by decide) rfl, pq_pre hK hN hP hD⟩ rfl rfl hl.1 rfl (lv_room (Nat.le_of_ble_eq_true rfl)) dX12_cellOf_195 ⟨Nat.le_of_ble_eq_true rfl, Nat.le_of_ble_eq_true rfl⟩) hD hS hA (fun x_117 σ1 μ1 H locs hw_118 hP hD hS => ?_)
          have hu_119 := hw_118
          obtain ⟨hu_119a, hu_119b⟩ := Prod.mk.inj hu_119
          rw [hu_119a, hu_119b] at hP hD
          subst hQ
          exact W.iret (v := x_117) hx hb hr (fun t1 ht hW => ⟨⟨x_117, (σ, I, J, ri, rj, rq), rfl, rfl, by rw [ht]; exact hP, va_K.moved hW.alike hK, hD⟩, hS.F ht⟩) hS.2.2 dX12_cellOf_198
        · have tc_122 : (ri w_112 0).toInt = 0 := congrArg Int32.toInt c_114
          have h_123 : rg (ri w_112 0) 0 0 := rg_and h_113 (rg_of_eq c_114 (rg_k (0 : Int32) 0 rfl)) (by decide)
          have uh_123 := h_123.1
          have vh_123 := h_123.2
          refine lv_iconst (v := (-1)) hx hb dX12_cellOf_187 (by decide) ?_
          refine lv_goto (tgt := 198) hx hb dX12_cellOf_188 (by decide) ?_
          subst hQ
          exact W.iret (v := (-1)) hx hb hr (fun t1 ht hW => ⟨⟨(-1), (σ, I, J, ri, rj, rq), rfl, rfl, by rw [ht]; exact hP, va_K.moved hW.alike hK, hD⟩, hS.F ht⟩) hS.2.2 dX12_cellOf_198
      by_cases k_124 : a1 = (11 : Int32)
      · have tc_125 : (a1).toInt = 11 := congrArg Int32.toInt k_124
        have h_126 : rg a1 11 11 := rg_and (rg_full _) (rg_of_eq k_124 (rg_k (11 : Int32) 11 rfl)) (by decide)
        have uh_126 := h_126.1
        have vh_126 := h_126.2
        refine lv_tov 11 k_124 ?_
        refine lv_tableIn (tgt := 199) hx hb dX12_cellOf_12 (by decide) (by decide) rfl (by decide) ?_
        refine lv_aload_n hx hb dX12_cellOf_199 rfl (lv_at hl 0 rfl) ?_
        obtain ⟨w_127, hR_w_127, hL_w_127, hK_w_127, hN_w_127, hT_w_127⟩ := sh_a hSH 384 (ci := 12) (kd := 13) (len := 12720) rfl (by decide) hL_this hK_this
        refine pg_f (v := .ref w_127) (C := RX12) (T := TX12) (N := 31) hx hb hts (tw_i inlX12) hown hK hP hL_this hK_this (by decide) rfl 0 (by decide) (hts _ (tw_c tw_176)) (pq_hv rfl hR_w_127) dX12_cellOf_200 ?_
        refine lv_iconst (v := 0) hx hb dX12_cellOf_203 (by decide) ?_
        refine pl_i hx hb hK hP hL_w_127 hK_w_127 hN_w_127 (vp_in_iff.mpr (by decide)) dX12_cellOf_204 ?_
        refine lv_tov (ri w_127 0) rfl ?_
        have h_128 : rg (ri w_127 0) 0 600 := GM.z0 hG0 (by rw [hT_w_127]; decide) (i := 0) (k := 0) (by decide) rfl
        have uh_128 := h_128.1
        have vh_128 := h_128.2
        refine lv_if_ne (tgt := 212) hx hb dX12_cellOf_205 (by decide) (fun c_129 => ?_) (fun c_129 => ?_)
        · have tc_130 : (ri w_127 0).toInt ≠ 0 := fun q => c_129 (Int32.toInt_inj.mp q)
          have h_131 : rg (ri w_127 0) 1 600 := rg_ne c_129 h_128 0 rfl (by decide)
          have uh_131 := h_131.1
          have vh_131 := h_131.2
          refine lv_aload_n hx hb dX12_cellOf_212 rfl (lv_at hl 0 rfl) ?_
          refine lv_iload_n hx hb dX12_cellOf_213 rfl (lv_at hl 1 rfl) ?_
          refine lv_bipush (v := 13) hx hb dX12_cellOf_214 (by decide) ?_
          refine pk_i (va_runV (As := [.int a0, .int 13]) (rest := []) ⟨hx, hb, hml, hown, hts⟩ (s_X12_cellAt_c13 l D t σ I J ri rj rq H.size tg hSH hG.1 this a0 hL_this hK_this (rg_w f_8 (by decide))) (cwV 2 hts (tw_V tw_361 tw_362 tw_363 tw_5 tw_364) rfl rfl rfl cv_yX12_cellAt_2 ⟨Nat.le_of_ble_eq_true rfl, Nat.le_of_ble_eq_true rfl⟩) ⟨pq_blind, pq_recv hK hP hL_this hK_this (by decide) rfl, pq_pre hK hN hP hD⟩ rfl rfl hl.1 rfl (lv_room (Nat.le_of_ble_eq_true rfl)) dX12_cellOf_216 ⟨Nat.le_of_ble_eq_true rfl, Nat.le_of_ble_eq_true rfl⟩) hD hS hA (fun x_132 σ1 μ1 H locs hw_133 hP hD hS => ?_)
          have hu_134 := hw_133
          obtain ⟨hu_134a, hu_134b⟩ := Prod.mk.inj hu_134
          rw [hu_134a, hu_134b] at hP hD
          subst hQ
          exact W.iret (v := x_132) hx hb hr (fun t1 ht hW => ⟨⟨x_132, (σ, I, J, ri, rj, rq), rfl, rfl, by rw [ht]; exact hP, va_K.moved hW.alike hK, hD⟩, hS.F ht⟩) hS.2.2 dX12_cellOf_219
        · have tc_137 : (ri w_127 0).toInt = 0 := congrArg Int32.toInt c_129
          have h_138 : rg (ri w_127 0) 0 0 := rg_and h_128 (rg_of_eq c_129 (rg_k (0 : Int32) 0 rfl)) (by decide)
          have uh_138 := h_138.1
          have vh_138 := h_138.2
          refine lv_iconst (v := (-1)) hx hb dX12_cellOf_208 (by decide) ?_
          refine lv_goto (tgt := 219) hx hb dX12_cellOf_209 (by decide) ?_
          subst hQ
          exact W.iret (v := (-1)) hx hb hr (fun t1 ht hW => ⟨⟨(-1), (σ, I, J, ri, rj, rq), rfl, rfl, by rw [ht]; exact hP, va_K.moved hW.alike hK, hD⟩, hS.F ht⟩) hS.2.2 dX12_cellOf_219
      refine lv_tableOut (tgt := 220) hx hb dX12_cellOf_12 (by have z_k_11 := sw_ne k_11 (n := 0) rfl; have z_k_19 := sw_ne k_19 (n := 1) rfl; have z_k_27 := sw_ne k_27 (n := 2) rfl; have z_k_35 := sw_ne k_35 (n := 3) rfl; have z_k_43 := sw_ne k_43 (n := 4) rfl; have z_k_51 := sw_ne k_51 (n := 5) rfl; have z_k_59 := sw_ne k_59 (n := 6) rfl; have z_k_67 := sw_ne k_67 (n := 7) rfl; have z_k_84 := sw_ne k_84 (n := 8) rfl; have z_k_101 := sw_ne k_101 (n := 9) rfl; have z_k_109 := sw_ne k_109 (n := 10) rfl; have z_k_124 := sw_ne k_124 (n := 11) rfl; omega) (by decide) ?_
      refine lv_ldc hx hb hown (hts _ (tw_c tw_288)) dX12_cellOf_220 ?_
      subst hQ
      exact W.iret (v := (-1000000)) hx hb hr (fun t1 ht hW => ⟨⟨(-1000000), (σ, I, J, ri, rj, rq), rfl, rfl, by rw [ht]; exact hP, va_K.moved hW.alike hK, hD⟩, hS.F ht⟩) hS.2.2 dX12_cellOf_222
    · have f_139 := (hr_5.resolve_left (fun q => absurd (q.1.symm.trans c_7) (by decide))).2
      have tc_140 : (x_1).toInt = 0 := congrArg Int32.toInt c_7
      have h_141 : rg x_1 0 0 := rg_and h_6 (rg_of_eq c_7 (rg_k (0 : Int32) 0 rfl)) (by decide)
      have uh_141 := h_141.1
      have vh_141 := h_141.2
      refine lv_ldc hx hb hown (hts _ (tw_c tw_288)) dX12_cellOf_8 ?_
      subst hQ
      exact W.iret (v := (-1000000)) hx hb hr (fun t1 ht hW => ⟨⟨(-1000000), (σ, I, J, ri, rj, rq), rfl, rfl, by rw [ht]; exact hP, va_K.moved hW.alike hK, hD⟩, hS.F ht⟩) hS.2.2 dX12_cellOf_10
  exact go _ _ _ hP hD hS hl

set_option maxHeartbeats 4000000 in
set_option maxRecDepth 100000 in
theorem s_X12_personAt_c5 (l : Launch) (D : va_G) (t : pq_T) (σ : pq_S) (I : Nat → Nat → Int32) (J : Nat → Nat → Int64) (ri : Nat → Nat → Int32) (rj : Nat → Nat → Int64) (rq : Nat → Nat → Option Nat) (sz : Nat) (tg : Nat → Nat) (hSH : SH σ tg) (hG0 : GT tg I ri) (this : Nat) (a0 : Int32) (hL_this : this ∈ σ.1) (hK_this : σ.2.1 this = 12) (h_a0 : rg a0 0 39) (this_a : Nat) (hR_this_a : σ.2.2.1 384 this = some this_a) (hL_this_a : this_a ∈ σ.1) (hK_this_a : σ.2.1 this_a = 13) (hN_this_a : σ.2.2.2 this_a = 12720) (hT_this_a : tg this_a = 384) : MetI l yX12_personAt (wa yX12_personAt cX12_personAt 3 (some .int)) ({ frames := 0, cells := 0, slots := 0, locals := 0 }) [.ref this, .int a0, .int 5] D t σ (I, J, ri, rj, rq) sz 0 0 (fun (r : Int32) (u : pq_S × pq_M) => u = (σ, I, J, ri, rj, rq) ∧ (r = ri this_a (745 + 12 * a0.toNatClampNeg))) := by
  refine Met.ofW (cc := cX12_personAt) (maxL := 3) (ret := (some .int)) (by decide) rfl ?_
  intro p e s m args below meth c s₁ B hml hv
  obtain ⟨rfl, hsz, hP, hK, hD0, hN⟩ := hv
  have hx := B.exec
  have hb := B.bytes
  have hr := B.returns
  have hts := atoms_spec (ws := (wa yX12_personAt cX12_personAt 3 (some .int))) B.pre
  have hown : s.vm.findClass RX12 = some m.cls := findClass_of_methodNamed B.named
  have hlocks := B.notSynchronized
  subst hsz
  have hD : va_D (pq_B t σ (I, J, ri, rj, rq) s.heap.size) (pq_P t σ (I, J, ri, rj, rq)) := hD0.self
  generalize hAe : pq_B t σ (I, J, ri, rj, rq) s.heap.size = A at hD ⊢
  have hA : ∀ q : Nat, s.heap.size ≤ q → A q := fun q h => by rw [← hAe]; exact Or.inr h
  have hS : va_S A s.heap s.heap [] := va_S.rf
  have hG : GM [] tg σ I ri I ri rq := ⟨hG0, fun _ _ _ => rfl, fun _ _ _ _ _ => rfl, fun _ _ _ _ _ _ => rfl⟩
  have hl := lv_entry ([.ref this, .int a0, .int 5]) (n := 3) (Nat.le_of_ble_eq_true rfl)
  rw [lg_entry_eq]
  generalize (lg_sl ([.ref this, .int a0, .int 5]) ++ List.replicate (3 - (lg_sl ([.ref this, .int a0, .int 5])).length) Slot.unset).toArray = ls at hl ⊢
  have hl : lv_has ls 3 [(0, .ref this), (1, .int a0), (2, .int 5)] := hl
  refine q_gen (fun Q hQ => ?_)
  have go : ∀ (H : Heap) (locs : List Loc) (ls : Array Slot), va_P D vwCl (pq_P t σ (I, J, ri, rj, rq)) H → va_D A (pq_P t σ (I, J, ri, rj, rq)) → va_S A s.heap H locs → lv_has ls 3 [(0, .ref this), (1, .int a0), (2, .int 5)] → W p l e ({ frames := 0, cells := 0, slots := 0, locals := 0 } : Room) s m (List.toArray ([.ref this, .int a0, .int 5] : List Value)) below meth c H locs 0 0 Q (F0 m 0 ls []) := by
    intro H locs ls hP hD hS hl
    refine lv_aload_n hx hb dX12_personAt_0 rfl (lv_at hl 0 rfl) ?_
    refine pg_f (v := .ref this_a) (C := RX12) (T := TX12) (N := 31) hx hb hts (tw_i inlX12) hown hK hP hL_this hK_this (by decide) rfl 0 (by decide) (hts _ (tw_c tw_176)) (pq_hv rfl hR_this_a) dX12_personAt_1 ?_
    refine lv_sipush (v := 740) hx hb dX12_personAt_4 (by decide) ?_
    refine lv_bipush (v := 12) hx hb dX12_personAt_7 (by decide) ?_
    refine lv_iload_n hx hb dX12_personAt_9 rfl (lv_at hl 1 rfl) ?_
    refine lv_imul hx hb dX12_personAt_10 ?_
    refine lv_topi (fun x_1 ex_1 => ?_)
    have h_2 : rg x_1 0 468 := rg_of_eq ex_1 (rg_mul (rg_k (12 : Int32) 12 rfl) h_a0 (by decide))
    have uh_2 := h_2.1
    have vh_2 := h_2.2
    have tx_1 : (x_1).toInt = 12 * (a0).toInt := by rw [ex_1]; exact i_mul_rg (a2 := 12) (b2 := (a0).toInt) rfl rfl (rg_k (12 : Int32) 12 rfl) h_a0 (by decide)
    refine lv_iadd hx hb dX12_personAt_11 ?_
    refine lv_topi (fun x_3 ex_3 => ?_)
    have h_4 : rg x_3 740 1208 := rg_of_eq ex_3 (rg_add (rg_k (740 : Int32) 740 rfl) h_2 (by decide))
    have uh_4 := h_4.1
    have vh_4 := h_4.2
    have tx_3 : (x_3).toInt = 740 + (x_1).toInt := by rw [ex_3]; exact i_add_rg (a2 := 740) (b2 := (x_1).toInt) rfl rfl (rg_k (740 : Int32) 740 rfl) h_2 (by decide)
    refine lv_iload_n hx hb dX12_personAt_12 rfl (lv_at hl 2 rfl) ?_
    refine lv_iadd hx hb dX12_personAt_13 ?_
    refine lv_topi (fun x_5 ex_5 => ?_)
    have h_6 : rg x_5 745 1213 := rg_of_eq ex_5 (rg_add h_4 (rg_k (5 : Int32) 5 rfl) (by decide))
    have uh_6 := h_6.1
    have vh_6 := h_6.2
    have tx_5 : (x_5).toInt = (x_3).toInt + 5 := by rw [ex_5]; exact i_add_rg (a2 := (x_3).toInt) (b2 := 5) rfl rfl h_4 (rg_k (5 : Int32) 5 rfl) (by decide)
    refine pl_i hx hb hK hP hL_this_a hK_this_a hN_this_a (rg_in h_6 (by decide)) dX12_personAt_14 ?_
    refine lv_topi (fun x_7 ex_7 => ?_)
    subst hQ
    exact W.iret (v := x_7) hx hb hr (fun t1 ht hW => ⟨⟨x_7, (σ, I, J, ri, rj, rq), rfl, ⟨rfl, (show x_7 = ri this_a (745 + 12 * a0.toNatClampNeg) from ex_7.trans (congrArg (ri this_a) (by have z0 := clampE a0; have z1 := clampE x_5; omega)))⟩, by rw [ht]; exact hP, va_K.moved hW.alike hK, hD⟩, hS.F ht⟩) hS.2.2 dX12_personAt_15
  exact go _ _ _ hP hD hS hl

set_option maxHeartbeats 4000000 in
set_option maxRecDepth 100000 in
theorem s_X12_personAt_c6 (l : Launch) (D : va_G) (t : pq_T) (σ : pq_S) (I : Nat → Nat → Int32) (J : Nat → Nat → Int64) (ri : Nat → Nat → Int32) (rj : Nat → Nat → Int64) (rq : Nat → Nat → Option Nat) (sz : Nat) (tg : Nat → Nat) (hSH : SH σ tg) (hG0 : GT tg I ri) (this : Nat) (a0 : Int32) (hL_this : this ∈ σ.1) (hK_this : σ.2.1 this = 12) (h_a0 : rg a0 0 39) (this_a : Nat) (hR_this_a : σ.2.2.1 384 this = some this_a) (hL_this_a : this_a ∈ σ.1) (hK_this_a : σ.2.1 this_a = 13) (hN_this_a : σ.2.2.2 this_a = 12720) (hT_this_a : tg this_a = 384) : MetI l yX12_personAt (wa yX12_personAt cX12_personAt 3 (some .int)) ({ frames := 0, cells := 0, slots := 0, locals := 0 }) [.ref this, .int a0, .int 6] D t σ (I, J, ri, rj, rq) sz 0 0 (fun (r : Int32) (u : pq_S × pq_M) => u = (σ, I, J, ri, rj, rq) ∧ (r = ri this_a (746 + 12 * a0.toNatClampNeg))) := by
  refine Met.ofW (cc := cX12_personAt) (maxL := 3) (ret := (some .int)) (by decide) rfl ?_
  intro p e s m args below meth c s₁ B hml hv
  obtain ⟨rfl, hsz, hP, hK, hD0, hN⟩ := hv
  have hx := B.exec
  have hb := B.bytes
  have hr := B.returns
  have hts := atoms_spec (ws := (wa yX12_personAt cX12_personAt 3 (some .int))) B.pre
  have hown : s.vm.findClass RX12 = some m.cls := findClass_of_methodNamed B.named
  have hlocks := B.notSynchronized
  subst hsz
  have hD : va_D (pq_B t σ (I, J, ri, rj, rq) s.heap.size) (pq_P t σ (I, J, ri, rj, rq)) := hD0.self
  generalize hAe : pq_B t σ (I, J, ri, rj, rq) s.heap.size = A at hD ⊢
  have hA : ∀ q : Nat, s.heap.size ≤ q → A q := fun q h => by rw [← hAe]; exact Or.inr h
  have hS : va_S A s.heap s.heap [] := va_S.rf
  have hG : GM [] tg σ I ri I ri rq := ⟨hG0, fun _ _ _ => rfl, fun _ _ _ _ _ => rfl, fun _ _ _ _ _ _ => rfl⟩
  have hl := lv_entry ([.ref this, .int a0, .int 6]) (n := 3) (Nat.le_of_ble_eq_true rfl)
  rw [lg_entry_eq]
  generalize (lg_sl ([.ref this, .int a0, .int 6]) ++ List.replicate (3 - (lg_sl ([.ref this, .int a0, .int 6])).length) Slot.unset).toArray = ls at hl ⊢
  have hl : lv_has ls 3 [(0, .ref this), (1, .int a0), (2, .int 6)] := hl
  refine q_gen (fun Q hQ => ?_)
  have go : ∀ (H : Heap) (locs : List Loc) (ls : Array Slot), va_P D vwCl (pq_P t σ (I, J, ri, rj, rq)) H → va_D A (pq_P t σ (I, J, ri, rj, rq)) → va_S A s.heap H locs → lv_has ls 3 [(0, .ref this), (1, .int a0), (2, .int 6)] → W p l e ({ frames := 0, cells := 0, slots := 0, locals := 0 } : Room) s m (List.toArray ([.ref this, .int a0, .int 6] : List Value)) below meth c H locs 0 0 Q (F0 m 0 ls []) := by
    intro H locs ls hP hD hS hl
    refine lv_aload_n hx hb dX12_personAt_0 rfl (lv_at hl 0 rfl) ?_
    refine pg_f (v := .ref this_a) (C := RX12) (T := TX12) (N := 31) hx hb hts (tw_i inlX12) hown hK hP hL_this hK_this (by decide) rfl 0 (by decide) (hts _ (tw_c tw_176)) (pq_hv rfl hR_this_a) dX12_personAt_1 ?_
    refine lv_sipush (v := 740) hx hb dX12_personAt_4 (by decide) ?_
    refine lv_bipush (v := 12) hx hb dX12_personAt_7 (by decide) ?_
    refine lv_iload_n hx hb dX12_personAt_9 rfl (lv_at hl 1 rfl) ?_
    refine lv_imul hx hb dX12_personAt_10 ?_
    refine lv_topi (fun x_1 ex_1 => ?_)
    have h_2 : rg x_1 0 468 := rg_of_eq ex_1 (rg_mul (rg_k (12 : Int32) 12 rfl) h_a0 (by decide))
    have uh_2 := h_2.1
    have vh_2 := h_2.2
    have tx_1 : (x_1).toInt = 12 * (a0).toInt := by rw [ex_1]; exact i_mul_rg (a2 := 12) (b2 := (a0).toInt) rfl rfl (rg_k (12 : Int32) 12 rfl) h_a0 (by decide)
    refine lv_iadd hx hb dX12_personAt_11 ?_
    refine lv_topi (fun x_3 ex_3 => ?_)
    have h_4 : rg x_3 740 1208 := rg_of_eq ex_3 (rg_add (rg_k (740 : Int32) 740 rfl) h_2 (by decide))
    have uh_4 := h_4.1
    have vh_4 := h_4.2
    have tx_3 : (x_3).toInt = 740 + (x_1).toInt := by rw [ex_3]; exact i_add_rg (a2 := 740) (b2 := (x_1).toInt) rfl rfl (rg_k (740 : Int32) 740 rfl) h_2 (by decide)
    refine lv_iload_n hx hb dX12_personAt_12 rfl (lv_at hl 2 rfl) ?_
    refine lv_iadd hx hb dX12_personAt_13 ?_
    refine lv_topi (fun x_5 ex_5 => ?_)
    have h_6 : rg x_5 746 1214 := rg_of_eq ex_5 (rg_add h_4 (rg_k (6 : Int32) 6 rfl) (by decide))
    have uh_6 := h_6.1
    have vh_6 := h_6.2
    have tx_5 : (x_5).toInt = (x_3).toInt + 6 := by rw [ex_5]; exact i_add_rg (a2 := (x_3).toInt) (b2 := 6) rfl rfl h_4 (rg_k (6 : Int32) 6 rfl) (by decide)
    refine pl_i hx hb hK hP hL_this_a hK_this_a hN_this_a (rg_in h_6 (by decide)) dX12_personAt_14 ?_
    refine lv_topi (fun x_7 ex_7 => ?_)
    subst hQ
    exact W.iret (v := x_7) hx hb hr (fun t1 ht hW => ⟨⟨x_7, (σ, I, J, ri, rj, rq), rfl, ⟨rfl, (show x_7 = ri this_a (746 + 12 * a0.toNatClampNeg) from ex_7.trans (congrArg (ri this_a) (by have z0 := clampE a0; have z1 := clampE x_5; omega)))⟩, by rw [ht]; exact hP, va_K.moved hW.alike hK, hD⟩, hS.F ht⟩) hS.2.2 dX12_personAt_15
  exact go _ _ _ hP hD hS hl

set_option maxHeartbeats 4000000 in
set_option maxRecDepth 100000 in
theorem s_X12_personAt_c7 (l : Launch) (D : va_G) (t : pq_T) (σ : pq_S) (I : Nat → Nat → Int32) (J : Nat → Nat → Int64) (ri : Nat → Nat → Int32) (rj : Nat → Nat → Int64) (rq : Nat → Nat → Option Nat) (sz : Nat) (tg : Nat → Nat) (hSH : SH σ tg) (hG0 : GT tg I ri) (this : Nat) (a0 : Int32) (hL_this : this ∈ σ.1) (hK_this : σ.2.1 this = 12) (h_a0 : rg a0 0 39) (this_a : Nat) (hR_this_a : σ.2.2.1 384 this = some this_a) (hL_this_a : this_a ∈ σ.1) (hK_this_a : σ.2.1 this_a = 13) (hN_this_a : σ.2.2.2 this_a = 12720) (hT_this_a : tg this_a = 384) : MetI l yX12_personAt (wa yX12_personAt cX12_personAt 3 (some .int)) ({ frames := 0, cells := 0, slots := 0, locals := 0 }) [.ref this, .int a0, .int 7] D t σ (I, J, ri, rj, rq) sz 0 0 (fun (r : Int32) (u : pq_S × pq_M) => u = (σ, I, J, ri, rj, rq) ∧ (r = ri this_a (747 + 12 * a0.toNatClampNeg))) := by
  refine Met.ofW (cc := cX12_personAt) (maxL := 3) (ret := (some .int)) (by decide) rfl ?_
  intro p e s m args below meth c s₁ B hml hv
  obtain ⟨rfl, hsz, hP, hK, hD0, hN⟩ := hv
  have hx := B.exec
  have hb := B.bytes
  have hr := B.returns
  have hts := atoms_spec (ws := (wa yX12_personAt cX12_personAt 3 (some .int))) B.pre
  have hown : s.vm.findClass RX12 = some m.cls := findClass_of_methodNamed B.named
  have hlocks := B.notSynchronized
  subst hsz
  have hD : va_D (pq_B t σ (I, J, ri, rj, rq) s.heap.size) (pq_P t σ (I, J, ri, rj, rq)) := hD0.self
  generalize hAe : pq_B t σ (I, J, ri, rj, rq) s.heap.size = A at hD ⊢
  have hA : ∀ q : Nat, s.heap.size ≤ q → A q := fun q h => by rw [← hAe]; exact Or.inr h
  have hS : va_S A s.heap s.heap [] := va_S.rf
  have hG : GM [] tg σ I ri I ri rq := ⟨hG0, fun _ _ _ => rfl, fun _ _ _ _ _ => rfl, fun _ _ _ _ _ _ => rfl⟩
  have hl := lv_entry ([.ref this, .int a0, .int 7]) (n := 3) (Nat.le_of_ble_eq_true rfl)
  rw [lg_entry_eq]
  generalize (lg_sl ([.ref this, .int a0, .int 7]) ++ List.replicate (3 - (lg_sl ([.ref this, .int a0, .int 7])).length) Slot.unset).toArray = ls at hl ⊢
  have hl : lv_has ls 3 [(0, .ref this), (1, .int a0), (2, .int 7)] := hl
  refine q_gen (fun Q hQ => ?_)
  have go : ∀ (H : Heap) (locs : List Loc) (ls : Array Slot), va_P D vwCl (pq_P t σ (I, J, ri, rj, rq)) H → va_D A (pq_P t σ (I, J, ri, rj, rq)) → va_S A s.heap H locs → lv_has ls 3 [(0, .ref this), (1, .int a0), (2, .int 7)] → W p l e ({ frames := 0, cells := 0, slots := 0, locals := 0 } : Room) s m (List.toArray ([.ref this, .int a0, .int 7] : List Value)) below meth c H locs 0 0 Q (F0 m 0 ls []) := by
    intro H locs ls hP hD hS hl
    refine lv_aload_n hx hb dX12_personAt_0 rfl (lv_at hl 0 rfl) ?_
    refine pg_f (v := .ref this_a) (C := RX12) (T := TX12) (N := 31) hx hb hts (tw_i inlX12) hown hK hP hL_this hK_this (by decide) rfl 0 (by decide) (hts _ (tw_c tw_176)) (pq_hv rfl hR_this_a) dX12_personAt_1 ?_
    refine lv_sipush (v := 740) hx hb dX12_personAt_4 (by decide) ?_
    refine lv_bipush (v := 12) hx hb dX12_personAt_7 (by decide) ?_
    refine lv_iload_n hx hb dX12_personAt_9 rfl (lv_at hl 1 rfl) ?_
    refine lv_imul hx hb dX12_personAt_10 ?_
    refine lv_topi (fun x_1 ex_1 => ?_)
    have h_2 : rg x_1 0 468 := rg_of_eq ex_1 (rg_mul (rg_k (12 : Int32) 12 rfl) h_a0 (by decide))
    have uh_2 := h_2.1
    have vh_2 := h_2.2
    have tx_1 : (x_1).toInt = 12 * (a0).toInt := by rw [ex_1]; exact i_mul_rg (a2 := 12) (b2 := (a0).toInt) rfl rfl (rg_k (12 : Int32) 12 rfl) h_a0 (by decide)
    refine lv_iadd hx hb dX12_personAt_11 ?_
    refine lv_topi (fun x_3 ex_3 => ?_)
    have h_4 : rg x_3 740 1208 := rg_of_eq ex_3 (rg_add (rg_k (740 : Int32) 740 rfl) h_2 (by decide))
    have uh_4 := h_4.1
    have vh_4 := h_4.2
    have tx_3 : (x_3).toInt = 740 + (x_1).toInt := by rw [ex_3]; exact i_add_rg (a2 := 740) (b2 := (x_1).toInt) rfl rfl (rg_k (740 : Int32) 740 rfl) h_2 (by decide)
    refine lv_iload_n hx hb dX12_personAt_12 rfl (lv_at hl 2 rfl) ?_
    refine lv_iadd hx hb dX12_personAt_13 ?_
    refine lv_topi (fun x_5 ex_5 => ?_)
    have h_6 : rg x_5 747 1215 := rg_of_eq ex_5 (rg_add h_4 (rg_k (7 : Int32) 7 rfl) (by decide))
    have uh_6 := h_6.1
    have vh_6 := h_6.2
    have tx_5 : (x_5).toInt = (x_3).toInt + 7 := by rw [ex_5]; exact i_add_rg (a2 := (x_3).toInt) (b2 := 7) rfl rfl h_4 (rg_k (7 : Int32) 7 rfl) (by decide)
    refine pl_i hx hb hK hP hL_this_a hK_this_a hN_this_a (rg_in h_6 (by decide)) dX12_personAt_14 ?_
    refine lv_topi (fun x_7 ex_7 => ?_)
    subst hQ
    exact W.iret (v := x_7) hx hb hr (fun t1 ht hW => ⟨⟨x_7, (σ, I, J, ri, rj, rq), rfl, ⟨rfl, (show x_7 = ri this_a (747 + 12 * a0.toNatClampNeg) from ex_7.trans (congrArg (ri this_a) (by have z0 := clampE a0; have z1 := clampE x_5; omega)))⟩, by rw [ht]; exact hP, va_K.moved hW.alike hK, hD⟩, hS.F ht⟩) hS.2.2 dX12_personAt_15
  exact go _ _ _ hP hD hS hl

set_option maxHeartbeats 4000000 in
set_option maxRecDepth 100000 in
theorem s_X12_personOf (l : Launch) (D : va_G) (t : pq_T) (σ : pq_S) (I : Nat → Nat → Int32) (J : Nat → Nat → Int64) (ri : Nat → Nat → Int32) (rj : Nat → Nat → Int64) (rq : Nat → Nat → Option Nat) (sz : Nat) (tg : Nat → Nat) (hSH : SH σ tg) (hG0 : GT tg I ri) (this : Nat) (a0 : Int32) (a1 : Int32) (hL_this : this ∈ σ.1) (hK_this : σ.2.1 this = 12) : MetI l yX12_personOf (wa yX12_personOf cX12_personOf 3 (some .int)) ({ frames := 2, cells := 0, slots := 0, locals := 43 }) [.ref this, .int a0, .int a1] D t σ (I, J, ri, rj, rq) sz 0 0 (fun (r : Int32) (u : pq_S × pq_M) => u = (σ, I, J, ri, rj, rq)) := by
  refine Met.ofW (cc := cX12_personOf) (maxL := 3) (ret := (some .int)) (by decide) rfl ?_
  intro p e s m args below meth c s₁ B hml hv
  obtain ⟨rfl, hsz, hP, hK, hD0, hN⟩ := hv
  have hx := B.exec
  have hb := B.bytes
  have hr := B.returns
  have hts := atoms_spec (ws := (wa yX12_personOf cX12_personOf 3 (some .int))) B.pre
  have hown : s.vm.findClass RX12 = some m.cls := findClass_of_methodNamed B.named
  have hlocks := B.notSynchronized
  subst hsz
  have hD : va_D (pq_B t σ (I, J, ri, rj, rq) s.heap.size) (pq_P t σ (I, J, ri, rj, rq)) := hD0.self
  generalize hAe : pq_B t σ (I, J, ri, rj, rq) s.heap.size = A at hD ⊢
  have hA : ∀ q : Nat, s.heap.size ≤ q → A q := fun q h => by rw [← hAe]; exact Or.inr h
  have hS : va_S A s.heap s.heap [] := va_S.rf
  have hG : GM [] tg σ I ri I ri rq := ⟨hG0, fun _ _ _ => rfl, fun _ _ _ _ _ => rfl, fun _ _ _ _ _ _ => rfl⟩
  have hl := lv_entry ([.ref this, .int a0, .int a1]) (n := 3) (Nat.le_of_ble_eq_true rfl)
  rw [lg_entry_eq]
  generalize (lg_sl ([.ref this, .int a0, .int a1]) ++ List.replicate (3 - (lg_sl ([.ref this, .int a0, .int a1])).length) Slot.unset).toArray = ls at hl ⊢
  have hl : lv_has ls 3 [(0, .ref this), (1, .int a0), (2, .int a1)] := hl
  refine q_gen (fun Q hQ => ?_)
  have go : ∀ (H : Heap) (locs : List Loc) (ls : Array Slot), va_P D vwCl (pq_P t σ (I, J, ri, rj, rq)) H → va_D A (pq_P t σ (I, J, ri, rj, rq)) → va_S A s.heap H locs → lv_has ls 3 [(0, .ref this), (1, .int a0), (2, .int a1)] → W p l e ({ frames := 2, cells := 0, slots := 0, locals := 43 } : Room) s m (List.toArray ([.ref this, .int a0, .int a1] : List Value)) below meth c H locs 0 0 Q (F0 m 0 ls []) := by
    intro H locs ls hP hD hS hl
    refine lv_aload_n hx hb dX12_personOf_0 rfl (lv_at hl 0 rfl) ?_
    refine lv_iload_n hx hb dX12_personOf_1 rfl (lv_at hl 1 rfl) ?_
    refine pk_i (va_runV (As := [.int a0]) (rest := []) ⟨hx, hb, hml, hown, hts⟩ (s_X12_isPerson l D t σ I J ri rj rq H.size tg hSH hG.1 this a0 hL_this hK_this) (cwV 1 hts (tw_V tw_425 tw_426 tw_427 tw_5 tw_428) rfl rfl rfl cv_yX12_isPerson_1 ⟨Nat.le_of_ble_eq_true rfl, Nat.le_of_ble_eq_true rfl⟩) ⟨pq_blind, pq_recv hK hP hL_this hK_this (by decide) rfl, pq_pre hK hN hP hD⟩ rfl rfl hl.1 rfl (lv_room (Nat.le_of_ble_eq_true rfl)) dX12_personOf_2 ⟨Nat.le_of_ble_eq_true rfl, Nat.le_of_ble_eq_true rfl⟩) hD hS hA (fun x_1 σ1 μ1 H locs hw_2 hP hD hS => ?_)
    obtain ⟨hu_3, hr_5⟩ := hw_2
    obtain ⟨hu_3a, hu_3b⟩ := Prod.mk.inj hu_3
    rw [hu_3a, hu_3b] at hP hD
    have h_6 : rg x_1 0 1 := by rcases hr_5 with ⟨q, -⟩ | ⟨q, -⟩ <;> rw [q] <;> exact ⟨by decide, by decide⟩
    have uh_6 := h_6.1
    have vh_6 := h_6.2
    refine lv_if_ne (tgt := 10) hx hb dX12_personOf_5 (by decide) (fun c_7 => ?_) (fun c_7 => ?_)
    · have f_8 := (hr_5.resolve_right (fun q => c_7 q.1)).2
      have uf_8 := f_8.1
      have vf_8 := f_8.2
      have tc_9 : (x_1).toInt ≠ 0 := fun q => c_7 (Int32.toInt_inj.mp q)
      have h_10 : rg x_1 1 1 := rg_ne c_7 h_6 0 rfl (by decide)
      have uh_10 := h_10.1
      have vh_10 := h_10.2
      refine lv_iload_n hx hb dX12_personOf_10 rfl (lv_at hl 2 rfl) ?_
      by_cases k_11 : a1 = (0 : Int32)
      · have tc_12 : (a1).toInt = 0 := congrArg Int32.toInt k_11
        have h_13 : rg a1 0 0 := rg_and (rg_full _) (rg_of_eq k_11 (rg_k (0 : Int32) 0 rfl)) (by decide)
        have uh_13 := h_13.1
        have vh_13 := h_13.2
        refine lv_tov 0 k_11 ?_
        refine lv_tableIn (tgt := 56) hx hb dX12_personOf_11 (by decide) (by decide) rfl (by decide) ?_
        refine lv_aload_n hx hb dX12_personOf_56 rfl (lv_at hl 0 rfl) ?_
        refine lv_iload_n hx hb dX12_personOf_57 rfl (lv_at hl 1 rfl) ?_
        refine lv_iconst (v := 3) hx hb dX12_personOf_58 (by decide) ?_
        obtain ⟨w_14, hR_w_14, hL_w_14, hK_w_14, hN_w_14, hT_w_14⟩ := sh_a hSH 384 (ci := 12) (kd := 13) (len := 12720) rfl (by decide) hL_this hK_this
        refine pk_i (va_runV (As := [.int a0, .int 3]) (rest := []) ⟨hx, hb, hml, hown, hts⟩ (s_X12_personAt_c3 l D t σ I J ri rj rq H.size tg hSH hG.1 this a0 hL_this hK_this (rg_w f_8 (by decide)) w_14 hR_w_14 hL_w_14 hK_w_14 hN_w_14 hT_w_14) (cwV 2 hts (tw_V tw_437 tw_438 tw_439 tw_5 tw_440) rfl rfl rfl cv_yX12_personAt_2 ⟨Nat.le_of_ble_eq_true rfl, Nat.le_of_ble_eq_true rfl⟩) ⟨pq_blind, pq_recv hK hP hL_this hK_this (by decide) rfl, pq_pre hK hN hP hD⟩ rfl rfl hl.1 rfl (lv_room (Nat.le_of_ble_eq_true rfl)) dX12_personOf_59 ⟨Nat.le_of_ble_eq_true rfl, Nat.le_of_ble_eq_true rfl⟩) hD hS hA (fun x_15 σ1 μ1 H locs hw_16 hP hD hS => ?_)
        obtain ⟨hu_17, hp_20, hp_21, hr_19⟩ := hw_16
        obtain ⟨hu_17a, hu_17b⟩ := Prod.mk.inj hu_17
        rw [hu_17a, hu_17b] at hP hD
        have tt_22 := hp_21
        subst hQ
        exact W.iret (v := x_15) hx hb hr (fun t1 ht hW => ⟨⟨x_15, (σ, I, J, ri, rj, rq), rfl, rfl, by rw [ht]; exact hP, va_K.moved hW.alike hK, hD⟩, hS.F ht⟩) hS.2.2 dX12_personOf_62
      by_cases k_23 : a1 = (1 : Int32)
      · have tc_24 : (a1).toInt = 1 := congrArg Int32.toInt k_23
        have h_25 : rg a1 1 1 := rg_and (rg_full _) (rg_of_eq k_23 (rg_k (1 : Int32) 1 rfl)) (by decide)
        have uh_25 := h_25.1
        have vh_25 := h_25.2
        refine lv_tov 1 k_23 ?_
        refine lv_tableIn (tgt := 63) hx hb dX12_personOf_11 (by decide) (by decide) rfl (by decide) ?_
        refine lv_aload_n hx hb dX12_personOf_63 rfl (lv_at hl 0 rfl) ?_
        refine lv_iload_n hx hb dX12_personOf_64 rfl (lv_at hl 1 rfl) ?_
        refine lv_iconst (v := 0) hx hb dX12_personOf_65 (by decide) ?_
        obtain ⟨w_26, hR_w_26, hL_w_26, hK_w_26, hN_w_26, hT_w_26⟩ := sh_a hSH 384 (ci := 12) (kd := 13) (len := 12720) rfl (by decide) hL_this hK_this
        refine pk_i (va_runV (As := [.int a0, .int 0]) (rest := []) ⟨hx, hb, hml, hown, hts⟩ (s_X12_personAt_c0 l D t σ I J ri rj rq H.size tg hSH hG.1 this a0 hL_this hK_this (rg_w f_8 (by decide)) w_26 hR_w_26 hL_w_26 hK_w_26 hN_w_26 hT_w_26) (cwV 2 hts (tw_V tw_437 tw_438 tw_439 tw_5 tw_440) rfl rfl rfl cv_yX12_personAt_2 ⟨Nat.le_of_ble_eq_true rfl, Nat.le_of_ble_eq_true rfl⟩) ⟨pq_blind, pq_recv hK hP hL_this hK_this (by decide) rfl, pq_pre hK hN hP hD⟩ rfl rfl hl.1 rfl (lv_room (Nat.le_of_ble_eq_true rfl)) dX12_personOf_66 ⟨Nat.le_of_ble_eq_true rfl, Nat.le_of_ble_eq_true rfl⟩) hD hS hA (fun x_27 σ1 μ1 H locs hw_28 hP hD hS => ?_)
        obtain ⟨hu_29, hp_32⟩ := hw_28
        obtain ⟨hu_29a, hu_29b⟩ := Prod.mk.inj hu_29
        rw [hu_29a, hu_29b] at hP hD
        subst hQ
        exact W.iret (v := x_27) hx hb hr (fun t1 ht hW => ⟨⟨x_27, (σ, I, J, ri, rj, rq), rfl, rfl, by rw [ht]; exact hP, va_K.moved hW.alike hK, hD⟩, hS.F ht⟩) hS.2.2 dX12_personOf_69
      by_cases k_33 : a1 = (2 : Int32)
      · have tc_34 : (a1).toInt = 2 := congrArg Int32.toInt k_33
        have h_35 : rg a1 2 2 := rg_and (rg_full _) (rg_of_eq k_33 (rg_k (2 : Int32) 2 rfl)) (by decide)
        have uh_35 := h_35.1
        have vh_35 := h_35.2
        refine lv_tov 2 k_33 ?_
        refine lv_tableIn (tgt := 70) hx hb dX12_personOf_11 (by decide) (by decide) rfl (by decide) ?_
        refine lv_aload_n hx hb dX12_personOf_70 rfl (lv_at hl 0 rfl) ?_
        refine lv_iload_n hx hb dX12_personOf_71 rfl (lv_at hl 1 rfl) ?_
        refine lv_iconst (v := 1) hx hb dX12_personOf_72 (by decide) ?_
        obtain ⟨w_36, hR_w_36, hL_w_36, hK_w_36, hN_w_36, hT_w_36⟩ := sh_a hSH 384 (ci := 12) (kd := 13) (len := 12720) rfl (by decide) hL_this hK_this
        refine pk_i (va_runV (As := [.int a0, .int 1]) (rest := []) ⟨hx, hb, hml, hown, hts⟩ (s_X12_personAt_c1 l D t σ I J ri rj rq H.size tg hSH hG.1 this a0 hL_this hK_this (rg_w f_8 (by decide)) w_36 hR_w_36 hL_w_36 hK_w_36 hN_w_36 hT_w_36) (cwV 2 hts (tw_V tw_437 tw_438 tw_439 tw_5 tw_440) rfl rfl rfl cv_yX12_personAt_2 ⟨Nat.le_of_ble_eq_true rfl, Nat.le_of_ble_eq_true rfl⟩) ⟨pq_blind, pq_recv hK hP hL_this hK_this (by decide) rfl, pq_pre hK hN hP hD⟩ rfl rfl hl.1 rfl (lv_room (Nat.le_of_ble_eq_true rfl)) dX12_personOf_73 ⟨Nat.le_of_ble_eq_true rfl, Nat.le_of_ble_eq_true rfl⟩) hD hS hA (fun x_37 σ1 μ1 H locs hw_38 hP hD hS => ?_)
        obtain ⟨hu_39, hp_42⟩ := hw_38
        obtain ⟨hu_39a, hu_39b⟩ := Prod.mk.inj hu_39
        rw [hu_39a, hu_39b] at hP hD
        subst hQ
        exact W.iret (v := x_37) hx hb hr (fun t1 ht hW => ⟨⟨x_37, (σ, I, J, ri, rj, rq), rfl, rfl, by rw [ht]; exact hP, va_K.moved hW.alike hK, hD⟩, hS.F ht⟩) hS.2.2 dX12_personOf_76
      by_cases k_43 : a1 = (3 : Int32)
      · have tc_44 : (a1).toInt = 3 := congrArg Int32.toInt k_43
        have h_45 : rg a1 3 3 := rg_and (rg_full _) (rg_of_eq k_43 (rg_k (3 : Int32) 3 rfl)) (by decide)
        have uh_45 := h_45.1
        have vh_45 := h_45.2
        refine lv_tov 3 k_43 ?_
        refine lv_tableIn (tgt := 77) hx hb dX12_personOf_11 (by decide) (by decide) rfl (by decide) ?_
        refine lv_aload_n hx hb dX12_personOf_77 rfl (lv_at hl 0 rfl) ?_
        refine lv_iload_n hx hb dX12_personOf_78 rfl (lv_at hl 1 rfl) ?_
        refine lv_iconst (v := 2) hx hb dX12_personOf_79 (by decide) ?_
        obtain ⟨w_46, hR_w_46, hL_w_46, hK_w_46, hN_w_46, hT_w_46⟩ := sh_a hSH 384 (ci := 12) (kd := 13) (len := 12720) rfl (by decide) hL_this hK_this
        refine pk_i (va_runV (As := [.int a0, .int 2]) (rest := []) ⟨hx, hb, hml, hown, hts⟩ (s_X12_personAt_c2 l D t σ I J ri rj rq H.size tg hSH hG.1 this a0 hL_this hK_this (rg_w f_8 (by decide)) w_46 hR_w_46 hL_w_46 hK_w_46 hN_w_46 hT_w_46) (cwV 2 hts (tw_V tw_437 tw_438 tw_439 tw_5 tw_440) rfl rfl rfl cv_yX12_personAt_2 ⟨Nat.le_of_ble_eq_true rfl, Nat.le_of_ble_eq_true rfl⟩) ⟨pq_blind, pq_recv hK hP hL_this hK_this (by decide) rfl, pq_pre hK hN hP hD⟩ rfl rfl hl.1 rfl (lv_room (Nat.le_of_ble_eq_true rfl)) dX12_personOf_80 ⟨Nat.le_of_ble_eq_true rfl, Nat.le_of_ble_eq_true rfl⟩) hD hS hA (fun x_47 σ1 μ1 H locs hw_48 hP hD hS => ?_)
        obtain ⟨hu_49, hp_52⟩ := hw_48
        obtain ⟨hu_49a, hu_49b⟩ := Prod.mk.inj hu_49
        rw [hu_49a, hu_49b] at hP hD
        subst hQ
        exact W.iret (v := x_47) hx hb hr (fun t1 ht hW => ⟨⟨x_47, (σ, I, J, ri, rj, rq), rfl, rfl, by rw [ht]; exact hP, va_K.moved hW.alike hK, hD⟩, hS.F ht⟩) hS.2.2 dX12_personOf_83
      by_cases k_53 : a1 = (4 : Int32)
      · have tc_54 : (a1).toInt = 4 := congrArg Int32.toInt k_53
        have h_55 : rg a1 4 4 := rg_and (rg_full _) (rg_of_eq k_53 (rg_k (4 : Int32) 4 rfl)) (by decide)
        have uh_55 := h_55.1
        have vh_55 := h_55.2
        refine lv_tov 4 k_53 ?_
        refine lv_tableIn (tgt := 84) hx hb dX12_personOf_11 (by decide) (by decide) rfl (by decide) ?_
        refine lv_aload_n hx hb dX12_personOf_84 rfl (lv_at hl 0 rfl) ?_
        refine lv_iload_n hx hb dX12_personOf_85 rfl (lv_at hl 1 rfl) ?_
        refine lv_iconst (v := 4) hx hb dX12_personOf_86 (by decide) ?_
        obtain ⟨w_56, hR_w_56, hL_w_56, hK_w_56, hN_w_56, hT_w_56⟩ := sh_a hSH 384 (ci := 12) (kd := 13) (len := 12720) rfl (by decide) hL_this hK_this
        refine pk_i (va_runV (As := [.int a0, .int 4]) (rest := []) ⟨hx, hb, hml, hown, hts⟩ (s_X12_personAt_c4 l D t σ I J ri rj rq H.size tg hSH hG.1 this a0 hL_this hK_this (rg_w f_8 (by decide)) w_56 hR_w_56 hL_w_56 hK_w_56 hN_w_56 hT_w_56) (cwV 2 hts (tw_V tw_437 tw_438 tw_439 tw_5 tw_440) rfl rfl rfl cv_yX12_personAt_2 ⟨Nat.le_of_ble_eq_true rfl, Nat.le_of_ble_eq_true rfl⟩) ⟨pq_blind, pq_recv hK hP hL_this hK_this (by decide) rfl, pq_pre hK hN hP hD⟩ rfl rfl hl.1 rfl (lv_room (Nat.le_of_ble_eq_true rfl)) dX12_personOf_87 ⟨Nat.le_of_ble_eq_true rfl, Nat.le_of_ble_eq_true rfl⟩) hD hS hA (fun x_57 σ1 μ1 H locs hw_58 hP hD hS => ?_)
        obtain ⟨hu_59, hp_62⟩ := hw_58
        obtain ⟨hu_59a, hu_59b⟩ := Prod.mk.inj hu_59
        rw [hu_59a, hu_59b] at hP hD
        subst hQ
        exact W.iret (v := x_57) hx hb hr (fun t1 ht hW => ⟨⟨x_57, (σ, I, J, ri, rj, rq), rfl, rfl, by rw [ht]; exact hP, va_K.moved hW.alike hK, hD⟩, hS.F ht⟩) hS.2.2 dX12_personOf_90
      by_cases k_63 : a1 = (5 : Int32)
      · have tc_64 : (a1).toInt = 5 := congrArg Int32.toInt k_63
        have h_65 : rg a1 5 5 := rg_and (rg_full _) (rg_of_eq k_63 (rg_k (5 : Int32) 5 rfl)) (by decide)
        have uh_65 := h_65.1
        have vh_65 := h_65.2
        refine lv_tov 5 k_63 ?_
        refine lv_tableIn (tgt := 91) hx hb dX12_personOf_11 (by decide) (by decide) rfl (by decide) ?_
        refine lv_aload_n hx hb dX12_personOf_91 rfl (lv_at hl 0 rfl) ?_
        refine lv_iload_n hx hb dX12_personOf_92 rfl (lv_at hl 1 rfl) ?_
        refine lv_iconst (v := 5) hx hb dX12_personOf_93 (by decide) ?_
        obtain ⟨w_66, hR_w_66, hL_w_66, hK_w_66, hN_w_66, hT_w_66⟩ := sh_a hSH 384 (ci := 12) (kd := 13) (len := 12720) rfl (by decide) hL_this hK_this
        refine pk_i (va_runV (As := [.int a0, .int 5]) (rest := []) ⟨hx, hb, hml, hown, hts⟩ (s_X12_personAt_c5 l D t σ I J ri rj rq H.size tg hSH hG.1 this a0 hL_this hK_this (rg_w f_8 (by decide)) w_66 hR_w_66 hL_w_66 hK_w_66 hN_w_66 hT_w_66) (cwV 2 hts (tw_V tw_437 tw_438 tw_439 tw_5 tw_440) rfl rfl rfl cv_yX12_personAt_2 ⟨Nat.le_of_ble_eq_true rfl, Nat.le_of_ble_eq_true rfl⟩) ⟨pq_blind, pq_recv hK hP hL_this hK_this (by decide) rfl, pq_pre hK hN hP hD⟩ rfl rfl hl.1 rfl (lv_room (Nat.le_of_ble_eq_true rfl)) dX12_personOf_94 ⟨Nat.le_of_ble_eq_true rfl, Nat.le_of_ble_eq_true rfl⟩) hD hS hA (fun x_67 σ1 μ1 H locs hw_68 hP hD hS => ?_)
        obtain ⟨hu_69, hp_72⟩ := hw_68
        obtain ⟨hu_69a, hu_69b⟩ := Prod.mk.inj hu_69
        rw [hu_69a, hu_69b] at hP hD
        subst hQ
        exact W.iret (v := x_67) hx hb hr (fun t1 ht hW => ⟨⟨x_67, (σ, I, J, ri, rj, rq), rfl, rfl, by rw [ht]; exact hP, va_K.moved hW.alike hK, hD⟩, hS.F ht⟩) hS.2.2 dX12_personOf_97
      by_cases k_73 : a1 = (6 : Int32)
      · have tc_74 : (a1).toInt = 6 := congrArg Int32.toInt k_73
        have h_75 : rg a1 6 6 := rg_and (rg_full _) (rg_of_eq k_73 (rg_k (6 : Int32) 6 rfl)) (by decide)
        have uh_75 := h_75.1
        have vh_75 := h_75.2
        refine lv_tov 6 k_73 ?_
        refine lv_tableIn (tgt := 98) hx hb dX12_personOf_11 (by decide) (by decide) rfl (by decide) ?_
        refine lv_aload_n hx hb dX12_personOf_98 rfl (lv_at hl 0 rfl) ?_
        refine lv_iload_n hx hb dX12_personOf_99 rfl (lv_at hl 1 rfl) ?_
        refine lv_bipush (v := 6) hx hb dX12_personOf_100 (by decide) ?_
        obtain ⟨w_76, hR_w_76, hL_w_76, hK_w_76, hN_w_76, hT_w_76⟩ := sh_a hSH 384 (ci := 12) (kd := 13) (len := 12720) rfl (by decide) hL_this hK_this
        refine pk_i (va_runV (As := [.int a0, .int 6]) (rest := []) ⟨hx, hb, hml, hown, hts⟩ (s_X12_personAt_c6 l D t σ I J ri rj rq H.size tg hSH hG.1 this a0 hL_this hK_this (rg_w f_8 (by decide)) w_76 hR_w_76 hL_w_76 hK_w_76 hN_w_76 hT_w_76) (cwV 2 hts (tw_V tw_437 tw_438 tw_439 tw_5 tw_440) rfl rfl rfl cv_yX12_personAt_2 ⟨Nat.le_of_ble_eq_true rfl, Nat.le_of_ble_eq_true rfl⟩) ⟨pq_blind, pq_recv hK hP hL_this hK_this (by decide) rfl, pq_pre hK hN hP hD⟩ rfl rfl hl.1 rfl (lv_room (Nat.le_of_ble_eq_true rfl)) dX12_personOf_102 ⟨Nat.le_of_ble_eq_true rfl, Nat.le_of_ble_eq_true rfl⟩) hD hS hA (fun x_77 σ1 μ1 H locs hw_78 hP hD hS => ?_)
        obtain ⟨hu_79, hp_82⟩ := hw_78
        obtain ⟨hu_79a, hu_79b⟩ := Prod.mk.inj hu_79
        rw [hu_79a, hu_79b] at hP hD
        subst hQ
        exact W.iret (v := x_77) hx hb hr (fun t1 ht hW => ⟨⟨x_77, (σ, I, J, ri, rj, rq), rfl, rfl, by rw [ht]; exact hP, va_K.moved hW.alike hK, hD⟩, hS.F ht⟩) hS.2.2 dX12_personOf_105
      by_cases k_83 : a1 = (7 : Int32)
      · have tc_84 : (a1).toInt = 7 := congrArg Int32.toInt k_83
        have h_85 : rg a1 7 7 := rg_and (rg_full _) (rg_of_eq k_83 (rg_k (7 : Int32) 7 rfl)) (by decide)
        have uh_85 := h_85.1
        have vh_85 := h_85.2
        refine lv_tov 7 k_83 ?_
        refine lv_tableIn (tgt := 106) hx hb dX12_personOf_11 (by decide) (by decide) rfl (by decide) ?_
        refine lv_aload_n hx hb dX12_personOf_106 rfl (lv_at hl 0 rfl) ?_
        refine lv_iload_n hx hb dX12_personOf_107 rfl (lv_at hl 1 rfl) ?_
        refine lv_bipush (v := 7) hx hb dX12_personOf_108 (by decide) ?_
        obtain ⟨w_86, hR_w_86, hL_w_86, hK_w_86, hN_w_86, hT_w_86⟩ := sh_a hSH 384 (ci := 12) (kd := 13) (len := 12720) rfl (by decide) hL_this hK_this
        refine pk_i (va_runV (As := [.int a0, .int 7]) (rest := []) ⟨hx, hb, hml, hown, hts⟩ (s_X12_personAt_c7 l D t σ I J ri rj rq H.size tg hSH hG.1 this a0 hL_this hK_this (rg_w f_8 (by decide)) w_86 hR_w_86 hL_w_86 hK_w_86 hN_w_86 hT_w_86) (cwV 2 hts (tw_V tw_437 tw_438 tw_439 tw_5 tw_440) rfl rfl rfl cv_yX12_personAt_2 ⟨Nat.le_of_ble_eq_true rfl, Nat.le_of_ble_eq_true rfl⟩) ⟨pq_blind, pq_recv hK hP hL_this hK_this (by decide) rfl, pq_pre hK hN hP hD⟩ rfl rfl hl.1 rfl (lv_room (Nat.le_of_ble_eq_true rfl)) dX12_personOf_110 ⟨Nat.le_of_ble_eq_true rfl, Nat.le_of_ble_eq_true rfl⟩) hD hS hA (fun x_87 σ1 μ1 H locs hw_88 hP hD hS => ?_)
        obtain ⟨hu_89, hp_92⟩ := hw_88
        obtain ⟨hu_89a, hu_89b⟩ := Prod.mk.inj hu_89
        rw [hu_89a, hu_89b] at hP hD
        subst hQ
        exact W.iret (v := x_87) hx hb hr (fun t1 ht hW => ⟨⟨x_87, (σ, I, J, ri, rj, rq), rfl, rfl, by rw [ht]; exact hP, va_K.moved hW.alike hK, hD⟩, hS.F ht⟩) hS.2.2 dX12_personOf_113
      refine lv_tableOut (tgt := 114) hx hb dX12_personOf_11 (by have z_k_11 := sw_ne k_11 (n := 0) rfl; have z_k_23 := sw_ne k_23 (n := 1) rfl; have z_k_33 := sw_ne k_33 (n := 2) rfl; have z_k_43 := sw_ne k_43 (n := 3) rfl; have z_k_53 := sw_ne k_53 (n := 4) rfl; have z_k_63 := sw_ne k_63 (n := 5) rfl; have z_k_73 := sw_ne k_73 (n := 6) rfl; have z_k_83 := sw_ne k_83 (n := 7) rfl; omega) (by decide) ?_
      refine lv_iconst (v := (-1)) hx hb dX12_personOf_114 (by decide) ?_
      subst hQ
      exact W.iret (v := (-1)) hx hb hr (fun t1 ht hW => ⟨⟨(-1), (σ, I, J, ri, rj, rq), rfl, rfl, by rw [ht]; exact hP, va_K.moved hW.alike hK, hD⟩, hS.F ht⟩) hS.2.2 dX12_personOf_115
    · have f_93 := (hr_5.resolve_left (fun q => absurd (q.1.symm.trans c_7) (by decide))).2
      have tc_94 : (x_1).toInt = 0 := congrArg Int32.toInt c_7
      have h_95 : rg x_1 0 0 := rg_and h_6 (rg_of_eq c_7 (rg_k (0 : Int32) 0 rfl)) (by decide)
      have uh_95 := h_95.1
      have vh_95 := h_95.2
      refine lv_iconst (v := (-1)) hx hb dX12_personOf_8 (by decide) ?_
      subst hQ
      exact W.iret (v := (-1)) hx hb hr (fun t1 ht hW => ⟨⟨(-1), (σ, I, J, ri, rj, rq), rfl, rfl, by rw [ht]; exact hP, va_K.moved hW.alike hK, hD⟩, hS.F ht⟩) hS.2.2 dX12_personOf_9
  exact go _ _ _ hP hD hS hl

set_option maxHeartbeats 4000000 in
set_option maxRecDepth 100000 in
theorem s_X12_at (l : Launch) (D : va_G) (t : pq_T) (σ : pq_S) (I : Nat → Nat → Int32) (J : Nat → Nat → Int64) (ri : Nat → Nat → Int32) (rj : Nat → Nat → Int64) (rq : Nat → Nat → Option Nat) (sz : Nat) (tg : Nat → Nat) (hSH : SH σ tg) (hG0 : GT tg I ri) (this : Nat) (a0 : Int32) (hL_this : this ∈ σ.1) (hK_this : σ.2.1 this = 12) : MetI l yX12_at (wa yX12_at cX12_at 2 (some .int)) ({ frames := 3, cells := 0, slots := 0, locals := 64 }) [.ref this, .int a0] D t σ (I, J, ri, rj, rq) sz 0 0 (fun (r : Int32) (u : pq_S × pq_M) => u = (σ, I, J, ri, rj, rq)) := by
  refine Met.ofW (cc := cX12_at) (maxL := 2) (ret := (some .int)) (by decide) rfl ?_
  intro p e s m args below meth c s₁ B hml hv
  obtain ⟨rfl, hsz, hP, hK, hD0, hN⟩ := hv
  have hx := B.exec
  have hb := B.bytes
  have hr := B.returns
  have hts := atoms_spec (ws := (wa yX12_at cX12_at 2 (some .int))) B.pre
  have hown : s.vm.findClass RX12 = some m.cls := findClass_of_methodNamed B.named
  have hlocks := B.notSynchronized
  subst hsz
  have hD : va_D (pq_B t σ (I, J, ri, rj, rq) s.heap.size) (pq_P t σ (I, J, ri, rj, rq)) := hD0.self
  generalize hAe : pq_B t σ (I, J, ri, rj, rq) s.heap.size = A at hD ⊢
  have hA : ∀ q : Nat, s.heap.size ≤ q → A q := fun q h => by rw [← hAe]; exact Or.inr h
  have hS : va_S A s.heap s.heap [] := va_S.rf
  have hG : GM [] tg σ I ri I ri rq := ⟨hG0, fun _ _ _ => rfl, fun _ _ _ _ _ => rfl, fun _ _ _ _ _ _ => rfl⟩
  have hl := lv_entry ([.ref this, .int a0]) (n := 2) (Nat.le_of_ble_eq_true rfl)
  rw [lg_entry_eq]
  generalize (lg_sl ([.ref this, .int a0]) ++ List.replicate (2 - (lg_sl ([.ref this, .int a0])).length) Slot.unset).toArray = ls at hl ⊢
  have hl : lv_has ls 2 [(0, .ref this), (1, .int a0)] := hl
  refine q_gen (fun Q hQ => ?_)
  have go : ∀ (H : Heap) (locs : List Loc) (ls : Array Slot), va_P D vwCl (pq_P t σ (I, J, ri, rj, rq)) H → va_D A (pq_P t σ (I, J, ri, rj, rq)) → va_S A s.heap H locs → lv_has ls 2 [(0, .ref this), (1, .int a0)] → W p l e ({ frames := 3, cells := 0, slots := 0, locals := 64 } : Room) s m (List.toArray ([.ref this, .int a0] : List Value)) below meth c H locs 0 0 Q (F0 m 0 ls []) := by
    intro H locs ls hP hD hS hl
    refine lv_aload_n hx hb dX12_at_0 rfl (lv_at hl 0 rfl) ?_
    refine lv_iload_n hx hb dX12_at_1 rfl (lv_at hl 1 rfl) ?_
    refine pk_i (va_runV (As := [.int a0]) (rest := []) ⟨hx, hb, hml, hown, hts⟩ (s_X12_isPlace l D t σ I J ri rj rq H.size tg hSH hG.1 this a0 hL_this hK_this) (cwV 1 hts (tw_V tw_429 tw_430 tw_431 tw_5 tw_432) rfl rfl rfl cv_yX12_isPlace_1 ⟨Nat.le_of_ble_eq_true rfl, Nat.le_of_ble_eq_true rfl⟩) ⟨pq_blind, pq_recv hK hP hL_this hK_this (by decide) rfl, pq_pre hK hN hP hD⟩ rfl rfl hl.1 rfl (lv_room (Nat.le_of_ble_eq_true rfl)) dX12_at_2 ⟨Nat.le_of_ble_eq_true rfl, Nat.le_of_ble_eq_true rfl⟩) hD hS hA (fun x_1 σ1 μ1 H locs hw_2 hP hD hS => ?_)
    obtain ⟨hu_3, hr_5⟩ := hw_2
    obtain ⟨hu_3a, hu_3b⟩ := Prod.mk.inj hu_3
    rw [hu_3a, hu_3b] at hP hD
    have h_6 : rg x_1 0 1 := by rcases hr_5 with ⟨q, -⟩ | ⟨q, -⟩ <;> rw [q] <;> exact ⟨by decide, by decide⟩
    have uh_6 := h_6.1
    have vh_6 := h_6.2
    have K_25 : ∀  (H : Heap) (locs : List Loc) (ls : Array Slot), rg (a0) 0 300 → GM [] tg σ I ri I ri rq → va_P D vwCl (pq_P t σ (I, J, ri, rj, rq)) H → va_D A (pq_P t σ (I, J, ri, rj, rq)) → va_S A s.heap H locs → lv_has ls 2 [(0, .ref this), (1, .int a0)] → W p l e ({ frames := 3, cells := 0, slots := 0, locals := 64 } : Room) s m (List.toArray ([.ref this, .int a0] : List Value)) below meth c H locs 0 0 Q (F0 m 15 ls []) := by
      intro H locs ls h_27 hG hP hD hS hl
      have uh_27 := h_27.1
      have vh_27 := h_27.2
      refine lv_aload_n hx hb dX12_at_15 rfl (lv_at hl 0 rfl) ?_
      refine lv_iload_n hx hb dX12_at_16 rfl (lv_at hl 1 rfl) ?_
      refine pk_i (va_runV (As := [.int a0]) (rest := []) ⟨hx, hb, hml, hown, hts⟩ (s_X12_manyAt l D t σ I J ri rj rq H.size tg hSH hG.1 this a0 hL_this hK_this) (cwV 1 hts (tw_V tw_445 tw_446 tw_447 tw_5 tw_448) rfl rfl rfl cv_yX12_manyAt_1 ⟨Nat.le_of_ble_eq_true rfl, Nat.le_of_ble_eq_true rfl⟩) ⟨pq_blind, pq_recv hK hP hL_this hK_this (by decide) rfl, pq_pre hK hN hP hD⟩ rfl rfl hl.1 rfl (lv_room (Nat.le_of_ble_eq_true rfl)) dX12_at_17 ⟨Nat.le_of_ble_eq_true rfl, Nat.le_of_ble_eq_true rfl⟩) hD hS hA (fun x_28 σ1 μ1 H locs hw_29 hP hD hS => ?_)
      have hu_30 := hw_29
      obtain ⟨hu_30a, hu_30b⟩ := Prod.mk.inj hu_30
      rw [hu_30a, hu_30b] at hP hD
      refine lv_goto (tgt := 24) hx hb dX12_at_20 (by decide) ?_
      subst hQ
      exact W.iret (v := x_28) hx hb hr (fun t1 ht hW => ⟨⟨x_28, (σ, I, J, ri, rj, rq), rfl, rfl, by rw [ht]; exact hP, va_K.moved hW.alike hK, hD⟩, hS.F ht⟩) hS.2.2 dX12_at_24
    refine lv_if_ne (tgt := 15) hx hb dX12_at_5 (by decide) (fun c_33 => ?_) (fun c_33 => ?_)
    · obtain ⟨f_34, f_35⟩ := (hr_5.resolve_right (fun q => c_33 q.1)).2
      have uf_34 := f_34.1
      have vf_34 := f_34.2
      have tc_36 : (x_1).toInt ≠ 0 := fun q => c_33 (Int32.toInt_inj.mp q)
      have h_37 : rg x_1 1 1 := rg_ne c_33 h_6 0 rfl (by decide)
      have uh_37 := h_37.1
      have vh_37 := h_37.2
      exact K_25 _ _ _ (rg_w f_34 (by decide)) hG hP hD hS (lv_sub hl [0, 1] rfl)
    · have f_38 := (hr_5.resolve_left (fun q => absurd (q.1.symm.trans c_33) (by decide))).2
      have tc_39 : (x_1).toInt = 0 := congrArg Int32.toInt c_33
      have h_40 : rg x_1 0 0 := rg_and h_6 (rg_of_eq c_33 (rg_k (0 : Int32) 0 rfl)) (by decide)
      have uh_40 := h_40.1
      have vh_40 := h_40.2
      refine lv_iload_n hx hb dX12_at_8 rfl (lv_at hl 1 rfl) ?_
      refine lv_sipush (v := 300) hx hb dX12_at_9 (by decide) ?_
      refine lv_icmp_ne (tgt := 23) hx hb dX12_at_12 (by decide) (fun c_41 => ?_) (fun c_41 => ?_)
      · have tc_42 : (a0).toInt ≠ 300 := fun q => c_41 (Int32.toInt_inj.mp q)
        refine lv_iconst (v := (-1)) hx hb dX12_at_23 (by decide) ?_
        subst hQ
        exact W.iret (v := (-1)) hx hb hr (fun t1 ht hW => ⟨⟨(-1), (σ, I, J, ri, rj, rq), rfl, rfl, by rw [ht]; exact hP, va_K.moved hW.alike hK, hD⟩, hS.F ht⟩) hS.2.2 dX12_at_24
      · have tc_43 : (a0).toInt = 300 := congrArg Int32.toInt c_41
        have h_44 : rg a0 300 300 := rg_and (rg_full _) (rg_of_eq c_41 (rg_k (300 : Int32) 300 rfl)) (by decide)
        have uh_44 := h_44.1
        have vh_44 := h_44.2
        exact K_25 _ _ _ (rg_w h_44 (by decide)) hG hP hD hS (lv_sub hl [0, 1] rfl)
  exact go _ _ _ hP hD hS hl

set_option maxHeartbeats 4000000 in
set_option maxRecDepth 100000 in
theorem s_X12_area (l : Launch) (D : va_G) (t : pq_T) (σ : pq_S) (I : Nat → Nat → Int32) (J : Nat → Nat → Int64) (ri : Nat → Nat → Int32) (rj : Nat → Nat → Int64) (rq : Nat → Nat → Option Nat) (sz : Nat) (tg : Nat → Nat) (hSH : SH σ tg) (hG0 : GT tg I ri) (this : Nat) (hL_this : this ∈ σ.1) (hK_this : σ.2.1 this = 12) : MetI l yX12_area (wa yX12_area cX12_area 1 (some .int)) ({ frames := 0, cells := 0, slots := 0, locals := 0 }) [.ref this] D t σ (I, J, ri, rj, rq) sz 0 0 (fun (r : Int32) (u : pq_S × pq_M) => u = (σ, I, J, ri, rj, rq)) := by
  refine Met.ofW (cc := cX12_area) (maxL := 1) (ret := (some .int)) (by decide) rfl ?_
  intro p e s m args below meth c s₁ B hml hv
  obtain ⟨rfl, hsz, hP, hK, hD0, hN⟩ := hv
  have hx := B.exec
  have hb := B.bytes
  have hr := B.returns
  have hts := atoms_spec (ws := (wa yX12_area cX12_area 1 (some .int))) B.pre
  have hown : s.vm.findClass RX12 = some m.cls := findClass_of_methodNamed B.named
  have hlocks := B.notSynchronized
  subst hsz
  have hD : va_D (pq_B t σ (I, J, ri, rj, rq) s.heap.size) (pq_P t σ (I, J, ri, rj, rq)) := hD0.self
  generalize hAe : pq_B t σ (I, J, ri, rj, rq) s.heap.size = A at hD ⊢
  have hA : ∀ q : Nat, s.heap.size ≤ q → A q := fun q h => by rw [← hAe]; exact Or.inr h
  have hS : va_S A s.heap s.heap [] := va_S.rf
  have hG : GM [] tg σ I ri I ri rq := ⟨hG0, fun _ _ _ => rfl, fun _ _ _ _ _ => rfl, fun _ _ _ _ _ _ => rfl⟩
  have hl := lv_entry ([.ref this]) (n := 1) (Nat.le_of_ble_eq_true rfl)
  rw [lg_entry_eq]
  generalize (lg_sl ([.ref this]) ++ List.replicate (1 - (lg_sl ([.ref this])).length) Slot.unset).toArray = ls at hl ⊢
  have hl : lv_has ls 1 [(0, .ref this)] := hl
  refine q_gen (fun Q hQ => ?_)
  have go : ∀ (H : Heap) (locs : List Loc) (ls : Array Slot), va_P D vwCl (pq_P t σ (I, J, ri, rj, rq)) H → va_D A (pq_P t σ (I, J, ri, rj, rq)) → va_S A s.heap H locs → lv_has ls 1 [(0, .ref this)] → W p l e ({ frames := 0, cells := 0, slots := 0, locals := 0 } : Room) s m (List.toArray ([.ref this] : List Value)) below meth c H locs 0 0 Q (F0 m 0 ls []) := by
    intro H locs ls hP hD hS hl
    refine lv_aload_n hx hb dX12_area_0 rfl (lv_at hl 0 rfl) ?_
    obtain ⟨w_1, hR_w_1, hL_w_1, hK_w_1, hN_w_1, hT_w_1⟩ := sh_a hSH 384 (ci := 12) (kd := 13) (len := 12720) rfl (by decide) hL_this hK_this
    refine pg_f (v := .ref w_1) (C := RX12) (T := TX12) (N := 31) hx hb hts (tw_i inlX12) hown hK hP hL_this hK_this (by decide) rfl 0 (by decide) (hts _ (tw_c tw_176)) (pq_hv rfl hR_w_1) dX12_area_1 ?_
    refine lv_iconst (v := 0) hx hb dX12_area_4 (by decide) ?_
    refine pl_i hx hb hK hP hL_w_1 hK_w_1 hN_w_1 (vp_in_iff.mpr (by decide)) dX12_area_5 ?_
    refine lv_tov (ri w_1 0) rfl ?_
    have h_2 : rg (ri w_1 0) 0 600 := GM.z0 hG0 (by rw [hT_w_1]; decide) (i := 0) (k := 0) (by decide) rfl
    have uh_2 := h_2.1
    have vh_2 := h_2.2
    refine lv_if_ne (tgt := 13) hx hb dX12_area_6 (by decide) (fun c_3 => ?_) (fun c_3 => ?_)
    · have tc_4 : (ri w_1 0).toInt ≠ 0 := fun q => c_3 (Int32.toInt_inj.mp q)
      have h_5 : rg (ri w_1 0) 1 600 := rg_ne c_3 h_2 0 rfl (by decide)
      have uh_5 := h_5.1
      have vh_5 := h_5.2
      refine lv_aload_n hx hb dX12_area_13 rfl (lv_at hl 0 rfl) ?_
      refine pg_f (v := .ref w_1) (C := RX12) (T := TX12) (N := 31) hx hb hts (tw_i inlX12) hown hK hP hL_this hK_this (by decide) rfl 0 (by decide) (hts _ (tw_c tw_176)) (pq_hv rfl hR_w_1) dX12_area_14 ?_
      refine lv_bipush (v := 18) hx hb dX12_area_17 (by decide) ?_
      refine pl_i hx hb hK hP hL_w_1 hK_w_1 hN_w_1 (vp_in_iff.mpr (by decide)) dX12_area_19 ?_
      refine lv_topi (fun x_6 ex_6 => ?_)
      subst hQ
      exact W.iret (v := x_6) hx hb hr (fun t1 ht hW => ⟨⟨x_6, (σ, I, J, ri, rj, rq), rfl, rfl, by rw [ht]; exact hP, va_K.moved hW.alike hK, hD⟩, hS.F ht⟩) hS.2.2 dX12_area_20
    · have tc_7 : (ri w_1 0).toInt = 0 := congrArg Int32.toInt c_3
      have h_8 : rg (ri w_1 0) 0 0 := rg_and h_2 (rg_of_eq c_3 (rg_k (0 : Int32) 0 rfl)) (by decide)
      have uh_8 := h_8.1
      have vh_8 := h_8.2
      refine lv_iconst (v := (-1)) hx hb dX12_area_9 (by decide) ?_
      refine lv_goto (tgt := 20) hx hb dX12_area_10 (by decide) ?_
      subst hQ
      exact W.iret (v := (-1)) hx hb hr (fun t1 ht hW => ⟨⟨(-1), (σ, I, J, ri, rj, rq), rfl, rfl, by rw [ht]; exact hP, va_K.moved hW.alike hK, hD⟩, hS.F ht⟩) hS.2.2 dX12_area_20
  exact go _ _ _ hP hD hS hl
