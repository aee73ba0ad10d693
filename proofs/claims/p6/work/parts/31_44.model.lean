theorem dX12_month_0 : decode cX12_month 0 = .ok (.aload_n 0, 1) := oc_42 (by decide +kernel)
theorem dX12_month_1 : decode cX12_month 1 = .ok (.getfield 7, 3) := oc_180 (a := 0) (b := 7) (by decide +kernel)
theorem dX12_month_4 : decode cX12_month 4 = .ok (.iconst 0, 1) := oc_3 (by decide +kernel)
theorem dX12_month_5 : decode cX12_month 5 = .ok (.iaload, 1) := oc_46 (by decide +kernel)
theorem dX12_month_6 : decode cX12_month 6 = .ok (.istore_n 2, 1) := oc_61 (by decide +kernel)
theorem dX12_month_7 : decode cX12_month 7 = .ok (.aload_n 0, 1) := oc_42 (by decide +kernel)
theorem dX12_month_8 : decode cX12_month 8 = .ok (.iload_n 2, 1) := oc_28 (by decide +kernel)
theorem tw_1197 : Cond.methodLink RX12 348 yX12_reefGoes ∈ wsL_law := sg_50 _ (List.mem_of_getElem? (i := 21) rfl)
theorem tw_1198 : Cond.instanceMethod yX12_reefGoes ∈ wsL_law := sg_50 _ (List.mem_of_getElem? (i := 22) rfl)
theorem tw_1199 : Cond.selects RX12 yX12_reefGoes yX12_reefGoes ∈ wsL_law := sg_50 _ (List.mem_of_getElem? (i := 23) rfl)
theorem tw_1200 : Cond.code yX12_reefGoes cX12_reefGoes 4 none ∈ wsL_law := sg_51 _ (List.mem_of_getElem? (i := 0) rfl)
theorem dX12_month_9 : decode cX12_month 9 = .ok (.invokevirtual 348, 3) := oc_182 (a := 1) (b := 92) (by decide +kernel)
theorem dX12_month_12 : decode cX12_month 12 = .ok (.aload_n 0, 1) := oc_42 (by decide +kernel)
theorem dX12_month_13 : decode cX12_month 13 = .ok (.iload_n 2, 1) := oc_28 (by decide +kernel)
theorem tw_1205 : Cond.methodLink RX12 351 yX12_sandGoes ∈ wsL_law := sg_51 _ (List.mem_of_getElem? (i := 5) rfl)
theorem tw_1206 : Cond.instanceMethod yX12_sandGoes ∈ wsL_law := sg_51 _ (List.mem_of_getElem? (i := 6) rfl)
theorem tw_1207 : Cond.selects RX12 yX12_sandGoes yX12_sandGoes ∈ wsL_law := sg_51 _ (List.mem_of_getElem? (i := 7) rfl)
theorem tw_1208 : Cond.code yX12_sandGoes cX12_sandGoes 4 none ∈ wsL_law := sg_51 _ (List.mem_of_getElem? (i := 8) rfl)
theorem dX12_month_14 : decode cX12_month 14 = .ok (.invokevirtual 351, 3) := oc_182 (a := 1) (b := 95) (by decide +kernel)
theorem dX12_month_17 : decode cX12_month 17 = .ok (.aload_n 0, 1) := oc_42 (by decide +kernel)
theorem dX12_month_18 : decode cX12_month 18 = .ok (.iload_n 2, 1) := oc_28 (by decide +kernel)
theorem dX12_month_19 : decode cX12_month 19 = .ok (.aload_n 0, 1) := oc_42 (by decide +kernel)
theorem dX12_month_20 : decode cX12_month 20 = .ok (.iload_n 1, 1) := oc_27 (by decide +kernel)
theorem dX12_month_21 : decode cX12_month 21 = .ok (.iload_n 2, 1) := oc_28 (by decide +kernel)
theorem dX12_month_22 : decode cX12_month 22 = .ok (.iload_n 2, 1) := oc_28 (by decide +kernel)
theorem dX12_month_23 : decode cX12_month 23 = .ok (.invokevirtual 84, 3) := oc_182 (a := 0) (b := 84) (by decide +kernel)
theorem tw_1209 : Cond.methodLink RX12 354 yX12_seaStands ∈ wsL_law := sg_51 _ (List.mem_of_getElem? (i := 9) rfl)
theorem tw_1210 : Cond.instanceMethod yX12_seaStands ∈ wsL_law := sg_51 _ (List.mem_of_getElem? (i := 10) rfl)
theorem tw_1211 : Cond.selects RX12 yX12_seaStands yX12_seaStands ∈ wsL_law := sg_51 _ (List.mem_of_getElem? (i := 11) rfl)
theorem tw_1212 : Cond.code yX12_seaStands cX12_seaStands 9 none ∈ wsL_law := sg_51 _ (List.mem_of_getElem? (i := 12) rfl)
theorem dX12_month_26 : decode cX12_month 26 = .ok (.invokevirtual 354, 3) := oc_182 (a := 1) (b := 98) (by decide +kernel)
theorem dX12_month_29 : decode cX12_month 29 = .ok (.aload_n 0, 1) := oc_42 (by decide +kernel)
theorem tw_1217 : Cond.methodLink RX12 357 yX12_drink ∈ wsL_law := sg_51 _ (List.mem_of_getElem? (i := 17) rfl)
theorem tw_1218 : Cond.instanceMethod yX12_drink ∈ wsL_law := sg_51 _ (List.mem_of_getElem? (i := 18) rfl)
theorem tw_1219 : Cond.selects RX12 yX12_drink yX12_drink ∈ wsL_law := sg_51 _ (List.mem_of_getElem? (i := 19) rfl)
theorem tw_1220 : Cond.code yX12_drink cX12_drink 3 none ∈ wsL_law := sg_51 _ (List.mem_of_getElem? (i := 20) rfl)
theorem dX12_month_30 : decode cX12_month 30 = .ok (.invokevirtual 357, 3) := oc_182 (a := 1) (b := 101) (by decide +kernel)
theorem dX12_month_33 : decode cX12_month 33 = .ok (.aload_n 0, 1) := oc_42 (by decide +kernel)
theorem tw_1229 : Cond.methodLink RX12 360 yX12_sleep ∈ wsL_law := sg_52 _ (List.mem_of_getElem? (i := 5) rfl)
theorem tw_1230 : Cond.instanceMethod yX12_sleep ∈ wsL_law := sg_52 _ (List.mem_of_getElem? (i := 6) rfl)
theorem tw_1231 : Cond.selects RX12 yX12_sleep yX12_sleep ∈ wsL_law := sg_52 _ (List.mem_of_getElem? (i := 7) rfl)
theorem tw_1232 : Cond.code yX12_sleep cX12_sleep 4 none ∈ wsL_law := sg_52 _ (List.mem_of_getElem? (i := 8) rfl)
theorem dX12_month_34 : decode cX12_month 34 = .ok (.invokevirtual 360, 3) := oc_182 (a := 1) (b := 104) (by decide +kernel)
theorem dX12_month_37 : decode cX12_month 37 = .ok (.aload_n 0, 1) := oc_42 (by decide +kernel)
theorem dX12_month_38 : decode cX12_month 38 = .ok (.iload_n 2, 1) := oc_28 (by decide +kernel)
theorem tw_1233 : Cond.methodLink RX12 363 yX12_fundGoes ∈ wsL_law := sg_52 _ (List.mem_of_getElem? (i := 9) rfl)
theorem tw_1234 : Cond.instanceMethod yX12_fundGoes ∈ wsL_law := sg_52 _ (List.mem_of_getElem? (i := 10) rfl)
theorem tw_1235 : Cond.selects RX12 yX12_fundGoes yX12_fundGoes ∈ wsL_law := sg_52 _ (List.mem_of_getElem? (i := 11) rfl)
theorem tw_1236 : Cond.code yX12_fundGoes cX12_fundGoes 3 none ∈ wsL_law := sg_52 _ (List.mem_of_getElem? (i := 12) rfl)
theorem dX12_month_39 : decode cX12_month 39 = .ok (.invokevirtual 363, 3) := oc_182 (a := 1) (b := 107) (by decide +kernel)
theorem dX12_month_42 : decode cX12_month 42 = .ok (.aload_n 0, 1) := oc_42 (by decide +kernel)
theorem dX12_month_43 : decode cX12_month 43 = .ok (.iload_n 2, 1) := oc_28 (by decide +kernel)
theorem tw_1247 : Cond.methodLink RX12 366 yX12_boatsGo ∈ wsL_law := sg_52 _ (List.mem_of_getElem? (i := 23) rfl)
theorem tw_1248 : Cond.instanceMethod yX12_boatsGo ∈ wsL_law := sg_53 _ (List.mem_of_getElem? (i := 0) rfl)
theorem tw_1249 : Cond.selects RX12 yX12_boatsGo yX12_boatsGo ∈ wsL_law := sg_53 _ (List.mem_of_getElem? (i := 1) rfl)
theorem tw_1250 : Cond.code yX12_boatsGo cX12_boatsGo 6 none ∈ wsL_law := sg_53 _ (List.mem_of_getElem? (i := 2) rfl)
theorem dX12_month_44 : decode cX12_month 44 = .ok (.invokevirtual 366, 3) := oc_182 (a := 1) (b := 110) (by decide +kernel)
theorem dX12_month_47 : decode cX12_month 47 = .ok (.aload_n 0, 1) := oc_42 (by decide +kernel)
theorem dX12_month_48 : decode cX12_month 48 = .ok (.getfield 7, 3) := oc_180 (a := 0) (b := 7) (by decide +kernel)
theorem dX12_month_51 : decode cX12_month 51 = .ok (.iconst 0, 1) := oc_3 (by decide +kernel)
theorem dX12_month_52 : decode cX12_month 52 = .ok (.dup2, 1) := oc_92 (by decide +kernel)
theorem dX12_month_53 : decode cX12_month 53 = .ok (.iaload, 1) := oc_46 (by decide +kernel)
theorem dX12_month_54 : decode cX12_month 54 = .ok (.iconst 1, 1) := oc_4 (by decide +kernel)
theorem dX12_month_55 : decode cX12_month 55 = .ok (.iadd, 1) := oc_96 (by decide +kernel)
theorem dX12_month_56 : decode cX12_month 56 = .ok (.iastore, 1) := oc_79 (by decide +kernel)
theorem dX12_month_57 : decode cX12_month 57 = .ok (.return_, 1) := oc_177 (by decide +kernel)
theorem dX12_sail_0 : decode cX12_sail 0 = .ok (.iload_n 1, 1) := oc_27 (by decide +kernel)
theorem dX12_sail_1 : decode cX12_sail 1 = .ok (.iconst 0, 1) := oc_3 (by decide +kernel)
theorem dX12_sail_2 : decode cX12_sail 2 = .ok (.bipush 40, 2) := oc_16 (a := 40) (by decide +kernel)
theorem dX12_sail_4 : decode cX12_sail 4 = .ok (.invokestatic 62, 3) := oc_184 (a := 0) (b := 62) (by decide +kernel)
theorem dX12_sail_20 : decode cX12_sail 20 = .ok (.iconst 0, 1) := oc_3 (by decide +kernel)
theorem dX12_sail_21 : decode cX12_sail 21 = .ok (.ireturn, 1) := oc_172 (by decide +kernel)
theorem dX12_sail_7 : decode cX12_sail 7 = .ok (.ifCond .eq 13, 3) := oc_153 (a := 0) (b := 13) (by decide +kernel)
theorem dX12_sail_10 : decode cX12_sail 10 = .ok (.iload_n 2, 1) := oc_28 (by decide +kernel)
theorem dX12_sail_11 : decode cX12_sail 11 = .ok (.iconst 0, 1) := oc_3 (by decide +kernel)
theorem dX12_sail_12 : decode cX12_sail 12 = .ok (.ldc 152, 2) := oc_18 (by decide +kernel)
theorem dX12_sail_14 : decode cX12_sail 14 = .ok (.invokestatic 62, 3) := oc_184 (a := 0) (b := 62) (by decide +kernel)
theorem dX12_sail_17 : decode cX12_sail 17 = .ok (.ifCond .ne 5, 3) := oc_154 (a := 0) (b := 5) (by decide +kernel)
theorem dX12_sail_22 : decode cX12_sail 22 = .ok (.aload_n 0, 1) := oc_42 (by decide +kernel)
theorem dX12_sail_23 : decode cX12_sail 23 = .ok (.getfield 7, 3) := oc_180 (a := 0) (b := 7) (by decide +kernel)
theorem dX12_sail_26 : decode cX12_sail 26 = .ok (.bipush 11, 2) := oc_16 (a := 11) (by decide +kernel)
theorem dX12_sail_28 : decode cX12_sail 28 = .ok (.iload_n 1, 1) := oc_27 (by decide +kernel)
theorem dX12_sail_29 : decode cX12_sail 29 = .ok (.iastore, 1) := oc_79 (by decide +kernel)
theorem dX12_sail_30 : decode cX12_sail 30 = .ok (.aload_n 0, 1) := oc_42 (by decide +kernel)
theorem dX12_sail_31 : decode cX12_sail 31 = .ok (.getfield 7, 3) := oc_180 (a := 0) (b := 7) (by decide +kernel)
theorem dX12_sail_34 : decode cX12_sail 34 = .ok (.bipush 8, 2) := oc_16 (a := 8) (by decide +kernel)
theorem dX12_sail_36 : decode cX12_sail 36 = .ok (.dup2, 1) := oc_92 (by decide +kernel)
theorem dX12_sail_37 : decode cX12_sail 37 = .ok (.iaload, 1) := oc_46 (by decide +kernel)
theorem dX12_sail_38 : decode cX12_sail 38 = .ok (.iload_n 2, 1) := oc_28 (by decide +kernel)
theorem dX12_sail_39 : decode cX12_sail 39 = .ok (.iadd, 1) := oc_96 (by decide +kernel)
theorem dX12_sail_40 : decode cX12_sail 40 = .ok (.iastore, 1) := oc_79 (by decide +kernel)
theorem dX12_sail_41 : decode cX12_sail 41 = .ok (.iconst 1, 1) := oc_4 (by decide +kernel)
theorem dX12_sail_42 : decode cX12_sail 42 = .ok (.ireturn, 1) := oc_172 (by decide +kernel)
theorem dX12_isTime_0 : decode cX12_isTime 0 = .ok (.iload_n 1, 1) := oc_27 (by decide +kernel)
theorem dX12_isTime_1 : decode cX12_isTime 1 = .ok (.iconst 1, 1) := oc_4 (by decide +kernel)
theorem dX12_isTime_2 : decode cX12_isTime 2 = .ok (.iload_n 2, 1) := oc_28 (by decide +kernel)
theorem dX12_isTime_3 : decode cX12_isTime 3 = .ok (.invokestatic 62, 3) := oc_184 (a := 0) (b := 62) (by decide +kernel)
theorem dX12_isTime_34 : decode cX12_isTime 34 = .ok (.iconst 0, 1) := oc_3 (by decide +kernel)
theorem dX12_isTime_35 : decode cX12_isTime 35 = .ok (.ireturn, 1) := oc_172 (by decide +kernel)
theorem dX12_isTime_6 : decode cX12_isTime 6 = .ok (.ifCond .eq 28, 3) := oc_153 (a := 0) (b := 28) (by decide +kernel)
theorem dX12_isTime_9 : decode cX12_isTime 9 = .ok (.iload_n 3, 1) := oc_29 (by decide +kernel)
theorem dX12_isTime_10 : decode cX12_isTime 10 = .ok (.invokestatic 70, 3) := oc_184 (a := 0) (b := 70) (by decide +kernel)
theorem dX12_isTime_13 : decode cX12_isTime 13 = .ok (.ifCond .eq 21, 3) := oc_153 (a := 0) (b := 21) (by decide +kernel)
theorem dX12_isTime_16 : decode cX12_isTime 16 = .ok (.aload_n 0, 1) := oc_42 (by decide +kernel)
theorem dX12_isTime_17 : decode cX12_isTime 17 = .ok (.getfield 7, 3) := oc_180 (a := 0) (b := 7) (by decide +kernel)
theorem dX12_isTime_20 : decode cX12_isTime 20 = .ok (.iconst 0, 1) := oc_3 (by decide +kernel)
theorem dX12_isTime_21 : decode cX12_isTime 21 = .ok (.iaload, 1) := oc_46 (by decide +kernel)
theorem dX12_isTime_22 : decode cX12_isTime 22 = .ok (.iload_n 1, 1) := oc_27 (by decide +kernel)
theorem dX12_isTime_23 : decode cX12_isTime 23 = .ok (.iadd, 1) := oc_96 (by decide +kernel)
theorem dX12_isTime_24 : decode cX12_isTime 24 = .ok (.sipush 600, 3) := oc_17 (a := 2) (b := 88) (by decide +kernel)
theorem dX12_isTime_27 : decode cX12_isTime 27 = .ok (.if_icmp .gt 7, 3) := oc_163 (a := 0) (b := 7) (by decide +kernel)
theorem dX12_isTime_30 : decode cX12_isTime 30 = .ok (.iconst 1, 1) := oc_4 (by decide +kernel)
theorem dX12_isTime_31 : decode cX12_isTime 31 = .ok (.goto 4, 3) := oc_167 (a := 0) (b := 4) (by decide +kernel)
theorem dX12_months_0 : decode cX12_months 0 = .ok (.aload_n 0, 1) := oc_42 (by decide +kernel)
theorem dX12_months_1 : decode cX12_months 1 = .ok (.iload_n 1, 1) := oc_27 (by decide +kernel)
theorem dX12_months_2 : decode cX12_months 2 = .ok (.bipush 60, 2) := oc_16 (a := 60) (by decide +kernel)
theorem dX12_months_4 : decode cX12_months 4 = .ok (.iload_n 2, 1) := oc_28 (by decide +kernel)
theorem tw_1189 : Cond.methodLink RX12 369 yX12_isTime ∈ wsL_law := sg_50 _ (List.mem_of_getElem? (i := 13) rfl)
theorem tw_1190 : Cond.instanceMethod yX12_isTime ∈ wsL_law := sg_50 _ (List.mem_of_getElem? (i := 14) rfl)
theorem tw_1191 : Cond.selects RX12 yX12_isTime yX12_isTime ∈ wsL_law := sg_50 _ (List.mem_of_getElem? (i := 15) rfl)
theorem tw_1192 : Cond.code yX12_isTime cX12_isTime 4 (some .boolean) ∈ wsL_law := sg_50 _ (List.mem_of_getElem? (i := 16) rfl)
theorem dX12_months_5 : decode cX12_months 5 = .ok (.invokevirtual 369, 3) := oc_182 (a := 1) (b := 113) (by decide +kernel)
theorem dX12_months_8 : decode cX12_months 8 = .ok (.ifCond .ne 5, 3) := oc_154 (a := 0) (b := 5) (by decide +kernel)
theorem dX12_months_13 : decode cX12_months 13 = .ok (.iconst 0, 1) := oc_3 (by decide +kernel)
theorem dX12_months_14 : decode cX12_months 14 = .ok (.istore_n 3, 1) := oc_62 (by decide +kernel)
theorem dX12_months_15 : decode cX12_months 15 = .ok (.iload_n 3, 1) := oc_29 (by decide +kernel)
theorem dX12_months_16 : decode cX12_months 16 = .ok (.iload_n 1, 1) := oc_27 (by decide +kernel)
theorem dX12_months_17 : decode cX12_months 17 = .ok (.if_icmp .ge 14, 3) := oc_162 (a := 0) (b := 14) (by decide +kernel)
theorem dX12_months_31 : decode cX12_months 31 = .ok (.aload_n 0, 1) := oc_42 (by decide +kernel)
theorem dX12_months_32 : decode cX12_months 32 = .ok (.getfield 7, 3) := oc_180 (a := 0) (b := 7) (by decide +kernel)
theorem dX12_months_35 : decode cX12_months 35 = .ok (.iconst 0, 1) := oc_3 (by decide +kernel)
theorem dX12_months_36 : decode cX12_months 36 = .ok (.iaload, 1) := oc_46 (by decide +kernel)
theorem dX12_months_37 : decode cX12_months 37 = .ok (.ireturn, 1) := oc_172 (by decide +kernel)
theorem dX12_months_20 : decode cX12_months 20 = .ok (.aload_n 0, 1) := oc_42 (by decide +kernel)
theorem dX12_months_21 : decode cX12_months 21 = .ok (.iload_n 2, 1) := oc_28 (by decide +kernel)
theorem tw_1193 : Cond.methodLink RX12 372 yX12_month ∈ wsL_law := sg_50 _ (List.mem_of_getElem? (i := 17) rfl)
theorem tw_1194 : Cond.instanceMethod yX12_month ∈ wsL_law := sg_50 _ (List.mem_of_getElem? (i := 18) rfl)
theorem tw_1195 : Cond.selects RX12 yX12_month yX12_month ∈ wsL_law := sg_50 _ (List.mem_of_getElem? (i := 19) rfl)
theorem tw_1196 : Cond.code yX12_month cX12_month 3 none ∈ wsL_law := sg_50 _ (List.mem_of_getElem? (i := 20) rfl)
theorem dX12_months_22 : decode cX12_months 22 = .ok (.invokevirtual 372, 3) := oc_182 (a := 1) (b := 116) (by decide +kernel)
theorem dX12_months_25 : decode cX12_months 25 = .ok (.iinc 3 1, 3) := oc_132 (b := 1) (by decide +kernel)
theorem dX12_months_28 : decode cX12_months 28 = .ok (.goto (-13), 3) := oc_167 (a := 255) (b := 243) (by decide +kernel)
theorem dX12_months_11 : decode cX12_months 11 = .ok (.iconst (-1), 1) := oc_2 (by decide +kernel)
theorem dX12_months_12 : decode cX12_months 12 = .ok (.ireturn, 1) := oc_172 (by decide +kernel)
theorem dX12_cellOf_0 : decode cX12_cellOf 0 = .ok (.aload_n 0, 1) := oc_42 (by decide +kernel)
theorem dX12_cellOf_1 : decode cX12_cellOf 1 = .ok (.iload_n 1, 1) := oc_27 (by decide +kernel)
theorem dX12_cellOf_2 : decode cX12_cellOf 2 = .ok (.invokevirtual 88, 3) := oc_182 (a := 0) (b := 88) (by decide +kernel)
theorem dX12_cellOf_5 : decode cX12_cellOf 5 = .ok (.ifCond .ne 6, 3) := oc_154 (a := 0) (b := 6) (by decide +kernel)
theorem dX12_cellOf_11 : decode cX12_cellOf 11 = .ok (.iload_n 2, 1) := oc_28 (by decide +kernel)
theorem dX12_cellOf_12 : decode cX12_cellOf 12 = .ok (.tableswitch 208 0 11 #[64, 71, 78, 85, 92, 100, 106, 114, 136, 158, 166, 187], 64) := by decide +kernel
theorem dX12_cellOf_76 : decode cX12_cellOf 76 = .ok (.aload_n 0, 1) := oc_42 (by decide +kernel)
theorem dX12_cellOf_77 : decode cX12_cellOf 77 = .ok (.iload_n 1, 1) := oc_27 (by decide +kernel)
theorem dX12_cellOf_78 : decode cX12_cellOf 78 = .ok (.iconst 0, 1) := oc_3 (by decide +kernel)
theorem dX12_cellOf_79 : decode cX12_cellOf 79 = .ok (.invokevirtual 91, 3) := oc_182 (a := 0) (b := 91) (by decide +kernel)
theorem dX12_cellOf_82 : decode cX12_cellOf 82 = .ok (.ireturn, 1) := oc_172 (by decide +kernel)
theorem dX12_cellOf_83 : decode cX12_cellOf 83 = .ok (.aload_n 0, 1) := oc_42 (by decide +kernel)
theorem dX12_cellOf_84 : decode cX12_cellOf 84 = .ok (.iload_n 1, 1) := oc_27 (by decide +kernel)
theorem dX12_cellOf_85 : decode cX12_cellOf 85 = .ok (.iconst 1, 1) := oc_4 (by decide +kernel)
theorem dX12_cellOf_86 : decode cX12_cellOf 86 = .ok (.invokevirtual 91, 3) := oc_182 (a := 0) (b := 91) (by decide +kernel)
theorem dX12_cellOf_89 : decode cX12_cellOf 89 = .ok (.ireturn, 1) := oc_172 (by decide +kernel)
theorem dX12_cellOf_90 : decode cX12_cellOf 90 = .ok (.aload_n 0, 1) := oc_42 (by decide +kernel)
theorem dX12_cellOf_91 : decode cX12_cellOf 91 = .ok (.iload_n 1, 1) := oc_27 (by decide +kernel)
theorem dX12_cellOf_92 : decode cX12_cellOf 92 = .ok (.iconst 4, 1) := oc_7 (by decide +kernel)
theorem dX12_cellOf_93 : decode cX12_cellOf 93 = .ok (.invokevirtual 91, 3) := oc_182 (a := 0) (b := 91) (by decide +kernel)
theorem dX12_cellOf_96 : decode cX12_cellOf 96 = .ok (.ireturn, 1) := oc_172 (by decide +kernel)
theorem dX12_cellOf_97 : decode cX12_cellOf 97 = .ok (.aload_n 0, 1) := oc_42 (by decide +kernel)
theorem dX12_cellOf_98 : decode cX12_cellOf 98 = .ok (.iload_n 1, 1) := oc_27 (by decide +kernel)
theorem dX12_cellOf_99 : decode cX12_cellOf 99 = .ok (.iconst 5, 1) := oc_8 (by decide +kernel)
theorem dX12_cellOf_100 : decode cX12_cellOf 100 = .ok (.invokevirtual 91, 3) := oc_182 (a := 0) (b := 91) (by decide +kernel)
theorem dX12_cellOf_103 : decode cX12_cellOf 103 = .ok (.ireturn, 1) := oc_172 (by decide +kernel)
theorem dX12_cellOf_104 : decode cX12_cellOf 104 = .ok (.aload_n 0, 1) := oc_42 (by decide +kernel)
theorem dX12_cellOf_105 : decode cX12_cellOf 105 = .ok (.iload_n 1, 1) := oc_27 (by decide +kernel)
theorem dX12_cellOf_106 : decode cX12_cellOf 106 = .ok (.bipush 6, 2) := oc_16 (a := 6) (by decide +kernel)
theorem dX12_cellOf_108 : decode cX12_cellOf 108 = .ok (.invokevirtual 91, 3) := oc_182 (a := 0) (b := 91) (by decide +kernel)
theorem dX12_cellOf_111 : decode cX12_cellOf 111 = .ok (.ireturn, 1) := oc_172 (by decide +kernel)
theorem dX12_cellOf_112 : decode cX12_cellOf 112 = .ok (.aload_n 0, 1) := oc_42 (by decide +kernel)
theorem dX12_cellOf_113 : decode cX12_cellOf 113 = .ok (.iload_n 1, 1) := oc_27 (by decide +kernel)
theorem dX12_cellOf_114 : decode cX12_cellOf 114 = .ok (.invokevirtual 313, 3) := oc_182 (a := 1) (b := 57) (by decide +kernel)
theorem dX12_cellOf_117 : decode cX12_cellOf 117 = .ok (.ireturn, 1) := oc_172 (by decide +kernel)
theorem dX12_cellOf_118 : decode cX12_cellOf 118 = .ok (.aload_n 0, 1) := oc_42 (by decide +kernel)
theorem dX12_cellOf_119 : decode cX12_cellOf 119 = .ok (.iload_n 1, 1) := oc_27 (by decide +kernel)
theorem dX12_cellOf_120 : decode cX12_cellOf 120 = .ok (.bipush 7, 2) := oc_16 (a := 7) (by decide +kernel)
theorem dX12_cellOf_122 : decode cX12_cellOf 122 = .ok (.invokevirtual 91, 3) := oc_182 (a := 0) (b := 91) (by decide +kernel)
theorem dX12_cellOf_125 : decode cX12_cellOf 125 = .ok (.ireturn, 1) := oc_172 (by decide +kernel)
theorem dX12_cellOf_126 : decode cX12_cellOf 126 = .ok (.aload_n 0, 1) := oc_42 (by decide +kernel)
theorem dX12_cellOf_127 : decode cX12_cellOf 127 = .ok (.iload_n 1, 1) := oc_27 (by decide +kernel)
theorem dX12_cellOf_128 : decode cX12_cellOf 128 = .ok (.bipush 8, 2) := oc_16 (a := 8) (by decide +kernel)
theorem dX12_cellOf_130 : decode cX12_cellOf 130 = .ok (.invokevirtual 91, 3) := oc_182 (a := 0) (b := 91) (by decide +kernel)
theorem dX12_cellOf_133 : decode cX12_cellOf 133 = .ok (.ifCond .ne 7, 3) := oc_154 (a := 0) (b := 7) (by decide +kernel)
theorem dX12_cellOf_140 : decode cX12_cellOf 140 = .ok (.aload_n 0, 1) := oc_42 (by decide +kernel)
theorem dX12_cellOf_141 : decode cX12_cellOf 141 = .ok (.iload_n 1, 1) := oc_27 (by decide +kernel)
theorem dX12_cellOf_142 : decode cX12_cellOf 142 = .ok (.bipush 9, 2) := oc_16 (a := 9) (by decide +kernel)
theorem dX12_cellOf_144 : decode cX12_cellOf 144 = .ok (.invokevirtual 91, 3) := oc_182 (a := 0) (b := 91) (by decide +kernel)
theorem dX12_cellOf_147 : decode cX12_cellOf 147 = .ok (.ireturn, 1) := oc_172 (by decide +kernel)
theorem dX12_cellOf_136 : decode cX12_cellOf 136 = .ok (.iconst (-1), 1) := oc_2 (by decide +kernel)
theorem dX12_cellOf_137 : decode cX12_cellOf 137 = .ok (.goto 10, 3) := oc_167 (a := 0) (b := 10) (by decide +kernel)
theorem dX12_cellOf_148 : decode cX12_cellOf 148 = .ok (.aload_n 0, 1) := oc_42 (by decide +kernel)
theorem dX12_cellOf_149 : decode cX12_cellOf 149 = .ok (.iload_n 1, 1) := oc_27 (by decide +kernel)
theorem dX12_cellOf_150 : decode cX12_cellOf 150 = .ok (.bipush 8, 2) := oc_16 (a := 8) (by decide +kernel)
theorem dX12_cellOf_152 : decode cX12_cellOf 152 = .ok (.invokevirtual 91, 3) := oc_182 (a := 0) (b := 91) (by decide +kernel)
theorem dX12_cellOf_155 : decode cX12_cellOf 155 = .ok (.ifCond .ne 7, 3) := oc_154 (a := 0) (b := 7) (by decide +kernel)
theorem dX12_cellOf_162 : decode cX12_cellOf 162 = .ok (.aload_n 0, 1) := oc_42 (by decide +kernel)
theorem dX12_cellOf_163 : decode cX12_cellOf 163 = .ok (.iload_n 1, 1) := oc_27 (by decide +kernel)
theorem dX12_cellOf_164 : decode cX12_cellOf 164 = .ok (.bipush 10, 2) := oc_16 (a := 10) (by decide +kernel)
theorem dX12_cellOf_166 : decode cX12_cellOf 166 = .ok (.invokevirtual 91, 3) := oc_182 (a := 0) (b := 91) (by decide +kernel)
theorem dX12_cellOf_169 : decode cX12_cellOf 169 = .ok (.ireturn, 1) := oc_172 (by decide +kernel)
theorem dX12_cellOf_158 : decode cX12_cellOf 158 = .ok (.iconst (-1), 1) := oc_2 (by decide +kernel)
theorem dX12_cellOf_159 : decode cX12_cellOf 159 = .ok (.goto 10, 3) := oc_167 (a := 0) (b := 10) (by decide +kernel)
theorem dX12_cellOf_170 : decode cX12_cellOf 170 = .ok (.aload_n 0, 1) := oc_42 (by decide +kernel)
theorem dX12_cellOf_171 : decode cX12_cellOf 171 = .ok (.iload_n 1, 1) := oc_27 (by decide +kernel)
theorem dX12_cellOf_172 : decode cX12_cellOf 172 = .ok (.bipush 11, 2) := oc_16 (a := 11) (by decide +kernel)
theorem dX12_cellOf_174 : decode cX12_cellOf 174 = .ok (.invokevirtual 91, 3) := oc_182 (a := 0) (b := 91) (by decide +kernel)
theorem dX12_cellOf_177 : decode cX12_cellOf 177 = .ok (.ireturn, 1) := oc_172 (by decide +kernel)
theorem dX12_cellOf_178 : decode cX12_cellOf 178 = .ok (.aload_n 0, 1) := oc_42 (by decide +kernel)
theorem dX12_cellOf_179 : decode cX12_cellOf 179 = .ok (.getfield 7, 3) := oc_180 (a := 0) (b := 7) (by decide +kernel)
theorem dX12_cellOf_182 : decode cX12_cellOf 182 = .ok (.iconst 0, 1) := oc_3 (by decide +kernel)
theorem dX12_cellOf_183 : decode cX12_cellOf 183 = .ok (.iaload, 1) := oc_46 (by decide +kernel)
theorem dX12_cellOf_184 : decode cX12_cellOf 184 = .ok (.ifCond .ne 7, 3) := oc_154 (a := 0) (b := 7) (by decide +kernel)
theorem dX12_cellOf_191 : decode cX12_cellOf 191 = .ok (.aload_n 0, 1) := oc_42 (by decide +kernel)
theorem dX12_cellOf_192 : decode cX12_cellOf 192 = .ok (.iload_n 1, 1) := oc_27 (by decide +kernel)
theorem dX12_cellOf_193 : decode cX12_cellOf 193 = .ok (.bipush 12, 2) := oc_16 (a := 12) (by decide +kernel)
theorem dX12_cellOf_195 : decode cX12_cellOf 195 = .ok (.invokevirtual 91, 3) := oc_182 (a := 0) (b := 91) (by decide +kernel)
theorem dX12_cellOf_198 : decode cX12_cellOf 198 = .ok (.ireturn, 1) := oc_172 (by decide +kernel)
theorem dX12_cellOf_187 : decode cX12_cellOf 187 = .ok (.iconst (-1), 1) := oc_2 (by decide +kernel)
theorem dX12_cellOf_188 : decode cX12_cellOf 188 = .ok (.goto 10, 3) := oc_167 (a := 0) (b := 10) (by decide +kernel)
theorem dX12_cellOf_199 : decode cX12_cellOf 199 = .ok (.aload_n 0, 1) := oc_42 (by decide +kernel)
theorem dX12_cellOf_200 : decode cX12_cellOf 200 = .ok (.getfield 7, 3) := oc_180 (a := 0) (b := 7) (by decide +kernel)
theorem dX12_cellOf_203 : decode cX12_cellOf 203 = .ok (.iconst 0, 1) := oc_3 (by decide +kernel)
theorem dX12_cellOf_204 : decode cX12_cellOf 204 = .ok (.iaload, 1) := oc_46 (by decide +kernel)
theorem dX12_cellOf_205 : decode cX12_cellOf 205 = .ok (.ifCond .ne 7, 3) := oc_154 (a := 0) (b := 7) (by decide +kernel)
theorem dX12_cellOf_212 : decode cX12_cellOf 212 = .ok (.aload_n 0, 1) := oc_42 (by decide +kernel)
theorem dX12_cellOf_213 : decode cX12_cellOf 213 = .ok (.iload_n 1, 1) := oc_27 (by decide +kernel)
theorem dX12_cellOf_214 : decode cX12_cellOf 214 = .ok (.bipush 13, 2) := oc_16 (a := 13) (by decide +kernel)
theorem dX12_cellOf_216 : decode cX12_cellOf 216 = .ok (.invokevirtual 91, 3) := oc_182 (a := 0) (b := 91) (by decide +kernel)
theorem dX12_cellOf_219 : decode cX12_cellOf 219 = .ok (.ireturn, 1) := oc_172 (by decide +kernel)
theorem dX12_cellOf_208 : decode cX12_cellOf 208 = .ok (.iconst (-1), 1) := oc_2 (by decide +kernel)
theorem dX12_cellOf_209 : decode cX12_cellOf 209 = .ok (.goto 10, 3) := oc_167 (a := 0) (b := 10) (by decide +kernel)
theorem dX12_cellOf_220 : decode cX12_cellOf 220 = .ok (.ldc 87, 2) := oc_18 (by decide +kernel)
theorem dX12_cellOf_222 : decode cX12_cellOf 222 = .ok (.ireturn, 1) := oc_172 (by decide +kernel)
theorem dX12_cellOf_8 : decode cX12_cellOf 8 = .ok (.ldc 87, 2) := oc_18 (by decide +kernel)
theorem dX12_cellOf_10 : decode cX12_cellOf 10 = .ok (.ireturn, 1) := oc_172 (by decide +kernel)
theorem dX12_personOf_0 : decode cX12_personOf 0 = .ok (.aload_n 0, 1) := oc_42 (by decide +kernel)
theorem dX12_personOf_1 : decode cX12_personOf 1 = .ok (.iload_n 1, 1) := oc_27 (by decide +kernel)
theorem dX12_personOf_2 : decode cX12_personOf 2 = .ok (.invokevirtual 104, 3) := oc_182 (a := 0) (b := 104) (by decide +kernel)
theorem dX12_personOf_5 : decode cX12_personOf 5 = .ok (.ifCond .ne 5, 3) := oc_154 (a := 0) (b := 5) (by decide +kernel)
theorem dX12_personOf_10 : decode cX12_personOf 10 = .ok (.iload_n 2, 1) := oc_28 (by decide +kernel)
theorem dX12_personOf_11 : decode cX12_personOf 11 = .ok (.tableswitch 103 0 7 #[45, 52, 59, 66, 73, 80, 87, 95], 45) := by decide +kernel
theorem dX12_personOf_56 : decode cX12_personOf 56 = .ok (.aload_n 0, 1) := oc_42 (by decide +kernel)
theorem dX12_personOf_57 : decode cX12_personOf 57 = .ok (.iload_n 1, 1) := oc_27 (by decide +kernel)
theorem dX12_personOf_58 : decode cX12_personOf 58 = .ok (.iconst 3, 1) := oc_6 (by decide +kernel)
theorem dX12_personOf_59 : decode cX12_personOf 59 = .ok (.invokevirtual 94, 3) := oc_182 (a := 0) (b := 94) (by decide +kernel)
theorem dX12_personOf_62 : decode cX12_personOf 62 = .ok (.ireturn, 1) := oc_172 (by decide +kernel)
theorem dX12_personOf_63 : decode cX12_personOf 63 = .ok (.aload_n 0, 1) := oc_42 (by decide +kernel)
theorem dX12_personOf_64 : decode cX12_personOf 64 = .ok (.iload_n 1, 1) := oc_27 (by decide +kernel)
theorem dX12_personOf_65 : decode cX12_personOf 65 = .ok (.iconst 0, 1) := oc_3 (by decide +kernel)
theorem dX12_personOf_66 : decode cX12_personOf 66 = .ok (.invokevirtual 94, 3) := oc_182 (a := 0) (b := 94) (by decide +kernel)
theorem dX12_personOf_69 : decode cX12_personOf 69 = .ok (.ireturn, 1) := oc_172 (by decide +kernel)
theorem dX12_personOf_70 : decode cX12_personOf 70 = .ok (.aload_n 0, 1) := oc_42 (by decide +kernel)
theorem dX12_personOf_71 : decode cX12_personOf 71 = .ok (.iload_n 1, 1) := oc_27 (by decide +kernel)
theorem dX12_personOf_72 : decode cX12_personOf 72 = .ok (.iconst 1, 1) := oc_4 (by decide +kernel)
theorem dX12_personOf_73 : decode cX12_personOf 73 = .ok (.invokevirtual 94, 3) := oc_182 (a := 0) (b := 94) (by decide +kernel)
theorem dX12_personOf_76 : decode cX12_personOf 76 = .ok (.ireturn, 1) := oc_172 (by decide +kernel)
theorem dX12_personOf_77 : decode cX12_personOf 77 = .ok (.aload_n 0, 1) := oc_42 (by decide +kernel)
theorem dX12_personOf_78 : decode cX12_personOf 78 = .ok (.iload_n 1, 1) := oc_27 (by decide +kernel)
theorem dX12_personOf_79 : decode cX12_personOf 79 = .ok (.iconst 2, 1) := oc_5 (by decide +kernel)
theorem dX12_personOf_80 : decode cX12_personOf 80 = .ok (.invokevirtual 94, 3) := oc_182 (a := 0) (b := 94) (by decide +kernel)
theorem dX12_personOf_83 : decode cX12_personOf 83 = .ok (.ireturn, 1) := oc_172 (by decide +kernel)
theorem dX12_personOf_84 : decode cX12_personOf 84 = .ok (.aload_n 0, 1) := oc_42 (by decide +kernel)
theorem dX12_personOf_85 : decode cX12_personOf 85 = .ok (.iload_n 1, 1) := oc_27 (by decide +kernel)
theorem dX12_personOf_86 : decode cX12_personOf 86 = .ok (.iconst 4, 1) := oc_7 (by decide +kernel)
theorem dX12_personOf_87 : decode cX12_personOf 87 = .ok (.invokevirtual 94, 3) := oc_182 (a := 0) (b := 94) (by decide +kernel)
theorem dX12_personOf_90 : decode cX12_personOf 90 = .ok (.ireturn, 1) := oc_172 (by decide +kernel)
theorem dX12_personOf_91 : decode cX12_personOf 91 = .ok (.aload_n 0, 1) := oc_42 (by decide +kernel)
theorem dX12_personOf_92 : decode cX12_personOf 92 = .ok (.iload_n 1, 1) := oc_27 (by decide +kernel)
theorem dX12_personOf_93 : decode cX12_personOf 93 = .ok (.iconst 5, 1) := oc_8 (by decide +kernel)
theorem dX12_personOf_94 : decode cX12_personOf 94 = .ok (.invokevirtual 94, 3) := oc_182 (a := 0) (b := 94) (by decide +kernel)
theorem dX12_personOf_97 : decode cX12_personOf 97 = .ok (.ireturn, 1) := oc_172 (by decide +kernel)
theorem dX12_personOf_98 : decode cX12_personOf 98 = .ok (.aload_n 0, 1) := oc_42 (by decide +kernel)
theorem dX12_personOf_99 : decode cX12_personOf 99 = .ok (.iload_n 1, 1) := oc_27 (by decide +kernel)
theorem dX12_personOf_100 : decode cX12_personOf 100 = .ok (.bipush 6, 2) := oc_16 (a := 6) (by decide +kernel)
theorem dX12_personOf_102 : decode cX12_personOf 102 = .ok (.invokevirtual 94, 3) := oc_182 (a := 0) (b := 94) (by decide +kernel)
theorem dX12_personOf_105 : decode cX12_personOf 105 = .ok (.ireturn, 1) := oc_172 (by decide +kernel)
theorem dX12_personOf_106 : decode cX12_personOf 106 = .ok (.aload_n 0, 1) := oc_42 (by decide +kernel)
theorem dX12_personOf_107 : decode cX12_personOf 107 = .ok (.iload_n 1, 1) := oc_27 (by decide +kernel)
theorem dX12_personOf_108 : decode cX12_personOf 108 = .ok (.bipush 7, 2) := oc_16 (a := 7) (by decide +kernel)
theorem dX12_personOf_110 : decode cX12_personOf 110 = .ok (.invokevirtual 94, 3) := oc_182 (a := 0) (b := 94) (by decide +kernel)
theorem dX12_personOf_113 : decode cX12_personOf 113 = .ok (.ireturn, 1) := oc_172 (by decide +kernel)
theorem dX12_personOf_114 : decode cX12_personOf 114 = .ok (.iconst (-1), 1) := oc_2 (by decide +kernel)
theorem dX12_personOf_115 : decode cX12_personOf 115 = .ok (.ireturn, 1) := oc_172 (by decide +kernel)
theorem dX12_personOf_8 : decode cX12_personOf 8 = .ok (.iconst (-1), 1) := oc_2 (by decide +kernel)
theorem dX12_personOf_9 : decode cX12_personOf 9 = .ok (.ireturn, 1) := oc_172 (by decide +kernel)
set_option maxRecDepth 100000 in
def g_X12_month (a0 : Int32) (I : Nat → Int32) (J : Nat → Int64) (ri : Nat → Nat → Int32) (rj : Nat → Nat → Int64) (rq : Nat → Nat → Option Nat) : vM := (ap1 (ri 384 ((0 : Int32)).toNatClampNeg) fun (x_1 : Int32) => (bnV (g_X12_reefGoes x_1 I J ri rj rq) fun (_ : Nat → Int32) (_ : Nat → Int64) (ri_6 : Nat → Nat → Int32) (_ : Nat → Nat → Int64) (_ : Nat → Nat → Option Nat) => (bnV (g_X12_sandGoes x_1 I J ri_6 rj rq) fun (_ : Nat → Int32) (_ : Nat → Int64) (ri_14 : Nat → Nat → Int32) (_ : Nat → Nat → Int64) (_ : Nat → Nat → Option Nat) => (bnI (g_X12_levelAt a0 x_1 x_1 I J ri_14 rj rq) fun (x_20 : Int32) (_ : Nat → Int32) (_ : Nat → Int64) (_ : Nat → Nat → Int32) (_ : Nat → Nat → Int64) (_ : Nat → Nat → Option Nat) => (bnV (g_X12_seaStands x_1 x_20 I J ri_14 rj rq) fun (_ : Nat → Int32) (_ : Nat → Int64) (ri_29 : Nat → Nat → Int32) (_ : Nat → Nat → Int64) (_ : Nat → Nat → Option Nat) => (bnV (g_X12_drink I J ri_29 rj rq) fun (_ : Nat → Int32) (_ : Nat → Int64) (ri_37 : Nat → Nat → Int32) (_ : Nat → Nat → Int64) (_ : Nat → Nat → Option Nat) => (bnV (g_X12_sleep I J ri_37 rj rq) fun (_ : Nat → Int32) (_ : Nat → Int64) (ri_45 : Nat → Nat → Int32) (_ : Nat → Nat → Int64) (_ : Nat → Nat → Option Nat) => (bnV (g_X12_fundGoes x_1 I J ri_45 rj rq) fun (I_53 : Nat → Int32) (_ : Nat → Int64) (ri_54 : Nat → Nat → Int32) (_ : Nat → Nat → Int64) (_ : Nat → Nat → Option Nat) => (bnV (g_X12_boatsGo x_1 I_53 J ri_54 rj rq) fun (I_64 : Nat → Int32) (_ : Nat → Int64) (ri_65 : Nat → Nat → Int32) (rj_66 : Nat → Nat → Int64) (_ : Nat → Nat → Option Nat) => (ap1 (x_1 + (1 : Int32)) fun (x_72 : Int32) => (ap1 (va_up ri_65 384 (upd (ri_65 384) ((0 : Int32)).toNatClampNeg x_72)) fun (r_74 : Nat → Nat → Int32) => (I_64, J, r_74, rj_66, rq))))))))))))
set_option maxRecDepth 100000 in
theorem g_X12_month_e {a0 : Int32} {I : Nat → Int32} {J : Nat → Int64} {ri : Nat → Nat → Int32} {rj : Nat → Nat → Int64} {rq : Nat → Nat → Option Nat} : g_X12_month a0 I J ri rj rq = (ap1 (ri 384 ((0 : Int32)).toNatClampNeg) fun (x_1 : Int32) => (bnV (g_X12_reefGoes x_1 I J ri rj rq) fun (_ : Nat → Int32) (_ : Nat → Int64) (ri_6 : Nat → Nat → Int32) (_ : Nat → Nat → Int64) (_ : Nat → Nat → Option Nat) => (bnV (g_X12_sandGoes x_1 I J ri_6 rj rq) fun (_ : Nat → Int32) (_ : Nat → Int64) (ri_14 : Nat → Nat → Int32) (_ : Nat → Nat → Int64) (_ : Nat → Nat → Option Nat) => (bnI (g_X12_levelAt a0 x_1 x_1 I J ri_14 rj rq) fun (x_20 : Int32) (_ : Nat → Int32) (_ : Nat → Int64) (_ : Nat → Nat → Int32) (_ : Nat → Nat → Int64) (_ : Nat → Nat → Option Nat) => (bnV (g_X12_seaStands x_1 x_20 I J ri_14 rj rq) fun (_ : Nat → Int32) (_ : Nat → Int64) (ri_29 : Nat → Nat → Int32) (_ : Nat → Nat → Int64) (_ : Nat → Nat → Option Nat) => (bnV (g_X12_drink I J ri_29 rj rq) fun (_ : Nat → Int32) (_ : Nat → Int64) (ri_37 : Nat → Nat → Int32) (_ : Nat → Nat → Int64) (_ : Nat → Nat → Option Nat) => (bnV (g_X12_sleep I J ri_37 rj rq) fun (_ : Nat → Int32) (_ : Nat → Int64) (ri_45 : Nat → Nat → Int32) (_ : Nat → Nat → Int64) (_ : Nat → Nat → Option Nat) => (bnV (g_X12_fundGoes x_1 I J ri_45 rj rq) fun (I_53 : Nat → Int32) (_ : Nat → Int64) (ri_54 : Nat → Nat → Int32) (_ : Nat → Nat → Int64) (_ : Nat → Nat → Option Nat) => (bnV (g_X12_boatsGo x_1 I_53 J ri_54 rj rq) fun (I_64 : Nat → Int32) (_ : Nat → Int64) (ri_65 : Nat → Nat → Int32) (rj_66 : Nat → Nat → Int64) (_ : Nat → Nat → Option Nat) => (ap1 (x_1 + (1 : Int32)) fun (x_72 : Int32) => (ap1 (va_up ri_65 384 (upd (ri_65 384) ((0 : Int32)).toNatClampNeg x_72)) fun (r_74 : Nat → Nat → Int32) => (I_64, J, r_74, rj_66, rq)))))))))))) := rfl
set_option maxHeartbeats 4000000 in
set_option maxRecDepth 100000 in
theorem s_X12_month (l : Launch) (D : va_G) (t : pq_T) (σ : pq_S) (I : Nat → Nat → Int32) (J : Nat → Nat → Int64) (ri : Nat → Nat → Int32) (rj : Nat → Nat → Int64) (rq : Nat → Nat → Option Nat) (sz : Nat) (tg : Nat → Nat) (hSH : SH σ tg) (hG0 : GT tg I ri) (this : Nat) (a0 : Int32) (hL_this : this ∈ σ.1) (hK_this : σ.2.1 this = 12) (this_a : Nat) (hR_this_a : σ.2.2.1 384 this = some this_a) (hL_this_a : this_a ∈ σ.1) (hK_this_a : σ.2.1 this_a = 13) (hN_this_a : σ.2.2.2 this_a = 12720) (hT_this_a : tg this_a = 384) (hm5 : (ri this_a 0).toInt ≤ 599) : MetV l yX12_month (wa yX12_month cX12_month 3 none) ({ frames := 6, cells := 0, slots := 0, locals := 150 }) [.ref this, .int a0] D t σ (I, J, ri, rj, rq) sz 0 0 (fun (u : pq_S × pq_M) => ∃ I' : Nat → Nat → Int32, ∃ ri' : Nat → Nat → Int32, ∃ rj' : Nat → Nat → Int64, u = (σ, I', J, ri', rj', rq) ∧ GM [1305, 1304, 1403, 1000] tg σ I ri I' ri' rq ∧ ((ri' this_a 0).toInt = (ri this_a 0).toInt + 1) ∧ g_X12_month a0 (vI 12 σ this I) (vJ 12 σ this J) (vR 12 σ this ri) (vL 12 σ this rj) (vQ 12 σ this rq) = ((vI 12 σ this I'), (vJ 12 σ this J), (vR 12 σ this ri'), (vL 12 σ this rj'), (vQ 12 σ this rq)) ∧ FR 12 tg σ this (I, J, ri, rj, rq) (I', J, ri', rj', rq)) := by
  refine Met.ofW (cc := cX12_month) (maxL := 3) (ret := none) (by decide +kernel) rfl ?_
  intro p e s m args below meth c s₁ B hml hv
  obtain ⟨rfl, hsz, hP, hK, hD0, hN⟩ := hv
  have hx := B.exec
  have hb := B.bytes
  have hr := B.returns
  have hts := atoms_spec (ws := (wa yX12_month cX12_month 3 none)) B.pre
  have hown : s.vm.findClass RX12 = some m.cls := findClass_of_methodNamed B.named
  have hlocks := B.notSynchronized
  subst hsz
  have hD : va_D (pq_B t σ (I, J, ri, rj, rq) s.heap.size) (pq_P t σ (I, J, ri, rj, rq)) := hD0.self
  generalize hAe : pq_B t σ (I, J, ri, rj, rq) s.heap.size = A at hD ⊢
  have hA : ∀ q : Nat, s.heap.size ≤ q → A q := fun q h => by rw [← hAe]; exact Or.inr h
  have hS : va_S A s.heap s.heap [] := va_S.rf
  have hG : GM [1305, 1304, 1403, 1000] tg σ I ri I ri rq := ⟨hG0, fun _ _ _ => rfl, fun _ _ _ _ _ => rfl, fun _ _ _ _ _ _ => rfl⟩
  have hl := lv_entry ([.ref this, .int a0]) (n := 3) (Nat.le_of_ble_eq_true rfl)
  rw [lg_entry_eq]
  generalize (lg_sl ([.ref this, .int a0]) ++ List.replicate (3 - (lg_sl ([.ref this, .int a0])).length) Slot.unset).toArray = ls at hl ⊢
  have hl : lv_has ls 3 [(0, .ref this), (1, .int a0)] := hl
  refine q_gen (fun Q hQ => ?_)
  have go : ∀ (H : Heap) (locs : List Loc) (ls : Array Slot), va_P D vwCl (pq_P t σ (I, J, ri, rj, rq)) H → va_D A (pq_P t σ (I, J, ri, rj, rq)) → va_S A s.heap H locs → lv_has ls 3 [(0, .ref this), (1, .int a0)] → W p l e ({ frames := 6, cells := 0, slots := 0, locals := 150 } : Room) s m (List.toArray ([.ref this, .int a0] : List Value)) below meth c H locs 0 0 Q (F0 m 0 ls []) := by
    intro H locs ls hP hD hS hl
    have hO_this : this = vo σ 12 this := rfl
    have hVT : VT 12 σ tg this := vt_12 hSH hL_this hK_this
    have hFr : FR 12 tg σ this (I, J, ri, rj, rq) (I, J, ri, rj, rq) := fr_rf
    have hO_this_a : this_a = vrow σ 384 this := vo_k (c := 12) hO_this hR_this_a
    obtain ⟨F, hF0⟩ : ∃ F, F = g_X12_month a0 (vI 12 σ this I) (vJ 12 σ this J) (vR 12 σ this ri) (vL 12 σ this rj) (vQ 12 σ this rq) := ⟨_, rfl⟩
    have hF := hF0.trans g_X12_month_e
    refine lv_aload_n hx hb dX12_month_0 rfl (lv_at hl 0 rfl) ?_
    refine pg_f (v := .ref this_a) (C := RX12) (T := TX12) (N := 31) hx hb hts (tw_i inlX12) hown hK hP hL_this hK_this (by decide +kernel) rfl 0 (by decide +kernel) (hts _ (tw_c tw_176)) (pq_hv rfl hR_this_a) dX12_month_1 ?_
    refine lv_iconst (v := 0) hx hb dX12_month_4 (by decide +kernel) ?_
    refine pl_i hx hb hK hP hL_this_a hK_this_a hN_this_a (vp_in_iff.mpr (by decide +kernel)) dX12_month_5 ?_
    refine lv_topi (fun x_1 ex_1 => ?_)
    replace hF := hF.trans (ap_n (vR_r hO_this_a (by decide +kernel) ex_1))
    have h_2 : rg x_1 0 600 := rg_of_eq ex_1 (GM.z hG (by rw [hT_this_a]; decide) (show zn ((0 : Int32)).toNatClampNeg = 0 from by decide +kernel) rfl)
    have uh_2 := h_2.1
    have vh_2 := h_2.2
    refine lv_istore_n (lv' := [(2, .int x_1), (0, .ref this), (1, .int a0)]) hx hb dX12_month_6 rfl hl (by decide +kernel) rfl (fun ls hl => ?_)
    have h_3 : rg x_1 0 599 := ⟨(h_2).1, by have z1 := congrArg Int32.toInt (show x_1 = ri this_a 0 from ex_1); omega⟩
    have uh_3 := h_3.1
    have vh_3 := h_3.2
    refine lv_aload_n hx hb dX12_month_7 rfl (lv_at hl 1 rfl) ?_
    refine lv_iload_n hx hb dX12_month_8 rfl (lv_at hl 0 rfl) ?_
    refine pk_v (va_runV (As := [.int x_1]) (rest := []) ⟨hx, hb, hml, hown, hts⟩ (s_X12_reefGoes l D t σ I J ri rj rq H.size tg hSH hG.1 this x_1 hL_this hK_this (rg_w h_3 (by decide +kernel))) (cwV 1 hts (tw_V tw_1197 tw_1198 tw_1199 tw_5 tw_1200) rfl rfl rfl cv_yX12_reefGoes_1 ⟨Nat.le_of_ble_eq_true rfl, Nat.le_of_ble_eq_true rfl⟩) ⟨pq_blind, pq_recv hK hP hL_this hK_this (by decide +kernel) rfl, pq_pre hK hN hP hD⟩ rfl rfl hl.1 rfl (lv_room (Nat.le_of_ble_eq_true rfl)) dX12_month_9 ⟨Nat.le_of_ble_eq_true rfl, Nat.le_of_ble_eq_true rfl⟩) hD hS hA (fun σ1 μ1 H locs hw_5 hP hD hS => ?_)
    obtain ⟨ri_6, hu_7, hg_8, hfn_10, hfr_11⟩ := hw_5
    obtain ⟨hu_7a, hu_7b⟩ := Prod.mk.inj hu_7
    rw [hu_7a, hu_7b] at hP hD
    replace hF := hF.trans (bv_n hfn_10)
    replace hFr := fr_tr hFr hfr_11
    have hG := GM.tr hG hg_8 (by decide +kernel)
    refine lv_aload_n hx hb dX12_month_12 rfl (lv_at hl 1 rfl) ?_
    refine lv_iload_n hx hb dX12_month_13 rfl (lv_at hl 0 rfl) ?_
    refine pk_v (va_runV (As := [.int x_1]) (rest := []) ⟨hx, hb, hml, hown, hts⟩ (s_X12_sandGoes l D t σ I J ri_6 rj rq H.size tg hSH hG.1 this x_1 hL_this hK_this (rg_w h_3 (by decide +kernel))) (cwV 1 hts (tw_V tw_1205 tw_1206 tw_1207 tw_5 tw_1208) rfl rfl rfl cv_yX12_sandGoes_1 ⟨Nat.le_of_ble_eq_true rfl, Nat.le_of_ble_eq_true rfl⟩) ⟨pq_blind, pq_recv hK hP hL_this hK_this (by decide +kernel) rfl, pq_pre hK hN hP hD⟩ rfl rfl hl.1 rfl (lv_room (Nat.le_of_ble_eq_true rfl)) dX12_month_14 ⟨Nat.le_of_ble_eq_true rfl, Nat.le_of_ble_eq_true rfl⟩) hD hS hA (fun σ1 μ1 H locs hw_13 hP hD hS => ?_)
    obtain ⟨ri_14, hu_15, hg_16, hfn_18, hfr_19⟩ := hw_13
    obtain ⟨hu_15a, hu_15b⟩ := Prod.mk.inj hu_15
    rw [hu_15a, hu_15b] at hP hD
    replace hF := hF.trans (bv_n hfn_18)
    replace hFr := fr_tr hFr hfr_19
    have hG := GM.tr hG hg_16 (by decide +kernel)
    refine lv_aload_n hx hb dX12_month_17 rfl (lv_at hl 1 rfl) ?_
    refine lv_iload_n hx hb dX12_month_18 rfl (lv_at hl 0 rfl) ?_
    refine lv_aload_n hx hb dX12_month_19 rfl (lv_at hl 1 rfl) ?_
    refine lv_iload_n hx hb dX12_month_20 rfl (lv_at hl 2 rfl) ?_
    refine lv_iload_n hx hb dX12_month_21 rfl (lv_at hl 0 rfl) ?_
    refine lv_iload_n hx hb dX12_month_22 rfl (lv_at hl 0 rfl) ?_
    refine pk_i (va_runV (As := [.int a0, .int x_1, .int x_1]) (rest := [.int x_1, .ref this]) ⟨hx, hb, hml, hown, hts⟩ (s_X12_levelAt l D t σ I J ri_14 rj rq H.size tg hSH hG.1 this a0 x_1 x_1 hL_this hK_this) (cwV 3 hts (tw_V tw_289 tw_290 tw_291 tw_5 tw_292) rfl rfl rfl cv_yX12_levelAt_3 ⟨Nat.le_of_ble_eq_true rfl, Nat.le_of_ble_eq_true rfl⟩) ⟨pq_blind, pq_recv hK hP hL_this hK_this (by decide +kernel) rfl, pq_pre hK hN hP hD⟩ rfl rfl hl.1 rfl (lv_room (Nat.le_of_ble_eq_true rfl)) dX12_month_23 ⟨Nat.le_of_ble_eq_true rfl, Nat.le_of_ble_eq_true rfl⟩) hD hS hA (fun x_20 σ1 μ1 H locs hw_21 hP hD hS => ?_)
    obtain ⟨hu_22, hfn_25⟩ := hw_21
    obtain ⟨hu_22a, hu_22b⟩ := Prod.mk.inj hu_22
    rw [hu_22a, hu_22b] at hP hD
    replace hF := hF.trans (bn_n hfn_25)
    refine pk_v (va_runV (As := [.int x_1, .int x_20]) (rest := []) ⟨hx, hb, hml, hown, hts⟩ (s_X12_seaStands l D t σ I J ri_14 rj rq H.size tg hSH hG.1 this x_1 x_20 hL_this hK_this (rg_w h_3 (by decide +kernel))) (cwV 2 hts (tw_V tw_1209 tw_1210 tw_1211 tw_5 tw_1212) rfl rfl rfl cv_yX12_seaStands_2 ⟨Nat.le_of_ble_eq_true rfl, Nat.le_of_ble_eq_true rfl⟩) ⟨pq_blind, pq_recv hK hP hL_this hK_this (by decide +kernel) rfl, pq_pre hK hN hP hD⟩ rfl rfl hl.1 rfl (lv_room (Nat.le_of_ble_eq_true rfl)) dX12_month_26 ⟨Nat.le_of_ble_eq_true rfl, Nat.le_of_ble_eq_true rfl⟩) hD hS hA (fun σ1 μ1 H locs hw_28 hP hD hS => ?_)
    obtain ⟨ri_29, hu_30, hg_31, hfn_33, hfr_34⟩ := hw_28
    obtain ⟨hu_30a, hu_30b⟩ := Prod.mk.inj hu_30
    rw [hu_30a, hu_30b] at hP hD
    replace hF := hF.trans (bv_n hfn_33)
    replace hFr := fr_tr hFr hfr_34
    have hG := GM.tr hG hg_31 (by decide +kernel)
    refine lv_aload_n hx hb dX12_month_29 rfl (lv_at hl 1 rfl) ?_
    refine pk_v (va_runV (As := []) (rest := []) ⟨hx, hb, hml, hown, hts⟩ (s_X12_drink l D t σ I J ri_29 rj rq H.size tg hSH hG.1 this hL_this hK_this) (cwV 0 hts (tw_V tw_1217 tw_1218 tw_1219 tw_5 tw_1220) rfl rfl rfl cv_yX12_drink_0 ⟨Nat.le_of_ble_eq_true rfl, Nat.le_of_ble_eq_true rfl⟩) ⟨pq_blind, pq_recv hK hP hL_this hK_this (by decide +kernel) rfl, pq_pre hK hN hP hD⟩ rfl rfl hl.1 rfl (lv_room (Nat.le_of_ble_eq_true rfl)) dX12_month_30 ⟨Nat.le_of_ble_eq_true rfl, Nat.le_of_ble_eq_true rfl⟩) hD hS hA (fun σ1 μ1 H locs hw_36 hP hD hS => ?_)
    obtain ⟨ri_37, hu_38, hg_39, hfn_41, hfr_42⟩ := hw_36
    obtain ⟨hu_38a, hu_38b⟩ := Prod.mk.inj hu_38
    rw [hu_38a, hu_38b] at hP hD
    replace hF := hF.trans (bv_n hfn_41)
    replace hFr := fr_tr hFr hfr_42
    have hG := GM.tr hG hg_39 (by decide +kernel)
    refine lv_aload_n hx hb dX12_month_33 rfl (lv_at hl 1 rfl) ?_
    refine pk_v (va_runV (As := []) (rest := []) ⟨hx, hb, hml, hown, hts⟩ (s_X12_sleep l D t σ I J ri_37 rj rq H.size tg hSH hG.1 this hL_this hK_this) (cwV 0 hts (tw_V tw_1229 tw_1230 tw_1231 tw_5 tw_1232) rfl rfl rfl cv_yX12_sleep_0 ⟨Nat.le_of_ble_eq_true rfl, Nat.le_of_ble_eq_true rfl⟩) ⟨pq_blind, pq_recv hK hP hL_this hK_this (by decide +kernel) rfl, pq_pre hK hN hP hD⟩ rfl rfl hl.1 rfl (lv_room (Nat.le_of_ble_eq_true rfl)) dX12_month_34 ⟨Nat.le_of_ble_eq_true rfl, Nat.le_of_ble_eq_true rfl⟩) hD hS hA (fun σ1 μ1 H locs hw_44 hP hD hS => ?_)
    obtain ⟨ri_45, hu_46, hg_47, hfn_49, hfr_50⟩ := hw_44
    obtain ⟨hu_46a, hu_46b⟩ := Prod.mk.inj hu_46
    rw [hu_46a, hu_46b] at hP hD
    replace hF := hF.trans (bv_n hfn_49)
    replace hFr := fr_tr hFr hfr_50
    have hG := GM.tr hG hg_47 (by decide +kernel)
    refine lv_aload_n hx hb dX12_month_37 rfl (lv_at hl 1 rfl) ?_
    refine lv_iload_n hx hb dX12_month_38 rfl (lv_at hl 0 rfl) ?_
    refine pk_v (va_runV (As := [.int x_1]) (rest := []) ⟨hx, hb, hml, hown, hts⟩ (s_X12_fundGoes l D t σ I J ri_45 rj rq H.size tg hSH hG.1 this x_1 hL_this hK_this (rg_w h_3 (by decide +kernel))) (cwV 1 hts (tw_V tw_1233 tw_1234 tw_1235 tw_5 tw_1236) rfl rfl rfl cv_yX12_fundGoes_1 ⟨Nat.le_of_ble_eq_true rfl, Nat.le_of_ble_eq_true rfl⟩) ⟨pq_blind, pq_recv hK hP hL_this hK_this (by decide +kernel) rfl, pq_pre hK hN hP hD⟩ rfl rfl hl.1 rfl (lv_room (Nat.le_of_ble_eq_true rfl)) dX12_month_39 ⟨Nat.le_of_ble_eq_true rfl, Nat.le_of_ble_eq_true rfl⟩) hD hS hA (fun σ1 μ1 H locs hw_52 hP hD hS => ?_)
    obtain ⟨I_53, ri_54, hu_55, hg_56, hfn_58, hfr_59⟩ := hw_52
    obtain ⟨hu_55a, hu_55b⟩ := Prod.mk.inj hu_55
    rw [hu_55a, hu_55b] at hP hD
    replace hF := hF.trans (bv_n hfn_58)
    replace hFr := fr_tr hFr hfr_59
    have hG := GM.tr hG hg_56 (by decide +kernel)
    refine lv_aload_n hx hb dX12_month_42 rfl (lv_at hl 1 rfl) ?_
    refine lv_iload_n hx hb dX12_month_43 rfl (lv_at hl 0 rfl) ?_
    obtain ⟨w_60, hR_w_60, hL_w_60, hK_w_60, hN_w_60, hT_w_60⟩ := sh_a hSH 411 (ci := 12) (kd := 13) (len := 40) rfl (by decide +kernel) hL_this hK_this
    have hO_w_60 : w_60 = vrow σ 411 this := vo_k (c := 12) hO_this hR_w_60
    obtain ⟨w_61, hR_w_61, hL_w_61, hK_w_61, hN_w_61, hT_w_61⟩ := sh_a hSH 412 (ci := 12) (kd := 15) (len := 40) rfl (by decide +kernel) hL_this hK_this
    have hO_w_61 : w_61 = vrow σ 412 this := vo_k (c := 12) hO_this hR_w_61
    refine pk_v (va_runV (As := [.int x_1]) (rest := []) ⟨hx, hb, hml, hown, hts⟩ (s_X12_boatsGo l D t σ I_53 J ri_54 rj rq H.size tg hSH hG.1 this x_1 hL_this hK_this (rg_w h_3 (by decide +kernel)) this_a hR_this_a hL_this_a hK_this_a hN_this_a hT_this_a w_60 hR_w_60 hL_w_60 hK_w_60 hN_w_60 hT_w_60 w_61 hR_w_61 hL_w_61 hK_w_61 hN_w_61 hT_w_61) (cwV 1 hts (tw_V tw_1247 tw_1248 tw_1249 tw_5 tw_1250) rfl rfl rfl cv_yX12_boatsGo_1 ⟨Nat.le_of_ble_eq_true rfl, Nat.le_of_ble_eq_true rfl⟩) ⟨pq_blind, pq_recv hK hP hL_this hK_this (by decide +kernel) rfl, pq_pre hK hN hP hD⟩ rfl rfl hl.1 rfl (lv_room (Nat.le_of_ble_eq_true rfl)) dX12_month_44 ⟨Nat.le_of_ble_eq_true rfl, Nat.le_of_ble_eq_true rfl⟩) hD hS hA (fun σ1 μ1 H locs hw_63 hP hD hS => ?_)
    obtain ⟨I_64, ri_65, rj_66, hu_67, hg_68, hfn_70, hfr_71⟩ := hw_63
    obtain ⟨hu_67a, hu_67b⟩ := Prod.mk.inj hu_67
    rw [hu_67a, hu_67b] at hP hD
    replace hF := hF.trans (bv_n hfn_70)
    replace hFr := fr_tr hFr hfr_71
    have hG := GM.tr hG hg_68 (by decide +kernel)
    refine lv_aload_n hx hb dX12_month_47 rfl (lv_at hl 1 rfl) ?_
    refine pg_f (v := .ref this_a) (C := RX12) (T := TX12) (N := 31) hx hb hts (tw_i inlX12) hown hK hP hL_this hK_this (by decide +kernel) rfl 0 (by decide +kernel) (hts _ (tw_c tw_176)) (pq_hv rfl hR_this_a) dX12_month_48 ?_
    refine lv_iconst (v := 0) hx hb dX12_month_51 (by decide +kernel) ?_
    refine lv_dup2_11 hx hb dX12_month_52 rfl rfl ?_
    refine pl_i hx hb hK hP hL_this_a hK_this_a hN_this_a (vp_in_iff.mpr (by decide +kernel)) dX12_month_53 ?_
    refine lv_tov x_1 ((hg_68.2.2.1 this_a hT_this_a 0 (by decide +kernel) (by decide +kernel)).trans ((hg_56.2.2.1 this_a hT_this_a 0 (by decide +kernel) (by decide +kernel)).trans ((hg_47.2.2.1 this_a hT_this_a 0 (by decide +kernel) (by decide +kernel)).trans ((hg_39.2.2.1 this_a hT_this_a 0 (by decide +kernel) (by decide +kernel)).trans ((hg_31.2.2.1 this_a hT_this_a 0 (by decide +kernel) (by decide +kernel)).trans ((hg_16.2.2.1 this_a hT_this_a 0 (by decide +kernel) (by decide +kernel)).trans ((hg_8.2.2.1 this_a hT_this_a 0 (by decide +kernel) (by decide +kernel)).trans ex_1.symm))))))) ?_
    refine lv_iconst (v := 1) hx hb dX12_month_54 (by decide +kernel) ?_
    refine lv_iadd hx hb dX12_month_55 ?_
    refine lv_topi (fun x_72 ex_72 => ?_)
    replace hF := hF.trans (ap_n ex_72)
    have h_73 : rg x_72 1 600 := rg_of_eq ex_72 (rg_add h_3 (rg_k (1 : Int32) 1 rfl) (by decide +kernel))
    have uh_73 := h_73.1
    have vh_73 := h_73.2
    have tx_72 : (x_72).toInt = (x_1).toInt + 1 := by rw [ex_72]; exact i_add_rg (a2 := (x_1).toInt) (b2 := 1) rfl rfl h_3 (rg_k (1 : Int32) 1 rfl) (by decide +kernel)
    refine pt_i hx hb hK hP hD hS hL_this_a hK_this_a hN_this_a (vp_in_iff.mpr (by decide +kernel)) dX12_month_56 (fun r_74 H locs er_74 hP hD hS => ?_)
    replace hFr := fr_R hFr hO_this_a (by decide +kernel) er_74
    replace hF := hF.trans (ap_n (vR_st hVT hO_this_a (by decide +kernel) er_74))
    have hG := GM.wz hG hT_this_a (by decide +kernel) er_74 (show zn ((0 : Int32)).toNatClampNeg = 0 from by decide +kernel) rfl (rg_w h_73 (by decide +kernel)) (by decide +kernel)
    have h_75 : r_74 this_a 0 = x_72 := cz_eq er_74
    subst hQ
    exact W.vret hx hb hr (fun t1 ht hW => ⟨⟨(σ, I_64, J, r_74, rj_66, rq), rfl, ⟨I_64, r_74, rj_66, rfl, hG, (by have z1 := congrArg Int32.toInt (show r_74 this_a 0 = x_72 from h_75); have z2 := congrArg Int32.toInt (show x_1 = ri this_a 0 from ex_1); omega), (hF0.symm.trans hF), hFr⟩, by rw [ht]; exact hP, va_K.moved hW.alike hK, hD⟩, hS.F ht⟩) hS.2.2 dX12_month_57
  exact go _ _ _ hP hD hS hl

set_option maxRecDepth 100000 in
def g_X12_sail_K20 (I : Nat → Int32) (J : Nat → Int64) (ri : Nat → Nat → Int32) (rj : Nat → Nat → Int64) (rq : Nat → Nat → Option Nat) : Int32 × vM := ((0 : Int32), I, J, ri, rj, rq)
set_option maxRecDepth 100000 in
theorem g_X12_sail_K20_e {I : Nat → Int32} {J : Nat → Int64} {ri : Nat → Nat → Int32} {rj : Nat → Nat → Int64} {rq : Nat → Nat → Option Nat} : g_X12_sail_K20 I J ri rj rq  = ((0 : Int32), I, J, ri, rj, rq) := rfl
set_option maxRecDepth 100000 in
def g_X12_sail (a0 : Int32) (a1 : Int32) (I : Nat → Int32) (J : Nat → Int64) (ri : Nat → Nat → Int32) (rj : Nat → Nat → Int64) (rq : Nat → Nat → Option Nat) : Int32 × vM := (ap1 (g_X12_isIn a0 (0 : Int32) (40 : Int32)) fun (x_1 : Int32) => (if x_1 = (0 : Int32) then (g_X12_sail_K20 I J ri rj rq ) else (ap1 (g_X12_isIn a1 (0 : Int32) (100000 : Int32)) fun (x_70 : Int32) => (if x_70 = (0 : Int32) then (g_X12_sail_K20 I J ri rj rq ) else (ap1 (va_up ri 384 (upd (ri 384) ((11 : Int32)).toNatClampNeg a0)) fun (r_99 : Nat → Nat → Int32) => (ap1 (r_99 384 ((8 : Int32)).toNatClampNeg) fun (x_100 : Int32) => (ap1 (x_100 + a1) fun (x_101 : Int32) => (ap1 (va_up r_99 384 (upd (r_99 384) ((8 : Int32)).toNatClampNeg x_101)) fun (r_102 : Nat → Nat → Int32) => ((1 : Int32), I, J, r_102, rj, rq)))))))))
set_option maxRecDepth 100000 in
theorem g_X12_sail_e {a0 : Int32} {a1 : Int32} {I : Nat → Int32} {J : Nat → Int64} {ri : Nat → Nat → Int32} {rj : Nat → Nat → Int64} {rq : Nat → Nat → Option Nat} : g_X12_sail a0 a1 I J ri rj rq = (ap1 (g_X12_isIn a0 (0 : Int32) (40 : Int32)) fun (x_1 : Int32) => (if x_1 = (0 : Int32) then (g_X12_sail_K20 I J ri rj rq ) else (ap1 (g_X12_isIn a1 (0 : Int32) (100000 : Int32)) fun (x_70 : Int32) => (if x_70 = (0 : Int32) then (g_X12_sail_K20 I J ri rj rq ) else (ap1 (va_up ri 384 (upd (ri 384) ((11 : Int32)).toNatClampNeg a0)) fun (r_99 : Nat → Nat → Int32) => (ap1 (r_99 384 ((8 : Int32)).toNatClampNeg) fun (x_100 : Int32) => (ap1 (x_100 + a1) fun (x_101 : Int32) => (ap1 (va_up r_99 384 (upd (r_99 384) ((8 : Int32)).toNatClampNeg x_101)) fun (r_102 : Nat → Nat → Int32) => ((1 : Int32), I, J, r_102, rj, rq))))))))) := rfl
set_option maxHeartbeats 4000000 in
set_option maxRecDepth 100000 in
theorem s_X12_sail (l : Launch) (D : va_G) (t : pq_T) (σ : pq_S) (I : Nat → Nat → Int32) (J : Nat → Nat → Int64) (ri : Nat → Nat → Int32) (rj : Nat → Nat → Int64) (rq : Nat → Nat → Option Nat) (sz : Nat) (tg : Nat → Nat) (hSH : SH σ tg) (hG0 : GT tg I ri) (this : Nat) (a0 : Int32) (a1 : Int32) (hL_this : this ∈ σ.1) (hK_this : σ.2.1 this = 12) : MetI l yX12_sail (wa yX12_sail cX12_sail 3 (some .boolean)) ({ frames := 1, cells := 0, slots := 0, locals := 22 }) [.ref this, .int a0, .int a1] D t σ (I, J, ri, rj, rq) sz 0 0 (fun (r : Int32) (u : pq_S × pq_M) => ∃ ri' : Nat → Nat → Int32, u = (σ, I, J, ri', rj, rq) ∧ GM [] tg σ I ri I ri' rq ∧ g_X12_sail a0 a1 (vI 12 σ this I) (vJ 12 σ this J) (vR 12 σ this ri) (vL 12 σ this rj) (vQ 12 σ this rq) = (r, (vI 12 σ this I), (vJ 12 σ this J), (vR 12 σ this ri'), (vL 12 σ this rj), (vQ 12 σ this rq)) ∧ FR 12 tg σ this (I, J, ri, rj, rq) (I, J, ri', rj, rq) ∧ ((r = 1 ∧ rg a0 0 40 ∧ rg a1 0 100000) ∨ (r = 0 ∧ True))) := by
  refine Met.ofW (cc := cX12_sail) (maxL := 3) (ret := (some .boolean)) (by decide +kernel) rfl ?_
  intro p e s m args below meth c s₁ B hml hv
  obtain ⟨rfl, hsz, hP, hK, hD0, hN⟩ := hv
  have hx := B.exec
  have hb := B.bytes
  have hr := B.returns
  have hts := atoms_spec (ws := (wa yX12_sail cX12_sail 3 (some .boolean))) B.pre
  have hown : s.vm.findClass RX12 = some m.cls := findClass_of_methodNamed B.named
  have hlocks := B.notSynchronized
  subst hsz
  have hD : va_D (pq_B t σ (I, J, ri, rj, rq) s.heap.size) (pq_P t σ (I, J, ri, rj, rq)) := hD0.self
  generalize hAe : pq_B t σ (I, J, ri, rj, rq) s.heap.size = A at hD ⊢
  have hA : ∀ q : Nat, s.heap.size ≤ q → A q := fun q h => by rw [← hAe]; exact Or.inr h
  have hS : va_S A s.heap s.heap [] := va_S.rf
  have hG : GM [] tg σ I ri I ri rq := ⟨hG0, fun _ _ _ => rfl, fun _ _ _ _ _ => rfl, fun _ _ _ _ _ _ => rfl⟩
  have hl := lv_entry ([.ref this, .int a0, .int a1]) (n := 3) (Nat.le_of_ble_eq_true rfl)
  rw [lg_entry_eq]
  generalize (lg_sl ([.ref this, .int a0, .int a1]) ++ List.replicate (3 - (lg_sl ([.ref this, .int a0, .int a1])).length) Slot.unset).toArray = ls at hl ⊢
  have hl : lv_has ls 3 [(0, .ref this), (1, .int a0), (2, .int a1)] := hl
  refine q_gen (fun Q hQ => ?_)
  have go : ∀ (H : Heap) (locs : List Loc) (ls : Array Slot), va_P D vwCl (pq_P t σ (I, J, ri, rj, rq)) H → va_D A (pq_P t σ (I, J, ri, rj, rq)) → va_S A s.heap H locs → lv_has ls 3 [(0, .ref this), (1, .int a0), (2, .int a1)] → W p l e ({ frames := 1, cells := 0, slots := 0, locals := 22 } : Room) s m (List.toArray ([.ref this, .int a0, .int a1] : List Value)) below meth c H locs 0 0 Q (F0 m 0 ls []) := by
    intro H locs ls hP hD hS hl
    have hO_this : this = vo σ 12 this := rfl
    have hVT : VT 12 σ tg this := vt_12 hSH hL_this hK_this
    have hFr : FR 12 tg σ this (I, J, ri, rj, rq) (I, J, ri, rj, rq) := fr_rf
    obtain ⟨F, hF0⟩ : ∃ F, F = g_X12_sail a0 a1 (vI 12 σ this I) (vJ 12 σ this J) (vR 12 σ this ri) (vL 12 σ this rj) (vQ 12 σ this rq) := ⟨_, rfl⟩
    have hF := hF0.trans g_X12_sail_e
    refine lv_iload_n hx hb dX12_sail_0 rfl (lv_at hl 1 rfl) ?_
    refine lv_iconst (v := 0) hx hb dX12_sail_1 (by decide +kernel) ?_
    refine lv_bipush (v := 40) hx hb dX12_sail_2 (by decide +kernel) ?_
    refine pk_i (va_runS (As := [.int a0, .int 0, .int 40]) (rest := []) ⟨hx, hb, hml, hown, hts⟩ (s_X12_isIn l D t σ I J ri rj rq H.size tg hSH hG.1 a0 (0 : Int32) (40 : Int32)) (va_cwS 3 hts (tw_S tw_235 tw_236 tw_5 tw_237) rfl rfl rfl cd_yX12_isIn_3 ⟨Nat.le_of_ble_eq_true rfl, Nat.le_of_ble_eq_true rfl⟩) ⟨pq_blind, pq_pre hK hN hP hD⟩ rfl rfl hl.1 rfl (lv_room (Nat.le_of_ble_eq_true rfl)) dX12_sail_4 ⟨Nat.le_of_ble_eq_true rfl, Nat.le_of_ble_eq_true rfl⟩) hD hS hA (fun x_1 σ1 μ1 H locs hw_2 hP hD hS => ?_)
    obtain ⟨hu_3, hfn_6, hr_5⟩ := hw_2
    obtain ⟨hu_3a, hu_3b⟩ := Prod.mk.inj hu_3
    rw [hu_3a, hu_3b] at hP hD
    replace hF := hF.trans (ap_n hfn_6.symm)
    have h_8 : rg x_1 0 1 := by rcases hr_5 with ⟨q, -⟩ | ⟨q, -⟩ <;> rw [q] <;> exact ⟨by decide +kernel, by decide +kernel⟩
    have uh_8 := h_8.1
    have vh_8 := h_8.2
    have K_46 : ∀  (H : Heap) (locs : List Loc) (ls : Array Slot), F = g_X12_sail_K20 (vI 12 σ this I) (vJ 12 σ this J) (vR 12 σ this ri) (vL 12 σ this rj) (vQ 12 σ this rq)  → FR 12 tg σ this (I, J, ri, rj, rq) (I, J, ri, rj, rq) → GM [] tg σ I ri I ri rq → va_P D vwCl (pq_P t σ (I, J, ri, rj, rq)) H → va_D A (pq_P t σ (I, J, ri, rj, rq)) → va_S A s.heap H locs → lv_has ls 3 [] → W p l e ({ frames := 1, cells := 0, slots := 0, locals := 22 } : Room) s m (List.toArray ([.ref this, .int a0, .int a1] : List Value)) below meth c H locs 0 0 Q (F0 m 20 ls []) := by
      intro H locs ls hF hFr hG hP hD hS hl
      replace hF := hF.trans g_X12_sail_K20_e
      refine lv_iconst (v := 0) hx hb dX12_sail_20 (by decide +kernel) ?_
      subst hQ
      exact W.zret (v := 0) hx hb hr (by decide +kernel) (fun t1 ht hW => ⟨⟨0, (σ, I, J, ri, rj, rq), rfl, ⟨ri, rfl, hG, (hF0.symm.trans hF), hFr, (Or.inr ⟨rfl, trivial⟩)⟩, by rw [ht]; exact hP, va_K.moved hW.alike hK, hD⟩, hS.F ht⟩) hS.2.2 dX12_sail_21
    refine lv_if_eq (tgt := 20) hx hb dX12_sail_7 (by decide +kernel) (fun c_47 => ?_) (fun c_47 => ?_)
    · replace hF := hF.trans (if_pos c_47)
      have f_59 := (hr_5.resolve_left (fun q => absurd (q.1.symm.trans c_47) (by decide +kernel))).2
      have tc_60 : (x_1).toInt = 0 := congrArg Int32.toInt c_47
      have h_61 : rg x_1 0 0 := rg_and h_8 (rg_of_eq c_47 (rg_k (0 : Int32) 0 rfl)) (by decide +kernel)
      have uh_61 := h_61.1
      have vh_61 := h_61.2
      exact K_46 _ _ _ hF hFr hG hP hD hS (lv_sub hl [] rfl)
    · replace hF := hF.trans (if_neg c_47)
      obtain ⟨f_62, f_63⟩ := (hr_5.resolve_right (fun q => c_47 q.1)).2
      have tc_64 : 0 ≤ (a0).toInt := Int32.le_iff_toInt_le.mp f_62
      have h_65 : rg a0 0 2147483647 := rg_le2 f_62 (rg_k (0 : Int32) 0 rfl) (rg_full _) (by decide +kernel)
      have uh_65 := h_65.1
      have vh_65 := h_65.2
      have tc_66 : (a0).toInt ≤ 40 := Int32.le_iff_toInt_le.mp f_63
      have h_67 : rg a0 0 40 := rg_le1 f_63 h_65 (rg_k (40 : Int32) 40 rfl) (by decide +kernel)
      have uh_67 := h_67.1
      have vh_67 := h_67.2
      have tc_68 : (x_1).toInt ≠ 0 := fun q => c_47 (Int32.toInt_inj.mp q)
      have h_69 : rg x_1 1 1 := rg_ne c_47 h_8 0 rfl (by decide +kernel)
      have uh_69 := h_69.1
      have vh_69 := h_69.2
      refine lv_iload_n hx hb dX12_sail_10 rfl (lv_at hl 2 rfl) ?_
      refine lv_iconst (v := 0) hx hb dX12_sail_11 (by decide +kernel) ?_
      refine lv_ldc hx hb hown (hts _ (tw_c tw_837)) dX12_sail_12 ?_
      refine pk_i (va_runS (As := [.int a1, .int 0, .int 100000]) (rest := []) ⟨hx, hb, hml, hown, hts⟩ (s_X12_isIn l D t σ I J ri rj rq H.size tg hSH hG.1 a1 (0 : Int32) (100000 : Int32)) (va_cwS 3 hts (tw_S tw_235 tw_236 tw_5 tw_237) rfl rfl rfl cd_yX12_isIn_3 ⟨Nat.le_of_ble_eq_true rfl, Nat.le_of_ble_eq_true rfl⟩) ⟨pq_blind, pq_pre hK hN hP hD⟩ rfl rfl hl.1 rfl (lv_room (Nat.le_of_ble_eq_true rfl)) dX12_sail_14 ⟨Nat.le_of_ble_eq_true rfl, Nat.le_of_ble_eq_true rfl⟩) hD hS hA (fun x_70 σ1 μ1 H locs hw_71 hP hD hS => ?_)
      obtain ⟨hu_72, hfn_75, hr_74⟩ := hw_71
      obtain ⟨hu_72a, hu_72b⟩ := Prod.mk.inj hu_72
      rw [hu_72a, hu_72b] at hP hD
      replace hF := hF.trans (ap_n hfn_75.symm)
      have h_77 : rg x_70 0 1 := by rcases hr_74 with ⟨q, -⟩ | ⟨q, -⟩ <;> rw [q] <;> exact ⟨by decide +kernel, by decide +kernel⟩
      have uh_77 := h_77.1
      have vh_77 := h_77.2
      refine lv_if_ne (tgt := 22) hx hb dX12_sail_17 (by decide +kernel) (fun c_78 => ?_) (fun c_78 => ?_)
      · replace hF := hF.trans (if_neg c_78)
        obtain ⟨f_90, f_91⟩ := (hr_74.resolve_right (fun q => c_78 q.1)).2
        have tc_92 : 0 ≤ (a1).toInt := Int32.le_iff_toInt_le.mp f_90
        have h_93 : rg a1 0 2147483647 := rg_le2 f_90 (rg_k (0 : Int32) 0 rfl) (rg_full _) (by decide +kernel)
        have uh_93 := h_93.1
        have vh_93 := h_93.2
        have tc_94 : (a1).toInt ≤ 100000 := Int32.le_iff_toInt_le.mp f_91
        have h_95 : rg a1 0 100000 := rg_le1 f_91 h_93 (rg_k (100000 : Int32) 100000 rfl) (by decide +kernel)
        have uh_95 := h_95.1
        have vh_95 := h_95.2
        have tc_96 : (x_70).toInt ≠ 0 := fun q => c_78 (Int32.toInt_inj.mp q)
        have h_97 : rg x_70 1 1 := rg_ne c_78 h_77 0 rfl (by decide +kernel)
        have uh_97 := h_97.1
        have vh_97 := h_97.2
        refine lv_aload_n hx hb dX12_sail_22 rfl (lv_at hl 0 rfl) ?_
        obtain ⟨w_98, hR_w_98, hL_w_98, hK_w_98, hN_w_98, hT_w_98⟩ := sh_a hSH 384 (ci := 12) (kd := 13) (len := 12720) rfl (by decide +kernel) hL_this hK_this
        have hO_w_98 : w_98 = vrow σ 384 this := vo_k (c := 12) hO_this hR_w_98
        refine pg_f (v := .ref w_98) (C := RX12) (T := TX12) (N := 31) hx hb hts (tw_i inlX12) hown hK hP hL_this hK_this (by decide +kernel) rfl 0 (by decide +kernel) (hts _ (tw_c tw_176)) (pq_hv rfl hR_w_98) dX12_sail_23 ?_
        refine lv_bipush (v := 11) hx hb dX12_sail_26 (by decide +kernel) ?_
        refine lv_iload_n hx hb dX12_sail_28 rfl (lv_at hl 1 rfl) ?_
        refine pt_i hx hb hK hP hD hS hL_w_98 hK_w_98 hN_w_98 (vp_in_iff.mpr (by decide +kernel)) dX12_sail_29 (fun r_99 H locs er_99 hP hD hS => ?_)
        replace hFr := fr_R hFr hO_w_98 (by decide +kernel) er_99
        replace hF := hF.trans (ap_n (vR_st hVT hO_w_98 (by decide +kernel) er_99))
        have hG := GM.wz hG hT_w_98 (by decide +kernel) er_99 (show zn ((11 : Int32)).toNatClampNeg = 11 from by decide +kernel) rfl (rg_w h_67 (by decide +kernel)) (by decide +kernel)
        refine lv_aload_n hx hb dX12_sail_30 rfl (lv_at hl 0 rfl) ?_
        refine pg_f (v := .ref w_98) (C := RX12) (T := TX12) (N := 31) hx hb hts (tw_i inlX12) hown hK hP hL_this hK_this (by decide +kernel) rfl 0 (by decide +kernel) (hts _ (tw_c tw_176)) (pq_hv rfl hR_w_98) dX12_sail_31 ?_
        refine lv_bipush (v := 8) hx hb dX12_sail_34 (by decide +kernel) ?_
        refine lv_dup2_11 hx hb dX12_sail_36 rfl rfl ?_
        refine pl_i hx hb hK hP hL_w_98 hK_w_98 hN_w_98 (vp_in_iff.mpr (by decide +kernel)) dX12_sail_37 ?_
        refine lv_topi (fun x_100 ex_100 => ?_)
        replace hF := hF.trans (ap_n (vR_r hO_w_98 (by decide +kernel) ex_100))
        refine lv_iload_n hx hb dX12_sail_38 rfl (lv_at hl 2 rfl) ?_
        refine lv_iadd hx hb dX12_sail_39 ?_
        refine lv_topi (fun x_101 ex_101 => ?_)
        replace hF := hF.trans (ap_n ex_101)
        refine pt_i hx hb hK hP hD hS hL_w_98 hK_w_98 hN_w_98 (vp_in_iff.mpr (by decide +kernel)) dX12_sail_40 (fun r_102 H locs er_102 hP hD hS => ?_)
        replace hFr := fr_R hFr hO_w_98 (by decide +kernel) er_102
        replace hF := hF.trans (ap_n (vR_st hVT hO_w_98 (by decide +kernel) er_102))
        have hG := GM.wz hG hT_w_98 (by decide +kernel) er_102 (show zn ((8 : Int32)).toNatClampNeg = 8 from by decide +kernel) rfl (rg_w (rg_full _) (by decide +kernel)) (by decide +kernel)
        refine lv_iconst (v := 1) hx hb dX12_sail_41 (by decide +kernel) ?_
        subst hQ
        exact W.zret (v := 1) hx hb hr (by decide +kernel) (fun t1 ht hW => ⟨⟨1, (σ, I, J, r_102, rj, rq), rfl, ⟨r_102, rfl, hG, (hF0.symm.trans hF), hFr, (Or.inl ⟨rfl, (rg_w h_67 (by decide +kernel)), (rg_w h_95 (by decide +kernel))⟩)⟩, by rw [ht]; exact hP, va_K.moved hW.alike hK, hD⟩, hS.F ht⟩) hS.2.2 dX12_sail_42
      · replace hF := hF.trans (if_pos c_78)
        have f_103 := (hr_74.resolve_left (fun q => absurd (q.1.symm.trans c_78) (by decide +kernel))).2
        have tc_104 : (x_70).toInt = 0 := congrArg Int32.toInt c_78
        have h_105 : rg x_70 0 0 := rg_and h_77 (rg_of_eq c_78 (rg_k (0 : Int32) 0 rfl)) (by decide +kernel)
        have uh_105 := h_105.1
        have vh_105 := h_105.2
        exact K_46 _ _ _ hF hFr hG hP hD hS (lv_sub hl [] rfl)
  exact go _ _ _ hP hD hS hl

set_option maxRecDepth 100000 in
def g_X12_isTime_K34 (I : Nat → Int32) (J : Nat → Int64) (ri : Nat → Nat → Int32) (rj : Nat → Nat → Int64) (rq : Nat → Nat → Option Nat) : Int32 × vM := ((0 : Int32), I, J, ri, rj, rq)
set_option maxRecDepth 100000 in
theorem g_X12_isTime_K34_e {I : Nat → Int32} {J : Nat → Int64} {ri : Nat → Nat → Int32} {rj : Nat → Nat → Int64} {rq : Nat → Nat → Option Nat} : g_X12_isTime_K34 I J ri rj rq  = ((0 : Int32), I, J, ri, rj, rq) := rfl
set_option maxRecDepth 100000 in
def g_X12_isTime (a0 : Int32) (a1 : Int32) (a2 : Int32) (I : Nat → Int32) (J : Nat → Int64) (ri : Nat → Nat → Int32) (rj : Nat → Nat → Int64) (rq : Nat → Nat → Option Nat) : Int32 × vM := (ap1 (g_X12_isIn a0 (1 : Int32) a1) fun (x_1 : Int32) => (if x_1 = (0 : Int32) then (g_X12_isTime_K34 I J ri rj rq ) else (ap1 (g_X12_isRise a2) fun (x_69 : Int32) => (if x_69 = (0 : Int32) then (g_X12_isTime_K34 I J ri rj rq ) else (ap1 (ri 384 0) fun (y_91 : Int32) => (ap1 ((y_91) + a0) fun (x_92 : Int32) => (if (600 : Int32) < x_92 then (g_X12_isTime_K34 I J ri rj rq ) else ((1 : Int32), I, J, ri, rj, rq))))))))
set_option maxRecDepth 100000 in
theorem g_X12_isTime_e {a0 : Int32} {a1 : Int32} {a2 : Int32} {I : Nat → Int32} {J : Nat → Int64} {ri : Nat → Nat → Int32} {rj : Nat → Nat → Int64} {rq : Nat → Nat → Option Nat} : g_X12_isTime a0 a1 a2 I J ri rj rq = (ap1 (g_X12_isIn a0 (1 : Int32) a1) fun (x_1 : Int32) => (if x_1 = (0 : Int32) then (g_X12_isTime_K34 I J ri rj rq ) else (ap1 (g_X12_isRise a2) fun (x_69 : Int32) => (if x_69 = (0 : Int32) then (g_X12_isTime_K34 I J ri rj rq ) else (ap1 (ri 384 0) fun (y_91 : Int32) => (ap1 ((y_91) + a0) fun (x_92 : Int32) => (if (600 : Int32) < x_92 then (g_X12_isTime_K34 I J ri rj rq ) else ((1 : Int32), I, J, ri, rj, rq)))))))) := rfl
set_option maxHeartbeats 4000000 in
set_option maxRecDepth 100000 in
theorem s_X12_isTime (l : Launch) (D : va_G) (t : pq_T) (σ : pq_S) (I : Nat → Nat → Int32) (J : Nat → Nat → Int64) (ri : Nat → Nat → Int32) (rj : Nat → Nat → Int64) (rq : Nat → Nat → Option Nat) (sz : Nat) (tg : Nat → Nat) (hSH : SH σ tg) (hG0 : GT tg I ri) (this : Nat) (a0 : Int32) (a1 : Int32) (a2 : Int32) (hL_this : this ∈ σ.1) (hK_this : σ.2.1 this = 12) (h_a1 : rg a1 12 60) (this_a : Nat) (hR_this_a : σ.2.2.1 384 this = some this_a) (hL_this_a : this_a ∈ σ.1) (hK_this_a : σ.2.1 this_a = 13) (hN_this_a : σ.2.2.2 this_a = 12720) (hT_this_a : tg this_a = 384) : MetI l yX12_isTime (wa yX12_isTime cX12_isTime 4 (some .boolean)) ({ frames := 2, cells := 0, slots := 0, locals := 42 }) [.ref this, .int a0, .int a1, .int a2] D t σ (I, J, ri, rj, rq) sz 0 0 (fun (r : Int32) (u : pq_S × pq_M) => u = (σ, I, J, ri, rj, rq) ∧ g_X12_isTime a0 a1 a2 (vI 12 σ this I) (vJ 12 σ this J) (vR 12 σ this ri) (vL 12 σ this rj) (vQ 12 σ this rq) = (r, (vI 12 σ this I), (vJ 12 σ this J), (vR 12 σ this ri), (vL 12 σ this rj), (vQ 12 σ this rq)) ∧ ((r = 1 ∧ rg a0 1 60 ∧ rg a2 0 2 ∧ a0 ≤ a1 ∧ ((ri this_a 0).toInt + a0.toInt ≤ 600)) ∨ (r = 0 ∧ True))) := by
  refine Met.ofW (cc := cX12_isTime) (maxL := 4) (ret := (some .boolean)) (by decide +kernel) rfl ?_
  intro p e s m args below meth c s₁ B hml hv
  obtain ⟨rfl, hsz, hP, hK, hD0, hN⟩ := hv
  have hx := B.exec
  have hb := B.bytes
  have hr := B.returns
  have hts := atoms_spec (ws := (wa yX12_isTime cX12_isTime 4 (some .boolean))) B.pre
  have hown : s.vm.findClass RX12 = some m.cls := findClass_of_methodNamed B.named
  have hlocks := B.notSynchronized
  subst hsz
  have hD : va_D (pq_B t σ (I, J, ri, rj, rq) s.heap.size) (pq_P t σ (I, J, ri, rj, rq)) := hD0.self
  generalize hAe : pq_B t σ (I, J, ri, rj, rq) s.heap.size = A at hD ⊢
  have hA : ∀ q : Nat, s.heap.size ≤ q → A q := fun q h => by rw [← hAe]; exact Or.inr h
  have hS : va_S A s.heap s.heap [] := va_S.rf
  have hG : GM [] tg σ I ri I ri rq := ⟨hG0, fun _ _ _ => rfl, fun _ _ _ _ _ => rfl, fun _ _ _ _ _ _ => rfl⟩
  have hl := lv_entry ([.ref this, .int a0, .int a1, .int a2]) (n := 4) (Nat.le_of_ble_eq_true rfl)
  rw [lg_entry_eq]
  generalize (lg_sl ([.ref this, .int a0, .int a1, .int a2]) ++ List.replicate (4 - (lg_sl ([.ref this, .int a0, .int a1, .int a2])).length) Slot.unset).toArray = ls at hl ⊢
  have hl : lv_has ls 4 [(0, .ref this), (1, .int a0), (2, .int a1), (3, .int a2)] := hl
  refine q_gen (fun Q hQ => ?_)
  have go : ∀ (H : Heap) (locs : List Loc) (ls : Array Slot), va_P D vwCl (pq_P t σ (I, J, ri, rj, rq)) H → va_D A (pq_P t σ (I, J, ri, rj, rq)) → va_S A s.heap H locs → lv_has ls 4 [(0, .ref this), (1, .int a0), (2, .int a1), (3, .int a2)] → W p l e ({ frames := 2, cells := 0, slots := 0, locals := 42 } : Room) s m (List.toArray ([.ref this, .int a0, .int a1, .int a2] : List Value)) below meth c H locs 0 0 Q (F0 m 0 ls []) := by
    intro H locs ls hP hD hS hl
    have hO_this : this = vo σ 12 this := rfl
    have hVT : VT 12 σ tg this := vt_12 hSH hL_this hK_this
    have hFr : FR 12 tg σ this (I, J, ri, rj, rq) (I, J, ri, rj, rq) := fr_rf
    have hO_this_a : this_a = vrow σ 384 this := vo_k (c := 12) hO_this hR_this_a
    obtain ⟨F, hF0⟩ : ∃ F, F = g_X12_isTime a0 a1 a2 (vI 12 σ this I) (vJ 12 σ this J) (vR 12 σ this ri) (vL 12 σ this rj) (vQ 12 σ this rq) := ⟨_, rfl⟩
    have hF := hF0.trans g_X12_isTime_e
    refine lv_iload_n hx hb dX12_isTime_0 rfl (lv_at hl 1 rfl) ?_
    refine lv_iconst (v := 1) hx hb dX12_isTime_1 (by decide +kernel) ?_
    refine lv_iload_n hx hb dX12_isTime_2 rfl (lv_at hl 2 rfl) ?_
    refine pk_i (va_runS (As := [.int a0, .int 1, .int a1]) (rest := []) ⟨hx, hb, hml, hown, hts⟩ (s_X12_isIn l D t σ I J ri rj rq H.size tg hSH hG.1 a0 (1 : Int32) a1) (va_cwS 3 hts (tw_S tw_235 tw_236 tw_5 tw_237) rfl rfl rfl cd_yX12_isIn_3 ⟨Nat.le_of_ble_eq_true rfl, Nat.le_of_ble_eq_true rfl⟩) ⟨pq_blind, pq_pre hK hN hP hD⟩ rfl rfl hl.1 rfl (lv_room (Nat.le_of_ble_eq_true rfl)) dX12_isTime_3 ⟨Nat.le_of_ble_eq_true rfl, Nat.le_of_ble_eq_true rfl⟩) hD hS hA (fun x_1 σ1 μ1 H locs hw_2 hP hD hS => ?_)
    obtain ⟨hu_3, hfn_6, hr_5⟩ := hw_2
    obtain ⟨hu_3a, hu_3b⟩ := Prod.mk.inj hu_3
    rw [hu_3a, hu_3b] at hP hD
    replace hF := hF.trans (ap_n hfn_6.symm)
    have h_8 : rg x_1 0 1 := by rcases hr_5 with ⟨q, -⟩ | ⟨q, -⟩ <;> rw [q] <;> exact ⟨by decide +kernel, by decide +kernel⟩
    have uh_8 := h_8.1
    have vh_8 := h_8.2
    have K_45 : ∀  (H : Heap) (locs : List Loc) (ls : Array Slot), F = g_X12_isTime_K34 (vI 12 σ this I) (vJ 12 σ this J) (vR 12 σ this ri) (vL 12 σ this rj) (vQ 12 σ this rq)  → FR 12 tg σ this (I, J, ri, rj, rq) (I, J, ri, rj, rq) → GM [] tg σ I ri I ri rq → va_P D vwCl (pq_P t σ (I, J, ri, rj, rq)) H → va_D A (pq_P t σ (I, J, ri, rj, rq)) → va_S A s.heap H locs → lv_has ls 4 [] → W p l e ({ frames := 2, cells := 0, slots := 0, locals := 42 } : Room) s m (List.toArray ([.ref this, .int a0, .int a1, .int a2] : List Value)) below meth c H locs 0 0 Q (F0 m 34 ls []) := by
      intro H locs ls hF hFr hG hP hD hS hl
      replace hF := hF.trans g_X12_isTime_K34_e
      refine lv_iconst (v := 0) hx hb dX12_isTime_34 (by decide +kernel) ?_
      subst hQ
      exact W.zret (v := 0) hx hb hr (by decide +kernel) (fun t1 ht hW => ⟨⟨0, (σ, I, J, ri, rj, rq), rfl, ⟨rfl, (hF0.symm.trans hF), (Or.inr ⟨rfl, trivial⟩)⟩, by rw [ht]; exact hP, va_K.moved hW.alike hK, hD⟩, hS.F ht⟩) hS.2.2 dX12_isTime_35
    refine lv_if_eq (tgt := 34) hx hb dX12_isTime_6 (by decide +kernel) (fun c_46 => ?_) (fun c_46 => ?_)
    · replace hF := hF.trans (if_pos c_46)
      have f_58 := (hr_5.resolve_left (fun q => absurd (q.1.symm.trans c_46) (by decide +kernel))).2
      have tc_59 : (x_1).toInt = 0 := congrArg Int32.toInt c_46
      have h_60 : rg x_1 0 0 := rg_and h_8 (rg_of_eq c_46 (rg_k (0 : Int32) 0 rfl)) (by decide +kernel)
      have uh_60 := h_60.1
      have vh_60 := h_60.2
      exact K_45 _ _ _ hF hFr hG hP hD hS (lv_sub hl [] rfl)
    · replace hF := hF.trans (if_neg c_46)
      obtain ⟨f_61, f_62⟩ := (hr_5.resolve_right (fun q => c_46 q.1)).2
      have tc_63 : 1 ≤ (a0).toInt := Int32.le_iff_toInt_le.mp f_61
      have h_64 : rg a0 1 2147483647 := rg_le2 f_61 (rg_k (1 : Int32) 1 rfl) (rg_full _) (by decide +kernel)
      have uh_64 := h_64.1
      have vh_64 := h_64.2
      have tc_65 : (a0).toInt ≤ (a1).toInt := Int32.le_iff_toInt_le.mp f_62
      have h_66 : rg a0 1 60 := rg_le1 f_62 h_64 h_a1 (by decide +kernel)
      have uh_66 := h_66.1
      have vh_66 := h_66.2
      have tc_67 : (x_1).toInt ≠ 0 := fun q => c_46 (Int32.toInt_inj.mp q)
      have h_68 : rg x_1 1 1 := rg_ne c_46 h_8 0 rfl (by decide +kernel)
      have uh_68 := h_68.1
      have vh_68 := h_68.2
      refine lv_iload_n hx hb dX12_isTime_9 rfl (lv_at hl 3 rfl) ?_
      refine pk_i (va_runS (As := [.int a2]) (rest := []) ⟨hx, hb, hml, hown, hts⟩ (s_X12_isRise l D t σ I J ri rj rq H.size tg hSH hG.1 a2) (va_cwS 1 hts (tw_S tw_259 tw_260 tw_5 tw_261) rfl rfl rfl cd_yX12_isRise_1 ⟨Nat.le_of_ble_eq_true rfl, Nat.le_of_ble_eq_true rfl⟩) ⟨pq_blind, pq_pre hK hN hP hD⟩ rfl rfl hl.1 rfl (lv_room (Nat.le_of_ble_eq_true rfl)) dX12_isTime_10 ⟨Nat.le_of_ble_eq_true rfl, Nat.le_of_ble_eq_true rfl⟩) hD hS hA (fun x_69 σ1 μ1 H locs hw_70 hP hD hS => ?_)
      obtain ⟨hu_71, hfn_74, hr_73⟩ := hw_70
      obtain ⟨hu_71a, hu_71b⟩ := Prod.mk.inj hu_71
      rw [hu_71a, hu_71b] at hP hD
      replace hF := hF.trans (ap_n hfn_74.symm)
      have h_76 : rg x_69 0 1 := by rcases hr_73 with ⟨q, -⟩ | ⟨q, -⟩ <;> rw [q] <;> exact ⟨by decide +kernel, by decide +kernel⟩
      have uh_76 := h_76.1
      have vh_76 := h_76.2
      refine lv_if_eq (tgt := 34) hx hb dX12_isTime_13 (by decide +kernel) (fun c_77 => ?_) (fun c_77 => ?_)
      · replace hF := hF.trans (if_pos c_77)
        have f_84 := (hr_73.resolve_left (fun q => absurd (q.1.symm.trans c_77) (by decide +kernel))).2
        have tc_85 : (x_69).toInt = 0 := congrArg Int32.toInt c_77
        have h_86 : rg x_69 0 0 := rg_and h_76 (rg_of_eq c_77 (rg_k (0 : Int32) 0 rfl)) (by decide +kernel)
        have uh_86 := h_86.1
        have vh_86 := h_86.2
        exact K_45 _ _ _ hF hFr hG hP hD hS (lv_sub hl [] rfl)
      · replace hF := hF.trans (if_neg c_77)
        have f_87 := (hr_73.resolve_right (fun q => c_77 q.1)).2
        have uf_87 := f_87.1
        have vf_87 := f_87.2
        have tc_88 : (x_69).toInt ≠ 0 := fun q => c_77 (Int32.toInt_inj.mp q)
        have h_89 : rg x_69 1 1 := rg_ne c_77 h_76 0 rfl (by decide +kernel)
        have uh_89 := h_89.1
        have vh_89 := h_89.2
        refine lv_aload_n hx hb dX12_isTime_16 rfl (lv_at hl 0 rfl) ?_
        refine pg_f (v := .ref this_a) (C := RX12) (T := TX12) (N := 31) hx hb hts (tw_i inlX12) hown hK hP hL_this hK_this (by decide +kernel) rfl 0 (by decide +kernel) (hts _ (tw_c tw_176)) (pq_hv rfl hR_this_a) dX12_isTime_17 ?_
        refine lv_iconst (v := 0) hx hb dX12_isTime_20 (by decide +kernel) ?_
        refine pl_i hx hb hK hP hL_this_a hK_this_a hN_this_a (vp_in_iff.mpr (by decide +kernel)) dX12_isTime_21 ?_
        refine lv_tov (ri this_a 0) rfl ?_
        have h_90 : rg (ri this_a 0) 0 600 := GM.z0 hG0 (by rw [hT_this_a]; decide) (i := 0) (k := 0) (by decide +kernel) rfl
        have uh_90 := h_90.1
        have vh_90 := h_90.2
        replace hF := hF.trans (ap_n (vR_r hO_this_a (by decide +kernel) rfl))
        refine lv_iload_n hx hb dX12_isTime_22 rfl (lv_at hl 1 rfl) ?_
        refine lv_iadd hx hb dX12_isTime_23 ?_
        refine lv_topi (fun x_92 ex_92 => ?_)
        replace hF := hF.trans (ap_n ex_92)
        have h_93 : rg x_92 1 660 := rg_of_eq ex_92 (rg_add h_90 h_66 (by decide +kernel))
        have uh_93 := h_93.1
        have vh_93 := h_93.2
        have tx_92 : (x_92).toInt = (ri this_a 0).toInt + (a0).toInt := by rw [ex_92]; exact i_add_rg (a2 := (ri this_a 0).toInt) (b2 := (a0).toInt) rfl rfl h_90 h_66 (by decide +kernel)
        refine lv_sipush (v := 600) hx hb dX12_isTime_24 (by decide +kernel) ?_
        refine lv_icmp_gt (tgt := 34) hx hb dX12_isTime_27 (by decide +kernel) (fun c_94 => ?_) (fun c_94 => ?_)
        · replace hF := hF.trans (if_pos c_94)
          have tc_99 : 600 < (x_92).toInt := Int32.lt_iff_toInt_lt.mp c_94
          have h_100 : rg x_92 601 660 := rg_lt2 c_94 (rg_k (600 : Int32) 600 rfl) h_93 (by decide +kernel)
          have uh_100 := h_100.1
          have vh_100 := h_100.2
          exact K_45 _ _ _ hF hFr hG hP hD hS (lv_sub hl [] rfl)
        · replace hF := hF.trans (if_neg c_94)
          have tc_101 : (x_92).toInt ≤ 600 := Int32.le_iff_toInt_le.mp (nlt c_94)
          have h_102 : rg x_92 1 600 := rg_le1 (nlt c_94) h_93 (rg_k (600 : Int32) 600 rfl) (by decide +kernel)
          have uh_102 := h_102.1
          have vh_102 := h_102.2
          refine lv_iconst (v := 1) hx hb dX12_isTime_30 (by decide +kernel) ?_
          refine lv_goto (tgt := 35) hx hb dX12_isTime_31 (by decide +kernel) ?_
          subst hQ
          exact W.zret (v := 1) hx hb hr (by decide +kernel) (fun t1 ht hW => ⟨⟨1, (σ, I, J, ri, rj, rq), rfl, ⟨rfl, (hF0.symm.trans hF), (Or.inl ⟨rfl, (rg_w h_66 (by decide +kernel)), (rg_w f_87 (by decide +kernel)), f_62, (by omega)⟩)⟩, by rw [ht]; exact hP, va_K.moved hW.alike hK, hD⟩, hS.F ht⟩) hS.2.2 dX12_isTime_35
  exact go _ _ _ hP hD hS hl

set_option maxRecDepth 100000 in
def g_X12_months_L15 (a0 : Int32) (a1 : Int32) (J : Nat → Int64) (rq : Nat → Nat → Option Nat) : Nat → (Int32) → (Nat → Int32) → (Nat → Nat → Int32) → (Nat → Nat → Int64) → Int32 × vM
  | 0, x_406, I_407, ri_408, rj_409 => ((0 : Int32), I_407, J, ri_408, rj_409, rq)
  | n_435 + 1, x_406, I_407, ri_408, rj_409 => (if a0 ≤ x_406 then (ap1 (ri_408 384 ((0 : Int32)).toNatClampNeg) fun (x_449 : Int32) => (x_449, I_407, J, ri_408, rj_409, rq)) else (bnV (g_X12_month a1 I_407 J ri_408 rj_409 rq) fun (I_455 : Nat → Int32) (_ : Nat → Int64) (ri_456 : Nat → Nat → Int32) (rj_457 : Nat → Nat → Int64) (_ : Nat → Nat → Option Nat) => (ap1 (x_406 + Int32.ofInt 1) fun (x_466 : Int32) => ((g_X12_months_L15 a0 a1 J rq n_435) x_466 I_455 ri_456 rj_457))))
set_option maxRecDepth 100000 in
theorem g_X12_months_L15_e {a0 : Int32} {a1 : Int32} {J : Nat → Int64} {rq : Nat → Nat → Option Nat} {n_435 : Nat} {x_406 : Int32} {I_407 : Nat → Int32} {ri_408 : Nat → Nat → Int32} {rj_409 : Nat → Nat → Int64} : g_X12_months_L15 a0 a1 J rq (n_435 + 1) x_406 I_407 ri_408 rj_409 = (if a0 ≤ x_406 then (ap1 (ri_408 384 ((0 : Int32)).toNatClampNeg) fun (x_449 : Int32) => (x_449, I_407, J, ri_408, rj_409, rq)) else (bnV (g_X12_month a1 I_407 J ri_408 rj_409 rq) fun (I_455 : Nat → Int32) (_ : Nat → Int64) (ri_456 : Nat → Nat → Int32) (rj_457 : Nat → Nat → Int64) (_ : Nat → Nat → Option Nat) => (ap1 (x_406 + Int32.ofInt 1) fun (x_466 : Int32) => ((g_X12_months_L15 a0 a1 J rq n_435) x_466 I_455 ri_456 rj_457)))) := rfl
set_option maxRecDepth 100000 in
def g_X12_months (a0 : Int32) (a1 : Int32) (I : Nat → Int32) (J : Nat → Int64) (ri : Nat → Nat → Int32) (rj : Nat → Nat → Int64) (rq : Nat → Nat → Option Nat) : Int32 × vM := (bnI (g_X12_isTime a0 (60 : Int32) a1 I J ri rj rq) fun (x_1 : Int32) (_ : Nat → Int32) (_ : Nat → Int64) (_ : Nat → Nat → Int32) (_ : Nat → Nat → Int64) (_ : Nat → Nat → Option Nat) => (if x_1 = (0 : Int32) then ((-1 : Int32), I, J, ri, rj, rq) else (g_X12_months_L15 a0 a1 J rq ((60 - ((0 : Int32)).toInt).toNat + 1) (0 : Int32) I ri rj)))
set_option maxRecDepth 100000 in
theorem g_X12_months_e {a0 : Int32} {a1 : Int32} {I : Nat → Int32} {J : Nat → Int64} {ri : Nat → Nat → Int32} {rj : Nat → Nat → Int64} {rq : Nat → Nat → Option Nat} : g_X12_months a0 a1 I J ri rj rq = (bnI (g_X12_isTime a0 (60 : Int32) a1 I J ri rj rq) fun (x_1 : Int32) (_ : Nat → Int32) (_ : Nat → Int64) (_ : Nat → Nat → Int32) (_ : Nat → Nat → Int64) (_ : Nat → Nat → Option Nat) => (if x_1 = (0 : Int32) then ((-1 : Int32), I, J, ri, rj, rq) else (g_X12_months_L15 a0 a1 J rq ((60 - ((0 : Int32)).toInt).toNat + 1) (0 : Int32) I ri rj))) := rfl
set_option maxHeartbeats 4000000 in
set_option maxRecDepth 100000 in
theorem s_X12_months (l : Launch) (D : va_G) (t : pq_T) (σ : pq_S) (I : Nat → Nat → Int32) (J : Nat → Nat → Int64) (ri : Nat → Nat → Int32) (rj : Nat → Nat → Int64) (rq : Nat → Nat → Option Nat) (sz : Nat) (tg : Nat → Nat) (hSH : SH σ tg) (hG0 : GT tg I ri) (this : Nat) (a0 : Int32) (a1 : Int32) (hL_this : this ∈ σ.1) (hK_this : σ.2.1 this = 12) (this_a : Nat) (hR_this_a : σ.2.2.1 384 this = some this_a) (hL_this_a : this_a ∈ σ.1) (hK_this_a : σ.2.1 this_a = 13) (hN_this_a : σ.2.2.2 this_a = 12720) (hT_this_a : tg this_a = 384) (this_kept : Nat) (hR_this_kept : σ.2.2.1 386 this = some this_kept) (hL_this_kept : this_kept ∈ σ.1) (hK_this_kept : σ.2.1 this_kept = 13) (hN_this_kept : σ.2.2.2 this_kept = 12720) (hT_this_kept : tg this_kept = 386) : MetI l yX12_months (wa yX12_months cX12_months 4 (some .int)) ({ frames := 7, cells := 0, slots := 0, locals := 172 }) [.ref this, .int a0, .int a1] D t σ (I, J, ri, rj, rq) sz 0 0 (fun (r : Int32) (u : pq_S × pq_M) => ∃ I' : Nat → Nat → Int32, ∃ ri' : Nat → Nat → Int32, ∃ rj' : Nat → Nat → Int64, u = (σ, I', J, ri', rj', rq) ∧ GM [1305, 1304, 1403, 1000] tg σ I ri I' ri' rq ∧ g_X12_months a0 a1 (vI 12 σ this I) (vJ 12 σ this J) (vR 12 σ this ri) (vL 12 σ this rj) (vQ 12 σ this rq) = (r, (vI 12 σ this I'), (vJ 12 σ this J), (vR 12 σ this ri'), (vL 12 σ this rj'), (vQ 12 σ this rq)) ∧ FR 12 tg σ this (I, J, ri, rj, rq) (I', J, ri', rj', rq) ∧ rg r (-1) 600) := by
  refine Met.ofW (cc := cX12_months) (maxL := 4) (ret := (some .int)) (by decide +kernel) rfl ?_
  intro p e s m args below meth c s₁ B hml hv
  obtain ⟨rfl, hsz, hP, hK, hD0, hN⟩ := hv
  have hx := B.exec
  have hb := B.bytes
  have hr := B.returns
  have hts := atoms_spec (ws := (wa yX12_months cX12_months 4 (some .int))) B.pre
  have hown : s.vm.findClass RX12 = some m.cls := findClass_of_methodNamed B.named
  have hlocks := B.notSynchronized
  subst hsz
  have hD : va_D (pq_B t σ (I, J, ri, rj, rq) s.heap.size) (pq_P t σ (I, J, ri, rj, rq)) := hD0.self
  generalize hAe : pq_B t σ (I, J, ri, rj, rq) s.heap.size = A at hD ⊢
  have hA : ∀ q : Nat, s.heap.size ≤ q → A q := fun q h => by rw [← hAe]; exact Or.inr h
  have hS : va_S A s.heap s.heap [] := va_S.rf
  have hG : GM [1305, 1304, 1403, 1000] tg σ I ri I ri rq := ⟨hG0, fun _ _ _ => rfl, fun _ _ _ _ _ => rfl, fun _ _ _ _ _ _ => rfl⟩
  have hl := lv_entry ([.ref this, .int a0, .int a1]) (n := 4) (Nat.le_of_ble_eq_true rfl)
  rw [lg_entry_eq]
  generalize (lg_sl ([.ref this, .int a0, .int a1]) ++ List.replicate (4 - (lg_sl ([.ref this, .int a0, .int a1])).length) Slot.unset).toArray = ls at hl ⊢
  have hl : lv_has ls 4 [(0, .ref this), (1, .int a0), (2, .int a1)] := hl
  refine q_gen (fun Q hQ => ?_)
  have go : ∀ (H : Heap) (locs : List Loc) (ls : Array Slot), va_P D vwCl (pq_P t σ (I, J, ri, rj, rq)) H → va_D A (pq_P t σ (I, J, ri, rj, rq)) → va_S A s.heap H locs → lv_has ls 4 [(0, .ref this), (1, .int a0), (2, .int a1)] → W p l e ({ frames := 7, cells := 0, slots := 0, locals := 172 } : Room) s m (List.toArray ([.ref this, .int a0, .int a1] : List Value)) below meth c H locs 0 0 Q (F0 m 0 ls []) := by
    intro H locs ls hP hD hS hl
    have hO_this : this = vo σ 12 this := rfl
    have hVT : VT 12 σ tg this := vt_12 hSH hL_this hK_this
    have hFr : FR 12 tg σ this (I, J, ri, rj, rq) (I, J, ri, rj, rq) := fr_rf
    have hO_this_a : this_a = vrow σ 384 this := vo_k (c := 12) hO_this hR_this_a
    have hO_this_kept : this_kept = vrow σ 386 this := vo_k (c := 12) hO_this hR_this_kept
    obtain ⟨F, hF0⟩ : ∃ F, F = g_X12_months a0 a1 (vI 12 σ this I) (vJ 12 σ this J) (vR 12 σ this ri) (vL 12 σ this rj) (vQ 12 σ this rq) := ⟨_, rfl⟩
    have hF := hF0.trans g_X12_months_e
    refine lv_aload_n hx hb dX12_months_0 rfl (lv_at hl 0 rfl) ?_
    refine lv_iload_n hx hb dX12_months_1 rfl (lv_at hl 1 rfl) ?_
    refine lv_bipush (v := 60) hx hb dX12_months_2 (by decide +kernel) ?_
    refine lv_iload_n hx hb dX12_months_4 rfl (lv_at hl 2 rfl) ?_
    refine pk_i (va_runV (As := [.int a0, .int 60, .int a1]) (rest := []) ⟨hx, hb, hml, hown, hts⟩ (s_X12_isTime l D t σ I J ri rj rq H.size tg hSH hG.1 this a0 (60 : Int32) a1 hL_this hK_this (rg_w (rg_k (60 : Int32) 60 rfl) (by decide +kernel)) this_a hR_this_a hL_this_a hK_this_a hN_this_a hT_this_a) (cwV 3 hts (tw_V tw_1189 tw_1190 tw_1191 tw_5 tw_1192) rfl rfl rfl cv_yX12_isTime_3 ⟨Nat.le_of_ble_eq_true rfl, Nat.le_of_ble_eq_true rfl⟩) ⟨pq_blind, pq_recv hK hP hL_this hK_this (by decide +kernel) rfl, pq_pre hK hN hP hD⟩ rfl rfl hl.1 rfl (lv_room (Nat.le_of_ble_eq_true rfl)) dX12_months_5 ⟨Nat.le_of_ble_eq_true rfl, Nat.le_of_ble_eq_true rfl⟩) hD hS hA (fun x_1 σ1 μ1 H locs hw_2 hP hD hS => ?_)
    obtain ⟨hu_3, hfn_6, hr_5⟩ := hw_2
    obtain ⟨hu_3a, hu_3b⟩ := Prod.mk.inj hu_3
    rw [hu_3a, hu_3b] at hP hD
    replace hF := hF.trans (bn_n hfn_6)
    have h_8 : rg x_1 0 1 := by rcases hr_5 with ⟨q, -⟩ | ⟨q, -⟩ <;> rw [q] <;> exact ⟨by decide +kernel, by decide +kernel⟩
    have uh_8 := h_8.1
    have vh_8 := h_8.2
    refine lv_if_ne (tgt := 13) hx hb dX12_months_8 (by decide +kernel) (fun c_9 => ?_) (fun c_9 => ?_)
    · replace hF := hF.trans (if_neg c_9)
      obtain ⟨f_20, f_21, f_22, f_23⟩ := (hr_5.resolve_right (fun q => c_9 q.1)).2
      have uf_20 := f_20.1
      have vf_20 := f_20.2
      have uf_21 := f_21.1
      have vf_21 := f_21.2
      have tc_24 : (a0).toInt ≤ 60 := Int32.le_iff_toInt_le.mp f_22
      have tc_25 : (x_1).toInt ≠ 0 := fun q => c_9 (Int32.toInt_inj.mp q)
      have h_26 : rg x_1 1 1 := rg_ne c_9 h_8 0 rfl (by decide +kernel)
      have uh_26 := h_26.1
      have vh_26 := h_26.2
      refine lv_iconst (v := 0) hx hb dX12_months_13 (by decide +kernel) ?_
      refine lv_istore_n (lv' := [(3, .int 0), (0, .ref this), (1, .int a0), (2, .int a1)]) hx hb dX12_months_14 rfl hl (by decide +kernel) rfl (fun ls hl => ?_)
      have L_436 : ∀ (n_435 : Nat) (x_406 : Int32) (I_407 : Nat → Nat → Int32) (ri_408 : Nat → Nat → Int32) (rj_409 : Nat → Nat → Int64) (H : Heap) (locs : List Loc) (ls : Array Slot), rg x_406 0 60 → ((ri_408 this_a 0).toInt = (ri this_a 0).toInt + (x_406).toInt) → (60 - (x_406).toInt).toNat < n_435 → F = g_X12_months_L15 a0 a1 (vJ 12 σ this J) (vQ 12 σ this rq) n_435 x_406 (vI 12 σ this I_407) (vR 12 σ this ri_408) (vL 12 σ this rj_409) → FR 12 tg σ this (I, J, ri, rj, rq) (I_407, J, ri_408, rj_409, rq) → GM [1305, 1304, 1403, 1000] tg σ I ri I_407 ri_408 rq → va_P D vwCl (pq_P t σ (I_407, J, ri_408, rj_409, rq)) H → va_D A (pq_P t σ (I_407, J, ri_408, rj_409, rq)) → va_S A s.heap H locs → lv_has ls 4 [(0, .ref this), (1, .int a0), (2, .int a1), (3, .int x_406)] → W p l e ({ frames := 7, cells := 0, slots := 0, locals := 172 } : Room) s m (List.toArray ([.ref this, .int a0, .int a1] : List Value)) below meth c H locs 0 0 Q (F0 m 15 ls []) := by
        intro n_435
        induction n_435 with
        | zero => intro x_406 I_407 ri_408 rj_409 H locs ls h_440 hrel_441 hm_434 hF hFr hG hP hD hS hl; exact absurd hm_434 (Nat.not_lt_zero _)
        | succ n_435 ih_437 =>
          intro x_406 I_407 ri_408 rj_409 H locs ls h_440 hrel_441 hm_434 hF hFr hG hP hD hS hl
          have uh_440 := h_440.1
          have vh_440 := h_440.2
          replace hF := hF.trans g_X12_months_L15_e
          refine lv_iload_n hx hb dX12_months_15 rfl (lv_at hl 3 rfl) ?_
          refine lv_iload_n hx hb dX12_months_16 rfl (lv_at hl 1 rfl) ?_
          refine lv_icmp_ge (tgt := 31) hx hb dX12_months_17 (by decide +kernel) (fun c_442 => ?_) (fun c_442 => ?_)
          · replace hF := hF.trans (if_pos c_442)
            have tc_447 : (a0).toInt ≤ (x_406).toInt := Int32.le_iff_toInt_le.mp c_442
            have h_448 : rg x_406 1 60 := rg_le2 c_442 f_20 h_440 (by decide +kernel)
            have uh_448 := h_448.1
            have vh_448 := h_448.2
            refine lv_aload_n hx hb dX12_months_31 rfl (lv_at hl 0 rfl) ?_
            refine pg_f (v := .ref this_a) (C := RX12) (T := TX12) (N := 31) hx hb hts (tw_i inlX12) hown hK hP hL_this hK_this (by decide +kernel) rfl 0 (by decide +kernel) (hts _ (tw_c tw_176)) (pq_hv rfl hR_this_a) dX12_months_32 ?_
            refine lv_iconst (v := 0) hx hb dX12_months_35 (by decide +kernel) ?_
            refine pl_i hx hb hK hP hL_this_a hK_this_a hN_this_a (vp_in_iff.mpr (by decide +kernel)) dX12_months_36 ?_
            refine lv_topi (fun x_449 ex_449 => ?_)
            replace hF := hF.trans (ap_n (vR_r hO_this_a (by decide +kernel) ex_449))
            have h_450 : rg x_449 0 600 := rg_of_eq ex_449 (GM.z hG (by rw [hT_this_a]; decide) (show zn ((0 : Int32)).toNatClampNeg = 0 from by decide +kernel) rfl)
            have uh_450 := h_450.1
            have vh_450 := h_450.2
            subst hQ
            exact W.iret (v := x_449) hx hb hr (fun t1 ht hW => ⟨⟨x_449, (σ, I_407, J, ri_408, rj_409, rq), rfl, ⟨I_407, ri_408, rj_409, rfl, hG, (hF0.symm.trans hF), hFr, (rg_w h_450 (by decide +kernel))⟩, by rw [ht]; exact hP, va_K.moved hW.alike hK, hD⟩, hS.F ht⟩) hS.2.2 dX12_months_37
          · replace hF := hF.trans (if_neg c_442)
            have tc_451 : (x_406).toInt < (a0).toInt := Int32.lt_iff_toInt_lt.mp (nle c_442)
            have h_452 : rg x_406 0 59 := rg_lt1 (nle c_442) h_440 f_20 (by decide +kernel)
            have uh_452 := h_452.1
            have vh_452 := h_452.2
            refine lv_aload_n hx hb dX12_months_20 rfl (lv_at hl 0 rfl) ?_
            refine lv_iload_n hx hb dX12_months_21 rfl (lv_at hl 2 rfl) ?_
            refine pk_v (va_runV (As := [.int a1]) (rest := []) ⟨hx, hb, hml, hown, hts⟩ (s_X12_month l D t σ I_407 J ri_408 rj_409 rq H.size tg hSH hG.1 this a1 hL_this hK_this this_a hR_this_a hL_this_a hK_this_a hN_this_a hT_this_a (by omega)) (cwV 1 hts (tw_V tw_1193 tw_1194 tw_1195 tw_5 tw_1196) rfl rfl rfl cv_yX12_month_1 ⟨Nat.le_of_ble_eq_true rfl, Nat.le_of_ble_eq_true rfl⟩) ⟨pq_blind, pq_recv hK hP hL_this hK_this (by decide +kernel) rfl, pq_pre hK hN hP hD⟩ rfl rfl hl.1 rfl (lv_room (Nat.le_of_ble_eq_true rfl)) dX12_months_22 ⟨Nat.le_of_ble_eq_true rfl, Nat.le_of_ble_eq_true rfl⟩) hD hS hA (fun σ1 μ1 H locs hw_454 hP hD hS => ?_)
            obtain ⟨I_455, ri_456, rj_457, hu_458, hg_459, hp_461, hfn_462, hfr_463⟩ := hw_454
            obtain ⟨hu_458a, hu_458b⟩ := Prod.mk.inj hu_458
            rw [hu_458a, hu_458b] at hP hD
            replace hF := hF.trans (bv_n hfn_462)
            replace hFr := fr_tr hFr hfr_463
            have tt_464 := hp_461
            have tt_465 : (ri_456 this_kept 0).toInt = (ri_408 this_kept 0).toInt := congrArg Int32.toInt (congrFun (hg_459.2.2.2 386 2001 (by decide +kernel) (by decide +kernel) this_kept hT_this_kept) 0)
            have hG := GM.tr hG hg_459 (by decide +kernel)
            obtain ⟨x_466, ex_466⟩ : ∃ y : Int32, y = x_406 + Int32.ofInt 1 := ⟨_, rfl⟩
            replace hF := hF.trans (ap_n ex_466)
            have h_467 : rg x_466 1 60 := rg_of_eq ex_466 (rg_add h_452 (rg_k (Int32.ofInt 1) 1 rfl) (by decide +kernel))
            have uh_467 := h_467.1
            have vh_467 := h_467.2
            have tx_466 : (x_466).toInt = (x_406).toInt + 1 := by rw [ex_466]; exact i_add_rg (a2 := (x_406).toInt) (b2 := 1) rfl rfl h_452 (rg_k (Int32.ofInt 1) 1 rfl) (by decide +kernel)
            refine lv_iinc (v := x_466) (lv' := [(3, .int x_466), (0, .ref this), (1, .int a0), (2, .int a1)]) hx hb dX12_months_25 hl (k := 3) rfl ex_466.symm (by decide +kernel) rfl (fun ls hl => ?_)
            refine lv_goto (tgt := 15) hx hb dX12_months_28 (by decide +kernel) ?_
            exact ih_437 x_466 I_455 ri_456 rj_457 _ _ _ (rg_w h_467 (by decide +kernel)) (by omega) (ms_up 1 hm_434 ex_466 rfl (by decide +kernel) h_452 (by decide +kernel) (by decide +kernel)) hF hFr hG hP hD hS (lv_sub hl [1, 2, 3, 0] rfl)
      exact L_436 _ (0 : Int32) I ri rj _ _ _ (rg_w (rg_k (0 : Int32) 0 rfl) (by decide +kernel)) (by have k0 : (0 : Int32).toInt = 0 := rfl; omega) (Nat.lt_succ_self _) hF hFr hG hP hD hS (lv_sub hl [1, 2, 3, 0] rfl)
    · replace hF := hF.trans (if_pos c_9)
      have f_468 := (hr_5.resolve_left (fun q => absurd (q.1.symm.trans c_9) (by decide +kernel))).2
      have tc_469 : (x_1).toInt = 0 := congrArg Int32.toInt c_9
      have h_470 : rg x_1 0 0 := rg_and h_8 (rg_of_eq c_9 (rg_k (0 : Int32) 0 rfl)) (by decide +kernel)
      have uh_470 := h_470.1
      have vh_470 := h_470.2
      refine lv_iconst (v := (-1)) hx hb dX12_months_11 (by decide +kernel) ?_
      subst hQ
      exact W.iret (v := (-1)) hx hb hr (fun t1 ht hW => ⟨⟨(-1), (σ, I, J, ri, rj, rq), rfl, ⟨I, ri, rj, rfl, hG, (hF0.symm.trans hF), hFr, (rg_w (rg_k (-1 : Int32) (-1) rfl) (by decide +kernel))⟩, by rw [ht]; exact hP, va_K.moved hW.alike hK, hD⟩, hS.F ht⟩) hS.2.2 dX12_months_12
  exact go _ _ _ hP hD hS hl

set_option maxRecDepth 100000 in
def g_X12_cellAt_c13 (a0 : Int32) (I : Nat → Int32) (J : Nat → Int64) (ri : Nat → Nat → Int32) (rj : Nat → Nat → Int64) (rq : Nat → Nat → Option Nat) : Int32 × vM := (ap1 ((16 : Int32) * a0) fun (x_2 : Int32) => (ap1 ((100 : Int32) + x_2) fun (x_4 : Int32) => (ap1 (x_4 + (13 : Int32)) fun (x_6 : Int32) => (ap1 (ri 384 (x_6).toNatClampNeg) fun (x_8 : Int32) => (x_8, I, J, ri, rj, rq)))))
set_option maxRecDepth 100000 in
theorem g_X12_cellAt_c13_e {a0 : Int32} {I : Nat → Int32} {J : Nat → Int64} {ri : Nat → Nat → Int32} {rj : Nat → Nat → Int64} {rq : Nat → Nat → Option Nat} : g_X12_cellAt_c13 a0 I J ri rj rq = (ap1 ((16 : Int32) * a0) fun (x_2 : Int32) => (ap1 ((100 : Int32) + x_2) fun (x_4 : Int32) => (ap1 (x_4 + (13 : Int32)) fun (x_6 : Int32) => (ap1 (ri 384 (x_6).toNatClampNeg) fun (x_8 : Int32) => (x_8, I, J, ri, rj, rq))))) := rfl
set_option maxHeartbeats 4000000 in
set_option maxRecDepth 100000 in
theorem s_X12_cellAt_c13 (l : Launch) (D : va_G) (t : pq_T) (σ : pq_S) (I : Nat → Nat → Int32) (J : Nat → Nat → Int64) (ri : Nat → Nat → Int32) (rj : Nat → Nat → Int64) (rq : Nat → Nat → Option Nat) (sz : Nat) (tg : Nat → Nat) (hSH : SH σ tg) (hG0 : GT tg I ri) (this : Nat) (a0 : Int32) (hL_this : this ∈ σ.1) (hK_this : σ.2.1 this = 12) (h_a0 : rg a0 0 39) : MetI l yX12_cellAt (wa yX12_cellAt cX12_cellAt 3 (some .int)) ({ frames := 0, cells := 0, slots := 0, locals := 0 }) [.ref this, .int a0, .int 13] D t σ (I, J, ri, rj, rq) sz 0 0 (fun (r : Int32) (u : pq_S × pq_M) => u = (σ, I, J, ri, rj, rq) ∧ g_X12_cellAt_c13 a0 (vI 12 σ this I) (vJ 12 σ this J) (vR 12 σ this ri) (vL 12 σ this rj) (vQ 12 σ this rq) = (r, (vI 12 σ this I), (vJ 12 σ this J), (vR 12 σ this ri), (vL 12 σ this rj), (vQ 12 σ this rq))) := by
  refine Met.ofW (cc := cX12_cellAt) (maxL := 3) (ret := (some .int)) (by decide +kernel) rfl ?_
  intro p e s m args below meth c s₁ B hml hv
  obtain ⟨rfl, hsz, hP, hK, hD0, hN⟩ := hv
  have hx := B.exec
  have hb := B.bytes
  have hr := B.returns
  have hts := atoms_spec (ws := (wa yX12_cellAt cX12_cellAt 3 (some .int))) B.pre
  have hown : s.vm.findClass RX12 = some m.cls := findClass_of_methodNamed B.named
  have hlocks := B.notSynchronized
  subst hsz
  have hD : va_D (pq_B t σ (I, J, ri, rj, rq) s.heap.size) (pq_P t σ (I, J, ri, rj, rq)) := hD0.self
  generalize hAe : pq_B t σ (I, J, ri, rj, rq) s.heap.size = A at hD ⊢
  have hA : ∀ q : Nat, s.heap.size ≤ q → A q := fun q h => by rw [← hAe]; exact Or.inr h
  have hS : va_S A s.heap s.heap [] := va_S.rf
  have hG : GM [] tg σ I ri I ri rq := ⟨hG0, fun _ _ _ => rfl, fun _ _ _ _ _ => rfl, fun _ _ _ _ _ _ => rfl⟩
  have hl := lv_entry ([.ref this, .int a0, .int 13]) (n := 3) (Nat.le_of_ble_eq_true rfl)
  rw [lg_entry_eq]
  generalize (lg_sl ([.ref this, .int a0, .int 13]) ++ List.replicate (3 - (lg_sl ([.ref this, .int a0, .int 13])).length) Slot.unset).toArray = ls at hl ⊢
  have hl : lv_has ls 3 [(0, .ref this), (1, .int a0), (2, .int 13)] := hl
  refine q_gen (fun Q hQ => ?_)
  have go : ∀ (H : Heap) (locs : List Loc) (ls : Array Slot), va_P D vwCl (pq_P t σ (I, J, ri, rj, rq)) H → va_D A (pq_P t σ (I, J, ri, rj, rq)) → va_S A s.heap H locs → lv_has ls 3 [(0, .ref this), (1, .int a0), (2, .int 13)] → W p l e ({ frames := 0, cells := 0, slots := 0, locals := 0 } : Room) s m (List.toArray ([.ref this, .int a0, .int 13] : List Value)) below meth c H locs 0 0 Q (F0 m 0 ls []) := by
    intro H locs ls hP hD hS hl
    have hO_this : this = vo σ 12 this := rfl
    have hVT : VT 12 σ tg this := vt_12 hSH hL_this hK_this
    have hFr : FR 12 tg σ this (I, J, ri, rj, rq) (I, J, ri, rj, rq) := fr_rf
    obtain ⟨F, hF0⟩ : ∃ F, F = g_X12_cellAt_c13 a0 (vI 12 σ this I) (vJ 12 σ this J) (vR 12 σ this ri) (vL 12 σ this rj) (vQ 12 σ this rq) := ⟨_, rfl⟩
    have hF := hF0.trans g_X12_cellAt_c13_e
    refine lv_aload_n hx hb dX12_cellAt_0 rfl (lv_at hl 0 rfl) ?_
    obtain ⟨w_1, hR_w_1, hL_w_1, hK_w_1, hN_w_1, hT_w_1⟩ := sh_a hSH 384 (ci := 12) (kd := 13) (len := 12720) rfl (by decide +kernel) hL_this hK_this
    have hO_w_1 : w_1 = vrow σ 384 this := vo_k (c := 12) hO_this hR_w_1
    refine pg_f (v := .ref w_1) (C := RX12) (T := TX12) (N := 31) hx hb hts (tw_i inlX12) hown hK hP hL_this hK_this (by decide +kernel) rfl 0 (by decide +kernel) (hts _ (tw_c tw_176)) (pq_hv rfl hR_w_1) dX12_cellAt_1 ?_
    refine lv_bipush (v := 100) hx hb dX12_cellAt_4 (by decide +kernel) ?_
    refine lv_bipush (v := 16) hx hb dX12_cellAt_6 (by decide +kernel) ?_
    refine lv_iload_n hx hb dX12_cellAt_8 rfl (lv_at hl 1 rfl) ?_
    refine lv_imul hx hb dX12_cellAt_9 ?_
    refine lv_topi (fun x_2 ex_2 => ?_)
    replace hF := hF.trans (ap_n ex_2)
    have h_3 : rg x_2 0 624 := rg_of_eq ex_2 (rg_mul (rg_k (16 : Int32) 16 rfl) h_a0 (by decide +kernel))
    have uh_3 := h_3.1
    have vh_3 := h_3.2
    have tx_2 : (x_2).toInt = 16 * (a0).toInt := by rw [ex_2]; exact i_mul_rg (a2 := 16) (b2 := (a0).toInt) rfl rfl (rg_k (16 : Int32) 16 rfl) h_a0 (by decide +kernel)
    refine lv_iadd hx hb dX12_cellAt_10 ?_
    refine lv_topi (fun x_4 ex_4 => ?_)
    replace hF := hF.trans (ap_n ex_4)
    have h_5 : rg x_4 100 724 := rg_of_eq ex_4 (rg_add (rg_k (100 : Int32) 100 rfl) h_3 (by decide +kernel))
    have uh_5 := h_5.1
    have vh_5 := h_5.2
    have tx_4 : (x_4).toInt = 100 + (x_2).toInt := by rw [ex_4]; exact i_add_rg (a2 := 100) (b2 := (x_2).toInt) rfl rfl (rg_k (100 : Int32) 100 rfl) h_3 (by decide +kernel)
    refine lv_iload_n hx hb dX12_cellAt_11 rfl (lv_at hl 2 rfl) ?_
    refine lv_iadd hx hb dX12_cellAt_12 ?_
    refine lv_topi (fun x_6 ex_6 => ?_)
    replace hF := hF.trans (ap_n ex_6)
    have h_7 : rg x_6 113 737 := rg_of_eq ex_6 (rg_add h_5 (rg_k (13 : Int32) 13 rfl) (by decide +kernel))
    have uh_7 := h_7.1
    have vh_7 := h_7.2
    have tx_6 : (x_6).toInt = (x_4).toInt + 13 := by rw [ex_6]; exact i_add_rg (a2 := (x_4).toInt) (b2 := 13) rfl rfl h_5 (rg_k (13 : Int32) 13 rfl) (by decide +kernel)
    refine pl_i hx hb hK hP hL_w_1 hK_w_1 hN_w_1 (rg_in h_7 (by decide +kernel)) dX12_cellAt_13 ?_
    refine lv_topi (fun x_8 ex_8 => ?_)
    replace hF := hF.trans (ap_n (vR_r hO_w_1 (by decide +kernel) ex_8))
    subst hQ
    exact W.iret (v := x_8) hx hb hr (fun t1 ht hW => ⟨⟨x_8, (σ, I, J, ri, rj, rq), rfl, ⟨rfl, (hF0.symm.trans hF)⟩, by rw [ht]; exact hP, va_K.moved hW.alike hK, hD⟩, hS.F ht⟩) hS.2.2 dX12_cellAt_14
  exact go _ _ _ hP hD hS hl

set_option maxRecDepth 100000 in
def g_X12_cellOf (a0 : Int32) (a1 : Int32) (I : Nat → Int32) (J : Nat → Int64) (ri : Nat → Nat → Int32) (rj : Nat → Nat → Int64) (rq : Nat → Nat → Option Nat) : Int32 × vM := (bnI (g_X12_isCell a0 I J ri rj rq) fun (x_1 : Int32) (_ : Nat → Int32) (_ : Nat → Int64) (_ : Nat → Nat → Int32) (_ : Nat → Nat → Int64) (_ : Nat → Nat → Option Nat) => (if x_1 = (0 : Int32) then ((-1000000 : Int32), I, J, ri, rj, rq) else (if a1 = (0 : Int32) then (bnI (g_X12_cellAt_c0 a0 I J ri rj rq) fun (x_24 : Int32) (_ : Nat → Int32) (_ : Nat → Int64) (_ : Nat → Nat → Int32) (_ : Nat → Nat → Int64) (_ : Nat → Nat → Option Nat) => (x_24, I, J, ri, rj, rq)) else (if a1 = (1 : Int32) then (bnI (g_X12_cellAt_c1 a0 I J ri rj rq) fun (x_36 : Int32) (_ : Nat → Int32) (_ : Nat → Int64) (_ : Nat → Nat → Int32) (_ : Nat → Nat → Int64) (_ : Nat → Nat → Option Nat) => (x_36, I, J, ri, rj, rq)) else (if a1 = (2 : Int32) then (bnI (g_X12_cellAt_c4 a0 I J ri rj rq) fun (x_48 : Int32) (_ : Nat → Int32) (_ : Nat → Int64) (_ : Nat → Nat → Int32) (_ : Nat → Nat → Int64) (_ : Nat → Nat → Option Nat) => (x_48, I, J, ri, rj, rq)) else (if a1 = (3 : Int32) then (bnI (g_X12_cellAt_c5 a0 I J ri rj rq) fun (x_60 : Int32) (_ : Nat → Int32) (_ : Nat → Int64) (_ : Nat → Nat → Int32) (_ : Nat → Nat → Int64) (_ : Nat → Nat → Option Nat) => (x_60, I, J, ri, rj, rq)) else (if a1 = (4 : Int32) then (bnI (g_X12_cellAt_c6 a0 I J ri rj rq) fun (x_72 : Int32) (_ : Nat → Int32) (_ : Nat → Int64) (_ : Nat → Nat → Int32) (_ : Nat → Nat → Int64) (_ : Nat → Nat → Option Nat) => (x_72, I, J, ri, rj, rq)) else (if a1 = (5 : Int32) then (bnI (g_X12_topOf a0 I J ri rj rq) fun (x_84 : Int32) (_ : Nat → Int32) (_ : Nat → Int64) (_ : Nat → Nat → Int32) (_ : Nat → Nat → Int64) (_ : Nat → Nat → Option Nat) => (x_84, I, J, ri, rj, rq)) else (if a1 = (6 : Int32) then (bnI (g_X12_cellAt_c7 a0 I J ri rj rq) fun (x_96 : Int32) (_ : Nat → Int32) (_ : Nat → Int64) (_ : Nat → Nat → Int32) (_ : Nat → Nat → Int64) (_ : Nat → Nat → Option Nat) => (x_96, I, J, ri, rj, rq)) else (if a1 = (7 : Int32) then (bnI (g_X12_cellAt_c8 a0 I J ri rj rq) fun (x_108 : Int32) (_ : Nat → Int32) (_ : Nat → Int64) (_ : Nat → Nat → Int32) (_ : Nat → Nat → Int64) (_ : Nat → Nat → Option Nat) => (if x_108 = (0 : Int32) then ((-1 : Int32), I, J, ri, rj, rq) else (bnI (g_X12_cellAt_c9 a0 I J ri rj rq) fun (x_120 : Int32) (_ : Nat → Int32) (_ : Nat → Int64) (_ : Nat → Nat → Int32) (_ : Nat → Nat → Int64) (_ : Nat → Nat → Option Nat) => (x_120, I, J, ri, rj, rq)))) else (if a1 = (8 : Int32) then (bnI (g_X12_cellAt_c8 a0 I J ri rj rq) fun (x_134 : Int32) (_ : Nat → Int32) (_ : Nat → Int64) (_ : Nat → Nat → Int32) (_ : Nat → Nat → Int64) (_ : Nat → Nat → Option Nat) => (if x_134 = (0 : Int32) then ((-1 : Int32), I, J, ri, rj, rq) else (bnI (g_X12_cellAt_c10 a0 I J ri rj rq) fun (x_146 : Int32) (_ : Nat → Int32) (_ : Nat → Int64) (_ : Nat → Nat → Int32) (_ : Nat → Nat → Int64) (_ : Nat → Nat → Option Nat) => (x_146, I, J, ri, rj, rq)))) else (if a1 = (9 : Int32) then (bnI (g_X12_cellAt_c11 a0 I J ri rj rq) fun (x_160 : Int32) (_ : Nat → Int32) (_ : Nat → Int64) (_ : Nat → Nat → Int32) (_ : Nat → Nat → Int64) (_ : Nat → Nat → Option Nat) => (x_160, I, J, ri, rj, rq)) else (if a1 = (10 : Int32) then (ap1 (ri 384 0) fun (y_174 : Int32) => (if (y_174) = (0 : Int32) then ((-1 : Int32), I, J, ri, rj, rq) else (bnI (g_X12_cellAt_c12 a0 I J ri rj rq) fun (x_182 : Int32) (_ : Nat → Int32) (_ : Nat → Int64) (_ : Nat → Nat → Int32) (_ : Nat → Nat → Int64) (_ : Nat → Nat → Option Nat) => (x_182, I, J, ri, rj, rq)))) else (if a1 = (11 : Int32) then (ap1 (ri 384 0) fun (y_198 : Int32) => (if (y_198) = (0 : Int32) then ((-1 : Int32), I, J, ri, rj, rq) else (bnI (g_X12_cellAt_c13 a0 I J ri rj rq) fun (x_206 : Int32) (_ : Nat → Int32) (_ : Nat → Int64) (_ : Nat → Nat → Int32) (_ : Nat → Nat → Int64) (_ : Nat → Nat → Option Nat) => (x_206, I, J, ri, rj, rq)))) else ((-1000000 : Int32), I, J, ri, rj, rq)))))))))))))))
set_option maxRecDepth 100000 in
theorem g_X12_cellOf_e {a0 : Int32} {a1 : Int32} {I : Nat → Int32} {J : Nat → Int64} {ri : Nat → Nat → Int32} {rj : Nat → Nat → Int64} {rq : Nat → Nat → Option Nat} : g_X12_cellOf a0 a1 I J ri rj rq = (bnI (g_X12_isCell a0 I J ri rj rq) fun (x_1 : Int32) (_ : Nat → Int32) (_ : Nat → Int64) (_ : Nat → Nat → Int32) (_ : Nat → Nat → Int64) (_ : Nat → Nat → Option Nat) => (if x_1 = (0 : Int32) then ((-1000000 : Int32), I, J, ri, rj, rq) else (if a1 = (0 : Int32) then (bnI (g_X12_cellAt_c0 a0 I J ri rj rq) fun (x_24 : Int32) (_ : Nat → Int32) (_ : Nat → Int64) (_ : Nat → Nat → Int32) (_ : Nat → Nat → Int64) (_ : Nat → Nat → Option Nat) => (x_24, I, J, ri, rj, rq)) else (if a1 = (1 : Int32) then (bnI (g_X12_cellAt_c1 a0 I J ri rj rq) fun (x_36 : Int32) (_ : Nat → Int32) (_ : Nat → Int64) (_ : Nat → Nat → Int32) (_ : Nat → Nat → Int64) (_ : Nat → Nat → Option Nat) => (x_36, I, J, ri, rj, rq)) else (if a1 = (2 : Int32) then (bnI (g_X12_cellAt_c4 a0 I J ri rj rq) fun (x_48 : Int32) (_ : Nat → Int32) (_ : Nat → Int64) (_ : Nat → Nat → Int32) (_ : Nat → Nat → Int64) (_ : Nat → Nat → Option Nat) => (x_48, I, J, ri, rj, rq)) else (if a1 = (3 : Int32) then (bnI (g_X12_cellAt_c5 a0 I J ri rj rq) fun (x_60 : Int32) (_ : Nat → Int32) (_ : Nat → Int64) (_ : Nat → Nat → Int32) (_ : Nat → Nat → Int64) (_ : Nat → Nat → Option Nat) => (x_60, I, J, ri, rj, rq)) else (if a1 = (4 : Int32) then (bnI (g_X12_cellAt_c6 a0 I J ri rj rq) fun (x_72 : Int32) (_ : Nat → Int32) (_ : Nat → Int64) (_ : Nat → Nat → Int32) (_ : Nat → Nat → Int64) (_ : Nat → Nat → Option Nat) => (x_72, I, J, ri, rj, rq)) else (if a1 = (5 : Int32) then (bnI (g_X12_topOf a0 I J ri rj rq) fun (x_84 : Int32) (_ : Nat → Int32) (_ : Nat → Int64) (_ : Nat → Nat → Int32) (_ : Nat → Nat → Int64) (_ : Nat → Nat → Option Nat) => (x_84, I, J, ri, rj, rq)) else (if a1 = (6 : Int32) then (bnI (g_X12_cellAt_c7 a0 I J ri rj rq) fun (x_96 : Int32) (_ : Nat → Int32) (_ : Nat → Int64) (_ : Nat → Nat → Int32) (_ : Nat → Nat → Int64) (_ : Nat → Nat → Option Nat) => (x_96, I, J, ri, rj, rq)) else (if a1 = (7 : Int32) then (bnI (g_X12_cellAt_c8 a0 I J ri rj rq) fun (x_108 : Int32) (_ : Nat → Int32) (_ : Nat → Int64) (_ : Nat → Nat → Int32) (_ : Nat → Nat → Int64) (_ : Nat → Nat → Option Nat) => (if x_108 = (0 : Int32) then ((-1 : Int32), I, J, ri, rj, rq) else (bnI (g_X12_cellAt_c9 a0 I J ri rj rq) fun (x_120 : Int32) (_ : Nat → Int32) (_ : Nat → Int64) (_ : Nat → Nat → Int32) (_ : Nat → Nat → Int64) (_ : Nat → Nat → Option Nat) => (x_120, I, J, ri, rj, rq)))) else (if a1 = (8 : Int32) then (bnI (g_X12_cellAt_c8 a0 I J ri rj rq) fun (x_134 : Int32) (_ : Nat → Int32) (_ : Nat → Int64) (_ : Nat → Nat → Int32) (_ : Nat → Nat → Int64) (_ : Nat → Nat → Option Nat) => (if x_134 = (0 : Int32) then ((-1 : Int32), I, J, ri, rj, rq) else (bnI (g_X12_cellAt_c10 a0 I J ri rj rq) fun (x_146 : Int32) (_ : Nat → Int32) (_ : Nat → Int64) (_ : Nat → Nat → Int32) (_ : Nat → Nat → Int64) (_ : Nat → Nat → Option Nat) => (x_146, I, J, ri, rj, rq)))) else (if a1 = (9 : Int32) then (bnI (g_X12_cellAt_c11 a0 I J ri rj rq) fun (x_160 : Int32) (_ : Nat → Int32) (_ : Nat → Int64) (_ : Nat → Nat → Int32) (_ : Nat → Nat → Int64) (_ : Nat → Nat → Option Nat) => (x_160, I, J, ri, rj, rq)) else (if a1 = (10 : Int32) then (ap1 (ri 384 0) fun (y_174 : Int32) => (if (y_174) = (0 : Int32) then ((-1 : Int32), I, J, ri, rj, rq) else (bnI (g_X12_cellAt_c12 a0 I J ri rj rq) fun (x_182 : Int32) (_ : Nat → Int32) (_ : Nat → Int64) (_ : Nat → Nat → Int32) (_ : Nat → Nat → Int64) (_ : Nat → Nat → Option Nat) => (x_182, I, J, ri, rj, rq)))) else (if a1 = (11 : Int32) then (ap1 (ri 384 0) fun (y_198 : Int32) => (if (y_198) = (0 : Int32) then ((-1 : Int32), I, J, ri, rj, rq) else (bnI (g_X12_cellAt_c13 a0 I J ri rj rq) fun (x_206 : Int32) (_ : Nat → Int32) (_ : Nat → Int64) (_ : Nat → Nat → Int32) (_ : Nat → Nat → Int64) (_ : Nat → Nat → Option Nat) => (x_206, I, J, ri, rj, rq)))) else ((-1000000 : Int32), I, J, ri, rj, rq))))))))))))))) := rfl
set_option maxHeartbeats 4000000 in
set_option maxRecDepth 100000 in
theorem s_X12_cellOf (l : Launch) (D : va_G) (t : pq_T) (σ : pq_S) (I : Nat → Nat → Int32) (J : Nat → Nat → Int64) (ri : Nat → Nat → Int32) (rj : Nat → Nat → Int64) (rq : Nat → Nat → Option Nat) (sz : Nat) (tg : Nat → Nat) (hSH : SH σ tg) (hG0 : GT tg I ri) (this : Nat) (a0 : Int32) (a1 : Int32) (hL_this : this ∈ σ.1) (hK_this : σ.2.1 this = 12) : MetI l yX12_cellOf (wa yX12_cellOf cX12_cellOf 3 (some .int)) ({ frames := 2, cells := 0, slots := 0, locals := 43 }) [.ref this, .int a0, .int a1] D t σ (I, J, ri, rj, rq) sz 0 0 (fun (r : Int32) (u : pq_S × pq_M) => u = (σ, I, J, ri, rj, rq) ∧ g_X12_cellOf a0 a1 (vI 12 σ this I) (vJ 12 σ this J) (vR 12 σ this ri) (vL 12 σ this rj) (vQ 12 σ this rq) = (r, (vI 12 σ this I), (vJ 12 σ this J), (vR 12 σ this ri), (vL 12 σ this rj), (vQ 12 σ this rq))) := by
  refine Met.ofW (cc := cX12_cellOf) (maxL := 3) (ret := (some .int)) (by decide +kernel) rfl ?_
  intro p e s m args below meth c s₁ B hml hv
  obtain ⟨rfl, hsz, hP, hK, hD0, hN⟩ := hv
  have hx := B.exec
  have hb := B.bytes
  have hr := B.returns
  have hts := atoms_spec (ws := (wa yX12_cellOf cX12_cellOf 3 (some .int))) B.pre
  have hown : s.vm.findClass RX12 = some m.cls := findClass_of_methodNamed B.named
  have hlocks := B.notSynchronized
  subst hsz
  have hD : va_D (pq_B t σ (I, J, ri, rj, rq) s.heap.size) (pq_P t σ (I, J, ri, rj, rq)) := hD0.self
  generalize hAe : pq_B t σ (I, J, ri, rj, rq) s.heap.size = A at hD ⊢
  have hA : ∀ q : Nat, s.heap.size ≤ q → A q := fun q h => by rw [← hAe]; exact Or.inr h
  have hS : va_S A s.heap s.heap [] := va_S.rf
  have hG : GM [] tg σ I ri I ri rq := ⟨hG0, fun _ _ _ => rfl, fun _ _ _ _ _ => rfl, fun _ _ _ _ _ _ => rfl⟩
  have hl := lv_entry ([.ref this, .int a0, .int a1]) (n := 3) (Nat.le_of_ble_eq_true rfl)
  rw [lg_entry_eq]
  generalize (lg_sl ([.ref this, .int a0, .int a1]) ++ List.replicate (3 - (lg_sl ([.ref this, .int a0, .int a1])).length) Slot.unset).toArray = ls at hl ⊢
  have hl : lv_has ls 3 [(0, .ref this), (1, .int a0), (2, .int a1)] := hl
  refine q_gen (fun Q hQ => ?_)
  have go : ∀ (H : Heap) (locs : List Loc) (ls : Array Slot), va_P D vwCl (pq_P t σ (I, J, ri, rj, rq)) H → va_D A (pq_P t σ (I, J, ri, rj, rq)) → va_S A s.heap H locs → lv_has ls 3 [(0, .ref this), (1, .int a0), (2, .int a1)] → W p l e ({ frames := 2, cells := 0, slots := 0, locals := 43 } : Room) s m (List.toArray ([.ref this, .int a0, .int a1] : List Value)) below meth c H locs 0 0 Q (F0 m 0 ls []) := by
    intro H locs ls hP hD hS hl
    have hO_this : this = vo σ 12 this := rfl
    have hVT : VT 12 σ tg this := vt_12 hSH hL_this hK_this
    have hFr : FR 12 tg σ this (I, J, ri, rj, rq) (I, J, ri, rj, rq) := fr_rf
    obtain ⟨F, hF0⟩ : ∃ F, F = g_X12_cellOf a0 a1 (vI 12 σ this I) (vJ 12 σ this J) (vR 12 σ this ri) (vL 12 σ this rj) (vQ 12 σ this rq) := ⟨_, rfl⟩
    have hF := hF0.trans g_X12_cellOf_e
    refine lv_aload_n hx hb dX12_cellOf_0 rfl (lv_at hl 0 rfl) ?_
    refine lv_iload_n hx hb dX12_cellOf_1 rfl (lv_at hl 1 rfl) ?_
    refine pk_i (va_runV (As := [.int a0]) (rest := []) ⟨hx, hb, hml, hown, hts⟩ (s_X12_isCell l D t σ I J ri rj rq H.size tg hSH hG.1 this a0 hL_this hK_this) (cwV 1 hts (tw_V tw_340 tw_341 tw_342 tw_5 tw_343) rfl rfl rfl cv_yX12_isCell_1 ⟨Nat.le_of_ble_eq_true rfl, Nat.le_of_ble_eq_true rfl⟩) ⟨pq_blind, pq_recv hK hP hL_this hK_this (by decide +kernel) rfl, pq_pre hK hN hP hD⟩ rfl rfl hl.1 rfl (lv_room (Nat.le_of_ble_eq_true rfl)) dX12_cellOf_2 ⟨Nat.le_of_ble_eq_true rfl, Nat.le_of_ble_eq_true rfl⟩) hD hS hA (fun x_1 σ1 μ1 H locs hw_2 hP hD hS => ?_)
    obtain ⟨hu_3, hfn_6, hr_5⟩ := hw_2
    obtain ⟨hu_3a, hu_3b⟩ := Prod.mk.inj hu_3
    rw [hu_3a, hu_3b] at hP hD
    replace hF := hF.trans (bn_n hfn_6)
    have h_8 : rg x_1 0 1 := by rcases hr_5 with ⟨q, -⟩ | ⟨q, -⟩ <;> rw [q] <;> exact ⟨by decide +kernel, by decide +kernel⟩
    have uh_8 := h_8.1
    have vh_8 := h_8.2
    refine lv_if_ne (tgt := 11) hx hb dX12_cellOf_5 (by decide +kernel) (fun c_9 => ?_) (fun c_9 => ?_)
    · replace hF := hF.trans (if_neg c_9)
      have f_16 := (hr_5.resolve_right (fun q => c_9 q.1)).2
      have uf_16 := f_16.1
      have vf_16 := f_16.2
      have tc_17 : (x_1).toInt ≠ 0 := fun q => c_9 (Int32.toInt_inj.mp q)
      have h_18 : rg x_1 1 1 := rg_ne c_9 h_8 0 rfl (by decide +kernel)
      have uh_18 := h_18.1
      have vh_18 := h_18.2
      refine lv_iload_n hx hb dX12_cellOf_11 rfl (lv_at hl 2 rfl) ?_
      by_cases k_19 : a1 = (0 : Int32)
      · replace hF := hF.trans (if_pos k_19)
        have tc_22 : (a1).toInt = 0 := congrArg Int32.toInt k_19
        have h_23 : rg a1 0 0 := rg_and (rg_full _) (rg_of_eq k_19 (rg_k (0 : Int32) 0 rfl)) (by decide +kernel)
        have uh_23 := h_23.1
        have vh_23 := h_23.2
        refine lv_tov 0 k_19 ?_
        refine lv_tableIn (tgt := 76) hx hb dX12_cellOf_12 (by decide +kernel) (by decide +kernel) rfl (by decide +kernel) ?_
        refine lv_aload_n hx hb dX12_cellOf_76 rfl (lv_at hl 0 rfl) ?_
        refine lv_iload_n hx hb dX12_cellOf_77 rfl (lv_at hl 1 rfl) ?_
        refine lv_iconst (v := 0) hx hb dX12_cellOf_78 (by decide +kernel) ?_
        refine pk_i (va_runV (As := [.int a0, .int 0]) (rest := []) ⟨hx, hb, hml, hown, hts⟩ (s_X12_cellAt_c0 l D t σ I J ri rj rq H.size tg hSH hG.1 this a0 hL_this hK_this (rg_w f_16 (by decide +kernel))) (cwV 2 hts (tw_V tw_361 tw_362 tw_363 tw_5 tw_364) rfl rfl rfl cv_yX12_cellAt_2 ⟨Nat.le_of_ble_eq_true rfl, Nat.le_of_ble_eq_true rfl⟩) ⟨pq_blind, pq_recv hK hP hL_this hK_this (by decide +kernel) rfl, pq_pre hK hN hP hD⟩ rfl rfl hl.1 rfl (lv_room (Nat.le_of_ble_eq_true rfl)) dX12_cellOf_79 ⟨Nat.le_of_ble_eq_true rfl, Nat.le_of_ble_eq_true rfl⟩) hD hS hA (fun x_24 σ1 μ1 H locs hw_25 hP hD hS => ?_)
        obtain ⟨hu_26, hfn_29⟩ := hw_25
        obtain ⟨hu_26a, hu_26b⟩ := Prod.mk.inj hu_26
        rw [hu_26a, hu_26b] at hP hD
        replace hF := hF.trans (bn_n hfn_29)
        subst hQ
        exact W.iret (v := x_24) hx hb hr (fun t1 ht hW => ⟨⟨x_24, (σ, I, J, ri, rj, rq), rfl, ⟨rfl, (hF0.symm.trans hF)⟩, by rw [ht]; exact hP, va_K.moved hW.alike hK, hD⟩, hS.F ht⟩) hS.2.2 dX12_cellOf_82
      replace hF := hF.trans (if_neg k_19)
      by_cases k_31 : a1 = (1 : Int32)
      · replace hF := hF.trans (if_pos k_31)
        have tc_34 : (a1).toInt = 1 := congrArg Int32.toInt k_31
        have h_35 : rg a1 1 1 := rg_and (rg_full _) (rg_of_eq k_31 (rg_k (1 : Int32) 1 rfl)) (by decide +kernel)
        have uh_35 := h_35.1
        have vh_35 := h_35.2
        refine lv_tov 1 k_31 ?_
        refine lv_tableIn (tgt := 83) hx hb dX12_cellOf_12 (by decide +kernel) (by decide +kernel) rfl (by decide +kernel) ?_
        refine lv_aload_n hx hb dX12_cellOf_83 rfl (lv_at hl 0 rfl) ?_
        refine lv_iload_n hx hb dX12_cellOf_84 rfl (lv_at hl 1 rfl) ?_
        refine lv_iconst (v := 1) hx hb dX12_cellOf_85 (by decide +kernel) ?_
        refine pk_i (va_runV (As := [.int a0, .int 1]) (rest := []) ⟨hx, hb, hml, hown, hts⟩ (s_X12_cellAt_c1 l D t σ I J ri rj rq H.size tg hSH hG.1 this a0 hL_this hK_this (rg_w f_16 (by decide +kernel))) (cwV 2 hts (tw_V tw_361 tw_362 tw_363 tw_5 tw_364) rfl rfl rfl cv_yX12_cellAt_2 ⟨Nat.le_of_ble_eq_true rfl, Nat.le_of_ble_eq_true rfl⟩) ⟨pq_blind, pq_recv hK hP hL_this hK_this (by decide +kernel) rfl, pq_pre hK hN hP hD⟩ rfl rfl hl.1 rfl (lv_room (Nat.le_of_ble_eq_true rfl)) dX12_cellOf_86 ⟨Nat.le_of_ble_eq_true rfl, Nat.le_of_ble_eq_true rfl⟩) hD hS hA (fun x_36 σ1 μ1 H locs hw_37 hP hD hS => ?_)
        obtain ⟨hu_38, hfn_41⟩ := hw_37
        obtain ⟨hu_38a, hu_38b⟩ := Prod.mk.inj hu_38
        rw [hu_38a, hu_38b] at hP hD
        replace hF := hF.trans (bn_n hfn_41)
        subst hQ
        exact W.iret (v := x_36) hx hb hr (fun t1 ht hW => ⟨⟨x_36, (σ, I, J, ri, rj, rq), rfl, ⟨rfl, (hF0.symm.trans hF)⟩, by rw [ht]; exact hP, va_K.moved hW.alike hK, hD⟩, hS.F ht⟩) hS.2.2 dX12_cellOf_89
      replace hF := hF.trans (if_neg k_31)
      by_cases k_43 : a1 = (2 : Int32)
      · replace hF := hF.trans (if_pos k_43)
        have tc_46 : (a1).toInt = 2 := congrArg Int32.toInt k_43
        have h_47 : rg a1 2 2 := rg_and (rg_full _) (rg_of_eq k_43 (rg_k (2 : Int32) 2 rfl)) (by decide +kernel)
        have uh_47 := h_47.1
        have vh_47 := h_47.2
        refine lv_tov 2 k_43 ?_
        refine lv_tableIn (tgt := 90) hx hb dX12_cellOf_12 (by decide +kernel) (by decide +kernel) rfl (by decide +kernel) ?_
        refine lv_aload_n hx hb dX12_cellOf_90 rfl (lv_at hl 0 rfl) ?_
        refine lv_iload_n hx hb dX12_cellOf_91 rfl (lv_at hl 1 rfl) ?_
        refine lv_iconst (v := 4) hx hb dX12_cellOf_92 (by decide +kernel) ?_
        refine pk_i (va_runV (As := [.int a0, .int 4]) (rest := []) ⟨hx, hb, hml, hown, hts⟩ (s_X12_cellAt_c4 l D t σ I J ri rj rq H.size tg hSH hG.1 this a0 hL_this hK_this (rg_w f_16 (by decide +kernel))) (cwV 2 hts (tw_V tw_361 tw_362 tw_363 tw_5 tw_364) rfl rfl rfl cv_yX12_cellAt_2 ⟨Nat.le_of_ble_eq_true rfl, Nat.le_of_ble_eq_true rfl⟩) ⟨pq_blind, pq_recv hK hP hL_this hK_this (by decide +kernel) rfl, pq_pre hK hN hP hD⟩ rfl rfl hl.1 rfl (lv_room (Nat.le_of_ble_eq_true rfl)) dX12_cellOf_93 ⟨Nat.le_of_ble_eq_true rfl, Nat.le_of_ble_eq_true rfl⟩) hD hS hA (fun x_48 σ1 μ1 H locs hw_49 hP hD hS => ?_)
        obtain ⟨hu_50, hfn_53⟩ := hw_49
        obtain ⟨hu_50a, hu_50b⟩ := Prod.mk.inj hu_50
        rw [hu_50a, hu_50b] at hP hD
        replace hF := hF.trans (bn_n hfn_53)
        subst hQ
        exact W.iret (v := x_48) hx hb hr (fun t1 ht hW => ⟨⟨x_48, (σ, I, J, ri, rj, rq), rfl, ⟨rfl, (hF0.symm.trans hF)⟩, by rw [ht]; exact hP, va_K.moved hW.alike hK, hD⟩, hS.F ht⟩) hS.2.2 dX12_cellOf_96
      replace hF := hF.trans (if_neg k_43)
      by_cases k_55 : a1 = (3 : Int32)
      · replace hF := hF.trans (if_pos k_55)
        have tc_58 : (a1).toInt = 3 := congrArg Int32.toInt k_55
        have h_59 : rg a1 3 3 := rg_and (rg_full _) (rg_of_eq k_55 (rg_k (3 : Int32) 3 rfl)) (by decide +kernel)
        have uh_59 := h_59.1
        have vh_59 := h_59.2
        refine lv_tov 3 k_55 ?_
        refine lv_tableIn (tgt := 97) hx hb dX12_cellOf_12 (by decide +kernel) (by decide +kernel) rfl (by decide +kernel) ?_
        refine lv_aload_n hx hb dX12_cellOf_97 rfl (lv_at hl 0 rfl) ?_
        refine lv_iload_n hx hb dX12_cellOf_98 rfl (lv_at hl 1 rfl) ?_
        refine lv_iconst (v := 5) hx hb dX12_cellOf_99 (by decide +kernel) ?_
        refine pk_i (va_runV (As := [.int a0, .int 5]) (rest := []) ⟨hx, hb, hml, hown, hts⟩ (s_X12_cellAt_c5 l D t σ I J ri rj rq H.size tg hSH hG.1 this a0 hL_this hK_this (rg_w f_16 (by decide +kernel))) (cwV 2 hts (tw_V tw_361 tw_362 tw_363 tw_5 tw_364) rfl rfl rfl cv_yX12_cellAt_2 ⟨Nat.le_of_ble_eq_true rfl, Nat.le_of_ble_eq_true rfl⟩) ⟨pq_blind, pq_recv hK hP hL_this hK_this (by decide +kernel) rfl, pq_pre hK hN hP hD⟩ rfl rfl hl.1 rfl (lv_room (Nat.le_of_ble_eq_true rfl)) dX12_cellOf_100 ⟨Nat.le_of_ble_eq_true rfl, Nat.le_of_ble_eq_true rfl⟩) hD hS hA (fun x_60 σ1 μ1 H locs hw_61 hP hD hS => ?_)
        obtain ⟨hu_62, hfn_65⟩ := hw_61
        obtain ⟨hu_62a, hu_62b⟩ := Prod.mk.inj hu_62
        rw [hu_62a, hu_62b] at hP hD
        replace hF := hF.trans (bn_n hfn_65)
        subst hQ
        exact W.iret (v := x_60) hx hb hr (fun t1 ht hW => ⟨⟨x_60, (σ, I, J, ri, rj, rq), rfl, ⟨rfl, (hF0.symm.trans hF)⟩, by rw [ht]; exact hP, va_K.moved hW.alike hK, hD⟩, hS.F ht⟩) hS.2.2 dX12_cellOf_103
      replace hF := hF.trans (if_neg k_55)
      by_cases k_67 : a1 = (4 : Int32)
      · replace hF := hF.trans (if_pos k_67)
        have tc_70 : (a1).toInt = 4 := congrArg Int32.toInt k_67
        have h_71 : rg a1 4 4 := rg_and (rg_full _) (rg_of_eq k_67 (rg_k (4 : Int32) 4 rfl)) (by decide +kernel)
        have uh_71 := h_71.1
        have vh_71 := h_71.2
        refine lv_tov 4 k_67 ?_
        refine lv_tableIn (tgt := 104) hx hb dX12_cellOf_12 (by decide +kernel) (by decide +kernel) rfl (by decide +kernel) ?_
        refine lv_aload_n hx hb dX12_cellOf_104 rfl (lv_at hl 0 rfl) ?_
        refine lv_iload_n hx hb dX12_cellOf_105 rfl (lv_at hl 1 rfl) ?_
        refine lv_bipush (v := 6) hx hb dX12_cellOf_106 (by decide +kernel) ?_
        refine pk_i (va_runV (As := [.int a0, .int 6]) (rest := []) ⟨hx, hb, hml, hown, hts⟩ (s_X12_cellAt_c6 l D t σ I J ri rj rq H.size tg hSH hG.1 this a0 hL_this hK_this (rg_w f_16 (by decide +kernel))) (cwV 2 hts (tw_V tw_361 tw_362 tw_363 tw_5 tw_364) rfl rfl rfl cv_yX12_cellAt_2 ⟨Nat.le_of_ble_eq_true rfl, Nat.le_of_ble_eq_true rfl⟩) ⟨pq_blind, pq_recv hK hP hL_this hK_this (by decide +kernel) rfl, pq_pre hK hN hP hD⟩ rfl rfl hl.1 rfl (lv_room (Nat.le_of_ble_eq_true rfl)) dX12_cellOf_108 ⟨Nat.le_of_ble_eq_true rfl, Nat.le_of_ble_eq_true rfl⟩) hD hS hA (fun x_72 σ1 μ1 H locs hw_73 hP hD hS => ?_)
        obtain ⟨hu_74, hfn_77⟩ := hw_73
        obtain ⟨hu_74a, hu_74b⟩ := Prod.mk.inj hu_74
        rw [hu_74a, hu_74b] at hP hD
        replace hF := hF.trans (bn_n hfn_77)
        subst hQ
        exact W.iret (v := x_72) hx hb hr (fun t1 ht hW => ⟨⟨x_72, (σ, I, J, ri, rj, rq), rfl, ⟨rfl, (hF0.symm.trans hF)⟩, by rw [ht]; exact hP, va_K.moved hW.alike hK, hD⟩, hS.F ht⟩) hS.2.2 dX12_cellOf_111
      replace hF := hF.trans (if_neg k_67)
      by_cases k_79 : a1 = (5 : Int32)
      · replace hF := hF.trans (if_pos k_79)
        have tc_82 : (a1).toInt = 5 := congrArg Int32.toInt k_79
        have h_83 : rg a1 5 5 := rg_and (rg_full _) (rg_of_eq k_79 (rg_k (5 : Int32) 5 rfl)) (by decide +kernel)
        have uh_83 := h_83.1
        have vh_83 := h_83.2
        refine lv_tov 5 k_79 ?_
        refine lv_tableIn (tgt := 112) hx hb dX12_cellOf_12 (by decide +kernel) (by decide +kernel) rfl (by decide +kernel) ?_
        refine lv_aload_n hx hb dX12_cellOf_112 rfl (lv_at hl 0 rfl) ?_
        refine lv_iload_n hx hb dX12_cellOf_113 rfl (lv_at hl 1 rfl) ?_
        refine pk_i (va_runV (As := [.int a0]) (rest := []) ⟨hx, hb, hml, hown, hts⟩ (s_X12_topOf l D t σ I J ri rj rq H.size tg hSH hG.1 this a0 hL_this hK_this (rg_w f_16 (by decide +kernel))) (cwV 1 hts (tw_V tw_1213 tw_1214 tw_1215 tw_5 tw_1216) rfl rfl rfl cv_yX12_topOf_1 ⟨Nat.le_of_ble_eq_true rfl, Nat.le_of_ble_eq_true rfl⟩) ⟨pq_blind, pq_recv hK hP hL_this hK_this (by decide +kernel) rfl, pq_pre hK hN hP hD⟩ rfl rfl hl.1 rfl (lv_room (Nat.le_of_ble_eq_true rfl)) dX12_cellOf_114 ⟨Nat.le_of_ble_eq_true rfl, Nat.le_of_ble_eq_true rfl⟩) hD hS hA (fun x_84 σ1 μ1 H locs hw_85 hP hD hS => ?_)
        obtain ⟨hu_86, hfn_89⟩ := hw_85
        obtain ⟨hu_86a, hu_86b⟩ := Prod.mk.inj hu_86
        rw [hu_86a, hu_86b] at hP hD
        replace hF := hF.trans (bn_n hfn_89)
        subst hQ
        exact W.iret (v := x_84) hx hb hr (fun t1 ht hW => ⟨⟨x_84, (σ, I, J, ri, rj, rq), rfl, ⟨rfl, (hF0.symm.trans hF)⟩, by rw [ht]; exact hP, va_K.moved hW.alike hK, hD⟩, hS.F ht⟩) hS.2.2 dX12_cellOf_117
      replace hF := hF.trans (if_neg k_79)
      by_cases k_91 : a1 = (6 : Int32)
      · replace hF := hF.trans (if_pos k_91)
        have tc_94 : (a1).toInt = 6 := congrArg Int32.toInt k_91
        have h_95 : rg a1 6 6 := rg_and (rg_full _) (rg_of_eq k_91 (rg_k (6 : Int32) 6 rfl)) (by decide +kernel)
        have uh_95 := h_95.1
        have vh_95 := h_95.2
        refine lv_tov 6 k_91 ?_
        refine lv_tableIn (tgt := 118) hx hb dX12_cellOf_12 (by decide +kernel) (by decide +kernel) rfl (by decide +kernel) ?_
        refine lv_aload_n hx hb dX12_cellOf_118 rfl (lv_at hl 0 rfl) ?_
        refine lv_iload_n hx hb dX12_cellOf_119 rfl (lv_at hl 1 rfl) ?_
        refine lv_bipush (v := 7) hx hb dX12_cellOf_120 (by decide +kernel) ?_
        refine pk_i (va_runV (As := [.int a0, .int 7]) (rest := []) ⟨hx, hb, hml, hown, hts⟩ (s_X12_cellAt_c7 l D t σ I J ri rj rq H.size tg hSH hG.1 this a0 hL_this hK_this (rg_w f_16 (by decide +kernel))) (cwV 2 hts (tw_V tw_361 tw_362 tw_363 tw_5 tw_364) rfl rfl rfl cv_yX12_cellAt_2 ⟨Nat.le_of_ble_eq_true rfl, Nat.le_of_ble_eq_true rfl⟩) ⟨pq_blind, pq_recv hK hP hL_this hK_this (by decide +kernel) rfl, pq_pre hK hN hP hD⟩ rfl rfl hl.1 rfl (lv_room (Nat.le_of_ble_eq_true rfl)) dX12_cellOf_122 ⟨Nat.le_of_ble_eq_true rfl, Nat.le_of_ble_eq_true rfl⟩) hD hS hA (fun x_96 σ1 μ1 H locs hw_97 hP hD hS => ?_)
        obtain ⟨hu_98, hfn_101⟩ := hw_97
        obtain ⟨hu_98a, hu_98b⟩ := Prod.mk.inj hu_98
        rw [hu_98a, hu_98b] at hP hD
        replace hF := hF.trans (bn_n hfn_101)
        subst hQ
        exact W.iret (v := x_96) hx hb hr (fun t1 ht hW => ⟨⟨x_96, (σ, I, J, ri, rj, rq), rfl, ⟨rfl, (hF0.symm.trans hF)⟩, by rw [ht]; exact hP, va_K.moved hW.alike hK, hD⟩, hS.F ht⟩) hS.2.2 dX12_cellOf_125
      replace hF := hF.trans (if_neg k_91)
      by_cases k_103 : a1 = (7 : Int32)
      · replace hF := hF.trans (if_pos k_103)
        have tc_106 : (a1).toInt = 7 := congrArg Int32.toInt k_103
        have h_107 : rg a1 7 7 := rg_and (rg_full _) (rg_of_eq k_103 (rg_k (7 : Int32) 7 rfl)) (by decide +kernel)
        have uh_107 := h_107.1
        have vh_107 := h_107.2
        refine lv_tov 7 k_103 ?_
        refine lv_tableIn (tgt := 126) hx hb dX12_cellOf_12 (by decide +kernel) (by decide +kernel) rfl (by decide +kernel) ?_
        refine lv_aload_n hx hb dX12_cellOf_126 rfl (lv_at hl 0 rfl) ?_
        refine lv_iload_n hx hb dX12_cellOf_127 rfl (lv_at hl 1 rfl) ?_
        refine lv_bipush (v := 8) hx hb dX12_cellOf_128 (by decide +kernel) ?_
        refine pk_i (va_runV (As := [.int a0, .int 8]) (rest := []) ⟨hx, hb, hml, hown, hts⟩ (s_X12_cellAt_c8 l D t σ I J ri rj rq H.size tg hSH hG.1 this a0 hL_this hK_this (rg_w f_16 (by decide +kernel))) (cwV 2 hts (tw_V tw_361 tw_362 tw_363 tw_5 tw_364) rfl rfl rfl cv_yX12_cellAt_2 ⟨Nat.le_of_ble_eq_true rfl, Nat.le_of_ble_eq_true rfl⟩) ⟨pq_blind, pq_recv hK hP hL_this hK_this (by decide +kernel) rfl, pq_pre hK hN hP hD⟩ rfl rfl hl.1 rfl (lv_room (Nat.le_of_ble_eq_true rfl)) dX12_cellOf_130 ⟨Nat.le_of_ble_eq_true rfl, Nat.le_of_ble_eq_true rfl⟩) hD hS hA (fun x_108 σ1 μ1 H locs hw_109 hP hD hS => ?_)
        obtain ⟨hu_110, hfn_113⟩ := hw_109
        obtain ⟨hu_110a, hu_110b⟩ := Prod.mk.inj hu_110
        rw [hu_110a, hu_110b] at hP hD
        replace hF := hF.trans (bn_n hfn_113)
        refine lv_if_ne (tgt := 140) hx hb dX12_cellOf_133 (by decide +kernel) (fun c_115 => ?_) (fun c_115 => ?_)
        · replace hF := hF.trans (if_neg c_115)
          have tc_119 : (x_108).toInt ≠ 0 := fun q => c_115 (Int32.toInt_inj.mp q)
          refine lv_aload_n hx hb dX12_cellOf_140 rfl (lv_at hl 0 rfl) ?_
          refine lv_iload_n hx hb dX12_cellOf_141 rfl (lv_at hl 1 rfl) ?_
          refine lv_bipush (v := 9) hx hb dX12_cellOf_142 (by decide +kernel) ?_
          refine pk_i (va_runV (As := [.int a0, .int 9]) (rest := []) ⟨hx, hb, hml, hown, hts⟩ (s_X12_cellAt_c9 l D t σ I J ri rj rq H.size tg hSH hG.1 this a0 hL_this hK_this (rg_w f_16 (by decide +kernel))) (cwV 2 hts (tw_V tw_361 tw_362 tw_363 tw_5 tw_364) rfl rfl rfl cv_yX12_cellAt_2 ⟨Nat.le_of_ble_eq_true rfl, Nat.le_of_ble_eq_true rfl⟩) ⟨pq_blind, pq_recv hK hP hL_this hK_this (by decide +kernel) rfl, pq_pre hK hN hP hD⟩ rfl rfl hl.1 rfl (lv_room (Nat.le_of_ble_eq_true rfl)) dX12_cellOf_144 ⟨Nat.le_of_ble_eq_true rfl, Nat.le_of_ble_eq_true rfl⟩) hD hS hA (fun x_120 σ1 μ1 H locs hw_121 hP hD hS => ?_)
          obtain ⟨hu_122, hfn_125⟩ := hw_121
          obtain ⟨hu_122a, hu_122b⟩ := Prod.mk.inj hu_122
          rw [hu_122a, hu_122b] at hP hD
          replace hF := hF.trans (bn_n hfn_125)
          subst hQ
          exact W.iret (v := x_120) hx hb hr (fun t1 ht hW => ⟨⟨x_120, (σ, I, J, ri, rj, rq), rfl, ⟨rfl, (hF0.symm.trans hF)⟩, by rw [ht]; exact hP, va_K.moved hW.alike hK, hD⟩, hS.F ht⟩) hS.2.2 dX12_cellOf_147
        · replace hF := hF.trans (if_pos c_115)
          have tc_127 : (x_108).toInt = 0 := congrArg Int32.toInt c_115
          have h_128 : rg x_108 0 0 := rg_and (rg_full _) (rg_of_eq c_115 (rg_k (0 : Int32) 0 rfl)) (by decide +kernel)
          have uh_128 := h_128.1
          have vh_128 := h_128.2
          refine lv_iconst (v := (-1)) hx hb dX12_cellOf_136 (by decide +kernel) ?_
          refine lv_goto (tgt := 147) hx hb dX12_cellOf_137 (by decide +kernel) ?_
          subst hQ
          exact W.iret (v := (-1)) hx hb hr (fun t1 ht hW => ⟨⟨(-1), (σ, I, J, ri, rj, rq), rfl, ⟨rfl, (hF0.symm.trans hF)⟩, by rw [ht]; exact hP, va_K.moved hW.alike hK, hD⟩, hS.F ht⟩) hS.2.2 dX12_cellOf_147
      replace hF := hF.trans (if_neg k_103)
      by_cases k_129 : a1 = (8 : Int32)
      · replace hF := hF.trans (if_pos k_129)
        have tc_132 : (a1).toInt = 8 := congrArg Int32.toInt k_129
        have h_133 : rg a1 8 8 := rg_and (rg_full _) (rg_of_eq k_129 (rg_k (8 : Int32) 8 rfl)) (by decide +kernel)
        have uh_133 := h_133.1
        have vh_133 := h_133.2
        refine lv_tov 8 k_129 ?_
        refine lv_tableIn (tgt := 148) hx hb dX12_cellOf_12 (by decide +kernel) (by decide +kernel) rfl (by decide +kernel) ?_
        refine lv_aload_n hx hb dX12_cellOf_148 rfl (lv_at hl 0 rfl) ?_
        refine lv_iload_n hx hb dX12_cellOf_149 rfl (lv_at hl 1 rfl) ?_
        refine lv_bipush (v := 8) hx hb dX12_cellOf_150 (by decide +kernel) ?_
        refine pk_i (va_runV (As := [.int a0, .int 8]) (rest := []) ⟨hx, hb, hml, hown, hts⟩ (s_X12_cellAt_c8 l D t σ I J ri rj rq H.size tg hSH hG.1 this a0 hL_this hK_this (rg_w f_16 (by decide +kernel))) (cwV 2 hts (tw_V tw_361 tw_362 tw_363 tw_5 tw_364) rfl rfl rfl cv_yX12_cellAt_2 ⟨Nat.le_of_ble_eq_true rfl, Nat.le_of_ble_eq_true rfl⟩) ⟨pq_blind, pq_recv hK hP hL_this hK_this (by decide +kernel) rfl, pq_pre hK hN hP hD⟩ rfl rfl hl.1 rfl (lv_room (Nat.le_of_ble_eq_true rfl)) dX12_cellOf_152 ⟨Nat.le_of_ble_eq_true rfl, Nat.le_of_ble_eq_true rfl⟩) hD hS hA (fun x_134 σ1 μ1 H locs hw_135 hP hD hS => ?_)
        obtain ⟨hu_136, hfn_139⟩ := hw_135
        obtain ⟨hu_136a, hu_136b⟩ := Prod.mk.inj hu_136
        rw [hu_136a, hu_136b] at hP hD
        replace hF := hF.trans (bn_n hfn_139)
        refine lv_if_ne (tgt := 162) hx hb dX12_cellOf_155 (by decide +kernel) (fun c_141 => ?_) (fun c_141 => ?_)
        · replace hF := hF.trans (if_neg c_141)
          have tc_145 : (x_134).toInt ≠ 0 := fun q => c_141 (Int32.toInt_inj.mp q)
          refine lv_aload_n hx hb dX12_cellOf_162 rfl (lv_at hl 0 rfl) ?_
          refine lv_iload_n hx hb dX12_cellOf_163 rfl (lv_at hl 1 rfl) ?_
          refine lv_bipush (v := 10) hx hb dX12_cellOf_164 (by decide +kernel) ?_
          refine pk_i (va_runV (As := [.int a0, .int 10]) (rest := []) ⟨hx, hb, hml, hown, hts⟩ (s_X12_cellAt_c10 l D t σ I J ri rj rq H.size tg hSH hG.1 this a0 hL_this hK_this (rg_w f_16 (by decide +kernel))) (cwV 2 hts (tw_V tw_361 tw_362 tw_363 tw_5 tw_364) rfl rfl rfl cv_yX12_cellAt_2 ⟨Nat.le_of_ble_eq_true rfl, Nat.le_of_ble_eq_true rfl⟩) ⟨pq_blind, pq_recv hK hP hL_this hK_this (by decide +kernel) rfl, pq_pre hK hN hP hD⟩ rfl rfl hl.1 rfl (lv_room (Nat.le_of_ble_eq_true rfl)) dX12_cellOf_166 ⟨Nat.le_of_ble_eq_true rfl, Nat.le_of_ble_eq_true rfl⟩) hD hS hA (fun x_146 σ1 μ1 H locs hw_147 hP hD hS => ?_)
          obtain ⟨hu_148, hfn_151⟩ := hw_147
          obtain ⟨hu_148a, hu_148b⟩ := Prod.mk.inj hu_148
          rw [hu_148a, hu_148b] at hP hD
          replace hF := hF.trans (bn_n hfn_151)
          subst hQ
          exact W.iret (v := x_146) hx hb hr (fun t1 ht hW => ⟨⟨x_146, (σ, I, J, ri, rj, rq), rfl, ⟨rfl, (hF0.symm.trans hF)⟩, by rw [ht]; exact hP, va_K.moved hW.alike hK, hD⟩, hS.F ht⟩) hS.2.2 dX12_cellOf_169
        · replace hF := hF.trans (if_pos c_141)
          have tc_153 : (x_134).toInt = 0 := congrArg Int32.toInt c_141
          have h_154 : rg x_134 0 0 := rg_and (rg_full _) (rg_of_eq c_141 (rg_k (0 : Int32) 0 rfl)) (by decide +kernel)
          have uh_154 := h_154.1
          have vh_154 := h_154.2
          refine lv_iconst (v := (-1)) hx hb dX12_cellOf_158 (by decide +kernel) ?_
          refine lv_goto (tgt := 169) hx hb dX12_cellOf_159 (by decide +kernel) ?_
          subst hQ
          exact W.iret (v := (-1)) hx hb hr (fun t1 ht hW => ⟨⟨(-1), (σ, I, J, ri, rj, rq), rfl, ⟨rfl, (hF0.symm.trans hF)⟩, by rw [ht]; exact hP, va_K.moved hW.alike hK, hD⟩, hS.F ht⟩) hS.2.2 dX12_cellOf_169
      replace hF := hF.trans (if_neg k_129)
      by_cases k_155 : a1 = (9 : Int32)
      · replace hF := hF.trans (if_pos k_155)
        have tc_158 : (a1).toInt = 9 := congrArg Int32.toInt k_155
        have h_159 : rg a1 9 9 := rg_and (rg_full _) (rg_of_eq k_155 (rg_k (9 : Int32) 9 rfl)) (by decide +kernel)
        have uh_159 := h_159.1
        have vh_159 := h_159.2
        refine lv_tov 9 k_155 ?_
        refine lv_tableIn (tgt := 170) hx hb dX12_cellOf_12 (by decide +kernel) (by decide +kernel) rfl (by decide +kernel) ?_
        refine lv_aload_n hx hb dX12_cellOf_170 rfl (lv_at hl 0 rfl) ?_
        refine lv_iload_n hx hb dX12_cellOf_171 rfl (lv_at hl 1 rfl) ?_
        refine lv_bipush (v := 11) hx hb dX12_cellOf_172 (by decide +kernel) ?_
        refine pk_i (va_runV (As := [.int a0, .int 11]) (rest := []) ⟨hx, hb, hml, hown, hts⟩ (s_X12_cellAt_c11 l D t σ I J ri rj rq H.size tg hSH hG.1 this a0 hL_this hK_this (rg_w f_16 (by decide +kernel))) (cwV 2 hts (tw_V tw_361 tw_362 tw_363 tw_5 tw_364) rfl rfl rfl cv_yX12_cellAt_2 ⟨Nat.le_of_ble_eq_true rfl, Nat.le_of_ble_eq_true rfl⟩) ⟨pq_blind, pq_recv hK hP hL_this hK_this (by decide +kernel) rfl, pq_pre hK hN hP hD⟩ rfl rfl hl.1 rfl (lv_room (Nat.le_of_ble_eq_true rfl)) dX12_cellOf_174 ⟨Nat.le_of_ble_eq_true rfl, Nat.le_of_ble_eq_true rfl⟩) hD hS hA (fun x_160 σ1 μ1 H locs hw_161 hP hD hS => ?_)
        obtain ⟨hu_162, hfn_165⟩ := hw_161
        obtain ⟨hu_162a, hu_162b⟩ := Prod.mk.inj hu_162
        rw [hu_162a, hu_162b] at hP hD
        replace hF := hF.trans (bn_n hfn_165)
        subst hQ
        exact W.iret (v := x_160) hx hb hr (fun t1 ht hW => ⟨⟨x_160, (σ, I, J, ri, rj, rq), rfl, ⟨rfl, (hF0.symm.trans hF)⟩, by rw [ht]; exact hP, va_K.moved hW.alike hK, hD⟩, hS.F ht⟩) hS.2.2 dX12_cellOf_177
      replace hF := hF.trans (if_neg k_155)
      by_cases k_167 : a1 = (10 : Int32)
      · replace hF := hF.trans (if_pos k_167)
        have tc_170 : (a1).toInt = 10 := congrArg Int32.toInt k_167
        have h_171 : rg a1 10 10 := rg_and (rg_full _) (rg_of_eq k_167 (rg_k (10 : Int32) 10 rfl)) (by decide +kernel)
        have uh_171 := h_171.1
        have vh_171 := h_171.2
        refine lv_tov 10 k_167 ?_
        refine lv_tableIn (tgt := 178) hx hb dX12_cellOf_12 (by decide +kernel) (by decide +kernel) rfl (by decide +kernel) ?_
        refine lv_aload_n hx hb dX12_cellOf_178 rfl (lv_at hl 0 rfl) ?_
        obtain ⟨w_172, hR_w_172, hL_w_172, hK_w_172, hN_w_172, hT_w_172⟩ := sh_a hSH 384 (ci := 12) (kd := 13) (len := 12720) rfl (by decide +kernel) hL_this hK_this
        have hO_w_172 : w_172 = vrow σ 384 this := vo_k (c := 12) hO_this hR_w_172
        refine pg_f (v := .ref w_172) (C := RX12) (T := TX12) (N := 31) hx hb hts (tw_i inlX12) hown hK hP hL_this hK_this (by decide +kernel) rfl 0 (by decide +kernel) (hts _ (tw_c tw_176)) (pq_hv rfl hR_w_172) dX12_cellOf_179 ?_
        refine lv_iconst (v := 0) hx hb dX12_cellOf_182 (by decide +kernel) ?_
        refine pl_i hx hb hK hP hL_w_172 hK_w_172 hN_w_172 (vp_in_iff.mpr (by decide +kernel)) dX12_cellOf_183 ?_
        refine lv_tov (ri w_172 0) rfl ?_
        have h_173 : rg (ri w_172 0) 0 600 := GM.z0 hG0 (by rw [hT_w_172]; decide) (i := 0) (k := 0) (by decide +kernel) rfl
        have uh_173 := h_173.1
        have vh_173 := h_173.2
        replace hF := hF.trans (ap_n (vR_r hO_w_172 (by decide +kernel) rfl))
        refine lv_if_ne (tgt := 191) hx hb dX12_cellOf_184 (by decide +kernel) (fun c_175 => ?_) (fun c_175 => ?_)
        · replace hF := hF.trans (if_neg c_175)
          have tc_180 : (ri w_172 0).toInt ≠ 0 := fun q => c_175 (Int32.toInt_inj.mp q)
          have h_181 : rg (ri w_172 0) 1 600 := rg_ne c_175 h_173 0 rfl (by decide +kernel)
          have uh_181 := h_181.1
          have vh_181 := h_181.2
          refine lv_aload_n hx hb dX12_cellOf_191 rfl (lv_at hl 0 rfl) ?_
          refine lv_iload_n hx hb dX12_cellOf_192 rfl (lv_at hl 1 rfl) ?_
          refine lv_bipush (v := 12) hx hb dX12_cellOf_193 (by decide +kernel) ?_
          refine pk_i (va_runV (As := [.int a0, .int 12]) (rest := []) ⟨hx, hb, hml, hown, hts⟩ (s_X12_cellAt_c12 l D t σ I J ri rj rq H.size tg hSH hG.1 this a0 hL_this hK_this (rg_w f_16 (by decide +kernel))) (cwV 2 hts (tw_V tw_361 tw_362 tw_363 tw_5 tw_364) rfl rfl rfl cv_yX12_cellAt_2 ⟨Nat.le_of_ble_eq_true rfl, Nat.le_of_ble_eq_true rfl⟩) ⟨pq_blind, pq_recv hK hP hL_this hK_this (by decide +kernel) rfl, pq_pre hK hN hP hD⟩ rfl rfl hl.1 rfl (lv_room (Nat.le_of_ble_eq_true rfl)) dX12_cellOf_195 ⟨Nat.le_of_ble_eq_true rfl, Nat.le_of_ble_eq_true rfl⟩) hD hS hA (fun x_182 σ1 μ1 H locs hw_183 hP hD hS => ?_)
          obtain ⟨hu_184, hfn_187⟩ := hw_183
          obtain ⟨hu_184a, hu_184b⟩ := Prod.mk.inj hu_184
          rw [hu_184a, hu_184b] at hP hD
          replace hF := hF.trans (bn_n hfn_187)
          subst hQ
          exact W.iret (v := x_182) hx hb hr (fun t1 ht hW => ⟨⟨x_182, (σ, I, J, ri, rj, rq), rfl, ⟨rfl, (hF0.symm.trans hF)⟩, by rw [ht]; exact hP, va_K.moved hW.alike hK, hD⟩, hS.F ht⟩) hS.2.2 dX12_cellOf_198
        · replace hF := hF.trans (if_pos c_175)
          have tc_189 : (ri w_172 0).toInt = 0 := congrArg Int32.toInt c_175
          have h_190 : rg (ri w_172 0) 0 0 := rg_and h_173 (rg_of_eq c_175 (rg_k (0 : Int32) 0 rfl)) (by decide +kernel)
          have uh_190 := h_190.1
          have vh_190 := h_190.2
          refine lv_iconst (v := (-1)) hx hb dX12_cellOf_187 (by decide +kernel) ?_
          refine lv_goto (tgt := 198) hx hb dX12_cellOf_188 (by decide +kernel) ?_
          subst hQ
          exact W.iret (v := (-1)) hx hb hr (fun t1 ht hW => ⟨⟨(-1), (σ, I, J, ri, rj, rq), rfl, ⟨rfl, (hF0.symm.trans hF)⟩, by rw [ht]; exact hP, va_K.moved hW.alike hK, hD⟩, hS.F ht⟩) hS.2.2 dX12_cellOf_198
      replace hF := hF.trans (if_neg k_167)
      by_cases k_191 : a1 = (11 : Int32)
      · replace hF := hF.trans (if_pos k_191)
        have tc_194 : (a1).toInt = 11 := congrArg Int32.toInt k_191
        have h_195 : rg a1 11 11 := rg_and (rg_full _) (rg_of_eq k_191 (rg_k (11 : Int32) 11 rfl)) (by decide +kernel)
        have uh_195 := h_195.1
        have vh_195 := h_195.2
        refine lv_tov 11 k_191 ?_
        refine lv_tableIn (tgt := 199) hx hb dX12_cellOf_12 (by decide +kernel) (by decide +kernel) rfl (by decide +kernel) ?_
        refine lv_aload_n hx hb dX12_cellOf_199 rfl (lv_at hl 0 rfl) ?_
        obtain ⟨w_196, hR_w_196, hL_w_196, hK_w_196, hN_w_196, hT_w_196⟩ := sh_a hSH 384 (ci := 12) (kd := 13) (len := 12720) rfl (by decide +kernel) hL_this hK_this
        have hO_w_196 : w_196 = vrow σ 384 this := vo_k (c := 12) hO_this hR_w_196
        refine pg_f (v := .ref w_196) (C := RX12) (T := TX12) (N := 31) hx hb hts (tw_i inlX12) hown hK hP hL_this hK_this (by decide +kernel) rfl 0 (by decide +kernel) (hts _ (tw_c tw_176)) (pq_hv rfl hR_w_196) dX12_cellOf_200 ?_
        refine lv_iconst (v := 0) hx hb dX12_cellOf_203 (by decide +kernel) ?_
        refine pl_i hx hb hK hP hL_w_196 hK_w_196 hN_w_196 (vp_in_iff.mpr (by decide +kernel)) dX12_cellOf_204 ?_
        refine lv_tov (ri w_196 0) rfl ?_
        have h_197 : rg (ri w_196 0) 0 600 := GM.z0 hG0 (by rw [hT_w_196]; decide) (i := 0) (k := 0) (by decide +kernel) rfl
        have uh_197 := h_197.1
        have vh_197 := h_197.2
        replace hF := hF.trans (ap_n (vR_r hO_w_196 (by decide +kernel) rfl))
        refine lv_if_ne (tgt := 212) hx hb dX12_cellOf_205 (by decide +kernel) (fun c_199 => ?_) (fun c_199 => ?_)
        · replace hF := hF.trans (if_neg c_199)
          have tc_204 : (ri w_196 0).toInt ≠ 0 := fun q => c_199 (Int32.toInt_inj.mp q)
          have h_205 : rg (ri w_196 0) 1 600 := rg_ne c_199 h_197 0 rfl (by decide +kernel)
          have uh_205 := h_205.1
          have vh_205 := h_205.2
          refine lv_aload_n hx hb dX12_cellOf_212 rfl (lv_at hl 0 rfl) ?_
          refine lv_iload_n hx hb dX12_cellOf_213 rfl (lv_at hl 1 rfl) ?_
          refine lv_bipush (v := 13) hx hb dX12_cellOf_214 (by decide +kernel) ?_
          refine pk_i (va_runV (As := [.int a0, .int 13]) (rest := []) ⟨hx, hb, hml, hown, hts⟩ (s_X12_cellAt_c13 l D t σ I J ri rj rq H.size tg hSH hG.1 this a0 hL_this hK_this (rg_w f_16 (by decide +kernel))) (cwV 2 hts (tw_V tw_361 tw_362 tw_363 tw_5 tw_364) rfl rfl rfl cv_yX12_cellAt_2 ⟨Nat.le_of_ble_eq_true rfl, Nat.le_of_ble_eq_true rfl⟩) ⟨pq_blind, pq_recv hK hP hL_this hK_this (by decide +kernel) rfl, pq_pre hK hN hP hD⟩ rfl rfl hl.1 rfl (lv_room (Nat.le_of_ble_eq_true rfl)) dX12_cellOf_216 ⟨Nat.le_of_ble_eq_true rfl, Nat.le_of_ble_eq_true rfl⟩) hD hS hA (fun x_206 σ1 μ1 H locs hw_207 hP hD hS => ?_)
          obtain ⟨hu_208, hfn_211⟩ := hw_207
          obtain ⟨hu_208a, hu_208b⟩ := Prod.mk.inj hu_208
          rw [hu_208a, hu_208b] at hP hD
          replace hF := hF.trans (bn_n hfn_211)
          subst hQ
          exact W.iret (v := x_206) hx hb hr (fun t1 ht hW => ⟨⟨x_206, (σ, I, J, ri, rj, rq), rfl, ⟨rfl, (hF0.symm.trans hF)⟩, by rw [ht]; exact hP, va_K.moved hW.alike hK, hD⟩, hS.F ht⟩) hS.2.2 dX12_cellOf_219
        · replace hF := hF.trans (if_pos c_199)
          have tc_213 : (ri w_196 0).toInt = 0 := congrArg Int32.toInt c_199
          have h_214 : rg (ri w_196 0) 0 0 := rg_and h_197 (rg_of_eq c_199 (rg_k (0 : Int32) 0 rfl)) (by decide +kernel)
          have uh_214 := h_214.1
          have vh_214 := h_214.2
          refine lv_iconst (v := (-1)) hx hb dX12_cellOf_208 (by decide +kernel) ?_
          refine lv_goto (tgt := 219) hx hb dX12_cellOf_209 (by decide +kernel) ?_
          subst hQ
          exact W.iret (v := (-1)) hx hb hr (fun t1 ht hW => ⟨⟨(-1), (σ, I, J, ri, rj, rq), rfl, ⟨rfl, (hF0.symm.trans hF)⟩, by rw [ht]; exact hP, va_K.moved hW.alike hK, hD⟩, hS.F ht⟩) hS.2.2 dX12_cellOf_219
      replace hF := hF.trans (if_neg k_191)
      refine lv_tableOut (tgt := 220) hx hb dX12_cellOf_12 (by have z_k_19 := sw_ne k_19 (n := 0) rfl; have z_k_31 := sw_ne k_31 (n := 1) rfl; have z_k_43 := sw_ne k_43 (n := 2) rfl; have z_k_55 := sw_ne k_55 (n := 3) rfl; have z_k_67 := sw_ne k_67 (n := 4) rfl; have z_k_79 := sw_ne k_79 (n := 5) rfl; have z_k_91 := sw_ne k_91 (n := 6) rfl; have z_k_103 := sw_ne k_103 (n := 7) rfl; have z_k_129 := sw_ne k_129 (n := 8) rfl; have z_k_155 := sw_ne k_155 (n := 9) rfl; have z_k_167 := sw_ne k_167 (n := 10) rfl; have z_k_191 := sw_ne k_191 (n := 11) rfl; omega) (by decide +kernel) ?_
      refine lv_ldc hx hb hown (hts _ (tw_c tw_288)) dX12_cellOf_220 ?_
      subst hQ
      exact W.iret (v := (-1000000)) hx hb hr (fun t1 ht hW => ⟨⟨(-1000000), (σ, I, J, ri, rj, rq), rfl, ⟨rfl, (hF0.symm.trans hF)⟩, by rw [ht]; exact hP, va_K.moved hW.alike hK, hD⟩, hS.F ht⟩) hS.2.2 dX12_cellOf_222
    · replace hF := hF.trans (if_pos c_9)
      have f_215 := (hr_5.resolve_left (fun q => absurd (q.1.symm.trans c_9) (by decide +kernel))).2
      have tc_216 : (x_1).toInt = 0 := congrArg Int32.toInt c_9
      have h_217 : rg x_1 0 0 := rg_and h_8 (rg_of_eq c_9 (rg_k (0 : Int32) 0 rfl)) (by decide +kernel)
      have uh_217 := h_217.1
      have vh_217 := h_217.2
      refine lv_ldc hx hb hown (hts _ (tw_c tw_288)) dX12_cellOf_8 ?_
      subst hQ
      exact W.iret (v := (-1000000)) hx hb hr (fun t1 ht hW => ⟨⟨(-1000000), (σ, I, J, ri, rj, rq), rfl, ⟨rfl, (hF0.symm.trans hF)⟩, by rw [ht]; exact hP, va_K.moved hW.alike hK, hD⟩, hS.F ht⟩) hS.2.2 dX12_cellOf_10
  exact go _ _ _ hP hD hS hl

set_option maxRecDepth 100000 in
def g_X12_personAt_c5 (a0 : Int32) (I : Nat → Int32) (J : Nat → Int64) (ri : Nat → Nat → Int32) (rj : Nat → Nat → Int64) (rq : Nat → Nat → Option Nat) : Int32 × vM := (ap1 ((12 : Int32) * a0) fun (x_1 : Int32) => (ap1 ((740 : Int32) + x_1) fun (x_3 : Int32) => (ap1 (x_3 + (5 : Int32)) fun (x_5 : Int32) => (ap1 (ri 384 (x_5).toNatClampNeg) fun (x_7 : Int32) => (x_7, I, J, ri, rj, rq)))))
set_option maxRecDepth 100000 in
theorem g_X12_personAt_c5_e {a0 : Int32} {I : Nat → Int32} {J : Nat → Int64} {ri : Nat → Nat → Int32} {rj : Nat → Nat → Int64} {rq : Nat → Nat → Option Nat} : g_X12_personAt_c5 a0 I J ri rj rq = (ap1 ((12 : Int32) * a0) fun (x_1 : Int32) => (ap1 ((740 : Int32) + x_1) fun (x_3 : Int32) => (ap1 (x_3 + (5 : Int32)) fun (x_5 : Int32) => (ap1 (ri 384 (x_5).toNatClampNeg) fun (x_7 : Int32) => (x_7, I, J, ri, rj, rq))))) := rfl
set_option maxHeartbeats 4000000 in
set_option maxRecDepth 100000 in
theorem s_X12_personAt_c5 (l : Launch) (D : va_G) (t : pq_T) (σ : pq_S) (I : Nat → Nat → Int32) (J : Nat → Nat → Int64) (ri : Nat → Nat → Int32) (rj : Nat → Nat → Int64) (rq : Nat → Nat → Option Nat) (sz : Nat) (tg : Nat → Nat) (hSH : SH σ tg) (hG0 : GT tg I ri) (this : Nat) (a0 : Int32) (hL_this : this ∈ σ.1) (hK_this : σ.2.1 this = 12) (h_a0 : rg a0 0 39) (this_a : Nat) (hR_this_a : σ.2.2.1 384 this = some this_a) (hL_this_a : this_a ∈ σ.1) (hK_this_a : σ.2.1 this_a = 13) (hN_this_a : σ.2.2.2 this_a = 12720) (hT_this_a : tg this_a = 384) : MetI l yX12_personAt (wa yX12_personAt cX12_personAt 3 (some .int)) ({ frames := 0, cells := 0, slots := 0, locals := 0 }) [.ref this, .int a0, .int 5] D t σ (I, J, ri, rj, rq) sz 0 0 (fun (r : Int32) (u : pq_S × pq_M) => u = (σ, I, J, ri, rj, rq) ∧ (r = ri this_a (745 + 12 * a0.toNatClampNeg)) ∧ g_X12_personAt_c5 a0 (vI 12 σ this I) (vJ 12 σ this J) (vR 12 σ this ri) (vL 12 σ this rj) (vQ 12 σ this rq) = (r, (vI 12 σ this I), (vJ 12 σ this J), (vR 12 σ this ri), (vL 12 σ this rj), (vQ 12 σ this rq))) := by
  refine Met.ofW (cc := cX12_personAt) (maxL := 3) (ret := (some .int)) (by decide +kernel) rfl ?_
  intro p e s m args below meth c s₁ B hml hv
  obtain ⟨rfl, hsz, hP, hK, hD0, hN⟩ := hv
  have hx := B.exec
  have hb := B.bytes
  have hr := B.returns
  have hts := atoms_spec (ws := (wa yX12_personAt cX12_personAt 3 (some .int))) B.pre
  have hown : s.vm.findClass RX12 = some m.cls := findClass_of_methodNamed B.named
  have hlocks := B.notSynchronized
  subst hsz
  have hD : va_D (pq_B t σ (I, J, ri, rj, rq) s.heap.size) (pq_P t σ (I, J, ri, rj, rq)) := hD0.self
  generalize hAe : pq_B t σ (I, J, ri, rj, rq) s.heap.size = A at hD ⊢
  have hA : ∀ q : Nat, s.heap.size ≤ q → A q := fun q h => by rw [← hAe]; exact Or.inr h
  have hS : va_S A s.heap s.heap [] := va_S.rf
  have hG : GM [] tg σ I ri I ri rq := ⟨hG0, fun _ _ _ => rfl, fun _ _ _ _ _ => rfl, fun _ _ _ _ _ _ => rfl⟩
  have hl := lv_entry ([.ref this, .int a0, .int 5]) (n := 3) (Nat.le_of_ble_eq_true rfl)
  rw [lg_entry_eq]
  generalize (lg_sl ([.ref this, .int a0, .int 5]) ++ List.replicate (3 - (lg_sl ([.ref this, .int a0, .int 5])).length) Slot.unset).toArray = ls at hl ⊢
  have hl : lv_has ls 3 [(0, .ref this), (1, .int a0), (2, .int 5)] := hl
  refine q_gen (fun Q hQ => ?_)
  have go : ∀ (H : Heap) (locs : List Loc) (ls : Array Slot), va_P D vwCl (pq_P t σ (I, J, ri, rj, rq)) H → va_D A (pq_P t σ (I, J, ri, rj, rq)) → va_S A s.heap H locs → lv_has ls 3 [(0, .ref this), (1, .int a0), (2, .int 5)] → W p l e ({ frames := 0, cells := 0, slots := 0, locals := 0 } : Room) s m (List.toArray ([.ref this, .int a0, .int 5] : List Value)) below meth c H locs 0 0 Q (F0 m 0 ls []) := by
    intro H locs ls hP hD hS hl
    have hO_this : this = vo σ 12 this := rfl
    have hVT : VT 12 σ tg this := vt_12 hSH hL_this hK_this
    have hFr : FR 12 tg σ this (I, J, ri, rj, rq) (I, J, ri, rj, rq) := fr_rf
    have hO_this_a : this_a = vrow σ 384 this := vo_k (c := 12) hO_this hR_this_a
    obtain ⟨F, hF0⟩ : ∃ F, F = g_X12_personAt_c5 a0 (vI 12 σ this I) (vJ 12 σ this J) (vR 12 σ this ri) (vL 12 σ this rj) (vQ 12 σ this rq) := ⟨_, rfl⟩
    have hF := hF0.trans g_X12_personAt_c5_e
    refine lv_aload_n hx hb dX12_personAt_0 rfl (lv_at hl 0 rfl) ?_
    refine pg_f (v := .ref this_a) (C := RX12) (T := TX12) (N := 31) hx hb hts (tw_i inlX12) hown hK hP hL_this hK_this (by decide +kernel) rfl 0 (by decide +kernel) (hts _ (tw_c tw_176)) (pq_hv rfl hR_this_a) dX12_personAt_1 ?_
    refine lv_sipush (v := 740) hx hb dX12_personAt_4 (by decide +kernel) ?_
    refine lv_bipush (v := 12) hx hb dX12_personAt_7 (by decide +kernel) ?_
    refine lv_iload_n hx hb dX12_personAt_9 rfl (lv_at hl 1 rfl) ?_
    refine lv_imul hx hb dX12_personAt_10 ?_
    refine lv_topi (fun x_1 ex_1 => ?_)
    replace hF := hF.trans (ap_n ex_1)
    have h_2 : rg x_1 0 468 := rg_of_eq ex_1 (rg_mul (rg_k (12 : Int32) 12 rfl) h_a0 (by decide +kernel))
    have uh_2 := h_2.1
    have vh_2 := h_2.2
    have tx_1 : (x_1).toInt = 12 * (a0).toInt := by rw [ex_1]; exact i_mul_rg (a2 := 12) (b2 := (a0).toInt) rfl rfl (rg_k (12 : Int32) 12 rfl) h_a0 (by decide +kernel)
    refine lv_iadd hx hb dX12_personAt_11 ?_
    refine lv_topi (fun x_3 ex_3 => ?_)
    replace hF := hF.trans (ap_n ex_3)
    have h_4 : rg x_3 740 1208 := rg_of_eq ex_3 (rg_add (rg_k (740 : Int32) 740 rfl) h_2 (by decide +kernel))
    have uh_4 := h_4.1
    have vh_4 := h_4.2
    have tx_3 : (x_3).toInt = 740 + (x_1).toInt := by rw [ex_3]; exact i_add_rg (a2 := 740) (b2 := (x_1).toInt) rfl rfl (rg_k (740 : Int32) 740 rfl) h_2 (by decide +kernel)
    refine lv_iload_n hx hb dX12_personAt_12 rfl (lv_at hl 2 rfl) ?_
    refine lv_iadd hx hb dX12_personAt_13 ?_
    refine lv_topi (fun x_5 ex_5 => ?_)
    replace hF := hF.trans (ap_n ex_5)
    have h_6 : rg x_5 745 1213 := rg_of_eq ex_5 (rg_add h_4 (rg_k (5 : Int32) 5 rfl) (by decide +kernel))
    have uh_6 := h_6.1
    have vh_6 := h_6.2
    have tx_5 : (x_5).toInt = (x_3).toInt + 5 := by rw [ex_5]; exact i_add_rg (a2 := (x_3).toInt) (b2 := 5) rfl rfl h_4 (rg_k (5 : Int32) 5 rfl) (by decide +kernel)
    refine pl_i hx hb hK hP hL_this_a hK_this_a hN_this_a (rg_in h_6 (by decide +kernel)) dX12_personAt_14 ?_
    refine lv_topi (fun x_7 ex_7 => ?_)
    replace hF := hF.trans (ap_n (vR_r hO_this_a (by decide +kernel) ex_7))
    subst hQ
    exact W.iret (v := x_7) hx hb hr (fun t1 ht hW => ⟨⟨x_7, (σ, I, J, ri, rj, rq), rfl, ⟨rfl, (show x_7 = ri this_a (745 + 12 * a0.toNatClampNeg) from ex_7.trans (congrArg (ri this_a) (by have z0 := clampE a0; have z1 := clampE x_5; omega))), (hF0.symm.trans hF)⟩, by rw [ht]; exact hP, va_K.moved hW.alike hK, hD⟩, hS.F ht⟩) hS.2.2 dX12_personAt_15
  exact go _ _ _ hP hD hS hl

set_option maxRecDepth 100000 in
def g_X12_personAt_c6 (a0 : Int32) (I : Nat → Int32) (J : Nat → Int64) (ri : Nat → Nat → Int32) (rj : Nat → Nat → Int64) (rq : Nat → Nat → Option Nat) : Int32 × vM := (ap1 ((12 : Int32) * a0) fun (x_1 : Int32) => (ap1 ((740 : Int32) + x_1) fun (x_3 : Int32) => (ap1 (x_3 + (6 : Int32)) fun (x_5 : Int32) => (ap1 (ri 384 (x_5).toNatClampNeg) fun (x_7 : Int32) => (x_7, I, J, ri, rj, rq)))))
set_option maxRecDepth 100000 in
theorem g_X12_personAt_c6_e {a0 : Int32} {I : Nat → Int32} {J : Nat → Int64} {ri : Nat → Nat → Int32} {rj : Nat → Nat → Int64} {rq : Nat → Nat → Option Nat} : g_X12_personAt_c6 a0 I J ri rj rq = (ap1 ((12 : Int32) * a0) fun (x_1 : Int32) => (ap1 ((740 : Int32) + x_1) fun (x_3 : Int32) => (ap1 (x_3 + (6 : Int32)) fun (x_5 : Int32) => (ap1 (ri 384 (x_5).toNatClampNeg) fun (x_7 : Int32) => (x_7, I, J, ri, rj, rq))))) := rfl
set_option maxHeartbeats 4000000 in
set_option maxRecDepth 100000 in
theorem s_X12_personAt_c6 (l : Launch) (D : va_G) (t : pq_T) (σ : pq_S) (I : Nat → Nat → Int32) (J : Nat → Nat → Int64) (ri : Nat → Nat → Int32) (rj : Nat → Nat → Int64) (rq : Nat → Nat → Option Nat) (sz : Nat) (tg : Nat → Nat) (hSH : SH σ tg) (hG0 : GT tg I ri) (this : Nat) (a0 : Int32) (hL_this : this ∈ σ.1) (hK_this : σ.2.1 this = 12) (h_a0 : rg a0 0 39) (this_a : Nat) (hR_this_a : σ.2.2.1 384 this = some this_a) (hL_this_a : this_a ∈ σ.1) (hK_this_a : σ.2.1 this_a = 13) (hN_this_a : σ.2.2.2 this_a = 12720) (hT_this_a : tg this_a = 384) : MetI l yX12_personAt (wa yX12_personAt cX12_personAt 3 (some .int)) ({ frames := 0, cells := 0, slots := 0, locals := 0 }) [.ref this, .int a0, .int 6] D t σ (I, J, ri, rj, rq) sz 0 0 (fun (r : Int32) (u : pq_S × pq_M) => u = (σ, I, J, ri, rj, rq) ∧ (r = ri this_a (746 + 12 * a0.toNatClampNeg)) ∧ g_X12_personAt_c6 a0 (vI 12 σ this I) (vJ 12 σ this J) (vR 12 σ this ri) (vL 12 σ this rj) (vQ 12 σ this rq) = (r, (vI 12 σ this I), (vJ 12 σ this J), (vR 12 σ this ri), (vL 12 σ this rj), (vQ 12 σ this rq))) := by
  refine Met.ofW (cc := cX12_personAt) (maxL := 3) (ret := (some .int)) (by decide +kernel) rfl ?_
  intro p e s m args below meth c s₁ B hml hv
  obtain ⟨rfl, hsz, hP, hK, hD0, hN⟩ := hv
  have hx := B.exec
  have hb := B.bytes
  have hr := B.returns
  have hts := atoms_spec (ws := (wa yX12_personAt cX12_personAt 3 (some .int))) B.pre
  have hown : s.vm.findClass RX12 = some m.cls := findClass_of_methodNamed B.named
  have hlocks := B.notSynchronized
  subst hsz
  have hD : va_D (pq_B t σ (I, J, ri, rj, rq) s.heap.size) (pq_P t σ (I, J, ri, rj, rq)) := hD0.self
  generalize hAe : pq_B t σ (I, J, ri, rj, rq) s.heap.size = A at hD ⊢
  have hA : ∀ q : Nat, s.heap.size ≤ q → A q := fun q h => by rw [← hAe]; exact Or.inr h
  have hS : va_S A s.heap s.heap [] := va_S.rf
  have hG : GM [] tg σ I ri I ri rq := ⟨hG0, fun _ _ _ => rfl, fun _ _ _ _ _ => rfl, fun _ _ _ _ _ _ => rfl⟩
  have hl := lv_entry ([.ref this, .int a0, .int 6]) (n := 3) (Nat.le_of_ble_eq_true rfl)
  rw [lg_entry_eq]
  generalize (lg_sl ([.ref this, .int a0, .int 6]) ++ List.replicate (3 - (lg_sl ([.ref this, .int a0, .int 6])).length) Slot.unset).toArray = ls at hl ⊢
  have hl : lv_has ls 3 [(0, .ref this), (1, .int a0), (2, .int 6)] := hl
  refine q_gen (fun Q hQ => ?_)
  have go : ∀ (H : Heap) (locs : List Loc) (ls : Array Slot), va_P D vwCl (pq_P t σ (I, J, ri, rj, rq)) H → va_D A (pq_P t σ (I, J, ri, rj, rq)) → va_S A s.heap H locs → lv_has ls 3 [(0, .ref this), (1, .int a0), (2, .int 6)] → W p l e ({ frames := 0, cells := 0, slots := 0, locals := 0 } : Room) s m (List.toArray ([.ref this, .int a0, .int 6] : List Value)) below meth c H locs 0 0 Q (F0 m 0 ls []) := by
    intro H locs ls hP hD hS hl
    have hO_this : this = vo σ 12 this := rfl
    have hVT : VT 12 σ tg this := vt_12 hSH hL_this hK_this
    have hFr : FR 12 tg σ this (I, J, ri, rj, rq) (I, J, ri, rj, rq) := fr_rf
    have hO_this_a : this_a = vrow σ 384 this := vo_k (c := 12) hO_this hR_this_a
    obtain ⟨F, hF0⟩ : ∃ F, F = g_X12_personAt_c6 a0 (vI 12 σ this I) (vJ 12 σ this J) (vR 12 σ this ri) (vL 12 σ this rj) (vQ 12 σ this rq) := ⟨_, rfl⟩
    have hF := hF0.trans g_X12_personAt_c6_e
    refine lv_aload_n hx hb dX12_personAt_0 rfl (lv_at hl 0 rfl) ?_
    refine pg_f (v := .ref this_a) (C := RX12) (T := TX12) (N := 31) hx hb hts (tw_i inlX12) hown hK hP hL_this hK_this (by decide +kernel) rfl 0 (by decide +kernel) (hts _ (tw_c tw_176)) (pq_hv rfl hR_this_a) dX12_personAt_1 ?_
    refine lv_sipush (v := 740) hx hb dX12_personAt_4 (by decide +kernel) ?_
    refine lv_bipush (v := 12) hx hb dX12_personAt_7 (by decide +kernel) ?_
    refine lv_iload_n hx hb dX12_personAt_9 rfl (lv_at hl 1 rfl) ?_
    refine lv_imul hx hb dX12_personAt_10 ?_
    refine lv_topi (fun x_1 ex_1 => ?_)
    replace hF := hF.trans (ap_n ex_1)
    have h_2 : rg x_1 0 468 := rg_of_eq ex_1 (rg_mul (rg_k (12 : Int32) 12 rfl) h_a0 (by decide +kernel))
    have uh_2 := h_2.1
    have vh_2 := h_2.2
    have tx_1 : (x_1).toInt = 12 * (a0).toInt := by rw [ex_1]; exact i_mul_rg (a2 := 12) (b2 := (a0).toInt) rfl rfl (rg_k (12 : Int32) 12 rfl) h_a0 (by decide +kernel)
    refine lv_iadd hx hb dX12_personAt_11 ?_
    refine lv_topi (fun x_3 ex_3 => ?_)
    replace hF := hF.trans (ap_n ex_3)
    have h_4 : rg x_3 740 1208 := rg_of_eq ex_3 (rg_add (rg_k (740 : Int32) 740 rfl) h_2 (by decide +kernel))
    have uh_4 := h_4.1
    have vh_4 := h_4.2
    have tx_3 : (x_3).toInt = 740 + (x_1).toInt := by rw [ex_3]; exact i_add_rg (a2 := 740) (b2 := (x_1).toInt) rfl rfl (rg_k (740 : Int32) 740 rfl) h_2 (by decide +kernel)
    refine lv_iload_n hx hb dX12_personAt_12 rfl (lv_at hl 2 rfl) ?_
    refine lv_iadd hx hb dX12_personAt_13 ?_
    refine lv_topi (fun x_5 ex_5 => ?_)
    replace hF := hF.trans (ap_n ex_5)
    have h_6 : rg x_5 746 1214 := rg_of_eq ex_5 (rg_add h_4 (rg_k (6 : Int32) 6 rfl) (by decide +kernel))
    have uh_6 := h_6.1
    have vh_6 := h_6.2
    have tx_5 : (x_5).toInt = (x_3).toInt + 6 := by rw [ex_5]; exact i_add_rg (a2 := (x_3).toInt) (b2 := 6) rfl rfl h_4 (rg_k (6 : Int32) 6 rfl) (by decide +kernel)
    refine pl_i hx hb hK hP hL_this_a hK_this_a hN_this_a (rg_in h_6 (by decide +kernel)) dX12_personAt_14 ?_
    refine lv_topi (fun x_7 ex_7 => ?_)
    replace hF := hF.trans (ap_n (vR_r hO_this_a (by decide +kernel) ex_7))
    subst hQ
    exact W.iret (v := x_7) hx hb hr (fun t1 ht hW => ⟨⟨x_7, (σ, I, J, ri, rj, rq), rfl, ⟨rfl, (show x_7 = ri this_a (746 + 12 * a0.toNatClampNeg) from ex_7.trans (congrArg (ri this_a) (by have z0 := clampE a0; have z1 := clampE x_5; omega))), (hF0.symm.trans hF)⟩, by rw [ht]; exact hP, va_K.moved hW.alike hK, hD⟩, hS.F ht⟩) hS.2.2 dX12_personAt_15
  exact go _ _ _ hP hD hS hl

set_option maxRecDepth 100000 in
def g_X12_personAt_c7 (a0 : Int32) (I : Nat → Int32) (J : Nat → Int64) (ri : Nat → Nat → Int32) (rj : Nat → Nat → Int64) (rq : Nat → Nat → Option Nat) : Int32 × vM := (ap1 ((12 : Int32) * a0) fun (x_1 : Int32) => (ap1 ((740 : Int32) + x_1) fun (x_3 : Int32) => (ap1 (x_3 + (7 : Int32)) fun (x_5 : Int32) => (ap1 (ri 384 (x_5).toNatClampNeg) fun (x_7 : Int32) => (x_7, I, J, ri, rj, rq)))))
set_option maxRecDepth 100000 in
theorem g_X12_personAt_c7_e {a0 : Int32} {I : Nat → Int32} {J : Nat → Int64} {ri : Nat → Nat → Int32} {rj : Nat → Nat → Int64} {rq : Nat → Nat → Option Nat} : g_X12_personAt_c7 a0 I J ri rj rq = (ap1 ((12 : Int32) * a0) fun (x_1 : Int32) => (ap1 ((740 : Int32) + x_1) fun (x_3 : Int32) => (ap1 (x_3 + (7 : Int32)) fun (x_5 : Int32) => (ap1 (ri 384 (x_5).toNatClampNeg) fun (x_7 : Int32) => (x_7, I, J, ri, rj, rq))))) := rfl
set_option maxHeartbeats 4000000 in
set_option maxRecDepth 100000 in
theorem s_X12_personAt_c7 (l : Launch) (D : va_G) (t : pq_T) (σ : pq_S) (I : Nat → Nat → Int32) (J : Nat → Nat → Int64) (ri : Nat → Nat → Int32) (rj : Nat → Nat → Int64) (rq : Nat → Nat → Option Nat) (sz : Nat) (tg : Nat → Nat) (hSH : SH σ tg) (hG0 : GT tg I ri) (this : Nat) (a0 : Int32) (hL_this : this ∈ σ.1) (hK_this : σ.2.1 this = 12) (h_a0 : rg a0 0 39) (this_a : Nat) (hR_this_a : σ.2.2.1 384 this = some this_a) (hL_this_a : this_a ∈ σ.1) (hK_this_a : σ.2.1 this_a = 13) (hN_this_a : σ.2.2.2 this_a = 12720) (hT_this_a : tg this_a = 384) : MetI l yX12_personAt (wa yX12_personAt cX12_personAt 3 (some .int)) ({ frames := 0, cells := 0, slots := 0, locals := 0 }) [.ref this, .int a0, .int 7] D t σ (I, J, ri, rj, rq) sz 0 0 (fun (r : Int32) (u : pq_S × pq_M) => u = (σ, I, J, ri, rj, rq) ∧ (r = ri this_a (747 + 12 * a0.toNatClampNeg)) ∧ g_X12_personAt_c7 a0 (vI 12 σ this I) (vJ 12 σ this J) (vR 12 σ this ri) (vL 12 σ this rj) (vQ 12 σ this rq) = (r, (vI 12 σ this I), (vJ 12 σ this J), (vR 12 σ this ri), (vL 12 σ this rj), (vQ 12 σ this rq))) := by
  refine Met.ofW (cc := cX12_personAt) (maxL := 3) (ret := (some .int)) (by decide +kernel) rfl ?_
  intro p e s m args below meth c s₁ B hml hv
  obtain ⟨rfl, hsz, hP, hK, hD0, hN⟩ := hv
  have hx := B.exec
  have hb := B.bytes
  have hr := B.returns
  have hts := atoms_spec (ws := (wa yX12_personAt cX12_personAt 3 (some .int))) B.pre
  have hown : s.vm.findClass RX12 = some m.cls := findClass_of_methodNamed B.named
  have hlocks := B.notSynchronized
  subst hsz
  have hD : va_D (pq_B t σ (I, J, ri, rj, rq) s.heap.size) (pq_P t σ (I, J, ri, rj, rq)) := hD0.self
  generalize hAe : pq_B t σ (I, J, ri, rj, rq) s.heap.size = A at hD ⊢
  have hA : ∀ q : Nat, s.heap.size ≤ q → A q := fun q h => by rw [← hAe]; exact Or.inr h
  have hS : va_S A s.heap s.heap [] := va_S.rf
  have hG : GM [] tg σ I ri I ri rq := ⟨hG0, fun _ _ _ => rfl, fun _ _ _ _ _ => rfl, fun _ _ _ _ _ _ => rfl⟩
  have hl := lv_entry ([.ref this, .int a0, .int 7]) (n := 3) (Nat.le_of_ble_eq_true rfl)
  rw [lg_entry_eq]
  generalize (lg_sl ([.ref this, .int a0, .int 7]) ++ List.replicate (3 - (lg_sl ([.ref this, .int a0, .int 7])).length) Slot.unset).toArray = ls at hl ⊢
  have hl : lv_has ls 3 [(0, .ref this), (1, .int a0), (2, .int 7)] := hl
  refine q_gen (fun Q hQ => ?_)
  have go : ∀ (H : Heap) (locs : List Loc) (ls : Array Slot), va_P D vwCl (pq_P t σ (I, J, ri, rj, rq)) H → va_D A (pq_P t σ (I, J, ri, rj, rq)) → va_S A s.heap H locs → lv_has ls 3 [(0, .ref this), (1, .int a0), (2, .int 7)] → W p l e ({ frames := 0, cells := 0, slots := 0, locals := 0 } : Room) s m (List.toArray ([.ref this, .int a0, .int 7] : List Value)) below meth c H locs 0 0 Q (F0 m 0 ls []) := by
    intro H locs ls hP hD hS hl
    have hO_this : this = vo σ 12 this := rfl
    have hVT : VT 12 σ tg this := vt_12 hSH hL_this hK_this
    have hFr : FR 12 tg σ this (I, J, ri, rj, rq) (I, J, ri, rj, rq) := fr_rf
    have hO_this_a : this_a = vrow σ 384 this := vo_k (c := 12) hO_this hR_this_a
    obtain ⟨F, hF0⟩ : ∃ F, F = g_X12_personAt_c7 a0 (vI 12 σ this I) (vJ 12 σ this J) (vR 12 σ this ri) (vL 12 σ this rj) (vQ 12 σ this rq) := ⟨_, rfl⟩
    have hF := hF0.trans g_X12_personAt_c7_e
    refine lv_aload_n hx hb dX12_personAt_0 rfl (lv_at hl 0 rfl) ?_
    refine pg_f (v := .ref this_a) (C := RX12) (T := TX12) (N := 31) hx hb hts (tw_i inlX12) hown hK hP hL_this hK_this (by decide +kernel) rfl 0 (by decide +kernel) (hts _ (tw_c tw_176)) (pq_hv rfl hR_this_a) dX12_personAt_1 ?_
    refine lv_sipush (v := 740) hx hb dX12_personAt_4 (by decide +kernel) ?_
    refine lv_bipush (v := 12) hx hb dX12_personAt_7 (by decide +kernel) ?_
    refine lv_iload_n hx hb dX12_personAt_9 rfl (lv_at hl 1 rfl) ?_
    refine lv_imul hx hb dX12_personAt_10 ?_
    refine lv_topi (fun x_1 ex_1 => ?_)
    replace hF := hF.trans (ap_n ex_1)
    have h_2 : rg x_1 0 468 := rg_of_eq ex_1 (rg_mul (rg_k (12 : Int32) 12 rfl) h_a0 (by decide +kernel))
    have uh_2 := h_2.1
    have vh_2 := h_2.2
    have tx_1 : (x_1).toInt = 12 * (a0).toInt := by rw [ex_1]; exact i_mul_rg (a2 := 12) (b2 := (a0).toInt) rfl rfl (rg_k (12 : Int32) 12 rfl) h_a0 (by decide +kernel)
    refine lv_iadd hx hb dX12_personAt_11 ?_
    refine lv_topi (fun x_3 ex_3 => ?_)
    replace hF := hF.trans (ap_n ex_3)
    have h_4 : rg x_3 740 1208 := rg_of_eq ex_3 (rg_add (rg_k (740 : Int32) 740 rfl) h_2 (by decide +kernel))
    have uh_4 := h_4.1
    have vh_4 := h_4.2
    have tx_3 : (x_3).toInt = 740 + (x_1).toInt := by rw [ex_3]; exact i_add_rg (a2 := 740) (b2 := (x_1).toInt) rfl rfl (rg_k (740 : Int32) 740 rfl) h_2 (by decide +kernel)
    refine lv_iload_n hx hb dX12_personAt_12 rfl (lv_at hl 2 rfl) ?_
    refine lv_iadd hx hb dX12_personAt_13 ?_
    refine lv_topi (fun x_5 ex_5 => ?_)
    replace hF := hF.trans (ap_n ex_5)
    have h_6 : rg x_5 747 1215 := rg_of_eq ex_5 (rg_add h_4 (rg_k (7 : Int32) 7 rfl) (by decide +kernel))
    have uh_6 := h_6.1
    have vh_6 := h_6.2
    have tx_5 : (x_5).toInt = (x_3).toInt + 7 := by rw [ex_5]; exact i_add_rg (a2 := (x_3).toInt) (b2 := 7) rfl rfl h_4 (rg_k (7 : Int32) 7 rfl) (by decide +kernel)
    refine pl_i hx hb hK hP hL_this_a hK_this_a hN_this_a (rg_in h_6 (by decide +kernel)) dX12_personAt_14 ?_
    refine lv_topi (fun x_7 ex_7 => ?_)
    replace hF := hF.trans (ap_n (vR_r hO_this_a (by decide +kernel) ex_7))
    subst hQ
    exact W.iret (v := x_7) hx hb hr (fun t1 ht hW => ⟨⟨x_7, (σ, I, J, ri, rj, rq), rfl, ⟨rfl, (show x_7 = ri this_a (747 + 12 * a0.toNatClampNeg) from ex_7.trans (congrArg (ri this_a) (by have z0 := clampE a0; have z1 := clampE x_5; omega))), (hF0.symm.trans hF)⟩, by rw [ht]; exact hP, va_K.moved hW.alike hK, hD⟩, hS.F ht⟩) hS.2.2 dX12_personAt_15
  exact go _ _ _ hP hD hS hl

set_option maxRecDepth 100000 in
def g_X12_personOf (a0 : Int32) (a1 : Int32) (I : Nat → Int32) (J : Nat → Int64) (ri : Nat → Nat → Int32) (rj : Nat → Nat → Int64) (rq : Nat → Nat → Option Nat) : Int32 × vM := (bnI (g_X12_isPerson a0 I J ri rj rq) fun (x_1 : Int32) (_ : Nat → Int32) (_ : Nat → Int64) (_ : Nat → Nat → Int32) (_ : Nat → Nat → Int64) (_ : Nat → Nat → Option Nat) => (if x_1 = (0 : Int32) then ((-1 : Int32), I, J, ri, rj, rq) else (if a1 = (0 : Int32) then (bnI (g_X12_personAt_c3 a0 I J ri rj rq) fun (x_25 : Int32) (_ : Nat → Int32) (_ : Nat → Int64) (_ : Nat → Nat → Int32) (_ : Nat → Nat → Int64) (_ : Nat → Nat → Option Nat) => (x_25, I, J, ri, rj, rq)) else (if a1 = (1 : Int32) then (bnI (g_X12_personAt_c0 a0 I J ri rj rq) fun (x_41 : Int32) (_ : Nat → Int32) (_ : Nat → Int64) (_ : Nat → Nat → Int32) (_ : Nat → Nat → Int64) (_ : Nat → Nat → Option Nat) => (x_41, I, J, ri, rj, rq)) else (if a1 = (2 : Int32) then (bnI (g_X12_personAt_c1 a0 I J ri rj rq) fun (x_55 : Int32) (_ : Nat → Int32) (_ : Nat → Int64) (_ : Nat → Nat → Int32) (_ : Nat → Nat → Int64) (_ : Nat → Nat → Option Nat) => (x_55, I, J, ri, rj, rq)) else (if a1 = (3 : Int32) then (bnI (g_X12_personAt_c2 a0 I J ri rj rq) fun (x_69 : Int32) (_ : Nat → Int32) (_ : Nat → Int64) (_ : Nat → Nat → Int32) (_ : Nat → Nat → Int64) (_ : Nat → Nat → Option Nat) => (x_69, I, J, ri, rj, rq)) else (if a1 = (4 : Int32) then (bnI (g_X12_personAt_c4 a0 I J ri rj rq) fun (x_83 : Int32) (_ : Nat → Int32) (_ : Nat → Int64) (_ : Nat → Nat → Int32) (_ : Nat → Nat → Int64) (_ : Nat → Nat → Option Nat) => (x_83, I, J, ri, rj, rq)) else (if a1 = (5 : Int32) then (bnI (g_X12_personAt_c5 a0 I J ri rj rq) fun (x_97 : Int32) (_ : Nat → Int32) (_ : Nat → Int64) (_ : Nat → Nat → Int32) (_ : Nat → Nat → Int64) (_ : Nat → Nat → Option Nat) => (x_97, I, J, ri, rj, rq)) else (if a1 = (6 : Int32) then (bnI (g_X12_personAt_c6 a0 I J ri rj rq) fun (x_111 : Int32) (_ : Nat → Int32) (_ : Nat → Int64) (_ : Nat → Nat → Int32) (_ : Nat → Nat → Int64) (_ : Nat → Nat → Option Nat) => (x_111, I, J, ri, rj, rq)) else (if a1 = (7 : Int32) then (bnI (g_X12_personAt_c7 a0 I J ri rj rq) fun (x_125 : Int32) (_ : Nat → Int32) (_ : Nat → Int64) (_ : Nat → Nat → Int32) (_ : Nat → Nat → Int64) (_ : Nat → Nat → Option Nat) => (x_125, I, J, ri, rj, rq)) else ((-1 : Int32), I, J, ri, rj, rq)))))))))))
set_option maxRecDepth 100000 in
theorem g_X12_personOf_e {a0 : Int32} {a1 : Int32} {I : Nat → Int32} {J : Nat → Int64} {ri : Nat → Nat → Int32} {rj : Nat → Nat → Int64} {rq : Nat → Nat → Option Nat} : g_X12_personOf a0 a1 I J ri rj rq = (bnI (g_X12_isPerson a0 I J ri rj rq) fun (x_1 : Int32) (_ : Nat → Int32) (_ : Nat → Int64) (_ : Nat → Nat → Int32) (_ : Nat → Nat → Int64) (_ : Nat → Nat → Option Nat) => (if x_1 = (0 : Int32) then ((-1 : Int32), I, J, ri, rj, rq) else (if a1 = (0 : Int32) then (bnI (g_X12_personAt_c3 a0 I J ri rj rq) fun (x_25 : Int32) (_ : Nat → Int32) (_ : Nat → Int64) (_ : Nat → Nat → Int32) (_ : Nat → Nat → Int64) (_ : Nat → Nat → Option Nat) => (x_25, I, J, ri, rj, rq)) else (if a1 = (1 : Int32) then (bnI (g_X12_personAt_c0 a0 I J ri rj rq) fun (x_41 : Int32) (_ : Nat → Int32) (_ : Nat → Int64) (_ : Nat → Nat → Int32) (_ : Nat → Nat → Int64) (_ : Nat → Nat → Option Nat) => (x_41, I, J, ri, rj, rq)) else (if a1 = (2 : Int32) then (bnI (g_X12_personAt_c1 a0 I J ri rj rq) fun (x_55 : Int32) (_ : Nat → Int32) (_ : Nat → Int64) (_ : Nat → Nat → Int32) (_ : Nat → Nat → Int64) (_ : Nat → Nat → Option Nat) => (x_55, I, J, ri, rj, rq)) else (if a1 = (3 : Int32) then (bnI (g_X12_personAt_c2 a0 I J ri rj rq) fun (x_69 : Int32) (_ : Nat → Int32) (_ : Nat → Int64) (_ : Nat → Nat → Int32) (_ : Nat → Nat → Int64) (_ : Nat → Nat → Option Nat) => (x_69, I, J, ri, rj, rq)) else (if a1 = (4 : Int32) then (bnI (g_X12_personAt_c4 a0 I J ri rj rq) fun (x_83 : Int32) (_ : Nat → Int32) (_ : Nat → Int64) (_ : Nat → Nat → Int32) (_ : Nat → Nat → Int64) (_ : Nat → Nat → Option Nat) => (x_83, I, J, ri, rj, rq)) else (if a1 = (5 : Int32) then (bnI (g_X12_personAt_c5 a0 I J ri rj rq) fun (x_97 : Int32) (_ : Nat → Int32) (_ : Nat → Int64) (_ : Nat → Nat → Int32) (_ : Nat → Nat → Int64) (_ : Nat → Nat → Option Nat) => (x_97, I, J, ri, rj, rq)) else (if a1 = (6 : Int32) then (bnI (g_X12_personAt_c6 a0 I J ri rj rq) fun (x_111 : Int32) (_ : Nat → Int32) (_ : Nat → Int64) (_ : Nat → Nat → Int32) (_ : Nat → Nat → Int64) (_ : Nat → Nat → Option Nat) => (x_111, I, J, ri, rj, rq)) else (if a1 = (7 : Int32) then (bnI (g_X12_personAt_c7 a0 I J ri rj rq) fun (x_125 : Int32) (_ : Nat → Int32) (_ : Nat → Int64) (_ : Nat → Nat → Int32) (_ : Nat → Nat → Int64) (_ : Nat → Nat → Option Nat) => (x_125, I, J, ri, rj, rq)) else ((-1 : Int32), I, J, ri, rj, rq))))))))))) := rfl
set_option maxHeartbeats 4000000 in
set_option maxRecDepth 100000 in
theorem s_X12_personOf (l : Launch) (D : va_G) (t : pq_T) (σ : pq_S) (I : Nat → Nat → Int32) (J : Nat → Nat → Int64) (ri : Nat → Nat → Int32) (rj : Nat → Nat → Int64) (rq : Nat → Nat → Option Nat) (sz : Nat) (tg : Nat → Nat) (hSH : SH σ tg) (hG0 : GT tg I ri) (this : Nat) (a0 : Int32) (a1 : Int32) (hL_this : this ∈ σ.1) (hK_this : σ.2.1 this = 12) : MetI l yX12_personOf (wa yX12_personOf cX12_personOf 3 (some .int)) ({ frames := 2, cells := 0, slots := 0, locals := 43 }) [.ref this, .int a0, .int a1] D t σ (I, J, ri, rj, rq) sz 0 0 (fun (r : Int32) (u : pq_S × pq_M) => u = (σ, I, J, ri, rj, rq) ∧ g_X12_personOf a0 a1 (vI 12 σ this I) (vJ 12 σ this J) (vR 12 σ this ri) (vL 12 σ this rj) (vQ 12 σ this rq) = (r, (vI 12 σ this I), (vJ 12 σ this J), (vR 12 σ this ri), (vL 12 σ this rj), (vQ 12 σ this rq))) := by
  refine Met.ofW (cc := cX12_personOf) (maxL := 3) (ret := (some .int)) (by decide +kernel) rfl ?_
  intro p e s m args below meth c s₁ B hml hv
  obtain ⟨rfl, hsz, hP, hK, hD0, hN⟩ := hv
  have hx := B.exec
  have hb := B.bytes
  have hr := B.returns
  have hts := atoms_spec (ws := (wa yX12_personOf cX12_personOf 3 (some .int))) B.pre
  have hown : s.vm.findClass RX12 = some m.cls := findClass_of_methodNamed B.named
  have hlocks := B.notSynchronized
  subst hsz
  have hD : va_D (pq_B t σ (I, J, ri, rj, rq) s.heap.size) (pq_P t σ (I, J, ri, rj, rq)) := hD0.self
  generalize hAe : pq_B t σ (I, J, ri, rj, rq) s.heap.size = A at hD ⊢
  have hA : ∀ q : Nat, s.heap.size ≤ q → A q := fun q h => by rw [← hAe]; exact Or.inr h
  have hS : va_S A s.heap s.heap [] := va_S.rf
  have hG : GM [] tg σ I ri I ri rq := ⟨hG0, fun _ _ _ => rfl, fun _ _ _ _ _ => rfl, fun _ _ _ _ _ _ => rfl⟩
  have hl := lv_entry ([.ref this, .int a0, .int a1]) (n := 3) (Nat.le_of_ble_eq_true rfl)
  rw [lg_entry_eq]
  generalize (lg_sl ([.ref this, .int a0, .int a1]) ++ List.replicate (3 - (lg_sl ([.ref this, .int a0, .int a1])).length) Slot.unset).toArray = ls at hl ⊢
  have hl : lv_has ls 3 [(0, .ref this), (1, .int a0), (2, .int a1)] := hl
  refine q_gen (fun Q hQ => ?_)
  have go : ∀ (H : Heap) (locs : List Loc) (ls : Array Slot), va_P D vwCl (pq_P t σ (I, J, ri, rj, rq)) H → va_D A (pq_P t σ (I, J, ri, rj, rq)) → va_S A s.heap H locs → lv_has ls 3 [(0, .ref this), (1, .int a0), (2, .int a1)] → W p l e ({ frames := 2, cells := 0, slots := 0, locals := 43 } : Room) s m (List.toArray ([.ref this, .int a0, .int a1] : List Value)) below meth c H locs 0 0 Q (F0 m 0 ls []) := by
    intro H locs ls hP hD hS hl
    have hO_this : this = vo σ 12 this := rfl
    have hVT : VT 12 σ tg this := vt_12 hSH hL_this hK_this
    have hFr : FR 12 tg σ this (I, J, ri, rj, rq) (I, J, ri, rj, rq) := fr_rf
    obtain ⟨F, hF0⟩ : ∃ F, F = g_X12_personOf a0 a1 (vI 12 σ this I) (vJ 12 σ this J) (vR 12 σ this ri) (vL 12 σ this rj) (vQ 12 σ this rq) := ⟨_, rfl⟩
    have hF := hF0.trans g_X12_personOf_e
    refine lv_aload_n hx hb dX12_personOf_0 rfl (lv_at hl 0 rfl) ?_
    refine lv_iload_n hx hb dX12_personOf_1 rfl (lv_at hl 1 rfl) ?_
    refine pk_i (va_runV (As := [.int a0]) (rest := []) ⟨hx, hb, hml, hown, hts⟩ (s_X12_isPerson l D t σ I J ri rj rq H.size tg hSH hG.1 this a0 hL_this hK_this) (cwV 1 hts (tw_V tw_425 tw_426 tw_427 tw_5 tw_428) rfl rfl rfl cv_yX12_isPerson_1 ⟨Nat.le_of_ble_eq_true rfl, Nat.le_of_ble_eq_true rfl⟩) ⟨pq_blind, pq_recv hK hP hL_this hK_this (by decide +kernel) rfl, pq_pre hK hN hP hD⟩ rfl rfl hl.1 rfl (lv_room (Nat.le_of_ble_eq_true rfl)) dX12_personOf_2 ⟨Nat.le_of_ble_eq_true rfl, Nat.le_of_ble_eq_true rfl⟩) hD hS hA (fun x_1 σ1 μ1 H locs hw_2 hP hD hS => ?_)
    obtain ⟨hu_3, hfn_6, hr_5⟩ := hw_2
    obtain ⟨hu_3a, hu_3b⟩ := Prod.mk.inj hu_3
    rw [hu_3a, hu_3b] at hP hD
    replace hF := hF.trans (bn_n hfn_6)
    have h_8 : rg x_1 0 1 := by rcases hr_5 with ⟨q, -⟩ | ⟨q, -⟩ <;> rw [q] <;> exact ⟨by decide +kernel, by decide +kernel⟩
    have uh_8 := h_8.1
    have vh_8 := h_8.2
    refine lv_if_ne (tgt := 10) hx hb dX12_personOf_5 (by decide +kernel) (fun c_9 => ?_) (fun c_9 => ?_)
    · replace hF := hF.trans (if_neg c_9)
      have f_16 := (hr_5.resolve_right (fun q => c_9 q.1)).2
      have uf_16 := f_16.1
      have vf_16 := f_16.2
      have tc_17 : (x_1).toInt ≠ 0 := fun q => c_9 (Int32.toInt_inj.mp q)
      have h_18 : rg x_1 1 1 := rg_ne c_9 h_8 0 rfl (by decide +kernel)
      have uh_18 := h_18.1
      have vh_18 := h_18.2
      refine lv_iload_n hx hb dX12_personOf_10 rfl (lv_at hl 2 rfl) ?_
      by_cases k_19 : a1 = (0 : Int32)
      · replace hF := hF.trans (if_pos k_19)
        have tc_22 : (a1).toInt = 0 := congrArg Int32.toInt k_19
        have h_23 : rg a1 0 0 := rg_and (rg_full _) (rg_of_eq k_19 (rg_k (0 : Int32) 0 rfl)) (by decide +kernel)
        have uh_23 := h_23.1
        have vh_23 := h_23.2
        refine lv_tov 0 k_19 ?_
        refine lv_tableIn (tgt := 56) hx hb dX12_personOf_11 (by decide +kernel) (by decide +kernel) rfl (by decide +kernel) ?_
        refine lv_aload_n hx hb dX12_personOf_56 rfl (lv_at hl 0 rfl) ?_
        refine lv_iload_n hx hb dX12_personOf_57 rfl (lv_at hl 1 rfl) ?_
        refine lv_iconst (v := 3) hx hb dX12_personOf_58 (by decide +kernel) ?_
        obtain ⟨w_24, hR_w_24, hL_w_24, hK_w_24, hN_w_24, hT_w_24⟩ := sh_a hSH 384 (ci := 12) (kd := 13) (len := 12720) rfl (by decide +kernel) hL_this hK_this
        have hO_w_24 : w_24 = vrow σ 384 this := vo_k (c := 12) hO_this hR_w_24
        refine pk_i (va_runV (As := [.int a0, .int 3]) (rest := []) ⟨hx, hb, hml, hown, hts⟩ (s_X12_personAt_c3 l D t σ I J ri rj rq H.size tg hSH hG.1 this a0 hL_this hK_this (rg_w f_16 (by decide +kernel)) w_24 hR_w_24 hL_w_24 hK_w_24 hN_w_24 hT_w_24) (cwV 2 hts (tw_V tw_437 tw_438 tw_439 tw_5 tw_440) rfl rfl rfl cv_yX12_personAt_2 ⟨Nat.le_of_ble_eq_true rfl, Nat.le_of_ble_eq_true rfl⟩) ⟨pq_blind, pq_recv hK hP hL_this hK_this (by decide +kernel) rfl, pq_pre hK hN hP hD⟩ rfl rfl hl.1 rfl (lv_room (Nat.le_of_ble_eq_true rfl)) dX12_personOf_59 ⟨Nat.le_of_ble_eq_true rfl, Nat.le_of_ble_eq_true rfl⟩) hD hS hA (fun x_25 σ1 μ1 H locs hw_26 hP hD hS => ?_)
        obtain ⟨hu_27, hp_30, hp_31, hfn_32, hr_29⟩ := hw_26
        obtain ⟨hu_27a, hu_27b⟩ := Prod.mk.inj hu_27
        rw [hu_27a, hu_27b] at hP hD
        replace hF := hF.trans (bn_n hfn_32)
        have tt_34 := hp_31
        subst hQ
        exact W.iret (v := x_25) hx hb hr (fun t1 ht hW => ⟨⟨x_25, (σ, I, J, ri, rj, rq), rfl, ⟨rfl, (hF0.symm.trans hF)⟩, by rw [ht]; exact hP, va_K.moved hW.alike hK, hD⟩, hS.F ht⟩) hS.2.2 dX12_personOf_62
      replace hF := hF.trans (if_neg k_19)
      by_cases k_35 : a1 = (1 : Int32)
      · replace hF := hF.trans (if_pos k_35)
        have tc_38 : (a1).toInt = 1 := congrArg Int32.toInt k_35
        have h_39 : rg a1 1 1 := rg_and (rg_full _) (rg_of_eq k_35 (rg_k (1 : Int32) 1 rfl)) (by decide +kernel)
        have uh_39 := h_39.1
        have vh_39 := h_39.2
        refine lv_tov 1 k_35 ?_
        refine lv_tableIn (tgt := 63) hx hb dX12_personOf_11 (by decide +kernel) (by decide +kernel) rfl (by decide +kernel) ?_
        refine lv_aload_n hx hb dX12_personOf_63 rfl (lv_at hl 0 rfl) ?_
        refine lv_iload_n hx hb dX12_personOf_64 rfl (lv_at hl 1 rfl) ?_
        refine lv_iconst (v := 0) hx hb dX12_personOf_65 (by decide +kernel) ?_
        obtain ⟨w_40, hR_w_40, hL_w_40, hK_w_40, hN_w_40, hT_w_40⟩ := sh_a hSH 384 (ci := 12) (kd := 13) (len := 12720) rfl (by decide +kernel) hL_this hK_this
        have hO_w_40 : w_40 = vrow σ 384 this := vo_k (c := 12) hO_this hR_w_40
        refine pk_i (va_runV (As := [.int a0, .int 0]) (rest := []) ⟨hx, hb, hml, hown, hts⟩ (s_X12_personAt_c0 l D t σ I J ri rj rq H.size tg hSH hG.1 this a0 hL_this hK_this (rg_w f_16 (by decide +kernel)) w_40 hR_w_40 hL_w_40 hK_w_40 hN_w_40 hT_w_40) (cwV 2 hts (tw_V tw_437 tw_438 tw_439 tw_5 tw_440) rfl rfl rfl cv_yX12_personAt_2 ⟨Nat.le_of_ble_eq_true rfl, Nat.le_of_ble_eq_true rfl⟩) ⟨pq_blind, pq_recv hK hP hL_this hK_this (by decide +kernel) rfl, pq_pre hK hN hP hD⟩ rfl rfl hl.1 rfl (lv_room (Nat.le_of_ble_eq_true rfl)) dX12_personOf_66 ⟨Nat.le_of_ble_eq_true rfl, Nat.le_of_ble_eq_true rfl⟩) hD hS hA (fun x_41 σ1 μ1 H locs hw_42 hP hD hS => ?_)
        obtain ⟨hu_43, hp_46, hfn_47⟩ := hw_42
        obtain ⟨hu_43a, hu_43b⟩ := Prod.mk.inj hu_43
        rw [hu_43a, hu_43b] at hP hD
        replace hF := hF.trans (bn_n hfn_47)
        subst hQ
        exact W.iret (v := x_41) hx hb hr (fun t1 ht hW => ⟨⟨x_41, (σ, I, J, ri, rj, rq), rfl, ⟨rfl, (hF0.symm.trans hF)⟩, by rw [ht]; exact hP, va_K.moved hW.alike hK, hD⟩, hS.F ht⟩) hS.2.2 dX12_personOf_69
      replace hF := hF.trans (if_neg k_35)
      by_cases k_49 : a1 = (2 : Int32)
      · replace hF := hF.trans (if_pos k_49)
        have tc_52 : (a1).toInt = 2 := congrArg Int32.toInt k_49
        have h_53 : rg a1 2 2 := rg_and (rg_full _) (rg_of_eq k_49 (rg_k (2 : Int32) 2 rfl)) (by decide +kernel)
        have uh_53 := h_53.1
        have vh_53 := h_53.2
        refine lv_tov 2 k_49 ?_
        refine lv_tableIn (tgt := 70) hx hb dX12_personOf_11 (by decide +kernel) (by decide +kernel) rfl (by decide +kernel) ?_
        refine lv_aload_n hx hb dX12_personOf_70 rfl (lv_at hl 0 rfl) ?_
        refine lv_iload_n hx hb dX12_personOf_71 rfl (lv_at hl 1 rfl) ?_
        refine lv_iconst (v := 1) hx hb dX12_personOf_72 (by decide +kernel) ?_
        obtain ⟨w_54, hR_w_54, hL_w_54, hK_w_54, hN_w_54, hT_w_54⟩ := sh_a hSH 384 (ci := 12) (kd := 13) (len := 12720) rfl (by decide +kernel) hL_this hK_this
        have hO_w_54 : w_54 = vrow σ 384 this := vo_k (c := 12) hO_this hR_w_54
        refine pk_i (va_runV (As := [.int a0, .int 1]) (rest := []) ⟨hx, hb, hml, hown, hts⟩ (s_X12_personAt_c1 l D t σ I J ri rj rq H.size tg hSH hG.1 this a0 hL_this hK_this (rg_w f_16 (by decide +kernel)) w_54 hR_w_54 hL_w_54 hK_w_54 hN_w_54 hT_w_54) (cwV 2 hts (tw_V tw_437 tw_438 tw_439 tw_5 tw_440) rfl rfl rfl cv_yX12_personAt_2 ⟨Nat.le_of_ble_eq_true rfl, Nat.le_of_ble_eq_true rfl⟩) ⟨pq_blind, pq_recv hK hP hL_this hK_this (by decide +kernel) rfl, pq_pre hK hN hP hD⟩ rfl rfl hl.1 rfl (lv_room (Nat.le_of_ble_eq_true rfl)) dX12_personOf_73 ⟨Nat.le_of_ble_eq_true rfl, Nat.le_of_ble_eq_true rfl⟩) hD hS hA (fun x_55 σ1 μ1 H locs hw_56 hP hD hS => ?_)
        obtain ⟨hu_57, hp_60, hfn_61⟩ := hw_56
        obtain ⟨hu_57a, hu_57b⟩ := Prod.mk.inj hu_57
        rw [hu_57a, hu_57b] at hP hD
        replace hF := hF.trans (bn_n hfn_61)
        subst hQ
        exact W.iret (v := x_55) hx hb hr (fun t1 ht hW => ⟨⟨x_55, (σ, I, J, ri, rj, rq), rfl, ⟨rfl, (hF0.symm.trans hF)⟩, by rw [ht]; exact hP, va_K.moved hW.alike hK, hD⟩, hS.F ht⟩) hS.2.2 dX12_personOf_76
      replace hF := hF.trans (if_neg k_49)
      by_cases k_63 : a1 = (3 : Int32)
      · replace hF := hF.trans (if_pos k_63)
        have tc_66 : (a1).toInt = 3 := congrArg Int32.toInt k_63
        have h_67 : rg a1 3 3 := rg_and (rg_full _) (rg_of_eq k_63 (rg_k (3 : Int32) 3 rfl)) (by decide +kernel)
        have uh_67 := h_67.1
        have vh_67 := h_67.2
        refine lv_tov 3 k_63 ?_
        refine lv_tableIn (tgt := 77) hx hb dX12_personOf_11 (by decide +kernel) (by decide +kernel) rfl (by decide +kernel) ?_
        refine lv_aload_n hx hb dX12_personOf_77 rfl (lv_at hl 0 rfl) ?_
        refine lv_iload_n hx hb dX12_personOf_78 rfl (lv_at hl 1 rfl) ?_
        refine lv_iconst (v := 2) hx hb dX12_personOf_79 (by decide +kernel) ?_
        obtain ⟨w_68, hR_w_68, hL_w_68, hK_w_68, hN_w_68, hT_w_68⟩ := sh_a hSH 384 (ci := 12) (kd := 13) (len := 12720) rfl (by decide +kernel) hL_this hK_this
        have hO_w_68 : w_68 = vrow σ 384 this := vo_k (c := 12) hO_this hR_w_68
        refine pk_i (va_runV (As := [.int a0, .int 2]) (rest := []) ⟨hx, hb, hml, hown, hts⟩ (s_X12_personAt_c2 l D t σ I J ri rj rq H.size tg hSH hG.1 this a0 hL_this hK_this (rg_w f_16 (by decide +kernel)) w_68 hR_w_68 hL_w_68 hK_w_68 hN_w_68 hT_w_68) (cwV 2 hts (tw_V tw_437 tw_438 tw_439 tw_5 tw_440) rfl rfl rfl cv_yX12_personAt_2 ⟨Nat.le_of_ble_eq_true rfl, Nat.le_of_ble_eq_true rfl⟩) ⟨pq_blind, pq_recv hK hP hL_this hK_this (by decide +kernel) rfl, pq_pre hK hN hP hD⟩ rfl rfl hl.1 rfl (lv_room (Nat.le_of_ble_eq_true rfl)) dX12_personOf_80 ⟨Nat.le_of_ble_eq_true rfl, Nat.le_of_ble_eq_true rfl⟩) hD hS hA (fun x_69 σ1 μ1 H locs hw_70 hP hD hS => ?_)
        obtain ⟨hu_71, hp_74, hfn_75⟩ := hw_70
        obtain ⟨hu_71a, hu_71b⟩ := Prod.mk.inj hu_71
        rw [hu_71a, hu_71b] at hP hD
        replace hF := hF.trans (bn_n hfn_75)
        subst hQ
        exact W.iret (v := x_69) hx hb hr (fun t1 ht hW => ⟨⟨x_69, (σ, I, J, ri, rj, rq), rfl, ⟨rfl, (hF0.symm.trans hF)⟩, by rw [ht]; exact hP, va_K.moved hW.alike hK, hD⟩, hS.F ht⟩) hS.2.2 dX12_personOf_83
      replace hF := hF.trans (if_neg k_63)
      by_cases k_77 : a1 = (4 : Int32)
      · replace hF := hF.trans (if_pos k_77)
        have tc_80 : (a1).toInt = 4 := congrArg Int32.toInt k_77
        have h_81 : rg a1 4 4 := rg_and (rg_full _) (rg_of_eq k_77 (rg_k (4 : Int32) 4 rfl)) (by decide +kernel)
        have uh_81 := h_81.1
        have vh_81 := h_81.2
        refine lv_tov 4 k_77 ?_
        refine lv_tableIn (tgt := 84) hx hb dX12_personOf_11 (by decide +kernel) (by decide +kernel) rfl (by decide +kernel) ?_
        refine lv_aload_n hx hb dX12_personOf_84 rfl (lv_at hl 0 rfl) ?_
        refine lv_iload_n hx hb dX12_personOf_85 rfl (lv_at hl 1 rfl) ?_
        refine lv_iconst (v := 4) hx hb dX12_personOf_86 (by decide +kernel) ?_
        obtain ⟨w_82, hR_w_82, hL_w_82, hK_w_82, hN_w_82, hT_w_82⟩ := sh_a hSH 384 (ci := 12) (kd := 13) (len := 12720) rfl (by decide +kernel) hL_this hK_this
        have hO_w_82 : w_82 = vrow σ 384 this := vo_k (c := 12) hO_this hR_w_82
        refine pk_i (va_runV (As := [.int a0, .int 4]) (rest := []) ⟨hx, hb, hml, hown, hts⟩ (s_X12_personAt_c4 l D t σ I J ri rj rq H.size tg hSH hG.1 this a0 hL_this hK_this (rg_w f_16 (by decide +kernel)) w_82 hR_w_82 hL_w_82 hK_w_82 hN_w_82 hT_w_82) (cwV 2 hts (tw_V tw_437 tw_438 tw_439 tw_5 tw_440) rfl rfl rfl cv_yX12_personAt_2 ⟨Nat.le_of_ble_eq_true rfl, Nat.le_of_ble_eq_true rfl⟩) ⟨pq_blind, pq_recv hK hP hL_this hK_this (by decide +kernel) rfl, pq_pre hK hN hP hD⟩ rfl rfl hl.1 rfl (lv_room (Nat.le_of_ble_eq_true rfl)) dX12_personOf_87 ⟨Nat.le_of_ble_eq_true rfl, Nat.le_of_ble_eq_true rfl⟩) hD hS hA (fun x_83 σ1 μ1 H locs hw_84 hP hD hS => ?_)
        obtain ⟨hu_85, hp_88, hfn_89⟩ := hw_84
        obtain ⟨hu_85a, hu_85b⟩ := Prod.mk.inj hu_85
        rw [hu_85a, hu_85b] at hP hD
        replace hF := hF.trans (bn_n hfn_89)
        subst hQ
        exact W.iret (v := x_83) hx hb hr (fun t1 ht hW => ⟨⟨x_83, (σ, I, J, ri, rj, rq), rfl, ⟨rfl, (hF0.symm.trans hF)⟩, by rw [ht]; exact hP, va_K.moved hW.alike hK, hD⟩, hS.F ht⟩) hS.2.2 dX12_personOf_90
      replace hF := hF.trans (if_neg k_77)
      by_cases k_91 : a1 = (5 : Int32)
      · replace hF := hF.trans (if_pos k_91)
        have tc_94 : (a1).toInt = 5 := congrArg Int32.toInt k_91
        have h_95 : rg a1 5 5 := rg_and (rg_full _) (rg_of_eq k_91 (rg_k (5 : Int32) 5 rfl)) (by decide +kernel)
        have uh_95 := h_95.1
        have vh_95 := h_95.2
        refine lv_tov 5 k_91 ?_
        refine lv_tableIn (tgt := 91) hx hb dX12_personOf_11 (by decide +kernel) (by decide +kernel) rfl (by decide +kernel) ?_
        refine lv_aload_n hx hb dX12_personOf_91 rfl (lv_at hl 0 rfl) ?_
        refine lv_iload_n hx hb dX12_personOf_92 rfl (lv_at hl 1 rfl) ?_
        refine lv_iconst (v := 5) hx hb dX12_personOf_93 (by decide +kernel) ?_
        obtain ⟨w_96, hR_w_96, hL_w_96, hK_w_96, hN_w_96, hT_w_96⟩ := sh_a hSH 384 (ci := 12) (kd := 13) (len := 12720) rfl (by decide +kernel) hL_this hK_this
        have hO_w_96 : w_96 = vrow σ 384 this := vo_k (c := 12) hO_this hR_w_96
        refine pk_i (va_runV (As := [.int a0, .int 5]) (rest := []) ⟨hx, hb, hml, hown, hts⟩ (s_X12_personAt_c5 l D t σ I J ri rj rq H.size tg hSH hG.1 this a0 hL_this hK_this (rg_w f_16 (by decide +kernel)) w_96 hR_w_96 hL_w_96 hK_w_96 hN_w_96 hT_w_96) (cwV 2 hts (tw_V tw_437 tw_438 tw_439 tw_5 tw_440) rfl rfl rfl cv_yX12_personAt_2 ⟨Nat.le_of_ble_eq_true rfl, Nat.le_of_ble_eq_true rfl⟩) ⟨pq_blind, pq_recv hK hP hL_this hK_this (by decide +kernel) rfl, pq_pre hK hN hP hD⟩ rfl rfl hl.1 rfl (lv_room (Nat.le_of_ble_eq_true rfl)) dX12_personOf_94 ⟨Nat.le_of_ble_eq_true rfl, Nat.le_of_ble_eq_true rfl⟩) hD hS hA (fun x_97 σ1 μ1 H locs hw_98 hP hD hS => ?_)
        obtain ⟨hu_99, hp_102, hfn_103⟩ := hw_98
        obtain ⟨hu_99a, hu_99b⟩ := Prod.mk.inj hu_99
        rw [hu_99a, hu_99b] at hP hD
        replace hF := hF.trans (bn_n hfn_103)
        subst hQ
        exact W.iret (v := x_97) hx hb hr (fun t1 ht hW => ⟨⟨x_97, (σ, I, J, ri, rj, rq), rfl, ⟨rfl, (hF0.symm.trans hF)⟩, by rw [ht]; exact hP, va_K.moved hW.alike hK, hD⟩, hS.F ht⟩) hS.2.2 dX12_personOf_97
      replace hF := hF.trans (if_neg k_91)
      by_cases k_105 : a1 = (6 : Int32)
      · replace hF := hF.trans (if_pos k_105)
        have tc_108 : (a1).toInt = 6 := congrArg Int32.toInt k_105
        have h_109 : rg a1 6 6 := rg_and (rg_full _) (rg_of_eq k_105 (rg_k (6 : Int32) 6 rfl)) (by decide +kernel)
        have uh_109 := h_109.1
        have vh_109 := h_109.2
        refine lv_tov 6 k_105 ?_
        refine lv_tableIn (tgt := 98) hx hb dX12_personOf_11 (by decide +kernel) (by decide +kernel) rfl (by decide +kernel) ?_
        refine lv_aload_n hx hb dX12_personOf_98 rfl (lv_at hl 0 rfl) ?_
        refine lv_iload_n hx hb dX12_personOf_99 rfl (lv_at hl 1 rfl) ?_
        refine lv_bipush (v := 6) hx hb dX12_personOf_100 (by decide +kernel) ?_
        obtain ⟨w_110, hR_w_110, hL_w_110, hK_w_110, hN_w_110, hT_w_110⟩ := sh_a hSH 384 (ci := 12) (kd := 13) (len := 12720) rfl (by decide +kernel) hL_this hK_this
        have hO_w_110 : w_110 = vrow σ 384 this := vo_k (c := 12) hO_this hR_w_110
        refine pk_i (va_runV (As := [.int a0, .int 6]) (rest := []) ⟨hx, hb, hml, hown, hts⟩ (s_X12_personAt_c6 l D t σ I J ri rj rq H.size tg hSH hG.1 this a0 hL_this hK_this (rg_w f_16 (by decide +kernel)) w_110 hR_w_110 hL_w_110 hK_w_110 hN_w_110 hT_w_110) (cwV 2 hts (tw_V tw_437 tw_438 tw_439 tw_5 tw_440) rfl rfl rfl cv_yX12_personAt_2 ⟨Nat.le_of_ble_eq_true rfl, Nat.le_of_ble_eq_true rfl⟩) ⟨pq_blind, pq_recv hK hP hL_this hK_this (by decide +kernel) rfl, pq_pre hK hN hP hD⟩ rfl rfl hl.1 rfl (lv_room (Nat.le_of_ble_eq_true rfl)) dX12_personOf_102 ⟨Nat.le_of_ble_eq_true rfl, Nat.le_of_ble_eq_true rfl⟩) hD hS hA (fun x_111 σ1 μ1 H locs hw_112 hP hD hS => ?_)
        obtain ⟨hu_113, hp_116, hfn_117⟩ := hw_112
        obtain ⟨hu_113a, hu_113b⟩ := Prod.mk.inj hu_113
        rw [hu_113a, hu_113b] at hP hD
        replace hF := hF.trans (bn_n hfn_117)
        subst hQ
        exact W.iret (v := x_111) hx hb hr (fun t1 ht hW => ⟨⟨x_111, (σ, I, J, ri, rj, rq), rfl, ⟨rfl, (hF0.symm.trans hF)⟩, by rw [ht]; exact hP, va_K.moved hW.alike hK, hD⟩, hS.F ht⟩) hS.2.2 dX12_personOf_105
      replace hF := hF.trans (if_neg k_105)
      by_cases k_119 : a1 = (7 : Int32)
      · replace hF := hF.trans (if_pos k_119)
        have tc_122 : (a1).toInt = 7 := congrArg Int32.toInt k_119
        have h_123 : rg a1 7 7 := rg_and (rg_full _) (rg_of_eq k_119 (rg_k (7 : Int32) 7 rfl)) (by decide +kernel)
        have uh_123 := h_123.1
        have vh_123 := h_123.2
        refine lv_tov 7 k_119 ?_
        refine lv_tableIn (tgt := 106) hx hb dX12_personOf_11 (by decide +kernel) (by decide +kernel) rfl (by decide +kernel) ?_
        refine lv_aload_n hx hb dX12_personOf_106 rfl (lv_at hl 0 rfl) ?_
        refine lv_iload_n hx hb dX12_personOf_107 rfl (lv_at hl 1 rfl) ?_
        refine lv_bipush (v := 7) hx hb dX12_personOf_108 (by decide +kernel) ?_
        obtain ⟨w_124, hR_w_124, hL_w_124, hK_w_124, hN_w_124, hT_w_124⟩ := sh_a hSH 384 (ci := 12) (kd := 13) (len := 12720) rfl (by decide +kernel) hL_this hK_this
        have hO_w_124 : w_124 = vrow σ 384 this := vo_k (c := 12) hO_this hR_w_124
        refine pk_i (va_runV (As := [.int a0, .int 7]) (rest := []) ⟨hx, hb, hml, hown, hts⟩ (s_X12_personAt_c7 l D t σ I J ri rj rq H.size tg hSH hG.1 this a0 hL_this hK_this (rg_w f_16 (by decide +kernel)) w_124 hR_w_124 hL_w_124 hK_w_124 hN_w_124 hT_w_124) (cwV 2 hts (tw_V tw_437 tw_438 tw_439 tw_5 tw_440) rfl rfl rfl cv_yX12_personAt_2 ⟨Nat.le_of_ble_eq_true rfl, Nat.le_of_ble_eq_true rfl⟩) ⟨pq_blind, pq_recv hK hP hL_this hK_this (by decide +kernel) rfl, pq_pre hK hN hP hD⟩ rfl rfl hl.1 rfl (lv_room (Nat.le_of_ble_eq_true rfl)) dX12_personOf_110 ⟨Nat.le_of_ble_eq_true rfl, Nat.le_of_ble_eq_true rfl⟩) hD hS hA (fun x_125 σ1 μ1 H locs hw_126 hP hD hS => ?_)
        obtain ⟨hu_127, hp_130, hfn_131⟩ := hw_126
        obtain ⟨hu_127a, hu_127b⟩ := Prod.mk.inj hu_127
        rw [hu_127a, hu_127b] at hP hD
        replace hF := hF.trans (bn_n hfn_131)
        subst hQ
        exact W.iret (v := x_125) hx hb hr (fun t1 ht hW => ⟨⟨x_125, (σ, I, J, ri, rj, rq), rfl, ⟨rfl, (hF0.symm.trans hF)⟩, by rw [ht]; exact hP, va_K.moved hW.alike hK, hD⟩, hS.F ht⟩) hS.2.2 dX12_personOf_113
      replace hF := hF.trans (if_neg k_119)
      refine lv_tableOut (tgt := 114) hx hb dX12_personOf_11 (by have z_k_19 := sw_ne k_19 (n := 0) rfl; have z_k_35 := sw_ne k_35 (n := 1) rfl; have z_k_49 := sw_ne k_49 (n := 2) rfl; have z_k_63 := sw_ne k_63 (n := 3) rfl; have z_k_77 := sw_ne k_77 (n := 4) rfl; have z_k_91 := sw_ne k_91 (n := 5) rfl; have z_k_105 := sw_ne k_105 (n := 6) rfl; have z_k_119 := sw_ne k_119 (n := 7) rfl; omega) (by decide +kernel) ?_
      refine lv_iconst (v := (-1)) hx hb dX12_personOf_114 (by decide +kernel) ?_
      subst hQ
      exact W.iret (v := (-1)) hx hb hr (fun t1 ht hW => ⟨⟨(-1), (σ, I, J, ri, rj, rq), rfl, ⟨rfl, (hF0.symm.trans hF)⟩, by rw [ht]; exact hP, va_K.moved hW.alike hK, hD⟩, hS.F ht⟩) hS.2.2 dX12_personOf_115
    · replace hF := hF.trans (if_pos c_9)
      have f_133 := (hr_5.resolve_left (fun q => absurd (q.1.symm.trans c_9) (by decide +kernel))).2
      have tc_134 : (x_1).toInt = 0 := congrArg Int32.toInt c_9
      have h_135 : rg x_1 0 0 := rg_and h_8 (rg_of_eq c_9 (rg_k (0 : Int32) 0 rfl)) (by decide +kernel)
      have uh_135 := h_135.1
      have vh_135 := h_135.2
      refine lv_iconst (v := (-1)) hx hb dX12_personOf_8 (by decide +kernel) ?_
      subst hQ
      exact W.iret (v := (-1)) hx hb hr (fun t1 ht hW => ⟨⟨(-1), (σ, I, J, ri, rj, rq), rfl, ⟨rfl, (hF0.symm.trans hF)⟩, by rw [ht]; exact hP, va_K.moved hW.alike hK, hD⟩, hS.F ht⟩) hS.2.2 dX12_personOf_9
  exact go _ _ _ hP hD hS hl
