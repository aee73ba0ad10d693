theorem dX10_wasDry_0 : decode cX10_wasDry 0 = .ok (.aload_n 0, 1) := oc_42 (by decide +kernel)
theorem dX10_wasDry_1 : decode cX10_wasDry 1 = .ok (.getfield 67, 3) := oc_180 (a := 0) (b := 67) (by decide +kernel)
theorem dX10_wasDry_4 : decode cX10_wasDry 4 = .ok (.ifCond .ne 5, 3) := oc_154 (a := 0) (b := 5) (by decide +kernel)
theorem dX10_wasDry_9 : decode cX10_wasDry 9 = .ok (.aload_n 0, 1) := oc_42 (by decide +kernel)
theorem dX10_wasDry_10 : decode cX10_wasDry 10 = .ok (.getfield 32, 3) := oc_180 (a := 0) (b := 32) (by decide +kernel)
theorem dX10_wasDry_13 : decode cX10_wasDry 13 = .ok (.iload_n 1, 1) := oc_27 (by decide +kernel)
theorem tw_554 : Cond.methodLink RX10 222 yX2_isDry ∈ wsL_law := sg_24 _ (List.mem_of_getElem? (i := 2) rfl)
theorem dX10_wasDry_14 : decode cX10_wasDry 14 = .ok (.invokevirtual 222, 3) := oc_182 (a := 0) (b := 222) (by decide +kernel)
theorem dX10_wasDry_17 : decode cX10_wasDry 17 = .ok (.ifCond .eq 7, 3) := oc_153 (a := 0) (b := 7) (by decide +kernel)
theorem dX10_wasDry_24 : decode cX10_wasDry 24 = .ok (.iconst 0, 1) := oc_3 (by decide +kernel)
theorem dX10_wasDry_25 : decode cX10_wasDry 25 = .ok (.ireturn, 1) := oc_172 (by decide +kernel)
theorem dX10_wasDry_20 : decode cX10_wasDry 20 = .ok (.iconst 1, 1) := oc_4 (by decide +kernel)
theorem dX10_wasDry_21 : decode cX10_wasDry 21 = .ok (.goto 4, 3) := oc_167 (a := 0) (b := 4) (by decide +kernel)
theorem dX10_wasDry_7 : decode cX10_wasDry 7 = .ok (.iconst (-1), 1) := oc_2 (by decide +kernel)
theorem dX10_wasDry_8 : decode cX10_wasDry 8 = .ok (.ireturn, 1) := oc_172 (by decide +kernel)
theorem dX10_wasRock_0 : decode cX10_wasRock 0 = .ok (.aload_n 0, 1) := oc_42 (by decide +kernel)
theorem dX10_wasRock_1 : decode cX10_wasRock 1 = .ok (.getfield 67, 3) := oc_180 (a := 0) (b := 67) (by decide +kernel)
theorem dX10_wasRock_4 : decode cX10_wasRock 4 = .ok (.ifCond .ne 5, 3) := oc_154 (a := 0) (b := 5) (by decide +kernel)
theorem dX10_wasRock_9 : decode cX10_wasRock 9 = .ok (.aload_n 0, 1) := oc_42 (by decide +kernel)
theorem dX10_wasRock_10 : decode cX10_wasRock 10 = .ok (.getfield 32, 3) := oc_180 (a := 0) (b := 32) (by decide +kernel)
theorem dX10_wasRock_13 : decode cX10_wasRock 13 = .ok (.getfield 195, 3) := oc_180 (a := 0) (b := 195) (by decide +kernel)
theorem dX10_wasRock_16 : decode cX10_wasRock 16 = .ok (.aload_n 0, 1) := oc_42 (by decide +kernel)
theorem dX10_wasRock_17 : decode cX10_wasRock 17 = .ok (.getfield 67, 3) := oc_180 (a := 0) (b := 67) (by decide +kernel)
theorem dX10_wasRock_20 : decode cX10_wasRock 20 = .ok (.iconst 1, 1) := oc_4 (by decide +kernel)
theorem dX10_wasRock_21 : decode cX10_wasRock 21 = .ok (.isub, 1) := oc_100 (by decide +kernel)
theorem dX10_wasRock_22 : decode cX10_wasRock 22 = .ok (.laload, 1) := oc_47 (by decide +kernel)
theorem dX10_wasRock_23 : decode cX10_wasRock 23 = .ok (.iload_n 1, 1) := oc_27 (by decide +kernel)
theorem dX10_wasRock_24 : decode cX10_wasRock 24 = .ok (.invokestatic 226, 3) := oc_184 (a := 0) (b := 226) (by decide +kernel)
theorem dX10_wasRock_27 : decode cX10_wasRock 27 = .ok (.ifCond .eq 7, 3) := oc_153 (a := 0) (b := 7) (by decide +kernel)
theorem dX10_wasRock_34 : decode cX10_wasRock 34 = .ok (.iconst 0, 1) := oc_3 (by decide +kernel)
theorem dX10_wasRock_35 : decode cX10_wasRock 35 = .ok (.ireturn, 1) := oc_172 (by decide +kernel)
theorem dX10_wasRock_30 : decode cX10_wasRock 30 = .ok (.iconst 1, 1) := oc_4 (by decide +kernel)
theorem dX10_wasRock_31 : decode cX10_wasRock 31 = .ok (.goto 4, 3) := oc_167 (a := 0) (b := 4) (by decide +kernel)
theorem dX10_wasRock_7 : decode cX10_wasRock 7 = .ok (.iconst (-1), 1) := oc_2 (by decide +kernel)
theorem dX10_wasRock_8 : decode cX10_wasRock 8 = .ok (.ireturn, 1) := oc_172 (by decide +kernel)
theorem dX10_titleStands_0 : decode cX10_titleStands 0 = .ok (.aload_n 0, 1) := oc_42 (by decide +kernel)
theorem dX10_titleStands_1 : decode cX10_titleStands 1 = .ok (.getfield 18, 3) := oc_180 (a := 0) (b := 18) (by decide +kernel)
theorem dX10_titleStands_4 : decode cX10_titleStands 4 = .ok (.iload_n 1, 1) := oc_27 (by decide +kernel)
theorem dX10_titleStands_5 : decode cX10_titleStands 5 = .ok (.iaload, 1) := oc_46 (by decide +kernel)
theorem dX10_titleStands_6 : decode cX10_titleStands 6 = .ok (.istore_n 2, 1) := oc_61 (by decide +kernel)
theorem dX10_titleStands_7 : decode cX10_titleStands 7 = .ok (.iload_n 2, 1) := oc_28 (by decide +kernel)
theorem dX10_titleStands_8 : decode cX10_titleStands 8 = .ok (.iconst (-1), 1) := oc_2 (by decide +kernel)
theorem dX10_titleStands_9 : decode cX10_titleStands 9 = .ok (.if_icmp .ne 5, 3) := oc_160 (a := 0) (b := 5) (by decide +kernel)
theorem dX10_titleStands_14 : decode cX10_titleStands 14 = .ok (.aload_n 0, 1) := oc_42 (by decide +kernel)
theorem dX10_titleStands_15 : decode cX10_titleStands 15 = .ok (.iload_n 1, 1) := oc_27 (by decide +kernel)
theorem tw_550 : Cond.methodLink RX10 230 yX10_wasDry ∈ wsL_law := sg_23 _ (List.mem_of_getElem? (i := 22) rfl)
theorem tw_551 : Cond.instanceMethod yX10_wasDry ∈ wsL_law := sg_23 _ (List.mem_of_getElem? (i := 23) rfl)
theorem tw_552 : Cond.selects RX10 yX10_wasDry yX10_wasDry ∈ wsL_law := sg_24 _ (List.mem_of_getElem? (i := 0) rfl)
theorem tw_553 : Cond.code yX10_wasDry cX10_wasDry 2 (some .int) ∈ wsL_law := sg_24 _ (List.mem_of_getElem? (i := 1) rfl)
theorem dX10_titleStands_16 : decode cX10_titleStands 16 = .ok (.invokevirtual 230, 3) := oc_182 (a := 0) (b := 230) (by decide +kernel)
theorem dX10_titleStands_50 : decode cX10_titleStands 50 = .ok (.iconst 1, 1) := oc_4 (by decide +kernel)
theorem dX10_titleStands_51 : decode cX10_titleStands 51 = .ok (.goto 4, 3) := oc_167 (a := 0) (b := 4) (by decide +kernel)
theorem dX10_titleStands_55 : decode cX10_titleStands 55 = .ok (.ireturn, 1) := oc_172 (by decide +kernel)
theorem dX10_titleStands_19 : decode cX10_titleStands 19 = .ok (.ifCond .ne 31, 3) := oc_154 (a := 0) (b := 31) (by decide +kernel)
theorem dX10_titleStands_22 : decode cX10_titleStands 22 = .ok (.aload_n 0, 1) := oc_42 (by decide +kernel)
theorem dX10_titleStands_23 : decode cX10_titleStands 23 = .ok (.getfield 46, 3) := oc_180 (a := 0) (b := 46) (by decide +kernel)
theorem dX10_titleStands_26 : decode cX10_titleStands 26 = .ok (.aload_n 0, 1) := oc_42 (by decide +kernel)
theorem dX10_titleStands_27 : decode cX10_titleStands 27 = .ok (.getfield 67, 3) := oc_180 (a := 0) (b := 67) (by decide +kernel)
theorem dX10_titleStands_30 : decode cX10_titleStands 30 = .ok (.aload_n 0, 1) := oc_42 (by decide +kernel)
theorem dX10_titleStands_31 : decode cX10_titleStands 31 = .ok (.getfield 39, 3) := oc_180 (a := 0) (b := 39) (by decide +kernel)
theorem dX10_titleStands_34 : decode cX10_titleStands 34 = .ok (.iload_n 2, 1) := oc_28 (by decide +kernel)
theorem dX10_titleStands_35 : decode cX10_titleStands 35 = .ok (.aload_n 0, 1) := oc_42 (by decide +kernel)
theorem dX10_titleStands_36 : decode cX10_titleStands 36 = .ok (.getfield 32, 3) := oc_180 (a := 0) (b := 32) (by decide +kernel)
theorem tw_549 : Cond.fieldLink RX10 233 "RingsUnder$Land" "under" "[I" ∈ wsL_law := sg_23 _ (List.mem_of_getElem? (i := 21) rfl)
theorem dX10_titleStands_39 : decode cX10_titleStands 39 = .ok (.getfield 233, 3) := oc_180 (a := 0) (b := 233) (by decide +kernel)
theorem dX10_titleStands_42 : decode cX10_titleStands 42 = .ok (.iload_n 1, 1) := oc_27 (by decide +kernel)
theorem dX10_titleStands_43 : decode cX10_titleStands 43 = .ok (.iaload, 1) := oc_46 (by decide +kernel)
theorem tw_561 : Cond.methodLink RX10 236 yX3_lastsFor ∈ wsL_law := sg_24 _ (List.mem_of_getElem? (i := 9) rfl)
theorem tw_562 : Cond.instanceMethod yX3_lastsFor ∈ wsL_law := sg_24 _ (List.mem_of_getElem? (i := 10) rfl)
theorem tw_563 : Cond.selects RX3 yX3_lastsFor yX3_lastsFor ∈ wsL_law := sg_24 _ (List.mem_of_getElem? (i := 11) rfl)
theorem tw_564 : Cond.code yX3_lastsFor cX3_lastsFor 6 (some .boolean) ∈ wsL_law := sg_24 _ (List.mem_of_getElem? (i := 12) rfl)
theorem dX10_titleStands_44 : decode cX10_titleStands 44 = .ok (.invokevirtual 236, 3) := oc_182 (a := 0) (b := 236) (by decide +kernel)
theorem dX10_titleStands_47 : decode cX10_titleStands 47 = .ok (.ifCond .eq 7, 3) := oc_153 (a := 0) (b := 7) (by decide +kernel)
theorem dX10_titleStands_54 : decode cX10_titleStands 54 = .ok (.iconst 0, 1) := oc_3 (by decide +kernel)
theorem dX10_titleStands_12 : decode cX10_titleStands 12 = .ok (.iconst 0, 1) := oc_3 (by decide +kernel)
theorem dX10_titleStands_13 : decode cX10_titleStands 13 = .ok (.ireturn, 1) := oc_172 (by decide +kernel)
theorem dX10_heirOf_0 : decode cX10_heirOf 0 = .ok (.aload_n 0, 1) := oc_42 (by decide +kernel)
theorem dX10_heirOf_1 : decode cX10_heirOf 1 = .ok (.getfield 46, 3) := oc_180 (a := 0) (b := 46) (by decide +kernel)
theorem dX10_heirOf_4 : decode cX10_heirOf 4 = .ok (.iconst 5, 1) := oc_8 (by decide +kernel)
theorem dX10_heirOf_5 : decode cX10_heirOf 5 = .ok (.aload_n 0, 1) := oc_42 (by decide +kernel)
theorem dX10_heirOf_6 : decode cX10_heirOf 6 = .ok (.getfield 67, 3) := oc_180 (a := 0) (b := 67) (by decide +kernel)
theorem dX10_heirOf_9 : decode cX10_heirOf 9 = .ok (.aload_n 0, 1) := oc_42 (by decide +kernel)
theorem dX10_heirOf_10 : decode cX10_heirOf 10 = .ok (.getfield 39, 3) := oc_180 (a := 0) (b := 39) (by decide +kernel)
theorem dX10_heirOf_13 : decode cX10_heirOf 13 = .ok (.aload_n 0, 1) := oc_42 (by decide +kernel)
theorem dX10_heirOf_14 : decode cX10_heirOf 14 = .ok (.getfield 57, 3) := oc_180 (a := 0) (b := 57) (by decide +kernel)
theorem dX10_heirOf_17 : decode cX10_heirOf 17 = .ok (.invokevirtual 134, 3) := oc_182 (a := 0) (b := 134) (by decide +kernel)
theorem dX10_heirOf_20 : decode cX10_heirOf 20 = .ok (.iconst 0, 1) := oc_3 (by decide +kernel)
theorem dX10_heirOf_21 : decode cX10_heirOf 21 = .ok (.istore_n 2, 1) := oc_61 (by decide +kernel)
theorem dX10_heirOf_22 : decode cX10_heirOf 22 = .ok (.iload_n 2, 1) := oc_28 (by decide +kernel)
theorem dX10_heirOf_23 : decode cX10_heirOf 23 = .ok (.aload_n 0, 1) := oc_42 (by decide +kernel)
theorem dX10_heirOf_24 : decode cX10_heirOf 24 = .ok (.getfield 39, 3) := oc_180 (a := 0) (b := 39) (by decide +kernel)
theorem dX10_heirOf_27 : decode cX10_heirOf 27 = .ok (.getfield 146, 3) := oc_180 (a := 0) (b := 146) (by decide +kernel)
theorem dX10_heirOf_30 : decode cX10_heirOf 30 = .ok (.if_icmp .ge 54, 3) := oc_162 (a := 0) (b := 54) (by decide +kernel)
theorem dX10_heirOf_84 : decode cX10_heirOf 84 = .ok (.iconst (-1), 1) := oc_2 (by decide +kernel)
theorem dX10_heirOf_85 : decode cX10_heirOf 85 = .ok (.ireturn, 1) := oc_172 (by decide +kernel)
theorem dX10_heirOf_33 : decode cX10_heirOf 33 = .ok (.aload_n 0, 1) := oc_42 (by decide +kernel)
theorem dX10_heirOf_34 : decode cX10_heirOf 34 = .ok (.getfield 57, 3) := oc_180 (a := 0) (b := 57) (by decide +kernel)
theorem dX10_heirOf_37 : decode cX10_heirOf 37 = .ok (.iload_n 2, 1) := oc_28 (by decide +kernel)
theorem dX10_heirOf_38 : decode cX10_heirOf 38 = .ok (.iaload, 1) := oc_46 (by decide +kernel)
theorem dX10_heirOf_39 : decode cX10_heirOf 39 = .ok (.istore_n 3, 1) := oc_62 (by decide +kernel)
theorem dX10_heirOf_40 : decode cX10_heirOf 40 = .ok (.aload_n 0, 1) := oc_42 (by decide +kernel)
theorem dX10_heirOf_41 : decode cX10_heirOf 41 = .ok (.getfield 39, 3) := oc_180 (a := 0) (b := 39) (by decide +kernel)
theorem tw_459 : Cond.fieldLink RX10 240 "RingsUnder$Folk" "kin" "[I" ∈ wsL_law := sg_20 _ (List.mem_of_getElem? (i := 3) rfl)
theorem dX10_heirOf_44 : decode cX10_heirOf 44 = .ok (.getfield 240, 3) := oc_180 (a := 0) (b := 240) (by decide +kernel)
theorem dX10_heirOf_47 : decode cX10_heirOf 47 = .ok (.iload_n 3, 1) := oc_29 (by decide +kernel)
theorem dX10_heirOf_48 : decode cX10_heirOf 48 = .ok (.iaload, 1) := oc_46 (by decide +kernel)
theorem dX10_heirOf_49 : decode cX10_heirOf 49 = .ok (.aload_n 0, 1) := oc_42 (by decide +kernel)
theorem dX10_heirOf_50 : decode cX10_heirOf 50 = .ok (.getfield 39, 3) := oc_180 (a := 0) (b := 39) (by decide +kernel)
theorem dX10_heirOf_53 : decode cX10_heirOf 53 = .ok (.getfield 240, 3) := oc_180 (a := 0) (b := 240) (by decide +kernel)
theorem dX10_heirOf_56 : decode cX10_heirOf 56 = .ok (.iload_n 1, 1) := oc_27 (by decide +kernel)
theorem dX10_heirOf_57 : decode cX10_heirOf 57 = .ok (.iaload, 1) := oc_46 (by decide +kernel)
theorem dX10_heirOf_78 : decode cX10_heirOf 78 = .ok (.iinc 2 1, 3) := oc_132 (b := 1) (by decide +kernel)
theorem dX10_heirOf_81 : decode cX10_heirOf 81 = .ok (.goto (-59), 3) := oc_167 (a := 255) (b := 197) (by decide +kernel)
theorem dX10_heirOf_58 : decode cX10_heirOf 58 = .ok (.if_icmp .ne 20, 3) := oc_160 (a := 0) (b := 20) (by decide +kernel)
theorem dX10_heirOf_61 : decode cX10_heirOf 61 = .ok (.aload_n 0, 1) := oc_42 (by decide +kernel)
theorem dX10_heirOf_62 : decode cX10_heirOf 62 = .ok (.getfield 39, 3) := oc_180 (a := 0) (b := 39) (by decide +kernel)
theorem tw_460 : Cond.fieldLink RX10 243 "RingsUnder$Folk" "place" "[I" ∈ wsL_law := sg_20 _ (List.mem_of_getElem? (i := 4) rfl)
theorem dX10_heirOf_65 : decode cX10_heirOf 65 = .ok (.getfield 243, 3) := oc_180 (a := 0) (b := 243) (by decide +kernel)
theorem dX10_heirOf_68 : decode cX10_heirOf 68 = .ok (.iload_n 3, 1) := oc_29 (by decide +kernel)
theorem dX10_heirOf_69 : decode cX10_heirOf 69 = .ok (.iaload, 1) := oc_46 (by decide +kernel)
theorem dX10_heirOf_70 : decode cX10_heirOf 70 = .ok (.sipush 300, 3) := oc_17 (a := 1) (b := 44) (by decide +kernel)
theorem dX10_heirOf_73 : decode cX10_heirOf 73 = .ok (.if_icmp .eq 5, 3) := oc_159 (a := 0) (b := 5) (by decide +kernel)
theorem dX10_heirOf_76 : decode cX10_heirOf 76 = .ok (.iload_n 3, 1) := oc_29 (by decide +kernel)
theorem dX10_heirOf_77 : decode cX10_heirOf 77 = .ok (.ireturn, 1) := oc_172 (by decide +kernel)
theorem dX10_passTitles_0 : decode cX10_passTitles 0 = .ok (.iconst 0, 1) := oc_3 (by decide +kernel)
theorem dX10_passTitles_1 : decode cX10_passTitles 1 = .ok (.istore_n 3, 1) := oc_62 (by decide +kernel)
theorem dX10_passTitles_2 : decode cX10_passTitles 2 = .ok (.iconst 0, 1) := oc_3 (by decide +kernel)
theorem dX10_passTitles_3 : decode cX10_passTitles 3 = .ok (.istore 4, 2) := oc_54 (by decide +kernel)
theorem dX10_passTitles_5 : decode cX10_passTitles 5 = .ok (.iload 4, 2) := oc_21 (by decide +kernel)
theorem dX10_passTitles_7 : decode cX10_passTitles 7 = .ok (.aload_n 0, 1) := oc_42 (by decide +kernel)
theorem dX10_passTitles_8 : decode cX10_passTitles 8 = .ok (.getfield 32, 3) := oc_180 (a := 0) (b := 32) (by decide +kernel)
theorem dX10_passTitles_11 : decode cX10_passTitles 11 = .ok (.getfield 104, 3) := oc_180 (a := 0) (b := 104) (by decide +kernel)
theorem dX10_passTitles_14 : decode cX10_passTitles 14 = .ok (.if_icmp .ge 31, 3) := oc_162 (a := 0) (b := 31) (by decide +kernel)
theorem dX10_passTitles_45 : decode cX10_passTitles 45 = .ok (.iload_n 3, 1) := oc_29 (by decide +kernel)
theorem dX10_passTitles_46 : decode cX10_passTitles 46 = .ok (.ireturn, 1) := oc_172 (by decide +kernel)
theorem dX10_passTitles_17 : decode cX10_passTitles 17 = .ok (.aload_n 0, 1) := oc_42 (by decide +kernel)
theorem dX10_passTitles_18 : decode cX10_passTitles 18 = .ok (.getfield 18, 3) := oc_180 (a := 0) (b := 18) (by decide +kernel)
theorem dX10_passTitles_21 : decode cX10_passTitles 21 = .ok (.iload 4, 2) := oc_21 (by decide +kernel)
theorem dX10_passTitles_23 : decode cX10_passTitles 23 = .ok (.iaload, 1) := oc_46 (by decide +kernel)
theorem dX10_passTitles_24 : decode cX10_passTitles 24 = .ok (.iload_n 1, 1) := oc_27 (by decide +kernel)
theorem dX10_passTitles_39 : decode cX10_passTitles 39 = .ok (.iinc 4 1, 3) := oc_132 (b := 1) (by decide +kernel)
theorem dX10_passTitles_42 : decode cX10_passTitles 42 = .ok (.goto (-37), 3) := oc_167 (a := 255) (b := 219) (by decide +kernel)
theorem dX10_passTitles_25 : decode cX10_passTitles 25 = .ok (.if_icmp .ne 14, 3) := oc_160 (a := 0) (b := 14) (by decide +kernel)
theorem dX10_passTitles_28 : decode cX10_passTitles 28 = .ok (.aload_n 0, 1) := oc_42 (by decide +kernel)
theorem dX10_passTitles_29 : decode cX10_passTitles 29 = .ok (.getfield 18, 3) := oc_180 (a := 0) (b := 18) (by decide +kernel)
theorem dX10_passTitles_32 : decode cX10_passTitles 32 = .ok (.iload 4, 2) := oc_21 (by decide +kernel)
theorem dX10_passTitles_34 : decode cX10_passTitles 34 = .ok (.iload_n 2, 1) := oc_28 (by decide +kernel)
theorem dX10_passTitles_35 : decode cX10_passTitles 35 = .ok (.iastore, 1) := oc_79 (by decide +kernel)
theorem dX10_passTitles_36 : decode cX10_passTitles 36 = .ok (.iinc 3 1, 3) := oc_132 (b := 1) (by decide +kernel)
theorem dJ13_bitCount_95d88_0 : decode cJ13_bitCount_95d88 0 = .ok (.lload_n 0, 1) := oc_30 (by decide +kernel)
theorem dJ13_bitCount_95d88_1 : decode cJ13_bitCount_95d88 1 = .ok (.lload_n 0, 1) := oc_30 (by decide +kernel)
theorem dJ13_bitCount_95d88_2 : decode cJ13_bitCount_95d88 2 = .ok (.iconst 1, 1) := oc_4 (by decide +kernel)
theorem dJ13_bitCount_95d88_3 : decode cJ13_bitCount_95d88 3 = .ok (.lushr, 1) := oc_125 (by decide +kernel)
theorem tw_1346 : Cond.constantLong RJ13 314 (6148914691236517205) ∈ wsL_law := sg_57 _ (List.mem_of_getElem? (i := 2) rfl)
theorem dJ13_bitCount_95d88_4 : decode cJ13_bitCount_95d88 4 = .ok (.ldc2_w 314, 3) := oc_20 (a := 1) (b := 58) (by decide +kernel)
theorem dJ13_bitCount_95d88_7 : decode cJ13_bitCount_95d88 7 = .ok (.land, 1) := oc_127 (by decide +kernel)
theorem dJ13_bitCount_95d88_8 : decode cJ13_bitCount_95d88 8 = .ok (.lsub, 1) := oc_101 (by decide +kernel)
theorem dJ13_bitCount_95d88_9 : decode cJ13_bitCount_95d88 9 = .ok (.lstore_n 0, 1) := oc_63 (by decide +kernel)
theorem dJ13_bitCount_95d88_10 : decode cJ13_bitCount_95d88 10 = .ok (.lload_n 0, 1) := oc_30 (by decide +kernel)
theorem tw_1347 : Cond.constantLong RJ13 316 (3689348814741910323) ∈ wsL_law := sg_57 _ (List.mem_of_getElem? (i := 3) rfl)
theorem dJ13_bitCount_95d88_11 : decode cJ13_bitCount_95d88 11 = .ok (.ldc2_w 316, 3) := oc_20 (a := 1) (b := 60) (by decide +kernel)
theorem dJ13_bitCount_95d88_14 : decode cJ13_bitCount_95d88 14 = .ok (.land, 1) := oc_127 (by decide +kernel)
theorem dJ13_bitCount_95d88_15 : decode cJ13_bitCount_95d88 15 = .ok (.lload_n 0, 1) := oc_30 (by decide +kernel)
theorem dJ13_bitCount_95d88_16 : decode cJ13_bitCount_95d88 16 = .ok (.iconst 2, 1) := oc_5 (by decide +kernel)
theorem dJ13_bitCount_95d88_17 : decode cJ13_bitCount_95d88 17 = .ok (.lushr, 1) := oc_125 (by decide +kernel)
theorem dJ13_bitCount_95d88_18 : decode cJ13_bitCount_95d88 18 = .ok (.ldc2_w 316, 3) := oc_20 (a := 1) (b := 60) (by decide +kernel)
theorem dJ13_bitCount_95d88_21 : decode cJ13_bitCount_95d88 21 = .ok (.land, 1) := oc_127 (by decide +kernel)
theorem dJ13_bitCount_95d88_22 : decode cJ13_bitCount_95d88 22 = .ok (.ladd, 1) := oc_97 (by decide +kernel)
theorem dJ13_bitCount_95d88_23 : decode cJ13_bitCount_95d88 23 = .ok (.lstore_n 0, 1) := oc_63 (by decide +kernel)
theorem dJ13_bitCount_95d88_24 : decode cJ13_bitCount_95d88 24 = .ok (.lload_n 0, 1) := oc_30 (by decide +kernel)
theorem dJ13_bitCount_95d88_25 : decode cJ13_bitCount_95d88 25 = .ok (.lload_n 0, 1) := oc_30 (by decide +kernel)
theorem dJ13_bitCount_95d88_26 : decode cJ13_bitCount_95d88 26 = .ok (.iconst 4, 1) := oc_7 (by decide +kernel)
theorem dJ13_bitCount_95d88_27 : decode cJ13_bitCount_95d88 27 = .ok (.lushr, 1) := oc_125 (by decide +kernel)
theorem dJ13_bitCount_95d88_28 : decode cJ13_bitCount_95d88 28 = .ok (.ladd, 1) := oc_97 (by decide +kernel)
theorem tw_1348 : Cond.constantLong RJ13 318 (1085102592571150095) ∈ wsL_law := sg_57 _ (List.mem_of_getElem? (i := 4) rfl)
theorem dJ13_bitCount_95d88_29 : decode cJ13_bitCount_95d88 29 = .ok (.ldc2_w 318, 3) := oc_20 (a := 1) (b := 62) (by decide +kernel)
theorem dJ13_bitCount_95d88_32 : decode cJ13_bitCount_95d88 32 = .ok (.land, 1) := oc_127 (by decide +kernel)
theorem dJ13_bitCount_95d88_33 : decode cJ13_bitCount_95d88 33 = .ok (.lstore_n 0, 1) := oc_63 (by decide +kernel)
theorem dJ13_bitCount_95d88_34 : decode cJ13_bitCount_95d88 34 = .ok (.lload_n 0, 1) := oc_30 (by decide +kernel)
theorem dJ13_bitCount_95d88_35 : decode cJ13_bitCount_95d88 35 = .ok (.lload_n 0, 1) := oc_30 (by decide +kernel)
theorem dJ13_bitCount_95d88_36 : decode cJ13_bitCount_95d88 36 = .ok (.bipush 8, 2) := oc_16 (a := 8) (by decide +kernel)
theorem dJ13_bitCount_95d88_38 : decode cJ13_bitCount_95d88 38 = .ok (.lushr, 1) := oc_125 (by decide +kernel)
theorem dJ13_bitCount_95d88_39 : decode cJ13_bitCount_95d88 39 = .ok (.ladd, 1) := oc_97 (by decide +kernel)
theorem dJ13_bitCount_95d88_40 : decode cJ13_bitCount_95d88 40 = .ok (.lstore_n 0, 1) := oc_63 (by decide +kernel)
theorem dJ13_bitCount_95d88_41 : decode cJ13_bitCount_95d88 41 = .ok (.lload_n 0, 1) := oc_30 (by decide +kernel)
theorem dJ13_bitCount_95d88_42 : decode cJ13_bitCount_95d88 42 = .ok (.lload_n 0, 1) := oc_30 (by decide +kernel)
theorem dJ13_bitCount_95d88_43 : decode cJ13_bitCount_95d88 43 = .ok (.bipush 16, 2) := oc_16 (a := 16) (by decide +kernel)
theorem dJ13_bitCount_95d88_45 : decode cJ13_bitCount_95d88 45 = .ok (.lushr, 1) := oc_125 (by decide +kernel)
theorem dJ13_bitCount_95d88_46 : decode cJ13_bitCount_95d88 46 = .ok (.ladd, 1) := oc_97 (by decide +kernel)
theorem dJ13_bitCount_95d88_47 : decode cJ13_bitCount_95d88 47 = .ok (.lstore_n 0, 1) := oc_63 (by decide +kernel)
theorem dJ13_bitCount_95d88_48 : decode cJ13_bitCount_95d88 48 = .ok (.lload_n 0, 1) := oc_30 (by decide +kernel)
theorem dJ13_bitCount_95d88_49 : decode cJ13_bitCount_95d88 49 = .ok (.lload_n 0, 1) := oc_30 (by decide +kernel)
theorem dJ13_bitCount_95d88_50 : decode cJ13_bitCount_95d88 50 = .ok (.bipush 32, 2) := oc_16 (a := 32) (by decide +kernel)
theorem dJ13_bitCount_95d88_52 : decode cJ13_bitCount_95d88 52 = .ok (.lushr, 1) := oc_125 (by decide +kernel)
theorem dJ13_bitCount_95d88_53 : decode cJ13_bitCount_95d88 53 = .ok (.ladd, 1) := oc_97 (by decide +kernel)
theorem dJ13_bitCount_95d88_54 : decode cJ13_bitCount_95d88 54 = .ok (.lstore_n 0, 1) := oc_63 (by decide +kernel)
theorem dJ13_bitCount_95d88_55 : decode cJ13_bitCount_95d88 55 = .ok (.lload_n 0, 1) := oc_30 (by decide +kernel)
theorem dJ13_bitCount_95d88_56 : decode cJ13_bitCount_95d88 56 = .ok (.l2i, 1) := oc_136 (by decide +kernel)
theorem dJ13_bitCount_95d88_57 : decode cJ13_bitCount_95d88 57 = .ok (.bipush 127, 2) := oc_16 (a := 127) (by decide +kernel)
theorem dJ13_bitCount_95d88_59 : decode cJ13_bitCount_95d88 59 = .ok (.iand, 1) := oc_126 (by decide +kernel)
theorem dJ13_bitCount_95d88_60 : decode cJ13_bitCount_95d88 60 = .ok (.ireturn, 1) := oc_172 (by decide +kernel)
theorem dX10_decide_0 : decode cX10_decide 0 = .ok (.aload_n 0, 1) := oc_42 (by decide +kernel)
theorem dX10_decide_1 : decode cX10_decide 1 = .ok (.getfield 39, 3) := oc_180 (a := 0) (b := 39) (by decide +kernel)
theorem tw_1338 : Cond.methodLink RX10 246 yX0_notDead ∈ wsL_law := sg_56 _ (List.mem_of_getElem? (i := 18) rfl)
theorem tw_1339 : Cond.instanceMethod yX0_notDead ∈ wsL_law := sg_56 _ (List.mem_of_getElem? (i := 19) rfl)
theorem tw_1340 : Cond.selects RX0 yX0_notDead yX0_notDead ∈ wsL_law := sg_56 _ (List.mem_of_getElem? (i := 20) rfl)
theorem tw_1341 : Cond.code yX0_notDead cX0_notDead 4 (some .long) ∈ wsL_law := sg_56 _ (List.mem_of_getElem? (i := 21) rfl)
theorem dX10_decide_4 : decode cX10_decide 4 = .ok (.invokevirtual 246, 3) := oc_182 (a := 0) (b := 246) (by decide +kernel)
theorem dX10_decide_7 : decode cX10_decide 7 = .ok (.lstore_n 3, 1) := oc_66 (by decide +kernel)
theorem dX10_decide_8 : decode cX10_decide 8 = .ok (.aload_n 0, 1) := oc_42 (by decide +kernel)
theorem dX10_decide_9 : decode cX10_decide 9 = .ok (.getfield 46, 3) := oc_180 (a := 0) (b := 46) (by decide +kernel)
theorem dX10_decide_12 : decode cX10_decide 12 = .ok (.iconst 1, 1) := oc_4 (by decide +kernel)
theorem dX10_decide_13 : decode cX10_decide 13 = .ok (.aload_n 0, 1) := oc_42 (by decide +kernel)
theorem dX10_decide_14 : decode cX10_decide 14 = .ok (.getfield 67, 3) := oc_180 (a := 0) (b := 67) (by decide +kernel)
theorem dX10_decide_17 : decode cX10_decide 17 = .ok (.aload_n 0, 1) := oc_42 (by decide +kernel)
theorem dX10_decide_18 : decode cX10_decide 18 = .ok (.getfield 39, 3) := oc_180 (a := 0) (b := 39) (by decide +kernel)
theorem dX10_decide_21 : decode cX10_decide 21 = .ok (.lload_n 3, 1) := oc_33 (by decide +kernel)
theorem dX10_decide_22 : decode cX10_decide 22 = .ok (.invokevirtual 142, 3) := oc_182 (a := 0) (b := 142) (by decide +kernel)
theorem dX10_decide_25 : decode cX10_decide 25 = .ok (.aload_n 0, 1) := oc_42 (by decide +kernel)
theorem dX10_decide_26 : decode cX10_decide 26 = .ok (.getfield 46, 3) := oc_180 (a := 0) (b := 46) (by decide +kernel)
theorem dX10_decide_29 : decode cX10_decide 29 = .ok (.iconst 3, 1) := oc_6 (by decide +kernel)
theorem dX10_decide_30 : decode cX10_decide 30 = .ok (.aload_n 0, 1) := oc_42 (by decide +kernel)
theorem dX10_decide_31 : decode cX10_decide 31 = .ok (.getfield 67, 3) := oc_180 (a := 0) (b := 67) (by decide +kernel)
theorem dX10_decide_34 : decode cX10_decide 34 = .ok (.aload_n 0, 1) := oc_42 (by decide +kernel)
theorem dX10_decide_35 : decode cX10_decide 35 = .ok (.getfield 39, 3) := oc_180 (a := 0) (b := 39) (by decide +kernel)
theorem dX10_decide_38 : decode cX10_decide 38 = .ok (.lload_n 3, 1) := oc_33 (by decide +kernel)
theorem dX10_decide_39 : decode cX10_decide 39 = .ok (.invokevirtual 142, 3) := oc_182 (a := 0) (b := 142) (by decide +kernel)
theorem dX10_decide_42 : decode cX10_decide 42 = .ok (.land, 1) := oc_127 (by decide +kernel)
theorem dX10_decide_43 : decode cX10_decide 43 = .ok (.lstore 5, 2) := oc_55 (by decide +kernel)
theorem dX10_decide_45 : decode cX10_decide 45 = .ok (.lload 5, 2) := oc_22 (by decide +kernel)
theorem dX10_decide_47 : decode cX10_decide 47 = .ok (.lload_n 1, 1) := oc_31 (by decide +kernel)
theorem dX10_decide_48 : decode cX10_decide 48 = .ok (.land, 1) := oc_127 (by decide +kernel)
theorem tw_1342 : Cond.methodLink RX10 249 yJ13_bitCount_95d88 ∈ wsL_law := sg_56 _ (List.mem_of_getElem? (i := 22) rfl)
theorem tw_1343 : Cond.static yJ13_bitCount_95d88 ∈ wsL_law := sg_56 _ (List.mem_of_getElem? (i := 23) rfl)
theorem tw_1344 : Cond.initialized RJ13 ∈ wsL_law := sg_57 _ (List.mem_of_getElem? (i := 0) rfl)
theorem tw_1345 : Cond.code yJ13_bitCount_95d88 cJ13_bitCount_95d88 2 (some .int) ∈ wsL_law := sg_57 _ (List.mem_of_getElem? (i := 1) rfl)
theorem dX10_decide_49 : decode cX10_decide 49 = .ok (.invokestatic 249, 3) := oc_184 (a := 0) (b := 249) (by decide +kernel)
theorem dX10_decide_52 : decode cX10_decide 52 = .ok (.istore 7, 2) := oc_54 (by decide +kernel)
theorem dX10_decide_54 : decode cX10_decide 54 = .ok (.bipush 100, 2) := oc_16 (a := 100) (by decide +kernel)
theorem dX10_decide_56 : decode cX10_decide 56 = .ok (.iload 7, 2) := oc_21 (by decide +kernel)
theorem dX10_decide_58 : decode cX10_decide 58 = .ok (.imul, 1) := oc_104 (by decide +kernel)
theorem dX10_decide_59 : decode cX10_decide 59 = .ok (.aload_n 0, 1) := oc_42 (by decide +kernel)
theorem dX10_decide_60 : decode cX10_decide 60 = .ok (.getfield 46, 3) := oc_180 (a := 0) (b := 46) (by decide +kernel)
theorem dX10_decide_63 : decode cX10_decide 63 = .ok (.aload_n 0, 1) := oc_42 (by decide +kernel)
theorem dX10_decide_64 : decode cX10_decide 64 = .ok (.getfield 67, 3) := oc_180 (a := 0) (b := 67) (by decide +kernel)
theorem tw_1349 : Cond.methodLink RX10 255 yX3_councilIn ∈ wsL_law := sg_57 _ (List.mem_of_getElem? (i := 5) rfl)
theorem tw_992 : Cond.instanceMethod yX3_councilIn ∈ wsL_law := sg_42 _ (List.mem_of_getElem? (i := 8) rfl)
theorem tw_993 : Cond.selects RX3 yX3_councilIn yX3_councilIn ∈ wsL_law := sg_42 _ (List.mem_of_getElem? (i := 9) rfl)
theorem tw_994 : Cond.code yX3_councilIn cX3_councilIn 2 (some .int) ∈ wsL_law := sg_42 _ (List.mem_of_getElem? (i := 10) rfl)
theorem dX10_decide_67 : decode cX10_decide 67 = .ok (.invokevirtual 255, 3) := oc_182 (a := 0) (b := 255) (by decide +kernel)
theorem dX10_decide_70 : decode cX10_decide 70 = .ok (.lload 5, 2) := oc_22 (by decide +kernel)
theorem dX10_decide_72 : decode cX10_decide 72 = .ok (.invokestatic 249, 3) := oc_184 (a := 0) (b := 249) (by decide +kernel)
theorem dX10_decide_75 : decode cX10_decide 75 = .ok (.imul, 1) := oc_104 (by decide +kernel)
theorem dX10_decide_76 : decode cX10_decide 76 = .ok (.if_icmp .ge 5, 3) := oc_162 (a := 0) (b := 5) (by decide +kernel)
theorem dX10_decide_81 : decode cX10_decide 81 = .ok (.aload_n 0, 1) := oc_42 (by decide +kernel)
theorem dX10_decide_82 : decode cX10_decide 82 = .ok (.getfield 39, 3) := oc_180 (a := 0) (b := 39) (by decide +kernel)
theorem dX10_decide_85 : decode cX10_decide 85 = .ok (.lload 5, 2) := oc_22 (by decide +kernel)
theorem dX10_decide_87 : decode cX10_decide 87 = .ok (.lload_n 1, 1) := oc_31 (by decide +kernel)
theorem dX10_decide_88 : decode cX10_decide 88 = .ok (.land, 1) := oc_127 (by decide +kernel)
theorem dX10_decide_89 : decode cX10_decide 89 = .ok (.iconst 1, 1) := oc_4 (by decide +kernel)
theorem tw_1350 : Cond.methodLink RX10 258 yX0_countVotes ∈ wsL_law := sg_57 _ (List.mem_of_getElem? (i := 6) rfl)
theorem tw_1351 : Cond.instanceMethod yX0_countVotes ∈ wsL_law := sg_57 _ (List.mem_of_getElem? (i := 7) rfl)
theorem tw_1352 : Cond.selects RX0 yX0_countVotes yX0_countVotes ∈ wsL_law := sg_57 _ (List.mem_of_getElem? (i := 8) rfl)
theorem tw_1353 : Cond.code yX0_countVotes cX0_countVotes 6 (some .int) ∈ wsL_law := sg_57 _ (List.mem_of_getElem? (i := 9) rfl)
theorem dX10_decide_90 : decode cX10_decide 90 = .ok (.invokevirtual 258, 3) := oc_182 (a := 1) (b := 2) (by decide +kernel)
theorem dX10_decide_93 : decode cX10_decide 93 = .ok (.aload_n 0, 1) := oc_42 (by decide +kernel)
theorem dX10_decide_94 : decode cX10_decide 94 = .ok (.getfield 39, 3) := oc_180 (a := 0) (b := 39) (by decide +kernel)
theorem dX10_decide_97 : decode cX10_decide 97 = .ok (.lload 5, 2) := oc_22 (by decide +kernel)
theorem dX10_decide_99 : decode cX10_decide 99 = .ok (.lload_n 1, 1) := oc_31 (by decide +kernel)
theorem dX10_decide_100 : decode cX10_decide 100 = .ok (.land, 1) := oc_127 (by decide +kernel)
theorem dX10_decide_101 : decode cX10_decide 101 = .ok (.iconst 0, 1) := oc_3 (by decide +kernel)
theorem dX10_decide_102 : decode cX10_decide 102 = .ok (.invokevirtual 258, 3) := oc_182 (a := 1) (b := 2) (by decide +kernel)
theorem dX10_decide_105 : decode cX10_decide 105 = .ok (.if_icmp .le 7, 3) := oc_164 (a := 0) (b := 7) (by decide +kernel)
theorem dX10_decide_112 : decode cX10_decide 112 = .ok (.iconst 0, 1) := oc_3 (by decide +kernel)
theorem dX10_decide_113 : decode cX10_decide 113 = .ok (.ireturn, 1) := oc_172 (by decide +kernel)
theorem dX10_decide_108 : decode cX10_decide 108 = .ok (.iconst 1, 1) := oc_4 (by decide +kernel)
theorem dX10_decide_109 : decode cX10_decide 109 = .ok (.goto 4, 3) := oc_167 (a := 0) (b := 4) (by decide +kernel)
theorem dX10_decide_79 : decode cX10_decide 79 = .ok (.iconst 2, 1) := oc_5 (by decide +kernel)
theorem dX10_decide_80 : decode cX10_decide 80 = .ok (.ireturn, 1) := oc_172 (by decide +kernel)
theorem dX11_ring_0 : decode cX11_ring 0 = .ok (.aload_n 0, 1) := oc_42 (by decide +kernel)
theorem tw_16 : Cond.fieldLink RX11 10 "RingsUnder" "now" "LRingsUnder$World;" ∈ wsL_law := sg_1 _ (List.mem_of_getElem? (i := 16) rfl)
theorem dX11_ring_1 : decode cX11_ring 1 = .ok (.getfield 10, 3) := oc_180 (a := 0) (b := 10) (by decide +kernel)
theorem tw_199 : Cond.fieldLink RX11 36 "RingsUnder$World" "land" "LRingsUnder$Land;" ∈ wsL_law := sg_9 _ (List.mem_of_getElem? (i := 7) rfl)
theorem dX11_ring_4 : decode cX11_ring 4 = .ok (.getfield 36, 3) := oc_180 (a := 0) (b := 36) (by decide +kernel)
theorem dX11_ring_7 : decode cX11_ring 7 = .ok (.astore_n 1, 1) := oc_76 (by decide +kernel)
theorem dX11_ring_8 : decode cX11_ring 8 = .ok (.aload_n 1, 1) := oc_43 (by decide +kernel)
theorem tw_200 : Cond.fieldLink RX11 40 "RingsUnder$Land" "rings" "I" ∈ wsL_law := sg_9 _ (List.mem_of_getElem? (i := 8) rfl)
theorem dX11_ring_9 : decode cX11_ring 9 = .ok (.getfield 40, 3) := oc_180 (a := 0) (b := 40) (by decide +kernel)
theorem dX11_ring_12 : decode cX11_ring 12 = .ok (.iconst 5, 1) := oc_8 (by decide +kernel)
theorem dX11_ring_13 : decode cX11_ring 13 = .ok (.if_icmp .lt 5, 3) := oc_161 (a := 0) (b := 5) (by decide +kernel)
theorem dX11_ring_18 : decode cX11_ring 18 = .ok (.aload_n 1, 1) := oc_43 (by decide +kernel)
theorem dX11_ring_19 : decode cX11_ring 19 = .ok (.dup, 1) := oc_89 (by decide +kernel)
theorem dX11_ring_20 : decode cX11_ring 20 = .ok (.getfield 40, 3) := oc_180 (a := 0) (b := 40) (by decide +kernel)
theorem dX11_ring_23 : decode cX11_ring 23 = .ok (.iconst 1, 1) := oc_4 (by decide +kernel)
theorem dX11_ring_24 : decode cX11_ring 24 = .ok (.iadd, 1) := oc_96 (by decide +kernel)
theorem dX11_ring_25 : decode cX11_ring 25 = .ok (.putfield 40, 3) := oc_181 (a := 0) (b := 40) (by decide +kernel)
theorem dX11_ring_28 : decode cX11_ring 28 = .ok (.aload_n 1, 1) := oc_43 (by decide +kernel)
theorem dX11_ring_29 : decode cX11_ring 29 = .ok (.getfield 40, 3) := oc_180 (a := 0) (b := 40) (by decide +kernel)
theorem dX11_ring_32 : decode cX11_ring 32 = .ok (.iconst 1, 1) := oc_4 (by decide +kernel)
theorem dX11_ring_33 : decode cX11_ring 33 = .ok (.isub, 1) := oc_100 (by decide +kernel)
theorem dX11_ring_34 : decode cX11_ring 34 = .ok (.ireturn, 1) := oc_172 (by decide +kernel)
theorem dX11_ring_16 : decode cX11_ring 16 = .ok (.iconst (-1), 1) := oc_2 (by decide +kernel)
theorem dX11_ring_17 : decode cX11_ring 17 = .ok (.ireturn, 1) := oc_172 (by decide +kernel)
theorem dX11_between_0 : decode cX11_between 0 = .ok (.iload_n 0, 1) := oc_26 (by decide +kernel)
theorem dX11_between_1 : decode cX11_between 1 = .ok (.iload_n 1, 1) := oc_27 (by decide +kernel)
theorem dX11_between_14 : decode cX11_between 14 = .ok (.iconst 0, 1) := oc_3 (by decide +kernel)
theorem dX11_between_15 : decode cX11_between 15 = .ok (.ireturn, 1) := oc_172 (by decide +kernel)
theorem dX11_between_2 : decode cX11_between 2 = .ok (.if_icmp .lt 12, 3) := oc_161 (a := 0) (b := 12) (by decide +kernel)
theorem dX11_between_5 : decode cX11_between 5 = .ok (.iload_n 0, 1) := oc_26 (by decide +kernel)
theorem dX11_between_6 : decode cX11_between 6 = .ok (.iload_n 2, 1) := oc_28 (by decide +kernel)
theorem dX11_between_7 : decode cX11_between 7 = .ok (.if_icmp .gt 7, 3) := oc_163 (a := 0) (b := 7) (by decide +kernel)
theorem dX11_between_10 : decode cX11_between 10 = .ok (.iconst 1, 1) := oc_4 (by decide +kernel)
theorem dX11_between_11 : decode cX11_between 11 = .ok (.goto 4, 3) := oc_167 (a := 0) (b := 4) (by decide +kernel)
theorem dX11_isRing_0 : decode cX11_isRing 0 = .ok (.iload_n 1, 1) := oc_27 (by decide +kernel)
theorem dX11_isRing_1 : decode cX11_isRing 1 = .ok (.iconst 0, 1) := oc_3 (by decide +kernel)
theorem dX11_isRing_2 : decode cX11_isRing 2 = .ok (.aload_n 0, 1) := oc_42 (by decide +kernel)
theorem dX11_isRing_3 : decode cX11_isRing 3 = .ok (.getfield 10, 3) := oc_180 (a := 0) (b := 10) (by decide +kernel)
theorem dX11_isRing_6 : decode cX11_isRing 6 = .ok (.getfield 36, 3) := oc_180 (a := 0) (b := 36) (by decide +kernel)
theorem dX11_isRing_9 : decode cX11_isRing 9 = .ok (.getfield 40, 3) := oc_180 (a := 0) (b := 40) (by decide +kernel)
theorem dX11_isRing_12 : decode cX11_isRing 12 = .ok (.iconst 1, 1) := oc_4 (by decide +kernel)
theorem dX11_isRing_13 : decode cX11_isRing 13 = .ok (.isub, 1) := oc_100 (by decide +kernel)
theorem tw_215 : Cond.methodLink RX11 50 yX11_between ∈ wsL_law := sg_9 _ (List.mem_of_getElem? (i := 23) rfl)
theorem tw_216 : Cond.static yX11_between ∈ wsL_law := sg_10 _ (List.mem_of_getElem? (i := 0) rfl)
theorem tw_217 : Cond.code yX11_between cX11_between 3 (some .boolean) ∈ wsL_law := sg_10 _ (List.mem_of_getElem? (i := 1) rfl)
theorem dX11_isRing_14 : decode cX11_isRing 14 = .ok (.invokestatic 50, 3) := oc_184 (a := 0) (b := 50) (by decide +kernel)
theorem dX11_isRing_17 : decode cX11_isRing 17 = .ok (.ireturn, 1) := oc_172 (by decide +kernel)
theorem dX11_cell_0 : decode cX11_cell 0 = .ok (.aload_n 0, 1) := oc_42 (by decide +kernel)
theorem dX11_cell_1 : decode cX11_cell 1 = .ok (.iload_n 1, 1) := oc_27 (by decide +kernel)
theorem tw_211 : Cond.methodLink RX11 46 yX11_isRing ∈ wsL_law := sg_9 _ (List.mem_of_getElem? (i := 19) rfl)
theorem tw_212 : Cond.instanceMethod yX11_isRing ∈ wsL_law := sg_9 _ (List.mem_of_getElem? (i := 20) rfl)
theorem tw_213 : Cond.selects RX11 yX11_isRing yX11_isRing ∈ wsL_law := sg_9 _ (List.mem_of_getElem? (i := 21) rfl)
theorem tw_214 : Cond.code yX11_isRing cX11_isRing 2 (some .boolean) ∈ wsL_law := sg_9 _ (List.mem_of_getElem? (i := 22) rfl)
theorem dX11_cell_2 : decode cX11_cell 2 = .ok (.invokevirtual 46, 3) := oc_182 (a := 0) (b := 46) (by decide +kernel)
theorem dX11_cell_71 : decode cX11_cell 71 = .ok (.istore 7, 2) := oc_54 (by decide +kernel)
theorem dX11_cell_73 : decode cX11_cell 73 = .ok (.iload 7, 2) := oc_21 (by decide +kernel)
theorem dX11_cell_103 : decode cX11_cell 103 = .ok (.iconst (-1), 1) := oc_2 (by decide +kernel)
theorem dX11_cell_104 : decode cX11_cell 104 = .ok (.ireturn, 1) := oc_172 (by decide +kernel)
theorem dX11_cell_75 : decode cX11_cell 75 = .ok (.ifCond .eq 28, 3) := oc_153 (a := 0) (b := 28) (by decide +kernel)
theorem dX11_cell_78 : decode cX11_cell 78 = .ok (.aload_n 0, 1) := oc_42 (by decide +kernel)
theorem dX11_cell_79 : decode cX11_cell 79 = .ok (.getfield 10, 3) := oc_180 (a := 0) (b := 10) (by decide +kernel)
theorem tw_209 : Cond.fieldLink RX11 54 "RingsUnder$World" "clock" "I" ∈ wsL_law := sg_9 _ (List.mem_of_getElem? (i := 17) rfl)
theorem dX11_cell_82 : decode cX11_cell 82 = .ok (.getfield 54, 3) := oc_180 (a := 0) (b := 54) (by decide +kernel)
theorem dX11_cell_85 : decode cX11_cell 85 = .ok (.ifCond .gt 18, 3) := oc_157 (a := 0) (b := 18) (by decide +kernel)
theorem dX11_cell_88 : decode cX11_cell 88 = .ok (.aload_n 0, 1) := oc_42 (by decide +kernel)
theorem dX11_cell_89 : decode cX11_cell 89 = .ok (.getfield 10, 3) := oc_180 (a := 0) (b := 10) (by decide +kernel)
theorem dX11_cell_92 : decode cX11_cell 92 = .ok (.getfield 36, 3) := oc_180 (a := 0) (b := 36) (by decide +kernel)
theorem tw_210 : Cond.fieldLink RX11 57 "RingsUnder$Land" "cells" "I" ∈ wsL_law := sg_9 _ (List.mem_of_getElem? (i := 18) rfl)
theorem dX11_cell_95 : decode cX11_cell 95 = .ok (.getfield 57, 3) := oc_180 (a := 0) (b := 57) (by decide +kernel)
theorem dX11_cell_98 : decode cX11_cell 98 = .ok (.bipush 40, 2) := oc_16 (a := 40) (by decide +kernel)
theorem dX11_cell_100 : decode cX11_cell 100 = .ok (.if_icmp .lt 5, 3) := oc_161 (a := 0) (b := 5) (by decide +kernel)
theorem dX11_cell_105 : decode cX11_cell 105 = .ok (.aload_n 0, 1) := oc_42 (by decide +kernel)
theorem dX11_cell_106 : decode cX11_cell 106 = .ok (.getfield 10, 3) := oc_180 (a := 0) (b := 10) (by decide +kernel)
theorem dX11_cell_109 : decode cX11_cell 109 = .ok (.getfield 36, 3) := oc_180 (a := 0) (b := 36) (by decide +kernel)
theorem dX11_cell_112 : decode cX11_cell 112 = .ok (.iload_n 1, 1) := oc_27 (by decide +kernel)
theorem dX11_cell_113 : decode cX11_cell 113 = .ok (.iload_n 2, 1) := oc_28 (by decide +kernel)
theorem dX11_cell_114 : decode cX11_cell 114 = .ok (.iload_n 3, 1) := oc_29 (by decide +kernel)
theorem dX11_cell_115 : decode cX11_cell 115 = .ok (.iload 4, 2) := oc_21 (by decide +kernel)
theorem dX11_cell_117 : decode cX11_cell 117 = .ok (.iload 5, 2) := oc_21 (by decide +kernel)
theorem dX11_cell_119 : decode cX11_cell 119 = .ok (.iload 6, 2) := oc_21 (by decide +kernel)
theorem tw_218 : Cond.methodLink RX11 60 yX2_addCell ∈ wsL_law := sg_10 _ (List.mem_of_getElem? (i := 2) rfl)
theorem tw_219 : Cond.instanceMethod yX2_addCell ∈ wsL_law := sg_10 _ (List.mem_of_getElem? (i := 3) rfl)
theorem tw_220 : Cond.selects RX2 yX2_addCell yX2_addCell ∈ wsL_law := sg_10 _ (List.mem_of_getElem? (i := 4) rfl)
theorem tw_221 : Cond.code yX2_addCell cX2_addCell 8 (some .int) ∈ wsL_law := sg_10 _ (List.mem_of_getElem? (i := 5) rfl)
theorem dX11_cell_121 : decode cX11_cell 121 = .ok (.invokevirtual 60, 3) := oc_182 (a := 0) (b := 60) (by decide +kernel)
theorem dX11_cell_124 : decode cX11_cell 124 = .ok (.ireturn, 1) := oc_172 (by decide +kernel)
theorem dX11_cell_70 : decode cX11_cell 70 = .ok (.iconst 0, 1) := oc_3 (by decide +kernel)
theorem dX11_cell_5 : decode cX11_cell 5 = .ok (.ifCond .eq 65, 3) := oc_153 (a := 0) (b := 65) (by decide +kernel)
theorem dX11_cell_8 : decode cX11_cell 8 = .ok (.iload_n 2, 1) := oc_28 (by decide +kernel)
theorem dX11_cell_9 : decode cX11_cell 9 = .ok (.sipush (-500), 3) := oc_17 (a := 254) (b := 12) (by decide +kernel)
theorem dX11_cell_12 : decode cX11_cell 12 = .ok (.sipush 3000, 3) := oc_17 (a := 11) (b := 184) (by decide +kernel)
theorem dX11_cell_15 : decode cX11_cell 15 = .ok (.invokestatic 50, 3) := oc_184 (a := 0) (b := 50) (by decide +kernel)
theorem dX11_cell_18 : decode cX11_cell 18 = .ok (.ifCond .eq 52, 3) := oc_153 (a := 0) (b := 52) (by decide +kernel)
theorem dX11_cell_21 : decode cX11_cell 21 = .ok (.iload_n 3, 1) := oc_29 (by decide +kernel)
theorem dX11_cell_22 : decode cX11_cell 22 = .ok (.iconst 0, 1) := oc_3 (by decide +kernel)
theorem dX11_cell_23 : decode cX11_cell 23 = .ok (.bipush 31, 2) := oc_16 (a := 31) (by decide +kernel)
theorem dX11_cell_25 : decode cX11_cell 25 = .ok (.invokestatic 50, 3) := oc_184 (a := 0) (b := 50) (by decide +kernel)
theorem dX11_cell_28 : decode cX11_cell 28 = .ok (.ifCond .eq 42, 3) := oc_153 (a := 0) (b := 42) (by decide +kernel)
theorem dX11_cell_31 : decode cX11_cell 31 = .ok (.iload 4, 2) := oc_21 (by decide +kernel)
theorem dX11_cell_33 : decode cX11_cell 33 = .ok (.iconst 0, 1) := oc_3 (by decide +kernel)
theorem dX11_cell_34 : decode cX11_cell 34 = .ok (.bipush 31, 2) := oc_16 (a := 31) (by decide +kernel)
theorem dX11_cell_36 : decode cX11_cell 36 = .ok (.invokestatic 50, 3) := oc_184 (a := 0) (b := 50) (by decide +kernel)
theorem dX11_cell_39 : decode cX11_cell 39 = .ok (.ifCond .eq 31, 3) := oc_153 (a := 0) (b := 31) (by decide +kernel)
theorem dX11_cell_42 : decode cX11_cell 42 = .ok (.iload 5, 2) := oc_21 (by decide +kernel)
theorem dX11_cell_44 : decode cX11_cell 44 = .ok (.iconst 0, 1) := oc_3 (by decide +kernel)
theorem dX11_cell_45 : decode cX11_cell 45 = .ok (.sipush 500, 3) := oc_17 (a := 1) (b := 244) (by decide +kernel)
theorem dX11_cell_48 : decode cX11_cell 48 = .ok (.invokestatic 50, 3) := oc_184 (a := 0) (b := 50) (by decide +kernel)
theorem dX11_cell_51 : decode cX11_cell 51 = .ok (.ifCond .eq 19, 3) := oc_153 (a := 0) (b := 19) (by decide +kernel)
theorem dX11_cell_54 : decode cX11_cell 54 = .ok (.iload 6, 2) := oc_21 (by decide +kernel)
theorem dX11_cell_56 : decode cX11_cell 56 = .ok (.iconst 0, 1) := oc_3 (by decide +kernel)
theorem dX11_cell_57 : decode cX11_cell 57 = .ok (.sipush 400, 3) := oc_17 (a := 1) (b := 144) (by decide +kernel)
theorem dX11_cell_60 : decode cX11_cell 60 = .ok (.invokestatic 50, 3) := oc_184 (a := 0) (b := 50) (by decide +kernel)
theorem dX11_cell_63 : decode cX11_cell 63 = .ok (.ifCond .eq 7, 3) := oc_153 (a := 0) (b := 7) (by decide +kernel)
theorem dX11_cell_66 : decode cX11_cell 66 = .ok (.iconst 1, 1) := oc_4 (by decide +kernel)
theorem dX11_cell_67 : decode cX11_cell 67 = .ok (.goto 4, 3) := oc_167 (a := 0) (b := 4) (by decide +kernel)
set_option maxRecDepth 100000 in
def g_X10_wasDry (a0 : Int32) (I : Nat → Int32) (J : Nat → Int64) (ri : Nat → Nat → Int32) (rj : Nat → Nat → Int64) (rq : Nat → Nat → Option Nat) : Int32 × vM := (ap1 (I 320) fun (y_2 : Int32) => (if (y_2) = (0 : Int32) then ((-1 : Int32), I, J, ri, rj, rq) else (bnI (g_X2_isDry a0 I J ri rj rq) fun (x_8 : Int32) (_ : Nat → Int32) (_ : Nat → Int64) (_ : Nat → Nat → Int32) (_ : Nat → Nat → Int64) (_ : Nat → Nat → Option Nat) => (if x_8 = (0 : Int32) then ((0 : Int32), I, J, ri, rj, rq) else ((1 : Int32), I, J, ri, rj, rq)))))
set_option maxRecDepth 100000 in
theorem g_X10_wasDry_e {a0 : Int32} {I : Nat → Int32} {J : Nat → Int64} {ri : Nat → Nat → Int32} {rj : Nat → Nat → Int64} {rq : Nat → Nat → Option Nat} : g_X10_wasDry a0 I J ri rj rq = (ap1 (I 320) fun (y_2 : Int32) => (if (y_2) = (0 : Int32) then ((-1 : Int32), I, J, ri, rj, rq) else (bnI (g_X2_isDry a0 I J ri rj rq) fun (x_8 : Int32) (_ : Nat → Int32) (_ : Nat → Int64) (_ : Nat → Nat → Int32) (_ : Nat → Nat → Int64) (_ : Nat → Nat → Option Nat) => (if x_8 = (0 : Int32) then ((0 : Int32), I, J, ri, rj, rq) else ((1 : Int32), I, J, ri, rj, rq))))) := rfl
set_option maxHeartbeats 4000000 in
set_option maxRecDepth 100000 in
theorem s_X10_wasDry (l : Launch) (D : va_G) (t : pq_T) (σ : pq_S) (I : Nat → Nat → Int32) (J : Nat → Nat → Int64) (ri : Nat → Nat → Int32) (rj : Nat → Nat → Int64) (rq : Nat → Nat → Option Nat) (sz : Nat) (tg : Nat → Nat) (hSH : SH σ tg) (hG0 : GS tg σ I ri rq) (this : Nat) (a0 : Int32) (hL_this : this ∈ σ.1) (hK_this : σ.2.1 this = 10) : MetI l yX10_wasDry (wa yX10_wasDry cX10_wasDry 2 (some .int)) ({ frames := 2, cells := 0, slots := 0, locals := 43 }) [.ref this, .int a0] D t σ (I, J, ri, rj, rq) sz 0 0 (fun (r : Int32) (u : pq_S × pq_M) => u = (σ, I, J, ri, rj, rq) ∧ g_X10_wasDry a0 (vI 10 σ this I) (vJ 10 σ this J) (vR 10 σ this ri) (vL 10 σ this rj) (vQ 10 σ this rq) = (r, (vI 10 σ this I), (vJ 10 σ this J), (vR 10 σ this ri), (vL 10 σ this rj), (vQ 10 σ this rq)) ∧ rg r (-1) 1) := by
  refine Met.ofW (cc := cX10_wasDry) (maxL := 2) (ret := (some .int)) (by decide +kernel) rfl ?_
  intro p e s m args below meth c s₁ B hml hv
  obtain ⟨rfl, hsz, hP, hK, hD0, hN⟩ := hv
  have hx := B.exec
  have hb := B.bytes
  have hr := B.returns
  have hts := atoms_spec (ws := (wa yX10_wasDry cX10_wasDry 2 (some .int))) B.pre
  have hown : s.vm.findClass RX10 = some m.cls := findClass_of_methodNamed B.named
  have hlocks := B.notSynchronized
  subst hsz
  have hD : va_D (pq_B t σ (I, J, ri, rj, rq) s.heap.size) (pq_P t σ (I, J, ri, rj, rq)) := hD0.self
  generalize hAe : pq_B t σ (I, J, ri, rj, rq) s.heap.size = A at hD ⊢
  have hA : ∀ q : Nat, s.heap.size ≤ q → A q := fun q h => by rw [← hAe]; exact Or.inr h
  have hS : va_S A s.heap s.heap [] := va_S.rf
  have hG : GX [] tg σ I ri rj I ri rj rq := ⟨hG0, fun _ _ _ => rfl, fun _ _ _ _ _ => rfl, fun _ _ _ _ _ => rfl⟩
  have hl := lv_entry ([.ref this, .int a0]) (n := 2) (Nat.le_of_ble_eq_true rfl)
  rw [lg_entry_eq]
  generalize (lg_sl ([.ref this, .int a0]) ++ List.replicate (2 - (lg_sl ([.ref this, .int a0])).length) Slot.unset).toArray = ls at hl ⊢
  have hl : lv_has ls 2 [(0, .ref this), (1, .int a0)] := hl
  refine q_gen (fun Q hQ => ?_)
  have go : ∀ (H : Heap) (locs : List Loc) (ls : Array Slot), va_P D vwCl (pq_P t σ (I, J, ri, rj, rq)) H → va_D A (pq_P t σ (I, J, ri, rj, rq)) → va_S A s.heap H locs → lv_has ls 2 [(0, .ref this), (1, .int a0)] → W p l e ({ frames := 2, cells := 0, slots := 0, locals := 43 } : Room) s m (List.toArray ([.ref this, .int a0] : List Value)) below meth c H locs 0 0 Q (F0 m 0 ls []) := by
    intro H locs ls hP hD hS hl
    have hO_this : this = vo σ 10 this := rfl
    have hVT : VT 10 σ tg this := vt_10 hSH hL_this hK_this
    have hFr : FR 10 tg σ this (I, J, ri, rj, rq) (I, J, ri, rj, rq) := fr_rf
    obtain ⟨F, hF0⟩ : ∃ F, F = g_X10_wasDry a0 (vI 10 σ this I) (vJ 10 σ this J) (vR 10 σ this ri) (vL 10 σ this rj) (vQ 10 σ this rq) := ⟨_, rfl⟩
    have hF := hF0.trans g_X10_wasDry_e
    refine lv_aload_n hx hb dX10_wasDry_0 rfl (lv_at hl 0 rfl) ?_
    refine pg_f (v := .int (I 320 this)) (C := RX10) (T := TX10) (N := 13) hx hb hts (tw_i inlX10) hown hK hP hL_this hK_this (by decide +kernel) rfl 0 (by decide +kernel) (hts _ (tw_c tw_457)) rfl dX10_wasDry_1 ?_
    have h_1 : rg (I 320 this) 0 600 := GX.rI hG 320 rfl
    replace hF := hF.trans (ap_n (vI_e (f := 320) hO_this (by decide +kernel)))
    refine lv_if_ne (tgt := 9) hx hb dX10_wasDry_4 (by decide +kernel) (fun c_3 => ?_) (fun c_3 => ?_)
    · replace hF := hF.trans (if_neg c_3)
      have h_6 : rg (I 320 this) 1 600 := rg_ne c_3 h_1 0 rfl (by decide +kernel)
      refine lv_aload_n hx hb dX10_wasDry_9 rfl (lv_at hl 0 rfl) ?_
      obtain ⟨w_7, hR_w_7, hL_w_7, hK_w_7⟩ := sh_o hSH 327 (ci := 10) (kd := 2) rfl hL_this hK_this
      have hO_w_7 : w_7 = vo σ 2 this := vo_k (c := 10) hO_this hR_w_7
      refine pg_f (v := .ref w_7) (C := RX10) (T := TX10) (N := 13) hx hb hts (tw_i inlX10) hown hK hP hL_this hK_this (by decide +kernel) rfl 7 (by decide +kernel) (hts _ (tw_c tw_42)) (pq_hv rfl hR_w_7) dX10_wasDry_10 ?_
      refine lv_iload_n hx hb dX10_wasDry_13 rfl (lv_at hl 1 rfl) ?_
      refine pk_i (va_runV (As := [.int a0]) (rest := []) ⟨hx, hb, hml, hown, hts⟩ (s_X2_isDry l D t σ I J ri rj rq H.size tg hSH hG.1 w_7 a0 hL_w_7 hK_w_7 this hL_this hK_this hO_w_7) (cwV 1 hts (tw_V tw_554 tw_555 tw_556 tw_41 tw_557) rfl rfl rfl cv_yX2_isDry_1 ⟨Nat.le_of_ble_eq_true rfl, Nat.le_of_ble_eq_true rfl⟩) ⟨pq_blind, pq_recv hK hP hL_w_7 hK_w_7 (by decide +kernel) rfl, pq_pre hK hN hP hD⟩ rfl rfl hl.1 rfl (lv_room (Nat.le_of_ble_eq_true rfl)) dX10_wasDry_14 ⟨Nat.le_of_ble_eq_true rfl, Nat.le_of_ble_eq_true rfl⟩) hD hS hA (fun x_8 σ1 μ1 H locs hw_9 hP hD hS => ?_)
      obtain ⟨hu_10, hfn_13, hr_12⟩ := hw_9
      obtain ⟨hu_10a, hu_10b⟩ := Prod.mk.inj hu_10
      rw [hu_10a, hu_10b] at hP hD
      replace hF := hF.trans (bn_n hfn_13)
      have h_15 : rg x_8 0 1 := by rcases hr_12 with ⟨q, -⟩ | ⟨q, -⟩ <;> rw [q] <;> exact ⟨by decide +kernel, by decide +kernel⟩
      refine lv_if_eq (tgt := 24) hx hb dX10_wasDry_17 (by decide +kernel) (fun c_16 => ?_) (fun c_16 => ?_)
      · replace hF := hF.trans (if_pos c_16)
        have h_19 : rg x_8 0 0 := rg_and h_15 (rg_of_eq c_16 (rg_k (0 : Int32) 0 rfl)) (by decide +kernel)
        refine lv_iconst (v := 0) hx hb dX10_wasDry_24 (by decide +kernel) ?_
        subst hQ
        exact W.iret (v := 0) hx hb hr (fun t1 ht hW => ⟨⟨0, (σ, I, J, ri, rj, rq), rfl, ⟨rfl, (hF0.symm.trans hF), (rg_w (rg_k (0 : Int32) 0 rfl) (by decide +kernel))⟩, by rw [ht]; exact hP, va_K.moved hW.alike hK, hD⟩, hS.F ht⟩) hS.2.2 dX10_wasDry_25
      · replace hF := hF.trans (if_neg c_16)
        have h_20 : rg x_8 1 1 := rg_ne c_16 h_15 0 rfl (by decide +kernel)
        refine lv_iconst (v := 1) hx hb dX10_wasDry_20 (by decide +kernel) ?_
        refine lv_goto (tgt := 25) hx hb dX10_wasDry_21 (by decide +kernel) ?_
        subst hQ
        exact W.iret (v := 1) hx hb hr (fun t1 ht hW => ⟨⟨1, (σ, I, J, ri, rj, rq), rfl, ⟨rfl, (hF0.symm.trans hF), (rg_w (rg_k (1 : Int32) 1 rfl) (by decide +kernel))⟩, by rw [ht]; exact hP, va_K.moved hW.alike hK, hD⟩, hS.F ht⟩) hS.2.2 dX10_wasDry_25
    · replace hF := hF.trans (if_pos c_3)
      have h_21 : rg (I 320 this) 0 0 := rg_and h_1 (rg_of_eq c_3 (rg_k (0 : Int32) 0 rfl)) (by decide +kernel)
      refine lv_iconst (v := (-1)) hx hb dX10_wasDry_7 (by decide +kernel) ?_
      subst hQ
      exact W.iret (v := (-1)) hx hb hr (fun t1 ht hW => ⟨⟨(-1), (σ, I, J, ri, rj, rq), rfl, ⟨rfl, (hF0.symm.trans hF), (rg_w (rg_k (-1 : Int32) (-1) rfl) (by decide +kernel))⟩, by rw [ht]; exact hP, va_K.moved hW.alike hK, hD⟩, hS.F ht⟩) hS.2.2 dX10_wasDry_8
  exact go _ _ _ hP hD hS hl

set_option maxRecDepth 100000 in
def g_X10_wasRock (a0 : Int32) (I : Nat → Int32) (J : Nat → Int64) (ri : Nat → Nat → Int32) (rj : Nat → Nat → Int64) (rq : Nat → Nat → Option Nat) : Int32 × vM := (ap1 (I 320) fun (y_2 : Int32) => (if (y_2) = (0 : Int32) then ((-1 : Int32), I, J, ri, rj, rq) else (ap1 ((y_2) - (1 : Int32)) fun (x_9 : Int32) => (ap1 (rj 68 (x_9).toNatClampNeg) fun (x_11 : Int64) => (ap1 (g_X11_hasBit x_11 a0) fun (x_12 : Int32) => (if x_12 = (0 : Int32) then ((0 : Int32), I, J, ri, rj, rq) else ((1 : Int32), I, J, ri, rj, rq)))))))
set_option maxRecDepth 100000 in
theorem g_X10_wasRock_e {a0 : Int32} {I : Nat → Int32} {J : Nat → Int64} {ri : Nat → Nat → Int32} {rj : Nat → Nat → Int64} {rq : Nat → Nat → Option Nat} : g_X10_wasRock a0 I J ri rj rq = (ap1 (I 320) fun (y_2 : Int32) => (if (y_2) = (0 : Int32) then ((-1 : Int32), I, J, ri, rj, rq) else (ap1 ((y_2) - (1 : Int32)) fun (x_9 : Int32) => (ap1 (rj 68 (x_9).toNatClampNeg) fun (x_11 : Int64) => (ap1 (g_X11_hasBit x_11 a0) fun (x_12 : Int32) => (if x_12 = (0 : Int32) then ((0 : Int32), I, J, ri, rj, rq) else ((1 : Int32), I, J, ri, rj, rq))))))) := rfl
set_option maxHeartbeats 4000000 in
set_option maxRecDepth 100000 in
theorem s_X10_wasRock (l : Launch) (D : va_G) (t : pq_T) (σ : pq_S) (I : Nat → Nat → Int32) (J : Nat → Nat → Int64) (ri : Nat → Nat → Int32) (rj : Nat → Nat → Int64) (rq : Nat → Nat → Option Nat) (sz : Nat) (tg : Nat → Nat) (hSH : SH σ tg) (hG0 : GS tg σ I ri rq) (this : Nat) (a0 : Int32) (hL_this : this ∈ σ.1) (hK_this : σ.2.1 this = 10) : MetI l yX10_wasRock (wa yX10_wasRock cX10_wasRock 2 (some .int)) ({ frames := 1, cells := 0, slots := 0, locals := 22 }) [.ref this, .int a0] D t σ (I, J, ri, rj, rq) sz 0 0 (fun (r : Int32) (u : pq_S × pq_M) => u = (σ, I, J, ri, rj, rq) ∧ g_X10_wasRock a0 (vI 10 σ this I) (vJ 10 σ this J) (vR 10 σ this ri) (vL 10 σ this rj) (vQ 10 σ this rq) = (r, (vI 10 σ this I), (vJ 10 σ this J), (vR 10 σ this ri), (vL 10 σ this rj), (vQ 10 σ this rq)) ∧ rg r (-1) 1) := by
  refine Met.ofW (cc := cX10_wasRock) (maxL := 2) (ret := (some .int)) (by decide +kernel) rfl ?_
  intro p e s m args below meth c s₁ B hml hv
  obtain ⟨rfl, hsz, hP, hK, hD0, hN⟩ := hv
  have hx := B.exec
  have hb := B.bytes
  have hr := B.returns
  have hts := atoms_spec (ws := (wa yX10_wasRock cX10_wasRock 2 (some .int))) B.pre
  have hown : s.vm.findClass RX10 = some m.cls := findClass_of_methodNamed B.named
  have hlocks := B.notSynchronized
  subst hsz
  have hD : va_D (pq_B t σ (I, J, ri, rj, rq) s.heap.size) (pq_P t σ (I, J, ri, rj, rq)) := hD0.self
  generalize hAe : pq_B t σ (I, J, ri, rj, rq) s.heap.size = A at hD ⊢
  have hA : ∀ q : Nat, s.heap.size ≤ q → A q := fun q h => by rw [← hAe]; exact Or.inr h
  have hS : va_S A s.heap s.heap [] := va_S.rf
  have hG : GX [] tg σ I ri rj I ri rj rq := ⟨hG0, fun _ _ _ => rfl, fun _ _ _ _ _ => rfl, fun _ _ _ _ _ => rfl⟩
  have hl := lv_entry ([.ref this, .int a0]) (n := 2) (Nat.le_of_ble_eq_true rfl)
  rw [lg_entry_eq]
  generalize (lg_sl ([.ref this, .int a0]) ++ List.replicate (2 - (lg_sl ([.ref this, .int a0])).length) Slot.unset).toArray = ls at hl ⊢
  have hl : lv_has ls 2 [(0, .ref this), (1, .int a0)] := hl
  refine q_gen (fun Q hQ => ?_)
  have go : ∀ (H : Heap) (locs : List Loc) (ls : Array Slot), va_P D vwCl (pq_P t σ (I, J, ri, rj, rq)) H → va_D A (pq_P t σ (I, J, ri, rj, rq)) → va_S A s.heap H locs → lv_has ls 2 [(0, .ref this), (1, .int a0)] → W p l e ({ frames := 1, cells := 0, slots := 0, locals := 22 } : Room) s m (List.toArray ([.ref this, .int a0] : List Value)) below meth c H locs 0 0 Q (F0 m 0 ls []) := by
    intro H locs ls hP hD hS hl
    have hO_this : this = vo σ 10 this := rfl
    have hVT : VT 10 σ tg this := vt_10 hSH hL_this hK_this
    have hFr : FR 10 tg σ this (I, J, ri, rj, rq) (I, J, ri, rj, rq) := fr_rf
    obtain ⟨F, hF0⟩ : ∃ F, F = g_X10_wasRock a0 (vI 10 σ this I) (vJ 10 σ this J) (vR 10 σ this ri) (vL 10 σ this rj) (vQ 10 σ this rq) := ⟨_, rfl⟩
    have hF := hF0.trans g_X10_wasRock_e
    refine lv_aload_n hx hb dX10_wasRock_0 rfl (lv_at hl 0 rfl) ?_
    refine pg_f (v := .int (I 320 this)) (C := RX10) (T := TX10) (N := 13) hx hb hts (tw_i inlX10) hown hK hP hL_this hK_this (by decide +kernel) rfl 0 (by decide +kernel) (hts _ (tw_c tw_457)) rfl dX10_wasRock_1 ?_
    have h_1 : rg (I 320 this) 0 600 := GX.rI hG 320 rfl
    replace hF := hF.trans (ap_n (vI_e (f := 320) hO_this (by decide +kernel)))
    refine lv_if_ne (tgt := 9) hx hb dX10_wasRock_4 (by decide +kernel) (fun c_3 => ?_) (fun c_3 => ?_)
    · replace hF := hF.trans (if_neg c_3)
      have h_6 : rg (I 320 this) 1 600 := rg_ne c_3 h_1 0 rfl (by decide +kernel)
      refine lv_aload_n hx hb dX10_wasRock_9 rfl (lv_at hl 0 rfl) ?_
      obtain ⟨w_7, hR_w_7, hL_w_7, hK_w_7⟩ := sh_o hSH 327 (ci := 10) (kd := 2) rfl hL_this hK_this
      have hO_w_7 : w_7 = vo σ 2 this := vo_k (c := 10) hO_this hR_w_7
      refine pg_f (v := .ref w_7) (C := RX10) (T := TX10) (N := 13) hx hb hts (tw_i inlX10) hown hK hP hL_this hK_this (by decide +kernel) rfl 7 (by decide +kernel) (hts _ (tw_c tw_42)) (pq_hv rfl hR_w_7) dX10_wasRock_10 ?_
      obtain ⟨w_8, hR_w_8, hL_w_8, hK_w_8, hN_w_8, hT_w_8⟩ := sh_a hSH 68 (ci := 2) (kd := 14) (len := 600) rfl (by decide +kernel) hL_w_7 hK_w_7
      have hO_w_8 : w_8 = vrow σ 68 this := vo_k (c := 2) hO_w_7 hR_w_8
      refine pg_f (v := .ref w_8) (C := RX2) (T := TX2) (N := 20) hx hb hts (tw_i inlX2) hown hK hP hL_w_7 hK_w_7 (by decide +kernel) rfl 4 (by decide +kernel) (hts _ (tw_c tw_1129)) (pq_hv rfl hR_w_8) dX10_wasRock_13 ?_
      refine lv_aload_n hx hb dX10_wasRock_16 rfl (lv_at hl 0 rfl) ?_
      refine pg_f (v := .int (I 320 this)) (C := RX10) (T := TX10) (N := 13) hx hb hts (tw_i inlX10) hown hK hP hL_this hK_this (by decide +kernel) rfl 0 (by decide +kernel) (hts _ (tw_c tw_457)) rfl dX10_wasRock_17 ?_
      refine lv_iconst (v := 1) hx hb dX10_wasRock_20 (by decide +kernel) ?_
      refine lv_isub hx hb dX10_wasRock_21 ?_
      refine lv_topi (fun x_9 ex_9 => ?_)
      replace hF := hF.trans (ap_n ex_9)
      have h_10 : rg x_9 0 599 := rg_of_eq ex_9 (rg_sub h_6 (rg_k (1 : Int32) 1 rfl) (by decide +kernel))
      refine pl_l hx hb hK hP hL_w_8 hK_w_8 hN_w_8 (rg_in h_10 (by decide +kernel)) dX10_wasRock_22 ?_
      refine lv_topl (fun x_11 ex_11 => ?_)
      replace hF := hF.trans (ap_n (vL_r hO_w_8 (by decide +kernel) ex_11))
      refine lv_iload_n hx hb dX10_wasRock_23 rfl (lv_at hl 1 rfl) ?_
      refine pk_i (va_runSN (As := [.long x_11, .int a0]) (rest := []) ⟨hx, hb, hml, hown, hts⟩ (s_X11_hasBit l D t σ I J ri rj rq H.size tg hSH hG.1 x_11 a0) ⟨va_cnB (host := "RingsUnder") 2 hts (tw_W tw_560) rfl rfl rfl (nl_24 hN) (hts _ (tw_c tw_2)) cd_yX11_hasBit_2 ⟨Nat.le_of_ble_eq_true rfl, Nat.le_of_ble_eq_true rfl⟩, hts (.static yX11_hasBit) (tw_c tq_static_yX11_hasBit), trivial⟩ ⟨pq_blind, pq_pre hK hN hP hD⟩ rfl rfl hl.1 rfl (lv_room (Nat.le_of_ble_eq_true rfl)) dX10_wasRock_24 ⟨Nat.le_of_ble_eq_true rfl, Nat.le_of_ble_eq_true rfl⟩) hD hS hA (fun x_12 σ1 μ1 H locs hw_13 hP hD hS => ?_)
      obtain ⟨hu_14, hfn_17, hr_16⟩ := hw_13
      obtain ⟨hu_14a, hu_14b⟩ := Prod.mk.inj hu_14
      rw [hu_14a, hu_14b] at hP hD
      replace hF := hF.trans (ap_n hfn_17.symm)
      have h_19 : rg x_12 0 1 := by rcases hr_16 with ⟨q, -⟩ | ⟨q, -⟩ <;> rw [q] <;> exact ⟨by decide +kernel, by decide +kernel⟩
      refine lv_if_eq (tgt := 34) hx hb dX10_wasRock_27 (by decide +kernel) (fun c_20 => ?_) (fun c_20 => ?_)
      · replace hF := hF.trans (if_pos c_20)
        have h_23 : rg x_12 0 0 := rg_and h_19 (rg_of_eq c_20 (rg_k (0 : Int32) 0 rfl)) (by decide +kernel)
        refine lv_iconst (v := 0) hx hb dX10_wasRock_34 (by decide +kernel) ?_
        subst hQ
        exact W.iret (v := 0) hx hb hr (fun t1 ht hW => ⟨⟨0, (σ, I, J, ri, rj, rq), rfl, ⟨rfl, (hF0.symm.trans hF), (rg_w (rg_k (0 : Int32) 0 rfl) (by decide +kernel))⟩, by rw [ht]; exact hP, va_K.moved hW.alike hK, hD⟩, hS.F ht⟩) hS.2.2 dX10_wasRock_35
      · replace hF := hF.trans (if_neg c_20)
        have h_24 : rg x_12 1 1 := rg_ne c_20 h_19 0 rfl (by decide +kernel)
        refine lv_iconst (v := 1) hx hb dX10_wasRock_30 (by decide +kernel) ?_
        refine lv_goto (tgt := 35) hx hb dX10_wasRock_31 (by decide +kernel) ?_
        subst hQ
        exact W.iret (v := 1) hx hb hr (fun t1 ht hW => ⟨⟨1, (σ, I, J, ri, rj, rq), rfl, ⟨rfl, (hF0.symm.trans hF), (rg_w (rg_k (1 : Int32) 1 rfl) (by decide +kernel))⟩, by rw [ht]; exact hP, va_K.moved hW.alike hK, hD⟩, hS.F ht⟩) hS.2.2 dX10_wasRock_35
    · replace hF := hF.trans (if_pos c_3)
      have h_25 : rg (I 320 this) 0 0 := rg_and h_1 (rg_of_eq c_3 (rg_k (0 : Int32) 0 rfl)) (by decide +kernel)
      refine lv_iconst (v := (-1)) hx hb dX10_wasRock_7 (by decide +kernel) ?_
      subst hQ
      exact W.iret (v := (-1)) hx hb hr (fun t1 ht hW => ⟨⟨(-1), (σ, I, J, ri, rj, rq), rfl, ⟨rfl, (hF0.symm.trans hF), (rg_w (rg_k (-1 : Int32) (-1) rfl) (by decide +kernel))⟩, by rw [ht]; exact hP, va_K.moved hW.alike hK, hD⟩, hS.F ht⟩) hS.2.2 dX10_wasRock_8
  exact go _ _ _ hP hD hS hl

set_option maxRecDepth 100000 in
def g_X10_titleStands_K50 (I : Nat → Int32) (J : Nat → Int64) (rj : Nat → Nat → Int64) (rq : Nat → Nat → Option Nat) (ri_36 : Nat → Nat → Int32) : Int32 × vM := ((1 : Int32), I, J, ri_36, rj, rq)
set_option maxRecDepth 100000 in
theorem g_X10_titleStands_K50_e {I : Nat → Int32} {J : Nat → Int64} {rj : Nat → Nat → Int64} {rq : Nat → Nat → Option Nat} {ri_36 : Nat → Nat → Int32} : g_X10_titleStands_K50 I J rj rq ri_36 = ((1 : Int32), I, J, ri_36, rj, rq) := rfl
set_option maxRecDepth 100000 in
def g_X10_titleStands (tI : Nat → Nat → Int32) (tR : Nat → Nat → Nat → Int32) (a0 : Int32) (I : Nat → Int32) (J : Nat → Int64) (ri : Nat → Nat → Int32) (rj : Nat → Nat → Int64) (rq : Nat → Nat → Option Nat) : Int32 × vM := (ap1 (ri 325 (a0).toNatClampNeg) fun (x_2 : Int32) => (if x_2 = (-1 : Int32) then ((0 : Int32), I, J, ri, rj, rq) else (bnI (g_X10_wasDry a0 I J ri rj rq) fun (x_8 : Int32) (_ : Nat → Int32) (_ : Nat → Int64) (_ : Nat → Nat → Int32) (_ : Nat → Nat → Int64) (_ : Nat → Nat → Option Nat) => (if x_8 = (0 : Int32) then (ap1 (I 320) fun (y_43 : Int32) => (ap1 (ri 77 (a0).toNatClampNeg) fun (x_47 : Int32) => (bnI (g_X3_lastsFor tI tR (y_43) x_2 x_47 I J ri rj rq) fun (x_48 : Int32) (_ : Nat → Int32) (_ : Nat → Int64) (ri_50 : Nat → Nat → Int32) (_ : Nat → Nat → Int64) (_ : Nat → Nat → Option Nat) => (if x_48 = (0 : Int32) then ((0 : Int32), I, J, ri_50, rj, rq) else (g_X10_titleStands_K50 I J rj rq ri_50))))) else (g_X10_titleStands_K50 I J rj rq ri)))))
set_option maxRecDepth 100000 in
theorem g_X10_titleStands_e {tI : Nat → Nat → Int32} {tR : Nat → Nat → Nat → Int32} {a0 : Int32} {I : Nat → Int32} {J : Nat → Int64} {ri : Nat → Nat → Int32} {rj : Nat → Nat → Int64} {rq : Nat → Nat → Option Nat} : g_X10_titleStands tI tR a0 I J ri rj rq = (ap1 (ri 325 (a0).toNatClampNeg) fun (x_2 : Int32) => (if x_2 = (-1 : Int32) then ((0 : Int32), I, J, ri, rj, rq) else (bnI (g_X10_wasDry a0 I J ri rj rq) fun (x_8 : Int32) (_ : Nat → Int32) (_ : Nat → Int64) (_ : Nat → Nat → Int32) (_ : Nat → Nat → Int64) (_ : Nat → Nat → Option Nat) => (if x_8 = (0 : Int32) then (ap1 (I 320) fun (y_43 : Int32) => (ap1 (ri 77 (a0).toNatClampNeg) fun (x_47 : Int32) => (bnI (g_X3_lastsFor tI tR (y_43) x_2 x_47 I J ri rj rq) fun (x_48 : Int32) (_ : Nat → Int32) (_ : Nat → Int64) (ri_50 : Nat → Nat → Int32) (_ : Nat → Nat → Int64) (_ : Nat → Nat → Option Nat) => (if x_48 = (0 : Int32) then ((0 : Int32), I, J, ri_50, rj, rq) else (g_X10_titleStands_K50 I J rj rq ri_50))))) else (g_X10_titleStands_K50 I J rj rq ri))))) := rfl
set_option maxHeartbeats 4000000 in
set_option maxRecDepth 100000 in
theorem s_X10_titleStands (l : Launch) (D : va_G) (t : pq_T) (σ : pq_S) (I : Nat → Nat → Int32) (J : Nat → Nat → Int64) (ri : Nat → Nat → Int32) (rj : Nat → Nat → Int64) (rq : Nat → Nat → Option Nat) (sz : Nat) (tg : Nat → Nat) (hSH : SH σ tg) (hG0 : GS tg σ I ri rq) (this : Nat) (a0 : Int32) (hL_this : this ∈ σ.1) (hK_this : σ.2.1 this = 10) (h_a0 : rg a0 0 39) : MetI l yX10_titleStands (wa yX10_titleStands cX10_titleStands 3 (some .boolean)) ({ frames := 5, cells := 0, slots := 0, locals := 139 }) [.ref this, .int a0] D t σ (I, J, ri, rj, rq) sz 0 0 (fun (r : Int32) (u : pq_S × pq_M) => ∃ ri' : Nat → Nat → Int32, u = (σ, I, J, ri', rj, rq) ∧ GX [] tg σ I ri rj I ri' rj rq ∧ g_X10_titleStands (tI σ I) (tR σ ri) a0 (vI 10 σ this I) (vJ 10 σ this J) (vR 10 σ this ri) (vL 10 σ this rj) (vQ 10 σ this rq) = (r, (vI 10 σ this I), (vJ 10 σ this J), (vR 10 σ this ri'), (vL 10 σ this rj), (vQ 10 σ this rq)) ∧ FR 10 tg σ this (I, J, ri, rj, rq) (I, J, ri', rj, rq) ∧ ((r = 1 ∧ True) ∨ (r = 0 ∧ True))) := by
  refine Met.ofW (cc := cX10_titleStands) (maxL := 3) (ret := (some .boolean)) (by decide +kernel) rfl ?_
  intro p e s m args below meth c s₁ B hml hv
  obtain ⟨rfl, hsz, hP, hK, hD0, hN⟩ := hv
  have hx := B.exec
  have hb := B.bytes
  have hr := B.returns
  have hts := atoms_spec (ws := (wa yX10_titleStands cX10_titleStands 3 (some .boolean))) B.pre
  have hown : s.vm.findClass RX10 = some m.cls := findClass_of_methodNamed B.named
  have hlocks := B.notSynchronized
  subst hsz
  have hD : va_D (pq_B t σ (I, J, ri, rj, rq) s.heap.size) (pq_P t σ (I, J, ri, rj, rq)) := hD0.self
  generalize hAe : pq_B t σ (I, J, ri, rj, rq) s.heap.size = A at hD ⊢
  have hA : ∀ q : Nat, s.heap.size ≤ q → A q := fun q h => by rw [← hAe]; exact Or.inr h
  have hS : va_S A s.heap s.heap [] := va_S.rf
  have hG : GX [] tg σ I ri rj I ri rj rq := ⟨hG0, fun _ _ _ => rfl, fun _ _ _ _ _ => rfl, fun _ _ _ _ _ => rfl⟩
  have hl := lv_entry ([.ref this, .int a0]) (n := 3) (Nat.le_of_ble_eq_true rfl)
  rw [lg_entry_eq]
  generalize (lg_sl ([.ref this, .int a0]) ++ List.replicate (3 - (lg_sl ([.ref this, .int a0])).length) Slot.unset).toArray = ls at hl ⊢
  have hl : lv_has ls 3 [(0, .ref this), (1, .int a0)] := hl
  refine q_gen (fun Q hQ => ?_)
  have go : ∀ (H : Heap) (locs : List Loc) (ls : Array Slot), va_P D vwCl (pq_P t σ (I, J, ri, rj, rq)) H → va_D A (pq_P t σ (I, J, ri, rj, rq)) → va_S A s.heap H locs → lv_has ls 3 [(0, .ref this), (1, .int a0)] → W p l e ({ frames := 5, cells := 0, slots := 0, locals := 139 } : Room) s m (List.toArray ([.ref this, .int a0] : List Value)) below meth c H locs 0 0 Q (F0 m 0 ls []) := by
    intro H locs ls hP hD hS hl
    have hO_this : this = vo σ 10 this := rfl
    have hVT : VT 10 σ tg this := vt_10 hSH hL_this hK_this
    have hFr : FR 10 tg σ this (I, J, ri, rj, rq) (I, J, ri, rj, rq) := fr_rf
    obtain ⟨F, hF0⟩ : ∃ F, F = g_X10_titleStands (tI σ I) (tR σ ri) a0 (vI 10 σ this I) (vJ 10 σ this J) (vR 10 σ this ri) (vL 10 σ this rj) (vQ 10 σ this rq) := ⟨_, rfl⟩
    have hF := hF0.trans g_X10_titleStands_e
    refine lv_aload_n hx hb dX10_titleStands_0 rfl (lv_at hl 0 rfl) ?_
    obtain ⟨w_1, hR_w_1, hL_w_1, hK_w_1, hN_w_1, hT_w_1⟩ := sh_a hSH 325 (ci := 10) (kd := 13) (len := 40) rfl (by decide +kernel) hL_this hK_this
    have hO_w_1 : w_1 = vrow σ 325 this := vo_k (c := 10) hO_this hR_w_1
    refine pg_f (v := .ref w_1) (C := RX10) (T := TX10) (N := 13) hx hb hts (tw_i inlX10) hown hK hP hL_this hK_this (by decide +kernel) rfl 5 (by decide +kernel) (hts _ (tw_c tw_34)) (pq_hv rfl hR_w_1) dX10_titleStands_1 ?_
    refine lv_iload_n hx hb dX10_titleStands_4 rfl (lv_at hl 1 rfl) ?_
    refine pl_i hx hb hK hP hL_w_1 hK_w_1 hN_w_1 (rg_in h_a0 (by decide +kernel)) dX10_titleStands_5 ?_
    refine lv_topi (fun x_2 ex_2 => ?_)
    replace hF := hF.trans (ap_n (vR_r hO_w_1 (by decide +kernel) ex_2))
    have h_3 : rg x_2 (-1) 39 := rg_of_eq ex_2 (GX.rR hG hT_w_1 rfl)
    refine lv_istore_n (lv' := [(2, .int x_2), (0, .ref this), (1, .int a0)]) hx hb dX10_titleStands_6 rfl hl (by decide +kernel) rfl (fun ls hl => ?_)
    refine lv_iload_n hx hb dX10_titleStands_7 rfl (lv_at hl 0 rfl) ?_
    refine lv_iconst (v := (-1)) hx hb dX10_titleStands_8 (by decide +kernel) ?_
    refine lv_icmp_ne (tgt := 14) hx hb dX10_titleStands_9 (by decide +kernel) (fun c_4 => ?_) (fun c_4 => ?_)
    · replace hF := hF.trans (if_neg c_4)
      have h_7 : rg x_2 0 39 := rg_ne c_4 h_3 (-1) rfl (by decide +kernel)
      refine lv_aload_n hx hb dX10_titleStands_14 rfl (lv_at hl 1 rfl) ?_
      refine lv_iload_n hx hb dX10_titleStands_15 rfl (lv_at hl 2 rfl) ?_
      refine pk_i (va_runV (As := [.int a0]) (rest := []) ⟨hx, hb, hml, hown, hts⟩ (s_X10_wasDry l D t σ I J ri rj rq H.size tg hSH hG.1 this a0 hL_this hK_this) (cwV 1 hts (tw_V tw_550 tw_551 tw_552 tw_15 tw_553) rfl rfl rfl cv_yX10_wasDry_1 ⟨Nat.le_of_ble_eq_true rfl, Nat.le_of_ble_eq_true rfl⟩) ⟨pq_blind, pq_recv hK hP hL_this hK_this (by decide +kernel) rfl, pq_pre hK hN hP hD⟩ rfl rfl hl.1 rfl (lv_room (Nat.le_of_ble_eq_true rfl)) dX10_titleStands_16 ⟨Nat.le_of_ble_eq_true rfl, Nat.le_of_ble_eq_true rfl⟩) hD hS hA (fun x_8 σ1 μ1 H locs hw_9 hP hD hS => ?_)
      obtain ⟨hu_10, hfn_13, hr_12⟩ := hw_9
      obtain ⟨hu_10a, hu_10b⟩ := Prod.mk.inj hu_10
      rw [hu_10a, hu_10b] at hP hD
      replace hF := hF.trans (bn_n hfn_13)
      have K_37 : ∀  (ri_36 : Nat → Nat → Int32) (H : Heap) (locs : List Loc) (ls : Array Slot), F = g_X10_titleStands_K50 (vI 10 σ this I) (vJ 10 σ this J) (vL 10 σ this rj) (vQ 10 σ this rq) (vR 10 σ this ri_36) → FR 10 tg σ this (I, J, ri, rj, rq) (I, J, ri_36, rj, rq) → GX [] tg σ I ri rj I ri_36 rj rq → va_P D vwCl (pq_P t σ (I, J, ri_36, rj, rq)) H → va_D A (pq_P t σ (I, J, ri_36, rj, rq)) → va_S A s.heap H locs → lv_has ls 3 [] → W p l e ({ frames := 5, cells := 0, slots := 0, locals := 139 } : Room) s m (List.toArray ([.ref this, .int a0] : List Value)) below meth c H locs 0 0 Q (F0 m 50 ls []) := by
        intro ri_36 H locs ls hF hFr hG hP hD hS hl
        replace hF := hF.trans g_X10_titleStands_K50_e
        refine lv_iconst (v := 1) hx hb dX10_titleStands_50 (by decide +kernel) ?_
        refine lv_goto (tgt := 55) hx hb dX10_titleStands_51 (by decide +kernel) ?_
        subst hQ
        exact W.zret (v := 1) hx hb hr (by decide +kernel) (fun t1 ht hW => ⟨⟨1, (σ, I, J, ri_36, rj, rq), rfl, ⟨ri_36, rfl, hG, (hF0.symm.trans hF), hFr, (Or.inl ⟨rfl, trivial⟩)⟩, by rw [ht]; exact hP, va_K.moved hW.alike hK, hD⟩, hS.F ht⟩) hS.2.2 dX10_titleStands_55
      refine lv_if_ne (tgt := 50) hx hb dX10_titleStands_19 (by decide +kernel) (fun c_38 => ?_) (fun c_38 => ?_)
      · replace hF := hF.trans (if_neg c_38)
        exact K_37 ri _ _ _ hF hFr hG hP hD hS (lv_sub hl [] rfl)
      · replace hF := hF.trans (if_pos c_38)
        have h_40 : rg x_8 0 0 := rg_and hr_12 (rg_of_eq c_38 (rg_k (0 : Int32) 0 rfl)) (by decide +kernel)
        refine lv_aload_n hx hb dX10_titleStands_22 rfl (lv_at hl 1 rfl) ?_
        obtain ⟨w_41, hR_w_41, hL_w_41, hK_w_41⟩ := sh_o hSH 329 (ci := 10) (kd := 3) rfl hL_this hK_this
        have hO_w_41 : w_41 = vo σ 3 this := vo_k (c := 10) hO_this hR_w_41
        refine pg_f (v := .ref w_41) (C := RX10) (T := TX10) (N := 13) hx hb hts (tw_i inlX10) hown hK hP hL_this hK_this (by decide +kernel) rfl 9 (by decide +kernel) (hts _ (tw_c tw_50)) (pq_hv rfl hR_w_41) dX10_titleStands_23 ?_
        refine lv_aload_n hx hb dX10_titleStands_26 rfl (lv_at hl 1 rfl) ?_
        refine pg_f (v := .int (I 320 this)) (C := RX10) (T := TX10) (N := 13) hx hb hts (tw_i inlX10) hown hK hP hL_this hK_this (by decide +kernel) rfl 0 (by decide +kernel) (hts _ (tw_c tw_457)) rfl dX10_titleStands_27 ?_
        have h_42 : rg (I 320 this) 0 600 := GX.rI hG 320 rfl
        replace hF := hF.trans (ap_n (vI_e (f := 320) hO_this (by decide +kernel)))
        refine lv_aload_n hx hb dX10_titleStands_30 rfl (lv_at hl 1 rfl) ?_
        obtain ⟨w_44, hR_w_44, hL_w_44, hK_w_44⟩ := sh_o hSH 328 (ci := 10) (kd := 0) rfl hL_this hK_this
        have hO_w_44 : w_44 = vo σ 0 this := vo_k (c := 10) hO_this hR_w_44
        refine pg_f (v := .ref w_44) (C := RX10) (T := TX10) (N := 13) hx hb hts (tw_i inlX10) hown hK hP hL_this hK_this (by decide +kernel) rfl 8 (by decide +kernel) (hts _ (tw_c tw_46)) (pq_hv rfl hR_w_44) dX10_titleStands_31 ?_
        refine lv_iload_n hx hb dX10_titleStands_34 rfl (lv_at hl 0 rfl) ?_
        refine lv_aload_n hx hb dX10_titleStands_35 rfl (lv_at hl 1 rfl) ?_
        obtain ⟨w_45, hR_w_45, hL_w_45, hK_w_45⟩ := sh_o hSH 327 (ci := 10) (kd := 2) rfl hL_this hK_this
        have hO_w_45 : w_45 = vo σ 2 this := vo_k (c := 10) hO_this hR_w_45
        refine pg_f (v := .ref w_45) (C := RX10) (T := TX10) (N := 13) hx hb hts (tw_i inlX10) hown hK hP hL_this hK_this (by decide +kernel) rfl 7 (by decide +kernel) (hts _ (tw_c tw_42)) (pq_hv rfl hR_w_45) dX10_titleStands_36 ?_
        obtain ⟨w_46, hR_w_46, hL_w_46, hK_w_46, hN_w_46, hT_w_46⟩ := sh_a hSH 77 (ci := 2) (kd := 13) (len := 40) rfl (by decide +kernel) hL_w_45 hK_w_45
        have hO_w_46 : w_46 = vrow σ 77 this := vo_k (c := 2) hO_w_45 hR_w_46
        refine pg_f (v := .ref w_46) (C := RX2) (T := TX2) (N := 20) hx hb hts (tw_i inlX2) hown hK hP hL_w_45 hK_w_45 (by decide +kernel) rfl 13 (by decide +kernel) (hts _ (tw_c tw_549)) (pq_hv rfl hR_w_46) dX10_titleStands_39 ?_
        refine lv_iload_n hx hb dX10_titleStands_42 rfl (lv_at hl 2 rfl) ?_
        refine pl_i hx hb hK hP hL_w_46 hK_w_46 hN_w_46 (rg_in h_a0 (by decide +kernel)) dX10_titleStands_43 ?_
        refine lv_topi (fun x_47 ex_47 => ?_)
        replace hF := hF.trans (ap_n (vR_r hO_w_46 (by decide +kernel) ex_47))
        refine pk_i (va_runV (As := [.int (I 320 this), .ref w_44, .int x_2, .int x_47]) (rest := []) ⟨hx, hb, hml, hown, hts⟩ (s_X3_lastsFor l D t σ I J ri rj rq H.size tg hSH hG.1 w_41 (I 320 this) w_44 x_2 x_47 hL_w_41 hK_w_41 hL_w_44 hK_w_44 (rg_w h_7 (by decide +kernel)) this hL_this hK_this hO_w_41 hO_w_44) (cwV 4 hts (tw_V tw_561 tw_562 tw_563 tw_49 tw_564) rfl rfl rfl cv_yX3_lastsFor_4 ⟨Nat.le_of_ble_eq_true rfl, Nat.le_of_ble_eq_true rfl⟩) ⟨pq_blind, pq_recv hK hP hL_w_41 hK_w_41 (by decide +kernel) rfl, pq_pre hK hN hP hD⟩ rfl rfl hl.1 rfl (lv_room (Nat.le_of_ble_eq_true rfl)) dX10_titleStands_44 ⟨Nat.le_of_ble_eq_true rfl, Nat.le_of_ble_eq_true rfl⟩) hD hS hA (fun x_48 σ1 μ1 H locs hw_49 hP hD hS => ?_)
        obtain ⟨ri_50, hu_51, hg_52, hfn_54, hfr_55, hr_53⟩ := hw_49
        obtain ⟨hu_51a, hu_51b⟩ := Prod.mk.inj hu_51
        rw [hu_51a, hu_51b] at hP hD
        replace hF := hF.trans (bn_n hfn_54)
        replace hFr := fr_tr hFr hfr_55
        have hG := GX.tr hG hg_52 (by decide +kernel)
        have h_56 : rg x_48 0 1 := by rcases hr_53 with ⟨q, -⟩ | ⟨q, -⟩ <;> rw [q] <;> exact ⟨by decide +kernel, by decide +kernel⟩
        refine lv_if_eq (tgt := 54) hx hb dX10_titleStands_47 (by decide +kernel) (fun c_57 => ?_) (fun c_57 => ?_)
        · replace hF := hF.trans (if_pos c_57)
          have h_60 : rg x_48 0 0 := rg_and h_56 (rg_of_eq c_57 (rg_k (0 : Int32) 0 rfl)) (by decide +kernel)
          refine lv_iconst (v := 0) hx hb dX10_titleStands_54 (by decide +kernel) ?_
          subst hQ
          exact W.zret (v := 0) hx hb hr (by decide +kernel) (fun t1 ht hW => ⟨⟨0, (σ, I, J, ri_50, rj, rq), rfl, ⟨ri_50, rfl, hG, (hF0.symm.trans hF), hFr, (Or.inr ⟨rfl, trivial⟩)⟩, by rw [ht]; exact hP, va_K.moved hW.alike hK, hD⟩, hS.F ht⟩) hS.2.2 dX10_titleStands_55
        · replace hF := hF.trans (if_neg c_57)
          have h_61 : rg x_48 1 1 := rg_ne c_57 h_56 0 rfl (by decide +kernel)
          exact K_37 ri_50 _ _ _ hF hFr hG hP hD hS (lv_sub hl [] rfl)
    · replace hF := hF.trans (if_pos c_4)
      have h_62 : rg x_2 (-1) (-1) := rg_and h_3 (rg_of_eq c_4 (rg_k (-1 : Int32) (-1) rfl)) (by decide +kernel)
      refine lv_iconst (v := 0) hx hb dX10_titleStands_12 (by decide +kernel) ?_
      subst hQ
      exact W.zret (v := 0) hx hb hr (by decide +kernel) (fun t1 ht hW => ⟨⟨0, (σ, I, J, ri, rj, rq), rfl, ⟨ri, rfl, hG, (hF0.symm.trans hF), hFr, (Or.inr ⟨rfl, trivial⟩)⟩, by rw [ht]; exact hP, va_K.moved hW.alike hK, hD⟩, hS.F ht⟩) hS.2.2 dX10_titleStands_13
  exact go _ _ _ hP hD hS hl

set_option maxRecDepth 100000 in
def g_X10_heirOf_K78 (x_288 : Int32) (k_g_X10_heirOf_L22 : (Int32) → Int32 × vM) : Int32 × vM := (ap1 (x_288 + Int32.ofInt 1) fun (x_341 : Int32) => (k_g_X10_heirOf_L22 x_341))
set_option maxRecDepth 100000 in
theorem g_X10_heirOf_K78_e {x_288 : Int32} {k_g_X10_heirOf_L22 : (Int32) → Int32 × vM} : g_X10_heirOf_K78 x_288 k_g_X10_heirOf_L22  = (ap1 (x_288 + Int32.ofInt 1) fun (x_341 : Int32) => (k_g_X10_heirOf_L22 x_341)) := rfl
set_option maxRecDepth 100000 in
def g_X10_heirOf_L22 (a0 : Int32) (I : Nat → Int32) (J : Nat → Int64) (rj : Nat → Nat → Int64) (rq : Nat → Nat → Option Nat) (ri_8 : Nat → Nat → Int32) : Nat → (Int32) → Int32 × vM
  | 0, x_288 => ((0 : Int32), I, J, ri_8, rj, rq)
  | n_312 + 1, x_288 => (ap1 (I 0) fun (y_318 : Int32) => (if (y_318) ≤ x_288 then ((-1 : Int32), I, J, ri_8, rj, rq) else (ap1 (ri_8 331 (x_288).toNatClampNeg) fun (x_324 : Int32) => (ap1 (ri_8 1 (x_324).toNatClampNeg) fun (x_327 : Int32) => (ap1 (ri_8 1 (a0).toNatClampNeg) fun (x_329 : Int32) => (if x_327 = x_329 then (ap1 (ri_8 5 (x_324).toNatClampNeg) fun (x_345 : Int32) => (if x_345 = (300 : Int32) then (g_X10_heirOf_K78 x_288 (g_X10_heirOf_L22 a0 I J rj rq ri_8 n_312) ) else (x_324, I, J, ri_8, rj, rq))) else (g_X10_heirOf_K78 x_288 (g_X10_heirOf_L22 a0 I J rj rq ri_8 n_312) )))))))
set_option maxRecDepth 100000 in
theorem g_X10_heirOf_L22_e {a0 : Int32} {I : Nat → Int32} {J : Nat → Int64} {rj : Nat → Nat → Int64} {rq : Nat → Nat → Option Nat} {ri_8 : Nat → Nat → Int32} {n_312 : Nat} {x_288 : Int32} : g_X10_heirOf_L22 a0 I J rj rq ri_8 (n_312 + 1) x_288 = (ap1 (I 0) fun (y_318 : Int32) => (if (y_318) ≤ x_288 then ((-1 : Int32), I, J, ri_8, rj, rq) else (ap1 (ri_8 331 (x_288).toNatClampNeg) fun (x_324 : Int32) => (ap1 (ri_8 1 (x_324).toNatClampNeg) fun (x_327 : Int32) => (ap1 (ri_8 1 (a0).toNatClampNeg) fun (x_329 : Int32) => (if x_327 = x_329 then (ap1 (ri_8 5 (x_324).toNatClampNeg) fun (x_345 : Int32) => (if x_345 = (300 : Int32) then (g_X10_heirOf_K78 x_288 (g_X10_heirOf_L22 a0 I J rj rq ri_8 n_312) ) else (x_324, I, J, ri_8, rj, rq))) else (g_X10_heirOf_K78 x_288 (g_X10_heirOf_L22 a0 I J rj rq ri_8 n_312) ))))))) := rfl
set_option maxRecDepth 100000 in
def g_X10_heirOf (tI : Nat → Nat → Int32) (tR : Nat → Nat → Nat → Int32) (a0 : Int32) (I : Nat → Int32) (J : Nat → Int64) (ri : Nat → Nat → Int32) (rj : Nat → Nat → Int64) (rq : Nat → Nat → Option Nat) : Int32 × vM := (ap1 (I 320) fun (y_3 : Int32) => (bnV (g_X3_line_331 tI tR (5 : Int32) (y_3) I J ri rj rq) fun (_ : Nat → Int32) (_ : Nat → Int64) (ri_8 : Nat → Nat → Int32) (_ : Nat → Nat → Int64) (_ : Nat → Nat → Option Nat) => (g_X10_heirOf_L22 a0 I J rj rq ri_8 ((40 - ((0 : Int32)).toInt).toNat + 1) (0 : Int32))))
set_option maxRecDepth 100000 in
theorem g_X10_heirOf_e {tI : Nat → Nat → Int32} {tR : Nat → Nat → Nat → Int32} {a0 : Int32} {I : Nat → Int32} {J : Nat → Int64} {ri : Nat → Nat → Int32} {rj : Nat → Nat → Int64} {rq : Nat → Nat → Option Nat} : g_X10_heirOf tI tR a0 I J ri rj rq = (ap1 (I 320) fun (y_3 : Int32) => (bnV (g_X3_line_331 tI tR (5 : Int32) (y_3) I J ri rj rq) fun (_ : Nat → Int32) (_ : Nat → Int64) (ri_8 : Nat → Nat → Int32) (_ : Nat → Nat → Int64) (_ : Nat → Nat → Option Nat) => (g_X10_heirOf_L22 a0 I J rj rq ri_8 ((40 - ((0 : Int32)).toInt).toNat + 1) (0 : Int32)))) := rfl
set_option maxHeartbeats 4000000 in
set_option maxRecDepth 100000 in
theorem s_X10_heirOf (l : Launch) (D : va_G) (t : pq_T) (σ : pq_S) (I : Nat → Nat → Int32) (J : Nat → Nat → Int64) (ri : Nat → Nat → Int32) (rj : Nat → Nat → Int64) (rq : Nat → Nat → Option Nat) (sz : Nat) (tg : Nat → Nat) (hSH : SH σ tg) (hG0 : GS tg σ I ri rq) (this : Nat) (a0 : Int32) (hL_this : this ∈ σ.1) (hK_this : σ.2.1 this = 10) (h_a0 : rg a0 0 39) : MetI l yX10_heirOf (wa yX10_heirOf cX10_heirOf 4 (some .int)) ({ frames := 3, cells := 0, slots := 0, locals := 97 }) [.ref this, .int a0] D t σ (I, J, ri, rj, rq) sz 0 0 (fun (r : Int32) (u : pq_S × pq_M) => ∃ ri' : Nat → Nat → Int32, u = (σ, I, J, ri', rj, rq) ∧ GX [] tg σ I ri rj I ri' rj rq ∧ g_X10_heirOf (tI σ I) (tR σ ri) a0 (vI 10 σ this I) (vJ 10 σ this J) (vR 10 σ this ri) (vL 10 σ this rj) (vQ 10 σ this rq) = (r, (vI 10 σ this I), (vJ 10 σ this J), (vR 10 σ this ri'), (vL 10 σ this rj), (vQ 10 σ this rq)) ∧ FR 10 tg σ this (I, J, ri, rj, rq) (I, J, ri', rj, rq) ∧ rg r (-1) 39) := by
  refine Met.ofW (cc := cX10_heirOf) (maxL := 4) (ret := (some .int)) (by decide +kernel) rfl ?_
  intro p e s m args below meth c s₁ B hml hv
  obtain ⟨rfl, hsz, hP, hK, hD0, hN⟩ := hv
  have hx := B.exec
  have hb := B.bytes
  have hr := B.returns
  have hts := atoms_spec (ws := (wa yX10_heirOf cX10_heirOf 4 (some .int))) B.pre
  have hown : s.vm.findClass RX10 = some m.cls := findClass_of_methodNamed B.named
  have hlocks := B.notSynchronized
  subst hsz
  have hD : va_D (pq_B t σ (I, J, ri, rj, rq) s.heap.size) (pq_P t σ (I, J, ri, rj, rq)) := hD0.self
  generalize hAe : pq_B t σ (I, J, ri, rj, rq) s.heap.size = A at hD ⊢
  have hA : ∀ q : Nat, s.heap.size ≤ q → A q := fun q h => by rw [← hAe]; exact Or.inr h
  have hS : va_S A s.heap s.heap [] := va_S.rf
  have hG : GX [] tg σ I ri rj I ri rj rq := ⟨hG0, fun _ _ _ => rfl, fun _ _ _ _ _ => rfl, fun _ _ _ _ _ => rfl⟩
  have hl := lv_entry ([.ref this, .int a0]) (n := 4) (Nat.le_of_ble_eq_true rfl)
  rw [lg_entry_eq]
  generalize (lg_sl ([.ref this, .int a0]) ++ List.replicate (4 - (lg_sl ([.ref this, .int a0])).length) Slot.unset).toArray = ls at hl ⊢
  have hl : lv_has ls 4 [(0, .ref this), (1, .int a0)] := hl
  refine q_gen (fun Q hQ => ?_)
  have go : ∀ (H : Heap) (locs : List Loc) (ls : Array Slot), va_P D vwCl (pq_P t σ (I, J, ri, rj, rq)) H → va_D A (pq_P t σ (I, J, ri, rj, rq)) → va_S A s.heap H locs → lv_has ls 4 [(0, .ref this), (1, .int a0)] → W p l e ({ frames := 3, cells := 0, slots := 0, locals := 97 } : Room) s m (List.toArray ([.ref this, .int a0] : List Value)) below meth c H locs 0 0 Q (F0 m 0 ls []) := by
    intro H locs ls hP hD hS hl
    have hO_this : this = vo σ 10 this := rfl
    have hVT : VT 10 σ tg this := vt_10 hSH hL_this hK_this
    have hFr : FR 10 tg σ this (I, J, ri, rj, rq) (I, J, ri, rj, rq) := fr_rf
    obtain ⟨F, hF0⟩ : ∃ F, F = g_X10_heirOf (tI σ I) (tR σ ri) a0 (vI 10 σ this I) (vJ 10 σ this J) (vR 10 σ this ri) (vL 10 σ this rj) (vQ 10 σ this rq) := ⟨_, rfl⟩
    have hF := hF0.trans g_X10_heirOf_e
    refine lv_aload_n hx hb dX10_heirOf_0 rfl (lv_at hl 0 rfl) ?_
    obtain ⟨w_1, hR_w_1, hL_w_1, hK_w_1⟩ := sh_o hSH 329 (ci := 10) (kd := 3) rfl hL_this hK_this
    have hO_w_1 : w_1 = vo σ 3 this := vo_k (c := 10) hO_this hR_w_1
    refine pg_f (v := .ref w_1) (C := RX10) (T := TX10) (N := 13) hx hb hts (tw_i inlX10) hown hK hP hL_this hK_this (by decide +kernel) rfl 9 (by decide +kernel) (hts _ (tw_c tw_50)) (pq_hv rfl hR_w_1) dX10_heirOf_1 ?_
    refine lv_iconst (v := 5) hx hb dX10_heirOf_4 (by decide +kernel) ?_
    refine lv_aload_n hx hb dX10_heirOf_5 rfl (lv_at hl 0 rfl) ?_
    refine pg_f (v := .int (I 320 this)) (C := RX10) (T := TX10) (N := 13) hx hb hts (tw_i inlX10) hown hK hP hL_this hK_this (by decide +kernel) rfl 0 (by decide +kernel) (hts _ (tw_c tw_457)) rfl dX10_heirOf_6 ?_
    have h_2 : rg (I 320 this) 0 600 := GX.rI hG 320 rfl
    replace hF := hF.trans (ap_n (vI_e (f := 320) hO_this (by decide +kernel)))
    refine lv_aload_n hx hb dX10_heirOf_9 rfl (lv_at hl 0 rfl) ?_
    obtain ⟨w_4, hR_w_4, hL_w_4, hK_w_4⟩ := sh_o hSH 328 (ci := 10) (kd := 0) rfl hL_this hK_this
    have hO_w_4 : w_4 = vo σ 0 this := vo_k (c := 10) hO_this hR_w_4
    refine pg_f (v := .ref w_4) (C := RX10) (T := TX10) (N := 13) hx hb hts (tw_i inlX10) hown hK hP hL_this hK_this (by decide +kernel) rfl 8 (by decide +kernel) (hts _ (tw_c tw_46)) (pq_hv rfl hR_w_4) dX10_heirOf_10 ?_
    refine lv_aload_n hx hb dX10_heirOf_13 rfl (lv_at hl 0 rfl) ?_
    obtain ⟨w_5, hR_w_5, hL_w_5, hK_w_5, hN_w_5, hT_w_5⟩ := sh_a hSH 331 (ci := 10) (kd := 13) (len := 40) rfl (by decide +kernel) hL_this hK_this
    have hO_w_5 : w_5 = vrow σ 331 this := vo_k (c := 10) hO_this hR_w_5
    refine pg_f (v := .ref w_5) (C := RX10) (T := TX10) (N := 13) hx hb hts (tw_i inlX10) hown hK hP hL_this hK_this (by decide +kernel) rfl 11 (by decide +kernel) (hts _ (tw_c tw_55)) (pq_hv rfl hR_w_5) dX10_heirOf_14 ?_
    refine pk_v (va_runV (As := [.int 5, .int (I 320 this), .ref w_4, .ref w_5]) (rest := []) ⟨hx, hb, hml, hown, hts⟩ (s_X3_line_331 l D t σ I J ri rj rq H.size tg hSH hG.1 w_1 (5 : Int32) (I 320 this) w_4 w_5 hL_w_1 hK_w_1 hL_w_4 hK_w_4 hL_w_5 hK_w_5 hN_w_5 hT_w_5 this hL_this hK_this hO_w_1 hO_w_4 hO_w_5) (cwV 4 hts (tw_V tw_461 tw_462 tw_463 tw_49 tw_464) rfl rfl rfl cv_yX3_line_4 ⟨Nat.le_of_ble_eq_true rfl, Nat.le_of_ble_eq_true rfl⟩) ⟨pq_blind, pq_recv hK hP hL_w_1 hK_w_1 (by decide +kernel) rfl, pq_pre hK hN hP hD⟩ rfl rfl hl.1 rfl (lv_room (Nat.le_of_ble_eq_true rfl)) dX10_heirOf_17 ⟨Nat.le_of_ble_eq_true rfl, Nat.le_of_ble_eq_true rfl⟩) hD hS hA (fun σ1 μ1 H locs hw_7 hP hD hS => ?_)
    obtain ⟨ri_8, hu_9, hg_10, hfn_12, hfr_13⟩ := hw_7
    obtain ⟨hu_9a, hu_9b⟩ := Prod.mk.inj hu_9
    rw [hu_9a, hu_9b] at hP hD
    replace hF := hF.trans (bv_n hfn_12)
    replace hFr := fr_tr hFr hfr_13
    have hG := GX.tr hG hg_10 (by decide +kernel)
    refine lv_iconst (v := 0) hx hb dX10_heirOf_20 (by decide +kernel) ?_
    refine lv_istore_n (lv' := [(2, .int 0), (0, .ref this), (1, .int a0)]) hx hb dX10_heirOf_21 rfl hl (by decide +kernel) rfl (fun ls hl => ?_)
    have L_313 : ∀ (n_312 : Nat) (x_288 : Int32) (H : Heap) (locs : List Loc) (ls : Array Slot), rg x_288 0 40 → (40 - (x_288).toInt).toNat < n_312 → F = g_X10_heirOf_L22 a0 (vI 10 σ this I) (vJ 10 σ this J) (vL 10 σ this rj) (vQ 10 σ this rq) (vR 10 σ this ri_8) n_312 x_288 → FR 10 tg σ this (I, J, ri, rj, rq) (I, J, ri_8, rj, rq) → GX [] tg σ I ri rj I ri_8 rj rq → va_P D vwCl (pq_P t σ (I, J, ri_8, rj, rq)) H → va_D A (pq_P t σ (I, J, ri_8, rj, rq)) → va_S A s.heap H locs → lv_has ls 4 [(0, .ref this), (1, .int a0), (2, .int x_288)] → W p l e ({ frames := 3, cells := 0, slots := 0, locals := 97 } : Room) s m (List.toArray ([.ref this, .int a0] : List Value)) below meth c H locs 0 0 Q (F0 m 22 ls []) := by
      intro n_312
      induction n_312 with
      | zero => intro x_288 H locs ls h_316 hm_311 hF hFr hG hP hD hS hl; exact absurd hm_311 (Nat.not_lt_zero _)
      | succ n_312 ih_314 =>
        intro x_288 H locs ls h_316 hm_311 hF hFr hG hP hD hS hl
        replace hF := hF.trans g_X10_heirOf_L22_e
        refine lv_iload_n hx hb dX10_heirOf_22 rfl (lv_at hl 2 rfl) ?_
        refine lv_aload_n hx hb dX10_heirOf_23 rfl (lv_at hl 0 rfl) ?_
        refine pg_f (v := .ref w_4) (C := RX10) (T := TX10) (N := 13) hx hb hts (tw_i inlX10) hown hK hP hL_this hK_this (by decide +kernel) rfl 8 (by decide +kernel) (hts _ (tw_c tw_46)) (pq_hv rfl hR_w_4) dX10_heirOf_24 ?_
        refine pg_f (v := .int (I 0 w_4)) (C := RX0) (T := TX0) (N := 16) hx hb hts (tw_i inlX0) hown hK hP hL_w_4 hK_w_4 (by decide +kernel) rfl 0 (by decide +kernel) (hts _ (tw_c tw_458)) rfl dX10_heirOf_27 ?_
        have h_317 : rg (I 0 w_4) 0 40 := GX.rI hG 0 rfl
        replace hF := hF.trans (ap_n (vI_e (f := 0) hO_w_4 (by decide +kernel)))
        refine lv_icmp_ge (tgt := 84) hx hb dX10_heirOf_30 (by decide +kernel) (fun c_319 => ?_) (fun c_319 => ?_)
        · replace hF := hF.trans (if_pos c_319)
          refine lv_iconst (v := (-1)) hx hb dX10_heirOf_84 (by decide +kernel) ?_
          subst hQ
          exact W.iret (v := (-1)) hx hb hr (fun t1 ht hW => ⟨⟨(-1), (σ, I, J, ri_8, rj, rq), rfl, ⟨ri_8, rfl, hG, (hF0.symm.trans hF), hFr, (rg_w (rg_k (-1 : Int32) (-1) rfl) (by decide +kernel))⟩, by rw [ht]; exact hP, va_K.moved hW.alike hK, hD⟩, hS.F ht⟩) hS.2.2 dX10_heirOf_85
        · replace hF := hF.trans (if_neg c_319)
          have h_322 : rg x_288 0 39 := rg_lt1 (nle c_319) h_316 h_317 (by decide +kernel)
          have h_323 : rg (I 0 w_4) 1 40 := rg_lt2 (nle c_319) h_316 h_317 (by decide +kernel)
          refine lv_aload_n hx hb dX10_heirOf_33 rfl (lv_at hl 0 rfl) ?_
          refine pg_f (v := .ref w_5) (C := RX10) (T := TX10) (N := 13) hx hb hts (tw_i inlX10) hown hK hP hL_this hK_this (by decide +kernel) rfl 11 (by decide +kernel) (hts _ (tw_c tw_55)) (pq_hv rfl hR_w_5) dX10_heirOf_34 ?_
          refine lv_iload_n hx hb dX10_heirOf_37 rfl (lv_at hl 2 rfl) ?_
          refine pl_i hx hb hK hP hL_w_5 hK_w_5 hN_w_5 (rg_in h_322 (by decide +kernel)) dX10_heirOf_38 ?_
          refine lv_topi (fun x_324 ex_324 => ?_)
          replace hF := hF.trans (ap_n (vR_r hO_w_5 (by decide +kernel) ex_324))
          have h_325 : rg x_324 0 39 := rg_of_eq ex_324 (GX.rR hG hT_w_5 rfl)
          refine lv_istore_n (lv' := [(3, .int x_324), (0, .ref this), (1, .int a0), (2, .int x_288)]) hx hb dX10_heirOf_39 rfl hl (by decide +kernel) rfl (fun ls hl => ?_)
          refine lv_aload_n hx hb dX10_heirOf_40 rfl (lv_at hl 1 rfl) ?_
          refine pg_f (v := .ref w_4) (C := RX10) (T := TX10) (N := 13) hx hb hts (tw_i inlX10) hown hK hP hL_this hK_this (by decide +kernel) rfl 8 (by decide +kernel) (hts _ (tw_c tw_46)) (pq_hv rfl hR_w_4) dX10_heirOf_41 ?_
          obtain ⟨w_326, hR_w_326, hL_w_326, hK_w_326, hN_w_326, hT_w_326⟩ := sh_a hSH 1 (ci := 0) (kd := 13) (len := 40) rfl (by decide +kernel) hL_w_4 hK_w_4
          have hO_w_326 : w_326 = vrow σ 1 this := vo_k (c := 0) hO_w_4 hR_w_326
          refine pg_f (v := .ref w_326) (C := RX0) (T := TX0) (N := 16) hx hb hts (tw_i inlX0) hown hK hP hL_w_4 hK_w_4 (by decide +kernel) rfl 1 (by decide +kernel) (hts _ (tw_c tw_459)) (pq_hv rfl hR_w_326) dX10_heirOf_44 ?_
          refine lv_iload_n hx hb dX10_heirOf_47 rfl (lv_at hl 0 rfl) ?_
          refine pl_i hx hb hK hP hL_w_326 hK_w_326 hN_w_326 (rg_in h_325 (by decide +kernel)) dX10_heirOf_48 ?_
          refine lv_topi (fun x_327 ex_327 => ?_)
          replace hF := hF.trans (ap_n (vR_r hO_w_326 (by decide +kernel) ex_327))
          have h_328 : rg x_327 0 9 := rg_of_eq ex_327 (GX.rR hG hT_w_326 rfl)
          refine lv_aload_n hx hb dX10_heirOf_49 rfl (lv_at hl 1 rfl) ?_
          refine pg_f (v := .ref w_4) (C := RX10) (T := TX10) (N := 13) hx hb hts (tw_i inlX10) hown hK hP hL_this hK_this (by decide +kernel) rfl 8 (by decide +kernel) (hts _ (tw_c tw_46)) (pq_hv rfl hR_w_4) dX10_heirOf_50 ?_
          refine pg_f (v := .ref w_326) (C := RX0) (T := TX0) (N := 16) hx hb hts (tw_i inlX0) hown hK hP hL_w_4 hK_w_4 (by decide +kernel) rfl 1 (by decide +kernel) (hts _ (tw_c tw_459)) (pq_hv rfl hR_w_326) dX10_heirOf_53 ?_
          refine lv_iload_n hx hb dX10_heirOf_56 rfl (lv_at hl 2 rfl) ?_
          refine pl_i hx hb hK hP hL_w_326 hK_w_326 hN_w_326 (rg_in h_a0 (by decide +kernel)) dX10_heirOf_57 ?_
          refine lv_topi (fun x_329 ex_329 => ?_)
          replace hF := hF.trans (ap_n (vR_r hO_w_326 (by decide +kernel) ex_329))
          have h_330 : rg x_329 0 9 := rg_of_eq ex_329 (GX.rR hG hT_w_326 rfl)
          have K_340 : ∀  (H : Heap) (locs : List Loc) (ls : Array Slot), F = g_X10_heirOf_K78 x_288 (g_X10_heirOf_L22 a0 (vI 10 σ this I) (vJ 10 σ this J) (vL 10 σ this rj) (vQ 10 σ this rq) (vR 10 σ this ri_8) n_312)  → FR 10 tg σ this (I, J, ri, rj, rq) (I, J, ri_8, rj, rq) → GX [] tg σ I ri rj I ri_8 rj rq → va_P D vwCl (pq_P t σ (I, J, ri_8, rj, rq)) H → va_D A (pq_P t σ (I, J, ri_8, rj, rq)) → va_S A s.heap H locs → lv_has ls 4 [(0, .ref this), (1, .int a0), (2, .int x_288)] → W p l e ({ frames := 3, cells := 0, slots := 0, locals := 97 } : Room) s m (List.toArray ([.ref this, .int a0] : List Value)) below meth c H locs 0 0 Q (F0 m 78 ls []) := by
            intro H locs ls hF hFr hG hP hD hS hl
            replace hF := hF.trans g_X10_heirOf_K78_e
            obtain ⟨x_341, ex_341⟩ : ∃ y : Int32, y = x_288 + Int32.ofInt 1 := ⟨_, rfl⟩
            replace hF := hF.trans (ap_n ex_341)
            have h_342 : rg x_341 1 40 := rg_of_eq ex_341 (rg_add h_322 (rg_k (Int32.ofInt 1) 1 rfl) (by decide +kernel))
            refine lv_iinc (v := x_341) (lv' := [(2, .int x_341), (0, .ref this), (1, .int a0)]) hx hb dX10_heirOf_78 hl (k := 2) rfl ex_341.symm (by decide +kernel) rfl (fun ls hl => ?_)
            refine lv_goto (tgt := 22) hx hb dX10_heirOf_81 (by decide +kernel) ?_
            exact ih_314 x_341 _ _ _ (rg_w h_342 (by decide +kernel)) (ms_up 1 hm_311 ex_341 rfl (by decide +kernel) h_322 (by decide +kernel) (by decide +kernel)) hF hFr hG hP hD hS (lv_sub hl [1, 2, 0] rfl)
          refine lv_icmp_ne (tgt := 78) hx hb dX10_heirOf_58 (by decide +kernel) (fun c_343 => ?_) (fun c_343 => ?_)
          · replace hF := hF.trans (if_neg c_343)
            exact K_340 _ _ _ hF hFr hG hP hD hS (lv_sub hl [1, 2, 3] rfl)
          · replace hF := hF.trans (if_pos c_343)
            refine lv_aload_n hx hb dX10_heirOf_61 rfl (lv_at hl 1 rfl) ?_
            refine pg_f (v := .ref w_4) (C := RX10) (T := TX10) (N := 13) hx hb hts (tw_i inlX10) hown hK hP hL_this hK_this (by decide +kernel) rfl 8 (by decide +kernel) (hts _ (tw_c tw_46)) (pq_hv rfl hR_w_4) dX10_heirOf_62 ?_
            obtain ⟨w_344, hR_w_344, hL_w_344, hK_w_344, hN_w_344, hT_w_344⟩ := sh_a hSH 5 (ci := 0) (kd := 13) (len := 40) rfl (by decide +kernel) hL_w_4 hK_w_4
            have hO_w_344 : w_344 = vrow σ 5 this := vo_k (c := 0) hO_w_4 hR_w_344
            refine pg_f (v := .ref w_344) (C := RX0) (T := TX0) (N := 16) hx hb hts (tw_i inlX0) hown hK hP hL_w_4 hK_w_4 (by decide +kernel) rfl 5 (by decide +kernel) (hts _ (tw_c tw_460)) (pq_hv rfl hR_w_344) dX10_heirOf_65 ?_
            refine lv_iload_n hx hb dX10_heirOf_68 rfl (lv_at hl 0 rfl) ?_
            refine pl_i hx hb hK hP hL_w_344 hK_w_344 hN_w_344 (rg_in h_325 (by decide +kernel)) dX10_heirOf_69 ?_
            refine lv_topi (fun x_345 ex_345 => ?_)
            replace hF := hF.trans (ap_n (vR_r hO_w_344 (by decide +kernel) ex_345))
            have h_346 : rg x_345 0 300 := rg_of_eq ex_345 (GX.rR hG hT_w_344 rfl)
            refine lv_sipush (v := 300) hx hb dX10_heirOf_70 (by decide +kernel) ?_
            refine lv_icmp_eq (tgt := 78) hx hb dX10_heirOf_73 (by decide +kernel) (fun c_347 => ?_) (fun c_347 => ?_)
            · replace hF := hF.trans (if_pos c_347)
              have h_350 : rg x_345 300 300 := rg_and h_346 (rg_of_eq c_347 (rg_k (300 : Int32) 300 rfl)) (by decide +kernel)
              exact K_340 _ _ _ hF hFr hG hP hD hS (lv_sub hl [1, 2, 3] rfl)
            · replace hF := hF.trans (if_neg c_347)
              have h_351 : rg x_345 0 299 := rg_ne c_347 h_346 300 rfl (by decide +kernel)
              refine lv_iload_n hx hb dX10_heirOf_76 rfl (lv_at hl 0 rfl) ?_
              subst hQ
              exact W.iret (v := x_324) hx hb hr (fun t1 ht hW => ⟨⟨x_324, (σ, I, J, ri_8, rj, rq), rfl, ⟨ri_8, rfl, hG, (hF0.symm.trans hF), hFr, (rg_w h_325 (by decide +kernel))⟩, by rw [ht]; exact hP, va_K.moved hW.alike hK, hD⟩, hS.F ht⟩) hS.2.2 dX10_heirOf_77
    exact L_313 _ (0 : Int32) _ _ _ (rg_w (rg_k (0 : Int32) 0 rfl) (by decide +kernel)) (Nat.lt_succ_self _) hF hFr hG hP hD hS (lv_sub hl [1, 2, 0] rfl)
  exact go _ _ _ hP hD hS hl

set_option maxRecDepth 100000 in
def g_X10_passTitles_K39 (x_565 : Int32) (k_g_X10_passTitles_L5 : (Int32) → (Int32) → (Nat → Nat → Int32) → Int32 × vM) (x_606 : Int32) (ri_607 : Nat → Nat → Int32) : Int32 × vM := (ap1 (x_565 + Int32.ofInt 1) fun (x_611 : Int32) => (k_g_X10_passTitles_L5 x_606 x_611 ri_607))
set_option maxRecDepth 100000 in
theorem g_X10_passTitles_K39_e {x_565 : Int32} {k_g_X10_passTitles_L5 : (Int32) → (Int32) → (Nat → Nat → Int32) → Int32 × vM} {x_606 : Int32} {ri_607 : Nat → Nat → Int32} : g_X10_passTitles_K39 x_565 k_g_X10_passTitles_L5 x_606 ri_607 = (ap1 (x_565 + Int32.ofInt 1) fun (x_611 : Int32) => (k_g_X10_passTitles_L5 x_606 x_611 ri_607)) := rfl
set_option maxRecDepth 100000 in
def g_X10_passTitles_L5 (a0 : Int32) (a1 : Int32) (I : Nat → Int32) (J : Nat → Int64) (rj : Nat → Nat → Int64) (rq : Nat → Nat → Option Nat) : Nat → (Int32) → (Int32) → (Nat → Nat → Int32) → Int32 × vM
  | 0, x_564, x_565, ri_566 => ((0 : Int32), I, J, ri_566, rj, rq)
  | n_586 + 1, x_564, x_565, ri_566 => (ap1 (I 65) fun (y_593 : Int32) => (if (y_593) ≤ x_565 then (x_564, I, J, ri_566, rj, rq) else (ap1 (ri_566 325 (x_565).toNatClampNeg) fun (x_600 : Int32) => (if x_600 = a0 then (ap1 (va_up ri_566 325 (upd (ri_566 325) (x_565).toNatClampNeg a1)) fun (r_616 : Nat → Nat → Int32) => (ap1 (x_564 + Int32.ofInt 1) fun (x_617 : Int32) => (g_X10_passTitles_K39 x_565 (g_X10_passTitles_L5 a0 a1 I J rj rq n_586) x_617 r_616))) else (g_X10_passTitles_K39 x_565 (g_X10_passTitles_L5 a0 a1 I J rj rq n_586) x_564 ri_566)))))
set_option maxRecDepth 100000 in
theorem g_X10_passTitles_L5_e {a0 : Int32} {a1 : Int32} {I : Nat → Int32} {J : Nat → Int64} {rj : Nat → Nat → Int64} {rq : Nat → Nat → Option Nat} {n_586 : Nat} {x_564 : Int32} {x_565 : Int32} {ri_566 : Nat → Nat → Int32} : g_X10_passTitles_L5 a0 a1 I J rj rq (n_586 + 1) x_564 x_565 ri_566 = (ap1 (I 65) fun (y_593 : Int32) => (if (y_593) ≤ x_565 then (x_564, I, J, ri_566, rj, rq) else (ap1 (ri_566 325 (x_565).toNatClampNeg) fun (x_600 : Int32) => (if x_600 = a0 then (ap1 (va_up ri_566 325 (upd (ri_566 325) (x_565).toNatClampNeg a1)) fun (r_616 : Nat → Nat → Int32) => (ap1 (x_564 + Int32.ofInt 1) fun (x_617 : Int32) => (g_X10_passTitles_K39 x_565 (g_X10_passTitles_L5 a0 a1 I J rj rq n_586) x_617 r_616))) else (g_X10_passTitles_K39 x_565 (g_X10_passTitles_L5 a0 a1 I J rj rq n_586) x_564 ri_566))))) := rfl
set_option maxRecDepth 100000 in
def g_X10_passTitles (a0 : Int32) (a1 : Int32) (I : Nat → Int32) (J : Nat → Int64) (ri : Nat → Nat → Int32) (rj : Nat → Nat → Int64) (rq : Nat → Nat → Option Nat) : Int32 × vM := (g_X10_passTitles_L5 a0 a1 I J rj rq ((40 - ((0 : Int32)).toInt).toNat + 1) (0 : Int32) (0 : Int32) ri)
set_option maxRecDepth 100000 in
theorem g_X10_passTitles_e {a0 : Int32} {a1 : Int32} {I : Nat → Int32} {J : Nat → Int64} {ri : Nat → Nat → Int32} {rj : Nat → Nat → Int64} {rq : Nat → Nat → Option Nat} : g_X10_passTitles a0 a1 I J ri rj rq = (g_X10_passTitles_L5 a0 a1 I J rj rq ((40 - ((0 : Int32)).toInt).toNat + 1) (0 : Int32) (0 : Int32) ri) := rfl
set_option maxHeartbeats 4000000 in
set_option maxRecDepth 100000 in
theorem s_X10_passTitles (l : Launch) (D : va_G) (t : pq_T) (σ : pq_S) (I : Nat → Nat → Int32) (J : Nat → Nat → Int64) (ri : Nat → Nat → Int32) (rj : Nat → Nat → Int64) (rq : Nat → Nat → Option Nat) (sz : Nat) (tg : Nat → Nat) (hSH : SH σ tg) (hG0 : GS tg σ I ri rq) (this : Nat) (a0 : Int32) (a1 : Int32) (hL_this : this ∈ σ.1) (hK_this : σ.2.1 this = 10) (h_a1 : rg a1 (-1) 39) : MetI l yX10_passTitles (wa yX10_passTitles cX10_passTitles 5 (some .int)) ({ frames := 0, cells := 0, slots := 0, locals := 0 }) [.ref this, .int a0, .int a1] D t σ (I, J, ri, rj, rq) sz 0 0 (fun (r : Int32) (u : pq_S × pq_M) => ∃ ri' : Nat → Nat → Int32, u = (σ, I, J, ri', rj, rq) ∧ GX [] tg σ I ri rj I ri' rj rq ∧ g_X10_passTitles a0 a1 (vI 10 σ this I) (vJ 10 σ this J) (vR 10 σ this ri) (vL 10 σ this rj) (vQ 10 σ this rq) = (r, (vI 10 σ this I), (vJ 10 σ this J), (vR 10 σ this ri'), (vL 10 σ this rj), (vQ 10 σ this rq)) ∧ FR 10 tg σ this (I, J, ri, rj, rq) (I, J, ri', rj, rq)) := by
  refine Met.ofW (cc := cX10_passTitles) (maxL := 5) (ret := (some .int)) (by decide +kernel) rfl ?_
  intro p e s m args below meth c s₁ B hml hv
  obtain ⟨rfl, hsz, hP, hK, hD0, hN⟩ := hv
  have hx := B.exec
  have hb := B.bytes
  have hr := B.returns
  have hts := atoms_spec (ws := (wa yX10_passTitles cX10_passTitles 5 (some .int))) B.pre
  have hown : s.vm.findClass RX10 = some m.cls := findClass_of_methodNamed B.named
  have hlocks := B.notSynchronized
  subst hsz
  have hD : va_D (pq_B t σ (I, J, ri, rj, rq) s.heap.size) (pq_P t σ (I, J, ri, rj, rq)) := hD0.self
  generalize hAe : pq_B t σ (I, J, ri, rj, rq) s.heap.size = A at hD ⊢
  have hA : ∀ q : Nat, s.heap.size ≤ q → A q := fun q h => by rw [← hAe]; exact Or.inr h
  have hS : va_S A s.heap s.heap [] := va_S.rf
  have hG : GX [] tg σ I ri rj I ri rj rq := ⟨hG0, fun _ _ _ => rfl, fun _ _ _ _ _ => rfl, fun _ _ _ _ _ => rfl⟩
  have hl := lv_entry ([.ref this, .int a0, .int a1]) (n := 5) (Nat.le_of_ble_eq_true rfl)
  rw [lg_entry_eq]
  generalize (lg_sl ([.ref this, .int a0, .int a1]) ++ List.replicate (5 - (lg_sl ([.ref this, .int a0, .int a1])).length) Slot.unset).toArray = ls at hl ⊢
  have hl : lv_has ls 5 [(0, .ref this), (1, .int a0), (2, .int a1)] := hl
  refine q_gen (fun Q hQ => ?_)
  have go : ∀ (H : Heap) (locs : List Loc) (ls : Array Slot), va_P D vwCl (pq_P t σ (I, J, ri, rj, rq)) H → va_D A (pq_P t σ (I, J, ri, rj, rq)) → va_S A s.heap H locs → lv_has ls 5 [(0, .ref this), (1, .int a0), (2, .int a1)] → W p l e ({ frames := 0, cells := 0, slots := 0, locals := 0 } : Room) s m (List.toArray ([.ref this, .int a0, .int a1] : List Value)) below meth c H locs 0 0 Q (F0 m 0 ls []) := by
    intro H locs ls hP hD hS hl
    have hO_this : this = vo σ 10 this := rfl
    have hVT : VT 10 σ tg this := vt_10 hSH hL_this hK_this
    have hFr : FR 10 tg σ this (I, J, ri, rj, rq) (I, J, ri, rj, rq) := fr_rf
    obtain ⟨F, hF0⟩ : ∃ F, F = g_X10_passTitles a0 a1 (vI 10 σ this I) (vJ 10 σ this J) (vR 10 σ this ri) (vL 10 σ this rj) (vQ 10 σ this rq) := ⟨_, rfl⟩
    have hF := hF0.trans g_X10_passTitles_e
    refine lv_iconst (v := 0) hx hb dX10_passTitles_0 (by decide +kernel) ?_
    refine lv_istore_n (lv' := [(3, .int 0), (0, .ref this), (1, .int a0), (2, .int a1)]) hx hb dX10_passTitles_1 rfl hl (by decide +kernel) rfl (fun ls hl => ?_)
    refine lv_iconst (v := 0) hx hb dX10_passTitles_2 (by decide +kernel) ?_
    refine lv_istore (lv' := [(4, .int 0), (3, .int 0), (0, .ref this), (1, .int a0), (2, .int a1)]) hx hb dX10_passTitles_3 hl (by decide +kernel) rfl (fun ls hl => ?_)
    have L_587 : ∀ (n_586 : Nat) (x_564 : Int32) (x_565 : Int32) (ri_566 : Nat → Nat → Int32) (H : Heap) (locs : List Loc) (ls : Array Slot), rg x_565 0 40 → (40 - (x_565).toInt).toNat < n_586 → F = g_X10_passTitles_L5 a0 a1 (vI 10 σ this I) (vJ 10 σ this J) (vL 10 σ this rj) (vQ 10 σ this rq) n_586 x_564 x_565 (vR 10 σ this ri_566) → FR 10 tg σ this (I, J, ri, rj, rq) (I, J, ri_566, rj, rq) → GX [] tg σ I ri rj I ri_566 rj rq → va_P D vwCl (pq_P t σ (I, J, ri_566, rj, rq)) H → va_D A (pq_P t σ (I, J, ri_566, rj, rq)) → va_S A s.heap H locs → lv_has ls 5 [(0, .ref this), (1, .int a0), (2, .int a1), (3, .int x_564), (4, .int x_565)] → W p l e ({ frames := 0, cells := 0, slots := 0, locals := 0 } : Room) s m (List.toArray ([.ref this, .int a0, .int a1] : List Value)) below meth c H locs 0 0 Q (F0 m 5 ls []) := by
      intro n_586
      induction n_586 with
      | zero => intro x_564 x_565 ri_566 H locs ls h_590 hm_585 hF hFr hG hP hD hS hl; exact absurd hm_585 (Nat.not_lt_zero _)
      | succ n_586 ih_588 =>
        intro x_564 x_565 ri_566 H locs ls h_590 hm_585 hF hFr hG hP hD hS hl
        replace hF := hF.trans g_X10_passTitles_L5_e
        refine lv_iload hx hb dX10_passTitles_5 (lv_at hl 4 rfl) ?_
        refine lv_aload_n hx hb dX10_passTitles_7 rfl (lv_at hl 0 rfl) ?_
        obtain ⟨w_591, hR_w_591, hL_w_591, hK_w_591⟩ := sh_o hSH 327 (ci := 10) (kd := 2) rfl hL_this hK_this
        have hO_w_591 : w_591 = vo σ 2 this := vo_k (c := 10) hO_this hR_w_591
        refine pg_f (v := .ref w_591) (C := RX10) (T := TX10) (N := 13) hx hb hts (tw_i inlX10) hown hK hP hL_this hK_this (by decide +kernel) rfl 7 (by decide +kernel) (hts _ (tw_c tw_42)) (pq_hv rfl hR_w_591) dX10_passTitles_8 ?_
        refine pg_f (v := .int (I 65 w_591)) (C := RX2) (T := TX2) (N := 20) hx hb hts (tw_i inlX2) hown hK hP hL_w_591 hK_w_591 (by decide +kernel) rfl 1 (by decide +kernel) (hts _ (tw_c tw_498)) rfl dX10_passTitles_11 ?_
        have h_592 : rg (I 65 w_591) 0 40 := GX.rI hG 65 rfl
        replace hF := hF.trans (ap_n (vI_e (f := 65) hO_w_591 (by decide +kernel)))
        refine lv_icmp_ge (tgt := 45) hx hb dX10_passTitles_14 (by decide +kernel) (fun c_594 => ?_) (fun c_594 => ?_)
        · replace hF := hF.trans (if_pos c_594)
          refine lv_iload_n hx hb dX10_passTitles_45 rfl (lv_at hl 3 rfl) ?_
          subst hQ
          exact W.iret (v := x_564) hx hb hr (fun t1 ht hW => ⟨⟨x_564, (σ, I, J, ri_566, rj, rq), rfl, ⟨ri_566, rfl, hG, (hF0.symm.trans hF), hFr⟩, by rw [ht]; exact hP, va_K.moved hW.alike hK, hD⟩, hS.F ht⟩) hS.2.2 dX10_passTitles_46
        · replace hF := hF.trans (if_neg c_594)
          have h_597 : rg x_565 0 39 := rg_lt1 (nle c_594) h_590 h_592 (by decide +kernel)
          have h_598 : rg (I 65 w_591) 1 40 := rg_lt2 (nle c_594) h_590 h_592 (by decide +kernel)
          refine lv_aload_n hx hb dX10_passTitles_17 rfl (lv_at hl 0 rfl) ?_
          obtain ⟨w_599, hR_w_599, hL_w_599, hK_w_599, hN_w_599, hT_w_599⟩ := sh_a hSH 325 (ci := 10) (kd := 13) (len := 40) rfl (by decide +kernel) hL_this hK_this
          have hO_w_599 : w_599 = vrow σ 325 this := vo_k (c := 10) hO_this hR_w_599
          refine pg_f (v := .ref w_599) (C := RX10) (T := TX10) (N := 13) hx hb hts (tw_i inlX10) hown hK hP hL_this hK_this (by decide +kernel) rfl 5 (by decide +kernel) (hts _ (tw_c tw_34)) (pq_hv rfl hR_w_599) dX10_passTitles_18 ?_
          refine lv_iload hx hb dX10_passTitles_21 (lv_at hl 4 rfl) ?_
          refine pl_i hx hb hK hP hL_w_599 hK_w_599 hN_w_599 (rg_in h_597 (by decide +kernel)) dX10_passTitles_23 ?_
          refine lv_topi (fun x_600 ex_600 => ?_)
          replace hF := hF.trans (ap_n (vR_r hO_w_599 (by decide +kernel) ex_600))
          have h_601 : rg x_600 (-1) 39 := rg_of_eq ex_600 (GX.rR hG hT_w_599 rfl)
          refine lv_iload_n hx hb dX10_passTitles_24 rfl (lv_at hl 1 rfl) ?_
          have K_610 : ∀  (x_606 : Int32) (ri_607 : Nat → Nat → Int32) (H : Heap) (locs : List Loc) (ls : Array Slot), F = g_X10_passTitles_K39 x_565 (g_X10_passTitles_L5 a0 a1 (vI 10 σ this I) (vJ 10 σ this J) (vL 10 σ this rj) (vQ 10 σ this rq) n_586) x_606 (vR 10 σ this ri_607) → FR 10 tg σ this (I, J, ri, rj, rq) (I, J, ri_607, rj, rq) → GX [] tg σ I ri rj I ri_607 rj rq → va_P D vwCl (pq_P t σ (I, J, ri_607, rj, rq)) H → va_D A (pq_P t σ (I, J, ri_607, rj, rq)) → va_S A s.heap H locs → lv_has ls 5 [(0, .ref this), (1, .int a0), (2, .int a1), (3, .int x_606), (4, .int x_565)] → W p l e ({ frames := 0, cells := 0, slots := 0, locals := 0 } : Room) s m (List.toArray ([.ref this, .int a0, .int a1] : List Value)) below meth c H locs 0 0 Q (F0 m 39 ls []) := by
            intro x_606 ri_607 H locs ls hF hFr hG hP hD hS hl
            replace hF := hF.trans g_X10_passTitles_K39_e
            obtain ⟨x_611, ex_611⟩ : ∃ y : Int32, y = x_565 + Int32.ofInt 1 := ⟨_, rfl⟩
            replace hF := hF.trans (ap_n ex_611)
            have h_612 : rg x_611 1 40 := rg_of_eq ex_611 (rg_add h_597 (rg_k (Int32.ofInt 1) 1 rfl) (by decide +kernel))
            refine lv_iinc (v := x_611) (lv' := [(4, .int x_611), (0, .ref this), (1, .int a0), (2, .int a1), (3, .int x_606)]) hx hb dX10_passTitles_39 hl (k := 4) rfl ex_611.symm (by decide +kernel) rfl (fun ls hl => ?_)
            refine lv_goto (tgt := 5) hx hb dX10_passTitles_42 (by decide +kernel) ?_
            exact ih_588 x_606 x_611 ri_607 _ _ _ (rg_w h_612 (by decide +kernel)) (ms_up 1 hm_585 ex_611 rfl (by decide +kernel) h_597 (by decide +kernel) (by decide +kernel)) hF hFr hG hP hD hS (lv_sub hl [1, 2, 3, 4, 0] rfl)
          refine lv_icmp_ne (tgt := 39) hx hb dX10_passTitles_25 (by decide +kernel) (fun c_613 => ?_) (fun c_613 => ?_)
          · replace hF := hF.trans (if_neg c_613)
            exact K_610 x_564 ri_566 _ _ _ hF hFr hG hP hD hS (lv_sub hl [0, 1, 2, 3, 4] rfl)
          · replace hF := hF.trans (if_pos c_613)
            have h_615 : rg a0 (-1) 39 := rg_and (rg_full _) (rg_of_eq c_613.symm h_601) (by decide +kernel)
            refine lv_aload_n hx hb dX10_passTitles_28 rfl (lv_at hl 0 rfl) ?_
            refine pg_f (v := .ref w_599) (C := RX10) (T := TX10) (N := 13) hx hb hts (tw_i inlX10) hown hK hP hL_this hK_this (by decide +kernel) rfl 5 (by decide +kernel) (hts _ (tw_c tw_34)) (pq_hv rfl hR_w_599) dX10_passTitles_29 ?_
            refine lv_iload hx hb dX10_passTitles_32 (lv_at hl 4 rfl) ?_
            refine lv_iload_n hx hb dX10_passTitles_34 rfl (lv_at hl 2 rfl) ?_
            refine pt_i hx hb hK hP hD hS hL_w_599 hK_w_599 hN_w_599 (rg_in h_597 (by decide +kernel)) dX10_passTitles_35 (fun r_616 H locs er_616 hP hD hS => ?_)
            replace hFr := fr_R hFr hO_w_599 (by decide +kernel) er_616
            replace hF := hF.trans (ap_n (vR_st hVT hO_w_599 (by decide +kernel) er_616))
            have hG := GX.wR hG hSH hT_w_599 rfl er_616 (rg_w h_a1 (by decide +kernel)) (by decide +kernel)
            obtain ⟨x_617, ex_617⟩ : ∃ y : Int32, y = x_564 + Int32.ofInt 1 := ⟨_, rfl⟩
            replace hF := hF.trans (ap_n ex_617)
            refine lv_iinc (v := x_617) (lv' := [(3, .int x_617), (0, .ref this), (1, .int a0), (2, .int a1), (4, .int x_565)]) hx hb dX10_passTitles_36 hl (k := 3) rfl ex_617.symm (by decide +kernel) rfl (fun ls hl => ?_)
            exact K_610 x_617 r_616 _ _ _ hF hFr hG hP hD hS (lv_sub hl [1, 2, 3, 0, 4] rfl)
    exact L_587 _ (0 : Int32) (0 : Int32) ri _ _ _ (rg_w (rg_k (0 : Int32) 0 rfl) (by decide +kernel)) (Nat.lt_succ_self _) hF hFr hG hP hD hS (lv_sub hl [2, 3, 4, 1, 0] rfl)
  exact go _ _ _ hP hD hS hl

set_option maxRecDepth 100000 in
def g_J13_bitCount_95d88 (a0 : Int64) : Int32 := (ap1 ((a0.toUInt64 >>> ((1 : Int32).toInt64.toUInt64 &&& Int64.toUInt64 63)).toInt64) fun (x_1 : Int64) => (ap1 (x_1 &&& (6148914691236517205 : Int64)) fun (x_2 : Int64) => (ap1 (a0 - x_2) fun (x_3 : Int64) => (ap1 (x_3 &&& (3689348814741910323 : Int64)) fun (x_4 : Int64) => (ap1 ((x_3.toUInt64 >>> ((2 : Int32).toInt64.toUInt64 &&& Int64.toUInt64 63)).toInt64) fun (x_5 : Int64) => (ap1 (x_5 &&& (3689348814741910323 : Int64)) fun (x_6 : Int64) => (ap1 (x_4 + x_6) fun (x_7 : Int64) => (ap1 ((x_7.toUInt64 >>> ((4 : Int32).toInt64.toUInt64 &&& Int64.toUInt64 63)).toInt64) fun (x_8 : Int64) => (ap1 (x_7 + x_8) fun (x_9 : Int64) => (ap1 (x_9 &&& (1085102592571150095 : Int64)) fun (x_10 : Int64) => (ap1 ((x_10.toUInt64 >>> ((8 : Int32).toInt64.toUInt64 &&& Int64.toUInt64 63)).toInt64) fun (x_11 : Int64) => (ap1 (x_10 + x_11) fun (x_12 : Int64) => (ap1 ((x_12.toUInt64 >>> ((16 : Int32).toInt64.toUInt64 &&& Int64.toUInt64 63)).toInt64) fun (x_13 : Int64) => (ap1 (x_12 + x_13) fun (x_14 : Int64) => (ap1 ((x_14.toUInt64 >>> ((32 : Int32).toInt64.toUInt64 &&& Int64.toUInt64 63)).toInt64) fun (x_15 : Int64) => (ap1 (x_14 + x_15) fun (x_16 : Int64) => (ap1 (x_16.toInt32) fun (x_17 : Int32) => (ap1 (x_17 &&& (127 : Int32)) fun (x_18 : Int32) => x_18))))))))))))))))))
set_option maxRecDepth 100000 in
theorem g_J13_bitCount_95d88_e {a0 : Int64} : g_J13_bitCount_95d88 a0 = (ap1 ((a0.toUInt64 >>> ((1 : Int32).toInt64.toUInt64 &&& Int64.toUInt64 63)).toInt64) fun (x_1 : Int64) => (ap1 (x_1 &&& (6148914691236517205 : Int64)) fun (x_2 : Int64) => (ap1 (a0 - x_2) fun (x_3 : Int64) => (ap1 (x_3 &&& (3689348814741910323 : Int64)) fun (x_4 : Int64) => (ap1 ((x_3.toUInt64 >>> ((2 : Int32).toInt64.toUInt64 &&& Int64.toUInt64 63)).toInt64) fun (x_5 : Int64) => (ap1 (x_5 &&& (3689348814741910323 : Int64)) fun (x_6 : Int64) => (ap1 (x_4 + x_6) fun (x_7 : Int64) => (ap1 ((x_7.toUInt64 >>> ((4 : Int32).toInt64.toUInt64 &&& Int64.toUInt64 63)).toInt64) fun (x_8 : Int64) => (ap1 (x_7 + x_8) fun (x_9 : Int64) => (ap1 (x_9 &&& (1085102592571150095 : Int64)) fun (x_10 : Int64) => (ap1 ((x_10.toUInt64 >>> ((8 : Int32).toInt64.toUInt64 &&& Int64.toUInt64 63)).toInt64) fun (x_11 : Int64) => (ap1 (x_10 + x_11) fun (x_12 : Int64) => (ap1 ((x_12.toUInt64 >>> ((16 : Int32).toInt64.toUInt64 &&& Int64.toUInt64 63)).toInt64) fun (x_13 : Int64) => (ap1 (x_12 + x_13) fun (x_14 : Int64) => (ap1 ((x_14.toUInt64 >>> ((32 : Int32).toInt64.toUInt64 &&& Int64.toUInt64 63)).toInt64) fun (x_15 : Int64) => (ap1 (x_14 + x_15) fun (x_16 : Int64) => (ap1 (x_16.toInt32) fun (x_17 : Int32) => (ap1 (x_17 &&& (127 : Int32)) fun (x_18 : Int32) => x_18)))))))))))))))))) := rfl
set_option maxHeartbeats 4000000 in
set_option maxRecDepth 100000 in
theorem s_J13_bitCount_95d88 (l : Launch) (D : va_G) (t : pq_T) (σ : pq_S) (I : Nat → Nat → Int32) (J : Nat → Nat → Int64) (ri : Nat → Nat → Int32) (rj : Nat → Nat → Int64) (rq : Nat → Nat → Option Nat) (sz : Nat) (tg : Nat → Nat) (hSH : SH σ tg) (hG0 : GS tg σ I ri rq) (a0 : Int64) : MetI l yJ13_bitCount_95d88 (wa yJ13_bitCount_95d88 cJ13_bitCount_95d88 2 (some .int)) ({ frames := 0, cells := 0, slots := 0, locals := 0 }) [.long a0] D t σ (I, J, ri, rj, rq) sz 0 0 (fun (r : Int32) (u : pq_S × pq_M) => u = (σ, I, J, ri, rj, rq) ∧ g_J13_bitCount_95d88 a0 = r) := by
  refine Met.ofW (cc := cJ13_bitCount_95d88) (maxL := 2) (ret := (some .int)) (by decide +kernel) rfl ?_
  intro p e s m args below meth c s₁ B hml hv
  obtain ⟨rfl, hsz, hP, hK, hD0, hN⟩ := hv
  have hx := B.exec
  have hb := B.bytes
  have hr := B.returns
  have hts := atoms_spec (ws := (wa yJ13_bitCount_95d88 cJ13_bitCount_95d88 2 (some .int))) B.pre
  have hown : s.vm.findClass RJ13 = some m.cls := findClass_of_methodNamed B.named
  have hlocks := B.notSynchronized
  subst hsz
  have hD : va_D (pq_B t σ (I, J, ri, rj, rq) s.heap.size) (pq_P t σ (I, J, ri, rj, rq)) := hD0.self
  generalize hAe : pq_B t σ (I, J, ri, rj, rq) s.heap.size = A at hD ⊢
  have hA : ∀ q : Nat, s.heap.size ≤ q → A q := fun q h => by rw [← hAe]; exact Or.inr h
  have hS : va_S A s.heap s.heap [] := va_S.rf
  have hG : GX [] tg σ I ri rj I ri rj rq := ⟨hG0, fun _ _ _ => rfl, fun _ _ _ _ _ => rfl, fun _ _ _ _ _ => rfl⟩
  have hl := lv_entry ([.long a0]) (n := 2) (Nat.le_of_ble_eq_true rfl)
  rw [lg_entry_eq]
  generalize (lg_sl ([.long a0]) ++ List.replicate (2 - (lg_sl ([.long a0])).length) Slot.unset).toArray = ls at hl ⊢
  have hl : lv_has ls 2 [(0, .long a0)] := hl
  refine q_gen (fun Q hQ => ?_)
  have go : ∀ (H : Heap) (locs : List Loc) (ls : Array Slot), va_P D vwCl (pq_P t σ (I, J, ri, rj, rq)) H → va_D A (pq_P t σ (I, J, ri, rj, rq)) → va_S A s.heap H locs → lv_has ls 2 [(0, .long a0)] → W p l e ({ frames := 0, cells := 0, slots := 0, locals := 0 } : Room) s m (List.toArray ([.long a0] : List Value)) below meth c H locs 0 0 Q (F0 m 0 ls []) := by
    intro H locs ls hP hD hS hl
    obtain ⟨F, hF0⟩ : ∃ F, F = g_J13_bitCount_95d88 a0 := ⟨_, rfl⟩
    have hF := hF0.trans g_J13_bitCount_95d88_e
    refine lv_lload_n hx hb dJ13_bitCount_95d88_0 rfl (lv_at hl 0 rfl) ?_
    refine lv_lload_n hx hb dJ13_bitCount_95d88_1 rfl (lv_at hl 0 rfl) ?_
    refine lv_iconst (v := 1) hx hb dJ13_bitCount_95d88_2 (by decide +kernel) ?_
    refine lv_lushr hx hb dJ13_bitCount_95d88_3 rfl ?_
    refine lv_topl (fun x_1 ex_1 => ?_)
    replace hF := hF.trans (ap_n ex_1)
    refine lv_ldc2 hx hb hown (hts _ (tw_c tw_1346)) dJ13_bitCount_95d88_4 ?_
    refine lv_land hx hb dJ13_bitCount_95d88_7 ?_
    refine lv_topl (fun x_2 ex_2 => ?_)
    replace hF := hF.trans (ap_n ex_2)
    refine lv_lsub hx hb dJ13_bitCount_95d88_8 ?_
    refine lv_topl (fun x_3 ex_3 => ?_)
    replace hF := hF.trans (ap_n ex_3)
    refine lv_lstore_n (lv' := [(0, .long x_3)]) hx hb dJ13_bitCount_95d88_9 rfl hl (by decide +kernel) rfl (fun ls hl => ?_)
    refine lv_lload_n hx hb dJ13_bitCount_95d88_10 rfl (lv_at hl 0 rfl) ?_
    refine lv_ldc2 hx hb hown (hts _ (tw_c tw_1347)) dJ13_bitCount_95d88_11 ?_
    refine lv_land hx hb dJ13_bitCount_95d88_14 ?_
    refine lv_topl (fun x_4 ex_4 => ?_)
    replace hF := hF.trans (ap_n ex_4)
    refine lv_lload_n hx hb dJ13_bitCount_95d88_15 rfl (lv_at hl 0 rfl) ?_
    refine lv_iconst (v := 2) hx hb dJ13_bitCount_95d88_16 (by decide +kernel) ?_
    refine lv_lushr hx hb dJ13_bitCount_95d88_17 rfl ?_
    refine lv_topl (fun x_5 ex_5 => ?_)
    replace hF := hF.trans (ap_n ex_5)
    refine lv_ldc2 hx hb hown (hts _ (tw_c tw_1347)) dJ13_bitCount_95d88_18 ?_
    refine lv_land hx hb dJ13_bitCount_95d88_21 ?_
    refine lv_topl (fun x_6 ex_6 => ?_)
    replace hF := hF.trans (ap_n ex_6)
    refine lv_ladd hx hb dJ13_bitCount_95d88_22 ?_
    refine lv_topl (fun x_7 ex_7 => ?_)
    replace hF := hF.trans (ap_n ex_7)
    refine lv_lstore_n (lv' := [(0, .long x_7)]) hx hb dJ13_bitCount_95d88_23 rfl hl (by decide +kernel) rfl (fun ls hl => ?_)
    refine lv_lload_n hx hb dJ13_bitCount_95d88_24 rfl (lv_at hl 0 rfl) ?_
    refine lv_lload_n hx hb dJ13_bitCount_95d88_25 rfl (lv_at hl 0 rfl) ?_
    refine lv_iconst (v := 4) hx hb dJ13_bitCount_95d88_26 (by decide +kernel) ?_
    refine lv_lushr hx hb dJ13_bitCount_95d88_27 rfl ?_
    refine lv_topl (fun x_8 ex_8 => ?_)
    replace hF := hF.trans (ap_n ex_8)
    refine lv_ladd hx hb dJ13_bitCount_95d88_28 ?_
    refine lv_topl (fun x_9 ex_9 => ?_)
    replace hF := hF.trans (ap_n ex_9)
    refine lv_ldc2 hx hb hown (hts _ (tw_c tw_1348)) dJ13_bitCount_95d88_29 ?_
    refine lv_land hx hb dJ13_bitCount_95d88_32 ?_
    refine lv_topl (fun x_10 ex_10 => ?_)
    replace hF := hF.trans (ap_n ex_10)
    refine lv_lstore_n (lv' := [(0, .long x_10)]) hx hb dJ13_bitCount_95d88_33 rfl hl (by decide +kernel) rfl (fun ls hl => ?_)
    refine lv_lload_n hx hb dJ13_bitCount_95d88_34 rfl (lv_at hl 0 rfl) ?_
    refine lv_lload_n hx hb dJ13_bitCount_95d88_35 rfl (lv_at hl 0 rfl) ?_
    refine lv_bipush (v := 8) hx hb dJ13_bitCount_95d88_36 (by decide +kernel) ?_
    refine lv_lushr hx hb dJ13_bitCount_95d88_38 rfl ?_
    refine lv_topl (fun x_11 ex_11 => ?_)
    replace hF := hF.trans (ap_n ex_11)
    refine lv_ladd hx hb dJ13_bitCount_95d88_39 ?_
    refine lv_topl (fun x_12 ex_12 => ?_)
    replace hF := hF.trans (ap_n ex_12)
    refine lv_lstore_n (lv' := [(0, .long x_12)]) hx hb dJ13_bitCount_95d88_40 rfl hl (by decide +kernel) rfl (fun ls hl => ?_)
    refine lv_lload_n hx hb dJ13_bitCount_95d88_41 rfl (lv_at hl 0 rfl) ?_
    refine lv_lload_n hx hb dJ13_bitCount_95d88_42 rfl (lv_at hl 0 rfl) ?_
    refine lv_bipush (v := 16) hx hb dJ13_bitCount_95d88_43 (by decide +kernel) ?_
    refine lv_lushr hx hb dJ13_bitCount_95d88_45 rfl ?_
    refine lv_topl (fun x_13 ex_13 => ?_)
    replace hF := hF.trans (ap_n ex_13)
    refine lv_ladd hx hb dJ13_bitCount_95d88_46 ?_
    refine lv_topl (fun x_14 ex_14 => ?_)
    replace hF := hF.trans (ap_n ex_14)
    refine lv_lstore_n (lv' := [(0, .long x_14)]) hx hb dJ13_bitCount_95d88_47 rfl hl (by decide +kernel) rfl (fun ls hl => ?_)
    refine lv_lload_n hx hb dJ13_bitCount_95d88_48 rfl (lv_at hl 0 rfl) ?_
    refine lv_lload_n hx hb dJ13_bitCount_95d88_49 rfl (lv_at hl 0 rfl) ?_
    refine lv_bipush (v := 32) hx hb dJ13_bitCount_95d88_50 (by decide +kernel) ?_
    refine lv_lushr hx hb dJ13_bitCount_95d88_52 rfl ?_
    refine lv_topl (fun x_15 ex_15 => ?_)
    replace hF := hF.trans (ap_n ex_15)
    refine lv_ladd hx hb dJ13_bitCount_95d88_53 ?_
    refine lv_topl (fun x_16 ex_16 => ?_)
    replace hF := hF.trans (ap_n ex_16)
    refine lv_lstore_n (lv' := [(0, .long x_16)]) hx hb dJ13_bitCount_95d88_54 rfl hl (by decide +kernel) rfl (fun ls hl => ?_)
    refine lv_lload_n hx hb dJ13_bitCount_95d88_55 rfl (lv_at hl 0 rfl) ?_
    refine lv_l2i hx hb dJ13_bitCount_95d88_56 rfl ?_
    refine lv_topi (fun x_17 ex_17 => ?_)
    replace hF := hF.trans (ap_n ex_17)
    refine lv_bipush (v := 127) hx hb dJ13_bitCount_95d88_57 (by decide +kernel) ?_
    refine lv_iand hx hb dJ13_bitCount_95d88_59 ?_
    refine lv_topi (fun x_18 ex_18 => ?_)
    replace hF := hF.trans (ap_n ex_18)
    subst hQ
    exact W.iret (v := x_18) hx hb hr (fun t1 ht hW => ⟨⟨x_18, (σ, I, J, ri, rj, rq), rfl, ⟨rfl, (hF0.symm.trans hF)⟩, by rw [ht]; exact hP, va_K.moved hW.alike hK, hD⟩, hS.F ht⟩) hS.2.2 dJ13_bitCount_95d88_60
  exact go _ _ _ hP hD hS hl

set_option maxRecDepth 100000 in
def g_X10_decide (tI : Nat → Nat → Int32) (tR : Nat → Nat → Nat → Int32) (a0 : Int64) (I : Nat → Int32) (J : Nat → Int64) (ri : Nat → Nat → Int32) (rj : Nat → Nat → Int64) (rq : Nat → Nat → Option Nat) : Int32 × vM := (bnI (g_X0_notDead I J ri rj rq) fun (x_2 : Int64) (_ : Nat → Int32) (_ : Nat → Int64) (_ : Nat → Nat → Int32) (_ : Nat → Nat → Int64) (_ : Nat → Nat → Option Nat) => (ap1 (I 320) fun (y_11 : Int32) => (bnI (g_X3_whoIsSo tI tR (1 : Int32) (y_11) x_2 I J ri rj rq) fun (x_12 : Int64) (_ : Nat → Int32) (_ : Nat → Int64) (ri_14 : Nat → Nat → Int32) (_ : Nat → Nat → Int64) (_ : Nat → Nat → Option Nat) => (bnI (g_X3_whoIsSo tI tR (3 : Int32) (y_11) x_2 I J ri_14 rj rq) fun (x_20 : Int64) (_ : Nat → Int32) (_ : Nat → Int64) (ri_22 : Nat → Nat → Int32) (_ : Nat → Nat → Int64) (_ : Nat → Nat → Option Nat) => (ap1 (x_12 &&& x_20) fun (x_28 : Int64) => (ap1 (x_28 &&& a0) fun (x_29 : Int64) => (ap1 (g_J13_bitCount_95d88 x_29) fun (x_30 : Int32) => (ap1 ((100 : Int32) * x_30) fun (x_37 : Int32) => (bnI (g_X3_councilIn tI tR (y_11) I J ri_22 rj rq) fun (x_38 : Int32) (_ : Nat → Int32) (_ : Nat → Int64) (_ : Nat → Nat → Int32) (_ : Nat → Nat → Int64) (_ : Nat → Nat → Option Nat) => (ap1 (g_J13_bitCount_95d88 x_28) fun (x_45 : Int32) => (ap1 (x_38 * x_45) fun (x_52 : Int32) => (if x_52 ≤ x_37 then (ap1 (x_28 &&& a0) fun (x_56 : Int64) => (bnI (g_X0_countVotes x_56 (1 : Int32) I J ri_22 rj rq) fun (x_57 : Int32) (_ : Nat → Int32) (_ : Nat → Int64) (_ : Nat → Nat → Int32) (_ : Nat → Nat → Int64) (_ : Nat → Nat → Option Nat) => (ap1 (x_28 &&& a0) fun (x_64 : Int64) => (bnI (g_X0_countVotes x_64 (0 : Int32) I J ri_22 rj rq) fun (x_65 : Int32) (_ : Nat → Int32) (_ : Nat → Int64) (_ : Nat → Nat → Int32) (_ : Nat → Nat → Int64) (_ : Nat → Nat → Option Nat) => (if x_57 ≤ x_65 then ((0 : Int32), I, J, ri_22, rj, rq) else ((1 : Int32), I, J, ri_22, rj, rq)))))) else ((2 : Int32), I, J, ri_22, rj, rq)))))))))))))
set_option maxRecDepth 100000 in
theorem g_X10_decide_e {tI : Nat → Nat → Int32} {tR : Nat → Nat → Nat → Int32} {a0 : Int64} {I : Nat → Int32} {J : Nat → Int64} {ri : Nat → Nat → Int32} {rj : Nat → Nat → Int64} {rq : Nat → Nat → Option Nat} : g_X10_decide tI tR a0 I J ri rj rq = (bnI (g_X0_notDead I J ri rj rq) fun (x_2 : Int64) (_ : Nat → Int32) (_ : Nat → Int64) (_ : Nat → Nat → Int32) (_ : Nat → Nat → Int64) (_ : Nat → Nat → Option Nat) => (ap1 (I 320) fun (y_11 : Int32) => (bnI (g_X3_whoIsSo tI tR (1 : Int32) (y_11) x_2 I J ri rj rq) fun (x_12 : Int64) (_ : Nat → Int32) (_ : Nat → Int64) (ri_14 : Nat → Nat → Int32) (_ : Nat → Nat → Int64) (_ : Nat → Nat → Option Nat) => (bnI (g_X3_whoIsSo tI tR (3 : Int32) (y_11) x_2 I J ri_14 rj rq) fun (x_20 : Int64) (_ : Nat → Int32) (_ : Nat → Int64) (ri_22 : Nat → Nat → Int32) (_ : Nat → Nat → Int64) (_ : Nat → Nat → Option Nat) => (ap1 (x_12 &&& x_20) fun (x_28 : Int64) => (ap1 (x_28 &&& a0) fun (x_29 : Int64) => (ap1 (g_J13_bitCount_95d88 x_29) fun (x_30 : Int32) => (ap1 ((100 : Int32) * x_30) fun (x_37 : Int32) => (bnI (g_X3_councilIn tI tR (y_11) I J ri_22 rj rq) fun (x_38 : Int32) (_ : Nat → Int32) (_ : Nat → Int64) (_ : Nat → Nat → Int32) (_ : Nat → Nat → Int64) (_ : Nat → Nat → Option Nat) => (ap1 (g_J13_bitCount_95d88 x_28) fun (x_45 : Int32) => (ap1 (x_38 * x_45) fun (x_52 : Int32) => (if x_52 ≤ x_37 then (ap1 (x_28 &&& a0) fun (x_56 : Int64) => (bnI (g_X0_countVotes x_56 (1 : Int32) I J ri_22 rj rq) fun (x_57 : Int32) (_ : Nat → Int32) (_ : Nat → Int64) (_ : Nat → Nat → Int32) (_ : Nat → Nat → Int64) (_ : Nat → Nat → Option Nat) => (ap1 (x_28 &&& a0) fun (x_64 : Int64) => (bnI (g_X0_countVotes x_64 (0 : Int32) I J ri_22 rj rq) fun (x_65 : Int32) (_ : Nat → Int32) (_ : Nat → Int64) (_ : Nat → Nat → Int32) (_ : Nat → Nat → Int64) (_ : Nat → Nat → Option Nat) => (if x_57 ≤ x_65 then ((0 : Int32), I, J, ri_22, rj, rq) else ((1 : Int32), I, J, ri_22, rj, rq)))))) else ((2 : Int32), I, J, ri_22, rj, rq))))))))))))) := rfl
set_option maxHeartbeats 4000000 in
set_option maxRecDepth 100000 in
theorem s_X10_decide (l : Launch) (D : va_G) (t : pq_T) (σ : pq_S) (I : Nat → Nat → Int32) (J : Nat → Nat → Int64) (ri : Nat → Nat → Int32) (rj : Nat → Nat → Int64) (rq : Nat → Nat → Option Nat) (sz : Nat) (tg : Nat → Nat) (hSH : SH σ tg) (hG0 : GS tg σ I ri rq) (this : Nat) (a0 : Int64) (hL_this : this ∈ σ.1) (hK_this : σ.2.1 this = 10) : MetI l yX10_decide (wa yX10_decide cX10_decide 8 (some .int)) ({ frames := 5, cells := 0, slots := 0, locals := 143 }) [.ref this, .long a0] D t σ (I, J, ri, rj, rq) sz 0 0 (fun (r : Int32) (u : pq_S × pq_M) => ∃ ri' : Nat → Nat → Int32, u = (σ, I, J, ri', rj, rq) ∧ GX [] tg σ I ri rj I ri' rj rq ∧ g_X10_decide (tI σ I) (tR σ ri) a0 (vI 10 σ this I) (vJ 10 σ this J) (vR 10 σ this ri) (vL 10 σ this rj) (vQ 10 σ this rq) = (r, (vI 10 σ this I), (vJ 10 σ this J), (vR 10 σ this ri'), (vL 10 σ this rj), (vQ 10 σ this rq)) ∧ FR 10 tg σ this (I, J, ri, rj, rq) (I, J, ri', rj, rq) ∧ rg r 0 2) := by
  refine Met.ofW (cc := cX10_decide) (maxL := 8) (ret := (some .int)) (by decide +kernel) rfl ?_
  intro p e s m args below meth c s₁ B hml hv
  obtain ⟨rfl, hsz, hP, hK, hD0, hN⟩ := hv
  have hx := B.exec
  have hb := B.bytes
  have hr := B.returns
  have hts := atoms_spec (ws := (wa yX10_decide cX10_decide 8 (some .int))) B.pre
  have hown : s.vm.findClass RX10 = some m.cls := findClass_of_methodNamed B.named
  have hlocks := B.notSynchronized
  subst hsz
  have hD : va_D (pq_B t σ (I, J, ri, rj, rq) s.heap.size) (pq_P t σ (I, J, ri, rj, rq)) := hD0.self
  generalize hAe : pq_B t σ (I, J, ri, rj, rq) s.heap.size = A at hD ⊢
  have hA : ∀ q : Nat, s.heap.size ≤ q → A q := fun q h => by rw [← hAe]; exact Or.inr h
  have hS : va_S A s.heap s.heap [] := va_S.rf
  have hG : GX [] tg σ I ri rj I ri rj rq := ⟨hG0, fun _ _ _ => rfl, fun _ _ _ _ _ => rfl, fun _ _ _ _ _ => rfl⟩
  have hl := lv_entry ([.ref this, .long a0]) (n := 8) (Nat.le_of_ble_eq_true rfl)
  rw [lg_entry_eq]
  generalize (lg_sl ([.ref this, .long a0]) ++ List.replicate (8 - (lg_sl ([.ref this, .long a0])).length) Slot.unset).toArray = ls at hl ⊢
  have hl : lv_has ls 8 [(0, .ref this), (1, .long a0)] := hl
  refine q_gen (fun Q hQ => ?_)
  have go : ∀ (H : Heap) (locs : List Loc) (ls : Array Slot), va_P D vwCl (pq_P t σ (I, J, ri, rj, rq)) H → va_D A (pq_P t σ (I, J, ri, rj, rq)) → va_S A s.heap H locs → lv_has ls 8 [(0, .ref this), (1, .long a0)] → W p l e ({ frames := 5, cells := 0, slots := 0, locals := 143 } : Room) s m (List.toArray ([.ref this, .long a0] : List Value)) below meth c H locs 0 0 Q (F0 m 0 ls []) := by
    intro H locs ls hP hD hS hl
    have hO_this : this = vo σ 10 this := rfl
    have hVT : VT 10 σ tg this := vt_10 hSH hL_this hK_this
    have hFr : FR 10 tg σ this (I, J, ri, rj, rq) (I, J, ri, rj, rq) := fr_rf
    obtain ⟨F, hF0⟩ : ∃ F, F = g_X10_decide (tI σ I) (tR σ ri) a0 (vI 10 σ this I) (vJ 10 σ this J) (vR 10 σ this ri) (vL 10 σ this rj) (vQ 10 σ this rq) := ⟨_, rfl⟩
    have hF := hF0.trans g_X10_decide_e
    refine lv_aload_n hx hb dX10_decide_0 rfl (lv_at hl 0 rfl) ?_
    obtain ⟨w_1, hR_w_1, hL_w_1, hK_w_1⟩ := sh_o hSH 328 (ci := 10) (kd := 0) rfl hL_this hK_this
    have hO_w_1 : w_1 = vo σ 0 this := vo_k (c := 10) hO_this hR_w_1
    refine pg_f (v := .ref w_1) (C := RX10) (T := TX10) (N := 13) hx hb hts (tw_i inlX10) hown hK hP hL_this hK_this (by decide +kernel) rfl 8 (by decide +kernel) (hts _ (tw_c tw_46)) (pq_hv rfl hR_w_1) dX10_decide_1 ?_
    refine pk_l (va_runV (As := []) (rest := []) ⟨hx, hb, hml, hown, hts⟩ (s_X0_notDead l D t σ I J ri rj rq H.size tg hSH hG.1 w_1 hL_w_1 hK_w_1 this hL_this hK_this hO_w_1) (cwV 0 hts (tw_V tw_1338 tw_1339 tw_1340 tw_45 tw_1341) rfl rfl rfl cv_yX0_notDead_0 ⟨Nat.le_of_ble_eq_true rfl, Nat.le_of_ble_eq_true rfl⟩) ⟨pq_blind, pq_recv hK hP hL_w_1 hK_w_1 (by decide +kernel) rfl, pq_pre hK hN hP hD⟩ rfl rfl hl.1 rfl (lv_room (Nat.le_of_ble_eq_true rfl)) dX10_decide_4 ⟨Nat.le_of_ble_eq_true rfl, Nat.le_of_ble_eq_true rfl⟩) hD hS hA (fun x_2 σ1 μ1 H locs hw_3 hP hD hS => ?_)
    obtain ⟨hu_4, hfn_7⟩ := hw_3
    obtain ⟨hu_4a, hu_4b⟩ := Prod.mk.inj hu_4
    rw [hu_4a, hu_4b] at hP hD
    replace hF := hF.trans (bn_n hfn_7)
    refine lv_lstore_n (lv' := [(3, .long x_2), (0, .ref this), (1, .long a0)]) hx hb dX10_decide_7 rfl hl (by decide +kernel) rfl (fun ls hl => ?_)
    refine lv_aload_n hx hb dX10_decide_8 rfl (lv_at hl 1 rfl) ?_
    obtain ⟨w_9, hR_w_9, hL_w_9, hK_w_9⟩ := sh_o hSH 329 (ci := 10) (kd := 3) rfl hL_this hK_this
    have hO_w_9 : w_9 = vo σ 3 this := vo_k (c := 10) hO_this hR_w_9
    refine pg_f (v := .ref w_9) (C := RX10) (T := TX10) (N := 13) hx hb hts (tw_i inlX10) hown hK hP hL_this hK_this (by decide +kernel) rfl 9 (by decide +kernel) (hts _ (tw_c tw_50)) (pq_hv rfl hR_w_9) dX10_decide_9 ?_
    refine lv_iconst (v := 1) hx hb dX10_decide_12 (by decide +kernel) ?_
    refine lv_aload_n hx hb dX10_decide_13 rfl (lv_at hl 1 rfl) ?_
    refine pg_f (v := .int (I 320 this)) (C := RX10) (T := TX10) (N := 13) hx hb hts (tw_i inlX10) hown hK hP hL_this hK_this (by decide +kernel) rfl 0 (by decide +kernel) (hts _ (tw_c tw_457)) rfl dX10_decide_14 ?_
    have h_10 : rg (I 320 this) 0 600 := GX.rI hG 320 rfl
    replace hF := hF.trans (ap_n (vI_e (f := 320) hO_this (by decide +kernel)))
    refine lv_aload_n hx hb dX10_decide_17 rfl (lv_at hl 1 rfl) ?_
    refine pg_f (v := .ref w_1) (C := RX10) (T := TX10) (N := 13) hx hb hts (tw_i inlX10) hown hK hP hL_this hK_this (by decide +kernel) rfl 8 (by decide +kernel) (hts _ (tw_c tw_46)) (pq_hv rfl hR_w_1) dX10_decide_18 ?_
    refine lv_lload_n hx hb dX10_decide_21 rfl (lv_at hl 0 rfl) ?_
    refine pk_l (va_runV (As := [.int 1, .int (I 320 this), .ref w_1, .long x_2]) (rest := []) ⟨hx, hb, hml, hown, hts⟩ (s_X3_whoIsSo l D t σ I J ri rj rq H.size tg hSH hG.1 w_9 (1 : Int32) (I 320 this) w_1 x_2 hL_w_9 hK_w_9 hL_w_1 hK_w_1 this hL_this hK_this hO_w_9 hO_w_1) (cwV 4 hts (tw_V tw_1166 tw_964 tw_965 tw_49 tw_966) rfl rfl rfl cv_yX3_whoIsSo_4 ⟨Nat.le_of_ble_eq_true rfl, Nat.le_of_ble_eq_true rfl⟩) ⟨pq_blind, pq_recv hK hP hL_w_9 hK_w_9 (by decide +kernel) rfl, pq_pre hK hN hP hD⟩ rfl rfl hl.1 rfl (lv_room (Nat.le_of_ble_eq_true rfl)) dX10_decide_22 ⟨Nat.le_of_ble_eq_true rfl, Nat.le_of_ble_eq_true rfl⟩) hD hS hA (fun x_12 σ1 μ1 H locs hw_13 hP hD hS => ?_)
    obtain ⟨ri_14, hu_15, hg_16, hfn_18, hfr_19⟩ := hw_13
    obtain ⟨hu_15a, hu_15b⟩ := Prod.mk.inj hu_15
    rw [hu_15a, hu_15b] at hP hD
    replace hF := hF.trans (bn_n hfn_18)
    replace hFr := fr_tr hFr hfr_19
    have hG := GX.tr hG hg_16 (by decide +kernel)
    refine lv_aload_n hx hb dX10_decide_25 rfl (lv_at hl 1 rfl) ?_
    refine pg_f (v := .ref w_9) (C := RX10) (T := TX10) (N := 13) hx hb hts (tw_i inlX10) hown hK hP hL_this hK_this (by decide +kernel) rfl 9 (by decide +kernel) (hts _ (tw_c tw_50)) (pq_hv rfl hR_w_9) dX10_decide_26 ?_
    refine lv_iconst (v := 3) hx hb dX10_decide_29 (by decide +kernel) ?_
    refine lv_aload_n hx hb dX10_decide_30 rfl (lv_at hl 1 rfl) ?_
    refine pg_f (v := .int (I 320 this)) (C := RX10) (T := TX10) (N := 13) hx hb hts (tw_i inlX10) hown hK hP hL_this hK_this (by decide +kernel) rfl 0 (by decide +kernel) (hts _ (tw_c tw_457)) rfl dX10_decide_31 ?_
    refine lv_aload_n hx hb dX10_decide_34 rfl (lv_at hl 1 rfl) ?_
    refine pg_f (v := .ref w_1) (C := RX10) (T := TX10) (N := 13) hx hb hts (tw_i inlX10) hown hK hP hL_this hK_this (by decide +kernel) rfl 8 (by decide +kernel) (hts _ (tw_c tw_46)) (pq_hv rfl hR_w_1) dX10_decide_35 ?_
    refine lv_lload_n hx hb dX10_decide_38 rfl (lv_at hl 0 rfl) ?_
    refine pk_l (va_runV (As := [.int 3, .int (I 320 this), .ref w_1, .long x_2]) (rest := [.long x_12]) ⟨hx, hb, hml, hown, hts⟩ (s_X3_whoIsSo l D t σ I J ri_14 rj rq H.size tg hSH hG.1 w_9 (3 : Int32) (I 320 this) w_1 x_2 hL_w_9 hK_w_9 hL_w_1 hK_w_1 this hL_this hK_this hO_w_9 hO_w_1) (cwV 4 hts (tw_V tw_1166 tw_964 tw_965 tw_49 tw_966) rfl rfl rfl cv_yX3_whoIsSo_4 ⟨Nat.le_of_ble_eq_true rfl, Nat.le_of_ble_eq_true rfl⟩) ⟨pq_blind, pq_recv hK hP hL_w_9 hK_w_9 (by decide +kernel) rfl, pq_pre hK hN hP hD⟩ rfl rfl hl.1 rfl (lv_room (Nat.le_of_ble_eq_true rfl)) dX10_decide_39 ⟨Nat.le_of_ble_eq_true rfl, Nat.le_of_ble_eq_true rfl⟩) hD hS hA (fun x_20 σ1 μ1 H locs hw_21 hP hD hS => ?_)
    obtain ⟨ri_22, hu_23, hg_24, hfn_26, hfr_27⟩ := hw_21
    obtain ⟨hu_23a, hu_23b⟩ := Prod.mk.inj hu_23
    rw [hu_23a, hu_23b] at hP hD
    rw [fr_tI hFr hVT, fr_tR hFr hVT] at hfn_26
    replace hF := hF.trans (bn_n hfn_26)
    replace hFr := fr_tr hFr hfr_27
    have hG := GX.tr hG hg_24 (by decide +kernel)
    refine lv_land hx hb dX10_decide_42 ?_
    refine lv_topl (fun x_28 ex_28 => ?_)
    replace hF := hF.trans (ap_n ex_28)
    refine lv_lstore (lv' := [(5, .long x_28), (3, .long x_2), (0, .ref this), (1, .long a0)]) hx hb dX10_decide_43 hl (by decide +kernel) rfl (fun ls hl => ?_)
    refine lv_lload hx hb dX10_decide_45 (lv_at hl 0 rfl) ?_
    refine lv_lload_n hx hb dX10_decide_47 rfl (lv_at hl 3 rfl) ?_
    refine lv_land hx hb dX10_decide_48 ?_
    refine lv_topl (fun x_29 ex_29 => ?_)
    replace hF := hF.trans (ap_n ex_29)
    refine pk_i (va_runS (As := [.long x_29]) (rest := []) ⟨hx, hb, hml, hown, hts⟩ (s_J13_bitCount_95d88 l D t σ I J ri_22 rj rq H.size tg hSH hG.1 x_29) (va_cwS 1 hts (tw_S tw_1342 tw_1343 tw_1344 tw_1345) rfl rfl rfl cd_yJ13_bitCount_95d88_1 ⟨Nat.le_of_ble_eq_true rfl, Nat.le_of_ble_eq_true rfl⟩) ⟨pq_blind, pq_pre hK hN hP hD⟩ rfl rfl hl.1 rfl (lv_room (Nat.le_of_ble_eq_true rfl)) dX10_decide_49 ⟨Nat.le_of_ble_eq_true rfl, Nat.le_of_ble_eq_true rfl⟩) hD hS hA (fun x_30 σ1 μ1 H locs hw_31 hP hD hS => ?_)
    obtain ⟨hu_32, hfn_35⟩ := hw_31
    obtain ⟨hu_32a, hu_32b⟩ := Prod.mk.inj hu_32
    rw [hu_32a, hu_32b] at hP hD
    replace hF := hF.trans (ap_n hfn_35.symm)
    refine lv_istore (lv' := [(7, .int x_30), (5, .long x_28), (3, .long x_2), (0, .ref this), (1, .long a0)]) hx hb dX10_decide_52 hl (by decide +kernel) rfl (fun ls hl => ?_)
    refine lv_bipush (v := 100) hx hb dX10_decide_54 (by decide +kernel) ?_
    refine lv_iload hx hb dX10_decide_56 (lv_at hl 0 rfl) ?_
    refine lv_imul hx hb dX10_decide_58 ?_
    refine lv_topi (fun x_37 ex_37 => ?_)
    replace hF := hF.trans (ap_n ex_37)
    refine lv_aload_n hx hb dX10_decide_59 rfl (lv_at hl 3 rfl) ?_
    refine pg_f (v := .ref w_9) (C := RX10) (T := TX10) (N := 13) hx hb hts (tw_i inlX10) hown hK hP hL_this hK_this (by decide +kernel) rfl 9 (by decide +kernel) (hts _ (tw_c tw_50)) (pq_hv rfl hR_w_9) dX10_decide_60 ?_
    refine lv_aload_n hx hb dX10_decide_63 rfl (lv_at hl 3 rfl) ?_
    refine pg_f (v := .int (I 320 this)) (C := RX10) (T := TX10) (N := 13) hx hb hts (tw_i inlX10) hown hK hP hL_this hK_this (by decide +kernel) rfl 0 (by decide +kernel) (hts _ (tw_c tw_457)) rfl dX10_decide_64 ?_
    refine pk_i (va_runV (As := [.int (I 320 this)]) (rest := [.int x_37]) ⟨hx, hb, hml, hown, hts⟩ (s_X3_councilIn l D t σ I J ri_22 rj rq H.size tg hSH hG.1 w_9 (I 320 this) hL_w_9 hK_w_9 this hL_this hK_this hO_w_9) (cwV 1 hts (tw_V tw_1349 tw_992 tw_993 tw_49 tw_994) rfl rfl rfl cv_yX3_councilIn_1 ⟨Nat.le_of_ble_eq_true rfl, Nat.le_of_ble_eq_true rfl⟩) ⟨pq_blind, pq_recv hK hP hL_w_9 hK_w_9 (by decide +kernel) rfl, pq_pre hK hN hP hD⟩ rfl rfl hl.1 rfl (lv_room (Nat.le_of_ble_eq_true rfl)) dX10_decide_67 ⟨Nat.le_of_ble_eq_true rfl, Nat.le_of_ble_eq_true rfl⟩) hD hS hA (fun x_38 σ1 μ1 H locs hw_39 hP hD hS => ?_)
    obtain ⟨hu_40, hfn_43⟩ := hw_39
    obtain ⟨hu_40a, hu_40b⟩ := Prod.mk.inj hu_40
    rw [hu_40a, hu_40b] at hP hD
    rw [fr_tI hFr hVT, fr_tR hFr hVT] at hfn_43
    replace hF := hF.trans (bn_n hfn_43)
    refine lv_lload hx hb dX10_decide_70 (lv_at hl 1 rfl) ?_
    refine pk_i (va_runS (As := [.long x_28]) (rest := [.int x_38, .int x_37]) ⟨hx, hb, hml, hown, hts⟩ (s_J13_bitCount_95d88 l D t σ I J ri_22 rj rq H.size tg hSH hG.1 x_28) (va_cwS 1 hts (tw_S tw_1342 tw_1343 tw_1344 tw_1345) rfl rfl rfl cd_yJ13_bitCount_95d88_1 ⟨Nat.le_of_ble_eq_true rfl, Nat.le_of_ble_eq_true rfl⟩) ⟨pq_blind, pq_pre hK hN hP hD⟩ rfl rfl hl.1 rfl (lv_room (Nat.le_of_ble_eq_true rfl)) dX10_decide_72 ⟨Nat.le_of_ble_eq_true rfl, Nat.le_of_ble_eq_true rfl⟩) hD hS hA (fun x_45 σ1 μ1 H locs hw_46 hP hD hS => ?_)
    obtain ⟨hu_47, hfn_50⟩ := hw_46
    obtain ⟨hu_47a, hu_47b⟩ := Prod.mk.inj hu_47
    rw [hu_47a, hu_47b] at hP hD
    replace hF := hF.trans (ap_n hfn_50.symm)
    refine lv_imul hx hb dX10_decide_75 ?_
    refine lv_topi (fun x_52 ex_52 => ?_)
    replace hF := hF.trans (ap_n ex_52)
    refine lv_icmp_ge (tgt := 81) hx hb dX10_decide_76 (by decide +kernel) (fun c_53 => ?_) (fun c_53 => ?_)
    · replace hF := hF.trans (if_pos c_53)
      refine lv_aload_n hx hb dX10_decide_81 rfl (lv_at hl 3 rfl) ?_
      refine pg_f (v := .ref w_1) (C := RX10) (T := TX10) (N := 13) hx hb hts (tw_i inlX10) hown hK hP hL_this hK_this (by decide +kernel) rfl 8 (by decide +kernel) (hts _ (tw_c tw_46)) (pq_hv rfl hR_w_1) dX10_decide_82 ?_
      refine lv_lload hx hb dX10_decide_85 (lv_at hl 1 rfl) ?_
      refine lv_lload_n hx hb dX10_decide_87 rfl (lv_at hl 4 rfl) ?_
      refine lv_land hx hb dX10_decide_88 ?_
      refine lv_topl (fun x_56 ex_56 => ?_)
      replace hF := hF.trans (ap_n ex_56)
      refine lv_iconst (v := 1) hx hb dX10_decide_89 (by decide +kernel) ?_
      refine pk_i (va_runV (As := [.long x_56, .int 1]) (rest := []) ⟨hx, hb, hml, hown, hts⟩ (s_X0_countVotes l D t σ I J ri_22 rj rq H.size tg hSH hG.1 w_1 x_56 (1 : Int32) hL_w_1 hK_w_1 this hL_this hK_this hO_w_1) (cwV 2 hts (tw_V tw_1350 tw_1351 tw_1352 tw_45 tw_1353) rfl rfl rfl cv_yX0_countVotes_2 ⟨Nat.le_of_ble_eq_true rfl, Nat.le_of_ble_eq_true rfl⟩) ⟨pq_blind, pq_recv hK hP hL_w_1 hK_w_1 (by decide +kernel) rfl, pq_pre hK hN hP hD⟩ rfl rfl hl.1 rfl (lv_room (Nat.le_of_ble_eq_true rfl)) dX10_decide_90 ⟨Nat.le_of_ble_eq_true rfl, Nat.le_of_ble_eq_true rfl⟩) hD hS hA (fun x_57 σ1 μ1 H locs hw_58 hP hD hS => ?_)
      obtain ⟨hu_59, hfn_62⟩ := hw_58
      obtain ⟨hu_59a, hu_59b⟩ := Prod.mk.inj hu_59
      rw [hu_59a, hu_59b] at hP hD
      replace hF := hF.trans (bn_n hfn_62)
      refine lv_aload_n hx hb dX10_decide_93 rfl (lv_at hl 3 rfl) ?_
      refine pg_f (v := .ref w_1) (C := RX10) (T := TX10) (N := 13) hx hb hts (tw_i inlX10) hown hK hP hL_this hK_this (by decide +kernel) rfl 8 (by decide +kernel) (hts _ (tw_c tw_46)) (pq_hv rfl hR_w_1) dX10_decide_94 ?_
      refine lv_lload hx hb dX10_decide_97 (lv_at hl 1 rfl) ?_
      refine lv_lload_n hx hb dX10_decide_99 rfl (lv_at hl 4 rfl) ?_
      refine lv_land hx hb dX10_decide_100 ?_
      refine lv_topl (fun x_64 ex_64 => ?_)
      replace hF := hF.trans (ap_n ex_64)
      refine lv_iconst (v := 0) hx hb dX10_decide_101 (by decide +kernel) ?_
      refine pk_i (va_runV (As := [.long x_64, .int 0]) (rest := [.int x_57]) ⟨hx, hb, hml, hown, hts⟩ (s_X0_countVotes l D t σ I J ri_22 rj rq H.size tg hSH hG.1 w_1 x_64 (0 : Int32) hL_w_1 hK_w_1 this hL_this hK_this hO_w_1) (cwV 2 hts (tw_V tw_1350 tw_1351 tw_1352 tw_45 tw_1353) rfl rfl rfl cv_yX0_countVotes_2 ⟨Nat.le_of_ble_eq_true rfl, Nat.le_of_ble_eq_true rfl⟩) ⟨pq_blind, pq_recv hK hP hL_w_1 hK_w_1 (by decide +kernel) rfl, pq_pre hK hN hP hD⟩ rfl rfl hl.1 rfl (lv_room (Nat.le_of_ble_eq_true rfl)) dX10_decide_102 ⟨Nat.le_of_ble_eq_true rfl, Nat.le_of_ble_eq_true rfl⟩) hD hS hA (fun x_65 σ1 μ1 H locs hw_66 hP hD hS => ?_)
      obtain ⟨hu_67, hfn_70⟩ := hw_66
      obtain ⟨hu_67a, hu_67b⟩ := Prod.mk.inj hu_67
      rw [hu_67a, hu_67b] at hP hD
      replace hF := hF.trans (bn_n hfn_70)
      refine lv_icmp_le (tgt := 112) hx hb dX10_decide_105 (by decide +kernel) (fun c_72 => ?_) (fun c_72 => ?_)
      · replace hF := hF.trans (if_pos c_72)
        refine lv_iconst (v := 0) hx hb dX10_decide_112 (by decide +kernel) ?_
        subst hQ
        exact W.iret (v := 0) hx hb hr (fun t1 ht hW => ⟨⟨0, (σ, I, J, ri_22, rj, rq), rfl, ⟨ri_22, rfl, hG, (hF0.symm.trans hF), hFr, (rg_w (rg_k (0 : Int32) 0 rfl) (by decide +kernel))⟩, by rw [ht]; exact hP, va_K.moved hW.alike hK, hD⟩, hS.F ht⟩) hS.2.2 dX10_decide_113
      · replace hF := hF.trans (if_neg c_72)
        have h_75 : rg x_65 (-2147483648) 2147483646 := rg_lt1 (nle c_72) (rg_full _) (rg_full _) (by decide +kernel)
        have h_76 : rg x_57 (-2147483647) 2147483647 := rg_lt2 (nle c_72) (rg_full _) (rg_full _) (by decide +kernel)
        refine lv_iconst (v := 1) hx hb dX10_decide_108 (by decide +kernel) ?_
        refine lv_goto (tgt := 113) hx hb dX10_decide_109 (by decide +kernel) ?_
        subst hQ
        exact W.iret (v := 1) hx hb hr (fun t1 ht hW => ⟨⟨1, (σ, I, J, ri_22, rj, rq), rfl, ⟨ri_22, rfl, hG, (hF0.symm.trans hF), hFr, (rg_w (rg_k (1 : Int32) 1 rfl) (by decide +kernel))⟩, by rw [ht]; exact hP, va_K.moved hW.alike hK, hD⟩, hS.F ht⟩) hS.2.2 dX10_decide_113
    · replace hF := hF.trans (if_neg c_53)
      have h_77 : rg x_37 (-2147483648) 2147483646 := rg_lt1 (nle c_53) (rg_full _) (rg_full _) (by decide +kernel)
      have h_78 : rg x_52 (-2147483647) 2147483647 := rg_lt2 (nle c_53) (rg_full _) (rg_full _) (by decide +kernel)
      refine lv_iconst (v := 2) hx hb dX10_decide_79 (by decide +kernel) ?_
      subst hQ
      exact W.iret (v := 2) hx hb hr (fun t1 ht hW => ⟨⟨2, (σ, I, J, ri_22, rj, rq), rfl, ⟨ri_22, rfl, hG, (hF0.symm.trans hF), hFr, (rg_w (rg_k (2 : Int32) 2 rfl) (by decide +kernel))⟩, by rw [ht]; exact hP, va_K.moved hW.alike hK, hD⟩, hS.F ht⟩) hS.2.2 dX10_decide_80
  exact go _ _ _ hP hD hS hl

set_option maxRecDepth 100000 in
def g_X11_ring (I : Nat → Int32) (J : Nat → Int64) (ri : Nat → Nat → Int32) (rj : Nat → Nat → Int64) (rq : Nat → Nat → Option Nat) : Int32 × vM := (ap1 (I 64) fun (y_3 : Int32) => (if (y_3) < (5 : Int32) then (ap1 ((y_3) + (1 : Int32)) fun (x_8 : Int32) => (ap1 (va_up I 64 x_8) fun (I_10 : Nat → Int32) => (ap1 (I_10 64) fun (y_12 : Int32) => (ap1 ((y_12) - (1 : Int32)) fun (x_13 : Int32) => (x_13, I_10, J, ri, rj, rq))))) else ((-1 : Int32), I, J, ri, rj, rq)))
set_option maxRecDepth 100000 in
theorem g_X11_ring_e {I : Nat → Int32} {J : Nat → Int64} {ri : Nat → Nat → Int32} {rj : Nat → Nat → Int64} {rq : Nat → Nat → Option Nat} : g_X11_ring I J ri rj rq = (ap1 (I 64) fun (y_3 : Int32) => (if (y_3) < (5 : Int32) then (ap1 ((y_3) + (1 : Int32)) fun (x_8 : Int32) => (ap1 (va_up I 64 x_8) fun (I_10 : Nat → Int32) => (ap1 (I_10 64) fun (y_12 : Int32) => (ap1 ((y_12) - (1 : Int32)) fun (x_13 : Int32) => (x_13, I_10, J, ri, rj, rq))))) else ((-1 : Int32), I, J, ri, rj, rq))) := rfl
set_option maxHeartbeats 4000000 in
set_option maxRecDepth 100000 in
theorem s_X11_ring (l : Launch) (D : va_G) (t : pq_T) (σ : pq_S) (I : Nat → Nat → Int32) (J : Nat → Nat → Int64) (ri : Nat → Nat → Int32) (rj : Nat → Nat → Int64) (rq : Nat → Nat → Option Nat) (sz : Nat) (tg : Nat → Nat) (hSH : SH σ tg) (hG0 : GS tg σ I ri rq) (this : Nat) (hL_this : this ∈ σ.1) (hK_this : σ.2.1 this = 11) (this_now : Nat) (hR_this_now : σ.2.2.1 352 this = some this_now) (hL_this_now : this_now ∈ σ.1) (hK_this_now : σ.2.1 this_now = 10) : MetI l yX11_ring (wa yX11_ring cX11_ring 2 (some .int)) ({ frames := 0, cells := 0, slots := 0, locals := 0 }) [.ref this] D t σ (I, J, ri, rj, rq) sz 0 0 (fun (r : Int32) (u : pq_S × pq_M) => ∃ I' : Nat → Nat → Int32, u = (σ, I', J, ri, rj, rq) ∧ GX [64] tg σ I ri rj I' ri rj rq ∧ g_X11_ring (vI 10 σ this_now I) (vJ 10 σ this_now J) (vR 10 σ this_now ri) (vL 10 σ this_now rj) (vQ 10 σ this_now rq) = (r, (vI 10 σ this_now I'), (vJ 10 σ this_now J), (vR 10 σ this_now ri), (vL 10 σ this_now rj), (vQ 10 σ this_now rq)) ∧ FR 10 tg σ this_now (I, J, ri, rj, rq) (I', J, ri, rj, rq) ∧ rg r (-1) 4) := by
  refine Met.ofW (cc := cX11_ring) (maxL := 2) (ret := (some .int)) (by decide +kernel) rfl ?_
  intro p e s m args below meth c s₁ B hml hv
  obtain ⟨rfl, hsz, hP, hK, hD0, hN⟩ := hv
  have hx := B.exec
  have hb := B.bytes
  have hr := B.returns
  have hts := atoms_spec (ws := (wa yX11_ring cX11_ring 2 (some .int))) B.pre
  have hown : s.vm.findClass RX11 = some m.cls := findClass_of_methodNamed B.named
  have hlocks := B.notSynchronized
  subst hsz
  have hD : va_D (pq_B t σ (I, J, ri, rj, rq) s.heap.size) (pq_P t σ (I, J, ri, rj, rq)) := hD0.self
  generalize hAe : pq_B t σ (I, J, ri, rj, rq) s.heap.size = A at hD ⊢
  have hA : ∀ q : Nat, s.heap.size ≤ q → A q := fun q h => by rw [← hAe]; exact Or.inr h
  have hS : va_S A s.heap s.heap [] := va_S.rf
  have hG : GX [64] tg σ I ri rj I ri rj rq := ⟨hG0, fun _ _ _ => rfl, fun _ _ _ _ _ => rfl, fun _ _ _ _ _ => rfl⟩
  have hl := lv_entry ([.ref this]) (n := 2) (Nat.le_of_ble_eq_true rfl)
  rw [lg_entry_eq]
  generalize (lg_sl ([.ref this]) ++ List.replicate (2 - (lg_sl ([.ref this])).length) Slot.unset).toArray = ls at hl ⊢
  have hl : lv_has ls 2 [(0, .ref this)] := hl
  refine q_gen (fun Q hQ => ?_)
  have go : ∀ (H : Heap) (locs : List Loc) (ls : Array Slot), va_P D vwCl (pq_P t σ (I, J, ri, rj, rq)) H → va_D A (pq_P t σ (I, J, ri, rj, rq)) → va_S A s.heap H locs → lv_has ls 2 [(0, .ref this)] → W p l e ({ frames := 0, cells := 0, slots := 0, locals := 0 } : Room) s m (List.toArray ([.ref this] : List Value)) below meth c H locs 0 0 Q (F0 m 0 ls []) := by
    intro H locs ls hP hD hS hl
    have hVT : VT 10 σ tg this_now := vt_10 hSH hL_this_now hK_this_now
    have hFr : FR 10 tg σ this_now (I, J, ri, rj, rq) (I, J, ri, rj, rq) := fr_rf
    have hO_this_now : this_now = vo σ 10 this_now := rfl
    obtain ⟨F, hF0⟩ : ∃ F, F = g_X11_ring (vI 10 σ this_now I) (vJ 10 σ this_now J) (vR 10 σ this_now ri) (vL 10 σ this_now rj) (vQ 10 σ this_now rq) := ⟨_, rfl⟩
    have hF := hF0.trans g_X11_ring_e
    refine lv_aload_n hx hb dX11_ring_0 rfl (lv_at hl 0 rfl) ?_
    refine pg_f (v := .ref this_now) (C := RX11) (T := TX11) (N := 5) hx hb hts (tw_i inlX11) hown hK hP hL_this hK_this (by decide +kernel) rfl 0 (by decide +kernel) (hts _ (tw_c tw_16)) (pq_hv rfl hR_this_now) dX11_ring_1 ?_
    obtain ⟨w_1, hR_w_1, hL_w_1, hK_w_1⟩ := sh_o hSH 327 (ci := 10) (kd := 2) rfl hL_this_now hK_this_now
    have hO_w_1 : w_1 = vo σ 2 this_now := vo_k (c := 10) hO_this_now hR_w_1
    refine pg_f (v := .ref w_1) (C := RX10) (T := TX10) (N := 13) hx hb hts (tw_i inlX10) hown hK hP hL_this_now hK_this_now (by decide +kernel) rfl 7 (by decide +kernel) (hts _ (tw_c tw_199)) (pq_hv rfl hR_w_1) dX11_ring_4 ?_
    refine lv_astore_n (lv' := [(1, .ref w_1), (0, .ref this)]) hx hb dX11_ring_7 rfl hl (by decide +kernel) rfl (fun ls hl => ?_)
    refine lv_aload_n hx hb dX11_ring_8 rfl (lv_at hl 0 rfl) ?_
    refine pg_f (v := .int (I 64 w_1)) (C := RX2) (T := TX2) (N := 20) hx hb hts (tw_i inlX2) hown hK hP hL_w_1 hK_w_1 (by decide +kernel) rfl 0 (by decide +kernel) (hts _ (tw_c tw_200)) rfl dX11_ring_9 ?_
    have h_2 : rg (I 64 w_1) 0 5 := GX.rI hG 64 rfl
    replace hF := hF.trans (ap_n (vI_e (f := 64) hO_w_1 (by decide +kernel)))
    refine lv_iconst (v := 5) hx hb dX11_ring_12 (by decide +kernel) ?_
    refine lv_icmp_lt (tgt := 18) hx hb dX11_ring_13 (by decide +kernel) (fun c_4 => ?_) (fun c_4 => ?_)
    · replace hF := hF.trans (if_pos c_4)
      have h_7 : rg (I 64 w_1) 0 4 := rg_lt1 c_4 h_2 (rg_k (5 : Int32) 5 rfl) (by decide +kernel)
      refine lv_aload_n hx hb dX11_ring_18 rfl (lv_at hl 0 rfl) ?_
      refine lv_dup hx hb dX11_ring_19 rfl ?_
      refine pg_f (v := .int (I 64 w_1)) (C := RX2) (T := TX2) (N := 20) hx hb hts (tw_i inlX2) hown hK hP hL_w_1 hK_w_1 (by decide +kernel) rfl 0 (by decide +kernel) (hts _ (tw_c tw_200)) rfl dX11_ring_20 ?_
      refine lv_iconst (v := 1) hx hb dX11_ring_23 (by decide +kernel) ?_
      refine lv_iadd hx hb dX11_ring_24 ?_
      refine lv_topi (fun x_8 ex_8 => ?_)
      replace hF := hF.trans (ap_n ex_8)
      have h_9 : rg x_8 1 5 := rg_of_eq ex_8 (rg_add h_7 (rg_k (1 : Int32) 1 rfl) (by decide +kernel))
      refine pp_i (v := x_8) (ty := .int) (C := RX2) (T := TX2) (N := 20) hx hb hts (tw_i inlX2) tyX2 tyX2_ok nmX2 hown hK hP hD hS hL_w_1 hK_w_1 (by decide +kernel) rfl 0 64 (by decide +kernel) (hts _ (tw_c tw_200)) rfl (tyX2_ok 0 (by decide +kernel)) rfl rfl (Nat.le_of_ble_eq_true rfl) (ps_64 _ _ _ _ _) dX11_ring_25 (fun I_10 H locs eI_10 hP hD hS => ?_)
      replace hFr := fr_I (f := 64) hFr hO_w_1 (by decide +kernel) eI_10
      replace hF := hF.trans (ap_n (vI_st (f := 64) hO_w_1 (by decide +kernel) eI_10))
      have hG := GX.wI hG 64 rfl eI_10 (rg_w h_9 (by decide +kernel)) (by decide +kernel)
      refine lv_aload_n hx hb dX11_ring_28 rfl (lv_at hl 0 rfl) ?_
      refine pg_f (v := .int (I_10 64 w_1)) (C := RX2) (T := TX2) (N := 20) hx hb hts (tw_i inlX2) hown hK hP hL_w_1 hK_w_1 (by decide +kernel) rfl 0 (by decide +kernel) (hts _ (tw_c tw_200)) rfl dX11_ring_29 ?_
      have h_11 : rg (I_10 64 w_1) 1 5 := (by rw [eI_10, pq_us]; exact h_9)
      replace hF := hF.trans (ap_n (vI_e (f := 64) hO_w_1 (by decide +kernel)))
      refine lv_iconst (v := 1) hx hb dX11_ring_32 (by decide +kernel) ?_
      refine lv_isub hx hb dX11_ring_33 ?_
      refine lv_topi (fun x_13 ex_13 => ?_)
      replace hF := hF.trans (ap_n ex_13)
      have h_14 : rg x_13 0 4 := rg_of_eq ex_13 (rg_sub h_11 (rg_k (1 : Int32) 1 rfl) (by decide +kernel))
      subst hQ
      exact W.iret (v := x_13) hx hb hr (fun t1 ht hW => ⟨⟨x_13, (σ, I_10, J, ri, rj, rq), rfl, ⟨I_10, rfl, hG, (hF0.symm.trans hF), hFr, (rg_w h_14 (by decide +kernel))⟩, by rw [ht]; exact hP, va_K.moved hW.alike hK, hD⟩, hS.F ht⟩) hS.2.2 dX11_ring_34
    · replace hF := hF.trans (if_neg c_4)
      have h_15 : rg (I 64 w_1) 5 5 := rg_le2 (nlt c_4) (rg_k (5 : Int32) 5 rfl) h_2 (by decide +kernel)
      refine lv_iconst (v := (-1)) hx hb dX11_ring_16 (by decide +kernel) ?_
      subst hQ
      exact W.iret (v := (-1)) hx hb hr (fun t1 ht hW => ⟨⟨(-1), (σ, I, J, ri, rj, rq), rfl, ⟨I, rfl, hG, (hF0.symm.trans hF), hFr, (rg_w (rg_k (-1 : Int32) (-1) rfl) (by decide +kernel))⟩, by rw [ht]; exact hP, va_K.moved hW.alike hK, hD⟩, hS.F ht⟩) hS.2.2 dX11_ring_17
  exact go _ _ _ hP hD hS hl

set_option maxRecDepth 100000 in
def g_X11_between_K14 : Int32 := (0 : Int32)
set_option maxRecDepth 100000 in
theorem g_X11_between_K14_e : g_X11_between_K14   = (0 : Int32) := rfl
set_option maxRecDepth 100000 in
def g_X11_between (a0 : Int32) (a1 : Int32) (a2 : Int32) : Int32 := (if a0 < a1 then (g_X11_between_K14  ) else (if a2 < a0 then (g_X11_between_K14  ) else (1 : Int32)))
set_option maxRecDepth 100000 in
theorem g_X11_between_e {a0 : Int32} {a1 : Int32} {a2 : Int32} : g_X11_between a0 a1 a2 = (if a0 < a1 then (g_X11_between_K14  ) else (if a2 < a0 then (g_X11_between_K14  ) else (1 : Int32))) := rfl
set_option maxHeartbeats 4000000 in
set_option maxRecDepth 100000 in
theorem s_X11_between (l : Launch) (D : va_G) (t : pq_T) (σ : pq_S) (I : Nat → Nat → Int32) (J : Nat → Nat → Int64) (ri : Nat → Nat → Int32) (rj : Nat → Nat → Int64) (rq : Nat → Nat → Option Nat) (sz : Nat) (tg : Nat → Nat) (hSH : SH σ tg) (hG0 : GS tg σ I ri rq) (a0 : Int32) (a1 : Int32) (a2 : Int32) : MetI l yX11_between (wa yX11_between cX11_between 3 (some .boolean)) ({ frames := 0, cells := 0, slots := 0, locals := 0 }) [.int a0, .int a1, .int a2] D t σ (I, J, ri, rj, rq) sz 0 0 (fun (r : Int32) (u : pq_S × pq_M) => u = (σ, I, J, ri, rj, rq) ∧ g_X11_between a0 a1 a2 = r ∧ ((r = 1 ∧ a1 ≤ a0 ∧ a0 ≤ a2) ∨ (r = 0 ∧ True))) := by
  refine Met.ofW (cc := cX11_between) (maxL := 3) (ret := (some .boolean)) (by decide +kernel) rfl ?_
  intro p e s m args below meth c s₁ B hml hv
  obtain ⟨rfl, hsz, hP, hK, hD0, hN⟩ := hv
  have hx := B.exec
  have hb := B.bytes
  have hr := B.returns
  have hts := atoms_spec (ws := (wa yX11_between cX11_between 3 (some .boolean))) B.pre
  have hown : s.vm.findClass RX11 = some m.cls := findClass_of_methodNamed B.named
  have hlocks := B.notSynchronized
  subst hsz
  have hD : va_D (pq_B t σ (I, J, ri, rj, rq) s.heap.size) (pq_P t σ (I, J, ri, rj, rq)) := hD0.self
  generalize hAe : pq_B t σ (I, J, ri, rj, rq) s.heap.size = A at hD ⊢
  have hA : ∀ q : Nat, s.heap.size ≤ q → A q := fun q h => by rw [← hAe]; exact Or.inr h
  have hS : va_S A s.heap s.heap [] := va_S.rf
  have hG : GX [] tg σ I ri rj I ri rj rq := ⟨hG0, fun _ _ _ => rfl, fun _ _ _ _ _ => rfl, fun _ _ _ _ _ => rfl⟩
  have hl := lv_entry ([.int a0, .int a1, .int a2]) (n := 3) (Nat.le_of_ble_eq_true rfl)
  rw [lg_entry_eq]
  generalize (lg_sl ([.int a0, .int a1, .int a2]) ++ List.replicate (3 - (lg_sl ([.int a0, .int a1, .int a2])).length) Slot.unset).toArray = ls at hl ⊢
  have hl : lv_has ls 3 [(0, .int a0), (1, .int a1), (2, .int a2)] := hl
  refine q_gen (fun Q hQ => ?_)
  have go : ∀ (H : Heap) (locs : List Loc) (ls : Array Slot), va_P D vwCl (pq_P t σ (I, J, ri, rj, rq)) H → va_D A (pq_P t σ (I, J, ri, rj, rq)) → va_S A s.heap H locs → lv_has ls 3 [(0, .int a0), (1, .int a1), (2, .int a2)] → W p l e ({ frames := 0, cells := 0, slots := 0, locals := 0 } : Room) s m (List.toArray ([.int a0, .int a1, .int a2] : List Value)) below meth c H locs 0 0 Q (F0 m 0 ls []) := by
    intro H locs ls hP hD hS hl
    obtain ⟨F, hF0⟩ : ∃ F, F = g_X11_between a0 a1 a2 := ⟨_, rfl⟩
    have hF := hF0.trans g_X11_between_e
    refine lv_iload_n hx hb dX11_between_0 rfl (lv_at hl 0 rfl) ?_
    refine lv_iload_n hx hb dX11_between_1 rfl (lv_at hl 1 rfl) ?_
    have K_7 : ∀  (H : Heap) (locs : List Loc) (ls : Array Slot), F = g_X11_between_K14   → GX [] tg σ I ri rj I ri rj rq → va_P D vwCl (pq_P t σ (I, J, ri, rj, rq)) H → va_D A (pq_P t σ (I, J, ri, rj, rq)) → va_S A s.heap H locs → lv_has ls 3 [] → W p l e ({ frames := 0, cells := 0, slots := 0, locals := 0 } : Room) s m (List.toArray ([.int a0, .int a1, .int a2] : List Value)) below meth c H locs 0 0 Q (F0 m 14 ls []) := by
      intro H locs ls hF hG hP hD hS hl
      replace hF := hF.trans g_X11_between_K14_e
      refine lv_iconst (v := 0) hx hb dX11_between_14 (by decide +kernel) ?_
      subst hQ
      exact W.zret (v := 0) hx hb hr (by decide +kernel) (fun t1 ht hW => ⟨⟨0, (σ, I, J, ri, rj, rq), rfl, ⟨rfl, (hF0.symm.trans hF), (Or.inr ⟨rfl, trivial⟩)⟩, by rw [ht]; exact hP, va_K.moved hW.alike hK, hD⟩, hS.F ht⟩) hS.2.2 dX11_between_15
    refine lv_icmp_lt (tgt := 14) hx hb dX11_between_2 (by decide +kernel) (fun c_8 => ?_) (fun c_8 => ?_)
    · replace hF := hF.trans (if_pos c_8)
      have h_11 : rg a0 (-2147483648) 2147483646 := rg_lt1 c_8 (rg_full _) (rg_full _) (by decide +kernel)
      have h_12 : rg a1 (-2147483647) 2147483647 := rg_lt2 c_8 (rg_full _) (rg_full _) (by decide +kernel)
      exact K_7 _ _ _ hF hG hP hD hS (lv_sub hl [] rfl)
    · replace hF := hF.trans (if_neg c_8)
      refine lv_iload_n hx hb dX11_between_5 rfl (lv_at hl 0 rfl) ?_
      refine lv_iload_n hx hb dX11_between_6 rfl (lv_at hl 2 rfl) ?_
      refine lv_icmp_gt (tgt := 14) hx hb dX11_between_7 (by decide +kernel) (fun c_13 => ?_) (fun c_13 => ?_)
      · replace hF := hF.trans (if_pos c_13)
        have h_16 : rg a2 (-2147483648) 2147483646 := rg_lt1 c_13 (rg_full _) (rg_full _) (by decide +kernel)
        have h_17 : rg a0 (-2147483647) 2147483647 := rg_lt2 c_13 (rg_full _) (rg_full _) (by decide +kernel)
        exact K_7 _ _ _ hF hG hP hD hS (lv_sub hl [] rfl)
      · replace hF := hF.trans (if_neg c_13)
        refine lv_iconst (v := 1) hx hb dX11_between_10 (by decide +kernel) ?_
        refine lv_goto (tgt := 15) hx hb dX11_between_11 (by decide +kernel) ?_
        subst hQ
        exact W.zret (v := 1) hx hb hr (by decide +kernel) (fun t1 ht hW => ⟨⟨1, (σ, I, J, ri, rj, rq), rfl, ⟨rfl, (hF0.symm.trans hF), (Or.inl ⟨rfl, (nlt c_8), (nlt c_13)⟩)⟩, by rw [ht]; exact hP, va_K.moved hW.alike hK, hD⟩, hS.F ht⟩) hS.2.2 dX11_between_15
  exact go _ _ _ hP hD hS hl

set_option maxRecDepth 100000 in
def g_X11_isRing (a0 : Int32) (I : Nat → Int32) (J : Nat → Int64) (ri : Nat → Nat → Int32) (rj : Nat → Nat → Int64) (rq : Nat → Nat → Option Nat) : Int32 × vM := (ap1 (I 64) fun (y_3 : Int32) => (ap1 ((y_3) - (1 : Int32)) fun (x_4 : Int32) => (ap1 (g_X11_between a0 (0 : Int32) x_4) fun (x_6 : Int32) => (x_6, I, J, ri, rj, rq))))
set_option maxRecDepth 100000 in
theorem g_X11_isRing_e {a0 : Int32} {I : Nat → Int32} {J : Nat → Int64} {ri : Nat → Nat → Int32} {rj : Nat → Nat → Int64} {rq : Nat → Nat → Option Nat} : g_X11_isRing a0 I J ri rj rq = (ap1 (I 64) fun (y_3 : Int32) => (ap1 ((y_3) - (1 : Int32)) fun (x_4 : Int32) => (ap1 (g_X11_between a0 (0 : Int32) x_4) fun (x_6 : Int32) => (x_6, I, J, ri, rj, rq)))) := rfl
set_option maxHeartbeats 4000000 in
set_option maxRecDepth 100000 in
theorem s_X11_isRing (l : Launch) (D : va_G) (t : pq_T) (σ : pq_S) (I : Nat → Nat → Int32) (J : Nat → Nat → Int64) (ri : Nat → Nat → Int32) (rj : Nat → Nat → Int64) (rq : Nat → Nat → Option Nat) (sz : Nat) (tg : Nat → Nat) (hSH : SH σ tg) (hG0 : GS tg σ I ri rq) (this : Nat) (a0 : Int32) (hL_this : this ∈ σ.1) (hK_this : σ.2.1 this = 11) (this_now : Nat) (hR_this_now : σ.2.2.1 352 this = some this_now) (hL_this_now : this_now ∈ σ.1) (hK_this_now : σ.2.1 this_now = 10) : MetI l yX11_isRing (wa yX11_isRing cX11_isRing 2 (some .boolean)) ({ frames := 1, cells := 0, slots := 0, locals := 22 }) [.ref this, .int a0] D t σ (I, J, ri, rj, rq) sz 0 0 (fun (r : Int32) (u : pq_S × pq_M) => u = (σ, I, J, ri, rj, rq) ∧ g_X11_isRing a0 (vI 10 σ this_now I) (vJ 10 σ this_now J) (vR 10 σ this_now ri) (vL 10 σ this_now rj) (vQ 10 σ this_now rq) = (r, (vI 10 σ this_now I), (vJ 10 σ this_now J), (vR 10 σ this_now ri), (vL 10 σ this_now rj), (vQ 10 σ this_now rq)) ∧ ((r = 1 ∧ rg a0 0 4) ∨ (r = 0 ∧ True))) := by
  refine Met.ofW (cc := cX11_isRing) (maxL := 2) (ret := (some .boolean)) (by decide +kernel) rfl ?_
  intro p e s m args below meth c s₁ B hml hv
  obtain ⟨rfl, hsz, hP, hK, hD0, hN⟩ := hv
  have hx := B.exec
  have hb := B.bytes
  have hr := B.returns
  have hts := atoms_spec (ws := (wa yX11_isRing cX11_isRing 2 (some .boolean))) B.pre
  have hown : s.vm.findClass RX11 = some m.cls := findClass_of_methodNamed B.named
  have hlocks := B.notSynchronized
  subst hsz
  have hD : va_D (pq_B t σ (I, J, ri, rj, rq) s.heap.size) (pq_P t σ (I, J, ri, rj, rq)) := hD0.self
  generalize hAe : pq_B t σ (I, J, ri, rj, rq) s.heap.size = A at hD ⊢
  have hA : ∀ q : Nat, s.heap.size ≤ q → A q := fun q h => by rw [← hAe]; exact Or.inr h
  have hS : va_S A s.heap s.heap [] := va_S.rf
  have hG : GX [] tg σ I ri rj I ri rj rq := ⟨hG0, fun _ _ _ => rfl, fun _ _ _ _ _ => rfl, fun _ _ _ _ _ => rfl⟩
  have hl := lv_entry ([.ref this, .int a0]) (n := 2) (Nat.le_of_ble_eq_true rfl)
  rw [lg_entry_eq]
  generalize (lg_sl ([.ref this, .int a0]) ++ List.replicate (2 - (lg_sl ([.ref this, .int a0])).length) Slot.unset).toArray = ls at hl ⊢
  have hl : lv_has ls 2 [(0, .ref this), (1, .int a0)] := hl
  refine q_gen (fun Q hQ => ?_)
  have go : ∀ (H : Heap) (locs : List Loc) (ls : Array Slot), va_P D vwCl (pq_P t σ (I, J, ri, rj, rq)) H → va_D A (pq_P t σ (I, J, ri, rj, rq)) → va_S A s.heap H locs → lv_has ls 2 [(0, .ref this), (1, .int a0)] → W p l e ({ frames := 1, cells := 0, slots := 0, locals := 22 } : Room) s m (List.toArray ([.ref this, .int a0] : List Value)) below meth c H locs 0 0 Q (F0 m 0 ls []) := by
    intro H locs ls hP hD hS hl
    have hVT : VT 10 σ tg this_now := vt_10 hSH hL_this_now hK_this_now
    have hFr : FR 10 tg σ this_now (I, J, ri, rj, rq) (I, J, ri, rj, rq) := fr_rf
    have hO_this_now : this_now = vo σ 10 this_now := rfl
    obtain ⟨F, hF0⟩ : ∃ F, F = g_X11_isRing a0 (vI 10 σ this_now I) (vJ 10 σ this_now J) (vR 10 σ this_now ri) (vL 10 σ this_now rj) (vQ 10 σ this_now rq) := ⟨_, rfl⟩
    have hF := hF0.trans g_X11_isRing_e
    refine lv_iload_n hx hb dX11_isRing_0 rfl (lv_at hl 1 rfl) ?_
    refine lv_iconst (v := 0) hx hb dX11_isRing_1 (by decide +kernel) ?_
    refine lv_aload_n hx hb dX11_isRing_2 rfl (lv_at hl 0 rfl) ?_
    refine pg_f (v := .ref this_now) (C := RX11) (T := TX11) (N := 5) hx hb hts (tw_i inlX11) hown hK hP hL_this hK_this (by decide +kernel) rfl 0 (by decide +kernel) (hts _ (tw_c tw_16)) (pq_hv rfl hR_this_now) dX11_isRing_3 ?_
    obtain ⟨w_1, hR_w_1, hL_w_1, hK_w_1⟩ := sh_o hSH 327 (ci := 10) (kd := 2) rfl hL_this_now hK_this_now
    have hO_w_1 : w_1 = vo σ 2 this_now := vo_k (c := 10) hO_this_now hR_w_1
    refine pg_f (v := .ref w_1) (C := RX10) (T := TX10) (N := 13) hx hb hts (tw_i inlX10) hown hK hP hL_this_now hK_this_now (by decide +kernel) rfl 7 (by decide +kernel) (hts _ (tw_c tw_199)) (pq_hv rfl hR_w_1) dX11_isRing_6 ?_
    refine pg_f (v := .int (I 64 w_1)) (C := RX2) (T := TX2) (N := 20) hx hb hts (tw_i inlX2) hown hK hP hL_w_1 hK_w_1 (by decide +kernel) rfl 0 (by decide +kernel) (hts _ (tw_c tw_200)) rfl dX11_isRing_9 ?_
    have h_2 : rg (I 64 w_1) 0 5 := GX.rI hG 64 rfl
    replace hF := hF.trans (ap_n (vI_e (f := 64) hO_w_1 (by decide +kernel)))
    refine lv_iconst (v := 1) hx hb dX11_isRing_12 (by decide +kernel) ?_
    refine lv_isub hx hb dX11_isRing_13 ?_
    refine lv_topi (fun x_4 ex_4 => ?_)
    replace hF := hF.trans (ap_n ex_4)
    have h_5 : rg x_4 (-1) 4 := rg_of_eq ex_4 (rg_sub h_2 (rg_k (1 : Int32) 1 rfl) (by decide +kernel))
    refine pk_i (va_runS (As := [.int a0, .int 0, .int x_4]) (rest := []) ⟨hx, hb, hml, hown, hts⟩ (s_X11_between l D t σ I J ri rj rq H.size tg hSH hG.1 a0 (0 : Int32) x_4) (va_cwS 3 hts (tw_S tw_215 tw_216 tw_2 tw_217) rfl rfl rfl cd_yX11_between_3 ⟨Nat.le_of_ble_eq_true rfl, Nat.le_of_ble_eq_true rfl⟩) ⟨pq_blind, pq_pre hK hN hP hD⟩ rfl rfl hl.1 rfl (lv_room (Nat.le_of_ble_eq_true rfl)) dX11_isRing_14 ⟨Nat.le_of_ble_eq_true rfl, Nat.le_of_ble_eq_true rfl⟩) hD hS hA (fun x_6 σ1 μ1 H locs hw_7 hP hD hS => ?_)
    obtain ⟨hu_8, hfn_11, hr_10⟩ := hw_7
    obtain ⟨hu_8a, hu_8b⟩ := Prod.mk.inj hu_8
    rw [hu_8a, hu_8b] at hP hD
    replace hF := hF.trans (ap_n hfn_11.symm)
    have h_13 : rg x_6 0 1 := by rcases hr_10 with ⟨q, -⟩ | ⟨q, -⟩ <;> rw [q] <;> exact ⟨by decide +kernel, by decide +kernel⟩
    rcases hr_10 with ⟨e_17, f_14, f_15⟩ | ⟨e_17, f_16⟩
    · refine lv_tov 1 e_17 ?_
      have h_18 : rg a0 0 2147483647 := rg_le2 f_14 (rg_k (0 : Int32) 0 rfl) (rg_full _) (by decide +kernel)
      have h_19 : rg a0 0 4 := rg_le1 f_15 h_18 h_5 (by decide +kernel)
      have h_20 : rg x_4 0 4 := rg_le2 f_15 h_18 h_5 (by decide +kernel)
      subst hQ
      exact W.zret (v := 1) hx hb hr (by decide +kernel) (fun t1 ht hW => ⟨⟨1, (σ, I, J, ri, rj, rq), rfl, ⟨rfl, (hF0.symm.trans (hF.trans (by rw [e_17]))), (Or.inl ⟨rfl, (rg_w h_19 (by decide +kernel))⟩)⟩, by rw [ht]; exact hP, va_K.moved hW.alike hK, hD⟩, hS.F ht⟩) hS.2.2 dX11_isRing_17
    · refine lv_tov 0 e_17 ?_
      subst hQ
      exact W.zret (v := 0) hx hb hr (by decide +kernel) (fun t1 ht hW => ⟨⟨0, (σ, I, J, ri, rj, rq), rfl, ⟨rfl, (hF0.symm.trans (hF.trans (by rw [e_17]))), (Or.inr ⟨rfl, trivial⟩)⟩, by rw [ht]; exact hP, va_K.moved hW.alike hK, hD⟩, hS.F ht⟩) hS.2.2 dX11_isRing_17
  exact go _ _ _ hP hD hS hl

set_option maxRecDepth 100000 in
def g_X11_cell_K103 (I : Nat → Int32) (J : Nat → Int64) (ri : Nat → Nat → Int32) (rj : Nat → Nat → Int64) (rq : Nat → Nat → Option Nat) : Int32 × vM := ((-1 : Int32), I, J, ri, rj, rq)
set_option maxRecDepth 100000 in
theorem g_X11_cell_K103_e {I : Nat → Int32} {J : Nat → Int64} {ri : Nat → Nat → Int32} {rj : Nat → Nat → Int64} {rq : Nat → Nat → Option Nat} : g_X11_cell_K103 I J ri rj rq  = ((-1 : Int32), I, J, ri, rj, rq) := rfl
set_option maxRecDepth 100000 in
def g_X11_cell_K71 (a0 : Int32) (a1 : Int32) (a2 : Int32) (a3 : Int32) (a4 : Int32) (a5 : Int32) (I : Nat → Int32) (J : Nat → Int64) (ri : Nat → Nat → Int32) (rj : Nat → Nat → Int64) (rq : Nat → Nat → Option Nat) : Int32 × vM := (ap1 (I 320) fun (y_166 : Int32) => (if (0 : Int32) < (y_166) then (g_X11_cell_K103 I J ri rj rq ) else (ap1 (I 65) fun (y_174 : Int32) => (if (y_174) < (40 : Int32) then (bnI (g_X2_addCell a0 a1 a2 a3 a4 a5 I J ri rj rq) fun (x_179 : Int32) (I_181 : Nat → Int32) (_ : Nat → Int64) (ri_182 : Nat → Nat → Int32) (_ : Nat → Nat → Int64) (_ : Nat → Nat → Option Nat) => (x_179, I_181, J, ri_182, rj, rq)) else (g_X11_cell_K103 I J ri rj rq )))))
set_option maxRecDepth 100000 in
theorem g_X11_cell_K71_e {a0 : Int32} {a1 : Int32} {a2 : Int32} {a3 : Int32} {a4 : Int32} {a5 : Int32} {I : Nat → Int32} {J : Nat → Int64} {ri : Nat → Nat → Int32} {rj : Nat → Nat → Int64} {rq : Nat → Nat → Option Nat} : g_X11_cell_K71 a0 a1 a2 a3 a4 a5 I J ri rj rq  = (ap1 (I 320) fun (y_166 : Int32) => (if (0 : Int32) < (y_166) then (g_X11_cell_K103 I J ri rj rq ) else (ap1 (I 65) fun (y_174 : Int32) => (if (y_174) < (40 : Int32) then (bnI (g_X2_addCell a0 a1 a2 a3 a4 a5 I J ri rj rq) fun (x_179 : Int32) (I_181 : Nat → Int32) (_ : Nat → Int64) (ri_182 : Nat → Nat → Int32) (_ : Nat → Nat → Int64) (_ : Nat → Nat → Option Nat) => (x_179, I_181, J, ri_182, rj, rq)) else (g_X11_cell_K103 I J ri rj rq ))))) := rfl
set_option maxRecDepth 100000 in
def g_X11_cell_K103_2 (I : Nat → Int32) (J : Nat → Int64) (ri : Nat → Nat → Int32) (rj : Nat → Nat → Int64) (rq : Nat → Nat → Option Nat) : Int32 × vM := ((-1 : Int32), I, J, ri, rj, rq)
set_option maxRecDepth 100000 in
theorem g_X11_cell_K103_2_e {I : Nat → Int32} {J : Nat → Int64} {ri : Nat → Nat → Int32} {rj : Nat → Nat → Int64} {rq : Nat → Nat → Option Nat} : g_X11_cell_K103_2 I J ri rj rq  = ((-1 : Int32), I, J, ri, rj, rq) := rfl
set_option maxRecDepth 100000 in
def g_X11_cell_K71_2 (I : Nat → Int32) (J : Nat → Int64) (ri : Nat → Nat → Int32) (rj : Nat → Nat → Int64) (rq : Nat → Nat → Option Nat) : Int32 × vM := (g_X11_cell_K103_2 I J ri rj rq )
set_option maxRecDepth 100000 in
theorem g_X11_cell_K71_2_e {I : Nat → Int32} {J : Nat → Int64} {ri : Nat → Nat → Int32} {rj : Nat → Nat → Int64} {rq : Nat → Nat → Option Nat} : g_X11_cell_K71_2 I J ri rj rq  = (g_X11_cell_K103_2 I J ri rj rq ) := rfl
set_option maxRecDepth 100000 in
def g_X11_cell_K70 (I : Nat → Int32) (J : Nat → Int64) (ri : Nat → Nat → Int32) (rj : Nat → Nat → Int64) (rq : Nat → Nat → Option Nat) : Int32 × vM := (g_X11_cell_K71_2 I J ri rj rq )
set_option maxRecDepth 100000 in
theorem g_X11_cell_K70_e {I : Nat → Int32} {J : Nat → Int64} {ri : Nat → Nat → Int32} {rj : Nat → Nat → Int64} {rq : Nat → Nat → Option Nat} : g_X11_cell_K70 I J ri rj rq  = (g_X11_cell_K71_2 I J ri rj rq ) := rfl
set_option maxRecDepth 100000 in
def g_X11_cell (a0 : Int32) (a1 : Int32) (a2 : Int32) (a3 : Int32) (a4 : Int32) (a5 : Int32) (I : Nat → Int32) (J : Nat → Int64) (ri : Nat → Nat → Int32) (rj : Nat → Nat → Int64) (rq : Nat → Nat → Option Nat) : Int32 × vM := (bnI (g_X11_isRing a0 I J ri rj rq) fun (x_1 : Int32) (_ : Nat → Int32) (_ : Nat → Int64) (_ : Nat → Nat → Int32) (_ : Nat → Nat → Int64) (_ : Nat → Nat → Option Nat) => (if x_1 = (0 : Int32) then (g_X11_cell_K70 I J ri rj rq ) else (ap1 (g_X11_between a1 (-500 : Int32) (3000 : Int32)) fun (x_203 : Int32) => (if x_203 = (0 : Int32) then (g_X11_cell_K70 I J ri rj rq ) else (ap1 (g_X11_between a2 (0 : Int32) (31 : Int32)) fun (x_226 : Int32) => (if x_226 = (0 : Int32) then (g_X11_cell_K70 I J ri rj rq ) else (ap1 (g_X11_between a3 (0 : Int32) (31 : Int32)) fun (x_249 : Int32) => (if x_249 = (0 : Int32) then (g_X11_cell_K70 I J ri rj rq ) else (ap1 (g_X11_between a4 (0 : Int32) (500 : Int32)) fun (x_272 : Int32) => (if x_272 = (0 : Int32) then (g_X11_cell_K70 I J ri rj rq ) else (ap1 (g_X11_between a5 (0 : Int32) (400 : Int32)) fun (x_295 : Int32) => (if x_295 = (0 : Int32) then (g_X11_cell_K70 I J ri rj rq ) else (g_X11_cell_K71 a0 a1 a2 a3 a4 a5 I J ri rj rq )))))))))))))
set_option maxRecDepth 100000 in
theorem g_X11_cell_e {a0 : Int32} {a1 : Int32} {a2 : Int32} {a3 : Int32} {a4 : Int32} {a5 : Int32} {I : Nat → Int32} {J : Nat → Int64} {ri : Nat → Nat → Int32} {rj : Nat → Nat → Int64} {rq : Nat → Nat → Option Nat} : g_X11_cell a0 a1 a2 a3 a4 a5 I J ri rj rq = (bnI (g_X11_isRing a0 I J ri rj rq) fun (x_1 : Int32) (_ : Nat → Int32) (_ : Nat → Int64) (_ : Nat → Nat → Int32) (_ : Nat → Nat → Int64) (_ : Nat → Nat → Option Nat) => (if x_1 = (0 : Int32) then (g_X11_cell_K70 I J ri rj rq ) else (ap1 (g_X11_between a1 (-500 : Int32) (3000 : Int32)) fun (x_203 : Int32) => (if x_203 = (0 : Int32) then (g_X11_cell_K70 I J ri rj rq ) else (ap1 (g_X11_between a2 (0 : Int32) (31 : Int32)) fun (x_226 : Int32) => (if x_226 = (0 : Int32) then (g_X11_cell_K70 I J ri rj rq ) else (ap1 (g_X11_between a3 (0 : Int32) (31 : Int32)) fun (x_249 : Int32) => (if x_249 = (0 : Int32) then (g_X11_cell_K70 I J ri rj rq ) else (ap1 (g_X11_between a4 (0 : Int32) (500 : Int32)) fun (x_272 : Int32) => (if x_272 = (0 : Int32) then (g_X11_cell_K70 I J ri rj rq ) else (ap1 (g_X11_between a5 (0 : Int32) (400 : Int32)) fun (x_295 : Int32) => (if x_295 = (0 : Int32) then (g_X11_cell_K70 I J ri rj rq ) else (g_X11_cell_K71 a0 a1 a2 a3 a4 a5 I J ri rj rq ))))))))))))) := rfl
set_option maxHeartbeats 4000000 in
set_option maxRecDepth 100000 in
theorem s_X11_cell (l : Launch) (D : va_G) (t : pq_T) (σ : pq_S) (I : Nat → Nat → Int32) (J : Nat → Nat → Int64) (ri : Nat → Nat → Int32) (rj : Nat → Nat → Int64) (rq : Nat → Nat → Option Nat) (sz : Nat) (tg : Nat → Nat) (hSH : SH σ tg) (hG0 : GS tg σ I ri rq) (this : Nat) (a0 : Int32) (a1 : Int32) (a2 : Int32) (a3 : Int32) (a4 : Int32) (a5 : Int32) (hL_this : this ∈ σ.1) (hK_this : σ.2.1 this = 11) (this_now : Nat) (hR_this_now : σ.2.2.1 352 this = some this_now) (hL_this_now : this_now ∈ σ.1) (hK_this_now : σ.2.1 this_now = 10) : MetI l yX11_cell (wa yX11_cell cX11_cell 8 (some .int)) ({ frames := 2, cells := 0, slots := 0, locals := 51 }) [.ref this, .int a0, .int a1, .int a2, .int a3, .int a4, .int a5] D t σ (I, J, ri, rj, rq) sz 0 0 (fun (r : Int32) (u : pq_S × pq_M) => ∃ I' : Nat → Nat → Int32, ∃ ri' : Nat → Nat → Int32, u = (σ, I', J, ri', rj, rq) ∧ GX [1069, 1070, 1073, 1074, 1079, 65] tg σ I ri rj I' ri' rj rq ∧ g_X11_cell a0 a1 a2 a3 a4 a5 (vI 10 σ this_now I) (vJ 10 σ this_now J) (vR 10 σ this_now ri) (vL 10 σ this_now rj) (vQ 10 σ this_now rq) = (r, (vI 10 σ this_now I'), (vJ 10 σ this_now J), (vR 10 σ this_now ri'), (vL 10 σ this_now rj), (vQ 10 σ this_now rq)) ∧ FR 10 tg σ this_now (I, J, ri, rj, rq) (I', J, ri', rj, rq) ∧ rg r (-1) 39) := by
  refine Met.ofW (cc := cX11_cell) (maxL := 8) (ret := (some .int)) (by decide +kernel) rfl ?_
  intro p e s m args below meth c s₁ B hml hv
  obtain ⟨rfl, hsz, hP, hK, hD0, hN⟩ := hv
  have hx := B.exec
  have hb := B.bytes
  have hr := B.returns
  have hts := atoms_spec (ws := (wa yX11_cell cX11_cell 8 (some .int))) B.pre
  have hown : s.vm.findClass RX11 = some m.cls := findClass_of_methodNamed B.named
  have hlocks := B.notSynchronized
  subst hsz
  have hD : va_D (pq_B t σ (I, J, ri, rj, rq) s.heap.size) (pq_P t σ (I, J, ri, rj, rq)) := hD0.self
  generalize hAe : pq_B t σ (I, J, ri, rj, rq) s.heap.size = A at hD ⊢
  have hA : ∀ q : Nat, s.heap.size ≤ q → A q := fun q h => by rw [← hAe]; exact Or.inr h
  have hS : va_S A s.heap s.heap [] := va_S.rf
  have hG : GX [1069, 1070, 1073, 1074, 1079, 65] tg σ I ri rj I ri rj rq := ⟨hG0, fun _ _ _ => rfl, fun _ _ _ _ _ => rfl, fun _ _ _ _ _ => rfl⟩
  have hl := lv_entry ([.ref this, .int a0, .int a1, .int a2, .int a3, .int a4, .int a5]) (n := 8) (Nat.le_of_ble_eq_true rfl)
  rw [lg_entry_eq]
  generalize (lg_sl ([.ref this, .int a0, .int a1, .int a2, .int a3, .int a4, .int a5]) ++ List.replicate (8 - (lg_sl ([.ref this, .int a0, .int a1, .int a2, .int a3, .int a4, .int a5])).length) Slot.unset).toArray = ls at hl ⊢
  have hl : lv_has ls 8 [(0, .ref this), (1, .int a0), (2, .int a1), (3, .int a2), (4, .int a3), (5, .int a4), (6, .int a5)] := hl
  refine q_gen (fun Q hQ => ?_)
  have go : ∀ (H : Heap) (locs : List Loc) (ls : Array Slot), va_P D vwCl (pq_P t σ (I, J, ri, rj, rq)) H → va_D A (pq_P t σ (I, J, ri, rj, rq)) → va_S A s.heap H locs → lv_has ls 8 [(0, .ref this), (1, .int a0), (2, .int a1), (3, .int a2), (4, .int a3), (5, .int a4), (6, .int a5)] → W p l e ({ frames := 2, cells := 0, slots := 0, locals := 51 } : Room) s m (List.toArray ([.ref this, .int a0, .int a1, .int a2, .int a3, .int a4, .int a5] : List Value)) below meth c H locs 0 0 Q (F0 m 0 ls []) := by
    intro H locs ls hP hD hS hl
    have hVT : VT 10 σ tg this_now := vt_10 hSH hL_this_now hK_this_now
    have hFr : FR 10 tg σ this_now (I, J, ri, rj, rq) (I, J, ri, rj, rq) := fr_rf
    have hO_this_now : this_now = vo σ 10 this_now := rfl
    obtain ⟨F, hF0⟩ : ∃ F, F = g_X11_cell a0 a1 a2 a3 a4 a5 (vI 10 σ this_now I) (vJ 10 σ this_now J) (vR 10 σ this_now ri) (vL 10 σ this_now rj) (vQ 10 σ this_now rq) := ⟨_, rfl⟩
    have hF := hF0.trans g_X11_cell_e
    refine lv_aload_n hx hb dX11_cell_0 rfl (lv_at hl 0 rfl) ?_
    refine lv_iload_n hx hb dX11_cell_1 rfl (lv_at hl 1 rfl) ?_
    refine pk_i (va_runV (As := [.int a0]) (rest := []) ⟨hx, hb, hml, hown, hts⟩ (s_X11_isRing l D t σ I J ri rj rq H.size tg hSH hG.1 this a0 hL_this hK_this this_now hR_this_now hL_this_now hK_this_now) (cwV 1 hts (tw_V tw_211 tw_212 tw_213 tw_2 tw_214) rfl rfl rfl cv_yX11_isRing_1 ⟨Nat.le_of_ble_eq_true rfl, Nat.le_of_ble_eq_true rfl⟩) ⟨pq_blind, pq_recv hK hP hL_this hK_this (by decide +kernel) rfl, pq_pre hK hN hP hD⟩ rfl rfl hl.1 rfl (lv_room (Nat.le_of_ble_eq_true rfl)) dX11_cell_2 ⟨Nat.le_of_ble_eq_true rfl, Nat.le_of_ble_eq_true rfl⟩) hD hS hA (fun x_1 σ1 μ1 H locs hw_2 hP hD hS => ?_)
    obtain ⟨hu_3, hfn_6, hr_5⟩ := hw_2
    obtain ⟨hu_3a, hu_3b⟩ := Prod.mk.inj hu_3
    rw [hu_3a, hu_3b] at hP hD
    replace hF := hF.trans (bn_n hfn_6)
    have h_8 : rg x_1 0 1 := by rcases hr_5 with ⟨q, -⟩ | ⟨q, -⟩ <;> rw [q] <;> exact ⟨by decide +kernel, by decide +kernel⟩
    have K_124 : ∀  (H : Heap) (locs : List Loc) (ls : Array Slot), rg (a0) 0 4 → rg (a1) (-500) 3000 → rg (a2) 0 31 → rg (a3) 0 31 → rg (a4) 0 500 → rg (a5) 0 400 → rg (x_1) 1 1 → F = g_X11_cell_K71 a0 a1 a2 a3 a4 a5 (vI 10 σ this_now I) (vJ 10 σ this_now J) (vR 10 σ this_now ri) (vL 10 σ this_now rj) (vQ 10 σ this_now rq)  → FR 10 tg σ this_now (I, J, ri, rj, rq) (I, J, ri, rj, rq) → GX [1069, 1070, 1073, 1074, 1079, 65] tg σ I ri rj I ri rj rq → va_P D vwCl (pq_P t σ (I, J, ri, rj, rq)) H → va_D A (pq_P t σ (I, J, ri, rj, rq)) → va_S A s.heap H locs → lv_has ls 8 [(0, .ref this), (1, .int a0), (2, .int a1), (3, .int a2), (4, .int a3), (5, .int a4), (6, .int a5)] → W p l e ({ frames := 2, cells := 0, slots := 0, locals := 51 } : Room) s m (List.toArray ([.ref this, .int a0, .int a1, .int a2, .int a3, .int a4, .int a5] : List Value)) below meth c H locs 0 0 Q (F0 m 71 ls [.int 1]) := by
      intro H locs ls h_132 h_133 h_134 h_135 h_136 h_137 h_138 hF hFr hG hP hD hS hl
      replace hF := hF.trans g_X11_cell_K71_e
      refine lv_istore (lv' := [(7, .int 1), (0, .ref this), (1, .int a0), (2, .int a1), (3, .int a2), (4, .int a3), (5, .int a4), (6, .int a5)]) hx hb dX11_cell_71 hl (by decide +kernel) rfl (fun ls hl => ?_)
      refine lv_iload hx hb dX11_cell_73 (lv_at hl 0 rfl) ?_
      have K_161 : ∀  (H : Heap) (locs : List Loc) (ls : Array Slot), rg (I 320 this_now) 0 600 → F = g_X11_cell_K103 (vI 10 σ this_now I) (vJ 10 σ this_now J) (vR 10 σ this_now ri) (vL 10 σ this_now rj) (vQ 10 σ this_now rq)  → FR 10 tg σ this_now (I, J, ri, rj, rq) (I, J, ri, rj, rq) → GX [1069, 1070, 1073, 1074, 1079, 65] tg σ I ri rj I ri rj rq → va_P D vwCl (pq_P t σ (I, J, ri, rj, rq)) H → va_D A (pq_P t σ (I, J, ri, rj, rq)) → va_S A s.heap H locs → lv_has ls 8 [] → W p l e ({ frames := 2, cells := 0, slots := 0, locals := 51 } : Room) s m (List.toArray ([.ref this, .int a0, .int a1, .int a2, .int a3, .int a4, .int a5] : List Value)) below meth c H locs 0 0 Q (F0 m 103 ls []) := by
        intro H locs ls h_163 hF hFr hG hP hD hS hl
        replace hF := hF.trans g_X11_cell_K103_e
        refine lv_iconst (v := (-1)) hx hb dX11_cell_103 (by decide +kernel) ?_
        subst hQ
        exact W.iret (v := (-1)) hx hb hr (fun t1 ht hW => ⟨⟨(-1), (σ, I, J, ri, rj, rq), rfl, ⟨I, ri, rfl, hG, (hF0.symm.trans hF), hFr, (rg_w (rg_k (-1 : Int32) (-1) rfl) (by decide +kernel))⟩, by rw [ht]; exact hP, va_K.moved hW.alike hK, hD⟩, hS.F ht⟩) hS.2.2 dX11_cell_104
      refine lv_if_eq (tgt := 103) hx hb dX11_cell_75 (by decide +kernel) (fun c_164 => absurd c_164 (by decide +kernel)) (fun c_164 => ?_)
      refine lv_aload_n hx hb dX11_cell_78 rfl (lv_at hl 1 rfl) ?_
      refine pg_f (v := .ref this_now) (C := RX11) (T := TX11) (N := 5) hx hb hts (tw_i inlX11) hown hK hP hL_this hK_this (by decide +kernel) rfl 0 (by decide +kernel) (hts _ (tw_c tw_16)) (pq_hv rfl hR_this_now) dX11_cell_79 ?_
      refine pg_f (v := .int (I 320 this_now)) (C := RX10) (T := TX10) (N := 13) hx hb hts (tw_i inlX10) hown hK hP hL_this_now hK_this_now (by decide +kernel) rfl 0 (by decide +kernel) (hts _ (tw_c tw_209)) rfl dX11_cell_82 ?_
      have h_165 : rg (I 320 this_now) 0 600 := GX.rI hG 320 rfl
      replace hF := hF.trans (ap_n (vI_e (f := 320) hO_this_now (by decide +kernel)))
      refine lv_if_gt (tgt := 103) hx hb dX11_cell_85 (by decide +kernel) (fun c_167 => ?_) (fun c_167 => ?_)
      · replace hF := hF.trans (if_pos c_167)
        have h_170 : rg (I 320 this_now) 1 600 := rg_lt2 c_167 (rg_k (0 : Int32) 0 rfl) h_165 (by decide +kernel)
        exact K_161 _ _ _ (rg_w h_170 (by decide +kernel)) hF hFr hG hP hD hS (lv_sub hl [] rfl)
      · replace hF := hF.trans (if_neg c_167)
        have h_171 : rg (I 320 this_now) 0 0 := rg_le1 (nlt c_167) h_165 (rg_k (0 : Int32) 0 rfl) (by decide +kernel)
        refine lv_aload_n hx hb dX11_cell_88 rfl (lv_at hl 1 rfl) ?_
        refine pg_f (v := .ref this_now) (C := RX11) (T := TX11) (N := 5) hx hb hts (tw_i inlX11) hown hK hP hL_this hK_this (by decide +kernel) rfl 0 (by decide +kernel) (hts _ (tw_c tw_16)) (pq_hv rfl hR_this_now) dX11_cell_89 ?_
        obtain ⟨w_172, hR_w_172, hL_w_172, hK_w_172⟩ := sh_o hSH 327 (ci := 10) (kd := 2) rfl hL_this_now hK_this_now
        have hO_w_172 : w_172 = vo σ 2 this_now := vo_k (c := 10) hO_this_now hR_w_172
        refine pg_f (v := .ref w_172) (C := RX10) (T := TX10) (N := 13) hx hb hts (tw_i inlX10) hown hK hP hL_this_now hK_this_now (by decide +kernel) rfl 7 (by decide +kernel) (hts _ (tw_c tw_199)) (pq_hv rfl hR_w_172) dX11_cell_92 ?_
        refine pg_f (v := .int (I 65 w_172)) (C := RX2) (T := TX2) (N := 20) hx hb hts (tw_i inlX2) hown hK hP hL_w_172 hK_w_172 (by decide +kernel) rfl 1 (by decide +kernel) (hts _ (tw_c tw_210)) rfl dX11_cell_95 ?_
        have h_173 : rg (I 65 w_172) 0 40 := GX.rI hG 65 rfl
        replace hF := hF.trans (ap_n (vI_e (f := 65) hO_w_172 (by decide +kernel)))
        refine lv_bipush (v := 40) hx hb dX11_cell_98 (by decide +kernel) ?_
        refine lv_icmp_lt (tgt := 105) hx hb dX11_cell_100 (by decide +kernel) (fun c_175 => ?_) (fun c_175 => ?_)
        · replace hF := hF.trans (if_pos c_175)
          have h_178 : rg (I 65 w_172) 0 39 := rg_lt1 c_175 h_173 (rg_k (40 : Int32) 40 rfl) (by decide +kernel)
          refine lv_aload_n hx hb dX11_cell_105 rfl (lv_at hl 1 rfl) ?_
          refine pg_f (v := .ref this_now) (C := RX11) (T := TX11) (N := 5) hx hb hts (tw_i inlX11) hown hK hP hL_this hK_this (by decide +kernel) rfl 0 (by decide +kernel) (hts _ (tw_c tw_16)) (pq_hv rfl hR_this_now) dX11_cell_106 ?_
          refine pg_f (v := .ref w_172) (C := RX10) (T := TX10) (N := 13) hx hb hts (tw_i inlX10) hown hK hP hL_this_now hK_this_now (by decide +kernel) rfl 7 (by decide +kernel) (hts _ (tw_c tw_199)) (pq_hv rfl hR_w_172) dX11_cell_109 ?_
          refine lv_iload_n hx hb dX11_cell_112 rfl (lv_at hl 2 rfl) ?_
          refine lv_iload_n hx hb dX11_cell_113 rfl (lv_at hl 3 rfl) ?_
          refine lv_iload_n hx hb dX11_cell_114 rfl (lv_at hl 4 rfl) ?_
          refine lv_iload hx hb dX11_cell_115 (lv_at hl 5 rfl) ?_
          refine lv_iload hx hb dX11_cell_117 (lv_at hl 6 rfl) ?_
          refine lv_iload hx hb dX11_cell_119 (lv_at hl 7 rfl) ?_
          refine pk_i (va_runV (As := [.int a0, .int a1, .int a2, .int a3, .int a4, .int a5]) (rest := []) ⟨hx, hb, hml, hown, hts⟩ (s_X2_addCell l D t σ I J ri rj rq H.size tg hSH hG.1 w_172 a0 a1 a2 a3 a4 a5 hL_w_172 hK_w_172 (rg_w h_132 (by decide +kernel)) (rg_w h_134 (by decide +kernel)) (rg_w h_135 (by decide +kernel)) this_now hL_this_now hK_this_now hO_w_172) (cwV 6 hts (tw_V tw_218 tw_219 tw_220 tw_41 tw_221) rfl rfl rfl cv_yX2_addCell_6 ⟨Nat.le_of_ble_eq_true rfl, Nat.le_of_ble_eq_true rfl⟩) ⟨pq_blind, pq_recv hK hP hL_w_172 hK_w_172 (by decide +kernel) rfl, pq_pre hK hN hP hD⟩ rfl rfl hl.1 rfl (lv_room (Nat.le_of_ble_eq_true rfl)) dX11_cell_121 ⟨Nat.le_of_ble_eq_true rfl, Nat.le_of_ble_eq_true rfl⟩) hD hS hA (fun x_179 σ1 μ1 H locs hw_180 hP hD hS => ?_)
          obtain ⟨I_181, ri_182, hu_183, hg_184, hfn_186, hfr_187, hr_185⟩ := hw_180
          obtain ⟨hu_183a, hu_183b⟩ := Prod.mk.inj hu_183
          rw [hu_183a, hu_183b] at hP hD
          replace hF := hF.trans (bn_n hfn_186)
          replace hFr := fr_tr hFr hfr_187
          have hG := GX.tr hG hg_184 (by decide +kernel)
          subst hQ
          exact W.iret (v := x_179) hx hb hr (fun t1 ht hW => ⟨⟨x_179, (σ, I_181, J, ri_182, rj, rq), rfl, ⟨I_181, ri_182, rfl, hG, (hF0.symm.trans hF), hFr, (rg_w hr_185 (by decide +kernel))⟩, by rw [ht]; exact hP, va_K.moved hW.alike hK, hD⟩, hS.F ht⟩) hS.2.2 dX11_cell_124
        · replace hF := hF.trans (if_neg c_175)
          have h_188 : rg (I 65 w_172) 40 40 := rg_le2 (nlt c_175) (rg_k (40 : Int32) 40 rfl) h_173 (by decide +kernel)
          exact K_161 _ _ _ (rg_w h_171 (by decide +kernel)) hF hFr hG hP hD hS (lv_sub hl [] rfl)
    have K_189 : ∀  (H : Heap) (locs : List Loc) (ls : Array Slot), F = g_X11_cell_K71_2 (vI 10 σ this_now I) (vJ 10 σ this_now J) (vR 10 σ this_now ri) (vL 10 σ this_now rj) (vQ 10 σ this_now rq)  → FR 10 tg σ this_now (I, J, ri, rj, rq) (I, J, ri, rj, rq) → GX [1069, 1070, 1073, 1074, 1079, 65] tg σ I ri rj I ri rj rq → va_P D vwCl (pq_P t σ (I, J, ri, rj, rq)) H → va_D A (pq_P t σ (I, J, ri, rj, rq)) → va_S A s.heap H locs → lv_has ls 8 [(0, .ref this), (1, .int a0), (2, .int a1), (3, .int a2), (4, .int a3), (5, .int a4), (6, .int a5)] → W p l e ({ frames := 2, cells := 0, slots := 0, locals := 51 } : Room) s m (List.toArray ([.ref this, .int a0, .int a1, .int a2, .int a3, .int a4, .int a5] : List Value)) below meth c H locs 0 0 Q (F0 m 71 ls [.int 0]) := by
      intro H locs ls hF hFr hG hP hD hS hl
      replace hF := hF.trans g_X11_cell_K71_2_e
      refine lv_istore (lv' := [(7, .int 0), (0, .ref this), (1, .int a0), (2, .int a1), (3, .int a2), (4, .int a3), (5, .int a4), (6, .int a5)]) hx hb dX11_cell_71 hl (by decide +kernel) rfl (fun ls hl => ?_)
      refine lv_iload hx hb dX11_cell_73 (lv_at hl 0 rfl) ?_
      have K_191 : ∀  (H : Heap) (locs : List Loc) (ls : Array Slot), F = g_X11_cell_K103_2 (vI 10 σ this_now I) (vJ 10 σ this_now J) (vR 10 σ this_now ri) (vL 10 σ this_now rj) (vQ 10 σ this_now rq)  → FR 10 tg σ this_now (I, J, ri, rj, rq) (I, J, ri, rj, rq) → GX [1069, 1070, 1073, 1074, 1079, 65] tg σ I ri rj I ri rj rq → va_P D vwCl (pq_P t σ (I, J, ri, rj, rq)) H → va_D A (pq_P t σ (I, J, ri, rj, rq)) → va_S A s.heap H locs → lv_has ls 8 [] → W p l e ({ frames := 2, cells := 0, slots := 0, locals := 51 } : Room) s m (List.toArray ([.ref this, .int a0, .int a1, .int a2, .int a3, .int a4, .int a5] : List Value)) below meth c H locs 0 0 Q (F0 m 103 ls []) := by
        intro H locs ls hF hFr hG hP hD hS hl
        replace hF := hF.trans g_X11_cell_K103_2_e
        refine lv_iconst (v := (-1)) hx hb dX11_cell_103 (by decide +kernel) ?_
        subst hQ
        exact W.iret (v := (-1)) hx hb hr (fun t1 ht hW => ⟨⟨(-1), (σ, I, J, ri, rj, rq), rfl, ⟨I, ri, rfl, hG, (hF0.symm.trans hF), hFr, (rg_w (rg_k (-1 : Int32) (-1) rfl) (by decide +kernel))⟩, by rw [ht]; exact hP, va_K.moved hW.alike hK, hD⟩, hS.F ht⟩) hS.2.2 dX11_cell_104
      refine lv_if_eq (tgt := 103) hx hb dX11_cell_75 (by decide +kernel) (fun c_192 => ?_) (fun c_192 => absurd c_192 (by decide +kernel))
      exact K_191 _ _ _ hF hFr hG hP hD hS (lv_sub hl [] rfl)
    have K_193 : ∀  (H : Heap) (locs : List Loc) (ls : Array Slot), F = g_X11_cell_K70 (vI 10 σ this_now I) (vJ 10 σ this_now J) (vR 10 σ this_now ri) (vL 10 σ this_now rj) (vQ 10 σ this_now rq)  → FR 10 tg σ this_now (I, J, ri, rj, rq) (I, J, ri, rj, rq) → GX [1069, 1070, 1073, 1074, 1079, 65] tg σ I ri rj I ri rj rq → va_P D vwCl (pq_P t σ (I, J, ri, rj, rq)) H → va_D A (pq_P t σ (I, J, ri, rj, rq)) → va_S A s.heap H locs → lv_has ls 8 [(0, .ref this), (1, .int a0), (2, .int a1), (3, .int a2), (4, .int a3), (5, .int a4), (6, .int a5)] → W p l e ({ frames := 2, cells := 0, slots := 0, locals := 51 } : Room) s m (List.toArray ([.ref this, .int a0, .int a1, .int a2, .int a3, .int a4, .int a5] : List Value)) below meth c H locs 0 0 Q (F0 m 70 ls []) := by
      intro H locs ls hF hFr hG hP hD hS hl
      replace hF := hF.trans g_X11_cell_K70_e
      refine lv_iconst (v := 0) hx hb dX11_cell_70 (by decide +kernel) ?_
      exact K_189 _ _ _ hF hFr hG hP hD hS (lv_sub hl [0, 1, 2, 3, 4, 5, 6] rfl)
    refine lv_if_eq (tgt := 70) hx hb dX11_cell_5 (by decide +kernel) (fun c_194 => ?_) (fun c_194 => ?_)
    · replace hF := hF.trans (if_pos c_194)
      have f_199 := (hr_5.resolve_left (fun q => absurd (q.1.symm.trans c_194) (by decide +kernel))).2
      have h_200 : rg x_1 0 0 := rg_and h_8 (rg_of_eq c_194 (rg_k (0 : Int32) 0 rfl)) (by decide +kernel)
      exact K_193 _ _ _ hF hFr hG hP hD hS (lv_sub hl [0, 1, 2, 3, 4, 5, 6] rfl)
    · replace hF := hF.trans (if_neg c_194)
      have f_201 := (hr_5.resolve_right (fun q => c_194 q.1)).2
      have h_202 : rg x_1 1 1 := rg_ne c_194 h_8 0 rfl (by decide +kernel)
      refine lv_iload_n hx hb dX11_cell_8 rfl (lv_at hl 2 rfl) ?_
      refine lv_sipush (v := (-500)) hx hb dX11_cell_9 (by decide +kernel) ?_
      refine lv_sipush (v := 3000) hx hb dX11_cell_12 (by decide +kernel) ?_
      refine pk_i (va_runS (As := [.int a1, .int (-500), .int 3000]) (rest := []) ⟨hx, hb, hml, hown, hts⟩ (s_X11_between l D t σ I J ri rj rq H.size tg hSH hG.1 a1 (-500 : Int32) (3000 : Int32)) (va_cwS 3 hts (tw_S tw_215 tw_216 tw_2 tw_217) rfl rfl rfl cd_yX11_between_3 ⟨Nat.le_of_ble_eq_true rfl, Nat.le_of_ble_eq_true rfl⟩) ⟨pq_blind, pq_pre hK hN hP hD⟩ rfl rfl hl.1 rfl (lv_room (Nat.le_of_ble_eq_true rfl)) dX11_cell_15 ⟨Nat.le_of_ble_eq_true rfl, Nat.le_of_ble_eq_true rfl⟩) hD hS hA (fun x_203 σ1 μ1 H locs hw_204 hP hD hS => ?_)
      obtain ⟨hu_205, hfn_208, hr_207⟩ := hw_204
      obtain ⟨hu_205a, hu_205b⟩ := Prod.mk.inj hu_205
      rw [hu_205a, hu_205b] at hP hD
      replace hF := hF.trans (ap_n hfn_208.symm)
      have h_210 : rg x_203 0 1 := by rcases hr_207 with ⟨q, -⟩ | ⟨q, -⟩ <;> rw [q] <;> exact ⟨by decide +kernel, by decide +kernel⟩
      refine lv_if_eq (tgt := 70) hx hb dX11_cell_18 (by decide +kernel) (fun c_211 => ?_) (fun c_211 => ?_)
      · replace hF := hF.trans (if_pos c_211)
        have f_219 := (hr_207.resolve_left (fun q => absurd (q.1.symm.trans c_211) (by decide +kernel))).2
        have h_220 : rg x_203 0 0 := rg_and h_210 (rg_of_eq c_211 (rg_k (0 : Int32) 0 rfl)) (by decide +kernel)
        exact K_193 _ _ _ hF hFr hG hP hD hS (lv_sub hl [0, 1, 2, 3, 4, 5, 6] rfl)
      · replace hF := hF.trans (if_neg c_211)
        obtain ⟨f_221, f_222⟩ := (hr_207.resolve_right (fun q => c_211 q.1)).2
        have h_223 : rg a1 (-500) 2147483647 := rg_le2 f_221 (rg_k (-500 : Int32) (-500) rfl) (rg_full _) (by decide +kernel)
        have h_224 : rg a1 (-500) 3000 := rg_le1 f_222 h_223 (rg_k (3000 : Int32) 3000 rfl) (by decide +kernel)
        have h_225 : rg x_203 1 1 := rg_ne c_211 h_210 0 rfl (by decide +kernel)
        refine lv_iload_n hx hb dX11_cell_21 rfl (lv_at hl 3 rfl) ?_
        refine lv_iconst (v := 0) hx hb dX11_cell_22 (by decide +kernel) ?_
        refine lv_bipush (v := 31) hx hb dX11_cell_23 (by decide +kernel) ?_
        refine pk_i (va_runS (As := [.int a2, .int 0, .int 31]) (rest := []) ⟨hx, hb, hml, hown, hts⟩ (s_X11_between l D t σ I J ri rj rq H.size tg hSH hG.1 a2 (0 : Int32) (31 : Int32)) (va_cwS 3 hts (tw_S tw_215 tw_216 tw_2 tw_217) rfl rfl rfl cd_yX11_between_3 ⟨Nat.le_of_ble_eq_true rfl, Nat.le_of_ble_eq_true rfl⟩) ⟨pq_blind, pq_pre hK hN hP hD⟩ rfl rfl hl.1 rfl (lv_room (Nat.le_of_ble_eq_true rfl)) dX11_cell_25 ⟨Nat.le_of_ble_eq_true rfl, Nat.le_of_ble_eq_true rfl⟩) hD hS hA (fun x_226 σ1 μ1 H locs hw_227 hP hD hS => ?_)
        obtain ⟨hu_228, hfn_231, hr_230⟩ := hw_227
        obtain ⟨hu_228a, hu_228b⟩ := Prod.mk.inj hu_228
        rw [hu_228a, hu_228b] at hP hD
        replace hF := hF.trans (ap_n hfn_231.symm)
        have h_233 : rg x_226 0 1 := by rcases hr_230 with ⟨q, -⟩ | ⟨q, -⟩ <;> rw [q] <;> exact ⟨by decide +kernel, by decide +kernel⟩
        refine lv_if_eq (tgt := 70) hx hb dX11_cell_28 (by decide +kernel) (fun c_234 => ?_) (fun c_234 => ?_)
        · replace hF := hF.trans (if_pos c_234)
          have f_242 := (hr_230.resolve_left (fun q => absurd (q.1.symm.trans c_234) (by decide +kernel))).2
          have h_243 : rg x_226 0 0 := rg_and h_233 (rg_of_eq c_234 (rg_k (0 : Int32) 0 rfl)) (by decide +kernel)
          exact K_193 _ _ _ hF hFr hG hP hD hS (lv_sub hl [0, 1, 2, 3, 4, 5, 6] rfl)
        · replace hF := hF.trans (if_neg c_234)
          obtain ⟨f_244, f_245⟩ := (hr_230.resolve_right (fun q => c_234 q.1)).2
          have h_246 : rg a2 0 2147483647 := rg_le2 f_244 (rg_k (0 : Int32) 0 rfl) (rg_full _) (by decide +kernel)
          have h_247 : rg a2 0 31 := rg_le1 f_245 h_246 (rg_k (31 : Int32) 31 rfl) (by decide +kernel)
          have h_248 : rg x_226 1 1 := rg_ne c_234 h_233 0 rfl (by decide +kernel)
          refine lv_iload hx hb dX11_cell_31 (lv_at hl 4 rfl) ?_
          refine lv_iconst (v := 0) hx hb dX11_cell_33 (by decide +kernel) ?_
          refine lv_bipush (v := 31) hx hb dX11_cell_34 (by decide +kernel) ?_
          refine pk_i (va_runS (As := [.int a3, .int 0, .int 31]) (rest := []) ⟨hx, hb, hml, hown, hts⟩ (s_X11_between l D t σ I J ri rj rq H.size tg hSH hG.1 a3 (0 : Int32) (31 : Int32)) (va_cwS 3 hts (tw_S tw_215 tw_216 tw_2 tw_217) rfl rfl rfl cd_yX11_between_3 ⟨Nat.le_of_ble_eq_true rfl, Nat.le_of_ble_eq_true rfl⟩) ⟨pq_blind, pq_pre hK hN hP hD⟩ rfl rfl hl.1 rfl (lv_room (Nat.le_of_ble_eq_true rfl)) dX11_cell_36 ⟨Nat.le_of_ble_eq_true rfl, Nat.le_of_ble_eq_true rfl⟩) hD hS hA (fun x_249 σ1 μ1 H locs hw_250 hP hD hS => ?_)
          obtain ⟨hu_251, hfn_254, hr_253⟩ := hw_250
          obtain ⟨hu_251a, hu_251b⟩ := Prod.mk.inj hu_251
          rw [hu_251a, hu_251b] at hP hD
          replace hF := hF.trans (ap_n hfn_254.symm)
          have h_256 : rg x_249 0 1 := by rcases hr_253 with ⟨q, -⟩ | ⟨q, -⟩ <;> rw [q] <;> exact ⟨by decide +kernel, by decide +kernel⟩
          refine lv_if_eq (tgt := 70) hx hb dX11_cell_39 (by decide +kernel) (fun c_257 => ?_) (fun c_257 => ?_)
          · replace hF := hF.trans (if_pos c_257)
            have f_265 := (hr_253.resolve_left (fun q => absurd (q.1.symm.trans c_257) (by decide +kernel))).2
            have h_266 : rg x_249 0 0 := rg_and h_256 (rg_of_eq c_257 (rg_k (0 : Int32) 0 rfl)) (by decide +kernel)
            exact K_193 _ _ _ hF hFr hG hP hD hS (lv_sub hl [0, 1, 2, 3, 4, 5, 6] rfl)
          · replace hF := hF.trans (if_neg c_257)
            obtain ⟨f_267, f_268⟩ := (hr_253.resolve_right (fun q => c_257 q.1)).2
            have h_269 : rg a3 0 2147483647 := rg_le2 f_267 (rg_k (0 : Int32) 0 rfl) (rg_full _) (by decide +kernel)
            have h_270 : rg a3 0 31 := rg_le1 f_268 h_269 (rg_k (31 : Int32) 31 rfl) (by decide +kernel)
            have h_271 : rg x_249 1 1 := rg_ne c_257 h_256 0 rfl (by decide +kernel)
            refine lv_iload hx hb dX11_cell_42 (lv_at hl 5 rfl) ?_
            refine lv_iconst (v := 0) hx hb dX11_cell_44 (by decide +kernel) ?_
            refine lv_sipush (v := 500) hx hb dX11_cell_45 (by decide +kernel) ?_
            refine pk_i (va_runS (As := [.int a4, .int 0, .int 500]) (rest := []) ⟨hx, hb, hml, hown, hts⟩ (s_X11_between l D t σ I J ri rj rq H.size tg hSH hG.1 a4 (0 : Int32) (500 : Int32)) (va_cwS 3 hts (tw_S tw_215 tw_216 tw_2 tw_217) rfl rfl rfl cd_yX11_between_3 ⟨Nat.le_of_ble_eq_true rfl, Nat.le_of_ble_eq_true rfl⟩) ⟨pq_blind, pq_pre hK hN hP hD⟩ rfl rfl hl.1 rfl (lv_room (Nat.le_of_ble_eq_true rfl)) dX11_cell_48 ⟨Nat.le_of_ble_eq_true rfl, Nat.le_of_ble_eq_true rfl⟩) hD hS hA (fun x_272 σ1 μ1 H locs hw_273 hP hD hS => ?_)
            obtain ⟨hu_274, hfn_277, hr_276⟩ := hw_273
            obtain ⟨hu_274a, hu_274b⟩ := Prod.mk.inj hu_274
            rw [hu_274a, hu_274b] at hP hD
            replace hF := hF.trans (ap_n hfn_277.symm)
            have h_279 : rg x_272 0 1 := by rcases hr_276 with ⟨q, -⟩ | ⟨q, -⟩ <;> rw [q] <;> exact ⟨by decide +kernel, by decide +kernel⟩
            refine lv_if_eq (tgt := 70) hx hb dX11_cell_51 (by decide +kernel) (fun c_280 => ?_) (fun c_280 => ?_)
            · replace hF := hF.trans (if_pos c_280)
              have f_288 := (hr_276.resolve_left (fun q => absurd (q.1.symm.trans c_280) (by decide +kernel))).2
              have h_289 : rg x_272 0 0 := rg_and h_279 (rg_of_eq c_280 (rg_k (0 : Int32) 0 rfl)) (by decide +kernel)
              exact K_193 _ _ _ hF hFr hG hP hD hS (lv_sub hl [0, 1, 2, 3, 4, 5, 6] rfl)
            · replace hF := hF.trans (if_neg c_280)
              obtain ⟨f_290, f_291⟩ := (hr_276.resolve_right (fun q => c_280 q.1)).2
              have h_292 : rg a4 0 2147483647 := rg_le2 f_290 (rg_k (0 : Int32) 0 rfl) (rg_full _) (by decide +kernel)
              have h_293 : rg a4 0 500 := rg_le1 f_291 h_292 (rg_k (500 : Int32) 500 rfl) (by decide +kernel)
              have h_294 : rg x_272 1 1 := rg_ne c_280 h_279 0 rfl (by decide +kernel)
              refine lv_iload hx hb dX11_cell_54 (lv_at hl 6 rfl) ?_
              refine lv_iconst (v := 0) hx hb dX11_cell_56 (by decide +kernel) ?_
              refine lv_sipush (v := 400) hx hb dX11_cell_57 (by decide +kernel) ?_
              refine pk_i (va_runS (As := [.int a5, .int 0, .int 400]) (rest := []) ⟨hx, hb, hml, hown, hts⟩ (s_X11_between l D t σ I J ri rj rq H.size tg hSH hG.1 a5 (0 : Int32) (400 : Int32)) (va_cwS 3 hts (tw_S tw_215 tw_216 tw_2 tw_217) rfl rfl rfl cd_yX11_between_3 ⟨Nat.le_of_ble_eq_true rfl, Nat.le_of_ble_eq_true rfl⟩) ⟨pq_blind, pq_pre hK hN hP hD⟩ rfl rfl hl.1 rfl (lv_room (Nat.le_of_ble_eq_true rfl)) dX11_cell_60 ⟨Nat.le_of_ble_eq_true rfl, Nat.le_of_ble_eq_true rfl⟩) hD hS hA (fun x_295 σ1 μ1 H locs hw_296 hP hD hS => ?_)
              obtain ⟨hu_297, hfn_300, hr_299⟩ := hw_296
              obtain ⟨hu_297a, hu_297b⟩ := Prod.mk.inj hu_297
              rw [hu_297a, hu_297b] at hP hD
              replace hF := hF.trans (ap_n hfn_300.symm)
              have h_302 : rg x_295 0 1 := by rcases hr_299 with ⟨q, -⟩ | ⟨q, -⟩ <;> rw [q] <;> exact ⟨by decide +kernel, by decide +kernel⟩
              refine lv_if_eq (tgt := 70) hx hb dX11_cell_63 (by decide +kernel) (fun c_303 => ?_) (fun c_303 => ?_)
              · replace hF := hF.trans (if_pos c_303)
                have f_311 := (hr_299.resolve_left (fun q => absurd (q.1.symm.trans c_303) (by decide +kernel))).2
                have h_312 : rg x_295 0 0 := rg_and h_302 (rg_of_eq c_303 (rg_k (0 : Int32) 0 rfl)) (by decide +kernel)
                exact K_193 _ _ _ hF hFr hG hP hD hS (lv_sub hl [0, 1, 2, 3, 4, 5, 6] rfl)
              · replace hF := hF.trans (if_neg c_303)
                obtain ⟨f_313, f_314⟩ := (hr_299.resolve_right (fun q => c_303 q.1)).2
                have h_315 : rg a5 0 2147483647 := rg_le2 f_313 (rg_k (0 : Int32) 0 rfl) (rg_full _) (by decide +kernel)
                have h_316 : rg a5 0 400 := rg_le1 f_314 h_315 (rg_k (400 : Int32) 400 rfl) (by decide +kernel)
                have h_317 : rg x_295 1 1 := rg_ne c_303 h_302 0 rfl (by decide +kernel)
                refine lv_iconst (v := 1) hx hb dX11_cell_66 (by decide +kernel) ?_
                refine lv_goto (tgt := 71) hx hb dX11_cell_67 (by decide +kernel) ?_
                exact K_124 _ _ _ (rg_w f_201 (by decide +kernel)) (rg_w h_224 (by decide +kernel)) (rg_w h_247 (by decide +kernel)) (rg_w h_270 (by decide +kernel)) (rg_w h_293 (by decide +kernel)) (rg_w h_316 (by decide +kernel)) (rg_w h_202 (by decide +kernel)) hF hFr hG hP hD hS (lv_sub hl [0, 1, 2, 3, 4, 5, 6] rfl)
  exact go _ _ _ hP hD hS hl
