theorem dX11_titleOf_0 : decode cX11_titleOf 0 = .ok (.aload_n 0, 1) := oc_42 (by decide +kernel)
theorem dX11_titleOf_1 : decode cX11_titleOf 1 = .ok (.iload_n 1, 1) := oc_27 (by decide +kernel)
theorem dX11_titleOf_2 : decode cX11_titleOf 2 = .ok (.invokevirtual 119, 3) := oc_182 (a := 0) (b := 119) (by decide +kernel)
theorem dX11_titleOf_5 : decode cX11_titleOf 5 = .ok (.ifCond .ne 5, 3) := oc_154 (a := 0) (b := 5) (by decide +kernel)
theorem dX11_titleOf_10 : decode cX11_titleOf 10 = .ok (.iload_n 2, 1) := oc_28 (by decide +kernel)
theorem dX11_titleOf_11 : decode cX11_titleOf 11 = .ok (.lookupswitch 52 #[(0, 25), (1, 35)], 25) := by decide +kernel
theorem dX11_titleOf_36 : decode cX11_titleOf 36 = .ok (.aload_n 0, 1) := oc_42 (by decide +kernel)
theorem dX11_titleOf_37 : decode cX11_titleOf 37 = .ok (.getfield 10, 3) := oc_180 (a := 0) (b := 10) (by decide +kernel)
theorem dX11_titleOf_40 : decode cX11_titleOf 40 = .ok (.getfield 182, 3) := oc_180 (a := 0) (b := 182) (by decide +kernel)
theorem dX11_titleOf_43 : decode cX11_titleOf 43 = .ok (.iload_n 1, 1) := oc_27 (by decide +kernel)
theorem dX11_titleOf_44 : decode cX11_titleOf 44 = .ok (.iaload, 1) := oc_46 (by decide +kernel)
theorem dX11_titleOf_45 : decode cX11_titleOf 45 = .ok (.ireturn, 1) := oc_172 (by decide +kernel)
theorem dX11_titleOf_46 : decode cX11_titleOf 46 = .ok (.aload_n 0, 1) := oc_42 (by decide +kernel)
theorem dX11_titleOf_47 : decode cX11_titleOf 47 = .ok (.getfield 10, 3) := oc_180 (a := 0) (b := 10) (by decide +kernel)
theorem dX11_titleOf_50 : decode cX11_titleOf 50 = .ok (.iload_n 1, 1) := oc_27 (by decide +kernel)
theorem tw_545 : Cond.methodLink RX11 185 yX10_titleStands ∈ wsL_law := sg_23 _ (List.mem_of_getElem? (i := 17) rfl)
theorem tw_546 : Cond.instanceMethod yX10_titleStands ∈ wsL_law := sg_23 _ (List.mem_of_getElem? (i := 18) rfl)
theorem tw_547 : Cond.selects RX10 yX10_titleStands yX10_titleStands ∈ wsL_law := sg_23 _ (List.mem_of_getElem? (i := 19) rfl)
theorem tw_548 : Cond.code yX10_titleStands cX10_titleStands 3 (some .boolean) ∈ wsL_law := sg_23 _ (List.mem_of_getElem? (i := 20) rfl)
theorem dX11_titleOf_51 : decode cX11_titleOf 51 = .ok (.invokevirtual 185, 3) := oc_182 (a := 0) (b := 185) (by decide +kernel)
theorem dX11_titleOf_54 : decode cX11_titleOf 54 = .ok (.ifCond .eq 7, 3) := oc_153 (a := 0) (b := 7) (by decide +kernel)
theorem dX11_titleOf_61 : decode cX11_titleOf 61 = .ok (.iconst 0, 1) := oc_3 (by decide +kernel)
theorem dX11_titleOf_62 : decode cX11_titleOf 62 = .ok (.ireturn, 1) := oc_172 (by decide +kernel)
theorem dX11_titleOf_57 : decode cX11_titleOf 57 = .ok (.iconst 1, 1) := oc_4 (by decide +kernel)
theorem dX11_titleOf_58 : decode cX11_titleOf 58 = .ok (.goto 4, 3) := oc_167 (a := 0) (b := 4) (by decide +kernel)
theorem dX11_titleOf_63 : decode cX11_titleOf 63 = .ok (.iconst (-1), 1) := oc_2 (by decide +kernel)
theorem dX11_titleOf_64 : decode cX11_titleOf 64 = .ok (.ireturn, 1) := oc_172 (by decide +kernel)
theorem dX11_titleOf_8 : decode cX11_titleOf 8 = .ok (.iconst (-1), 1) := oc_2 (by decide +kernel)
theorem dX11_titleOf_9 : decode cX11_titleOf 9 = .ok (.ireturn, 1) := oc_172 (by decide +kernel)
theorem dX11_choose_0 : decode cX11_choose 0 = .ok (.aload_n 0, 1) := oc_42 (by decide +kernel)
theorem dX11_choose_1 : decode cX11_choose 1 = .ok (.iload_n 1, 1) := oc_27 (by decide +kernel)
theorem dX11_choose_2 : decode cX11_choose 2 = .ok (.invokevirtual 162, 3) := oc_182 (a := 0) (b := 162) (by decide +kernel)
theorem dX11_choose_17 : decode cX11_choose 17 = .ok (.iconst 0, 1) := oc_3 (by decide +kernel)
theorem dX11_choose_18 : decode cX11_choose 18 = .ok (.ireturn, 1) := oc_172 (by decide +kernel)
theorem dX11_choose_5 : decode cX11_choose 5 = .ok (.ifCond .eq 12, 3) := oc_153 (a := 0) (b := 12) (by decide +kernel)
theorem dX11_choose_8 : decode cX11_choose 8 = .ok (.iload_n 2, 1) := oc_28 (by decide +kernel)
theorem dX11_choose_9 : decode cX11_choose 9 = .ok (.iconst (-1), 1) := oc_2 (by decide +kernel)
theorem dX11_choose_10 : decode cX11_choose 10 = .ok (.iconst 1, 1) := oc_4 (by decide +kernel)
theorem dX11_choose_11 : decode cX11_choose 11 = .ok (.invokestatic 50, 3) := oc_184 (a := 0) (b := 50) (by decide +kernel)
theorem dX11_choose_14 : decode cX11_choose 14 = .ok (.ifCond .ne 5, 3) := oc_154 (a := 0) (b := 5) (by decide +kernel)
theorem dX11_choose_19 : decode cX11_choose 19 = .ok (.aload_n 0, 1) := oc_42 (by decide +kernel)
theorem dX11_choose_20 : decode cX11_choose 20 = .ok (.getfield 10, 3) := oc_180 (a := 0) (b := 10) (by decide +kernel)
theorem dX11_choose_23 : decode cX11_choose 23 = .ok (.getfield 143, 3) := oc_180 (a := 0) (b := 143) (by decide +kernel)
theorem tw_1325 : Cond.fieldLink RX11 188 "RingsUnder$Folk" "vote" "[I" ∈ wsL_law := sg_56 _ (List.mem_of_getElem? (i := 5) rfl)
theorem dX11_choose_26 : decode cX11_choose 26 = .ok (.getfield 188, 3) := oc_180 (a := 0) (b := 188) (by decide +kernel)
theorem dX11_choose_29 : decode cX11_choose 29 = .ok (.iload_n 1, 1) := oc_27 (by decide +kernel)
theorem dX11_choose_30 : decode cX11_choose 30 = .ok (.iload_n 2, 1) := oc_28 (by decide +kernel)
theorem dX11_choose_31 : decode cX11_choose 31 = .ok (.iastore, 1) := oc_79 (by decide +kernel)
theorem dX11_choose_32 : decode cX11_choose 32 = .ok (.iconst 1, 1) := oc_4 (by decide +kernel)
theorem dX11_choose_33 : decode cX11_choose 33 = .ok (.ireturn, 1) := oc_172 (by decide +kernel)
theorem dX11_council_0 : decode cX11_council 0 = .ok (.lload_n 1, 1) := oc_31 (by decide +kernel)
theorem dX11_council_1 : decode cX11_council 1 = .ok (.aload_n 0, 1) := oc_42 (by decide +kernel)
theorem dX11_council_2 : decode cX11_council 2 = .ok (.getfield 10, 3) := oc_180 (a := 0) (b := 10) (by decide +kernel)
theorem dX11_council_5 : decode cX11_council 5 = .ok (.getfield 143, 3) := oc_180 (a := 0) (b := 143) (by decide +kernel)
theorem dX11_council_8 : decode cX11_council 8 = .ok (.getfield 155, 3) := oc_180 (a := 0) (b := 155) (by decide +kernel)
theorem dX11_council_11 : decode cX11_council 11 = .ok (.lushr, 1) := oc_125 (by decide +kernel)
theorem dX11_council_12 : decode cX11_council 12 = .ok (.lconst 0, 1) := oc_9 (by decide +kernel)
theorem dX11_council_13 : decode cX11_council 13 = .ok (.lcmp, 1) := oc_148 (by decide +kernel)
theorem dX11_council_14 : decode cX11_council 14 = .ok (.ifCond .eq 5, 3) := oc_153 (a := 0) (b := 5) (by decide +kernel)
theorem dX11_council_19 : decode cX11_council 19 = .ok (.aload_n 0, 1) := oc_42 (by decide +kernel)
theorem dX11_council_20 : decode cX11_council 20 = .ok (.getfield 10, 3) := oc_180 (a := 0) (b := 10) (by decide +kernel)
theorem dX11_council_23 : decode cX11_council 23 = .ok (.lload_n 1, 1) := oc_31 (by decide +kernel)
theorem tw_1334 : Cond.methodLink RX11 191 yX10_decide ∈ wsL_law := sg_56 _ (List.mem_of_getElem? (i := 14) rfl)
theorem tw_1335 : Cond.instanceMethod yX10_decide ∈ wsL_law := sg_56 _ (List.mem_of_getElem? (i := 15) rfl)
theorem tw_1336 : Cond.selects RX10 yX10_decide yX10_decide ∈ wsL_law := sg_56 _ (List.mem_of_getElem? (i := 16) rfl)
theorem tw_1337 : Cond.code yX10_decide cX10_decide 8 (some .int) ∈ wsL_law := sg_56 _ (List.mem_of_getElem? (i := 17) rfl)
theorem dX11_council_24 : decode cX11_council 24 = .ok (.invokevirtual 191, 3) := oc_182 (a := 0) (b := 191) (by decide +kernel)
theorem dX11_council_27 : decode cX11_council 27 = .ok (.ireturn, 1) := oc_172 (by decide +kernel)
theorem dX11_council_17 : decode cX11_council 17 = .ok (.iconst (-1), 1) := oc_2 (by decide +kernel)
theorem dX11_council_18 : decode cX11_council 18 = .ok (.ireturn, 1) := oc_172 (by decide +kernel)
theorem dX11_feed_0 : decode cX11_feed 0 = .ok (.aload_n 0, 1) := oc_42 (by decide +kernel)
theorem tw_26 : Cond.fieldLink RX11 32 "RingsUnder" "reader" "LRingsUnder$Reader;" ∈ wsL_law := sg_2 _ (List.mem_of_getElem? (i := 2) rfl)
theorem dX11_feed_1 : decode cX11_feed 1 = .ok (.getfield 32, 3) := oc_180 (a := 0) (b := 32) (by decide +kernel)
theorem tw_620 : Cond.fieldLink RX11 195 "RingsUnder$Reader" "scanner" "LRingsUnder$Scanner;" ∈ wsL_law := sg_26 _ (List.mem_of_getElem? (i := 20) rfl)
theorem dX11_feed_4 : decode cX11_feed 4 = .ok (.getfield 195, 3) := oc_180 (a := 0) (b := 195) (by decide +kernel)
theorem dX11_feed_7 : decode cX11_feed 7 = .ok (.astore 6, 2) := oc_58 (by decide +kernel)
theorem dX11_feed_9 : decode cX11_feed 9 = .ok (.aload 6, 2) := oc_25 (by decide +kernel)
theorem tw_621 : Cond.fieldLink RX11 199 "RingsUnder$Scanner" "length" "I" ∈ wsL_law := sg_26 _ (List.mem_of_getElem? (i := 21) rfl)
theorem dX11_feed_11 : decode cX11_feed 11 = .ok (.getfield 199, 3) := oc_180 (a := 0) (b := 199) (by decide +kernel)
theorem dX11_feed_14 : decode cX11_feed 14 = .ok (.sipush 280, 3) := oc_17 (a := 1) (b := 24) (by decide +kernel)
theorem dX11_feed_17 : decode cX11_feed 17 = .ok (.if_icmp .le 5, 3) := oc_164 (a := 0) (b := 5) (by decide +kernel)
theorem dX11_feed_22 : decode cX11_feed 22 = .ok (.aload 6, 2) := oc_25 (by decide +kernel)
theorem dX11_feed_24 : decode cX11_feed 24 = .ok (.iload_n 1, 1) := oc_27 (by decide +kernel)
theorem tw_622 : Cond.methodLink RX11 204 yX6_append ∈ wsL_law := sg_26 _ (List.mem_of_getElem? (i := 22) rfl)
theorem tw_623 : Cond.instanceMethod yX6_append ∈ wsL_law := sg_26 _ (List.mem_of_getElem? (i := 23) rfl)
theorem tw_624 : Cond.selects RX6 yX6_append yX6_append ∈ wsL_law := sg_27 _ (List.mem_of_getElem? (i := 0) rfl)
theorem tw_625 : Cond.code yX6_append cX6_append 3 none ∈ wsL_law := sg_27 _ (List.mem_of_getElem? (i := 1) rfl)
theorem dX11_feed_25 : decode cX11_feed 25 = .ok (.invokevirtual 204, 3) := oc_182 (a := 0) (b := 204) (by decide +kernel)
theorem dX11_feed_28 : decode cX11_feed 28 = .ok (.aload 6, 2) := oc_25 (by decide +kernel)
theorem dX11_feed_30 : decode cX11_feed 30 = .ok (.iload_n 2, 1) := oc_28 (by decide +kernel)
theorem dX11_feed_31 : decode cX11_feed 31 = .ok (.invokevirtual 204, 3) := oc_182 (a := 0) (b := 204) (by decide +kernel)
theorem dX11_feed_34 : decode cX11_feed 34 = .ok (.aload 6, 2) := oc_25 (by decide +kernel)
theorem dX11_feed_36 : decode cX11_feed 36 = .ok (.iload_n 3, 1) := oc_29 (by decide +kernel)
theorem dX11_feed_37 : decode cX11_feed 37 = .ok (.invokevirtual 204, 3) := oc_182 (a := 0) (b := 204) (by decide +kernel)
theorem dX11_feed_40 : decode cX11_feed 40 = .ok (.aload 6, 2) := oc_25 (by decide +kernel)
theorem dX11_feed_42 : decode cX11_feed 42 = .ok (.iload 4, 2) := oc_21 (by decide +kernel)
theorem dX11_feed_44 : decode cX11_feed 44 = .ok (.invokevirtual 204, 3) := oc_182 (a := 0) (b := 204) (by decide +kernel)
theorem dX11_feed_47 : decode cX11_feed 47 = .ok (.aload 6, 2) := oc_25 (by decide +kernel)
theorem dX11_feed_49 : decode cX11_feed 49 = .ok (.iload 5, 2) := oc_21 (by decide +kernel)
theorem dX11_feed_51 : decode cX11_feed 51 = .ok (.invokevirtual 204, 3) := oc_182 (a := 0) (b := 204) (by decide +kernel)
theorem dX11_feed_54 : decode cX11_feed 54 = .ok (.aload 6, 2) := oc_25 (by decide +kernel)
theorem dX11_feed_56 : decode cX11_feed 56 = .ok (.getfield 199, 3) := oc_180 (a := 0) (b := 199) (by decide +kernel)
theorem dX11_feed_59 : decode cX11_feed 59 = .ok (.ireturn, 1) := oc_172 (by decide +kernel)
theorem dX11_feed_20 : decode cX11_feed 20 = .ok (.iconst (-1), 1) := oc_2 (by decide +kernel)
theorem dX11_feed_21 : decode cX11_feed 21 = .ok (.ireturn, 1) := oc_172 (by decide +kernel)
theorem dX11_end_0 : decode cX11_end 0 = .ok (.iload_n 1, 1) := oc_27 (by decide +kernel)
theorem dX11_end_1 : decode cX11_end 1 = .ok (.iconst 0, 1) := oc_3 (by decide +kernel)
theorem dX11_end_2 : decode cX11_end 2 = .ok (.aload_n 0, 1) := oc_42 (by decide +kernel)
theorem dX11_end_3 : decode cX11_end 3 = .ok (.getfield 32, 3) := oc_180 (a := 0) (b := 32) (by decide +kernel)
theorem dX11_end_6 : decode cX11_end 6 = .ok (.getfield 195, 3) := oc_180 (a := 0) (b := 195) (by decide +kernel)
theorem dX11_end_9 : decode cX11_end 9 = .ok (.getfield 199, 3) := oc_180 (a := 0) (b := 199) (by decide +kernel)
theorem dX11_end_12 : decode cX11_end 12 = .ok (.invokestatic 50, 3) := oc_184 (a := 0) (b := 50) (by decide +kernel)
theorem dX11_end_15 : decode cX11_end 15 = .ok (.ifCond .ne 5, 3) := oc_154 (a := 0) (b := 5) (by decide +kernel)
theorem dX11_end_20 : decode cX11_end 20 = .ok (.aload_n 0, 1) := oc_42 (by decide +kernel)
theorem dX11_end_21 : decode cX11_end 21 = .ok (.getfield 32, 3) := oc_180 (a := 0) (b := 32) (by decide +kernel)
theorem dX11_end_24 : decode cX11_end 24 = .ok (.getfield 195, 3) := oc_180 (a := 0) (b := 195) (by decide +kernel)
theorem dX11_end_27 : decode cX11_end 27 = .ok (.iload_n 1, 1) := oc_27 (by decide +kernel)
theorem dX11_end_28 : decode cX11_end 28 = .ok (.putfield 199, 3) := oc_181 (a := 0) (b := 199) (by decide +kernel)
theorem dX11_end_31 : decode cX11_end 31 = .ok (.iload_n 1, 1) := oc_27 (by decide +kernel)
theorem dX11_end_32 : decode cX11_end 32 = .ok (.ireturn, 1) := oc_172 (by decide +kernel)
theorem dX11_end_18 : decode cX11_end 18 = .ok (.iconst (-1), 1) := oc_2 (by decide +kernel)
theorem dX11_end_19 : decode cX11_end 19 = .ok (.ireturn, 1) := oc_172 (by decide +kernel)
theorem dX11_fault_0 : decode cX11_fault 0 = .ok (.iload_n 1, 1) := oc_27 (by decide +kernel)
theorem dX11_fault_1 : decode cX11_fault 1 = .ok (.lookupswitch 43 #[(0, 27), (1, 35)], 27) := by decide +kernel
theorem dX11_fault_28 : decode cX11_fault 28 = .ok (.aload_n 0, 1) := oc_42 (by decide +kernel)
theorem dX11_fault_29 : decode cX11_fault 29 = .ok (.getfield 32, 3) := oc_180 (a := 0) (b := 32) (by decide +kernel)
theorem tw_650 : Cond.fieldLink RX11 221 "RingsUnder$Reader" "fault" "I" ∈ wsL_law := sg_28 _ (List.mem_of_getElem? (i := 2) rfl)
theorem dX11_fault_32 : decode cX11_fault 32 = .ok (.getfield 221, 3) := oc_180 (a := 0) (b := 221) (by decide +kernel)
theorem dX11_fault_35 : decode cX11_fault 35 = .ok (.ireturn, 1) := oc_172 (by decide +kernel)
theorem dX11_fault_36 : decode cX11_fault 36 = .ok (.aload_n 0, 1) := oc_42 (by decide +kernel)
theorem dX11_fault_37 : decode cX11_fault 37 = .ok (.getfield 32, 3) := oc_180 (a := 0) (b := 32) (by decide +kernel)
theorem tw_941 : Cond.fieldLink RX11 228 "RingsUnder$Reader" "place" "I" ∈ wsL_law := sg_40 _ (List.mem_of_getElem? (i := 5) rfl)
theorem dX11_fault_40 : decode cX11_fault 40 = .ok (.getfield 228, 3) := oc_180 (a := 0) (b := 228) (by decide +kernel)
theorem dX11_fault_43 : decode cX11_fault 43 = .ok (.ireturn, 1) := oc_172 (by decide +kernel)
theorem dX11_fault_44 : decode cX11_fault 44 = .ok (.iconst (-1), 1) := oc_2 (by decide +kernel)
theorem dX11_fault_45 : decode cX11_fault 45 = .ok (.ireturn, 1) := oc_172 (by decide +kernel)
theorem dX11_force_0 : decode cX11_force 0 = .ok (.aload_n 0, 1) := oc_42 (by decide +kernel)
theorem dX11_force_1 : decode cX11_force 1 = .ok (.getfield 10, 3) := oc_180 (a := 0) (b := 10) (by decide +kernel)
theorem tw_648 : Cond.fieldLink RX11 208 "RingsUnder$World" "law" "LRingsUnder$Law;" ∈ wsL_law := sg_28 _ (List.mem_of_getElem? (i := 0) rfl)
theorem dX11_force_4 : decode cX11_force 4 = .ok (.getfield 208, 3) := oc_180 (a := 0) (b := 208) (by decide +kernel)
theorem dX11_force_7 : decode cX11_force 7 = .ok (.astore 4, 2) := oc_58 (by decide +kernel)
theorem dX11_force_9 : decode cX11_force 9 = .ok (.iload_n 1, 1) := oc_27 (by decide +kernel)
theorem dX11_force_10 : decode cX11_force 10 = .ok (.iconst 0, 1) := oc_3 (by decide +kernel)
theorem dX11_force_11 : decode cX11_force 11 = .ok (.aload 4, 2) := oc_25 (by decide +kernel)
theorem tw_649 : Cond.fieldLink RX11 212 "RingsUnder$Law" "textCount" "I" ∈ wsL_law := sg_28 _ (List.mem_of_getElem? (i := 1) rfl)
theorem dX11_force_13 : decode cX11_force 13 = .ok (.getfield 212, 3) := oc_180 (a := 0) (b := 212) (by decide +kernel)
theorem dX11_force_16 : decode cX11_force 16 = .ok (.iconst 1, 1) := oc_4 (by decide +kernel)
theorem dX11_force_17 : decode cX11_force 17 = .ok (.isub, 1) := oc_100 (by decide +kernel)
theorem dX11_force_18 : decode cX11_force 18 = .ok (.invokestatic 50, 3) := oc_184 (a := 0) (b := 50) (by decide +kernel)
theorem dX11_force_59 : decode cX11_force 59 = .ok (.istore 5, 2) := oc_54 (by decide +kernel)
theorem dX11_force_61 : decode cX11_force 61 = .ok (.iload 5, 2) := oc_21 (by decide +kernel)
theorem dX11_force_76 : decode cX11_force 76 = .ok (.iconst (-1), 1) := oc_2 (by decide +kernel)
theorem dX11_force_77 : decode cX11_force 77 = .ok (.ireturn, 1) := oc_172 (by decide +kernel)
theorem dX11_force_63 : decode cX11_force 63 = .ok (.ifCond .eq 13, 3) := oc_153 (a := 0) (b := 13) (by decide +kernel)
theorem dX11_force_66 : decode cX11_force 66 = .ok (.aload 4, 2) := oc_25 (by decide +kernel)
theorem tw_950 : Cond.fieldLink RX11 230 "RingsUnder$Law" "forces" "I" ∈ wsL_law := sg_40 _ (List.mem_of_getElem? (i := 14) rfl)
theorem dX11_force_68 : decode cX11_force 68 = .ok (.getfield 230, 3) := oc_180 (a := 0) (b := 230) (by decide +kernel)
theorem dX11_force_71 : decode cX11_force 71 = .ok (.bipush 30, 2) := oc_16 (a := 30) (by decide +kernel)
theorem dX11_force_73 : decode cX11_force 73 = .ok (.if_icmp .lt 5, 3) := oc_161 (a := 0) (b := 5) (by decide +kernel)
theorem dX11_force_78 : decode cX11_force 78 = .ok (.aload 4, 2) := oc_25 (by decide +kernel)
theorem dX11_force_80 : decode cX11_force 80 = .ok (.iload_n 1, 1) := oc_27 (by decide +kernel)
theorem dX11_force_81 : decode cX11_force 81 = .ok (.iload_n 2, 1) := oc_28 (by decide +kernel)
theorem dX11_force_82 : decode cX11_force 82 = .ok (.iload_n 3, 1) := oc_29 (by decide +kernel)
theorem tw_951 : Cond.methodLink RX11 233 yX3_addForce ∈ wsL_law := sg_40 _ (List.mem_of_getElem? (i := 15) rfl)
theorem tw_952 : Cond.instanceMethod yX3_addForce ∈ wsL_law := sg_40 _ (List.mem_of_getElem? (i := 16) rfl)
theorem tw_953 : Cond.selects RX3 yX3_addForce yX3_addForce ∈ wsL_law := sg_40 _ (List.mem_of_getElem? (i := 17) rfl)
theorem tw_954 : Cond.code yX3_addForce cX3_addForce 4 (some .int) ∈ wsL_law := sg_40 _ (List.mem_of_getElem? (i := 18) rfl)
theorem dX11_force_83 : decode cX11_force 83 = .ok (.invokevirtual 233, 3) := oc_182 (a := 0) (b := 233) (by decide +kernel)
theorem dX11_force_86 : decode cX11_force 86 = .ok (.ireturn, 1) := oc_172 (by decide +kernel)
theorem dX11_force_58 : decode cX11_force 58 = .ok (.iconst 0, 1) := oc_3 (by decide +kernel)
theorem dX11_force_21 : decode cX11_force 21 = .ok (.ifCond .eq 37, 3) := oc_153 (a := 0) (b := 37) (by decide +kernel)
theorem dX11_force_24 : decode cX11_force 24 = .ok (.iload_n 2, 1) := oc_28 (by decide +kernel)
theorem dX11_force_25 : decode cX11_force 25 = .ok (.invokestatic 67, 3) := oc_184 (a := 0) (b := 67) (by decide +kernel)
theorem dX11_force_28 : decode cX11_force 28 = .ok (.ifCond .eq 30, 3) := oc_153 (a := 0) (b := 30) (by decide +kernel)
theorem dX11_force_31 : decode cX11_force 31 = .ok (.iload_n 3, 1) := oc_29 (by decide +kernel)
theorem dX11_force_32 : decode cX11_force 32 = .ok (.invokestatic 67, 3) := oc_184 (a := 0) (b := 67) (by decide +kernel)
theorem dX11_force_35 : decode cX11_force 35 = .ok (.ifCond .eq 23, 3) := oc_153 (a := 0) (b := 23) (by decide +kernel)
theorem dX11_force_38 : decode cX11_force 38 = .ok (.iload_n 2, 1) := oc_28 (by decide +kernel)
theorem dX11_force_39 : decode cX11_force 39 = .ok (.aload_n 0, 1) := oc_42 (by decide +kernel)
theorem dX11_force_40 : decode cX11_force 40 = .ok (.getfield 10, 3) := oc_180 (a := 0) (b := 10) (by decide +kernel)
theorem dX11_force_43 : decode cX11_force 43 = .ok (.getfield 54, 3) := oc_180 (a := 0) (b := 54) (by decide +kernel)
theorem dX11_force_46 : decode cX11_force 46 = .ok (.if_icmp .lt 12, 3) := oc_161 (a := 0) (b := 12) (by decide +kernel)
theorem dX11_force_49 : decode cX11_force 49 = .ok (.iload_n 2, 1) := oc_28 (by decide +kernel)
theorem dX11_force_50 : decode cX11_force 50 = .ok (.iload_n 3, 1) := oc_29 (by decide +kernel)
theorem dX11_force_51 : decode cX11_force 51 = .ok (.if_icmp .gt 7, 3) := oc_163 (a := 0) (b := 7) (by decide +kernel)
theorem dX11_force_54 : decode cX11_force 54 = .ok (.iconst 1, 1) := oc_4 (by decide +kernel)
theorem dX11_force_55 : decode cX11_force 55 = .ok (.goto 4, 3) := oc_167 (a := 0) (b := 4) (by decide +kernel)
theorem dX11_is_0 : decode cX11_is 0 = .ok (.iload_n 1, 1) := oc_27 (by decide +kernel)
theorem dX11_is_1 : decode cX11_is 1 = .ok (.iconst 0, 1) := oc_3 (by decide +kernel)
theorem dX11_is_2 : decode cX11_is 2 = .ok (.iconst 2, 1) := oc_5 (by decide +kernel)
theorem dX11_is_3 : decode cX11_is 3 = .ok (.invokestatic 50, 3) := oc_184 (a := 0) (b := 50) (by decide +kernel)
theorem dX11_is_24 : decode cX11_is 24 = .ok (.iconst (-1), 1) := oc_2 (by decide +kernel)
theorem dX11_is_25 : decode cX11_is 25 = .ok (.ireturn, 1) := oc_172 (by decide +kernel)
theorem dX11_is_6 : decode cX11_is 6 = .ok (.ifCond .eq 18, 3) := oc_153 (a := 0) (b := 18) (by decide +kernel)
theorem dX11_is_9 : decode cX11_is 9 = .ok (.aload_n 0, 1) := oc_42 (by decide +kernel)
theorem dX11_is_10 : decode cX11_is 10 = .ok (.iload_n 2, 1) := oc_28 (by decide +kernel)
theorem dX11_is_11 : decode cX11_is 11 = .ok (.invokevirtual 162, 3) := oc_182 (a := 0) (b := 162) (by decide +kernel)
theorem dX11_is_14 : decode cX11_is 14 = .ok (.ifCond .eq 10, 3) := oc_153 (a := 0) (b := 10) (by decide +kernel)
theorem dX11_is_17 : decode cX11_is 17 = .ok (.iload_n 3, 1) := oc_29 (by decide +kernel)
theorem dX11_is_18 : decode cX11_is 18 = .ok (.invokestatic 67, 3) := oc_184 (a := 0) (b := 67) (by decide +kernel)
theorem dX11_is_21 : decode cX11_is 21 = .ok (.ifCond .ne 5, 3) := oc_154 (a := 0) (b := 5) (by decide +kernel)
theorem dX11_is_26 : decode cX11_is 26 = .ok (.aload_n 0, 1) := oc_42 (by decide +kernel)
theorem dX11_is_27 : decode cX11_is 27 = .ok (.getfield 10, 3) := oc_180 (a := 0) (b := 10) (by decide +kernel)
theorem dX11_is_30 : decode cX11_is 30 = .ok (.getfield 208, 3) := oc_180 (a := 0) (b := 208) (by decide +kernel)
theorem dX11_is_33 : decode cX11_is 33 = .ok (.iconst 1, 1) := oc_4 (by decide +kernel)
theorem dX11_is_34 : decode cX11_is 34 = .ok (.iload_n 1, 1) := oc_27 (by decide +kernel)
theorem dX11_is_35 : decode cX11_is 35 = .ok (.iadd, 1) := oc_96 (by decide +kernel)
theorem dX11_is_36 : decode cX11_is 36 = .ok (.iload_n 3, 1) := oc_29 (by decide +kernel)
theorem dX11_is_37 : decode cX11_is 37 = .ok (.aload_n 0, 1) := oc_42 (by decide +kernel)
theorem dX11_is_38 : decode cX11_is 38 = .ok (.getfield 10, 3) := oc_180 (a := 0) (b := 10) (by decide +kernel)
theorem dX11_is_41 : decode cX11_is 41 = .ok (.getfield 143, 3) := oc_180 (a := 0) (b := 143) (by decide +kernel)
theorem dX11_is_44 : decode cX11_is 44 = .ok (.lconst 1, 1) := oc_10 (by decide +kernel)
theorem dX11_is_45 : decode cX11_is 45 = .ok (.iload_n 2, 1) := oc_28 (by decide +kernel)
theorem dX11_is_46 : decode cX11_is 46 = .ok (.lshl, 1) := oc_121 (by decide +kernel)
theorem tw_963 : Cond.methodLink RX11 236 yX3_whoIsSo ∈ wsL_law := sg_41 _ (List.mem_of_getElem? (i := 3) rfl)
theorem dX11_is_47 : decode cX11_is 47 = .ok (.invokevirtual 236, 3) := oc_182 (a := 0) (b := 236) (by decide +kernel)
theorem dX11_is_50 : decode cX11_is 50 = .ok (.lconst 0, 1) := oc_9 (by decide +kernel)
theorem dX11_is_51 : decode cX11_is 51 = .ok (.lcmp, 1) := oc_148 (by decide +kernel)
theorem dX11_is_52 : decode cX11_is 52 = .ok (.ifCond .eq 7, 3) := oc_153 (a := 0) (b := 7) (by decide +kernel)
theorem dX11_is_59 : decode cX11_is 59 = .ok (.iconst 0, 1) := oc_3 (by decide +kernel)
theorem dX11_is_60 : decode cX11_is 60 = .ok (.ireturn, 1) := oc_172 (by decide +kernel)
theorem dX11_is_55 : decode cX11_is 55 = .ok (.iconst 1, 1) := oc_4 (by decide +kernel)
theorem dX11_is_56 : decode cX11_is 56 = .ok (.goto 4, 3) := oc_167 (a := 0) (b := 4) (by decide +kernel)
theorem dX11_why_0 : decode cX11_why 0 = .ok (.iload_n 1, 1) := oc_27 (by decide +kernel)
theorem dX11_why_1 : decode cX11_why 1 = .ok (.iconst 0, 1) := oc_3 (by decide +kernel)
theorem dX11_why_2 : decode cX11_why 2 = .ok (.iconst 2, 1) := oc_5 (by decide +kernel)
theorem dX11_why_3 : decode cX11_why 3 = .ok (.invokestatic 50, 3) := oc_184 (a := 0) (b := 50) (by decide +kernel)
theorem dX11_why_24 : decode cX11_why 24 = .ok (.iconst (-1), 1) := oc_2 (by decide +kernel)
theorem dX11_why_25 : decode cX11_why 25 = .ok (.ireturn, 1) := oc_172 (by decide +kernel)
theorem dX11_why_6 : decode cX11_why 6 = .ok (.ifCond .eq 18, 3) := oc_153 (a := 0) (b := 18) (by decide +kernel)
theorem dX11_why_9 : decode cX11_why 9 = .ok (.aload_n 0, 1) := oc_42 (by decide +kernel)
theorem dX11_why_10 : decode cX11_why 10 = .ok (.iload_n 2, 1) := oc_28 (by decide +kernel)
theorem dX11_why_11 : decode cX11_why 11 = .ok (.invokevirtual 162, 3) := oc_182 (a := 0) (b := 162) (by decide +kernel)
theorem dX11_why_14 : decode cX11_why 14 = .ok (.ifCond .eq 10, 3) := oc_153 (a := 0) (b := 10) (by decide +kernel)
theorem dX11_why_17 : decode cX11_why 17 = .ok (.iload_n 3, 1) := oc_29 (by decide +kernel)
theorem dX11_why_18 : decode cX11_why 18 = .ok (.invokestatic 67, 3) := oc_184 (a := 0) (b := 67) (by decide +kernel)
theorem dX11_why_21 : decode cX11_why 21 = .ok (.ifCond .ne 5, 3) := oc_154 (a := 0) (b := 5) (by decide +kernel)
theorem dX11_why_26 : decode cX11_why 26 = .ok (.aload_n 0, 1) := oc_42 (by decide +kernel)
theorem dX11_why_27 : decode cX11_why 27 = .ok (.getfield 10, 3) := oc_180 (a := 0) (b := 10) (by decide +kernel)
theorem dX11_why_30 : decode cX11_why 30 = .ok (.getfield 208, 3) := oc_180 (a := 0) (b := 208) (by decide +kernel)
theorem dX11_why_33 : decode cX11_why 33 = .ok (.iconst 1, 1) := oc_4 (by decide +kernel)
theorem dX11_why_34 : decode cX11_why 34 = .ok (.iload_n 1, 1) := oc_27 (by decide +kernel)
theorem dX11_why_35 : decode cX11_why 35 = .ok (.iadd, 1) := oc_96 (by decide +kernel)
theorem dX11_why_36 : decode cX11_why 36 = .ok (.iload_n 3, 1) := oc_29 (by decide +kernel)
theorem dX11_why_37 : decode cX11_why 37 = .ok (.aload_n 0, 1) := oc_42 (by decide +kernel)
theorem dX11_why_38 : decode cX11_why 38 = .ok (.getfield 10, 3) := oc_180 (a := 0) (b := 10) (by decide +kernel)
theorem dX11_why_41 : decode cX11_why 41 = .ok (.getfield 143, 3) := oc_180 (a := 0) (b := 143) (by decide +kernel)
theorem dX11_why_44 : decode cX11_why 44 = .ok (.iload_n 2, 1) := oc_28 (by decide +kernel)
theorem tw_979 : Cond.methodLink RX11 240 yX3_clauseBy ∈ wsL_law := sg_41 _ (List.mem_of_getElem? (i := 19) rfl)
theorem tw_980 : Cond.instanceMethod yX3_clauseBy ∈ wsL_law := sg_41 _ (List.mem_of_getElem? (i := 20) rfl)
theorem tw_981 : Cond.selects RX3 yX3_clauseBy yX3_clauseBy ∈ wsL_law := sg_41 _ (List.mem_of_getElem? (i := 21) rfl)
theorem tw_982 : Cond.code yX3_clauseBy cX3_clauseBy 6 (some .int) ∈ wsL_law := sg_41 _ (List.mem_of_getElem? (i := 22) rfl)
theorem dX11_why_45 : decode cX11_why 45 = .ok (.invokevirtual 240, 3) := oc_182 (a := 0) (b := 240) (by decide +kernel)
theorem dX11_why_48 : decode cX11_why 48 = .ok (.ireturn, 1) := oc_172 (by decide +kernel)
theorem dX11_says_0 : decode cX11_says 0 = .ok (.iload_n 1, 1) := oc_27 (by decide +kernel)
theorem dX11_says_1 : decode cX11_says 1 = .ok (.invokestatic 67, 3) := oc_184 (a := 0) (b := 67) (by decide +kernel)
theorem dX11_says_4 : decode cX11_says 4 = .ok (.ifCond .ne 5, 3) := oc_154 (a := 0) (b := 5) (by decide +kernel)
theorem dX11_says_9 : decode cX11_says 9 = .ok (.iload_n 2, 1) := oc_28 (by decide +kernel)
theorem dX11_says_10 : decode cX11_says 10 = .ok (.tableswitch 62 0 2 #[26, 38, 50], 26) := by decide +kernel
theorem dX11_says_36 : decode cX11_says 36 = .ok (.aload_n 0, 1) := oc_42 (by decide +kernel)
theorem dX11_says_37 : decode cX11_says 37 = .ok (.getfield 10, 3) := oc_180 (a := 0) (b := 10) (by decide +kernel)
theorem dX11_says_40 : decode cX11_says 40 = .ok (.getfield 208, 3) := oc_180 (a := 0) (b := 208) (by decide +kernel)
theorem dX11_says_43 : decode cX11_says 43 = .ok (.iload_n 1, 1) := oc_27 (by decide +kernel)
theorem tw_991 : Cond.methodLink RX11 244 yX3_councilIn ∈ wsL_law := sg_42 _ (List.mem_of_getElem? (i := 7) rfl)
theorem dX11_says_44 : decode cX11_says 44 = .ok (.invokevirtual 244, 3) := oc_182 (a := 0) (b := 244) (by decide +kernel)
theorem dX11_says_47 : decode cX11_says 47 = .ok (.ireturn, 1) := oc_172 (by decide +kernel)
theorem dX11_says_48 : decode cX11_says 48 = .ok (.aload_n 0, 1) := oc_42 (by decide +kernel)
theorem dX11_says_49 : decode cX11_says 49 = .ok (.getfield 10, 3) := oc_180 (a := 0) (b := 10) (by decide +kernel)
theorem dX11_says_52 : decode cX11_says 52 = .ok (.getfield 208, 3) := oc_180 (a := 0) (b := 208) (by decide +kernel)
theorem dX11_says_55 : decode cX11_says 55 = .ok (.iload_n 1, 1) := oc_27 (by decide +kernel)
theorem tw_1004 : Cond.methodLink RX11 247 yX3_leaveIn ∈ wsL_law := sg_42 _ (List.mem_of_getElem? (i := 20) rfl)
theorem dX11_says_56 : decode cX11_says 56 = .ok (.invokevirtual 247, 3) := oc_182 (a := 0) (b := 247) (by decide +kernel)
theorem dX11_says_59 : decode cX11_says 59 = .ok (.ireturn, 1) := oc_172 (by decide +kernel)
theorem dX11_says_60 : decode cX11_says 60 = .ok (.aload_n 0, 1) := oc_42 (by decide +kernel)
theorem dX11_says_61 : decode cX11_says 61 = .ok (.getfield 10, 3) := oc_180 (a := 0) (b := 10) (by decide +kernel)
theorem dX11_says_64 : decode cX11_says 64 = .ok (.getfield 208, 3) := oc_180 (a := 0) (b := 208) (by decide +kernel)
theorem dX11_says_67 : decode cX11_says 67 = .ok (.iload_n 1, 1) := oc_27 (by decide +kernel)
theorem tw_1008 : Cond.methodLink RX11 250 yX3_fixIn ∈ wsL_law := sg_43 _ (List.mem_of_getElem? (i := 0) rfl)
theorem dX11_says_68 : decode cX11_says 68 = .ok (.invokevirtual 250, 3) := oc_182 (a := 0) (b := 250) (by decide +kernel)
theorem dX11_says_71 : decode cX11_says 71 = .ok (.ireturn, 1) := oc_172 (by decide +kernel)
theorem dX11_says_72 : decode cX11_says 72 = .ok (.iconst (-1), 1) := oc_2 (by decide +kernel)
theorem dX11_says_73 : decode cX11_says 73 = .ok (.ireturn, 1) := oc_172 (by decide +kernel)
theorem dX11_says_7 : decode cX11_says 7 = .ok (.iconst (-1), 1) := oc_2 (by decide +kernel)
theorem dX11_says_8 : decode cX11_says 8 = .ok (.ireturn, 1) := oc_172 (by decide +kernel)
set_option maxRecDepth 100000 in
def g_X11_titleOf (tI : Nat → Nat → Int32) (tR : Nat → Nat → Nat → Int32) (a0 : Int32) (a1 : Int32) (I : Nat → Int32) (J : Nat → Int64) (ri : Nat → Nat → Int32) (rj : Nat → Nat → Int64) (rq : Nat → Nat → Option Nat) : Int32 × vM := (bnI (g_X11_isCell a0 I J ri rj rq) fun (x_1 : Int32) (_ : Nat → Int32) (_ : Nat → Int64) (_ : Nat → Nat → Int32) (_ : Nat → Nat → Int64) (_ : Nat → Nat → Option Nat) => (if x_1 = (0 : Int32) then ((-1 : Int32), I, J, ri, rj, rq) else (if a1 = (0 : Int32) then (ap1 (ri 325 (a0).toNatClampNeg) fun (x_20 : Int32) => (x_20, I, J, ri, rj, rq)) else (if a1 = (1 : Int32) then (bnI (g_X10_titleStands tI tR a0 I J ri rj rq) fun (x_25 : Int32) (_ : Nat → Int32) (_ : Nat → Int64) (ri_27 : Nat → Nat → Int32) (_ : Nat → Nat → Int64) (_ : Nat → Nat → Option Nat) => (if x_25 = (0 : Int32) then ((0 : Int32), I, J, ri_27, rj, rq) else ((1 : Int32), I, J, ri_27, rj, rq))) else ((-1 : Int32), I, J, ri, rj, rq)))))
set_option maxRecDepth 100000 in
theorem g_X11_titleOf_e {tI : Nat → Nat → Int32} {tR : Nat → Nat → Nat → Int32} {a0 : Int32} {a1 : Int32} {I : Nat → Int32} {J : Nat → Int64} {ri : Nat → Nat → Int32} {rj : Nat → Nat → Int64} {rq : Nat → Nat → Option Nat} : g_X11_titleOf tI tR a0 a1 I J ri rj rq = (bnI (g_X11_isCell a0 I J ri rj rq) fun (x_1 : Int32) (_ : Nat → Int32) (_ : Nat → Int64) (_ : Nat → Nat → Int32) (_ : Nat → Nat → Int64) (_ : Nat → Nat → Option Nat) => (if x_1 = (0 : Int32) then ((-1 : Int32), I, J, ri, rj, rq) else (if a1 = (0 : Int32) then (ap1 (ri 325 (a0).toNatClampNeg) fun (x_20 : Int32) => (x_20, I, J, ri, rj, rq)) else (if a1 = (1 : Int32) then (bnI (g_X10_titleStands tI tR a0 I J ri rj rq) fun (x_25 : Int32) (_ : Nat → Int32) (_ : Nat → Int64) (ri_27 : Nat → Nat → Int32) (_ : Nat → Nat → Int64) (_ : Nat → Nat → Option Nat) => (if x_25 = (0 : Int32) then ((0 : Int32), I, J, ri_27, rj, rq) else ((1 : Int32), I, J, ri_27, rj, rq))) else ((-1 : Int32), I, J, ri, rj, rq))))) := rfl
set_option maxHeartbeats 4000000 in
set_option maxRecDepth 100000 in
theorem s_X11_titleOf (l : Launch) (D : va_G) (t : pq_T) (σ : pq_S) (I : Nat → Nat → Int32) (J : Nat → Nat → Int64) (ri : Nat → Nat → Int32) (rj : Nat → Nat → Int64) (rq : Nat → Nat → Option Nat) (sz : Nat) (tg : Nat → Nat) (hSH : SH σ tg) (hG0 : GS tg σ I ri rq) (this : Nat) (a0 : Int32) (a1 : Int32) (hL_this : this ∈ σ.1) (hK_this : σ.2.1 this = 11) (this_now : Nat) (hR_this_now : σ.2.2.1 352 this = some this_now) (hL_this_now : this_now ∈ σ.1) (hK_this_now : σ.2.1 this_now = 10) : MetI l yX11_titleOf (wa yX11_titleOf cX11_titleOf 3 (some .int)) ({ frames := 6, cells := 0, slots := 0, locals := 161 }) [.ref this, .int a0, .int a1] D t σ (I, J, ri, rj, rq) sz 0 0 (fun (r : Int32) (u : pq_S × pq_M) => ∃ ri' : Nat → Nat → Int32, u = (σ, I, J, ri', rj, rq) ∧ GX [] tg σ I ri rj I ri' rj rq ∧ g_X11_titleOf (tI σ I) (tR σ ri) a0 a1 (vI 10 σ this_now I) (vJ 10 σ this_now J) (vR 10 σ this_now ri) (vL 10 σ this_now rj) (vQ 10 σ this_now rq) = (r, (vI 10 σ this_now I), (vJ 10 σ this_now J), (vR 10 σ this_now ri'), (vL 10 σ this_now rj), (vQ 10 σ this_now rq)) ∧ FR 10 tg σ this_now (I, J, ri, rj, rq) (I, J, ri', rj, rq) ∧ rg r (-1) 39) := by
  refine Met.ofW (cc := cX11_titleOf) (maxL := 3) (ret := (some .int)) (by decide +kernel) rfl ?_
  intro p e s m args below meth c s₁ B hml hv
  obtain ⟨rfl, hsz, hP, hK, hD0, hN⟩ := hv
  have hx := B.exec
  have hb := B.bytes
  have hr := B.returns
  have hts := atoms_spec (ws := (wa yX11_titleOf cX11_titleOf 3 (some .int))) B.pre
  have hown : s.vm.findClass RX11 = some m.cls := findClass_of_methodNamed B.named
  have hlocks := B.notSynchronized
  subst hsz
  have hD : va_D (pq_B t σ (I, J, ri, rj, rq) s.heap.size) (pq_P t σ (I, J, ri, rj, rq)) := hD0.self
  generalize hAe : pq_B t σ (I, J, ri, rj, rq) s.heap.size = A at hD ⊢
  have hA : ∀ q : Nat, s.heap.size ≤ q → A q := fun q h => by rw [← hAe]; exact Or.inr h
  have hS : va_S A s.heap s.heap [] := va_S.rf
  have hG : GX [] tg σ I ri rj I ri rj rq := ⟨hG0, fun _ _ _ => rfl, fun _ _ _ _ _ => rfl, fun _ _ _ _ _ => rfl⟩
  have hl := lv_entry ([.ref this, .int a0, .int a1]) (n := 3) (Nat.le_of_ble_eq_true rfl)
  rw [lg_entry_eq]
  generalize (lg_sl ([.ref this, .int a0, .int a1]) ++ List.replicate (3 - (lg_sl ([.ref this, .int a0, .int a1])).length) Slot.unset).toArray = ls at hl ⊢
  have hl : lv_has ls 3 [(0, .ref this), (1, .int a0), (2, .int a1)] := hl
  refine q_gen (fun Q hQ => ?_)
  have go : ∀ (H : Heap) (locs : List Loc) (ls : Array Slot), va_P D vwCl (pq_P t σ (I, J, ri, rj, rq)) H → va_D A (pq_P t σ (I, J, ri, rj, rq)) → va_S A s.heap H locs → lv_has ls 3 [(0, .ref this), (1, .int a0), (2, .int a1)] → W p l e ({ frames := 6, cells := 0, slots := 0, locals := 161 } : Room) s m (List.toArray ([.ref this, .int a0, .int a1] : List Value)) below meth c H locs 0 0 Q (F0 m 0 ls []) := by
    intro H locs ls hP hD hS hl
    have hVT : VT 10 σ tg this_now := vt_10 hSH hL_this_now hK_this_now
    have hFr : FR 10 tg σ this_now (I, J, ri, rj, rq) (I, J, ri, rj, rq) := fr_rf
    have hO_this_now : this_now = vo σ 10 this_now := rfl
    obtain ⟨F, hF0⟩ : ∃ F, F = g_X11_titleOf (tI σ I) (tR σ ri) a0 a1 (vI 10 σ this_now I) (vJ 10 σ this_now J) (vR 10 σ this_now ri) (vL 10 σ this_now rj) (vQ 10 σ this_now rq) := ⟨_, rfl⟩
    have hF := hF0.trans g_X11_titleOf_e
    refine lv_aload_n hx hb dX11_titleOf_0 rfl (lv_at hl 0 rfl) ?_
    refine lv_iload_n hx hb dX11_titleOf_1 rfl (lv_at hl 1 rfl) ?_
    refine pk_i (va_runV (As := [.int a0]) (rest := []) ⟨hx, hb, hml, hown, hts⟩ (s_X11_isCell l D t σ I J ri rj rq H.size tg hSH hG.1 this a0 hL_this hK_this this_now hR_this_now hL_this_now hK_this_now) (cwV 1 hts (tw_V tw_332 tw_333 tw_334 tw_2 tw_335) rfl rfl rfl cv_yX11_isCell_1 ⟨Nat.le_of_ble_eq_true rfl, Nat.le_of_ble_eq_true rfl⟩) ⟨pq_blind, pq_recv hK hP hL_this hK_this (by decide +kernel) rfl, pq_pre hK hN hP hD⟩ rfl rfl hl.1 rfl (lv_room (Nat.le_of_ble_eq_true rfl)) dX11_titleOf_2 ⟨Nat.le_of_ble_eq_true rfl, Nat.le_of_ble_eq_true rfl⟩) hD hS hA (fun x_1 σ1 μ1 H locs hw_2 hP hD hS => ?_)
    obtain ⟨hu_3, hfn_6, hr_5⟩ := hw_2
    obtain ⟨hu_3a, hu_3b⟩ := Prod.mk.inj hu_3
    rw [hu_3a, hu_3b] at hP hD
    replace hF := hF.trans (bn_n hfn_6)
    have h_8 : rg x_1 0 1 := by rcases hr_5 with ⟨q, -⟩ | ⟨q, -⟩ <;> rw [q] <;> exact ⟨by decide +kernel, by decide +kernel⟩
    refine lv_if_ne (tgt := 10) hx hb dX11_titleOf_5 (by decide +kernel) (fun c_9 => ?_) (fun c_9 => ?_)
    · replace hF := hF.trans (if_neg c_9)
      have f_14 := (hr_5.resolve_right (fun q => c_9 q.1)).2
      have h_15 : rg x_1 1 1 := rg_ne c_9 h_8 0 rfl (by decide +kernel)
      refine lv_iload_n hx hb dX11_titleOf_10 rfl (lv_at hl 2 rfl) ?_
      by_cases k_16 : a1 = (0 : Int32)
      · replace hF := hF.trans (if_pos k_16)
        have h_18 : rg a1 0 0 := rg_and (rg_full _) (rg_of_eq k_16 (rg_k (0 : Int32) 0 rfl)) (by decide +kernel)
        refine lv_tov 0 k_16 ?_
        refine lv_lookup (tgt := 36) hx hb dX11_titleOf_11 (by decide +kernel) rfl (by decide +kernel) ?_
        refine lv_aload_n hx hb dX11_titleOf_36 rfl (lv_at hl 0 rfl) ?_
        refine pg_f (v := .ref this_now) (C := RX11) (T := TX11) (N := 5) hx hb hts (tw_i inlX11) hown hK hP hL_this hK_this (by decide +kernel) rfl 0 (by decide +kernel) (hts _ (tw_c tw_16)) (pq_hv rfl hR_this_now) dX11_titleOf_37 ?_
        obtain ⟨w_19, hR_w_19, hL_w_19, hK_w_19, hN_w_19, hT_w_19⟩ := sh_a hSH 325 (ci := 10) (kd := 13) (len := 40) rfl (by decide +kernel) hL_this_now hK_this_now
        have hO_w_19 : w_19 = vrow σ 325 this_now := vo_k (c := 10) hO_this_now hR_w_19
        refine pg_f (v := .ref w_19) (C := RX10) (T := TX10) (N := 13) hx hb hts (tw_i inlX10) hown hK hP hL_this_now hK_this_now (by decide +kernel) rfl 5 (by decide +kernel) (hts _ (tw_c tw_536)) (pq_hv rfl hR_w_19) dX11_titleOf_40 ?_
        refine lv_iload_n hx hb dX11_titleOf_43 rfl (lv_at hl 1 rfl) ?_
        refine pl_i hx hb hK hP hL_w_19 hK_w_19 hN_w_19 (rg_in f_14 (by decide +kernel)) dX11_titleOf_44 ?_
        refine lv_topi (fun x_20 ex_20 => ?_)
        replace hF := hF.trans (ap_n (vR_r hO_w_19 (by decide +kernel) ex_20))
        have h_21 : rg x_20 (-1) 39 := rg_of_eq ex_20 (GX.rR hG hT_w_19 rfl)
        subst hQ
        exact W.iret (v := x_20) hx hb hr (fun t1 ht hW => ⟨⟨x_20, (σ, I, J, ri, rj, rq), rfl, ⟨ri, rfl, hG, (hF0.symm.trans hF), hFr, (rg_w h_21 (by decide +kernel))⟩, by rw [ht]; exact hP, va_K.moved hW.alike hK, hD⟩, hS.F ht⟩) hS.2.2 dX11_titleOf_45
      replace hF := hF.trans (if_neg k_16)
      by_cases k_22 : a1 = (1 : Int32)
      · replace hF := hF.trans (if_pos k_22)
        have h_24 : rg a1 1 1 := rg_and (rg_full _) (rg_of_eq k_22 (rg_k (1 : Int32) 1 rfl)) (by decide +kernel)
        refine lv_tov 1 k_22 ?_
        refine lv_lookup (tgt := 46) hx hb dX11_titleOf_11 (by decide +kernel) rfl (by decide +kernel) ?_
        refine lv_aload_n hx hb dX11_titleOf_46 rfl (lv_at hl 0 rfl) ?_
        refine pg_f (v := .ref this_now) (C := RX11) (T := TX11) (N := 5) hx hb hts (tw_i inlX11) hown hK hP hL_this hK_this (by decide +kernel) rfl 0 (by decide +kernel) (hts _ (tw_c tw_16)) (pq_hv rfl hR_this_now) dX11_titleOf_47 ?_
        refine lv_iload_n hx hb dX11_titleOf_50 rfl (lv_at hl 1 rfl) ?_
        refine pk_i (va_runV (As := [.int a0]) (rest := []) ⟨hx, hb, hml, hown, hts⟩ (s_X10_titleStands l D t σ I J ri rj rq H.size tg hSH hG.1 this_now a0 hL_this_now hK_this_now (rg_w f_14 (by decide +kernel))) (cwV 1 hts (tw_V tw_545 tw_546 tw_547 tw_15 tw_548) rfl rfl rfl cv_yX10_titleStands_1 ⟨Nat.le_of_ble_eq_true rfl, Nat.le_of_ble_eq_true rfl⟩) ⟨pq_blind, pq_recv hK hP hL_this_now hK_this_now (by decide +kernel) rfl, pq_pre hK hN hP hD⟩ rfl rfl hl.1 rfl (lv_room (Nat.le_of_ble_eq_true rfl)) dX11_titleOf_51 ⟨Nat.le_of_ble_eq_true rfl, Nat.le_of_ble_eq_true rfl⟩) hD hS hA (fun x_25 σ1 μ1 H locs hw_26 hP hD hS => ?_)
        obtain ⟨ri_27, hu_28, hg_29, hfn_31, hfr_32, hr_30⟩ := hw_26
        obtain ⟨hu_28a, hu_28b⟩ := Prod.mk.inj hu_28
        rw [hu_28a, hu_28b] at hP hD
        replace hF := hF.trans (bn_n hfn_31)
        replace hFr := fr_tr hFr hfr_32
        have hG := GX.tr hG hg_29 (by decide +kernel)
        have h_33 : rg x_25 0 1 := by rcases hr_30 with ⟨q, -⟩ | ⟨q, -⟩ <;> rw [q] <;> exact ⟨by decide +kernel, by decide +kernel⟩
        refine lv_if_eq (tgt := 61) hx hb dX11_titleOf_54 (by decide +kernel) (fun c_34 => ?_) (fun c_34 => ?_)
        · replace hF := hF.trans (if_pos c_34)
          have h_37 : rg x_25 0 0 := rg_and h_33 (rg_of_eq c_34 (rg_k (0 : Int32) 0 rfl)) (by decide +kernel)
          refine lv_iconst (v := 0) hx hb dX11_titleOf_61 (by decide +kernel) ?_
          subst hQ
          exact W.iret (v := 0) hx hb hr (fun t1 ht hW => ⟨⟨0, (σ, I, J, ri_27, rj, rq), rfl, ⟨ri_27, rfl, hG, (hF0.symm.trans hF), hFr, (rg_w (rg_k (0 : Int32) 0 rfl) (by decide +kernel))⟩, by rw [ht]; exact hP, va_K.moved hW.alike hK, hD⟩, hS.F ht⟩) hS.2.2 dX11_titleOf_62
        · replace hF := hF.trans (if_neg c_34)
          have h_38 : rg x_25 1 1 := rg_ne c_34 h_33 0 rfl (by decide +kernel)
          refine lv_iconst (v := 1) hx hb dX11_titleOf_57 (by decide +kernel) ?_
          refine lv_goto (tgt := 62) hx hb dX11_titleOf_58 (by decide +kernel) ?_
          subst hQ
          exact W.iret (v := 1) hx hb hr (fun t1 ht hW => ⟨⟨1, (σ, I, J, ri_27, rj, rq), rfl, ⟨ri_27, rfl, hG, (hF0.symm.trans hF), hFr, (rg_w (rg_k (1 : Int32) 1 rfl) (by decide +kernel))⟩, by rw [ht]; exact hP, va_K.moved hW.alike hK, hD⟩, hS.F ht⟩) hS.2.2 dX11_titleOf_62
      replace hF := hF.trans (if_neg k_22)
      refine lv_lookup (tgt := 63) (off := (52)) hx hb dX11_titleOf_11 (by decide +kernel) (by have z_k_16 := (sw_ne k_16 (n := 0) rfl).symm; have z_k_22 := (sw_ne k_22 (n := 1) rfl).symm; simp [Op.lookupswitch.offset, z_k_16, z_k_22]) (by decide +kernel) ?_
      refine lv_iconst (v := (-1)) hx hb dX11_titleOf_63 (by decide +kernel) ?_
      subst hQ
      exact W.iret (v := (-1)) hx hb hr (fun t1 ht hW => ⟨⟨(-1), (σ, I, J, ri, rj, rq), rfl, ⟨ri, rfl, hG, (hF0.symm.trans hF), hFr, (rg_w (rg_k (-1 : Int32) (-1) rfl) (by decide +kernel))⟩, by rw [ht]; exact hP, va_K.moved hW.alike hK, hD⟩, hS.F ht⟩) hS.2.2 dX11_titleOf_64
    · replace hF := hF.trans (if_pos c_9)
      have f_39 := (hr_5.resolve_left (fun q => absurd (q.1.symm.trans c_9) (by decide +kernel))).2
      have h_40 : rg x_1 0 0 := rg_and h_8 (rg_of_eq c_9 (rg_k (0 : Int32) 0 rfl)) (by decide +kernel)
      refine lv_iconst (v := (-1)) hx hb dX11_titleOf_8 (by decide +kernel) ?_
      subst hQ
      exact W.iret (v := (-1)) hx hb hr (fun t1 ht hW => ⟨⟨(-1), (σ, I, J, ri, rj, rq), rfl, ⟨ri, rfl, hG, (hF0.symm.trans hF), hFr, (rg_w (rg_k (-1 : Int32) (-1) rfl) (by decide +kernel))⟩, by rw [ht]; exact hP, va_K.moved hW.alike hK, hD⟩, hS.F ht⟩) hS.2.2 dX11_titleOf_9
  exact go _ _ _ hP hD hS hl

set_option maxRecDepth 100000 in
def g_X11_choose_K17 (I : Nat → Int32) (J : Nat → Int64) (ri : Nat → Nat → Int32) (rj : Nat → Nat → Int64) (rq : Nat → Nat → Option Nat) : Int32 × vM := ((0 : Int32), I, J, ri, rj, rq)
set_option maxRecDepth 100000 in
theorem g_X11_choose_K17_e {I : Nat → Int32} {J : Nat → Int64} {ri : Nat → Nat → Int32} {rj : Nat → Nat → Int64} {rq : Nat → Nat → Option Nat} : g_X11_choose_K17 I J ri rj rq  = ((0 : Int32), I, J, ri, rj, rq) := rfl
set_option maxRecDepth 100000 in
def g_X11_choose (a0 : Int32) (a1 : Int32) (I : Nat → Int32) (J : Nat → Int64) (ri : Nat → Nat → Int32) (rj : Nat → Nat → Int64) (rq : Nat → Nat → Option Nat) : Int32 × vM := (bnI (g_X11_isPerson a0 I J ri rj rq) fun (x_1 : Int32) (_ : Nat → Int32) (_ : Nat → Int64) (_ : Nat → Nat → Int32) (_ : Nat → Nat → Int64) (_ : Nat → Nat → Option Nat) => (if x_1 = (0 : Int32) then (g_X11_choose_K17 I J ri rj rq ) else (ap1 (g_X11_between a1 (-1 : Int32) (1 : Int32)) fun (x_43 : Int32) => (if x_43 = (0 : Int32) then (g_X11_choose_K17 I J ri rj rq ) else (ap1 (va_up ri 9 (upd (ri 9) (a0).toNatClampNeg a1)) fun (r_66 : Nat → Nat → Int32) => ((1 : Int32), I, J, r_66, rj, rq))))))
set_option maxRecDepth 100000 in
theorem g_X11_choose_e {a0 : Int32} {a1 : Int32} {I : Nat → Int32} {J : Nat → Int64} {ri : Nat → Nat → Int32} {rj : Nat → Nat → Int64} {rq : Nat → Nat → Option Nat} : g_X11_choose a0 a1 I J ri rj rq = (bnI (g_X11_isPerson a0 I J ri rj rq) fun (x_1 : Int32) (_ : Nat → Int32) (_ : Nat → Int64) (_ : Nat → Nat → Int32) (_ : Nat → Nat → Int64) (_ : Nat → Nat → Option Nat) => (if x_1 = (0 : Int32) then (g_X11_choose_K17 I J ri rj rq ) else (ap1 (g_X11_between a1 (-1 : Int32) (1 : Int32)) fun (x_43 : Int32) => (if x_43 = (0 : Int32) then (g_X11_choose_K17 I J ri rj rq ) else (ap1 (va_up ri 9 (upd (ri 9) (a0).toNatClampNeg a1)) fun (r_66 : Nat → Nat → Int32) => ((1 : Int32), I, J, r_66, rj, rq)))))) := rfl
set_option maxHeartbeats 4000000 in
set_option maxRecDepth 100000 in
theorem s_X11_choose (l : Launch) (D : va_G) (t : pq_T) (σ : pq_S) (I : Nat → Nat → Int32) (J : Nat → Nat → Int64) (ri : Nat → Nat → Int32) (rj : Nat → Nat → Int64) (rq : Nat → Nat → Option Nat) (sz : Nat) (tg : Nat → Nat) (hSH : SH σ tg) (hG0 : GS tg σ I ri rq) (this : Nat) (a0 : Int32) (a1 : Int32) (hL_this : this ∈ σ.1) (hK_this : σ.2.1 this = 11) (this_now : Nat) (hR_this_now : σ.2.2.1 352 this = some this_now) (hL_this_now : this_now ∈ σ.1) (hK_this_now : σ.2.1 this_now = 10) : MetI l yX11_choose (wa yX11_choose cX11_choose 3 (some .boolean)) ({ frames := 2, cells := 0, slots := 0, locals := 43 }) [.ref this, .int a0, .int a1] D t σ (I, J, ri, rj, rq) sz 0 0 (fun (r : Int32) (u : pq_S × pq_M) => ∃ ri' : Nat → Nat → Int32, u = (σ, I, J, ri', rj, rq) ∧ GX [] tg σ I ri rj I ri' rj rq ∧ g_X11_choose a0 a1 (vI 10 σ this_now I) (vJ 10 σ this_now J) (vR 10 σ this_now ri) (vL 10 σ this_now rj) (vQ 10 σ this_now rq) = (r, (vI 10 σ this_now I), (vJ 10 σ this_now J), (vR 10 σ this_now ri'), (vL 10 σ this_now rj), (vQ 10 σ this_now rq)) ∧ FR 10 tg σ this_now (I, J, ri, rj, rq) (I, J, ri', rj, rq) ∧ ((r = 1 ∧ rg a0 0 39 ∧ rg a1 (-1) 1) ∨ (r = 0 ∧ True))) := by
  refine Met.ofW (cc := cX11_choose) (maxL := 3) (ret := (some .boolean)) (by decide +kernel) rfl ?_
  intro p e s m args below meth c s₁ B hml hv
  obtain ⟨rfl, hsz, hP, hK, hD0, hN⟩ := hv
  have hx := B.exec
  have hb := B.bytes
  have hr := B.returns
  have hts := atoms_spec (ws := (wa yX11_choose cX11_choose 3 (some .boolean))) B.pre
  have hown : s.vm.findClass RX11 = some m.cls := findClass_of_methodNamed B.named
  have hlocks := B.notSynchronized
  subst hsz
  have hD : va_D (pq_B t σ (I, J, ri, rj, rq) s.heap.size) (pq_P t σ (I, J, ri, rj, rq)) := hD0.self
  generalize hAe : pq_B t σ (I, J, ri, rj, rq) s.heap.size = A at hD ⊢
  have hA : ∀ q : Nat, s.heap.size ≤ q → A q := fun q h => by rw [← hAe]; exact Or.inr h
  have hS : va_S A s.heap s.heap [] := va_S.rf
  have hG : GX [] tg σ I ri rj I ri rj rq := ⟨hG0, fun _ _ _ => rfl, fun _ _ _ _ _ => rfl, fun _ _ _ _ _ => rfl⟩
  have hl := lv_entry ([.ref this, .int a0, .int a1]) (n := 3) (Nat.le_of_ble_eq_true rfl)
  rw [lg_entry_eq]
  generalize (lg_sl ([.ref this, .int a0, .int a1]) ++ List.replicate (3 - (lg_sl ([.ref this, .int a0, .int a1])).length) Slot.unset).toArray = ls at hl ⊢
  have hl : lv_has ls 3 [(0, .ref this), (1, .int a0), (2, .int a1)] := hl
  refine q_gen (fun Q hQ => ?_)
  have go : ∀ (H : Heap) (locs : List Loc) (ls : Array Slot), va_P D vwCl (pq_P t σ (I, J, ri, rj, rq)) H → va_D A (pq_P t σ (I, J, ri, rj, rq)) → va_S A s.heap H locs → lv_has ls 3 [(0, .ref this), (1, .int a0), (2, .int a1)] → W p l e ({ frames := 2, cells := 0, slots := 0, locals := 43 } : Room) s m (List.toArray ([.ref this, .int a0, .int a1] : List Value)) below meth c H locs 0 0 Q (F0 m 0 ls []) := by
    intro H locs ls hP hD hS hl
    have hVT : VT 10 σ tg this_now := vt_10 hSH hL_this_now hK_this_now
    have hFr : FR 10 tg σ this_now (I, J, ri, rj, rq) (I, J, ri, rj, rq) := fr_rf
    have hO_this_now : this_now = vo σ 10 this_now := rfl
    obtain ⟨F, hF0⟩ : ∃ F, F = g_X11_choose a0 a1 (vI 10 σ this_now I) (vJ 10 σ this_now J) (vR 10 σ this_now ri) (vL 10 σ this_now rj) (vQ 10 σ this_now rq) := ⟨_, rfl⟩
    have hF := hF0.trans g_X11_choose_e
    refine lv_aload_n hx hb dX11_choose_0 rfl (lv_at hl 0 rfl) ?_
    refine lv_iload_n hx hb dX11_choose_1 rfl (lv_at hl 1 rfl) ?_
    refine pk_i (va_runV (As := [.int a0]) (rest := []) ⟨hx, hb, hml, hown, hts⟩ (s_X11_isPerson l D t σ I J ri rj rq H.size tg hSH hG.1 this a0 hL_this hK_this this_now hR_this_now hL_this_now hK_this_now) (cwV 1 hts (tw_V tw_405 tw_406 tw_407 tw_2 tw_408) rfl rfl rfl cv_yX11_isPerson_1 ⟨Nat.le_of_ble_eq_true rfl, Nat.le_of_ble_eq_true rfl⟩) ⟨pq_blind, pq_recv hK hP hL_this hK_this (by decide +kernel) rfl, pq_pre hK hN hP hD⟩ rfl rfl hl.1 rfl (lv_room (Nat.le_of_ble_eq_true rfl)) dX11_choose_2 ⟨Nat.le_of_ble_eq_true rfl, Nat.le_of_ble_eq_true rfl⟩) hD hS hA (fun x_1 σ1 μ1 H locs hw_2 hP hD hS => ?_)
    obtain ⟨hu_3, hfn_6, hr_5⟩ := hw_2
    obtain ⟨hu_3a, hu_3b⟩ := Prod.mk.inj hu_3
    rw [hu_3a, hu_3b] at hP hD
    replace hF := hF.trans (bn_n hfn_6)
    have h_8 : rg x_1 0 1 := by rcases hr_5 with ⟨q, -⟩ | ⟨q, -⟩ <;> rw [q] <;> exact ⟨by decide +kernel, by decide +kernel⟩
    have K_33 : ∀  (H : Heap) (locs : List Loc) (ls : Array Slot), F = g_X11_choose_K17 (vI 10 σ this_now I) (vJ 10 σ this_now J) (vR 10 σ this_now ri) (vL 10 σ this_now rj) (vQ 10 σ this_now rq)  → FR 10 tg σ this_now (I, J, ri, rj, rq) (I, J, ri, rj, rq) → GX [] tg σ I ri rj I ri rj rq → va_P D vwCl (pq_P t σ (I, J, ri, rj, rq)) H → va_D A (pq_P t σ (I, J, ri, rj, rq)) → va_S A s.heap H locs → lv_has ls 3 [] → W p l e ({ frames := 2, cells := 0, slots := 0, locals := 43 } : Room) s m (List.toArray ([.ref this, .int a0, .int a1] : List Value)) below meth c H locs 0 0 Q (F0 m 17 ls []) := by
      intro H locs ls hF hFr hG hP hD hS hl
      replace hF := hF.trans g_X11_choose_K17_e
      refine lv_iconst (v := 0) hx hb dX11_choose_17 (by decide +kernel) ?_
      subst hQ
      exact W.zret (v := 0) hx hb hr (by decide +kernel) (fun t1 ht hW => ⟨⟨0, (σ, I, J, ri, rj, rq), rfl, ⟨ri, rfl, hG, (hF0.symm.trans hF), hFr, (Or.inr ⟨rfl, trivial⟩)⟩, by rw [ht]; exact hP, va_K.moved hW.alike hK, hD⟩, hS.F ht⟩) hS.2.2 dX11_choose_18
    refine lv_if_eq (tgt := 17) hx hb dX11_choose_5 (by decide +kernel) (fun c_34 => ?_) (fun c_34 => ?_)
    · replace hF := hF.trans (if_pos c_34)
      have f_39 := (hr_5.resolve_left (fun q => absurd (q.1.symm.trans c_34) (by decide +kernel))).2
      have h_40 : rg x_1 0 0 := rg_and h_8 (rg_of_eq c_34 (rg_k (0 : Int32) 0 rfl)) (by decide +kernel)
      exact K_33 _ _ _ hF hFr hG hP hD hS (lv_sub hl [] rfl)
    · replace hF := hF.trans (if_neg c_34)
      have f_41 := (hr_5.resolve_right (fun q => c_34 q.1)).2
      have h_42 : rg x_1 1 1 := rg_ne c_34 h_8 0 rfl (by decide +kernel)
      refine lv_iload_n hx hb dX11_choose_8 rfl (lv_at hl 2 rfl) ?_
      refine lv_iconst (v := (-1)) hx hb dX11_choose_9 (by decide +kernel) ?_
      refine lv_iconst (v := 1) hx hb dX11_choose_10 (by decide +kernel) ?_
      refine pk_i (va_runS (As := [.int a1, .int (-1), .int 1]) (rest := []) ⟨hx, hb, hml, hown, hts⟩ (s_X11_between l D t σ I J ri rj rq H.size tg hSH hG.1 a1 (-1 : Int32) (1 : Int32)) (va_cwS 3 hts (tw_S tw_215 tw_216 tw_2 tw_217) rfl rfl rfl cd_yX11_between_3 ⟨Nat.le_of_ble_eq_true rfl, Nat.le_of_ble_eq_true rfl⟩) ⟨pq_blind, pq_pre hK hN hP hD⟩ rfl rfl hl.1 rfl (lv_room (Nat.le_of_ble_eq_true rfl)) dX11_choose_11 ⟨Nat.le_of_ble_eq_true rfl, Nat.le_of_ble_eq_true rfl⟩) hD hS hA (fun x_43 σ1 μ1 H locs hw_44 hP hD hS => ?_)
      obtain ⟨hu_45, hfn_48, hr_47⟩ := hw_44
      obtain ⟨hu_45a, hu_45b⟩ := Prod.mk.inj hu_45
      rw [hu_45a, hu_45b] at hP hD
      replace hF := hF.trans (ap_n hfn_48.symm)
      have h_50 : rg x_43 0 1 := by rcases hr_47 with ⟨q, -⟩ | ⟨q, -⟩ <;> rw [q] <;> exact ⟨by decide +kernel, by decide +kernel⟩
      refine lv_if_ne (tgt := 19) hx hb dX11_choose_14 (by decide +kernel) (fun c_51 => ?_) (fun c_51 => ?_)
      · replace hF := hF.trans (if_neg c_51)
        obtain ⟨f_59, f_60⟩ := (hr_47.resolve_right (fun q => c_51 q.1)).2
        have h_61 : rg a1 (-1) 2147483647 := rg_le2 f_59 (rg_k (-1 : Int32) (-1) rfl) (rg_full _) (by decide +kernel)
        have h_62 : rg a1 (-1) 1 := rg_le1 f_60 h_61 (rg_k (1 : Int32) 1 rfl) (by decide +kernel)
        have h_63 : rg x_43 1 1 := rg_ne c_51 h_50 0 rfl (by decide +kernel)
        refine lv_aload_n hx hb dX11_choose_19 rfl (lv_at hl 0 rfl) ?_
        refine pg_f (v := .ref this_now) (C := RX11) (T := TX11) (N := 5) hx hb hts (tw_i inlX11) hown hK hP hL_this hK_this (by decide +kernel) rfl 0 (by decide +kernel) (hts _ (tw_c tw_16)) (pq_hv rfl hR_this_now) dX11_choose_20 ?_
        obtain ⟨w_64, hR_w_64, hL_w_64, hK_w_64⟩ := sh_o hSH 328 (ci := 10) (kd := 0) rfl hL_this_now hK_this_now
        have hO_w_64 : w_64 = vo σ 0 this_now := vo_k (c := 10) hO_this_now hR_w_64
        refine pg_f (v := .ref w_64) (C := RX10) (T := TX10) (N := 13) hx hb hts (tw_i inlX10) hown hK hP hL_this_now hK_this_now (by decide +kernel) rfl 8 (by decide +kernel) (hts _ (tw_c tw_379)) (pq_hv rfl hR_w_64) dX11_choose_23 ?_
        obtain ⟨w_65, hR_w_65, hL_w_65, hK_w_65, hN_w_65, hT_w_65⟩ := sh_a hSH 9 (ci := 0) (kd := 13) (len := 40) rfl (by decide +kernel) hL_w_64 hK_w_64
        have hO_w_65 : w_65 = vrow σ 9 this_now := vo_k (c := 0) hO_w_64 hR_w_65
        refine pg_f (v := .ref w_65) (C := RX0) (T := TX0) (N := 16) hx hb hts (tw_i inlX0) hown hK hP hL_w_64 hK_w_64 (by decide +kernel) rfl 9 (by decide +kernel) (hts _ (tw_c tw_1325)) (pq_hv rfl hR_w_65) dX11_choose_26 ?_
        refine lv_iload_n hx hb dX11_choose_29 rfl (lv_at hl 1 rfl) ?_
        refine lv_iload_n hx hb dX11_choose_30 rfl (lv_at hl 2 rfl) ?_
        refine pt_i hx hb hK hP hD hS hL_w_65 hK_w_65 hN_w_65 (rg_in f_41 (by decide +kernel)) dX11_choose_31 (fun r_66 H locs er_66 hP hD hS => ?_)
        replace hFr := fr_R hFr hO_w_65 (by decide +kernel) er_66
        replace hF := hF.trans (ap_n (vR_st hVT hO_w_65 (by decide +kernel) er_66))
        have hG := GX.wR hG hSH hT_w_65 rfl er_66 (rg_w h_62 (by decide +kernel)) (by decide +kernel)
        refine lv_iconst (v := 1) hx hb dX11_choose_32 (by decide +kernel) ?_
        subst hQ
        exact W.zret (v := 1) hx hb hr (by decide +kernel) (fun t1 ht hW => ⟨⟨1, (σ, I, J, r_66, rj, rq), rfl, ⟨r_66, rfl, hG, (hF0.symm.trans hF), hFr, (Or.inl ⟨rfl, (rg_w f_41 (by decide +kernel)), (rg_w h_62 (by decide +kernel))⟩)⟩, by rw [ht]; exact hP, va_K.moved hW.alike hK, hD⟩, hS.F ht⟩) hS.2.2 dX11_choose_33
      · replace hF := hF.trans (if_pos c_51)
        have f_67 := (hr_47.resolve_left (fun q => absurd (q.1.symm.trans c_51) (by decide +kernel))).2
        have h_68 : rg x_43 0 0 := rg_and h_50 (rg_of_eq c_51 (rg_k (0 : Int32) 0 rfl)) (by decide +kernel)
        exact K_33 _ _ _ hF hFr hG hP hD hS (lv_sub hl [] rfl)
  exact go _ _ _ hP hD hS hl

set_option maxRecDepth 100000 in
def g_X11_council (tI : Nat → Nat → Int32) (tR : Nat → Nat → Nat → Int32) (a0 : Int64) (I : Nat → Int32) (J : Nat → Int64) (ri : Nat → Nat → Int32) (rj : Nat → Nat → Int64) (rq : Nat → Nat → Option Nat) : Int32 × vM := (ap1 (I 0) fun (y_3 : Int32) => (ap1 ((a0.toUInt64 >>> ((y_3).toInt64.toUInt64 &&& Int64.toUInt64 63)).toInt64) fun (x_4 : Int64) => (ap1 (lg_cmp x_4 (0 : Int64)) fun (x_5 : Int32) => (if x_5 = (0 : Int32) then (bnI (g_X10_decide tI tR a0 I J ri rj rq) fun (x_9 : Int32) (_ : Nat → Int32) (_ : Nat → Int64) (ri_11 : Nat → Nat → Int32) (_ : Nat → Nat → Int64) (_ : Nat → Nat → Option Nat) => (x_9, I, J, ri_11, rj, rq)) else ((-1 : Int32), I, J, ri, rj, rq)))))
set_option maxRecDepth 100000 in
theorem g_X11_council_e {tI : Nat → Nat → Int32} {tR : Nat → Nat → Nat → Int32} {a0 : Int64} {I : Nat → Int32} {J : Nat → Int64} {ri : Nat → Nat → Int32} {rj : Nat → Nat → Int64} {rq : Nat → Nat → Option Nat} : g_X11_council tI tR a0 I J ri rj rq = (ap1 (I 0) fun (y_3 : Int32) => (ap1 ((a0.toUInt64 >>> ((y_3).toInt64.toUInt64 &&& Int64.toUInt64 63)).toInt64) fun (x_4 : Int64) => (ap1 (lg_cmp x_4 (0 : Int64)) fun (x_5 : Int32) => (if x_5 = (0 : Int32) then (bnI (g_X10_decide tI tR a0 I J ri rj rq) fun (x_9 : Int32) (_ : Nat → Int32) (_ : Nat → Int64) (ri_11 : Nat → Nat → Int32) (_ : Nat → Nat → Int64) (_ : Nat → Nat → Option Nat) => (x_9, I, J, ri_11, rj, rq)) else ((-1 : Int32), I, J, ri, rj, rq))))) := rfl
set_option maxHeartbeats 4000000 in
set_option maxRecDepth 100000 in
theorem s_X11_council (l : Launch) (D : va_G) (t : pq_T) (σ : pq_S) (I : Nat → Nat → Int32) (J : Nat → Nat → Int64) (ri : Nat → Nat → Int32) (rj : Nat → Nat → Int64) (rq : Nat → Nat → Option Nat) (sz : Nat) (tg : Nat → Nat) (hSH : SH σ tg) (hG0 : GS tg σ I ri rq) (this : Nat) (a0 : Int64) (hL_this : this ∈ σ.1) (hK_this : σ.2.1 this = 11) (this_now : Nat) (hR_this_now : σ.2.2.1 352 this = some this_now) (hL_this_now : this_now ∈ σ.1) (hK_this_now : σ.2.1 this_now = 10) : MetI l yX11_council (wa yX11_council cX11_council 3 (some .int)) ({ frames := 6, cells := 0, slots := 0, locals := 170 }) [.ref this, .long a0] D t σ (I, J, ri, rj, rq) sz 0 0 (fun (r : Int32) (u : pq_S × pq_M) => ∃ ri' : Nat → Nat → Int32, u = (σ, I, J, ri', rj, rq) ∧ GX [] tg σ I ri rj I ri' rj rq ∧ g_X11_council (tI σ I) (tR σ ri) a0 (vI 10 σ this_now I) (vJ 10 σ this_now J) (vR 10 σ this_now ri) (vL 10 σ this_now rj) (vQ 10 σ this_now rq) = (r, (vI 10 σ this_now I), (vJ 10 σ this_now J), (vR 10 σ this_now ri'), (vL 10 σ this_now rj), (vQ 10 σ this_now rq)) ∧ FR 10 tg σ this_now (I, J, ri, rj, rq) (I, J, ri', rj, rq) ∧ rg r (-1) 2) := by
  refine Met.ofW (cc := cX11_council) (maxL := 3) (ret := (some .int)) (by decide +kernel) rfl ?_
  intro p e s m args below meth c s₁ B hml hv
  obtain ⟨rfl, hsz, hP, hK, hD0, hN⟩ := hv
  have hx := B.exec
  have hb := B.bytes
  have hr := B.returns
  have hts := atoms_spec (ws := (wa yX11_council cX11_council 3 (some .int))) B.pre
  have hown : s.vm.findClass RX11 = some m.cls := findClass_of_methodNamed B.named
  have hlocks := B.notSynchronized
  subst hsz
  have hD : va_D (pq_B t σ (I, J, ri, rj, rq) s.heap.size) (pq_P t σ (I, J, ri, rj, rq)) := hD0.self
  generalize hAe : pq_B t σ (I, J, ri, rj, rq) s.heap.size = A at hD ⊢
  have hA : ∀ q : Nat, s.heap.size ≤ q → A q := fun q h => by rw [← hAe]; exact Or.inr h
  have hS : va_S A s.heap s.heap [] := va_S.rf
  have hG : GX [] tg σ I ri rj I ri rj rq := ⟨hG0, fun _ _ _ => rfl, fun _ _ _ _ _ => rfl, fun _ _ _ _ _ => rfl⟩
  have hl := lv_entry ([.ref this, .long a0]) (n := 3) (Nat.le_of_ble_eq_true rfl)
  rw [lg_entry_eq]
  generalize (lg_sl ([.ref this, .long a0]) ++ List.replicate (3 - (lg_sl ([.ref this, .long a0])).length) Slot.unset).toArray = ls at hl ⊢
  have hl : lv_has ls 3 [(0, .ref this), (1, .long a0)] := hl
  refine q_gen (fun Q hQ => ?_)
  have go : ∀ (H : Heap) (locs : List Loc) (ls : Array Slot), va_P D vwCl (pq_P t σ (I, J, ri, rj, rq)) H → va_D A (pq_P t σ (I, J, ri, rj, rq)) → va_S A s.heap H locs → lv_has ls 3 [(0, .ref this), (1, .long a0)] → W p l e ({ frames := 6, cells := 0, slots := 0, locals := 170 } : Room) s m (List.toArray ([.ref this, .long a0] : List Value)) below meth c H locs 0 0 Q (F0 m 0 ls []) := by
    intro H locs ls hP hD hS hl
    have hVT : VT 10 σ tg this_now := vt_10 hSH hL_this_now hK_this_now
    have hFr : FR 10 tg σ this_now (I, J, ri, rj, rq) (I, J, ri, rj, rq) := fr_rf
    have hO_this_now : this_now = vo σ 10 this_now := rfl
    obtain ⟨F, hF0⟩ : ∃ F, F = g_X11_council (tI σ I) (tR σ ri) a0 (vI 10 σ this_now I) (vJ 10 σ this_now J) (vR 10 σ this_now ri) (vL 10 σ this_now rj) (vQ 10 σ this_now rq) := ⟨_, rfl⟩
    have hF := hF0.trans g_X11_council_e
    refine lv_lload_n hx hb dX11_council_0 rfl (lv_at hl 1 rfl) ?_
    refine lv_aload_n hx hb dX11_council_1 rfl (lv_at hl 0 rfl) ?_
    refine pg_f (v := .ref this_now) (C := RX11) (T := TX11) (N := 5) hx hb hts (tw_i inlX11) hown hK hP hL_this hK_this (by decide +kernel) rfl 0 (by decide +kernel) (hts _ (tw_c tw_16)) (pq_hv rfl hR_this_now) dX11_council_2 ?_
    obtain ⟨w_1, hR_w_1, hL_w_1, hK_w_1⟩ := sh_o hSH 328 (ci := 10) (kd := 0) rfl hL_this_now hK_this_now
    have hO_w_1 : w_1 = vo σ 0 this_now := vo_k (c := 10) hO_this_now hR_w_1
    refine pg_f (v := .ref w_1) (C := RX10) (T := TX10) (N := 13) hx hb hts (tw_i inlX10) hown hK hP hL_this_now hK_this_now (by decide +kernel) rfl 8 (by decide +kernel) (hts _ (tw_c tw_379)) (pq_hv rfl hR_w_1) dX11_council_5 ?_
    refine pg_f (v := .int (I 0 w_1)) (C := RX0) (T := TX0) (N := 16) hx hb hts (tw_i inlX0) hown hK hP hL_w_1 hK_w_1 (by decide +kernel) rfl 0 (by decide +kernel) (hts _ (tw_c tw_390)) rfl dX11_council_8 ?_
    have h_2 : rg (I 0 w_1) 0 40 := GX.rI hG 0 rfl
    replace hF := hF.trans (ap_n (vI_e (f := 0) hO_w_1 (by decide +kernel)))
    refine lv_lushr hx hb dX11_council_11 rfl ?_
    refine lv_topl (fun x_4 ex_4 => ?_)
    replace hF := hF.trans (ap_n ex_4)
    refine lv_lconst (v := 0) hx hb dX11_council_12 (by decide +kernel) ?_
    refine W.lcmp hx hb dX11_council_13 ?_
    refine lv_topi (fun x_5 ex_5 => ?_)
    replace hF := hF.trans (ap_n ex_5)
    refine lv_if_eq (tgt := 19) hx hb dX11_council_14 (by decide +kernel) (fun c_6 => ?_) (fun c_6 => ?_)
    · replace hF := hF.trans (if_pos c_6)
      have h_8 : rg x_5 0 0 := rg_and (rg_full _) (rg_of_eq c_6 (rg_k (0 : Int32) 0 rfl)) (by decide +kernel)
      refine lv_aload_n hx hb dX11_council_19 rfl (lv_at hl 0 rfl) ?_
      refine pg_f (v := .ref this_now) (C := RX11) (T := TX11) (N := 5) hx hb hts (tw_i inlX11) hown hK hP hL_this hK_this (by decide +kernel) rfl 0 (by decide +kernel) (hts _ (tw_c tw_16)) (pq_hv rfl hR_this_now) dX11_council_20 ?_
      refine lv_lload_n hx hb dX11_council_23 rfl (lv_at hl 1 rfl) ?_
      refine pk_i (va_runV (As := [.long a0]) (rest := []) ⟨hx, hb, hml, hown, hts⟩ (s_X10_decide l D t σ I J ri rj rq H.size tg hSH hG.1 this_now a0 hL_this_now hK_this_now) (cwV 1 hts (tw_V tw_1334 tw_1335 tw_1336 tw_15 tw_1337) rfl rfl rfl cv_yX10_decide_1 ⟨Nat.le_of_ble_eq_true rfl, Nat.le_of_ble_eq_true rfl⟩) ⟨pq_blind, pq_recv hK hP hL_this_now hK_this_now (by decide +kernel) rfl, pq_pre hK hN hP hD⟩ rfl rfl hl.1 rfl (lv_room (Nat.le_of_ble_eq_true rfl)) dX11_council_24 ⟨Nat.le_of_ble_eq_true rfl, Nat.le_of_ble_eq_true rfl⟩) hD hS hA (fun x_9 σ1 μ1 H locs hw_10 hP hD hS => ?_)
      obtain ⟨ri_11, hu_12, hg_13, hfn_15, hfr_16, hr_14⟩ := hw_10
      obtain ⟨hu_12a, hu_12b⟩ := Prod.mk.inj hu_12
      rw [hu_12a, hu_12b] at hP hD
      replace hF := hF.trans (bn_n hfn_15)
      replace hFr := fr_tr hFr hfr_16
      have hG := GX.tr hG hg_13 (by decide +kernel)
      subst hQ
      exact W.iret (v := x_9) hx hb hr (fun t1 ht hW => ⟨⟨x_9, (σ, I, J, ri_11, rj, rq), rfl, ⟨ri_11, rfl, hG, (hF0.symm.trans hF), hFr, (rg_w hr_14 (by decide +kernel))⟩, by rw [ht]; exact hP, va_K.moved hW.alike hK, hD⟩, hS.F ht⟩) hS.2.2 dX11_council_27
    · replace hF := hF.trans (if_neg c_6)
      refine lv_iconst (v := (-1)) hx hb dX11_council_17 (by decide +kernel) ?_
      subst hQ
      exact W.iret (v := (-1)) hx hb hr (fun t1 ht hW => ⟨⟨(-1), (σ, I, J, ri, rj, rq), rfl, ⟨ri, rfl, hG, (hF0.symm.trans hF), hFr, (rg_w (rg_k (-1 : Int32) (-1) rfl) (by decide +kernel))⟩, by rw [ht]; exact hP, va_K.moved hW.alike hK, hD⟩, hS.F ht⟩) hS.2.2 dX11_council_18
  exact go _ _ _ hP hD hS hl

set_option maxRecDepth 100000 in
def g_X11_feed (a0 : Int32) (a1 : Int32) (a2 : Int32) (a3 : Int32) (a4 : Int32) (I : Nat → Int32) (J : Nat → Int64) (ri : Nat → Nat → Int32) (rj : Nat → Nat → Int64) (rq : Nat → Nat → Option Nat) : Int32 × vM := (ap1 (I 193) fun (y_3 : Int32) => (if (y_3) ≤ (280 : Int32) then (bnV (g_X6_append a0 I J ri rj rq) fun (I_10 : Nat → Int32) (_ : Nat → Int64) (ri_11 : Nat → Nat → Int32) (_ : Nat → Nat → Int64) (_ : Nat → Nat → Option Nat) => (bnV (g_X6_append a1 I_10 J ri_11 rj rq) fun (I_19 : Nat → Int32) (_ : Nat → Int64) (ri_20 : Nat → Nat → Int32) (_ : Nat → Nat → Int64) (_ : Nat → Nat → Option Nat) => (bnV (g_X6_append a2 I_19 J ri_20 rj rq) fun (I_28 : Nat → Int32) (_ : Nat → Int64) (ri_29 : Nat → Nat → Int32) (_ : Nat → Nat → Int64) (_ : Nat → Nat → Option Nat) => (bnV (g_X6_append a3 I_28 J ri_29 rj rq) fun (I_37 : Nat → Int32) (_ : Nat → Int64) (ri_38 : Nat → Nat → Int32) (_ : Nat → Nat → Int64) (_ : Nat → Nat → Option Nat) => (bnV (g_X6_append a4 I_37 J ri_38 rj rq) fun (I_46 : Nat → Int32) (_ : Nat → Int64) (ri_47 : Nat → Nat → Int32) (_ : Nat → Nat → Int64) (_ : Nat → Nat → Option Nat) => (ap1 (I_46 193) fun (y_54 : Int32) => ((y_54), I_46, J, ri_47, rj, rq))))))) else ((-1 : Int32), I, J, ri, rj, rq)))
set_option maxRecDepth 100000 in
theorem g_X11_feed_e {a0 : Int32} {a1 : Int32} {a2 : Int32} {a3 : Int32} {a4 : Int32} {I : Nat → Int32} {J : Nat → Int64} {ri : Nat → Nat → Int32} {rj : Nat → Nat → Int64} {rq : Nat → Nat → Option Nat} : g_X11_feed a0 a1 a2 a3 a4 I J ri rj rq = (ap1 (I 193) fun (y_3 : Int32) => (if (y_3) ≤ (280 : Int32) then (bnV (g_X6_append a0 I J ri rj rq) fun (I_10 : Nat → Int32) (_ : Nat → Int64) (ri_11 : Nat → Nat → Int32) (_ : Nat → Nat → Int64) (_ : Nat → Nat → Option Nat) => (bnV (g_X6_append a1 I_10 J ri_11 rj rq) fun (I_19 : Nat → Int32) (_ : Nat → Int64) (ri_20 : Nat → Nat → Int32) (_ : Nat → Nat → Int64) (_ : Nat → Nat → Option Nat) => (bnV (g_X6_append a2 I_19 J ri_20 rj rq) fun (I_28 : Nat → Int32) (_ : Nat → Int64) (ri_29 : Nat → Nat → Int32) (_ : Nat → Nat → Int64) (_ : Nat → Nat → Option Nat) => (bnV (g_X6_append a3 I_28 J ri_29 rj rq) fun (I_37 : Nat → Int32) (_ : Nat → Int64) (ri_38 : Nat → Nat → Int32) (_ : Nat → Nat → Int64) (_ : Nat → Nat → Option Nat) => (bnV (g_X6_append a4 I_37 J ri_38 rj rq) fun (I_46 : Nat → Int32) (_ : Nat → Int64) (ri_47 : Nat → Nat → Int32) (_ : Nat → Nat → Int64) (_ : Nat → Nat → Option Nat) => (ap1 (I_46 193) fun (y_54 : Int32) => ((y_54), I_46, J, ri_47, rj, rq))))))) else ((-1 : Int32), I, J, ri, rj, rq))) := rfl
set_option maxHeartbeats 4000000 in
set_option maxRecDepth 100000 in
theorem s_X11_feed (l : Launch) (D : va_G) (t : pq_T) (σ : pq_S) (I : Nat → Nat → Int32) (J : Nat → Nat → Int64) (ri : Nat → Nat → Int32) (rj : Nat → Nat → Int64) (rq : Nat → Nat → Option Nat) (sz : Nat) (tg : Nat → Nat) (hSH : SH σ tg) (hG0 : GS tg σ I ri rq) (this : Nat) (a0 : Int32) (a1 : Int32) (a2 : Int32) (a3 : Int32) (a4 : Int32) (hL_this : this ∈ σ.1) (hK_this : σ.2.1 this = 11) (this_reader : Nat) (hR_this_reader : σ.2.2.1 356 this = some this_reader) (hL_this_reader : this_reader ∈ σ.1) (hK_this_reader : σ.2.1 this_reader = 4) : MetI l yX11_feed (wa yX11_feed cX11_feed 7 (some .int)) ({ frames := 1, cells := 0, slots := 0, locals := 22 }) [.ref this, .int a0, .int a1, .int a2, .int a3, .int a4] D t σ (I, J, ri, rj, rq) sz 0 0 (fun (r : Int32) (u : pq_S × pq_M) => ∃ I' : Nat → Nat → Int32, ∃ ri' : Nat → Nat → Int32, u = (σ, I', J, ri', rj, rq) ∧ GX [193] tg σ I ri rj I' ri' rj rq ∧ g_X11_feed a0 a1 a2 a3 a4 (vI 4 σ this_reader I) (vJ 4 σ this_reader J) (vR 4 σ this_reader ri) (vL 4 σ this_reader rj) (vQ 4 σ this_reader rq) = (r, (vI 4 σ this_reader I'), (vJ 4 σ this_reader J), (vR 4 σ this_reader ri'), (vL 4 σ this_reader rj), (vQ 4 σ this_reader rq)) ∧ FR 4 tg σ this_reader (I, J, ri, rj, rq) (I', J, ri', rj, rq) ∧ rg r (-1) 300) := by
  refine Met.ofW (cc := cX11_feed) (maxL := 7) (ret := (some .int)) (by decide +kernel) rfl ?_
  intro p e s m args below meth c s₁ B hml hv
  obtain ⟨rfl, hsz, hP, hK, hD0, hN⟩ := hv
  have hx := B.exec
  have hb := B.bytes
  have hr := B.returns
  have hts := atoms_spec (ws := (wa yX11_feed cX11_feed 7 (some .int))) B.pre
  have hown : s.vm.findClass RX11 = some m.cls := findClass_of_methodNamed B.named
  have hlocks := B.notSynchronized
  subst hsz
  have hD : va_D (pq_B t σ (I, J, ri, rj, rq) s.heap.size) (pq_P t σ (I, J, ri, rj, rq)) := hD0.self
  generalize hAe : pq_B t σ (I, J, ri, rj, rq) s.heap.size = A at hD ⊢
  have hA : ∀ q : Nat, s.heap.size ≤ q → A q := fun q h => by rw [← hAe]; exact Or.inr h
  have hS : va_S A s.heap s.heap [] := va_S.rf
  have hG : GX [193] tg σ I ri rj I ri rj rq := ⟨hG0, fun _ _ _ => rfl, fun _ _ _ _ _ => rfl, fun _ _ _ _ _ => rfl⟩
  have hl := lv_entry ([.ref this, .int a0, .int a1, .int a2, .int a3, .int a4]) (n := 7) (Nat.le_of_ble_eq_true rfl)
  rw [lg_entry_eq]
  generalize (lg_sl ([.ref this, .int a0, .int a1, .int a2, .int a3, .int a4]) ++ List.replicate (7 - (lg_sl ([.ref this, .int a0, .int a1, .int a2, .int a3, .int a4])).length) Slot.unset).toArray = ls at hl ⊢
  have hl : lv_has ls 7 [(0, .ref this), (1, .int a0), (2, .int a1), (3, .int a2), (4, .int a3), (5, .int a4)] := hl
  refine q_gen (fun Q hQ => ?_)
  have go : ∀ (H : Heap) (locs : List Loc) (ls : Array Slot), va_P D vwCl (pq_P t σ (I, J, ri, rj, rq)) H → va_D A (pq_P t σ (I, J, ri, rj, rq)) → va_S A s.heap H locs → lv_has ls 7 [(0, .ref this), (1, .int a0), (2, .int a1), (3, .int a2), (4, .int a3), (5, .int a4)] → W p l e ({ frames := 1, cells := 0, slots := 0, locals := 22 } : Room) s m (List.toArray ([.ref this, .int a0, .int a1, .int a2, .int a3, .int a4] : List Value)) below meth c H locs 0 0 Q (F0 m 0 ls []) := by
    intro H locs ls hP hD hS hl
    have hVT : VT 4 σ tg this_reader := vt_4 hSH hL_this_reader hK_this_reader
    have hFr : FR 4 tg σ this_reader (I, J, ri, rj, rq) (I, J, ri, rj, rq) := fr_rf
    have hO_this_reader : this_reader = vo σ 4 this_reader := rfl
    obtain ⟨F, hF0⟩ : ∃ F, F = g_X11_feed a0 a1 a2 a3 a4 (vI 4 σ this_reader I) (vJ 4 σ this_reader J) (vR 4 σ this_reader ri) (vL 4 σ this_reader rj) (vQ 4 σ this_reader rq) := ⟨_, rfl⟩
    have hF := hF0.trans g_X11_feed_e
    refine lv_aload_n hx hb dX11_feed_0 rfl (lv_at hl 0 rfl) ?_
    refine pg_f (v := .ref this_reader) (C := RX11) (T := TX11) (N := 5) hx hb hts (tw_i inlX11) hown hK hP hL_this hK_this (by decide +kernel) rfl 4 (by decide +kernel) (hts _ (tw_c tw_26)) (pq_hv rfl hR_this_reader) dX11_feed_1 ?_
    obtain ⟨w_1, hR_w_1, hL_w_1, hK_w_1⟩ := sh_o hSH 128 (ci := 4) (kd := 6) rfl hL_this_reader hK_this_reader
    have hO_w_1 : w_1 = vo σ 6 this_reader := vo_k (c := 4) hO_this_reader hR_w_1
    refine pg_f (v := .ref w_1) (C := RX4) (T := TX4) (N := 12) hx hb hts (tw_i inlX4) hown hK hP hL_this_reader hK_this_reader (by decide +kernel) rfl 0 (by decide +kernel) (hts _ (tw_c tw_620)) (pq_hv rfl hR_w_1) dX11_feed_4 ?_
    refine lv_astore (lv' := [(6, .ref w_1), (0, .ref this), (1, .int a0), (2, .int a1), (3, .int a2), (4, .int a3), (5, .int a4)]) hx hb dX11_feed_7 hl (by decide +kernel) rfl (fun ls hl => ?_)
    refine lv_aload hx hb dX11_feed_9 (lv_at hl 0 rfl) ?_
    refine pg_f (v := .int (I 193 w_1)) (C := RX6) (T := TX6) (N := 6) hx hb hts (tw_i inlX6) hown hK hP hL_w_1 hK_w_1 (by decide +kernel) rfl 1 (by decide +kernel) (hts _ (tw_c tw_621)) rfl dX11_feed_11 ?_
    have h_2 : rg (I 193 w_1) 0 300 := GX.rI hG 193 rfl
    replace hF := hF.trans (ap_n (vI_e (f := 193) hO_w_1 (by decide +kernel)))
    refine lv_sipush (v := 280) hx hb dX11_feed_14 (by decide +kernel) ?_
    refine lv_icmp_le (tgt := 22) hx hb dX11_feed_17 (by decide +kernel) (fun c_4 => ?_) (fun c_4 => ?_)
    · replace hF := hF.trans (if_pos c_4)
      have h_7 : rg (I 193 w_1) 0 280 := rg_le1 c_4 h_2 (rg_k (280 : Int32) 280 rfl) (by decide +kernel)
      refine lv_aload hx hb dX11_feed_22 (lv_at hl 0 rfl) ?_
      refine lv_iload_n hx hb dX11_feed_24 rfl (lv_at hl 2 rfl) ?_
      refine pk_v (va_runV (As := [.int a0]) (rest := []) ⟨hx, hb, hml, hown, hts⟩ (s_X6_append l D t σ I J ri rj rq H.size tg hSH hG.1 w_1 a0 hL_w_1 hK_w_1 this_reader hL_this_reader hK_this_reader hO_w_1) (cwV 1 hts (tw_V tw_622 tw_623 tw_624 tw_153 tw_625) rfl rfl rfl cv_yX6_append_1 ⟨Nat.le_of_ble_eq_true rfl, Nat.le_of_ble_eq_true rfl⟩) ⟨pq_blind, pq_recv hK hP hL_w_1 hK_w_1 (by decide +kernel) rfl, pq_pre hK hN hP hD⟩ rfl rfl hl.1 rfl (lv_room (Nat.le_of_ble_eq_true rfl)) dX11_feed_25 ⟨Nat.le_of_ble_eq_true rfl, Nat.le_of_ble_eq_true rfl⟩) hD hS hA (fun σ1 μ1 H locs hw_9 hP hD hS => ?_)
      obtain ⟨I_10, ri_11, hu_12, hg_13, hfn_15, hfr_16⟩ := hw_9
      obtain ⟨hu_12a, hu_12b⟩ := Prod.mk.inj hu_12
      rw [hu_12a, hu_12b] at hP hD
      replace hF := hF.trans (bv_n hfn_15)
      replace hFr := fr_tr hFr hfr_16
      have hG := GX.tr hG hg_13 (by decide +kernel)
      refine lv_aload hx hb dX11_feed_28 (lv_at hl 0 rfl) ?_
      refine lv_iload_n hx hb dX11_feed_30 rfl (lv_at hl 3 rfl) ?_
      refine pk_v (va_runV (As := [.int a1]) (rest := []) ⟨hx, hb, hml, hown, hts⟩ (s_X6_append l D t σ I_10 J ri_11 rj rq H.size tg hSH hG.1 w_1 a1 hL_w_1 hK_w_1 this_reader hL_this_reader hK_this_reader hO_w_1) (cwV 1 hts (tw_V tw_622 tw_623 tw_624 tw_153 tw_625) rfl rfl rfl cv_yX6_append_1 ⟨Nat.le_of_ble_eq_true rfl, Nat.le_of_ble_eq_true rfl⟩) ⟨pq_blind, pq_recv hK hP hL_w_1 hK_w_1 (by decide +kernel) rfl, pq_pre hK hN hP hD⟩ rfl rfl hl.1 rfl (lv_room (Nat.le_of_ble_eq_true rfl)) dX11_feed_31 ⟨Nat.le_of_ble_eq_true rfl, Nat.le_of_ble_eq_true rfl⟩) hD hS hA (fun σ1 μ1 H locs hw_18 hP hD hS => ?_)
      obtain ⟨I_19, ri_20, hu_21, hg_22, hfn_24, hfr_25⟩ := hw_18
      obtain ⟨hu_21a, hu_21b⟩ := Prod.mk.inj hu_21
      rw [hu_21a, hu_21b] at hP hD
      replace hF := hF.trans (bv_n hfn_24)
      replace hFr := fr_tr hFr hfr_25
      have hG := GX.tr hG hg_22 (by decide +kernel)
      refine lv_aload hx hb dX11_feed_34 (lv_at hl 0 rfl) ?_
      refine lv_iload_n hx hb dX11_feed_36 rfl (lv_at hl 4 rfl) ?_
      refine pk_v (va_runV (As := [.int a2]) (rest := []) ⟨hx, hb, hml, hown, hts⟩ (s_X6_append l D t σ I_19 J ri_20 rj rq H.size tg hSH hG.1 w_1 a2 hL_w_1 hK_w_1 this_reader hL_this_reader hK_this_reader hO_w_1) (cwV 1 hts (tw_V tw_622 tw_623 tw_624 tw_153 tw_625) rfl rfl rfl cv_yX6_append_1 ⟨Nat.le_of_ble_eq_true rfl, Nat.le_of_ble_eq_true rfl⟩) ⟨pq_blind, pq_recv hK hP hL_w_1 hK_w_1 (by decide +kernel) rfl, pq_pre hK hN hP hD⟩ rfl rfl hl.1 rfl (lv_room (Nat.le_of_ble_eq_true rfl)) dX11_feed_37 ⟨Nat.le_of_ble_eq_true rfl, Nat.le_of_ble_eq_true rfl⟩) hD hS hA (fun σ1 μ1 H locs hw_27 hP hD hS => ?_)
      obtain ⟨I_28, ri_29, hu_30, hg_31, hfn_33, hfr_34⟩ := hw_27
      obtain ⟨hu_30a, hu_30b⟩ := Prod.mk.inj hu_30
      rw [hu_30a, hu_30b] at hP hD
      replace hF := hF.trans (bv_n hfn_33)
      replace hFr := fr_tr hFr hfr_34
      have hG := GX.tr hG hg_31 (by decide +kernel)
      refine lv_aload hx hb dX11_feed_40 (lv_at hl 0 rfl) ?_
      refine lv_iload hx hb dX11_feed_42 (lv_at hl 5 rfl) ?_
      refine pk_v (va_runV (As := [.int a3]) (rest := []) ⟨hx, hb, hml, hown, hts⟩ (s_X6_append l D t σ I_28 J ri_29 rj rq H.size tg hSH hG.1 w_1 a3 hL_w_1 hK_w_1 this_reader hL_this_reader hK_this_reader hO_w_1) (cwV 1 hts (tw_V tw_622 tw_623 tw_624 tw_153 tw_625) rfl rfl rfl cv_yX6_append_1 ⟨Nat.le_of_ble_eq_true rfl, Nat.le_of_ble_eq_true rfl⟩) ⟨pq_blind, pq_recv hK hP hL_w_1 hK_w_1 (by decide +kernel) rfl, pq_pre hK hN hP hD⟩ rfl rfl hl.1 rfl (lv_room (Nat.le_of_ble_eq_true rfl)) dX11_feed_44 ⟨Nat.le_of_ble_eq_true rfl, Nat.le_of_ble_eq_true rfl⟩) hD hS hA (fun σ1 μ1 H locs hw_36 hP hD hS => ?_)
      obtain ⟨I_37, ri_38, hu_39, hg_40, hfn_42, hfr_43⟩ := hw_36
      obtain ⟨hu_39a, hu_39b⟩ := Prod.mk.inj hu_39
      rw [hu_39a, hu_39b] at hP hD
      replace hF := hF.trans (bv_n hfn_42)
      replace hFr := fr_tr hFr hfr_43
      have hG := GX.tr hG hg_40 (by decide +kernel)
      refine lv_aload hx hb dX11_feed_47 (lv_at hl 0 rfl) ?_
      refine lv_iload hx hb dX11_feed_49 (lv_at hl 6 rfl) ?_
      refine pk_v (va_runV (As := [.int a4]) (rest := []) ⟨hx, hb, hml, hown, hts⟩ (s_X6_append l D t σ I_37 J ri_38 rj rq H.size tg hSH hG.1 w_1 a4 hL_w_1 hK_w_1 this_reader hL_this_reader hK_this_reader hO_w_1) (cwV 1 hts (tw_V tw_622 tw_623 tw_624 tw_153 tw_625) rfl rfl rfl cv_yX6_append_1 ⟨Nat.le_of_ble_eq_true rfl, Nat.le_of_ble_eq_true rfl⟩) ⟨pq_blind, pq_recv hK hP hL_w_1 hK_w_1 (by decide +kernel) rfl, pq_pre hK hN hP hD⟩ rfl rfl hl.1 rfl (lv_room (Nat.le_of_ble_eq_true rfl)) dX11_feed_51 ⟨Nat.le_of_ble_eq_true rfl, Nat.le_of_ble_eq_true rfl⟩) hD hS hA (fun σ1 μ1 H locs hw_45 hP hD hS => ?_)
      obtain ⟨I_46, ri_47, hu_48, hg_49, hfn_51, hfr_52⟩ := hw_45
      obtain ⟨hu_48a, hu_48b⟩ := Prod.mk.inj hu_48
      rw [hu_48a, hu_48b] at hP hD
      replace hF := hF.trans (bv_n hfn_51)
      replace hFr := fr_tr hFr hfr_52
      have hG := GX.tr hG hg_49 (by decide +kernel)
      refine lv_aload hx hb dX11_feed_54 (lv_at hl 0 rfl) ?_
      refine pg_f (v := .int (I_46 193 w_1)) (C := RX6) (T := TX6) (N := 6) hx hb hts (tw_i inlX6) hown hK hP hL_w_1 hK_w_1 (by decide +kernel) rfl 1 (by decide +kernel) (hts _ (tw_c tw_621)) rfl dX11_feed_56 ?_
      have h_53 : rg (I_46 193 w_1) 0 300 := GX.rI hG 193 rfl
      replace hF := hF.trans (ap_n (vI_e (f := 193) hO_w_1 (by decide +kernel)))
      subst hQ
      exact W.iret (v := (I_46 193 w_1)) hx hb hr (fun t1 ht hW => ⟨⟨(I_46 193 w_1), (σ, I_46, J, ri_47, rj, rq), rfl, ⟨I_46, ri_47, rfl, hG, (hF0.symm.trans hF), hFr, (rg_w h_53 (by decide +kernel))⟩, by rw [ht]; exact hP, va_K.moved hW.alike hK, hD⟩, hS.F ht⟩) hS.2.2 dX11_feed_59
    · replace hF := hF.trans (if_neg c_4)
      have h_55 : rg (I 193 w_1) 281 300 := rg_lt2 (nle c_4) (rg_k (280 : Int32) 280 rfl) h_2 (by decide +kernel)
      refine lv_iconst (v := (-1)) hx hb dX11_feed_20 (by decide +kernel) ?_
      subst hQ
      exact W.iret (v := (-1)) hx hb hr (fun t1 ht hW => ⟨⟨(-1), (σ, I, J, ri, rj, rq), rfl, ⟨I, ri, rfl, hG, (hF0.symm.trans hF), hFr, (rg_w (rg_k (-1 : Int32) (-1) rfl) (by decide +kernel))⟩, by rw [ht]; exact hP, va_K.moved hW.alike hK, hD⟩, hS.F ht⟩) hS.2.2 dX11_feed_21
  exact go _ _ _ hP hD hS hl

set_option maxRecDepth 100000 in
def g_X11_end (a0 : Int32) (I : Nat → Int32) (J : Nat → Int64) (ri : Nat → Nat → Int32) (rj : Nat → Nat → Int64) (rq : Nat → Nat → Option Nat) : Int32 × vM := (ap1 (I 193) fun (y_3 : Int32) => (ap1 (g_X11_between a0 (0 : Int32) (y_3)) fun (x_4 : Int32) => (if x_4 = (0 : Int32) then ((-1 : Int32), I, J, ri, rj, rq) else (ap1 (va_up I 193 a0) fun (I_25 : Nat → Int32) => (a0, I_25, J, ri, rj, rq)))))
set_option maxRecDepth 100000 in
theorem g_X11_end_e {a0 : Int32} {I : Nat → Int32} {J : Nat → Int64} {ri : Nat → Nat → Int32} {rj : Nat → Nat → Int64} {rq : Nat → Nat → Option Nat} : g_X11_end a0 I J ri rj rq = (ap1 (I 193) fun (y_3 : Int32) => (ap1 (g_X11_between a0 (0 : Int32) (y_3)) fun (x_4 : Int32) => (if x_4 = (0 : Int32) then ((-1 : Int32), I, J, ri, rj, rq) else (ap1 (va_up I 193 a0) fun (I_25 : Nat → Int32) => (a0, I_25, J, ri, rj, rq))))) := rfl
set_option maxHeartbeats 4000000 in
set_option maxRecDepth 100000 in
theorem s_X11_end (l : Launch) (D : va_G) (t : pq_T) (σ : pq_S) (I : Nat → Nat → Int32) (J : Nat → Nat → Int64) (ri : Nat → Nat → Int32) (rj : Nat → Nat → Int64) (rq : Nat → Nat → Option Nat) (sz : Nat) (tg : Nat → Nat) (hSH : SH σ tg) (hG0 : GS tg σ I ri rq) (this : Nat) (a0 : Int32) (hL_this : this ∈ σ.1) (hK_this : σ.2.1 this = 11) (this_reader : Nat) (hR_this_reader : σ.2.2.1 356 this = some this_reader) (hL_this_reader : this_reader ∈ σ.1) (hK_this_reader : σ.2.1 this_reader = 4) : MetI l yX11_end (wa yX11_end cX11_end 2 (some .int)) ({ frames := 1, cells := 0, slots := 0, locals := 22 }) [.ref this, .int a0] D t σ (I, J, ri, rj, rq) sz 0 0 (fun (r : Int32) (u : pq_S × pq_M) => ∃ I' : Nat → Nat → Int32, u = (σ, I', J, ri, rj, rq) ∧ GX [193] tg σ I ri rj I' ri rj rq ∧ g_X11_end a0 (vI 4 σ this_reader I) (vJ 4 σ this_reader J) (vR 4 σ this_reader ri) (vL 4 σ this_reader rj) (vQ 4 σ this_reader rq) = (r, (vI 4 σ this_reader I'), (vJ 4 σ this_reader J), (vR 4 σ this_reader ri), (vL 4 σ this_reader rj), (vQ 4 σ this_reader rq)) ∧ FR 4 tg σ this_reader (I, J, ri, rj, rq) (I', J, ri, rj, rq) ∧ rg r (-1) 300) := by
  refine Met.ofW (cc := cX11_end) (maxL := 2) (ret := (some .int)) (by decide +kernel) rfl ?_
  intro p e s m args below meth c s₁ B hml hv
  obtain ⟨rfl, hsz, hP, hK, hD0, hN⟩ := hv
  have hx := B.exec
  have hb := B.bytes
  have hr := B.returns
  have hts := atoms_spec (ws := (wa yX11_end cX11_end 2 (some .int))) B.pre
  have hown : s.vm.findClass RX11 = some m.cls := findClass_of_methodNamed B.named
  have hlocks := B.notSynchronized
  subst hsz
  have hD : va_D (pq_B t σ (I, J, ri, rj, rq) s.heap.size) (pq_P t σ (I, J, ri, rj, rq)) := hD0.self
  generalize hAe : pq_B t σ (I, J, ri, rj, rq) s.heap.size = A at hD ⊢
  have hA : ∀ q : Nat, s.heap.size ≤ q → A q := fun q h => by rw [← hAe]; exact Or.inr h
  have hS : va_S A s.heap s.heap [] := va_S.rf
  have hG : GX [193] tg σ I ri rj I ri rj rq := ⟨hG0, fun _ _ _ => rfl, fun _ _ _ _ _ => rfl, fun _ _ _ _ _ => rfl⟩
  have hl := lv_entry ([.ref this, .int a0]) (n := 2) (Nat.le_of_ble_eq_true rfl)
  rw [lg_entry_eq]
  generalize (lg_sl ([.ref this, .int a0]) ++ List.replicate (2 - (lg_sl ([.ref this, .int a0])).length) Slot.unset).toArray = ls at hl ⊢
  have hl : lv_has ls 2 [(0, .ref this), (1, .int a0)] := hl
  refine q_gen (fun Q hQ => ?_)
  have go : ∀ (H : Heap) (locs : List Loc) (ls : Array Slot), va_P D vwCl (pq_P t σ (I, J, ri, rj, rq)) H → va_D A (pq_P t σ (I, J, ri, rj, rq)) → va_S A s.heap H locs → lv_has ls 2 [(0, .ref this), (1, .int a0)] → W p l e ({ frames := 1, cells := 0, slots := 0, locals := 22 } : Room) s m (List.toArray ([.ref this, .int a0] : List Value)) below meth c H locs 0 0 Q (F0 m 0 ls []) := by
    intro H locs ls hP hD hS hl
    have hVT : VT 4 σ tg this_reader := vt_4 hSH hL_this_reader hK_this_reader
    have hFr : FR 4 tg σ this_reader (I, J, ri, rj, rq) (I, J, ri, rj, rq) := fr_rf
    have hO_this_reader : this_reader = vo σ 4 this_reader := rfl
    obtain ⟨F, hF0⟩ : ∃ F, F = g_X11_end a0 (vI 4 σ this_reader I) (vJ 4 σ this_reader J) (vR 4 σ this_reader ri) (vL 4 σ this_reader rj) (vQ 4 σ this_reader rq) := ⟨_, rfl⟩
    have hF := hF0.trans g_X11_end_e
    refine lv_iload_n hx hb dX11_end_0 rfl (lv_at hl 1 rfl) ?_
    refine lv_iconst (v := 0) hx hb dX11_end_1 (by decide +kernel) ?_
    refine lv_aload_n hx hb dX11_end_2 rfl (lv_at hl 0 rfl) ?_
    refine pg_f (v := .ref this_reader) (C := RX11) (T := TX11) (N := 5) hx hb hts (tw_i inlX11) hown hK hP hL_this hK_this (by decide +kernel) rfl 4 (by decide +kernel) (hts _ (tw_c tw_26)) (pq_hv rfl hR_this_reader) dX11_end_3 ?_
    obtain ⟨w_1, hR_w_1, hL_w_1, hK_w_1⟩ := sh_o hSH 128 (ci := 4) (kd := 6) rfl hL_this_reader hK_this_reader
    have hO_w_1 : w_1 = vo σ 6 this_reader := vo_k (c := 4) hO_this_reader hR_w_1
    refine pg_f (v := .ref w_1) (C := RX4) (T := TX4) (N := 12) hx hb hts (tw_i inlX4) hown hK hP hL_this_reader hK_this_reader (by decide +kernel) rfl 0 (by decide +kernel) (hts _ (tw_c tw_620)) (pq_hv rfl hR_w_1) dX11_end_6 ?_
    refine pg_f (v := .int (I 193 w_1)) (C := RX6) (T := TX6) (N := 6) hx hb hts (tw_i inlX6) hown hK hP hL_w_1 hK_w_1 (by decide +kernel) rfl 1 (by decide +kernel) (hts _ (tw_c tw_621)) rfl dX11_end_9 ?_
    have h_2 : rg (I 193 w_1) 0 300 := GX.rI hG 193 rfl
    replace hF := hF.trans (ap_n (vI_e (f := 193) hO_w_1 (by decide +kernel)))
    refine pk_i (va_runS (As := [.int a0, .int 0, .int (I 193 w_1)]) (rest := []) ⟨hx, hb, hml, hown, hts⟩ (s_X11_between l D t σ I J ri rj rq H.size tg hSH hG.1 a0 (0 : Int32) (I 193 w_1)) (va_cwS 3 hts (tw_S tw_215 tw_216 tw_2 tw_217) rfl rfl rfl cd_yX11_between_3 ⟨Nat.le_of_ble_eq_true rfl, Nat.le_of_ble_eq_true rfl⟩) ⟨pq_blind, pq_pre hK hN hP hD⟩ rfl rfl hl.1 rfl (lv_room (Nat.le_of_ble_eq_true rfl)) dX11_end_12 ⟨Nat.le_of_ble_eq_true rfl, Nat.le_of_ble_eq_true rfl⟩) hD hS hA (fun x_4 σ1 μ1 H locs hw_5 hP hD hS => ?_)
    obtain ⟨hu_6, hfn_9, hr_8⟩ := hw_5
    obtain ⟨hu_6a, hu_6b⟩ := Prod.mk.inj hu_6
    rw [hu_6a, hu_6b] at hP hD
    replace hF := hF.trans (ap_n hfn_9.symm)
    have h_11 : rg x_4 0 1 := by rcases hr_8 with ⟨q, -⟩ | ⟨q, -⟩ <;> rw [q] <;> exact ⟨by decide +kernel, by decide +kernel⟩
    refine lv_if_ne (tgt := 20) hx hb dX11_end_15 (by decide +kernel) (fun c_12 => ?_) (fun c_12 => ?_)
    · replace hF := hF.trans (if_neg c_12)
      obtain ⟨f_20, f_21⟩ := (hr_8.resolve_right (fun q => c_12 q.1)).2
      have h_22 : rg a0 0 2147483647 := rg_le2 f_20 (rg_k (0 : Int32) 0 rfl) (rg_full _) (by decide +kernel)
      have h_23 : rg a0 0 300 := rg_le1 f_21 h_22 h_2 (by decide +kernel)
      have h_24 : rg x_4 1 1 := rg_ne c_12 h_11 0 rfl (by decide +kernel)
      refine lv_aload_n hx hb dX11_end_20 rfl (lv_at hl 0 rfl) ?_
      refine pg_f (v := .ref this_reader) (C := RX11) (T := TX11) (N := 5) hx hb hts (tw_i inlX11) hown hK hP hL_this hK_this (by decide +kernel) rfl 4 (by decide +kernel) (hts _ (tw_c tw_26)) (pq_hv rfl hR_this_reader) dX11_end_21 ?_
      refine pg_f (v := .ref w_1) (C := RX4) (T := TX4) (N := 12) hx hb hts (tw_i inlX4) hown hK hP hL_this_reader hK_this_reader (by decide +kernel) rfl 0 (by decide +kernel) (hts _ (tw_c tw_620)) (pq_hv rfl hR_w_1) dX11_end_24 ?_
      refine lv_iload_n hx hb dX11_end_27 rfl (lv_at hl 1 rfl) ?_
      refine pp_i (v := a0) (ty := .int) (C := RX6) (T := TX6) (N := 6) hx hb hts (tw_i inlX6) tyX6 tyX6_ok nmX6 hown hK hP hD hS hL_w_1 hK_w_1 (by decide +kernel) rfl 1 193 (by decide +kernel) (hts _ (tw_c tw_621)) rfl (tyX6_ok 1 (by decide +kernel)) rfl rfl (Nat.le_of_ble_eq_true rfl) (ps_193 _ _ _ _ _) dX11_end_28 (fun I_25 H locs eI_25 hP hD hS => ?_)
      replace hFr := fr_I (f := 193) hFr hO_w_1 (by decide +kernel) eI_25
      replace hF := hF.trans (ap_n (vI_st (f := 193) hO_w_1 (by decide +kernel) eI_25))
      have hG := GX.wI hG 193 rfl eI_25 (rg_w h_23 (by decide +kernel)) (by decide +kernel)
      refine lv_iload_n hx hb dX11_end_31 rfl (lv_at hl 1 rfl) ?_
      subst hQ
      exact W.iret (v := a0) hx hb hr (fun t1 ht hW => ⟨⟨a0, (σ, I_25, J, ri, rj, rq), rfl, ⟨I_25, rfl, hG, (hF0.symm.trans hF), hFr, (rg_w h_23 (by decide +kernel))⟩, by rw [ht]; exact hP, va_K.moved hW.alike hK, hD⟩, hS.F ht⟩) hS.2.2 dX11_end_32
    · replace hF := hF.trans (if_pos c_12)
      have f_26 := (hr_8.resolve_left (fun q => absurd (q.1.symm.trans c_12) (by decide +kernel))).2
      have h_27 : rg x_4 0 0 := rg_and h_11 (rg_of_eq c_12 (rg_k (0 : Int32) 0 rfl)) (by decide +kernel)
      refine lv_iconst (v := (-1)) hx hb dX11_end_18 (by decide +kernel) ?_
      subst hQ
      exact W.iret (v := (-1)) hx hb hr (fun t1 ht hW => ⟨⟨(-1), (σ, I, J, ri, rj, rq), rfl, ⟨I, rfl, hG, (hF0.symm.trans hF), hFr, (rg_w (rg_k (-1 : Int32) (-1) rfl) (by decide +kernel))⟩, by rw [ht]; exact hP, va_K.moved hW.alike hK, hD⟩, hS.F ht⟩) hS.2.2 dX11_end_19
  exact go _ _ _ hP hD hS hl

set_option maxRecDepth 100000 in
def g_X11_fault (a0 : Int32) (I : Nat → Int32) (J : Nat → Int64) (ri : Nat → Nat → Int32) (rj : Nat → Nat → Int64) (rq : Nat → Nat → Option Nat) : Int32 × vM := (if a0 = (0 : Int32) then (ap1 (I 129) fun (y_4 : Int32) => ((y_4), I, J, ri, rj, rq)) else (if a0 = (1 : Int32) then (ap1 (I 130) fun (y_8 : Int32) => ((y_8), I, J, ri, rj, rq)) else ((-1 : Int32), I, J, ri, rj, rq)))
set_option maxRecDepth 100000 in
theorem g_X11_fault_e {a0 : Int32} {I : Nat → Int32} {J : Nat → Int64} {ri : Nat → Nat → Int32} {rj : Nat → Nat → Int64} {rq : Nat → Nat → Option Nat} : g_X11_fault a0 I J ri rj rq = (if a0 = (0 : Int32) then (ap1 (I 129) fun (y_4 : Int32) => ((y_4), I, J, ri, rj, rq)) else (if a0 = (1 : Int32) then (ap1 (I 130) fun (y_8 : Int32) => ((y_8), I, J, ri, rj, rq)) else ((-1 : Int32), I, J, ri, rj, rq))) := rfl
set_option maxHeartbeats 4000000 in
set_option maxRecDepth 100000 in
theorem s_X11_fault (l : Launch) (D : va_G) (t : pq_T) (σ : pq_S) (I : Nat → Nat → Int32) (J : Nat → Nat → Int64) (ri : Nat → Nat → Int32) (rj : Nat → Nat → Int64) (rq : Nat → Nat → Option Nat) (sz : Nat) (tg : Nat → Nat) (hSH : SH σ tg) (hG0 : GS tg σ I ri rq) (this : Nat) (a0 : Int32) (hL_this : this ∈ σ.1) (hK_this : σ.2.1 this = 11) (this_reader : Nat) (hR_this_reader : σ.2.2.1 356 this = some this_reader) (hL_this_reader : this_reader ∈ σ.1) (hK_this_reader : σ.2.1 this_reader = 4) : MetI l yX11_fault (wa yX11_fault cX11_fault 2 (some .int)) ({ frames := 0, cells := 0, slots := 0, locals := 0 }) [.ref this, .int a0] D t σ (I, J, ri, rj, rq) sz 0 0 (fun (r : Int32) (u : pq_S × pq_M) => u = (σ, I, J, ri, rj, rq) ∧ g_X11_fault a0 (vI 4 σ this_reader I) (vJ 4 σ this_reader J) (vR 4 σ this_reader ri) (vL 4 σ this_reader rj) (vQ 4 σ this_reader rq) = (r, (vI 4 σ this_reader I), (vJ 4 σ this_reader J), (vR 4 σ this_reader ri), (vL 4 σ this_reader rj), (vQ 4 σ this_reader rq))) := by
  refine Met.ofW (cc := cX11_fault) (maxL := 2) (ret := (some .int)) (by decide +kernel) rfl ?_
  intro p e s m args below meth c s₁ B hml hv
  obtain ⟨rfl, hsz, hP, hK, hD0, hN⟩ := hv
  have hx := B.exec
  have hb := B.bytes
  have hr := B.returns
  have hts := atoms_spec (ws := (wa yX11_fault cX11_fault 2 (some .int))) B.pre
  have hown : s.vm.findClass RX11 = some m.cls := findClass_of_methodNamed B.named
  have hlocks := B.notSynchronized
  subst hsz
  have hD : va_D (pq_B t σ (I, J, ri, rj, rq) s.heap.size) (pq_P t σ (I, J, ri, rj, rq)) := hD0.self
  generalize hAe : pq_B t σ (I, J, ri, rj, rq) s.heap.size = A at hD ⊢
  have hA : ∀ q : Nat, s.heap.size ≤ q → A q := fun q h => by rw [← hAe]; exact Or.inr h
  have hS : va_S A s.heap s.heap [] := va_S.rf
  have hG : GX [] tg σ I ri rj I ri rj rq := ⟨hG0, fun _ _ _ => rfl, fun _ _ _ _ _ => rfl, fun _ _ _ _ _ => rfl⟩
  have hl := lv_entry ([.ref this, .int a0]) (n := 2) (Nat.le_of_ble_eq_true rfl)
  rw [lg_entry_eq]
  generalize (lg_sl ([.ref this, .int a0]) ++ List.replicate (2 - (lg_sl ([.ref this, .int a0])).length) Slot.unset).toArray = ls at hl ⊢
  have hl : lv_has ls 2 [(0, .ref this), (1, .int a0)] := hl
  refine q_gen (fun Q hQ => ?_)
  have go : ∀ (H : Heap) (locs : List Loc) (ls : Array Slot), va_P D vwCl (pq_P t σ (I, J, ri, rj, rq)) H → va_D A (pq_P t σ (I, J, ri, rj, rq)) → va_S A s.heap H locs → lv_has ls 2 [(0, .ref this), (1, .int a0)] → W p l e ({ frames := 0, cells := 0, slots := 0, locals := 0 } : Room) s m (List.toArray ([.ref this, .int a0] : List Value)) below meth c H locs 0 0 Q (F0 m 0 ls []) := by
    intro H locs ls hP hD hS hl
    have hVT : VT 4 σ tg this_reader := vt_4 hSH hL_this_reader hK_this_reader
    have hFr : FR 4 tg σ this_reader (I, J, ri, rj, rq) (I, J, ri, rj, rq) := fr_rf
    have hO_this_reader : this_reader = vo σ 4 this_reader := rfl
    obtain ⟨F, hF0⟩ : ∃ F, F = g_X11_fault a0 (vI 4 σ this_reader I) (vJ 4 σ this_reader J) (vR 4 σ this_reader ri) (vL 4 σ this_reader rj) (vQ 4 σ this_reader rq) := ⟨_, rfl⟩
    have hF := hF0.trans g_X11_fault_e
    refine lv_iload_n hx hb dX11_fault_0 rfl (lv_at hl 1 rfl) ?_
    by_cases k_1 : a0 = (0 : Int32)
    · replace hF := hF.trans (if_pos k_1)
      have h_3 : rg a0 0 0 := rg_and (rg_full _) (rg_of_eq k_1 (rg_k (0 : Int32) 0 rfl)) (by decide +kernel)
      refine lv_tov 0 k_1 ?_
      refine lv_lookup (tgt := 28) hx hb dX11_fault_1 (by decide +kernel) rfl (by decide +kernel) ?_
      refine lv_aload_n hx hb dX11_fault_28 rfl (lv_at hl 0 rfl) ?_
      refine pg_f (v := .ref this_reader) (C := RX11) (T := TX11) (N := 5) hx hb hts (tw_i inlX11) hown hK hP hL_this hK_this (by decide +kernel) rfl 4 (by decide +kernel) (hts _ (tw_c tw_26)) (pq_hv rfl hR_this_reader) dX11_fault_29 ?_
      refine pg_f (v := .int (I 129 this_reader)) (C := RX4) (T := TX4) (N := 12) hx hb hts (tw_i inlX4) hown hK hP hL_this_reader hK_this_reader (by decide +kernel) rfl 1 (by decide +kernel) (hts _ (tw_c tw_650)) rfl dX11_fault_32 ?_
      replace hF := hF.trans (ap_n (vI_e (f := 129) hO_this_reader (by decide +kernel)))
      subst hQ
      exact W.iret (v := (I 129 this_reader)) hx hb hr (fun t1 ht hW => ⟨⟨(I 129 this_reader), (σ, I, J, ri, rj, rq), rfl, ⟨rfl, (hF0.symm.trans hF)⟩, by rw [ht]; exact hP, va_K.moved hW.alike hK, hD⟩, hS.F ht⟩) hS.2.2 dX11_fault_35
    replace hF := hF.trans (if_neg k_1)
    by_cases k_5 : a0 = (1 : Int32)
    · replace hF := hF.trans (if_pos k_5)
      have h_7 : rg a0 1 1 := rg_and (rg_full _) (rg_of_eq k_5 (rg_k (1 : Int32) 1 rfl)) (by decide +kernel)
      refine lv_tov 1 k_5 ?_
      refine lv_lookup (tgt := 36) hx hb dX11_fault_1 (by decide +kernel) rfl (by decide +kernel) ?_
      refine lv_aload_n hx hb dX11_fault_36 rfl (lv_at hl 0 rfl) ?_
      refine pg_f (v := .ref this_reader) (C := RX11) (T := TX11) (N := 5) hx hb hts (tw_i inlX11) hown hK hP hL_this hK_this (by decide +kernel) rfl 4 (by decide +kernel) (hts _ (tw_c tw_26)) (pq_hv rfl hR_this_reader) dX11_fault_37 ?_
      refine pg_f (v := .int (I 130 this_reader)) (C := RX4) (T := TX4) (N := 12) hx hb hts (tw_i inlX4) hown hK hP hL_this_reader hK_this_reader (by decide +kernel) rfl 2 (by decide +kernel) (hts _ (tw_c tw_941)) rfl dX11_fault_40 ?_
      replace hF := hF.trans (ap_n (vI_e (f := 130) hO_this_reader (by decide +kernel)))
      subst hQ
      exact W.iret (v := (I 130 this_reader)) hx hb hr (fun t1 ht hW => ⟨⟨(I 130 this_reader), (σ, I, J, ri, rj, rq), rfl, ⟨rfl, (hF0.symm.trans hF)⟩, by rw [ht]; exact hP, va_K.moved hW.alike hK, hD⟩, hS.F ht⟩) hS.2.2 dX11_fault_43
    replace hF := hF.trans (if_neg k_5)
    refine lv_lookup (tgt := 44) (off := (43)) hx hb dX11_fault_1 (by decide +kernel) (by have z_k_1 := (sw_ne k_1 (n := 0) rfl).symm; have z_k_5 := (sw_ne k_5 (n := 1) rfl).symm; simp [Op.lookupswitch.offset, z_k_1, z_k_5]) (by decide +kernel) ?_
    refine lv_iconst (v := (-1)) hx hb dX11_fault_44 (by decide +kernel) ?_
    subst hQ
    exact W.iret (v := (-1)) hx hb hr (fun t1 ht hW => ⟨⟨(-1), (σ, I, J, ri, rj, rq), rfl, ⟨rfl, (hF0.symm.trans hF)⟩, by rw [ht]; exact hP, va_K.moved hW.alike hK, hD⟩, hS.F ht⟩) hS.2.2 dX11_fault_45
  exact go _ _ _ hP hD hS hl

set_option maxRecDepth 100000 in
def g_X11_force_K76 (I : Nat → Int32) (J : Nat → Int64) (ri : Nat → Nat → Int32) (rj : Nat → Nat → Int64) (rq : Nat → Nat → Option Nat) : Int32 × vM := ((-1 : Int32), I, J, ri, rj, rq)
set_option maxRecDepth 100000 in
theorem g_X11_force_K76_e {I : Nat → Int32} {J : Nat → Int64} {ri : Nat → Nat → Int32} {rj : Nat → Nat → Int64} {rq : Nat → Nat → Option Nat} : g_X11_force_K76 I J ri rj rq  = ((-1 : Int32), I, J, ri, rj, rq) := rfl
set_option maxRecDepth 100000 in
def g_X11_force_K59 (a0 : Int32) (a1 : Int32) (a2 : Int32) (I : Nat → Int32) (J : Nat → Int64) (ri : Nat → Nat → Int32) (rj : Nat → Nat → Int64) (rq : Nat → Nat → Option Nat) : Int32 × vM := (ap1 (I 98) fun (y_114 : Int32) => (if (y_114) < (30 : Int32) then (bnI (g_X3_addForce a0 a1 a2 I J ri rj rq) fun (x_119 : Int32) (I_121 : Nat → Int32) (_ : Nat → Int64) (ri_122 : Nat → Nat → Int32) (_ : Nat → Nat → Int64) (_ : Nat → Nat → Option Nat) => (x_119, I_121, J, ri_122, rj, rq)) else (g_X11_force_K76 I J ri rj rq )))
set_option maxRecDepth 100000 in
theorem g_X11_force_K59_e {a0 : Int32} {a1 : Int32} {a2 : Int32} {I : Nat → Int32} {J : Nat → Int64} {ri : Nat → Nat → Int32} {rj : Nat → Nat → Int64} {rq : Nat → Nat → Option Nat} : g_X11_force_K59 a0 a1 a2 I J ri rj rq  = (ap1 (I 98) fun (y_114 : Int32) => (if (y_114) < (30 : Int32) then (bnI (g_X3_addForce a0 a1 a2 I J ri rj rq) fun (x_119 : Int32) (I_121 : Nat → Int32) (_ : Nat → Int64) (ri_122 : Nat → Nat → Int32) (_ : Nat → Nat → Int64) (_ : Nat → Nat → Option Nat) => (x_119, I_121, J, ri_122, rj, rq)) else (g_X11_force_K76 I J ri rj rq ))) := rfl
set_option maxRecDepth 100000 in
def g_X11_force_K76_2 (I : Nat → Int32) (J : Nat → Int64) (ri : Nat → Nat → Int32) (rj : Nat → Nat → Int64) (rq : Nat → Nat → Option Nat) : Int32 × vM := ((-1 : Int32), I, J, ri, rj, rq)
set_option maxRecDepth 100000 in
theorem g_X11_force_K76_2_e {I : Nat → Int32} {J : Nat → Int64} {ri : Nat → Nat → Int32} {rj : Nat → Nat → Int64} {rq : Nat → Nat → Option Nat} : g_X11_force_K76_2 I J ri rj rq  = ((-1 : Int32), I, J, ri, rj, rq) := rfl
set_option maxRecDepth 100000 in
def g_X11_force_K59_2 (I : Nat → Int32) (J : Nat → Int64) (ri : Nat → Nat → Int32) (rj : Nat → Nat → Int64) (rq : Nat → Nat → Option Nat) : Int32 × vM := (g_X11_force_K76_2 I J ri rj rq )
set_option maxRecDepth 100000 in
theorem g_X11_force_K59_2_e {I : Nat → Int32} {J : Nat → Int64} {ri : Nat → Nat → Int32} {rj : Nat → Nat → Int64} {rq : Nat → Nat → Option Nat} : g_X11_force_K59_2 I J ri rj rq  = (g_X11_force_K76_2 I J ri rj rq ) := rfl
set_option maxRecDepth 100000 in
def g_X11_force_K58 (I : Nat → Int32) (J : Nat → Int64) (ri : Nat → Nat → Int32) (rj : Nat → Nat → Int64) (rq : Nat → Nat → Option Nat) : Int32 × vM := (g_X11_force_K59_2 I J ri rj rq )
set_option maxRecDepth 100000 in
theorem g_X11_force_K58_e {I : Nat → Int32} {J : Nat → Int64} {ri : Nat → Nat → Int32} {rj : Nat → Nat → Int64} {rq : Nat → Nat → Option Nat} : g_X11_force_K58 I J ri rj rq  = (g_X11_force_K59_2 I J ri rj rq ) := rfl
set_option maxRecDepth 100000 in
def g_X11_force (a0 : Int32) (a1 : Int32) (a2 : Int32) (I : Nat → Int32) (J : Nat → Int64) (ri : Nat → Nat → Int32) (rj : Nat → Nat → Int64) (rq : Nat → Nat → Option Nat) : Int32 × vM := (ap1 (I 96) fun (y_3 : Int32) => (ap1 ((y_3) - (1 : Int32)) fun (x_4 : Int32) => (ap1 (g_X11_between a0 (0 : Int32) x_4) fun (x_6 : Int32) => (if x_6 = (0 : Int32) then (g_X11_force_K58 I J ri rj rq ) else (ap1 (g_X11_isMonth a1) fun (x_151 : Int32) => (if x_151 = (0 : Int32) then (g_X11_force_K58 I J ri rj rq ) else (ap1 (g_X11_isMonth a2) fun (x_168 : Int32) => (if x_168 = (0 : Int32) then (g_X11_force_K58 I J ri rj rq ) else (ap1 (I 320) fun (y_186 : Int32) => (if a1 < (y_186) then (g_X11_force_K58 I J ri rj rq ) else (if a2 < a1 then (g_X11_force_K58 I J ri rj rq ) else (g_X11_force_K59 a0 a1 a2 I J ri rj rq ))))))))))))
set_option maxRecDepth 100000 in
theorem g_X11_force_e {a0 : Int32} {a1 : Int32} {a2 : Int32} {I : Nat → Int32} {J : Nat → Int64} {ri : Nat → Nat → Int32} {rj : Nat → Nat → Int64} {rq : Nat → Nat → Option Nat} : g_X11_force a0 a1 a2 I J ri rj rq = (ap1 (I 96) fun (y_3 : Int32) => (ap1 ((y_3) - (1 : Int32)) fun (x_4 : Int32) => (ap1 (g_X11_between a0 (0 : Int32) x_4) fun (x_6 : Int32) => (if x_6 = (0 : Int32) then (g_X11_force_K58 I J ri rj rq ) else (ap1 (g_X11_isMonth a1) fun (x_151 : Int32) => (if x_151 = (0 : Int32) then (g_X11_force_K58 I J ri rj rq ) else (ap1 (g_X11_isMonth a2) fun (x_168 : Int32) => (if x_168 = (0 : Int32) then (g_X11_force_K58 I J ri rj rq ) else (ap1 (I 320) fun (y_186 : Int32) => (if a1 < (y_186) then (g_X11_force_K58 I J ri rj rq ) else (if a2 < a1 then (g_X11_force_K58 I J ri rj rq ) else (g_X11_force_K59 a0 a1 a2 I J ri rj rq )))))))))))) := rfl
set_option maxHeartbeats 4000000 in
set_option maxRecDepth 100000 in
theorem s_X11_force (l : Launch) (D : va_G) (t : pq_T) (σ : pq_S) (I : Nat → Nat → Int32) (J : Nat → Nat → Int64) (ri : Nat → Nat → Int32) (rj : Nat → Nat → Int64) (rq : Nat → Nat → Option Nat) (sz : Nat) (tg : Nat → Nat) (hSH : SH σ tg) (hG0 : GS tg σ I ri rq) (this : Nat) (a0 : Int32) (a1 : Int32) (a2 : Int32) (hL_this : this ∈ σ.1) (hK_this : σ.2.1 this = 11) (this_now : Nat) (hR_this_now : σ.2.2.1 352 this = some this_now) (hL_this_now : this_now ∈ σ.1) (hK_this_now : σ.2.1 this_now = 10) : MetI l yX11_force (wa yX11_force cX11_force 6 (some .int)) ({ frames := 2, cells := 0, slots := 0, locals := 42 }) [.ref this, .int a0, .int a1, .int a2] D t σ (I, J, ri, rj, rq) sz 0 0 (fun (r : Int32) (u : pq_S × pq_M) => ∃ I' : Nat → Nat → Int32, ∃ ri' : Nat → Nat → Int32, u = (σ, I', J, ri', rj, rq) ∧ GX [98] tg σ I ri rj I' ri' rj rq ∧ g_X11_force a0 a1 a2 (vI 10 σ this_now I) (vJ 10 σ this_now J) (vR 10 σ this_now ri) (vL 10 σ this_now rj) (vQ 10 σ this_now rq) = (r, (vI 10 σ this_now I'), (vJ 10 σ this_now J), (vR 10 σ this_now ri'), (vL 10 σ this_now rj), (vQ 10 σ this_now rq)) ∧ FR 10 tg σ this_now (I, J, ri, rj, rq) (I', J, ri', rj, rq) ∧ rg r (-1) 29) := by
  refine Met.ofW (cc := cX11_force) (maxL := 6) (ret := (some .int)) (by decide +kernel) rfl ?_
  intro p e s m args below meth c s₁ B hml hv
  obtain ⟨rfl, hsz, hP, hK, hD0, hN⟩ := hv
  have hx := B.exec
  have hb := B.bytes
  have hr := B.returns
  have hts := atoms_spec (ws := (wa yX11_force cX11_force 6 (some .int))) B.pre
  have hown : s.vm.findClass RX11 = some m.cls := findClass_of_methodNamed B.named
  have hlocks := B.notSynchronized
  subst hsz
  have hD : va_D (pq_B t σ (I, J, ri, rj, rq) s.heap.size) (pq_P t σ (I, J, ri, rj, rq)) := hD0.self
  generalize hAe : pq_B t σ (I, J, ri, rj, rq) s.heap.size = A at hD ⊢
  have hA : ∀ q : Nat, s.heap.size ≤ q → A q := fun q h => by rw [← hAe]; exact Or.inr h
  have hS : va_S A s.heap s.heap [] := va_S.rf
  have hG : GX [98] tg σ I ri rj I ri rj rq := ⟨hG0, fun _ _ _ => rfl, fun _ _ _ _ _ => rfl, fun _ _ _ _ _ => rfl⟩
  have hl := lv_entry ([.ref this, .int a0, .int a1, .int a2]) (n := 6) (Nat.le_of_ble_eq_true rfl)
  rw [lg_entry_eq]
  generalize (lg_sl ([.ref this, .int a0, .int a1, .int a2]) ++ List.replicate (6 - (lg_sl ([.ref this, .int a0, .int a1, .int a2])).length) Slot.unset).toArray = ls at hl ⊢
  have hl : lv_has ls 6 [(0, .ref this), (1, .int a0), (2, .int a1), (3, .int a2)] := hl
  refine q_gen (fun Q hQ => ?_)
  have go : ∀ (H : Heap) (locs : List Loc) (ls : Array Slot), va_P D vwCl (pq_P t σ (I, J, ri, rj, rq)) H → va_D A (pq_P t σ (I, J, ri, rj, rq)) → va_S A s.heap H locs → lv_has ls 6 [(0, .ref this), (1, .int a0), (2, .int a1), (3, .int a2)] → W p l e ({ frames := 2, cells := 0, slots := 0, locals := 42 } : Room) s m (List.toArray ([.ref this, .int a0, .int a1, .int a2] : List Value)) below meth c H locs 0 0 Q (F0 m 0 ls []) := by
    intro H locs ls hP hD hS hl
    have hVT : VT 10 σ tg this_now := vt_10 hSH hL_this_now hK_this_now
    have hFr : FR 10 tg σ this_now (I, J, ri, rj, rq) (I, J, ri, rj, rq) := fr_rf
    have hO_this_now : this_now = vo σ 10 this_now := rfl
    obtain ⟨F, hF0⟩ : ∃ F, F = g_X11_force a0 a1 a2 (vI 10 σ this_now I) (vJ 10 σ this_now J) (vR 10 σ this_now ri) (vL 10 σ this_now rj) (vQ 10 σ this_now rq) := ⟨_, rfl⟩
    have hF := hF0.trans g_X11_force_e
    refine lv_aload_n hx hb dX11_force_0 rfl (lv_at hl 0 rfl) ?_
    refine pg_f (v := .ref this_now) (C := RX11) (T := TX11) (N := 5) hx hb hts (tw_i inlX11) hown hK hP hL_this hK_this (by decide +kernel) rfl 0 (by decide +kernel) (hts _ (tw_c tw_16)) (pq_hv rfl hR_this_now) dX11_force_1 ?_
    obtain ⟨w_1, hR_w_1, hL_w_1, hK_w_1⟩ := sh_o hSH 329 (ci := 10) (kd := 3) rfl hL_this_now hK_this_now
    have hO_w_1 : w_1 = vo σ 3 this_now := vo_k (c := 10) hO_this_now hR_w_1
    refine pg_f (v := .ref w_1) (C := RX10) (T := TX10) (N := 13) hx hb hts (tw_i inlX10) hown hK hP hL_this_now hK_this_now (by decide +kernel) rfl 9 (by decide +kernel) (hts _ (tw_c tw_648)) (pq_hv rfl hR_w_1) dX11_force_4 ?_
    refine lv_astore (lv' := [(4, .ref w_1), (0, .ref this), (1, .int a0), (2, .int a1), (3, .int a2)]) hx hb dX11_force_7 hl (by decide +kernel) rfl (fun ls hl => ?_)
    refine lv_iload_n hx hb dX11_force_9 rfl (lv_at hl 2 rfl) ?_
    refine lv_iconst (v := 0) hx hb dX11_force_10 (by decide +kernel) ?_
    refine lv_aload hx hb dX11_force_11 (lv_at hl 0 rfl) ?_
    refine pg_f (v := .int (I 96 w_1)) (C := RX3) (T := TX3) (N := 8) hx hb hts (tw_i inlX3) hown hK hP hL_w_1 hK_w_1 (by decide +kernel) rfl 0 (by decide +kernel) (hts _ (tw_c tw_649)) rfl dX11_force_13 ?_
    have h_2 : rg (I 96 w_1) 0 10 := GX.rI hG 96 rfl
    replace hF := hF.trans (ap_n (vI_e (f := 96) hO_w_1 (by decide +kernel)))
    refine lv_iconst (v := 1) hx hb dX11_force_16 (by decide +kernel) ?_
    refine lv_isub hx hb dX11_force_17 ?_
    refine lv_topi (fun x_4 ex_4 => ?_)
    replace hF := hF.trans (ap_n ex_4)
    have h_5 : rg x_4 (-1) 9 := rg_of_eq ex_4 (rg_sub h_2 (rg_k (1 : Int32) 1 rfl) (by decide +kernel))
    refine pk_i (va_runS (As := [.int a0, .int 0, .int x_4]) (rest := []) ⟨hx, hb, hml, hown, hts⟩ (s_X11_between l D t σ I J ri rj rq H.size tg hSH hG.1 a0 (0 : Int32) x_4) (va_cwS 3 hts (tw_S tw_215 tw_216 tw_2 tw_217) rfl rfl rfl cd_yX11_between_3 ⟨Nat.le_of_ble_eq_true rfl, Nat.le_of_ble_eq_true rfl⟩) ⟨pq_blind, pq_pre hK hN hP hD⟩ rfl rfl hl.1 rfl (lv_room (Nat.le_of_ble_eq_true rfl)) dX11_force_18 ⟨Nat.le_of_ble_eq_true rfl, Nat.le_of_ble_eq_true rfl⟩) hD hS hA (fun x_6 σ1 μ1 H locs hw_7 hP hD hS => ?_)
    obtain ⟨hu_8, hfn_11, hr_10⟩ := hw_7
    obtain ⟨hu_8a, hu_8b⟩ := Prod.mk.inj hu_8
    rw [hu_8a, hu_8b] at hP hD
    replace hF := hF.trans (ap_n hfn_11.symm)
    have h_13 : rg x_6 0 1 := by rcases hr_10 with ⟨q, -⟩ | ⟨q, -⟩ <;> rw [q] <;> exact ⟨by decide +kernel, by decide +kernel⟩
    have K_80 : ∀  (H : Heap) (locs : List Loc) (ls : Array Slot), rg (I 320 this_now) 0 599 → rg (a0) 0 9 → rg (a1) 0 599 → rg (a2) 0 599 → rg (x_4) 0 9 → rg (x_6) 1 1 → F = g_X11_force_K59 a0 a1 a2 (vI 10 σ this_now I) (vJ 10 σ this_now J) (vR 10 σ this_now ri) (vL 10 σ this_now rj) (vQ 10 σ this_now rq)  → FR 10 tg σ this_now (I, J, ri, rj, rq) (I, J, ri, rj, rq) → GX [98] tg σ I ri rj I ri rj rq → va_P D vwCl (pq_P t σ (I, J, ri, rj, rq)) H → va_D A (pq_P t σ (I, J, ri, rj, rq)) → va_S A s.heap H locs → lv_has ls 6 [(1, .int a0), (2, .int a1), (3, .int a2), (4, .ref w_1)] → W p l e ({ frames := 2, cells := 0, slots := 0, locals := 42 } : Room) s m (List.toArray ([.ref this, .int a0, .int a1, .int a2] : List Value)) below meth c H locs 0 0 Q (F0 m 59 ls [.int 1]) := by
      intro H locs ls h_87 h_88 h_89 h_90 h_91 h_92 hF hFr hG hP hD hS hl
      replace hF := hF.trans g_X11_force_K59_e
      refine lv_istore (lv' := [(5, .int 1), (1, .int a0), (2, .int a1), (3, .int a2), (4, .ref w_1)]) hx hb dX11_force_59 hl (by decide +kernel) rfl (fun ls hl => ?_)
      refine lv_iload hx hb dX11_force_61 (lv_at hl 0 rfl) ?_
      have K_109 : ∀  (H : Heap) (locs : List Loc) (ls : Array Slot), rg (I 98 w_1) 30 30 → F = g_X11_force_K76 (vI 10 σ this_now I) (vJ 10 σ this_now J) (vR 10 σ this_now ri) (vL 10 σ this_now rj) (vQ 10 σ this_now rq)  → FR 10 tg σ this_now (I, J, ri, rj, rq) (I, J, ri, rj, rq) → GX [98] tg σ I ri rj I ri rj rq → va_P D vwCl (pq_P t σ (I, J, ri, rj, rq)) H → va_D A (pq_P t σ (I, J, ri, rj, rq)) → va_S A s.heap H locs → lv_has ls 6 [] → W p l e ({ frames := 2, cells := 0, slots := 0, locals := 42 } : Room) s m (List.toArray ([.ref this, .int a0, .int a1, .int a2] : List Value)) below meth c H locs 0 0 Q (F0 m 76 ls []) := by
        intro H locs ls h_111 hF hFr hG hP hD hS hl
        replace hF := hF.trans g_X11_force_K76_e
        refine lv_iconst (v := (-1)) hx hb dX11_force_76 (by decide +kernel) ?_
        subst hQ
        exact W.iret (v := (-1)) hx hb hr (fun t1 ht hW => ⟨⟨(-1), (σ, I, J, ri, rj, rq), rfl, ⟨I, ri, rfl, hG, (hF0.symm.trans hF), hFr, (rg_w (rg_k (-1 : Int32) (-1) rfl) (by decide +kernel))⟩, by rw [ht]; exact hP, va_K.moved hW.alike hK, hD⟩, hS.F ht⟩) hS.2.2 dX11_force_77
      refine lv_if_eq (tgt := 76) hx hb dX11_force_63 (by decide +kernel) (fun c_112 => absurd c_112 (by decide +kernel)) (fun c_112 => ?_)
      refine lv_aload hx hb dX11_force_66 (lv_at hl 4 rfl) ?_
      refine pg_f (v := .int (I 98 w_1)) (C := RX3) (T := TX3) (N := 8) hx hb hts (tw_i inlX3) hown hK hP hL_w_1 hK_w_1 (by decide +kernel) rfl 2 (by decide +kernel) (hts _ (tw_c tw_950)) rfl dX11_force_68 ?_
      have h_113 : rg (I 98 w_1) 0 30 := GX.rI hG 98 rfl
      replace hF := hF.trans (ap_n (vI_e (f := 98) hO_w_1 (by decide +kernel)))
      refine lv_bipush (v := 30) hx hb dX11_force_71 (by decide +kernel) ?_
      refine lv_icmp_lt (tgt := 78) hx hb dX11_force_73 (by decide +kernel) (fun c_115 => ?_) (fun c_115 => ?_)
      · replace hF := hF.trans (if_pos c_115)
        have h_118 : rg (I 98 w_1) 0 29 := rg_lt1 c_115 h_113 (rg_k (30 : Int32) 30 rfl) (by decide +kernel)
        refine lv_aload hx hb dX11_force_78 (lv_at hl 4 rfl) ?_
        refine lv_iload_n hx hb dX11_force_80 rfl (lv_at hl 1 rfl) ?_
        refine lv_iload_n hx hb dX11_force_81 rfl (lv_at hl 2 rfl) ?_
        refine lv_iload_n hx hb dX11_force_82 rfl (lv_at hl 3 rfl) ?_
        refine pk_i (va_runV (As := [.int a0, .int a1, .int a2]) (rest := []) ⟨hx, hb, hml, hown, hts⟩ (s_X3_addForce l D t σ I J ri rj rq H.size tg hSH hG.1 w_1 a0 a1 a2 hL_w_1 hK_w_1 (rg_w h_88 (by decide +kernel)) this_now hL_this_now hK_this_now hO_w_1) (cwV 3 hts (tw_V tw_951 tw_952 tw_953 tw_49 tw_954) rfl rfl rfl cv_yX3_addForce_3 ⟨Nat.le_of_ble_eq_true rfl, Nat.le_of_ble_eq_true rfl⟩) ⟨pq_blind, pq_recv hK hP hL_w_1 hK_w_1 (by decide +kernel) rfl, pq_pre hK hN hP hD⟩ rfl rfl hl.1 rfl (lv_room (Nat.le_of_ble_eq_true rfl)) dX11_force_83 ⟨Nat.le_of_ble_eq_true rfl, Nat.le_of_ble_eq_true rfl⟩) hD hS hA (fun x_119 σ1 μ1 H locs hw_120 hP hD hS => ?_)
        obtain ⟨I_121, ri_122, hu_123, hg_124, hfn_126, hfr_127, hr_125⟩ := hw_120
        obtain ⟨hu_123a, hu_123b⟩ := Prod.mk.inj hu_123
        rw [hu_123a, hu_123b] at hP hD
        replace hF := hF.trans (bn_n hfn_126)
        replace hFr := fr_tr hFr hfr_127
        have hG := GX.tr hG hg_124 (by decide +kernel)
        subst hQ
        exact W.iret (v := x_119) hx hb hr (fun t1 ht hW => ⟨⟨x_119, (σ, I_121, J, ri_122, rj, rq), rfl, ⟨I_121, ri_122, rfl, hG, (hF0.symm.trans hF), hFr, (rg_w hr_125 (by decide +kernel))⟩, by rw [ht]; exact hP, va_K.moved hW.alike hK, hD⟩, hS.F ht⟩) hS.2.2 dX11_force_86
      · replace hF := hF.trans (if_neg c_115)
        have h_128 : rg (I 98 w_1) 30 30 := rg_le2 (nlt c_115) (rg_k (30 : Int32) 30 rfl) h_113 (by decide +kernel)
        exact K_109 _ _ _ (rg_w h_128 (by decide +kernel)) hF hFr hG hP hD hS (lv_sub hl [] rfl)
    have K_129 : ∀  (H : Heap) (locs : List Loc) (ls : Array Slot), F = g_X11_force_K59_2 (vI 10 σ this_now I) (vJ 10 σ this_now J) (vR 10 σ this_now ri) (vL 10 σ this_now rj) (vQ 10 σ this_now rq)  → FR 10 tg σ this_now (I, J, ri, rj, rq) (I, J, ri, rj, rq) → GX [98] tg σ I ri rj I ri rj rq → va_P D vwCl (pq_P t σ (I, J, ri, rj, rq)) H → va_D A (pq_P t σ (I, J, ri, rj, rq)) → va_S A s.heap H locs → lv_has ls 6 [(1, .int a0), (2, .int a1), (3, .int a2), (4, .ref w_1)] → W p l e ({ frames := 2, cells := 0, slots := 0, locals := 42 } : Room) s m (List.toArray ([.ref this, .int a0, .int a1, .int a2] : List Value)) below meth c H locs 0 0 Q (F0 m 59 ls [.int 0]) := by
      intro H locs ls hF hFr hG hP hD hS hl
      replace hF := hF.trans g_X11_force_K59_2_e
      refine lv_istore (lv' := [(5, .int 0), (1, .int a0), (2, .int a1), (3, .int a2), (4, .ref w_1)]) hx hb dX11_force_59 hl (by decide +kernel) rfl (fun ls hl => ?_)
      refine lv_iload hx hb dX11_force_61 (lv_at hl 0 rfl) ?_
      have K_131 : ∀  (H : Heap) (locs : List Loc) (ls : Array Slot), F = g_X11_force_K76_2 (vI 10 σ this_now I) (vJ 10 σ this_now J) (vR 10 σ this_now ri) (vL 10 σ this_now rj) (vQ 10 σ this_now rq)  → FR 10 tg σ this_now (I, J, ri, rj, rq) (I, J, ri, rj, rq) → GX [98] tg σ I ri rj I ri rj rq → va_P D vwCl (pq_P t σ (I, J, ri, rj, rq)) H → va_D A (pq_P t σ (I, J, ri, rj, rq)) → va_S A s.heap H locs → lv_has ls 6 [] → W p l e ({ frames := 2, cells := 0, slots := 0, locals := 42 } : Room) s m (List.toArray ([.ref this, .int a0, .int a1, .int a2] : List Value)) below meth c H locs 0 0 Q (F0 m 76 ls []) := by
        intro H locs ls hF hFr hG hP hD hS hl
        replace hF := hF.trans g_X11_force_K76_2_e
        refine lv_iconst (v := (-1)) hx hb dX11_force_76 (by decide +kernel) ?_
        subst hQ
        exact W.iret (v := (-1)) hx hb hr (fun t1 ht hW => ⟨⟨(-1), (σ, I, J, ri, rj, rq), rfl, ⟨I, ri, rfl, hG, (hF0.symm.trans hF), hFr, (rg_w (rg_k (-1 : Int32) (-1) rfl) (by decide +kernel))⟩, by rw [ht]; exact hP, va_K.moved hW.alike hK, hD⟩, hS.F ht⟩) hS.2.2 dX11_force_77
      refine lv_if_eq (tgt := 76) hx hb dX11_force_63 (by decide +kernel) (fun c_132 => ?_) (fun c_132 => absurd c_132 (by decide +kernel))
      exact K_131 _ _ _ hF hFr hG hP hD hS (lv_sub hl [] rfl)
    have K_133 : ∀  (H : Heap) (locs : List Loc) (ls : Array Slot), F = g_X11_force_K58 (vI 10 σ this_now I) (vJ 10 σ this_now J) (vR 10 σ this_now ri) (vL 10 σ this_now rj) (vQ 10 σ this_now rq)  → FR 10 tg σ this_now (I, J, ri, rj, rq) (I, J, ri, rj, rq) → GX [98] tg σ I ri rj I ri rj rq → va_P D vwCl (pq_P t σ (I, J, ri, rj, rq)) H → va_D A (pq_P t σ (I, J, ri, rj, rq)) → va_S A s.heap H locs → lv_has ls 6 [(1, .int a0), (2, .int a1), (3, .int a2), (4, .ref w_1)] → W p l e ({ frames := 2, cells := 0, slots := 0, locals := 42 } : Room) s m (List.toArray ([.ref this, .int a0, .int a1, .int a2] : List Value)) below meth c H locs 0 0 Q (F0 m 58 ls []) := by
      intro H locs ls hF hFr hG hP hD hS hl
      replace hF := hF.trans g_X11_force_K58_e
      refine lv_iconst (v := 0) hx hb dX11_force_58 (by decide +kernel) ?_
      exact K_129 _ _ _ hF hFr hG hP hD hS (lv_sub hl [0, 1, 2, 3] rfl)
    refine lv_if_eq (tgt := 58) hx hb dX11_force_21 (by decide +kernel) (fun c_134 => ?_) (fun c_134 => ?_)
    · replace hF := hF.trans (if_pos c_134)
      have f_143 := (hr_10.resolve_left (fun q => absurd (q.1.symm.trans c_134) (by decide +kernel))).2
      have h_144 : rg x_6 0 0 := rg_and h_13 (rg_of_eq c_134 (rg_k (0 : Int32) 0 rfl)) (by decide +kernel)
      exact K_133 _ _ _ hF hFr hG hP hD hS (lv_sub hl [2, 3, 4, 0] rfl)
    · replace hF := hF.trans (if_neg c_134)
      obtain ⟨f_145, f_146⟩ := (hr_10.resolve_right (fun q => c_134 q.1)).2
      have h_147 : rg a0 0 2147483647 := rg_le2 f_145 (rg_k (0 : Int32) 0 rfl) (rg_full _) (by decide +kernel)
      have h_148 : rg a0 0 9 := rg_le1 f_146 h_147 h_5 (by decide +kernel)
      have h_149 : rg x_4 0 9 := rg_le2 f_146 h_147 h_5 (by decide +kernel)
      have h_150 : rg x_6 1 1 := rg_ne c_134 h_13 0 rfl (by decide +kernel)
      refine lv_iload_n hx hb dX11_force_24 rfl (lv_at hl 3 rfl) ?_
      refine pk_i (va_runS (As := [.int a1]) (rest := []) ⟨hx, hb, hml, hown, hts⟩ (s_X11_isMonth l D t σ I J ri rj rq H.size tg hSH hG.1 a1) (va_cwS 1 hts (tw_S tw_247 tw_248 tw_2 tw_249) rfl rfl rfl cd_yX11_isMonth_1 ⟨Nat.le_of_ble_eq_true rfl, Nat.le_of_ble_eq_true rfl⟩) ⟨pq_blind, pq_pre hK hN hP hD⟩ rfl rfl hl.1 rfl (lv_room (Nat.le_of_ble_eq_true rfl)) dX11_force_25 ⟨Nat.le_of_ble_eq_true rfl, Nat.le_of_ble_eq_true rfl⟩) hD hS hA (fun x_151 σ1 μ1 H locs hw_152 hP hD hS => ?_)
      obtain ⟨hu_153, hfn_156, hr_155⟩ := hw_152
      obtain ⟨hu_153a, hu_153b⟩ := Prod.mk.inj hu_153
      rw [hu_153a, hu_153b] at hP hD
      replace hF := hF.trans (ap_n hfn_156.symm)
      have h_158 : rg x_151 0 1 := by rcases hr_155 with ⟨q, -⟩ | ⟨q, -⟩ <;> rw [q] <;> exact ⟨by decide +kernel, by decide +kernel⟩
      refine lv_if_eq (tgt := 58) hx hb dX11_force_28 (by decide +kernel) (fun c_159 => ?_) (fun c_159 => ?_)
      · replace hF := hF.trans (if_pos c_159)
        have f_164 := (hr_155.resolve_left (fun q => absurd (q.1.symm.trans c_159) (by decide +kernel))).2
        have h_165 : rg x_151 0 0 := rg_and h_158 (rg_of_eq c_159 (rg_k (0 : Int32) 0 rfl)) (by decide +kernel)
        exact K_133 _ _ _ hF hFr hG hP hD hS (lv_sub hl [2, 3, 4, 0] rfl)
      · replace hF := hF.trans (if_neg c_159)
        have f_166 := (hr_155.resolve_right (fun q => c_159 q.1)).2
        have h_167 : rg x_151 1 1 := rg_ne c_159 h_158 0 rfl (by decide +kernel)
        refine lv_iload_n hx hb dX11_force_31 rfl (lv_at hl 4 rfl) ?_
        refine pk_i (va_runS (As := [.int a2]) (rest := []) ⟨hx, hb, hml, hown, hts⟩ (s_X11_isMonth l D t σ I J ri rj rq H.size tg hSH hG.1 a2) (va_cwS 1 hts (tw_S tw_247 tw_248 tw_2 tw_249) rfl rfl rfl cd_yX11_isMonth_1 ⟨Nat.le_of_ble_eq_true rfl, Nat.le_of_ble_eq_true rfl⟩) ⟨pq_blind, pq_pre hK hN hP hD⟩ rfl rfl hl.1 rfl (lv_room (Nat.le_of_ble_eq_true rfl)) dX11_force_32 ⟨Nat.le_of_ble_eq_true rfl, Nat.le_of_ble_eq_true rfl⟩) hD hS hA (fun x_168 σ1 μ1 H locs hw_169 hP hD hS => ?_)
        obtain ⟨hu_170, hfn_173, hr_172⟩ := hw_169
        obtain ⟨hu_170a, hu_170b⟩ := Prod.mk.inj hu_170
        rw [hu_170a, hu_170b] at hP hD
        replace hF := hF.trans (ap_n hfn_173.symm)
        have h_175 : rg x_168 0 1 := by rcases hr_172 with ⟨q, -⟩ | ⟨q, -⟩ <;> rw [q] <;> exact ⟨by decide +kernel, by decide +kernel⟩
        refine lv_if_eq (tgt := 58) hx hb dX11_force_35 (by decide +kernel) (fun c_176 => ?_) (fun c_176 => ?_)
        · replace hF := hF.trans (if_pos c_176)
          have f_181 := (hr_172.resolve_left (fun q => absurd (q.1.symm.trans c_176) (by decide +kernel))).2
          have h_182 : rg x_168 0 0 := rg_and h_175 (rg_of_eq c_176 (rg_k (0 : Int32) 0 rfl)) (by decide +kernel)
          exact K_133 _ _ _ hF hFr hG hP hD hS (lv_sub hl [2, 3, 4, 0] rfl)
        · replace hF := hF.trans (if_neg c_176)
          have f_183 := (hr_172.resolve_right (fun q => c_176 q.1)).2
          have h_184 : rg x_168 1 1 := rg_ne c_176 h_175 0 rfl (by decide +kernel)
          refine lv_iload_n hx hb dX11_force_38 rfl (lv_at hl 3 rfl) ?_
          refine lv_aload_n hx hb dX11_force_39 rfl (lv_at hl 1 rfl) ?_
          refine pg_f (v := .ref this_now) (C := RX11) (T := TX11) (N := 5) hx hb hts (tw_i inlX11) hown hK hP hL_this hK_this (by decide +kernel) rfl 0 (by decide +kernel) (hts _ (tw_c tw_16)) (pq_hv rfl hR_this_now) dX11_force_40 ?_
          refine pg_f (v := .int (I 320 this_now)) (C := RX10) (T := TX10) (N := 13) hx hb hts (tw_i inlX10) hown hK hP hL_this_now hK_this_now (by decide +kernel) rfl 0 (by decide +kernel) (hts _ (tw_c tw_209)) rfl dX11_force_43 ?_
          have h_185 : rg (I 320 this_now) 0 600 := GX.rI hG 320 rfl
          replace hF := hF.trans (ap_n (vI_e (f := 320) hO_this_now (by decide +kernel)))
          refine lv_icmp_lt (tgt := 58) hx hb dX11_force_46 (by decide +kernel) (fun c_187 => ?_) (fun c_187 => ?_)
          · replace hF := hF.trans (if_pos c_187)
            have h_190 : rg (I 320 this_now) 1 600 := rg_lt2 c_187 f_166 h_185 (by decide +kernel)
            exact K_133 _ _ _ hF hFr hG hP hD hS (lv_sub hl [2, 3, 4, 0] rfl)
          · replace hF := hF.trans (if_neg c_187)
            have h_191 : rg (I 320 this_now) 0 599 := rg_le1 (nlt c_187) h_185 f_166 (by decide +kernel)
            refine lv_iload_n hx hb dX11_force_49 rfl (lv_at hl 3 rfl) ?_
            refine lv_iload_n hx hb dX11_force_50 rfl (lv_at hl 4 rfl) ?_
            refine lv_icmp_gt (tgt := 58) hx hb dX11_force_51 (by decide +kernel) (fun c_192 => ?_) (fun c_192 => ?_)
            · replace hF := hF.trans (if_pos c_192)
              have h_195 : rg a2 0 598 := rg_lt1 c_192 f_183 f_166 (by decide +kernel)
              have h_196 : rg a1 1 599 := rg_lt2 c_192 f_183 f_166 (by decide +kernel)
              exact K_133 _ _ _ hF hFr hG hP hD hS (lv_sub hl [2, 3, 4, 0] rfl)
            · replace hF := hF.trans (if_neg c_192)
              refine lv_iconst (v := 1) hx hb dX11_force_54 (by decide +kernel) ?_
              refine lv_goto (tgt := 59) hx hb dX11_force_55 (by decide +kernel) ?_
              exact K_80 _ _ _ (rg_w h_191 (by decide +kernel)) (rg_w h_148 (by decide +kernel)) (rg_w f_166 (by decide +kernel)) (rg_w f_183 (by decide +kernel)) (rg_w h_149 (by decide +kernel)) (rg_w h_150 (by decide +kernel)) hF hFr hG hP hD hS (lv_sub hl [2, 3, 4, 0] rfl)
  exact go _ _ _ hP hD hS hl

set_option maxRecDepth 100000 in
def g_X11_is_K24 (I : Nat → Int32) (J : Nat → Int64) (ri : Nat → Nat → Int32) (rj : Nat → Nat → Int64) (rq : Nat → Nat → Option Nat) : Int32 × vM := ((-1 : Int32), I, J, ri, rj, rq)
set_option maxRecDepth 100000 in
theorem g_X11_is_K24_e {I : Nat → Int32} {J : Nat → Int64} {ri : Nat → Nat → Int32} {rj : Nat → Nat → Int64} {rq : Nat → Nat → Option Nat} : g_X11_is_K24 I J ri rj rq  = ((-1 : Int32), I, J, ri, rj, rq) := rfl
set_option maxRecDepth 100000 in
def g_X11_is (tI : Nat → Nat → Int32) (tR : Nat → Nat → Nat → Int32) (a0 : Int32) (a1 : Int32) (a2 : Int32) (I : Nat → Int32) (J : Nat → Int64) (ri : Nat → Nat → Int32) (rj : Nat → Nat → Int64) (rq : Nat → Nat → Option Nat) : Int32 × vM := (ap1 (g_X11_between a0 (0 : Int32) (2 : Int32)) fun (x_1 : Int32) => (if x_1 = (0 : Int32) then (g_X11_is_K24 I J ri rj rq ) else (bnI (g_X11_isPerson a1 I J ri rj rq) fun (x_75 : Int32) (_ : Nat → Int32) (_ : Nat → Int64) (_ : Nat → Nat → Int32) (_ : Nat → Nat → Int64) (_ : Nat → Nat → Option Nat) => (if x_75 = (0 : Int32) then (g_X11_is_K24 I J ri rj rq ) else (ap1 (g_X11_isMonth a2) fun (x_92 : Int32) => (if x_92 = (0 : Int32) then (g_X11_is_K24 I J ri rj rq ) else (ap1 ((1 : Int32) + a0) fun (x_108 : Int32) => (ap1 ((1 : Int64) <<< (a1.toInt64 &&& 63)) fun (x_111 : Int64) => (bnI (g_X3_whoIsSo tI tR x_108 a2 x_111 I J ri rj rq) fun (x_112 : Int64) (_ : Nat → Int32) (_ : Nat → Int64) (ri_114 : Nat → Nat → Int32) (_ : Nat → Nat → Int64) (_ : Nat → Nat → Option Nat) => (ap1 (lg_cmp x_112 (0 : Int64)) fun (x_120 : Int32) => (if x_120 = (0 : Int32) then ((0 : Int32), I, J, ri_114, rj, rq) else ((1 : Int32), I, J, ri_114, rj, rq))))))))))))
set_option maxRecDepth 100000 in
theorem g_X11_is_e {tI : Nat → Nat → Int32} {tR : Nat → Nat → Nat → Int32} {a0 : Int32} {a1 : Int32} {a2 : Int32} {I : Nat → Int32} {J : Nat → Int64} {ri : Nat → Nat → Int32} {rj : Nat → Nat → Int64} {rq : Nat → Nat → Option Nat} : g_X11_is tI tR a0 a1 a2 I J ri rj rq = (ap1 (g_X11_between a0 (0 : Int32) (2 : Int32)) fun (x_1 : Int32) => (if x_1 = (0 : Int32) then (g_X11_is_K24 I J ri rj rq ) else (bnI (g_X11_isPerson a1 I J ri rj rq) fun (x_75 : Int32) (_ : Nat → Int32) (_ : Nat → Int64) (_ : Nat → Nat → Int32) (_ : Nat → Nat → Int64) (_ : Nat → Nat → Option Nat) => (if x_75 = (0 : Int32) then (g_X11_is_K24 I J ri rj rq ) else (ap1 (g_X11_isMonth a2) fun (x_92 : Int32) => (if x_92 = (0 : Int32) then (g_X11_is_K24 I J ri rj rq ) else (ap1 ((1 : Int32) + a0) fun (x_108 : Int32) => (ap1 ((1 : Int64) <<< (a1.toInt64 &&& 63)) fun (x_111 : Int64) => (bnI (g_X3_whoIsSo tI tR x_108 a2 x_111 I J ri rj rq) fun (x_112 : Int64) (_ : Nat → Int32) (_ : Nat → Int64) (ri_114 : Nat → Nat → Int32) (_ : Nat → Nat → Int64) (_ : Nat → Nat → Option Nat) => (ap1 (lg_cmp x_112 (0 : Int64)) fun (x_120 : Int32) => (if x_120 = (0 : Int32) then ((0 : Int32), I, J, ri_114, rj, rq) else ((1 : Int32), I, J, ri_114, rj, rq)))))))))))) := rfl
set_option maxHeartbeats 4000000 in
set_option maxRecDepth 100000 in
theorem s_X11_is (l : Launch) (D : va_G) (t : pq_T) (σ : pq_S) (I : Nat → Nat → Int32) (J : Nat → Nat → Int64) (ri : Nat → Nat → Int32) (rj : Nat → Nat → Int64) (rq : Nat → Nat → Option Nat) (sz : Nat) (tg : Nat → Nat) (hSH : SH σ tg) (hG0 : GS tg σ I ri rq) (this : Nat) (a0 : Int32) (a1 : Int32) (a2 : Int32) (hL_this : this ∈ σ.1) (hK_this : σ.2.1 this = 11) (this_now : Nat) (hR_this_now : σ.2.2.1 352 this = some this_now) (hL_this_now : this_now ∈ σ.1) (hK_this_now : σ.2.1 this_now = 10) : MetI l yX11_is (wa yX11_is cX11_is 4 (some .int)) ({ frames := 5, cells := 0, slots := 0, locals := 143 }) [.ref this, .int a0, .int a1, .int a2] D t σ (I, J, ri, rj, rq) sz 0 0 (fun (r : Int32) (u : pq_S × pq_M) => ∃ ri' : Nat → Nat → Int32, u = (σ, I, J, ri', rj, rq) ∧ GX [] tg σ I ri rj I ri' rj rq ∧ g_X11_is (tI σ I) (tR σ ri) a0 a1 a2 (vI 10 σ this_now I) (vJ 10 σ this_now J) (vR 10 σ this_now ri) (vL 10 σ this_now rj) (vQ 10 σ this_now rq) = (r, (vI 10 σ this_now I), (vJ 10 σ this_now J), (vR 10 σ this_now ri'), (vL 10 σ this_now rj), (vQ 10 σ this_now rq)) ∧ FR 10 tg σ this_now (I, J, ri, rj, rq) (I, J, ri', rj, rq) ∧ rg r (-1) 1) := by
  refine Met.ofW (cc := cX11_is) (maxL := 4) (ret := (some .int)) (by decide +kernel) rfl ?_
  intro p e s m args below meth c s₁ B hml hv
  obtain ⟨rfl, hsz, hP, hK, hD0, hN⟩ := hv
  have hx := B.exec
  have hb := B.bytes
  have hr := B.returns
  have hts := atoms_spec (ws := (wa yX11_is cX11_is 4 (some .int))) B.pre
  have hown : s.vm.findClass RX11 = some m.cls := findClass_of_methodNamed B.named
  have hlocks := B.notSynchronized
  subst hsz
  have hD : va_D (pq_B t σ (I, J, ri, rj, rq) s.heap.size) (pq_P t σ (I, J, ri, rj, rq)) := hD0.self
  generalize hAe : pq_B t σ (I, J, ri, rj, rq) s.heap.size = A at hD ⊢
  have hA : ∀ q : Nat, s.heap.size ≤ q → A q := fun q h => by rw [← hAe]; exact Or.inr h
  have hS : va_S A s.heap s.heap [] := va_S.rf
  have hG : GX [] tg σ I ri rj I ri rj rq := ⟨hG0, fun _ _ _ => rfl, fun _ _ _ _ _ => rfl, fun _ _ _ _ _ => rfl⟩
  have hl := lv_entry ([.ref this, .int a0, .int a1, .int a2]) (n := 4) (Nat.le_of_ble_eq_true rfl)
  rw [lg_entry_eq]
  generalize (lg_sl ([.ref this, .int a0, .int a1, .int a2]) ++ List.replicate (4 - (lg_sl ([.ref this, .int a0, .int a1, .int a2])).length) Slot.unset).toArray = ls at hl ⊢
  have hl : lv_has ls 4 [(0, .ref this), (1, .int a0), (2, .int a1), (3, .int a2)] := hl
  refine q_gen (fun Q hQ => ?_)
  have go : ∀ (H : Heap) (locs : List Loc) (ls : Array Slot), va_P D vwCl (pq_P t σ (I, J, ri, rj, rq)) H → va_D A (pq_P t σ (I, J, ri, rj, rq)) → va_S A s.heap H locs → lv_has ls 4 [(0, .ref this), (1, .int a0), (2, .int a1), (3, .int a2)] → W p l e ({ frames := 5, cells := 0, slots := 0, locals := 143 } : Room) s m (List.toArray ([.ref this, .int a0, .int a1, .int a2] : List Value)) below meth c H locs 0 0 Q (F0 m 0 ls []) := by
    intro H locs ls hP hD hS hl
    have hVT : VT 10 σ tg this_now := vt_10 hSH hL_this_now hK_this_now
    have hFr : FR 10 tg σ this_now (I, J, ri, rj, rq) (I, J, ri, rj, rq) := fr_rf
    have hO_this_now : this_now = vo σ 10 this_now := rfl
    obtain ⟨F, hF0⟩ : ∃ F, F = g_X11_is (tI σ I) (tR σ ri) a0 a1 a2 (vI 10 σ this_now I) (vJ 10 σ this_now J) (vR 10 σ this_now ri) (vL 10 σ this_now rj) (vQ 10 σ this_now rq) := ⟨_, rfl⟩
    have hF := hF0.trans g_X11_is_e
    refine lv_iload_n hx hb dX11_is_0 rfl (lv_at hl 1 rfl) ?_
    refine lv_iconst (v := 0) hx hb dX11_is_1 (by decide +kernel) ?_
    refine lv_iconst (v := 2) hx hb dX11_is_2 (by decide +kernel) ?_
    refine pk_i (va_runS (As := [.int a0, .int 0, .int 2]) (rest := []) ⟨hx, hb, hml, hown, hts⟩ (s_X11_between l D t σ I J ri rj rq H.size tg hSH hG.1 a0 (0 : Int32) (2 : Int32)) (va_cwS 3 hts (tw_S tw_215 tw_216 tw_2 tw_217) rfl rfl rfl cd_yX11_between_3 ⟨Nat.le_of_ble_eq_true rfl, Nat.le_of_ble_eq_true rfl⟩) ⟨pq_blind, pq_pre hK hN hP hD⟩ rfl rfl hl.1 rfl (lv_room (Nat.le_of_ble_eq_true rfl)) dX11_is_3 ⟨Nat.le_of_ble_eq_true rfl, Nat.le_of_ble_eq_true rfl⟩) hD hS hA (fun x_1 σ1 μ1 H locs hw_2 hP hD hS => ?_)
    obtain ⟨hu_3, hfn_6, hr_5⟩ := hw_2
    obtain ⟨hu_3a, hu_3b⟩ := Prod.mk.inj hu_3
    rw [hu_3a, hu_3b] at hP hD
    replace hF := hF.trans (ap_n hfn_6.symm)
    have h_8 : rg x_1 0 1 := by rcases hr_5 with ⟨q, -⟩ | ⟨q, -⟩ <;> rw [q] <;> exact ⟨by decide +kernel, by decide +kernel⟩
    have K_59 : ∀  (H : Heap) (locs : List Loc) (ls : Array Slot), F = g_X11_is_K24 (vI 10 σ this_now I) (vJ 10 σ this_now J) (vR 10 σ this_now ri) (vL 10 σ this_now rj) (vQ 10 σ this_now rq)  → FR 10 tg σ this_now (I, J, ri, rj, rq) (I, J, ri, rj, rq) → GX [] tg σ I ri rj I ri rj rq → va_P D vwCl (pq_P t σ (I, J, ri, rj, rq)) H → va_D A (pq_P t σ (I, J, ri, rj, rq)) → va_S A s.heap H locs → lv_has ls 4 [] → W p l e ({ frames := 5, cells := 0, slots := 0, locals := 143 } : Room) s m (List.toArray ([.ref this, .int a0, .int a1, .int a2] : List Value)) below meth c H locs 0 0 Q (F0 m 24 ls []) := by
      intro H locs ls hF hFr hG hP hD hS hl
      replace hF := hF.trans g_X11_is_K24_e
      refine lv_iconst (v := (-1)) hx hb dX11_is_24 (by decide +kernel) ?_
      subst hQ
      exact W.iret (v := (-1)) hx hb hr (fun t1 ht hW => ⟨⟨(-1), (σ, I, J, ri, rj, rq), rfl, ⟨ri, rfl, hG, (hF0.symm.trans hF), hFr, (rg_w (rg_k (-1 : Int32) (-1) rfl) (by decide +kernel))⟩, by rw [ht]; exact hP, va_K.moved hW.alike hK, hD⟩, hS.F ht⟩) hS.2.2 dX11_is_25
    refine lv_if_eq (tgt := 24) hx hb dX11_is_6 (by decide +kernel) (fun c_60 => ?_) (fun c_60 => ?_)
    · replace hF := hF.trans (if_pos c_60)
      have f_68 := (hr_5.resolve_left (fun q => absurd (q.1.symm.trans c_60) (by decide +kernel))).2
      have h_69 : rg x_1 0 0 := rg_and h_8 (rg_of_eq c_60 (rg_k (0 : Int32) 0 rfl)) (by decide +kernel)
      exact K_59 _ _ _ hF hFr hG hP hD hS (lv_sub hl [] rfl)
    · replace hF := hF.trans (if_neg c_60)
      obtain ⟨f_70, f_71⟩ := (hr_5.resolve_right (fun q => c_60 q.1)).2
      have h_72 : rg a0 0 2147483647 := rg_le2 f_70 (rg_k (0 : Int32) 0 rfl) (rg_full _) (by decide +kernel)
      have h_73 : rg a0 0 2 := rg_le1 f_71 h_72 (rg_k (2 : Int32) 2 rfl) (by decide +kernel)
      have h_74 : rg x_1 1 1 := rg_ne c_60 h_8 0 rfl (by decide +kernel)
      refine lv_aload_n hx hb dX11_is_9 rfl (lv_at hl 0 rfl) ?_
      refine lv_iload_n hx hb dX11_is_10 rfl (lv_at hl 2 rfl) ?_
      refine pk_i (va_runV (As := [.int a1]) (rest := []) ⟨hx, hb, hml, hown, hts⟩ (s_X11_isPerson l D t σ I J ri rj rq H.size tg hSH hG.1 this a1 hL_this hK_this this_now hR_this_now hL_this_now hK_this_now) (cwV 1 hts (tw_V tw_405 tw_406 tw_407 tw_2 tw_408) rfl rfl rfl cv_yX11_isPerson_1 ⟨Nat.le_of_ble_eq_true rfl, Nat.le_of_ble_eq_true rfl⟩) ⟨pq_blind, pq_recv hK hP hL_this hK_this (by decide +kernel) rfl, pq_pre hK hN hP hD⟩ rfl rfl hl.1 rfl (lv_room (Nat.le_of_ble_eq_true rfl)) dX11_is_11 ⟨Nat.le_of_ble_eq_true rfl, Nat.le_of_ble_eq_true rfl⟩) hD hS hA (fun x_75 σ1 μ1 H locs hw_76 hP hD hS => ?_)
      obtain ⟨hu_77, hfn_80, hr_79⟩ := hw_76
      obtain ⟨hu_77a, hu_77b⟩ := Prod.mk.inj hu_77
      rw [hu_77a, hu_77b] at hP hD
      replace hF := hF.trans (bn_n hfn_80)
      have h_82 : rg x_75 0 1 := by rcases hr_79 with ⟨q, -⟩ | ⟨q, -⟩ <;> rw [q] <;> exact ⟨by decide +kernel, by decide +kernel⟩
      refine lv_if_eq (tgt := 24) hx hb dX11_is_14 (by decide +kernel) (fun c_83 => ?_) (fun c_83 => ?_)
      · replace hF := hF.trans (if_pos c_83)
        have f_88 := (hr_79.resolve_left (fun q => absurd (q.1.symm.trans c_83) (by decide +kernel))).2
        have h_89 : rg x_75 0 0 := rg_and h_82 (rg_of_eq c_83 (rg_k (0 : Int32) 0 rfl)) (by decide +kernel)
        exact K_59 _ _ _ hF hFr hG hP hD hS (lv_sub hl [] rfl)
      · replace hF := hF.trans (if_neg c_83)
        have f_90 := (hr_79.resolve_right (fun q => c_83 q.1)).2
        have h_91 : rg x_75 1 1 := rg_ne c_83 h_82 0 rfl (by decide +kernel)
        refine lv_iload_n hx hb dX11_is_17 rfl (lv_at hl 3 rfl) ?_
        refine pk_i (va_runS (As := [.int a2]) (rest := []) ⟨hx, hb, hml, hown, hts⟩ (s_X11_isMonth l D t σ I J ri rj rq H.size tg hSH hG.1 a2) (va_cwS 1 hts (tw_S tw_247 tw_248 tw_2 tw_249) rfl rfl rfl cd_yX11_isMonth_1 ⟨Nat.le_of_ble_eq_true rfl, Nat.le_of_ble_eq_true rfl⟩) ⟨pq_blind, pq_pre hK hN hP hD⟩ rfl rfl hl.1 rfl (lv_room (Nat.le_of_ble_eq_true rfl)) dX11_is_18 ⟨Nat.le_of_ble_eq_true rfl, Nat.le_of_ble_eq_true rfl⟩) hD hS hA (fun x_92 σ1 μ1 H locs hw_93 hP hD hS => ?_)
        obtain ⟨hu_94, hfn_97, hr_96⟩ := hw_93
        obtain ⟨hu_94a, hu_94b⟩ := Prod.mk.inj hu_94
        rw [hu_94a, hu_94b] at hP hD
        replace hF := hF.trans (ap_n hfn_97.symm)
        have h_99 : rg x_92 0 1 := by rcases hr_96 with ⟨q, -⟩ | ⟨q, -⟩ <;> rw [q] <;> exact ⟨by decide +kernel, by decide +kernel⟩
        refine lv_if_ne (tgt := 26) hx hb dX11_is_21 (by decide +kernel) (fun c_100 => ?_) (fun c_100 => ?_)
        · replace hF := hF.trans (if_neg c_100)
          have f_105 := (hr_96.resolve_right (fun q => c_100 q.1)).2
          have h_106 : rg x_92 1 1 := rg_ne c_100 h_99 0 rfl (by decide +kernel)
          refine lv_aload_n hx hb dX11_is_26 rfl (lv_at hl 0 rfl) ?_
          refine pg_f (v := .ref this_now) (C := RX11) (T := TX11) (N := 5) hx hb hts (tw_i inlX11) hown hK hP hL_this hK_this (by decide +kernel) rfl 0 (by decide +kernel) (hts _ (tw_c tw_16)) (pq_hv rfl hR_this_now) dX11_is_27 ?_
          obtain ⟨w_107, hR_w_107, hL_w_107, hK_w_107⟩ := sh_o hSH 329 (ci := 10) (kd := 3) rfl hL_this_now hK_this_now
          have hO_w_107 : w_107 = vo σ 3 this_now := vo_k (c := 10) hO_this_now hR_w_107
          refine pg_f (v := .ref w_107) (C := RX10) (T := TX10) (N := 13) hx hb hts (tw_i inlX10) hown hK hP hL_this_now hK_this_now (by decide +kernel) rfl 9 (by decide +kernel) (hts _ (tw_c tw_648)) (pq_hv rfl hR_w_107) dX11_is_30 ?_
          refine lv_iconst (v := 1) hx hb dX11_is_33 (by decide +kernel) ?_
          refine lv_iload_n hx hb dX11_is_34 rfl (lv_at hl 1 rfl) ?_
          refine lv_iadd hx hb dX11_is_35 ?_
          refine lv_topi (fun x_108 ex_108 => ?_)
          replace hF := hF.trans (ap_n ex_108)
          have h_109 : rg x_108 1 3 := rg_of_eq ex_108 (rg_add (rg_k (1 : Int32) 1 rfl) h_73 (by decide +kernel))
          refine lv_iload_n hx hb dX11_is_36 rfl (lv_at hl 3 rfl) ?_
          refine lv_aload_n hx hb dX11_is_37 rfl (lv_at hl 0 rfl) ?_
          refine pg_f (v := .ref this_now) (C := RX11) (T := TX11) (N := 5) hx hb hts (tw_i inlX11) hown hK hP hL_this hK_this (by decide +kernel) rfl 0 (by decide +kernel) (hts _ (tw_c tw_16)) (pq_hv rfl hR_this_now) dX11_is_38 ?_
          obtain ⟨w_110, hR_w_110, hL_w_110, hK_w_110⟩ := sh_o hSH 328 (ci := 10) (kd := 0) rfl hL_this_now hK_this_now
          have hO_w_110 : w_110 = vo σ 0 this_now := vo_k (c := 10) hO_this_now hR_w_110
          refine pg_f (v := .ref w_110) (C := RX10) (T := TX10) (N := 13) hx hb hts (tw_i inlX10) hown hK hP hL_this_now hK_this_now (by decide +kernel) rfl 8 (by decide +kernel) (hts _ (tw_c tw_379)) (pq_hv rfl hR_w_110) dX11_is_41 ?_
          refine lv_lconst (v := 1) hx hb dX11_is_44 (by decide +kernel) ?_
          refine lv_iload_n hx hb dX11_is_45 rfl (lv_at hl 2 rfl) ?_
          refine lv_lshl hx hb dX11_is_46 rfl ?_
          refine lv_topl (fun x_111 ex_111 => ?_)
          replace hF := hF.trans (ap_n ex_111)
          refine pk_l (va_runV (As := [.int x_108, .int a2, .ref w_110, .long x_111]) (rest := []) ⟨hx, hb, hml, hown, hts⟩ (s_X3_whoIsSo l D t σ I J ri rj rq H.size tg hSH hG.1 w_107 x_108 a2 w_110 x_111 hL_w_107 hK_w_107 hL_w_110 hK_w_110 this_now hL_this_now hK_this_now hO_w_107 hO_w_110) (cwV 4 hts (tw_V tw_963 tw_964 tw_965 tw_49 tw_966) rfl rfl rfl cv_yX3_whoIsSo_4 ⟨Nat.le_of_ble_eq_true rfl, Nat.le_of_ble_eq_true rfl⟩) ⟨pq_blind, pq_recv hK hP hL_w_107 hK_w_107 (by decide +kernel) rfl, pq_pre hK hN hP hD⟩ rfl rfl hl.1 rfl (lv_room (Nat.le_of_ble_eq_true rfl)) dX11_is_47 ⟨Nat.le_of_ble_eq_true rfl, Nat.le_of_ble_eq_true rfl⟩) hD hS hA (fun x_112 σ1 μ1 H locs hw_113 hP hD hS => ?_)
          obtain ⟨ri_114, hu_115, hg_116, hfn_118, hfr_119⟩ := hw_113
          obtain ⟨hu_115a, hu_115b⟩ := Prod.mk.inj hu_115
          rw [hu_115a, hu_115b] at hP hD
          replace hF := hF.trans (bn_n hfn_118)
          replace hFr := fr_tr hFr hfr_119
          have hG := GX.tr hG hg_116 (by decide +kernel)
          refine lv_lconst (v := 0) hx hb dX11_is_50 (by decide +kernel) ?_
          refine W.lcmp hx hb dX11_is_51 ?_
          refine lv_topi (fun x_120 ex_120 => ?_)
          replace hF := hF.trans (ap_n ex_120)
          refine lv_if_eq (tgt := 59) hx hb dX11_is_52 (by decide +kernel) (fun c_121 => ?_) (fun c_121 => ?_)
          · replace hF := hF.trans (if_pos c_121)
            have h_123 : rg x_120 0 0 := rg_and (rg_full _) (rg_of_eq c_121 (rg_k (0 : Int32) 0 rfl)) (by decide +kernel)
            refine lv_iconst (v := 0) hx hb dX11_is_59 (by decide +kernel) ?_
            subst hQ
            exact W.iret (v := 0) hx hb hr (fun t1 ht hW => ⟨⟨0, (σ, I, J, ri_114, rj, rq), rfl, ⟨ri_114, rfl, hG, (hF0.symm.trans hF), hFr, (rg_w (rg_k (0 : Int32) 0 rfl) (by decide +kernel))⟩, by rw [ht]; exact hP, va_K.moved hW.alike hK, hD⟩, hS.F ht⟩) hS.2.2 dX11_is_60
          · replace hF := hF.trans (if_neg c_121)
            refine lv_iconst (v := 1) hx hb dX11_is_55 (by decide +kernel) ?_
            refine lv_goto (tgt := 60) hx hb dX11_is_56 (by decide +kernel) ?_
            subst hQ
            exact W.iret (v := 1) hx hb hr (fun t1 ht hW => ⟨⟨1, (σ, I, J, ri_114, rj, rq), rfl, ⟨ri_114, rfl, hG, (hF0.symm.trans hF), hFr, (rg_w (rg_k (1 : Int32) 1 rfl) (by decide +kernel))⟩, by rw [ht]; exact hP, va_K.moved hW.alike hK, hD⟩, hS.F ht⟩) hS.2.2 dX11_is_60
        · replace hF := hF.trans (if_pos c_100)
          have f_124 := (hr_96.resolve_left (fun q => absurd (q.1.symm.trans c_100) (by decide +kernel))).2
          have h_125 : rg x_92 0 0 := rg_and h_99 (rg_of_eq c_100 (rg_k (0 : Int32) 0 rfl)) (by decide +kernel)
          exact K_59 _ _ _ hF hFr hG hP hD hS (lv_sub hl [] rfl)
  exact go _ _ _ hP hD hS hl

set_option maxRecDepth 100000 in
def g_X11_why_K24 (I : Nat → Int32) (J : Nat → Int64) (ri : Nat → Nat → Int32) (rj : Nat → Nat → Int64) (rq : Nat → Nat → Option Nat) : Int32 × vM := ((-1 : Int32), I, J, ri, rj, rq)
set_option maxRecDepth 100000 in
theorem g_X11_why_K24_e {I : Nat → Int32} {J : Nat → Int64} {ri : Nat → Nat → Int32} {rj : Nat → Nat → Int64} {rq : Nat → Nat → Option Nat} : g_X11_why_K24 I J ri rj rq  = ((-1 : Int32), I, J, ri, rj, rq) := rfl
set_option maxRecDepth 100000 in
def g_X11_why (tI : Nat → Nat → Int32) (tR : Nat → Nat → Nat → Int32) (a0 : Int32) (a1 : Int32) (a2 : Int32) (I : Nat → Int32) (J : Nat → Int64) (ri : Nat → Nat → Int32) (rj : Nat → Nat → Int64) (rq : Nat → Nat → Option Nat) : Int32 × vM := (ap1 (g_X11_between a0 (0 : Int32) (2 : Int32)) fun (x_1 : Int32) => (if x_1 = (0 : Int32) then (g_X11_why_K24 I J ri rj rq ) else (bnI (g_X11_isPerson a1 I J ri rj rq) fun (x_71 : Int32) (_ : Nat → Int32) (_ : Nat → Int64) (_ : Nat → Nat → Int32) (_ : Nat → Nat → Int64) (_ : Nat → Nat → Option Nat) => (if x_71 = (0 : Int32) then (g_X11_why_K24 I J ri rj rq ) else (ap1 (g_X11_isMonth a2) fun (x_88 : Int32) => (if x_88 = (0 : Int32) then (g_X11_why_K24 I J ri rj rq ) else (ap1 ((1 : Int32) + a0) fun (x_104 : Int32) => (bnI (g_X3_clauseBy tI tR x_104 a2 a1 I J ri rj rq) fun (x_107 : Int32) (_ : Nat → Int32) (_ : Nat → Int64) (ri_109 : Nat → Nat → Int32) (_ : Nat → Nat → Int64) (_ : Nat → Nat → Option Nat) => (x_107, I, J, ri_109, rj, rq)))))))))
set_option maxRecDepth 100000 in
theorem g_X11_why_e {tI : Nat → Nat → Int32} {tR : Nat → Nat → Nat → Int32} {a0 : Int32} {a1 : Int32} {a2 : Int32} {I : Nat → Int32} {J : Nat → Int64} {ri : Nat → Nat → Int32} {rj : Nat → Nat → Int64} {rq : Nat → Nat → Option Nat} : g_X11_why tI tR a0 a1 a2 I J ri rj rq = (ap1 (g_X11_between a0 (0 : Int32) (2 : Int32)) fun (x_1 : Int32) => (if x_1 = (0 : Int32) then (g_X11_why_K24 I J ri rj rq ) else (bnI (g_X11_isPerson a1 I J ri rj rq) fun (x_71 : Int32) (_ : Nat → Int32) (_ : Nat → Int64) (_ : Nat → Nat → Int32) (_ : Nat → Nat → Int64) (_ : Nat → Nat → Option Nat) => (if x_71 = (0 : Int32) then (g_X11_why_K24 I J ri rj rq ) else (ap1 (g_X11_isMonth a2) fun (x_88 : Int32) => (if x_88 = (0 : Int32) then (g_X11_why_K24 I J ri rj rq ) else (ap1 ((1 : Int32) + a0) fun (x_104 : Int32) => (bnI (g_X3_clauseBy tI tR x_104 a2 a1 I J ri rj rq) fun (x_107 : Int32) (_ : Nat → Int32) (_ : Nat → Int64) (ri_109 : Nat → Nat → Int32) (_ : Nat → Nat → Int64) (_ : Nat → Nat → Option Nat) => (x_107, I, J, ri_109, rj, rq))))))))) := rfl
set_option maxHeartbeats 4000000 in
set_option maxRecDepth 100000 in
theorem s_X11_why (l : Launch) (D : va_G) (t : pq_T) (σ : pq_S) (I : Nat → Nat → Int32) (J : Nat → Nat → Int64) (ri : Nat → Nat → Int32) (rj : Nat → Nat → Int64) (rq : Nat → Nat → Option Nat) (sz : Nat) (tg : Nat → Nat) (hSH : SH σ tg) (hG0 : GS tg σ I ri rq) (this : Nat) (a0 : Int32) (a1 : Int32) (a2 : Int32) (hL_this : this ∈ σ.1) (hK_this : σ.2.1 this = 11) (this_now : Nat) (hR_this_now : σ.2.2.1 352 this = some this_now) (hL_this_now : this_now ∈ σ.1) (hK_this_now : σ.2.1 this_now = 10) : MetI l yX11_why (wa yX11_why cX11_why 4 (some .int)) ({ frames := 5, cells := 0, slots := 0, locals := 139 }) [.ref this, .int a0, .int a1, .int a2] D t σ (I, J, ri, rj, rq) sz 0 0 (fun (r : Int32) (u : pq_S × pq_M) => ∃ ri' : Nat → Nat → Int32, u = (σ, I, J, ri', rj, rq) ∧ GX [] tg σ I ri rj I ri' rj rq ∧ g_X11_why (tI σ I) (tR σ ri) a0 a1 a2 (vI 10 σ this_now I) (vJ 10 σ this_now J) (vR 10 σ this_now ri) (vL 10 σ this_now rj) (vQ 10 σ this_now rq) = (r, (vI 10 σ this_now I), (vJ 10 σ this_now J), (vR 10 σ this_now ri'), (vL 10 σ this_now rj), (vQ 10 σ this_now rq)) ∧ FR 10 tg σ this_now (I, J, ri, rj, rq) (I, J, ri', rj, rq) ∧ rg r (-1) 19) := by
  refine Met.ofW (cc := cX11_why) (maxL := 4) (ret := (some .int)) (by decide +kernel) rfl ?_
  intro p e s m args below meth c s₁ B hml hv
  obtain ⟨rfl, hsz, hP, hK, hD0, hN⟩ := hv
  have hx := B.exec
  have hb := B.bytes
  have hr := B.returns
  have hts := atoms_spec (ws := (wa yX11_why cX11_why 4 (some .int))) B.pre
  have hown : s.vm.findClass RX11 = some m.cls := findClass_of_methodNamed B.named
  have hlocks := B.notSynchronized
  subst hsz
  have hD : va_D (pq_B t σ (I, J, ri, rj, rq) s.heap.size) (pq_P t σ (I, J, ri, rj, rq)) := hD0.self
  generalize hAe : pq_B t σ (I, J, ri, rj, rq) s.heap.size = A at hD ⊢
  have hA : ∀ q : Nat, s.heap.size ≤ q → A q := fun q h => by rw [← hAe]; exact Or.inr h
  have hS : va_S A s.heap s.heap [] := va_S.rf
  have hG : GX [] tg σ I ri rj I ri rj rq := ⟨hG0, fun _ _ _ => rfl, fun _ _ _ _ _ => rfl, fun _ _ _ _ _ => rfl⟩
  have hl := lv_entry ([.ref this, .int a0, .int a1, .int a2]) (n := 4) (Nat.le_of_ble_eq_true rfl)
  rw [lg_entry_eq]
  generalize (lg_sl ([.ref this, .int a0, .int a1, .int a2]) ++ List.replicate (4 - (lg_sl ([.ref this, .int a0, .int a1, .int a2])).length) Slot.unset).toArray = ls at hl ⊢
  have hl : lv_has ls 4 [(0, .ref this), (1, .int a0), (2, .int a1), (3, .int a2)] := hl
  refine q_gen (fun Q hQ => ?_)
  have go : ∀ (H : Heap) (locs : List Loc) (ls : Array Slot), va_P D vwCl (pq_P t σ (I, J, ri, rj, rq)) H → va_D A (pq_P t σ (I, J, ri, rj, rq)) → va_S A s.heap H locs → lv_has ls 4 [(0, .ref this), (1, .int a0), (2, .int a1), (3, .int a2)] → W p l e ({ frames := 5, cells := 0, slots := 0, locals := 139 } : Room) s m (List.toArray ([.ref this, .int a0, .int a1, .int a2] : List Value)) below meth c H locs 0 0 Q (F0 m 0 ls []) := by
    intro H locs ls hP hD hS hl
    have hVT : VT 10 σ tg this_now := vt_10 hSH hL_this_now hK_this_now
    have hFr : FR 10 tg σ this_now (I, J, ri, rj, rq) (I, J, ri, rj, rq) := fr_rf
    have hO_this_now : this_now = vo σ 10 this_now := rfl
    obtain ⟨F, hF0⟩ : ∃ F, F = g_X11_why (tI σ I) (tR σ ri) a0 a1 a2 (vI 10 σ this_now I) (vJ 10 σ this_now J) (vR 10 σ this_now ri) (vL 10 σ this_now rj) (vQ 10 σ this_now rq) := ⟨_, rfl⟩
    have hF := hF0.trans g_X11_why_e
    refine lv_iload_n hx hb dX11_why_0 rfl (lv_at hl 1 rfl) ?_
    refine lv_iconst (v := 0) hx hb dX11_why_1 (by decide +kernel) ?_
    refine lv_iconst (v := 2) hx hb dX11_why_2 (by decide +kernel) ?_
    refine pk_i (va_runS (As := [.int a0, .int 0, .int 2]) (rest := []) ⟨hx, hb, hml, hown, hts⟩ (s_X11_between l D t σ I J ri rj rq H.size tg hSH hG.1 a0 (0 : Int32) (2 : Int32)) (va_cwS 3 hts (tw_S tw_215 tw_216 tw_2 tw_217) rfl rfl rfl cd_yX11_between_3 ⟨Nat.le_of_ble_eq_true rfl, Nat.le_of_ble_eq_true rfl⟩) ⟨pq_blind, pq_pre hK hN hP hD⟩ rfl rfl hl.1 rfl (lv_room (Nat.le_of_ble_eq_true rfl)) dX11_why_3 ⟨Nat.le_of_ble_eq_true rfl, Nat.le_of_ble_eq_true rfl⟩) hD hS hA (fun x_1 σ1 μ1 H locs hw_2 hP hD hS => ?_)
    obtain ⟨hu_3, hfn_6, hr_5⟩ := hw_2
    obtain ⟨hu_3a, hu_3b⟩ := Prod.mk.inj hu_3
    rw [hu_3a, hu_3b] at hP hD
    replace hF := hF.trans (ap_n hfn_6.symm)
    have h_8 : rg x_1 0 1 := by rcases hr_5 with ⟨q, -⟩ | ⟨q, -⟩ <;> rw [q] <;> exact ⟨by decide +kernel, by decide +kernel⟩
    have K_55 : ∀  (H : Heap) (locs : List Loc) (ls : Array Slot), F = g_X11_why_K24 (vI 10 σ this_now I) (vJ 10 σ this_now J) (vR 10 σ this_now ri) (vL 10 σ this_now rj) (vQ 10 σ this_now rq)  → FR 10 tg σ this_now (I, J, ri, rj, rq) (I, J, ri, rj, rq) → GX [] tg σ I ri rj I ri rj rq → va_P D vwCl (pq_P t σ (I, J, ri, rj, rq)) H → va_D A (pq_P t σ (I, J, ri, rj, rq)) → va_S A s.heap H locs → lv_has ls 4 [] → W p l e ({ frames := 5, cells := 0, slots := 0, locals := 139 } : Room) s m (List.toArray ([.ref this, .int a0, .int a1, .int a2] : List Value)) below meth c H locs 0 0 Q (F0 m 24 ls []) := by
      intro H locs ls hF hFr hG hP hD hS hl
      replace hF := hF.trans g_X11_why_K24_e
      refine lv_iconst (v := (-1)) hx hb dX11_why_24 (by decide +kernel) ?_
      subst hQ
      exact W.iret (v := (-1)) hx hb hr (fun t1 ht hW => ⟨⟨(-1), (σ, I, J, ri, rj, rq), rfl, ⟨ri, rfl, hG, (hF0.symm.trans hF), hFr, (rg_w (rg_k (-1 : Int32) (-1) rfl) (by decide +kernel))⟩, by rw [ht]; exact hP, va_K.moved hW.alike hK, hD⟩, hS.F ht⟩) hS.2.2 dX11_why_25
    refine lv_if_eq (tgt := 24) hx hb dX11_why_6 (by decide +kernel) (fun c_56 => ?_) (fun c_56 => ?_)
    · replace hF := hF.trans (if_pos c_56)
      have f_64 := (hr_5.resolve_left (fun q => absurd (q.1.symm.trans c_56) (by decide +kernel))).2
      have h_65 : rg x_1 0 0 := rg_and h_8 (rg_of_eq c_56 (rg_k (0 : Int32) 0 rfl)) (by decide +kernel)
      exact K_55 _ _ _ hF hFr hG hP hD hS (lv_sub hl [] rfl)
    · replace hF := hF.trans (if_neg c_56)
      obtain ⟨f_66, f_67⟩ := (hr_5.resolve_right (fun q => c_56 q.1)).2
      have h_68 : rg a0 0 2147483647 := rg_le2 f_66 (rg_k (0 : Int32) 0 rfl) (rg_full _) (by decide +kernel)
      have h_69 : rg a0 0 2 := rg_le1 f_67 h_68 (rg_k (2 : Int32) 2 rfl) (by decide +kernel)
      have h_70 : rg x_1 1 1 := rg_ne c_56 h_8 0 rfl (by decide +kernel)
      refine lv_aload_n hx hb dX11_why_9 rfl (lv_at hl 0 rfl) ?_
      refine lv_iload_n hx hb dX11_why_10 rfl (lv_at hl 2 rfl) ?_
      refine pk_i (va_runV (As := [.int a1]) (rest := []) ⟨hx, hb, hml, hown, hts⟩ (s_X11_isPerson l D t σ I J ri rj rq H.size tg hSH hG.1 this a1 hL_this hK_this this_now hR_this_now hL_this_now hK_this_now) (cwV 1 hts (tw_V tw_405 tw_406 tw_407 tw_2 tw_408) rfl rfl rfl cv_yX11_isPerson_1 ⟨Nat.le_of_ble_eq_true rfl, Nat.le_of_ble_eq_true rfl⟩) ⟨pq_blind, pq_recv hK hP hL_this hK_this (by decide +kernel) rfl, pq_pre hK hN hP hD⟩ rfl rfl hl.1 rfl (lv_room (Nat.le_of_ble_eq_true rfl)) dX11_why_11 ⟨Nat.le_of_ble_eq_true rfl, Nat.le_of_ble_eq_true rfl⟩) hD hS hA (fun x_71 σ1 μ1 H locs hw_72 hP hD hS => ?_)
      obtain ⟨hu_73, hfn_76, hr_75⟩ := hw_72
      obtain ⟨hu_73a, hu_73b⟩ := Prod.mk.inj hu_73
      rw [hu_73a, hu_73b] at hP hD
      replace hF := hF.trans (bn_n hfn_76)
      have h_78 : rg x_71 0 1 := by rcases hr_75 with ⟨q, -⟩ | ⟨q, -⟩ <;> rw [q] <;> exact ⟨by decide +kernel, by decide +kernel⟩
      refine lv_if_eq (tgt := 24) hx hb dX11_why_14 (by decide +kernel) (fun c_79 => ?_) (fun c_79 => ?_)
      · replace hF := hF.trans (if_pos c_79)
        have f_84 := (hr_75.resolve_left (fun q => absurd (q.1.symm.trans c_79) (by decide +kernel))).2
        have h_85 : rg x_71 0 0 := rg_and h_78 (rg_of_eq c_79 (rg_k (0 : Int32) 0 rfl)) (by decide +kernel)
        exact K_55 _ _ _ hF hFr hG hP hD hS (lv_sub hl [] rfl)
      · replace hF := hF.trans (if_neg c_79)
        have f_86 := (hr_75.resolve_right (fun q => c_79 q.1)).2
        have h_87 : rg x_71 1 1 := rg_ne c_79 h_78 0 rfl (by decide +kernel)
        refine lv_iload_n hx hb dX11_why_17 rfl (lv_at hl 3 rfl) ?_
        refine pk_i (va_runS (As := [.int a2]) (rest := []) ⟨hx, hb, hml, hown, hts⟩ (s_X11_isMonth l D t σ I J ri rj rq H.size tg hSH hG.1 a2) (va_cwS 1 hts (tw_S tw_247 tw_248 tw_2 tw_249) rfl rfl rfl cd_yX11_isMonth_1 ⟨Nat.le_of_ble_eq_true rfl, Nat.le_of_ble_eq_true rfl⟩) ⟨pq_blind, pq_pre hK hN hP hD⟩ rfl rfl hl.1 rfl (lv_room (Nat.le_of_ble_eq_true rfl)) dX11_why_18 ⟨Nat.le_of_ble_eq_true rfl, Nat.le_of_ble_eq_true rfl⟩) hD hS hA (fun x_88 σ1 μ1 H locs hw_89 hP hD hS => ?_)
        obtain ⟨hu_90, hfn_93, hr_92⟩ := hw_89
        obtain ⟨hu_90a, hu_90b⟩ := Prod.mk.inj hu_90
        rw [hu_90a, hu_90b] at hP hD
        replace hF := hF.trans (ap_n hfn_93.symm)
        have h_95 : rg x_88 0 1 := by rcases hr_92 with ⟨q, -⟩ | ⟨q, -⟩ <;> rw [q] <;> exact ⟨by decide +kernel, by decide +kernel⟩
        refine lv_if_ne (tgt := 26) hx hb dX11_why_21 (by decide +kernel) (fun c_96 => ?_) (fun c_96 => ?_)
        · replace hF := hF.trans (if_neg c_96)
          have f_101 := (hr_92.resolve_right (fun q => c_96 q.1)).2
          have h_102 : rg x_88 1 1 := rg_ne c_96 h_95 0 rfl (by decide +kernel)
          refine lv_aload_n hx hb dX11_why_26 rfl (lv_at hl 0 rfl) ?_
          refine pg_f (v := .ref this_now) (C := RX11) (T := TX11) (N := 5) hx hb hts (tw_i inlX11) hown hK hP hL_this hK_this (by decide +kernel) rfl 0 (by decide +kernel) (hts _ (tw_c tw_16)) (pq_hv rfl hR_this_now) dX11_why_27 ?_
          obtain ⟨w_103, hR_w_103, hL_w_103, hK_w_103⟩ := sh_o hSH 329 (ci := 10) (kd := 3) rfl hL_this_now hK_this_now
          have hO_w_103 : w_103 = vo σ 3 this_now := vo_k (c := 10) hO_this_now hR_w_103
          refine pg_f (v := .ref w_103) (C := RX10) (T := TX10) (N := 13) hx hb hts (tw_i inlX10) hown hK hP hL_this_now hK_this_now (by decide +kernel) rfl 9 (by decide +kernel) (hts _ (tw_c tw_648)) (pq_hv rfl hR_w_103) dX11_why_30 ?_
          refine lv_iconst (v := 1) hx hb dX11_why_33 (by decide +kernel) ?_
          refine lv_iload_n hx hb dX11_why_34 rfl (lv_at hl 1 rfl) ?_
          refine lv_iadd hx hb dX11_why_35 ?_
          refine lv_topi (fun x_104 ex_104 => ?_)
          replace hF := hF.trans (ap_n ex_104)
          have h_105 : rg x_104 1 3 := rg_of_eq ex_104 (rg_add (rg_k (1 : Int32) 1 rfl) h_69 (by decide +kernel))
          refine lv_iload_n hx hb dX11_why_36 rfl (lv_at hl 3 rfl) ?_
          refine lv_aload_n hx hb dX11_why_37 rfl (lv_at hl 0 rfl) ?_
          refine pg_f (v := .ref this_now) (C := RX11) (T := TX11) (N := 5) hx hb hts (tw_i inlX11) hown hK hP hL_this hK_this (by decide +kernel) rfl 0 (by decide +kernel) (hts _ (tw_c tw_16)) (pq_hv rfl hR_this_now) dX11_why_38 ?_
          obtain ⟨w_106, hR_w_106, hL_w_106, hK_w_106⟩ := sh_o hSH 328 (ci := 10) (kd := 0) rfl hL_this_now hK_this_now
          have hO_w_106 : w_106 = vo σ 0 this_now := vo_k (c := 10) hO_this_now hR_w_106
          refine pg_f (v := .ref w_106) (C := RX10) (T := TX10) (N := 13) hx hb hts (tw_i inlX10) hown hK hP hL_this_now hK_this_now (by decide +kernel) rfl 8 (by decide +kernel) (hts _ (tw_c tw_379)) (pq_hv rfl hR_w_106) dX11_why_41 ?_
          refine lv_iload_n hx hb dX11_why_44 rfl (lv_at hl 2 rfl) ?_
          refine pk_i (va_runV (As := [.int x_104, .int a2, .ref w_106, .int a1]) (rest := []) ⟨hx, hb, hml, hown, hts⟩ (s_X3_clauseBy l D t σ I J ri rj rq H.size tg hSH hG.1 w_103 x_104 a2 w_106 a1 hL_w_103 hK_w_103 hL_w_106 hK_w_106 (rg_w f_86 (by decide +kernel)) this_now hL_this_now hK_this_now hO_w_103 hO_w_106) (cwV 4 hts (tw_V tw_979 tw_980 tw_981 tw_49 tw_982) rfl rfl rfl cv_yX3_clauseBy_4 ⟨Nat.le_of_ble_eq_true rfl, Nat.le_of_ble_eq_true rfl⟩) ⟨pq_blind, pq_recv hK hP hL_w_103 hK_w_103 (by decide +kernel) rfl, pq_pre hK hN hP hD⟩ rfl rfl hl.1 rfl (lv_room (Nat.le_of_ble_eq_true rfl)) dX11_why_45 ⟨Nat.le_of_ble_eq_true rfl, Nat.le_of_ble_eq_true rfl⟩) hD hS hA (fun x_107 σ1 μ1 H locs hw_108 hP hD hS => ?_)
          obtain ⟨ri_109, hu_110, hg_111, hfn_113, hfr_114, hr_112⟩ := hw_108
          obtain ⟨hu_110a, hu_110b⟩ := Prod.mk.inj hu_110
          rw [hu_110a, hu_110b] at hP hD
          replace hF := hF.trans (bn_n hfn_113)
          replace hFr := fr_tr hFr hfr_114
          have hG := GX.tr hG hg_111 (by decide +kernel)
          subst hQ
          exact W.iret (v := x_107) hx hb hr (fun t1 ht hW => ⟨⟨x_107, (σ, I, J, ri_109, rj, rq), rfl, ⟨ri_109, rfl, hG, (hF0.symm.trans hF), hFr, (rg_w hr_112 (by decide +kernel))⟩, by rw [ht]; exact hP, va_K.moved hW.alike hK, hD⟩, hS.F ht⟩) hS.2.2 dX11_why_48
        · replace hF := hF.trans (if_pos c_96)
          have f_115 := (hr_92.resolve_left (fun q => absurd (q.1.symm.trans c_96) (by decide +kernel))).2
          have h_116 : rg x_88 0 0 := rg_and h_95 (rg_of_eq c_96 (rg_k (0 : Int32) 0 rfl)) (by decide +kernel)
          exact K_55 _ _ _ hF hFr hG hP hD hS (lv_sub hl [] rfl)
  exact go _ _ _ hP hD hS hl

set_option maxRecDepth 100000 in
def g_X11_says (tI : Nat → Nat → Int32) (tR : Nat → Nat → Nat → Int32) (a0 : Int32) (a1 : Int32) (I : Nat → Int32) (J : Nat → Int64) (ri : Nat → Nat → Int32) (rj : Nat → Nat → Int64) (rq : Nat → Nat → Option Nat) : Int32 × vM := (ap1 (g_X11_isMonth a0) fun (x_1 : Int32) => (if x_1 = (0 : Int32) then ((-1 : Int32), I, J, ri, rj, rq) else (if a1 = (0 : Int32) then (bnI (g_X3_councilIn tI tR a0 I J ri rj rq) fun (x_20 : Int32) (_ : Nat → Int32) (_ : Nat → Int64) (_ : Nat → Nat → Int32) (_ : Nat → Nat → Int64) (_ : Nat → Nat → Option Nat) => (x_20, I, J, ri, rj, rq)) else (if a1 = (1 : Int32) then (bnI (g_X3_leaveIn tI tR a0 I J ri rj rq) fun (x_31 : Int32) (_ : Nat → Int32) (_ : Nat → Int64) (_ : Nat → Nat → Int32) (_ : Nat → Nat → Int64) (_ : Nat → Nat → Option Nat) => (x_31, I, J, ri, rj, rq)) else (if a1 = (2 : Int32) then (bnI (g_X3_fixIn tI tR a0 I J ri rj rq) fun (x_42 : Int32) (_ : Nat → Int32) (_ : Nat → Int64) (_ : Nat → Nat → Int32) (_ : Nat → Nat → Int64) (_ : Nat → Nat → Option Nat) => (x_42, I, J, ri, rj, rq)) else ((-1 : Int32), I, J, ri, rj, rq))))))
set_option maxRecDepth 100000 in
theorem g_X11_says_e {tI : Nat → Nat → Int32} {tR : Nat → Nat → Nat → Int32} {a0 : Int32} {a1 : Int32} {I : Nat → Int32} {J : Nat → Int64} {ri : Nat → Nat → Int32} {rj : Nat → Nat → Int64} {rq : Nat → Nat → Option Nat} : g_X11_says tI tR a0 a1 I J ri rj rq = (ap1 (g_X11_isMonth a0) fun (x_1 : Int32) => (if x_1 = (0 : Int32) then ((-1 : Int32), I, J, ri, rj, rq) else (if a1 = (0 : Int32) then (bnI (g_X3_councilIn tI tR a0 I J ri rj rq) fun (x_20 : Int32) (_ : Nat → Int32) (_ : Nat → Int64) (_ : Nat → Nat → Int32) (_ : Nat → Nat → Int64) (_ : Nat → Nat → Option Nat) => (x_20, I, J, ri, rj, rq)) else (if a1 = (1 : Int32) then (bnI (g_X3_leaveIn tI tR a0 I J ri rj rq) fun (x_31 : Int32) (_ : Nat → Int32) (_ : Nat → Int64) (_ : Nat → Nat → Int32) (_ : Nat → Nat → Int64) (_ : Nat → Nat → Option Nat) => (x_31, I, J, ri, rj, rq)) else (if a1 = (2 : Int32) then (bnI (g_X3_fixIn tI tR a0 I J ri rj rq) fun (x_42 : Int32) (_ : Nat → Int32) (_ : Nat → Int64) (_ : Nat → Nat → Int32) (_ : Nat → Nat → Int64) (_ : Nat → Nat → Option Nat) => (x_42, I, J, ri, rj, rq)) else ((-1 : Int32), I, J, ri, rj, rq)))))) := rfl
set_option maxHeartbeats 4000000 in
set_option maxRecDepth 100000 in
theorem s_X11_says (l : Launch) (D : va_G) (t : pq_T) (σ : pq_S) (I : Nat → Nat → Int32) (J : Nat → Nat → Int64) (ri : Nat → Nat → Int32) (rj : Nat → Nat → Int64) (rq : Nat → Nat → Option Nat) (sz : Nat) (tg : Nat → Nat) (hSH : SH σ tg) (hG0 : GS tg σ I ri rq) (this : Nat) (a0 : Int32) (a1 : Int32) (hL_this : this ∈ σ.1) (hK_this : σ.2.1 this = 11) (this_now : Nat) (hR_this_now : σ.2.2.1 352 this = some this_now) (hL_this_now : this_now ∈ σ.1) (hK_this_now : σ.2.1 this_now = 10) : MetI l yX11_says (wa yX11_says cX11_says 3 (some .int)) ({ frames := 4, cells := 0, slots := 0, locals := 91 }) [.ref this, .int a0, .int a1] D t σ (I, J, ri, rj, rq) sz 0 0 (fun (r : Int32) (u : pq_S × pq_M) => u = (σ, I, J, ri, rj, rq) ∧ g_X11_says (tI σ I) (tR σ ri) a0 a1 (vI 10 σ this_now I) (vJ 10 σ this_now J) (vR 10 σ this_now ri) (vL 10 σ this_now rj) (vQ 10 σ this_now rq) = (r, (vI 10 σ this_now I), (vJ 10 σ this_now J), (vR 10 σ this_now ri), (vL 10 σ this_now rj), (vQ 10 σ this_now rq))) := by
  refine Met.ofW (cc := cX11_says) (maxL := 3) (ret := (some .int)) (by decide +kernel) rfl ?_
  intro p e s m args below meth c s₁ B hml hv
  obtain ⟨rfl, hsz, hP, hK, hD0, hN⟩ := hv
  have hx := B.exec
  have hb := B.bytes
  have hr := B.returns
  have hts := atoms_spec (ws := (wa yX11_says cX11_says 3 (some .int))) B.pre
  have hown : s.vm.findClass RX11 = some m.cls := findClass_of_methodNamed B.named
  have hlocks := B.notSynchronized
  subst hsz
  have hD : va_D (pq_B t σ (I, J, ri, rj, rq) s.heap.size) (pq_P t σ (I, J, ri, rj, rq)) := hD0.self
  generalize hAe : pq_B t σ (I, J, ri, rj, rq) s.heap.size = A at hD ⊢
  have hA : ∀ q : Nat, s.heap.size ≤ q → A q := fun q h => by rw [← hAe]; exact Or.inr h
  have hS : va_S A s.heap s.heap [] := va_S.rf
  have hG : GX [] tg σ I ri rj I ri rj rq := ⟨hG0, fun _ _ _ => rfl, fun _ _ _ _ _ => rfl, fun _ _ _ _ _ => rfl⟩
  have hl := lv_entry ([.ref this, .int a0, .int a1]) (n := 3) (Nat.le_of_ble_eq_true rfl)
  rw [lg_entry_eq]
  generalize (lg_sl ([.ref this, .int a0, .int a1]) ++ List.replicate (3 - (lg_sl ([.ref this, .int a0, .int a1])).length) Slot.unset).toArray = ls at hl ⊢
  have hl : lv_has ls 3 [(0, .ref this), (1, .int a0), (2, .int a1)] := hl
  refine q_gen (fun Q hQ => ?_)
  have go : ∀ (H : Heap) (locs : List Loc) (ls : Array Slot), va_P D vwCl (pq_P t σ (I, J, ri, rj, rq)) H → va_D A (pq_P t σ (I, J, ri, rj, rq)) → va_S A s.heap H locs → lv_has ls 3 [(0, .ref this), (1, .int a0), (2, .int a1)] → W p l e ({ frames := 4, cells := 0, slots := 0, locals := 91 } : Room) s m (List.toArray ([.ref this, .int a0, .int a1] : List Value)) below meth c H locs 0 0 Q (F0 m 0 ls []) := by
    intro H locs ls hP hD hS hl
    have hVT : VT 10 σ tg this_now := vt_10 hSH hL_this_now hK_this_now
    have hFr : FR 10 tg σ this_now (I, J, ri, rj, rq) (I, J, ri, rj, rq) := fr_rf
    have hO_this_now : this_now = vo σ 10 this_now := rfl
    obtain ⟨F, hF0⟩ : ∃ F, F = g_X11_says (tI σ I) (tR σ ri) a0 a1 (vI 10 σ this_now I) (vJ 10 σ this_now J) (vR 10 σ this_now ri) (vL 10 σ this_now rj) (vQ 10 σ this_now rq) := ⟨_, rfl⟩
    have hF := hF0.trans g_X11_says_e
    refine lv_iload_n hx hb dX11_says_0 rfl (lv_at hl 1 rfl) ?_
    refine pk_i (va_runS (As := [.int a0]) (rest := []) ⟨hx, hb, hml, hown, hts⟩ (s_X11_isMonth l D t σ I J ri rj rq H.size tg hSH hG.1 a0) (va_cwS 1 hts (tw_S tw_247 tw_248 tw_2 tw_249) rfl rfl rfl cd_yX11_isMonth_1 ⟨Nat.le_of_ble_eq_true rfl, Nat.le_of_ble_eq_true rfl⟩) ⟨pq_blind, pq_pre hK hN hP hD⟩ rfl rfl hl.1 rfl (lv_room (Nat.le_of_ble_eq_true rfl)) dX11_says_1 ⟨Nat.le_of_ble_eq_true rfl, Nat.le_of_ble_eq_true rfl⟩) hD hS hA (fun x_1 σ1 μ1 H locs hw_2 hP hD hS => ?_)
    obtain ⟨hu_3, hfn_6, hr_5⟩ := hw_2
    obtain ⟨hu_3a, hu_3b⟩ := Prod.mk.inj hu_3
    rw [hu_3a, hu_3b] at hP hD
    replace hF := hF.trans (ap_n hfn_6.symm)
    have h_8 : rg x_1 0 1 := by rcases hr_5 with ⟨q, -⟩ | ⟨q, -⟩ <;> rw [q] <;> exact ⟨by decide +kernel, by decide +kernel⟩
    refine lv_if_ne (tgt := 9) hx hb dX11_says_4 (by decide +kernel) (fun c_9 => ?_) (fun c_9 => ?_)
    · replace hF := hF.trans (if_neg c_9)
      have f_14 := (hr_5.resolve_right (fun q => c_9 q.1)).2
      have h_15 : rg x_1 1 1 := rg_ne c_9 h_8 0 rfl (by decide +kernel)
      refine lv_iload_n hx hb dX11_says_9 rfl (lv_at hl 2 rfl) ?_
      by_cases k_16 : a1 = (0 : Int32)
      · replace hF := hF.trans (if_pos k_16)
        have h_18 : rg a1 0 0 := rg_and (rg_full _) (rg_of_eq k_16 (rg_k (0 : Int32) 0 rfl)) (by decide +kernel)
        refine lv_tov 0 k_16 ?_
        refine lv_tableIn (tgt := 36) hx hb dX11_says_10 (by decide +kernel) (by decide +kernel) rfl (by decide +kernel) ?_
        refine lv_aload_n hx hb dX11_says_36 rfl (lv_at hl 0 rfl) ?_
        refine pg_f (v := .ref this_now) (C := RX11) (T := TX11) (N := 5) hx hb hts (tw_i inlX11) hown hK hP hL_this hK_this (by decide +kernel) rfl 0 (by decide +kernel) (hts _ (tw_c tw_16)) (pq_hv rfl hR_this_now) dX11_says_37 ?_
        obtain ⟨w_19, hR_w_19, hL_w_19, hK_w_19⟩ := sh_o hSH 329 (ci := 10) (kd := 3) rfl hL_this_now hK_this_now
        have hO_w_19 : w_19 = vo σ 3 this_now := vo_k (c := 10) hO_this_now hR_w_19
        refine pg_f (v := .ref w_19) (C := RX10) (T := TX10) (N := 13) hx hb hts (tw_i inlX10) hown hK hP hL_this_now hK_this_now (by decide +kernel) rfl 9 (by decide +kernel) (hts _ (tw_c tw_648)) (pq_hv rfl hR_w_19) dX11_says_40 ?_
        refine lv_iload_n hx hb dX11_says_43 rfl (lv_at hl 1 rfl) ?_
        refine pk_i (va_runV (As := [.int a0]) (rest := []) ⟨hx, hb, hml, hown, hts⟩ (s_X3_councilIn l D t σ I J ri rj rq H.size tg hSH hG.1 w_19 a0 hL_w_19 hK_w_19 this_now hL_this_now hK_this_now hO_w_19) (cwV 1 hts (tw_V tw_991 tw_992 tw_993 tw_49 tw_994) rfl rfl rfl cv_yX3_councilIn_1 ⟨Nat.le_of_ble_eq_true rfl, Nat.le_of_ble_eq_true rfl⟩) ⟨pq_blind, pq_recv hK hP hL_w_19 hK_w_19 (by decide +kernel) rfl, pq_pre hK hN hP hD⟩ rfl rfl hl.1 rfl (lv_room (Nat.le_of_ble_eq_true rfl)) dX11_says_44 ⟨Nat.le_of_ble_eq_true rfl, Nat.le_of_ble_eq_true rfl⟩) hD hS hA (fun x_20 σ1 μ1 H locs hw_21 hP hD hS => ?_)
        obtain ⟨hu_22, hfn_25⟩ := hw_21
        obtain ⟨hu_22a, hu_22b⟩ := Prod.mk.inj hu_22
        rw [hu_22a, hu_22b] at hP hD
        replace hF := hF.trans (bn_n hfn_25)
        subst hQ
        exact W.iret (v := x_20) hx hb hr (fun t1 ht hW => ⟨⟨x_20, (σ, I, J, ri, rj, rq), rfl, ⟨rfl, (hF0.symm.trans hF)⟩, by rw [ht]; exact hP, va_K.moved hW.alike hK, hD⟩, hS.F ht⟩) hS.2.2 dX11_says_47
      replace hF := hF.trans (if_neg k_16)
      by_cases k_27 : a1 = (1 : Int32)
      · replace hF := hF.trans (if_pos k_27)
        have h_29 : rg a1 1 1 := rg_and (rg_full _) (rg_of_eq k_27 (rg_k (1 : Int32) 1 rfl)) (by decide +kernel)
        refine lv_tov 1 k_27 ?_
        refine lv_tableIn (tgt := 48) hx hb dX11_says_10 (by decide +kernel) (by decide +kernel) rfl (by decide +kernel) ?_
        refine lv_aload_n hx hb dX11_says_48 rfl (lv_at hl 0 rfl) ?_
        refine pg_f (v := .ref this_now) (C := RX11) (T := TX11) (N := 5) hx hb hts (tw_i inlX11) hown hK hP hL_this hK_this (by decide +kernel) rfl 0 (by decide +kernel) (hts _ (tw_c tw_16)) (pq_hv rfl hR_this_now) dX11_says_49 ?_
        obtain ⟨w_30, hR_w_30, hL_w_30, hK_w_30⟩ := sh_o hSH 329 (ci := 10) (kd := 3) rfl hL_this_now hK_this_now
        have hO_w_30 : w_30 = vo σ 3 this_now := vo_k (c := 10) hO_this_now hR_w_30
        refine pg_f (v := .ref w_30) (C := RX10) (T := TX10) (N := 13) hx hb hts (tw_i inlX10) hown hK hP hL_this_now hK_this_now (by decide +kernel) rfl 9 (by decide +kernel) (hts _ (tw_c tw_648)) (pq_hv rfl hR_w_30) dX11_says_52 ?_
        refine lv_iload_n hx hb dX11_says_55 rfl (lv_at hl 1 rfl) ?_
        refine pk_i (va_runV (As := [.int a0]) (rest := []) ⟨hx, hb, hml, hown, hts⟩ (s_X3_leaveIn l D t σ I J ri rj rq H.size tg hSH hG.1 w_30 a0 hL_w_30 hK_w_30 this_now hL_this_now hK_this_now hO_w_30) (cwV 1 hts (tw_V tw_1004 tw_1005 tw_1006 tw_49 tw_1007) rfl rfl rfl cv_yX3_leaveIn_1 ⟨Nat.le_of_ble_eq_true rfl, Nat.le_of_ble_eq_true rfl⟩) ⟨pq_blind, pq_recv hK hP hL_w_30 hK_w_30 (by decide +kernel) rfl, pq_pre hK hN hP hD⟩ rfl rfl hl.1 rfl (lv_room (Nat.le_of_ble_eq_true rfl)) dX11_says_56 ⟨Nat.le_of_ble_eq_true rfl, Nat.le_of_ble_eq_true rfl⟩) hD hS hA (fun x_31 σ1 μ1 H locs hw_32 hP hD hS => ?_)
        obtain ⟨hu_33, hfn_36⟩ := hw_32
        obtain ⟨hu_33a, hu_33b⟩ := Prod.mk.inj hu_33
        rw [hu_33a, hu_33b] at hP hD
        replace hF := hF.trans (bn_n hfn_36)
        subst hQ
        exact W.iret (v := x_31) hx hb hr (fun t1 ht hW => ⟨⟨x_31, (σ, I, J, ri, rj, rq), rfl, ⟨rfl, (hF0.symm.trans hF)⟩, by rw [ht]; exact hP, va_K.moved hW.alike hK, hD⟩, hS.F ht⟩) hS.2.2 dX11_says_59
      replace hF := hF.trans (if_neg k_27)
      by_cases k_38 : a1 = (2 : Int32)
      · replace hF := hF.trans (if_pos k_38)
        have h_40 : rg a1 2 2 := rg_and (rg_full _) (rg_of_eq k_38 (rg_k (2 : Int32) 2 rfl)) (by decide +kernel)
        refine lv_tov 2 k_38 ?_
        refine lv_tableIn (tgt := 60) hx hb dX11_says_10 (by decide +kernel) (by decide +kernel) rfl (by decide +kernel) ?_
        refine lv_aload_n hx hb dX11_says_60 rfl (lv_at hl 0 rfl) ?_
        refine pg_f (v := .ref this_now) (C := RX11) (T := TX11) (N := 5) hx hb hts (tw_i inlX11) hown hK hP hL_this hK_this (by decide +kernel) rfl 0 (by decide +kernel) (hts _ (tw_c tw_16)) (pq_hv rfl hR_this_now) dX11_says_61 ?_
        obtain ⟨w_41, hR_w_41, hL_w_41, hK_w_41⟩ := sh_o hSH 329 (ci := 10) (kd := 3) rfl hL_this_now hK_this_now
        have hO_w_41 : w_41 = vo σ 3 this_now := vo_k (c := 10) hO_this_now hR_w_41
        refine pg_f (v := .ref w_41) (C := RX10) (T := TX10) (N := 13) hx hb hts (tw_i inlX10) hown hK hP hL_this_now hK_this_now (by decide +kernel) rfl 9 (by decide +kernel) (hts _ (tw_c tw_648)) (pq_hv rfl hR_w_41) dX11_says_64 ?_
        refine lv_iload_n hx hb dX11_says_67 rfl (lv_at hl 1 rfl) ?_
        refine pk_i (va_runV (As := [.int a0]) (rest := []) ⟨hx, hb, hml, hown, hts⟩ (s_X3_fixIn l D t σ I J ri rj rq H.size tg hSH hG.1 w_41 a0 hL_w_41 hK_w_41 this_now hL_this_now hK_this_now hO_w_41) (cwV 1 hts (tw_V tw_1008 tw_1009 tw_1010 tw_49 tw_1011) rfl rfl rfl cv_yX3_fixIn_1 ⟨Nat.le_of_ble_eq_true rfl, Nat.le_of_ble_eq_true rfl⟩) ⟨pq_blind, pq_recv hK hP hL_w_41 hK_w_41 (by decide +kernel) rfl, pq_pre hK hN hP hD⟩ rfl rfl hl.1 rfl (lv_room (Nat.le_of_ble_eq_true rfl)) dX11_says_68 ⟨Nat.le_of_ble_eq_true rfl, Nat.le_of_ble_eq_true rfl⟩) hD hS hA (fun x_42 σ1 μ1 H locs hw_43 hP hD hS => ?_)
        obtain ⟨hu_44, hfn_47⟩ := hw_43
        obtain ⟨hu_44a, hu_44b⟩ := Prod.mk.inj hu_44
        rw [hu_44a, hu_44b] at hP hD
        replace hF := hF.trans (bn_n hfn_47)
        subst hQ
        exact W.iret (v := x_42) hx hb hr (fun t1 ht hW => ⟨⟨x_42, (σ, I, J, ri, rj, rq), rfl, ⟨rfl, (hF0.symm.trans hF)⟩, by rw [ht]; exact hP, va_K.moved hW.alike hK, hD⟩, hS.F ht⟩) hS.2.2 dX11_says_71
      replace hF := hF.trans (if_neg k_38)
      refine lv_tableOut (tgt := 72) hx hb dX11_says_10 (by have z_k_16 := sw_ne k_16 (n := 0) rfl; have z_k_27 := sw_ne k_27 (n := 1) rfl; have z_k_38 := sw_ne k_38 (n := 2) rfl; omega) (by decide +kernel) ?_
      refine lv_iconst (v := (-1)) hx hb dX11_says_72 (by decide +kernel) ?_
      subst hQ
      exact W.iret (v := (-1)) hx hb hr (fun t1 ht hW => ⟨⟨(-1), (σ, I, J, ri, rj, rq), rfl, ⟨rfl, (hF0.symm.trans hF)⟩, by rw [ht]; exact hP, va_K.moved hW.alike hK, hD⟩, hS.F ht⟩) hS.2.2 dX11_says_73
    · replace hF := hF.trans (if_pos c_9)
      have f_49 := (hr_5.resolve_left (fun q => absurd (q.1.symm.trans c_9) (by decide +kernel))).2
      have h_50 : rg x_1 0 0 := rg_and h_8 (rg_of_eq c_9 (rg_k (0 : Int32) 0 rfl)) (by decide +kernel)
      refine lv_iconst (v := (-1)) hx hb dX11_says_7 (by decide +kernel) ?_
      subst hQ
      exact W.iret (v := (-1)) hx hb hr (fun t1 ht hW => ⟨⟨(-1), (σ, I, J, ri, rj, rq), rfl, ⟨rfl, (hF0.symm.trans hF)⟩, by rw [ht]; exact hP, va_K.moved hW.alike hK, hD⟩, hS.F ht⟩) hS.2.2 dX11_says_8
  exact go _ _ _ hP hD hS hl
theorem dX11_sail_0 : decode cX11_sail 0 = .ok (.iload_n 1, 1) := oc_27 (by decide +kernel)
theorem dX11_sail_1 : decode cX11_sail 1 = .ok (.iconst 0, 1) := oc_3 (by decide +kernel)
theorem dX11_sail_2 : decode cX11_sail 2 = .ok (.bipush 40, 2) := oc_16 (a := 40) (by decide +kernel)
theorem dX11_sail_4 : decode cX11_sail 4 = .ok (.invokestatic 50, 3) := oc_184 (a := 0) (b := 50) (by decide +kernel)
theorem dX11_sail_20 : decode cX11_sail 20 = .ok (.iconst 0, 1) := oc_3 (by decide +kernel)
theorem dX11_sail_21 : decode cX11_sail 21 = .ok (.ireturn, 1) := oc_172 (by decide +kernel)
theorem dX11_sail_7 : decode cX11_sail 7 = .ok (.ifCond .eq 13, 3) := oc_153 (a := 0) (b := 13) (by decide +kernel)
theorem dX11_sail_10 : decode cX11_sail 10 = .ok (.iload_n 2, 1) := oc_28 (by decide +kernel)
theorem dX11_sail_11 : decode cX11_sail 11 = .ok (.iconst 0, 1) := oc_3 (by decide +kernel)
theorem tw_1024 : Cond.constant RX11 253 (100000) ∈ wsL_law := sg_43 _ (List.mem_of_getElem? (i := 16) rfl)
theorem dX11_sail_12 : decode cX11_sail 12 = .ok (.ldc 253, 2) := oc_18 (by decide +kernel)
theorem dX11_sail_14 : decode cX11_sail 14 = .ok (.invokestatic 50, 3) := oc_184 (a := 0) (b := 50) (by decide +kernel)
theorem dX11_sail_17 : decode cX11_sail 17 = .ok (.ifCond .ne 5, 3) := oc_154 (a := 0) (b := 5) (by decide +kernel)
theorem dX11_sail_22 : decode cX11_sail 22 = .ok (.aload_n 0, 1) := oc_42 (by decide +kernel)
theorem dX11_sail_23 : decode cX11_sail 23 = .ok (.getfield 10, 3) := oc_180 (a := 0) (b := 10) (by decide +kernel)
theorem dX11_sail_26 : decode cX11_sail 26 = .ok (.iload_n 1, 1) := oc_27 (by decide +kernel)
theorem tw_1025 : Cond.fieldLink RX11 254 "RingsUnder$World" "boats" "I" ∈ wsL_law := sg_43 _ (List.mem_of_getElem? (i := 17) rfl)
theorem dX11_sail_27 : decode cX11_sail 27 = .ok (.putfield 254, 3) := oc_181 (a := 0) (b := 254) (by decide +kernel)
theorem dX11_sail_30 : decode cX11_sail 30 = .ok (.aload_n 0, 1) := oc_42 (by decide +kernel)
theorem dX11_sail_31 : decode cX11_sail 31 = .ok (.getfield 10, 3) := oc_180 (a := 0) (b := 10) (by decide +kernel)
theorem dX11_sail_34 : decode cX11_sail 34 = .ok (.dup, 1) := oc_89 (by decide +kernel)
theorem tw_1026 : Cond.fieldLink RX11 257 "RingsUnder$World" "fund" "I" ∈ wsL_law := sg_43 _ (List.mem_of_getElem? (i := 18) rfl)
theorem dX11_sail_35 : decode cX11_sail 35 = .ok (.getfield 257, 3) := oc_180 (a := 1) (b := 1) (by decide +kernel)
theorem dX11_sail_38 : decode cX11_sail 38 = .ok (.iload_n 2, 1) := oc_28 (by decide +kernel)
theorem dX11_sail_39 : decode cX11_sail 39 = .ok (.iadd, 1) := oc_96 (by decide +kernel)
theorem dX11_sail_40 : decode cX11_sail 40 = .ok (.putfield 257, 3) := oc_181 (a := 1) (b := 1) (by decide +kernel)
theorem dX11_sail_43 : decode cX11_sail 43 = .ok (.iconst 1, 1) := oc_4 (by decide +kernel)
theorem dX11_sail_44 : decode cX11_sail 44 = .ok (.ireturn, 1) := oc_172 (by decide +kernel)
theorem dX11_canGoBy_0 : decode cX11_canGoBy 0 = .ok (.iload_n 1, 1) := oc_27 (by decide +kernel)
theorem dX11_canGoBy_1 : decode cX11_canGoBy 1 = .ok (.invokestatic 64, 3) := oc_184 (a := 0) (b := 64) (by decide +kernel)
theorem dX11_canGoBy_35 : decode cX11_canGoBy 35 = .ok (.iconst 0, 1) := oc_3 (by decide +kernel)
theorem dX11_canGoBy_36 : decode cX11_canGoBy 36 = .ok (.ireturn, 1) := oc_172 (by decide +kernel)
theorem dX11_canGoBy_4 : decode cX11_canGoBy 4 = .ok (.ifCond .eq 31, 3) := oc_153 (a := 0) (b := 31) (by decide +kernel)
theorem dX11_canGoBy_7 : decode cX11_canGoBy 7 = .ok (.iload_n 2, 1) := oc_28 (by decide +kernel)
theorem dX11_canGoBy_8 : decode cX11_canGoBy 8 = .ok (.iconst 1, 1) := oc_4 (by decide +kernel)
theorem dX11_canGoBy_9 : decode cX11_canGoBy 9 = .ok (.iload_n 3, 1) := oc_29 (by decide +kernel)
theorem dX11_canGoBy_10 : decode cX11_canGoBy 10 = .ok (.invokestatic 50, 3) := oc_184 (a := 0) (b := 50) (by decide +kernel)
theorem dX11_canGoBy_13 : decode cX11_canGoBy 13 = .ok (.ifCond .eq 22, 3) := oc_153 (a := 0) (b := 22) (by decide +kernel)
theorem dX11_canGoBy_16 : decode cX11_canGoBy 16 = .ok (.aload_n 0, 1) := oc_42 (by decide +kernel)
theorem dX11_canGoBy_17 : decode cX11_canGoBy 17 = .ok (.getfield 10, 3) := oc_180 (a := 0) (b := 10) (by decide +kernel)
theorem dX11_canGoBy_20 : decode cX11_canGoBy 20 = .ok (.getfield 54, 3) := oc_180 (a := 0) (b := 54) (by decide +kernel)
theorem dX11_canGoBy_23 : decode cX11_canGoBy 23 = .ok (.iload_n 2, 1) := oc_28 (by decide +kernel)
theorem dX11_canGoBy_24 : decode cX11_canGoBy 24 = .ok (.iadd, 1) := oc_96 (by decide +kernel)
theorem dX11_canGoBy_25 : decode cX11_canGoBy 25 = .ok (.sipush 600, 3) := oc_17 (a := 2) (b := 88) (by decide +kernel)
theorem dX11_canGoBy_28 : decode cX11_canGoBy 28 = .ok (.if_icmp .gt 7, 3) := oc_163 (a := 0) (b := 7) (by decide +kernel)
theorem dX11_canGoBy_31 : decode cX11_canGoBy 31 = .ok (.iconst 1, 1) := oc_4 (by decide +kernel)
theorem dX11_canGoBy_32 : decode cX11_canGoBy 32 = .ok (.goto 4, 3) := oc_167 (a := 0) (b := 4) (by decide +kernel)
theorem dX11_months_0 : decode cX11_months 0 = .ok (.aload_n 0, 1) := oc_42 (by decide +kernel)
theorem dX11_months_1 : decode cX11_months 1 = .ok (.iload_n 2, 1) := oc_28 (by decide +kernel)
theorem dX11_months_2 : decode cX11_months 2 = .ok (.iload_n 1, 1) := oc_27 (by decide +kernel)
theorem dX11_months_3 : decode cX11_months 3 = .ok (.bipush 60, 2) := oc_16 (a := 60) (by decide +kernel)
theorem tw_1035 : Cond.methodLink RX11 260 yX11_canGoBy ∈ wsL_law := sg_44 _ (List.mem_of_getElem? (i := 3) rfl)
theorem tw_1036 : Cond.instanceMethod yX11_canGoBy ∈ wsL_law := sg_44 _ (List.mem_of_getElem? (i := 4) rfl)
theorem tw_1037 : Cond.selects RX11 yX11_canGoBy yX11_canGoBy ∈ wsL_law := sg_44 _ (List.mem_of_getElem? (i := 5) rfl)
theorem tw_1038 : Cond.code yX11_canGoBy cX11_canGoBy 4 (some .boolean) ∈ wsL_law := sg_44 _ (List.mem_of_getElem? (i := 6) rfl)
theorem dX11_months_5 : decode cX11_months 5 = .ok (.invokevirtual 260, 3) := oc_182 (a := 1) (b := 4) (by decide +kernel)
theorem dX11_months_8 : decode cX11_months 8 = .ok (.ifCond .ne 5, 3) := oc_154 (a := 0) (b := 5) (by decide +kernel)
theorem dX11_months_13 : decode cX11_months 13 = .ok (.iconst 0, 1) := oc_3 (by decide +kernel)
theorem dX11_months_14 : decode cX11_months 14 = .ok (.istore_n 3, 1) := oc_62 (by decide +kernel)
theorem dX11_months_15 : decode cX11_months 15 = .ok (.iload_n 3, 1) := oc_29 (by decide +kernel)
theorem dX11_months_16 : decode cX11_months 16 = .ok (.iload_n 1, 1) := oc_27 (by decide +kernel)
theorem dX11_months_17 : decode cX11_months 17 = .ok (.if_icmp .ge 17, 3) := oc_162 (a := 0) (b := 17) (by decide +kernel)
theorem dX11_months_34 : decode cX11_months 34 = .ok (.aload_n 0, 1) := oc_42 (by decide +kernel)
theorem dX11_months_35 : decode cX11_months 35 = .ok (.getfield 10, 3) := oc_180 (a := 0) (b := 10) (by decide +kernel)
theorem dX11_months_38 : decode cX11_months 38 = .ok (.getfield 54, 3) := oc_180 (a := 0) (b := 54) (by decide +kernel)
theorem dX11_months_41 : decode cX11_months 41 = .ok (.ireturn, 1) := oc_172 (by decide +kernel)
theorem dX11_months_20 : decode cX11_months 20 = .ok (.aload_n 0, 1) := oc_42 (by decide +kernel)
theorem dX11_months_21 : decode cX11_months 21 = .ok (.getfield 10, 3) := oc_180 (a := 0) (b := 10) (by decide +kernel)
theorem dX11_months_24 : decode cX11_months 24 = .ok (.iload_n 2, 1) := oc_28 (by decide +kernel)
theorem tw_1039 : Cond.methodLink RX11 263 yX10_goBy ∈ wsL_law := sg_44 _ (List.mem_of_getElem? (i := 7) rfl)
theorem tw_1040 : Cond.instanceMethod yX10_goBy ∈ wsL_law := sg_44 _ (List.mem_of_getElem? (i := 8) rfl)
theorem tw_1041 : Cond.selects RX10 yX10_goBy yX10_goBy ∈ wsL_law := sg_44 _ (List.mem_of_getElem? (i := 9) rfl)
theorem tw_1042 : Cond.code yX10_goBy cX10_goBy 4 none ∈ wsL_law := sg_44 _ (List.mem_of_getElem? (i := 10) rfl)
theorem dX11_months_25 : decode cX11_months 25 = .ok (.invokevirtual 263, 3) := oc_182 (a := 1) (b := 7) (by decide +kernel)
theorem dX11_months_28 : decode cX11_months 28 = .ok (.iinc 3 1, 3) := oc_132 (b := 1) (by decide +kernel)
theorem dX11_months_31 : decode cX11_months 31 = .ok (.goto (-16), 3) := oc_167 (a := 255) (b := 240) (by decide +kernel)
theorem dX11_months_11 : decode cX11_months 11 = .ok (.iconst (-1), 1) := oc_2 (by decide +kernel)
theorem dX11_months_12 : decode cX11_months 12 = .ok (.ireturn, 1) := oc_172 (by decide +kernel)
theorem dX11_sinks_0 : decode cX11_sinks 0 = .ok (.aload_n 0, 1) := oc_42 (by decide +kernel)
theorem dX11_sinks_1 : decode cX11_sinks 1 = .ok (.iload_n 1, 1) := oc_27 (by decide +kernel)
theorem dX11_sinks_2 : decode cX11_sinks 2 = .ok (.invokevirtual 119, 3) := oc_182 (a := 0) (b := 119) (by decide +kernel)
theorem dX11_sinks_19 : decode cX11_sinks 19 = .ok (.iconst (-1), 1) := oc_2 (by decide +kernel)
theorem dX11_sinks_20 : decode cX11_sinks 20 = .ok (.ireturn, 1) := oc_172 (by decide +kernel)
theorem dX11_sinks_5 : decode cX11_sinks 5 = .ok (.ifCond .eq 14, 3) := oc_153 (a := 0) (b := 14) (by decide +kernel)
theorem dX11_sinks_8 : decode cX11_sinks 8 = .ok (.aload_n 0, 1) := oc_42 (by decide +kernel)
theorem dX11_sinks_9 : decode cX11_sinks 9 = .ok (.iload_n 2, 1) := oc_28 (by decide +kernel)
theorem dX11_sinks_10 : decode cX11_sinks 10 = .ok (.iload_n 3, 1) := oc_29 (by decide +kernel)
theorem dX11_sinks_11 : decode cX11_sinks 11 = .ok (.bipush 60, 2) := oc_16 (a := 60) (by decide +kernel)
theorem dX11_sinks_13 : decode cX11_sinks 13 = .ok (.invokevirtual 260, 3) := oc_182 (a := 1) (b := 4) (by decide +kernel)
theorem dX11_sinks_16 : decode cX11_sinks 16 = .ok (.ifCond .ne 5, 3) := oc_154 (a := 0) (b := 5) (by decide +kernel)
theorem dX11_sinks_21 : decode cX11_sinks 21 = .ok (.aload_n 0, 1) := oc_42 (by decide +kernel)
theorem tw_18 : Cond.fieldLink RX11 19 "RingsUnder" "trial" "LRingsUnder$World;" ∈ wsL_law := sg_1 _ (List.mem_of_getElem? (i := 18) rfl)
theorem dX11_sinks_22 : decode cX11_sinks 22 = .ok (.getfield 19, 3) := oc_180 (a := 0) (b := 19) (by decide +kernel)
theorem dX11_sinks_25 : decode cX11_sinks 25 = .ok (.aload_n 0, 1) := oc_42 (by decide +kernel)
theorem dX11_sinks_26 : decode cX11_sinks 26 = .ok (.getfield 10, 3) := oc_180 (a := 0) (b := 10) (by decide +kernel)
theorem tw_1362 : Cond.methodLink RX11 266 yX10_copyFrom ∈ wsL_law := sg_57 _ (List.mem_of_getElem? (i := 18) rfl)
theorem tw_1363 : Cond.instanceMethod yX10_copyFrom ∈ wsL_law := sg_57 _ (List.mem_of_getElem? (i := 19) rfl)
theorem tw_1364 : Cond.selects RX10 yX10_copyFrom yX10_copyFrom ∈ wsL_law := sg_57 _ (List.mem_of_getElem? (i := 20) rfl)
theorem tw_1365 : Cond.code yX10_copyFrom cX10_copyFrom 2 none ∈ wsL_law := sg_57 _ (List.mem_of_getElem? (i := 21) rfl)
theorem dX11_sinks_29 : decode cX11_sinks 29 = .ok (.invokevirtual 266, 3) := oc_182 (a := 1) (b := 10) (by decide +kernel)
theorem dX11_sinks_32 : decode cX11_sinks 32 = .ok (.iconst 0, 1) := oc_3 (by decide +kernel)
theorem dX11_sinks_33 : decode cX11_sinks 33 = .ok (.istore 4, 2) := oc_54 (by decide +kernel)
theorem dX11_sinks_35 : decode cX11_sinks 35 = .ok (.iload 4, 2) := oc_21 (by decide +kernel)
theorem dX11_sinks_37 : decode cX11_sinks 37 = .ok (.iload_n 3, 1) := oc_29 (by decide +kernel)
theorem dX11_sinks_38 : decode cX11_sinks 38 = .ok (.if_icmp .ge 52, 3) := oc_162 (a := 0) (b := 52) (by decide +kernel)
theorem dX11_sinks_90 : decode cX11_sinks 90 = .ok (.iconst (-1), 1) := oc_2 (by decide +kernel)
theorem dX11_sinks_91 : decode cX11_sinks 91 = .ok (.ireturn, 1) := oc_172 (by decide +kernel)
theorem dX11_sinks_41 : decode cX11_sinks 41 = .ok (.aload_n 0, 1) := oc_42 (by decide +kernel)
theorem dX11_sinks_42 : decode cX11_sinks 42 = .ok (.getfield 19, 3) := oc_180 (a := 0) (b := 19) (by decide +kernel)
theorem dX11_sinks_45 : decode cX11_sinks 45 = .ok (.iload_n 2, 1) := oc_28 (by decide +kernel)
theorem tw_1395 : Cond.methodLink RX11 270 yX10_nature ∈ wsL_law := sg_59 _ (List.mem_of_getElem? (i := 3) rfl)
theorem dX11_sinks_46 : decode cX11_sinks 46 = .ok (.invokevirtual 270, 3) := oc_182 (a := 1) (b := 14) (by decide +kernel)
theorem dX11_sinks_49 : decode cX11_sinks 49 = .ok (.aload_n 0, 1) := oc_42 (by decide +kernel)
theorem dX11_sinks_50 : decode cX11_sinks 50 = .ok (.getfield 19, 3) := oc_180 (a := 0) (b := 19) (by decide +kernel)
theorem dX11_sinks_53 : decode cX11_sinks 53 = .ok (.getfield 36, 3) := oc_180 (a := 0) (b := 36) (by decide +kernel)
theorem dX11_sinks_56 : decode cX11_sinks 56 = .ok (.iload_n 1, 1) := oc_27 (by decide +kernel)
theorem tw_1396 : Cond.methodLink RX11 273 yX2_isDry ∈ wsL_law := sg_59 _ (List.mem_of_getElem? (i := 4) rfl)
theorem dX11_sinks_57 : decode cX11_sinks 57 = .ok (.invokevirtual 273, 3) := oc_182 (a := 1) (b := 17) (by decide +kernel)
theorem dX11_sinks_60 : decode cX11_sinks 60 = .ok (.ifCond .ne 11, 3) := oc_154 (a := 0) (b := 11) (by decide +kernel)
theorem dX11_sinks_71 : decode cX11_sinks 71 = .ok (.aload_n 0, 1) := oc_42 (by decide +kernel)
theorem dX11_sinks_72 : decode cX11_sinks 72 = .ok (.getfield 19, 3) := oc_180 (a := 0) (b := 19) (by decide +kernel)
theorem dX11_sinks_75 : decode cX11_sinks 75 = .ok (.dup, 1) := oc_89 (by decide +kernel)
theorem dX11_sinks_76 : decode cX11_sinks 76 = .ok (.getfield 54, 3) := oc_180 (a := 0) (b := 54) (by decide +kernel)
theorem dX11_sinks_79 : decode cX11_sinks 79 = .ok (.iconst 1, 1) := oc_4 (by decide +kernel)
theorem dX11_sinks_80 : decode cX11_sinks 80 = .ok (.iadd, 1) := oc_96 (by decide +kernel)
theorem dX11_sinks_81 : decode cX11_sinks 81 = .ok (.putfield 54, 3) := oc_181 (a := 0) (b := 54) (by decide +kernel)
theorem dX11_sinks_84 : decode cX11_sinks 84 = .ok (.iinc 4 1, 3) := oc_132 (b := 1) (by decide +kernel)
theorem dX11_sinks_87 : decode cX11_sinks 87 = .ok (.goto (-52), 3) := oc_167 (a := 255) (b := 204) (by decide +kernel)
theorem dX11_sinks_63 : decode cX11_sinks 63 = .ok (.aload_n 0, 1) := oc_42 (by decide +kernel)
theorem dX11_sinks_64 : decode cX11_sinks 64 = .ok (.getfield 19, 3) := oc_180 (a := 0) (b := 19) (by decide +kernel)
theorem dX11_sinks_67 : decode cX11_sinks 67 = .ok (.getfield 54, 3) := oc_180 (a := 0) (b := 54) (by decide +kernel)
theorem dX11_sinks_70 : decode cX11_sinks 70 = .ok (.ireturn, 1) := oc_172 (by decide +kernel)
theorem dX11_cant_0 : decode cX11_cant 0 = .ok (.aload_n 0, 1) := oc_42 (by decide +kernel)
theorem dX11_cant_1 : decode cX11_cant 1 = .ok (.iload_n 1, 1) := oc_27 (by decide +kernel)
theorem dX11_cant_2 : decode cX11_cant 2 = .ok (.iload_n 2, 1) := oc_28 (by decide +kernel)
theorem dX11_cant_3 : decode cX11_cant 3 = .ok (.bipush 60, 2) := oc_16 (a := 60) (by decide +kernel)
theorem dX11_cant_5 : decode cX11_cant 5 = .ok (.invokevirtual 260, 3) := oc_182 (a := 1) (b := 4) (by decide +kernel)
theorem dX11_cant_8 : decode cX11_cant 8 = .ok (.ifCond .ne 5, 3) := oc_154 (a := 0) (b := 5) (by decide +kernel)
theorem dX11_cant_13 : decode cX11_cant 13 = .ok (.aload_n 0, 1) := oc_42 (by decide +kernel)
theorem dX11_cant_14 : decode cX11_cant 14 = .ok (.getfield 19, 3) := oc_180 (a := 0) (b := 19) (by decide +kernel)
theorem dX11_cant_17 : decode cX11_cant 17 = .ok (.aload_n 0, 1) := oc_42 (by decide +kernel)
theorem dX11_cant_18 : decode cX11_cant 18 = .ok (.getfield 10, 3) := oc_180 (a := 0) (b := 10) (by decide +kernel)
theorem dX11_cant_21 : decode cX11_cant 21 = .ok (.invokevirtual 266, 3) := oc_182 (a := 1) (b := 10) (by decide +kernel)
theorem dX11_cant_24 : decode cX11_cant 24 = .ok (.aload_n 0, 1) := oc_42 (by decide +kernel)
theorem dX11_cant_25 : decode cX11_cant 25 = .ok (.getfield 19, 3) := oc_180 (a := 0) (b := 19) (by decide +kernel)
theorem dX11_cant_28 : decode cX11_cant 28 = .ok (.iconst (-1), 1) := oc_2 (by decide +kernel)
theorem tw_1405 : Cond.fieldLink RX11 276 "RingsUnder$World" "cantMonth" "I" ∈ wsL_law := sg_59 _ (List.mem_of_getElem? (i := 13) rfl)
theorem dX11_cant_29 : decode cX11_cant 29 = .ok (.putfield 276, 3) := oc_181 (a := 1) (b := 20) (by decide +kernel)
theorem dX11_cant_32 : decode cX11_cant 32 = .ok (.iconst 0, 1) := oc_3 (by decide +kernel)
theorem dX11_cant_33 : decode cX11_cant 33 = .ok (.istore_n 3, 1) := oc_62 (by decide +kernel)
theorem dX11_cant_34 : decode cX11_cant 34 = .ok (.iload_n 3, 1) := oc_29 (by decide +kernel)
theorem dX11_cant_35 : decode cX11_cant 35 = .ok (.iload_n 2, 1) := oc_28 (by decide +kernel)
theorem dX11_cant_84 : decode cX11_cant 84 = .ok (.aload_n 0, 1) := oc_42 (by decide +kernel)
theorem dX11_cant_85 : decode cX11_cant 85 = .ok (.getfield 19, 3) := oc_180 (a := 0) (b := 19) (by decide +kernel)
theorem dX11_cant_88 : decode cX11_cant 88 = .ok (.getfield 276, 3) := oc_180 (a := 1) (b := 20) (by decide +kernel)
theorem dX11_cant_91 : decode cX11_cant 91 = .ok (.ireturn, 1) := oc_172 (by decide +kernel)
theorem dX11_cant_36 : decode cX11_cant 36 = .ok (.if_icmp .ge 48, 3) := oc_162 (a := 0) (b := 48) (by decide +kernel)
theorem dX11_cant_39 : decode cX11_cant 39 = .ok (.aload_n 0, 1) := oc_42 (by decide +kernel)
theorem dX11_cant_40 : decode cX11_cant 40 = .ok (.getfield 19, 3) := oc_180 (a := 0) (b := 19) (by decide +kernel)
theorem dX11_cant_43 : decode cX11_cant 43 = .ok (.getfield 276, 3) := oc_180 (a := 1) (b := 20) (by decide +kernel)
theorem dX11_cant_46 : decode cX11_cant 46 = .ok (.iconst (-1), 1) := oc_2 (by decide +kernel)
theorem dX11_cant_47 : decode cX11_cant 47 = .ok (.if_icmp .ne 37, 3) := oc_160 (a := 0) (b := 37) (by decide +kernel)
theorem dX11_cant_50 : decode cX11_cant 50 = .ok (.aload_n 0, 1) := oc_42 (by decide +kernel)
theorem dX11_cant_51 : decode cX11_cant 51 = .ok (.getfield 19, 3) := oc_180 (a := 0) (b := 19) (by decide +kernel)
theorem dX11_cant_54 : decode cX11_cant 54 = .ok (.iload_n 1, 1) := oc_27 (by decide +kernel)
theorem dX11_cant_55 : decode cX11_cant 55 = .ok (.invokevirtual 270, 3) := oc_182 (a := 1) (b := 14) (by decide +kernel)
theorem dX11_cant_58 : decode cX11_cant 58 = .ok (.aload_n 0, 1) := oc_42 (by decide +kernel)
theorem dX11_cant_59 : decode cX11_cant 59 = .ok (.getfield 19, 3) := oc_180 (a := 0) (b := 19) (by decide +kernel)
theorem tw_1406 : Cond.methodLink RX11 279 yX10_reckon ∈ wsL_law := sg_59 _ (List.mem_of_getElem? (i := 14) rfl)
theorem dX11_cant_62 : decode cX11_cant 62 = .ok (.invokevirtual 279, 3) := oc_182 (a := 1) (b := 23) (by decide +kernel)
theorem dX11_cant_65 : decode cX11_cant 65 = .ok (.aload_n 0, 1) := oc_42 (by decide +kernel)
theorem dX11_cant_66 : decode cX11_cant 66 = .ok (.getfield 19, 3) := oc_180 (a := 0) (b := 19) (by decide +kernel)
theorem dX11_cant_69 : decode cX11_cant 69 = .ok (.dup, 1) := oc_89 (by decide +kernel)
theorem dX11_cant_70 : decode cX11_cant 70 = .ok (.getfield 54, 3) := oc_180 (a := 0) (b := 54) (by decide +kernel)
theorem dX11_cant_73 : decode cX11_cant 73 = .ok (.iconst 1, 1) := oc_4 (by decide +kernel)
theorem dX11_cant_74 : decode cX11_cant 74 = .ok (.iadd, 1) := oc_96 (by decide +kernel)
theorem dX11_cant_75 : decode cX11_cant 75 = .ok (.putfield 54, 3) := oc_181 (a := 0) (b := 54) (by decide +kernel)
theorem dX11_cant_78 : decode cX11_cant 78 = .ok (.iinc 3 1, 3) := oc_132 (b := 1) (by decide +kernel)
theorem dX11_cant_81 : decode cX11_cant 81 = .ok (.goto (-47), 3) := oc_167 (a := 255) (b := 209) (by decide +kernel)
theorem dX11_cant_11 : decode cX11_cant 11 = .ok (.iconst (-1), 1) := oc_2 (by decide +kernel)
theorem dX11_cant_12 : decode cX11_cant 12 = .ok (.ireturn, 1) := oc_172 (by decide +kernel)
theorem dX11_keeps_0 : decode cX11_keeps 0 = .ok (.aload_n 0, 1) := oc_42 (by decide +kernel)
theorem dX11_keeps_1 : decode cX11_keeps 1 = .ok (.iload_n 1, 1) := oc_27 (by decide +kernel)
theorem dX11_keeps_2 : decode cX11_keeps 2 = .ok (.invokevirtual 119, 3) := oc_182 (a := 0) (b := 119) (by decide +kernel)
theorem dX11_keeps_33 : decode cX11_keeps 33 = .ok (.istore 5, 2) := oc_54 (by decide +kernel)
theorem dX11_keeps_35 : decode cX11_keeps 35 = .ok (.iload 5, 2) := oc_21 (by decide +kernel)
theorem dX11_keeps_55 : decode cX11_keeps 55 = .ok (.ldc 83, 2) := oc_18 (by decide +kernel)
theorem dX11_keeps_57 : decode cX11_keeps 57 = .ok (.ireturn, 1) := oc_172 (by decide +kernel)
theorem dX11_keeps_37 : decode cX11_keeps 37 = .ok (.ifCond .eq 18, 3) := oc_153 (a := 0) (b := 18) (by decide +kernel)
theorem dX11_keeps_40 : decode cX11_keeps 40 = .ok (.aload_n 0, 1) := oc_42 (by decide +kernel)
theorem dX11_keeps_41 : decode cX11_keeps 41 = .ok (.getfield 10, 3) := oc_180 (a := 0) (b := 10) (by decide +kernel)
theorem dX11_keeps_44 : decode cX11_keeps 44 = .ok (.getfield 36, 3) := oc_180 (a := 0) (b := 36) (by decide +kernel)
theorem dX11_keeps_47 : decode cX11_keeps 47 = .ok (.getfield 122, 3) := oc_180 (a := 0) (b := 122) (by decide +kernel)
theorem dX11_keeps_50 : decode cX11_keeps 50 = .ok (.iload_n 1, 1) := oc_27 (by decide +kernel)
theorem dX11_keeps_51 : decode cX11_keeps 51 = .ok (.iaload, 1) := oc_46 (by decide +kernel)
theorem dX11_keeps_52 : decode cX11_keeps 52 = .ok (.ifCond .ne 6, 3) := oc_154 (a := 0) (b := 6) (by decide +kernel)
theorem dX11_keeps_58 : decode cX11_keeps 58 = .ok (.aload_n 0, 1) := oc_42 (by decide +kernel)
theorem dX11_keeps_59 : decode cX11_keeps 59 = .ok (.getfield 19, 3) := oc_180 (a := 0) (b := 19) (by decide +kernel)
theorem dX11_keeps_62 : decode cX11_keeps 62 = .ok (.aload_n 0, 1) := oc_42 (by decide +kernel)
theorem dX11_keeps_63 : decode cX11_keeps 63 = .ok (.getfield 10, 3) := oc_180 (a := 0) (b := 10) (by decide +kernel)
theorem dX11_keeps_66 : decode cX11_keeps 66 = .ok (.invokevirtual 266, 3) := oc_182 (a := 1) (b := 10) (by decide +kernel)
theorem dX11_keeps_69 : decode cX11_keeps 69 = .ok (.aload_n 0, 1) := oc_42 (by decide +kernel)
theorem dX11_keeps_70 : decode cX11_keeps 70 = .ok (.getfield 19, 3) := oc_180 (a := 0) (b := 19) (by decide +kernel)
theorem dX11_keeps_73 : decode cX11_keeps 73 = .ok (.iload 4, 2) := oc_21 (by decide +kernel)
theorem dX11_keeps_75 : decode cX11_keeps 75 = .ok (.iload_n 2, 1) := oc_28 (by decide +kernel)
theorem tw_1415 : Cond.methodLink RX11 282 yX10_sandBehind ∈ wsL_law := sg_59 _ (List.mem_of_getElem? (i := 23) rfl)
theorem tw_1416 : Cond.instanceMethod yX10_sandBehind ∈ wsL_law := sg_60 _ (List.mem_of_getElem? (i := 0) rfl)
theorem tw_1417 : Cond.selects RX10 yX10_sandBehind yX10_sandBehind ∈ wsL_law := sg_60 _ (List.mem_of_getElem? (i := 1) rfl)
theorem tw_1418 : Cond.code yX10_sandBehind cX10_sandBehind 4 (some .int) ∈ wsL_law := sg_60 _ (List.mem_of_getElem? (i := 2) rfl)
theorem dX11_keeps_76 : decode cX11_keeps 76 = .ok (.invokevirtual 282, 3) := oc_182 (a := 1) (b := 26) (by decide +kernel)
theorem dX11_keeps_79 : decode cX11_keeps 79 = .ok (.istore 6, 2) := oc_54 (by decide +kernel)
theorem dX11_keeps_81 : decode cX11_keeps 81 = .ok (.aload_n 0, 1) := oc_42 (by decide +kernel)
theorem dX11_keeps_82 : decode cX11_keeps 82 = .ok (.getfield 19, 3) := oc_180 (a := 0) (b := 19) (by decide +kernel)
theorem dX11_keeps_85 : decode cX11_keeps 85 = .ok (.aload_n 0, 1) := oc_42 (by decide +kernel)
theorem dX11_keeps_86 : decode cX11_keeps 86 = .ok (.getfield 10, 3) := oc_180 (a := 0) (b := 10) (by decide +kernel)
theorem dX11_keeps_89 : decode cX11_keeps 89 = .ok (.invokevirtual 266, 3) := oc_182 (a := 1) (b := 10) (by decide +kernel)
theorem dX11_keeps_92 : decode cX11_keeps 92 = .ok (.aload_n 0, 1) := oc_42 (by decide +kernel)
theorem dX11_keeps_93 : decode cX11_keeps 93 = .ok (.getfield 19, 3) := oc_180 (a := 0) (b := 19) (by decide +kernel)
theorem dX11_keeps_96 : decode cX11_keeps 96 = .ok (.getfield 36, 3) := oc_180 (a := 0) (b := 36) (by decide +kernel)
theorem dX11_keeps_99 : decode cX11_keeps 99 = .ok (.getfield 122, 3) := oc_180 (a := 0) (b := 122) (by decide +kernel)
theorem dX11_keeps_102 : decode cX11_keeps 102 = .ok (.iload_n 1, 1) := oc_27 (by decide +kernel)
theorem dX11_keeps_103 : decode cX11_keeps 103 = .ok (.iconst 0, 1) := oc_3 (by decide +kernel)
theorem dX11_keeps_104 : decode cX11_keeps 104 = .ok (.iastore, 1) := oc_79 (by decide +kernel)
theorem dX11_keeps_105 : decode cX11_keeps 105 = .ok (.iload 6, 2) := oc_21 (by decide +kernel)
theorem dX11_keeps_107 : decode cX11_keeps 107 = .ok (.aload_n 0, 1) := oc_42 (by decide +kernel)
theorem dX11_keeps_108 : decode cX11_keeps 108 = .ok (.getfield 19, 3) := oc_180 (a := 0) (b := 19) (by decide +kernel)
theorem dX11_keeps_111 : decode cX11_keeps 111 = .ok (.iload 4, 2) := oc_21 (by decide +kernel)
theorem dX11_keeps_113 : decode cX11_keeps 113 = .ok (.iload_n 2, 1) := oc_28 (by decide +kernel)
theorem dX11_keeps_114 : decode cX11_keeps 114 = .ok (.invokevirtual 282, 3) := oc_182 (a := 1) (b := 26) (by decide +kernel)
theorem dX11_keeps_117 : decode cX11_keeps 117 = .ok (.isub, 1) := oc_100 (by decide +kernel)
theorem dX11_keeps_118 : decode cX11_keeps 118 = .ok (.ireturn, 1) := oc_172 (by decide +kernel)
theorem dX11_keeps_32 : decode cX11_keeps 32 = .ok (.iconst 0, 1) := oc_3 (by decide +kernel)
theorem dX11_keeps_5 : decode cX11_keeps 5 = .ok (.ifCond .eq 27, 3) := oc_153 (a := 0) (b := 27) (by decide +kernel)
theorem dX11_keeps_8 : decode cX11_keeps 8 = .ok (.aload_n 0, 1) := oc_42 (by decide +kernel)
theorem dX11_keeps_9 : decode cX11_keeps 9 = .ok (.iload_n 2, 1) := oc_28 (by decide +kernel)
theorem dX11_keeps_10 : decode cX11_keeps 10 = .ok (.invokevirtual 119, 3) := oc_182 (a := 0) (b := 119) (by decide +kernel)
theorem dX11_keeps_13 : decode cX11_keeps 13 = .ok (.ifCond .eq 19, 3) := oc_153 (a := 0) (b := 19) (by decide +kernel)
theorem dX11_keeps_16 : decode cX11_keeps 16 = .ok (.aload_n 0, 1) := oc_42 (by decide +kernel)
theorem dX11_keeps_17 : decode cX11_keeps 17 = .ok (.iload_n 3, 1) := oc_29 (by decide +kernel)
theorem dX11_keeps_18 : decode cX11_keeps 18 = .ok (.iload 4, 2) := oc_21 (by decide +kernel)
theorem dX11_keeps_20 : decode cX11_keeps 20 = .ok (.bipush 60, 2) := oc_16 (a := 60) (by decide +kernel)
theorem dX11_keeps_22 : decode cX11_keeps 22 = .ok (.invokevirtual 260, 3) := oc_182 (a := 1) (b := 4) (by decide +kernel)
theorem dX11_keeps_25 : decode cX11_keeps 25 = .ok (.ifCond .eq 7, 3) := oc_153 (a := 0) (b := 7) (by decide +kernel)
theorem dX11_keeps_28 : decode cX11_keeps 28 = .ok (.iconst 1, 1) := oc_4 (by decide +kernel)
theorem dX11_keeps_29 : decode cX11_keeps 29 = .ok (.goto 4, 3) := oc_167 (a := 0) (b := 4) (by decide +kernel)
set_option maxRecDepth 100000 in
def g_X11_sail_K20 (I : Nat → Int32) (J : Nat → Int64) (ri : Nat → Nat → Int32) (rj : Nat → Nat → Int64) (rq : Nat → Nat → Option Nat) : Int32 × vM := ((0 : Int32), I, J, ri, rj, rq)
set_option maxRecDepth 100000 in
theorem g_X11_sail_K20_e {I : Nat → Int32} {J : Nat → Int64} {ri : Nat → Nat → Int32} {rj : Nat → Nat → Int64} {rq : Nat → Nat → Option Nat} : g_X11_sail_K20 I J ri rj rq  = ((0 : Int32), I, J, ri, rj, rq) := rfl
set_option maxRecDepth 100000 in
def g_X11_sail (a0 : Int32) (a1 : Int32) (I : Nat → Int32) (J : Nat → Int64) (ri : Nat → Nat → Int32) (rj : Nat → Nat → Int64) (rq : Nat → Nat → Option Nat) : Int32 × vM := (ap1 (g_X11_between a0 (0 : Int32) (40 : Int32)) fun (x_1 : Int32) => (if x_1 = (0 : Int32) then (g_X11_sail_K20 I J ri rj rq ) else (ap1 (g_X11_between a1 (0 : Int32) (100000 : Int32)) fun (x_53 : Int32) => (if x_53 = (0 : Int32) then (g_X11_sail_K20 I J ri rj rq ) else (ap1 (va_up I 322 a0) fun (I_74 : Nat → Int32) => (ap1 (I_74 321) fun (y_75 : Int32) => (ap1 ((y_75) + a1) fun (x_76 : Int32) => (ap1 (va_up I_74 321 x_76) fun (I_77 : Nat → Int32) => ((1 : Int32), I_77, J, ri, rj, rq)))))))))
set_option maxRecDepth 100000 in
theorem g_X11_sail_e {a0 : Int32} {a1 : Int32} {I : Nat → Int32} {J : Nat → Int64} {ri : Nat → Nat → Int32} {rj : Nat → Nat → Int64} {rq : Nat → Nat → Option Nat} : g_X11_sail a0 a1 I J ri rj rq = (ap1 (g_X11_between a0 (0 : Int32) (40 : Int32)) fun (x_1 : Int32) => (if x_1 = (0 : Int32) then (g_X11_sail_K20 I J ri rj rq ) else (ap1 (g_X11_between a1 (0 : Int32) (100000 : Int32)) fun (x_53 : Int32) => (if x_53 = (0 : Int32) then (g_X11_sail_K20 I J ri rj rq ) else (ap1 (va_up I 322 a0) fun (I_74 : Nat → Int32) => (ap1 (I_74 321) fun (y_75 : Int32) => (ap1 ((y_75) + a1) fun (x_76 : Int32) => (ap1 (va_up I_74 321 x_76) fun (I_77 : Nat → Int32) => ((1 : Int32), I_77, J, ri, rj, rq))))))))) := rfl
set_option maxHeartbeats 4000000 in
set_option maxRecDepth 100000 in
theorem s_X11_sail (l : Launch) (D : va_G) (t : pq_T) (σ : pq_S) (I : Nat → Nat → Int32) (J : Nat → Nat → Int64) (ri : Nat → Nat → Int32) (rj : Nat → Nat → Int64) (rq : Nat → Nat → Option Nat) (sz : Nat) (tg : Nat → Nat) (hSH : SH σ tg) (hG0 : GS tg σ I ri rq) (this : Nat) (a0 : Int32) (a1 : Int32) (hL_this : this ∈ σ.1) (hK_this : σ.2.1 this = 11) (this_now : Nat) (hR_this_now : σ.2.2.1 352 this = some this_now) (hL_this_now : this_now ∈ σ.1) (hK_this_now : σ.2.1 this_now = 10) : MetI l yX11_sail (wa yX11_sail cX11_sail 3 (some .boolean)) ({ frames := 1, cells := 0, slots := 0, locals := 22 }) [.ref this, .int a0, .int a1] D t σ (I, J, ri, rj, rq) sz 0 0 (fun (r : Int32) (u : pq_S × pq_M) => ∃ I' : Nat → Nat → Int32, u = (σ, I', J, ri, rj, rq) ∧ GX [] tg σ I ri rj I' ri rj rq ∧ g_X11_sail a0 a1 (vI 10 σ this_now I) (vJ 10 σ this_now J) (vR 10 σ this_now ri) (vL 10 σ this_now rj) (vQ 10 σ this_now rq) = (r, (vI 10 σ this_now I'), (vJ 10 σ this_now J), (vR 10 σ this_now ri), (vL 10 σ this_now rj), (vQ 10 σ this_now rq)) ∧ FR 10 tg σ this_now (I, J, ri, rj, rq) (I', J, ri, rj, rq) ∧ ((r = 1 ∧ rg a0 0 40 ∧ rg a1 0 100000) ∨ (r = 0 ∧ True))) := by
  refine Met.ofW (cc := cX11_sail) (maxL := 3) (ret := (some .boolean)) (by decide +kernel) rfl ?_
  intro p e s m args below meth c s₁ B hml hv
  obtain ⟨rfl, hsz, hP, hK, hD0, hN⟩ := hv
  have hx := B.exec
  have hb := B.bytes
  have hr := B.returns
  have hts := atoms_spec (ws := (wa yX11_sail cX11_sail 3 (some .boolean))) B.pre
  have hown : s.vm.findClass RX11 = some m.cls := findClass_of_methodNamed B.named
  have hlocks := B.notSynchronized
  subst hsz
  have hD : va_D (pq_B t σ (I, J, ri, rj, rq) s.heap.size) (pq_P t σ (I, J, ri, rj, rq)) := hD0.self
  generalize hAe : pq_B t σ (I, J, ri, rj, rq) s.heap.size = A at hD ⊢
  have hA : ∀ q : Nat, s.heap.size ≤ q → A q := fun q h => by rw [← hAe]; exact Or.inr h
  have hS : va_S A s.heap s.heap [] := va_S.rf
  have hG : GX [] tg σ I ri rj I ri rj rq := ⟨hG0, fun _ _ _ => rfl, fun _ _ _ _ _ => rfl, fun _ _ _ _ _ => rfl⟩
  have hl := lv_entry ([.ref this, .int a0, .int a1]) (n := 3) (Nat.le_of_ble_eq_true rfl)
  rw [lg_entry_eq]
  generalize (lg_sl ([.ref this, .int a0, .int a1]) ++ List.replicate (3 - (lg_sl ([.ref this, .int a0, .int a1])).length) Slot.unset).toArray = ls at hl ⊢
  have hl : lv_has ls 3 [(0, .ref this), (1, .int a0), (2, .int a1)] := hl
  refine q_gen (fun Q hQ => ?_)
  have go : ∀ (H : Heap) (locs : List Loc) (ls : Array Slot), va_P D vwCl (pq_P t σ (I, J, ri, rj, rq)) H → va_D A (pq_P t σ (I, J, ri, rj, rq)) → va_S A s.heap H locs → lv_has ls 3 [(0, .ref this), (1, .int a0), (2, .int a1)] → W p l e ({ frames := 1, cells := 0, slots := 0, locals := 22 } : Room) s m (List.toArray ([.ref this, .int a0, .int a1] : List Value)) below meth c H locs 0 0 Q (F0 m 0 ls []) := by
    intro H locs ls hP hD hS hl
    have hVT : VT 10 σ tg this_now := vt_10 hSH hL_this_now hK_this_now
    have hFr : FR 10 tg σ this_now (I, J, ri, rj, rq) (I, J, ri, rj, rq) := fr_rf
    have hO_this_now : this_now = vo σ 10 this_now := rfl
    obtain ⟨F, hF0⟩ : ∃ F, F = g_X11_sail a0 a1 (vI 10 σ this_now I) (vJ 10 σ this_now J) (vR 10 σ this_now ri) (vL 10 σ this_now rj) (vQ 10 σ this_now rq) := ⟨_, rfl⟩
    have hF := hF0.trans g_X11_sail_e
    refine lv_iload_n hx hb dX11_sail_0 rfl (lv_at hl 1 rfl) ?_
    refine lv_iconst (v := 0) hx hb dX11_sail_1 (by decide +kernel) ?_
    refine lv_bipush (v := 40) hx hb dX11_sail_2 (by decide +kernel) ?_
    refine pk_i (va_runS (As := [.int a0, .int 0, .int 40]) (rest := []) ⟨hx, hb, hml, hown, hts⟩ (s_X11_between l D t σ I J ri rj rq H.size tg hSH hG.1 a0 (0 : Int32) (40 : Int32)) (va_cwS 3 hts (tw_S tw_215 tw_216 tw_2 tw_217) rfl rfl rfl cd_yX11_between_3 ⟨Nat.le_of_ble_eq_true rfl, Nat.le_of_ble_eq_true rfl⟩) ⟨pq_blind, pq_pre hK hN hP hD⟩ rfl rfl hl.1 rfl (lv_room (Nat.le_of_ble_eq_true rfl)) dX11_sail_4 ⟨Nat.le_of_ble_eq_true rfl, Nat.le_of_ble_eq_true rfl⟩) hD hS hA (fun x_1 σ1 μ1 H locs hw_2 hP hD hS => ?_)
    obtain ⟨hu_3, hfn_6, hr_5⟩ := hw_2
    obtain ⟨hu_3a, hu_3b⟩ := Prod.mk.inj hu_3
    rw [hu_3a, hu_3b] at hP hD
    replace hF := hF.trans (ap_n hfn_6.symm)
    have h_8 : rg x_1 0 1 := by rcases hr_5 with ⟨q, -⟩ | ⟨q, -⟩ <;> rw [q] <;> exact ⟨by decide +kernel, by decide +kernel⟩
    have K_37 : ∀  (H : Heap) (locs : List Loc) (ls : Array Slot), F = g_X11_sail_K20 (vI 10 σ this_now I) (vJ 10 σ this_now J) (vR 10 σ this_now ri) (vL 10 σ this_now rj) (vQ 10 σ this_now rq)  → FR 10 tg σ this_now (I, J, ri, rj, rq) (I, J, ri, rj, rq) → GX [] tg σ I ri rj I ri rj rq → va_P D vwCl (pq_P t σ (I, J, ri, rj, rq)) H → va_D A (pq_P t σ (I, J, ri, rj, rq)) → va_S A s.heap H locs → lv_has ls 3 [] → W p l e ({ frames := 1, cells := 0, slots := 0, locals := 22 } : Room) s m (List.toArray ([.ref this, .int a0, .int a1] : List Value)) below meth c H locs 0 0 Q (F0 m 20 ls []) := by
      intro H locs ls hF hFr hG hP hD hS hl
      replace hF := hF.trans g_X11_sail_K20_e
      refine lv_iconst (v := 0) hx hb dX11_sail_20 (by decide +kernel) ?_
      subst hQ
      exact W.zret (v := 0) hx hb hr (by decide +kernel) (fun t1 ht hW => ⟨⟨0, (σ, I, J, ri, rj, rq), rfl, ⟨I, rfl, hG, (hF0.symm.trans hF), hFr, (Or.inr ⟨rfl, trivial⟩)⟩, by rw [ht]; exact hP, va_K.moved hW.alike hK, hD⟩, hS.F ht⟩) hS.2.2 dX11_sail_21
    refine lv_if_eq (tgt := 20) hx hb dX11_sail_7 (by decide +kernel) (fun c_38 => ?_) (fun c_38 => ?_)
    · replace hF := hF.trans (if_pos c_38)
      have f_46 := (hr_5.resolve_left (fun q => absurd (q.1.symm.trans c_38) (by decide +kernel))).2
      have h_47 : rg x_1 0 0 := rg_and h_8 (rg_of_eq c_38 (rg_k (0 : Int32) 0 rfl)) (by decide +kernel)
      exact K_37 _ _ _ hF hFr hG hP hD hS (lv_sub hl [] rfl)
    · replace hF := hF.trans (if_neg c_38)
      obtain ⟨f_48, f_49⟩ := (hr_5.resolve_right (fun q => c_38 q.1)).2
      have h_50 : rg a0 0 2147483647 := rg_le2 f_48 (rg_k (0 : Int32) 0 rfl) (rg_full _) (by decide +kernel)
      have h_51 : rg a0 0 40 := rg_le1 f_49 h_50 (rg_k (40 : Int32) 40 rfl) (by decide +kernel)
      have h_52 : rg x_1 1 1 := rg_ne c_38 h_8 0 rfl (by decide +kernel)
      refine lv_iload_n hx hb dX11_sail_10 rfl (lv_at hl 2 rfl) ?_
      refine lv_iconst (v := 0) hx hb dX11_sail_11 (by decide +kernel) ?_
      refine lv_ldc hx hb hown (hts _ (tw_c tw_1024)) dX11_sail_12 ?_
      refine pk_i (va_runS (As := [.int a1, .int 0, .int 100000]) (rest := []) ⟨hx, hb, hml, hown, hts⟩ (s_X11_between l D t σ I J ri rj rq H.size tg hSH hG.1 a1 (0 : Int32) (100000 : Int32)) (va_cwS 3 hts (tw_S tw_215 tw_216 tw_2 tw_217) rfl rfl rfl cd_yX11_between_3 ⟨Nat.le_of_ble_eq_true rfl, Nat.le_of_ble_eq_true rfl⟩) ⟨pq_blind, pq_pre hK hN hP hD⟩ rfl rfl hl.1 rfl (lv_room (Nat.le_of_ble_eq_true rfl)) dX11_sail_14 ⟨Nat.le_of_ble_eq_true rfl, Nat.le_of_ble_eq_true rfl⟩) hD hS hA (fun x_53 σ1 μ1 H locs hw_54 hP hD hS => ?_)
      obtain ⟨hu_55, hfn_58, hr_57⟩ := hw_54
      obtain ⟨hu_55a, hu_55b⟩ := Prod.mk.inj hu_55
      rw [hu_55a, hu_55b] at hP hD
      replace hF := hF.trans (ap_n hfn_58.symm)
      have h_60 : rg x_53 0 1 := by rcases hr_57 with ⟨q, -⟩ | ⟨q, -⟩ <;> rw [q] <;> exact ⟨by decide +kernel, by decide +kernel⟩
      refine lv_if_ne (tgt := 22) hx hb dX11_sail_17 (by decide +kernel) (fun c_61 => ?_) (fun c_61 => ?_)
      · replace hF := hF.trans (if_neg c_61)
        obtain ⟨f_69, f_70⟩ := (hr_57.resolve_right (fun q => c_61 q.1)).2
        have h_71 : rg a1 0 2147483647 := rg_le2 f_69 (rg_k (0 : Int32) 0 rfl) (rg_full _) (by decide +kernel)
        have h_72 : rg a1 0 100000 := rg_le1 f_70 h_71 (rg_k (100000 : Int32) 100000 rfl) (by decide +kernel)
        have h_73 : rg x_53 1 1 := rg_ne c_61 h_60 0 rfl (by decide +kernel)
        refine lv_aload_n hx hb dX11_sail_22 rfl (lv_at hl 0 rfl) ?_
        refine pg_f (v := .ref this_now) (C := RX11) (T := TX11) (N := 5) hx hb hts (tw_i inlX11) hown hK hP hL_this hK_this (by decide +kernel) rfl 0 (by decide +kernel) (hts _ (tw_c tw_16)) (pq_hv rfl hR_this_now) dX11_sail_23 ?_
        refine lv_iload_n hx hb dX11_sail_26 rfl (lv_at hl 1 rfl) ?_
        refine pp_i (v := a0) (ty := .int) (C := RX10) (T := TX10) (N := 13) hx hb hts (tw_i inlX10) tyX10 tyX10_ok nmX10 hown hK hP hD hS hL_this_now hK_this_now (by decide +kernel) rfl 2 322 (by decide +kernel) (hts _ (tw_c tw_1025)) rfl (tyX10_ok 2 (by decide +kernel)) rfl rfl (Nat.le_of_ble_eq_true rfl) (ps_322 _ _ _ _ _) dX11_sail_27 (fun I_74 H locs eI_74 hP hD hS => ?_)
        replace hFr := fr_I (f := 322) hFr hO_this_now (by decide +kernel) eI_74
        replace hF := hF.trans (ap_n (vI_st (f := 322) hO_this_now (by decide +kernel) eI_74))
        have hG := GX.wI hG 322 rfl eI_74 (rg_w h_51 (by decide +kernel)) (by decide +kernel)
        refine lv_aload_n hx hb dX11_sail_30 rfl (lv_at hl 0 rfl) ?_
        refine pg_f (v := .ref this_now) (C := RX11) (T := TX11) (N := 5) hx hb hts (tw_i inlX11) hown hK hP hL_this hK_this (by decide +kernel) rfl 0 (by decide +kernel) (hts _ (tw_c tw_16)) (pq_hv rfl hR_this_now) dX11_sail_31 ?_
        refine lv_dup hx hb dX11_sail_34 rfl ?_
        refine pg_f (v := .int (I_74 321 this_now)) (C := RX10) (T := TX10) (N := 13) hx hb hts (tw_i inlX10) hown hK hP hL_this_now hK_this_now (by decide +kernel) rfl 1 (by decide +kernel) (hts _ (tw_c tw_1026)) rfl dX11_sail_35 ?_
        replace hF := hF.trans (ap_n (vI_e (f := 321) hO_this_now (by decide +kernel)))
        refine lv_iload_n hx hb dX11_sail_38 rfl (lv_at hl 2 rfl) ?_
        refine lv_iadd hx hb dX11_sail_39 ?_
        refine lv_topi (fun x_76 ex_76 => ?_)
        replace hF := hF.trans (ap_n ex_76)
        refine pp_i (v := x_76) (ty := .int) (C := RX10) (T := TX10) (N := 13) hx hb hts (tw_i inlX10) tyX10 tyX10_ok nmX10 hown hK hP hD hS hL_this_now hK_this_now (by decide +kernel) rfl 1 321 (by decide +kernel) (hts _ (tw_c tw_1026)) rfl (tyX10_ok 1 (by decide +kernel)) rfl rfl (Nat.le_of_ble_eq_true rfl) (ps_321 _ _ _ _ _) dX11_sail_40 (fun I_77 H locs eI_77 hP hD hS => ?_)
        replace hFr := fr_I (f := 321) hFr hO_this_now (by decide +kernel) eI_77
        replace hF := hF.trans (ap_n (vI_st (f := 321) hO_this_now (by decide +kernel) eI_77))
        have hG := GX.wI hG 321 rfl eI_77 (rg_w (rg_full _) (by decide +kernel)) (by decide +kernel)
        refine lv_iconst (v := 1) hx hb dX11_sail_43 (by decide +kernel) ?_
        subst hQ
        exact W.zret (v := 1) hx hb hr (by decide +kernel) (fun t1 ht hW => ⟨⟨1, (σ, I_77, J, ri, rj, rq), rfl, ⟨I_77, rfl, hG, (hF0.symm.trans hF), hFr, (Or.inl ⟨rfl, (rg_w h_51 (by decide +kernel)), (rg_w h_72 (by decide +kernel))⟩)⟩, by rw [ht]; exact hP, va_K.moved hW.alike hK, hD⟩, hS.F ht⟩) hS.2.2 dX11_sail_44
      · replace hF := hF.trans (if_pos c_61)
        have f_78 := (hr_57.resolve_left (fun q => absurd (q.1.symm.trans c_61) (by decide +kernel))).2
        have h_79 : rg x_53 0 0 := rg_and h_60 (rg_of_eq c_61 (rg_k (0 : Int32) 0 rfl)) (by decide +kernel)
        exact K_37 _ _ _ hF hFr hG hP hD hS (lv_sub hl [] rfl)
  exact go _ _ _ hP hD hS hl

set_option maxRecDepth 100000 in
def g_X11_canGoBy_K35 (I : Nat → Int32) (J : Nat → Int64) (ri : Nat → Nat → Int32) (rj : Nat → Nat → Int64) (rq : Nat → Nat → Option Nat) : Int32 × vM := ((0 : Int32), I, J, ri, rj, rq)
set_option maxRecDepth 100000 in
theorem g_X11_canGoBy_K35_e {I : Nat → Int32} {J : Nat → Int64} {ri : Nat → Nat → Int32} {rj : Nat → Nat → Int64} {rq : Nat → Nat → Option Nat} : g_X11_canGoBy_K35 I J ri rj rq  = ((0 : Int32), I, J, ri, rj, rq) := rfl
set_option maxRecDepth 100000 in
def g_X11_canGoBy (a0 : Int32) (a1 : Int32) (a2 : Int32) (I : Nat → Int32) (J : Nat → Int64) (ri : Nat → Nat → Int32) (rj : Nat → Nat → Int64) (rq : Nat → Nat → Option Nat) : Int32 × vM := (ap1 (g_X11_isRise a0) fun (x_1 : Int32) => (if x_1 = (0 : Int32) then (g_X11_canGoBy_K35 I J ri rj rq ) else (ap1 (g_X11_between a1 (1 : Int32) a2) fun (x_59 : Int32) => (if x_59 = (0 : Int32) then (g_X11_canGoBy_K35 I J ri rj rq ) else (ap1 (I 320) fun (y_91 : Int32) => (ap1 ((y_91) + a1) fun (x_92 : Int32) => (if (600 : Int32) < x_92 then (g_X11_canGoBy_K35 I J ri rj rq ) else ((1 : Int32), I, J, ri, rj, rq))))))))
set_option maxRecDepth 100000 in
theorem g_X11_canGoBy_e {a0 : Int32} {a1 : Int32} {a2 : Int32} {I : Nat → Int32} {J : Nat → Int64} {ri : Nat → Nat → Int32} {rj : Nat → Nat → Int64} {rq : Nat → Nat → Option Nat} : g_X11_canGoBy a0 a1 a2 I J ri rj rq = (ap1 (g_X11_isRise a0) fun (x_1 : Int32) => (if x_1 = (0 : Int32) then (g_X11_canGoBy_K35 I J ri rj rq ) else (ap1 (g_X11_between a1 (1 : Int32) a2) fun (x_59 : Int32) => (if x_59 = (0 : Int32) then (g_X11_canGoBy_K35 I J ri rj rq ) else (ap1 (I 320) fun (y_91 : Int32) => (ap1 ((y_91) + a1) fun (x_92 : Int32) => (if (600 : Int32) < x_92 then (g_X11_canGoBy_K35 I J ri rj rq ) else ((1 : Int32), I, J, ri, rj, rq)))))))) := rfl
set_option maxHeartbeats 4000000 in
set_option maxRecDepth 100000 in
theorem s_X11_canGoBy (l : Launch) (D : va_G) (t : pq_T) (σ : pq_S) (I : Nat → Nat → Int32) (J : Nat → Nat → Int64) (ri : Nat → Nat → Int32) (rj : Nat → Nat → Int64) (rq : Nat → Nat → Option Nat) (sz : Nat) (tg : Nat → Nat) (hSH : SH σ tg) (hG0 : GS tg σ I ri rq) (this : Nat) (a0 : Int32) (a1 : Int32) (a2 : Int32) (hL_this : this ∈ σ.1) (hK_this : σ.2.1 this = 11) (h_a2 : rg a2 12 60) (this_now : Nat) (hR_this_now : σ.2.2.1 352 this = some this_now) (hL_this_now : this_now ∈ σ.1) (hK_this_now : σ.2.1 this_now = 10) : MetI l yX11_canGoBy (wa yX11_canGoBy cX11_canGoBy 4 (some .boolean)) ({ frames := 2, cells := 0, slots := 0, locals := 42 }) [.ref this, .int a0, .int a1, .int a2] D t σ (I, J, ri, rj, rq) sz 0 0 (fun (r : Int32) (u : pq_S × pq_M) => u = (σ, I, J, ri, rj, rq) ∧ g_X11_canGoBy a0 a1 a2 (vI 10 σ this_now I) (vJ 10 σ this_now J) (vR 10 σ this_now ri) (vL 10 σ this_now rj) (vQ 10 σ this_now rq) = (r, (vI 10 σ this_now I), (vJ 10 σ this_now J), (vR 10 σ this_now ri), (vL 10 σ this_now rj), (vQ 10 σ this_now rq)) ∧ ((r = 1 ∧ rg a0 0 2 ∧ rg a1 1 60 ∧ a1 ≤ a2 ∧ ((I 320 this_now).toInt + a1.toInt ≤ 600)) ∨ (r = 0 ∧ True))) := by
  refine Met.ofW (cc := cX11_canGoBy) (maxL := 4) (ret := (some .boolean)) (by decide +kernel) rfl ?_
  intro p e s m args below meth c s₁ B hml hv
  obtain ⟨rfl, hsz, hP, hK, hD0, hN⟩ := hv
  have hx := B.exec
  have hb := B.bytes
  have hr := B.returns
  have hts := atoms_spec (ws := (wa yX11_canGoBy cX11_canGoBy 4 (some .boolean))) B.pre
  have hown : s.vm.findClass RX11 = some m.cls := findClass_of_methodNamed B.named
  have hlocks := B.notSynchronized
  subst hsz
  have hD : va_D (pq_B t σ (I, J, ri, rj, rq) s.heap.size) (pq_P t σ (I, J, ri, rj, rq)) := hD0.self
  generalize hAe : pq_B t σ (I, J, ri, rj, rq) s.heap.size = A at hD ⊢
  have hA : ∀ q : Nat, s.heap.size ≤ q → A q := fun q h => by rw [← hAe]; exact Or.inr h
  have hS : va_S A s.heap s.heap [] := va_S.rf
  have hG : GX [] tg σ I ri rj I ri rj rq := ⟨hG0, fun _ _ _ => rfl, fun _ _ _ _ _ => rfl, fun _ _ _ _ _ => rfl⟩
  have hl := lv_entry ([.ref this, .int a0, .int a1, .int a2]) (n := 4) (Nat.le_of_ble_eq_true rfl)
  rw [lg_entry_eq]
  generalize (lg_sl ([.ref this, .int a0, .int a1, .int a2]) ++ List.replicate (4 - (lg_sl ([.ref this, .int a0, .int a1, .int a2])).length) Slot.unset).toArray = ls at hl ⊢
  have hl : lv_has ls 4 [(0, .ref this), (1, .int a0), (2, .int a1), (3, .int a2)] := hl
  refine q_gen (fun Q hQ => ?_)
  have go : ∀ (H : Heap) (locs : List Loc) (ls : Array Slot), va_P D vwCl (pq_P t σ (I, J, ri, rj, rq)) H → va_D A (pq_P t σ (I, J, ri, rj, rq)) → va_S A s.heap H locs → lv_has ls 4 [(0, .ref this), (1, .int a0), (2, .int a1), (3, .int a2)] → W p l e ({ frames := 2, cells := 0, slots := 0, locals := 42 } : Room) s m (List.toArray ([.ref this, .int a0, .int a1, .int a2] : List Value)) below meth c H locs 0 0 Q (F0 m 0 ls []) := by
    intro H locs ls hP hD hS hl
    have hVT : VT 10 σ tg this_now := vt_10 hSH hL_this_now hK_this_now
    have hFr : FR 10 tg σ this_now (I, J, ri, rj, rq) (I, J, ri, rj, rq) := fr_rf
    have hO_this_now : this_now = vo σ 10 this_now := rfl
    obtain ⟨F, hF0⟩ : ∃ F, F = g_X11_canGoBy a0 a1 a2 (vI 10 σ this_now I) (vJ 10 σ this_now J) (vR 10 σ this_now ri) (vL 10 σ this_now rj) (vQ 10 σ this_now rq) := ⟨_, rfl⟩
    have hF := hF0.trans g_X11_canGoBy_e
    refine lv_iload_n hx hb dX11_canGoBy_0 rfl (lv_at hl 1 rfl) ?_
    refine pk_i (va_runS (As := [.int a0]) (rest := []) ⟨hx, hb, hml, hown, hts⟩ (s_X11_isRise l D t σ I J ri rj rq H.size tg hSH hG.1 a0) (va_cwS 1 hts (tw_S tw_244 tw_245 tw_2 tw_246) rfl rfl rfl cd_yX11_isRise_1 ⟨Nat.le_of_ble_eq_true rfl, Nat.le_of_ble_eq_true rfl⟩) ⟨pq_blind, pq_pre hK hN hP hD⟩ rfl rfl hl.1 rfl (lv_room (Nat.le_of_ble_eq_true rfl)) dX11_canGoBy_1 ⟨Nat.le_of_ble_eq_true rfl, Nat.le_of_ble_eq_true rfl⟩) hD hS hA (fun x_1 σ1 μ1 H locs hw_2 hP hD hS => ?_)
    obtain ⟨hu_3, hfn_6, hr_5⟩ := hw_2
    obtain ⟨hu_3a, hu_3b⟩ := Prod.mk.inj hu_3
    rw [hu_3a, hu_3b] at hP hD
    replace hF := hF.trans (ap_n hfn_6.symm)
    have h_8 : rg x_1 0 1 := by rcases hr_5 with ⟨q, -⟩ | ⟨q, -⟩ <;> rw [q] <;> exact ⟨by decide +kernel, by decide +kernel⟩
    have uh_8 := h_8.1
    have vh_8 := h_8.2
    have K_45 : ∀  (H : Heap) (locs : List Loc) (ls : Array Slot), F = g_X11_canGoBy_K35 (vI 10 σ this_now I) (vJ 10 σ this_now J) (vR 10 σ this_now ri) (vL 10 σ this_now rj) (vQ 10 σ this_now rq)  → FR 10 tg σ this_now (I, J, ri, rj, rq) (I, J, ri, rj, rq) → GX [] tg σ I ri rj I ri rj rq → va_P D vwCl (pq_P t σ (I, J, ri, rj, rq)) H → va_D A (pq_P t σ (I, J, ri, rj, rq)) → va_S A s.heap H locs → lv_has ls 4 [] → W p l e ({ frames := 2, cells := 0, slots := 0, locals := 42 } : Room) s m (List.toArray ([.ref this, .int a0, .int a1, .int a2] : List Value)) below meth c H locs 0 0 Q (F0 m 35 ls []) := by
      intro H locs ls hF hFr hG hP hD hS hl
      replace hF := hF.trans g_X11_canGoBy_K35_e
      refine lv_iconst (v := 0) hx hb dX11_canGoBy_35 (by decide +kernel) ?_
      subst hQ
      exact W.zret (v := 0) hx hb hr (by decide +kernel) (fun t1 ht hW => ⟨⟨0, (σ, I, J, ri, rj, rq), rfl, ⟨rfl, (hF0.symm.trans hF), (Or.inr ⟨rfl, trivial⟩)⟩, by rw [ht]; exact hP, va_K.moved hW.alike hK, hD⟩, hS.F ht⟩) hS.2.2 dX11_canGoBy_36
    refine lv_if_eq (tgt := 35) hx hb dX11_canGoBy_4 (by decide +kernel) (fun c_46 => ?_) (fun c_46 => ?_)
    · replace hF := hF.trans (if_pos c_46)
      have f_53 := (hr_5.resolve_left (fun q => absurd (q.1.symm.trans c_46) (by decide +kernel))).2
      have tc_54 : (x_1).toInt = 0 := congrArg Int32.toInt c_46
      have h_55 : rg x_1 0 0 := rg_and h_8 (rg_of_eq c_46 (rg_k (0 : Int32) 0 rfl)) (by decide +kernel)
      have uh_55 := h_55.1
      have vh_55 := h_55.2
      exact K_45 _ _ _ hF hFr hG hP hD hS (lv_sub hl [] rfl)
    · replace hF := hF.trans (if_neg c_46)
      have f_56 := (hr_5.resolve_right (fun q => c_46 q.1)).2
      have tc_57 : (x_1).toInt ≠ 0 := fun q => c_46 (Int32.toInt_inj.mp q)
      have h_58 : rg x_1 1 1 := rg_ne c_46 h_8 0 rfl (by decide +kernel)
      have uh_58 := h_58.1
      have vh_58 := h_58.2
      refine lv_iload_n hx hb dX11_canGoBy_7 rfl (lv_at hl 2 rfl) ?_
      refine lv_iconst (v := 1) hx hb dX11_canGoBy_8 (by decide +kernel) ?_
      refine lv_iload_n hx hb dX11_canGoBy_9 rfl (lv_at hl 3 rfl) ?_
      refine pk_i (va_runS (As := [.int a1, .int 1, .int a2]) (rest := []) ⟨hx, hb, hml, hown, hts⟩ (s_X11_between l D t σ I J ri rj rq H.size tg hSH hG.1 a1 (1 : Int32) a2) (va_cwS 3 hts (tw_S tw_215 tw_216 tw_2 tw_217) rfl rfl rfl cd_yX11_between_3 ⟨Nat.le_of_ble_eq_true rfl, Nat.le_of_ble_eq_true rfl⟩) ⟨pq_blind, pq_pre hK hN hP hD⟩ rfl rfl hl.1 rfl (lv_room (Nat.le_of_ble_eq_true rfl)) dX11_canGoBy_10 ⟨Nat.le_of_ble_eq_true rfl, Nat.le_of_ble_eq_true rfl⟩) hD hS hA (fun x_59 σ1 μ1 H locs hw_60 hP hD hS => ?_)
      obtain ⟨hu_61, hfn_64, hr_63⟩ := hw_60
      obtain ⟨hu_61a, hu_61b⟩ := Prod.mk.inj hu_61
      rw [hu_61a, hu_61b] at hP hD
      replace hF := hF.trans (ap_n hfn_64.symm)
      have h_66 : rg x_59 0 1 := by rcases hr_63 with ⟨q, -⟩ | ⟨q, -⟩ <;> rw [q] <;> exact ⟨by decide +kernel, by decide +kernel⟩
      have uh_66 := h_66.1
      have vh_66 := h_66.2
      refine lv_if_eq (tgt := 35) hx hb dX11_canGoBy_13 (by decide +kernel) (fun c_67 => ?_) (fun c_67 => ?_)
      · replace hF := hF.trans (if_pos c_67)
        have f_79 := (hr_63.resolve_left (fun q => absurd (q.1.symm.trans c_67) (by decide +kernel))).2
        have tc_80 : (x_59).toInt = 0 := congrArg Int32.toInt c_67
        have h_81 : rg x_59 0 0 := rg_and h_66 (rg_of_eq c_67 (rg_k (0 : Int32) 0 rfl)) (by decide +kernel)
        have uh_81 := h_81.1
        have vh_81 := h_81.2
        exact K_45 _ _ _ hF hFr hG hP hD hS (lv_sub hl [] rfl)
      · replace hF := hF.trans (if_neg c_67)
        obtain ⟨f_82, f_83⟩ := (hr_63.resolve_right (fun q => c_67 q.1)).2
        have tc_84 : 1 ≤ (a1).toInt := Int32.le_iff_toInt_le.mp f_82
        have h_85 : rg a1 1 2147483647 := rg_le2 f_82 (rg_k (1 : Int32) 1 rfl) (rg_full _) (by decide +kernel)
        have uh_85 := h_85.1
        have vh_85 := h_85.2
        have tc_86 : (a1).toInt ≤ (a2).toInt := Int32.le_iff_toInt_le.mp f_83
        have h_87 : rg a1 1 60 := rg_le1 f_83 h_85 h_a2 (by decide +kernel)
        have uh_87 := h_87.1
        have vh_87 := h_87.2
        have tc_88 : (x_59).toInt ≠ 0 := fun q => c_67 (Int32.toInt_inj.mp q)
        have h_89 : rg x_59 1 1 := rg_ne c_67 h_66 0 rfl (by decide +kernel)
        have uh_89 := h_89.1
        have vh_89 := h_89.2
        refine lv_aload_n hx hb dX11_canGoBy_16 rfl (lv_at hl 0 rfl) ?_
        refine pg_f (v := .ref this_now) (C := RX11) (T := TX11) (N := 5) hx hb hts (tw_i inlX11) hown hK hP hL_this hK_this (by decide +kernel) rfl 0 (by decide +kernel) (hts _ (tw_c tw_16)) (pq_hv rfl hR_this_now) dX11_canGoBy_17 ?_
        refine pg_f (v := .int (I 320 this_now)) (C := RX10) (T := TX10) (N := 13) hx hb hts (tw_i inlX10) hown hK hP hL_this_now hK_this_now (by decide +kernel) rfl 0 (by decide +kernel) (hts _ (tw_c tw_209)) rfl dX11_canGoBy_20 ?_
        have h_90 : rg (I 320 this_now) 0 600 := GX.rI hG 320 rfl
        have uh_90 := h_90.1
        have vh_90 := h_90.2
        replace hF := hF.trans (ap_n (vI_e (f := 320) hO_this_now (by decide +kernel)))
        refine lv_iload_n hx hb dX11_canGoBy_23 rfl (lv_at hl 2 rfl) ?_
        refine lv_iadd hx hb dX11_canGoBy_24 ?_
        refine lv_topi (fun x_92 ex_92 => ?_)
        replace hF := hF.trans (ap_n ex_92)
        have h_93 : rg x_92 1 660 := rg_of_eq ex_92 (rg_add h_90 h_87 (by decide +kernel))
        have uh_93 := h_93.1
        have vh_93 := h_93.2
        have tx_92 : (x_92).toInt = (I 320 this_now).toInt + (a1).toInt := by rw [ex_92]; exact i_add_rg (a2 := (I 320 this_now).toInt) (b2 := (a1).toInt) rfl rfl h_90 h_87 (by decide +kernel)
        refine lv_sipush (v := 600) hx hb dX11_canGoBy_25 (by decide +kernel) ?_
        refine lv_icmp_gt (tgt := 35) hx hb dX11_canGoBy_28 (by decide +kernel) (fun c_94 => ?_) (fun c_94 => ?_)
        · replace hF := hF.trans (if_pos c_94)
          have tc_99 : 600 < (x_92).toInt := Int32.lt_iff_toInt_lt.mp c_94
          have h_100 : rg x_92 601 660 := rg_lt2 c_94 (rg_k (600 : Int32) 600 rfl) h_93 (by decide +kernel)
          have uh_100 := h_100.1
          have vh_100 := h_100.2
          exact K_45 _ _ _ hF hFr hG hP hD hS (lv_sub hl [] rfl)
        · replace hF := hF.trans (if_neg c_94)
          have tc_101 : (x_92).toInt ≤ 600 := Int32.le_iff_toInt_le.mp (nlt c_94)
          have h_102 : rg x_92 1 600 := rg_le1 (nlt c_94) h_93 (rg_k (600 : Int32) 600 rfl) (by decide +kernel)
          have uh_102 := h_102.1
          have vh_102 := h_102.2
          refine lv_iconst (v := 1) hx hb dX11_canGoBy_31 (by decide +kernel) ?_
          refine lv_goto (tgt := 36) hx hb dX11_canGoBy_32 (by decide +kernel) ?_
          subst hQ
          exact W.zret (v := 1) hx hb hr (by decide +kernel) (fun t1 ht hW => ⟨⟨1, (σ, I, J, ri, rj, rq), rfl, ⟨rfl, (hF0.symm.trans hF), (Or.inl ⟨rfl, (rg_w f_56 (by decide +kernel)), (rg_w h_87 (by decide +kernel)), f_83, (by omega)⟩)⟩, by rw [ht]; exact hP, va_K.moved hW.alike hK, hD⟩, hS.F ht⟩) hS.2.2 dX11_canGoBy_36
  exact go _ _ _ hP hD hS hl

set_option maxRecDepth 100000 in
def g_X11_months_L15 (a0 : Int32) (a1 : Int32) (rq : Nat → Nat → Option Nat) (tI : Nat → Nat → Int32) (tR : Nat → Nat → Nat → Int32) : Nat → (Int32) → (Nat → Int32) → (Nat → Int64) → (Nat → Nat → Int32) → (Nat → Nat → Int64) → Int32 × vM
  | 0, x_344, I_345, J_346, ri_347, rj_348 => ((0 : Int32), I_345, J_346, ri_347, rj_348, rq)
  | n_369 + 1, x_344, I_345, J_346, ri_347, rj_348 => (if a0 ≤ x_344 then (ap1 (I_345 320) fun (y_379 : Int32) => ((y_379), I_345, J_346, ri_347, rj_348, rq)) else (bnV (g_X10_goBy tI tR a1 I_345 J_346 ri_347 rj_348 rq) fun (I_383 : Nat → Int32) (J_384 : Nat → Int64) (ri_385 : Nat → Nat → Int32) (rj_386 : Nat → Nat → Int64) (_ : Nat → Nat → Option Nat) => (ap1 (x_344 + Int32.ofInt 1) fun (x_392 : Int32) => ((g_X11_months_L15 a0 a1 rq tI tR n_369) x_392 I_383 J_384 ri_385 rj_386))))
set_option maxRecDepth 100000 in
theorem g_X11_months_L15_e {a0 : Int32} {a1 : Int32} {rq : Nat → Nat → Option Nat} {tI : Nat → Nat → Int32} {tR : Nat → Nat → Nat → Int32} {n_369 : Nat} {x_344 : Int32} {I_345 : Nat → Int32} {J_346 : Nat → Int64} {ri_347 : Nat → Nat → Int32} {rj_348 : Nat → Nat → Int64} : g_X11_months_L15 a0 a1 rq tI tR (n_369 + 1) x_344 I_345 J_346 ri_347 rj_348 = (if a0 ≤ x_344 then (ap1 (I_345 320) fun (y_379 : Int32) => ((y_379), I_345, J_346, ri_347, rj_348, rq)) else (bnV (g_X10_goBy tI tR a1 I_345 J_346 ri_347 rj_348 rq) fun (I_383 : Nat → Int32) (J_384 : Nat → Int64) (ri_385 : Nat → Nat → Int32) (rj_386 : Nat → Nat → Int64) (_ : Nat → Nat → Option Nat) => (ap1 (x_344 + Int32.ofInt 1) fun (x_392 : Int32) => ((g_X11_months_L15 a0 a1 rq tI tR n_369) x_392 I_383 J_384 ri_385 rj_386)))) := rfl
set_option maxRecDepth 100000 in
def g_X11_months (tI : Nat → Nat → Int32) (tR : Nat → Nat → Nat → Int32) (a0 : Int32) (a1 : Int32) (I : Nat → Int32) (J : Nat → Int64) (ri : Nat → Nat → Int32) (rj : Nat → Nat → Int64) (rq : Nat → Nat → Option Nat) : Int32 × vM := (bnI (g_X11_canGoBy a1 a0 (60 : Int32) I J ri rj rq) fun (x_1 : Int32) (_ : Nat → Int32) (_ : Nat → Int64) (_ : Nat → Nat → Int32) (_ : Nat → Nat → Int64) (_ : Nat → Nat → Option Nat) => (if x_1 = (0 : Int32) then ((-1 : Int32), I, J, ri, rj, rq) else (g_X11_months_L15 a0 a1 rq tI tR ((60 - ((0 : Int32)).toInt).toNat + 1) (0 : Int32) I J ri rj)))
set_option maxRecDepth 100000 in
theorem g_X11_months_e {tI : Nat → Nat → Int32} {tR : Nat → Nat → Nat → Int32} {a0 : Int32} {a1 : Int32} {I : Nat → Int32} {J : Nat → Int64} {ri : Nat → Nat → Int32} {rj : Nat → Nat → Int64} {rq : Nat → Nat → Option Nat} : g_X11_months tI tR a0 a1 I J ri rj rq = (bnI (g_X11_canGoBy a1 a0 (60 : Int32) I J ri rj rq) fun (x_1 : Int32) (_ : Nat → Int32) (_ : Nat → Int64) (_ : Nat → Nat → Int32) (_ : Nat → Nat → Int64) (_ : Nat → Nat → Option Nat) => (if x_1 = (0 : Int32) then ((-1 : Int32), I, J, ri, rj, rq) else (g_X11_months_L15 a0 a1 rq tI tR ((60 - ((0 : Int32)).toInt).toNat + 1) (0 : Int32) I J ri rj))) := rfl
set_option maxHeartbeats 4000000 in
set_option maxRecDepth 100000 in
theorem s_X11_months (l : Launch) (D : va_G) (t : pq_T) (σ : pq_S) (I : Nat → Nat → Int32) (J : Nat → Nat → Int64) (ri : Nat → Nat → Int32) (rj : Nat → Nat → Int64) (rq : Nat → Nat → Option Nat) (sz : Nat) (tg : Nat → Nat) (hSH : SH σ tg) (hG0 : GS tg σ I ri rq) (this : Nat) (a0 : Int32) (a1 : Int32) (hL_this : this ∈ σ.1) (hK_this : σ.2.1 this = 11) (this_now : Nat) (hR_this_now : σ.2.2.1 352 this = some this_now) (hL_this_now : this_now ∈ σ.1) (hK_this_now : σ.2.1 this_now = 10) : MetI l yX11_months (wa yX11_months cX11_months 4 (some .int)) ({ frames := 6, cells := 0, slots := 0, locals := 166 }) [.ref this, .int a0, .int a1] D t σ (I, J, ri, rj, rq) sz 0 0 (fun (r : Int32) (u : pq_S × pq_M) => ∃ I' : Nat → Nat → Int32, ∃ J' : Nat → Nat → Int64, ∃ ri' : Nat → Nat → Int32, ∃ rj' : Nat → Nat → Int64, u = (σ, I', J', ri', rj', rq) ∧ GX [1074, 1073, 1005, 320] tg σ I ri rj I' ri' rj' rq ∧ g_X11_months (tI σ I) (tR σ ri) a0 a1 (vI 10 σ this_now I) (vJ 10 σ this_now J) (vR 10 σ this_now ri) (vL 10 σ this_now rj) (vQ 10 σ this_now rq) = (r, (vI 10 σ this_now I'), (vJ 10 σ this_now J'), (vR 10 σ this_now ri'), (vL 10 σ this_now rj'), (vQ 10 σ this_now rq)) ∧ FR 10 tg σ this_now (I, J, ri, rj, rq) (I', J', ri', rj', rq) ∧ rg r (-1) 600) := by
  refine Met.ofW (cc := cX11_months) (maxL := 4) (ret := (some .int)) (by decide +kernel) rfl ?_
  intro p e s m args below meth c s₁ B hml hv
  obtain ⟨rfl, hsz, hP, hK, hD0, hN⟩ := hv
  have hx := B.exec
  have hb := B.bytes
  have hr := B.returns
  have hts := atoms_spec (ws := (wa yX11_months cX11_months 4 (some .int))) B.pre
  have hown : s.vm.findClass RX11 = some m.cls := findClass_of_methodNamed B.named
  have hlocks := B.notSynchronized
  subst hsz
  have hD : va_D (pq_B t σ (I, J, ri, rj, rq) s.heap.size) (pq_P t σ (I, J, ri, rj, rq)) := hD0.self
  generalize hAe : pq_B t σ (I, J, ri, rj, rq) s.heap.size = A at hD ⊢
  have hA : ∀ q : Nat, s.heap.size ≤ q → A q := fun q h => by rw [← hAe]; exact Or.inr h
  have hS : va_S A s.heap s.heap [] := va_S.rf
  have hG : GX [1074, 1073, 1005, 320] tg σ I ri rj I ri rj rq := ⟨hG0, fun _ _ _ => rfl, fun _ _ _ _ _ => rfl, fun _ _ _ _ _ => rfl⟩
  have hl := lv_entry ([.ref this, .int a0, .int a1]) (n := 4) (Nat.le_of_ble_eq_true rfl)
  rw [lg_entry_eq]
  generalize (lg_sl ([.ref this, .int a0, .int a1]) ++ List.replicate (4 - (lg_sl ([.ref this, .int a0, .int a1])).length) Slot.unset).toArray = ls at hl ⊢
  have hl : lv_has ls 4 [(0, .ref this), (1, .int a0), (2, .int a1)] := hl
  refine q_gen (fun Q hQ => ?_)
  have go : ∀ (H : Heap) (locs : List Loc) (ls : Array Slot), va_P D vwCl (pq_P t σ (I, J, ri, rj, rq)) H → va_D A (pq_P t σ (I, J, ri, rj, rq)) → va_S A s.heap H locs → lv_has ls 4 [(0, .ref this), (1, .int a0), (2, .int a1)] → W p l e ({ frames := 6, cells := 0, slots := 0, locals := 166 } : Room) s m (List.toArray ([.ref this, .int a0, .int a1] : List Value)) below meth c H locs 0 0 Q (F0 m 0 ls []) := by
    intro H locs ls hP hD hS hl
    have hVT : VT 10 σ tg this_now := vt_10 hSH hL_this_now hK_this_now
    have hFr : FR 10 tg σ this_now (I, J, ri, rj, rq) (I, J, ri, rj, rq) := fr_rf
    have hO_this_now : this_now = vo σ 10 this_now := rfl
    obtain ⟨F, hF0⟩ : ∃ F, F = g_X11_months (tI σ I) (tR σ ri) a0 a1 (vI 10 σ this_now I) (vJ 10 σ this_now J) (vR 10 σ this_now ri) (vL 10 σ this_now rj) (vQ 10 σ this_now rq) := ⟨_, rfl⟩
    have hF := hF0.trans g_X11_months_e
    refine lv_aload_n hx hb dX11_months_0 rfl (lv_at hl 0 rfl) ?_
    refine lv_iload_n hx hb dX11_months_1 rfl (lv_at hl 2 rfl) ?_
    refine lv_iload_n hx hb dX11_months_2 rfl (lv_at hl 1 rfl) ?_
    refine lv_bipush (v := 60) hx hb dX11_months_3 (by decide +kernel) ?_
    refine pk_i (va_runV (As := [.int a1, .int a0, .int 60]) (rest := []) ⟨hx, hb, hml, hown, hts⟩ (s_X11_canGoBy l D t σ I J ri rj rq H.size tg hSH hG.1 this a1 a0 (60 : Int32) hL_this hK_this (rg_w (rg_k (60 : Int32) 60 rfl) (by decide +kernel)) this_now hR_this_now hL_this_now hK_this_now) (cwV 3 hts (tw_V tw_1035 tw_1036 tw_1037 tw_2 tw_1038) rfl rfl rfl cv_yX11_canGoBy_3 ⟨Nat.le_of_ble_eq_true rfl, Nat.le_of_ble_eq_true rfl⟩) ⟨pq_blind, pq_recv hK hP hL_this hK_this (by decide +kernel) rfl, pq_pre hK hN hP hD⟩ rfl rfl hl.1 rfl (lv_room (Nat.le_of_ble_eq_true rfl)) dX11_months_5 ⟨Nat.le_of_ble_eq_true rfl, Nat.le_of_ble_eq_true rfl⟩) hD hS hA (fun x_1 σ1 μ1 H locs hw_2 hP hD hS => ?_)
    obtain ⟨hu_3, hfn_6, hr_5⟩ := hw_2
    obtain ⟨hu_3a, hu_3b⟩ := Prod.mk.inj hu_3
    rw [hu_3a, hu_3b] at hP hD
    replace hF := hF.trans (bn_n hfn_6)
    have h_8 : rg x_1 0 1 := by rcases hr_5 with ⟨q, -⟩ | ⟨q, -⟩ <;> rw [q] <;> exact ⟨by decide +kernel, by decide +kernel⟩
    refine lv_if_ne (tgt := 13) hx hb dX11_months_8 (by decide +kernel) (fun c_9 => ?_) (fun c_9 => ?_)
    · replace hF := hF.trans (if_neg c_9)
      obtain ⟨f_17, f_18, f_19, f_20⟩ := (hr_5.resolve_right (fun q => c_9 q.1)).2
      have h_21 : rg x_1 1 1 := rg_ne c_9 h_8 0 rfl (by decide +kernel)
      refine lv_iconst (v := 0) hx hb dX11_months_13 (by decide +kernel) ?_
      refine lv_istore_n (lv' := [(3, .int 0), (0, .ref this), (1, .int a0), (2, .int a1)]) hx hb dX11_months_14 rfl hl (by decide +kernel) rfl (fun ls hl => ?_)
      have L_370 : ∀ (n_369 : Nat) (x_344 : Int32) (I_345 : Nat → Nat → Int32) (J_346 : Nat → Nat → Int64) (ri_347 : Nat → Nat → Int32) (rj_348 : Nat → Nat → Int64) (H : Heap) (locs : List Loc) (ls : Array Slot), rg x_344 0 60 → (60 - (x_344).toInt).toNat < n_369 → F = g_X11_months_L15 a0 a1 (vQ 10 σ this_now rq) (tI σ I) (tR σ ri) n_369 x_344 (vI 10 σ this_now I_345) (vJ 10 σ this_now J_346) (vR 10 σ this_now ri_347) (vL 10 σ this_now rj_348) → FR 10 tg σ this_now (I, J, ri, rj, rq) (I_345, J_346, ri_347, rj_348, rq) → GX [1074, 1073, 1005, 320] tg σ I ri rj I_345 ri_347 rj_348 rq → va_P D vwCl (pq_P t σ (I_345, J_346, ri_347, rj_348, rq)) H → va_D A (pq_P t σ (I_345, J_346, ri_347, rj_348, rq)) → va_S A s.heap H locs → lv_has ls 4 [(0, .ref this), (1, .int a0), (2, .int a1), (3, .int x_344)] → W p l e ({ frames := 6, cells := 0, slots := 0, locals := 166 } : Room) s m (List.toArray ([.ref this, .int a0, .int a1] : List Value)) below meth c H locs 0 0 Q (F0 m 15 ls []) := by
        intro n_369
        induction n_369 with
        | zero => intro x_344 I_345 J_346 ri_347 rj_348 H locs ls h_373 hm_368 hF hFr hG hP hD hS hl; exact absurd hm_368 (Nat.not_lt_zero _)
        | succ n_369 ih_371 =>
          intro x_344 I_345 J_346 ri_347 rj_348 H locs ls h_373 hm_368 hF hFr hG hP hD hS hl
          replace hF := hF.trans g_X11_months_L15_e
          refine lv_iload_n hx hb dX11_months_15 rfl (lv_at hl 3 rfl) ?_
          refine lv_iload_n hx hb dX11_months_16 rfl (lv_at hl 1 rfl) ?_
          refine lv_icmp_ge (tgt := 34) hx hb dX11_months_17 (by decide +kernel) (fun c_374 => ?_) (fun c_374 => ?_)
          · replace hF := hF.trans (if_pos c_374)
            have h_377 : rg x_344 1 60 := rg_le2 c_374 f_18 h_373 (by decide +kernel)
            refine lv_aload_n hx hb dX11_months_34 rfl (lv_at hl 0 rfl) ?_
            refine pg_f (v := .ref this_now) (C := RX11) (T := TX11) (N := 5) hx hb hts (tw_i inlX11) hown hK hP hL_this hK_this (by decide +kernel) rfl 0 (by decide +kernel) (hts _ (tw_c tw_16)) (pq_hv rfl hR_this_now) dX11_months_35 ?_
            refine pg_f (v := .int (I_345 320 this_now)) (C := RX10) (T := TX10) (N := 13) hx hb hts (tw_i inlX10) hown hK hP hL_this_now hK_this_now (by decide +kernel) rfl 0 (by decide +kernel) (hts _ (tw_c tw_209)) rfl dX11_months_38 ?_
            have h_378 : rg (I_345 320 this_now) 0 600 := GX.rI hG 320 rfl
            replace hF := hF.trans (ap_n (vI_e (f := 320) hO_this_now (by decide +kernel)))
            subst hQ
            exact W.iret (v := (I_345 320 this_now)) hx hb hr (fun t1 ht hW => ⟨⟨(I_345 320 this_now), (σ, I_345, J_346, ri_347, rj_348, rq), rfl, ⟨I_345, J_346, ri_347, rj_348, rfl, hG, (hF0.symm.trans hF), hFr, (rg_w h_378 (by decide +kernel))⟩, by rw [ht]; exact hP, va_K.moved hW.alike hK, hD⟩, hS.F ht⟩) hS.2.2 dX11_months_41
          · replace hF := hF.trans (if_neg c_374)
            have h_380 : rg x_344 0 59 := rg_lt1 (nle c_374) h_373 f_18 (by decide +kernel)
            refine lv_aload_n hx hb dX11_months_20 rfl (lv_at hl 0 rfl) ?_
            refine pg_f (v := .ref this_now) (C := RX11) (T := TX11) (N := 5) hx hb hts (tw_i inlX11) hown hK hP hL_this hK_this (by decide +kernel) rfl 0 (by decide +kernel) (hts _ (tw_c tw_16)) (pq_hv rfl hR_this_now) dX11_months_21 ?_
            refine lv_iload_n hx hb dX11_months_24 rfl (lv_at hl 2 rfl) ?_
            refine pk_v (va_runV (As := [.int a1]) (rest := []) ⟨hx, hb, hml, hown, hts⟩ (s_X10_goBy l D t σ I_345 J_346 ri_347 rj_348 rq H.size tg hSH hG.1 this_now a1 hL_this_now hK_this_now) (cwV 1 hts (tw_V tw_1039 tw_1040 tw_1041 tw_15 tw_1042) rfl rfl rfl cv_yX10_goBy_1 ⟨Nat.le_of_ble_eq_true rfl, Nat.le_of_ble_eq_true rfl⟩) ⟨pq_blind, pq_recv hK hP hL_this_now hK_this_now (by decide +kernel) rfl, pq_pre hK hN hP hD⟩ rfl rfl hl.1 rfl (lv_room (Nat.le_of_ble_eq_true rfl)) dX11_months_25 ⟨Nat.le_of_ble_eq_true rfl, Nat.le_of_ble_eq_true rfl⟩) hD hS hA (fun σ1 μ1 H locs hw_382 hP hD hS => ?_)
            obtain ⟨I_383, J_384, ri_385, rj_386, hu_387, hg_388, hfn_390, hfr_391⟩ := hw_382
            obtain ⟨hu_387a, hu_387b⟩ := Prod.mk.inj hu_387
            rw [hu_387a, hu_387b] at hP hD
            rw [fr_tI hFr hVT, fr_tR hFr hVT] at hfn_390
            replace hF := hF.trans (bv_n hfn_390)
            replace hFr := fr_tr hFr hfr_391
            have hG := GX.tr hG hg_388 (by decide +kernel)
            obtain ⟨x_392, ex_392⟩ : ∃ y : Int32, y = x_344 + Int32.ofInt 1 := ⟨_, rfl⟩
            replace hF := hF.trans (ap_n ex_392)
            have h_393 : rg x_392 1 60 := rg_of_eq ex_392 (rg_add h_380 (rg_k (Int32.ofInt 1) 1 rfl) (by decide +kernel))
            refine lv_iinc (v := x_392) (lv' := [(3, .int x_392), (0, .ref this), (1, .int a0), (2, .int a1)]) hx hb dX11_months_28 hl (k := 3) rfl ex_392.symm (by decide +kernel) rfl (fun ls hl => ?_)
            refine lv_goto (tgt := 15) hx hb dX11_months_31 (by decide +kernel) ?_
            exact ih_371 x_392 I_383 J_384 ri_385 rj_386 _ _ _ (rg_w h_393 (by decide +kernel)) (ms_up 1 hm_368 ex_392 rfl (by decide +kernel) h_380 (by decide +kernel) (by decide +kernel)) hF hFr hG hP hD hS (lv_sub hl [1, 2, 3, 0] rfl)
      exact L_370 _ (0 : Int32) I J ri rj _ _ _ (rg_w (rg_k (0 : Int32) 0 rfl) (by decide +kernel)) (Nat.lt_succ_self _) hF hFr hG hP hD hS (lv_sub hl [1, 2, 3, 0] rfl)
    · replace hF := hF.trans (if_pos c_9)
      have f_394 := (hr_5.resolve_left (fun q => absurd (q.1.symm.trans c_9) (by decide +kernel))).2
      have h_395 : rg x_1 0 0 := rg_and h_8 (rg_of_eq c_9 (rg_k (0 : Int32) 0 rfl)) (by decide +kernel)
      refine lv_iconst (v := (-1)) hx hb dX11_months_11 (by decide +kernel) ?_
      subst hQ
      exact W.iret (v := (-1)) hx hb hr (fun t1 ht hW => ⟨⟨(-1), (σ, I, J, ri, rj, rq), rfl, ⟨I, J, ri, rj, rfl, hG, (hF0.symm.trans hF), hFr, (rg_w (rg_k (-1 : Int32) (-1) rfl) (by decide +kernel))⟩, by rw [ht]; exact hP, va_K.moved hW.alike hK, hD⟩, hS.F ht⟩) hS.2.2 dX11_months_12
  exact go _ _ _ hP hD hS hl

set_option maxRecDepth 100000 in
def g_X11_sinks_K19 (I : Nat → Int32) (J : Nat → Int64) (ri : Nat → Nat → Int32) (rj : Nat → Nat → Int64) (rq : Nat → Nat → Option Nat) : Int32 × vM := ((-1 : Int32), I, J, ri, rj, rq)
set_option maxRecDepth 100000 in
theorem g_X11_sinks_K19_e {I : Nat → Int32} {J : Nat → Int64} {ri : Nat → Nat → Int32} {rj : Nat → Nat → Int64} {rq : Nat → Nat → Option Nat} : g_X11_sinks_K19 I J ri rj rq  = ((-1 : Int32), I, J, ri, rj, rq) := rfl
set_option maxRecDepth 100000 in
def g_X11_sinks_L35 (a0 : Int32) (a1 : Int32) (a2 : Int32) (rq_866 : Nat → Nat → Option Nat) : Nat → (Int32) → (Nat → Int32) → (Nat → Int64) → (Nat → Nat → Int32) → (Nat → Nat → Int64) → Int32 × vM
  | 0, x_1550, I_1551, J_1552, ri_1553, rj_1554 => ((0 : Int32), I_1551, J_1552, ri_1553, rj_1554, rq_866)
  | n_1600 + 1, x_1550, I_1551, J_1552, ri_1553, rj_1554 => (if a2 ≤ x_1550 then ((-1 : Int32), I_1551, J_1552, ri_1553, rj_1554, rq_866) else (bnV (g_X10_nature a1 I_1551 J_1552 ri_1553 rj_1554 rq_866) fun (I_1618 : Nat → Int32) (J_1619 : Nat → Int64) (ri_1620 : Nat → Nat → Int32) (rj_1621 : Nat → Nat → Int64) (_ : Nat → Nat → Option Nat) => (bnI (g_X2_isDry a0 I_1618 J_1619 ri_1620 rj_1621 rq_866) fun (x_1629 : Int32) (_ : Nat → Int32) (_ : Nat → Int64) (_ : Nat → Nat → Int32) (_ : Nat → Nat → Int64) (_ : Nat → Nat → Option Nat) => (if x_1629 = (0 : Int32) then (ap1 (I_1618 320) fun (y_1656 : Int32) => ((y_1656), I_1618, J_1619, ri_1620, rj_1621, rq_866)) else (ap1 (I_1618 320) fun (y_1645 : Int32) => (ap1 ((y_1645) + (1 : Int32)) fun (x_1646 : Int32) => (ap1 (va_up I_1618 320 x_1646) fun (I_1648 : Nat → Int32) => (ap1 (x_1550 + Int32.ofInt 1) fun (x_1651 : Int32) => ((g_X11_sinks_L35 a0 a1 a2 rq_866 n_1600) x_1651 I_1648 J_1619 ri_1620 rj_1621)))))))))
set_option maxRecDepth 100000 in
theorem g_X11_sinks_L35_e {a0 : Int32} {a1 : Int32} {a2 : Int32} {rq_866 : Nat → Nat → Option Nat} {n_1600 : Nat} {x_1550 : Int32} {I_1551 : Nat → Int32} {J_1552 : Nat → Int64} {ri_1553 : Nat → Nat → Int32} {rj_1554 : Nat → Nat → Int64} : g_X11_sinks_L35 a0 a1 a2 rq_866 (n_1600 + 1) x_1550 I_1551 J_1552 ri_1553 rj_1554 = (if a2 ≤ x_1550 then ((-1 : Int32), I_1551, J_1552, ri_1553, rj_1554, rq_866) else (bnV (g_X10_nature a1 I_1551 J_1552 ri_1553 rj_1554 rq_866) fun (I_1618 : Nat → Int32) (J_1619 : Nat → Int64) (ri_1620 : Nat → Nat → Int32) (rj_1621 : Nat → Nat → Int64) (_ : Nat → Nat → Option Nat) => (bnI (g_X2_isDry a0 I_1618 J_1619 ri_1620 rj_1621 rq_866) fun (x_1629 : Int32) (_ : Nat → Int32) (_ : Nat → Int64) (_ : Nat → Nat → Int32) (_ : Nat → Nat → Int64) (_ : Nat → Nat → Option Nat) => (if x_1629 = (0 : Int32) then (ap1 (I_1618 320) fun (y_1656 : Int32) => ((y_1656), I_1618, J_1619, ri_1620, rj_1621, rq_866)) else (ap1 (I_1618 320) fun (y_1645 : Int32) => (ap1 ((y_1645) + (1 : Int32)) fun (x_1646 : Int32) => (ap1 (va_up I_1618 320 x_1646) fun (I_1648 : Nat → Int32) => (ap1 (x_1550 + Int32.ofInt 1) fun (x_1651 : Int32) => ((g_X11_sinks_L35 a0 a1 a2 rq_866 n_1600) x_1651 I_1648 J_1619 ri_1620 rj_1621))))))))) := rfl
set_option maxRecDepth 100000 in
def g_X11_sinks (nI : Nat → Int32) (nJ : Nat → Int64) (nR : Nat → Nat → Int32) (nL : Nat → Nat → Int64) (nQ : Nat → Nat → Option Nat) (a0 : Int32) (a1 : Int32) (a2 : Int32) (I : Nat → Int32) (J : Nat → Int64) (ri : Nat → Nat → Int32) (rj : Nat → Nat → Int64) (rq : Nat → Nat → Option Nat) : Int32 × vM := (bnI (g_X11_isCell a0 nI nJ nR nL nQ) fun (x_1 : Int32) (_ : Nat → Int32) (_ : Nat → Int64) (_ : Nat → Nat → Int32) (_ : Nat → Nat → Int64) (_ : Nat → Nat → Option Nat) => (if x_1 = (0 : Int32) then (g_X11_sinks_K19 I J ri rj rq ) else (bnI (g_X11_canGoBy a1 a2 (60 : Int32) nI nJ nR nL nQ) fun (x_834 : Int32) (_ : Nat → Int32) (_ : Nat → Int64) (_ : Nat → Nat → Int32) (_ : Nat → Nat → Int64) (_ : Nat → Nat → Option Nat) => (if x_834 = (0 : Int32) then (g_X11_sinks_K19 I J ri rj rq ) else (bnV (g_X10_copyFrom nI nJ nR nL nQ I J ri rj rq) fun (I_862 : Nat → Int32) (J_863 : Nat → Int64) (ri_864 : Nat → Nat → Int32) (rj_865 : Nat → Nat → Int64) (rq_866 : Nat → Nat → Option Nat) => (g_X11_sinks_L35 a0 a1 a2 rq_866 ((60 - ((0 : Int32)).toInt).toNat + 1) (0 : Int32) I_862 J_863 ri_864 rj_865))))))
set_option maxRecDepth 100000 in
theorem g_X11_sinks_e {nI : Nat → Int32} {nJ : Nat → Int64} {nR : Nat → Nat → Int32} {nL : Nat → Nat → Int64} {nQ : Nat → Nat → Option Nat} {a0 : Int32} {a1 : Int32} {a2 : Int32} {I : Nat → Int32} {J : Nat → Int64} {ri : Nat → Nat → Int32} {rj : Nat → Nat → Int64} {rq : Nat → Nat → Option Nat} : g_X11_sinks nI nJ nR nL nQ a0 a1 a2 I J ri rj rq = (bnI (g_X11_isCell a0 nI nJ nR nL nQ) fun (x_1 : Int32) (_ : Nat → Int32) (_ : Nat → Int64) (_ : Nat → Nat → Int32) (_ : Nat → Nat → Int64) (_ : Nat → Nat → Option Nat) => (if x_1 = (0 : Int32) then (g_X11_sinks_K19 I J ri rj rq ) else (bnI (g_X11_canGoBy a1 a2 (60 : Int32) nI nJ nR nL nQ) fun (x_834 : Int32) (_ : Nat → Int32) (_ : Nat → Int64) (_ : Nat → Nat → Int32) (_ : Nat → Nat → Int64) (_ : Nat → Nat → Option Nat) => (if x_834 = (0 : Int32) then (g_X11_sinks_K19 I J ri rj rq ) else (bnV (g_X10_copyFrom nI nJ nR nL nQ I J ri rj rq) fun (I_862 : Nat → Int32) (J_863 : Nat → Int64) (ri_864 : Nat → Nat → Int32) (rj_865 : Nat → Nat → Int64) (rq_866 : Nat → Nat → Option Nat) => (g_X11_sinks_L35 a0 a1 a2 rq_866 ((60 - ((0 : Int32)).toInt).toNat + 1) (0 : Int32) I_862 J_863 ri_864 rj_865)))))) := rfl
set_option maxHeartbeats 4000000 in
set_option maxRecDepth 100000 in
theorem s_X11_sinks (l : Launch) (D : va_G) (t : pq_T) (σ : pq_S) (I : Nat → Nat → Int32) (J : Nat → Nat → Int64) (ri : Nat → Nat → Int32) (rj : Nat → Nat → Int64) (rq : Nat → Nat → Option Nat) (sz : Nat) (tg : Nat → Nat) (hSH : SH σ tg) (hG0 : GS tg σ I ri rq) (this : Nat) (a0 : Int32) (a1 : Int32) (a2 : Int32) (hL_this : this ∈ σ.1) (hK_this : σ.2.1 this = 11) (this_now : Nat) (hR_this_now : σ.2.2.1 352 this = some this_now) (hL_this_now : this_now ∈ σ.1) (hK_this_now : σ.2.1 this_now = 10) (this_trial : Nat) (hR_this_trial : σ.2.2.1 354 this = some this_trial) (hL_this_trial : this_trial ∈ σ.1) (hK_this_trial : σ.2.1 this_trial = 10) (hap : AP 10 tg σ this_trial this_now) : MetI l yX11_sinks (wa yX11_sinks cX11_sinks 5 (some .int)) ({ frames := 5, cells := 0, slots := 0, locals := 144 }) [.ref this, .int a0, .int a1, .int a2] D t σ (I, J, ri, rj, rq) sz 0 0 (fun (r : Int32) (u : pq_S × pq_M) => ∃ I' : Nat → Nat → Int32, ∃ J' : Nat → Nat → Int64, ∃ ri' : Nat → Nat → Int32, ∃ rj' : Nat → Nat → Int64, ∃ rq' : Nat → Nat → Option Nat, u = (σ, I', J', ri', rj', rq') ∧ GX [320, 224, 1225, 1226, 1227, 1228, 1229, 1230, 1231, 1232, 1233, 234, 235, 236, 64, 65, 1069, 1070, 1073, 1074, 1075, 1288, 1079, 0, 1005, 10, 96, 98, 32, 1033, 1034] tg σ I ri rj I' ri' rj' rq' ∧ g_X11_sinks (vI 10 σ this_now I) (vJ 10 σ this_now J) (vR 10 σ this_now ri) (vL 10 σ this_now rj) (vQ 10 σ this_now rq) a0 a1 a2 (vI 10 σ this_trial I) (vJ 10 σ this_trial J) (vR 10 σ this_trial ri) (vL 10 σ this_trial rj) (vQ 10 σ this_trial rq) = (r, (vI 10 σ this_trial I'), (vJ 10 σ this_trial J'), (vR 10 σ this_trial ri'), (vL 10 σ this_trial rj'), (vQ 10 σ this_trial rq')) ∧ FR 10 tg σ this_trial (I, J, ri, rj, rq) (I', J', ri', rj', rq') ∧ rg r (-1) 600) := by
  refine Met.ofW (cc := cX11_sinks) (maxL := 5) (ret := (some .int)) (by decide +kernel) rfl ?_
  intro p e s m args below meth c s₁ B hml hv
  obtain ⟨rfl, hsz, hP, hK, hD0, hN⟩ := hv
  have hx := B.exec
  have hb := B.bytes
  have hr := B.returns
  have hts := atoms_spec (ws := (wa yX11_sinks cX11_sinks 5 (some .int))) B.pre
  have hown : s.vm.findClass RX11 = some m.cls := findClass_of_methodNamed B.named
  have hlocks := B.notSynchronized
  subst hsz
  have hD : va_D (pq_B t σ (I, J, ri, rj, rq) s.heap.size) (pq_P t σ (I, J, ri, rj, rq)) := hD0.self
  generalize hAe : pq_B t σ (I, J, ri, rj, rq) s.heap.size = A at hD ⊢
  have hA : ∀ q : Nat, s.heap.size ≤ q → A q := fun q h => by rw [← hAe]; exact Or.inr h
  have hS : va_S A s.heap s.heap [] := va_S.rf
  have hG : GX [320, 224, 1225, 1226, 1227, 1228, 1229, 1230, 1231, 1232, 1233, 234, 235, 236, 64, 65, 1069, 1070, 1073, 1074, 1075, 1288, 1079, 0, 1005, 10, 96, 98, 32, 1033, 1034] tg σ I ri rj I ri rj rq := ⟨hG0, fun _ _ _ => rfl, fun _ _ _ _ _ => rfl, fun _ _ _ _ _ => rfl⟩
  have hl := lv_entry ([.ref this, .int a0, .int a1, .int a2]) (n := 5) (Nat.le_of_ble_eq_true rfl)
  rw [lg_entry_eq]
  generalize (lg_sl ([.ref this, .int a0, .int a1, .int a2]) ++ List.replicate (5 - (lg_sl ([.ref this, .int a0, .int a1, .int a2])).length) Slot.unset).toArray = ls at hl ⊢
  have hl : lv_has ls 5 [(0, .ref this), (1, .int a0), (2, .int a1), (3, .int a2)] := hl
  refine q_gen (fun Q hQ => ?_)
  have go : ∀ (H : Heap) (locs : List Loc) (ls : Array Slot), va_P D vwCl (pq_P t σ (I, J, ri, rj, rq)) H → va_D A (pq_P t σ (I, J, ri, rj, rq)) → va_S A s.heap H locs → lv_has ls 5 [(0, .ref this), (1, .int a0), (2, .int a1), (3, .int a2)] → W p l e ({ frames := 5, cells := 0, slots := 0, locals := 144 } : Room) s m (List.toArray ([.ref this, .int a0, .int a1, .int a2] : List Value)) below meth c H locs 0 0 Q (F0 m 0 ls []) := by
    intro H locs ls hP hD hS hl
    have hVT : VT 10 σ tg this_trial := vt_10 hSH hL_this_trial hK_this_trial
    have hFr : FR 10 tg σ this_trial (I, J, ri, rj, rq) (I, J, ri, rj, rq) := fr_rf
    have hO_this_now : this_now = vo σ 10 this_now := rfl
    have hO_this_trial : this_trial = vo σ 10 this_trial := rfl
    obtain ⟨F, hF0⟩ : ∃ F, F = g_X11_sinks (vI 10 σ this_now I) (vJ 10 σ this_now J) (vR 10 σ this_now ri) (vL 10 σ this_now rj) (vQ 10 σ this_now rq) a0 a1 a2 (vI 10 σ this_trial I) (vJ 10 σ this_trial J) (vR 10 σ this_trial ri) (vL 10 σ this_trial rj) (vQ 10 σ this_trial rq) := ⟨_, rfl⟩
    have hF := hF0.trans g_X11_sinks_e
    refine lv_aload_n hx hb dX11_sinks_0 rfl (lv_at hl 0 rfl) ?_
    refine lv_iload_n hx hb dX11_sinks_1 rfl (lv_at hl 1 rfl) ?_
    refine pk_i (va_runV (As := [.int a0]) (rest := []) ⟨hx, hb, hml, hown, hts⟩ (s_X11_isCell l D t σ I J ri rj rq H.size tg hSH hG.1 this a0 hL_this hK_this this_now hR_this_now hL_this_now hK_this_now) (cwV 1 hts (tw_V tw_332 tw_333 tw_334 tw_2 tw_335) rfl rfl rfl cv_yX11_isCell_1 ⟨Nat.le_of_ble_eq_true rfl, Nat.le_of_ble_eq_true rfl⟩) ⟨pq_blind, pq_recv hK hP hL_this hK_this (by decide +kernel) rfl, pq_pre hK hN hP hD⟩ rfl rfl hl.1 rfl (lv_room (Nat.le_of_ble_eq_true rfl)) dX11_sinks_2 ⟨Nat.le_of_ble_eq_true rfl, Nat.le_of_ble_eq_true rfl⟩) hD hS hA (fun x_1 σ1 μ1 H locs hw_2 hP hD hS => ?_)
    obtain ⟨hu_3, hfn_6, hr_5⟩ := hw_2
    obtain ⟨hu_3a, hu_3b⟩ := Prod.mk.inj hu_3
    rw [hu_3a, hu_3b] at hP hD
    rw [fr_cI hFr hap, fr_cJ hFr hap, fr_cR hFr hap, fr_cL hFr hap, fr_cQ hFr hap] at hfn_6
    replace hF := hF.trans (bn_n hfn_6)
    have h_8 : rg x_1 0 1 := by rcases hr_5 with ⟨q, -⟩ | ⟨q, -⟩ <;> rw [q] <;> exact ⟨by decide +kernel, by decide +kernel⟩
    have uh_8 := h_8.1
    have vh_8 := h_8.2
    have K_820 : ∀  (H : Heap) (locs : List Loc) (ls : Array Slot), F = g_X11_sinks_K19 (vI 10 σ this_trial I) (vJ 10 σ this_trial J) (vR 10 σ this_trial ri) (vL 10 σ this_trial rj) (vQ 10 σ this_trial rq)  → FR 10 tg σ this_trial (I, J, ri, rj, rq) (I, J, ri, rj, rq) → GX [320, 224, 1225, 1226, 1227, 1228, 1229, 1230, 1231, 1232, 1233, 234, 235, 236, 64, 65, 1069, 1070, 1073, 1074, 1075, 1288, 1079, 0, 1005, 10, 96, 98, 32, 1033, 1034] tg σ I ri rj I ri rj rq → va_P D vwCl (pq_P t σ (I, J, ri, rj, rq)) H → va_D A (pq_P t σ (I, J, ri, rj, rq)) → va_S A s.heap H locs → lv_has ls 5 [] → W p l e ({ frames := 5, cells := 0, slots := 0, locals := 144 } : Room) s m (List.toArray ([.ref this, .int a0, .int a1, .int a2] : List Value)) below meth c H locs 0 0 Q (F0 m 19 ls []) := by
      intro H locs ls hF hFr hG hP hD hS hl
      replace hF := hF.trans g_X11_sinks_K19_e
      refine lv_iconst (v := (-1)) hx hb dX11_sinks_19 (by decide +kernel) ?_
      subst hQ
      exact W.iret (v := (-1)) hx hb hr (fun t1 ht hW => ⟨⟨(-1), (σ, I, J, ri, rj, rq), rfl, ⟨I, J, ri, rj, rq, rfl, hG, (hF0.symm.trans hF), hFr, (rg_w (rg_k (-1 : Int32) (-1) rfl) (by decide +kernel))⟩, by rw [ht]; exact hP, va_K.moved hW.alike hK, hD⟩, hS.F ht⟩) hS.2.2 dX11_sinks_20
    refine lv_if_eq (tgt := 19) hx hb dX11_sinks_5 (by decide +kernel) (fun c_821 => ?_) (fun c_821 => ?_)
    · replace hF := hF.trans (if_pos c_821)
      have f_828 := (hr_5.resolve_left (fun q => absurd (q.1.symm.trans c_821) (by decide +kernel))).2
      have tc_829 : (x_1).toInt = 0 := congrArg Int32.toInt c_821
      have h_830 : rg x_1 0 0 := rg_and h_8 (rg_of_eq c_821 (rg_k (0 : Int32) 0 rfl)) (by decide +kernel)
      have uh_830 := h_830.1
      have vh_830 := h_830.2
      exact K_820 _ _ _ hF hFr hG hP hD hS (lv_sub hl [] rfl)
    · replace hF := hF.trans (if_neg c_821)
      have f_831 := (hr_5.resolve_right (fun q => c_821 q.1)).2
      have tc_832 : (x_1).toInt ≠ 0 := fun q => c_821 (Int32.toInt_inj.mp q)
      have h_833 : rg x_1 1 1 := rg_ne c_821 h_8 0 rfl (by decide +kernel)
      have uh_833 := h_833.1
      have vh_833 := h_833.2
      refine lv_aload_n hx hb dX11_sinks_8 rfl (lv_at hl 0 rfl) ?_
      refine lv_iload_n hx hb dX11_sinks_9 rfl (lv_at hl 2 rfl) ?_
      refine lv_iload_n hx hb dX11_sinks_10 rfl (lv_at hl 3 rfl) ?_
      refine lv_bipush (v := 60) hx hb dX11_sinks_11 (by decide +kernel) ?_
      refine pk_i (va_runV (As := [.int a1, .int a2, .int 60]) (rest := []) ⟨hx, hb, hml, hown, hts⟩ (s_X11_canGoBy l D t σ I J ri rj rq H.size tg hSH hG.1 this a1 a2 (60 : Int32) hL_this hK_this (rg_w (rg_k (60 : Int32) 60 rfl) (by decide +kernel)) this_now hR_this_now hL_this_now hK_this_now) (cwV 3 hts (tw_V tw_1035 tw_1036 tw_1037 tw_2 tw_1038) rfl rfl rfl cv_yX11_canGoBy_3 ⟨Nat.le_of_ble_eq_true rfl, Nat.le_of_ble_eq_true rfl⟩) ⟨pq_blind, pq_recv hK hP hL_this hK_this (by decide +kernel) rfl, pq_pre hK hN hP hD⟩ rfl rfl hl.1 rfl (lv_room (Nat.le_of_ble_eq_true rfl)) dX11_sinks_13 ⟨Nat.le_of_ble_eq_true rfl, Nat.le_of_ble_eq_true rfl⟩) hD hS hA (fun x_834 σ1 μ1 H locs hw_835 hP hD hS => ?_)
      obtain ⟨hu_836, hfn_839, hr_838⟩ := hw_835
      obtain ⟨hu_836a, hu_836b⟩ := Prod.mk.inj hu_836
      rw [hu_836a, hu_836b] at hP hD
      rw [fr_cI hFr hap, fr_cJ hFr hap, fr_cR hFr hap, fr_cL hFr hap, fr_cQ hFr hap] at hfn_839
      replace hF := hF.trans (bn_n hfn_839)
      have h_841 : rg x_834 0 1 := by rcases hr_838 with ⟨q, -⟩ | ⟨q, -⟩ <;> rw [q] <;> exact ⟨by decide +kernel, by decide +kernel⟩
      have uh_841 := h_841.1
      have vh_841 := h_841.2
      refine lv_if_ne (tgt := 21) hx hb dX11_sinks_16 (by decide +kernel) (fun c_842 => ?_) (fun c_842 => ?_)
      · replace hF := hF.trans (if_neg c_842)
        obtain ⟨f_853, f_854, f_855, f_856⟩ := (hr_838.resolve_right (fun q => c_842 q.1)).2
        have tc_857 : (a2).toInt ≤ 60 := Int32.le_iff_toInt_le.mp f_855
        have tc_858 : (x_834).toInt ≠ 0 := fun q => c_842 (Int32.toInt_inj.mp q)
        have h_859 : rg x_834 1 1 := rg_ne c_842 h_841 0 rfl (by decide +kernel)
        have uh_859 := h_859.1
        have vh_859 := h_859.2
        refine lv_aload_n hx hb dX11_sinks_21 rfl (lv_at hl 0 rfl) ?_
        refine pg_f (v := .ref this_trial) (C := RX11) (T := TX11) (N := 5) hx hb hts (tw_i inlX11) hown hK hP hL_this hK_this (by decide +kernel) rfl 2 (by decide +kernel) (hts _ (tw_c tw_18)) (pq_hv rfl hR_this_trial) dX11_sinks_22 ?_
        refine lv_aload_n hx hb dX11_sinks_25 rfl (lv_at hl 0 rfl) ?_
        refine pg_f (v := .ref this_now) (C := RX11) (T := TX11) (N := 5) hx hb hts (tw_i inlX11) hown hK hP hL_this hK_this (by decide +kernel) rfl 0 (by decide +kernel) (hts _ (tw_c tw_16)) (pq_hv rfl hR_this_now) dX11_sinks_26 ?_
        refine pk_v (va_runV (As := [.ref this_now]) (rest := []) ⟨hx, hb, hml, hown, hts⟩ (s_X10_copyFrom l D t σ I J ri rj rq H.size tg hSH hG.1 this_trial this_now hL_this_trial hK_this_trial hL_this_now hK_this_now hap) (cwV 1 hts (tw_V tw_1362 tw_1363 tw_1364 tw_15 tw_1365) rfl rfl rfl cv_yX10_copyFrom_1 ⟨Nat.le_of_ble_eq_true rfl, Nat.le_of_ble_eq_true rfl⟩) ⟨pq_blind, pq_recv hK hP hL_this_trial hK_this_trial (by decide +kernel) rfl, pq_pre hK hN hP hD⟩ rfl rfl hl.1 rfl (lv_room (Nat.le_of_ble_eq_true rfl)) dX11_sinks_29 ⟨Nat.le_of_ble_eq_true rfl, Nat.le_of_ble_eq_true rfl⟩) hD hS hA (fun σ1 μ1 H locs hw_861 hP hD hS => ?_)
        obtain ⟨I_862, J_863, ri_864, rj_865, rq_866, hu_867, hg_868, hp_870, hfn_871, hfr_872⟩ := hw_861
        obtain ⟨hu_867a, hu_867b⟩ := Prod.mk.inj hu_867
        rw [hu_867a, hu_867b] at hP hD
        replace hF := hF.trans (bv_n hfn_871)
        replace hFr := fr_tr hFr hfr_872
        have tt_873 : (I_862 320 this_trial).toInt = (I 320 this_now).toInt := congrArg Int32.toInt hp_870
        have hG := GX.tr hG hg_868 (by decide +kernel)
        refine lv_iconst (v := 0) hx hb dX11_sinks_32 (by decide +kernel) ?_
        refine lv_istore (lv' := [(4, .int 0), (0, .ref this), (1, .int a0), (2, .int a1), (3, .int a2)]) hx hb dX11_sinks_33 hl (by decide +kernel) rfl (fun ls hl => ?_)
        have L_1601 : ∀ (n_1600 : Nat) (x_1550 : Int32) (I_1551 : Nat → Nat → Int32) (J_1552 : Nat → Nat → Int64) (ri_1553 : Nat → Nat → Int32) (rj_1554 : Nat → Nat → Int64) (H : Heap) (locs : List Loc) (ls : Array Slot), rg x_1550 0 60 → ((I_1551 320 this_trial).toInt = (I 320 this_now).toInt + (x_1550).toInt) → (60 - (x_1550).toInt).toNat < n_1600 → F = g_X11_sinks_L35 a0 a1 a2 (vQ 10 σ this_trial rq_866) n_1600 x_1550 (vI 10 σ this_trial I_1551) (vJ 10 σ this_trial J_1552) (vR 10 σ this_trial ri_1553) (vL 10 σ this_trial rj_1554) → FR 10 tg σ this_trial (I, J, ri, rj, rq) (I_1551, J_1552, ri_1553, rj_1554, rq_866) → GX [320, 224, 1225, 1226, 1227, 1228, 1229, 1230, 1231, 1232, 1233, 234, 235, 236, 64, 65, 1069, 1070, 1073, 1074, 1075, 1288, 1079, 0, 1005, 10, 96, 98, 32, 1033, 1034] tg σ I ri rj I_1551 ri_1553 rj_1554 rq_866 → va_P D vwCl (pq_P t σ (I_1551, J_1552, ri_1553, rj_1554, rq_866)) H → va_D A (pq_P t σ (I_1551, J_1552, ri_1553, rj_1554, rq_866)) → va_S A s.heap H locs → lv_has ls 5 [(0, .ref this), (1, .int a0), (2, .int a1), (3, .int a2), (4, .int x_1550)] → W p l e ({ frames := 5, cells := 0, slots := 0, locals := 144 } : Room) s m (List.toArray ([.ref this, .int a0, .int a1, .int a2] : List Value)) below meth c H locs 0 0 Q (F0 m 35 ls []) := by
          intro n_1600
          induction n_1600 with
          | zero => intro x_1550 I_1551 J_1552 ri_1553 rj_1554 H locs ls h_1605 hrel_1606 hm_1599 hF hFr hG hP hD hS hl; exact absurd hm_1599 (Nat.not_lt_zero _)
          | succ n_1600 ih_1602 =>
            intro x_1550 I_1551 J_1552 ri_1553 rj_1554 H locs ls h_1605 hrel_1606 hm_1599 hF hFr hG hP hD hS hl
            have uh_1605 := h_1605.1
            have vh_1605 := h_1605.2
            replace hF := hF.trans g_X11_sinks_L35_e
            refine lv_iload hx hb dX11_sinks_35 (lv_at hl 4 rfl) ?_
            refine lv_iload_n hx hb dX11_sinks_37 rfl (lv_at hl 3 rfl) ?_
            refine lv_icmp_ge (tgt := 90) hx hb dX11_sinks_38 (by decide +kernel) (fun c_1607 => ?_) (fun c_1607 => ?_)
            · replace hF := hF.trans (if_pos c_1607)
              have tc_1612 : (a2).toInt ≤ (x_1550).toInt := Int32.le_iff_toInt_le.mp c_1607
              have h_1613 : rg x_1550 1 60 := rg_le2 c_1607 f_854 h_1605 (by decide +kernel)
              have uh_1613 := h_1613.1
              have vh_1613 := h_1613.2
              refine lv_iconst (v := (-1)) hx hb dX11_sinks_90 (by decide +kernel) ?_
              subst hQ
              exact W.iret (v := (-1)) hx hb hr (fun t1 ht hW => ⟨⟨(-1), (σ, I_1551, J_1552, ri_1553, rj_1554, rq_866), rfl, ⟨I_1551, J_1552, ri_1553, rj_1554, rq_866, rfl, hG, (hF0.symm.trans hF), hFr, (rg_w (rg_k (-1 : Int32) (-1) rfl) (by decide +kernel))⟩, by rw [ht]; exact hP, va_K.moved hW.alike hK, hD⟩, hS.F ht⟩) hS.2.2 dX11_sinks_91
            · replace hF := hF.trans (if_neg c_1607)
              have tc_1614 : (x_1550).toInt < (a2).toInt := Int32.lt_iff_toInt_lt.mp (nle c_1607)
              have h_1615 : rg x_1550 0 59 := rg_lt1 (nle c_1607) h_1605 f_854 (by decide +kernel)
              have uh_1615 := h_1615.1
              have vh_1615 := h_1615.2
              refine lv_aload_n hx hb dX11_sinks_41 rfl (lv_at hl 0 rfl) ?_
              refine pg_f (v := .ref this_trial) (C := RX11) (T := TX11) (N := 5) hx hb hts (tw_i inlX11) hown hK hP hL_this hK_this (by decide +kernel) rfl 2 (by decide +kernel) (hts _ (tw_c tw_18)) (pq_hv rfl hR_this_trial) dX11_sinks_42 ?_
              refine lv_iload_n hx hb dX11_sinks_45 rfl (lv_at hl 2 rfl) ?_
              refine pk_v (va_runV (As := [.int a1]) (rest := []) ⟨hx, hb, hml, hown, hts⟩ (s_X10_nature l D t σ I_1551 J_1552 ri_1553 rj_1554 rq_866 H.size tg hSH hG.1 this_trial a1 hL_this_trial hK_this_trial) (cwV 1 hts (tw_V tw_1395 tw_1048 tw_1049 tw_15 tw_1050) rfl rfl rfl cv_yX10_nature_1 ⟨Nat.le_of_ble_eq_true rfl, Nat.le_of_ble_eq_true rfl⟩) ⟨pq_blind, pq_recv hK hP hL_this_trial hK_this_trial (by decide +kernel) rfl, pq_pre hK hN hP hD⟩ rfl rfl hl.1 rfl (lv_room (Nat.le_of_ble_eq_true rfl)) dX11_sinks_46 ⟨Nat.le_of_ble_eq_true rfl, Nat.le_of_ble_eq_true rfl⟩) hD hS hA (fun σ1 μ1 H locs hw_1617 hP hD hS => ?_)
              obtain ⟨I_1618, J_1619, ri_1620, rj_1621, hu_1622, hg_1623, hfn_1625, hfr_1626⟩ := hw_1617
              obtain ⟨hu_1622a, hu_1622b⟩ := Prod.mk.inj hu_1622
              rw [hu_1622a, hu_1622b] at hP hD
              replace hF := hF.trans (bv_n hfn_1625)
              replace hFr := fr_tr hFr hfr_1626
              have hG := GX.tr hG hg_1623 (by decide +kernel)
              have tt_1627 : (I_1618 320 this_trial).toInt = (I_1551 320 this_trial).toInt := by rw [hg_1623.2.1 320 (by decide +kernel) (by decide +kernel)]
              refine lv_aload_n hx hb dX11_sinks_49 rfl (lv_at hl 0 rfl) ?_
              refine pg_f (v := .ref this_trial) (C := RX11) (T := TX11) (N := 5) hx hb hts (tw_i inlX11) hown hK hP hL_this hK_this (by decide +kernel) rfl 2 (by decide +kernel) (hts _ (tw_c tw_18)) (pq_hv rfl hR_this_trial) dX11_sinks_50 ?_
              obtain ⟨w_1628, hR_w_1628, hL_w_1628, hK_w_1628⟩ := sh_o hSH 327 (ci := 10) (kd := 2) rfl hL_this_trial hK_this_trial
              have hO_w_1628 : w_1628 = vo σ 2 this_trial := vo_k (c := 10) hO_this_trial hR_w_1628
              refine pg_f (v := .ref w_1628) (C := RX10) (T := TX10) (N := 13) hx hb hts (tw_i inlX10) hown hK hP hL_this_trial hK_this_trial (by decide +kernel) rfl 7 (by decide +kernel) (hts _ (tw_c tw_199)) (pq_hv rfl hR_w_1628) dX11_sinks_53 ?_
              refine lv_iload_n hx hb dX11_sinks_56 rfl (lv_at hl 1 rfl) ?_
              refine pk_i (va_runV (As := [.int a0]) (rest := []) ⟨hx, hb, hml, hown, hts⟩ (s_X2_isDry l D t σ I_1618 J_1619 ri_1620 rj_1621 rq_866 H.size tg hSH hG.1 w_1628 a0 hL_w_1628 hK_w_1628 this_trial hL_this_trial hK_this_trial hO_w_1628) (cwV 1 hts (tw_V tw_1396 tw_555 tw_556 tw_41 tw_557) rfl rfl rfl cv_yX2_isDry_1 ⟨Nat.le_of_ble_eq_true rfl, Nat.le_of_ble_eq_true rfl⟩) ⟨pq_blind, pq_recv hK hP hL_w_1628 hK_w_1628 (by decide +kernel) rfl, pq_pre hK hN hP hD⟩ rfl rfl hl.1 rfl (lv_room (Nat.le_of_ble_eq_true rfl)) dX11_sinks_57 ⟨Nat.le_of_ble_eq_true rfl, Nat.le_of_ble_eq_true rfl⟩) hD hS hA (fun x_1629 σ1 μ1 H locs hw_1630 hP hD hS => ?_)
              obtain ⟨hu_1631, hfn_1634, hr_1633⟩ := hw_1630
              obtain ⟨hu_1631a, hu_1631b⟩ := Prod.mk.inj hu_1631
              rw [hu_1631a, hu_1631b] at hP hD
              replace hF := hF.trans (bn_n hfn_1634)
              have h_1636 : rg x_1629 0 1 := by rcases hr_1633 with ⟨q, -⟩ | ⟨q, -⟩ <;> rw [q] <;> exact ⟨by decide +kernel, by decide +kernel⟩
              have uh_1636 := h_1636.1
              have vh_1636 := h_1636.2
              refine lv_if_ne (tgt := 71) hx hb dX11_sinks_60 (by decide +kernel) (fun c_1637 => ?_) (fun c_1637 => ?_)
              · replace hF := hF.trans (if_neg c_1637)
                have tc_1642 : (x_1629).toInt ≠ 0 := fun q => c_1637 (Int32.toInt_inj.mp q)
                have h_1643 : rg x_1629 1 1 := rg_ne c_1637 h_1636 0 rfl (by decide +kernel)
                have uh_1643 := h_1643.1
                have vh_1643 := h_1643.2
                refine lv_aload_n hx hb dX11_sinks_71 rfl (lv_at hl 0 rfl) ?_
                refine pg_f (v := .ref this_trial) (C := RX11) (T := TX11) (N := 5) hx hb hts (tw_i inlX11) hown hK hP hL_this hK_this (by decide +kernel) rfl 2 (by decide +kernel) (hts _ (tw_c tw_18)) (pq_hv rfl hR_this_trial) dX11_sinks_72 ?_
                refine lv_dup hx hb dX11_sinks_75 rfl ?_
                refine pg_f (v := .int (I_1618 320 this_trial)) (C := RX10) (T := TX10) (N := 13) hx hb hts (tw_i inlX10) hown hK hP hL_this_trial hK_this_trial (by decide +kernel) rfl 0 (by decide +kernel) (hts _ (tw_c tw_209)) rfl dX11_sinks_76 ?_
                have h_1644 : rg (I_1618 320 this_trial) 0 600 := GX.rI hG 320 rfl
                have uh_1644 := h_1644.1
                have vh_1644 := h_1644.2
                replace hF := hF.trans (ap_n (vI_e (f := 320) hO_this_trial (by decide +kernel)))
                refine lv_iconst (v := 1) hx hb dX11_sinks_79 (by decide +kernel) ?_
                refine lv_iadd hx hb dX11_sinks_80 ?_
                refine lv_topi (fun x_1646 ex_1646 => ?_)
                replace hF := hF.trans (ap_n ex_1646)
                have h_1647 : rg x_1646 1 601 := rg_of_eq ex_1646 (rg_add h_1644 (rg_k (1 : Int32) 1 rfl) (by decide +kernel))
                have uh_1647 := h_1647.1
                have vh_1647 := h_1647.2
                have tx_1646 : (x_1646).toInt = (I_1618 320 this_trial).toInt + 1 := by rw [ex_1646]; exact i_add_rg (a2 := (I_1618 320 this_trial).toInt) (b2 := 1) rfl rfl h_1644 (rg_k (1 : Int32) 1 rfl) (by decide +kernel)
                refine pp_i (v := x_1646) (ty := .int) (C := RX10) (T := TX10) (N := 13) hx hb hts (tw_i inlX10) tyX10 tyX10_ok nmX10 hown hK hP hD hS hL_this_trial hK_this_trial (by decide +kernel) rfl 0 320 (by decide +kernel) (hts _ (tw_c tw_209)) rfl (tyX10_ok 0 (by decide +kernel)) rfl rfl (Nat.le_of_ble_eq_true rfl) (ps_320 _ _ _ _ _) dX11_sinks_81 (fun I_1648 H locs eI_1648 hP hD hS => ?_)
                replace hFr := fr_I (f := 320) hFr hO_this_trial (by decide +kernel) eI_1648
                replace hF := hF.trans (ap_n (vI_st (f := 320) hO_this_trial (by decide +kernel) eI_1648))
                have h_1649 : rg x_1646 1 600 := ⟨by omega, by omega⟩
                have uh_1649 := h_1649.1
                have vh_1649 := h_1649.2
                have hG := GX.wI hG 320 rfl eI_1648 (rg_w h_1649 (by decide +kernel)) (by decide +kernel)
                have tt_1650 : (I_1648 320 this_trial).toInt = (x_1646).toInt := by rw [eI_1648, pq_us]
                obtain ⟨x_1651, ex_1651⟩ : ∃ y : Int32, y = x_1550 + Int32.ofInt 1 := ⟨_, rfl⟩
                replace hF := hF.trans (ap_n ex_1651)
                have h_1652 : rg x_1651 1 60 := rg_of_eq ex_1651 (rg_add h_1615 (rg_k (Int32.ofInt 1) 1 rfl) (by decide +kernel))
                have uh_1652 := h_1652.1
                have vh_1652 := h_1652.2
                have tx_1651 : (x_1651).toInt = (x_1550).toInt + 1 := by rw [ex_1651]; exact i_add_rg (a2 := (x_1550).toInt) (b2 := 1) rfl rfl h_1615 (rg_k (Int32.ofInt 1) 1 rfl) (by decide +kernel)
                refine lv_iinc (v := x_1651) (lv' := [(4, .int x_1651), (0, .ref this), (1, .int a0), (2, .int a1), (3, .int a2)]) hx hb dX11_sinks_84 hl (k := 4) rfl ex_1651.symm (by decide +kernel) rfl (fun ls hl => ?_)
                refine lv_goto (tgt := 35) hx hb dX11_sinks_87 (by decide +kernel) ?_
                exact ih_1602 x_1651 I_1648 J_1619 ri_1620 rj_1621 _ _ _ (rg_w h_1652 (by decide +kernel)) (by omega) (ms_up 1 hm_1599 ex_1651 rfl (by decide +kernel) h_1615 (by decide +kernel) (by decide +kernel)) hF hFr hG hP hD hS (lv_sub hl [1, 2, 3, 4, 0] rfl)
              · replace hF := hF.trans (if_pos c_1637)
                have tc_1653 : (x_1629).toInt = 0 := congrArg Int32.toInt c_1637
                have h_1654 : rg x_1629 0 0 := rg_and h_1636 (rg_of_eq c_1637 (rg_k (0 : Int32) 0 rfl)) (by decide +kernel)
                have uh_1654 := h_1654.1
                have vh_1654 := h_1654.2
                refine lv_aload_n hx hb dX11_sinks_63 rfl (lv_at hl 0 rfl) ?_
                refine pg_f (v := .ref this_trial) (C := RX11) (T := TX11) (N := 5) hx hb hts (tw_i inlX11) hown hK hP hL_this hK_this (by decide +kernel) rfl 2 (by decide +kernel) (hts _ (tw_c tw_18)) (pq_hv rfl hR_this_trial) dX11_sinks_64 ?_
                refine pg_f (v := .int (I_1618 320 this_trial)) (C := RX10) (T := TX10) (N := 13) hx hb hts (tw_i inlX10) hown hK hP hL_this_trial hK_this_trial (by decide +kernel) rfl 0 (by decide +kernel) (hts _ (tw_c tw_209)) rfl dX11_sinks_67 ?_
                have h_1655 : rg (I_1618 320 this_trial) 0 600 := GX.rI hG 320 rfl
                have uh_1655 := h_1655.1
                have vh_1655 := h_1655.2
                replace hF := hF.trans (ap_n (vI_e (f := 320) hO_this_trial (by decide +kernel)))
                subst hQ
                exact W.iret (v := (I_1618 320 this_trial)) hx hb hr (fun t1 ht hW => ⟨⟨(I_1618 320 this_trial), (σ, I_1618, J_1619, ri_1620, rj_1621, rq_866), rfl, ⟨I_1618, J_1619, ri_1620, rj_1621, rq_866, rfl, hG, (hF0.symm.trans hF), hFr, (rg_w h_1655 (by decide +kernel))⟩, by rw [ht]; exact hP, va_K.moved hW.alike hK, hD⟩, hS.F ht⟩) hS.2.2 dX11_sinks_70
        exact L_1601 _ (0 : Int32) I_862 J_863 ri_864 rj_865 _ _ _ (rg_w (rg_k (0 : Int32) 0 rfl) (by decide +kernel)) (by have k0 : (0 : Int32).toInt = 0 := rfl; omega) (Nat.lt_succ_self _) hF hFr hG hP hD hS (lv_sub hl [1, 2, 3, 4, 0] rfl)
      · replace hF := hF.trans (if_pos c_842)
        have f_1657 := (hr_838.resolve_left (fun q => absurd (q.1.symm.trans c_842) (by decide +kernel))).2
        have tc_1658 : (x_834).toInt = 0 := congrArg Int32.toInt c_842
        have h_1659 : rg x_834 0 0 := rg_and h_841 (rg_of_eq c_842 (rg_k (0 : Int32) 0 rfl)) (by decide +kernel)
        have uh_1659 := h_1659.1
        have vh_1659 := h_1659.2
        exact K_820 _ _ _ hF hFr hG hP hD hS (lv_sub hl [] rfl)
  exact go _ _ _ hP hD hS hl

set_option maxRecDepth 100000 in
def g_X11_cant_K84 (rq_33 : Nat → Nat → Option Nat) (I_719 : Nat → Int32) (J_720 : Nat → Int64) (ri_721 : Nat → Nat → Int32) (rj_722 : Nat → Nat → Int64) : Int32 × vM := (ap1 (I_719 323) fun (y_818 : Int32) => ((y_818), I_719, J_720, ri_721, rj_722, rq_33))
set_option maxRecDepth 100000 in
theorem g_X11_cant_K84_e {rq_33 : Nat → Nat → Option Nat} {I_719 : Nat → Int32} {J_720 : Nat → Int64} {ri_721 : Nat → Nat → Int32} {rj_722 : Nat → Nat → Int64} : g_X11_cant_K84 rq_33 I_719 J_720 ri_721 rj_722  = (ap1 (I_719 323) fun (y_818 : Int32) => ((y_818), I_719, J_720, ri_721, rj_722, rq_33)) := rfl
set_option maxRecDepth 100000 in
def g_X11_cant_L34 (a0 : Int32) (a1 : Int32) (tI : Nat → Nat → Int32) (tR : Nat → Nat → Nat → Int32) (rq_33 : Nat → Nat → Option Nat) : Nat → (Int32) → (Nat → Int32) → (Nat → Int64) → (Nat → Nat → Int32) → (Nat → Nat → Int64) → Int32 × vM
  | 0, x_718, I_719, J_720, ri_721, rj_722 => ((0 : Int32), I_719, J_720, ri_721, rj_722, rq_33)
  | n_768 + 1, x_718, I_719, J_720, ri_721, rj_722 => (if a1 ≤ x_718 then (g_X11_cant_K84 rq_33 I_719 J_720 ri_721 rj_722 ) else (ap1 (I_719 323) fun (y_828 : Int32) => (if (y_828) = (-1 : Int32) then (bnV (g_X10_nature a0 I_719 J_720 ri_721 rj_722 rq_33) fun (I_838 : Nat → Int32) (J_839 : Nat → Int64) (ri_840 : Nat → Nat → Int32) (rj_841 : Nat → Nat → Int64) (_ : Nat → Nat → Option Nat) => (bnV (g_X10_reckon tI tR I_838 J_839 ri_840 rj_841 rq_33) fun (I_850 : Nat → Int32) (_ : Nat → Int64) (ri_851 : Nat → Nat → Int32) (_ : Nat → Nat → Int64) (_ : Nat → Nat → Option Nat) => (ap1 (I_850 320) fun (y_859 : Int32) => (ap1 ((y_859) + (1 : Int32)) fun (x_860 : Int32) => (ap1 (va_up I_850 320 x_860) fun (I_862 : Nat → Int32) => (ap1 (x_718 + Int32.ofInt 1) fun (x_865 : Int32) => ((g_X11_cant_L34 a0 a1 tI tR rq_33 n_768) x_865 I_862 J_839 ri_851 rj_841))))))) else (g_X11_cant_K84 rq_33 I_719 J_720 ri_721 rj_722 ))))
set_option maxRecDepth 100000 in
theorem g_X11_cant_L34_e {a0 : Int32} {a1 : Int32} {tI : Nat → Nat → Int32} {tR : Nat → Nat → Nat → Int32} {rq_33 : Nat → Nat → Option Nat} {n_768 : Nat} {x_718 : Int32} {I_719 : Nat → Int32} {J_720 : Nat → Int64} {ri_721 : Nat → Nat → Int32} {rj_722 : Nat → Nat → Int64} : g_X11_cant_L34 a0 a1 tI tR rq_33 (n_768 + 1) x_718 I_719 J_720 ri_721 rj_722 = (if a1 ≤ x_718 then (g_X11_cant_K84 rq_33 I_719 J_720 ri_721 rj_722 ) else (ap1 (I_719 323) fun (y_828 : Int32) => (if (y_828) = (-1 : Int32) then (bnV (g_X10_nature a0 I_719 J_720 ri_721 rj_722 rq_33) fun (I_838 : Nat → Int32) (J_839 : Nat → Int64) (ri_840 : Nat → Nat → Int32) (rj_841 : Nat → Nat → Int64) (_ : Nat → Nat → Option Nat) => (bnV (g_X10_reckon tI tR I_838 J_839 ri_840 rj_841 rq_33) fun (I_850 : Nat → Int32) (_ : Nat → Int64) (ri_851 : Nat → Nat → Int32) (_ : Nat → Nat → Int64) (_ : Nat → Nat → Option Nat) => (ap1 (I_850 320) fun (y_859 : Int32) => (ap1 ((y_859) + (1 : Int32)) fun (x_860 : Int32) => (ap1 (va_up I_850 320 x_860) fun (I_862 : Nat → Int32) => (ap1 (x_718 + Int32.ofInt 1) fun (x_865 : Int32) => ((g_X11_cant_L34 a0 a1 tI tR rq_33 n_768) x_865 I_862 J_839 ri_851 rj_841))))))) else (g_X11_cant_K84 rq_33 I_719 J_720 ri_721 rj_722 )))) := rfl
set_option maxRecDepth 100000 in
def g_X11_cant (nI : Nat → Int32) (nJ : Nat → Int64) (nR : Nat → Nat → Int32) (nL : Nat → Nat → Int64) (nQ : Nat → Nat → Option Nat) (tI : Nat → Nat → Int32) (tR : Nat → Nat → Nat → Int32) (a0 : Int32) (a1 : Int32) (I : Nat → Int32) (J : Nat → Int64) (ri : Nat → Nat → Int32) (rj : Nat → Nat → Int64) (rq : Nat → Nat → Option Nat) : Int32 × vM := (bnI (g_X11_canGoBy a0 a1 (60 : Int32) nI nJ nR nL nQ) fun (x_1 : Int32) (_ : Nat → Int32) (_ : Nat → Int64) (_ : Nat → Nat → Int32) (_ : Nat → Nat → Int64) (_ : Nat → Nat → Option Nat) => (if x_1 = (0 : Int32) then ((-1 : Int32), I, J, ri, rj, rq) else (bnV (g_X10_copyFrom nI nJ nR nL nQ I J ri rj rq) fun (I_29 : Nat → Int32) (J_30 : Nat → Int64) (ri_31 : Nat → Nat → Int32) (rj_32 : Nat → Nat → Int64) (rq_33 : Nat → Nat → Option Nat) => (ap1 (va_up I_29 323 (-1 : Int32)) fun (I_41 : Nat → Int32) => (g_X11_cant_L34 a0 a1 tI tR rq_33 ((60 - ((0 : Int32)).toInt).toNat + 1) (0 : Int32) I_41 J_30 ri_31 rj_32)))))
set_option maxRecDepth 100000 in
theorem g_X11_cant_e {nI : Nat → Int32} {nJ : Nat → Int64} {nR : Nat → Nat → Int32} {nL : Nat → Nat → Int64} {nQ : Nat → Nat → Option Nat} {tI : Nat → Nat → Int32} {tR : Nat → Nat → Nat → Int32} {a0 : Int32} {a1 : Int32} {I : Nat → Int32} {J : Nat → Int64} {ri : Nat → Nat → Int32} {rj : Nat → Nat → Int64} {rq : Nat → Nat → Option Nat} : g_X11_cant nI nJ nR nL nQ tI tR a0 a1 I J ri rj rq = (bnI (g_X11_canGoBy a0 a1 (60 : Int32) nI nJ nR nL nQ) fun (x_1 : Int32) (_ : Nat → Int32) (_ : Nat → Int64) (_ : Nat → Nat → Int32) (_ : Nat → Nat → Int64) (_ : Nat → Nat → Option Nat) => (if x_1 = (0 : Int32) then ((-1 : Int32), I, J, ri, rj, rq) else (bnV (g_X10_copyFrom nI nJ nR nL nQ I J ri rj rq) fun (I_29 : Nat → Int32) (J_30 : Nat → Int64) (ri_31 : Nat → Nat → Int32) (rj_32 : Nat → Nat → Int64) (rq_33 : Nat → Nat → Option Nat) => (ap1 (va_up I_29 323 (-1 : Int32)) fun (I_41 : Nat → Int32) => (g_X11_cant_L34 a0 a1 tI tR rq_33 ((60 - ((0 : Int32)).toInt).toNat + 1) (0 : Int32) I_41 J_30 ri_31 rj_32))))) := rfl
set_option maxHeartbeats 4000000 in
set_option maxRecDepth 100000 in
theorem s_X11_cant (l : Launch) (D : va_G) (t : pq_T) (σ : pq_S) (I : Nat → Nat → Int32) (J : Nat → Nat → Int64) (ri : Nat → Nat → Int32) (rj : Nat → Nat → Int64) (rq : Nat → Nat → Option Nat) (sz : Nat) (tg : Nat → Nat) (hSH : SH σ tg) (hG0 : GS tg σ I ri rq) (this : Nat) (a0 : Int32) (a1 : Int32) (hL_this : this ∈ σ.1) (hK_this : σ.2.1 this = 11) (this_now : Nat) (hR_this_now : σ.2.2.1 352 this = some this_now) (hL_this_now : this_now ∈ σ.1) (hK_this_now : σ.2.1 this_now = 10) (this_trial : Nat) (hR_this_trial : σ.2.2.1 354 this = some this_trial) (hL_this_trial : this_trial ∈ σ.1) (hK_this_trial : σ.2.1 this_trial = 10) (hap : AP 10 tg σ this_trial this_now) : MetI l yX11_cant (wa yX11_cant cX11_cant 4 (some .int)) ({ frames := 5, cells := 0, slots := 0, locals := 144 }) [.ref this, .int a0, .int a1] D t σ (I, J, ri, rj, rq) sz 0 0 (fun (r : Int32) (u : pq_S × pq_M) => ∃ I' : Nat → Nat → Int32, ∃ J' : Nat → Nat → Int64, ∃ ri' : Nat → Nat → Int32, ∃ rj' : Nat → Nat → Int64, ∃ rq' : Nat → Nat → Option Nat, u = (σ, I', J', ri', rj', rq') ∧ GX [320, 224, 1225, 1226, 1227, 1228, 1229, 1230, 1231, 1232, 1233, 234, 235, 236, 64, 65, 1069, 1070, 1073, 1074, 1075, 1288, 1079, 0, 1005, 10, 96, 98, 32, 1033, 1034] tg σ I ri rj I' ri' rj' rq' ∧ g_X11_cant (vI 10 σ this_now I) (vJ 10 σ this_now J) (vR 10 σ this_now ri) (vL 10 σ this_now rj) (vQ 10 σ this_now rq) (tI σ I) (tR σ ri) a0 a1 (vI 10 σ this_trial I) (vJ 10 σ this_trial J) (vR 10 σ this_trial ri) (vL 10 σ this_trial rj) (vQ 10 σ this_trial rq) = (r, (vI 10 σ this_trial I'), (vJ 10 σ this_trial J'), (vR 10 σ this_trial ri'), (vL 10 σ this_trial rj'), (vQ 10 σ this_trial rq')) ∧ FR 10 tg σ this_trial (I, J, ri, rj, rq) (I', J', ri', rj', rq')) := by
  refine Met.ofW (cc := cX11_cant) (maxL := 4) (ret := (some .int)) (by decide +kernel) rfl ?_
  intro p e s m args below meth c s₁ B hml hv
  obtain ⟨rfl, hsz, hP, hK, hD0, hN⟩ := hv
  have hx := B.exec
  have hb := B.bytes
  have hr := B.returns
  have hts := atoms_spec (ws := (wa yX11_cant cX11_cant 4 (some .int))) B.pre
  have hown : s.vm.findClass RX11 = some m.cls := findClass_of_methodNamed B.named
  have hlocks := B.notSynchronized
  subst hsz
  have hD : va_D (pq_B t σ (I, J, ri, rj, rq) s.heap.size) (pq_P t σ (I, J, ri, rj, rq)) := hD0.self
  generalize hAe : pq_B t σ (I, J, ri, rj, rq) s.heap.size = A at hD ⊢
  have hA : ∀ q : Nat, s.heap.size ≤ q → A q := fun q h => by rw [← hAe]; exact Or.inr h
  have hS : va_S A s.heap s.heap [] := va_S.rf
  have hG : GX [320, 224, 1225, 1226, 1227, 1228, 1229, 1230, 1231, 1232, 1233, 234, 235, 236, 64, 65, 1069, 1070, 1073, 1074, 1075, 1288, 1079, 0, 1005, 10, 96, 98, 32, 1033, 1034] tg σ I ri rj I ri rj rq := ⟨hG0, fun _ _ _ => rfl, fun _ _ _ _ _ => rfl, fun _ _ _ _ _ => rfl⟩
  have hl := lv_entry ([.ref this, .int a0, .int a1]) (n := 4) (Nat.le_of_ble_eq_true rfl)
  rw [lg_entry_eq]
  generalize (lg_sl ([.ref this, .int a0, .int a1]) ++ List.replicate (4 - (lg_sl ([.ref this, .int a0, .int a1])).length) Slot.unset).toArray = ls at hl ⊢
  have hl : lv_has ls 4 [(0, .ref this), (1, .int a0), (2, .int a1)] := hl
  refine q_gen (fun Q hQ => ?_)
  have go : ∀ (H : Heap) (locs : List Loc) (ls : Array Slot), va_P D vwCl (pq_P t σ (I, J, ri, rj, rq)) H → va_D A (pq_P t σ (I, J, ri, rj, rq)) → va_S A s.heap H locs → lv_has ls 4 [(0, .ref this), (1, .int a0), (2, .int a1)] → W p l e ({ frames := 5, cells := 0, slots := 0, locals := 144 } : Room) s m (List.toArray ([.ref this, .int a0, .int a1] : List Value)) below meth c H locs 0 0 Q (F0 m 0 ls []) := by
    intro H locs ls hP hD hS hl
    have hVT : VT 10 σ tg this_trial := vt_10 hSH hL_this_trial hK_this_trial
    have hFr : FR 10 tg σ this_trial (I, J, ri, rj, rq) (I, J, ri, rj, rq) := fr_rf
    have hO_this_now : this_now = vo σ 10 this_now := rfl
    have hO_this_trial : this_trial = vo σ 10 this_trial := rfl
    obtain ⟨F, hF0⟩ : ∃ F, F = g_X11_cant (vI 10 σ this_now I) (vJ 10 σ this_now J) (vR 10 σ this_now ri) (vL 10 σ this_now rj) (vQ 10 σ this_now rq) (tI σ I) (tR σ ri) a0 a1 (vI 10 σ this_trial I) (vJ 10 σ this_trial J) (vR 10 σ this_trial ri) (vL 10 σ this_trial rj) (vQ 10 σ this_trial rq) := ⟨_, rfl⟩
    have hF := hF0.trans g_X11_cant_e
    refine lv_aload_n hx hb dX11_cant_0 rfl (lv_at hl 0 rfl) ?_
    refine lv_iload_n hx hb dX11_cant_1 rfl (lv_at hl 1 rfl) ?_
    refine lv_iload_n hx hb dX11_cant_2 rfl (lv_at hl 2 rfl) ?_
    refine lv_bipush (v := 60) hx hb dX11_cant_3 (by decide +kernel) ?_
    refine pk_i (va_runV (As := [.int a0, .int a1, .int 60]) (rest := []) ⟨hx, hb, hml, hown, hts⟩ (s_X11_canGoBy l D t σ I J ri rj rq H.size tg hSH hG.1 this a0 a1 (60 : Int32) hL_this hK_this (rg_w (rg_k (60 : Int32) 60 rfl) (by decide +kernel)) this_now hR_this_now hL_this_now hK_this_now) (cwV 3 hts (tw_V tw_1035 tw_1036 tw_1037 tw_2 tw_1038) rfl rfl rfl cv_yX11_canGoBy_3 ⟨Nat.le_of_ble_eq_true rfl, Nat.le_of_ble_eq_true rfl⟩) ⟨pq_blind, pq_recv hK hP hL_this hK_this (by decide +kernel) rfl, pq_pre hK hN hP hD⟩ rfl rfl hl.1 rfl (lv_room (Nat.le_of_ble_eq_true rfl)) dX11_cant_5 ⟨Nat.le_of_ble_eq_true rfl, Nat.le_of_ble_eq_true rfl⟩) hD hS hA (fun x_1 σ1 μ1 H locs hw_2 hP hD hS => ?_)
    obtain ⟨hu_3, hfn_6, hr_5⟩ := hw_2
    obtain ⟨hu_3a, hu_3b⟩ := Prod.mk.inj hu_3
    rw [hu_3a, hu_3b] at hP hD
    rw [fr_cI hFr hap, fr_cJ hFr hap, fr_cR hFr hap, fr_cL hFr hap, fr_cQ hFr hap] at hfn_6
    replace hF := hF.trans (bn_n hfn_6)
    have h_8 : rg x_1 0 1 := by rcases hr_5 with ⟨q, -⟩ | ⟨q, -⟩ <;> rw [q] <;> exact ⟨by decide +kernel, by decide +kernel⟩
    have uh_8 := h_8.1
    have vh_8 := h_8.2
    refine lv_if_ne (tgt := 13) hx hb dX11_cant_8 (by decide +kernel) (fun c_9 => ?_) (fun c_9 => ?_)
    · replace hF := hF.trans (if_neg c_9)
      obtain ⟨f_20, f_21, f_22, f_23⟩ := (hr_5.resolve_right (fun q => c_9 q.1)).2
      have tc_24 : (a1).toInt ≤ 60 := Int32.le_iff_toInt_le.mp f_22
      have tc_25 : (x_1).toInt ≠ 0 := fun q => c_9 (Int32.toInt_inj.mp q)
      have h_26 : rg x_1 1 1 := rg_ne c_9 h_8 0 rfl (by decide +kernel)
      have uh_26 := h_26.1
      have vh_26 := h_26.2
      refine lv_aload_n hx hb dX11_cant_13 rfl (lv_at hl 0 rfl) ?_
      refine pg_f (v := .ref this_trial) (C := RX11) (T := TX11) (N := 5) hx hb hts (tw_i inlX11) hown hK hP hL_this hK_this (by decide +kernel) rfl 2 (by decide +kernel) (hts _ (tw_c tw_18)) (pq_hv rfl hR_this_trial) dX11_cant_14 ?_
      refine lv_aload_n hx hb dX11_cant_17 rfl (lv_at hl 0 rfl) ?_
      refine pg_f (v := .ref this_now) (C := RX11) (T := TX11) (N := 5) hx hb hts (tw_i inlX11) hown hK hP hL_this hK_this (by decide +kernel) rfl 0 (by decide +kernel) (hts _ (tw_c tw_16)) (pq_hv rfl hR_this_now) dX11_cant_18 ?_
      refine pk_v (va_runV (As := [.ref this_now]) (rest := []) ⟨hx, hb, hml, hown, hts⟩ (s_X10_copyFrom l D t σ I J ri rj rq H.size tg hSH hG.1 this_trial this_now hL_this_trial hK_this_trial hL_this_now hK_this_now hap) (cwV 1 hts (tw_V tw_1362 tw_1363 tw_1364 tw_15 tw_1365) rfl rfl rfl cv_yX10_copyFrom_1 ⟨Nat.le_of_ble_eq_true rfl, Nat.le_of_ble_eq_true rfl⟩) ⟨pq_blind, pq_recv hK hP hL_this_trial hK_this_trial (by decide +kernel) rfl, pq_pre hK hN hP hD⟩ rfl rfl hl.1 rfl (lv_room (Nat.le_of_ble_eq_true rfl)) dX11_cant_21 ⟨Nat.le_of_ble_eq_true rfl, Nat.le_of_ble_eq_true rfl⟩) hD hS hA (fun σ1 μ1 H locs hw_28 hP hD hS => ?_)
      obtain ⟨I_29, J_30, ri_31, rj_32, rq_33, hu_34, hg_35, hp_37, hfn_38, hfr_39⟩ := hw_28
      obtain ⟨hu_34a, hu_34b⟩ := Prod.mk.inj hu_34
      rw [hu_34a, hu_34b] at hP hD
      replace hF := hF.trans (bv_n hfn_38)
      replace hFr := fr_tr hFr hfr_39
      have tt_40 : (I_29 320 this_trial).toInt = (I 320 this_now).toInt := congrArg Int32.toInt hp_37
      have hG := GX.tr hG hg_35 (by decide +kernel)
      refine lv_aload_n hx hb dX11_cant_24 rfl (lv_at hl 0 rfl) ?_
      refine pg_f (v := .ref this_trial) (C := RX11) (T := TX11) (N := 5) hx hb hts (tw_i inlX11) hown hK hP hL_this hK_this (by decide +kernel) rfl 2 (by decide +kernel) (hts _ (tw_c tw_18)) (pq_hv rfl hR_this_trial) dX11_cant_25 ?_
      refine lv_iconst (v := (-1)) hx hb dX11_cant_28 (by decide +kernel) ?_
      refine pp_i (v := (-1)) (ty := .int) (C := RX10) (T := TX10) (N := 13) hx hb hts (tw_i inlX10) tyX10 tyX10_ok nmX10 hown hK hP hD hS hL_this_trial hK_this_trial (by decide +kernel) rfl 3 323 (by decide +kernel) (hts _ (tw_c tw_1405)) rfl (tyX10_ok 3 (by decide +kernel)) rfl rfl (Nat.le_of_ble_eq_true rfl) (ps_323 _ _ _ _ _) dX11_cant_29 (fun I_41 H locs eI_41 hP hD hS => ?_)
      replace hFr := fr_I (f := 323) hFr hO_this_trial (by decide +kernel) eI_41
      replace hF := hF.trans (ap_n (vI_st (f := 323) hO_this_trial (by decide +kernel) eI_41))
      have hG := GX.wI hG 323 rfl eI_41 (rg_w (rg_k (-1 : Int32) (-1) rfl) (by decide +kernel)) (by decide +kernel)
      have tt_42 : (I_41 320 this_trial).toInt = (I_29 320 this_trial).toInt := by rw [eI_41, pq_uf _ _ _ (by decide +kernel)]
      refine lv_iconst (v := 0) hx hb dX11_cant_32 (by decide +kernel) ?_
      refine lv_istore_n (lv' := [(3, .int 0), (0, .ref this), (1, .int a0), (2, .int a1)]) hx hb dX11_cant_33 rfl hl (by decide +kernel) rfl (fun ls hl => ?_)
      have L_769 : ∀ (n_768 : Nat) (x_718 : Int32) (I_719 : Nat → Nat → Int32) (J_720 : Nat → Nat → Int64) (ri_721 : Nat → Nat → Int32) (rj_722 : Nat → Nat → Int64) (H : Heap) (locs : List Loc) (ls : Array Slot), rg x_718 0 60 → ((I_719 320 this_trial).toInt = (I 320 this_now).toInt + (x_718).toInt) → (60 - (x_718).toInt).toNat < n_768 → F = g_X11_cant_L34 a0 a1 (tI σ I) (tR σ ri) (vQ 10 σ this_trial rq_33) n_768 x_718 (vI 10 σ this_trial I_719) (vJ 10 σ this_trial J_720) (vR 10 σ this_trial ri_721) (vL 10 σ this_trial rj_722) → FR 10 tg σ this_trial (I, J, ri, rj, rq) (I_719, J_720, ri_721, rj_722, rq_33) → GX [320, 224, 1225, 1226, 1227, 1228, 1229, 1230, 1231, 1232, 1233, 234, 235, 236, 64, 65, 1069, 1070, 1073, 1074, 1075, 1288, 1079, 0, 1005, 10, 96, 98, 32, 1033, 1034] tg σ I ri rj I_719 ri_721 rj_722 rq_33 → va_P D vwCl (pq_P t σ (I_719, J_720, ri_721, rj_722, rq_33)) H → va_D A (pq_P t σ (I_719, J_720, ri_721, rj_722, rq_33)) → va_S A s.heap H locs → lv_has ls 4 [(0, .ref this), (1, .int a0), (2, .int a1), (3, .int x_718)] → W p l e ({ frames := 5, cells := 0, slots := 0, locals := 144 } : Room) s m (List.toArray ([.ref this, .int a0, .int a1] : List Value)) below meth c H locs 0 0 Q (F0 m 34 ls []) := by
        intro n_768
        induction n_768 with
        | zero => intro x_718 I_719 J_720 ri_721 rj_722 H locs ls h_773 hrel_774 hm_767 hF hFr hG hP hD hS hl; exact absurd hm_767 (Nat.not_lt_zero _)
        | succ n_768 ih_770 =>
          intro x_718 I_719 J_720 ri_721 rj_722 H locs ls h_773 hrel_774 hm_767 hF hFr hG hP hD hS hl
          have uh_773 := h_773.1
          have vh_773 := h_773.2
          replace hF := hF.trans g_X11_cant_L34_e
          refine lv_iload_n hx hb dX11_cant_34 rfl (lv_at hl 3 rfl) ?_
          refine lv_iload_n hx hb dX11_cant_35 rfl (lv_at hl 2 rfl) ?_
          have K_817 : ∀  (H : Heap) (locs : List Loc) (ls : Array Slot), F = g_X11_cant_K84 (vQ 10 σ this_trial rq_33) (vI 10 σ this_trial I_719) (vJ 10 σ this_trial J_720) (vR 10 σ this_trial ri_721) (vL 10 σ this_trial rj_722)  → FR 10 tg σ this_trial (I, J, ri, rj, rq) (I_719, J_720, ri_721, rj_722, rq_33) → GX [320, 224, 1225, 1226, 1227, 1228, 1229, 1230, 1231, 1232, 1233, 234, 235, 236, 64, 65, 1069, 1070, 1073, 1074, 1075, 1288, 1079, 0, 1005, 10, 96, 98, 32, 1033, 1034] tg σ I ri rj I_719 ri_721 rj_722 rq_33 → va_P D vwCl (pq_P t σ (I_719, J_720, ri_721, rj_722, rq_33)) H → va_D A (pq_P t σ (I_719, J_720, ri_721, rj_722, rq_33)) → va_S A s.heap H locs → lv_has ls 4 [(0, .ref this)] → W p l e ({ frames := 5, cells := 0, slots := 0, locals := 144 } : Room) s m (List.toArray ([.ref this, .int a0, .int a1] : List Value)) below meth c H locs 0 0 Q (F0 m 84 ls []) := by
            intro H locs ls hF hFr hG hP hD hS hl
            replace hF := hF.trans g_X11_cant_K84_e
            refine lv_aload_n hx hb dX11_cant_84 rfl (lv_at hl 0 rfl) ?_
            refine pg_f (v := .ref this_trial) (C := RX11) (T := TX11) (N := 5) hx hb hts (tw_i inlX11) hown hK hP hL_this hK_this (by decide +kernel) rfl 2 (by decide +kernel) (hts _ (tw_c tw_18)) (pq_hv rfl hR_this_trial) dX11_cant_85 ?_
            refine pg_f (v := .int (I_719 323 this_trial)) (C := RX10) (T := TX10) (N := 13) hx hb hts (tw_i inlX10) hown hK hP hL_this_trial hK_this_trial (by decide +kernel) rfl 3 (by decide +kernel) (hts _ (tw_c tw_1405)) rfl dX11_cant_88 ?_
            replace hF := hF.trans (ap_n (vI_e (f := 323) hO_this_trial (by decide +kernel)))
            subst hQ
            exact W.iret (v := (I_719 323 this_trial)) hx hb hr (fun t1 ht hW => ⟨⟨(I_719 323 this_trial), (σ, I_719, J_720, ri_721, rj_722, rq_33), rfl, ⟨I_719, J_720, ri_721, rj_722, rq_33, rfl, hG, (hF0.symm.trans hF), hFr⟩, by rw [ht]; exact hP, va_K.moved hW.alike hK, hD⟩, hS.F ht⟩) hS.2.2 dX11_cant_91
          refine lv_icmp_ge (tgt := 84) hx hb dX11_cant_36 (by decide +kernel) (fun c_819 => ?_) (fun c_819 => ?_)
          · replace hF := hF.trans (if_pos c_819)
            have tc_824 : (a1).toInt ≤ (x_718).toInt := Int32.le_iff_toInt_le.mp c_819
            have h_825 : rg x_718 1 60 := rg_le2 c_819 f_21 h_773 (by decide +kernel)
            have uh_825 := h_825.1
            have vh_825 := h_825.2
            exact K_817 _ _ _ hF hFr hG hP hD hS (lv_sub hl [0] rfl)
          · replace hF := hF.trans (if_neg c_819)
            have tc_826 : (x_718).toInt < (a1).toInt := Int32.lt_iff_toInt_lt.mp (nle c_819)
            have h_827 : rg x_718 0 59 := rg_lt1 (nle c_819) h_773 f_21 (by decide +kernel)
            have uh_827 := h_827.1
            have vh_827 := h_827.2
            refine lv_aload_n hx hb dX11_cant_39 rfl (lv_at hl 0 rfl) ?_
            refine pg_f (v := .ref this_trial) (C := RX11) (T := TX11) (N := 5) hx hb hts (tw_i inlX11) hown hK hP hL_this hK_this (by decide +kernel) rfl 2 (by decide +kernel) (hts _ (tw_c tw_18)) (pq_hv rfl hR_this_trial) dX11_cant_40 ?_
            refine pg_f (v := .int (I_719 323 this_trial)) (C := RX10) (T := TX10) (N := 13) hx hb hts (tw_i inlX10) hown hK hP hL_this_trial hK_this_trial (by decide +kernel) rfl 3 (by decide +kernel) (hts _ (tw_c tw_1405)) rfl dX11_cant_43 ?_
            replace hF := hF.trans (ap_n (vI_e (f := 323) hO_this_trial (by decide +kernel)))
            refine lv_iconst (v := (-1)) hx hb dX11_cant_46 (by decide +kernel) ?_
            refine lv_icmp_ne (tgt := 84) hx hb dX11_cant_47 (by decide +kernel) (fun c_829 => ?_) (fun c_829 => ?_)
            · replace hF := hF.trans (if_neg c_829)
              have tc_833 : (I_719 323 this_trial).toInt ≠ (-1) := fun q => c_829 (Int32.toInt_inj.mp q)
              exact K_817 _ _ _ hF hFr hG hP hD hS (lv_sub hl [0] rfl)
            · replace hF := hF.trans (if_pos c_829)
              have tc_834 : (I_719 323 this_trial).toInt = (-1) := congrArg Int32.toInt c_829
              have h_835 : rg (I_719 323 this_trial) (-1) (-1) := rg_and (rg_full _) (rg_of_eq c_829 (rg_k (-1 : Int32) (-1) rfl)) (by decide +kernel)
              have uh_835 := h_835.1
              have vh_835 := h_835.2
              refine lv_aload_n hx hb dX11_cant_50 rfl (lv_at hl 0 rfl) ?_
              refine pg_f (v := .ref this_trial) (C := RX11) (T := TX11) (N := 5) hx hb hts (tw_i inlX11) hown hK hP hL_this hK_this (by decide +kernel) rfl 2 (by decide +kernel) (hts _ (tw_c tw_18)) (pq_hv rfl hR_this_trial) dX11_cant_51 ?_
              refine lv_iload_n hx hb dX11_cant_54 rfl (lv_at hl 1 rfl) ?_
              refine pk_v (va_runV (As := [.int a0]) (rest := []) ⟨hx, hb, hml, hown, hts⟩ (s_X10_nature l D t σ I_719 J_720 ri_721 rj_722 rq_33 H.size tg hSH hG.1 this_trial a0 hL_this_trial hK_this_trial) (cwV 1 hts (tw_V tw_1395 tw_1048 tw_1049 tw_15 tw_1050) rfl rfl rfl cv_yX10_nature_1 ⟨Nat.le_of_ble_eq_true rfl, Nat.le_of_ble_eq_true rfl⟩) ⟨pq_blind, pq_recv hK hP hL_this_trial hK_this_trial (by decide +kernel) rfl, pq_pre hK hN hP hD⟩ rfl rfl hl.1 rfl (lv_room (Nat.le_of_ble_eq_true rfl)) dX11_cant_55 ⟨Nat.le_of_ble_eq_true rfl, Nat.le_of_ble_eq_true rfl⟩) hD hS hA (fun σ1 μ1 H locs hw_837 hP hD hS => ?_)
              obtain ⟨I_838, J_839, ri_840, rj_841, hu_842, hg_843, hfn_845, hfr_846⟩ := hw_837
              obtain ⟨hu_842a, hu_842b⟩ := Prod.mk.inj hu_842
              rw [hu_842a, hu_842b] at hP hD
              replace hF := hF.trans (bv_n hfn_845)
              replace hFr := fr_tr hFr hfr_846
              have hG := GX.tr hG hg_843 (by decide +kernel)
              have tt_847 : (I_838 320 this_trial).toInt = (I_719 320 this_trial).toInt := by rw [hg_843.2.1 320 (by decide +kernel) (by decide +kernel)]
              refine lv_aload_n hx hb dX11_cant_58 rfl (lv_at hl 0 rfl) ?_
              refine pg_f (v := .ref this_trial) (C := RX11) (T := TX11) (N := 5) hx hb hts (tw_i inlX11) hown hK hP hL_this hK_this (by decide +kernel) rfl 2 (by decide +kernel) (hts _ (tw_c tw_18)) (pq_hv rfl hR_this_trial) dX11_cant_59 ?_
              refine pk_v (va_runV (As := []) (rest := []) ⟨hx, hb, hml, hown, hts⟩ (s_X10_reckon l D t σ I_838 J_839 ri_840 rj_841 rq_33 H.size tg hSH hG.1 this_trial hL_this_trial hK_this_trial) (cwV 0 hts (tw_V tw_1406 tw_1126 tw_1127 tw_15 tw_1128) rfl rfl rfl cv_yX10_reckon_0 ⟨Nat.le_of_ble_eq_true rfl, Nat.le_of_ble_eq_true rfl⟩) ⟨pq_blind, pq_recv hK hP hL_this_trial hK_this_trial (by decide +kernel) rfl, pq_pre hK hN hP hD⟩ rfl rfl hl.1 rfl (lv_room (Nat.le_of_ble_eq_true rfl)) dX11_cant_62 ⟨Nat.le_of_ble_eq_true rfl, Nat.le_of_ble_eq_true rfl⟩) hD hS hA (fun σ1 μ1 H locs hw_849 hP hD hS => ?_)
              obtain ⟨I_850, ri_851, hu_852, hg_853, hfn_855, hfr_856⟩ := hw_849
              obtain ⟨hu_852a, hu_852b⟩ := Prod.mk.inj hu_852
              rw [hu_852a, hu_852b] at hP hD
              rw [fr_tI hFr hVT, fr_tR hFr hVT] at hfn_855
              replace hF := hF.trans (bv_n hfn_855)
              replace hFr := fr_tr hFr hfr_856
              have hG := GX.tr hG hg_853 (by decide +kernel)
              have tt_857 : (I_850 320 this_trial).toInt = (I_838 320 this_trial).toInt := by rw [hg_853.2.1 320 (by decide +kernel) (by decide +kernel)]
              refine lv_aload_n hx hb dX11_cant_65 rfl (lv_at hl 0 rfl) ?_
              refine pg_f (v := .ref this_trial) (C := RX11) (T := TX11) (N := 5) hx hb hts (tw_i inlX11) hown hK hP hL_this hK_this (by decide +kernel) rfl 2 (by decide +kernel) (hts _ (tw_c tw_18)) (pq_hv rfl hR_this_trial) dX11_cant_66 ?_
              refine lv_dup hx hb dX11_cant_69 rfl ?_
              refine pg_f (v := .int (I_850 320 this_trial)) (C := RX10) (T := TX10) (N := 13) hx hb hts (tw_i inlX10) hown hK hP hL_this_trial hK_this_trial (by decide +kernel) rfl 0 (by decide +kernel) (hts _ (tw_c tw_209)) rfl dX11_cant_70 ?_
              have h_858 : rg (I_850 320 this_trial) 0 600 := GX.rI hG 320 rfl
              have uh_858 := h_858.1
              have vh_858 := h_858.2
              replace hF := hF.trans (ap_n (vI_e (f := 320) hO_this_trial (by decide +kernel)))
              refine lv_iconst (v := 1) hx hb dX11_cant_73 (by decide +kernel) ?_
              refine lv_iadd hx hb dX11_cant_74 ?_
              refine lv_topi (fun x_860 ex_860 => ?_)
              replace hF := hF.trans (ap_n ex_860)
              have h_861 : rg x_860 1 601 := rg_of_eq ex_860 (rg_add h_858 (rg_k (1 : Int32) 1 rfl) (by decide +kernel))
              have uh_861 := h_861.1
              have vh_861 := h_861.2
              have tx_860 : (x_860).toInt = (I_850 320 this_trial).toInt + 1 := by rw [ex_860]; exact i_add_rg (a2 := (I_850 320 this_trial).toInt) (b2 := 1) rfl rfl h_858 (rg_k (1 : Int32) 1 rfl) (by decide +kernel)
              refine pp_i (v := x_860) (ty := .int) (C := RX10) (T := TX10) (N := 13) hx hb hts (tw_i inlX10) tyX10 tyX10_ok nmX10 hown hK hP hD hS hL_this_trial hK_this_trial (by decide +kernel) rfl 0 320 (by decide +kernel) (hts _ (tw_c tw_209)) rfl (tyX10_ok 0 (by decide +kernel)) rfl rfl (Nat.le_of_ble_eq_true rfl) (ps_320 _ _ _ _ _) dX11_cant_75 (fun I_862 H locs eI_862 hP hD hS => ?_)
              replace hFr := fr_I (f := 320) hFr hO_this_trial (by decide +kernel) eI_862
              replace hF := hF.trans (ap_n (vI_st (f := 320) hO_this_trial (by decide +kernel) eI_862))
              have h_863 : rg x_860 1 600 := ⟨by omega, by omega⟩
              have uh_863 := h_863.1
              have vh_863 := h_863.2
              have hG := GX.wI hG 320 rfl eI_862 (rg_w h_863 (by decide +kernel)) (by decide +kernel)
              have tt_864 : (I_862 320 this_trial).toInt = (x_860).toInt := by rw [eI_862, pq_us]
              obtain ⟨x_865, ex_865⟩ : ∃ y : Int32, y = x_718 + Int32.ofInt 1 := ⟨_, rfl⟩
              replace hF := hF.trans (ap_n ex_865)
              have h_866 : rg x_865 1 60 := rg_of_eq ex_865 (rg_add h_827 (rg_k (Int32.ofInt 1) 1 rfl) (by decide +kernel))
              have uh_866 := h_866.1
              have vh_866 := h_866.2
              have tx_865 : (x_865).toInt = (x_718).toInt + 1 := by rw [ex_865]; exact i_add_rg (a2 := (x_718).toInt) (b2 := 1) rfl rfl h_827 (rg_k (Int32.ofInt 1) 1 rfl) (by decide +kernel)
              refine lv_iinc (v := x_865) (lv' := [(3, .int x_865), (0, .ref this), (1, .int a0), (2, .int a1)]) hx hb dX11_cant_78 hl (k := 3) rfl ex_865.symm (by decide +kernel) rfl (fun ls hl => ?_)
              refine lv_goto (tgt := 34) hx hb dX11_cant_81 (by decide +kernel) ?_
              exact ih_770 x_865 I_862 J_839 ri_851 rj_841 _ _ _ (rg_w h_866 (by decide +kernel)) (by omega) (ms_up 1 hm_767 ex_865 rfl (by decide +kernel) h_827 (by decide +kernel) (by decide +kernel)) hF hFr hG hP hD hS (lv_sub hl [1, 2, 3, 0] rfl)
      exact L_769 _ (0 : Int32) I_41 J_30 ri_31 rj_32 _ _ _ (rg_w (rg_k (0 : Int32) 0 rfl) (by decide +kernel)) (by have k0 : (0 : Int32).toInt = 0 := rfl; omega) (Nat.lt_succ_self _) hF hFr hG hP hD hS (lv_sub hl [1, 2, 3, 0] rfl)
    · replace hF := hF.trans (if_pos c_9)
      have f_867 := (hr_5.resolve_left (fun q => absurd (q.1.symm.trans c_9) (by decide +kernel))).2
      have tc_868 : (x_1).toInt = 0 := congrArg Int32.toInt c_9
      have h_869 : rg x_1 0 0 := rg_and h_8 (rg_of_eq c_9 (rg_k (0 : Int32) 0 rfl)) (by decide +kernel)
      have uh_869 := h_869.1
      have vh_869 := h_869.2
      refine lv_iconst (v := (-1)) hx hb dX11_cant_11 (by decide +kernel) ?_
      subst hQ
      exact W.iret (v := (-1)) hx hb hr (fun t1 ht hW => ⟨⟨(-1), (σ, I, J, ri, rj, rq), rfl, ⟨I, J, ri, rj, rq, rfl, hG, (hF0.symm.trans hF), hFr⟩, by rw [ht]; exact hP, va_K.moved hW.alike hK, hD⟩, hS.F ht⟩) hS.2.2 dX11_cant_12
  exact go _ _ _ hP hD hS hl

set_option maxRecDepth 100000 in
def g_X11_keeps_K55 (I : Nat → Int32) (J : Nat → Int64) (ri : Nat → Nat → Int32) (rj : Nat → Nat → Int64) (rq : Nat → Nat → Option Nat) : Int32 × vM := ((-1000000 : Int32), I, J, ri, rj, rq)
set_option maxRecDepth 100000 in
theorem g_X11_keeps_K55_e {I : Nat → Int32} {J : Nat → Int64} {ri : Nat → Nat → Int32} {rj : Nat → Nat → Int64} {rq : Nat → Nat → Option Nat} : g_X11_keeps_K55 I J ri rj rq  = ((-1000000 : Int32), I, J, ri, rj, rq) := rfl
set_option maxRecDepth 100000 in
def g_X11_keeps_K33 (a0 : Int32) (a1 : Int32) (a3 : Int32) (I : Nat → Int32) (J : Nat → Int64) (ri : Nat → Nat → Int32) (rj : Nat → Nat → Int64) (rq : Nat → Nat → Option Nat) (nI : Nat → Int32) (nJ : Nat → Int64) (nR : Nat → Nat → Int32) (nL : Nat → Nat → Int64) (nQ : Nat → Nat → Option Nat) : Int32 × vM := (ap1 (nR 75 (a0).toNatClampNeg) fun (x_175 : Int32) => (if x_175 = (0 : Int32) then (g_X11_keeps_K55 I J ri rj rq ) else (bnV (g_X10_copyFrom nI nJ nR nL nQ I J ri rj rq) fun (I_180 : Nat → Int32) (J_181 : Nat → Int64) (ri_182 : Nat → Nat → Int32) (rj_183 : Nat → Nat → Int64) (rq_184 : Nat → Nat → Option Nat) => (bnI (g_X10_sandBehind a3 a1 I_180 J_181 ri_182 rj_183 rq_184) fun (x_191 : Int32) (I_193 : Nat → Int32) (_ : Nat → Int64) (ri_194 : Nat → Nat → Int32) (_ : Nat → Nat → Int64) (_ : Nat → Nat → Option Nat) => (bnV (g_X10_copyFrom nI nJ nR nL nQ I_193 J_181 ri_194 rj_183 rq_184) fun (I_202 : Nat → Int32) (J_203 : Nat → Int64) (ri_204 : Nat → Nat → Int32) (rj_205 : Nat → Nat → Int64) (rq_206 : Nat → Nat → Option Nat) => (ap1 (va_up ri_204 75 (upd (ri_204 75) (a0).toNatClampNeg (0 : Int32))) fun (r_215 : Nat → Nat → Int32) => (bnI (g_X10_sandBehind a3 a1 I_202 J_203 r_215 rj_205 rq_206) fun (x_216 : Int32) (I_218 : Nat → Int32) (_ : Nat → Int64) (ri_219 : Nat → Nat → Int32) (_ : Nat → Nat → Int64) (_ : Nat → Nat → Option Nat) => (ap1 (x_191 - x_216) fun (x_225 : Int32) => (x_225, I_218, J_203, ri_219, rj_205, rq_206)))))))))
set_option maxRecDepth 100000 in
theorem g_X11_keeps_K33_e {a0 : Int32} {a1 : Int32} {a3 : Int32} {I : Nat → Int32} {J : Nat → Int64} {ri : Nat → Nat → Int32} {rj : Nat → Nat → Int64} {rq : Nat → Nat → Option Nat} {nI : Nat → Int32} {nJ : Nat → Int64} {nR : Nat → Nat → Int32} {nL : Nat → Nat → Int64} {nQ : Nat → Nat → Option Nat} : g_X11_keeps_K33 a0 a1 a3 I J ri rj rq nI nJ nR nL nQ  = (ap1 (nR 75 (a0).toNatClampNeg) fun (x_175 : Int32) => (if x_175 = (0 : Int32) then (g_X11_keeps_K55 I J ri rj rq ) else (bnV (g_X10_copyFrom nI nJ nR nL nQ I J ri rj rq) fun (I_180 : Nat → Int32) (J_181 : Nat → Int64) (ri_182 : Nat → Nat → Int32) (rj_183 : Nat → Nat → Int64) (rq_184 : Nat → Nat → Option Nat) => (bnI (g_X10_sandBehind a3 a1 I_180 J_181 ri_182 rj_183 rq_184) fun (x_191 : Int32) (I_193 : Nat → Int32) (_ : Nat → Int64) (ri_194 : Nat → Nat → Int32) (_ : Nat → Nat → Int64) (_ : Nat → Nat → Option Nat) => (bnV (g_X10_copyFrom nI nJ nR nL nQ I_193 J_181 ri_194 rj_183 rq_184) fun (I_202 : Nat → Int32) (J_203 : Nat → Int64) (ri_204 : Nat → Nat → Int32) (rj_205 : Nat → Nat → Int64) (rq_206 : Nat → Nat → Option Nat) => (ap1 (va_up ri_204 75 (upd (ri_204 75) (a0).toNatClampNeg (0 : Int32))) fun (r_215 : Nat → Nat → Int32) => (bnI (g_X10_sandBehind a3 a1 I_202 J_203 r_215 rj_205 rq_206) fun (x_216 : Int32) (I_218 : Nat → Int32) (_ : Nat → Int64) (ri_219 : Nat → Nat → Int32) (_ : Nat → Nat → Int64) (_ : Nat → Nat → Option Nat) => (ap1 (x_191 - x_216) fun (x_225 : Int32) => (x_225, I_218, J_203, ri_219, rj_205, rq_206))))))))) := rfl
set_option maxRecDepth 100000 in
def g_X11_keeps_K55_2 (I : Nat → Int32) (J : Nat → Int64) (ri : Nat → Nat → Int32) (rj : Nat → Nat → Int64) (rq : Nat → Nat → Option Nat) : Int32 × vM := ((-1000000 : Int32), I, J, ri, rj, rq)
set_option maxRecDepth 100000 in
theorem g_X11_keeps_K55_2_e {I : Nat → Int32} {J : Nat → Int64} {ri : Nat → Nat → Int32} {rj : Nat → Nat → Int64} {rq : Nat → Nat → Option Nat} : g_X11_keeps_K55_2 I J ri rj rq  = ((-1000000 : Int32), I, J, ri, rj, rq) := rfl
set_option maxRecDepth 100000 in
def g_X11_keeps_K33_2 (I : Nat → Int32) (J : Nat → Int64) (ri : Nat → Nat → Int32) (rj : Nat → Nat → Int64) (rq : Nat → Nat → Option Nat) : Int32 × vM := (g_X11_keeps_K55_2 I J ri rj rq )
set_option maxRecDepth 100000 in
theorem g_X11_keeps_K33_2_e {I : Nat → Int32} {J : Nat → Int64} {ri : Nat → Nat → Int32} {rj : Nat → Nat → Int64} {rq : Nat → Nat → Option Nat} : g_X11_keeps_K33_2 I J ri rj rq  = (g_X11_keeps_K55_2 I J ri rj rq ) := rfl
set_option maxRecDepth 100000 in
def g_X11_keeps_K32 (I : Nat → Int32) (J : Nat → Int64) (ri : Nat → Nat → Int32) (rj : Nat → Nat → Int64) (rq : Nat → Nat → Option Nat) : Int32 × vM := (g_X11_keeps_K33_2 I J ri rj rq )
set_option maxRecDepth 100000 in
theorem g_X11_keeps_K32_e {I : Nat → Int32} {J : Nat → Int64} {ri : Nat → Nat → Int32} {rj : Nat → Nat → Int64} {rq : Nat → Nat → Option Nat} : g_X11_keeps_K32 I J ri rj rq  = (g_X11_keeps_K33_2 I J ri rj rq ) := rfl
set_option maxRecDepth 100000 in
def g_X11_keeps (nI : Nat → Int32) (nJ : Nat → Int64) (nR : Nat → Nat → Int32) (nL : Nat → Nat → Int64) (nQ : Nat → Nat → Option Nat) (a0 : Int32) (a1 : Int32) (a2 : Int32) (a3 : Int32) (I : Nat → Int32) (J : Nat → Int64) (ri : Nat → Nat → Int32) (rj : Nat → Nat → Int64) (rq : Nat → Nat → Option Nat) : Int32 × vM := (bnI (g_X11_isCell a0 nI nJ nR nL nQ) fun (x_1 : Int32) (_ : Nat → Int32) (_ : Nat → Int64) (_ : Nat → Nat → Int32) (_ : Nat → Nat → Int64) (_ : Nat → Nat → Option Nat) => (if x_1 = (0 : Int32) then (g_X11_keeps_K32 I J ri rj rq ) else (bnI (g_X11_isCell a1 nI nJ nR nL nQ) fun (x_241 : Int32) (_ : Nat → Int32) (_ : Nat → Int64) (_ : Nat → Nat → Int32) (_ : Nat → Nat → Int64) (_ : Nat → Nat → Option Nat) => (if x_241 = (0 : Int32) then (g_X11_keeps_K32 I J ri rj rq ) else (bnI (g_X11_canGoBy a2 a3 (60 : Int32) nI nJ nR nL nQ) fun (x_258 : Int32) (_ : Nat → Int32) (_ : Nat → Int64) (_ : Nat → Nat → Int32) (_ : Nat → Nat → Int64) (_ : Nat → Nat → Option Nat) => (if x_258 = (0 : Int32) then (g_X11_keeps_K32 I J ri rj rq ) else (g_X11_keeps_K33 a0 a1 a3 I J ri rj rq nI nJ nR nL nQ )))))))
set_option maxRecDepth 100000 in
theorem g_X11_keeps_e {nI : Nat → Int32} {nJ : Nat → Int64} {nR : Nat → Nat → Int32} {nL : Nat → Nat → Int64} {nQ : Nat → Nat → Option Nat} {a0 : Int32} {a1 : Int32} {a2 : Int32} {a3 : Int32} {I : Nat → Int32} {J : Nat → Int64} {ri : Nat → Nat → Int32} {rj : Nat → Nat → Int64} {rq : Nat → Nat → Option Nat} : g_X11_keeps nI nJ nR nL nQ a0 a1 a2 a3 I J ri rj rq = (bnI (g_X11_isCell a0 nI nJ nR nL nQ) fun (x_1 : Int32) (_ : Nat → Int32) (_ : Nat → Int64) (_ : Nat → Nat → Int32) (_ : Nat → Nat → Int64) (_ : Nat → Nat → Option Nat) => (if x_1 = (0 : Int32) then (g_X11_keeps_K32 I J ri rj rq ) else (bnI (g_X11_isCell a1 nI nJ nR nL nQ) fun (x_241 : Int32) (_ : Nat → Int32) (_ : Nat → Int64) (_ : Nat → Nat → Int32) (_ : Nat → Nat → Int64) (_ : Nat → Nat → Option Nat) => (if x_241 = (0 : Int32) then (g_X11_keeps_K32 I J ri rj rq ) else (bnI (g_X11_canGoBy a2 a3 (60 : Int32) nI nJ nR nL nQ) fun (x_258 : Int32) (_ : Nat → Int32) (_ : Nat → Int64) (_ : Nat → Nat → Int32) (_ : Nat → Nat → Int64) (_ : Nat → Nat → Option Nat) => (if x_258 = (0 : Int32) then (g_X11_keeps_K32 I J ri rj rq ) else (g_X11_keeps_K33 a0 a1 a3 I J ri rj rq nI nJ nR nL nQ ))))))) := rfl
set_option maxHeartbeats 4000000 in
set_option maxRecDepth 100000 in
theorem s_X11_keeps (l : Launch) (D : va_G) (t : pq_T) (σ : pq_S) (I : Nat → Nat → Int32) (J : Nat → Nat → Int64) (ri : Nat → Nat → Int32) (rj : Nat → Nat → Int64) (rq : Nat → Nat → Option Nat) (sz : Nat) (tg : Nat → Nat) (hSH : SH σ tg) (hG0 : GS tg σ I ri rq) (this : Nat) (a0 : Int32) (a1 : Int32) (a2 : Int32) (a3 : Int32) (hL_this : this ∈ σ.1) (hK_this : σ.2.1 this = 11) (this_now : Nat) (hR_this_now : σ.2.2.1 352 this = some this_now) (hL_this_now : this_now ∈ σ.1) (hK_this_now : σ.2.1 this_now = 10) (this_trial : Nat) (hR_this_trial : σ.2.2.1 354 this = some this_trial) (hL_this_trial : this_trial ∈ σ.1) (hK_this_trial : σ.2.1 this_trial = 10) (hap : AP 10 tg σ this_trial this_now) : MetI l yX11_keeps (wa yX11_keeps cX11_keeps 7 (some .int)) ({ frames := 5, cells := 0, slots := 0, locals := 144 }) [.ref this, .int a0, .int a1, .int a2, .int a3] D t σ (I, J, ri, rj, rq) sz 0 0 (fun (r : Int32) (u : pq_S × pq_M) => ∃ I' : Nat → Nat → Int32, ∃ J' : Nat → Nat → Int64, ∃ ri' : Nat → Nat → Int32, ∃ rj' : Nat → Nat → Int64, ∃ rq' : Nat → Nat → Option Nat, u = (σ, I', J', ri', rj', rq') ∧ GX [320, 224, 1225, 1226, 1227, 1228, 1229, 1230, 1231, 1232, 1233, 234, 235, 236, 64, 65, 1069, 1070, 1073, 1074, 1075, 1288, 1079, 0, 1005, 10, 96, 98, 32, 1033, 1034] tg σ I ri rj I' ri' rj' rq' ∧ g_X11_keeps (vI 10 σ this_now I) (vJ 10 σ this_now J) (vR 10 σ this_now ri) (vL 10 σ this_now rj) (vQ 10 σ this_now rq) a0 a1 a2 a3 (vI 10 σ this_trial I) (vJ 10 σ this_trial J) (vR 10 σ this_trial ri) (vL 10 σ this_trial rj) (vQ 10 σ this_trial rq) = (r, (vI 10 σ this_trial I'), (vJ 10 σ this_trial J'), (vR 10 σ this_trial ri'), (vL 10 σ this_trial rj'), (vQ 10 σ this_trial rq')) ∧ FR 10 tg σ this_trial (I, J, ri, rj, rq) (I', J', ri', rj', rq')) := by
  refine Met.ofW (cc := cX11_keeps) (maxL := 7) (ret := (some .int)) (by decide +kernel) rfl ?_
  intro p e s m args below meth c s₁ B hml hv
  obtain ⟨rfl, hsz, hP, hK, hD0, hN⟩ := hv
  have hx := B.exec
  have hb := B.bytes
  have hr := B.returns
  have hts := atoms_spec (ws := (wa yX11_keeps cX11_keeps 7 (some .int))) B.pre
  have hown : s.vm.findClass RX11 = some m.cls := findClass_of_methodNamed B.named
  have hlocks := B.notSynchronized
  subst hsz
  have hD : va_D (pq_B t σ (I, J, ri, rj, rq) s.heap.size) (pq_P t σ (I, J, ri, rj, rq)) := hD0.self
  generalize hAe : pq_B t σ (I, J, ri, rj, rq) s.heap.size = A at hD ⊢
  have hA : ∀ q : Nat, s.heap.size ≤ q → A q := fun q h => by rw [← hAe]; exact Or.inr h
  have hS : va_S A s.heap s.heap [] := va_S.rf
  have hG : GX [320, 224, 1225, 1226, 1227, 1228, 1229, 1230, 1231, 1232, 1233, 234, 235, 236, 64, 65, 1069, 1070, 1073, 1074, 1075, 1288, 1079, 0, 1005, 10, 96, 98, 32, 1033, 1034] tg σ I ri rj I ri rj rq := ⟨hG0, fun _ _ _ => rfl, fun _ _ _ _ _ => rfl, fun _ _ _ _ _ => rfl⟩
  have hl := lv_entry ([.ref this, .int a0, .int a1, .int a2, .int a3]) (n := 7) (Nat.le_of_ble_eq_true rfl)
  rw [lg_entry_eq]
  generalize (lg_sl ([.ref this, .int a0, .int a1, .int a2, .int a3]) ++ List.replicate (7 - (lg_sl ([.ref this, .int a0, .int a1, .int a2, .int a3])).length) Slot.unset).toArray = ls at hl ⊢
  have hl : lv_has ls 7 [(0, .ref this), (1, .int a0), (2, .int a1), (3, .int a2), (4, .int a3)] := hl
  refine q_gen (fun Q hQ => ?_)
  have go : ∀ (H : Heap) (locs : List Loc) (ls : Array Slot), va_P D vwCl (pq_P t σ (I, J, ri, rj, rq)) H → va_D A (pq_P t σ (I, J, ri, rj, rq)) → va_S A s.heap H locs → lv_has ls 7 [(0, .ref this), (1, .int a0), (2, .int a1), (3, .int a2), (4, .int a3)] → W p l e ({ frames := 5, cells := 0, slots := 0, locals := 144 } : Room) s m (List.toArray ([.ref this, .int a0, .int a1, .int a2, .int a3] : List Value)) below meth c H locs 0 0 Q (F0 m 0 ls []) := by
    intro H locs ls hP hD hS hl
    have hVT : VT 10 σ tg this_trial := vt_10 hSH hL_this_trial hK_this_trial
    have hFr : FR 10 tg σ this_trial (I, J, ri, rj, rq) (I, J, ri, rj, rq) := fr_rf
    have hO_this_now : this_now = vo σ 10 this_now := rfl
    have hO_this_trial : this_trial = vo σ 10 this_trial := rfl
    obtain ⟨F, hF0⟩ : ∃ F, F = g_X11_keeps (vI 10 σ this_now I) (vJ 10 σ this_now J) (vR 10 σ this_now ri) (vL 10 σ this_now rj) (vQ 10 σ this_now rq) a0 a1 a2 a3 (vI 10 σ this_trial I) (vJ 10 σ this_trial J) (vR 10 σ this_trial ri) (vL 10 σ this_trial rj) (vQ 10 σ this_trial rq) := ⟨_, rfl⟩
    have hF := hF0.trans g_X11_keeps_e
    refine lv_aload_n hx hb dX11_keeps_0 rfl (lv_at hl 0 rfl) ?_
    refine lv_iload_n hx hb dX11_keeps_1 rfl (lv_at hl 1 rfl) ?_
    refine pk_i (va_runV (As := [.int a0]) (rest := []) ⟨hx, hb, hml, hown, hts⟩ (s_X11_isCell l D t σ I J ri rj rq H.size tg hSH hG.1 this a0 hL_this hK_this this_now hR_this_now hL_this_now hK_this_now) (cwV 1 hts (tw_V tw_332 tw_333 tw_334 tw_2 tw_335) rfl rfl rfl cv_yX11_isCell_1 ⟨Nat.le_of_ble_eq_true rfl, Nat.le_of_ble_eq_true rfl⟩) ⟨pq_blind, pq_recv hK hP hL_this hK_this (by decide +kernel) rfl, pq_pre hK hN hP hD⟩ rfl rfl hl.1 rfl (lv_room (Nat.le_of_ble_eq_true rfl)) dX11_keeps_2 ⟨Nat.le_of_ble_eq_true rfl, Nat.le_of_ble_eq_true rfl⟩) hD hS hA (fun x_1 σ1 μ1 H locs hw_2 hP hD hS => ?_)
    obtain ⟨hu_3, hfn_6, hr_5⟩ := hw_2
    obtain ⟨hu_3a, hu_3b⟩ := Prod.mk.inj hu_3
    rw [hu_3a, hu_3b] at hP hD
    rw [fr_cI hFr hap, fr_cJ hFr hap, fr_cR hFr hap, fr_cL hFr hap, fr_cQ hFr hap] at hfn_6
    replace hF := hF.trans (bn_n hfn_6)
    have h_8 : rg x_1 0 1 := by rcases hr_5 with ⟨q, -⟩ | ⟨q, -⟩ <;> rw [q] <;> exact ⟨by decide +kernel, by decide +kernel⟩
    have K_104 : ∀  (H : Heap) (locs : List Loc) (ls : Array Slot), rg (a0) 0 39 → rg (a1) 0 39 → rg (a2) 0 2 → rg (a3) 1 60 → rg (x_1) 1 1 → ((I 320 this_now).toInt + a3.toInt ≤ 600) → F = g_X11_keeps_K33 a0 a1 a3 (vI 10 σ this_trial I) (vJ 10 σ this_trial J) (vR 10 σ this_trial ri) (vL 10 σ this_trial rj) (vQ 10 σ this_trial rq) (vI 10 σ this_now I) (vJ 10 σ this_now J) (vR 10 σ this_now ri) (vL 10 σ this_now rj) (vQ 10 σ this_now rq)  → FR 10 tg σ this_trial (I, J, ri, rj, rq) (I, J, ri, rj, rq) → GX [320, 224, 1225, 1226, 1227, 1228, 1229, 1230, 1231, 1232, 1233, 234, 235, 236, 64, 65, 1069, 1070, 1073, 1074, 1075, 1288, 1079, 0, 1005, 10, 96, 98, 32, 1033, 1034] tg σ I ri rj I ri rj rq → va_P D vwCl (pq_P t σ (I, J, ri, rj, rq)) H → va_D A (pq_P t σ (I, J, ri, rj, rq)) → va_S A s.heap H locs → lv_has ls 7 [(0, .ref this), (1, .int a0), (2, .int a1), (4, .int a3)] → W p l e ({ frames := 5, cells := 0, slots := 0, locals := 144 } : Room) s m (List.toArray ([.ref this, .int a0, .int a1, .int a2, .int a3] : List Value)) below meth c H locs 0 0 Q (F0 m 33 ls [.int 1]) := by
      intro H locs ls h_111 h_112 h_113 h_114 h_115 hw_116 hF hFr hG hP hD hS hl
      replace hF := hF.trans g_X11_keeps_K33_e
      refine lv_istore (lv' := [(5, .int 1), (0, .ref this), (1, .int a0), (2, .int a1), (4, .int a3)]) hx hb dX11_keeps_33 hl (by decide +kernel) rfl (fun ls hl => ?_)
      refine lv_iload hx hb dX11_keeps_35 (lv_at hl 0 rfl) ?_
      have K_171 : ∀  (H : Heap) (locs : List Loc) (ls : Array Slot), F = g_X11_keeps_K55 (vI 10 σ this_trial I) (vJ 10 σ this_trial J) (vR 10 σ this_trial ri) (vL 10 σ this_trial rj) (vQ 10 σ this_trial rq)  → FR 10 tg σ this_trial (I, J, ri, rj, rq) (I, J, ri, rj, rq) → GX [320, 224, 1225, 1226, 1227, 1228, 1229, 1230, 1231, 1232, 1233, 234, 235, 236, 64, 65, 1069, 1070, 1073, 1074, 1075, 1288, 1079, 0, 1005, 10, 96, 98, 32, 1033, 1034] tg σ I ri rj I ri rj rq → va_P D vwCl (pq_P t σ (I, J, ri, rj, rq)) H → va_D A (pq_P t σ (I, J, ri, rj, rq)) → va_S A s.heap H locs → lv_has ls 7 [] → W p l e ({ frames := 5, cells := 0, slots := 0, locals := 144 } : Room) s m (List.toArray ([.ref this, .int a0, .int a1, .int a2, .int a3] : List Value)) below meth c H locs 0 0 Q (F0 m 55 ls []) := by
        intro H locs ls hF hFr hG hP hD hS hl
        replace hF := hF.trans g_X11_keeps_K55_e
        refine lv_ldc hx hb hown (hts _ (tw_c tw_269)) dX11_keeps_55 ?_
        subst hQ
        exact W.iret (v := (-1000000)) hx hb hr (fun t1 ht hW => ⟨⟨(-1000000), (σ, I, J, ri, rj, rq), rfl, ⟨I, J, ri, rj, rq, rfl, hG, (hF0.symm.trans hF), hFr⟩, by rw [ht]; exact hP, va_K.moved hW.alike hK, hD⟩, hS.F ht⟩) hS.2.2 dX11_keeps_57
      refine lv_if_eq (tgt := 55) hx hb dX11_keeps_37 (by decide +kernel) (fun c_172 => absurd c_172 (by decide +kernel)) (fun c_172 => ?_)
      refine lv_aload_n hx hb dX11_keeps_40 rfl (lv_at hl 1 rfl) ?_
      refine pg_f (v := .ref this_now) (C := RX11) (T := TX11) (N := 5) hx hb hts (tw_i inlX11) hown hK hP hL_this hK_this (by decide +kernel) rfl 0 (by decide +kernel) (hts _ (tw_c tw_16)) (pq_hv rfl hR_this_now) dX11_keeps_41 ?_
      obtain ⟨w_173, hR_w_173, hL_w_173, hK_w_173⟩ := sh_o hSH 327 (ci := 10) (kd := 2) rfl hL_this_now hK_this_now
      have hO_w_173 : w_173 = vo σ 2 this_now := vo_k (c := 10) hO_this_now hR_w_173
      refine pg_f (v := .ref w_173) (C := RX10) (T := TX10) (N := 13) hx hb hts (tw_i inlX10) hown hK hP hL_this_now hK_this_now (by decide +kernel) rfl 7 (by decide +kernel) (hts _ (tw_c tw_199)) (pq_hv rfl hR_w_173) dX11_keeps_44 ?_
      obtain ⟨w_174, hR_w_174, hL_w_174, hK_w_174, hN_w_174, hT_w_174⟩ := sh_a hSH 75 (ci := 2) (kd := 13) (len := 40) rfl (by decide +kernel) hL_w_173 hK_w_173
      have hO_w_174 : w_174 = vrow σ 75 this_now := vo_k (c := 2) hO_w_173 hR_w_174
      refine pg_f (v := .ref w_174) (C := RX2) (T := TX2) (N := 20) hx hb hts (tw_i inlX2) hown hK hP hL_w_173 hK_w_173 (by decide +kernel) rfl 11 (by decide +kernel) (hts _ (tw_c tw_331)) (pq_hv rfl hR_w_174) dX11_keeps_47 ?_
      refine lv_iload_n hx hb dX11_keeps_50 rfl (lv_at hl 2 rfl) ?_
      refine pl_i hx hb hK hP hL_w_174 hK_w_174 hN_w_174 (rg_in h_111 (by decide +kernel)) dX11_keeps_51 ?_
      refine lv_topi (fun x_175 ex_175 => ?_)
      replace hF := hF.trans (ap_n (cR_r hFr hap hO_w_174 (by decide +kernel) ex_175))
      refine lv_if_ne (tgt := 58) hx hb dX11_keeps_52 (by decide +kernel) (fun c_176 => ?_) (fun c_176 => ?_)
      · replace hF := hF.trans (if_neg c_176)
        refine lv_aload_n hx hb dX11_keeps_58 rfl (lv_at hl 1 rfl) ?_
        refine pg_f (v := .ref this_trial) (C := RX11) (T := TX11) (N := 5) hx hb hts (tw_i inlX11) hown hK hP hL_this hK_this (by decide +kernel) rfl 2 (by decide +kernel) (hts _ (tw_c tw_18)) (pq_hv rfl hR_this_trial) dX11_keeps_59 ?_
        refine lv_aload_n hx hb dX11_keeps_62 rfl (lv_at hl 1 rfl) ?_
        refine pg_f (v := .ref this_now) (C := RX11) (T := TX11) (N := 5) hx hb hts (tw_i inlX11) hown hK hP hL_this hK_this (by decide +kernel) rfl 0 (by decide +kernel) (hts _ (tw_c tw_16)) (pq_hv rfl hR_this_now) dX11_keeps_63 ?_
        refine pk_v (va_runV (As := [.ref this_now]) (rest := []) ⟨hx, hb, hml, hown, hts⟩ (s_X10_copyFrom l D t σ I J ri rj rq H.size tg hSH hG.1 this_trial this_now hL_this_trial hK_this_trial hL_this_now hK_this_now hap) (cwV 1 hts (tw_V tw_1362 tw_1363 tw_1364 tw_15 tw_1365) rfl rfl rfl cv_yX10_copyFrom_1 ⟨Nat.le_of_ble_eq_true rfl, Nat.le_of_ble_eq_true rfl⟩) ⟨pq_blind, pq_recv hK hP hL_this_trial hK_this_trial (by decide +kernel) rfl, pq_pre hK hN hP hD⟩ rfl rfl hl.1 rfl (lv_room (Nat.le_of_ble_eq_true rfl)) dX11_keeps_66 ⟨Nat.le_of_ble_eq_true rfl, Nat.le_of_ble_eq_true rfl⟩) hD hS hA (fun σ1 μ1 H locs hw_179 hP hD hS => ?_)
        obtain ⟨I_180, J_181, ri_182, rj_183, rq_184, hu_185, hg_186, hp_188, hfn_189, hfr_190⟩ := hw_179
        obtain ⟨hu_185a, hu_185b⟩ := Prod.mk.inj hu_185
        rw [hu_185a, hu_185b] at hP hD
        replace hF := hF.trans (bv_n hfn_189)
        replace hFr := fr_tr hFr hfr_190
        have hG := GX.tr hG hg_186 (by decide +kernel)
        refine lv_aload_n hx hb dX11_keeps_69 rfl (lv_at hl 1 rfl) ?_
        refine pg_f (v := .ref this_trial) (C := RX11) (T := TX11) (N := 5) hx hb hts (tw_i inlX11) hown hK hP hL_this hK_this (by decide +kernel) rfl 2 (by decide +kernel) (hts _ (tw_c tw_18)) (pq_hv rfl hR_this_trial) dX11_keeps_70 ?_
        refine lv_iload hx hb dX11_keeps_73 (lv_at hl 4 rfl) ?_
        refine lv_iload_n hx hb dX11_keeps_75 rfl (lv_at hl 3 rfl) ?_
        refine pk_i (va_runV (As := [.int a3, .int a1]) (rest := []) ⟨hx, hb, hml, hown, hts⟩ (s_X10_sandBehind l D t σ I_180 J_181 ri_182 rj_183 rq_184 H.size tg hSH hG.1 this_trial a3 a1 hL_this_trial hK_this_trial (rg_w h_114 (by decide +kernel)) (rg_w h_112 (by decide +kernel))) (cwV 2 hts (tw_V tw_1415 tw_1416 tw_1417 tw_15 tw_1418) rfl rfl rfl cv_yX10_sandBehind_2 ⟨Nat.le_of_ble_eq_true rfl, Nat.le_of_ble_eq_true rfl⟩) ⟨pq_blind, pq_recv hK hP hL_this_trial hK_this_trial (by decide +kernel) rfl, pq_pre hK hN hP hD⟩ rfl rfl hl.1 rfl (lv_room (Nat.le_of_ble_eq_true rfl)) dX11_keeps_76 ⟨Nat.le_of_ble_eq_true rfl, Nat.le_of_ble_eq_true rfl⟩) hD hS hA (fun x_191 σ1 μ1 H locs hw_192 hP hD hS => ?_)
        obtain ⟨I_193, ri_194, hu_195, hg_196, hfn_198, hfr_199⟩ := hw_192
        obtain ⟨hu_195a, hu_195b⟩ := Prod.mk.inj hu_195
        rw [hu_195a, hu_195b] at hP hD
        replace hF := hF.trans (bn_n hfn_198)
        replace hFr := fr_tr hFr hfr_199
        have hG := GX.tr hG hg_196 (by decide +kernel)
        refine lv_istore (lv' := [(6, .int x_191), (5, .int 1), (0, .ref this), (1, .int a0), (2, .int a1), (4, .int a3)]) hx hb dX11_keeps_79 hl (by decide +kernel) rfl (fun ls hl => ?_)
        refine lv_aload_n hx hb dX11_keeps_81 rfl (lv_at hl 2 rfl) ?_
        refine pg_f (v := .ref this_trial) (C := RX11) (T := TX11) (N := 5) hx hb hts (tw_i inlX11) hown hK hP hL_this hK_this (by decide +kernel) rfl 2 (by decide +kernel) (hts _ (tw_c tw_18)) (pq_hv rfl hR_this_trial) dX11_keeps_82 ?_
        refine lv_aload_n hx hb dX11_keeps_85 rfl (lv_at hl 2 rfl) ?_
        refine pg_f (v := .ref this_now) (C := RX11) (T := TX11) (N := 5) hx hb hts (tw_i inlX11) hown hK hP hL_this hK_this (by decide +kernel) rfl 0 (by decide +kernel) (hts _ (tw_c tw_16)) (pq_hv rfl hR_this_now) dX11_keeps_86 ?_
        refine pk_v (va_runV (As := [.ref this_now]) (rest := []) ⟨hx, hb, hml, hown, hts⟩ (s_X10_copyFrom l D t σ I_193 J_181 ri_194 rj_183 rq_184 H.size tg hSH hG.1 this_trial this_now hL_this_trial hK_this_trial hL_this_now hK_this_now hap) (cwV 1 hts (tw_V tw_1362 tw_1363 tw_1364 tw_15 tw_1365) rfl rfl rfl cv_yX10_copyFrom_1 ⟨Nat.le_of_ble_eq_true rfl, Nat.le_of_ble_eq_true rfl⟩) ⟨pq_blind, pq_recv hK hP hL_this_trial hK_this_trial (by decide +kernel) rfl, pq_pre hK hN hP hD⟩ rfl rfl hl.1 rfl (lv_room (Nat.le_of_ble_eq_true rfl)) dX11_keeps_89 ⟨Nat.le_of_ble_eq_true rfl, Nat.le_of_ble_eq_true rfl⟩) hD hS hA (fun σ1 μ1 H locs hw_201 hP hD hS => ?_)
        obtain ⟨I_202, J_203, ri_204, rj_205, rq_206, hu_207, hg_208, hp_210, hfn_211, hfr_212⟩ := hw_201
        obtain ⟨hu_207a, hu_207b⟩ := Prod.mk.inj hu_207
        rw [hu_207a, hu_207b] at hP hD
        rw [fr_cI hFr hap, fr_cJ hFr hap, fr_cR hFr hap, fr_cL hFr hap, fr_cQ hFr hap] at hfn_211
        replace hF := hF.trans (bv_n hfn_211)
        replace hFr := fr_tr hFr hfr_212
        have hG := GX.tr hG hg_208 (by decide +kernel)
        refine lv_aload_n hx hb dX11_keeps_92 rfl (lv_at hl 2 rfl) ?_
        refine pg_f (v := .ref this_trial) (C := RX11) (T := TX11) (N := 5) hx hb hts (tw_i inlX11) hown hK hP hL_this hK_this (by decide +kernel) rfl 2 (by decide +kernel) (hts _ (tw_c tw_18)) (pq_hv rfl hR_this_trial) dX11_keeps_93 ?_
        obtain ⟨w_213, hR_w_213, hL_w_213, hK_w_213⟩ := sh_o hSH 327 (ci := 10) (kd := 2) rfl hL_this_trial hK_this_trial
        have hO_w_213 : w_213 = vo σ 2 this_trial := vo_k (c := 10) hO_this_trial hR_w_213
        refine pg_f (v := .ref w_213) (C := RX10) (T := TX10) (N := 13) hx hb hts (tw_i inlX10) hown hK hP hL_this_trial hK_this_trial (by decide +kernel) rfl 7 (by decide +kernel) (hts _ (tw_c tw_199)) (pq_hv rfl hR_w_213) dX11_keeps_96 ?_
        obtain ⟨w_214, hR_w_214, hL_w_214, hK_w_214, hN_w_214, hT_w_214⟩ := sh_a hSH 75 (ci := 2) (kd := 13) (len := 40) rfl (by decide +kernel) hL_w_213 hK_w_213
        have hO_w_214 : w_214 = vrow σ 75 this_trial := vo_k (c := 2) hO_w_213 hR_w_214
        refine pg_f (v := .ref w_214) (C := RX2) (T := TX2) (N := 20) hx hb hts (tw_i inlX2) hown hK hP hL_w_213 hK_w_213 (by decide +kernel) rfl 11 (by decide +kernel) (hts _ (tw_c tw_331)) (pq_hv rfl hR_w_214) dX11_keeps_99 ?_
        refine lv_iload_n hx hb dX11_keeps_102 rfl (lv_at hl 3 rfl) ?_
        refine lv_iconst (v := 0) hx hb dX11_keeps_103 (by decide +kernel) ?_
        refine pt_i hx hb hK hP hD hS hL_w_214 hK_w_214 hN_w_214 (rg_in h_111 (by decide +kernel)) dX11_keeps_104 (fun r_215 H locs er_215 hP hD hS => ?_)
        replace hFr := fr_R hFr hO_w_214 (by decide +kernel) er_215
        replace hF := hF.trans (ap_n (vR_st hVT hO_w_214 (by decide +kernel) er_215))
        have hG := GX.wR hG hSH hT_w_214 rfl er_215 (rg_w (rg_k (0 : Int32) 0 rfl) (by decide +kernel)) (by decide +kernel)
        refine lv_iload hx hb dX11_keeps_105 (lv_at hl 0 rfl) ?_
        refine lv_aload_n hx hb dX11_keeps_107 rfl (lv_at hl 2 rfl) ?_
        refine pg_f (v := .ref this_trial) (C := RX11) (T := TX11) (N := 5) hx hb hts (tw_i inlX11) hown hK hP hL_this hK_this (by decide +kernel) rfl 2 (by decide +kernel) (hts _ (tw_c tw_18)) (pq_hv rfl hR_this_trial) dX11_keeps_108 ?_
        refine lv_iload hx hb dX11_keeps_111 (lv_at hl 5 rfl) ?_
        refine lv_iload_n hx hb dX11_keeps_113 rfl (lv_at hl 4 rfl) ?_
        refine pk_i (va_runV (As := [.int a3, .int a1]) (rest := [.int x_191]) ⟨hx, hb, hml, hown, hts⟩ (s_X10_sandBehind l D t σ I_202 J_203 r_215 rj_205 rq_206 H.size tg hSH hG.1 this_trial a3 a1 hL_this_trial hK_this_trial (rg_w h_114 (by decide +kernel)) (rg_w h_112 (by decide +kernel))) (cwV 2 hts (tw_V tw_1415 tw_1416 tw_1417 tw_15 tw_1418) rfl rfl rfl cv_yX10_sandBehind_2 ⟨Nat.le_of_ble_eq_true rfl, Nat.le_of_ble_eq_true rfl⟩) ⟨pq_blind, pq_recv hK hP hL_this_trial hK_this_trial (by decide +kernel) rfl, pq_pre hK hN hP hD⟩ rfl rfl hl.1 rfl (lv_room (Nat.le_of_ble_eq_true rfl)) dX11_keeps_114 ⟨Nat.le_of_ble_eq_true rfl, Nat.le_of_ble_eq_true rfl⟩) hD hS hA (fun x_216 σ1 μ1 H locs hw_217 hP hD hS => ?_)
        obtain ⟨I_218, ri_219, hu_220, hg_221, hfn_223, hfr_224⟩ := hw_217
        obtain ⟨hu_220a, hu_220b⟩ := Prod.mk.inj hu_220
        rw [hu_220a, hu_220b] at hP hD
        replace hF := hF.trans (bn_n hfn_223)
        replace hFr := fr_tr hFr hfr_224
        have hG := GX.tr hG hg_221 (by decide +kernel)
        refine lv_isub hx hb dX11_keeps_117 ?_
        refine lv_topi (fun x_225 ex_225 => ?_)
        replace hF := hF.trans (ap_n ex_225)
        subst hQ
        exact W.iret (v := x_225) hx hb hr (fun t1 ht hW => ⟨⟨x_225, (σ, I_218, J_203, ri_219, rj_205, rq_206), rfl, ⟨I_218, J_203, ri_219, rj_205, rq_206, rfl, hG, (hF0.symm.trans hF), hFr⟩, by rw [ht]; exact hP, va_K.moved hW.alike hK, hD⟩, hS.F ht⟩) hS.2.2 dX11_keeps_118
      · replace hF := hF.trans (if_pos c_176)
        have h_226 : rg x_175 0 0 := rg_and (rg_full _) (rg_of_eq c_176 (rg_k (0 : Int32) 0 rfl)) (by decide +kernel)
        exact K_171 _ _ _ hF hFr hG hP hD hS (lv_sub hl [] rfl)
    have K_227 : ∀  (H : Heap) (locs : List Loc) (ls : Array Slot), F = g_X11_keeps_K33_2 (vI 10 σ this_trial I) (vJ 10 σ this_trial J) (vR 10 σ this_trial ri) (vL 10 σ this_trial rj) (vQ 10 σ this_trial rq)  → FR 10 tg σ this_trial (I, J, ri, rj, rq) (I, J, ri, rj, rq) → GX [320, 224, 1225, 1226, 1227, 1228, 1229, 1230, 1231, 1232, 1233, 234, 235, 236, 64, 65, 1069, 1070, 1073, 1074, 1075, 1288, 1079, 0, 1005, 10, 96, 98, 32, 1033, 1034] tg σ I ri rj I ri rj rq → va_P D vwCl (pq_P t σ (I, J, ri, rj, rq)) H → va_D A (pq_P t σ (I, J, ri, rj, rq)) → va_S A s.heap H locs → lv_has ls 7 [(0, .ref this), (1, .int a0), (2, .int a1), (4, .int a3)] → W p l e ({ frames := 5, cells := 0, slots := 0, locals := 144 } : Room) s m (List.toArray ([.ref this, .int a0, .int a1, .int a2, .int a3] : List Value)) below meth c H locs 0 0 Q (F0 m 33 ls [.int 0]) := by
      intro H locs ls hF hFr hG hP hD hS hl
      replace hF := hF.trans g_X11_keeps_K33_2_e
      refine lv_istore (lv' := [(5, .int 0), (0, .ref this), (1, .int a0), (2, .int a1), (4, .int a3)]) hx hb dX11_keeps_33 hl (by decide +kernel) rfl (fun ls hl => ?_)
      refine lv_iload hx hb dX11_keeps_35 (lv_at hl 0 rfl) ?_
      have K_229 : ∀  (H : Heap) (locs : List Loc) (ls : Array Slot), F = g_X11_keeps_K55_2 (vI 10 σ this_trial I) (vJ 10 σ this_trial J) (vR 10 σ this_trial ri) (vL 10 σ this_trial rj) (vQ 10 σ this_trial rq)  → FR 10 tg σ this_trial (I, J, ri, rj, rq) (I, J, ri, rj, rq) → GX [320, 224, 1225, 1226, 1227, 1228, 1229, 1230, 1231, 1232, 1233, 234, 235, 236, 64, 65, 1069, 1070, 1073, 1074, 1075, 1288, 1079, 0, 1005, 10, 96, 98, 32, 1033, 1034] tg σ I ri rj I ri rj rq → va_P D vwCl (pq_P t σ (I, J, ri, rj, rq)) H → va_D A (pq_P t σ (I, J, ri, rj, rq)) → va_S A s.heap H locs → lv_has ls 7 [] → W p l e ({ frames := 5, cells := 0, slots := 0, locals := 144 } : Room) s m (List.toArray ([.ref this, .int a0, .int a1, .int a2, .int a3] : List Value)) below meth c H locs 0 0 Q (F0 m 55 ls []) := by
        intro H locs ls hF hFr hG hP hD hS hl
        replace hF := hF.trans g_X11_keeps_K55_2_e
        refine lv_ldc hx hb hown (hts _ (tw_c tw_269)) dX11_keeps_55 ?_
        subst hQ
        exact W.iret (v := (-1000000)) hx hb hr (fun t1 ht hW => ⟨⟨(-1000000), (σ, I, J, ri, rj, rq), rfl, ⟨I, J, ri, rj, rq, rfl, hG, (hF0.symm.trans hF), hFr⟩, by rw [ht]; exact hP, va_K.moved hW.alike hK, hD⟩, hS.F ht⟩) hS.2.2 dX11_keeps_57
      refine lv_if_eq (tgt := 55) hx hb dX11_keeps_37 (by decide +kernel) (fun c_230 => ?_) (fun c_230 => absurd c_230 (by decide +kernel))
      exact K_229 _ _ _ hF hFr hG hP hD hS (lv_sub hl [] rfl)
    have K_231 : ∀  (H : Heap) (locs : List Loc) (ls : Array Slot), F = g_X11_keeps_K32 (vI 10 σ this_trial I) (vJ 10 σ this_trial J) (vR 10 σ this_trial ri) (vL 10 σ this_trial rj) (vQ 10 σ this_trial rq)  → FR 10 tg σ this_trial (I, J, ri, rj, rq) (I, J, ri, rj, rq) → GX [320, 224, 1225, 1226, 1227, 1228, 1229, 1230, 1231, 1232, 1233, 234, 235, 236, 64, 65, 1069, 1070, 1073, 1074, 1075, 1288, 1079, 0, 1005, 10, 96, 98, 32, 1033, 1034] tg σ I ri rj I ri rj rq → va_P D vwCl (pq_P t σ (I, J, ri, rj, rq)) H → va_D A (pq_P t σ (I, J, ri, rj, rq)) → va_S A s.heap H locs → lv_has ls 7 [(0, .ref this), (1, .int a0), (2, .int a1), (4, .int a3)] → W p l e ({ frames := 5, cells := 0, slots := 0, locals := 144 } : Room) s m (List.toArray ([.ref this, .int a0, .int a1, .int a2, .int a3] : List Value)) below meth c H locs 0 0 Q (F0 m 32 ls []) := by
      intro H locs ls hF hFr hG hP hD hS hl
      replace hF := hF.trans g_X11_keeps_K32_e
      refine lv_iconst (v := 0) hx hb dX11_keeps_32 (by decide +kernel) ?_
      exact K_227 _ _ _ hF hFr hG hP hD hS (lv_sub hl [0, 1, 2, 3] rfl)
    refine lv_if_eq (tgt := 32) hx hb dX11_keeps_5 (by decide +kernel) (fun c_232 => ?_) (fun c_232 => ?_)
    · replace hF := hF.trans (if_pos c_232)
      have f_237 := (hr_5.resolve_left (fun q => absurd (q.1.symm.trans c_232) (by decide +kernel))).2
      have h_238 : rg x_1 0 0 := rg_and h_8 (rg_of_eq c_232 (rg_k (0 : Int32) 0 rfl)) (by decide +kernel)
      exact K_231 _ _ _ hF hFr hG hP hD hS (lv_sub hl [0, 1, 2, 4] rfl)
    · replace hF := hF.trans (if_neg c_232)
      have f_239 := (hr_5.resolve_right (fun q => c_232 q.1)).2
      have h_240 : rg x_1 1 1 := rg_ne c_232 h_8 0 rfl (by decide +kernel)
      refine lv_aload_n hx hb dX11_keeps_8 rfl (lv_at hl 0 rfl) ?_
      refine lv_iload_n hx hb dX11_keeps_9 rfl (lv_at hl 2 rfl) ?_
      refine pk_i (va_runV (As := [.int a1]) (rest := []) ⟨hx, hb, hml, hown, hts⟩ (s_X11_isCell l D t σ I J ri rj rq H.size tg hSH hG.1 this a1 hL_this hK_this this_now hR_this_now hL_this_now hK_this_now) (cwV 1 hts (tw_V tw_332 tw_333 tw_334 tw_2 tw_335) rfl rfl rfl cv_yX11_isCell_1 ⟨Nat.le_of_ble_eq_true rfl, Nat.le_of_ble_eq_true rfl⟩) ⟨pq_blind, pq_recv hK hP hL_this hK_this (by decide +kernel) rfl, pq_pre hK hN hP hD⟩ rfl rfl hl.1 rfl (lv_room (Nat.le_of_ble_eq_true rfl)) dX11_keeps_10 ⟨Nat.le_of_ble_eq_true rfl, Nat.le_of_ble_eq_true rfl⟩) hD hS hA (fun x_241 σ1 μ1 H locs hw_242 hP hD hS => ?_)
      obtain ⟨hu_243, hfn_246, hr_245⟩ := hw_242
      obtain ⟨hu_243a, hu_243b⟩ := Prod.mk.inj hu_243
      rw [hu_243a, hu_243b] at hP hD
      rw [fr_cI hFr hap, fr_cJ hFr hap, fr_cR hFr hap, fr_cL hFr hap, fr_cQ hFr hap] at hfn_246
      replace hF := hF.trans (bn_n hfn_246)
      have h_248 : rg x_241 0 1 := by rcases hr_245 with ⟨q, -⟩ | ⟨q, -⟩ <;> rw [q] <;> exact ⟨by decide +kernel, by decide +kernel⟩
      refine lv_if_eq (tgt := 32) hx hb dX11_keeps_13 (by decide +kernel) (fun c_249 => ?_) (fun c_249 => ?_)
      · replace hF := hF.trans (if_pos c_249)
        have f_254 := (hr_245.resolve_left (fun q => absurd (q.1.symm.trans c_249) (by decide +kernel))).2
        have h_255 : rg x_241 0 0 := rg_and h_248 (rg_of_eq c_249 (rg_k (0 : Int32) 0 rfl)) (by decide +kernel)
        exact K_231 _ _ _ hF hFr hG hP hD hS (lv_sub hl [0, 1, 2, 4] rfl)
      · replace hF := hF.trans (if_neg c_249)
        have f_256 := (hr_245.resolve_right (fun q => c_249 q.1)).2
        have h_257 : rg x_241 1 1 := rg_ne c_249 h_248 0 rfl (by decide +kernel)
        refine lv_aload_n hx hb dX11_keeps_16 rfl (lv_at hl 0 rfl) ?_
        refine lv_iload_n hx hb dX11_keeps_17 rfl (lv_at hl 3 rfl) ?_
        refine lv_iload hx hb dX11_keeps_18 (lv_at hl 4 rfl) ?_
        refine lv_bipush (v := 60) hx hb dX11_keeps_20 (by decide +kernel) ?_
        refine pk_i (va_runV (As := [.int a2, .int a3, .int 60]) (rest := []) ⟨hx, hb, hml, hown, hts⟩ (s_X11_canGoBy l D t σ I J ri rj rq H.size tg hSH hG.1 this a2 a3 (60 : Int32) hL_this hK_this (rg_w (rg_k (60 : Int32) 60 rfl) (by decide +kernel)) this_now hR_this_now hL_this_now hK_this_now) (cwV 3 hts (tw_V tw_1035 tw_1036 tw_1037 tw_2 tw_1038) rfl rfl rfl cv_yX11_canGoBy_3 ⟨Nat.le_of_ble_eq_true rfl, Nat.le_of_ble_eq_true rfl⟩) ⟨pq_blind, pq_recv hK hP hL_this hK_this (by decide +kernel) rfl, pq_pre hK hN hP hD⟩ rfl rfl hl.1 rfl (lv_room (Nat.le_of_ble_eq_true rfl)) dX11_keeps_22 ⟨Nat.le_of_ble_eq_true rfl, Nat.le_of_ble_eq_true rfl⟩) hD hS hA (fun x_258 σ1 μ1 H locs hw_259 hP hD hS => ?_)
        obtain ⟨hu_260, hfn_263, hr_262⟩ := hw_259
        obtain ⟨hu_260a, hu_260b⟩ := Prod.mk.inj hu_260
        rw [hu_260a, hu_260b] at hP hD
        rw [fr_cI hFr hap, fr_cJ hFr hap, fr_cR hFr hap, fr_cL hFr hap, fr_cQ hFr hap] at hfn_263
        replace hF := hF.trans (bn_n hfn_263)
        have h_265 : rg x_258 0 1 := by rcases hr_262 with ⟨q, -⟩ | ⟨q, -⟩ <;> rw [q] <;> exact ⟨by decide +kernel, by decide +kernel⟩
        refine lv_if_eq (tgt := 32) hx hb dX11_keeps_25 (by decide +kernel) (fun c_266 => ?_) (fun c_266 => ?_)
        · replace hF := hF.trans (if_pos c_266)
          have f_274 := (hr_262.resolve_left (fun q => absurd (q.1.symm.trans c_266) (by decide +kernel))).2
          have h_275 : rg x_258 0 0 := rg_and h_265 (rg_of_eq c_266 (rg_k (0 : Int32) 0 rfl)) (by decide +kernel)
          exact K_231 _ _ _ hF hFr hG hP hD hS (lv_sub hl [0, 1, 2, 4] rfl)
        · replace hF := hF.trans (if_neg c_266)
          obtain ⟨f_276, f_277, f_278, f_279⟩ := (hr_262.resolve_right (fun q => c_266 q.1)).2
          have h_280 : rg x_258 1 1 := rg_ne c_266 h_265 0 rfl (by decide +kernel)
          refine lv_iconst (v := 1) hx hb dX11_keeps_28 (by decide +kernel) ?_
          refine lv_goto (tgt := 33) hx hb dX11_keeps_29 (by decide +kernel) ?_
          exact K_104 _ _ _ (rg_w f_239 (by decide +kernel)) (rg_w f_256 (by decide +kernel)) (rg_w f_276 (by decide +kernel)) (rg_w f_277 (by decide +kernel)) (rg_w h_240 (by decide +kernel)) f_279 hF hFr hG hP hD hS (lv_sub hl [0, 1, 2, 4] rfl)
  exact go _ _ _ hP hD hS hl
