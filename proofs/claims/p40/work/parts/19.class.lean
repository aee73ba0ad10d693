theorem dX11_fault_0 : decode cX11_fault 0 = .ok (.iload_n 1, 1) := oc_27 (by decide +kernel)
theorem dX11_fault_1 : decode cX11_fault 1 = .ok (.lookupswitch 43 #[(0, 27), (1, 35)], 27) := by decide +kernel
theorem dX11_fault_28 : decode cX11_fault 28 = .ok (.aload_n 0, 1) := oc_42 (by decide +kernel)
theorem dX11_fault_29 : decode cX11_fault 29 = .ok (.getfield 32, 3) := oc_180 (a := 0) (b := 32) (by decide +kernel)
theorem tw_650 : Cond.fieldLink RX11 221 "RingsUnder$Reader" "fault" "I" ∈ wsL_law := sg_28 _ (List.mem_of_getElem? (i := 2) rfl)
theorem dX11_fault_32 : decode cX11_fault 32 = .ok (.getfield 221, 3) := oc_180 (a := 0) (b := 221) (by decide +kernel)
theorem dX11_fault_35 : decode cX11_fault 35 = .ok (.ireturn, 1) := oc_172 (by decide +kernel)
theorem dX11_fault_36 : decode cX11_fault 36 = .ok (.aload_n 0, 1) := oc_42 (by decide +kernel)
theorem dX11_fault_37 : decode cX11_fault 37 = .ok (.getfield 32, 3) := oc_180 (a := 0) (b := 32) (by decide +kernel)
theorem tw_941 : Cond.fieldLink RX11 228 "RingsUnder$Reader" "place" "I" ∈ wsL_law := sg_40 _ (List.mem_of_getElem? (i := 5) rfl)
theorem dX11_fault_40 : decode cX11_fault 40 = .ok (.getfield 228, 3) := oc_180 (a := 0) (b := 228) (by decide +kernel)
theorem dX11_fault_43 : decode cX11_fault 43 = .ok (.ireturn, 1) := oc_172 (by decide +kernel)
theorem dX11_fault_44 : decode cX11_fault 44 = .ok (.iconst (-1), 1) := oc_2 (by decide +kernel)
theorem dX11_fault_45 : decode cX11_fault 45 = .ok (.ireturn, 1) := oc_172 (by decide +kernel)
theorem dX11_force_0 : decode cX11_force 0 = .ok (.aload_n 0, 1) := oc_42 (by decide +kernel)
theorem dX11_force_1 : decode cX11_force 1 = .ok (.getfield 10, 3) := oc_180 (a := 0) (b := 10) (by decide +kernel)
theorem tw_648 : Cond.fieldLink RX11 208 "RingsUnder$World" "law" "LRingsUnder$Law;" ∈ wsL_law := sg_28 _ (List.mem_of_getElem? (i := 0) rfl)
theorem dX11_force_4 : decode cX11_force 4 = .ok (.getfield 208, 3) := oc_180 (a := 0) (b := 208) (by decide +kernel)
theorem dX11_force_7 : decode cX11_force 7 = .ok (.astore 4, 2) := oc_58 (by decide +kernel)
theorem dX11_force_9 : decode cX11_force 9 = .ok (.iload_n 1, 1) := oc_27 (by decide +kernel)
theorem dX11_force_10 : decode cX11_force 10 = .ok (.iconst 0, 1) := oc_3 (by decide +kernel)
theorem dX11_force_11 : decode cX11_force 11 = .ok (.aload 4, 2) := oc_25 (by decide +kernel)
theorem tw_649 : Cond.fieldLink RX11 212 "RingsUnder$Law" "textCount" "I" ∈ wsL_law := sg_28 _ (List.mem_of_getElem? (i := 1) rfl)
theorem dX11_force_13 : decode cX11_force 13 = .ok (.getfield 212, 3) := oc_180 (a := 0) (b := 212) (by decide +kernel)
theorem dX11_force_16 : decode cX11_force 16 = .ok (.iconst 1, 1) := oc_4 (by decide +kernel)
theorem dX11_force_17 : decode cX11_force 17 = .ok (.isub, 1) := oc_100 (by decide +kernel)
theorem dX11_force_18 : decode cX11_force 18 = .ok (.invokestatic 50, 3) := oc_184 (a := 0) (b := 50) (by decide +kernel)
theorem dX11_force_59 : decode cX11_force 59 = .ok (.istore 5, 2) := oc_54 (by decide +kernel)
theorem dX11_force_61 : decode cX11_force 61 = .ok (.iload 5, 2) := oc_21 (by decide +kernel)
theorem dX11_force_76 : decode cX11_force 76 = .ok (.iconst (-1), 1) := oc_2 (by decide +kernel)
theorem dX11_force_77 : decode cX11_force 77 = .ok (.ireturn, 1) := oc_172 (by decide +kernel)
theorem dX11_force_63 : decode cX11_force 63 = .ok (.ifCond .eq 13, 3) := oc_153 (a := 0) (b := 13) (by decide +kernel)
theorem dX11_force_66 : decode cX11_force 66 = .ok (.aload 4, 2) := oc_25 (by decide +kernel)
theorem tw_950 : Cond.fieldLink RX11 230 "RingsUnder$Law" "forces" "I" ∈ wsL_law := sg_40 _ (List.mem_of_getElem? (i := 14) rfl)
theorem dX11_force_68 : decode cX11_force 68 = .ok (.getfield 230, 3) := oc_180 (a := 0) (b := 230) (by decide +kernel)
theorem dX11_force_71 : decode cX11_force 71 = .ok (.bipush 30, 2) := oc_16 (a := 30) (by decide +kernel)
theorem dX11_force_73 : decode cX11_force 73 = .ok (.if_icmp .lt 5, 3) := oc_161 (a := 0) (b := 5) (by decide +kernel)
theorem dX11_force_78 : decode cX11_force 78 = .ok (.aload 4, 2) := oc_25 (by decide +kernel)
theorem dX11_force_80 : decode cX11_force 80 = .ok (.iload_n 1, 1) := oc_27 (by decide +kernel)
theorem dX11_force_81 : decode cX11_force 81 = .ok (.iload_n 2, 1) := oc_28 (by decide +kernel)
theorem dX11_force_82 : decode cX11_force 82 = .ok (.iload_n 3, 1) := oc_29 (by decide +kernel)
theorem tw_951 : Cond.methodLink RX11 233 yX3_addForce ∈ wsL_law := sg_40 _ (List.mem_of_getElem? (i := 15) rfl)
theorem tw_952 : Cond.instanceMethod yX3_addForce ∈ wsL_law := sg_40 _ (List.mem_of_getElem? (i := 16) rfl)
theorem tw_953 : Cond.selects RX3 yX3_addForce yX3_addForce ∈ wsL_law := sg_40 _ (List.mem_of_getElem? (i := 17) rfl)
theorem tw_954 : Cond.code yX3_addForce cX3_addForce 4 (some .int) ∈ wsL_law := sg_40 _ (List.mem_of_getElem? (i := 18) rfl)
theorem dX11_force_83 : decode cX11_force 83 = .ok (.invokevirtual 233, 3) := oc_182 (a := 0) (b := 233) (by decide +kernel)
theorem dX11_force_86 : decode cX11_force 86 = .ok (.ireturn, 1) := oc_172 (by decide +kernel)
theorem dX11_force_58 : decode cX11_force 58 = .ok (.iconst 0, 1) := oc_3 (by decide +kernel)
theorem dX11_force_21 : decode cX11_force 21 = .ok (.ifCond .eq 37, 3) := oc_153 (a := 0) (b := 37) (by decide +kernel)
theorem dX11_force_24 : decode cX11_force 24 = .ok (.iload_n 2, 1) := oc_28 (by decide +kernel)
theorem dX11_force_25 : decode cX11_force 25 = .ok (.invokestatic 67, 3) := oc_184 (a := 0) (b := 67) (by decide +kernel)
theorem dX11_force_28 : decode cX11_force 28 = .ok (.ifCond .eq 30, 3) := oc_153 (a := 0) (b := 30) (by decide +kernel)
theorem dX11_force_31 : decode cX11_force 31 = .ok (.iload_n 3, 1) := oc_29 (by decide +kernel)
theorem dX11_force_32 : decode cX11_force 32 = .ok (.invokestatic 67, 3) := oc_184 (a := 0) (b := 67) (by decide +kernel)
theorem dX11_force_35 : decode cX11_force 35 = .ok (.ifCond .eq 23, 3) := oc_153 (a := 0) (b := 23) (by decide +kernel)
theorem dX11_force_38 : decode cX11_force 38 = .ok (.iload_n 2, 1) := oc_28 (by decide +kernel)
theorem dX11_force_39 : decode cX11_force 39 = .ok (.aload_n 0, 1) := oc_42 (by decide +kernel)
theorem dX11_force_40 : decode cX11_force 40 = .ok (.getfield 10, 3) := oc_180 (a := 0) (b := 10) (by decide +kernel)
theorem dX11_force_43 : decode cX11_force 43 = .ok (.getfield 54, 3) := oc_180 (a := 0) (b := 54) (by decide +kernel)
theorem dX11_force_46 : decode cX11_force 46 = .ok (.if_icmp .lt 12, 3) := oc_161 (a := 0) (b := 12) (by decide +kernel)
theorem dX11_force_49 : decode cX11_force 49 = .ok (.iload_n 2, 1) := oc_28 (by decide +kernel)
theorem dX11_force_50 : decode cX11_force 50 = .ok (.iload_n 3, 1) := oc_29 (by decide +kernel)
theorem dX11_force_51 : decode cX11_force 51 = .ok (.if_icmp .gt 7, 3) := oc_163 (a := 0) (b := 7) (by decide +kernel)
theorem dX11_force_54 : decode cX11_force 54 = .ok (.iconst 1, 1) := oc_4 (by decide +kernel)
theorem dX11_force_55 : decode cX11_force 55 = .ok (.goto 4, 3) := oc_167 (a := 0) (b := 4) (by decide +kernel)
theorem dX11_is_0 : decode cX11_is 0 = .ok (.iload_n 1, 1) := oc_27 (by decide +kernel)
theorem dX11_is_1 : decode cX11_is 1 = .ok (.iconst 0, 1) := oc_3 (by decide +kernel)
theorem dX11_is_2 : decode cX11_is 2 = .ok (.iconst 2, 1) := oc_5 (by decide +kernel)
theorem dX11_is_3 : decode cX11_is 3 = .ok (.invokestatic 50, 3) := oc_184 (a := 0) (b := 50) (by decide +kernel)
theorem dX11_is_24 : decode cX11_is 24 = .ok (.iconst (-1), 1) := oc_2 (by decide +kernel)
theorem dX11_is_25 : decode cX11_is 25 = .ok (.ireturn, 1) := oc_172 (by decide +kernel)
theorem dX11_is_6 : decode cX11_is 6 = .ok (.ifCond .eq 18, 3) := oc_153 (a := 0) (b := 18) (by decide +kernel)
theorem dX11_is_9 : decode cX11_is 9 = .ok (.aload_n 0, 1) := oc_42 (by decide +kernel)
theorem dX11_is_10 : decode cX11_is 10 = .ok (.iload_n 2, 1) := oc_28 (by decide +kernel)
theorem dX11_is_11 : decode cX11_is 11 = .ok (.invokevirtual 162, 3) := oc_182 (a := 0) (b := 162) (by decide +kernel)
theorem dX11_is_14 : decode cX11_is 14 = .ok (.ifCond .eq 10, 3) := oc_153 (a := 0) (b := 10) (by decide +kernel)
theorem dX11_is_17 : decode cX11_is 17 = .ok (.iload_n 3, 1) := oc_29 (by decide +kernel)
theorem dX11_is_18 : decode cX11_is 18 = .ok (.invokestatic 67, 3) := oc_184 (a := 0) (b := 67) (by decide +kernel)
theorem dX11_is_21 : decode cX11_is 21 = .ok (.ifCond .ne 5, 3) := oc_154 (a := 0) (b := 5) (by decide +kernel)
theorem dX11_is_26 : decode cX11_is 26 = .ok (.aload_n 0, 1) := oc_42 (by decide +kernel)
theorem dX11_is_27 : decode cX11_is 27 = .ok (.getfield 10, 3) := oc_180 (a := 0) (b := 10) (by decide +kernel)
theorem dX11_is_30 : decode cX11_is 30 = .ok (.getfield 208, 3) := oc_180 (a := 0) (b := 208) (by decide +kernel)
theorem dX11_is_33 : decode cX11_is 33 = .ok (.iconst 1, 1) := oc_4 (by decide +kernel)
theorem dX11_is_34 : decode cX11_is 34 = .ok (.iload_n 1, 1) := oc_27 (by decide +kernel)
theorem dX11_is_35 : decode cX11_is 35 = .ok (.iadd, 1) := oc_96 (by decide +kernel)
theorem dX11_is_36 : decode cX11_is 36 = .ok (.iload_n 3, 1) := oc_29 (by decide +kernel)
theorem dX11_is_37 : decode cX11_is 37 = .ok (.aload_n 0, 1) := oc_42 (by decide +kernel)
theorem dX11_is_38 : decode cX11_is 38 = .ok (.getfield 10, 3) := oc_180 (a := 0) (b := 10) (by decide +kernel)
theorem dX11_is_41 : decode cX11_is 41 = .ok (.getfield 143, 3) := oc_180 (a := 0) (b := 143) (by decide +kernel)
theorem dX11_is_44 : decode cX11_is 44 = .ok (.lconst 1, 1) := oc_10 (by decide +kernel)
theorem dX11_is_45 : decode cX11_is 45 = .ok (.iload_n 2, 1) := oc_28 (by decide +kernel)
theorem dX11_is_46 : decode cX11_is 46 = .ok (.lshl, 1) := oc_121 (by decide +kernel)
theorem tw_963 : Cond.methodLink RX11 236 yX3_whoIsSo ∈ wsL_law := sg_41 _ (List.mem_of_getElem? (i := 3) rfl)
theorem dX11_is_47 : decode cX11_is 47 = .ok (.invokevirtual 236, 3) := oc_182 (a := 0) (b := 236) (by decide +kernel)
theorem dX11_is_50 : decode cX11_is 50 = .ok (.lconst 0, 1) := oc_9 (by decide +kernel)
theorem dX11_is_51 : decode cX11_is 51 = .ok (.lcmp, 1) := oc_148 (by decide +kernel)
theorem dX11_is_52 : decode cX11_is 52 = .ok (.ifCond .eq 7, 3) := oc_153 (a := 0) (b := 7) (by decide +kernel)
theorem dX11_is_59 : decode cX11_is 59 = .ok (.iconst 0, 1) := oc_3 (by decide +kernel)
theorem dX11_is_60 : decode cX11_is 60 = .ok (.ireturn, 1) := oc_172 (by decide +kernel)
theorem dX11_is_55 : decode cX11_is 55 = .ok (.iconst 1, 1) := oc_4 (by decide +kernel)
theorem dX11_is_56 : decode cX11_is 56 = .ok (.goto 4, 3) := oc_167 (a := 0) (b := 4) (by decide +kernel)
theorem dX11_why_0 : decode cX11_why 0 = .ok (.iload_n 1, 1) := oc_27 (by decide +kernel)
theorem dX11_why_1 : decode cX11_why 1 = .ok (.iconst 0, 1) := oc_3 (by decide +kernel)
theorem dX11_why_2 : decode cX11_why 2 = .ok (.iconst 2, 1) := oc_5 (by decide +kernel)
theorem dX11_why_3 : decode cX11_why 3 = .ok (.invokestatic 50, 3) := oc_184 (a := 0) (b := 50) (by decide +kernel)
theorem dX11_why_24 : decode cX11_why 24 = .ok (.iconst (-1), 1) := oc_2 (by decide +kernel)
theorem dX11_why_25 : decode cX11_why 25 = .ok (.ireturn, 1) := oc_172 (by decide +kernel)
theorem dX11_why_6 : decode cX11_why 6 = .ok (.ifCond .eq 18, 3) := oc_153 (a := 0) (b := 18) (by decide +kernel)
theorem dX11_why_9 : decode cX11_why 9 = .ok (.aload_n 0, 1) := oc_42 (by decide +kernel)
theorem dX11_why_10 : decode cX11_why 10 = .ok (.iload_n 2, 1) := oc_28 (by decide +kernel)
theorem dX11_why_11 : decode cX11_why 11 = .ok (.invokevirtual 162, 3) := oc_182 (a := 0) (b := 162) (by decide +kernel)
theorem dX11_why_14 : decode cX11_why 14 = .ok (.ifCond .eq 10, 3) := oc_153 (a := 0) (b := 10) (by decide +kernel)
theorem dX11_why_17 : decode cX11_why 17 = .ok (.iload_n 3, 1) := oc_29 (by decide +kernel)
theorem dX11_why_18 : decode cX11_why 18 = .ok (.invokestatic 67, 3) := oc_184 (a := 0) (b := 67) (by decide +kernel)
theorem dX11_why_21 : decode cX11_why 21 = .ok (.ifCond .ne 5, 3) := oc_154 (a := 0) (b := 5) (by decide +kernel)
theorem dX11_why_26 : decode cX11_why 26 = .ok (.aload_n 0, 1) := oc_42 (by decide +kernel)
theorem dX11_why_27 : decode cX11_why 27 = .ok (.getfield 10, 3) := oc_180 (a := 0) (b := 10) (by decide +kernel)
theorem dX11_why_30 : decode cX11_why 30 = .ok (.getfield 208, 3) := oc_180 (a := 0) (b := 208) (by decide +kernel)
theorem dX11_why_33 : decode cX11_why 33 = .ok (.iconst 1, 1) := oc_4 (by decide +kernel)
theorem dX11_why_34 : decode cX11_why 34 = .ok (.iload_n 1, 1) := oc_27 (by decide +kernel)
theorem dX11_why_35 : decode cX11_why 35 = .ok (.iadd, 1) := oc_96 (by decide +kernel)
theorem dX11_why_36 : decode cX11_why 36 = .ok (.iload_n 3, 1) := oc_29 (by decide +kernel)
theorem dX11_why_37 : decode cX11_why 37 = .ok (.aload_n 0, 1) := oc_42 (by decide +kernel)
theorem dX11_why_38 : decode cX11_why 38 = .ok (.getfield 10, 3) := oc_180 (a := 0) (b := 10) (by decide +kernel)
theorem dX11_why_41 : decode cX11_why 41 = .ok (.getfield 143, 3) := oc_180 (a := 0) (b := 143) (by decide +kernel)
theorem dX11_why_44 : decode cX11_why 44 = .ok (.iload_n 2, 1) := oc_28 (by decide +kernel)
theorem tw_979 : Cond.methodLink RX11 240 yX3_clauseBy ∈ wsL_law := sg_41 _ (List.mem_of_getElem? (i := 19) rfl)
theorem tw_980 : Cond.instanceMethod yX3_clauseBy ∈ wsL_law := sg_41 _ (List.mem_of_getElem? (i := 20) rfl)
theorem tw_981 : Cond.selects RX3 yX3_clauseBy yX3_clauseBy ∈ wsL_law := sg_41 _ (List.mem_of_getElem? (i := 21) rfl)
theorem tw_982 : Cond.code yX3_clauseBy cX3_clauseBy 6 (some .int) ∈ wsL_law := sg_41 _ (List.mem_of_getElem? (i := 22) rfl)
theorem dX11_why_45 : decode cX11_why 45 = .ok (.invokevirtual 240, 3) := oc_182 (a := 0) (b := 240) (by decide +kernel)
theorem dX11_why_48 : decode cX11_why 48 = .ok (.ireturn, 1) := oc_172 (by decide +kernel)
theorem dX11_says_0 : decode cX11_says 0 = .ok (.iload_n 1, 1) := oc_27 (by decide +kernel)
theorem dX11_says_1 : decode cX11_says 1 = .ok (.invokestatic 67, 3) := oc_184 (a := 0) (b := 67) (by decide +kernel)
theorem dX11_says_4 : decode cX11_says 4 = .ok (.ifCond .ne 5, 3) := oc_154 (a := 0) (b := 5) (by decide +kernel)
theorem dX11_says_9 : decode cX11_says 9 = .ok (.iload_n 2, 1) := oc_28 (by decide +kernel)
theorem dX11_says_10 : decode cX11_says 10 = .ok (.tableswitch 62 0 2 #[26, 38, 50], 26) := by decide +kernel
theorem dX11_says_36 : decode cX11_says 36 = .ok (.aload_n 0, 1) := oc_42 (by decide +kernel)
theorem dX11_says_37 : decode cX11_says 37 = .ok (.getfield 10, 3) := oc_180 (a := 0) (b := 10) (by decide +kernel)
theorem dX11_says_40 : decode cX11_says 40 = .ok (.getfield 208, 3) := oc_180 (a := 0) (b := 208) (by decide +kernel)
theorem dX11_says_43 : decode cX11_says 43 = .ok (.iload_n 1, 1) := oc_27 (by decide +kernel)
theorem tw_991 : Cond.methodLink RX11 244 yX3_councilIn ∈ wsL_law := sg_42 _ (List.mem_of_getElem? (i := 7) rfl)
theorem dX11_says_44 : decode cX11_says 44 = .ok (.invokevirtual 244, 3) := oc_182 (a := 0) (b := 244) (by decide +kernel)
theorem dX11_says_47 : decode cX11_says 47 = .ok (.ireturn, 1) := oc_172 (by decide +kernel)
theorem dX11_says_48 : decode cX11_says 48 = .ok (.aload_n 0, 1) := oc_42 (by decide +kernel)
theorem dX11_says_49 : decode cX11_says 49 = .ok (.getfield 10, 3) := oc_180 (a := 0) (b := 10) (by decide +kernel)
theorem dX11_says_52 : decode cX11_says 52 = .ok (.getfield 208, 3) := oc_180 (a := 0) (b := 208) (by decide +kernel)
theorem dX11_says_55 : decode cX11_says 55 = .ok (.iload_n 1, 1) := oc_27 (by decide +kernel)
theorem tw_1004 : Cond.methodLink RX11 247 yX3_leaveIn ∈ wsL_law := sg_42 _ (List.mem_of_getElem? (i := 20) rfl)
theorem dX11_says_56 : decode cX11_says 56 = .ok (.invokevirtual 247, 3) := oc_182 (a := 0) (b := 247) (by decide +kernel)
theorem dX11_says_59 : decode cX11_says 59 = .ok (.ireturn, 1) := oc_172 (by decide +kernel)
theorem dX11_says_60 : decode cX11_says 60 = .ok (.aload_n 0, 1) := oc_42 (by decide +kernel)
theorem dX11_says_61 : decode cX11_says 61 = .ok (.getfield 10, 3) := oc_180 (a := 0) (b := 10) (by decide +kernel)
theorem dX11_says_64 : decode cX11_says 64 = .ok (.getfield 208, 3) := oc_180 (a := 0) (b := 208) (by decide +kernel)
theorem dX11_says_67 : decode cX11_says 67 = .ok (.iload_n 1, 1) := oc_27 (by decide +kernel)
theorem tw_1008 : Cond.methodLink RX11 250 yX3_fixIn ∈ wsL_law := sg_43 _ (List.mem_of_getElem? (i := 0) rfl)
theorem dX11_says_68 : decode cX11_says 68 = .ok (.invokevirtual 250, 3) := oc_182 (a := 0) (b := 250) (by decide +kernel)
theorem dX11_says_71 : decode cX11_says 71 = .ok (.ireturn, 1) := oc_172 (by decide +kernel)
theorem dX11_says_72 : decode cX11_says 72 = .ok (.iconst (-1), 1) := oc_2 (by decide +kernel)
theorem dX11_says_73 : decode cX11_says 73 = .ok (.ireturn, 1) := oc_172 (by decide +kernel)
theorem dX11_says_7 : decode cX11_says 7 = .ok (.iconst (-1), 1) := oc_2 (by decide +kernel)
theorem dX11_says_8 : decode cX11_says 8 = .ok (.ireturn, 1) := oc_172 (by decide +kernel)
theorem dX11_sail_0 : decode cX11_sail 0 = .ok (.iload_n 1, 1) := oc_27 (by decide +kernel)
theorem dX11_sail_1 : decode cX11_sail 1 = .ok (.iconst 0, 1) := oc_3 (by decide +kernel)
theorem dX11_sail_2 : decode cX11_sail 2 = .ok (.bipush 40, 2) := oc_16 (a := 40) (by decide +kernel)
theorem dX11_sail_4 : decode cX11_sail 4 = .ok (.invokestatic 50, 3) := oc_184 (a := 0) (b := 50) (by decide +kernel)
theorem dX11_sail_20 : decode cX11_sail 20 = .ok (.iconst 0, 1) := oc_3 (by decide +kernel)
theorem dX11_sail_21 : decode cX11_sail 21 = .ok (.ireturn, 1) := oc_172 (by decide +kernel)
theorem dX11_sail_7 : decode cX11_sail 7 = .ok (.ifCond .eq 13, 3) := oc_153 (a := 0) (b := 13) (by decide +kernel)
theorem dX11_sail_10 : decode cX11_sail 10 = .ok (.iload_n 2, 1) := oc_28 (by decide +kernel)
theorem dX11_sail_11 : decode cX11_sail 11 = .ok (.iconst 0, 1) := oc_3 (by decide +kernel)
theorem tw_1024 : Cond.constant RX11 253 (100000) ∈ wsL_law := sg_43 _ (List.mem_of_getElem? (i := 16) rfl)
theorem dX11_sail_12 : decode cX11_sail 12 = .ok (.ldc 253, 2) := oc_18 (by decide +kernel)
theorem dX11_sail_14 : decode cX11_sail 14 = .ok (.invokestatic 50, 3) := oc_184 (a := 0) (b := 50) (by decide +kernel)
theorem dX11_sail_17 : decode cX11_sail 17 = .ok (.ifCond .ne 5, 3) := oc_154 (a := 0) (b := 5) (by decide +kernel)
theorem dX11_sail_22 : decode cX11_sail 22 = .ok (.aload_n 0, 1) := oc_42 (by decide +kernel)
theorem dX11_sail_23 : decode cX11_sail 23 = .ok (.getfield 10, 3) := oc_180 (a := 0) (b := 10) (by decide +kernel)
theorem dX11_sail_26 : decode cX11_sail 26 = .ok (.iload_n 1, 1) := oc_27 (by decide +kernel)
theorem tw_1025 : Cond.fieldLink RX11 254 "RingsUnder$World" "boats" "I" ∈ wsL_law := sg_43 _ (List.mem_of_getElem? (i := 17) rfl)
theorem dX11_sail_27 : decode cX11_sail 27 = .ok (.putfield 254, 3) := oc_181 (a := 0) (b := 254) (by decide +kernel)
theorem dX11_sail_30 : decode cX11_sail 30 = .ok (.aload_n 0, 1) := oc_42 (by decide +kernel)
theorem dX11_sail_31 : decode cX11_sail 31 = .ok (.getfield 10, 3) := oc_180 (a := 0) (b := 10) (by decide +kernel)
theorem dX11_sail_34 : decode cX11_sail 34 = .ok (.dup, 1) := oc_89 (by decide +kernel)
theorem tw_1026 : Cond.fieldLink RX11 257 "RingsUnder$World" "fund" "I" ∈ wsL_law := sg_43 _ (List.mem_of_getElem? (i := 18) rfl)
theorem dX11_sail_35 : decode cX11_sail 35 = .ok (.getfield 257, 3) := oc_180 (a := 1) (b := 1) (by decide +kernel)
theorem dX11_sail_38 : decode cX11_sail 38 = .ok (.iload_n 2, 1) := oc_28 (by decide +kernel)
theorem dX11_sail_39 : decode cX11_sail 39 = .ok (.iadd, 1) := oc_96 (by decide +kernel)
theorem dX11_sail_40 : decode cX11_sail 40 = .ok (.putfield 257, 3) := oc_181 (a := 1) (b := 1) (by decide +kernel)
theorem dX11_sail_43 : decode cX11_sail 43 = .ok (.iconst 1, 1) := oc_4 (by decide +kernel)
theorem dX11_sail_44 : decode cX11_sail 44 = .ok (.ireturn, 1) := oc_172 (by decide +kernel)
theorem dX11_canGoBy_0 : decode cX11_canGoBy 0 = .ok (.iload_n 1, 1) := oc_27 (by decide +kernel)
theorem dX11_canGoBy_1 : decode cX11_canGoBy 1 = .ok (.invokestatic 64, 3) := oc_184 (a := 0) (b := 64) (by decide +kernel)
theorem dX11_canGoBy_35 : decode cX11_canGoBy 35 = .ok (.iconst 0, 1) := oc_3 (by decide +kernel)
theorem dX11_canGoBy_36 : decode cX11_canGoBy 36 = .ok (.ireturn, 1) := oc_172 (by decide +kernel)
theorem dX11_canGoBy_4 : decode cX11_canGoBy 4 = .ok (.ifCond .eq 31, 3) := oc_153 (a := 0) (b := 31) (by decide +kernel)
theorem dX11_canGoBy_7 : decode cX11_canGoBy 7 = .ok (.iload_n 2, 1) := oc_28 (by decide +kernel)
theorem dX11_canGoBy_8 : decode cX11_canGoBy 8 = .ok (.iconst 1, 1) := oc_4 (by decide +kernel)
theorem dX11_canGoBy_9 : decode cX11_canGoBy 9 = .ok (.iload_n 3, 1) := oc_29 (by decide +kernel)
theorem dX11_canGoBy_10 : decode cX11_canGoBy 10 = .ok (.invokestatic 50, 3) := oc_184 (a := 0) (b := 50) (by decide +kernel)
theorem dX11_canGoBy_13 : decode cX11_canGoBy 13 = .ok (.ifCond .eq 22, 3) := oc_153 (a := 0) (b := 22) (by decide +kernel)
theorem dX11_canGoBy_16 : decode cX11_canGoBy 16 = .ok (.aload_n 0, 1) := oc_42 (by decide +kernel)
theorem dX11_canGoBy_17 : decode cX11_canGoBy 17 = .ok (.getfield 10, 3) := oc_180 (a := 0) (b := 10) (by decide +kernel)
theorem dX11_canGoBy_20 : decode cX11_canGoBy 20 = .ok (.getfield 54, 3) := oc_180 (a := 0) (b := 54) (by decide +kernel)
theorem dX11_canGoBy_23 : decode cX11_canGoBy 23 = .ok (.iload_n 2, 1) := oc_28 (by decide +kernel)
theorem dX11_canGoBy_24 : decode cX11_canGoBy 24 = .ok (.iadd, 1) := oc_96 (by decide +kernel)
theorem dX11_canGoBy_25 : decode cX11_canGoBy 25 = .ok (.sipush 600, 3) := oc_17 (a := 2) (b := 88) (by decide +kernel)
theorem dX11_canGoBy_28 : decode cX11_canGoBy 28 = .ok (.if_icmp .gt 7, 3) := oc_163 (a := 0) (b := 7) (by decide +kernel)
theorem dX11_canGoBy_31 : decode cX11_canGoBy 31 = .ok (.iconst 1, 1) := oc_4 (by decide +kernel)
theorem dX11_canGoBy_32 : decode cX11_canGoBy 32 = .ok (.goto 4, 3) := oc_167 (a := 0) (b := 4) (by decide +kernel)
theorem dX11_months_0 : decode cX11_months 0 = .ok (.aload_n 0, 1) := oc_42 (by decide +kernel)
theorem dX11_months_1 : decode cX11_months 1 = .ok (.iload_n 2, 1) := oc_28 (by decide +kernel)
theorem dX11_months_2 : decode cX11_months 2 = .ok (.iload_n 1, 1) := oc_27 (by decide +kernel)
theorem dX11_months_3 : decode cX11_months 3 = .ok (.bipush 60, 2) := oc_16 (a := 60) (by decide +kernel)
theorem tw_1035 : Cond.methodLink RX11 260 yX11_canGoBy ∈ wsL_law := sg_44 _ (List.mem_of_getElem? (i := 3) rfl)
theorem tw_1036 : Cond.instanceMethod yX11_canGoBy ∈ wsL_law := sg_44 _ (List.mem_of_getElem? (i := 4) rfl)
theorem tw_1037 : Cond.selects RX11 yX11_canGoBy yX11_canGoBy ∈ wsL_law := sg_44 _ (List.mem_of_getElem? (i := 5) rfl)
theorem tw_1038 : Cond.code yX11_canGoBy cX11_canGoBy 4 (some .boolean) ∈ wsL_law := sg_44 _ (List.mem_of_getElem? (i := 6) rfl)
theorem dX11_months_5 : decode cX11_months 5 = .ok (.invokevirtual 260, 3) := oc_182 (a := 1) (b := 4) (by decide +kernel)
theorem dX11_months_8 : decode cX11_months 8 = .ok (.ifCond .ne 5, 3) := oc_154 (a := 0) (b := 5) (by decide +kernel)
theorem dX11_months_13 : decode cX11_months 13 = .ok (.iconst 0, 1) := oc_3 (by decide +kernel)
theorem dX11_months_14 : decode cX11_months 14 = .ok (.istore_n 3, 1) := oc_62 (by decide +kernel)
theorem dX11_months_15 : decode cX11_months 15 = .ok (.iload_n 3, 1) := oc_29 (by decide +kernel)
theorem dX11_months_16 : decode cX11_months 16 = .ok (.iload_n 1, 1) := oc_27 (by decide +kernel)
theorem dX11_months_17 : decode cX11_months 17 = .ok (.if_icmp .ge 17, 3) := oc_162 (a := 0) (b := 17) (by decide +kernel)
theorem dX11_months_34 : decode cX11_months 34 = .ok (.aload_n 0, 1) := oc_42 (by decide +kernel)
theorem dX11_months_35 : decode cX11_months 35 = .ok (.getfield 10, 3) := oc_180 (a := 0) (b := 10) (by decide +kernel)
theorem dX11_months_38 : decode cX11_months 38 = .ok (.getfield 54, 3) := oc_180 (a := 0) (b := 54) (by decide +kernel)
theorem dX11_months_41 : decode cX11_months 41 = .ok (.ireturn, 1) := oc_172 (by decide +kernel)
theorem dX11_months_20 : decode cX11_months 20 = .ok (.aload_n 0, 1) := oc_42 (by decide +kernel)
theorem dX11_months_21 : decode cX11_months 21 = .ok (.getfield 10, 3) := oc_180 (a := 0) (b := 10) (by decide +kernel)
theorem dX11_months_24 : decode cX11_months 24 = .ok (.iload_n 2, 1) := oc_28 (by decide +kernel)
theorem tw_1039 : Cond.methodLink RX11 263 yX10_goBy ∈ wsL_law := sg_44 _ (List.mem_of_getElem? (i := 7) rfl)
theorem tw_1040 : Cond.instanceMethod yX10_goBy ∈ wsL_law := sg_44 _ (List.mem_of_getElem? (i := 8) rfl)
theorem tw_1041 : Cond.selects RX10 yX10_goBy yX10_goBy ∈ wsL_law := sg_44 _ (List.mem_of_getElem? (i := 9) rfl)
theorem tw_1042 : Cond.code yX10_goBy cX10_goBy 4 none ∈ wsL_law := sg_44 _ (List.mem_of_getElem? (i := 10) rfl)
theorem dX11_months_25 : decode cX11_months 25 = .ok (.invokevirtual 263, 3) := oc_182 (a := 1) (b := 7) (by decide +kernel)
theorem dX11_months_28 : decode cX11_months 28 = .ok (.iinc 3 1, 3) := oc_132 (b := 1) (by decide +kernel)
theorem dX11_months_31 : decode cX11_months 31 = .ok (.goto (-16), 3) := oc_167 (a := 255) (b := 240) (by decide +kernel)
theorem dX11_months_11 : decode cX11_months 11 = .ok (.iconst (-1), 1) := oc_2 (by decide +kernel)
theorem dX11_months_12 : decode cX11_months 12 = .ok (.ireturn, 1) := oc_172 (by decide +kernel)
theorem dX11_sinks_0 : decode cX11_sinks 0 = .ok (.aload_n 0, 1) := oc_42 (by decide +kernel)
theorem dX11_sinks_1 : decode cX11_sinks 1 = .ok (.iload_n 1, 1) := oc_27 (by decide +kernel)
theorem dX11_sinks_2 : decode cX11_sinks 2 = .ok (.invokevirtual 119, 3) := oc_182 (a := 0) (b := 119) (by decide +kernel)
theorem dX11_sinks_19 : decode cX11_sinks 19 = .ok (.iconst (-1), 1) := oc_2 (by decide +kernel)
theorem dX11_sinks_20 : decode cX11_sinks 20 = .ok (.ireturn, 1) := oc_172 (by decide +kernel)
theorem dX11_sinks_5 : decode cX11_sinks 5 = .ok (.ifCond .eq 14, 3) := oc_153 (a := 0) (b := 14) (by decide +kernel)
theorem dX11_sinks_8 : decode cX11_sinks 8 = .ok (.aload_n 0, 1) := oc_42 (by decide +kernel)
theorem dX11_sinks_9 : decode cX11_sinks 9 = .ok (.iload_n 2, 1) := oc_28 (by decide +kernel)
theorem dX11_sinks_10 : decode cX11_sinks 10 = .ok (.iload_n 3, 1) := oc_29 (by decide +kernel)
theorem dX11_sinks_11 : decode cX11_sinks 11 = .ok (.bipush 60, 2) := oc_16 (a := 60) (by decide +kernel)
theorem dX11_sinks_13 : decode cX11_sinks 13 = .ok (.invokevirtual 260, 3) := oc_182 (a := 1) (b := 4) (by decide +kernel)
theorem dX11_sinks_16 : decode cX11_sinks 16 = .ok (.ifCond .ne 5, 3) := oc_154 (a := 0) (b := 5) (by decide +kernel)
theorem dX11_sinks_21 : decode cX11_sinks 21 = .ok (.aload_n 0, 1) := oc_42 (by decide +kernel)
theorem tw_18 : Cond.fieldLink RX11 19 "RingsUnder" "trial" "LRingsUnder$World;" ∈ wsL_law := sg_1 _ (List.mem_of_getElem? (i := 18) rfl)
theorem dX11_sinks_22 : decode cX11_sinks 22 = .ok (.getfield 19, 3) := oc_180 (a := 0) (b := 19) (by decide +kernel)
theorem dX11_sinks_25 : decode cX11_sinks 25 = .ok (.aload_n 0, 1) := oc_42 (by decide +kernel)
theorem dX11_sinks_26 : decode cX11_sinks 26 = .ok (.getfield 10, 3) := oc_180 (a := 0) (b := 10) (by decide +kernel)
theorem tw_1362 : Cond.methodLink RX11 266 yX10_copyFrom ∈ wsL_law := sg_57 _ (List.mem_of_getElem? (i := 18) rfl)
theorem tw_1363 : Cond.instanceMethod yX10_copyFrom ∈ wsL_law := sg_57 _ (List.mem_of_getElem? (i := 19) rfl)
theorem tw_1364 : Cond.selects RX10 yX10_copyFrom yX10_copyFrom ∈ wsL_law := sg_57 _ (List.mem_of_getElem? (i := 20) rfl)
theorem tw_1365 : Cond.code yX10_copyFrom cX10_copyFrom 2 none ∈ wsL_law := sg_57 _ (List.mem_of_getElem? (i := 21) rfl)
theorem dX11_sinks_29 : decode cX11_sinks 29 = .ok (.invokevirtual 266, 3) := oc_182 (a := 1) (b := 10) (by decide +kernel)
theorem dX11_sinks_32 : decode cX11_sinks 32 = .ok (.iconst 0, 1) := oc_3 (by decide +kernel)
theorem dX11_sinks_33 : decode cX11_sinks 33 = .ok (.istore 4, 2) := oc_54 (by decide +kernel)
theorem dX11_sinks_35 : decode cX11_sinks 35 = .ok (.iload 4, 2) := oc_21 (by decide +kernel)
theorem dX11_sinks_37 : decode cX11_sinks 37 = .ok (.iload_n 3, 1) := oc_29 (by decide +kernel)
theorem dX11_sinks_38 : decode cX11_sinks 38 = .ok (.if_icmp .ge 52, 3) := oc_162 (a := 0) (b := 52) (by decide +kernel)
theorem dX11_sinks_90 : decode cX11_sinks 90 = .ok (.iconst (-1), 1) := oc_2 (by decide +kernel)
theorem dX11_sinks_91 : decode cX11_sinks 91 = .ok (.ireturn, 1) := oc_172 (by decide +kernel)
theorem dX11_sinks_41 : decode cX11_sinks 41 = .ok (.aload_n 0, 1) := oc_42 (by decide +kernel)
theorem dX11_sinks_42 : decode cX11_sinks 42 = .ok (.getfield 19, 3) := oc_180 (a := 0) (b := 19) (by decide +kernel)
theorem dX11_sinks_45 : decode cX11_sinks 45 = .ok (.iload_n 2, 1) := oc_28 (by decide +kernel)
theorem tw_1395 : Cond.methodLink RX11 270 yX10_nature ∈ wsL_law := sg_59 _ (List.mem_of_getElem? (i := 3) rfl)
theorem dX11_sinks_46 : decode cX11_sinks 46 = .ok (.invokevirtual 270, 3) := oc_182 (a := 1) (b := 14) (by decide +kernel)
theorem dX11_sinks_49 : decode cX11_sinks 49 = .ok (.aload_n 0, 1) := oc_42 (by decide +kernel)
theorem dX11_sinks_50 : decode cX11_sinks 50 = .ok (.getfield 19, 3) := oc_180 (a := 0) (b := 19) (by decide +kernel)
theorem dX11_sinks_53 : decode cX11_sinks 53 = .ok (.getfield 36, 3) := oc_180 (a := 0) (b := 36) (by decide +kernel)
theorem dX11_sinks_56 : decode cX11_sinks 56 = .ok (.iload_n 1, 1) := oc_27 (by decide +kernel)
theorem tw_1396 : Cond.methodLink RX11 273 yX2_isDry ∈ wsL_law := sg_59 _ (List.mem_of_getElem? (i := 4) rfl)
theorem dX11_sinks_57 : decode cX11_sinks 57 = .ok (.invokevirtual 273, 3) := oc_182 (a := 1) (b := 17) (by decide +kernel)
theorem dX11_sinks_60 : decode cX11_sinks 60 = .ok (.ifCond .ne 11, 3) := oc_154 (a := 0) (b := 11) (by decide +kernel)
theorem dX11_sinks_71 : decode cX11_sinks 71 = .ok (.aload_n 0, 1) := oc_42 (by decide +kernel)
theorem dX11_sinks_72 : decode cX11_sinks 72 = .ok (.getfield 19, 3) := oc_180 (a := 0) (b := 19) (by decide +kernel)
theorem dX11_sinks_75 : decode cX11_sinks 75 = .ok (.dup, 1) := oc_89 (by decide +kernel)
theorem dX11_sinks_76 : decode cX11_sinks 76 = .ok (.getfield 54, 3) := oc_180 (a := 0) (b := 54) (by decide +kernel)
theorem dX11_sinks_79 : decode cX11_sinks 79 = .ok (.iconst 1, 1) := oc_4 (by decide +kernel)
theorem dX11_sinks_80 : decode cX11_sinks 80 = .ok (.iadd, 1) := oc_96 (by decide +kernel)
theorem dX11_sinks_81 : decode cX11_sinks 81 = .ok (.putfield 54, 3) := oc_181 (a := 0) (b := 54) (by decide +kernel)
theorem dX11_sinks_84 : decode cX11_sinks 84 = .ok (.iinc 4 1, 3) := oc_132 (b := 1) (by decide +kernel)
theorem dX11_sinks_87 : decode cX11_sinks 87 = .ok (.goto (-52), 3) := oc_167 (a := 255) (b := 204) (by decide +kernel)
theorem dX11_sinks_63 : decode cX11_sinks 63 = .ok (.aload_n 0, 1) := oc_42 (by decide +kernel)
theorem dX11_sinks_64 : decode cX11_sinks 64 = .ok (.getfield 19, 3) := oc_180 (a := 0) (b := 19) (by decide +kernel)
theorem dX11_sinks_67 : decode cX11_sinks 67 = .ok (.getfield 54, 3) := oc_180 (a := 0) (b := 54) (by decide +kernel)
theorem dX11_sinks_70 : decode cX11_sinks 70 = .ok (.ireturn, 1) := oc_172 (by decide +kernel)
theorem dX11_cant_0 : decode cX11_cant 0 = .ok (.aload_n 0, 1) := oc_42 (by decide +kernel)
theorem dX11_cant_1 : decode cX11_cant 1 = .ok (.iload_n 1, 1) := oc_27 (by decide +kernel)
theorem dX11_cant_2 : decode cX11_cant 2 = .ok (.iload_n 2, 1) := oc_28 (by decide +kernel)
theorem dX11_cant_3 : decode cX11_cant 3 = .ok (.bipush 60, 2) := oc_16 (a := 60) (by decide +kernel)
theorem dX11_cant_5 : decode cX11_cant 5 = .ok (.invokevirtual 260, 3) := oc_182 (a := 1) (b := 4) (by decide +kernel)
theorem dX11_cant_8 : decode cX11_cant 8 = .ok (.ifCond .ne 5, 3) := oc_154 (a := 0) (b := 5) (by decide +kernel)
theorem dX11_cant_13 : decode cX11_cant 13 = .ok (.aload_n 0, 1) := oc_42 (by decide +kernel)
theorem dX11_cant_14 : decode cX11_cant 14 = .ok (.getfield 19, 3) := oc_180 (a := 0) (b := 19) (by decide +kernel)
theorem dX11_cant_17 : decode cX11_cant 17 = .ok (.aload_n 0, 1) := oc_42 (by decide +kernel)
theorem dX11_cant_18 : decode cX11_cant 18 = .ok (.getfield 10, 3) := oc_180 (a := 0) (b := 10) (by decide +kernel)
theorem dX11_cant_21 : decode cX11_cant 21 = .ok (.invokevirtual 266, 3) := oc_182 (a := 1) (b := 10) (by decide +kernel)
theorem dX11_cant_24 : decode cX11_cant 24 = .ok (.aload_n 0, 1) := oc_42 (by decide +kernel)
theorem dX11_cant_25 : decode cX11_cant 25 = .ok (.getfield 19, 3) := oc_180 (a := 0) (b := 19) (by decide +kernel)
theorem dX11_cant_28 : decode cX11_cant 28 = .ok (.iconst (-1), 1) := oc_2 (by decide +kernel)
theorem tw_1405 : Cond.fieldLink RX11 276 "RingsUnder$World" "cantMonth" "I" ∈ wsL_law := sg_59 _ (List.mem_of_getElem? (i := 13) rfl)
theorem dX11_cant_29 : decode cX11_cant 29 = .ok (.putfield 276, 3) := oc_181 (a := 1) (b := 20) (by decide +kernel)
theorem dX11_cant_32 : decode cX11_cant 32 = .ok (.iconst 0, 1) := oc_3 (by decide +kernel)
theorem dX11_cant_33 : decode cX11_cant 33 = .ok (.istore_n 3, 1) := oc_62 (by decide +kernel)
theorem dX11_cant_34 : decode cX11_cant 34 = .ok (.iload_n 3, 1) := oc_29 (by decide +kernel)
theorem dX11_cant_35 : decode cX11_cant 35 = .ok (.iload_n 2, 1) := oc_28 (by decide +kernel)
theorem dX11_cant_84 : decode cX11_cant 84 = .ok (.aload_n 0, 1) := oc_42 (by decide +kernel)
theorem dX11_cant_85 : decode cX11_cant 85 = .ok (.getfield 19, 3) := oc_180 (a := 0) (b := 19) (by decide +kernel)
theorem dX11_cant_88 : decode cX11_cant 88 = .ok (.getfield 276, 3) := oc_180 (a := 1) (b := 20) (by decide +kernel)
theorem dX11_cant_91 : decode cX11_cant 91 = .ok (.ireturn, 1) := oc_172 (by decide +kernel)
theorem dX11_cant_36 : decode cX11_cant 36 = .ok (.if_icmp .ge 48, 3) := oc_162 (a := 0) (b := 48) (by decide +kernel)
theorem dX11_cant_39 : decode cX11_cant 39 = .ok (.aload_n 0, 1) := oc_42 (by decide +kernel)
theorem dX11_cant_40 : decode cX11_cant 40 = .ok (.getfield 19, 3) := oc_180 (a := 0) (b := 19) (by decide +kernel)
theorem dX11_cant_43 : decode cX11_cant 43 = .ok (.getfield 276, 3) := oc_180 (a := 1) (b := 20) (by decide +kernel)
theorem dX11_cant_46 : decode cX11_cant 46 = .ok (.iconst (-1), 1) := oc_2 (by decide +kernel)
theorem dX11_cant_47 : decode cX11_cant 47 = .ok (.if_icmp .ne 37, 3) := oc_160 (a := 0) (b := 37) (by decide +kernel)
theorem dX11_cant_50 : decode cX11_cant 50 = .ok (.aload_n 0, 1) := oc_42 (by decide +kernel)
theorem dX11_cant_51 : decode cX11_cant 51 = .ok (.getfield 19, 3) := oc_180 (a := 0) (b := 19) (by decide +kernel)
theorem dX11_cant_54 : decode cX11_cant 54 = .ok (.iload_n 1, 1) := oc_27 (by decide +kernel)
theorem dX11_cant_55 : decode cX11_cant 55 = .ok (.invokevirtual 270, 3) := oc_182 (a := 1) (b := 14) (by decide +kernel)
theorem dX11_cant_58 : decode cX11_cant 58 = .ok (.aload_n 0, 1) := oc_42 (by decide +kernel)
theorem dX11_cant_59 : decode cX11_cant 59 = .ok (.getfield 19, 3) := oc_180 (a := 0) (b := 19) (by decide +kernel)
theorem tw_1406 : Cond.methodLink RX11 279 yX10_reckon ∈ wsL_law := sg_59 _ (List.mem_of_getElem? (i := 14) rfl)
theorem dX11_cant_62 : decode cX11_cant 62 = .ok (.invokevirtual 279, 3) := oc_182 (a := 1) (b := 23) (by decide +kernel)
theorem dX11_cant_65 : decode cX11_cant 65 = .ok (.aload_n 0, 1) := oc_42 (by decide +kernel)
theorem dX11_cant_66 : decode cX11_cant 66 = .ok (.getfield 19, 3) := oc_180 (a := 0) (b := 19) (by decide +kernel)
theorem dX11_cant_69 : decode cX11_cant 69 = .ok (.dup, 1) := oc_89 (by decide +kernel)
theorem dX11_cant_70 : decode cX11_cant 70 = .ok (.getfield 54, 3) := oc_180 (a := 0) (b := 54) (by decide +kernel)
theorem dX11_cant_73 : decode cX11_cant 73 = .ok (.iconst 1, 1) := oc_4 (by decide +kernel)
theorem dX11_cant_74 : decode cX11_cant 74 = .ok (.iadd, 1) := oc_96 (by decide +kernel)
theorem dX11_cant_75 : decode cX11_cant 75 = .ok (.putfield 54, 3) := oc_181 (a := 0) (b := 54) (by decide +kernel)
theorem dX11_cant_78 : decode cX11_cant 78 = .ok (.iinc 3 1, 3) := oc_132 (b := 1) (by decide +kernel)
theorem dX11_cant_81 : decode cX11_cant 81 = .ok (.goto (-47), 3) := oc_167 (a := 255) (b := 209) (by decide +kernel)
theorem dX11_cant_11 : decode cX11_cant 11 = .ok (.iconst (-1), 1) := oc_2 (by decide +kernel)
theorem dX11_cant_12 : decode cX11_cant 12 = .ok (.ireturn, 1) := oc_172 (by decide +kernel)
theorem dX11_keeps_0 : decode cX11_keeps 0 = .ok (.aload_n 0, 1) := oc_42 (by decide +kernel)
theorem dX11_keeps_1 : decode cX11_keeps 1 = .ok (.iload_n 1, 1) := oc_27 (by decide +kernel)
theorem dX11_keeps_2 : decode cX11_keeps 2 = .ok (.invokevirtual 119, 3) := oc_182 (a := 0) (b := 119) (by decide +kernel)
theorem dX11_keeps_33 : decode cX11_keeps 33 = .ok (.istore 5, 2) := oc_54 (by decide +kernel)
theorem dX11_keeps_35 : decode cX11_keeps 35 = .ok (.iload 5, 2) := oc_21 (by decide +kernel)
theorem dX11_keeps_55 : decode cX11_keeps 55 = .ok (.ldc 83, 2) := oc_18 (by decide +kernel)
theorem dX11_keeps_57 : decode cX11_keeps 57 = .ok (.ireturn, 1) := oc_172 (by decide +kernel)
theorem dX11_keeps_37 : decode cX11_keeps 37 = .ok (.ifCond .eq 18, 3) := oc_153 (a := 0) (b := 18) (by decide +kernel)
theorem dX11_keeps_40 : decode cX11_keeps 40 = .ok (.aload_n 0, 1) := oc_42 (by decide +kernel)
theorem dX11_keeps_41 : decode cX11_keeps 41 = .ok (.getfield 10, 3) := oc_180 (a := 0) (b := 10) (by decide +kernel)
theorem dX11_keeps_44 : decode cX11_keeps 44 = .ok (.getfield 36, 3) := oc_180 (a := 0) (b := 36) (by decide +kernel)
theorem dX11_keeps_47 : decode cX11_keeps 47 = .ok (.getfield 122, 3) := oc_180 (a := 0) (b := 122) (by decide +kernel)
theorem dX11_keeps_50 : decode cX11_keeps 50 = .ok (.iload_n 1, 1) := oc_27 (by decide +kernel)
theorem dX11_keeps_51 : decode cX11_keeps 51 = .ok (.iaload, 1) := oc_46 (by decide +kernel)
theorem dX11_keeps_52 : decode cX11_keeps 52 = .ok (.ifCond .ne 6, 3) := oc_154 (a := 0) (b := 6) (by decide +kernel)
theorem dX11_keeps_58 : decode cX11_keeps 58 = .ok (.aload_n 0, 1) := oc_42 (by decide +kernel)
theorem dX11_keeps_59 : decode cX11_keeps 59 = .ok (.getfield 19, 3) := oc_180 (a := 0) (b := 19) (by decide +kernel)
theorem dX11_keeps_62 : decode cX11_keeps 62 = .ok (.aload_n 0, 1) := oc_42 (by decide +kernel)
theorem dX11_keeps_63 : decode cX11_keeps 63 = .ok (.getfield 10, 3) := oc_180 (a := 0) (b := 10) (by decide +kernel)
theorem dX11_keeps_66 : decode cX11_keeps 66 = .ok (.invokevirtual 266, 3) := oc_182 (a := 1) (b := 10) (by decide +kernel)
theorem dX11_keeps_69 : decode cX11_keeps 69 = .ok (.aload_n 0, 1) := oc_42 (by decide +kernel)
theorem dX11_keeps_70 : decode cX11_keeps 70 = .ok (.getfield 19, 3) := oc_180 (a := 0) (b := 19) (by decide +kernel)
theorem dX11_keeps_73 : decode cX11_keeps 73 = .ok (.iload 4, 2) := oc_21 (by decide +kernel)
theorem dX11_keeps_75 : decode cX11_keeps 75 = .ok (.iload_n 2, 1) := oc_28 (by decide +kernel)
theorem tw_1415 : Cond.methodLink RX11 282 yX10_sandBehind ∈ wsL_law := sg_59 _ (List.mem_of_getElem? (i := 23) rfl)
theorem tw_1416 : Cond.instanceMethod yX10_sandBehind ∈ wsL_law := sg_60 _ (List.mem_of_getElem? (i := 0) rfl)
theorem tw_1417 : Cond.selects RX10 yX10_sandBehind yX10_sandBehind ∈ wsL_law := sg_60 _ (List.mem_of_getElem? (i := 1) rfl)
theorem tw_1418 : Cond.code yX10_sandBehind cX10_sandBehind 4 (some .int) ∈ wsL_law := sg_60 _ (List.mem_of_getElem? (i := 2) rfl)
theorem dX11_keeps_76 : decode cX11_keeps 76 = .ok (.invokevirtual 282, 3) := oc_182 (a := 1) (b := 26) (by decide +kernel)
theorem dX11_keeps_79 : decode cX11_keeps 79 = .ok (.istore 6, 2) := oc_54 (by decide +kernel)
theorem dX11_keeps_81 : decode cX11_keeps 81 = .ok (.aload_n 0, 1) := oc_42 (by decide +kernel)
theorem dX11_keeps_82 : decode cX11_keeps 82 = .ok (.getfield 19, 3) := oc_180 (a := 0) (b := 19) (by decide +kernel)
theorem dX11_keeps_85 : decode cX11_keeps 85 = .ok (.aload_n 0, 1) := oc_42 (by decide +kernel)
theorem dX11_keeps_86 : decode cX11_keeps 86 = .ok (.getfield 10, 3) := oc_180 (a := 0) (b := 10) (by decide +kernel)
theorem dX11_keeps_89 : decode cX11_keeps 89 = .ok (.invokevirtual 266, 3) := oc_182 (a := 1) (b := 10) (by decide +kernel)
theorem dX11_keeps_92 : decode cX11_keeps 92 = .ok (.aload_n 0, 1) := oc_42 (by decide +kernel)
theorem dX11_keeps_93 : decode cX11_keeps 93 = .ok (.getfield 19, 3) := oc_180 (a := 0) (b := 19) (by decide +kernel)
theorem dX11_keeps_96 : decode cX11_keeps 96 = .ok (.getfield 36, 3) := oc_180 (a := 0) (b := 36) (by decide +kernel)
theorem dX11_keeps_99 : decode cX11_keeps 99 = .ok (.getfield 122, 3) := oc_180 (a := 0) (b := 122) (by decide +kernel)
theorem dX11_keeps_102 : decode cX11_keeps 102 = .ok (.iload_n 1, 1) := oc_27 (by decide +kernel)
theorem dX11_keeps_103 : decode cX11_keeps 103 = .ok (.iconst 0, 1) := oc_3 (by decide +kernel)
theorem dX11_keeps_104 : decode cX11_keeps 104 = .ok (.iastore, 1) := oc_79 (by decide +kernel)
theorem dX11_keeps_105 : decode cX11_keeps 105 = .ok (.iload 6, 2) := oc_21 (by decide +kernel)
theorem dX11_keeps_107 : decode cX11_keeps 107 = .ok (.aload_n 0, 1) := oc_42 (by decide +kernel)
theorem dX11_keeps_108 : decode cX11_keeps 108 = .ok (.getfield 19, 3) := oc_180 (a := 0) (b := 19) (by decide +kernel)
theorem dX11_keeps_111 : decode cX11_keeps 111 = .ok (.iload 4, 2) := oc_21 (by decide +kernel)
theorem dX11_keeps_113 : decode cX11_keeps 113 = .ok (.iload_n 2, 1) := oc_28 (by decide +kernel)
theorem dX11_keeps_114 : decode cX11_keeps 114 = .ok (.invokevirtual 282, 3) := oc_182 (a := 1) (b := 26) (by decide +kernel)
theorem dX11_keeps_117 : decode cX11_keeps 117 = .ok (.isub, 1) := oc_100 (by decide +kernel)
theorem dX11_keeps_118 : decode cX11_keeps 118 = .ok (.ireturn, 1) := oc_172 (by decide +kernel)
theorem dX11_keeps_32 : decode cX11_keeps 32 = .ok (.iconst 0, 1) := oc_3 (by decide +kernel)
theorem dX11_keeps_5 : decode cX11_keeps 5 = .ok (.ifCond .eq 27, 3) := oc_153 (a := 0) (b := 27) (by decide +kernel)
theorem dX11_keeps_8 : decode cX11_keeps 8 = .ok (.aload_n 0, 1) := oc_42 (by decide +kernel)
theorem dX11_keeps_9 : decode cX11_keeps 9 = .ok (.iload_n 2, 1) := oc_28 (by decide +kernel)
theorem dX11_keeps_10 : decode cX11_keeps 10 = .ok (.invokevirtual 119, 3) := oc_182 (a := 0) (b := 119) (by decide +kernel)
theorem dX11_keeps_13 : decode cX11_keeps 13 = .ok (.ifCond .eq 19, 3) := oc_153 (a := 0) (b := 19) (by decide +kernel)
theorem dX11_keeps_16 : decode cX11_keeps 16 = .ok (.aload_n 0, 1) := oc_42 (by decide +kernel)
theorem dX11_keeps_17 : decode cX11_keeps 17 = .ok (.iload_n 3, 1) := oc_29 (by decide +kernel)
theorem dX11_keeps_18 : decode cX11_keeps 18 = .ok (.iload 4, 2) := oc_21 (by decide +kernel)
theorem dX11_keeps_20 : decode cX11_keeps 20 = .ok (.bipush 60, 2) := oc_16 (a := 60) (by decide +kernel)
theorem dX11_keeps_22 : decode cX11_keeps 22 = .ok (.invokevirtual 260, 3) := oc_182 (a := 1) (b := 4) (by decide +kernel)
theorem dX11_keeps_25 : decode cX11_keeps 25 = .ok (.ifCond .eq 7, 3) := oc_153 (a := 0) (b := 7) (by decide +kernel)
theorem dX11_keeps_28 : decode cX11_keeps 28 = .ok (.iconst 1, 1) := oc_4 (by decide +kernel)
theorem dX11_keeps_29 : decode cX11_keeps 29 = .ok (.goto 4, 3) := oc_167 (a := 0) (b := 4) (by decide +kernel)
set_option maxHeartbeats 4000000 in
set_option maxRecDepth 100000 in
theorem s_X11_fault (l : Launch) (D : va_G) (t : pq_T) (σ : pq_S) (I : Nat → Nat → Int32) (J : Nat → Nat → Int64) (ri : Nat → Nat → Int32) (rj : Nat → Nat → Int64) (rq : Nat → Nat → Option Nat) (sz : Nat) (tg : Nat → Nat) (hSH : SH σ tg) (hG0 : GS tg σ I ri rq) (this : Nat) (a0 : Int32) (hL_this : this ∈ σ.1) (hK_this : σ.2.1 this = 11) : MetI l yX11_fault (wa yX11_fault cX11_fault 2 (some .int)) ({ frames := 0, cells := 0, slots := 0, locals := 0 }) [.ref this, .int a0] D t σ (I, J, ri, rj, rq) sz 0 0 (fun (r : Int32) (u : pq_S × pq_M) => u = (σ, I, J, ri, rj, rq)) := by
  refine Met.ofW (cc := cX11_fault) (maxL := 2) (ret := (some .int)) (by decide) rfl ?_
  intro p e s m args below meth c s₁ B hml hv
  obtain ⟨rfl, hsz, hP, hK, hD0, hN⟩ := hv
  have hx := B.exec
  have hb := B.bytes
  have hr := B.returns
  have hts := atoms_spec (ws := (wa yX11_fault cX11_fault 2 (some .int))) B.pre
  have hown : s.vm.findClass RX11 = some m.cls := findClass_of_methodNamed B.named
  have hlocks := B.notSynchronized
  subst hsz
  have hD : va_D (pq_B t σ (I, J, ri, rj, rq) s.heap.size) (pq_P t σ (I, J, ri, rj, rq)) := hD0.self
  generalize hAe : pq_B t σ (I, J, ri, rj, rq) s.heap.size = A at hD ⊢
  have hA : ∀ q : Nat, s.heap.size ≤ q → A q := fun q h => by rw [← hAe]; exact Or.inr h
  have hS : va_S A s.heap s.heap [] := va_S.rf
  have hG : GX [] tg σ I ri rj I ri rj rq := ⟨hG0, fun _ _ _ => rfl, fun _ _ _ _ _ => rfl, fun _ _ _ _ _ => rfl⟩
  have hl := lv_entry ([.ref this, .int a0]) (n := 2) (Nat.le_of_ble_eq_true rfl)
  rw [lg_entry_eq]
  generalize (lg_sl ([.ref this, .int a0]) ++ List.replicate (2 - (lg_sl ([.ref this, .int a0])).length) Slot.unset).toArray = ls at hl ⊢
  have hl : lv_has ls 2 [(0, .ref this), (1, .int a0)] := hl
  refine q_gen (fun Q hQ => ?_)
  have go : ∀ (H : Heap) (locs : List Loc) (ls : Array Slot), va_P D vwCl (pq_P t σ (I, J, ri, rj, rq)) H → va_D A (pq_P t σ (I, J, ri, rj, rq)) → va_S A s.heap H locs → lv_has ls 2 [(0, .ref this), (1, .int a0)] → W p l e ({ frames := 0, cells := 0, slots := 0, locals := 0 } : Room) s m (List.toArray ([.ref this, .int a0] : List Value)) below meth c H locs 0 0 Q (F0 m 0 ls []) := by
    intro H locs ls hP hD hS hl
    refine lv_iload_n hx hb dX11_fault_0 rfl (lv_at hl 1 rfl) ?_
    by_cases k_1 : a0 = (0 : Int32)
    · have h_2 : rg a0 0 0 := rg_and (rg_full _) (rg_of_eq k_1 (rg_k (0 : Int32) 0 rfl)) (by decide)
      refine lv_tov 0 k_1 ?_
      refine lv_lookup (tgt := 28) hx hb dX11_fault_1 (by decide) rfl (by decide) ?_
      refine lv_aload_n hx hb dX11_fault_28 rfl (lv_at hl 0 rfl) ?_
      obtain ⟨w_3, hR_w_3, hL_w_3, hK_w_3⟩ := sh_o hSH 356 (ci := 11) (kd := 4) rfl hL_this hK_this
      refine pg_f (v := .ref w_3) (C := RX11) (T := TX11) (N := 5) hx hb hts (tw_i inlX11) hown hK hP hL_this hK_this (by decide) rfl 4 (by decide) (hts _ (tw_c tw_26)) (pq_hv rfl hR_w_3) dX11_fault_29 ?_
      refine pg_f (v := .int (I 129 w_3)) (C := RX4) (T := TX4) (N := 12) hx hb hts (tw_i inlX4) hown hK hP hL_w_3 hK_w_3 (by decide) rfl 1 (by decide) (hts _ (tw_c tw_650)) rfl dX11_fault_32 ?_
      subst hQ
      exact W.iret (v := (I 129 w_3)) hx hb hr (fun t1 ht hW => ⟨⟨(I 129 w_3), (σ, I, J, ri, rj, rq), rfl, rfl, by rw [ht]; exact hP, va_K.moved hW.alike hK, hD⟩, hS.F ht⟩) hS.2.2 dX11_fault_35
    by_cases k_4 : a0 = (1 : Int32)
    · have h_5 : rg a0 1 1 := rg_and (rg_full _) (rg_of_eq k_4 (rg_k (1 : Int32) 1 rfl)) (by decide)
      refine lv_tov 1 k_4 ?_
      refine lv_lookup (tgt := 36) hx hb dX11_fault_1 (by decide) rfl (by decide) ?_
      refine lv_aload_n hx hb dX11_fault_36 rfl (lv_at hl 0 rfl) ?_
      obtain ⟨w_6, hR_w_6, hL_w_6, hK_w_6⟩ := sh_o hSH 356 (ci := 11) (kd := 4) rfl hL_this hK_this
      refine pg_f (v := .ref w_6) (C := RX11) (T := TX11) (N := 5) hx hb hts (tw_i inlX11) hown hK hP hL_this hK_this (by decide) rfl 4 (by decide) (hts _ (tw_c tw_26)) (pq_hv rfl hR_w_6) dX11_fault_37 ?_
      refine pg_f (v := .int (I 130 w_6)) (C := RX4) (T := TX4) (N := 12) hx hb hts (tw_i inlX4) hown hK hP hL_w_6 hK_w_6 (by decide) rfl 2 (by decide) (hts _ (tw_c tw_941)) rfl dX11_fault_40 ?_
      subst hQ
      exact W.iret (v := (I 130 w_6)) hx hb hr (fun t1 ht hW => ⟨⟨(I 130 w_6), (σ, I, J, ri, rj, rq), rfl, rfl, by rw [ht]; exact hP, va_K.moved hW.alike hK, hD⟩, hS.F ht⟩) hS.2.2 dX11_fault_43
    refine lv_lookup (tgt := 44) (off := (43)) hx hb dX11_fault_1 (by decide) (by have z_k_1 := (sw_ne k_1 (n := 0) rfl).symm; have z_k_4 := (sw_ne k_4 (n := 1) rfl).symm; simp [Op.lookupswitch.offset, z_k_1, z_k_4]) (by decide) ?_
    refine lv_iconst (v := (-1)) hx hb dX11_fault_44 (by decide) ?_
    subst hQ
    exact W.iret (v := (-1)) hx hb hr (fun t1 ht hW => ⟨⟨(-1), (σ, I, J, ri, rj, rq), rfl, rfl, by rw [ht]; exact hP, va_K.moved hW.alike hK, hD⟩, hS.F ht⟩) hS.2.2 dX11_fault_45
  exact go _ _ _ hP hD hS hl

set_option maxHeartbeats 4000000 in
set_option maxRecDepth 100000 in
theorem s_X11_force (l : Launch) (D : va_G) (t : pq_T) (σ : pq_S) (I : Nat → Nat → Int32) (J : Nat → Nat → Int64) (ri : Nat → Nat → Int32) (rj : Nat → Nat → Int64) (rq : Nat → Nat → Option Nat) (sz : Nat) (tg : Nat → Nat) (hSH : SH σ tg) (hG0 : GS tg σ I ri rq) (this : Nat) (a0 : Int32) (a1 : Int32) (a2 : Int32) (hL_this : this ∈ σ.1) (hK_this : σ.2.1 this = 11) : MetI l yX11_force (wa yX11_force cX11_force 6 (some .int)) ({ frames := 2, cells := 0, slots := 0, locals := 42 }) [.ref this, .int a0, .int a1, .int a2] D t σ (I, J, ri, rj, rq) sz 0 0 (fun (r : Int32) (u : pq_S × pq_M) => ∃ I' : Nat → Nat → Int32, ∃ ri' : Nat → Nat → Int32, u = (σ, I', J, ri', rj, rq) ∧ GX [98] tg σ I ri rj I' ri' rj rq ∧ rg r (-1) 29) := by
  refine Met.ofW (cc := cX11_force) (maxL := 6) (ret := (some .int)) (by decide) rfl ?_
  intro p e s m args below meth c s₁ B hml hv
  obtain ⟨rfl, hsz, hP, hK, hD0, hN⟩ := hv
  have hx := B.exec
  have hb := B.bytes
  have hr := B.returns
  have hts := atoms_spec (ws := (wa yX11_force cX11_force 6 (some .int))) B.pre
  have hown : s.vm.findClass RX11 = some m.cls := findClass_of_methodNamed B.named
  have hlocks := B.notSynchronized
  subst hsz
  have hD : va_D (pq_B t σ (I, J, ri, rj, rq) s.heap.size) (pq_P t σ (I, J, ri, rj, rq)) := hD0.self
  generalize hAe : pq_B t σ (I, J, ri, rj, rq) s.heap.size = A at hD ⊢
  have hA : ∀ q : Nat, s.heap.size ≤ q → A q := fun q h => by rw [← hAe]; exact Or.inr h
  have hS : va_S A s.heap s.heap [] := va_S.rf
  have hG : GX [98] tg σ I ri rj I ri rj rq := ⟨hG0, fun _ _ _ => rfl, fun _ _ _ _ _ => rfl, fun _ _ _ _ _ => rfl⟩
  have hl := lv_entry ([.ref this, .int a0, .int a1, .int a2]) (n := 6) (Nat.le_of_ble_eq_true rfl)
  rw [lg_entry_eq]
  generalize (lg_sl ([.ref this, .int a0, .int a1, .int a2]) ++ List.replicate (6 - (lg_sl ([.ref this, .int a0, .int a1, .int a2])).length) Slot.unset).toArray = ls at hl ⊢
  have hl : lv_has ls 6 [(0, .ref this), (1, .int a0), (2, .int a1), (3, .int a2)] := hl
  refine q_gen (fun Q hQ => ?_)
  have go : ∀ (H : Heap) (locs : List Loc) (ls : Array Slot), va_P D vwCl (pq_P t σ (I, J, ri, rj, rq)) H → va_D A (pq_P t σ (I, J, ri, rj, rq)) → va_S A s.heap H locs → lv_has ls 6 [(0, .ref this), (1, .int a0), (2, .int a1), (3, .int a2)] → W p l e ({ frames := 2, cells := 0, slots := 0, locals := 42 } : Room) s m (List.toArray ([.ref this, .int a0, .int a1, .int a2] : List Value)) below meth c H locs 0 0 Q (F0 m 0 ls []) := by
    intro H locs ls hP hD hS hl
    refine lv_aload_n hx hb dX11_force_0 rfl (lv_at hl 0 rfl) ?_
    obtain ⟨w_1, hR_w_1, hL_w_1, hK_w_1⟩ := sh_o hSH 352 (ci := 11) (kd := 10) rfl hL_this hK_this
    refine pg_f (v := .ref w_1) (C := RX11) (T := TX11) (N := 5) hx hb hts (tw_i inlX11) hown hK hP hL_this hK_this (by decide) rfl 0 (by decide) (hts _ (tw_c tw_16)) (pq_hv rfl hR_w_1) dX11_force_1 ?_
    obtain ⟨w_2, hR_w_2, hL_w_2, hK_w_2⟩ := sh_o hSH 329 (ci := 10) (kd := 3) rfl hL_w_1 hK_w_1
    refine pg_f (v := .ref w_2) (C := RX10) (T := TX10) (N := 13) hx hb hts (tw_i inlX10) hown hK hP hL_w_1 hK_w_1 (by decide) rfl 9 (by decide) (hts _ (tw_c tw_648)) (pq_hv rfl hR_w_2) dX11_force_4 ?_
    refine lv_astore (lv' := [(4, .ref w_2), (0, .ref this), (1, .int a0), (2, .int a1), (3, .int a2)]) hx hb dX11_force_7 hl (by decide) rfl (fun ls hl => ?_)
    refine lv_iload_n hx hb dX11_force_9 rfl (lv_at hl 2 rfl) ?_
    refine lv_iconst (v := 0) hx hb dX11_force_10 (by decide) ?_
    refine lv_aload hx hb dX11_force_11 (lv_at hl 0 rfl) ?_
    refine pg_f (v := .int (I 96 w_2)) (C := RX3) (T := TX3) (N := 8) hx hb hts (tw_i inlX3) hown hK hP hL_w_2 hK_w_2 (by decide) rfl 0 (by decide) (hts _ (tw_c tw_649)) rfl dX11_force_13 ?_
    have h_3 : rg (I 96 w_2) 0 10 := GX.rI hG 96 rfl
    refine lv_iconst (v := 1) hx hb dX11_force_16 (by decide) ?_
    refine lv_isub hx hb dX11_force_17 ?_
    refine lv_topi (fun x_4 ex_4 => ?_)
    have h_5 : rg x_4 (-1) 9 := rg_of_eq ex_4 (rg_sub h_3 (rg_k (1 : Int32) 1 rfl) (by decide))
    refine pk_i (va_runS (As := [.int a0, .int 0, .int x_4]) (rest := []) ⟨hx, hb, hml, hown, hts⟩ (s_X11_between l D t σ I J ri rj rq H.size tg hSH hG.1 a0 (0 : Int32) x_4) (va_cwS 3 hts (tw_S tw_215 tw_216 tw_2 tw_217) rfl rfl rfl cd_yX11_between_3 ⟨Nat.le_of_ble_eq_true rfl, Nat.le_of_ble_eq_true rfl⟩) ⟨pq_blind, pq_pre hK hN hP hD⟩ rfl rfl hl.1 rfl (lv_room (Nat.le_of_ble_eq_true rfl)) dX11_force_18 ⟨Nat.le_of_ble_eq_true rfl, Nat.le_of_ble_eq_true rfl⟩) hD hS hA (fun x_6 σ1 μ1 H locs hw_7 hP hD hS => ?_)
    obtain ⟨hu_8, hr_10⟩ := hw_7
    obtain ⟨hu_8a, hu_8b⟩ := Prod.mk.inj hu_8
    rw [hu_8a, hu_8b] at hP hD
    have h_11 : rg x_6 0 1 := by rcases hr_10 with ⟨q, -⟩ | ⟨q, -⟩ <;> rw [q] <;> exact ⟨by decide, by decide⟩
    have K_70 : ∀  (H : Heap) (locs : List Loc) (ls : Array Slot), rg (I 320 w_1) 0 599 → rg (a0) 0 9 → rg (a1) 0 599 → rg (a2) 0 599 → rg (x_4) 0 9 → rg (x_6) 1 1 → GX [98] tg σ I ri rj I ri rj rq → va_P D vwCl (pq_P t σ (I, J, ri, rj, rq)) H → va_D A (pq_P t σ (I, J, ri, rj, rq)) → va_S A s.heap H locs → lv_has ls 6 [(1, .int a0), (2, .int a1), (3, .int a2), (4, .ref w_2)] → W p l e ({ frames := 2, cells := 0, slots := 0, locals := 42 } : Room) s m (List.toArray ([.ref this, .int a0, .int a1, .int a2] : List Value)) below meth c H locs 0 0 Q (F0 m 59 ls [.int 1]) := by
      intro H locs ls h_77 h_78 h_79 h_80 h_81 h_82 hG hP hD hS hl
      refine lv_istore (lv' := [(5, .int 1), (1, .int a0), (2, .int a1), (3, .int a2), (4, .ref w_2)]) hx hb dX11_force_59 hl (by decide) rfl (fun ls hl => ?_)
      refine lv_iload hx hb dX11_force_61 (lv_at hl 0 rfl) ?_
      have K_96 : ∀  (H : Heap) (locs : List Loc) (ls : Array Slot), rg (I 98 w_2) 30 30 → GX [98] tg σ I ri rj I ri rj rq → va_P D vwCl (pq_P t σ (I, J, ri, rj, rq)) H → va_D A (pq_P t σ (I, J, ri, rj, rq)) → va_S A s.heap H locs → lv_has ls 6 [] → W p l e ({ frames := 2, cells := 0, slots := 0, locals := 42 } : Room) s m (List.toArray ([.ref this, .int a0, .int a1, .int a2] : List Value)) below meth c H locs 0 0 Q (F0 m 76 ls []) := by
        intro H locs ls h_98 hG hP hD hS hl
        refine lv_iconst (v := (-1)) hx hb dX11_force_76 (by decide) ?_
        subst hQ
        exact W.iret (v := (-1)) hx hb hr (fun t1 ht hW => ⟨⟨(-1), (σ, I, J, ri, rj, rq), rfl, ⟨I, ri, rfl, hG, (rg_w (rg_k (-1 : Int32) (-1) rfl) (by decide))⟩, by rw [ht]; exact hP, va_K.moved hW.alike hK, hD⟩, hS.F ht⟩) hS.2.2 dX11_force_77
      refine lv_if_eq (tgt := 76) hx hb dX11_force_63 (by decide) (fun c_99 => absurd c_99 (by decide)) (fun c_99 => ?_)
      refine lv_aload hx hb dX11_force_66 (lv_at hl 4 rfl) ?_
      refine pg_f (v := .int (I 98 w_2)) (C := RX3) (T := TX3) (N := 8) hx hb hts (tw_i inlX3) hown hK hP hL_w_2 hK_w_2 (by decide) rfl 2 (by decide) (hts _ (tw_c tw_950)) rfl dX11_force_68 ?_
      have h_100 : rg (I 98 w_2) 0 30 := GX.rI hG 98 rfl
      refine lv_bipush (v := 30) hx hb dX11_force_71 (by decide) ?_
      refine lv_icmp_lt (tgt := 78) hx hb dX11_force_73 (by decide) (fun c_101 => ?_) (fun c_101 => ?_)
      · have h_102 : rg (I 98 w_2) 0 29 := rg_lt1 c_101 h_100 (rg_k (30 : Int32) 30 rfl) (by decide)
        refine lv_aload hx hb dX11_force_78 (lv_at hl 4 rfl) ?_
        refine lv_iload_n hx hb dX11_force_80 rfl (lv_at hl 1 rfl) ?_
        refine lv_iload_n hx hb dX11_force_81 rfl (lv_at hl 2 rfl) ?_
        refine lv_iload_n hx hb dX11_force_82 rfl (lv_at hl 3 rfl) ?_
        refine pk_i (va_runV (As := [.int a0, .int a1, .int a2]) (rest := []) ⟨hx, hb, hml, hown, hts⟩ (s_X3_addForce l D t σ I J ri rj rq H.size tg hSH hG.1 w_2 a0 a1 a2 hL_w_2 hK_w_2 (rg_w h_78 (by decide))) (cwV 3 hts (tw_V tw_951 tw_952 tw_953 tw_49 tw_954) rfl rfl rfl cv_yX3_addForce_3 ⟨Nat.le_of_ble_eq_true rfl, Nat.le_of_ble_eq_true rfl⟩) ⟨pq_blind, pq_recv hK hP hL_w_2 hK_w_2 (by decide) rfl, pq_pre hK hN hP hD⟩ rfl rfl hl.1 rfl (lv_room (Nat.le_of_ble_eq_true rfl)) dX11_force_83 ⟨Nat.le_of_ble_eq_true rfl, Nat.le_of_ble_eq_true rfl⟩) hD hS hA (fun x_103 σ1 μ1 H locs hw_104 hP hD hS => ?_)
        obtain ⟨I_105, ri_106, hu_107, hg_108, hr_109⟩ := hw_104
        obtain ⟨hu_107a, hu_107b⟩ := Prod.mk.inj hu_107
        rw [hu_107a, hu_107b] at hP hD
        have hG := GX.tr hG hg_108 (by decide)
        subst hQ
        exact W.iret (v := x_103) hx hb hr (fun t1 ht hW => ⟨⟨x_103, (σ, I_105, J, ri_106, rj, rq), rfl, ⟨I_105, ri_106, rfl, hG, (rg_w hr_109 (by decide))⟩, by rw [ht]; exact hP, va_K.moved hW.alike hK, hD⟩, hS.F ht⟩) hS.2.2 dX11_force_86
      · have h_110 : rg (I 98 w_2) 30 30 := rg_le2 (nlt c_101) (rg_k (30 : Int32) 30 rfl) h_100 (by decide)
        exact K_96 _ _ _ (rg_w h_110 (by decide)) hG hP hD hS (lv_sub hl [] rfl)
    have K_111 : ∀  (H : Heap) (locs : List Loc) (ls : Array Slot), GX [98] tg σ I ri rj I ri rj rq → va_P D vwCl (pq_P t σ (I, J, ri, rj, rq)) H → va_D A (pq_P t σ (I, J, ri, rj, rq)) → va_S A s.heap H locs → lv_has ls 6 [(1, .int a0), (2, .int a1), (3, .int a2), (4, .ref w_2)] → W p l e ({ frames := 2, cells := 0, slots := 0, locals := 42 } : Room) s m (List.toArray ([.ref this, .int a0, .int a1, .int a2] : List Value)) below meth c H locs 0 0 Q (F0 m 59 ls [.int 0]) := by
      intro H locs ls hG hP hD hS hl
      refine lv_istore (lv' := [(5, .int 0), (1, .int a0), (2, .int a1), (3, .int a2), (4, .ref w_2)]) hx hb dX11_force_59 hl (by decide) rfl (fun ls hl => ?_)
      refine lv_iload hx hb dX11_force_61 (lv_at hl 0 rfl) ?_
      have K_113 : ∀  (H : Heap) (locs : List Loc) (ls : Array Slot), GX [98] tg σ I ri rj I ri rj rq → va_P D vwCl (pq_P t σ (I, J, ri, rj, rq)) H → va_D A (pq_P t σ (I, J, ri, rj, rq)) → va_S A s.heap H locs → lv_has ls 6 [] → W p l e ({ frames := 2, cells := 0, slots := 0, locals := 42 } : Room) s m (List.toArray ([.ref this, .int a0, .int a1, .int a2] : List Value)) below meth c H locs 0 0 Q (F0 m 76 ls []) := by
        intro H locs ls hG hP hD hS hl
        refine lv_iconst (v := (-1)) hx hb dX11_force_76 (by decide) ?_
        subst hQ
        exact W.iret (v := (-1)) hx hb hr (fun t1 ht hW => ⟨⟨(-1), (σ, I, J, ri, rj, rq), rfl, ⟨I, ri, rfl, hG, (rg_w (rg_k (-1 : Int32) (-1) rfl) (by decide))⟩, by rw [ht]; exact hP, va_K.moved hW.alike hK, hD⟩, hS.F ht⟩) hS.2.2 dX11_force_77
      refine lv_if_eq (tgt := 76) hx hb dX11_force_63 (by decide) (fun c_114 => ?_) (fun c_114 => absurd c_114 (by decide))
      exact K_113 _ _ _ hG hP hD hS (lv_sub hl [] rfl)
    have K_115 : ∀  (H : Heap) (locs : List Loc) (ls : Array Slot), GX [98] tg σ I ri rj I ri rj rq → va_P D vwCl (pq_P t σ (I, J, ri, rj, rq)) H → va_D A (pq_P t σ (I, J, ri, rj, rq)) → va_S A s.heap H locs → lv_has ls 6 [(1, .int a0), (2, .int a1), (3, .int a2), (4, .ref w_2)] → W p l e ({ frames := 2, cells := 0, slots := 0, locals := 42 } : Room) s m (List.toArray ([.ref this, .int a0, .int a1, .int a2] : List Value)) below meth c H locs 0 0 Q (F0 m 58 ls []) := by
      intro H locs ls hG hP hD hS hl
      refine lv_iconst (v := 0) hx hb dX11_force_58 (by decide) ?_
      exact K_111 _ _ _ hG hP hD hS (lv_sub hl [0, 1, 2, 3] rfl)
    refine lv_if_eq (tgt := 58) hx hb dX11_force_21 (by decide) (fun c_116 => ?_) (fun c_116 => ?_)
    · have f_117 := (hr_10.resolve_left (fun q => absurd (q.1.symm.trans c_116) (by decide))).2
      have h_118 : rg x_6 0 0 := rg_and h_11 (rg_of_eq c_116 (rg_k (0 : Int32) 0 rfl)) (by decide)
      exact K_115 _ _ _ hG hP hD hS (lv_sub hl [2, 3, 4, 0] rfl)
    · obtain ⟨f_119, f_120⟩ := (hr_10.resolve_right (fun q => c_116 q.1)).2
      have h_121 : rg a0 0 2147483647 := rg_le2 f_119 (rg_k (0 : Int32) 0 rfl) (rg_full _) (by decide)
      have h_122 : rg a0 0 9 := rg_le1 f_120 h_121 h_5 (by decide)
      have h_123 : rg x_4 0 9 := rg_le2 f_120 h_121 h_5 (by decide)
      have h_124 : rg x_6 1 1 := rg_ne c_116 h_11 0 rfl (by decide)
      refine lv_iload_n hx hb dX11_force_24 rfl (lv_at hl 3 rfl) ?_
      refine pk_i (va_runS (As := [.int a1]) (rest := []) ⟨hx, hb, hml, hown, hts⟩ (s_X11_isMonth l D t σ I J ri rj rq H.size tg hSH hG.1 a1) (va_cwS 1 hts (tw_S tw_247 tw_248 tw_2 tw_249) rfl rfl rfl cd_yX11_isMonth_1 ⟨Nat.le_of_ble_eq_true rfl, Nat.le_of_ble_eq_true rfl⟩) ⟨pq_blind, pq_pre hK hN hP hD⟩ rfl rfl hl.1 rfl (lv_room (Nat.le_of_ble_eq_true rfl)) dX11_force_25 ⟨Nat.le_of_ble_eq_true rfl, Nat.le_of_ble_eq_true rfl⟩) hD hS hA (fun x_125 σ1 μ1 H locs hw_126 hP hD hS => ?_)
      obtain ⟨hu_127, hr_129⟩ := hw_126
      obtain ⟨hu_127a, hu_127b⟩ := Prod.mk.inj hu_127
      rw [hu_127a, hu_127b] at hP hD
      have h_130 : rg x_125 0 1 := by rcases hr_129 with ⟨q, -⟩ | ⟨q, -⟩ <;> rw [q] <;> exact ⟨by decide, by decide⟩
      refine lv_if_eq (tgt := 58) hx hb dX11_force_28 (by decide) (fun c_131 => ?_) (fun c_131 => ?_)
      · have f_132 := (hr_129.resolve_left (fun q => absurd (q.1.symm.trans c_131) (by decide))).2
        have h_133 : rg x_125 0 0 := rg_and h_130 (rg_of_eq c_131 (rg_k (0 : Int32) 0 rfl)) (by decide)
        exact K_115 _ _ _ hG hP hD hS (lv_sub hl [2, 3, 4, 0] rfl)
      · have f_134 := (hr_129.resolve_right (fun q => c_131 q.1)).2
        have h_135 : rg x_125 1 1 := rg_ne c_131 h_130 0 rfl (by decide)
        refine lv_iload_n hx hb dX11_force_31 rfl (lv_at hl 4 rfl) ?_
        refine pk_i (va_runS (As := [.int a2]) (rest := []) ⟨hx, hb, hml, hown, hts⟩ (s_X11_isMonth l D t σ I J ri rj rq H.size tg hSH hG.1 a2) (va_cwS 1 hts (tw_S tw_247 tw_248 tw_2 tw_249) rfl rfl rfl cd_yX11_isMonth_1 ⟨Nat.le_of_ble_eq_true rfl, Nat.le_of_ble_eq_true rfl⟩) ⟨pq_blind, pq_pre hK hN hP hD⟩ rfl rfl hl.1 rfl (lv_room (Nat.le_of_ble_eq_true rfl)) dX11_force_32 ⟨Nat.le_of_ble_eq_true rfl, Nat.le_of_ble_eq_true rfl⟩) hD hS hA (fun x_136 σ1 μ1 H locs hw_137 hP hD hS => ?_)
        obtain ⟨hu_138, hr_140⟩ := hw_137
        obtain ⟨hu_138a, hu_138b⟩ := Prod.mk.inj hu_138
        rw [hu_138a, hu_138b] at hP hD
        have h_141 : rg x_136 0 1 := by rcases hr_140 with ⟨q, -⟩ | ⟨q, -⟩ <;> rw [q] <;> exact ⟨by decide, by decide⟩
        refine lv_if_eq (tgt := 58) hx hb dX11_force_35 (by decide) (fun c_142 => ?_) (fun c_142 => ?_)
        · have f_143 := (hr_140.resolve_left (fun q => absurd (q.1.symm.trans c_142) (by decide))).2
          have h_144 : rg x_136 0 0 := rg_and h_141 (rg_of_eq c_142 (rg_k (0 : Int32) 0 rfl)) (by decide)
          exact K_115 _ _ _ hG hP hD hS (lv_sub hl [2, 3, 4, 0] rfl)
        · have f_145 := (hr_140.resolve_right (fun q => c_142 q.1)).2
          have h_146 : rg x_136 1 1 := rg_ne c_142 h_141 0 rfl (by decide)
          refine lv_iload_n hx hb dX11_force_38 rfl (lv_at hl 3 rfl) ?_
          refine lv_aload_n hx hb dX11_force_39 rfl (lv_at hl 1 rfl) ?_
          refine pg_f (v := .ref w_1) (C := RX11) (T := TX11) (N := 5) hx hb hts (tw_i inlX11) hown hK hP hL_this hK_this (by decide) rfl 0 (by decide) (hts _ (tw_c tw_16)) (pq_hv rfl hR_w_1) dX11_force_40 ?_
          refine pg_f (v := .int (I 320 w_1)) (C := RX10) (T := TX10) (N := 13) hx hb hts (tw_i inlX10) hown hK hP hL_w_1 hK_w_1 (by decide) rfl 0 (by decide) (hts _ (tw_c tw_209)) rfl dX11_force_43 ?_
          have h_147 : rg (I 320 w_1) 0 600 := GX.rI hG 320 rfl
          refine lv_icmp_lt (tgt := 58) hx hb dX11_force_46 (by decide) (fun c_148 => ?_) (fun c_148 => ?_)
          · have h_149 : rg (I 320 w_1) 1 600 := rg_lt2 c_148 f_134 h_147 (by decide)
            exact K_115 _ _ _ hG hP hD hS (lv_sub hl [2, 3, 4, 0] rfl)
          · have h_150 : rg (I 320 w_1) 0 599 := rg_le1 (nlt c_148) h_147 f_134 (by decide)
            refine lv_iload_n hx hb dX11_force_49 rfl (lv_at hl 3 rfl) ?_
            refine lv_iload_n hx hb dX11_force_50 rfl (lv_at hl 4 rfl) ?_
            refine lv_icmp_gt (tgt := 58) hx hb dX11_force_51 (by decide) (fun c_151 => ?_) (fun c_151 => ?_)
            · have h_152 : rg a2 0 598 := rg_lt1 c_151 f_145 f_134 (by decide)
              have h_153 : rg a1 1 599 := rg_lt2 c_151 f_145 f_134 (by decide)
              exact K_115 _ _ _ hG hP hD hS (lv_sub hl [2, 3, 4, 0] rfl)
            · refine lv_iconst (v := 1) hx hb dX11_force_54 (by decide) ?_
              refine lv_goto (tgt := 59) hx hb dX11_force_55 (by decide) ?_
              exact K_70 _ _ _ (rg_w h_150 (by decide)) (rg_w h_122 (by decide)) (rg_w f_134 (by decide)) (rg_w f_145 (by decide)) (rg_w h_123 (by decide)) (rg_w h_124 (by decide)) hG hP hD hS (lv_sub hl [2, 3, 4, 0] rfl)
  exact go _ _ _ hP hD hS hl

set_option maxHeartbeats 4000000 in
set_option maxRecDepth 100000 in
theorem s_X11_is (l : Launch) (D : va_G) (t : pq_T) (σ : pq_S) (I : Nat → Nat → Int32) (J : Nat → Nat → Int64) (ri : Nat → Nat → Int32) (rj : Nat → Nat → Int64) (rq : Nat → Nat → Option Nat) (sz : Nat) (tg : Nat → Nat) (hSH : SH σ tg) (hG0 : GS tg σ I ri rq) (this : Nat) (a0 : Int32) (a1 : Int32) (a2 : Int32) (hL_this : this ∈ σ.1) (hK_this : σ.2.1 this = 11) : MetI l yX11_is (wa yX11_is cX11_is 4 (some .int)) ({ frames := 5, cells := 0, slots := 0, locals := 143 }) [.ref this, .int a0, .int a1, .int a2] D t σ (I, J, ri, rj, rq) sz 0 0 (fun (r : Int32) (u : pq_S × pq_M) => ∃ ri' : Nat → Nat → Int32, u = (σ, I, J, ri', rj, rq) ∧ GX [] tg σ I ri rj I ri' rj rq ∧ rg r (-1) 1) := by
  refine Met.ofW (cc := cX11_is) (maxL := 4) (ret := (some .int)) (by decide) rfl ?_
  intro p e s m args below meth c s₁ B hml hv
  obtain ⟨rfl, hsz, hP, hK, hD0, hN⟩ := hv
  have hx := B.exec
  have hb := B.bytes
  have hr := B.returns
  have hts := atoms_spec (ws := (wa yX11_is cX11_is 4 (some .int))) B.pre
  have hown : s.vm.findClass RX11 = some m.cls := findClass_of_methodNamed B.named
  have hlocks := B.notSynchronized
  subst hsz
  have hD : va_D (pq_B t σ (I, J, ri, rj, rq) s.heap.size) (pq_P t σ (I, J, ri, rj, rq)) := hD0.self
  generalize hAe : pq_B t σ (I, J, ri, rj, rq) s.heap.size = A at hD ⊢
  have hA : ∀ q : Nat, s.heap.size ≤ q → A q := fun q h => by rw [← hAe]; exact Or.inr h
  have hS : va_S A s.heap s.heap [] := va_S.rf
  have hG : GX [] tg σ I ri rj I ri rj rq := ⟨hG0, fun _ _ _ => rfl, fun _ _ _ _ _ => rfl, fun _ _ _ _ _ => rfl⟩
  have hl := lv_entry ([.ref this, .int a0, .int a1, .int a2]) (n := 4) (Nat.le_of_ble_eq_true rfl)
  rw [lg_entry_eq]
  generalize (lg_sl ([.ref this, .int a0, .int a1, .int a2]) ++ List.replicate (4 - (lg_sl ([.ref this, .int a0, .int a1, .int a2])).length) Slot.unset).toArray = ls at hl ⊢
  have hl : lv_has ls 4 [(0, .ref this), (1, .int a0), (2, .int a1), (3, .int a2)] := hl
  refine q_gen (fun Q hQ => ?_)
  have go : ∀ (H : Heap) (locs : List Loc) (ls : Array Slot), va_P D vwCl (pq_P t σ (I, J, ri, rj, rq)) H → va_D A (pq_P t σ (I, J, ri, rj, rq)) → va_S A s.heap H locs → lv_has ls 4 [(0, .ref this), (1, .int a0), (2, .int a1), (3, .int a2)] → W p l e ({ frames := 5, cells := 0, slots := 0, locals := 143 } : Room) s m (List.toArray ([.ref this, .int a0, .int a1, .int a2] : List Value)) below meth c H locs 0 0 Q (F0 m 0 ls []) := by
    intro H locs ls hP hD hS hl
    refine lv_iload_n hx hb dX11_is_0 rfl (lv_at hl 1 rfl) ?_
    refine lv_iconst (v := 0) hx hb dX11_is_1 (by decide) ?_
    refine lv_iconst (v := 2) hx hb dX11_is_2 (by decide) ?_
    refine pk_i (va_runS (As := [.int a0, .int 0, .int 2]) (rest := []) ⟨hx, hb, hml, hown, hts⟩ (s_X11_between l D t σ I J ri rj rq H.size tg hSH hG.1 a0 (0 : Int32) (2 : Int32)) (va_cwS 3 hts (tw_S tw_215 tw_216 tw_2 tw_217) rfl rfl rfl cd_yX11_between_3 ⟨Nat.le_of_ble_eq_true rfl, Nat.le_of_ble_eq_true rfl⟩) ⟨pq_blind, pq_pre hK hN hP hD⟩ rfl rfl hl.1 rfl (lv_room (Nat.le_of_ble_eq_true rfl)) dX11_is_3 ⟨Nat.le_of_ble_eq_true rfl, Nat.le_of_ble_eq_true rfl⟩) hD hS hA (fun x_1 σ1 μ1 H locs hw_2 hP hD hS => ?_)
    obtain ⟨hu_3, hr_5⟩ := hw_2
    obtain ⟨hu_3a, hu_3b⟩ := Prod.mk.inj hu_3
    rw [hu_3a, hu_3b] at hP hD
    have h_6 : rg x_1 0 1 := by rcases hr_5 with ⟨q, -⟩ | ⟨q, -⟩ <;> rw [q] <;> exact ⟨by decide, by decide⟩
    have K_52 : ∀  (H : Heap) (locs : List Loc) (ls : Array Slot), GX [] tg σ I ri rj I ri rj rq → va_P D vwCl (pq_P t σ (I, J, ri, rj, rq)) H → va_D A (pq_P t σ (I, J, ri, rj, rq)) → va_S A s.heap H locs → lv_has ls 4 [] → W p l e ({ frames := 5, cells := 0, slots := 0, locals := 143 } : Room) s m (List.toArray ([.ref this, .int a0, .int a1, .int a2] : List Value)) below meth c H locs 0 0 Q (F0 m 24 ls []) := by
      intro H locs ls hG hP hD hS hl
      refine lv_iconst (v := (-1)) hx hb dX11_is_24 (by decide) ?_
      subst hQ
      exact W.iret (v := (-1)) hx hb hr (fun t1 ht hW => ⟨⟨(-1), (σ, I, J, ri, rj, rq), rfl, ⟨ri, rfl, hG, (rg_w (rg_k (-1 : Int32) (-1) rfl) (by decide))⟩, by rw [ht]; exact hP, va_K.moved hW.alike hK, hD⟩, hS.F ht⟩) hS.2.2 dX11_is_25
    refine lv_if_eq (tgt := 24) hx hb dX11_is_6 (by decide) (fun c_53 => ?_) (fun c_53 => ?_)
    · have f_54 := (hr_5.resolve_left (fun q => absurd (q.1.symm.trans c_53) (by decide))).2
      have h_55 : rg x_1 0 0 := rg_and h_6 (rg_of_eq c_53 (rg_k (0 : Int32) 0 rfl)) (by decide)
      exact K_52 _ _ _ hG hP hD hS (lv_sub hl [] rfl)
    · obtain ⟨f_56, f_57⟩ := (hr_5.resolve_right (fun q => c_53 q.1)).2
      have h_58 : rg a0 0 2147483647 := rg_le2 f_56 (rg_k (0 : Int32) 0 rfl) (rg_full _) (by decide)
      have h_59 : rg a0 0 2 := rg_le1 f_57 h_58 (rg_k (2 : Int32) 2 rfl) (by decide)
      have h_60 : rg x_1 1 1 := rg_ne c_53 h_6 0 rfl (by decide)
      refine lv_aload_n hx hb dX11_is_9 rfl (lv_at hl 0 rfl) ?_
      refine lv_iload_n hx hb dX11_is_10 rfl (lv_at hl 2 rfl) ?_
      refine pk_i (va_runV (As := [.int a1]) (rest := []) ⟨hx, hb, hml, hown, hts⟩ (s_X11_isPerson l D t σ I J ri rj rq H.size tg hSH hG.1 this a1 hL_this hK_this) (cwV 1 hts (tw_V tw_405 tw_406 tw_407 tw_2 tw_408) rfl rfl rfl cv_yX11_isPerson_1 ⟨Nat.le_of_ble_eq_true rfl, Nat.le_of_ble_eq_true rfl⟩) ⟨pq_blind, pq_recv hK hP hL_this hK_this (by decide) rfl, pq_pre hK hN hP hD⟩ rfl rfl hl.1 rfl (lv_room (Nat.le_of_ble_eq_true rfl)) dX11_is_11 ⟨Nat.le_of_ble_eq_true rfl, Nat.le_of_ble_eq_true rfl⟩) hD hS hA (fun x_61 σ1 μ1 H locs hw_62 hP hD hS => ?_)
      obtain ⟨hu_63, hr_65⟩ := hw_62
      obtain ⟨hu_63a, hu_63b⟩ := Prod.mk.inj hu_63
      rw [hu_63a, hu_63b] at hP hD
      have h_66 : rg x_61 0 1 := by rcases hr_65 with ⟨q, -⟩ | ⟨q, -⟩ <;> rw [q] <;> exact ⟨by decide, by decide⟩
      refine lv_if_eq (tgt := 24) hx hb dX11_is_14 (by decide) (fun c_67 => ?_) (fun c_67 => ?_)
      · have f_68 := (hr_65.resolve_left (fun q => absurd (q.1.symm.trans c_67) (by decide))).2
        have h_69 : rg x_61 0 0 := rg_and h_66 (rg_of_eq c_67 (rg_k (0 : Int32) 0 rfl)) (by decide)
        exact K_52 _ _ _ hG hP hD hS (lv_sub hl [] rfl)
      · have f_70 := (hr_65.resolve_right (fun q => c_67 q.1)).2
        have h_71 : rg x_61 1 1 := rg_ne c_67 h_66 0 rfl (by decide)
        refine lv_iload_n hx hb dX11_is_17 rfl (lv_at hl 3 rfl) ?_
        refine pk_i (va_runS (As := [.int a2]) (rest := []) ⟨hx, hb, hml, hown, hts⟩ (s_X11_isMonth l D t σ I J ri rj rq H.size tg hSH hG.1 a2) (va_cwS 1 hts (tw_S tw_247 tw_248 tw_2 tw_249) rfl rfl rfl cd_yX11_isMonth_1 ⟨Nat.le_of_ble_eq_true rfl, Nat.le_of_ble_eq_true rfl⟩) ⟨pq_blind, pq_pre hK hN hP hD⟩ rfl rfl hl.1 rfl (lv_room (Nat.le_of_ble_eq_true rfl)) dX11_is_18 ⟨Nat.le_of_ble_eq_true rfl, Nat.le_of_ble_eq_true rfl⟩) hD hS hA (fun x_72 σ1 μ1 H locs hw_73 hP hD hS => ?_)
        obtain ⟨hu_74, hr_76⟩ := hw_73
        obtain ⟨hu_74a, hu_74b⟩ := Prod.mk.inj hu_74
        rw [hu_74a, hu_74b] at hP hD
        have h_77 : rg x_72 0 1 := by rcases hr_76 with ⟨q, -⟩ | ⟨q, -⟩ <;> rw [q] <;> exact ⟨by decide, by decide⟩
        refine lv_if_ne (tgt := 26) hx hb dX11_is_21 (by decide) (fun c_78 => ?_) (fun c_78 => ?_)
        · have f_79 := (hr_76.resolve_right (fun q => c_78 q.1)).2
          have h_80 : rg x_72 1 1 := rg_ne c_78 h_77 0 rfl (by decide)
          refine lv_aload_n hx hb dX11_is_26 rfl (lv_at hl 0 rfl) ?_
          obtain ⟨w_81, hR_w_81, hL_w_81, hK_w_81⟩ := sh_o hSH 352 (ci := 11) (kd := 10) rfl hL_this hK_this
          refine pg_f (v := .ref w_81) (C := RX11) (T := TX11) (N := 5) hx hb hts (tw_i inlX11) hown hK hP hL_this hK_this (by decide) rfl 0 (by decide) (hts _ (tw_c tw_16)) (pq_hv rfl hR_w_81) dX11_is_27 ?_
          obtain ⟨w_82, hR_w_82, hL_w_82, hK_w_82⟩ := sh_o hSH 329 (ci := 10) (kd := 3) rfl hL_w_81 hK_w_81
          refine pg_f (v := .ref w_82) (C := RX10) (T := TX10) (N := 13) hx hb hts (tw_i inlX10) hown hK hP hL_w_81 hK_w_81 (by decide) rfl 9 (by decide) (hts _ (tw_c tw_648)) (pq_hv rfl hR_w_82) dX11_is_30 ?_
          refine lv_iconst (v := 1) hx hb dX11_is_33 (by decide) ?_
          refine lv_iload_n hx hb dX11_is_34 rfl (lv_at hl 1 rfl) ?_
          refine lv_iadd hx hb dX11_is_35 ?_
          refine lv_topi (fun x_83 ex_83 => ?_)
          have h_84 : rg x_83 1 3 := rg_of_eq ex_83 (rg_add (rg_k (1 : Int32) 1 rfl) h_59 (by decide))
          refine lv_iload_n hx hb dX11_is_36 rfl (lv_at hl 3 rfl) ?_
          refine lv_aload_n hx hb dX11_is_37 rfl (lv_at hl 0 rfl) ?_
          refine pg_f (v := .ref w_81) (C := RX11) (T := TX11) (N := 5) hx hb hts (tw_i inlX11) hown hK hP hL_this hK_this (by decide) rfl 0 (by decide) (hts _ (tw_c tw_16)) (pq_hv rfl hR_w_81) dX11_is_38 ?_
          obtain ⟨w_85, hR_w_85, hL_w_85, hK_w_85⟩ := sh_o hSH 328 (ci := 10) (kd := 0) rfl hL_w_81 hK_w_81
          refine pg_f (v := .ref w_85) (C := RX10) (T := TX10) (N := 13) hx hb hts (tw_i inlX10) hown hK hP hL_w_81 hK_w_81 (by decide) rfl 8 (by decide) (hts _ (tw_c tw_379)) (pq_hv rfl hR_w_85) dX11_is_41 ?_
          refine lv_lconst (v := 1) hx hb dX11_is_44 (by decide) ?_
          refine lv_iload_n hx hb dX11_is_45 rfl (lv_at hl 2 rfl) ?_
          refine lv_lshl hx hb dX11_is_46 rfl ?_
          refine lv_topl (fun x_86 ex_86 => ?_)
          refine pk_l (va_runV (As := [.int x_83, .int a2, .ref w_85, .long x_86]) (rest := []) ⟨hx, hb, hml, hown, hts⟩ (s_X3_whoIsSo l D t σ I J ri rj rq H.size tg hSH hG.1 w_82 x_83 a2 w_85 x_86 hL_w_82 hK_w_82 hL_w_85 hK_w_85) (cwV 4 hts (tw_V tw_963 tw_964 tw_965 tw_49 tw_966) rfl rfl rfl cv_yX3_whoIsSo_4 ⟨Nat.le_of_ble_eq_true rfl, Nat.le_of_ble_eq_true rfl⟩) ⟨pq_blind, pq_recv hK hP hL_w_82 hK_w_82 (by decide) rfl, pq_pre hK hN hP hD⟩ rfl rfl hl.1 rfl (lv_room (Nat.le_of_ble_eq_true rfl)) dX11_is_47 ⟨Nat.le_of_ble_eq_true rfl, Nat.le_of_ble_eq_true rfl⟩) hD hS hA (fun x_87 σ1 μ1 H locs hw_88 hP hD hS => ?_)
          obtain ⟨ri_89, hu_90, hg_91⟩ := hw_88
          obtain ⟨hu_90a, hu_90b⟩ := Prod.mk.inj hu_90
          rw [hu_90a, hu_90b] at hP hD
          have hG := GX.tr hG hg_91 (by decide)
          refine lv_lconst (v := 0) hx hb dX11_is_50 (by decide) ?_
          refine W.lcmp hx hb dX11_is_51 ?_
          refine lv_topi (fun x_93 ex_93 => ?_)
          refine lv_if_eq (tgt := 59) hx hb dX11_is_52 (by decide) (fun c_94 => ?_) (fun c_94 => ?_)
          · have h_95 : rg x_93 0 0 := rg_and (rg_full _) (rg_of_eq c_94 (rg_k (0 : Int32) 0 rfl)) (by decide)
            refine lv_iconst (v := 0) hx hb dX11_is_59 (by decide) ?_
            subst hQ
            exact W.iret (v := 0) hx hb hr (fun t1 ht hW => ⟨⟨0, (σ, I, J, ri_89, rj, rq), rfl, ⟨ri_89, rfl, hG, (rg_w (rg_k (0 : Int32) 0 rfl) (by decide))⟩, by rw [ht]; exact hP, va_K.moved hW.alike hK, hD⟩, hS.F ht⟩) hS.2.2 dX11_is_60
          · refine lv_iconst (v := 1) hx hb dX11_is_55 (by decide) ?_
            refine lv_goto (tgt := 60) hx hb dX11_is_56 (by decide) ?_
            subst hQ
            exact W.iret (v := 1) hx hb hr (fun t1 ht hW => ⟨⟨1, (σ, I, J, ri_89, rj, rq), rfl, ⟨ri_89, rfl, hG, (rg_w (rg_k (1 : Int32) 1 rfl) (by decide))⟩, by rw [ht]; exact hP, va_K.moved hW.alike hK, hD⟩, hS.F ht⟩) hS.2.2 dX11_is_60
        · have f_96 := (hr_76.resolve_left (fun q => absurd (q.1.symm.trans c_78) (by decide))).2
          have h_97 : rg x_72 0 0 := rg_and h_77 (rg_of_eq c_78 (rg_k (0 : Int32) 0 rfl)) (by decide)
          exact K_52 _ _ _ hG hP hD hS (lv_sub hl [] rfl)
  exact go _ _ _ hP hD hS hl

set_option maxHeartbeats 4000000 in
set_option maxRecDepth 100000 in
theorem s_X11_why (l : Launch) (D : va_G) (t : pq_T) (σ : pq_S) (I : Nat → Nat → Int32) (J : Nat → Nat → Int64) (ri : Nat → Nat → Int32) (rj : Nat → Nat → Int64) (rq : Nat → Nat → Option Nat) (sz : Nat) (tg : Nat → Nat) (hSH : SH σ tg) (hG0 : GS tg σ I ri rq) (this : Nat) (a0 : Int32) (a1 : Int32) (a2 : Int32) (hL_this : this ∈ σ.1) (hK_this : σ.2.1 this = 11) : MetI l yX11_why (wa yX11_why cX11_why 4 (some .int)) ({ frames := 5, cells := 0, slots := 0, locals := 139 }) [.ref this, .int a0, .int a1, .int a2] D t σ (I, J, ri, rj, rq) sz 0 0 (fun (r : Int32) (u : pq_S × pq_M) => ∃ ri' : Nat → Nat → Int32, u = (σ, I, J, ri', rj, rq) ∧ GX [] tg σ I ri rj I ri' rj rq ∧ rg r (-1) 19) := by
  refine Met.ofW (cc := cX11_why) (maxL := 4) (ret := (some .int)) (by decide) rfl ?_
  intro p e s m args below meth c s₁ B hml hv
  obtain ⟨rfl, hsz, hP, hK, hD0, hN⟩ := hv
  have hx := B.exec
  have hb := B.bytes
  have hr := B.returns
  have hts := atoms_spec (ws := (wa yX11_why cX11_why 4 (some .int))) B.pre
  have hown : s.vm.findClass RX11 = some m.cls := findClass_of_methodNamed B.named
  have hlocks := B.notSynchronized
  subst hsz
  have hD : va_D (pq_B t σ (I, J, ri, rj, rq) s.heap.size) (pq_P t σ (I, J, ri, rj, rq)) := hD0.self
  generalize hAe : pq_B t σ (I, J, ri, rj, rq) s.heap.size = A at hD ⊢
  have hA : ∀ q : Nat, s.heap.size ≤ q → A q := fun q h => by rw [← hAe]; exact Or.inr h
  have hS : va_S A s.heap s.heap [] := va_S.rf
  have hG : GX [] tg σ I ri rj I ri rj rq := ⟨hG0, fun _ _ _ => rfl, fun _ _ _ _ _ => rfl, fun _ _ _ _ _ => rfl⟩
  have hl := lv_entry ([.ref this, .int a0, .int a1, .int a2]) (n := 4) (Nat.le_of_ble_eq_true rfl)
  rw [lg_entry_eq]
  generalize (lg_sl ([.ref this, .int a0, .int a1, .int a2]) ++ List.replicate (4 - (lg_sl ([.ref this, .int a0, .int a1, .int a2])).length) Slot.unset).toArray = ls at hl ⊢
  have hl : lv_has ls 4 [(0, .ref this), (1, .int a0), (2, .int a1), (3, .int a2)] := hl
  refine q_gen (fun Q hQ => ?_)
  have go : ∀ (H : Heap) (locs : List Loc) (ls : Array Slot), va_P D vwCl (pq_P t σ (I, J, ri, rj, rq)) H → va_D A (pq_P t σ (I, J, ri, rj, rq)) → va_S A s.heap H locs → lv_has ls 4 [(0, .ref this), (1, .int a0), (2, .int a1), (3, .int a2)] → W p l e ({ frames := 5, cells := 0, slots := 0, locals := 139 } : Room) s m (List.toArray ([.ref this, .int a0, .int a1, .int a2] : List Value)) below meth c H locs 0 0 Q (F0 m 0 ls []) := by
    intro H locs ls hP hD hS hl
    refine lv_iload_n hx hb dX11_why_0 rfl (lv_at hl 1 rfl) ?_
    refine lv_iconst (v := 0) hx hb dX11_why_1 (by decide) ?_
    refine lv_iconst (v := 2) hx hb dX11_why_2 (by decide) ?_
    refine pk_i (va_runS (As := [.int a0, .int 0, .int 2]) (rest := []) ⟨hx, hb, hml, hown, hts⟩ (s_X11_between l D t σ I J ri rj rq H.size tg hSH hG.1 a0 (0 : Int32) (2 : Int32)) (va_cwS 3 hts (tw_S tw_215 tw_216 tw_2 tw_217) rfl rfl rfl cd_yX11_between_3 ⟨Nat.le_of_ble_eq_true rfl, Nat.le_of_ble_eq_true rfl⟩) ⟨pq_blind, pq_pre hK hN hP hD⟩ rfl rfl hl.1 rfl (lv_room (Nat.le_of_ble_eq_true rfl)) dX11_why_3 ⟨Nat.le_of_ble_eq_true rfl, Nat.le_of_ble_eq_true rfl⟩) hD hS hA (fun x_1 σ1 μ1 H locs hw_2 hP hD hS => ?_)
    obtain ⟨hu_3, hr_5⟩ := hw_2
    obtain ⟨hu_3a, hu_3b⟩ := Prod.mk.inj hu_3
    rw [hu_3a, hu_3b] at hP hD
    have h_6 : rg x_1 0 1 := by rcases hr_5 with ⟨q, -⟩ | ⟨q, -⟩ <;> rw [q] <;> exact ⟨by decide, by decide⟩
    have K_48 : ∀  (H : Heap) (locs : List Loc) (ls : Array Slot), GX [] tg σ I ri rj I ri rj rq → va_P D vwCl (pq_P t σ (I, J, ri, rj, rq)) H → va_D A (pq_P t σ (I, J, ri, rj, rq)) → va_S A s.heap H locs → lv_has ls 4 [] → W p l e ({ frames := 5, cells := 0, slots := 0, locals := 139 } : Room) s m (List.toArray ([.ref this, .int a0, .int a1, .int a2] : List Value)) below meth c H locs 0 0 Q (F0 m 24 ls []) := by
      intro H locs ls hG hP hD hS hl
      refine lv_iconst (v := (-1)) hx hb dX11_why_24 (by decide) ?_
      subst hQ
      exact W.iret (v := (-1)) hx hb hr (fun t1 ht hW => ⟨⟨(-1), (σ, I, J, ri, rj, rq), rfl, ⟨ri, rfl, hG, (rg_w (rg_k (-1 : Int32) (-1) rfl) (by decide))⟩, by rw [ht]; exact hP, va_K.moved hW.alike hK, hD⟩, hS.F ht⟩) hS.2.2 dX11_why_25
    refine lv_if_eq (tgt := 24) hx hb dX11_why_6 (by decide) (fun c_49 => ?_) (fun c_49 => ?_)
    · have f_50 := (hr_5.resolve_left (fun q => absurd (q.1.symm.trans c_49) (by decide))).2
      have h_51 : rg x_1 0 0 := rg_and h_6 (rg_of_eq c_49 (rg_k (0 : Int32) 0 rfl)) (by decide)
      exact K_48 _ _ _ hG hP hD hS (lv_sub hl [] rfl)
    · obtain ⟨f_52, f_53⟩ := (hr_5.resolve_right (fun q => c_49 q.1)).2
      have h_54 : rg a0 0 2147483647 := rg_le2 f_52 (rg_k (0 : Int32) 0 rfl) (rg_full _) (by decide)
      have h_55 : rg a0 0 2 := rg_le1 f_53 h_54 (rg_k (2 : Int32) 2 rfl) (by decide)
      have h_56 : rg x_1 1 1 := rg_ne c_49 h_6 0 rfl (by decide)
      refine lv_aload_n hx hb dX11_why_9 rfl (lv_at hl 0 rfl) ?_
      refine lv_iload_n hx hb dX11_why_10 rfl (lv_at hl 2 rfl) ?_
      refine pk_i (va_runV (As := [.int a1]) (rest := []) ⟨hx, hb, hml, hown, hts⟩ (s_X11_isPerson l D t σ I J ri rj rq H.size tg hSH hG.1 this a1 hL_this hK_this) (cwV 1 hts (tw_V tw_405 tw_406 tw_407 tw_2 tw_408) rfl rfl rfl cv_yX11_isPerson_1 ⟨Nat.le_of_ble_eq_true rfl, Nat.le_of_ble_eq_true rfl⟩) ⟨pq_blind, pq_recv hK hP hL_this hK_this (by decide) rfl, pq_pre hK hN hP hD⟩ rfl rfl hl.1 rfl (lv_room (Nat.le_of_ble_eq_true rfl)) dX11_why_11 ⟨Nat.le_of_ble_eq_true rfl, Nat.le_of_ble_eq_true rfl⟩) hD hS hA (fun x_57 σ1 μ1 H locs hw_58 hP hD hS => ?_)
      obtain ⟨hu_59, hr_61⟩ := hw_58
      obtain ⟨hu_59a, hu_59b⟩ := Prod.mk.inj hu_59
      rw [hu_59a, hu_59b] at hP hD
      have h_62 : rg x_57 0 1 := by rcases hr_61 with ⟨q, -⟩ | ⟨q, -⟩ <;> rw [q] <;> exact ⟨by decide, by decide⟩
      refine lv_if_eq (tgt := 24) hx hb dX11_why_14 (by decide) (fun c_63 => ?_) (fun c_63 => ?_)
      · have f_64 := (hr_61.resolve_left (fun q => absurd (q.1.symm.trans c_63) (by decide))).2
        have h_65 : rg x_57 0 0 := rg_and h_62 (rg_of_eq c_63 (rg_k (0 : Int32) 0 rfl)) (by decide)
        exact K_48 _ _ _ hG hP hD hS (lv_sub hl [] rfl)
      · have f_66 := (hr_61.resolve_right (fun q => c_63 q.1)).2
        have h_67 : rg x_57 1 1 := rg_ne c_63 h_62 0 rfl (by decide)
        refine lv_iload_n hx hb dX11_why_17 rfl (lv_at hl 3 rfl) ?_
        refine pk_i (va_runS (As := [.int a2]) (rest := []) ⟨hx, hb, hml, hown, hts⟩ (s_X11_isMonth l D t σ I J ri rj rq H.size tg hSH hG.1 a2) (va_cwS 1 hts (tw_S tw_247 tw_248 tw_2 tw_249) rfl rfl rfl cd_yX11_isMonth_1 ⟨Nat.le_of_ble_eq_true rfl, Nat.le_of_ble_eq_true rfl⟩) ⟨pq_blind, pq_pre hK hN hP hD⟩ rfl rfl hl.1 rfl (lv_room (Nat.le_of_ble_eq_true rfl)) dX11_why_18 ⟨Nat.le_of_ble_eq_true rfl, Nat.le_of_ble_eq_true rfl⟩) hD hS hA (fun x_68 σ1 μ1 H locs hw_69 hP hD hS => ?_)
        obtain ⟨hu_70, hr_72⟩ := hw_69
        obtain ⟨hu_70a, hu_70b⟩ := Prod.mk.inj hu_70
        rw [hu_70a, hu_70b] at hP hD
        have h_73 : rg x_68 0 1 := by rcases hr_72 with ⟨q, -⟩ | ⟨q, -⟩ <;> rw [q] <;> exact ⟨by decide, by decide⟩
        refine lv_if_ne (tgt := 26) hx hb dX11_why_21 (by decide) (fun c_74 => ?_) (fun c_74 => ?_)
        · have f_75 := (hr_72.resolve_right (fun q => c_74 q.1)).2
          have h_76 : rg x_68 1 1 := rg_ne c_74 h_73 0 rfl (by decide)
          refine lv_aload_n hx hb dX11_why_26 rfl (lv_at hl 0 rfl) ?_
          obtain ⟨w_77, hR_w_77, hL_w_77, hK_w_77⟩ := sh_o hSH 352 (ci := 11) (kd := 10) rfl hL_this hK_this
          refine pg_f (v := .ref w_77) (C := RX11) (T := TX11) (N := 5) hx hb hts (tw_i inlX11) hown hK hP hL_this hK_this (by decide) rfl 0 (by decide) (hts _ (tw_c tw_16)) (pq_hv rfl hR_w_77) dX11_why_27 ?_
          obtain ⟨w_78, hR_w_78, hL_w_78, hK_w_78⟩ := sh_o hSH 329 (ci := 10) (kd := 3) rfl hL_w_77 hK_w_77
          refine pg_f (v := .ref w_78) (C := RX10) (T := TX10) (N := 13) hx hb hts (tw_i inlX10) hown hK hP hL_w_77 hK_w_77 (by decide) rfl 9 (by decide) (hts _ (tw_c tw_648)) (pq_hv rfl hR_w_78) dX11_why_30 ?_
          refine lv_iconst (v := 1) hx hb dX11_why_33 (by decide) ?_
          refine lv_iload_n hx hb dX11_why_34 rfl (lv_at hl 1 rfl) ?_
          refine lv_iadd hx hb dX11_why_35 ?_
          refine lv_topi (fun x_79 ex_79 => ?_)
          have h_80 : rg x_79 1 3 := rg_of_eq ex_79 (rg_add (rg_k (1 : Int32) 1 rfl) h_55 (by decide))
          refine lv_iload_n hx hb dX11_why_36 rfl (lv_at hl 3 rfl) ?_
          refine lv_aload_n hx hb dX11_why_37 rfl (lv_at hl 0 rfl) ?_
          refine pg_f (v := .ref w_77) (C := RX11) (T := TX11) (N := 5) hx hb hts (tw_i inlX11) hown hK hP hL_this hK_this (by decide) rfl 0 (by decide) (hts _ (tw_c tw_16)) (pq_hv rfl hR_w_77) dX11_why_38 ?_
          obtain ⟨w_81, hR_w_81, hL_w_81, hK_w_81⟩ := sh_o hSH 328 (ci := 10) (kd := 0) rfl hL_w_77 hK_w_77
          refine pg_f (v := .ref w_81) (C := RX10) (T := TX10) (N := 13) hx hb hts (tw_i inlX10) hown hK hP hL_w_77 hK_w_77 (by decide) rfl 8 (by decide) (hts _ (tw_c tw_379)) (pq_hv rfl hR_w_81) dX11_why_41 ?_
          refine lv_iload_n hx hb dX11_why_44 rfl (lv_at hl 2 rfl) ?_
          refine pk_i (va_runV (As := [.int x_79, .int a2, .ref w_81, .int a1]) (rest := []) ⟨hx, hb, hml, hown, hts⟩ (s_X3_clauseBy l D t σ I J ri rj rq H.size tg hSH hG.1 w_78 x_79 a2 w_81 a1 hL_w_78 hK_w_78 hL_w_81 hK_w_81 (rg_w f_66 (by decide))) (cwV 4 hts (tw_V tw_979 tw_980 tw_981 tw_49 tw_982) rfl rfl rfl cv_yX3_clauseBy_4 ⟨Nat.le_of_ble_eq_true rfl, Nat.le_of_ble_eq_true rfl⟩) ⟨pq_blind, pq_recv hK hP hL_w_78 hK_w_78 (by decide) rfl, pq_pre hK hN hP hD⟩ rfl rfl hl.1 rfl (lv_room (Nat.le_of_ble_eq_true rfl)) dX11_why_45 ⟨Nat.le_of_ble_eq_true rfl, Nat.le_of_ble_eq_true rfl⟩) hD hS hA (fun x_82 σ1 μ1 H locs hw_83 hP hD hS => ?_)
          obtain ⟨ri_84, hu_85, hg_86, hr_87⟩ := hw_83
          obtain ⟨hu_85a, hu_85b⟩ := Prod.mk.inj hu_85
          rw [hu_85a, hu_85b] at hP hD
          have hG := GX.tr hG hg_86 (by decide)
          subst hQ
          exact W.iret (v := x_82) hx hb hr (fun t1 ht hW => ⟨⟨x_82, (σ, I, J, ri_84, rj, rq), rfl, ⟨ri_84, rfl, hG, (rg_w hr_87 (by decide))⟩, by rw [ht]; exact hP, va_K.moved hW.alike hK, hD⟩, hS.F ht⟩) hS.2.2 dX11_why_48
        · have f_88 := (hr_72.resolve_left (fun q => absurd (q.1.symm.trans c_74) (by decide))).2
          have h_89 : rg x_68 0 0 := rg_and h_73 (rg_of_eq c_74 (rg_k (0 : Int32) 0 rfl)) (by decide)
          exact K_48 _ _ _ hG hP hD hS (lv_sub hl [] rfl)
  exact go _ _ _ hP hD hS hl

set_option maxHeartbeats 4000000 in
set_option maxRecDepth 100000 in
theorem s_X11_says (l : Launch) (D : va_G) (t : pq_T) (σ : pq_S) (I : Nat → Nat → Int32) (J : Nat → Nat → Int64) (ri : Nat → Nat → Int32) (rj : Nat → Nat → Int64) (rq : Nat → Nat → Option Nat) (sz : Nat) (tg : Nat → Nat) (hSH : SH σ tg) (hG0 : GS tg σ I ri rq) (this : Nat) (a0 : Int32) (a1 : Int32) (hL_this : this ∈ σ.1) (hK_this : σ.2.1 this = 11) : MetI l yX11_says (wa yX11_says cX11_says 3 (some .int)) ({ frames := 4, cells := 0, slots := 0, locals := 91 }) [.ref this, .int a0, .int a1] D t σ (I, J, ri, rj, rq) sz 0 0 (fun (r : Int32) (u : pq_S × pq_M) => u = (σ, I, J, ri, rj, rq)) := by
  refine Met.ofW (cc := cX11_says) (maxL := 3) (ret := (some .int)) (by decide) rfl ?_
  intro p e s m args below meth c s₁ B hml hv
  obtain ⟨rfl, hsz, hP, hK, hD0, hN⟩ := hv
  have hx := B.exec
  have hb := B.bytes
  have hr := B.returns
  have hts := atoms_spec (ws := (wa yX11_says cX11_says 3 (some .int))) B.pre
  have hown : s.vm.findClass RX11 = some m.cls := findClass_of_methodNamed B.named
  have hlocks := B.notSynchronized
  subst hsz
  have hD : va_D (pq_B t σ (I, J, ri, rj, rq) s.heap.size) (pq_P t σ (I, J, ri, rj, rq)) := hD0.self
  generalize hAe : pq_B t σ (I, J, ri, rj, rq) s.heap.size = A at hD ⊢
  have hA : ∀ q : Nat, s.heap.size ≤ q → A q := fun q h => by rw [← hAe]; exact Or.inr h
  have hS : va_S A s.heap s.heap [] := va_S.rf
  have hG : GX [] tg σ I ri rj I ri rj rq := ⟨hG0, fun _ _ _ => rfl, fun _ _ _ _ _ => rfl, fun _ _ _ _ _ => rfl⟩
  have hl := lv_entry ([.ref this, .int a0, .int a1]) (n := 3) (Nat.le_of_ble_eq_true rfl)
  rw [lg_entry_eq]
  generalize (lg_sl ([.ref this, .int a0, .int a1]) ++ List.replicate (3 - (lg_sl ([.ref this, .int a0, .int a1])).length) Slot.unset).toArray = ls at hl ⊢
  have hl : lv_has ls 3 [(0, .ref this), (1, .int a0), (2, .int a1)] := hl
  refine q_gen (fun Q hQ => ?_)
  have go : ∀ (H : Heap) (locs : List Loc) (ls : Array Slot), va_P D vwCl (pq_P t σ (I, J, ri, rj, rq)) H → va_D A (pq_P t σ (I, J, ri, rj, rq)) → va_S A s.heap H locs → lv_has ls 3 [(0, .ref this), (1, .int a0), (2, .int a1)] → W p l e ({ frames := 4, cells := 0, slots := 0, locals := 91 } : Room) s m (List.toArray ([.ref this, .int a0, .int a1] : List Value)) below meth c H locs 0 0 Q (F0 m 0 ls []) := by
    intro H locs ls hP hD hS hl
    refine lv_iload_n hx hb dX11_says_0 rfl (lv_at hl 1 rfl) ?_
    refine pk_i (va_runS (As := [.int a0]) (rest := []) ⟨hx, hb, hml, hown, hts⟩ (s_X11_isMonth l D t σ I J ri rj rq H.size tg hSH hG.1 a0) (va_cwS 1 hts (tw_S tw_247 tw_248 tw_2 tw_249) rfl rfl rfl cd_yX11_isMonth_1 ⟨Nat.le_of_ble_eq_true rfl, Nat.le_of_ble_eq_true rfl⟩) ⟨pq_blind, pq_pre hK hN hP hD⟩ rfl rfl hl.1 rfl (lv_room (Nat.le_of_ble_eq_true rfl)) dX11_says_1 ⟨Nat.le_of_ble_eq_true rfl, Nat.le_of_ble_eq_true rfl⟩) hD hS hA (fun x_1 σ1 μ1 H locs hw_2 hP hD hS => ?_)
    obtain ⟨hu_3, hr_5⟩ := hw_2
    obtain ⟨hu_3a, hu_3b⟩ := Prod.mk.inj hu_3
    rw [hu_3a, hu_3b] at hP hD
    have h_6 : rg x_1 0 1 := by rcases hr_5 with ⟨q, -⟩ | ⟨q, -⟩ <;> rw [q] <;> exact ⟨by decide, by decide⟩
    refine lv_if_ne (tgt := 9) hx hb dX11_says_4 (by decide) (fun c_7 => ?_) (fun c_7 => ?_)
    · have f_8 := (hr_5.resolve_right (fun q => c_7 q.1)).2
      have h_9 : rg x_1 1 1 := rg_ne c_7 h_6 0 rfl (by decide)
      refine lv_iload_n hx hb dX11_says_9 rfl (lv_at hl 2 rfl) ?_
      by_cases k_10 : a1 = (0 : Int32)
      · have h_11 : rg a1 0 0 := rg_and (rg_full _) (rg_of_eq k_10 (rg_k (0 : Int32) 0 rfl)) (by decide)
        refine lv_tov 0 k_10 ?_
        refine lv_tableIn (tgt := 36) hx hb dX11_says_10 (by decide) (by decide) rfl (by decide) ?_
        refine lv_aload_n hx hb dX11_says_36 rfl (lv_at hl 0 rfl) ?_
        obtain ⟨w_12, hR_w_12, hL_w_12, hK_w_12⟩ := sh_o hSH 352 (ci := 11) (kd := 10) rfl hL_this hK_this
        refine pg_f (v := .ref w_12) (C := RX11) (T := TX11) (N := 5) hx hb hts (tw_i inlX11) hown hK hP hL_this hK_this (by decide) rfl 0 (by decide) (hts _ (tw_c tw_16)) (pq_hv rfl hR_w_12) dX11_says_37 ?_
        obtain ⟨w_13, hR_w_13, hL_w_13, hK_w_13⟩ := sh_o hSH 329 (ci := 10) (kd := 3) rfl hL_w_12 hK_w_12
        refine pg_f (v := .ref w_13) (C := RX10) (T := TX10) (N := 13) hx hb hts (tw_i inlX10) hown hK hP hL_w_12 hK_w_12 (by decide) rfl 9 (by decide) (hts _ (tw_c tw_648)) (pq_hv rfl hR_w_13) dX11_says_40 ?_
        refine lv_iload_n hx hb dX11_says_43 rfl (lv_at hl 1 rfl) ?_
        refine pk_i (va_runV (As := [.int a0]) (rest := []) ⟨hx, hb, hml, hown, hts⟩ (s_X3_councilIn l D t σ I J ri rj rq H.size tg hSH hG.1 w_13 a0 hL_w_13 hK_w_13) (cwV 1 hts (tw_V tw_991 tw_992 tw_993 tw_49 tw_994) rfl rfl rfl cv_yX3_councilIn_1 ⟨Nat.le_of_ble_eq_true rfl, Nat.le_of_ble_eq_true rfl⟩) ⟨pq_blind, pq_recv hK hP hL_w_13 hK_w_13 (by decide) rfl, pq_pre hK hN hP hD⟩ rfl rfl hl.1 rfl (lv_room (Nat.le_of_ble_eq_true rfl)) dX11_says_44 ⟨Nat.le_of_ble_eq_true rfl, Nat.le_of_ble_eq_true rfl⟩) hD hS hA (fun x_14 σ1 μ1 H locs hw_15 hP hD hS => ?_)
        have hu_16 := hw_15
        obtain ⟨hu_16a, hu_16b⟩ := Prod.mk.inj hu_16
        rw [hu_16a, hu_16b] at hP hD
        subst hQ
        exact W.iret (v := x_14) hx hb hr (fun t1 ht hW => ⟨⟨x_14, (σ, I, J, ri, rj, rq), rfl, rfl, by rw [ht]; exact hP, va_K.moved hW.alike hK, hD⟩, hS.F ht⟩) hS.2.2 dX11_says_47
      by_cases k_19 : a1 = (1 : Int32)
      · have h_20 : rg a1 1 1 := rg_and (rg_full _) (rg_of_eq k_19 (rg_k (1 : Int32) 1 rfl)) (by decide)
        refine lv_tov 1 k_19 ?_
        refine lv_tableIn (tgt := 48) hx hb dX11_says_10 (by decide) (by decide) rfl (by decide) ?_
        refine lv_aload_n hx hb dX11_says_48 rfl (lv_at hl 0 rfl) ?_
        obtain ⟨w_21, hR_w_21, hL_w_21, hK_w_21⟩ := sh_o hSH 352 (ci := 11) (kd := 10) rfl hL_this hK_this
        refine pg_f (v := .ref w_21) (C := RX11) (T := TX11) (N := 5) hx hb hts (tw_i inlX11) hown hK hP hL_this hK_this (by decide) rfl 0 (by decide) (hts _ (tw_c tw_16)) (pq_hv rfl hR_w_21) dX11_says_49 ?_
        obtain ⟨w_22, hR_w_22, hL_w_22, hK_w_22⟩ := sh_o hSH 329 (ci := 10) (kd := 3) rfl hL_w_21 hK_w_21
        refine pg_f (v := .ref w_22) (C := RX10) (T := TX10) (N := 13) hx hb hts (tw_i inlX10) hown hK hP hL_w_21 hK_w_21 (by decide) rfl 9 (by decide) (hts _ (tw_c tw_648)) (pq_hv rfl hR_w_22) dX11_says_52 ?_
        refine lv_iload_n hx hb dX11_says_55 rfl (lv_at hl 1 rfl) ?_
        refine pk_i (va_runV (As := [.int a0]) (rest := []) ⟨hx, hb, hml, hown, hts⟩ (s_X3_leaveIn l D t σ I J ri rj rq H.size tg hSH hG.1 w_22 a0 hL_w_22 hK_w_22) (cwV 1 hts (tw_V tw_1004 tw_1005 tw_1006 tw_49 tw_1007) rfl rfl rfl cv_yX3_leaveIn_1 ⟨Nat.le_of_ble_eq_true rfl, Nat.le_of_ble_eq_true rfl⟩) ⟨pq_blind, pq_recv hK hP hL_w_22 hK_w_22 (by decide) rfl, pq_pre hK hN hP hD⟩ rfl rfl hl.1 rfl (lv_room (Nat.le_of_ble_eq_true rfl)) dX11_says_56 ⟨Nat.le_of_ble_eq_true rfl, Nat.le_of_ble_eq_true rfl⟩) hD hS hA (fun x_23 σ1 μ1 H locs hw_24 hP hD hS => ?_)
        have hu_25 := hw_24
        obtain ⟨hu_25a, hu_25b⟩ := Prod.mk.inj hu_25
        rw [hu_25a, hu_25b] at hP hD
        subst hQ
        exact W.iret (v := x_23) hx hb hr (fun t1 ht hW => ⟨⟨x_23, (σ, I, J, ri, rj, rq), rfl, rfl, by rw [ht]; exact hP, va_K.moved hW.alike hK, hD⟩, hS.F ht⟩) hS.2.2 dX11_says_59
      by_cases k_28 : a1 = (2 : Int32)
      · have h_29 : rg a1 2 2 := rg_and (rg_full _) (rg_of_eq k_28 (rg_k (2 : Int32) 2 rfl)) (by decide)
        refine lv_tov 2 k_28 ?_
        refine lv_tableIn (tgt := 60) hx hb dX11_says_10 (by decide) (by decide) rfl (by decide) ?_
        refine lv_aload_n hx hb dX11_says_60 rfl (lv_at hl 0 rfl) ?_
        obtain ⟨w_30, hR_w_30, hL_w_30, hK_w_30⟩ := sh_o hSH 352 (ci := 11) (kd := 10) rfl hL_this hK_this
        refine pg_f (v := .ref w_30) (C := RX11) (T := TX11) (N := 5) hx hb hts (tw_i inlX11) hown hK hP hL_this hK_this (by decide) rfl 0 (by decide) (hts _ (tw_c tw_16)) (pq_hv rfl hR_w_30) dX11_says_61 ?_
        obtain ⟨w_31, hR_w_31, hL_w_31, hK_w_31⟩ := sh_o hSH 329 (ci := 10) (kd := 3) rfl hL_w_30 hK_w_30
        refine pg_f (v := .ref w_31) (C := RX10) (T := TX10) (N := 13) hx hb hts (tw_i inlX10) hown hK hP hL_w_30 hK_w_30 (by decide) rfl 9 (by decide) (hts _ (tw_c tw_648)) (pq_hv rfl hR_w_31) dX11_says_64 ?_
        refine lv_iload_n hx hb dX11_says_67 rfl (lv_at hl 1 rfl) ?_
        refine pk_i (va_runV (As := [.int a0]) (rest := []) ⟨hx, hb, hml, hown, hts⟩ (s_X3_fixIn l D t σ I J ri rj rq H.size tg hSH hG.1 w_31 a0 hL_w_31 hK_w_31) (cwV 1 hts (tw_V tw_1008 tw_1009 tw_1010 tw_49 tw_1011) rfl rfl rfl cv_yX3_fixIn_1 ⟨Nat.le_of_ble_eq_true rfl, Nat.le_of_ble_eq_true rfl⟩) ⟨pq_blind, pq_recv hK hP hL_w_31 hK_w_31 (by decide) rfl, pq_pre hK hN hP hD⟩ rfl rfl hl.1 rfl (lv_room (Nat.le_of_ble_eq_true rfl)) dX11_says_68 ⟨Nat.le_of_ble_eq_true rfl, Nat.le_of_ble_eq_true rfl⟩) hD hS hA (fun x_32 σ1 μ1 H locs hw_33 hP hD hS => ?_)
        have hu_34 := hw_33
        obtain ⟨hu_34a, hu_34b⟩ := Prod.mk.inj hu_34
        rw [hu_34a, hu_34b] at hP hD
        subst hQ
        exact W.iret (v := x_32) hx hb hr (fun t1 ht hW => ⟨⟨x_32, (σ, I, J, ri, rj, rq), rfl, rfl, by rw [ht]; exact hP, va_K.moved hW.alike hK, hD⟩, hS.F ht⟩) hS.2.2 dX11_says_71
      refine lv_tableOut (tgt := 72) hx hb dX11_says_10 (by have z_k_10 := sw_ne k_10 (n := 0) rfl; have z_k_19 := sw_ne k_19 (n := 1) rfl; have z_k_28 := sw_ne k_28 (n := 2) rfl; omega) (by decide) ?_
      refine lv_iconst (v := (-1)) hx hb dX11_says_72 (by decide) ?_
      subst hQ
      exact W.iret (v := (-1)) hx hb hr (fun t1 ht hW => ⟨⟨(-1), (σ, I, J, ri, rj, rq), rfl, rfl, by rw [ht]; exact hP, va_K.moved hW.alike hK, hD⟩, hS.F ht⟩) hS.2.2 dX11_says_73
    · have f_37 := (hr_5.resolve_left (fun q => absurd (q.1.symm.trans c_7) (by decide))).2
      have h_38 : rg x_1 0 0 := rg_and h_6 (rg_of_eq c_7 (rg_k (0 : Int32) 0 rfl)) (by decide)
      refine lv_iconst (v := (-1)) hx hb dX11_says_7 (by decide) ?_
      subst hQ
      exact W.iret (v := (-1)) hx hb hr (fun t1 ht hW => ⟨⟨(-1), (σ, I, J, ri, rj, rq), rfl, rfl, by rw [ht]; exact hP, va_K.moved hW.alike hK, hD⟩, hS.F ht⟩) hS.2.2 dX11_says_8
  exact go _ _ _ hP hD hS hl

set_option maxHeartbeats 4000000 in
set_option maxRecDepth 100000 in
theorem s_X11_sail (l : Launch) (D : va_G) (t : pq_T) (σ : pq_S) (I : Nat → Nat → Int32) (J : Nat → Nat → Int64) (ri : Nat → Nat → Int32) (rj : Nat → Nat → Int64) (rq : Nat → Nat → Option Nat) (sz : Nat) (tg : Nat → Nat) (hSH : SH σ tg) (hG0 : GS tg σ I ri rq) (this : Nat) (a0 : Int32) (a1 : Int32) (hL_this : this ∈ σ.1) (hK_this : σ.2.1 this = 11) : MetI l yX11_sail (wa yX11_sail cX11_sail 3 (some .boolean)) ({ frames := 1, cells := 0, slots := 0, locals := 22 }) [.ref this, .int a0, .int a1] D t σ (I, J, ri, rj, rq) sz 0 0 (fun (r : Int32) (u : pq_S × pq_M) => ∃ I' : Nat → Nat → Int32, u = (σ, I', J, ri, rj, rq) ∧ GX [] tg σ I ri rj I' ri rj rq ∧ ((r = 1 ∧ rg a0 0 40 ∧ rg a1 0 100000) ∨ (r = 0 ∧ True))) := by
  refine Met.ofW (cc := cX11_sail) (maxL := 3) (ret := (some .boolean)) (by decide) rfl ?_
  intro p e s m args below meth c s₁ B hml hv
  obtain ⟨rfl, hsz, hP, hK, hD0, hN⟩ := hv
  have hx := B.exec
  have hb := B.bytes
  have hr := B.returns
  have hts := atoms_spec (ws := (wa yX11_sail cX11_sail 3 (some .boolean))) B.pre
  have hown : s.vm.findClass RX11 = some m.cls := findClass_of_methodNamed B.named
  have hlocks := B.notSynchronized
  subst hsz
  have hD : va_D (pq_B t σ (I, J, ri, rj, rq) s.heap.size) (pq_P t σ (I, J, ri, rj, rq)) := hD0.self
  generalize hAe : pq_B t σ (I, J, ri, rj, rq) s.heap.size = A at hD ⊢
  have hA : ∀ q : Nat, s.heap.size ≤ q → A q := fun q h => by rw [← hAe]; exact Or.inr h
  have hS : va_S A s.heap s.heap [] := va_S.rf
  have hG : GX [] tg σ I ri rj I ri rj rq := ⟨hG0, fun _ _ _ => rfl, fun _ _ _ _ _ => rfl, fun _ _ _ _ _ => rfl⟩
  have hl := lv_entry ([.ref this, .int a0, .int a1]) (n := 3) (Nat.le_of_ble_eq_true rfl)
  rw [lg_entry_eq]
  generalize (lg_sl ([.ref this, .int a0, .int a1]) ++ List.replicate (3 - (lg_sl ([.ref this, .int a0, .int a1])).length) Slot.unset).toArray = ls at hl ⊢
  have hl : lv_has ls 3 [(0, .ref this), (1, .int a0), (2, .int a1)] := hl
  refine q_gen (fun Q hQ => ?_)
  have go : ∀ (H : Heap) (locs : List Loc) (ls : Array Slot), va_P D vwCl (pq_P t σ (I, J, ri, rj, rq)) H → va_D A (pq_P t σ (I, J, ri, rj, rq)) → va_S A s.heap H locs → lv_has ls 3 [(0, .ref this), (1, .int a0), (2, .int a1)] → W p l e ({ frames := 1, cells := 0, slots := 0, locals := 22 } : Room) s m (List.toArray ([.ref this, .int a0, .int a1] : List Value)) below meth c H locs 0 0 Q (F0 m 0 ls []) := by
    intro H locs ls hP hD hS hl
    refine lv_iload_n hx hb dX11_sail_0 rfl (lv_at hl 1 rfl) ?_
    refine lv_iconst (v := 0) hx hb dX11_sail_1 (by decide) ?_
    refine lv_bipush (v := 40) hx hb dX11_sail_2 (by decide) ?_
    refine pk_i (va_runS (As := [.int a0, .int 0, .int 40]) (rest := []) ⟨hx, hb, hml, hown, hts⟩ (s_X11_between l D t σ I J ri rj rq H.size tg hSH hG.1 a0 (0 : Int32) (40 : Int32)) (va_cwS 3 hts (tw_S tw_215 tw_216 tw_2 tw_217) rfl rfl rfl cd_yX11_between_3 ⟨Nat.le_of_ble_eq_true rfl, Nat.le_of_ble_eq_true rfl⟩) ⟨pq_blind, pq_pre hK hN hP hD⟩ rfl rfl hl.1 rfl (lv_room (Nat.le_of_ble_eq_true rfl)) dX11_sail_4 ⟨Nat.le_of_ble_eq_true rfl, Nat.le_of_ble_eq_true rfl⟩) hD hS hA (fun x_1 σ1 μ1 H locs hw_2 hP hD hS => ?_)
    obtain ⟨hu_3, hr_5⟩ := hw_2
    obtain ⟨hu_3a, hu_3b⟩ := Prod.mk.inj hu_3
    rw [hu_3a, hu_3b] at hP hD
    have h_6 : rg x_1 0 1 := by rcases hr_5 with ⟨q, -⟩ | ⟨q, -⟩ <;> rw [q] <;> exact ⟨by decide, by decide⟩
    have K_33 : ∀  (H : Heap) (locs : List Loc) (ls : Array Slot), GX [] tg σ I ri rj I ri rj rq → va_P D vwCl (pq_P t σ (I, J, ri, rj, rq)) H → va_D A (pq_P t σ (I, J, ri, rj, rq)) → va_S A s.heap H locs → lv_has ls 3 [] → W p l e ({ frames := 1, cells := 0, slots := 0, locals := 22 } : Room) s m (List.toArray ([.ref this, .int a0, .int a1] : List Value)) below meth c H locs 0 0 Q (F0 m 20 ls []) := by
      intro H locs ls hG hP hD hS hl
      refine lv_iconst (v := 0) hx hb dX11_sail_20 (by decide) ?_
      subst hQ
      exact W.zret (v := 0) hx hb hr (by decide) (fun t1 ht hW => ⟨⟨0, (σ, I, J, ri, rj, rq), rfl, ⟨I, rfl, hG, (Or.inr ⟨rfl, trivial⟩)⟩, by rw [ht]; exact hP, va_K.moved hW.alike hK, hD⟩, hS.F ht⟩) hS.2.2 dX11_sail_21
    refine lv_if_eq (tgt := 20) hx hb dX11_sail_7 (by decide) (fun c_34 => ?_) (fun c_34 => ?_)
    · have f_35 := (hr_5.resolve_left (fun q => absurd (q.1.symm.trans c_34) (by decide))).2
      have h_36 : rg x_1 0 0 := rg_and h_6 (rg_of_eq c_34 (rg_k (0 : Int32) 0 rfl)) (by decide)
      exact K_33 _ _ _ hG hP hD hS (lv_sub hl [] rfl)
    · obtain ⟨f_37, f_38⟩ := (hr_5.resolve_right (fun q => c_34 q.1)).2
      have h_39 : rg a0 0 2147483647 := rg_le2 f_37 (rg_k (0 : Int32) 0 rfl) (rg_full _) (by decide)
      have h_40 : rg a0 0 40 := rg_le1 f_38 h_39 (rg_k (40 : Int32) 40 rfl) (by decide)
      have h_41 : rg x_1 1 1 := rg_ne c_34 h_6 0 rfl (by decide)
      refine lv_iload_n hx hb dX11_sail_10 rfl (lv_at hl 2 rfl) ?_
      refine lv_iconst (v := 0) hx hb dX11_sail_11 (by decide) ?_
      refine lv_ldc hx hb hown (hts _ (tw_c tw_1024)) dX11_sail_12 ?_
      refine pk_i (va_runS (As := [.int a1, .int 0, .int 100000]) (rest := []) ⟨hx, hb, hml, hown, hts⟩ (s_X11_between l D t σ I J ri rj rq H.size tg hSH hG.1 a1 (0 : Int32) (100000 : Int32)) (va_cwS 3 hts (tw_S tw_215 tw_216 tw_2 tw_217) rfl rfl rfl cd_yX11_between_3 ⟨Nat.le_of_ble_eq_true rfl, Nat.le_of_ble_eq_true rfl⟩) ⟨pq_blind, pq_pre hK hN hP hD⟩ rfl rfl hl.1 rfl (lv_room (Nat.le_of_ble_eq_true rfl)) dX11_sail_14 ⟨Nat.le_of_ble_eq_true rfl, Nat.le_of_ble_eq_true rfl⟩) hD hS hA (fun x_42 σ1 μ1 H locs hw_43 hP hD hS => ?_)
      obtain ⟨hu_44, hr_46⟩ := hw_43
      obtain ⟨hu_44a, hu_44b⟩ := Prod.mk.inj hu_44
      rw [hu_44a, hu_44b] at hP hD
      have h_47 : rg x_42 0 1 := by rcases hr_46 with ⟨q, -⟩ | ⟨q, -⟩ <;> rw [q] <;> exact ⟨by decide, by decide⟩
      refine lv_if_ne (tgt := 22) hx hb dX11_sail_17 (by decide) (fun c_48 => ?_) (fun c_48 => ?_)
      · obtain ⟨f_49, f_50⟩ := (hr_46.resolve_right (fun q => c_48 q.1)).2
        have h_51 : rg a1 0 2147483647 := rg_le2 f_49 (rg_k (0 : Int32) 0 rfl) (rg_full _) (by decide)
        have h_52 : rg a1 0 100000 := rg_le1 f_50 h_51 (rg_k (100000 : Int32) 100000 rfl) (by decide)
        have h_53 : rg x_42 1 1 := rg_ne c_48 h_47 0 rfl (by decide)
        refine lv_aload_n hx hb dX11_sail_22 rfl (lv_at hl 0 rfl) ?_
        obtain ⟨w_54, hR_w_54, hL_w_54, hK_w_54⟩ := sh_o hSH 352 (ci := 11) (kd := 10) rfl hL_this hK_this
        refine pg_f (v := .ref w_54) (C := RX11) (T := TX11) (N := 5) hx hb hts (tw_i inlX11) hown hK hP hL_this hK_this (by decide) rfl 0 (by decide) (hts _ (tw_c tw_16)) (pq_hv rfl hR_w_54) dX11_sail_23 ?_
        refine lv_iload_n hx hb dX11_sail_26 rfl (lv_at hl 1 rfl) ?_
        refine pp_i (v := a0) (ty := .int) (C := RX10) (T := TX10) (N := 13) hx hb hts (tw_i inlX10) tyX10 tyX10_ok nmX10 hown hK hP hD hS hL_w_54 hK_w_54 (by decide) rfl 2 322 (by decide) (hts _ (tw_c tw_1025)) rfl (tyX10_ok 2 (by decide)) rfl rfl (Nat.le_of_ble_eq_true rfl) (ps_322 _ _ _ _ _) dX11_sail_27 (fun I_55 H locs eI_55 hP hD hS => ?_)
        have hG := GX.wI hG 322 rfl eI_55 (rg_w h_40 (by decide)) (by decide)
        refine lv_aload_n hx hb dX11_sail_30 rfl (lv_at hl 0 rfl) ?_
        refine pg_f (v := .ref w_54) (C := RX11) (T := TX11) (N := 5) hx hb hts (tw_i inlX11) hown hK hP hL_this hK_this (by decide) rfl 0 (by decide) (hts _ (tw_c tw_16)) (pq_hv rfl hR_w_54) dX11_sail_31 ?_
        refine lv_dup hx hb dX11_sail_34 rfl ?_
        refine pg_f (v := .int (I_55 321 w_54)) (C := RX10) (T := TX10) (N := 13) hx hb hts (tw_i inlX10) hown hK hP hL_w_54 hK_w_54 (by decide) rfl 1 (by decide) (hts _ (tw_c tw_1026)) rfl dX11_sail_35 ?_
        refine lv_iload_n hx hb dX11_sail_38 rfl (lv_at hl 2 rfl) ?_
        refine lv_iadd hx hb dX11_sail_39 ?_
        refine lv_topi (fun x_56 ex_56 => ?_)
        refine pp_i (v := x_56) (ty := .int) (C := RX10) (T := TX10) (N := 13) hx hb hts (tw_i inlX10) tyX10 tyX10_ok nmX10 hown hK hP hD hS hL_w_54 hK_w_54 (by decide) rfl 1 321 (by decide) (hts _ (tw_c tw_1026)) rfl (tyX10_ok 1 (by decide)) rfl rfl (Nat.le_of_ble_eq_true rfl) (ps_321 _ _ _ _ _) dX11_sail_40 (fun I_57 H locs eI_57 hP hD hS => ?_)
        have hG := GX.wI hG 321 rfl eI_57 (rg_w (rg_full _) (by decide)) (by decide)
        refine lv_iconst (v := 1) hx hb dX11_sail_43 (by decide) ?_
        subst hQ
        exact W.zret (v := 1) hx hb hr (by decide) (fun t1 ht hW => ⟨⟨1, (σ, I_57, J, ri, rj, rq), rfl, ⟨I_57, rfl, hG, (Or.inl ⟨rfl, (rg_w h_40 (by decide)), (rg_w h_52 (by decide))⟩)⟩, by rw [ht]; exact hP, va_K.moved hW.alike hK, hD⟩, hS.F ht⟩) hS.2.2 dX11_sail_44
      · have f_58 := (hr_46.resolve_left (fun q => absurd (q.1.symm.trans c_48) (by decide))).2
        have h_59 : rg x_42 0 0 := rg_and h_47 (rg_of_eq c_48 (rg_k (0 : Int32) 0 rfl)) (by decide)
        exact K_33 _ _ _ hG hP hD hS (lv_sub hl [] rfl)
  exact go _ _ _ hP hD hS hl
