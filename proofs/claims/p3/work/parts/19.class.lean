theorem dX11_fault_0 : decode cX11_fault 0 = .ok (.iload_n 1, 1) := by decide +kernel
theorem dX11_fault_1 : decode cX11_fault 1 = .ok (.lookupswitch 43 #[(0, 27), (1, 35)], 27) := by decide +kernel
theorem dX11_fault_28 : decode cX11_fault 28 = .ok (.aload_n 0, 1) := by decide +kernel
theorem dX11_fault_29 : decode cX11_fault 29 = .ok (.getfield 32, 3) := by decide +kernel
theorem tw_650 : Cond.fieldLink RX11 221 "RingsUnder$Reader" "fault" "I" ∈ wsL_law := List.mem_of_getElem? (i := 650) (by decide +kernel)
theorem dX11_fault_32 : decode cX11_fault 32 = .ok (.getfield 221, 3) := by decide +kernel
theorem dX11_fault_35 : decode cX11_fault 35 = .ok (.ireturn, 1) := by decide +kernel
theorem dX11_fault_36 : decode cX11_fault 36 = .ok (.aload_n 0, 1) := by decide +kernel
theorem dX11_fault_37 : decode cX11_fault 37 = .ok (.getfield 32, 3) := by decide +kernel
theorem tw_941 : Cond.fieldLink RX11 228 "RingsUnder$Reader" "place" "I" ∈ wsL_law := List.mem_of_getElem? (i := 941) (by decide +kernel)
theorem dX11_fault_40 : decode cX11_fault 40 = .ok (.getfield 228, 3) := by decide +kernel
theorem dX11_fault_43 : decode cX11_fault 43 = .ok (.ireturn, 1) := by decide +kernel
theorem dX11_fault_44 : decode cX11_fault 44 = .ok (.iconst (-1), 1) := by decide +kernel
theorem dX11_fault_45 : decode cX11_fault 45 = .ok (.ireturn, 1) := by decide +kernel
theorem dX11_force_0 : decode cX11_force 0 = .ok (.aload_n 0, 1) := by decide +kernel
theorem dX11_force_1 : decode cX11_force 1 = .ok (.getfield 10, 3) := by decide +kernel
theorem tw_648 : Cond.fieldLink RX11 208 "RingsUnder$World" "law" "LRingsUnder$Law;" ∈ wsL_law := List.mem_of_getElem? (i := 648) (by decide +kernel)
theorem dX11_force_4 : decode cX11_force 4 = .ok (.getfield 208, 3) := by decide +kernel
theorem dX11_force_7 : decode cX11_force 7 = .ok (.astore 4, 2) := by decide +kernel
theorem dX11_force_9 : decode cX11_force 9 = .ok (.iload_n 1, 1) := by decide +kernel
theorem dX11_force_10 : decode cX11_force 10 = .ok (.iconst 0, 1) := by decide +kernel
theorem dX11_force_11 : decode cX11_force 11 = .ok (.aload 4, 2) := by decide +kernel
theorem tw_649 : Cond.fieldLink RX11 212 "RingsUnder$Law" "textCount" "I" ∈ wsL_law := List.mem_of_getElem? (i := 649) (by decide +kernel)
theorem dX11_force_13 : decode cX11_force 13 = .ok (.getfield 212, 3) := by decide +kernel
theorem dX11_force_16 : decode cX11_force 16 = .ok (.iconst 1, 1) := by decide +kernel
theorem dX11_force_17 : decode cX11_force 17 = .ok (.isub, 1) := by decide +kernel
theorem dX11_force_18 : decode cX11_force 18 = .ok (.invokestatic 50, 3) := by decide +kernel
theorem dX11_force_59 : decode cX11_force 59 = .ok (.istore 5, 2) := by decide +kernel
theorem dX11_force_61 : decode cX11_force 61 = .ok (.iload 5, 2) := by decide +kernel
theorem dX11_force_76 : decode cX11_force 76 = .ok (.iconst (-1), 1) := by decide +kernel
theorem dX11_force_77 : decode cX11_force 77 = .ok (.ireturn, 1) := by decide +kernel
theorem dX11_force_63 : decode cX11_force 63 = .ok (.ifCond .eq 13, 3) := by decide +kernel
theorem dX11_force_66 : decode cX11_force 66 = .ok (.aload 4, 2) := by decide +kernel
theorem tw_950 : Cond.fieldLink RX11 230 "RingsUnder$Law" "forces" "I" ∈ wsL_law := List.mem_of_getElem? (i := 950) (by decide +kernel)
theorem dX11_force_68 : decode cX11_force 68 = .ok (.getfield 230, 3) := by decide +kernel
theorem dX11_force_71 : decode cX11_force 71 = .ok (.bipush 30, 2) := by decide +kernel
theorem dX11_force_73 : decode cX11_force 73 = .ok (.if_icmp .lt 5, 3) := by decide +kernel
theorem dX11_force_78 : decode cX11_force 78 = .ok (.aload 4, 2) := by decide +kernel
theorem dX11_force_80 : decode cX11_force 80 = .ok (.iload_n 1, 1) := by decide +kernel
theorem dX11_force_81 : decode cX11_force 81 = .ok (.iload_n 2, 1) := by decide +kernel
theorem dX11_force_82 : decode cX11_force 82 = .ok (.iload_n 3, 1) := by decide +kernel
theorem tw_951 : Cond.methodLink RX11 233 yX3_addForce ∈ wsL_law := List.mem_of_getElem? (i := 951) (by decide +kernel)
theorem tw_952 : Cond.instanceMethod yX3_addForce ∈ wsL_law := List.mem_of_getElem? (i := 952) (by decide +kernel)
theorem tw_953 : Cond.selects RX3 yX3_addForce yX3_addForce ∈ wsL_law := List.mem_of_getElem? (i := 953) (by decide +kernel)
theorem tw_954 : Cond.code yX3_addForce cX3_addForce 4 (some .int) ∈ wsL_law := List.mem_of_getElem? (i := 954) (by decide +kernel)
theorem dX11_force_83 : decode cX11_force 83 = .ok (.invokevirtual 233, 3) := by decide +kernel
theorem dX11_force_86 : decode cX11_force 86 = .ok (.ireturn, 1) := by decide +kernel
theorem dX11_force_58 : decode cX11_force 58 = .ok (.iconst 0, 1) := by decide +kernel
theorem dX11_force_21 : decode cX11_force 21 = .ok (.ifCond .eq 37, 3) := by decide +kernel
theorem dX11_force_24 : decode cX11_force 24 = .ok (.iload_n 2, 1) := by decide +kernel
theorem dX11_force_25 : decode cX11_force 25 = .ok (.invokestatic 67, 3) := by decide +kernel
theorem dX11_force_28 : decode cX11_force 28 = .ok (.ifCond .eq 30, 3) := by decide +kernel
theorem dX11_force_31 : decode cX11_force 31 = .ok (.iload_n 3, 1) := by decide +kernel
theorem dX11_force_32 : decode cX11_force 32 = .ok (.invokestatic 67, 3) := by decide +kernel
theorem dX11_force_35 : decode cX11_force 35 = .ok (.ifCond .eq 23, 3) := by decide +kernel
theorem dX11_force_38 : decode cX11_force 38 = .ok (.iload_n 2, 1) := by decide +kernel
theorem dX11_force_39 : decode cX11_force 39 = .ok (.aload_n 0, 1) := by decide +kernel
theorem dX11_force_40 : decode cX11_force 40 = .ok (.getfield 10, 3) := by decide +kernel
theorem dX11_force_43 : decode cX11_force 43 = .ok (.getfield 54, 3) := by decide +kernel
theorem dX11_force_46 : decode cX11_force 46 = .ok (.if_icmp .lt 12, 3) := by decide +kernel
theorem dX11_force_49 : decode cX11_force 49 = .ok (.iload_n 2, 1) := by decide +kernel
theorem dX11_force_50 : decode cX11_force 50 = .ok (.iload_n 3, 1) := by decide +kernel
theorem dX11_force_51 : decode cX11_force 51 = .ok (.if_icmp .gt 7, 3) := by decide +kernel
theorem dX11_force_54 : decode cX11_force 54 = .ok (.iconst 1, 1) := by decide +kernel
theorem dX11_force_55 : decode cX11_force 55 = .ok (.goto 4, 3) := by decide +kernel
theorem dX11_is_0 : decode cX11_is 0 = .ok (.iload_n 1, 1) := by decide +kernel
theorem dX11_is_1 : decode cX11_is 1 = .ok (.iconst 0, 1) := by decide +kernel
theorem dX11_is_2 : decode cX11_is 2 = .ok (.iconst 2, 1) := by decide +kernel
theorem dX11_is_3 : decode cX11_is 3 = .ok (.invokestatic 50, 3) := by decide +kernel
theorem dX11_is_24 : decode cX11_is 24 = .ok (.iconst (-1), 1) := by decide +kernel
theorem dX11_is_25 : decode cX11_is 25 = .ok (.ireturn, 1) := by decide +kernel
theorem dX11_is_6 : decode cX11_is 6 = .ok (.ifCond .eq 18, 3) := by decide +kernel
theorem dX11_is_9 : decode cX11_is 9 = .ok (.aload_n 0, 1) := by decide +kernel
theorem dX11_is_10 : decode cX11_is 10 = .ok (.iload_n 2, 1) := by decide +kernel
theorem dX11_is_11 : decode cX11_is 11 = .ok (.invokevirtual 162, 3) := by decide +kernel
theorem dX11_is_14 : decode cX11_is 14 = .ok (.ifCond .eq 10, 3) := by decide +kernel
theorem dX11_is_17 : decode cX11_is 17 = .ok (.iload_n 3, 1) := by decide +kernel
theorem dX11_is_18 : decode cX11_is 18 = .ok (.invokestatic 67, 3) := by decide +kernel
theorem dX11_is_21 : decode cX11_is 21 = .ok (.ifCond .ne 5, 3) := by decide +kernel
theorem dX11_is_26 : decode cX11_is 26 = .ok (.aload_n 0, 1) := by decide +kernel
theorem dX11_is_27 : decode cX11_is 27 = .ok (.getfield 10, 3) := by decide +kernel
theorem dX11_is_30 : decode cX11_is 30 = .ok (.getfield 208, 3) := by decide +kernel
theorem dX11_is_33 : decode cX11_is 33 = .ok (.iconst 1, 1) := by decide +kernel
theorem dX11_is_34 : decode cX11_is 34 = .ok (.iload_n 1, 1) := by decide +kernel
theorem dX11_is_35 : decode cX11_is 35 = .ok (.iadd, 1) := by decide +kernel
theorem dX11_is_36 : decode cX11_is 36 = .ok (.iload_n 3, 1) := by decide +kernel
theorem dX11_is_37 : decode cX11_is 37 = .ok (.aload_n 0, 1) := by decide +kernel
theorem dX11_is_38 : decode cX11_is 38 = .ok (.getfield 10, 3) := by decide +kernel
theorem dX11_is_41 : decode cX11_is 41 = .ok (.getfield 143, 3) := by decide +kernel
theorem dX11_is_44 : decode cX11_is 44 = .ok (.lconst 1, 1) := by decide +kernel
theorem dX11_is_45 : decode cX11_is 45 = .ok (.iload_n 2, 1) := by decide +kernel
theorem dX11_is_46 : decode cX11_is 46 = .ok (.lshl, 1) := by decide +kernel
theorem tw_963 : Cond.methodLink RX11 236 yX3_whoIsSo ∈ wsL_law := List.mem_of_getElem? (i := 963) (by decide +kernel)
theorem dX11_is_47 : decode cX11_is 47 = .ok (.invokevirtual 236, 3) := by decide +kernel
theorem dX11_is_50 : decode cX11_is 50 = .ok (.lconst 0, 1) := by decide +kernel
theorem dX11_is_51 : decode cX11_is 51 = .ok (.lcmp, 1) := by decide +kernel
theorem dX11_is_52 : decode cX11_is 52 = .ok (.ifCond .eq 7, 3) := by decide +kernel
theorem dX11_is_59 : decode cX11_is 59 = .ok (.iconst 0, 1) := by decide +kernel
theorem dX11_is_60 : decode cX11_is 60 = .ok (.ireturn, 1) := by decide +kernel
theorem dX11_is_55 : decode cX11_is 55 = .ok (.iconst 1, 1) := by decide +kernel
theorem dX11_is_56 : decode cX11_is 56 = .ok (.goto 4, 3) := by decide +kernel
theorem dX11_why_0 : decode cX11_why 0 = .ok (.iload_n 1, 1) := by decide +kernel
theorem dX11_why_1 : decode cX11_why 1 = .ok (.iconst 0, 1) := by decide +kernel
theorem dX11_why_2 : decode cX11_why 2 = .ok (.iconst 2, 1) := by decide +kernel
theorem dX11_why_3 : decode cX11_why 3 = .ok (.invokestatic 50, 3) := by decide +kernel
theorem dX11_why_24 : decode cX11_why 24 = .ok (.iconst (-1), 1) := by decide +kernel
theorem dX11_why_25 : decode cX11_why 25 = .ok (.ireturn, 1) := by decide +kernel
theorem dX11_why_6 : decode cX11_why 6 = .ok (.ifCond .eq 18, 3) := by decide +kernel
theorem dX11_why_9 : decode cX11_why 9 = .ok (.aload_n 0, 1) := by decide +kernel
theorem dX11_why_10 : decode cX11_why 10 = .ok (.iload_n 2, 1) := by decide +kernel
theorem dX11_why_11 : decode cX11_why 11 = .ok (.invokevirtual 162, 3) := by decide +kernel
theorem dX11_why_14 : decode cX11_why 14 = .ok (.ifCond .eq 10, 3) := by decide +kernel
theorem dX11_why_17 : decode cX11_why 17 = .ok (.iload_n 3, 1) := by decide +kernel
theorem dX11_why_18 : decode cX11_why 18 = .ok (.invokestatic 67, 3) := by decide +kernel
theorem dX11_why_21 : decode cX11_why 21 = .ok (.ifCond .ne 5, 3) := by decide +kernel
theorem dX11_why_26 : decode cX11_why 26 = .ok (.aload_n 0, 1) := by decide +kernel
theorem dX11_why_27 : decode cX11_why 27 = .ok (.getfield 10, 3) := by decide +kernel
theorem dX11_why_30 : decode cX11_why 30 = .ok (.getfield 208, 3) := by decide +kernel
theorem dX11_why_33 : decode cX11_why 33 = .ok (.iconst 1, 1) := by decide +kernel
theorem dX11_why_34 : decode cX11_why 34 = .ok (.iload_n 1, 1) := by decide +kernel
theorem dX11_why_35 : decode cX11_why 35 = .ok (.iadd, 1) := by decide +kernel
theorem dX11_why_36 : decode cX11_why 36 = .ok (.iload_n 3, 1) := by decide +kernel
theorem dX11_why_37 : decode cX11_why 37 = .ok (.aload_n 0, 1) := by decide +kernel
theorem dX11_why_38 : decode cX11_why 38 = .ok (.getfield 10, 3) := by decide +kernel
theorem dX11_why_41 : decode cX11_why 41 = .ok (.getfield 143, 3) := by decide +kernel
theorem dX11_why_44 : decode cX11_why 44 = .ok (.iload_n 2, 1) := by decide +kernel
theorem tw_979 : Cond.methodLink RX11 240 yX3_clauseBy ∈ wsL_law := List.mem_of_getElem? (i := 979) (by decide +kernel)
theorem tw_980 : Cond.instanceMethod yX3_clauseBy ∈ wsL_law := List.mem_of_getElem? (i := 980) (by decide +kernel)
theorem tw_981 : Cond.selects RX3 yX3_clauseBy yX3_clauseBy ∈ wsL_law := List.mem_of_getElem? (i := 981) (by decide +kernel)
theorem tw_982 : Cond.code yX3_clauseBy cX3_clauseBy 6 (some .int) ∈ wsL_law := List.mem_of_getElem? (i := 982) (by decide +kernel)
theorem dX11_why_45 : decode cX11_why 45 = .ok (.invokevirtual 240, 3) := by decide +kernel
theorem dX11_why_48 : decode cX11_why 48 = .ok (.ireturn, 1) := by decide +kernel
theorem dX11_says_0 : decode cX11_says 0 = .ok (.iload_n 1, 1) := by decide +kernel
theorem dX11_says_1 : decode cX11_says 1 = .ok (.invokestatic 67, 3) := by decide +kernel
theorem dX11_says_4 : decode cX11_says 4 = .ok (.ifCond .ne 5, 3) := by decide +kernel
theorem dX11_says_9 : decode cX11_says 9 = .ok (.iload_n 2, 1) := by decide +kernel
theorem dX11_says_10 : decode cX11_says 10 = .ok (.tableswitch 62 0 2 #[26, 38, 50], 26) := by decide +kernel
theorem dX11_says_36 : decode cX11_says 36 = .ok (.aload_n 0, 1) := by decide +kernel
theorem dX11_says_37 : decode cX11_says 37 = .ok (.getfield 10, 3) := by decide +kernel
theorem dX11_says_40 : decode cX11_says 40 = .ok (.getfield 208, 3) := by decide +kernel
theorem dX11_says_43 : decode cX11_says 43 = .ok (.iload_n 1, 1) := by decide +kernel
theorem tw_991 : Cond.methodLink RX11 244 yX3_councilIn ∈ wsL_law := List.mem_of_getElem? (i := 991) (by decide +kernel)
theorem dX11_says_44 : decode cX11_says 44 = .ok (.invokevirtual 244, 3) := by decide +kernel
theorem dX11_says_47 : decode cX11_says 47 = .ok (.ireturn, 1) := by decide +kernel
theorem dX11_says_48 : decode cX11_says 48 = .ok (.aload_n 0, 1) := by decide +kernel
theorem dX11_says_49 : decode cX11_says 49 = .ok (.getfield 10, 3) := by decide +kernel
theorem dX11_says_52 : decode cX11_says 52 = .ok (.getfield 208, 3) := by decide +kernel
theorem dX11_says_55 : decode cX11_says 55 = .ok (.iload_n 1, 1) := by decide +kernel
theorem tw_1004 : Cond.methodLink RX11 247 yX3_leaveIn ∈ wsL_law := List.mem_of_getElem? (i := 1004) (by decide +kernel)
theorem dX11_says_56 : decode cX11_says 56 = .ok (.invokevirtual 247, 3) := by decide +kernel
theorem dX11_says_59 : decode cX11_says 59 = .ok (.ireturn, 1) := by decide +kernel
theorem dX11_says_60 : decode cX11_says 60 = .ok (.aload_n 0, 1) := by decide +kernel
theorem dX11_says_61 : decode cX11_says 61 = .ok (.getfield 10, 3) := by decide +kernel
theorem dX11_says_64 : decode cX11_says 64 = .ok (.getfield 208, 3) := by decide +kernel
theorem dX11_says_67 : decode cX11_says 67 = .ok (.iload_n 1, 1) := by decide +kernel
theorem tw_1008 : Cond.methodLink RX11 250 yX3_fixIn ∈ wsL_law := List.mem_of_getElem? (i := 1008) (by decide +kernel)
theorem dX11_says_68 : decode cX11_says 68 = .ok (.invokevirtual 250, 3) := by decide +kernel
theorem dX11_says_71 : decode cX11_says 71 = .ok (.ireturn, 1) := by decide +kernel
theorem dX11_says_72 : decode cX11_says 72 = .ok (.iconst (-1), 1) := by decide +kernel
theorem dX11_says_73 : decode cX11_says 73 = .ok (.ireturn, 1) := by decide +kernel
theorem dX11_says_7 : decode cX11_says 7 = .ok (.iconst (-1), 1) := by decide +kernel
theorem dX11_says_8 : decode cX11_says 8 = .ok (.ireturn, 1) := by decide +kernel
theorem dX11_sail_0 : decode cX11_sail 0 = .ok (.iload_n 1, 1) := by decide +kernel
theorem dX11_sail_1 : decode cX11_sail 1 = .ok (.iconst 0, 1) := by decide +kernel
theorem dX11_sail_2 : decode cX11_sail 2 = .ok (.bipush 40, 2) := by decide +kernel
theorem dX11_sail_4 : decode cX11_sail 4 = .ok (.invokestatic 50, 3) := by decide +kernel
theorem dX11_sail_20 : decode cX11_sail 20 = .ok (.iconst 0, 1) := by decide +kernel
theorem dX11_sail_21 : decode cX11_sail 21 = .ok (.ireturn, 1) := by decide +kernel
theorem dX11_sail_7 : decode cX11_sail 7 = .ok (.ifCond .eq 13, 3) := by decide +kernel
theorem dX11_sail_10 : decode cX11_sail 10 = .ok (.iload_n 2, 1) := by decide +kernel
theorem dX11_sail_11 : decode cX11_sail 11 = .ok (.iconst 0, 1) := by decide +kernel
theorem tw_1024 : Cond.constant RX11 253 (100000) ∈ wsL_law := List.mem_of_getElem? (i := 1024) (by decide +kernel)
theorem dX11_sail_12 : decode cX11_sail 12 = .ok (.ldc 253, 2) := by decide +kernel
theorem dX11_sail_14 : decode cX11_sail 14 = .ok (.invokestatic 50, 3) := by decide +kernel
theorem dX11_sail_17 : decode cX11_sail 17 = .ok (.ifCond .ne 5, 3) := by decide +kernel
theorem dX11_sail_22 : decode cX11_sail 22 = .ok (.aload_n 0, 1) := by decide +kernel
theorem dX11_sail_23 : decode cX11_sail 23 = .ok (.getfield 10, 3) := by decide +kernel
theorem dX11_sail_26 : decode cX11_sail 26 = .ok (.iload_n 1, 1) := by decide +kernel
theorem tw_1025 : Cond.fieldLink RX11 254 "RingsUnder$World" "boats" "I" ∈ wsL_law := List.mem_of_getElem? (i := 1025) (by decide +kernel)
theorem dX11_sail_27 : decode cX11_sail 27 = .ok (.putfield 254, 3) := by decide +kernel
theorem dX11_sail_30 : decode cX11_sail 30 = .ok (.aload_n 0, 1) := by decide +kernel
theorem dX11_sail_31 : decode cX11_sail 31 = .ok (.getfield 10, 3) := by decide +kernel
theorem dX11_sail_34 : decode cX11_sail 34 = .ok (.dup, 1) := by decide +kernel
theorem tw_1026 : Cond.fieldLink RX11 257 "RingsUnder$World" "fund" "I" ∈ wsL_law := List.mem_of_getElem? (i := 1026) (by decide +kernel)
theorem dX11_sail_35 : decode cX11_sail 35 = .ok (.getfield 257, 3) := by decide +kernel
theorem dX11_sail_38 : decode cX11_sail 38 = .ok (.iload_n 2, 1) := by decide +kernel
theorem dX11_sail_39 : decode cX11_sail 39 = .ok (.iadd, 1) := by decide +kernel
theorem dX11_sail_40 : decode cX11_sail 40 = .ok (.putfield 257, 3) := by decide +kernel
theorem dX11_sail_43 : decode cX11_sail 43 = .ok (.iconst 1, 1) := by decide +kernel
theorem dX11_sail_44 : decode cX11_sail 44 = .ok (.ireturn, 1) := by decide +kernel
theorem dX11_canGoBy_0 : decode cX11_canGoBy 0 = .ok (.iload_n 1, 1) := by decide +kernel
theorem dX11_canGoBy_1 : decode cX11_canGoBy 1 = .ok (.invokestatic 64, 3) := by decide +kernel
theorem dX11_canGoBy_35 : decode cX11_canGoBy 35 = .ok (.iconst 0, 1) := by decide +kernel
theorem dX11_canGoBy_36 : decode cX11_canGoBy 36 = .ok (.ireturn, 1) := by decide +kernel
theorem dX11_canGoBy_4 : decode cX11_canGoBy 4 = .ok (.ifCond .eq 31, 3) := by decide +kernel
theorem dX11_canGoBy_7 : decode cX11_canGoBy 7 = .ok (.iload_n 2, 1) := by decide +kernel
theorem dX11_canGoBy_8 : decode cX11_canGoBy 8 = .ok (.iconst 1, 1) := by decide +kernel
theorem dX11_canGoBy_9 : decode cX11_canGoBy 9 = .ok (.iload_n 3, 1) := by decide +kernel
theorem dX11_canGoBy_10 : decode cX11_canGoBy 10 = .ok (.invokestatic 50, 3) := by decide +kernel
theorem dX11_canGoBy_13 : decode cX11_canGoBy 13 = .ok (.ifCond .eq 22, 3) := by decide +kernel
theorem dX11_canGoBy_16 : decode cX11_canGoBy 16 = .ok (.aload_n 0, 1) := by decide +kernel
theorem dX11_canGoBy_17 : decode cX11_canGoBy 17 = .ok (.getfield 10, 3) := by decide +kernel
theorem dX11_canGoBy_20 : decode cX11_canGoBy 20 = .ok (.getfield 54, 3) := by decide +kernel
theorem dX11_canGoBy_23 : decode cX11_canGoBy 23 = .ok (.iload_n 2, 1) := by decide +kernel
theorem dX11_canGoBy_24 : decode cX11_canGoBy 24 = .ok (.iadd, 1) := by decide +kernel
theorem dX11_canGoBy_25 : decode cX11_canGoBy 25 = .ok (.sipush 600, 3) := by decide +kernel
theorem dX11_canGoBy_28 : decode cX11_canGoBy 28 = .ok (.if_icmp .gt 7, 3) := by decide +kernel
theorem dX11_canGoBy_31 : decode cX11_canGoBy 31 = .ok (.iconst 1, 1) := by decide +kernel
theorem dX11_canGoBy_32 : decode cX11_canGoBy 32 = .ok (.goto 4, 3) := by decide +kernel
theorem dX11_months_0 : decode cX11_months 0 = .ok (.aload_n 0, 1) := by decide +kernel
theorem dX11_months_1 : decode cX11_months 1 = .ok (.iload_n 2, 1) := by decide +kernel
theorem dX11_months_2 : decode cX11_months 2 = .ok (.iload_n 1, 1) := by decide +kernel
theorem dX11_months_3 : decode cX11_months 3 = .ok (.bipush 60, 2) := by decide +kernel
theorem tw_1035 : Cond.methodLink RX11 260 yX11_canGoBy ∈ wsL_law := List.mem_of_getElem? (i := 1035) (by decide +kernel)
theorem tw_1036 : Cond.instanceMethod yX11_canGoBy ∈ wsL_law := List.mem_of_getElem? (i := 1036) (by decide +kernel)
theorem tw_1037 : Cond.selects RX11 yX11_canGoBy yX11_canGoBy ∈ wsL_law := List.mem_of_getElem? (i := 1037) (by decide +kernel)
theorem tw_1038 : Cond.code yX11_canGoBy cX11_canGoBy 4 (some .boolean) ∈ wsL_law := List.mem_of_getElem? (i := 1038) (by decide +kernel)
theorem dX11_months_5 : decode cX11_months 5 = .ok (.invokevirtual 260, 3) := by decide +kernel
theorem dX11_months_8 : decode cX11_months 8 = .ok (.ifCond .ne 5, 3) := by decide +kernel
theorem dX11_months_13 : decode cX11_months 13 = .ok (.iconst 0, 1) := by decide +kernel
theorem dX11_months_14 : decode cX11_months 14 = .ok (.istore_n 3, 1) := by decide +kernel
theorem dX11_months_15 : decode cX11_months 15 = .ok (.iload_n 3, 1) := by decide +kernel
theorem dX11_months_16 : decode cX11_months 16 = .ok (.iload_n 1, 1) := by decide +kernel
theorem dX11_months_17 : decode cX11_months 17 = .ok (.if_icmp .ge 17, 3) := by decide +kernel
theorem dX11_months_34 : decode cX11_months 34 = .ok (.aload_n 0, 1) := by decide +kernel
theorem dX11_months_35 : decode cX11_months 35 = .ok (.getfield 10, 3) := by decide +kernel
theorem dX11_months_38 : decode cX11_months 38 = .ok (.getfield 54, 3) := by decide +kernel
theorem dX11_months_41 : decode cX11_months 41 = .ok (.ireturn, 1) := by decide +kernel
theorem dX11_months_20 : decode cX11_months 20 = .ok (.aload_n 0, 1) := by decide +kernel
theorem dX11_months_21 : decode cX11_months 21 = .ok (.getfield 10, 3) := by decide +kernel
theorem dX11_months_24 : decode cX11_months 24 = .ok (.iload_n 2, 1) := by decide +kernel
theorem tw_1039 : Cond.methodLink RX11 263 yX10_goBy ∈ wsL_law := List.mem_of_getElem? (i := 1039) (by decide +kernel)
theorem tw_1040 : Cond.instanceMethod yX10_goBy ∈ wsL_law := List.mem_of_getElem? (i := 1040) (by decide +kernel)
theorem tw_1041 : Cond.selects RX10 yX10_goBy yX10_goBy ∈ wsL_law := List.mem_of_getElem? (i := 1041) (by decide +kernel)
theorem tw_1042 : Cond.code yX10_goBy cX10_goBy 4 none ∈ wsL_law := List.mem_of_getElem? (i := 1042) (by decide +kernel)
theorem dX11_months_25 : decode cX11_months 25 = .ok (.invokevirtual 263, 3) := by decide +kernel
theorem dX11_months_28 : decode cX11_months 28 = .ok (.iinc 3 1, 3) := by decide +kernel
theorem dX11_months_31 : decode cX11_months 31 = .ok (.goto (-16), 3) := by decide +kernel
theorem dX11_months_11 : decode cX11_months 11 = .ok (.iconst (-1), 1) := by decide +kernel
theorem dX11_months_12 : decode cX11_months 12 = .ok (.ireturn, 1) := by decide +kernel
theorem dX11_sinks_0 : decode cX11_sinks 0 = .ok (.aload_n 0, 1) := by decide +kernel
theorem dX11_sinks_1 : decode cX11_sinks 1 = .ok (.iload_n 1, 1) := by decide +kernel
theorem dX11_sinks_2 : decode cX11_sinks 2 = .ok (.invokevirtual 119, 3) := by decide +kernel
theorem dX11_sinks_19 : decode cX11_sinks 19 = .ok (.iconst (-1), 1) := by decide +kernel
theorem dX11_sinks_20 : decode cX11_sinks 20 = .ok (.ireturn, 1) := by decide +kernel
theorem dX11_sinks_5 : decode cX11_sinks 5 = .ok (.ifCond .eq 14, 3) := by decide +kernel
theorem dX11_sinks_8 : decode cX11_sinks 8 = .ok (.aload_n 0, 1) := by decide +kernel
theorem dX11_sinks_9 : decode cX11_sinks 9 = .ok (.iload_n 2, 1) := by decide +kernel
theorem dX11_sinks_10 : decode cX11_sinks 10 = .ok (.iload_n 3, 1) := by decide +kernel
theorem dX11_sinks_11 : decode cX11_sinks 11 = .ok (.bipush 60, 2) := by decide +kernel
theorem dX11_sinks_13 : decode cX11_sinks 13 = .ok (.invokevirtual 260, 3) := by decide +kernel
theorem dX11_sinks_16 : decode cX11_sinks 16 = .ok (.ifCond .ne 5, 3) := by decide +kernel
theorem dX11_sinks_21 : decode cX11_sinks 21 = .ok (.aload_n 0, 1) := by decide +kernel
theorem tw_18 : Cond.fieldLink RX11 19 "RingsUnder" "trial" "LRingsUnder$World;" ∈ wsL_law := List.mem_of_getElem? (i := 18) (by decide +kernel)
theorem dX11_sinks_22 : decode cX11_sinks 22 = .ok (.getfield 19, 3) := by decide +kernel
theorem dX11_sinks_25 : decode cX11_sinks 25 = .ok (.aload_n 0, 1) := by decide +kernel
theorem dX11_sinks_26 : decode cX11_sinks 26 = .ok (.getfield 10, 3) := by decide +kernel
theorem tw_1362 : Cond.methodLink RX11 266 yX10_copyFrom ∈ wsL_law := List.mem_of_getElem? (i := 1362) (by decide +kernel)
theorem tw_1363 : Cond.instanceMethod yX10_copyFrom ∈ wsL_law := List.mem_of_getElem? (i := 1363) (by decide +kernel)
theorem tw_1364 : Cond.selects RX10 yX10_copyFrom yX10_copyFrom ∈ wsL_law := List.mem_of_getElem? (i := 1364) (by decide +kernel)
theorem tw_1365 : Cond.code yX10_copyFrom cX10_copyFrom 2 none ∈ wsL_law := List.mem_of_getElem? (i := 1365) (by decide +kernel)
theorem dX11_sinks_29 : decode cX11_sinks 29 = .ok (.invokevirtual 266, 3) := by decide +kernel
theorem dX11_sinks_32 : decode cX11_sinks 32 = .ok (.iconst 0, 1) := by decide +kernel
theorem dX11_sinks_33 : decode cX11_sinks 33 = .ok (.istore 4, 2) := by decide +kernel
theorem dX11_sinks_35 : decode cX11_sinks 35 = .ok (.iload 4, 2) := by decide +kernel
theorem dX11_sinks_37 : decode cX11_sinks 37 = .ok (.iload_n 3, 1) := by decide +kernel
theorem dX11_sinks_38 : decode cX11_sinks 38 = .ok (.if_icmp .ge 52, 3) := by decide +kernel
theorem dX11_sinks_90 : decode cX11_sinks 90 = .ok (.iconst (-1), 1) := by decide +kernel
theorem dX11_sinks_91 : decode cX11_sinks 91 = .ok (.ireturn, 1) := by decide +kernel
theorem dX11_sinks_41 : decode cX11_sinks 41 = .ok (.aload_n 0, 1) := by decide +kernel
theorem dX11_sinks_42 : decode cX11_sinks 42 = .ok (.getfield 19, 3) := by decide +kernel
theorem dX11_sinks_45 : decode cX11_sinks 45 = .ok (.iload_n 2, 1) := by decide +kernel
theorem tw_1395 : Cond.methodLink RX11 270 yX10_nature ∈ wsL_law := List.mem_of_getElem? (i := 1395) (by decide +kernel)
theorem dX11_sinks_46 : decode cX11_sinks 46 = .ok (.invokevirtual 270, 3) := by decide +kernel
theorem dX11_sinks_49 : decode cX11_sinks 49 = .ok (.aload_n 0, 1) := by decide +kernel
theorem dX11_sinks_50 : decode cX11_sinks 50 = .ok (.getfield 19, 3) := by decide +kernel
theorem dX11_sinks_53 : decode cX11_sinks 53 = .ok (.getfield 36, 3) := by decide +kernel
theorem dX11_sinks_56 : decode cX11_sinks 56 = .ok (.iload_n 1, 1) := by decide +kernel
theorem tw_1396 : Cond.methodLink RX11 273 yX2_isDry ∈ wsL_law := List.mem_of_getElem? (i := 1396) (by decide +kernel)
theorem dX11_sinks_57 : decode cX11_sinks 57 = .ok (.invokevirtual 273, 3) := by decide +kernel
theorem dX11_sinks_60 : decode cX11_sinks 60 = .ok (.ifCond .ne 11, 3) := by decide +kernel
theorem dX11_sinks_71 : decode cX11_sinks 71 = .ok (.aload_n 0, 1) := by decide +kernel
theorem dX11_sinks_72 : decode cX11_sinks 72 = .ok (.getfield 19, 3) := by decide +kernel
theorem dX11_sinks_75 : decode cX11_sinks 75 = .ok (.dup, 1) := by decide +kernel
theorem dX11_sinks_76 : decode cX11_sinks 76 = .ok (.getfield 54, 3) := by decide +kernel
theorem dX11_sinks_79 : decode cX11_sinks 79 = .ok (.iconst 1, 1) := by decide +kernel
theorem dX11_sinks_80 : decode cX11_sinks 80 = .ok (.iadd, 1) := by decide +kernel
theorem dX11_sinks_81 : decode cX11_sinks 81 = .ok (.putfield 54, 3) := by decide +kernel
theorem dX11_sinks_84 : decode cX11_sinks 84 = .ok (.iinc 4 1, 3) := by decide +kernel
theorem dX11_sinks_87 : decode cX11_sinks 87 = .ok (.goto (-52), 3) := by decide +kernel
theorem dX11_sinks_63 : decode cX11_sinks 63 = .ok (.aload_n 0, 1) := by decide +kernel
theorem dX11_sinks_64 : decode cX11_sinks 64 = .ok (.getfield 19, 3) := by decide +kernel
theorem dX11_sinks_67 : decode cX11_sinks 67 = .ok (.getfield 54, 3) := by decide +kernel
theorem dX11_sinks_70 : decode cX11_sinks 70 = .ok (.ireturn, 1) := by decide +kernel
theorem dX11_cant_0 : decode cX11_cant 0 = .ok (.aload_n 0, 1) := by decide +kernel
theorem dX11_cant_1 : decode cX11_cant 1 = .ok (.iload_n 1, 1) := by decide +kernel
theorem dX11_cant_2 : decode cX11_cant 2 = .ok (.iload_n 2, 1) := by decide +kernel
theorem dX11_cant_3 : decode cX11_cant 3 = .ok (.bipush 60, 2) := by decide +kernel
theorem dX11_cant_5 : decode cX11_cant 5 = .ok (.invokevirtual 260, 3) := by decide +kernel
theorem dX11_cant_8 : decode cX11_cant 8 = .ok (.ifCond .ne 5, 3) := by decide +kernel
theorem dX11_cant_13 : decode cX11_cant 13 = .ok (.aload_n 0, 1) := by decide +kernel
theorem dX11_cant_14 : decode cX11_cant 14 = .ok (.getfield 19, 3) := by decide +kernel
theorem dX11_cant_17 : decode cX11_cant 17 = .ok (.aload_n 0, 1) := by decide +kernel
theorem dX11_cant_18 : decode cX11_cant 18 = .ok (.getfield 10, 3) := by decide +kernel
theorem dX11_cant_21 : decode cX11_cant 21 = .ok (.invokevirtual 266, 3) := by decide +kernel
theorem dX11_cant_24 : decode cX11_cant 24 = .ok (.aload_n 0, 1) := by decide +kernel
theorem dX11_cant_25 : decode cX11_cant 25 = .ok (.getfield 19, 3) := by decide +kernel
theorem dX11_cant_28 : decode cX11_cant 28 = .ok (.iconst (-1), 1) := by decide +kernel
theorem tw_1405 : Cond.fieldLink RX11 276 "RingsUnder$World" "cantMonth" "I" ∈ wsL_law := List.mem_of_getElem? (i := 1405) (by decide +kernel)
theorem dX11_cant_29 : decode cX11_cant 29 = .ok (.putfield 276, 3) := by decide +kernel
theorem dX11_cant_32 : decode cX11_cant 32 = .ok (.iconst 0, 1) := by decide +kernel
theorem dX11_cant_33 : decode cX11_cant 33 = .ok (.istore_n 3, 1) := by decide +kernel
theorem dX11_cant_34 : decode cX11_cant 34 = .ok (.iload_n 3, 1) := by decide +kernel
theorem dX11_cant_35 : decode cX11_cant 35 = .ok (.iload_n 2, 1) := by decide +kernel
theorem dX11_cant_84 : decode cX11_cant 84 = .ok (.aload_n 0, 1) := by decide +kernel
theorem dX11_cant_85 : decode cX11_cant 85 = .ok (.getfield 19, 3) := by decide +kernel
theorem dX11_cant_88 : decode cX11_cant 88 = .ok (.getfield 276, 3) := by decide +kernel
theorem dX11_cant_91 : decode cX11_cant 91 = .ok (.ireturn, 1) := by decide +kernel
theorem dX11_cant_36 : decode cX11_cant 36 = .ok (.if_icmp .ge 48, 3) := by decide +kernel
theorem dX11_cant_39 : decode cX11_cant 39 = .ok (.aload_n 0, 1) := by decide +kernel
theorem dX11_cant_40 : decode cX11_cant 40 = .ok (.getfield 19, 3) := by decide +kernel
theorem dX11_cant_43 : decode cX11_cant 43 = .ok (.getfield 276, 3) := by decide +kernel
theorem dX11_cant_46 : decode cX11_cant 46 = .ok (.iconst (-1), 1) := by decide +kernel
theorem dX11_cant_47 : decode cX11_cant 47 = .ok (.if_icmp .ne 37, 3) := by decide +kernel
theorem dX11_cant_50 : decode cX11_cant 50 = .ok (.aload_n 0, 1) := by decide +kernel
theorem dX11_cant_51 : decode cX11_cant 51 = .ok (.getfield 19, 3) := by decide +kernel
theorem dX11_cant_54 : decode cX11_cant 54 = .ok (.iload_n 1, 1) := by decide +kernel
theorem dX11_cant_55 : decode cX11_cant 55 = .ok (.invokevirtual 270, 3) := by decide +kernel
theorem dX11_cant_58 : decode cX11_cant 58 = .ok (.aload_n 0, 1) := by decide +kernel
theorem dX11_cant_59 : decode cX11_cant 59 = .ok (.getfield 19, 3) := by decide +kernel
theorem tw_1406 : Cond.methodLink RX11 279 yX10_reckon ∈ wsL_law := List.mem_of_getElem? (i := 1406) (by decide +kernel)
theorem dX11_cant_62 : decode cX11_cant 62 = .ok (.invokevirtual 279, 3) := by decide +kernel
theorem dX11_cant_65 : decode cX11_cant 65 = .ok (.aload_n 0, 1) := by decide +kernel
theorem dX11_cant_66 : decode cX11_cant 66 = .ok (.getfield 19, 3) := by decide +kernel
theorem dX11_cant_69 : decode cX11_cant 69 = .ok (.dup, 1) := by decide +kernel
theorem dX11_cant_70 : decode cX11_cant 70 = .ok (.getfield 54, 3) := by decide +kernel
theorem dX11_cant_73 : decode cX11_cant 73 = .ok (.iconst 1, 1) := by decide +kernel
theorem dX11_cant_74 : decode cX11_cant 74 = .ok (.iadd, 1) := by decide +kernel
theorem dX11_cant_75 : decode cX11_cant 75 = .ok (.putfield 54, 3) := by decide +kernel
theorem dX11_cant_78 : decode cX11_cant 78 = .ok (.iinc 3 1, 3) := by decide +kernel
theorem dX11_cant_81 : decode cX11_cant 81 = .ok (.goto (-47), 3) := by decide +kernel
theorem dX11_cant_11 : decode cX11_cant 11 = .ok (.iconst (-1), 1) := by decide +kernel
theorem dX11_cant_12 : decode cX11_cant 12 = .ok (.ireturn, 1) := by decide +kernel
theorem dX11_keeps_0 : decode cX11_keeps 0 = .ok (.aload_n 0, 1) := by decide +kernel
theorem dX11_keeps_1 : decode cX11_keeps 1 = .ok (.iload_n 1, 1) := by decide +kernel
theorem dX11_keeps_2 : decode cX11_keeps 2 = .ok (.invokevirtual 119, 3) := by decide +kernel
theorem dX11_keeps_33 : decode cX11_keeps 33 = .ok (.istore 5, 2) := by decide +kernel
theorem dX11_keeps_35 : decode cX11_keeps 35 = .ok (.iload 5, 2) := by decide +kernel
theorem dX11_keeps_55 : decode cX11_keeps 55 = .ok (.ldc 83, 2) := by decide +kernel
theorem dX11_keeps_57 : decode cX11_keeps 57 = .ok (.ireturn, 1) := by decide +kernel
theorem dX11_keeps_37 : decode cX11_keeps 37 = .ok (.ifCond .eq 18, 3) := by decide +kernel
theorem dX11_keeps_40 : decode cX11_keeps 40 = .ok (.aload_n 0, 1) := by decide +kernel
theorem dX11_keeps_41 : decode cX11_keeps 41 = .ok (.getfield 10, 3) := by decide +kernel
theorem dX11_keeps_44 : decode cX11_keeps 44 = .ok (.getfield 36, 3) := by decide +kernel
theorem dX11_keeps_47 : decode cX11_keeps 47 = .ok (.getfield 122, 3) := by decide +kernel
theorem dX11_keeps_50 : decode cX11_keeps 50 = .ok (.iload_n 1, 1) := by decide +kernel
theorem dX11_keeps_51 : decode cX11_keeps 51 = .ok (.iaload, 1) := by decide +kernel
theorem dX11_keeps_52 : decode cX11_keeps 52 = .ok (.ifCond .ne 6, 3) := by decide +kernel
theorem dX11_keeps_58 : decode cX11_keeps 58 = .ok (.aload_n 0, 1) := by decide +kernel
theorem dX11_keeps_59 : decode cX11_keeps 59 = .ok (.getfield 19, 3) := by decide +kernel
theorem dX11_keeps_62 : decode cX11_keeps 62 = .ok (.aload_n 0, 1) := by decide +kernel
theorem dX11_keeps_63 : decode cX11_keeps 63 = .ok (.getfield 10, 3) := by decide +kernel
theorem dX11_keeps_66 : decode cX11_keeps 66 = .ok (.invokevirtual 266, 3) := by decide +kernel
theorem dX11_keeps_69 : decode cX11_keeps 69 = .ok (.aload_n 0, 1) := by decide +kernel
theorem dX11_keeps_70 : decode cX11_keeps 70 = .ok (.getfield 19, 3) := by decide +kernel
theorem dX11_keeps_73 : decode cX11_keeps 73 = .ok (.iload 4, 2) := by decide +kernel
theorem dX11_keeps_75 : decode cX11_keeps 75 = .ok (.iload_n 2, 1) := by decide +kernel
theorem tw_1415 : Cond.methodLink RX11 282 yX10_sandBehind ∈ wsL_law := List.mem_of_getElem? (i := 1415) (by decide +kernel)
theorem tw_1416 : Cond.instanceMethod yX10_sandBehind ∈ wsL_law := List.mem_of_getElem? (i := 1416) (by decide +kernel)
theorem tw_1417 : Cond.selects RX10 yX10_sandBehind yX10_sandBehind ∈ wsL_law := List.mem_of_getElem? (i := 1417) (by decide +kernel)
theorem tw_1418 : Cond.code yX10_sandBehind cX10_sandBehind 4 (some .int) ∈ wsL_law := List.mem_of_getElem? (i := 1418) (by decide +kernel)
theorem dX11_keeps_76 : decode cX11_keeps 76 = .ok (.invokevirtual 282, 3) := by decide +kernel
theorem dX11_keeps_79 : decode cX11_keeps 79 = .ok (.istore 6, 2) := by decide +kernel
theorem dX11_keeps_81 : decode cX11_keeps 81 = .ok (.aload_n 0, 1) := by decide +kernel
theorem dX11_keeps_82 : decode cX11_keeps 82 = .ok (.getfield 19, 3) := by decide +kernel
theorem dX11_keeps_85 : decode cX11_keeps 85 = .ok (.aload_n 0, 1) := by decide +kernel
theorem dX11_keeps_86 : decode cX11_keeps 86 = .ok (.getfield 10, 3) := by decide +kernel
theorem dX11_keeps_89 : decode cX11_keeps 89 = .ok (.invokevirtual 266, 3) := by decide +kernel
theorem dX11_keeps_92 : decode cX11_keeps 92 = .ok (.aload_n 0, 1) := by decide +kernel
theorem dX11_keeps_93 : decode cX11_keeps 93 = .ok (.getfield 19, 3) := by decide +kernel
theorem dX11_keeps_96 : decode cX11_keeps 96 = .ok (.getfield 36, 3) := by decide +kernel
theorem dX11_keeps_99 : decode cX11_keeps 99 = .ok (.getfield 122, 3) := by decide +kernel
theorem dX11_keeps_102 : decode cX11_keeps 102 = .ok (.iload_n 1, 1) := by decide +kernel
theorem dX11_keeps_103 : decode cX11_keeps 103 = .ok (.iconst 0, 1) := by decide +kernel
theorem dX11_keeps_104 : decode cX11_keeps 104 = .ok (.iastore, 1) := by decide +kernel
theorem dX11_keeps_105 : decode cX11_keeps 105 = .ok (.iload 6, 2) := by decide +kernel
theorem dX11_keeps_107 : decode cX11_keeps 107 = .ok (.aload_n 0, 1) := by decide +kernel
theorem dX11_keeps_108 : decode cX11_keeps 108 = .ok (.getfield 19, 3) := by decide +kernel
theorem dX11_keeps_111 : decode cX11_keeps 111 = .ok (.iload 4, 2) := by decide +kernel
theorem dX11_keeps_113 : decode cX11_keeps 113 = .ok (.iload_n 2, 1) := by decide +kernel
theorem dX11_keeps_114 : decode cX11_keeps 114 = .ok (.invokevirtual 282, 3) := by decide +kernel
theorem dX11_keeps_117 : decode cX11_keeps 117 = .ok (.isub, 1) := by decide +kernel
theorem dX11_keeps_118 : decode cX11_keeps 118 = .ok (.ireturn, 1) := by decide +kernel
theorem dX11_keeps_32 : decode cX11_keeps 32 = .ok (.iconst 0, 1) := by decide +kernel
theorem dX11_keeps_5 : decode cX11_keeps 5 = .ok (.ifCond .eq 27, 3) := by decide +kernel
theorem dX11_keeps_8 : decode cX11_keeps 8 = .ok (.aload_n 0, 1) := by decide +kernel
theorem dX11_keeps_9 : decode cX11_keeps 9 = .ok (.iload_n 2, 1) := by decide +kernel
theorem dX11_keeps_10 : decode cX11_keeps 10 = .ok (.invokevirtual 119, 3) := by decide +kernel
theorem dX11_keeps_13 : decode cX11_keeps 13 = .ok (.ifCond .eq 19, 3) := by decide +kernel
theorem dX11_keeps_16 : decode cX11_keeps 16 = .ok (.aload_n 0, 1) := by decide +kernel
theorem dX11_keeps_17 : decode cX11_keeps 17 = .ok (.iload_n 3, 1) := by decide +kernel
theorem dX11_keeps_18 : decode cX11_keeps 18 = .ok (.iload 4, 2) := by decide +kernel
theorem dX11_keeps_20 : decode cX11_keeps 20 = .ok (.bipush 60, 2) := by decide +kernel
theorem dX11_keeps_22 : decode cX11_keeps 22 = .ok (.invokevirtual 260, 3) := by decide +kernel
theorem dX11_keeps_25 : decode cX11_keeps 25 = .ok (.ifCond .eq 7, 3) := by decide +kernel
theorem dX11_keeps_28 : decode cX11_keeps 28 = .ok (.iconst 1, 1) := by decide +kernel
theorem dX11_keeps_29 : decode cX11_keeps 29 = .ok (.goto 4, 3) := by decide +kernel
set_option maxHeartbeats 4000000 in
set_option maxRecDepth 100000 in
theorem s_X11_fault (l : Launch) (D : va_G) (t : pq_T) (σ : pq_S) (I : Nat → Nat → Int32) (J : Nat → Nat → Int64) (ri : Nat → Nat → Int32) (rj : Nat → Nat → Int64) (rq : Nat → Nat → Option Nat) (sz : Nat) (tg : Nat → Nat) (hSH : SH σ tg) (hG0 : GS tg σ I ri rq) (this : Nat) (a0 : Int32) (hL_this : this ∈ σ.1) (hK_this : σ.2.1 this = 11) : MetI l yX11_fault (wa yX11_fault cX11_fault 2 (some .int)) ({ frames := 0, cells := 0, slots := 0, locals := 0 }) [.ref this, .int a0] D t σ (I, J, ri, rj, rq) sz 0 0 (fun (r : Int32) (u : pq_S × pq_M) => u = (σ, I, J, ri, rj, rq)) := by
  refine Met.ofW (cc := cX11_fault) (maxL := 2) (ret := (some .int)) (by decide) rfl ?_
  intro p e s m args below meth c s₁ B hml hv
  obtain ⟨rfl, hsz, hP, hK, hD0, hN⟩ := hv
  have hx := B.exec
  have hb := B.bytes
  have hr := B.returns
  have hts := atoms_spec (ws := (wa yX11_fault cX11_fault 2 (some .int))) B.pre
  have hown : s.vm.findClass RX11 = some m.cls := findClass_of_methodNamed B.named
  have hlocks := B.notSynchronized
  subst hsz
  have hD : va_D (pq_B t σ (I, J, ri, rj, rq) s.heap.size) (pq_P t σ (I, J, ri, rj, rq)) := hD0.self
  generalize hAe : pq_B t σ (I, J, ri, rj, rq) s.heap.size = A at hD ⊢
  have hA : ∀ q : Nat, s.heap.size ≤ q → A q := fun q h => by rw [← hAe]; exact Or.inr h
  have hS : va_S A s.heap s.heap [] := va_S.rf
  have hG : GX [] tg σ I ri rj I ri rj rq := ⟨hG0, fun _ _ _ => rfl, fun _ _ _ _ _ => rfl, fun _ _ _ _ _ => rfl⟩
  have hl := lv_entry ([.ref this, .int a0]) (n := 2) (Nat.le_of_ble_eq_true rfl)
  rw [lg_entry_eq]
  generalize (lg_sl ([.ref this, .int a0]) ++ List.replicate (2 - (lg_sl ([.ref this, .int a0])).length) Slot.unset).toArray = ls at hl ⊢
  have hl : lv_has ls 2 [(0, .ref this), (1, .int a0)] := hl
  refine q_gen (fun Q hQ => ?_)
  have go : ∀ (H : Heap) (locs : List Loc) (ls : Array Slot), va_P D vwCl (pq_P t σ (I, J, ri, rj, rq)) H → va_D A (pq_P t σ (I, J, ri, rj, rq)) → va_S A s.heap H locs → lv_has ls 2 [(0, .ref this), (1, .int a0)] → W p l e ({ frames := 0, cells := 0, slots := 0, locals := 0 } : Room) s m (List.toArray ([.ref this, .int a0] : List Value)) below meth c H locs 0 0 Q (F0 m 0 ls []) := by
    intro H locs ls hP hD hS hl
    refine lv_iload_n hx hb dX11_fault_0 rfl (lv_at hl 1 rfl) ?_
    by_cases k_1 : a0 = (0 : Int32)
    · have h_2 : rg a0 0 0 := rg_and (rg_full _) (rg_of_eq k_1 (rg_k (0 : Int32) 0 rfl)) (by decide)
      refine lv_tov 0 k_1 ?_
      refine lv_lookup (tgt := 28) hx hb dX11_fault_1 (by decide) rfl (by decide) ?_
      refine lv_aload_n hx hb dX11_fault_28 rfl (lv_at hl 0 rfl) ?_
      obtain ⟨w_3, hR_w_3, hL_w_3, hK_w_3⟩ := sh_o hSH 356 (ci := 11) (kd := 4) rfl hL_this hK_this
      refine pg_f (v := .ref w_3) (C := RX11) (T := TX11) (N := 5) hx hb hts (tw_i inlX11) hown hK hP hL_this hK_this (by decide) rfl 4 (by decide) (hts _ (tw_c tw_26)) (pq_hv rfl hR_w_3) dX11_fault_29 ?_
      refine pg_f (v := .int (I 129 w_3)) (C := RX4) (T := TX4) (N := 12) hx hb hts (tw_i inlX4) hown hK hP hL_w_3 hK_w_3 (by decide) rfl 1 (by decide) (hts _ (tw_c tw_650)) rfl dX11_fault_32 ?_
      subst hQ
      exact W.iret (v := (I 129 w_3)) hx hb hr (fun t1 ht hW => ⟨⟨(I 129 w_3), (σ, I, J, ri, rj, rq), rfl, rfl, by rw [ht]; exact hP, va_K.moved hW.alike hK, hD⟩, hS.F ht⟩) hS.2.2 dX11_fault_35
    by_cases k_4 : a0 = (1 : Int32)
    · have h_5 : rg a0 1 1 := rg_and (rg_full _) (rg_of_eq k_4 (rg_k (1 : Int32) 1 rfl)) (by decide)
      refine lv_tov 1 k_4 ?_
      refine lv_lookup (tgt := 36) hx hb dX11_fault_1 (by decide) rfl (by decide) ?_
      refine lv_aload_n hx hb dX11_fault_36 rfl (lv_at hl 0 rfl) ?_
      obtain ⟨w_6, hR_w_6, hL_w_6, hK_w_6⟩ := sh_o hSH 356 (ci := 11) (kd := 4) rfl hL_this hK_this
      refine pg_f (v := .ref w_6) (C := RX11) (T := TX11) (N := 5) hx hb hts (tw_i inlX11) hown hK hP hL_this hK_this (by decide) rfl 4 (by decide) (hts _ (tw_c tw_26)) (pq_hv rfl hR_w_6) dX11_fault_37 ?_
      refine pg_f (v := .int (I 130 w_6)) (C := RX4) (T := TX4) (N := 12) hx hb hts (tw_i inlX4) hown hK hP hL_w_6 hK_w_6 (by decide) rfl 2 (by decide) (hts _ (tw_c tw_941)) rfl dX11_fault_40 ?_
      subst hQ
      exact W.iret (v := (I 130 w_6)) hx hb hr (fun t1 ht hW => ⟨⟨(I 130 w_6), (σ, I, J, ri, rj, rq), rfl, rfl, by rw [ht]; exact hP, va_K.moved hW.alike hK, hD⟩, hS.F ht⟩) hS.2.2 dX11_fault_43
    refine lv_lookup (tgt := 44) (off := (43)) hx hb dX11_fault_1 (by decide) (by have z_k_1 := (sw_ne k_1 (n := 0) rfl).symm; have z_k_4 := (sw_ne k_4 (n := 1) rfl).symm; simp [Op.lookupswitch.offset, z_k_1, z_k_4]) (by decide) ?_
    refine lv_iconst (v := (-1)) hx hb dX11_fault_44 (by decide) ?_
    subst hQ
    exact W.iret (v := (-1)) hx hb hr (fun t1 ht hW => ⟨⟨(-1), (σ, I, J, ri, rj, rq), rfl, rfl, by rw [ht]; exact hP, va_K.moved hW.alike hK, hD⟩, hS.F ht⟩) hS.2.2 dX11_fault_45
  exact go _ _ _ hP hD hS hl

set_option maxHeartbeats 4000000 in
set_option maxRecDepth 100000 in
theorem s_X11_force (l : Launch) (D : va_G) (t : pq_T) (σ : pq_S) (I : Nat → Nat → Int32) (J : Nat → Nat → Int64) (ri : Nat → Nat → Int32) (rj : Nat → Nat → Int64) (rq : Nat → Nat → Option Nat) (sz : Nat) (tg : Nat → Nat) (hSH : SH σ tg) (hG0 : GS tg σ I ri rq) (this : Nat) (a0 : Int32) (a1 : Int32) (a2 : Int32) (hL_this : this ∈ σ.1) (hK_this : σ.2.1 this = 11) : MetI l yX11_force (wa yX11_force cX11_force 6 (some .int)) ({ frames := 2, cells := 0, slots := 0, locals := 42 }) [.ref this, .int a0, .int a1, .int a2] D t σ (I, J, ri, rj, rq) sz 0 0 (fun (r : Int32) (u : pq_S × pq_M) => ∃ I' : Nat → Nat → Int32, ∃ ri' : Nat → Nat → Int32, u = (σ, I', J, ri', rj, rq) ∧ GX [98] tg σ I ri rj I' ri' rj rq ∧ rg r (-1) 29) := by
  refine Met.ofW (cc := cX11_force) (maxL := 6) (ret := (some .int)) (by decide) rfl ?_
  intro p e s m args below meth c s₁ B hml hv
  obtain ⟨rfl, hsz, hP, hK, hD0, hN⟩ := hv
  have hx := B.exec
  have hb := B.bytes
  have hr := B.returns
  have hts := atoms_spec (ws := (wa yX11_force cX11_force 6 (some .int))) B.pre
  have hown : s.vm.findClass RX11 = some m.cls := findClass_of_methodNamed B.named
  have hlocks := B.notSynchronized
  subst hsz
  have hD : va_D (pq_B t σ (I, J, ri, rj, rq) s.heap.size) (pq_P t σ (I, J, ri, rj, rq)) := hD0.self
  generalize hAe : pq_B t σ (I, J, ri, rj, rq) s.heap.size = A at hD ⊢
  have hA : ∀ q : Nat, s.heap.size ≤ q → A q := fun q h => by rw [← hAe]; exact Or.inr h
  have hS : va_S A s.heap s.heap [] := va_S.rf
  have hG : GX [98] tg σ I ri rj I ri rj rq := ⟨hG0, fun _ _ _ => rfl, fun _ _ _ _ _ => rfl, fun _ _ _ _ _ => rfl⟩
  have hl := lv_entry ([.ref this, .int a0, .int a1, .int a2]) (n := 6) (Nat.le_of_ble_eq_true rfl)
  rw [lg_entry_eq]
  generalize (lg_sl ([.ref this, .int a0, .int a1, .int a2]) ++ List.replicate (6 - (lg_sl ([.ref this, .int a0, .int a1, .int a2])).length) Slot.unset).toArray = ls at hl ⊢
  have hl : lv_has ls 6 [(0, .ref this), (1, .int a0), (2, .int a1), (3, .int a2)] := hl
  refine q_gen (fun Q hQ => ?_)
  have go : ∀ (H : Heap) (locs : List Loc) (ls : Array Slot), va_P D vwCl (pq_P t σ (I, J, ri, rj, rq)) H → va_D A (pq_P t σ (I, J, ri, rj, rq)) → va_S A s.heap H locs → lv_has ls 6 [(0, .ref this), (1, .int a0), (2, .int a1), (3, .int a2)] → W p l e ({ frames := 2, cells := 0, slots := 0, locals := 42 } : Room) s m (List.toArray ([.ref this, .int a0, .int a1, .int a2] : List Value)) below meth c H locs 0 0 Q (F0 m 0 ls []) := by
    intro H locs ls hP hD hS hl
    refine lv_aload_n hx hb dX11_force_0 rfl (lv_at hl 0 rfl) ?_
    obtain ⟨w_1, hR_w_1, hL_w_1, hK_w_1⟩ := sh_o hSH 352 (ci := 11) (kd := 10) rfl hL_this hK_this
    refine pg_f (v := .ref w_1) (C := RX11) (T := TX11) (N := 5) hx hb hts (tw_i inlX11) hown hK hP hL_this hK_this (by decide) rfl 0 (by decide) (hts _ (tw_c tw_16)) (pq_hv rfl hR_w_1) dX11_force_1 ?_
    obtain ⟨w_2, hR_w_2, hL_w_2, hK_w_2⟩ := sh_o hSH 329 (ci := 10) (kd := 3) rfl hL_w_1 hK_w_1
    refine pg_f (v := .ref w_2) (C := RX10) (T := TX10) (N := 13) hx hb hts (tw_i inlX10) hown hK hP hL_w_1 hK_w_1 (by decide) rfl 9 (by decide) (hts _ (tw_c tw_648)) (pq_hv rfl hR_w_2) dX11_force_4 ?_
    refine lv_astore (lv' := [(4, .ref w_2), (0, .ref this), (1, .int a0), (2, .int a1), (3, .int a2)]) hx hb dX11_force_7 hl (by decide) rfl (fun ls hl => ?_)
    refine lv_iload_n hx hb dX11_force_9 rfl (lv_at hl 2 rfl) ?_
    refine lv_iconst (v := 0) hx hb dX11_force_10 (by decide) ?_
    refine lv_aload hx hb dX11_force_11 (lv_at hl 0 rfl) ?_
    refine pg_f (v := .int (I 96 w_2)) (C := RX3) (T := TX3) (N := 8) hx hb hts (tw_i inlX3) hown hK hP hL_w_2 hK_w_2 (by decide) rfl 0 (by decide) (hts _ (tw_c tw_649)) rfl dX11_force_13 ?_
    have h_3 : rg (I 96 w_2) 0 10 := GX.rI hG 96 rfl
    refine lv_iconst (v := 1) hx hb dX11_force_16 (by decide) ?_
    refine lv_isub hx hb dX11_force_17 ?_
    refine lv_topi (fun x_4 ex_4 => ?_)
    have h_5 : rg x_4 (-1) 9 := rg_of_eq ex_4 (rg_sub h_3 (rg_k (1 : Int32) 1 rfl) (by decide))
    refine pk_i (va_runS (As := [.int a0, .int 0, .int x_4]) (rest := []) ⟨hx, hb, hml, hown, hts⟩ (s_X11_between l D t σ I J ri rj rq H.size tg hSH hG.1 a0 (0 : Int32) x_4) (va_cwS 3 hts (tw_S tw_215 tw_216 tw_2 tw_217) rfl rfl rfl (by decide +kernel) ⟨Nat.le_of_ble_eq_true rfl, Nat.le_of_ble_eq_true rfl⟩) ⟨pq_blind, pq_pre hK hN hP hD⟩ rfl rfl hl.1 rfl (lv_room (Nat.le_of_ble_eq_true rfl)) dX11_force_18 ⟨Nat.le_of_ble_eq_true rfl, Nat.le_of_ble_eq_true rfl⟩) hD hS hA (fun x_6 σ1 μ1 H locs hw_7 hP hD hS => ?_)
    obtain ⟨hu_8, hr_10⟩ := hw_7
    obtain ⟨hu_8a, hu_8b⟩ := Prod.mk.inj hu_8
    rw [hu_8a, hu_8b] at hP hD
    have h_11 : rg x_6 0 1 := by rcases hr_10 with ⟨q, -⟩ | ⟨q, -⟩ <;> rw [q] <;> exact ⟨by decide, by decide⟩
    have K_70 : ∀  (H : Heap) (locs : List Loc) (ls : Array Slot), rg (I 320 w_1) 0 599 → rg (a0) 0 9 → rg (a1) 0 599 → rg (a2) 0 599 → rg (x_4) 0 9 → rg (x_6) 1 1 → GX [98] tg σ I ri rj I ri rj rq → va_P D vwCl (pq_P t σ (I, J, ri, rj, rq)) H → va_D A (pq_P t σ (I, J, ri, rj, rq)) → va_S A s.heap H locs → lv_has ls 6 [(1, .int a0), (2, .int a1), (3, .int a2), (4, .ref w_2)] → W p l e ({ frames := 2, cells := 0, slots := 0, locals := 42 } : Room) s m (List.toArray ([.ref this, .int a0, .int a1, .int a2] : List Value)) below meth c H locs 0 0 Q (F0 m 59 ls [.int 1]) := by
      intro H locs ls h_77 h_78 h_79 h_80 h_81 h_82 hG hP hD hS hl
      refine lv_istore (lv' := [(5, .int 1), (1, .int a0), (2, .int a1), (3, .int a2), (4, .ref w_2)]) hx hb dX11_force_59 hl (by decide) rfl (fun ls hl => ?_)
      refine lv_iload hx hb dX11_force_61 (lv_at hl 0 rfl) ?_
      have K_96 : ∀  (H : Heap) (locs : List Loc) (ls : Array Slot), rg (I 98 w_2) 30 30 → GX [98] tg σ I ri rj I ri rj rq → va_P D vwCl (pq_P t σ (I, J, ri, rj, rq)) H → va_D A (pq_P t σ (I, J, ri, rj, rq)) → va_S A s.heap H locs → lv_has ls 6 [] → W p l e ({ frames := 2, cells := 0, slots := 0, locals := 42 } : Room) s m (List.toArray ([.ref this, .int a0, .int a1, .int a2] : List Value)) below meth c H locs 0 0 Q (F0 m 76 ls []) := by
        intro H locs ls h_98 hG hP hD hS hl
        refine lv_iconst (v := (-1)) hx hb dX11_force_76 (by decide) ?_
        subst hQ
        exact W.iret (v := (-1)) hx hb hr (fun t1 ht hW => ⟨⟨(-1), (σ, I, J, ri, rj, rq), rfl, ⟨I, ri, rfl, hG, (rg_w (rg_k (-1 : Int32) (-1) rfl) (by decide))⟩, by rw [ht]; exact hP, va_K.moved hW.alike hK, hD⟩, hS.F ht⟩) hS.2.2 dX11_force_77
      refine lv_if_eq (tgt := 76) hx hb dX11_force_63 (by decide) (fun c_99 => absurd c_99 (by decide)) (fun c_99 => ?_)
      refine lv_aload hx hb dX11_force_66 (lv_at hl 4 rfl) ?_
      refine pg_f (v := .int (I 98 w_2)) (C := RX3) (T := TX3) (N := 8) hx hb hts (tw_i inlX3) hown hK hP hL_w_2 hK_w_2 (by decide) rfl 2 (by decide) (hts _ (tw_c tw_950)) rfl dX11_force_68 ?_
      have h_100 : rg (I 98 w_2) 0 30 := GX.rI hG 98 rfl
      refine lv_bipush (v := 30) hx hb dX11_force_71 (by decide) ?_
      refine lv_icmp_lt (tgt := 78) hx hb dX11_force_73 (by decide) (fun c_101 => ?_) (fun c_101 => ?_)
      · have h_102 : rg (I 98 w_2) 0 29 := rg_lt1 c_101 h_100 (rg_k (30 : Int32) 30 rfl) (by decide)
        refine lv_aload hx hb dX11_force_78 (lv_at hl 4 rfl) ?_
        refine lv_iload_n hx hb dX11_force_80 rfl (lv_at hl 1 rfl) ?_
        refine lv_iload_n hx hb dX11_force_81 rfl (lv_at hl 2 rfl) ?_
        refine lv_iload_n hx hb dX11_force_82 rfl (lv_at hl 3 rfl) ?_
        refine pk_i (va_runV (As := [.int a0, .int a1, .int a2]) (rest := []) ⟨hx, hb, hml, hown, hts⟩ (s_X3_addForce l D t σ I J ri rj rq H.size tg hSH hG.1 w_2 a0 a1 a2 hL_w_2 hK_w_2 (rg_w h_78 (by decide))) (cwV 3 hts (tw_V tw_951 tw_952 tw_953 tw_49 tw_954) rfl rfl rfl (by decide +kernel) ⟨Nat.le_of_ble_eq_true rfl, Nat.le_of_ble_eq_true rfl⟩) ⟨pq_blind, pq_recv hK hP hL_w_2 hK_w_2 (by decide) rfl, pq_pre hK hN hP hD⟩ rfl rfl hl.1 rfl (lv_room (Nat.le_of_ble_eq_true rfl)) dX11_force_83 ⟨Nat.le_of_ble_eq_true rfl, Nat.le_of_ble_eq_true rfl⟩) hD hS hA (fun x_103 σ1 μ1 H locs hw_104 hP hD hS => ?_)
        obtain ⟨I_105, ri_106, hu_107, hg_108, hr_109⟩ := hw_104
        obtain ⟨hu_107a, hu_107b⟩ := Prod.mk.inj hu_107
        rw [hu_107a, hu_107b] at hP hD
        have hG := GX.tr hG hg_108 (by decide)
        subst hQ
        exact W.iret (v := x_103) hx hb hr (fun t1 ht hW => ⟨⟨x_103, (σ, I_105, J, ri_106, rj, rq), rfl, ⟨I_105, ri_106, rfl, hG, (rg_w hr_109 (by decide))⟩, by rw [ht]; exact hP, va_K.moved hW.alike hK, hD⟩, hS.F ht⟩) hS.2.2 dX11_force_86
      · have h_110 : rg (I 98 w_2) 30 30 := rg_le2 (nlt c_101) (rg_k (30 : Int32) 30 rfl) h_100 (by decide)
        exact K_96 _ _ _ (rg_w h_110 (by decide)) hG hP hD hS (lv_sub hl [] rfl)
    have K_111 : ∀  (H : Heap) (locs : List Loc) (ls : Array Slot), GX [98] tg σ I ri rj I ri rj rq → va_P D vwCl (pq_P t σ (I, J, ri, rj, rq)) H → va_D A (pq_P t σ (I, J, ri, rj, rq)) → va_S A s.heap H locs → lv_has ls 6 [(1, .int a0), (2, .int a1), (3, .int a2), (4, .ref w_2)] → W p l e ({ frames := 2, cells := 0, slots := 0, locals := 42 } : Room) s m (List.toArray ([.ref this, .int a0, .int a1, .int a2] : List Value)) below meth c H locs 0 0 Q (F0 m 59 ls [.int 0]) := by
      intro H locs ls hG hP hD hS hl
      refine lv_istore (lv' := [(5, .int 0), (1, .int a0), (2, .int a1), (3, .int a2), (4, .ref w_2)]) hx hb dX11_force_59 hl (by decide) rfl (fun ls hl => ?_)
      refine lv_iload hx hb dX11_force_61 (lv_at hl 0 rfl) ?_
      have K_113 : ∀  (H : Heap) (locs : List Loc) (ls : Array Slot), GX [98] tg σ I ri rj I ri rj rq → va_P D vwCl (pq_P t σ (I, J, ri, rj, rq)) H → va_D A (pq_P t σ (I, J, ri, rj, rq)) → va_S A s.heap H locs → lv_has ls 6 [] → W p l e ({ frames := 2, cells := 0, slots := 0, locals := 42 } : Room) s m (List.toArray ([.ref this, .int a0, .int a1, .int a2] : List Value)) below meth c H locs 0 0 Q (F0 m 76 ls []) := by
        intro H locs ls hG hP hD hS hl
        refine lv_iconst (v := (-1)) hx hb dX11_force_76 (by decide) ?_
        subst hQ
        exact W.iret (v := (-1)) hx hb hr (fun t1 ht hW => ⟨⟨(-1), (σ, I, J, ri, rj, rq), rfl, ⟨I, ri, rfl, hG, (rg_w (rg_k (-1 : Int32) (-1) rfl) (by decide))⟩, by rw [ht]; exact hP, va_K.moved hW.alike hK, hD⟩, hS.F ht⟩) hS.2.2 dX11_force_77
      refine lv_if_eq (tgt := 76) hx hb dX11_force_63 (by decide) (fun c_114 => ?_) (fun c_114 => absurd c_114 (by decide))
      exact K_113 _ _ _ hG hP hD hS (lv_sub hl [] rfl)
    have K_115 : ∀  (H : Heap) (locs : List Loc) (ls : Array Slot), GX [98] tg σ I ri rj I ri rj rq → va_P D vwCl (pq_P t σ (I, J, ri, rj, rq)) H → va_D A (pq_P t σ (I, J, ri, rj, rq)) → va_S A s.heap H locs → lv_has ls 6 [(1, .int a0), (2, .int a1), (3, .int a2), (4, .ref w_2)] → W p l e ({ frames := 2, cells := 0, slots := 0, locals := 42 } : Room) s m (List.toArray ([.ref this, .int a0, .int a1, .int a2] : List Value)) below meth c H locs 0 0 Q (F0 m 58 ls []) := by
      intro H locs ls hG hP hD hS hl
      refine lv_iconst (v := 0) hx hb dX11_force_58 (by decide) ?_
      exact K_111 _ _ _ hG hP hD hS (lv_sub hl [0, 1, 2, 3] rfl)
    refine lv_if_eq (tgt := 58) hx hb dX11_force_21 (by decide) (fun c_116 => ?_) (fun c_116 => ?_)
    · have f_117 := (hr_10.resolve_left (fun q => absurd (q.1.symm.trans c_116) (by decide))).2
      have h_118 : rg x_6 0 0 := rg_and h_11 (rg_of_eq c_116 (rg_k (0 : Int32) 0 rfl)) (by decide)
      exact K_115 _ _ _ hG hP hD hS (lv_sub hl [2, 3, 4, 0] rfl)
    · obtain ⟨f_119, f_120⟩ := (hr_10.resolve_right (fun q => c_116 q.1)).2
      have h_121 : rg a0 0 2147483647 := rg_le2 f_119 (rg_k (0 : Int32) 0 rfl) (rg_full _) (by decide)
      have h_122 : rg a0 0 9 := rg_le1 f_120 h_121 h_5 (by decide)
      have h_123 : rg x_4 0 9 := rg_le2 f_120 h_121 h_5 (by decide)
      have h_124 : rg x_6 1 1 := rg_ne c_116 h_11 0 rfl (by decide)
      refine lv_iload_n hx hb dX11_force_24 rfl (lv_at hl 3 rfl) ?_
      refine pk_i (va_runS (As := [.int a1]) (rest := []) ⟨hx, hb, hml, hown, hts⟩ (s_X11_isMonth l D t σ I J ri rj rq H.size tg hSH hG.1 a1) (va_cwS 1 hts (tw_S tw_247 tw_248 tw_2 tw_249) rfl rfl rfl (by decide +kernel) ⟨Nat.le_of_ble_eq_true rfl, Nat.le_of_ble_eq_true rfl⟩) ⟨pq_blind, pq_pre hK hN hP hD⟩ rfl rfl hl.1 rfl (lv_room (Nat.le_of_ble_eq_true rfl)) dX11_force_25 ⟨Nat.le_of_ble_eq_true rfl, Nat.le_of_ble_eq_true rfl⟩) hD hS hA (fun x_125 σ1 μ1 H locs hw_126 hP hD hS => ?_)
      obtain ⟨hu_127, hr_129⟩ := hw_126
      obtain ⟨hu_127a, hu_127b⟩ := Prod.mk.inj hu_127
      rw [hu_127a, hu_127b] at hP hD
      have h_130 : rg x_125 0 1 := by rcases hr_129 with ⟨q, -⟩ | ⟨q, -⟩ <;> rw [q] <;> exact ⟨by decide, by decide⟩
      refine lv_if_eq (tgt := 58) hx hb dX11_force_28 (by decide) (fun c_131 => ?_) (fun c_131 => ?_)
      · have f_132 := (hr_129.resolve_left (fun q => absurd (q.1.symm.trans c_131) (by decide))).2
        have h_133 : rg x_125 0 0 := rg_and h_130 (rg_of_eq c_131 (rg_k (0 : Int32) 0 rfl)) (by decide)
        exact K_115 _ _ _ hG hP hD hS (lv_sub hl [2, 3, 4, 0] rfl)
      · have f_134 := (hr_129.resolve_right (fun q => c_131 q.1)).2
        have h_135 : rg x_125 1 1 := rg_ne c_131 h_130 0 rfl (by decide)
        refine lv_iload_n hx hb dX11_force_31 rfl (lv_at hl 4 rfl) ?_
        refine pk_i (va_runS (As := [.int a2]) (rest := []) ⟨hx, hb, hml, hown, hts⟩ (s_X11_isMonth l D t σ I J ri rj rq H.size tg hSH hG.1 a2) (va_cwS 1 hts (tw_S tw_247 tw_248 tw_2 tw_249) rfl rfl rfl (by decide +kernel) ⟨Nat.le_of_ble_eq_true rfl, Nat.le_of_ble_eq_true rfl⟩) ⟨pq_blind, pq_pre hK hN hP hD⟩ rfl rfl hl.1 rfl (lv_room (Nat.le_of_ble_eq_true rfl)) dX11_force_32 ⟨Nat.le_of_ble_eq_true rfl, Nat.le_of_ble_eq_true rfl⟩) hD hS hA (fun x_136 σ1 μ1 H locs hw_137 hP hD hS => ?_)
        obtain ⟨hu_138, hr_140⟩ := hw_137
        obtain ⟨hu_138a, hu_138b⟩ := Prod.mk.inj hu_138
        rw [hu_138a, hu_138b] at hP hD
        have h_141 : rg x_136 0 1 := by rcases hr_140 with ⟨q, -⟩ | ⟨q, -⟩ <;> rw [q] <;> exact ⟨by decide, by decide⟩
        refine lv_if_eq (tgt := 58) hx hb dX11_force_35 (by decide) (fun c_142 => ?_) (fun c_142 => ?_)
        · have f_143 := (hr_140.resolve_left (fun q => absurd (q.1.symm.trans c_142) (by decide))).2
          have h_144 : rg x_136 0 0 := rg_and h_141 (rg_of_eq c_142 (rg_k (0 : Int32) 0 rfl)) (by decide)
          exact K_115 _ _ _ hG hP hD hS (lv_sub hl [2, 3, 4, 0] rfl)
        · have f_145 := (hr_140.resolve_right (fun q => c_142 q.1)).2
          have h_146 : rg x_136 1 1 := rg_ne c_142 h_141 0 rfl (by decide)
          refine lv_iload_n hx hb dX11_force_38 rfl (lv_at hl 3 rfl) ?_
          refine lv_aload_n hx hb dX11_force_39 rfl (lv_at hl 1 rfl) ?_
          refine pg_f (v := .ref w_1) (C := RX11) (T := TX11) (N := 5) hx hb hts (tw_i inlX11) hown hK hP hL_this hK_this (by decide) rfl 0 (by decide) (hts _ (tw_c tw_16)) (pq_hv rfl hR_w_1) dX11_force_40 ?_
          refine pg_f (v := .int (I 320 w_1)) (C := RX10) (T := TX10) (N := 13) hx hb hts (tw_i inlX10) hown hK hP hL_w_1 hK_w_1 (by decide) rfl 0 (by decide) (hts _ (tw_c tw_209)) rfl dX11_force_43 ?_
          have h_147 : rg (I 320 w_1) 0 600 := GX.rI hG 320 rfl
          refine lv_icmp_lt (tgt := 58) hx hb dX11_force_46 (by decide) (fun c_148 => ?_) (fun c_148 => ?_)
          · have h_149 : rg (I 320 w_1) 1 600 := rg_lt2 c_148 f_134 h_147 (by decide)
            exact K_115 _ _ _ hG hP hD hS (lv_sub hl [2, 3, 4, 0] rfl)
          · have h_150 : rg (I 320 w_1) 0 599 := rg_le1 (nlt c_148) h_147 f_134 (by decide)
            refine lv_iload_n hx hb dX11_force_49 rfl (lv_at hl 3 rfl) ?_
            refine lv_iload_n hx hb dX11_force_50 rfl (lv_at hl 4 rfl) ?_
            refine lv_icmp_gt (tgt := 58) hx hb dX11_force_51 (by decide) (fun c_151 => ?_) (fun c_151 => ?_)
            · have h_152 : rg a2 0 598 := rg_lt1 c_151 f_145 f_134 (by decide)
              have h_153 : rg a1 1 599 := rg_lt2 c_151 f_145 f_134 (by decide)
              exact K_115 _ _ _ hG hP hD hS (lv_sub hl [2, 3, 4, 0] rfl)
            · refine lv_iconst (v := 1) hx hb dX11_force_54 (by decide) ?_
              refine lv_goto (tgt := 59) hx hb dX11_force_55 (by decide) ?_
              exact K_70 _ _ _ (rg_w h_150 (by decide)) (rg_w h_122 (by decide)) (rg_w f_134 (by decide)) (rg_w f_145 (by decide)) (rg_w h_123 (by decide)) (rg_w h_124 (by decide)) hG hP hD hS (lv_sub hl [2, 3, 4, 0] rfl)
  exact go _ _ _ hP hD hS hl

set_option maxHeartbeats 4000000 in
set_option maxRecDepth 100000 in
theorem s_X11_is (l : Launch) (D : va_G) (t : pq_T) (σ : pq_S) (I : Nat → Nat → Int32) (J : Nat → Nat → Int64) (ri : Nat → Nat → Int32) (rj : Nat → Nat → Int64) (rq : Nat → Nat → Option Nat) (sz : Nat) (tg : Nat → Nat) (hSH : SH σ tg) (hG0 : GS tg σ I ri rq) (this : Nat) (a0 : Int32) (a1 : Int32) (a2 : Int32) (hL_this : this ∈ σ.1) (hK_this : σ.2.1 this = 11) : MetI l yX11_is (wa yX11_is cX11_is 4 (some .int)) ({ frames := 5, cells := 0, slots := 0, locals := 143 }) [.ref this, .int a0, .int a1, .int a2] D t σ (I, J, ri, rj, rq) sz 0 0 (fun (r : Int32) (u : pq_S × pq_M) => ∃ ri' : Nat → Nat → Int32, u = (σ, I, J, ri', rj, rq) ∧ GX [] tg σ I ri rj I ri' rj rq ∧ rg r (-1) 1) := by
  refine Met.ofW (cc := cX11_is) (maxL := 4) (ret := (some .int)) (by decide) rfl ?_
  intro p e s m args below meth c s₁ B hml hv
  obtain ⟨rfl, hsz, hP, hK, hD0, hN⟩ := hv
  have hx := B.exec
  have hb := B.bytes
  have hr := B.returns
  have hts := atoms_spec (ws := (wa yX11_is cX11_is 4 (some .int))) B.pre
  have hown : s.vm.findClass RX11 = some m.cls := findClass_of_methodNamed B.named
  have hlocks := B.notSynchronized
  subst hsz
  have hD : va_D (pq_B t σ (I, J, ri, rj, rq) s.heap.size) (pq_P t σ (I, J, ri, rj, rq)) := hD0.self
  generalize hAe : pq_B t σ (I, J, ri, rj, rq) s.heap.size = A at hD ⊢
  have hA : ∀ q : Nat, s.heap.size ≤ q → A q := fun q h => by rw [← hAe]; exact Or.inr h
  have hS : va_S A s.heap s.heap [] := va_S.rf
  have hG : GX [] tg σ I ri rj I ri rj rq := ⟨hG0, fun _ _ _ => rfl, fun _ _ _ _ _ => rfl, fun _ _ _ _ _ => rfl⟩
  have hl := lv_entry ([.ref this, .int a0, .int a1, .int a2]) (n := 4) (Nat.le_of_ble_eq_true rfl)
  rw [lg_entry_eq]
  generalize (lg_sl ([.ref this, .int a0, .int a1, .int a2]) ++ List.replicate (4 - (lg_sl ([.ref this, .int a0, .int a1, .int a2])).length) Slot.unset).toArray = ls at hl ⊢
  have hl : lv_has ls 4 [(0, .ref this), (1, .int a0), (2, .int a1), (3, .int a2)] := hl
  refine q_gen (fun Q hQ => ?_)
  have go : ∀ (H : Heap) (locs : List Loc) (ls : Array Slot), va_P D vwCl (pq_P t σ (I, J, ri, rj, rq)) H → va_D A (pq_P t σ (I, J, ri, rj, rq)) → va_S A s.heap H locs → lv_has ls 4 [(0, .ref this), (1, .int a0), (2, .int a1), (3, .int a2)] → W p l e ({ frames := 5, cells := 0, slots := 0, locals := 143 } : Room) s m (List.toArray ([.ref this, .int a0, .int a1, .int a2] : List Value)) below meth c H locs 0 0 Q (F0 m 0 ls []) := by
    intro H locs ls hP hD hS hl
    refine lv_iload_n hx hb dX11_is_0 rfl (lv_at hl 1 rfl) ?_
    refine lv_iconst (v := 0) hx hb dX11_is_1 (by decide) ?_
    refine lv_iconst (v := 2) hx hb dX11_is_2 (by decide) ?_
    refine pk_i (va_runS (As := [.int a0, .int 0, .int 2]) (rest := []) ⟨hx, hb, hml, hown, hts⟩ (s_X11_between l D t σ I J ri rj rq H.size tg hSH hG.1 a0 (0 : Int32) (2 : Int32)) (va_cwS 3 hts (tw_S tw_215 tw_216 tw_2 tw_217) rfl rfl rfl (by decide +kernel) ⟨Nat.le_of_ble_eq_true rfl, Nat.le_of_ble_eq_true rfl⟩) ⟨pq_blind, pq_pre hK hN hP hD⟩ rfl rfl hl.1 rfl (lv_room (Nat.le_of_ble_eq_true rfl)) dX11_is_3 ⟨Nat.le_of_ble_eq_true rfl, Nat.le_of_ble_eq_true rfl⟩) hD hS hA (fun x_1 σ1 μ1 H locs hw_2 hP hD hS => ?_)
    obtain ⟨hu_3, hr_5⟩ := hw_2
    obtain ⟨hu_3a, hu_3b⟩ := Prod.mk.inj hu_3
    rw [hu_3a, hu_3b] at hP hD
    have h_6 : rg x_1 0 1 := by rcases hr_5 with ⟨q, -⟩ | ⟨q, -⟩ <;> rw [q] <;> exact ⟨by decide, by decide⟩
    have K_52 : ∀  (H : Heap) (locs : List Loc) (ls : Array Slot), GX [] tg σ I ri rj I ri rj rq → va_P D vwCl (pq_P t σ (I, J, ri, rj, rq)) H → va_D A (pq_P t σ (I, J, ri, rj, rq)) → va_S A s.heap H locs → lv_has ls 4 [] → W p l e ({ frames := 5, cells := 0, slots := 0, locals := 143 } : Room) s m (List.toArray ([.ref this, .int a0, .int a1, .int a2] : List Value)) below meth c H locs 0 0 Q (F0 m 24 ls []) := by
      intro H locs ls hG hP hD hS hl
      refine lv_iconst (v := (-1)) hx hb dX11_is_24 (by decide) ?_
      subst hQ
      exact W.iret (v := (-1)) hx hb hr (fun t1 ht hW => ⟨⟨(-1), (σ, I, J, ri, rj, rq), rfl, ⟨ri, rfl, hG, (rg_w (rg_k (-1 : Int32) (-1) rfl) (by decide))⟩, by rw [ht]; exact hP, va_K.moved hW.alike hK, hD⟩, hS.F ht⟩) hS.2.2 dX11_is_25
    refine lv_if_eq (tgt := 24) hx hb dX11_is_6 (by decide) (fun c_53 => ?_) (fun c_53 => ?_)
    · have f_54 := (hr_5.resolve_left (fun q => absurd (q.1.symm.trans c_53) (by decide))).2
      have h_55 : rg x_1 0 0 := rg_and h_6 (rg_of_eq c_53 (rg_k (0 : Int32) 0 rfl)) (by decide)
      exact K_52 _ _ _ hG hP hD hS (lv_sub hl [] rfl)
    · obtain ⟨f_56, f_57⟩ := (hr_5.resolve_right (fun q => c_53 q.1)).2
      have h_58 : rg a0 0 2147483647 := rg_le2 f_56 (rg_k (0 : Int32) 0 rfl) (rg_full _) (by decide)
      have h_59 : rg a0 0 2 := rg_le1 f_57 h_58 (rg_k (2 : Int32) 2 rfl) (by decide)
      have h_60 : rg x_1 1 1 := rg_ne c_53 h_6 0 rfl (by decide)
      refine lv_aload_n hx hb dX11_is_9 rfl (lv_at hl 0 rfl) ?_
      refine lv_iload_n hx hb dX11_is_10 rfl (lv_at hl 2 rfl) ?_
      refine pk_i (va_runV (As := [.int a1]) (rest := []) ⟨hx, hb, hml, hown, hts⟩ (s_X11_isPerson l D t σ I J ri rj rq H.size tg hSH hG.1 this a1 hL_this hK_this) (cwV 1 hts (tw_V tw_405 tw_406 tw_407 tw_2 tw_408) rfl rfl rfl (by decide +kernel) ⟨Nat.le_of_ble_eq_true rfl, Nat.le_of_ble_eq_true rfl⟩) ⟨pq_blind, pq_recv hK hP hL_this hK_this (by decide) rfl, pq_pre hK hN hP hD⟩ rfl rfl hl.1 rfl (lv_room (Nat.le_of_ble_eq_true rfl)) dX11_is_11 ⟨Nat.le_of_ble_eq_true rfl, Nat.le_of_ble_eq_true rfl⟩) hD hS hA (fun x_61 σ1 μ1 H locs hw_62 hP hD hS => ?_)
      obtain ⟨hu_63, hr_65⟩ := hw_62
      obtain ⟨hu_63a, hu_63b⟩ := Prod.mk.inj hu_63
      rw [hu_63a, hu_63b] at hP hD
      have h_66 : rg x_61 0 1 := by rcases hr_65 with ⟨q, -⟩ | ⟨q, -⟩ <;> rw [q] <;> exact ⟨by decide, by decide⟩
      refine lv_if_eq (tgt := 24) hx hb dX11_is_14 (by decide) (fun c_67 => ?_) (fun c_67 => ?_)
      · have f_68 := (hr_65.resolve_left (fun q => absurd (q.1.symm.trans c_67) (by decide))).2
        have h_69 : rg x_61 0 0 := rg_and h_66 (rg_of_eq c_67 (rg_k (0 : Int32) 0 rfl)) (by decide)
        exact K_52 _ _ _ hG hP hD hS (lv_sub hl [] rfl)
      · have f_70 := (hr_65.resolve_right (fun q => c_67 q.1)).2
        have h_71 : rg x_61 1 1 := rg_ne c_67 h_66 0 rfl (by decide)
        refine lv_iload_n hx hb dX11_is_17 rfl (lv_at hl 3 rfl) ?_
        refine pk_i (va_runS (As := [.int a2]) (rest := []) ⟨hx, hb, hml, hown, hts⟩ (s_X11_isMonth l D t σ I J ri rj rq H.size tg hSH hG.1 a2) (va_cwS 1 hts (tw_S tw_247 tw_248 tw_2 tw_249) rfl rfl rfl (by decide +kernel) ⟨Nat.le_of_ble_eq_true rfl, Nat.le_of_ble_eq_true rfl⟩) ⟨pq_blind, pq_pre hK hN hP hD⟩ rfl rfl hl.1 rfl (lv_room (Nat.le_of_ble_eq_true rfl)) dX11_is_18 ⟨Nat.le_of_ble_eq_true rfl, Nat.le_of_ble_eq_true rfl⟩) hD hS hA (fun x_72 σ1 μ1 H locs hw_73 hP hD hS => ?_)
        obtain ⟨hu_74, hr_76⟩ := hw_73
        obtain ⟨hu_74a, hu_74b⟩ := Prod.mk.inj hu_74
        rw [hu_74a, hu_74b] at hP hD
        have h_77 : rg x_72 0 1 := by rcases hr_76 with ⟨q, -⟩ | ⟨q, -⟩ <;> rw [q] <;> exact ⟨by decide, by decide⟩
        refine lv_if_ne (tgt := 26) hx hb dX11_is_21 (by decide) (fun c_78 => ?_) (fun c_78 => ?_)
        · have f_79 := (hr_76.resolve_right (fun q => c_78 q.1)).2
          have h_80 : rg x_72 1 1 := rg_ne c_78 h_77 0 rfl (by decide)
          refine lv_aload_n hx hb dX11_is_26 rfl (lv_at hl 0 rfl) ?_
          obtain ⟨w_81, hR_w_81, hL_w_81, hK_w_81⟩ := sh_o hSH 352 (ci := 11) (kd := 10) rfl hL_this hK_this
          refine pg_f (v := .ref w_81) (C := RX11) (T := TX11) (N := 5) hx hb hts (tw_i inlX11) hown hK hP hL_this hK_this (by decide) rfl 0 (by decide) (hts _ (tw_c tw_16)) (pq_hv rfl hR_w_81) dX11_is_27 ?_
          obtain ⟨w_82, hR_w_82, hL_w_82, hK_w_82⟩ := sh_o hSH 329 (ci := 10) (kd := 3) rfl hL_w_81 hK_w_81
          refine pg_f (v := .ref w_82) (C := RX10) (T := TX10) (N := 13) hx hb hts (tw_i inlX10) hown hK hP hL_w_81 hK_w_81 (by decide) rfl 9 (by decide) (hts _ (tw_c tw_648)) (pq_hv rfl hR_w_82) dX11_is_30 ?_
          refine lv_iconst (v := 1) hx hb dX11_is_33 (by decide) ?_
          refine lv_iload_n hx hb dX11_is_34 rfl (lv_at hl 1 rfl) ?_
          refine lv_iadd hx hb dX11_is_35 ?_
          refine lv_topi (fun x_83 ex_83 => ?_)
          have h_84 : rg x_83 1 3 := rg_of_eq ex_83 (rg_add (rg_k (1 : Int32) 1 rfl) h_59 (by decide))
          refine lv_iload_n hx hb dX11_is_36 rfl (lv_at hl 3 rfl) ?_
          refine lv_aload_n hx hb dX11_is_37 rfl (lv_at hl 0 rfl) ?_
          refine pg_f (v := .ref w_81) (C := RX11) (T := TX11) (N := 5) hx hb hts (tw_i inlX11) hown hK hP hL_this hK_this (by decide) rfl 0 (by decide) (hts _ (tw_c tw_16)) (pq_hv rfl hR_w_81) dX11_is_38 ?_
          obtain ⟨w_85, hR_w_85, hL_w_85, hK_w_85⟩ := sh_o hSH 328 (ci := 10) (kd := 0) rfl hL_w_81 hK_w_81
          refine pg_f (v := .ref w_85) (C := RX10) (T := TX10) (N := 13) hx hb hts (tw_i inlX10) hown hK hP hL_w_81 hK_w_81 (by decide) rfl 8 (by decide) (hts _ (tw_c tw_379)) (pq_hv rfl hR_w_85) dX11_is_41 ?_
          refine lv_lconst (v := 1) hx hb dX11_is_44 (by decide) ?_
          refine lv_iload_n hx hb dX11_is_45 rfl (lv_at hl 2 rfl) ?_
          refine lv_lshl hx hb dX11_is_46 rfl ?_
          refine lv_topl (fun x_86 ex_86 => ?_)
          refine pk_l (va_runV (As := [.int x_83, .int a2, .ref w_85, .long x_86]) (rest := []) ⟨hx, hb, hml, hown, hts⟩ (s_X3_whoIsSo l D t σ I J ri rj rq H.size tg hSH hG.1 w_82 x_83 a2 w_85 x_86 hL_w_82 hK_w_82 hL_w_85 hK_w_85) (cwV 4 hts (tw_V tw_963 tw_964 tw_965 tw_49 tw_966) rfl rfl rfl (by decide +kernel) ⟨Nat.le_of_ble_eq_true rfl, Nat.le_of_ble_eq_true rfl⟩) ⟨pq_blind, pq_recv hK hP hL_w_82 hK_w_82 (by decide) rfl, pq_pre hK hN hP hD⟩ rfl rfl hl.1 rfl (lv_room (Nat.le_of_ble_eq_true rfl)) dX11_is_47 ⟨Nat.le_of_ble_eq_true rfl, Nat.le_of_ble_eq_true rfl⟩) hD hS hA (fun x_87 σ1 μ1 H locs hw_88 hP hD hS => ?_)
          obtain ⟨ri_89, hu_90, hg_91⟩ := hw_88
          obtain ⟨hu_90a, hu_90b⟩ := Prod.mk.inj hu_90
          rw [hu_90a, hu_90b] at hP hD
          have hG := GX.tr hG hg_91 (by decide)
          refine lv_lconst (v := 0) hx hb dX11_is_50 (by decide) ?_
          refine W.lcmp hx hb dX11_is_51 ?_
          refine lv_topi (fun x_93 ex_93 => ?_)
          refine lv_if_eq (tgt := 59) hx hb dX11_is_52 (by decide) (fun c_94 => ?_) (fun c_94 => ?_)
          · have h_95 : rg x_93 0 0 := rg_and (rg_full _) (rg_of_eq c_94 (rg_k (0 : Int32) 0 rfl)) (by decide)
            refine lv_iconst (v := 0) hx hb dX11_is_59 (by decide) ?_
            subst hQ
            exact W.iret (v := 0) hx hb hr (fun t1 ht hW => ⟨⟨0, (σ, I, J, ri_89, rj, rq), rfl, ⟨ri_89, rfl, hG, (rg_w (rg_k (0 : Int32) 0 rfl) (by decide))⟩, by rw [ht]; exact hP, va_K.moved hW.alike hK, hD⟩, hS.F ht⟩) hS.2.2 dX11_is_60
          · refine lv_iconst (v := 1) hx hb dX11_is_55 (by decide) ?_
            refine lv_goto (tgt := 60) hx hb dX11_is_56 (by decide) ?_
            subst hQ
            exact W.iret (v := 1) hx hb hr (fun t1 ht hW => ⟨⟨1, (σ, I, J, ri_89, rj, rq), rfl, ⟨ri_89, rfl, hG, (rg_w (rg_k (1 : Int32) 1 rfl) (by decide))⟩, by rw [ht]; exact hP, va_K.moved hW.alike hK, hD⟩, hS.F ht⟩) hS.2.2 dX11_is_60
        · have f_96 := (hr_76.resolve_left (fun q => absurd (q.1.symm.trans c_78) (by decide))).2
          have h_97 : rg x_72 0 0 := rg_and h_77 (rg_of_eq c_78 (rg_k (0 : Int32) 0 rfl)) (by decide)
          exact K_52 _ _ _ hG hP hD hS (lv_sub hl [] rfl)
  exact go _ _ _ hP hD hS hl

set_option maxHeartbeats 4000000 in
set_option maxRecDepth 100000 in
theorem s_X11_why (l : Launch) (D : va_G) (t : pq_T) (σ : pq_S) (I : Nat → Nat → Int32) (J : Nat → Nat → Int64) (ri : Nat → Nat → Int32) (rj : Nat → Nat → Int64) (rq : Nat → Nat → Option Nat) (sz : Nat) (tg : Nat → Nat) (hSH : SH σ tg) (hG0 : GS tg σ I ri rq) (this : Nat) (a0 : Int32) (a1 : Int32) (a2 : Int32) (hL_this : this ∈ σ.1) (hK_this : σ.2.1 this = 11) : MetI l yX11_why (wa yX11_why cX11_why 4 (some .int)) ({ frames := 5, cells := 0, slots := 0, locals := 139 }) [.ref this, .int a0, .int a1, .int a2] D t σ (I, J, ri, rj, rq) sz 0 0 (fun (r : Int32) (u : pq_S × pq_M) => ∃ ri' : Nat → Nat → Int32, u = (σ, I, J, ri', rj, rq) ∧ GX [] tg σ I ri rj I ri' rj rq ∧ rg r (-1) 19) := by
  refine Met.ofW (cc := cX11_why) (maxL := 4) (ret := (some .int)) (by decide) rfl ?_
  intro p e s m args below meth c s₁ B hml hv
  obtain ⟨rfl, hsz, hP, hK, hD0, hN⟩ := hv
  have hx := B.exec
  have hb := B.bytes
  have hr := B.returns
  have hts := atoms_spec (ws := (wa yX11_why cX11_why 4 (some .int))) B.pre
  have hown : s.vm.findClass RX11 = some m.cls := findClass_of_methodNamed B.named
  have hlocks := B.notSynchronized
  subst hsz
  have hD : va_D (pq_B t σ (I, J, ri, rj, rq) s.heap.size) (pq_P t σ (I, J, ri, rj, rq)) := hD0.self
  generalize hAe : pq_B t σ (I, J, ri, rj, rq) s.heap.size = A at hD ⊢
  have hA : ∀ q : Nat, s.heap.size ≤ q → A q := fun q h => by rw [← hAe]; exact Or.inr h
  have hS : va_S A s.heap s.heap [] := va_S.rf
  have hG : GX [] tg σ I ri rj I ri rj rq := ⟨hG0, fun _ _ _ => rfl, fun _ _ _ _ _ => rfl, fun _ _ _ _ _ => rfl⟩
  have hl := lv_entry ([.ref this, .int a0, .int a1, .int a2]) (n := 4) (Nat.le_of_ble_eq_true rfl)
  rw [lg_entry_eq]
  generalize (lg_sl ([.ref this, .int a0, .int a1, .int a2]) ++ List.replicate (4 - (lg_sl ([.ref this, .int a0, .int a1, .int a2])).length) Slot.unset).toArray = ls at hl ⊢
  have hl : lv_has ls 4 [(0, .ref this), (1, .int a0), (2, .int a1), (3, .int a2)] := hl
  refine q_gen (fun Q hQ => ?_)
  have go : ∀ (H : Heap) (locs : List Loc) (ls : Array Slot), va_P D vwCl (pq_P t σ (I, J, ri, rj, rq)) H → va_D A (pq_P t σ (I, J, ri, rj, rq)) → va_S A s.heap H locs → lv_has ls 4 [(0, .ref this), (1, .int a0), (2, .int a1), (3, .int a2)] → W p l e ({ frames := 5, cells := 0, slots := 0, locals := 139 } : Room) s m (List.toArray ([.ref this, .int a0, .int a1, .int a2] : List Value)) below meth c H locs 0 0 Q (F0 m 0 ls []) := by
    intro H locs ls hP hD hS hl
    refine lv_iload_n hx hb dX11_why_0 rfl (lv_at hl 1 rfl) ?_
    refine lv_iconst (v := 0) hx hb dX11_why_1 (by decide) ?_
    refine lv_iconst (v := 2) hx hb dX11_why_2 (by decide) ?_
    refine pk_i (va_runS (As := [.int a0, .int 0, .int 2]) (rest := []) ⟨hx, hb, hml, hown, hts⟩ (s_X11_between l D t σ I J ri rj rq H.size tg hSH hG.1 a0 (0 : Int32) (2 : Int32)) (va_cwS 3 hts (tw_S tw_215 tw_216 tw_2 tw_217) rfl rfl rfl (by decide +kernel) ⟨Nat.le_of_ble_eq_true rfl, Nat.le_of_ble_eq_true rfl⟩) ⟨pq_blind, pq_pre hK hN hP hD⟩ rfl rfl hl.1 rfl (lv_room (Nat.le_of_ble_eq_true rfl)) dX11_why_3 ⟨Nat.le_of_ble_eq_true rfl, Nat.le_of_ble_eq_true rfl⟩) hD hS hA (fun x_1 σ1 μ1 H locs hw_2 hP hD hS => ?_)
    obtain ⟨hu_3, hr_5⟩ := hw_2
    obtain ⟨hu_3a, hu_3b⟩ := Prod.mk.inj hu_3
    rw [hu_3a, hu_3b] at hP hD
    have h_6 : rg x_1 0 1 := by rcases hr_5 with ⟨q, -⟩ | ⟨q, -⟩ <;> rw [q] <;> exact ⟨by decide, by decide⟩
    have K_48 : ∀  (H : Heap) (locs : List Loc) (ls : Array Slot), GX [] tg σ I ri rj I ri rj rq → va_P D vwCl (pq_P t σ (I, J, ri, rj, rq)) H → va_D A (pq_P t σ (I, J, ri, rj, rq)) → va_S A s.heap H locs → lv_has ls 4 [] → W p l e ({ frames := 5, cells := 0, slots := 0, locals := 139 } : Room) s m (List.toArray ([.ref this, .int a0, .int a1, .int a2] : List Value)) below meth c H locs 0 0 Q (F0 m 24 ls []) := by
      intro H locs ls hG hP hD hS hl
      refine lv_iconst (v := (-1)) hx hb dX11_why_24 (by decide) ?_
      subst hQ
      exact W.iret (v := (-1)) hx hb hr (fun t1 ht hW => ⟨⟨(-1), (σ, I, J, ri, rj, rq), rfl, ⟨ri, rfl, hG, (rg_w (rg_k (-1 : Int32) (-1) rfl) (by decide))⟩, by rw [ht]; exact hP, va_K.moved hW.alike hK, hD⟩, hS.F ht⟩) hS.2.2 dX11_why_25
    refine lv_if_eq (tgt := 24) hx hb dX11_why_6 (by decide) (fun c_49 => ?_) (fun c_49 => ?_)
    · have f_50 := (hr_5.resolve_left (fun q => absurd (q.1.symm.trans c_49) (by decide))).2
      have h_51 : rg x_1 0 0 := rg_and h_6 (rg_of_eq c_49 (rg_k (0 : Int32) 0 rfl)) (by decide)
      exact K_48 _ _ _ hG hP hD hS (lv_sub hl [] rfl)
    · obtain ⟨f_52, f_53⟩ := (hr_5.resolve_right (fun q => c_49 q.1)).2
      have h_54 : rg a0 0 2147483647 := rg_le2 f_52 (rg_k (0 : Int32) 0 rfl) (rg_full _) (by decide)
      have h_55 : rg a0 0 2 := rg_le1 f_53 h_54 (rg_k (2 : Int32) 2 rfl) (by decide)
      have h_56 : rg x_1 1 1 := rg_ne c_49 h_6 0 rfl (by decide)
      refine lv_aload_n hx hb dX11_why_9 rfl (lv_at hl 0 rfl) ?_
      refine lv_iload_n hx hb dX11_why_10 rfl (lv_at hl 2 rfl) ?_
      refine pk_i (va_runV (As := [.int a1]) (rest := []) ⟨hx, hb, hml, hown, hts⟩ (s_X11_isPerson l D t σ I J ri rj rq H.size tg hSH hG.1 this a1 hL_this hK_this) (cwV 1 hts (tw_V tw_405 tw_406 tw_407 tw_2 tw_408) rfl rfl rfl (by decide +kernel) ⟨Nat.le_of_ble_eq_true rfl, Nat.le_of_ble_eq_true rfl⟩) ⟨pq_blind, pq_recv hK hP hL_this hK_this (by decide) rfl, pq_pre hK hN hP hD⟩ rfl rfl hl.1 rfl (lv_room (Nat.le_of_ble_eq_true rfl)) dX11_why_11 ⟨Nat.le_of_ble_eq_true rfl, Nat.le_of_ble_eq_true rfl⟩) hD hS hA (fun x_57 σ1 μ1 H locs hw_58 hP hD hS => ?_)
      obtain ⟨hu_59, hr_61⟩ := hw_58
      obtain ⟨hu_59a, hu_59b⟩ := Prod.mk.inj hu_59
      rw [hu_59a, hu_59b] at hP hD
      have h_62 : rg x_57 0 1 := by rcases hr_61 with ⟨q, -⟩ | ⟨q, -⟩ <;> rw [q] <;> exact ⟨by decide, by decide⟩
      refine lv_if_eq (tgt := 24) hx hb dX11_why_14 (by decide) (fun c_63 => ?_) (fun c_63 => ?_)
      · have f_64 := (hr_61.resolve_left (fun q => absurd (q.1.symm.trans c_63) (by decide))).2
        have h_65 : rg x_57 0 0 := rg_and h_62 (rg_of_eq c_63 (rg_k (0 : Int32) 0 rfl)) (by decide)
        exact K_48 _ _ _ hG hP hD hS (lv_sub hl [] rfl)
      · have f_66 := (hr_61.resolve_right (fun q => c_63 q.1)).2
        have h_67 : rg x_57 1 1 := rg_ne c_63 h_62 0 rfl (by decide)
        refine lv_iload_n hx hb dX11_why_17 rfl (lv_at hl 3 rfl) ?_
        refine pk_i (va_runS (As := [.int a2]) (rest := []) ⟨hx, hb, hml, hown, hts⟩ (s_X11_isMonth l D t σ I J ri rj rq H.size tg hSH hG.1 a2) (va_cwS 1 hts (tw_S tw_247 tw_248 tw_2 tw_249) rfl rfl rfl (by decide +kernel) ⟨Nat.le_of_ble_eq_true rfl, Nat.le_of_ble_eq_true rfl⟩) ⟨pq_blind, pq_pre hK hN hP hD⟩ rfl rfl hl.1 rfl (lv_room (Nat.le_of_ble_eq_true rfl)) dX11_why_18 ⟨Nat.le_of_ble_eq_true rfl, Nat.le_of_ble_eq_true rfl⟩) hD hS hA (fun x_68 σ1 μ1 H locs hw_69 hP hD hS => ?_)
        obtain ⟨hu_70, hr_72⟩ := hw_69
        obtain ⟨hu_70a, hu_70b⟩ := Prod.mk.inj hu_70
        rw [hu_70a, hu_70b] at hP hD
        have h_73 : rg x_68 0 1 := by rcases hr_72 with ⟨q, -⟩ | ⟨q, -⟩ <;> rw [q] <;> exact ⟨by decide, by decide⟩
        refine lv_if_ne (tgt := 26) hx hb dX11_why_21 (by decide) (fun c_74 => ?_) (fun c_74 => ?_)
        · have f_75 := (hr_72.resolve_right (fun q => c_74 q.1)).2
          have h_76 : rg x_68 1 1 := rg_ne c_74 h_73 0 rfl (by decide)
          refine lv_aload_n hx hb dX11_why_26 rfl (lv_at hl 0 rfl) ?_
          obtain ⟨w_77, hR_w_77, hL_w_77, hK_w_77⟩ := sh_o hSH 352 (ci := 11) (kd := 10) rfl hL_this hK_this
          refine pg_f (v := .ref w_77) (C := RX11) (T := TX11) (N := 5) hx hb hts (tw_i inlX11) hown hK hP hL_this hK_this (by decide) rfl 0 (by decide) (hts _ (tw_c tw_16)) (pq_hv rfl hR_w_77) dX11_why_27 ?_
          obtain ⟨w_78, hR_w_78, hL_w_78, hK_w_78⟩ := sh_o hSH 329 (ci := 10) (kd := 3) rfl hL_w_77 hK_w_77
          refine pg_f (v := .ref w_78) (C := RX10) (T := TX10) (N := 13) hx hb hts (tw_i inlX10) hown hK hP hL_w_77 hK_w_77 (by decide) rfl 9 (by decide) (hts _ (tw_c tw_648)) (pq_hv rfl hR_w_78) dX11_why_30 ?_
          refine lv_iconst (v := 1) hx hb dX11_why_33 (by decide) ?_
          refine lv_iload_n hx hb dX11_why_34 rfl (lv_at hl 1 rfl) ?_
          refine lv_iadd hx hb dX11_why_35 ?_
          refine lv_topi (fun x_79 ex_79 => ?_)
          have h_80 : rg x_79 1 3 := rg_of_eq ex_79 (rg_add (rg_k (1 : Int32) 1 rfl) h_55 (by decide))
          refine lv_iload_n hx hb dX11_why_36 rfl (lv_at hl 3 rfl) ?_
          refine lv_aload_n hx hb dX11_why_37 rfl (lv_at hl 0 rfl) ?_
          refine pg_f (v := .ref w_77) (C := RX11) (T := TX11) (N := 5) hx hb hts (tw_i inlX11) hown hK hP hL_this hK_this (by decide) rfl 0 (by decide) (hts _ (tw_c tw_16)) (pq_hv rfl hR_w_77) dX11_why_38 ?_
          obtain ⟨w_81, hR_w_81, hL_w_81, hK_w_81⟩ := sh_o hSH 328 (ci := 10) (kd := 0) rfl hL_w_77 hK_w_77
          refine pg_f (v := .ref w_81) (C := RX10) (T := TX10) (N := 13) hx hb hts (tw_i inlX10) hown hK hP hL_w_77 hK_w_77 (by decide) rfl 8 (by decide) (hts _ (tw_c tw_379)) (pq_hv rfl hR_w_81) dX11_why_41 ?_
          refine lv_iload_n hx hb dX11_why_44 rfl (lv_at hl 2 rfl) ?_
          refine pk_i (va_runV (As := [.int x_79, .int a2, .ref w_81, .int a1]) (rest := []) ⟨hx, hb, hml, hown, hts⟩ (s_X3_clauseBy l D t σ I J ri rj rq H.size tg hSH hG.1 w_78 x_79 a2 w_81 a1 hL_w_78 hK_w_78 hL_w_81 hK_w_81 (rg_w f_66 (by decide))) (cwV 4 hts (tw_V tw_979 tw_980 tw_981 tw_49 tw_982) rfl rfl rfl (by decide +kernel) ⟨Nat.le_of_ble_eq_true rfl, Nat.le_of_ble_eq_true rfl⟩) ⟨pq_blind, pq_recv hK hP hL_w_78 hK_w_78 (by decide) rfl, pq_pre hK hN hP hD⟩ rfl rfl hl.1 rfl (lv_room (Nat.le_of_ble_eq_true rfl)) dX11_why_45 ⟨Nat.le_of_ble_eq_true rfl, Nat.le_of_ble_eq_true rfl⟩) hD hS hA (fun x_82 σ1 μ1 H locs hw_83 hP hD hS => ?_)
          obtain ⟨ri_84, hu_85, hg_86, hr_87⟩ := hw_83
          obtain ⟨hu_85a, hu_85b⟩ := Prod.mk.inj hu_85
          rw [hu_85a, hu_85b] at hP hD
          have hG := GX.tr hG hg_86 (by decide)
          subst hQ
          exact W.iret (v := x_82) hx hb hr (fun t1 ht hW => ⟨⟨x_82, (σ, I, J, ri_84, rj, rq), rfl, ⟨ri_84, rfl, hG, (rg_w hr_87 (by decide))⟩, by rw [ht]; exact hP, va_K.moved hW.alike hK, hD⟩, hS.F ht⟩) hS.2.2 dX11_why_48
        · have f_88 := (hr_72.resolve_left (fun q => absurd (q.1.symm.trans c_74) (by decide))).2
          have h_89 : rg x_68 0 0 := rg_and h_73 (rg_of_eq c_74 (rg_k (0 : Int32) 0 rfl)) (by decide)
          exact K_48 _ _ _ hG hP hD hS (lv_sub hl [] rfl)
  exact go _ _ _ hP hD hS hl

set_option maxHeartbeats 4000000 in
set_option maxRecDepth 100000 in
theorem s_X11_says (l : Launch) (D : va_G) (t : pq_T) (σ : pq_S) (I : Nat → Nat → Int32) (J : Nat → Nat → Int64) (ri : Nat → Nat → Int32) (rj : Nat → Nat → Int64) (rq : Nat → Nat → Option Nat) (sz : Nat) (tg : Nat → Nat) (hSH : SH σ tg) (hG0 : GS tg σ I ri rq) (this : Nat) (a0 : Int32) (a1 : Int32) (hL_this : this ∈ σ.1) (hK_this : σ.2.1 this = 11) : MetI l yX11_says (wa yX11_says cX11_says 3 (some .int)) ({ frames := 4, cells := 0, slots := 0, locals := 91 }) [.ref this, .int a0, .int a1] D t σ (I, J, ri, rj, rq) sz 0 0 (fun (r : Int32) (u : pq_S × pq_M) => u = (σ, I, J, ri, rj, rq)) := by
  refine Met.ofW (cc := cX11_says) (maxL := 3) (ret := (some .int)) (by decide) rfl ?_
  intro p e s m args below meth c s₁ B hml hv
  obtain ⟨rfl, hsz, hP, hK, hD0, hN⟩ := hv
  have hx := B.exec
  have hb := B.bytes
  have hr := B.returns
  have hts := atoms_spec (ws := (wa yX11_says cX11_says 3 (some .int))) B.pre
  have hown : s.vm.findClass RX11 = some m.cls := findClass_of_methodNamed B.named
  have hlocks := B.notSynchronized
  subst hsz
  have hD : va_D (pq_B t σ (I, J, ri, rj, rq) s.heap.size) (pq_P t σ (I, J, ri, rj, rq)) := hD0.self
  generalize hAe : pq_B t σ (I, J, ri, rj, rq) s.heap.size = A at hD ⊢
  have hA : ∀ q : Nat, s.heap.size ≤ q → A q := fun q h => by rw [← hAe]; exact Or.inr h
  have hS : va_S A s.heap s.heap [] := va_S.rf
  have hG : GX [] tg σ I ri rj I ri rj rq := ⟨hG0, fun _ _ _ => rfl, fun _ _ _ _ _ => rfl, fun _ _ _ _ _ => rfl⟩
  have hl := lv_entry ([.ref this, .int a0, .int a1]) (n := 3) (Nat.le_of_ble_eq_true rfl)
  rw [lg_entry_eq]
  generalize (lg_sl ([.ref this, .int a0, .int a1]) ++ List.replicate (3 - (lg_sl ([.ref this, .int a0, .int a1])).length) Slot.unset).toArray = ls at hl ⊢
  have hl : lv_has ls 3 [(0, .ref this), (1, .int a0), (2, .int a1)] := hl
  refine q_gen (fun Q hQ => ?_)
  have go : ∀ (H : Heap) (locs : List Loc) (ls : Array Slot), va_P D vwCl (pq_P t σ (I, J, ri, rj, rq)) H → va_D A (pq_P t σ (I, J, ri, rj, rq)) → va_S A s.heap H locs → lv_has ls 3 [(0, .ref this), (1, .int a0), (2, .int a1)] → W p l e ({ frames := 4, cells := 0, slots := 0, locals := 91 } : Room) s m (List.toArray ([.ref this, .int a0, .int a1] : List Value)) below meth c H locs 0 0 Q (F0 m 0 ls []) := by
    intro H locs ls hP hD hS hl
    refine lv_iload_n hx hb dX11_says_0 rfl (lv_at hl 1 rfl) ?_
    refine pk_i (va_runS (As := [.int a0]) (rest := []) ⟨hx, hb, hml, hown, hts⟩ (s_X11_isMonth l D t σ I J ri rj rq H.size tg hSH hG.1 a0) (va_cwS 1 hts (tw_S tw_247 tw_248 tw_2 tw_249) rfl rfl rfl (by decide +kernel) ⟨Nat.le_of_ble_eq_true rfl, Nat.le_of_ble_eq_true rfl⟩) ⟨pq_blind, pq_pre hK hN hP hD⟩ rfl rfl hl.1 rfl (lv_room (Nat.le_of_ble_eq_true rfl)) dX11_says_1 ⟨Nat.le_of_ble_eq_true rfl, Nat.le_of_ble_eq_true rfl⟩) hD hS hA (fun x_1 σ1 μ1 H locs hw_2 hP hD hS => ?_)
    obtain ⟨hu_3, hr_5⟩ := hw_2
    obtain ⟨hu_3a, hu_3b⟩ := Prod.mk.inj hu_3
    rw [hu_3a, hu_3b] at hP hD
    have h_6 : rg x_1 0 1 := by rcases hr_5 with ⟨q, -⟩ | ⟨q, -⟩ <;> rw [q] <;> exact ⟨by decide, by decide⟩
    refine lv_if_ne (tgt := 9) hx hb dX11_says_4 (by decide) (fun c_7 => ?_) (fun c_7 => ?_)
    · have f_8 := (hr_5.resolve_right (fun q => c_7 q.1)).2
      have h_9 : rg x_1 1 1 := rg_ne c_7 h_6 0 rfl (by decide)
      refine lv_iload_n hx hb dX11_says_9 rfl (lv_at hl 2 rfl) ?_
      by_cases k_10 : a1 = (0 : Int32)
      · have h_11 : rg a1 0 0 := rg_and (rg_full _) (rg_of_eq k_10 (rg_k (0 : Int32) 0 rfl)) (by decide)
        refine lv_tov 0 k_10 ?_
        refine lv_tableIn (tgt := 36) hx hb dX11_says_10 (by decide) (by decide) rfl (by decide) ?_
        refine lv_aload_n hx hb dX11_says_36 rfl (lv_at hl 0 rfl) ?_
        obtain ⟨w_12, hR_w_12, hL_w_12, hK_w_12⟩ := sh_o hSH 352 (ci := 11) (kd := 10) rfl hL_this hK_this
        refine pg_f (v := .ref w_12) (C := RX11) (T := TX11) (N := 5) hx hb hts (tw_i inlX11) hown hK hP hL_this hK_this (by decide) rfl 0 (by decide) (hts _ (tw_c tw_16)) (pq_hv rfl hR_w_12) dX11_says_37 ?_
        obtain ⟨w_13, hR_w_13, hL_w_13, hK_w_13⟩ := sh_o hSH 329 (ci := 10) (kd := 3) rfl hL_w_12 hK_w_12
        refine pg_f (v := .ref w_13) (C := RX10) (T := TX10) (N := 13) hx hb hts (tw_i inlX10) hown hK hP hL_w_12 hK_w_12 (by decide) rfl 9 (by decide) (hts _ (tw_c tw_648)) (pq_hv rfl hR_w_13) dX11_says_40 ?_
        refine lv_iload_n hx hb dX11_says_43 rfl (lv_at hl 1 rfl) ?_
        refine pk_i (va_runV (As := [.int a0]) (rest := []) ⟨hx, hb, hml, hown, hts⟩ (s_X3_councilIn l D t σ I J ri rj rq H.size tg hSH hG.1 w_13 a0 hL_w_13 hK_w_13) (cwV 1 hts (tw_V tw_991 tw_992 tw_993 tw_49 tw_994) rfl rfl rfl (by decide +kernel) ⟨Nat.le_of_ble_eq_true rfl, Nat.le_of_ble_eq_true rfl⟩) ⟨pq_blind, pq_recv hK hP hL_w_13 hK_w_13 (by decide) rfl, pq_pre hK hN hP hD⟩ rfl rfl hl.1 rfl (lv_room (Nat.le_of_ble_eq_true rfl)) dX11_says_44 ⟨Nat.le_of_ble_eq_true rfl, Nat.le_of_ble_eq_true rfl⟩) hD hS hA (fun x_14 σ1 μ1 H locs hw_15 hP hD hS => ?_)
        have hu_16 := hw_15
        obtain ⟨hu_16a, hu_16b⟩ := Prod.mk.inj hu_16
        rw [hu_16a, hu_16b] at hP hD
        subst hQ
        exact W.iret (v := x_14) hx hb hr (fun t1 ht hW => ⟨⟨x_14, (σ, I, J, ri, rj, rq), rfl, rfl, by rw [ht]; exact hP, va_K.moved hW.alike hK, hD⟩, hS.F ht⟩) hS.2.2 dX11_says_47
      by_cases k_19 : a1 = (1 : Int32)
      · have h_20 : rg a1 1 1 := rg_and (rg_full _) (rg_of_eq k_19 (rg_k (1 : Int32) 1 rfl)) (by decide)
        refine lv_tov 1 k_19 ?_
        refine lv_tableIn (tgt := 48) hx hb dX11_says_10 (by decide) (by decide) rfl (by decide) ?_
        refine lv_aload_n hx hb dX11_says_48 rfl (lv_at hl 0 rfl) ?_
        obtain ⟨w_21, hR_w_21, hL_w_21, hK_w_21⟩ := sh_o hSH 352 (ci := 11) (kd := 10) rfl hL_this hK_this
        refine pg_f (v := .ref w_21) (C := RX11) (T := TX11) (N := 5) hx hb hts (tw_i inlX11) hown hK hP hL_this hK_this (by decide) rfl 0 (by decide) (hts _ (tw_c tw_16)) (pq_hv rfl hR_w_21) dX11_says_49 ?_
        obtain ⟨w_22, hR_w_22, hL_w_22, hK_w_22⟩ := sh_o hSH 329 (ci := 10) (kd := 3) rfl hL_w_21 hK_w_21
        refine pg_f (v := .ref w_22) (C := RX10) (T := TX10) (N := 13) hx hb hts (tw_i inlX10) hown hK hP hL_w_21 hK_w_21 (by decide) rfl 9 (by decide) (hts _ (tw_c tw_648)) (pq_hv rfl hR_w_22) dX11_says_52 ?_
        refine lv_iload_n hx hb dX11_says_55 rfl (lv_at hl 1 rfl) ?_
        refine pk_i (va_runV (As := [.int a0]) (rest := []) ⟨hx, hb, hml, hown, hts⟩ (s_X3_leaveIn l D t σ I J ri rj rq H.size tg hSH hG.1 w_22 a0 hL_w_22 hK_w_22) (cwV 1 hts (tw_V tw_1004 tw_1005 tw_1006 tw_49 tw_1007) rfl rfl rfl (by decide +kernel) ⟨Nat.le_of_ble_eq_true rfl, Nat.le_of_ble_eq_true rfl⟩) ⟨pq_blind, pq_recv hK hP hL_w_22 hK_w_22 (by decide) rfl, pq_pre hK hN hP hD⟩ rfl rfl hl.1 rfl (lv_room (Nat.le_of_ble_eq_true rfl)) dX11_says_56 ⟨Nat.le_of_ble_eq_true rfl, Nat.le_of_ble_eq_true rfl⟩) hD hS hA (fun x_23 σ1 μ1 H locs hw_24 hP hD hS => ?_)
        have hu_25 := hw_24
        obtain ⟨hu_25a, hu_25b⟩ := Prod.mk.inj hu_25
        rw [hu_25a, hu_25b] at hP hD
        subst hQ
        exact W.iret (v := x_23) hx hb hr (fun t1 ht hW => ⟨⟨x_23, (σ, I, J, ri, rj, rq), rfl, rfl, by rw [ht]; exact hP, va_K.moved hW.alike hK, hD⟩, hS.F ht⟩) hS.2.2 dX11_says_59
      by_cases k_28 : a1 = (2 : Int32)
      · have h_29 : rg a1 2 2 := rg_and (rg_full _) (rg_of_eq k_28 (rg_k (2 : Int32) 2 rfl)) (by decide)
        refine lv_tov 2 k_28 ?_
        refine lv_tableIn (tgt := 60) hx hb dX11_says_10 (by decide) (by decide) rfl (by decide) ?_
        refine lv_aload_n hx hb dX11_says_60 rfl (lv_at hl 0 rfl) ?_
        obtain ⟨w_30, hR_w_30, hL_w_30, hK_w_30⟩ := sh_o hSH 352 (ci := 11) (kd := 10) rfl hL_this hK_this
        refine pg_f (v := .ref w_30) (C := RX11) (T := TX11) (N := 5) hx hb hts (tw_i inlX11) hown hK hP hL_this hK_this (by decide) rfl 0 (by decide) (hts _ (tw_c tw_16)) (pq_hv rfl hR_w_30) dX11_says_61 ?_
        obtain ⟨w_31, hR_w_31, hL_w_31, hK_w_31⟩ := sh_o hSH 329 (ci := 10) (kd := 3) rfl hL_w_30 hK_w_30
        refine pg_f (v := .ref w_31) (C := RX10) (T := TX10) (N := 13) hx hb hts (tw_i inlX10) hown hK hP hL_w_30 hK_w_30 (by decide) rfl 9 (by decide) (hts _ (tw_c tw_648)) (pq_hv rfl hR_w_31) dX11_says_64 ?_
        refine lv_iload_n hx hb dX11_says_67 rfl (lv_at hl 1 rfl) ?_
        refine pk_i (va_runV (As := [.int a0]) (rest := []) ⟨hx, hb, hml, hown, hts⟩ (s_X3_fixIn l D t σ I J ri rj rq H.size tg hSH hG.1 w_31 a0 hL_w_31 hK_w_31) (cwV 1 hts (tw_V tw_1008 tw_1009 tw_1010 tw_49 tw_1011) rfl rfl rfl (by decide +kernel) ⟨Nat.le_of_ble_eq_true rfl, Nat.le_of_ble_eq_true rfl⟩) ⟨pq_blind, pq_recv hK hP hL_w_31 hK_w_31 (by decide) rfl, pq_pre hK hN hP hD⟩ rfl rfl hl.1 rfl (lv_room (Nat.le_of_ble_eq_true rfl)) dX11_says_68 ⟨Nat.le_of_ble_eq_true rfl, Nat.le_of_ble_eq_true rfl⟩) hD hS hA (fun x_32 σ1 μ1 H locs hw_33 hP hD hS => ?_)
        have hu_34 := hw_33
        obtain ⟨hu_34a, hu_34b⟩ := Prod.mk.inj hu_34
        rw [hu_34a, hu_34b] at hP hD
        subst hQ
        exact W.iret (v := x_32) hx hb hr (fun t1 ht hW => ⟨⟨x_32, (σ, I, J, ri, rj, rq), rfl, rfl, by rw [ht]; exact hP, va_K.moved hW.alike hK, hD⟩, hS.F ht⟩) hS.2.2 dX11_says_71
      refine lv_tableOut (tgt := 72) hx hb dX11_says_10 (by have z_k_10 := sw_ne k_10 (n := 0) rfl; have z_k_19 := sw_ne k_19 (n := 1) rfl; have z_k_28 := sw_ne k_28 (n := 2) rfl; omega) (by decide) ?_
      refine lv_iconst (v := (-1)) hx hb dX11_says_72 (by decide) ?_
      subst hQ
      exact W.iret (v := (-1)) hx hb hr (fun t1 ht hW => ⟨⟨(-1), (σ, I, J, ri, rj, rq), rfl, rfl, by rw [ht]; exact hP, va_K.moved hW.alike hK, hD⟩, hS.F ht⟩) hS.2.2 dX11_says_73
    · have f_37 := (hr_5.resolve_left (fun q => absurd (q.1.symm.trans c_7) (by decide))).2
      have h_38 : rg x_1 0 0 := rg_and h_6 (rg_of_eq c_7 (rg_k (0 : Int32) 0 rfl)) (by decide)
      refine lv_iconst (v := (-1)) hx hb dX11_says_7 (by decide) ?_
      subst hQ
      exact W.iret (v := (-1)) hx hb hr (fun t1 ht hW => ⟨⟨(-1), (σ, I, J, ri, rj, rq), rfl, rfl, by rw [ht]; exact hP, va_K.moved hW.alike hK, hD⟩, hS.F ht⟩) hS.2.2 dX11_says_8
  exact go _ _ _ hP hD hS hl

set_option maxHeartbeats 4000000 in
set_option maxRecDepth 100000 in
theorem s_X11_sail (l : Launch) (D : va_G) (t : pq_T) (σ : pq_S) (I : Nat → Nat → Int32) (J : Nat → Nat → Int64) (ri : Nat → Nat → Int32) (rj : Nat → Nat → Int64) (rq : Nat → Nat → Option Nat) (sz : Nat) (tg : Nat → Nat) (hSH : SH σ tg) (hG0 : GS tg σ I ri rq) (this : Nat) (a0 : Int32) (a1 : Int32) (hL_this : this ∈ σ.1) (hK_this : σ.2.1 this = 11) : MetI l yX11_sail (wa yX11_sail cX11_sail 3 (some .boolean)) ({ frames := 1, cells := 0, slots := 0, locals := 22 }) [.ref this, .int a0, .int a1] D t σ (I, J, ri, rj, rq) sz 0 0 (fun (r : Int32) (u : pq_S × pq_M) => ∃ I' : Nat → Nat → Int32, u = (σ, I', J, ri, rj, rq) ∧ GX [] tg σ I ri rj I' ri rj rq ∧ ((r = 1 ∧ rg a0 0 40 ∧ rg a1 0 100000) ∨ (r = 0 ∧ True))) := by
  refine Met.ofW (cc := cX11_sail) (maxL := 3) (ret := (some .boolean)) (by decide) rfl ?_
  intro p e s m args below meth c s₁ B hml hv
  obtain ⟨rfl, hsz, hP, hK, hD0, hN⟩ := hv
  have hx := B.exec
  have hb := B.bytes
  have hr := B.returns
  have hts := atoms_spec (ws := (wa yX11_sail cX11_sail 3 (some .boolean))) B.pre
  have hown : s.vm.findClass RX11 = some m.cls := findClass_of_methodNamed B.named
  have hlocks := B.notSynchronized
  subst hsz
  have hD : va_D (pq_B t σ (I, J, ri, rj, rq) s.heap.size) (pq_P t σ (I, J, ri, rj, rq)) := hD0.self
  generalize hAe : pq_B t σ (I, J, ri, rj, rq) s.heap.size = A at hD ⊢
  have hA : ∀ q : Nat, s.heap.size ≤ q → A q := fun q h => by rw [← hAe]; exact Or.inr h
  have hS : va_S A s.heap s.heap [] := va_S.rf
  have hG : GX [] tg σ I ri rj I ri rj rq := ⟨hG0, fun _ _ _ => rfl, fun _ _ _ _ _ => rfl, fun _ _ _ _ _ => rfl⟩
  have hl := lv_entry ([.ref this, .int a0, .int a1]) (n := 3) (Nat.le_of_ble_eq_true rfl)
  rw [lg_entry_eq]
  generalize (lg_sl ([.ref this, .int a0, .int a1]) ++ List.replicate (3 - (lg_sl ([.ref this, .int a0, .int a1])).length) Slot.unset).toArray = ls at hl ⊢
  have hl : lv_has ls 3 [(0, .ref this), (1, .int a0), (2, .int a1)] := hl
  refine q_gen (fun Q hQ => ?_)
  have go : ∀ (H : Heap) (locs : List Loc) (ls : Array Slot), va_P D vwCl (pq_P t σ (I, J, ri, rj, rq)) H → va_D A (pq_P t σ (I, J, ri, rj, rq)) → va_S A s.heap H locs → lv_has ls 3 [(0, .ref this), (1, .int a0), (2, .int a1)] → W p l e ({ frames := 1, cells := 0, slots := 0, locals := 22 } : Room) s m (List.toArray ([.ref this, .int a0, .int a1] : List Value)) below meth c H locs 0 0 Q (F0 m 0 ls []) := by
    intro H locs ls hP hD hS hl
    refine lv_iload_n hx hb dX11_sail_0 rfl (lv_at hl 1 rfl) ?_
    refine lv_iconst (v := 0) hx hb dX11_sail_1 (by decide) ?_
    refine lv_bipush (v := 40) hx hb dX11_sail_2 (by decide) ?_
    refine pk_i (va_runS (As := [.int a0, .int 0, .int 40]) (rest := []) ⟨hx, hb, hml, hown, hts⟩ (s_X11_between l D t σ I J ri rj rq H.size tg hSH hG.1 a0 (0 : Int32) (40 : Int32)) (va_cwS 3 hts (tw_S tw_215 tw_216 tw_2 tw_217) rfl rfl rfl (by decide +kernel) ⟨Nat.le_of_ble_eq_true rfl, Nat.le_of_ble_eq_true rfl⟩) ⟨pq_blind, pq_pre hK hN hP hD⟩ rfl rfl hl.1 rfl (lv_room (Nat.le_of_ble_eq_true rfl)) dX11_sail_4 ⟨Nat.le_of_ble_eq_true rfl, Nat.le_of_ble_eq_true rfl⟩) hD hS hA (fun x_1 σ1 μ1 H locs hw_2 hP hD hS => ?_)
    obtain ⟨hu_3, hr_5⟩ := hw_2
    obtain ⟨hu_3a, hu_3b⟩ := Prod.mk.inj hu_3
    rw [hu_3a, hu_3b] at hP hD
    have h_6 : rg x_1 0 1 := by rcases hr_5 with ⟨q, -⟩ | ⟨q, -⟩ <;> rw [q] <;> exact ⟨by decide, by decide⟩
    have K_33 : ∀  (H : Heap) (locs : List Loc) (ls : Array Slot), GX [] tg σ I ri rj I ri rj rq → va_P D vwCl (pq_P t σ (I, J, ri, rj, rq)) H → va_D A (pq_P t σ (I, J, ri, rj, rq)) → va_S A s.heap H locs → lv_has ls 3 [] → W p l e ({ frames := 1, cells := 0, slots := 0, locals := 22 } : Room) s m (List.toArray ([.ref this, .int a0, .int a1] : List Value)) below meth c H locs 0 0 Q (F0 m 20 ls []) := by
      intro H locs ls hG hP hD hS hl
      refine lv_iconst (v := 0) hx hb dX11_sail_20 (by decide) ?_
      subst hQ
      exact W.zret (v := 0) hx hb hr (by decide) (fun t1 ht hW => ⟨⟨0, (σ, I, J, ri, rj, rq), rfl, ⟨I, rfl, hG, (Or.inr ⟨rfl, trivial⟩)⟩, by rw [ht]; exact hP, va_K.moved hW.alike hK, hD⟩, hS.F ht⟩) hS.2.2 dX11_sail_21
    refine lv_if_eq (tgt := 20) hx hb dX11_sail_7 (by decide) (fun c_34 => ?_) (fun c_34 => ?_)
    · have f_35 := (hr_5.resolve_left (fun q => absurd (q.1.symm.trans c_34) (by decide))).2
      have h_36 : rg x_1 0 0 := rg_and h_6 (rg_of_eq c_34 (rg_k (0 : Int32) 0 rfl)) (by decide)
      exact K_33 _ _ _ hG hP hD hS (lv_sub hl [] rfl)
    · obtain ⟨f_37, f_38⟩ := (hr_5.resolve_right (fun q => c_34 q.1)).2
      have h_39 : rg a0 0 2147483647 := rg_le2 f_37 (rg_k (0 : Int32) 0 rfl) (rg_full _) (by decide)
      have h_40 : rg a0 0 40 := rg_le1 f_38 h_39 (rg_k (40 : Int32) 40 rfl) (by decide)
      have h_41 : rg x_1 1 1 := rg_ne c_34 h_6 0 rfl (by decide)
      refine lv_iload_n hx hb dX11_sail_10 rfl (lv_at hl 2 rfl) ?_
      refine lv_iconst (v := 0) hx hb dX11_sail_11 (by decide) ?_
      refine lv_ldc hx hb hown (hts _ (tw_c tw_1024)) dX11_sail_12 ?_
      refine pk_i (va_runS (As := [.int a1, .int 0, .int 100000]) (rest := []) ⟨hx, hb, hml, hown, hts⟩ (s_X11_between l D t σ I J ri rj rq H.size tg hSH hG.1 a1 (0 : Int32) (100000 : Int32)) (va_cwS 3 hts (tw_S tw_215 tw_216 tw_2 tw_217) rfl rfl rfl (by decide +kernel) ⟨Nat.le_of_ble_eq_true rfl, Nat.le_of_ble_eq_true rfl⟩) ⟨pq_blind, pq_pre hK hN hP hD⟩ rfl rfl hl.1 rfl (lv_room (Nat.le_of_ble_eq_true rfl)) dX11_sail_14 ⟨Nat.le_of_ble_eq_true rfl, Nat.le_of_ble_eq_true rfl⟩) hD hS hA (fun x_42 σ1 μ1 H locs hw_43 hP hD hS => ?_)
      obtain ⟨hu_44, hr_46⟩ := hw_43
      obtain ⟨hu_44a, hu_44b⟩ := Prod.mk.inj hu_44
      rw [hu_44a, hu_44b] at hP hD
      have h_47 : rg x_42 0 1 := by rcases hr_46 with ⟨q, -⟩ | ⟨q, -⟩ <;> rw [q] <;> exact ⟨by decide, by decide⟩
      refine lv_if_ne (tgt := 22) hx hb dX11_sail_17 (by decide) (fun c_48 => ?_) (fun c_48 => ?_)
      · obtain ⟨f_49, f_50⟩ := (hr_46.resolve_right (fun q => c_48 q.1)).2
        have h_51 : rg a1 0 2147483647 := rg_le2 f_49 (rg_k (0 : Int32) 0 rfl) (rg_full _) (by decide)
        have h_52 : rg a1 0 100000 := rg_le1 f_50 h_51 (rg_k (100000 : Int32) 100000 rfl) (by decide)
        have h_53 : rg x_42 1 1 := rg_ne c_48 h_47 0 rfl (by decide)
        refine lv_aload_n hx hb dX11_sail_22 rfl (lv_at hl 0 rfl) ?_
        obtain ⟨w_54, hR_w_54, hL_w_54, hK_w_54⟩ := sh_o hSH 352 (ci := 11) (kd := 10) rfl hL_this hK_this
        refine pg_f (v := .ref w_54) (C := RX11) (T := TX11) (N := 5) hx hb hts (tw_i inlX11) hown hK hP hL_this hK_this (by decide) rfl 0 (by decide) (hts _ (tw_c tw_16)) (pq_hv rfl hR_w_54) dX11_sail_23 ?_
        refine lv_iload_n hx hb dX11_sail_26 rfl (lv_at hl 1 rfl) ?_
        refine pp_i (v := a0) (ty := .int) (C := RX10) (T := TX10) (N := 13) hx hb hts (tw_i inlX10) tyX10 tyX10_ok nmX10 hown hK hP hD hS hL_w_54 hK_w_54 (by decide) rfl 2 322 (by decide) (hts _ (tw_c tw_1025)) rfl (by decide +kernel) rfl rfl (Nat.le_of_ble_eq_true rfl) (ps_322 _ _ _ _ _) dX11_sail_27 (fun I_55 H locs eI_55 hP hD hS => ?_)
        have hG := GX.wI hG 322 rfl eI_55 (rg_w h_40 (by decide)) (by decide)
        refine lv_aload_n hx hb dX11_sail_30 rfl (lv_at hl 0 rfl) ?_
        refine pg_f (v := .ref w_54) (C := RX11) (T := TX11) (N := 5) hx hb hts (tw_i inlX11) hown hK hP hL_this hK_this (by decide) rfl 0 (by decide) (hts _ (tw_c tw_16)) (pq_hv rfl hR_w_54) dX11_sail_31 ?_
        refine lv_dup hx hb dX11_sail_34 rfl ?_
        refine pg_f (v := .int (I_55 321 w_54)) (C := RX10) (T := TX10) (N := 13) hx hb hts (tw_i inlX10) hown hK hP hL_w_54 hK_w_54 (by decide) rfl 1 (by decide) (hts _ (tw_c tw_1026)) rfl dX11_sail_35 ?_
        refine lv_iload_n hx hb dX11_sail_38 rfl (lv_at hl 2 rfl) ?_
        refine lv_iadd hx hb dX11_sail_39 ?_
        refine lv_topi (fun x_56 ex_56 => ?_)
        refine pp_i (v := x_56) (ty := .int) (C := RX10) (T := TX10) (N := 13) hx hb hts (tw_i inlX10) tyX10 tyX10_ok nmX10 hown hK hP hD hS hL_w_54 hK_w_54 (by decide) rfl 1 321 (by decide) (hts _ (tw_c tw_1026)) rfl (by decide +kernel) rfl rfl (Nat.le_of_ble_eq_true rfl) (ps_321 _ _ _ _ _) dX11_sail_40 (fun I_57 H locs eI_57 hP hD hS => ?_)
        have hG := GX.wI hG 321 rfl eI_57 (rg_w (rg_full _) (by decide)) (by decide)
        refine lv_iconst (v := 1) hx hb dX11_sail_43 (by decide) ?_
        subst hQ
        exact W.zret (v := 1) hx hb hr (by decide) (fun t1 ht hW => ⟨⟨1, (σ, I_57, J, ri, rj, rq), rfl, ⟨I_57, rfl, hG, (Or.inl ⟨rfl, (rg_w h_40 (by decide)), (rg_w h_52 (by decide))⟩)⟩, by rw [ht]; exact hP, va_K.moved hW.alike hK, hD⟩, hS.F ht⟩) hS.2.2 dX11_sail_44
      · have f_58 := (hr_46.resolve_left (fun q => absurd (q.1.symm.trans c_48) (by decide))).2
        have h_59 : rg x_42 0 0 := rg_and h_47 (rg_of_eq c_48 (rg_k (0 : Int32) 0 rfl)) (by decide)
        exact K_33 _ _ _ hG hP hD hS (lv_sub hl [] rfl)
  exact go _ _ _ hP hD hS hl

set_option maxHeartbeats 4000000 in
set_option maxRecDepth 100000 in
theorem s_X11_canGoBy (l : Launch) (D : va_G) (t : pq_T) (σ : pq_S) (I : Nat → Nat → Int32) (J : Nat → Nat → Int64) (ri : Nat → Nat → Int32) (rj : Nat → Nat → Int64) (rq : Nat → Nat → Option Nat) (sz : Nat) (tg : Nat → Nat) (hSH : SH σ tg) (hG0 : GS tg σ I ri rq) (this : Nat) (a0 : Int32) (a1 : Int32) (a2 : Int32) (hL_this : this ∈ σ.1) (hK_this : σ.2.1 this = 11) (h_a2 : rg a2 12 60) (this_now : Nat) (hR_this_now : σ.2.2.1 352 this = some this_now) (hL_this_now : this_now ∈ σ.1) (hK_this_now : σ.2.1 this_now = 10) : MetI l yX11_canGoBy (wa yX11_canGoBy cX11_canGoBy 4 (some .boolean)) ({ frames := 2, cells := 0, slots := 0, locals := 42 }) [.ref this, .int a0, .int a1, .int a2] D t σ (I, J, ri, rj, rq) sz 0 0 (fun (r : Int32) (u : pq_S × pq_M) => u = (σ, I, J, ri, rj, rq) ∧ ((r = 1 ∧ rg a0 0 2 ∧ rg a1 1 60 ∧ a1 ≤ a2 ∧ ((I 320 this_now).toInt + a1.toInt ≤ 600)) ∨ (r = 0 ∧ True))) := by
  refine Met.ofW (cc := cX11_canGoBy) (maxL := 4) (ret := (some .boolean)) (by decide) rfl ?_
  intro p e s m args below meth c s₁ B hml hv
  obtain ⟨rfl, hsz, hP, hK, hD0, hN⟩ := hv
  have hx := B.exec
  have hb := B.bytes
  have hr := B.returns
  have hts := atoms_spec (ws := (wa yX11_canGoBy cX11_canGoBy 4 (some .boolean))) B.pre
  have hown : s.vm.findClass RX11 = some m.cls := findClass_of_methodNamed B.named
  have hlocks := B.notSynchronized
  subst hsz
  have hD : va_D (pq_B t σ (I, J, ri, rj, rq) s.heap.size) (pq_P t σ (I, J, ri, rj, rq)) := hD0.self
  generalize hAe : pq_B t σ (I, J, ri, rj, rq) s.heap.size = A at hD ⊢
  have hA : ∀ q : Nat, s.heap.size ≤ q → A q := fun q h => by rw [← hAe]; exact Or.inr h
  have hS : va_S A s.heap s.heap [] := va_S.rf
  have hG : GX [] tg σ I ri rj I ri rj rq := ⟨hG0, fun _ _ _ => rfl, fun _ _ _ _ _ => rfl, fun _ _ _ _ _ => rfl⟩
  have hl := lv_entry ([.ref this, .int a0, .int a1, .int a2]) (n := 4) (Nat.le_of_ble_eq_true rfl)
  rw [lg_entry_eq]
  generalize (lg_sl ([.ref this, .int a0, .int a1, .int a2]) ++ List.replicate (4 - (lg_sl ([.ref this, .int a0, .int a1, .int a2])).length) Slot.unset).toArray = ls at hl ⊢
  have hl : lv_has ls 4 [(0, .ref this), (1, .int a0), (2, .int a1), (3, .int a2)] := hl
  refine q_gen (fun Q hQ => ?_)
  have go : ∀ (H : Heap) (locs : List Loc) (ls : Array Slot), va_P D vwCl (pq_P t σ (I, J, ri, rj, rq)) H → va_D A (pq_P t σ (I, J, ri, rj, rq)) → va_S A s.heap H locs → lv_has ls 4 [(0, .ref this), (1, .int a0), (2, .int a1), (3, .int a2)] → W p l e ({ frames := 2, cells := 0, slots := 0, locals := 42 } : Room) s m (List.toArray ([.ref this, .int a0, .int a1, .int a2] : List Value)) below meth c H locs 0 0 Q (F0 m 0 ls []) := by
    intro H locs ls hP hD hS hl
    refine lv_iload_n hx hb dX11_canGoBy_0 rfl (lv_at hl 1 rfl) ?_
    refine pk_i (va_runS (As := [.int a0]) (rest := []) ⟨hx, hb, hml, hown, hts⟩ (s_X11_isRise l D t σ I J ri rj rq H.size tg hSH hG.1 a0) (va_cwS 1 hts (tw_S tw_244 tw_245 tw_2 tw_246) rfl rfl rfl (by decide +kernel) ⟨Nat.le_of_ble_eq_true rfl, Nat.le_of_ble_eq_true rfl⟩) ⟨pq_blind, pq_pre hK hN hP hD⟩ rfl rfl hl.1 rfl (lv_room (Nat.le_of_ble_eq_true rfl)) dX11_canGoBy_1 ⟨Nat.le_of_ble_eq_true rfl, Nat.le_of_ble_eq_true rfl⟩) hD hS hA (fun x_1 σ1 μ1 H locs hw_2 hP hD hS => ?_)
    obtain ⟨hu_3, hr_5⟩ := hw_2
    obtain ⟨hu_3a, hu_3b⟩ := Prod.mk.inj hu_3
    rw [hu_3a, hu_3b] at hP hD
    have h_6 : rg x_1 0 1 := by rcases hr_5 with ⟨q, -⟩ | ⟨q, -⟩ <;> rw [q] <;> exact ⟨by decide, by decide⟩
    have uh_6 := h_6.1
    have vh_6 := h_6.2
    have K_40 : ∀  (H : Heap) (locs : List Loc) (ls : Array Slot), GX [] tg σ I ri rj I ri rj rq → va_P D vwCl (pq_P t σ (I, J, ri, rj, rq)) H → va_D A (pq_P t σ (I, J, ri, rj, rq)) → va_S A s.heap H locs → lv_has ls 4 [] → W p l e ({ frames := 2, cells := 0, slots := 0, locals := 42 } : Room) s m (List.toArray ([.ref this, .int a0, .int a1, .int a2] : List Value)) below meth c H locs 0 0 Q (F0 m 35 ls []) := by
      intro H locs ls hG hP hD hS hl
      refine lv_iconst (v := 0) hx hb dX11_canGoBy_35 (by decide) ?_
      subst hQ
      exact W.zret (v := 0) hx hb hr (by decide) (fun t1 ht hW => ⟨⟨0, (σ, I, J, ri, rj, rq), rfl, ⟨rfl, (Or.inr ⟨rfl, trivial⟩)⟩, by rw [ht]; exact hP, va_K.moved hW.alike hK, hD⟩, hS.F ht⟩) hS.2.2 dX11_canGoBy_36
    refine lv_if_eq (tgt := 35) hx hb dX11_canGoBy_4 (by decide) (fun c_41 => ?_) (fun c_41 => ?_)
    · have f_42 := (hr_5.resolve_left (fun q => absurd (q.1.symm.trans c_41) (by decide))).2
      have tc_43 : (x_1).toInt = 0 := congrArg Int32.toInt c_41
      have h_44 : rg x_1 0 0 := rg_and h_6 (rg_of_eq c_41 (rg_k (0 : Int32) 0 rfl)) (by decide)
      have uh_44 := h_44.1
      have vh_44 := h_44.2
      exact K_40 _ _ _ hG hP hD hS (lv_sub hl [] rfl)
    · have f_45 := (hr_5.resolve_right (fun q => c_41 q.1)).2
      have tc_46 : (x_1).toInt ≠ 0 := fun q => c_41 (Int32.toInt_inj.mp q)
      have h_47 : rg x_1 1 1 := rg_ne c_41 h_6 0 rfl (by decide)
      have uh_47 := h_47.1
      have vh_47 := h_47.2
      refine lv_iload_n hx hb dX11_canGoBy_7 rfl (lv_at hl 2 rfl) ?_
      refine lv_iconst (v := 1) hx hb dX11_canGoBy_8 (by decide) ?_
      refine lv_iload_n hx hb dX11_canGoBy_9 rfl (lv_at hl 3 rfl) ?_
      refine pk_i (va_runS (As := [.int a1, .int 1, .int a2]) (rest := []) ⟨hx, hb, hml, hown, hts⟩ (s_X11_between l D t σ I J ri rj rq H.size tg hSH hG.1 a1 (1 : Int32) a2) (va_cwS 3 hts (tw_S tw_215 tw_216 tw_2 tw_217) rfl rfl rfl (by decide +kernel) ⟨Nat.le_of_ble_eq_true rfl, Nat.le_of_ble_eq_true rfl⟩) ⟨pq_blind, pq_pre hK hN hP hD⟩ rfl rfl hl.1 rfl (lv_room (Nat.le_of_ble_eq_true rfl)) dX11_canGoBy_10 ⟨Nat.le_of_ble_eq_true rfl, Nat.le_of_ble_eq_true rfl⟩) hD hS hA (fun x_48 σ1 μ1 H locs hw_49 hP hD hS => ?_)
      obtain ⟨hu_50, hr_52⟩ := hw_49
      obtain ⟨hu_50a, hu_50b⟩ := Prod.mk.inj hu_50
      rw [hu_50a, hu_50b] at hP hD
      have h_53 : rg x_48 0 1 := by rcases hr_52 with ⟨q, -⟩ | ⟨q, -⟩ <;> rw [q] <;> exact ⟨by decide, by decide⟩
      have uh_53 := h_53.1
      have vh_53 := h_53.2
      refine lv_if_eq (tgt := 35) hx hb dX11_canGoBy_13 (by decide) (fun c_54 => ?_) (fun c_54 => ?_)
      · have f_55 := (hr_52.resolve_left (fun q => absurd (q.1.symm.trans c_54) (by decide))).2
        have tc_56 : (x_48).toInt = 0 := congrArg Int32.toInt c_54
        have h_57 : rg x_48 0 0 := rg_and h_53 (rg_of_eq c_54 (rg_k (0 : Int32) 0 rfl)) (by decide)
        have uh_57 := h_57.1
        have vh_57 := h_57.2
        exact K_40 _ _ _ hG hP hD hS (lv_sub hl [] rfl)
      · obtain ⟨f_58, f_59⟩ := (hr_52.resolve_right (fun q => c_54 q.1)).2
        have tc_60 : 1 ≤ (a1).toInt := Int32.le_iff_toInt_le.mp f_58
        have h_61 : rg a1 1 2147483647 := rg_le2 f_58 (rg_k (1 : Int32) 1 rfl) (rg_full _) (by decide)
        have uh_61 := h_61.1
        have vh_61 := h_61.2
        have tc_62 : (a1).toInt ≤ (a2).toInt := Int32.le_iff_toInt_le.mp f_59
        have h_63 : rg a1 1 60 := rg_le1 f_59 h_61 h_a2 (by decide)
        have uh_63 := h_63.1
        have vh_63 := h_63.2
        have tc_64 : (x_48).toInt ≠ 0 := fun q => c_54 (Int32.toInt_inj.mp q)
        have h_65 : rg x_48 1 1 := rg_ne c_54 h_53 0 rfl (by decide)
        have uh_65 := h_65.1
        have vh_65 := h_65.2
        refine lv_aload_n hx hb dX11_canGoBy_16 rfl (lv_at hl 0 rfl) ?_
        refine pg_f (v := .ref this_now) (C := RX11) (T := TX11) (N := 5) hx hb hts (tw_i inlX11) hown hK hP hL_this hK_this (by decide) rfl 0 (by decide) (hts _ (tw_c tw_16)) (pq_hv rfl hR_this_now) dX11_canGoBy_17 ?_
        refine pg_f (v := .int (I 320 this_now)) (C := RX10) (T := TX10) (N := 13) hx hb hts (tw_i inlX10) hown hK hP hL_this_now hK_this_now (by decide) rfl 0 (by decide) (hts _ (tw_c tw_209)) rfl dX11_canGoBy_20 ?_
        have h_66 : rg (I 320 this_now) 0 600 := GX.rI hG 320 rfl
        have uh_66 := h_66.1
        have vh_66 := h_66.2
        refine lv_iload_n hx hb dX11_canGoBy_23 rfl (lv_at hl 2 rfl) ?_
        refine lv_iadd hx hb dX11_canGoBy_24 ?_
        refine lv_topi (fun x_67 ex_67 => ?_)
        have h_68 : rg x_67 1 660 := rg_of_eq ex_67 (rg_add h_66 h_63 (by decide))
        have uh_68 := h_68.1
        have vh_68 := h_68.2
        have tx_67 : (x_67).toInt = (I 320 this_now).toInt + (a1).toInt := by rw [ex_67]; exact i_add_rg (a2 := (I 320 this_now).toInt) (b2 := (a1).toInt) rfl rfl h_66 h_63 (by decide)
        refine lv_sipush (v := 600) hx hb dX11_canGoBy_25 (by decide) ?_
        refine lv_icmp_gt (tgt := 35) hx hb dX11_canGoBy_28 (by decide) (fun c_69 => ?_) (fun c_69 => ?_)
        · have tc_70 : 600 < (x_67).toInt := Int32.lt_iff_toInt_lt.mp c_69
          have h_71 : rg x_67 601 660 := rg_lt2 c_69 (rg_k (600 : Int32) 600 rfl) h_68 (by decide)
          have uh_71 := h_71.1
          have vh_71 := h_71.2
          exact K_40 _ _ _ hG hP hD hS (lv_sub hl [] rfl)
        · have tc_72 : (x_67).toInt ≤ 600 := Int32.le_iff_toInt_le.mp (nlt c_69)
          have h_73 : rg x_67 1 600 := rg_le1 (nlt c_69) h_68 (rg_k (600 : Int32) 600 rfl) (by decide)
          have uh_73 := h_73.1
          have vh_73 := h_73.2
          refine lv_iconst (v := 1) hx hb dX11_canGoBy_31 (by decide) ?_
          refine lv_goto (tgt := 36) hx hb dX11_canGoBy_32 (by decide) ?_
          subst hQ
          exact W.zret (v := 1) hx hb hr (by decide) (fun t1 ht hW => ⟨⟨1, (σ, I, J, ri, rj, rq), rfl, ⟨rfl, (Or.inl ⟨rfl, (rg_w f_45 (by decide)), (rg_w h_63 (by decide)), f_59, (by omega)⟩)⟩, by rw [ht]; exact hP, va_K.moved hW.alike hK, hD⟩, hS.F ht⟩) hS.2.2 dX11_canGoBy_36
  exact go _ _ _ hP hD hS hl

set_option maxHeartbeats 4000000 in
set_option maxRecDepth 100000 in
theorem s_X11_months (l : Launch) (D : va_G) (t : pq_T) (σ : pq_S) (I : Nat → Nat → Int32) (J : Nat → Nat → Int64) (ri : Nat → Nat → Int32) (rj : Nat → Nat → Int64) (rq : Nat → Nat → Option Nat) (sz : Nat) (tg : Nat → Nat) (hSH : SH σ tg) (hG0 : GS tg σ I ri rq) (this : Nat) (a0 : Int32) (a1 : Int32) (hL_this : this ∈ σ.1) (hK_this : σ.2.1 this = 11) : MetI l yX11_months (wa yX11_months cX11_months 4 (some .int)) ({ frames := 6, cells := 0, slots := 0, locals := 166 }) [.ref this, .int a0, .int a1] D t σ (I, J, ri, rj, rq) sz 0 0 (fun (r : Int32) (u : pq_S × pq_M) => ∃ I' : Nat → Nat → Int32, ∃ J' : Nat → Nat → Int64, ∃ ri' : Nat → Nat → Int32, ∃ rj' : Nat → Nat → Int64, u = (σ, I', J', ri', rj', rq) ∧ GX [1074, 1073, 1005, 320] tg σ I ri rj I' ri' rj' rq ∧ rg r (-1) 600) := by
  refine Met.ofW (cc := cX11_months) (maxL := 4) (ret := (some .int)) (by decide) rfl ?_
  intro p e s m args below meth c s₁ B hml hv
  obtain ⟨rfl, hsz, hP, hK, hD0, hN⟩ := hv
  have hx := B.exec
  have hb := B.bytes
  have hr := B.returns
  have hts := atoms_spec (ws := (wa yX11_months cX11_months 4 (some .int))) B.pre
  have hown : s.vm.findClass RX11 = some m.cls := findClass_of_methodNamed B.named
  have hlocks := B.notSynchronized
  subst hsz
  have hD : va_D (pq_B t σ (I, J, ri, rj, rq) s.heap.size) (pq_P t σ (I, J, ri, rj, rq)) := hD0.self
  generalize hAe : pq_B t σ (I, J, ri, rj, rq) s.heap.size = A at hD ⊢
  have hA : ∀ q : Nat, s.heap.size ≤ q → A q := fun q h => by rw [← hAe]; exact Or.inr h
  have hS : va_S A s.heap s.heap [] := va_S.rf
  have hG : GX [1074, 1073, 1005, 320] tg σ I ri rj I ri rj rq := ⟨hG0, fun _ _ _ => rfl, fun _ _ _ _ _ => rfl, fun _ _ _ _ _ => rfl⟩
  have hl := lv_entry ([.ref this, .int a0, .int a1]) (n := 4) (Nat.le_of_ble_eq_true rfl)
  rw [lg_entry_eq]
  generalize (lg_sl ([.ref this, .int a0, .int a1]) ++ List.replicate (4 - (lg_sl ([.ref this, .int a0, .int a1])).length) Slot.unset).toArray = ls at hl ⊢
  have hl : lv_has ls 4 [(0, .ref this), (1, .int a0), (2, .int a1)] := hl
  refine q_gen (fun Q hQ => ?_)
  have go : ∀ (H : Heap) (locs : List Loc) (ls : Array Slot), va_P D vwCl (pq_P t σ (I, J, ri, rj, rq)) H → va_D A (pq_P t σ (I, J, ri, rj, rq)) → va_S A s.heap H locs → lv_has ls 4 [(0, .ref this), (1, .int a0), (2, .int a1)] → W p l e ({ frames := 6, cells := 0, slots := 0, locals := 166 } : Room) s m (List.toArray ([.ref this, .int a0, .int a1] : List Value)) below meth c H locs 0 0 Q (F0 m 0 ls []) := by
    intro H locs ls hP hD hS hl
    refine lv_aload_n hx hb dX11_months_0 rfl (lv_at hl 0 rfl) ?_
    refine lv_iload_n hx hb dX11_months_1 rfl (lv_at hl 2 rfl) ?_
    refine lv_iload_n hx hb dX11_months_2 rfl (lv_at hl 1 rfl) ?_
    refine lv_bipush (v := 60) hx hb dX11_months_3 (by decide) ?_
    obtain ⟨w_1, hR_w_1, hL_w_1, hK_w_1⟩ := sh_o hSH 352 (ci := 11) (kd := 10) rfl hL_this hK_this
    refine pk_i (va_runV (As := [.int a1, .int a0, .int 60]) (rest := []) ⟨hx, hb, hml, hown, hts⟩ (s_X11_canGoBy l D t σ I J ri rj rq H.size tg hSH hG.1 this a1 a0 (60 : Int32) hL_this hK_this (rg_w (rg_k (60 : Int32) 60 rfl) (by decide)) w_1 hR_w_1 hL_w_1 hK_w_1) (cwV 3 hts (tw_V tw_1035 tw_1036 tw_1037 tw_2 tw_1038) rfl rfl rfl (by decide +kernel) ⟨Nat.le_of_ble_eq_true rfl, Nat.le_of_ble_eq_true rfl⟩) ⟨pq_blind, pq_recv hK hP hL_this hK_this (by decide) rfl, pq_pre hK hN hP hD⟩ rfl rfl hl.1 rfl (lv_room (Nat.le_of_ble_eq_true rfl)) dX11_months_5 ⟨Nat.le_of_ble_eq_true rfl, Nat.le_of_ble_eq_true rfl⟩) hD hS hA (fun x_2 σ1 μ1 H locs hw_3 hP hD hS => ?_)
    obtain ⟨hu_4, hr_6⟩ := hw_3
    obtain ⟨hu_4a, hu_4b⟩ := Prod.mk.inj hu_4
    rw [hu_4a, hu_4b] at hP hD
    have h_7 : rg x_2 0 1 := by rcases hr_6 with ⟨q, -⟩ | ⟨q, -⟩ <;> rw [q] <;> exact ⟨by decide, by decide⟩
    refine lv_if_ne (tgt := 13) hx hb dX11_months_8 (by decide) (fun c_8 => ?_) (fun c_8 => ?_)
    · obtain ⟨f_9, f_10, f_11, f_12⟩ := (hr_6.resolve_right (fun q => c_8 q.1)).2
      have h_13 : rg x_2 1 1 := rg_ne c_8 h_7 0 rfl (by decide)
      refine lv_iconst (v := 0) hx hb dX11_months_13 (by decide) ?_
      refine lv_istore_n (lv' := [(3, .int 0), (0, .ref this), (1, .int a0), (2, .int a1)]) hx hb dX11_months_14 rfl hl (by decide) rfl (fun ls hl => ?_)
      have L_319 : ∀ (n_318 : Nat) (x_296 : Int32) (I_297 : Nat → Nat → Int32) (J_298 : Nat → Nat → Int64) (ri_299 : Nat → Nat → Int32) (rj_300 : Nat → Nat → Int64) (H : Heap) (locs : List Loc) (ls : Array Slot), rg x_296 0 60 → (60 - (x_296).toInt).toNat < n_318 → GX [1074, 1073, 1005, 320] tg σ I ri rj I_297 ri_299 rj_300 rq → va_P D vwCl (pq_P t σ (I_297, J_298, ri_299, rj_300, rq)) H → va_D A (pq_P t σ (I_297, J_298, ri_299, rj_300, rq)) → va_S A s.heap H locs → lv_has ls 4 [(0, .ref this), (1, .int a0), (2, .int a1), (3, .int x_296)] → W p l e ({ frames := 6, cells := 0, slots := 0, locals := 166 } : Room) s m (List.toArray ([.ref this, .int a0, .int a1] : List Value)) below meth c H locs 0 0 Q (F0 m 15 ls []) := by
        intro n_318
        induction n_318 with
        | zero => intro x_296 I_297 J_298 ri_299 rj_300 H locs ls h_322 hm_317 hG hP hD hS hl; exact absurd hm_317 (Nat.not_lt_zero _)
        | succ n_318 ih_320 =>
          intro x_296 I_297 J_298 ri_299 rj_300 H locs ls h_322 hm_317 hG hP hD hS hl
          refine lv_iload_n hx hb dX11_months_15 rfl (lv_at hl 3 rfl) ?_
          refine lv_iload_n hx hb dX11_months_16 rfl (lv_at hl 1 rfl) ?_
          refine lv_icmp_ge (tgt := 34) hx hb dX11_months_17 (by decide) (fun c_323 => ?_) (fun c_323 => ?_)
          · have h_324 : rg x_296 1 60 := rg_le2 c_323 f_10 h_322 (by decide)
            refine lv_aload_n hx hb dX11_months_34 rfl (lv_at hl 0 rfl) ?_
            refine pg_f (v := .ref w_1) (C := RX11) (T := TX11) (N := 5) hx hb hts (tw_i inlX11) hown hK hP hL_this hK_this (by decide) rfl 0 (by decide) (hts _ (tw_c tw_16)) (pq_hv rfl hR_w_1) dX11_months_35 ?_
            refine pg_f (v := .int (I_297 320 w_1)) (C := RX10) (T := TX10) (N := 13) hx hb hts (tw_i inlX10) hown hK hP hL_w_1 hK_w_1 (by decide) rfl 0 (by decide) (hts _ (tw_c tw_209)) rfl dX11_months_38 ?_
            have h_325 : rg (I_297 320 w_1) 0 600 := GX.rI hG 320 rfl
            subst hQ
            exact W.iret (v := (I_297 320 w_1)) hx hb hr (fun t1 ht hW => ⟨⟨(I_297 320 w_1), (σ, I_297, J_298, ri_299, rj_300, rq), rfl, ⟨I_297, J_298, ri_299, rj_300, rfl, hG, (rg_w h_325 (by decide))⟩, by rw [ht]; exact hP, va_K.moved hW.alike hK, hD⟩, hS.F ht⟩) hS.2.2 dX11_months_41
          · have h_326 : rg x_296 0 59 := rg_lt1 (nle c_323) h_322 f_10 (by decide)
            refine lv_aload_n hx hb dX11_months_20 rfl (lv_at hl 0 rfl) ?_
            refine pg_f (v := .ref w_1) (C := RX11) (T := TX11) (N := 5) hx hb hts (tw_i inlX11) hown hK hP hL_this hK_this (by decide) rfl 0 (by decide) (hts _ (tw_c tw_16)) (pq_hv rfl hR_w_1) dX11_months_21 ?_
            refine lv_iload_n hx hb dX11_months_24 rfl (lv_at hl 2 rfl) ?_
            refine pk_v (va_runV (As := [.int a1]) (rest := []) ⟨hx, hb, hml, hown, hts⟩ (s_X10_goBy l D t σ I_297 J_298 ri_299 rj_300 rq H.size tg hSH hG.1 w_1 a1 hL_w_1 hK_w_1) (cwV 1 hts (tw_V tw_1039 tw_1040 tw_1041 tw_15 tw_1042) rfl rfl rfl (by decide +kernel) ⟨Nat.le_of_ble_eq_true rfl, Nat.le_of_ble_eq_true rfl⟩) ⟨pq_blind, pq_recv hK hP hL_w_1 hK_w_1 (by decide) rfl, pq_pre hK hN hP hD⟩ rfl rfl hl.1 rfl (lv_room (Nat.le_of_ble_eq_true rfl)) dX11_months_25 ⟨Nat.le_of_ble_eq_true rfl, Nat.le_of_ble_eq_true rfl⟩) hD hS hA (fun σ1 μ1 H locs hw_328 hP hD hS => ?_)
            obtain ⟨I_329, J_330, ri_331, rj_332, hu_333, hg_334⟩ := hw_328
            obtain ⟨hu_333a, hu_333b⟩ := Prod.mk.inj hu_333
            rw [hu_333a, hu_333b] at hP hD
            have hG := GX.tr hG hg_334 (by decide)
            obtain ⟨x_336, ex_336⟩ : ∃ y : Int32, y = x_296 + Int32.ofInt 1 := ⟨_, rfl⟩
            have h_337 : rg x_336 1 60 := rg_of_eq ex_336 (rg_add h_326 (rg_k (Int32.ofInt 1) 1 rfl) (by decide))
            refine lv_iinc (v := x_336) (lv' := [(3, .int x_336), (0, .ref this), (1, .int a0), (2, .int a1)]) hx hb dX11_months_28 hl (k := 3) rfl ex_336.symm (by decide) rfl (fun ls hl => ?_)
            refine lv_goto (tgt := 15) hx hb dX11_months_31 (by decide) ?_
            exact ih_320 x_336 I_329 J_330 ri_331 rj_332 _ _ _ (rg_w h_337 (by decide)) (ms_up 1 hm_317 ex_336 rfl (by decide) h_326 (by decide) (by decide)) hG hP hD hS (lv_sub hl [1, 2, 3, 0] rfl)
      exact L_319 _ (0 : Int32) I J ri rj _ _ _ (rg_w (rg_k (0 : Int32) 0 rfl) (by decide)) (Nat.lt_succ_self _) hG hP hD hS (lv_sub hl [1, 2, 3, 0] rfl)
    · have f_338 := (hr_6.resolve_left (fun q => absurd (q.1.symm.trans c_8) (by decide))).2
      have h_339 : rg x_2 0 0 := rg_and h_7 (rg_of_eq c_8 (rg_k (0 : Int32) 0 rfl)) (by decide)
      refine lv_iconst (v := (-1)) hx hb dX11_months_11 (by decide) ?_
      subst hQ
      exact W.iret (v := (-1)) hx hb hr (fun t1 ht hW => ⟨⟨(-1), (σ, I, J, ri, rj, rq), rfl, ⟨I, J, ri, rj, rfl, hG, (rg_w (rg_k (-1 : Int32) (-1) rfl) (by decide))⟩, by rw [ht]; exact hP, va_K.moved hW.alike hK, hD⟩, hS.F ht⟩) hS.2.2 dX11_months_12
  exact go _ _ _ hP hD hS hl

set_option maxHeartbeats 4000000 in
set_option maxRecDepth 100000 in
theorem s_X11_sinks (l : Launch) (D : va_G) (t : pq_T) (σ : pq_S) (I : Nat → Nat → Int32) (J : Nat → Nat → Int64) (ri : Nat → Nat → Int32) (rj : Nat → Nat → Int64) (rq : Nat → Nat → Option Nat) (sz : Nat) (tg : Nat → Nat) (hSH : SH σ tg) (hG0 : GS tg σ I ri rq) (this : Nat) (a0 : Int32) (a1 : Int32) (a2 : Int32) (hL_this : this ∈ σ.1) (hK_this : σ.2.1 this = 11) : MetI l yX11_sinks (wa yX11_sinks cX11_sinks 5 (some .int)) ({ frames := 5, cells := 0, slots := 0, locals := 144 }) [.ref this, .int a0, .int a1, .int a2] D t σ (I, J, ri, rj, rq) sz 0 0 (fun (r : Int32) (u : pq_S × pq_M) => ∃ I' : Nat → Nat → Int32, ∃ J' : Nat → Nat → Int64, ∃ ri' : Nat → Nat → Int32, ∃ rj' : Nat → Nat → Int64, ∃ rq' : Nat → Nat → Option Nat, u = (σ, I', J', ri', rj', rq') ∧ GX [320, 224, 1225, 1226, 1227, 1228, 1229, 1230, 1231, 1232, 1233, 234, 235, 236, 64, 65, 1069, 1070, 1073, 1074, 1075, 1288, 1079, 0, 1005, 10, 96, 98, 32, 1033, 1034] tg σ I ri rj I' ri' rj' rq' ∧ rg r (-1) 600) := by
  refine Met.ofW (cc := cX11_sinks) (maxL := 5) (ret := (some .int)) (by decide) rfl ?_
  intro p e s m args below meth c s₁ B hml hv
  obtain ⟨rfl, hsz, hP, hK, hD0, hN⟩ := hv
  have hx := B.exec
  have hb := B.bytes
  have hr := B.returns
  have hts := atoms_spec (ws := (wa yX11_sinks cX11_sinks 5 (some .int))) B.pre
  have hown : s.vm.findClass RX11 = some m.cls := findClass_of_methodNamed B.named
  have hlocks := B.notSynchronized
  subst hsz
  have hD : va_D (pq_B t σ (I, J, ri, rj, rq) s.heap.size) (pq_P t σ (I, J, ri, rj, rq)) := hD0.self
  generalize hAe : pq_B t σ (I, J, ri, rj, rq) s.heap.size = A at hD ⊢
  have hA : ∀ q : Nat, s.heap.size ≤ q → A q := fun q h => by rw [← hAe]; exact Or.inr h
  have hS : va_S A s.heap s.heap [] := va_S.rf
  have hG : GX [320, 224, 1225, 1226, 1227, 1228, 1229, 1230, 1231, 1232, 1233, 234, 235, 236, 64, 65, 1069, 1070, 1073, 1074, 1075, 1288, 1079, 0, 1005, 10, 96, 98, 32, 1033, 1034] tg σ I ri rj I ri rj rq := ⟨hG0, fun _ _ _ => rfl, fun _ _ _ _ _ => rfl, fun _ _ _ _ _ => rfl⟩
  have hl := lv_entry ([.ref this, .int a0, .int a1, .int a2]) (n := 5) (Nat.le_of_ble_eq_true rfl)
  rw [lg_entry_eq]
  generalize (lg_sl ([.ref this, .int a0, .int a1, .int a2]) ++ List.replicate (5 - (lg_sl ([.ref this, .int a0, .int a1, .int a2])).length) Slot.unset).toArray = ls at hl ⊢
  have hl : lv_has ls 5 [(0, .ref this), (1, .int a0), (2, .int a1), (3, .int a2)] := hl
  refine q_gen (fun Q hQ => ?_)
  have go : ∀ (H : Heap) (locs : List Loc) (ls : Array Slot), va_P D vwCl (pq_P t σ (I, J, ri, rj, rq)) H → va_D A (pq_P t σ (I, J, ri, rj, rq)) → va_S A s.heap H locs → lv_has ls 5 [(0, .ref this), (1, .int a0), (2, .int a1), (3, .int a2)] → W p l e ({ frames := 5, cells := 0, slots := 0, locals := 144 } : Room) s m (List.toArray ([.ref this, .int a0, .int a1, .int a2] : List Value)) below meth c H locs 0 0 Q (F0 m 0 ls []) := by
    intro H locs ls hP hD hS hl
    obtain ⟨w_1, hR_w_1, hL_w_1, hK_w_1⟩ := sh_o hSH 352 (ci := 11) (kd := 10) rfl hL_this hK_this
    obtain ⟨w_2, hR_w_2, hL_w_2, hK_w_2⟩ := sh_o hSH 354 (ci := 11) (kd := 10) rfl hL_this hK_this
    refine lv_aload_n hx hb dX11_sinks_0 rfl (lv_at hl 0 rfl) ?_
    refine lv_iload_n hx hb dX11_sinks_1 rfl (lv_at hl 1 rfl) ?_
    refine pk_i (va_runV (As := [.int a0]) (rest := []) ⟨hx, hb, hml, hown, hts⟩ (s_X11_isCell l D t σ I J ri rj rq H.size tg hSH hG.1 this a0 hL_this hK_this) (cwV 1 hts (tw_V tw_332 tw_333 tw_334 tw_2 tw_335) rfl rfl rfl (by decide +kernel) ⟨Nat.le_of_ble_eq_true rfl, Nat.le_of_ble_eq_true rfl⟩) ⟨pq_blind, pq_recv hK hP hL_this hK_this (by decide) rfl, pq_pre hK hN hP hD⟩ rfl rfl hl.1 rfl (lv_room (Nat.le_of_ble_eq_true rfl)) dX11_sinks_2 ⟨Nat.le_of_ble_eq_true rfl, Nat.le_of_ble_eq_true rfl⟩) hD hS hA (fun x_3 σ1 μ1 H locs hw_4 hP hD hS => ?_)
    obtain ⟨hu_5, hr_7⟩ := hw_4
    obtain ⟨hu_5a, hu_5b⟩ := Prod.mk.inj hu_5
    rw [hu_5a, hu_5b] at hP hD
    have h_8 : rg x_3 0 1 := by rcases hr_7 with ⟨q, -⟩ | ⟨q, -⟩ <;> rw [q] <;> exact ⟨by decide, by decide⟩
    have uh_8 := h_8.1
    have vh_8 := h_8.2
    have K_720 : ∀  (H : Heap) (locs : List Loc) (ls : Array Slot), GX [320, 224, 1225, 1226, 1227, 1228, 1229, 1230, 1231, 1232, 1233, 234, 235, 236, 64, 65, 1069, 1070, 1073, 1074, 1075, 1288, 1079, 0, 1005, 10, 96, 98, 32, 1033, 1034] tg σ I ri rj I ri rj rq → va_P D vwCl (pq_P t σ (I, J, ri, rj, rq)) H → va_D A (pq_P t σ (I, J, ri, rj, rq)) → va_S A s.heap H locs → lv_has ls 5 [] → W p l e ({ frames := 5, cells := 0, slots := 0, locals := 144 } : Room) s m (List.toArray ([.ref this, .int a0, .int a1, .int a2] : List Value)) below meth c H locs 0 0 Q (F0 m 19 ls []) := by
      intro H locs ls hG hP hD hS hl
      refine lv_iconst (v := (-1)) hx hb dX11_sinks_19 (by decide) ?_
      subst hQ
      exact W.iret (v := (-1)) hx hb hr (fun t1 ht hW => ⟨⟨(-1), (σ, I, J, ri, rj, rq), rfl, ⟨I, J, ri, rj, rq, rfl, hG, (rg_w (rg_k (-1 : Int32) (-1) rfl) (by decide))⟩, by rw [ht]; exact hP, va_K.moved hW.alike hK, hD⟩, hS.F ht⟩) hS.2.2 dX11_sinks_20
    refine lv_if_eq (tgt := 19) hx hb dX11_sinks_5 (by decide) (fun c_721 => ?_) (fun c_721 => ?_)
    · have f_722 := (hr_7.resolve_left (fun q => absurd (q.1.symm.trans c_721) (by decide))).2
      have tc_723 : (x_3).toInt = 0 := congrArg Int32.toInt c_721
      have h_724 : rg x_3 0 0 := rg_and h_8 (rg_of_eq c_721 (rg_k (0 : Int32) 0 rfl)) (by decide)
      have uh_724 := h_724.1
      have vh_724 := h_724.2
      exact K_720 _ _ _ hG hP hD hS (lv_sub hl [] rfl)
    · have f_725 := (hr_7.resolve_right (fun q => c_721 q.1)).2
      have tc_726 : (x_3).toInt ≠ 0 := fun q => c_721 (Int32.toInt_inj.mp q)
      have h_727 : rg x_3 1 1 := rg_ne c_721 h_8 0 rfl (by decide)
      have uh_727 := h_727.1
      have vh_727 := h_727.2
      refine lv_aload_n hx hb dX11_sinks_8 rfl (lv_at hl 0 rfl) ?_
      refine lv_iload_n hx hb dX11_sinks_9 rfl (lv_at hl 2 rfl) ?_
      refine lv_iload_n hx hb dX11_sinks_10 rfl (lv_at hl 3 rfl) ?_
      refine lv_bipush (v := 60) hx hb dX11_sinks_11 (by decide) ?_
      refine pk_i (va_runV (As := [.int a1, .int a2, .int 60]) (rest := []) ⟨hx, hb, hml, hown, hts⟩ (s_X11_canGoBy l D t σ I J ri rj rq H.size tg hSH hG.1 this a1 a2 (60 : Int32) hL_this hK_this (rg_w (rg_k (60 : Int32) 60 rfl) (by decide)) w_1 hR_w_1 hL_w_1 hK_w_1) (cwV 3 hts (tw_V tw_1035 tw_1036 tw_1037 tw_2 tw_1038) rfl rfl rfl (by decide +kernel) ⟨Nat.le_of_ble_eq_true rfl, Nat.le_of_ble_eq_true rfl⟩) ⟨pq_blind, pq_recv hK hP hL_this hK_this (by decide) rfl, pq_pre hK hN hP hD⟩ rfl rfl hl.1 rfl (lv_room (Nat.le_of_ble_eq_true rfl)) dX11_sinks_13 ⟨Nat.le_of_ble_eq_true rfl, Nat.le_of_ble_eq_true rfl⟩) hD hS hA (fun x_728 σ1 μ1 H locs hw_729 hP hD hS => ?_)
      obtain ⟨hu_730, hr_732⟩ := hw_729
      obtain ⟨hu_730a, hu_730b⟩ := Prod.mk.inj hu_730
      rw [hu_730a, hu_730b] at hP hD
      have h_733 : rg x_728 0 1 := by rcases hr_732 with ⟨q, -⟩ | ⟨q, -⟩ <;> rw [q] <;> exact ⟨by decide, by decide⟩
      have uh_733 := h_733.1
      have vh_733 := h_733.2
      refine lv_if_ne (tgt := 21) hx hb dX11_sinks_16 (by decide) (fun c_734 => ?_) (fun c_734 => ?_)
      · obtain ⟨f_735, f_736, f_737, f_738⟩ := (hr_732.resolve_right (fun q => c_734 q.1)).2
        have tc_739 : (a2).toInt ≤ 60 := Int32.le_iff_toInt_le.mp f_737
        have tc_740 : (x_728).toInt ≠ 0 := fun q => c_734 (Int32.toInt_inj.mp q)
        have h_741 : rg x_728 1 1 := rg_ne c_734 h_733 0 rfl (by decide)
        have uh_741 := h_741.1
        have vh_741 := h_741.2
        refine lv_aload_n hx hb dX11_sinks_21 rfl (lv_at hl 0 rfl) ?_
        refine pg_f (v := .ref w_2) (C := RX11) (T := TX11) (N := 5) hx hb hts (tw_i inlX11) hown hK hP hL_this hK_this (by decide) rfl 2 (by decide) (hts _ (tw_c tw_18)) (pq_hv rfl hR_w_2) dX11_sinks_22 ?_
        refine lv_aload_n hx hb dX11_sinks_25 rfl (lv_at hl 0 rfl) ?_
        refine pg_f (v := .ref w_1) (C := RX11) (T := TX11) (N := 5) hx hb hts (tw_i inlX11) hown hK hP hL_this hK_this (by decide) rfl 0 (by decide) (hts _ (tw_c tw_16)) (pq_hv rfl hR_w_1) dX11_sinks_26 ?_
        refine pk_v (va_runV (As := [.ref w_1]) (rest := []) ⟨hx, hb, hml, hown, hts⟩ (s_X10_copyFrom l D t σ I J ri rj rq H.size tg hSH hG.1 w_2 w_1 hL_w_2 hK_w_2 hL_w_1 hK_w_1) (cwV 1 hts (tw_V tw_1362 tw_1363 tw_1364 tw_15 tw_1365) rfl rfl rfl (by decide +kernel) ⟨Nat.le_of_ble_eq_true rfl, Nat.le_of_ble_eq_true rfl⟩) ⟨pq_blind, pq_recv hK hP hL_w_2 hK_w_2 (by decide) rfl, pq_pre hK hN hP hD⟩ rfl rfl hl.1 rfl (lv_room (Nat.le_of_ble_eq_true rfl)) dX11_sinks_29 ⟨Nat.le_of_ble_eq_true rfl, Nat.le_of_ble_eq_true rfl⟩) hD hS hA (fun σ1 μ1 H locs hw_743 hP hD hS => ?_)
        obtain ⟨I_744, J_745, ri_746, rj_747, rq_748, hu_749, hg_750, hp_752⟩ := hw_743
        obtain ⟨hu_749a, hu_749b⟩ := Prod.mk.inj hu_749
        rw [hu_749a, hu_749b] at hP hD
        have tt_753 : (I_744 320 w_2).toInt = (I 320 w_1).toInt := congrArg Int32.toInt hp_752
        have hG := GX.tr hG hg_750 (by decide)
        refine lv_iconst (v := 0) hx hb dX11_sinks_32 (by decide) ?_
        refine lv_istore (lv' := [(4, .int 0), (0, .ref this), (1, .int a0), (2, .int a1), (3, .int a2)]) hx hb dX11_sinks_33 hl (by decide) rfl (fun ls hl => ?_)
        have L_1391 : ∀ (n_1390 : Nat) (x_1346 : Int32) (I_1347 : Nat → Nat → Int32) (J_1348 : Nat → Nat → Int64) (ri_1349 : Nat → Nat → Int32) (rj_1350 : Nat → Nat → Int64) (H : Heap) (locs : List Loc) (ls : Array Slot), rg x_1346 0 60 → ((I_1347 320 w_2).toInt = (I 320 w_1).toInt + (x_1346).toInt) → (60 - (x_1346).toInt).toNat < n_1390 → GX [320, 224, 1225, 1226, 1227, 1228, 1229, 1230, 1231, 1232, 1233, 234, 235, 236, 64, 65, 1069, 1070, 1073, 1074, 1075, 1288, 1079, 0, 1005, 10, 96, 98, 32, 1033, 1034] tg σ I ri rj I_1347 ri_1349 rj_1350 rq_748 → va_P D vwCl (pq_P t σ (I_1347, J_1348, ri_1349, rj_1350, rq_748)) H → va_D A (pq_P t σ (I_1347, J_1348, ri_1349, rj_1350, rq_748)) → va_S A s.heap H locs → lv_has ls 5 [(0, .ref this), (1, .int a0), (2, .int a1), (3, .int a2), (4, .int x_1346)] → W p l e ({ frames := 5, cells := 0, slots := 0, locals := 144 } : Room) s m (List.toArray ([.ref this, .int a0, .int a1, .int a2] : List Value)) below meth c H locs 0 0 Q (F0 m 35 ls []) := by
          intro n_1390
          induction n_1390 with
          | zero => intro x_1346 I_1347 J_1348 ri_1349 rj_1350 H locs ls h_1395 hrel_1396 hm_1389 hG hP hD hS hl; exact absurd hm_1389 (Nat.not_lt_zero _)
          | succ n_1390 ih_1392 =>
            intro x_1346 I_1347 J_1348 ri_1349 rj_1350 H locs ls h_1395 hrel_1396 hm_1389 hG hP hD hS hl
            have uh_1395 := h_1395.1
            have vh_1395 := h_1395.2
            refine lv_iload hx hb dX11_sinks_35 (lv_at hl 4 rfl) ?_
            refine lv_iload_n hx hb dX11_sinks_37 rfl (lv_at hl 3 rfl) ?_
            refine lv_icmp_ge (tgt := 90) hx hb dX11_sinks_38 (by decide) (fun c_1397 => ?_) (fun c_1397 => ?_)
            · have tc_1398 : (a2).toInt ≤ (x_1346).toInt := Int32.le_iff_toInt_le.mp c_1397
              have h_1399 : rg x_1346 1 60 := rg_le2 c_1397 f_736 h_1395 (by decide)
              have uh_1399 := h_1399.1
              have vh_1399 := h_1399.2
              refine lv_iconst (v := (-1)) hx hb dX11_sinks_90 (by decide) ?_
              subst hQ
              exact W.iret (v := (-1)) hx hb hr (fun t1 ht hW => ⟨⟨(-1), (σ, I_1347, J_1348, ri_1349, rj_1350, rq_748), rfl, ⟨I_1347, J_1348, ri_1349, rj_1350, rq_748, rfl, hG, (rg_w (rg_k (-1 : Int32) (-1) rfl) (by decide))⟩, by rw [ht]; exact hP, va_K.moved hW.alike hK, hD⟩, hS.F ht⟩) hS.2.2 dX11_sinks_91
            · have tc_1400 : (x_1346).toInt < (a2).toInt := Int32.lt_iff_toInt_lt.mp (nle c_1397)
              have h_1401 : rg x_1346 0 59 := rg_lt1 (nle c_1397) h_1395 f_736 (by decide)
              have uh_1401 := h_1401.1
              have vh_1401 := h_1401.2
              refine lv_aload_n hx hb dX11_sinks_41 rfl (lv_at hl 0 rfl) ?_
              refine pg_f (v := .ref w_2) (C := RX11) (T := TX11) (N := 5) hx hb hts (tw_i inlX11) hown hK hP hL_this hK_this (by decide) rfl 2 (by decide) (hts _ (tw_c tw_18)) (pq_hv rfl hR_w_2) dX11_sinks_42 ?_
              refine lv_iload_n hx hb dX11_sinks_45 rfl (lv_at hl 2 rfl) ?_
              refine pk_v (va_runV (As := [.int a1]) (rest := []) ⟨hx, hb, hml, hown, hts⟩ (s_X10_nature l D t σ I_1347 J_1348 ri_1349 rj_1350 rq_748 H.size tg hSH hG.1 w_2 a1 hL_w_2 hK_w_2) (cwV 1 hts (tw_V tw_1395 tw_1048 tw_1049 tw_15 tw_1050) rfl rfl rfl (by decide +kernel) ⟨Nat.le_of_ble_eq_true rfl, Nat.le_of_ble_eq_true rfl⟩) ⟨pq_blind, pq_recv hK hP hL_w_2 hK_w_2 (by decide) rfl, pq_pre hK hN hP hD⟩ rfl rfl hl.1 rfl (lv_room (Nat.le_of_ble_eq_true rfl)) dX11_sinks_46 ⟨Nat.le_of_ble_eq_true rfl, Nat.le_of_ble_eq_true rfl⟩) hD hS hA (fun σ1 μ1 H locs hw_1403 hP hD hS => ?_)
              obtain ⟨I_1404, J_1405, ri_1406, rj_1407, hu_1408, hg_1409⟩ := hw_1403
              obtain ⟨hu_1408a, hu_1408b⟩ := Prod.mk.inj hu_1408
              rw [hu_1408a, hu_1408b] at hP hD
              have hG := GX.tr hG hg_1409 (by decide)
              have tt_1411 : (I_1404 320 w_2).toInt = (I_1347 320 w_2).toInt := by rw [hg_1409.2.1 320 (by decide) (by decide)]
              refine lv_aload_n hx hb dX11_sinks_49 rfl (lv_at hl 0 rfl) ?_
              refine pg_f (v := .ref w_2) (C := RX11) (T := TX11) (N := 5) hx hb hts (tw_i inlX11) hown hK hP hL_this hK_this (by decide) rfl 2 (by decide) (hts _ (tw_c tw_18)) (pq_hv rfl hR_w_2) dX11_sinks_50 ?_
              obtain ⟨w_1412, hR_w_1412, hL_w_1412, hK_w_1412⟩ := sh_o hSH 327 (ci := 10) (kd := 2) rfl hL_w_2 hK_w_2
              refine pg_f (v := .ref w_1412) (C := RX10) (T := TX10) (N := 13) hx hb hts (tw_i inlX10) hown hK hP hL_w_2 hK_w_2 (by decide) rfl 7 (by decide) (hts _ (tw_c tw_199)) (pq_hv rfl hR_w_1412) dX11_sinks_53 ?_
              refine lv_iload_n hx hb dX11_sinks_56 rfl (lv_at hl 1 rfl) ?_
              refine pk_i (va_runV (As := [.int a0]) (rest := []) ⟨hx, hb, hml, hown, hts⟩ (s_X2_isDry l D t σ I_1404 J_1405 ri_1406 rj_1407 rq_748 H.size tg hSH hG.1 w_1412 a0 hL_w_1412 hK_w_1412) (cwV 1 hts (tw_V tw_1396 tw_555 tw_556 tw_41 tw_557) rfl rfl rfl (by decide +kernel) ⟨Nat.le_of_ble_eq_true rfl, Nat.le_of_ble_eq_true rfl⟩) ⟨pq_blind, pq_recv hK hP hL_w_1412 hK_w_1412 (by decide) rfl, pq_pre hK hN hP hD⟩ rfl rfl hl.1 rfl (lv_room (Nat.le_of_ble_eq_true rfl)) dX11_sinks_57 ⟨Nat.le_of_ble_eq_true rfl, Nat.le_of_ble_eq_true rfl⟩) hD hS hA (fun x_1413 σ1 μ1 H locs hw_1414 hP hD hS => ?_)
              obtain ⟨hu_1415, hr_1417⟩ := hw_1414
              obtain ⟨hu_1415a, hu_1415b⟩ := Prod.mk.inj hu_1415
              rw [hu_1415a, hu_1415b] at hP hD
              have h_1418 : rg x_1413 0 1 := by rcases hr_1417 with ⟨q, -⟩ | ⟨q, -⟩ <;> rw [q] <;> exact ⟨by decide, by decide⟩
              have uh_1418 := h_1418.1
              have vh_1418 := h_1418.2
              refine lv_if_ne (tgt := 71) hx hb dX11_sinks_60 (by decide) (fun c_1419 => ?_) (fun c_1419 => ?_)
              · have tc_1420 : (x_1413).toInt ≠ 0 := fun q => c_1419 (Int32.toInt_inj.mp q)
                have h_1421 : rg x_1413 1 1 := rg_ne c_1419 h_1418 0 rfl (by decide)
                have uh_1421 := h_1421.1
                have vh_1421 := h_1421.2
                refine lv_aload_n hx hb dX11_sinks_71 rfl (lv_at hl 0 rfl) ?_
                refine pg_f (v := .ref w_2) (C := RX11) (T := TX11) (N := 5) hx hb hts (tw_i inlX11) hown hK hP hL_this hK_this (by decide) rfl 2 (by decide) (hts _ (tw_c tw_18)) (pq_hv rfl hR_w_2) dX11_sinks_72 ?_
                refine lv_dup hx hb dX11_sinks_75 rfl ?_
                refine pg_f (v := .int (I_1404 320 w_2)) (C := RX10) (T := TX10) (N := 13) hx hb hts (tw_i inlX10) hown hK hP hL_w_2 hK_w_2 (by decide) rfl 0 (by decide) (hts _ (tw_c tw_209)) rfl dX11_sinks_76 ?_
                have h_1422 : rg (I_1404 320 w_2) 0 600 := GX.rI hG 320 rfl
                have uh_1422 := h_1422.1
                have vh_1422 := h_1422.2
                refine lv_iconst (v := 1) hx hb dX11_sinks_79 (by decide) ?_
                refine lv_iadd hx hb dX11_sinks_80 ?_
                refine lv_topi (fun x_1423 ex_1423 => ?_)
                have h_1424 : rg x_1423 1 601 := rg_of_eq ex_1423 (rg_add h_1422 (rg_k (1 : Int32) 1 rfl) (by decide))
                have uh_1424 := h_1424.1
                have vh_1424 := h_1424.2
                have tx_1423 : (x_1423).toInt = (I_1404 320 w_2).toInt + 1 := by rw [ex_1423]; exact i_add_rg (a2 := (I_1404 320 w_2).toInt) (b2 := 1) rfl rfl h_1422 (rg_k (1 : Int32) 1 rfl) (by decide)
                refine pp_i (v := x_1423) (ty := .int) (C := RX10) (T := TX10) (N := 13) hx hb hts (tw_i inlX10) tyX10 tyX10_ok nmX10 hown hK hP hD hS hL_w_2 hK_w_2 (by decide) rfl 0 320 (by decide) (hts _ (tw_c tw_209)) rfl (by decide +kernel) rfl rfl (Nat.le_of_ble_eq_true rfl) (ps_320 _ _ _ _ _) dX11_sinks_81 (fun I_1425 H locs eI_1425 hP hD hS => ?_)
                have h_1426 : rg x_1423 1 600 := ⟨by omega, by omega⟩
                have uh_1426 := h_1426.1
                have vh_1426 := h_1426.2
                have hG := GX.wI hG 320 rfl eI_1425 (rg_w h_1426 (by decide)) (by decide)
                have tt_1427 : (I_1425 320 w_2).toInt = (x_1423).toInt := by rw [eI_1425, pq_us]
                obtain ⟨x_1428, ex_1428⟩ : ∃ y : Int32, y = x_1346 + Int32.ofInt 1 := ⟨_, rfl⟩
                have h_1429 : rg x_1428 1 60 := rg_of_eq ex_1428 (rg_add h_1401 (rg_k (Int32.ofInt 1) 1 rfl) (by decide))
                have uh_1429 := h_1429.1
                have vh_1429 := h_1429.2
                have tx_1428 : (x_1428).toInt = (x_1346).toInt + 1 := by rw [ex_1428]; exact i_add_rg (a2 := (x_1346).toInt) (b2 := 1) rfl rfl h_1401 (rg_k (Int32.ofInt 1) 1 rfl) (by decide)
                refine lv_iinc (v := x_1428) (lv' := [(4, .int x_1428), (0, .ref this), (1, .int a0), (2, .int a1), (3, .int a2)]) hx hb dX11_sinks_84 hl (k := 4) rfl ex_1428.symm (by decide) rfl (fun ls hl => ?_)
                refine lv_goto (tgt := 35) hx hb dX11_sinks_87 (by decide) ?_
                exact ih_1392 x_1428 I_1425 J_1405 ri_1406 rj_1407 _ _ _ (rg_w h_1429 (by decide)) (by omega) (ms_up 1 hm_1389 ex_1428 rfl (by decide) h_1401 (by decide) (by decide)) hG hP hD hS (lv_sub hl [1, 2, 3, 4, 0] rfl)
              · have tc_1430 : (x_1413).toInt = 0 := congrArg Int32.toInt c_1419
                have h_1431 : rg x_1413 0 0 := rg_and h_1418 (rg_of_eq c_1419 (rg_k (0 : Int32) 0 rfl)) (by decide)
                have uh_1431 := h_1431.1
                have vh_1431 := h_1431.2
                refine lv_aload_n hx hb dX11_sinks_63 rfl (lv_at hl 0 rfl) ?_
                refine pg_f (v := .ref w_2) (C := RX11) (T := TX11) (N := 5) hx hb hts (tw_i inlX11) hown hK hP hL_this hK_this (by decide) rfl 2 (by decide) (hts _ (tw_c tw_18)) (pq_hv rfl hR_w_2) dX11_sinks_64 ?_
                refine pg_f (v := .int (I_1404 320 w_2)) (C := RX10) (T := TX10) (N := 13) hx hb hts (tw_i inlX10) hown hK hP hL_w_2 hK_w_2 (by decide) rfl 0 (by decide) (hts _ (tw_c tw_209)) rfl dX11_sinks_67 ?_
                have h_1432 : rg (I_1404 320 w_2) 0 600 := GX.rI hG 320 rfl
                have uh_1432 := h_1432.1
                have vh_1432 := h_1432.2
                subst hQ
                exact W.iret (v := (I_1404 320 w_2)) hx hb hr (fun t1 ht hW => ⟨⟨(I_1404 320 w_2), (σ, I_1404, J_1405, ri_1406, rj_1407, rq_748), rfl, ⟨I_1404, J_1405, ri_1406, rj_1407, rq_748, rfl, hG, (rg_w h_1432 (by decide))⟩, by rw [ht]; exact hP, va_K.moved hW.alike hK, hD⟩, hS.F ht⟩) hS.2.2 dX11_sinks_70
        exact L_1391 _ (0 : Int32) I_744 J_745 ri_746 rj_747 _ _ _ (rg_w (rg_k (0 : Int32) 0 rfl) (by decide)) (by have k0 : (0 : Int32).toInt = 0 := rfl; omega) (Nat.lt_succ_self _) hG hP hD hS (lv_sub hl [1, 2, 3, 4, 0] rfl)
      · have f_1433 := (hr_732.resolve_left (fun q => absurd (q.1.symm.trans c_734) (by decide))).2
        have tc_1434 : (x_728).toInt = 0 := congrArg Int32.toInt c_734
        have h_1435 : rg x_728 0 0 := rg_and h_733 (rg_of_eq c_734 (rg_k (0 : Int32) 0 rfl)) (by decide)
        have uh_1435 := h_1435.1
        have vh_1435 := h_1435.2
        exact K_720 _ _ _ hG hP hD hS (lv_sub hl [] rfl)
  exact go _ _ _ hP hD hS hl

set_option maxHeartbeats 4000000 in
set_option maxRecDepth 100000 in
theorem s_X11_cant (l : Launch) (D : va_G) (t : pq_T) (σ : pq_S) (I : Nat → Nat → Int32) (J : Nat → Nat → Int64) (ri : Nat → Nat → Int32) (rj : Nat → Nat → Int64) (rq : Nat → Nat → Option Nat) (sz : Nat) (tg : Nat → Nat) (hSH : SH σ tg) (hG0 : GS tg σ I ri rq) (this : Nat) (a0 : Int32) (a1 : Int32) (hL_this : this ∈ σ.1) (hK_this : σ.2.1 this = 11) : MetI l yX11_cant (wa yX11_cant cX11_cant 4 (some .int)) ({ frames := 5, cells := 0, slots := 0, locals := 144 }) [.ref this, .int a0, .int a1] D t σ (I, J, ri, rj, rq) sz 0 0 (fun (r : Int32) (u : pq_S × pq_M) => ∃ I' : Nat → Nat → Int32, ∃ J' : Nat → Nat → Int64, ∃ ri' : Nat → Nat → Int32, ∃ rj' : Nat → Nat → Int64, ∃ rq' : Nat → Nat → Option Nat, u = (σ, I', J', ri', rj', rq') ∧ GX [320, 224, 1225, 1226, 1227, 1228, 1229, 1230, 1231, 1232, 1233, 234, 235, 236, 64, 65, 1069, 1070, 1073, 1074, 1075, 1288, 1079, 0, 1005, 10, 96, 98, 32, 1033, 1034] tg σ I ri rj I' ri' rj' rq') := by
  refine Met.ofW (cc := cX11_cant) (maxL := 4) (ret := (some .int)) (by decide) rfl ?_
  intro p e s m args below meth c s₁ B hml hv
  obtain ⟨rfl, hsz, hP, hK, hD0, hN⟩ := hv
  have hx := B.exec
  have hb := B.bytes
  have hr := B.returns
  have hts := atoms_spec (ws := (wa yX11_cant cX11_cant 4 (some .int))) B.pre
  have hown : s.vm.findClass RX11 = some m.cls := findClass_of_methodNamed B.named
  have hlocks := B.notSynchronized
  subst hsz
  have hD : va_D (pq_B t σ (I, J, ri, rj, rq) s.heap.size) (pq_P t σ (I, J, ri, rj, rq)) := hD0.self
  generalize hAe : pq_B t σ (I, J, ri, rj, rq) s.heap.size = A at hD ⊢
  have hA : ∀ q : Nat, s.heap.size ≤ q → A q := fun q h => by rw [← hAe]; exact Or.inr h
  have hS : va_S A s.heap s.heap [] := va_S.rf
  have hG : GX [320, 224, 1225, 1226, 1227, 1228, 1229, 1230, 1231, 1232, 1233, 234, 235, 236, 64, 65, 1069, 1070, 1073, 1074, 1075, 1288, 1079, 0, 1005, 10, 96, 98, 32, 1033, 1034] tg σ I ri rj I ri rj rq := ⟨hG0, fun _ _ _ => rfl, fun _ _ _ _ _ => rfl, fun _ _ _ _ _ => rfl⟩
  have hl := lv_entry ([.ref this, .int a0, .int a1]) (n := 4) (Nat.le_of_ble_eq_true rfl)
  rw [lg_entry_eq]
  generalize (lg_sl ([.ref this, .int a0, .int a1]) ++ List.replicate (4 - (lg_sl ([.ref this, .int a0, .int a1])).length) Slot.unset).toArray = ls at hl ⊢
  have hl : lv_has ls 4 [(0, .ref this), (1, .int a0), (2, .int a1)] := hl
  refine q_gen (fun Q hQ => ?_)
  have go : ∀ (H : Heap) (locs : List Loc) (ls : Array Slot), va_P D vwCl (pq_P t σ (I, J, ri, rj, rq)) H → va_D A (pq_P t σ (I, J, ri, rj, rq)) → va_S A s.heap H locs → lv_has ls 4 [(0, .ref this), (1, .int a0), (2, .int a1)] → W p l e ({ frames := 5, cells := 0, slots := 0, locals := 144 } : Room) s m (List.toArray ([.ref this, .int a0, .int a1] : List Value)) below meth c H locs 0 0 Q (F0 m 0 ls []) := by
    intro H locs ls hP hD hS hl
    obtain ⟨w_1, hR_w_1, hL_w_1, hK_w_1⟩ := sh_o hSH 352 (ci := 11) (kd := 10) rfl hL_this hK_this
    obtain ⟨w_2, hR_w_2, hL_w_2, hK_w_2⟩ := sh_o hSH 354 (ci := 11) (kd := 10) rfl hL_this hK_this
    refine lv_aload_n hx hb dX11_cant_0 rfl (lv_at hl 0 rfl) ?_
    refine lv_iload_n hx hb dX11_cant_1 rfl (lv_at hl 1 rfl) ?_
    refine lv_iload_n hx hb dX11_cant_2 rfl (lv_at hl 2 rfl) ?_
    refine lv_bipush (v := 60) hx hb dX11_cant_3 (by decide) ?_
    refine pk_i (va_runV (As := [.int a0, .int a1, .int 60]) (rest := []) ⟨hx, hb, hml, hown, hts⟩ (s_X11_canGoBy l D t σ I J ri rj rq H.size tg hSH hG.1 this a0 a1 (60 : Int32) hL_this hK_this (rg_w (rg_k (60 : Int32) 60 rfl) (by decide)) w_1 hR_w_1 hL_w_1 hK_w_1) (cwV 3 hts (tw_V tw_1035 tw_1036 tw_1037 tw_2 tw_1038) rfl rfl rfl (by decide +kernel) ⟨Nat.le_of_ble_eq_true rfl, Nat.le_of_ble_eq_true rfl⟩) ⟨pq_blind, pq_recv hK hP hL_this hK_this (by decide) rfl, pq_pre hK hN hP hD⟩ rfl rfl hl.1 rfl (lv_room (Nat.le_of_ble_eq_true rfl)) dX11_cant_5 ⟨Nat.le_of_ble_eq_true rfl, Nat.le_of_ble_eq_true rfl⟩) hD hS hA (fun x_3 σ1 μ1 H locs hw_4 hP hD hS => ?_)
    obtain ⟨hu_5, hr_7⟩ := hw_4
    obtain ⟨hu_5a, hu_5b⟩ := Prod.mk.inj hu_5
    rw [hu_5a, hu_5b] at hP hD
    have h_8 : rg x_3 0 1 := by rcases hr_7 with ⟨q, -⟩ | ⟨q, -⟩ <;> rw [q] <;> exact ⟨by decide, by decide⟩
    have uh_8 := h_8.1
    have vh_8 := h_8.2
    refine lv_if_ne (tgt := 13) hx hb dX11_cant_8 (by decide) (fun c_9 => ?_) (fun c_9 => ?_)
    · obtain ⟨f_10, f_11, f_12, f_13⟩ := (hr_7.resolve_right (fun q => c_9 q.1)).2
      have tc_14 : (a1).toInt ≤ 60 := Int32.le_iff_toInt_le.mp f_12
      have tc_15 : (x_3).toInt ≠ 0 := fun q => c_9 (Int32.toInt_inj.mp q)
      have h_16 : rg x_3 1 1 := rg_ne c_9 h_8 0 rfl (by decide)
      have uh_16 := h_16.1
      have vh_16 := h_16.2
      refine lv_aload_n hx hb dX11_cant_13 rfl (lv_at hl 0 rfl) ?_
      refine pg_f (v := .ref w_2) (C := RX11) (T := TX11) (N := 5) hx hb hts (tw_i inlX11) hown hK hP hL_this hK_this (by decide) rfl 2 (by decide) (hts _ (tw_c tw_18)) (pq_hv rfl hR_w_2) dX11_cant_14 ?_
      refine lv_aload_n hx hb dX11_cant_17 rfl (lv_at hl 0 rfl) ?_
      refine pg_f (v := .ref w_1) (C := RX11) (T := TX11) (N := 5) hx hb hts (tw_i inlX11) hown hK hP hL_this hK_this (by decide) rfl 0 (by decide) (hts _ (tw_c tw_16)) (pq_hv rfl hR_w_1) dX11_cant_18 ?_
      refine pk_v (va_runV (As := [.ref w_1]) (rest := []) ⟨hx, hb, hml, hown, hts⟩ (s_X10_copyFrom l D t σ I J ri rj rq H.size tg hSH hG.1 w_2 w_1 hL_w_2 hK_w_2 hL_w_1 hK_w_1) (cwV 1 hts (tw_V tw_1362 tw_1363 tw_1364 tw_15 tw_1365) rfl rfl rfl (by decide +kernel) ⟨Nat.le_of_ble_eq_true rfl, Nat.le_of_ble_eq_true rfl⟩) ⟨pq_blind, pq_recv hK hP hL_w_2 hK_w_2 (by decide) rfl, pq_pre hK hN hP hD⟩ rfl rfl hl.1 rfl (lv_room (Nat.le_of_ble_eq_true rfl)) dX11_cant_21 ⟨Nat.le_of_ble_eq_true rfl, Nat.le_of_ble_eq_true rfl⟩) hD hS hA (fun σ1 μ1 H locs hw_18 hP hD hS => ?_)
      obtain ⟨I_19, J_20, ri_21, rj_22, rq_23, hu_24, hg_25, hp_27⟩ := hw_18
      obtain ⟨hu_24a, hu_24b⟩ := Prod.mk.inj hu_24
      rw [hu_24a, hu_24b] at hP hD
      have tt_28 : (I_19 320 w_2).toInt = (I 320 w_1).toInt := congrArg Int32.toInt hp_27
      have hG := GX.tr hG hg_25 (by decide)
      refine lv_aload_n hx hb dX11_cant_24 rfl (lv_at hl 0 rfl) ?_
      refine pg_f (v := .ref w_2) (C := RX11) (T := TX11) (N := 5) hx hb hts (tw_i inlX11) hown hK hP hL_this hK_this (by decide) rfl 2 (by decide) (hts _ (tw_c tw_18)) (pq_hv rfl hR_w_2) dX11_cant_25 ?_
      refine lv_iconst (v := (-1)) hx hb dX11_cant_28 (by decide) ?_
      refine pp_i (v := (-1)) (ty := .int) (C := RX10) (T := TX10) (N := 13) hx hb hts (tw_i inlX10) tyX10 tyX10_ok nmX10 hown hK hP hD hS hL_w_2 hK_w_2 (by decide) rfl 3 323 (by decide) (hts _ (tw_c tw_1405)) rfl (by decide +kernel) rfl rfl (Nat.le_of_ble_eq_true rfl) (ps_323 _ _ _ _ _) dX11_cant_29 (fun I_29 H locs eI_29 hP hD hS => ?_)
      have hG := GX.wI hG 323 rfl eI_29 (rg_w (rg_k (-1 : Int32) (-1) rfl) (by decide)) (by decide)
      have tt_30 : (I_29 320 w_2).toInt = (I_19 320 w_2).toInt := by rw [eI_29, pq_uf _ _ _ (by decide)]
      refine lv_iconst (v := 0) hx hb dX11_cant_32 (by decide) ?_
      refine lv_istore_n (lv' := [(3, .int 0), (0, .ref this), (1, .int a0), (2, .int a1)]) hx hb dX11_cant_33 rfl hl (by decide) rfl (fun ls hl => ?_)
      have L_653 : ∀ (n_652 : Nat) (x_609 : Int32) (I_610 : Nat → Nat → Int32) (J_611 : Nat → Nat → Int64) (ri_612 : Nat → Nat → Int32) (rj_613 : Nat → Nat → Int64) (H : Heap) (locs : List Loc) (ls : Array Slot), rg x_609 0 60 → ((I_610 320 w_2).toInt = (I 320 w_1).toInt + (x_609).toInt) → (60 - (x_609).toInt).toNat < n_652 → GX [320, 224, 1225, 1226, 1227, 1228, 1229, 1230, 1231, 1232, 1233, 234, 235, 236, 64, 65, 1069, 1070, 1073, 1074, 1075, 1288, 1079, 0, 1005, 10, 96, 98, 32, 1033, 1034] tg σ I ri rj I_610 ri_612 rj_613 rq_23 → va_P D vwCl (pq_P t σ (I_610, J_611, ri_612, rj_613, rq_23)) H → va_D A (pq_P t σ (I_610, J_611, ri_612, rj_613, rq_23)) → va_S A s.heap H locs → lv_has ls 4 [(0, .ref this), (1, .int a0), (2, .int a1), (3, .int x_609)] → W p l e ({ frames := 5, cells := 0, slots := 0, locals := 144 } : Room) s m (List.toArray ([.ref this, .int a0, .int a1] : List Value)) below meth c H locs 0 0 Q (F0 m 34 ls []) := by
        intro n_652
        induction n_652 with
        | zero => intro x_609 I_610 J_611 ri_612 rj_613 H locs ls h_657 hrel_658 hm_651 hG hP hD hS hl; exact absurd hm_651 (Nat.not_lt_zero _)
        | succ n_652 ih_654 =>
          intro x_609 I_610 J_611 ri_612 rj_613 H locs ls h_657 hrel_658 hm_651 hG hP hD hS hl
          have uh_657 := h_657.1
          have vh_657 := h_657.2
          refine lv_iload_n hx hb dX11_cant_34 rfl (lv_at hl 3 rfl) ?_
          refine lv_iload_n hx hb dX11_cant_35 rfl (lv_at hl 2 rfl) ?_
          have K_694 : ∀  (H : Heap) (locs : List Loc) (ls : Array Slot), GX [320, 224, 1225, 1226, 1227, 1228, 1229, 1230, 1231, 1232, 1233, 234, 235, 236, 64, 65, 1069, 1070, 1073, 1074, 1075, 1288, 1079, 0, 1005, 10, 96, 98, 32, 1033, 1034] tg σ I ri rj I_610 ri_612 rj_613 rq_23 → va_P D vwCl (pq_P t σ (I_610, J_611, ri_612, rj_613, rq_23)) H → va_D A (pq_P t σ (I_610, J_611, ri_612, rj_613, rq_23)) → va_S A s.heap H locs → lv_has ls 4 [(0, .ref this)] → W p l e ({ frames := 5, cells := 0, slots := 0, locals := 144 } : Room) s m (List.toArray ([.ref this, .int a0, .int a1] : List Value)) below meth c H locs 0 0 Q (F0 m 84 ls []) := by
            intro H locs ls hG hP hD hS hl
            refine lv_aload_n hx hb dX11_cant_84 rfl (lv_at hl 0 rfl) ?_
            refine pg_f (v := .ref w_2) (C := RX11) (T := TX11) (N := 5) hx hb hts (tw_i inlX11) hown hK hP hL_this hK_this (by decide) rfl 2 (by decide) (hts _ (tw_c tw_18)) (pq_hv rfl hR_w_2) dX11_cant_85 ?_
            refine pg_f (v := .int (I_610 323 w_2)) (C := RX10) (T := TX10) (N := 13) hx hb hts (tw_i inlX10) hown hK hP hL_w_2 hK_w_2 (by decide) rfl 3 (by decide) (hts _ (tw_c tw_1405)) rfl dX11_cant_88 ?_
            subst hQ
            exact W.iret (v := (I_610 323 w_2)) hx hb hr (fun t1 ht hW => ⟨⟨(I_610 323 w_2), (σ, I_610, J_611, ri_612, rj_613, rq_23), rfl, ⟨I_610, J_611, ri_612, rj_613, rq_23, rfl, hG⟩, by rw [ht]; exact hP, va_K.moved hW.alike hK, hD⟩, hS.F ht⟩) hS.2.2 dX11_cant_91
          refine lv_icmp_ge (tgt := 84) hx hb dX11_cant_36 (by decide) (fun c_695 => ?_) (fun c_695 => ?_)
          · have tc_696 : (a1).toInt ≤ (x_609).toInt := Int32.le_iff_toInt_le.mp c_695
            have h_697 : rg x_609 1 60 := rg_le2 c_695 f_11 h_657 (by decide)
            have uh_697 := h_697.1
            have vh_697 := h_697.2
            exact K_694 _ _ _ hG hP hD hS (lv_sub hl [0] rfl)
          · have tc_698 : (x_609).toInt < (a1).toInt := Int32.lt_iff_toInt_lt.mp (nle c_695)
            have h_699 : rg x_609 0 59 := rg_lt1 (nle c_695) h_657 f_11 (by decide)
            have uh_699 := h_699.1
            have vh_699 := h_699.2
            refine lv_aload_n hx hb dX11_cant_39 rfl (lv_at hl 0 rfl) ?_
            refine pg_f (v := .ref w_2) (C := RX11) (T := TX11) (N := 5) hx hb hts (tw_i inlX11) hown hK hP hL_this hK_this (by decide) rfl 2 (by decide) (hts _ (tw_c tw_18)) (pq_hv rfl hR_w_2) dX11_cant_40 ?_
            refine pg_f (v := .int (I_610 323 w_2)) (C := RX10) (T := TX10) (N := 13) hx hb hts (tw_i inlX10) hown hK hP hL_w_2 hK_w_2 (by decide) rfl 3 (by decide) (hts _ (tw_c tw_1405)) rfl dX11_cant_43 ?_
            refine lv_iconst (v := (-1)) hx hb dX11_cant_46 (by decide) ?_
            refine lv_icmp_ne (tgt := 84) hx hb dX11_cant_47 (by decide) (fun c_700 => ?_) (fun c_700 => ?_)
            · have tc_701 : (I_610 323 w_2).toInt ≠ (-1) := fun q => c_700 (Int32.toInt_inj.mp q)
              exact K_694 _ _ _ hG hP hD hS (lv_sub hl [0] rfl)
            · have tc_702 : (I_610 323 w_2).toInt = (-1) := congrArg Int32.toInt c_700
              have h_703 : rg (I_610 323 w_2) (-1) (-1) := rg_and (rg_full _) (rg_of_eq c_700 (rg_k (-1 : Int32) (-1) rfl)) (by decide)
              have uh_703 := h_703.1
              have vh_703 := h_703.2
              refine lv_aload_n hx hb dX11_cant_50 rfl (lv_at hl 0 rfl) ?_
              refine pg_f (v := .ref w_2) (C := RX11) (T := TX11) (N := 5) hx hb hts (tw_i inlX11) hown hK hP hL_this hK_this (by decide) rfl 2 (by decide) (hts _ (tw_c tw_18)) (pq_hv rfl hR_w_2) dX11_cant_51 ?_
              refine lv_iload_n hx hb dX11_cant_54 rfl (lv_at hl 1 rfl) ?_
              refine pk_v (va_runV (As := [.int a0]) (rest := []) ⟨hx, hb, hml, hown, hts⟩ (s_X10_nature l D t σ I_610 J_611 ri_612 rj_613 rq_23 H.size tg hSH hG.1 w_2 a0 hL_w_2 hK_w_2) (cwV 1 hts (tw_V tw_1395 tw_1048 tw_1049 tw_15 tw_1050) rfl rfl rfl (by decide +kernel) ⟨Nat.le_of_ble_eq_true rfl, Nat.le_of_ble_eq_true rfl⟩) ⟨pq_blind, pq_recv hK hP hL_w_2 hK_w_2 (by decide) rfl, pq_pre hK hN hP hD⟩ rfl rfl hl.1 rfl (lv_room (Nat.le_of_ble_eq_true rfl)) dX11_cant_55 ⟨Nat.le_of_ble_eq_true rfl, Nat.le_of_ble_eq_true rfl⟩) hD hS hA (fun σ1 μ1 H locs hw_705 hP hD hS => ?_)
              obtain ⟨I_706, J_707, ri_708, rj_709, hu_710, hg_711⟩ := hw_705
              obtain ⟨hu_710a, hu_710b⟩ := Prod.mk.inj hu_710
              rw [hu_710a, hu_710b] at hP hD
              have hG := GX.tr hG hg_711 (by decide)
              have tt_713 : (I_706 320 w_2).toInt = (I_610 320 w_2).toInt := by rw [hg_711.2.1 320 (by decide) (by decide)]
              refine lv_aload_n hx hb dX11_cant_58 rfl (lv_at hl 0 rfl) ?_
              refine pg_f (v := .ref w_2) (C := RX11) (T := TX11) (N := 5) hx hb hts (tw_i inlX11) hown hK hP hL_this hK_this (by decide) rfl 2 (by decide) (hts _ (tw_c tw_18)) (pq_hv rfl hR_w_2) dX11_cant_59 ?_
              refine pk_v (va_runV (As := []) (rest := []) ⟨hx, hb, hml, hown, hts⟩ (s_X10_reckon l D t σ I_706 J_707 ri_708 rj_709 rq_23 H.size tg hSH hG.1 w_2 hL_w_2 hK_w_2) (cwV 0 hts (tw_V tw_1406 tw_1126 tw_1127 tw_15 tw_1128) rfl rfl rfl (by decide +kernel) ⟨Nat.le_of_ble_eq_true rfl, Nat.le_of_ble_eq_true rfl⟩) ⟨pq_blind, pq_recv hK hP hL_w_2 hK_w_2 (by decide) rfl, pq_pre hK hN hP hD⟩ rfl rfl hl.1 rfl (lv_room (Nat.le_of_ble_eq_true rfl)) dX11_cant_62 ⟨Nat.le_of_ble_eq_true rfl, Nat.le_of_ble_eq_true rfl⟩) hD hS hA (fun σ1 μ1 H locs hw_715 hP hD hS => ?_)
              obtain ⟨I_716, ri_717, hu_718, hg_719⟩ := hw_715
              obtain ⟨hu_718a, hu_718b⟩ := Prod.mk.inj hu_718
              rw [hu_718a, hu_718b] at hP hD
              have hG := GX.tr hG hg_719 (by decide)
              have tt_721 : (I_716 320 w_2).toInt = (I_706 320 w_2).toInt := by rw [hg_719.2.1 320 (by decide) (by decide)]
              refine lv_aload_n hx hb dX11_cant_65 rfl (lv_at hl 0 rfl) ?_
              refine pg_f (v := .ref w_2) (C := RX11) (T := TX11) (N := 5) hx hb hts (tw_i inlX11) hown hK hP hL_this hK_this (by decide) rfl 2 (by decide) (hts _ (tw_c tw_18)) (pq_hv rfl hR_w_2) dX11_cant_66 ?_
              refine lv_dup hx hb dX11_cant_69 rfl ?_
              refine pg_f (v := .int (I_716 320 w_2)) (C := RX10) (T := TX10) (N := 13) hx hb hts (tw_i inlX10) hown hK hP hL_w_2 hK_w_2 (by decide) rfl 0 (by decide) (hts _ (tw_c tw_209)) rfl dX11_cant_70 ?_
              have h_722 : rg (I_716 320 w_2) 0 600 := GX.rI hG 320 rfl
              have uh_722 := h_722.1
              have vh_722 := h_722.2
              refine lv_iconst (v := 1) hx hb dX11_cant_73 (by decide) ?_
              refine lv_iadd hx hb dX11_cant_74 ?_
              refine lv_topi (fun x_723 ex_723 => ?_)
              have h_724 : rg x_723 1 601 := rg_of_eq ex_723 (rg_add h_722 (rg_k (1 : Int32) 1 rfl) (by decide))
              have uh_724 := h_724.1
              have vh_724 := h_724.2
              have tx_723 : (x_723).toInt = (I_716 320 w_2).toInt + 1 := by rw [ex_723]; exact i_add_rg (a2 := (I_716 320 w_2).toInt) (b2 := 1) rfl rfl h_722 (rg_k (1 : Int32) 1 rfl) (by decide)
              refine pp_i (v := x_723) (ty := .int) (C := RX10) (T := TX10) (N := 13) hx hb hts (tw_i inlX10) tyX10 tyX10_ok nmX10 hown hK hP hD hS hL_w_2 hK_w_2 (by decide) rfl 0 320 (by decide) (hts _ (tw_c tw_209)) rfl (by decide +kernel) rfl rfl (Nat.le_of_ble_eq_true rfl) (ps_320 _ _ _ _ _) dX11_cant_75 (fun I_725 H locs eI_725 hP hD hS => ?_)
              have h_726 : rg x_723 1 600 := ⟨by omega, by omega⟩
              have uh_726 := h_726.1
              have vh_726 := h_726.2
              have hG := GX.wI hG 320 rfl eI_725 (rg_w h_726 (by decide)) (by decide)
              have tt_727 : (I_725 320 w_2).toInt = (x_723).toInt := by rw [eI_725, pq_us]
              obtain ⟨x_728, ex_728⟩ : ∃ y : Int32, y = x_609 + Int32.ofInt 1 := ⟨_, rfl⟩
              have h_729 : rg x_728 1 60 := rg_of_eq ex_728 (rg_add h_699 (rg_k (Int32.ofInt 1) 1 rfl) (by decide))
              have uh_729 := h_729.1
              have vh_729 := h_729.2
              have tx_728 : (x_728).toInt = (x_609).toInt + 1 := by rw [ex_728]; exact i_add_rg (a2 := (x_609).toInt) (b2 := 1) rfl rfl h_699 (rg_k (Int32.ofInt 1) 1 rfl) (by decide)
              refine lv_iinc (v := x_728) (lv' := [(3, .int x_728), (0, .ref this), (1, .int a0), (2, .int a1)]) hx hb dX11_cant_78 hl (k := 3) rfl ex_728.symm (by decide) rfl (fun ls hl => ?_)
              refine lv_goto (tgt := 34) hx hb dX11_cant_81 (by decide) ?_
              exact ih_654 x_728 I_725 J_707 ri_717 rj_709 _ _ _ (rg_w h_729 (by decide)) (by omega) (ms_up 1 hm_651 ex_728 rfl (by decide) h_699 (by decide) (by decide)) hG hP hD hS (lv_sub hl [1, 2, 3, 0] rfl)
      exact L_653 _ (0 : Int32) I_29 J_20 ri_21 rj_22 _ _ _ (rg_w (rg_k (0 : Int32) 0 rfl) (by decide)) (by have k0 : (0 : Int32).toInt = 0 := rfl; omega) (Nat.lt_succ_self _) hG hP hD hS (lv_sub hl [1, 2, 3, 0] rfl)
    · have f_730 := (hr_7.resolve_left (fun q => absurd (q.1.symm.trans c_9) (by decide))).2
      have tc_731 : (x_3).toInt = 0 := congrArg Int32.toInt c_9
      have h_732 : rg x_3 0 0 := rg_and h_8 (rg_of_eq c_9 (rg_k (0 : Int32) 0 rfl)) (by decide)
      have uh_732 := h_732.1
      have vh_732 := h_732.2
      refine lv_iconst (v := (-1)) hx hb dX11_cant_11 (by decide) ?_
      subst hQ
      exact W.iret (v := (-1)) hx hb hr (fun t1 ht hW => ⟨⟨(-1), (σ, I, J, ri, rj, rq), rfl, ⟨I, J, ri, rj, rq, rfl, hG⟩, by rw [ht]; exact hP, va_K.moved hW.alike hK, hD⟩, hS.F ht⟩) hS.2.2 dX11_cant_12
  exact go _ _ _ hP hD hS hl

set_option maxHeartbeats 4000000 in
set_option maxRecDepth 100000 in
theorem s_X11_keeps (l : Launch) (D : va_G) (t : pq_T) (σ : pq_S) (I : Nat → Nat → Int32) (J : Nat → Nat → Int64) (ri : Nat → Nat → Int32) (rj : Nat → Nat → Int64) (rq : Nat → Nat → Option Nat) (sz : Nat) (tg : Nat → Nat) (hSH : SH σ tg) (hG0 : GS tg σ I ri rq) (this : Nat) (a0 : Int32) (a1 : Int32) (a2 : Int32) (a3 : Int32) (hL_this : this ∈ σ.1) (hK_this : σ.2.1 this = 11) : MetI l yX11_keeps (wa yX11_keeps cX11_keeps 7 (some .int)) ({ frames := 5, cells := 0, slots := 0, locals := 144 }) [.ref this, .int a0, .int a1, .int a2, .int a3] D t σ (I, J, ri, rj, rq) sz 0 0 (fun (r : Int32) (u : pq_S × pq_M) => ∃ I' : Nat → Nat → Int32, ∃ J' : Nat → Nat → Int64, ∃ ri' : Nat → Nat → Int32, ∃ rj' : Nat → Nat → Int64, ∃ rq' : Nat → Nat → Option Nat, u = (σ, I', J', ri', rj', rq') ∧ GX [320, 224, 1225, 1226, 1227, 1228, 1229, 1230, 1231, 1232, 1233, 234, 235, 236, 64, 65, 1069, 1070, 1073, 1074, 1075, 1288, 1079, 0, 1005, 10, 96, 98, 32, 1033, 1034] tg σ I ri rj I' ri' rj' rq') := by
  refine Met.ofW (cc := cX11_keeps) (maxL := 7) (ret := (some .int)) (by decide) rfl ?_
  intro p e s m args below meth c s₁ B hml hv
  obtain ⟨rfl, hsz, hP, hK, hD0, hN⟩ := hv
  have hx := B.exec
  have hb := B.bytes
  have hr := B.returns
  have hts := atoms_spec (ws := (wa yX11_keeps cX11_keeps 7 (some .int))) B.pre
  have hown : s.vm.findClass RX11 = some m.cls := findClass_of_methodNamed B.named
  have hlocks := B.notSynchronized
  subst hsz
  have hD : va_D (pq_B t σ (I, J, ri, rj, rq) s.heap.size) (pq_P t σ (I, J, ri, rj, rq)) := hD0.self
  generalize hAe : pq_B t σ (I, J, ri, rj, rq) s.heap.size = A at hD ⊢
  have hA : ∀ q : Nat, s.heap.size ≤ q → A q := fun q h => by rw [← hAe]; exact Or.inr h
  have hS : va_S A s.heap s.heap [] := va_S.rf
  have hG : GX [320, 224, 1225, 1226, 1227, 1228, 1229, 1230, 1231, 1232, 1233, 234, 235, 236, 64, 65, 1069, 1070, 1073, 1074, 1075, 1288, 1079, 0, 1005, 10, 96, 98, 32, 1033, 1034] tg σ I ri rj I ri rj rq := ⟨hG0, fun _ _ _ => rfl, fun _ _ _ _ _ => rfl, fun _ _ _ _ _ => rfl⟩
  have hl := lv_entry ([.ref this, .int a0, .int a1, .int a2, .int a3]) (n := 7) (Nat.le_of_ble_eq_true rfl)
  rw [lg_entry_eq]
  generalize (lg_sl ([.ref this, .int a0, .int a1, .int a2, .int a3]) ++ List.replicate (7 - (lg_sl ([.ref this, .int a0, .int a1, .int a2, .int a3])).length) Slot.unset).toArray = ls at hl ⊢
  have hl : lv_has ls 7 [(0, .ref this), (1, .int a0), (2, .int a1), (3, .int a2), (4, .int a3)] := hl
  refine q_gen (fun Q hQ => ?_)
  have go : ∀ (H : Heap) (locs : List Loc) (ls : Array Slot), va_P D vwCl (pq_P t σ (I, J, ri, rj, rq)) H → va_D A (pq_P t σ (I, J, ri, rj, rq)) → va_S A s.heap H locs → lv_has ls 7 [(0, .ref this), (1, .int a0), (2, .int a1), (3, .int a2), (4, .int a3)] → W p l e ({ frames := 5, cells := 0, slots := 0, locals := 144 } : Room) s m (List.toArray ([.ref this, .int a0, .int a1, .int a2, .int a3] : List Value)) below meth c H locs 0 0 Q (F0 m 0 ls []) := by
    intro H locs ls hP hD hS hl
    refine lv_aload_n hx hb dX11_keeps_0 rfl (lv_at hl 0 rfl) ?_
    refine lv_iload_n hx hb dX11_keeps_1 rfl (lv_at hl 1 rfl) ?_
    refine pk_i (va_runV (As := [.int a0]) (rest := []) ⟨hx, hb, hml, hown, hts⟩ (s_X11_isCell l D t σ I J ri rj rq H.size tg hSH hG.1 this a0 hL_this hK_this) (cwV 1 hts (tw_V tw_332 tw_333 tw_334 tw_2 tw_335) rfl rfl rfl (by decide +kernel) ⟨Nat.le_of_ble_eq_true rfl, Nat.le_of_ble_eq_true rfl⟩) ⟨pq_blind, pq_recv hK hP hL_this hK_this (by decide) rfl, pq_pre hK hN hP hD⟩ rfl rfl hl.1 rfl (lv_room (Nat.le_of_ble_eq_true rfl)) dX11_keeps_2 ⟨Nat.le_of_ble_eq_true rfl, Nat.le_of_ble_eq_true rfl⟩) hD hS hA (fun x_1 σ1 μ1 H locs hw_2 hP hD hS => ?_)
    obtain ⟨hu_3, hr_5⟩ := hw_2
    obtain ⟨hu_3a, hu_3b⟩ := Prod.mk.inj hu_3
    rw [hu_3a, hu_3b] at hP hD
    have h_6 : rg x_1 0 1 := by rcases hr_5 with ⟨q, -⟩ | ⟨q, -⟩ <;> rw [q] <;> exact ⟨by decide, by decide⟩
    have K_92 : ∀  (H : Heap) (locs : List Loc) (ls : Array Slot), rg (a0) 0 39 → rg (a1) 0 39 → rg (a2) 0 2 → rg (a3) 1 60 → rg (x_1) 1 1 → GX [320, 224, 1225, 1226, 1227, 1228, 1229, 1230, 1231, 1232, 1233, 234, 235, 236, 64, 65, 1069, 1070, 1073, 1074, 1075, 1288, 1079, 0, 1005, 10, 96, 98, 32, 1033, 1034] tg σ I ri rj I ri rj rq → va_P D vwCl (pq_P t σ (I, J, ri, rj, rq)) H → va_D A (pq_P t σ (I, J, ri, rj, rq)) → va_S A s.heap H locs → lv_has ls 7 [(0, .ref this), (1, .int a0), (2, .int a1), (4, .int a3)] → W p l e ({ frames := 5, cells := 0, slots := 0, locals := 144 } : Room) s m (List.toArray ([.ref this, .int a0, .int a1, .int a2, .int a3] : List Value)) below meth c H locs 0 0 Q (F0 m 33 ls [.int 1]) := by
      intro H locs ls h_98 h_99 h_100 h_101 h_102 hG hP hD hS hl
      refine lv_istore (lv' := [(5, .int 1), (0, .ref this), (1, .int a0), (2, .int a1), (4, .int a3)]) hx hb dX11_keeps_33 hl (by decide) rfl (fun ls hl => ?_)
      refine lv_iload hx hb dX11_keeps_35 (lv_at hl 0 rfl) ?_
      have K_151 : ∀  (H : Heap) (locs : List Loc) (ls : Array Slot), GX [320, 224, 1225, 1226, 1227, 1228, 1229, 1230, 1231, 1232, 1233, 234, 235, 236, 64, 65, 1069, 1070, 1073, 1074, 1075, 1288, 1079, 0, 1005, 10, 96, 98, 32, 1033, 1034] tg σ I ri rj I ri rj rq → va_P D vwCl (pq_P t σ (I, J, ri, rj, rq)) H → va_D A (pq_P t σ (I, J, ri, rj, rq)) → va_S A s.heap H locs → lv_has ls 7 [] → W p l e ({ frames := 5, cells := 0, slots := 0, locals := 144 } : Room) s m (List.toArray ([.ref this, .int a0, .int a1, .int a2, .int a3] : List Value)) below meth c H locs 0 0 Q (F0 m 55 ls []) := by
        intro H locs ls hG hP hD hS hl
        refine lv_ldc hx hb hown (hts _ (tw_c tw_269)) dX11_keeps_55 ?_
        subst hQ
        exact W.iret (v := (-1000000)) hx hb hr (fun t1 ht hW => ⟨⟨(-1000000), (σ, I, J, ri, rj, rq), rfl, ⟨I, J, ri, rj, rq, rfl, hG⟩, by rw [ht]; exact hP, va_K.moved hW.alike hK, hD⟩, hS.F ht⟩) hS.2.2 dX11_keeps_57
      refine lv_if_eq (tgt := 55) hx hb dX11_keeps_37 (by decide) (fun c_152 => absurd c_152 (by decide)) (fun c_152 => ?_)
      refine lv_aload_n hx hb dX11_keeps_40 rfl (lv_at hl 1 rfl) ?_
      obtain ⟨w_153, hR_w_153, hL_w_153, hK_w_153⟩ := sh_o hSH 352 (ci := 11) (kd := 10) rfl hL_this hK_this
      refine pg_f (v := .ref w_153) (C := RX11) (T := TX11) (N := 5) hx hb hts (tw_i inlX11) hown hK hP hL_this hK_this (by decide) rfl 0 (by decide) (hts _ (tw_c tw_16)) (pq_hv rfl hR_w_153) dX11_keeps_41 ?_
      obtain ⟨w_154, hR_w_154, hL_w_154, hK_w_154⟩ := sh_o hSH 327 (ci := 10) (kd := 2) rfl hL_w_153 hK_w_153
      refine pg_f (v := .ref w_154) (C := RX10) (T := TX10) (N := 13) hx hb hts (tw_i inlX10) hown hK hP hL_w_153 hK_w_153 (by decide) rfl 7 (by decide) (hts _ (tw_c tw_199)) (pq_hv rfl hR_w_154) dX11_keeps_44 ?_
      obtain ⟨w_155, hR_w_155, hL_w_155, hK_w_155, hN_w_155, hT_w_155⟩ := sh_a hSH 75 (ci := 2) (kd := 13) (len := 40) rfl (by decide) hL_w_154 hK_w_154
      refine pg_f (v := .ref w_155) (C := RX2) (T := TX2) (N := 20) hx hb hts (tw_i inlX2) hown hK hP hL_w_154 hK_w_154 (by decide) rfl 11 (by decide) (hts _ (tw_c tw_331)) (pq_hv rfl hR_w_155) dX11_keeps_47 ?_
      refine lv_iload_n hx hb dX11_keeps_50 rfl (lv_at hl 2 rfl) ?_
      refine pl_i hx hb hK hP hL_w_155 hK_w_155 hN_w_155 (rg_in h_98 (by decide)) dX11_keeps_51 ?_
      refine lv_topi (fun x_156 ex_156 => ?_)
      refine lv_if_ne (tgt := 58) hx hb dX11_keeps_52 (by decide) (fun c_157 => ?_) (fun c_157 => ?_)
      · refine lv_aload_n hx hb dX11_keeps_58 rfl (lv_at hl 1 rfl) ?_
        obtain ⟨w_158, hR_w_158, hL_w_158, hK_w_158⟩ := sh_o hSH 354 (ci := 11) (kd := 10) rfl hL_this hK_this
        refine pg_f (v := .ref w_158) (C := RX11) (T := TX11) (N := 5) hx hb hts (tw_i inlX11) hown hK hP hL_this hK_this (by decide) rfl 2 (by decide) (hts _ (tw_c tw_18)) (pq_hv rfl hR_w_158) dX11_keeps_59 ?_
        refine lv_aload_n hx hb dX11_keeps_62 rfl (lv_at hl 1 rfl) ?_
        refine pg_f (v := .ref w_153) (C := RX11) (T := TX11) (N := 5) hx hb hts (tw_i inlX11) hown hK hP hL_this hK_this (by decide) rfl 0 (by decide) (hts _ (tw_c tw_16)) (pq_hv rfl hR_w_153) dX11_keeps_63 ?_
        refine pk_v (va_runV (As := [.ref w_153]) (rest := []) ⟨hx, hb, hml, hown, hts⟩ (s_X10_copyFrom l D t σ I J ri rj rq H.size tg hSH hG.1 w_158 w_153 hL_w_158 hK_w_158 hL_w_153 hK_w_153) (cwV 1 hts (tw_V tw_1362 tw_1363 tw_1364 tw_15 tw_1365) rfl rfl rfl (by decide +kernel) ⟨Nat.le_of_ble_eq_true rfl, Nat.le_of_ble_eq_true rfl⟩) ⟨pq_blind, pq_recv hK hP hL_w_158 hK_w_158 (by decide) rfl, pq_pre hK hN hP hD⟩ rfl rfl hl.1 rfl (lv_room (Nat.le_of_ble_eq_true rfl)) dX11_keeps_66 ⟨Nat.le_of_ble_eq_true rfl, Nat.le_of_ble_eq_true rfl⟩) hD hS hA (fun σ1 μ1 H locs hw_160 hP hD hS => ?_)
        obtain ⟨I_161, J_162, ri_163, rj_164, rq_165, hu_166, hg_167, hp_169⟩ := hw_160
        obtain ⟨hu_166a, hu_166b⟩ := Prod.mk.inj hu_166
        rw [hu_166a, hu_166b] at hP hD
        have hG := GX.tr hG hg_167 (by decide)
        refine lv_aload_n hx hb dX11_keeps_69 rfl (lv_at hl 1 rfl) ?_
        refine pg_f (v := .ref w_158) (C := RX11) (T := TX11) (N := 5) hx hb hts (tw_i inlX11) hown hK hP hL_this hK_this (by decide) rfl 2 (by decide) (hts _ (tw_c tw_18)) (pq_hv rfl hR_w_158) dX11_keeps_70 ?_
        refine lv_iload hx hb dX11_keeps_73 (lv_at hl 4 rfl) ?_
        refine lv_iload_n hx hb dX11_keeps_75 rfl (lv_at hl 3 rfl) ?_
        refine pk_i (va_runV (As := [.int a3, .int a1]) (rest := []) ⟨hx, hb, hml, hown, hts⟩ (s_X10_sandBehind l D t σ I_161 J_162 ri_163 rj_164 rq_165 H.size tg hSH hG.1 w_158 a3 a1 hL_w_158 hK_w_158 (rg_w h_101 (by decide)) (rg_w h_99 (by decide))) (cwV 2 hts (tw_V tw_1415 tw_1416 tw_1417 tw_15 tw_1418) rfl rfl rfl (by decide +kernel) ⟨Nat.le_of_ble_eq_true rfl, Nat.le_of_ble_eq_true rfl⟩) ⟨pq_blind, pq_recv hK hP hL_w_158 hK_w_158 (by decide) rfl, pq_pre hK hN hP hD⟩ rfl rfl hl.1 rfl (lv_room (Nat.le_of_ble_eq_true rfl)) dX11_keeps_76 ⟨Nat.le_of_ble_eq_true rfl, Nat.le_of_ble_eq_true rfl⟩) hD hS hA (fun x_170 σ1 μ1 H locs hw_171 hP hD hS => ?_)
        obtain ⟨I_172, ri_173, hu_174, hg_175⟩ := hw_171
        obtain ⟨hu_174a, hu_174b⟩ := Prod.mk.inj hu_174
        rw [hu_174a, hu_174b] at hP hD
        have hG := GX.tr hG hg_175 (by decide)
        refine lv_istore (lv' := [(6, .int x_170), (5, .int 1), (0, .ref this), (1, .int a0), (2, .int a1), (4, .int a3)]) hx hb dX11_keeps_79 hl (by decide) rfl (fun ls hl => ?_)
        refine lv_aload_n hx hb dX11_keeps_81 rfl (lv_at hl 2 rfl) ?_
        refine pg_f (v := .ref w_158) (C := RX11) (T := TX11) (N := 5) hx hb hts (tw_i inlX11) hown hK hP hL_this hK_this (by decide) rfl 2 (by decide) (hts _ (tw_c tw_18)) (pq_hv rfl hR_w_158) dX11_keeps_82 ?_
        refine lv_aload_n hx hb dX11_keeps_85 rfl (lv_at hl 2 rfl) ?_
        refine pg_f (v := .ref w_153) (C := RX11) (T := TX11) (N := 5) hx hb hts (tw_i inlX11) hown hK hP hL_this hK_this (by decide) rfl 0 (by decide) (hts _ (tw_c tw_16)) (pq_hv rfl hR_w_153) dX11_keeps_86 ?_
        refine pk_v (va_runV (As := [.ref w_153]) (rest := []) ⟨hx, hb, hml, hown, hts⟩ (s_X10_copyFrom l D t σ I_172 J_162 ri_173 rj_164 rq_165 H.size tg hSH hG.1 w_158 w_153 hL_w_158 hK_w_158 hL_w_153 hK_w_153) (cwV 1 hts (tw_V tw_1362 tw_1363 tw_1364 tw_15 tw_1365) rfl rfl rfl (by decide +kernel) ⟨Nat.le_of_ble_eq_true rfl, Nat.le_of_ble_eq_true rfl⟩) ⟨pq_blind, pq_recv hK hP hL_w_158 hK_w_158 (by decide) rfl, pq_pre hK hN hP hD⟩ rfl rfl hl.1 rfl (lv_room (Nat.le_of_ble_eq_true rfl)) dX11_keeps_89 ⟨Nat.le_of_ble_eq_true rfl, Nat.le_of_ble_eq_true rfl⟩) hD hS hA (fun σ1 μ1 H locs hw_178 hP hD hS => ?_)
        obtain ⟨I_179, J_180, ri_181, rj_182, rq_183, hu_184, hg_185, hp_187⟩ := hw_178
        obtain ⟨hu_184a, hu_184b⟩ := Prod.mk.inj hu_184
        rw [hu_184a, hu_184b] at hP hD
        have hG := GX.tr hG hg_185 (by decide)
        refine lv_aload_n hx hb dX11_keeps_92 rfl (lv_at hl 2 rfl) ?_
        refine pg_f (v := .ref w_158) (C := RX11) (T := TX11) (N := 5) hx hb hts (tw_i inlX11) hown hK hP hL_this hK_this (by decide) rfl 2 (by decide) (hts _ (tw_c tw_18)) (pq_hv rfl hR_w_158) dX11_keeps_93 ?_
        obtain ⟨w_188, hR_w_188, hL_w_188, hK_w_188⟩ := sh_o hSH 327 (ci := 10) (kd := 2) rfl hL_w_158 hK_w_158
        refine pg_f (v := .ref w_188) (C := RX10) (T := TX10) (N := 13) hx hb hts (tw_i inlX10) hown hK hP hL_w_158 hK_w_158 (by decide) rfl 7 (by decide) (hts _ (tw_c tw_199)) (pq_hv rfl hR_w_188) dX11_keeps_96 ?_
        obtain ⟨w_189, hR_w_189, hL_w_189, hK_w_189, hN_w_189, hT_w_189⟩ := sh_a hSH 75 (ci := 2) (kd := 13) (len := 40) rfl (by decide) hL_w_188 hK_w_188
        refine pg_f (v := .ref w_189) (C := RX2) (T := TX2) (N := 20) hx hb hts (tw_i inlX2) hown hK hP hL_w_188 hK_w_188 (by decide) rfl 11 (by decide) (hts _ (tw_c tw_331)) (pq_hv rfl hR_w_189) dX11_keeps_99 ?_
        refine lv_iload_n hx hb dX11_keeps_102 rfl (lv_at hl 3 rfl) ?_
        refine lv_iconst (v := 0) hx hb dX11_keeps_103 (by decide) ?_
        refine pt_i hx hb hK hP hD hS hL_w_189 hK_w_189 hN_w_189 (rg_in h_98 (by decide)) dX11_keeps_104 (fun r_190 H locs er_190 hP hD hS => ?_)
        have hG := GX.wR hG hSH hT_w_189 rfl er_190 (rg_w (rg_k (0 : Int32) 0 rfl) (by decide)) (by decide)
        refine lv_iload hx hb dX11_keeps_105 (lv_at hl 0 rfl) ?_
        refine lv_aload_n hx hb dX11_keeps_107 rfl (lv_at hl 2 rfl) ?_
        refine pg_f (v := .ref w_158) (C := RX11) (T := TX11) (N := 5) hx hb hts (tw_i inlX11) hown hK hP hL_this hK_this (by decide) rfl 2 (by decide) (hts _ (tw_c tw_18)) (pq_hv rfl hR_w_158) dX11_keeps_108 ?_
        refine lv_iload hx hb dX11_keeps_111 (lv_at hl 5 rfl) ?_
        refine lv_iload_n hx hb dX11_keeps_113 rfl (lv_at hl 4 rfl) ?_
        refine pk_i (va_runV (As := [.int a3, .int a1]) (rest := [.int x_170]) ⟨hx, hb, hml, hown, hts⟩ (s_X10_sandBehind l D t σ I_179 J_180 r_190 rj_182 rq_183 H.size tg hSH hG.1 w_158 a3 a1 hL_w_158 hK_w_158 (rg_w h_101 (by decide)) (rg_w h_99 (by decide))) (cwV 2 hts (tw_V tw_1415 tw_1416 tw_1417 tw_15 tw_1418) rfl rfl rfl (by decide +kernel) ⟨Nat.le_of_ble_eq_true rfl, Nat.le_of_ble_eq_true rfl⟩) ⟨pq_blind, pq_recv hK hP hL_w_158 hK_w_158 (by decide) rfl, pq_pre hK hN hP hD⟩ rfl rfl hl.1 rfl (lv_room (Nat.le_of_ble_eq_true rfl)) dX11_keeps_114 ⟨Nat.le_of_ble_eq_true rfl, Nat.le_of_ble_eq_true rfl⟩) hD hS hA (fun x_191 σ1 μ1 H locs hw_192 hP hD hS => ?_)
        obtain ⟨I_193, ri_194, hu_195, hg_196⟩ := hw_192
        obtain ⟨hu_195a, hu_195b⟩ := Prod.mk.inj hu_195
        rw [hu_195a, hu_195b] at hP hD
        have hG := GX.tr hG hg_196 (by decide)
        refine lv_isub hx hb dX11_keeps_117 ?_
        refine lv_topi (fun x_198 ex_198 => ?_)
        subst hQ
        exact W.iret (v := x_198) hx hb hr (fun t1 ht hW => ⟨⟨x_198, (σ, I_193, J_180, ri_194, rj_182, rq_183), rfl, ⟨I_193, J_180, ri_194, rj_182, rq_183, rfl, hG⟩, by rw [ht]; exact hP, va_K.moved hW.alike hK, hD⟩, hS.F ht⟩) hS.2.2 dX11_keeps_118
      · have h_199 : rg x_156 0 0 := rg_and (rg_full _) (rg_of_eq c_157 (rg_k (0 : Int32) 0 rfl)) (by decide)
        exact K_151 _ _ _ hG hP hD hS (lv_sub hl [] rfl)
    have K_200 : ∀  (H : Heap) (locs : List Loc) (ls : Array Slot), GX [320, 224, 1225, 1226, 1227, 1228, 1229, 1230, 1231, 1232, 1233, 234, 235, 236, 64, 65, 1069, 1070, 1073, 1074, 1075, 1288, 1079, 0, 1005, 10, 96, 98, 32, 1033, 1034] tg σ I ri rj I ri rj rq → va_P D vwCl (pq_P t σ (I, J, ri, rj, rq)) H → va_D A (pq_P t σ (I, J, ri, rj, rq)) → va_S A s.heap H locs → lv_has ls 7 [(0, .ref this), (1, .int a0), (2, .int a1), (4, .int a3)] → W p l e ({ frames := 5, cells := 0, slots := 0, locals := 144 } : Room) s m (List.toArray ([.ref this, .int a0, .int a1, .int a2, .int a3] : List Value)) below meth c H locs 0 0 Q (F0 m 33 ls [.int 0]) := by
      intro H locs ls hG hP hD hS hl
      refine lv_istore (lv' := [(5, .int 0), (0, .ref this), (1, .int a0), (2, .int a1), (4, .int a3)]) hx hb dX11_keeps_33 hl (by decide) rfl (fun ls hl => ?_)
      refine lv_iload hx hb dX11_keeps_35 (lv_at hl 0 rfl) ?_
      have K_202 : ∀  (H : Heap) (locs : List Loc) (ls : Array Slot), GX [320, 224, 1225, 1226, 1227, 1228, 1229, 1230, 1231, 1232, 1233, 234, 235, 236, 64, 65, 1069, 1070, 1073, 1074, 1075, 1288, 1079, 0, 1005, 10, 96, 98, 32, 1033, 1034] tg σ I ri rj I ri rj rq → va_P D vwCl (pq_P t σ (I, J, ri, rj, rq)) H → va_D A (pq_P t σ (I, J, ri, rj, rq)) → va_S A s.heap H locs → lv_has ls 7 [] → W p l e ({ frames := 5, cells := 0, slots := 0, locals := 144 } : Room) s m (List.toArray ([.ref this, .int a0, .int a1, .int a2, .int a3] : List Value)) below meth c H locs 0 0 Q (F0 m 55 ls []) := by
        intro H locs ls hG hP hD hS hl
        refine lv_ldc hx hb hown (hts _ (tw_c tw_269)) dX11_keeps_55 ?_
        subst hQ
        exact W.iret (v := (-1000000)) hx hb hr (fun t1 ht hW => ⟨⟨(-1000000), (σ, I, J, ri, rj, rq), rfl, ⟨I, J, ri, rj, rq, rfl, hG⟩, by rw [ht]; exact hP, va_K.moved hW.alike hK, hD⟩, hS.F ht⟩) hS.2.2 dX11_keeps_57
      refine lv_if_eq (tgt := 55) hx hb dX11_keeps_37 (by decide) (fun c_203 => ?_) (fun c_203 => absurd c_203 (by decide))
      exact K_202 _ _ _ hG hP hD hS (lv_sub hl [] rfl)
    have K_204 : ∀  (H : Heap) (locs : List Loc) (ls : Array Slot), GX [320, 224, 1225, 1226, 1227, 1228, 1229, 1230, 1231, 1232, 1233, 234, 235, 236, 64, 65, 1069, 1070, 1073, 1074, 1075, 1288, 1079, 0, 1005, 10, 96, 98, 32, 1033, 1034] tg σ I ri rj I ri rj rq → va_P D vwCl (pq_P t σ (I, J, ri, rj, rq)) H → va_D A (pq_P t σ (I, J, ri, rj, rq)) → va_S A s.heap H locs → lv_has ls 7 [(0, .ref this), (1, .int a0), (2, .int a1), (4, .int a3)] → W p l e ({ frames := 5, cells := 0, slots := 0, locals := 144 } : Room) s m (List.toArray ([.ref this, .int a0, .int a1, .int a2, .int a3] : List Value)) below meth c H locs 0 0 Q (F0 m 32 ls []) := by
      intro H locs ls hG hP hD hS hl
      refine lv_iconst (v := 0) hx hb dX11_keeps_32 (by decide) ?_
      exact K_200 _ _ _ hG hP hD hS (lv_sub hl [0, 1, 2, 3] rfl)
    refine lv_if_eq (tgt := 32) hx hb dX11_keeps_5 (by decide) (fun c_205 => ?_) (fun c_205 => ?_)
    · have f_206 := (hr_5.resolve_left (fun q => absurd (q.1.symm.trans c_205) (by decide))).2
      have h_207 : rg x_1 0 0 := rg_and h_6 (rg_of_eq c_205 (rg_k (0 : Int32) 0 rfl)) (by decide)
      exact K_204 _ _ _ hG hP hD hS (lv_sub hl [0, 1, 2, 4] rfl)
    · have f_208 := (hr_5.resolve_right (fun q => c_205 q.1)).2
      have h_209 : rg x_1 1 1 := rg_ne c_205 h_6 0 rfl (by decide)
      refine lv_aload_n hx hb dX11_keeps_8 rfl (lv_at hl 0 rfl) ?_
      refine lv_iload_n hx hb dX11_keeps_9 rfl (lv_at hl 2 rfl) ?_
      refine pk_i (va_runV (As := [.int a1]) (rest := []) ⟨hx, hb, hml, hown, hts⟩ (s_X11_isCell l D t σ I J ri rj rq H.size tg hSH hG.1 this a1 hL_this hK_this) (cwV 1 hts (tw_V tw_332 tw_333 tw_334 tw_2 tw_335) rfl rfl rfl (by decide +kernel) ⟨Nat.le_of_ble_eq_true rfl, Nat.le_of_ble_eq_true rfl⟩) ⟨pq_blind, pq_recv hK hP hL_this hK_this (by decide) rfl, pq_pre hK hN hP hD⟩ rfl rfl hl.1 rfl (lv_room (Nat.le_of_ble_eq_true rfl)) dX11_keeps_10 ⟨Nat.le_of_ble_eq_true rfl, Nat.le_of_ble_eq_true rfl⟩) hD hS hA (fun x_210 σ1 μ1 H locs hw_211 hP hD hS => ?_)
      obtain ⟨hu_212, hr_214⟩ := hw_211
      obtain ⟨hu_212a, hu_212b⟩ := Prod.mk.inj hu_212
      rw [hu_212a, hu_212b] at hP hD
      have h_215 : rg x_210 0 1 := by rcases hr_214 with ⟨q, -⟩ | ⟨q, -⟩ <;> rw [q] <;> exact ⟨by decide, by decide⟩
      refine lv_if_eq (tgt := 32) hx hb dX11_keeps_13 (by decide) (fun c_216 => ?_) (fun c_216 => ?_)
      · have f_217 := (hr_214.resolve_left (fun q => absurd (q.1.symm.trans c_216) (by decide))).2
        have h_218 : rg x_210 0 0 := rg_and h_215 (rg_of_eq c_216 (rg_k (0 : Int32) 0 rfl)) (by decide)
        exact K_204 _ _ _ hG hP hD hS (lv_sub hl [0, 1, 2, 4] rfl)
      · have f_219 := (hr_214.resolve_right (fun q => c_216 q.1)).2
        have h_220 : rg x_210 1 1 := rg_ne c_216 h_215 0 rfl (by decide)
        refine lv_aload_n hx hb dX11_keeps_16 rfl (lv_at hl 0 rfl) ?_
        refine lv_iload_n hx hb dX11_keeps_17 rfl (lv_at hl 3 rfl) ?_
        refine lv_iload hx hb dX11_keeps_18 (lv_at hl 4 rfl) ?_
        refine lv_bipush (v := 60) hx hb dX11_keeps_20 (by decide) ?_
        obtain ⟨w_221, hR_w_221, hL_w_221, hK_w_221⟩ := sh_o hSH 352 (ci := 11) (kd := 10) rfl hL_this hK_this
        refine pk_i (va_runV (As := [.int a2, .int a3, .int 60]) (rest := []) ⟨hx, hb, hml, hown, hts⟩ (s_X11_canGoBy l D t σ I J ri rj rq H.size tg hSH hG.1 this a2 a3 (60 : Int32) hL_this hK_this (rg_w (rg_k (60 : Int32) 60 rfl) (by decide)) w_221 hR_w_221 hL_w_221 hK_w_221) (cwV 3 hts (tw_V tw_1035 tw_1036 tw_1037 tw_2 tw_1038) rfl rfl rfl (by decide +kernel) ⟨Nat.le_of_ble_eq_true rfl, Nat.le_of_ble_eq_true rfl⟩) ⟨pq_blind, pq_recv hK hP hL_this hK_this (by decide) rfl, pq_pre hK hN hP hD⟩ rfl rfl hl.1 rfl (lv_room (Nat.le_of_ble_eq_true rfl)) dX11_keeps_22 ⟨Nat.le_of_ble_eq_true rfl, Nat.le_of_ble_eq_true rfl⟩) hD hS hA (fun x_222 σ1 μ1 H locs hw_223 hP hD hS => ?_)
        obtain ⟨hu_224, hr_226⟩ := hw_223
        obtain ⟨hu_224a, hu_224b⟩ := Prod.mk.inj hu_224
        rw [hu_224a, hu_224b] at hP hD
        have h_227 : rg x_222 0 1 := by rcases hr_226 with ⟨q, -⟩ | ⟨q, -⟩ <;> rw [q] <;> exact ⟨by decide, by decide⟩
        refine lv_if_eq (tgt := 32) hx hb dX11_keeps_25 (by decide) (fun c_228 => ?_) (fun c_228 => ?_)
        · have f_229 := (hr_226.resolve_left (fun q => absurd (q.1.symm.trans c_228) (by decide))).2
          have h_230 : rg x_222 0 0 := rg_and h_227 (rg_of_eq c_228 (rg_k (0 : Int32) 0 rfl)) (by decide)
          exact K_204 _ _ _ hG hP hD hS (lv_sub hl [0, 1, 2, 4] rfl)
        · obtain ⟨f_231, f_232, f_233, f_234⟩ := (hr_226.resolve_right (fun q => c_228 q.1)).2
          have h_235 : rg x_222 1 1 := rg_ne c_228 h_227 0 rfl (by decide)
          refine lv_iconst (v := 1) hx hb dX11_keeps_28 (by decide) ?_
          refine lv_goto (tgt := 33) hx hb dX11_keeps_29 (by decide) ?_
          exact K_92 _ _ _ (rg_w f_208 (by decide)) (rg_w f_219 (by decide)) (rg_w f_231 (by decide)) (rg_w f_232 (by decide)) (rg_w h_209 (by decide)) hG hP hD hS (lv_sub hl [0, 1, 2, 4] rfl)
  exact go _ _ _ hP hD hS hl
