theorem dX12_fault_0 : decode cX12_fault 0 = .ok (.iload_n 1, 1) := oc_27 (by decide +kernel)
theorem dX12_fault_1 : decode cX12_fault 1 = .ok (.ifCond .ne 10, 3) := oc_154 (a := 0) (b := 10) (by decide +kernel)
theorem dX12_fault_11 : decode cX12_fault 11 = .ok (.iload_n 1, 1) := oc_27 (by decide +kernel)
theorem dX12_fault_12 : decode cX12_fault 12 = .ok (.iconst 1, 1) := oc_4 (by decide +kernel)
theorem dX12_fault_13 : decode cX12_fault 13 = .ok (.if_icmp .ne 10, 3) := oc_160 (a := 0) (b := 10) (by decide +kernel)
theorem dX12_fault_23 : decode cX12_fault 23 = .ok (.iconst (-1), 1) := oc_2 (by decide +kernel)
theorem dX12_fault_24 : decode cX12_fault 24 = .ok (.ireturn, 1) := oc_172 (by decide +kernel)
theorem dX12_fault_16 : decode cX12_fault 16 = .ok (.aload_n 0, 1) := oc_42 (by decide +kernel)
theorem dX12_fault_17 : decode cX12_fault 17 = .ok (.getfield 26, 3) := oc_180 (a := 0) (b := 26) (by decide +kernel)
theorem dX12_fault_20 : decode cX12_fault 20 = .ok (.goto 4, 3) := oc_167 (a := 0) (b := 4) (by decide +kernel)
theorem dX12_fault_4 : decode cX12_fault 4 = .ok (.aload_n 0, 1) := oc_42 (by decide +kernel)
theorem dX12_fault_5 : decode cX12_fault 5 = .ok (.getfield 22, 3) := oc_180 (a := 0) (b := 22) (by decide +kernel)
theorem dX12_fault_8 : decode cX12_fault 8 = .ok (.goto 16, 3) := oc_167 (a := 0) (b := 16) (by decide +kernel)
theorem dX12_force_0 : decode cX12_force 0 = .ok (.iload_n 1, 1) := oc_27 (by decide +kernel)
theorem dX12_force_1 : decode cX12_force 1 = .ok (.iconst 0, 1) := oc_3 (by decide +kernel)
theorem dX12_force_2 : decode cX12_force 2 = .ok (.aload_n 0, 1) := oc_42 (by decide +kernel)
theorem dX12_force_3 : decode cX12_force 3 = .ok (.getfield 7, 3) := oc_180 (a := 0) (b := 7) (by decide +kernel)
theorem dX12_force_6 : decode cX12_force 6 = .ok (.bipush 6, 2) := oc_16 (a := 6) (by decide +kernel)
theorem dX12_force_8 : decode cX12_force 8 = .ok (.iaload, 1) := oc_46 (by decide +kernel)
theorem dX12_force_9 : decode cX12_force 9 = .ok (.iconst 1, 1) := oc_4 (by decide +kernel)
theorem dX12_force_10 : decode cX12_force 10 = .ok (.isub, 1) := oc_100 (by decide +kernel)
theorem dX12_force_11 : decode cX12_force 11 = .ok (.invokestatic 62, 3) := oc_184 (a := 0) (b := 62) (by decide +kernel)
theorem dX12_force_56 : decode cX12_force 56 = .ok (.iconst (-1), 1) := oc_2 (by decide +kernel)
theorem dX12_force_57 : decode cX12_force 57 = .ok (.ireturn, 1) := oc_172 (by decide +kernel)
theorem dX12_force_14 : decode cX12_force 14 = .ok (.ifCond .eq 42, 3) := oc_153 (a := 0) (b := 42) (by decide +kernel)
theorem dX12_force_17 : decode cX12_force 17 = .ok (.iload_n 2, 1) := oc_28 (by decide +kernel)
theorem dX12_force_18 : decode cX12_force 18 = .ok (.aload_n 0, 1) := oc_42 (by decide +kernel)
theorem dX12_force_19 : decode cX12_force 19 = .ok (.getfield 7, 3) := oc_180 (a := 0) (b := 7) (by decide +kernel)
theorem dX12_force_22 : decode cX12_force 22 = .ok (.iconst 0, 1) := oc_3 (by decide +kernel)
theorem dX12_force_23 : decode cX12_force 23 = .ok (.iaload, 1) := oc_46 (by decide +kernel)
theorem dX12_force_24 : decode cX12_force 24 = .ok (.sipush 599, 3) := oc_17 (a := 2) (b := 87) (by decide +kernel)
theorem dX12_force_27 : decode cX12_force 27 = .ok (.invokestatic 62, 3) := oc_184 (a := 0) (b := 62) (by decide +kernel)
theorem dX12_force_30 : decode cX12_force 30 = .ok (.ifCond .eq 26, 3) := oc_153 (a := 0) (b := 26) (by decide +kernel)
theorem dX12_force_33 : decode cX12_force 33 = .ok (.iload_n 3, 1) := oc_29 (by decide +kernel)
theorem dX12_force_34 : decode cX12_force 34 = .ok (.iload_n 2, 1) := oc_28 (by decide +kernel)
theorem dX12_force_35 : decode cX12_force 35 = .ok (.sipush 599, 3) := oc_17 (a := 2) (b := 87) (by decide +kernel)
theorem dX12_force_38 : decode cX12_force 38 = .ok (.invokestatic 62, 3) := oc_184 (a := 0) (b := 62) (by decide +kernel)
theorem dX12_force_41 : decode cX12_force 41 = .ok (.ifCond .eq 15, 3) := oc_153 (a := 0) (b := 15) (by decide +kernel)
theorem dX12_force_44 : decode cX12_force 44 = .ok (.aload_n 0, 1) := oc_42 (by decide +kernel)
theorem dX12_force_45 : decode cX12_force 45 = .ok (.getfield 7, 3) := oc_180 (a := 0) (b := 7) (by decide +kernel)
theorem dX12_force_48 : decode cX12_force 48 = .ok (.bipush 7, 2) := oc_16 (a := 7) (by decide +kernel)
theorem dX12_force_50 : decode cX12_force 50 = .ok (.iaload, 1) := oc_46 (by decide +kernel)
theorem dX12_force_51 : decode cX12_force 51 = .ok (.bipush 30, 2) := oc_16 (a := 30) (by decide +kernel)
theorem dX12_force_53 : decode cX12_force 53 = .ok (.if_icmp .ne 5, 3) := oc_160 (a := 0) (b := 5) (by decide +kernel)
theorem dX12_force_58 : decode cX12_force 58 = .ok (.sipush 2220, 3) := oc_17 (a := 8) (b := 172) (by decide +kernel)
theorem dX12_force_61 : decode cX12_force 61 = .ok (.iconst 4, 1) := oc_7 (by decide +kernel)
theorem dX12_force_62 : decode cX12_force 62 = .ok (.aload_n 0, 1) := oc_42 (by decide +kernel)
theorem dX12_force_63 : decode cX12_force 63 = .ok (.getfield 7, 3) := oc_180 (a := 0) (b := 7) (by decide +kernel)
theorem dX12_force_66 : decode cX12_force 66 = .ok (.bipush 7, 2) := oc_16 (a := 7) (by decide +kernel)
theorem dX12_force_68 : decode cX12_force 68 = .ok (.iaload, 1) := oc_46 (by decide +kernel)
theorem dX12_force_69 : decode cX12_force 69 = .ok (.imul, 1) := oc_104 (by decide +kernel)
theorem dX12_force_70 : decode cX12_force 70 = .ok (.iadd, 1) := oc_96 (by decide +kernel)
theorem dX12_force_71 : decode cX12_force 71 = .ok (.istore 4, 2) := oc_54 (by decide +kernel)
theorem dX12_force_73 : decode cX12_force 73 = .ok (.aload_n 0, 1) := oc_42 (by decide +kernel)
theorem dX12_force_74 : decode cX12_force 74 = .ok (.getfield 7, 3) := oc_180 (a := 0) (b := 7) (by decide +kernel)
theorem dX12_force_77 : decode cX12_force 77 = .ok (.iload 4, 2) := oc_21 (by decide +kernel)
theorem dX12_force_79 : decode cX12_force 79 = .ok (.iload_n 1, 1) := oc_27 (by decide +kernel)
theorem dX12_force_80 : decode cX12_force 80 = .ok (.iastore, 1) := oc_79 (by decide +kernel)
theorem dX12_force_81 : decode cX12_force 81 = .ok (.aload_n 0, 1) := oc_42 (by decide +kernel)
theorem dX12_force_82 : decode cX12_force 82 = .ok (.getfield 7, 3) := oc_180 (a := 0) (b := 7) (by decide +kernel)
theorem dX12_force_85 : decode cX12_force 85 = .ok (.iload 4, 2) := oc_21 (by decide +kernel)
theorem dX12_force_87 : decode cX12_force 87 = .ok (.iconst 1, 1) := oc_4 (by decide +kernel)
theorem dX12_force_88 : decode cX12_force 88 = .ok (.iadd, 1) := oc_96 (by decide +kernel)
theorem dX12_force_89 : decode cX12_force 89 = .ok (.iload_n 2, 1) := oc_28 (by decide +kernel)
theorem dX12_force_90 : decode cX12_force 90 = .ok (.iastore, 1) := oc_79 (by decide +kernel)
theorem dX12_force_91 : decode cX12_force 91 = .ok (.aload_n 0, 1) := oc_42 (by decide +kernel)
theorem dX12_force_92 : decode cX12_force 92 = .ok (.getfield 7, 3) := oc_180 (a := 0) (b := 7) (by decide +kernel)
theorem dX12_force_95 : decode cX12_force 95 = .ok (.iload 4, 2) := oc_21 (by decide +kernel)
theorem dX12_force_97 : decode cX12_force 97 = .ok (.iconst 2, 1) := oc_5 (by decide +kernel)
theorem dX12_force_98 : decode cX12_force 98 = .ok (.iadd, 1) := oc_96 (by decide +kernel)
theorem dX12_force_99 : decode cX12_force 99 = .ok (.iload_n 3, 1) := oc_29 (by decide +kernel)
theorem dX12_force_100 : decode cX12_force 100 = .ok (.iastore, 1) := oc_79 (by decide +kernel)
theorem dX12_force_101 : decode cX12_force 101 = .ok (.aload_n 0, 1) := oc_42 (by decide +kernel)
theorem dX12_force_102 : decode cX12_force 102 = .ok (.getfield 7, 3) := oc_180 (a := 0) (b := 7) (by decide +kernel)
theorem dX12_force_105 : decode cX12_force 105 = .ok (.bipush 7, 2) := oc_16 (a := 7) (by decide +kernel)
theorem dX12_force_107 : decode cX12_force 107 = .ok (.dup2, 1) := oc_92 (by decide +kernel)
theorem dX12_force_108 : decode cX12_force 108 = .ok (.iaload, 1) := oc_46 (by decide +kernel)
theorem dX12_force_109 : decode cX12_force 109 = .ok (.iconst 1, 1) := oc_4 (by decide +kernel)
theorem dX12_force_110 : decode cX12_force 110 = .ok (.iadd, 1) := oc_96 (by decide +kernel)
theorem dX12_force_111 : decode cX12_force 111 = .ok (.iastore, 1) := oc_79 (by decide +kernel)
theorem dX12_force_112 : decode cX12_force 112 = .ok (.aload_n 0, 1) := oc_42 (by decide +kernel)
theorem dX12_force_113 : decode cX12_force 113 = .ok (.getfield 7, 3) := oc_180 (a := 0) (b := 7) (by decide +kernel)
theorem dX12_force_116 : decode cX12_force 116 = .ok (.bipush 7, 2) := oc_16 (a := 7) (by decide +kernel)
theorem dX12_force_118 : decode cX12_force 118 = .ok (.iaload, 1) := oc_46 (by decide +kernel)
theorem dX12_force_119 : decode cX12_force 119 = .ok (.iconst 1, 1) := oc_4 (by decide +kernel)
theorem dX12_force_120 : decode cX12_force 120 = .ok (.isub, 1) := oc_100 (by decide +kernel)
theorem dX12_force_121 : decode cX12_force 121 = .ok (.ireturn, 1) := oc_172 (by decide +kernel)
theorem dX12_numberOf_0 : decode cX12_numberOf 0 = .ok (.aload_n 0, 1) := oc_42 (by decide +kernel)
theorem dX12_numberOf_1 : decode cX12_numberOf 1 = .ok (.iload_n 1, 1) := oc_27 (by decide +kernel)
theorem dX12_numberOf_2 : decode cX12_numberOf 2 = .ok (.iload_n 2, 1) := oc_28 (by decide +kernel)
theorem dX12_numberOf_3 : decode cX12_numberOf 3 = .ok (.invokevirtual 275, 3) := oc_182 (a := 1) (b := 19) (by decide +kernel)
theorem dX12_numberOf_6 : decode cX12_numberOf 6 = .ok (.istore 4, 2) := oc_54 (by decide +kernel)
theorem dX12_numberOf_8 : decode cX12_numberOf 8 = .ok (.iload 4, 2) := oc_21 (by decide +kernel)
theorem dX12_numberOf_10 : decode cX12_numberOf 10 = .ok (.ifCond .ge 7, 3) := oc_156 (a := 0) (b := 7) (by decide +kernel)
theorem dX12_numberOf_17 : decode cX12_numberOf 17 = .ok (.aload_n 0, 1) := oc_42 (by decide +kernel)
theorem dX12_numberOf_18 : decode cX12_numberOf 18 = .ok (.getfield 7, 3) := oc_180 (a := 0) (b := 7) (by decide +kernel)
theorem dX12_numberOf_21 : decode cX12_numberOf 21 = .ok (.aload_n 0, 1) := oc_42 (by decide +kernel)
theorem dX12_numberOf_22 : decode cX12_numberOf 22 = .ok (.iload 4, 2) := oc_21 (by decide +kernel)
theorem dX12_numberOf_24 : decode cX12_numberOf 24 = .ok (.iload_n 1, 1) := oc_27 (by decide +kernel)
theorem dX12_numberOf_25 : decode cX12_numberOf 25 = .ok (.invokevirtual 272, 3) := oc_182 (a := 1) (b := 16) (by decide +kernel)
theorem dX12_numberOf_28 : decode cX12_numberOf 28 = .ok (.iconst 1, 1) := oc_4 (by decide +kernel)
theorem dX12_numberOf_29 : decode cX12_numberOf 29 = .ok (.iadd, 1) := oc_96 (by decide +kernel)
theorem dX12_numberOf_30 : decode cX12_numberOf 30 = .ok (.iaload, 1) := oc_46 (by decide +kernel)
theorem dX12_numberOf_31 : decode cX12_numberOf 31 = .ok (.ireturn, 1) := oc_172 (by decide +kernel)
theorem dX12_numberOf_13 : decode cX12_numberOf 13 = .ok (.iload_n 3, 1) := oc_29 (by decide +kernel)
theorem dX12_numberOf_14 : decode cX12_numberOf 14 = .ok (.goto 17, 3) := oc_167 (a := 0) (b := 17) (by decide +kernel)
theorem dX12_isFor_0 : decode cX12_isFor 0 = .ok (.aload_n 0, 1) := oc_42 (by decide +kernel)
theorem dX12_isFor_1 : decode cX12_isFor 1 = .ok (.iload_n 1, 1) := oc_27 (by decide +kernel)
theorem dX12_isFor_2 : decode cX12_isFor 2 = .ok (.iload_n 3, 1) := oc_29 (by decide +kernel)
theorem dX12_isFor_3 : decode cX12_isFor 3 = .ok (.invokevirtual 275, 3) := oc_182 (a := 1) (b := 19) (by decide +kernel)
theorem dX12_isFor_6 : decode cX12_isFor 6 = .ok (.ifCond .lt 14, 3) := oc_155 (a := 0) (b := 14) (by decide +kernel)
theorem dX12_isFor_20 : decode cX12_isFor 20 = .ok (.iconst 1, 1) := oc_4 (by decide +kernel)
theorem dX12_isFor_21 : decode cX12_isFor 21 = .ok (.goto 4, 3) := oc_167 (a := 0) (b := 4) (by decide +kernel)
theorem dX12_isFor_25 : decode cX12_isFor 25 = .ok (.ireturn, 1) := oc_172 (by decide +kernel)
theorem dX12_isFor_9 : decode cX12_isFor 9 = .ok (.aload_n 0, 1) := oc_42 (by decide +kernel)
theorem dX12_isFor_10 : decode cX12_isFor 10 = .ok (.iload_n 1, 1) := oc_27 (by decide +kernel)
theorem dX12_isFor_11 : decode cX12_isFor 11 = .ok (.iload_n 2, 1) := oc_28 (by decide +kernel)
theorem dX12_isFor_12 : decode cX12_isFor 12 = .ok (.iload_n 3, 1) := oc_29 (by decide +kernel)
theorem dX12_isFor_13 : decode cX12_isFor 13 = .ok (.iconst 0, 1) := oc_3 (by decide +kernel)
theorem dX12_isFor_14 : decode cX12_isFor 14 = .ok (.invokevirtual 120, 3) := oc_182 (a := 0) (b := 120) (by decide +kernel)
theorem dX12_isFor_17 : decode cX12_isFor 17 = .ok (.ifCond .lt 7, 3) := oc_155 (a := 0) (b := 7) (by decide +kernel)
theorem dX12_isFor_24 : decode cX12_isFor 24 = .ok (.iconst 0, 1) := oc_3 (by decide +kernel)
theorem dX12_is_0 : decode cX12_is 0 = .ok (.iload_n 1, 1) := oc_27 (by decide +kernel)
theorem dX12_is_1 : decode cX12_is 1 = .ok (.iconst 0, 1) := oc_3 (by decide +kernel)
theorem dX12_is_2 : decode cX12_is 2 = .ok (.iconst 2, 1) := oc_5 (by decide +kernel)
theorem dX12_is_3 : decode cX12_is 3 = .ok (.invokestatic 62, 3) := oc_184 (a := 0) (b := 62) (by decide +kernel)
theorem dX12_is_44 : decode cX12_is 44 = .ok (.iconst (-1), 1) := oc_2 (by decide +kernel)
theorem dX12_is_45 : decode cX12_is 45 = .ok (.ireturn, 1) := oc_172 (by decide +kernel)
theorem dX12_is_6 : decode cX12_is 6 = .ok (.ifCond .eq 38, 3) := oc_153 (a := 0) (b := 38) (by decide +kernel)
theorem dX12_is_9 : decode cX12_is 9 = .ok (.aload_n 0, 1) := oc_42 (by decide +kernel)
theorem dX12_is_10 : decode cX12_is 10 = .ok (.iload_n 2, 1) := oc_28 (by decide +kernel)
theorem dX12_is_11 : decode cX12_is 11 = .ok (.invokevirtual 104, 3) := oc_182 (a := 0) (b := 104) (by decide +kernel)
theorem dX12_is_14 : decode cX12_is 14 = .ok (.ifCond .eq 30, 3) := oc_153 (a := 0) (b := 30) (by decide +kernel)
theorem dX12_is_17 : decode cX12_is 17 = .ok (.iload_n 3, 1) := oc_29 (by decide +kernel)
theorem dX12_is_18 : decode cX12_is 18 = .ok (.invokestatic 73, 3) := oc_184 (a := 0) (b := 73) (by decide +kernel)
theorem dX12_is_21 : decode cX12_is 21 = .ok (.ifCond .eq 23, 3) := oc_153 (a := 0) (b := 23) (by decide +kernel)
theorem dX12_is_24 : decode cX12_is 24 = .ok (.aload_n 0, 1) := oc_42 (by decide +kernel)
theorem dX12_is_25 : decode cX12_is 25 = .ok (.iconst 2, 1) := oc_5 (by decide +kernel)
theorem dX12_is_26 : decode cX12_is 26 = .ok (.iload_n 1, 1) := oc_27 (by decide +kernel)
theorem dX12_is_27 : decode cX12_is 27 = .ok (.iadd, 1) := oc_96 (by decide +kernel)
theorem dX12_is_28 : decode cX12_is 28 = .ok (.iload_n 2, 1) := oc_28 (by decide +kernel)
theorem dX12_is_29 : decode cX12_is 29 = .ok (.iload_n 3, 1) := oc_29 (by decide +kernel)
theorem tw_971 : Cond.methodLink RX12 301 yX12_isFor ∈ wsL_law := sg_41 _ (List.mem_of_getElem? (i := 11) rfl)
theorem tw_972 : Cond.instanceMethod yX12_isFor ∈ wsL_law := sg_41 _ (List.mem_of_getElem? (i := 12) rfl)
theorem tw_973 : Cond.selects RX12 yX12_isFor yX12_isFor ∈ wsL_law := sg_41 _ (List.mem_of_getElem? (i := 13) rfl)
theorem tw_974 : Cond.code yX12_isFor cX12_isFor 4 (some .boolean) ∈ wsL_law := sg_41 _ (List.mem_of_getElem? (i := 14) rfl)
theorem dX12_is_30 : decode cX12_is 30 = .ok (.invokevirtual 301, 3) := oc_182 (a := 1) (b := 45) (by decide +kernel)
theorem dX12_is_33 : decode cX12_is 33 = .ok (.ifCond .eq 7, 3) := oc_153 (a := 0) (b := 7) (by decide +kernel)
theorem dX12_is_40 : decode cX12_is 40 = .ok (.iconst 0, 1) := oc_3 (by decide +kernel)
theorem dX12_is_41 : decode cX12_is 41 = .ok (.goto 4, 3) := oc_167 (a := 0) (b := 4) (by decide +kernel)
theorem dX12_is_36 : decode cX12_is 36 = .ok (.iconst 1, 1) := oc_4 (by decide +kernel)
theorem dX12_is_37 : decode cX12_is 37 = .ok (.goto 8, 3) := oc_167 (a := 0) (b := 8) (by decide +kernel)
theorem dX12_why_0 : decode cX12_why 0 = .ok (.iload_n 1, 1) := oc_27 (by decide +kernel)
theorem dX12_why_1 : decode cX12_why 1 = .ok (.iconst 0, 1) := oc_3 (by decide +kernel)
theorem dX12_why_2 : decode cX12_why 2 = .ok (.iconst 2, 1) := oc_5 (by decide +kernel)
theorem dX12_why_3 : decode cX12_why 3 = .ok (.invokestatic 62, 3) := oc_184 (a := 0) (b := 62) (by decide +kernel)
theorem dX12_why_37 : decode cX12_why 37 = .ok (.iconst (-1), 1) := oc_2 (by decide +kernel)
theorem dX12_why_38 : decode cX12_why 38 = .ok (.ireturn, 1) := oc_172 (by decide +kernel)
theorem dX12_why_6 : decode cX12_why 6 = .ok (.ifCond .eq 31, 3) := oc_153 (a := 0) (b := 31) (by decide +kernel)
theorem dX12_why_9 : decode cX12_why 9 = .ok (.aload_n 0, 1) := oc_42 (by decide +kernel)
theorem dX12_why_10 : decode cX12_why 10 = .ok (.iload_n 2, 1) := oc_28 (by decide +kernel)
theorem dX12_why_11 : decode cX12_why 11 = .ok (.invokevirtual 104, 3) := oc_182 (a := 0) (b := 104) (by decide +kernel)
theorem dX12_why_14 : decode cX12_why 14 = .ok (.ifCond .eq 23, 3) := oc_153 (a := 0) (b := 23) (by decide +kernel)
theorem dX12_why_17 : decode cX12_why 17 = .ok (.iload_n 3, 1) := oc_29 (by decide +kernel)
theorem dX12_why_18 : decode cX12_why 18 = .ok (.invokestatic 73, 3) := oc_184 (a := 0) (b := 73) (by decide +kernel)
theorem dX12_why_21 : decode cX12_why 21 = .ok (.ifCond .eq 16, 3) := oc_153 (a := 0) (b := 16) (by decide +kernel)
theorem dX12_why_24 : decode cX12_why 24 = .ok (.aload_n 0, 1) := oc_42 (by decide +kernel)
theorem dX12_why_25 : decode cX12_why 25 = .ok (.iconst 2, 1) := oc_5 (by decide +kernel)
theorem dX12_why_26 : decode cX12_why 26 = .ok (.iload_n 1, 1) := oc_27 (by decide +kernel)
theorem dX12_why_27 : decode cX12_why 27 = .ok (.iadd, 1) := oc_96 (by decide +kernel)
theorem dX12_why_28 : decode cX12_why 28 = .ok (.iload_n 2, 1) := oc_28 (by decide +kernel)
theorem dX12_why_29 : decode cX12_why 29 = .ok (.iload_n 3, 1) := oc_29 (by decide +kernel)
theorem dX12_why_30 : decode cX12_why 30 = .ok (.iconst 0, 1) := oc_3 (by decide +kernel)
theorem dX12_why_31 : decode cX12_why 31 = .ok (.invokevirtual 120, 3) := oc_182 (a := 0) (b := 120) (by decide +kernel)
theorem dX12_why_34 : decode cX12_why 34 = .ok (.goto 4, 3) := oc_167 (a := 0) (b := 4) (by decide +kernel)
set_option maxRecDepth 100000 in
def g_X12_fault (a0 : Int32) (I : Nat → Int32) (J : Nat → Int64) (ri : Nat → Nat → Int32) (rj : Nat → Nat → Int64) (rq : Nat → Nat → Option Nat) : Int32 × vM := (if a0 = (0 : Int32) then (ap1 (I 389) fun (y_16 : Int32) => ((y_16), I, J, ri, rj, rq)) else (if a0 = (1 : Int32) then (ap1 (I 390) fun (y_13 : Int32) => ((y_13), I, J, ri, rj, rq)) else ((-1 : Int32), I, J, ri, rj, rq)))
set_option maxRecDepth 100000 in
theorem g_X12_fault_e {a0 : Int32} {I : Nat → Int32} {J : Nat → Int64} {ri : Nat → Nat → Int32} {rj : Nat → Nat → Int64} {rq : Nat → Nat → Option Nat} : g_X12_fault a0 I J ri rj rq = (if a0 = (0 : Int32) then (ap1 (I 389) fun (y_16 : Int32) => ((y_16), I, J, ri, rj, rq)) else (if a0 = (1 : Int32) then (ap1 (I 390) fun (y_13 : Int32) => ((y_13), I, J, ri, rj, rq)) else ((-1 : Int32), I, J, ri, rj, rq))) := rfl
set_option maxHeartbeats 4000000 in
set_option maxRecDepth 100000 in
theorem s_X12_fault (l : Launch) (D : va_G) (t : pq_T) (σ : pq_S) (I : Nat → Nat → Int32) (J : Nat → Nat → Int64) (ri : Nat → Nat → Int32) (rj : Nat → Nat → Int64) (rq : Nat → Nat → Option Nat) (sz : Nat) (tg : Nat → Nat) (hSH : SH σ tg) (hG0 : GT tg I ri) (this : Nat) (a0 : Int32) (hL_this : this ∈ σ.1) (hK_this : σ.2.1 this = 12) : MetI l yX12_fault (wa yX12_fault cX12_fault 2 (some .int)) ({ frames := 0, cells := 0, slots := 0, locals := 0 }) [.ref this, .int a0] D t σ (I, J, ri, rj, rq) sz 0 0 (fun (r : Int32) (u : pq_S × pq_M) => u = (σ, I, J, ri, rj, rq) ∧ g_X12_fault a0 (vI 12 σ this I) (vJ 12 σ this J) (vR 12 σ this ri) (vL 12 σ this rj) (vQ 12 σ this rq) = (r, (vI 12 σ this I), (vJ 12 σ this J), (vR 12 σ this ri), (vL 12 σ this rj), (vQ 12 σ this rq))) := by
  refine Met.ofW (cc := cX12_fault) (maxL := 2) (ret := (some .int)) (by decide) rfl ?_
  intro p e s m args below meth c s₁ B hml hv
  obtain ⟨rfl, hsz, hP, hK, hD0, hN⟩ := hv
  have hx := B.exec
  have hb := B.bytes
  have hr := B.returns
  have hts := atoms_spec (ws := (wa yX12_fault cX12_fault 2 (some .int))) B.pre
  have hown : s.vm.findClass RX12 = some m.cls := findClass_of_methodNamed B.named
  have hlocks := B.notSynchronized
  subst hsz
  have hD : va_D (pq_B t σ (I, J, ri, rj, rq) s.heap.size) (pq_P t σ (I, J, ri, rj, rq)) := hD0.self
  generalize hAe : pq_B t σ (I, J, ri, rj, rq) s.heap.size = A at hD ⊢
  have hA : ∀ q : Nat, s.heap.size ≤ q → A q := fun q h => by rw [← hAe]; exact Or.inr h
  have hS : va_S A s.heap s.heap [] := va_S.rf
  have hG : GM [] tg σ I ri I ri rq := ⟨hG0, fun _ _ _ => rfl, fun _ _ _ _ _ => rfl, fun _ _ _ _ _ _ => rfl⟩
  have hl := lv_entry ([.ref this, .int a0]) (n := 2) (Nat.le_of_ble_eq_true rfl)
  rw [lg_entry_eq]
  generalize (lg_sl ([.ref this, .int a0]) ++ List.replicate (2 - (lg_sl ([.ref this, .int a0])).length) Slot.unset).toArray = ls at hl ⊢
  have hl : lv_has ls 2 [(0, .ref this), (1, .int a0)] := hl
  refine q_gen (fun Q hQ => ?_)
  have go : ∀ (H : Heap) (locs : List Loc) (ls : Array Slot), va_P D vwCl (pq_P t σ (I, J, ri, rj, rq)) H → va_D A (pq_P t σ (I, J, ri, rj, rq)) → va_S A s.heap H locs → lv_has ls 2 [(0, .ref this), (1, .int a0)] → W p l e ({ frames := 0, cells := 0, slots := 0, locals := 0 } : Room) s m (List.toArray ([.ref this, .int a0] : List Value)) below meth c H locs 0 0 Q (F0 m 0 ls []) := by
    intro H locs ls hP hD hS hl
    have hO_this : this = vo σ 12 this := rfl
    have hVT : VT 12 σ tg this := vt_12 hSH hL_this hK_this
    have hFr : FR 12 tg σ this (I, J, ri, rj, rq) (I, J, ri, rj, rq) := fr_rf
    obtain ⟨F, hF0⟩ : ∃ F, F = g_X12_fault a0 (vI 12 σ this I) (vJ 12 σ this J) (vR 12 σ this ri) (vL 12 σ this rj) (vQ 12 σ this rq) := ⟨_, rfl⟩
    have hF := hF0.trans g_X12_fault_e
    refine lv_iload_n hx hb dX12_fault_0 rfl (lv_at hl 1 rfl) ?_
    refine lv_if_ne (tgt := 11) hx hb dX12_fault_1 (by decide) (fun c_1 => ?_) (fun c_1 => ?_)
    · replace hF := hF.trans (if_neg c_1)
      have tc_5 : (a0).toInt ≠ 0 := fun q => c_1 (Int32.toInt_inj.mp q)
      refine lv_iload_n hx hb dX12_fault_11 rfl (lv_at hl 1 rfl) ?_
      refine lv_iconst (v := 1) hx hb dX12_fault_12 (by decide) ?_
      refine lv_icmp_ne (tgt := 23) hx hb dX12_fault_13 (by decide) (fun c_6 => ?_) (fun c_6 => ?_)
      · replace hF := hF.trans (if_neg c_6)
        have tc_10 : (a0).toInt ≠ 1 := fun q => c_6 (Int32.toInt_inj.mp q)
        refine lv_iconst (v := (-1)) hx hb dX12_fault_23 (by decide) ?_
        subst hQ
        exact W.iret (v := (-1)) hx hb hr (fun t1 ht hW => ⟨⟨(-1), (σ, I, J, ri, rj, rq), rfl, ⟨rfl, (hF0.symm.trans hF)⟩, by rw [ht]; exact hP, va_K.moved hW.alike hK, hD⟩, hS.F ht⟩) hS.2.2 dX12_fault_24
      · replace hF := hF.trans (if_pos c_6)
        have tc_11 : (a0).toInt = 1 := congrArg Int32.toInt c_6
        have h_12 : rg a0 1 1 := rg_and (rg_full _) (rg_of_eq c_6 (rg_k (1 : Int32) 1 rfl)) (by decide)
        have uh_12 := h_12.1
        have vh_12 := h_12.2
        refine lv_aload_n hx hb dX12_fault_16 rfl (lv_at hl 0 rfl) ?_
        refine pg_f (v := .int (I 390 this)) (C := RX12) (T := TX12) (N := 31) hx hb hts (tw_i inlX12) hown hK hP hL_this hK_this (by decide) rfl 6 (by decide) (hts _ (tw_c tw_181)) rfl dX12_fault_17 ?_
        replace hF := hF.trans (ap_n (vI_e (f := 390) hO_this (by decide)))
        refine lv_goto (tgt := 24) hx hb dX12_fault_20 (by decide) ?_
        subst hQ
        exact W.iret (v := (I 390 this)) hx hb hr (fun t1 ht hW => ⟨⟨(I 390 this), (σ, I, J, ri, rj, rq), rfl, ⟨rfl, (hF0.symm.trans hF)⟩, by rw [ht]; exact hP, va_K.moved hW.alike hK, hD⟩, hS.F ht⟩) hS.2.2 dX12_fault_24
    · replace hF := hF.trans (if_pos c_1)
      have tc_14 : (a0).toInt = 0 := congrArg Int32.toInt c_1
      have h_15 : rg a0 0 0 := rg_and (rg_full _) (rg_of_eq c_1 (rg_k (0 : Int32) 0 rfl)) (by decide)
      have uh_15 := h_15.1
      have vh_15 := h_15.2
      refine lv_aload_n hx hb dX12_fault_4 rfl (lv_at hl 0 rfl) ?_
      refine pg_f (v := .int (I 389 this)) (C := RX12) (T := TX12) (N := 31) hx hb hts (tw_i inlX12) hown hK hP hL_this hK_this (by decide) rfl 5 (by decide) (hts _ (tw_c tw_180)) rfl dX12_fault_5 ?_
      replace hF := hF.trans (ap_n (vI_e (f := 389) hO_this (by decide)))
      refine lv_goto (tgt := 24) hx hb dX12_fault_8 (by decide) ?_
      subst hQ
      exact W.iret (v := (I 389 this)) hx hb hr (fun t1 ht hW => ⟨⟨(I 389 this), (σ, I, J, ri, rj, rq), rfl, ⟨rfl, (hF0.symm.trans hF)⟩, by rw [ht]; exact hP, va_K.moved hW.alike hK, hD⟩, hS.F ht⟩) hS.2.2 dX12_fault_24
  exact go _ _ _ hP hD hS hl

set_option maxRecDepth 100000 in
def g_X12_force_K56 (I : Nat → Int32) (J : Nat → Int64) (ri : Nat → Nat → Int32) (rj : Nat → Nat → Int64) (rq : Nat → Nat → Option Nat) : Int32 × vM := ((-1 : Int32), I, J, ri, rj, rq)
set_option maxRecDepth 100000 in
theorem g_X12_force_K56_e {I : Nat → Int32} {J : Nat → Int64} {ri : Nat → Nat → Int32} {rj : Nat → Nat → Int64} {rq : Nat → Nat → Option Nat} : g_X12_force_K56 I J ri rj rq  = ((-1 : Int32), I, J, ri, rj, rq) := rfl
set_option maxRecDepth 100000 in
def g_X12_force (a0 : Int32) (a1 : Int32) (a2 : Int32) (I : Nat → Int32) (J : Nat → Int64) (ri : Nat → Nat → Int32) (rj : Nat → Nat → Int64) (rq : Nat → Nat → Option Nat) : Int32 × vM := (ap1 (ri 384 6) fun (y_3 : Int32) => (ap1 ((y_3) - (1 : Int32)) fun (x_4 : Int32) => (ap1 (g_X12_isIn a0 (0 : Int32) x_4) fun (x_6 : Int32) => (if x_6 = (0 : Int32) then (g_X12_force_K56 I J ri rj rq ) else (ap1 (ri 384 0) fun (y_123 : Int32) => (ap1 (g_X12_isIn a1 (y_123) (599 : Int32)) fun (x_124 : Int32) => (if x_124 = (0 : Int32) then (g_X12_force_K56 I J ri rj rq ) else (ap1 (g_X12_isIn a2 a1 (599 : Int32)) fun (x_155 : Int32) => (if x_155 = (0 : Int32) then (g_X12_force_K56 I J ri rj rq ) else (ap1 (ri 384 ((7 : Int32)).toNatClampNeg) fun (x_186 : Int32) => (if x_186 = (30 : Int32) then (g_X12_force_K56 I J ri rj rq ) else (ap1 ((4 : Int32) * x_186) fun (x_195 : Int32) => (ap1 ((2220 : Int32) + x_195) fun (x_197 : Int32) => (ap1 (va_up ri 384 (upd (ri 384) (x_197).toNatClampNeg a0)) fun (r_199 : Nat → Nat → Int32) => (ap1 (x_197 + (1 : Int32)) fun (x_201 : Int32) => (ap1 (va_up r_199 384 (upd (r_199 384) (x_201).toNatClampNeg a1)) fun (r_203 : Nat → Nat → Int32) => (ap1 (x_197 + (2 : Int32)) fun (x_205 : Int32) => (ap1 (va_up r_203 384 (upd (r_203 384) (x_205).toNatClampNeg a2)) fun (r_207 : Nat → Nat → Int32) => (ap1 (x_186 + (1 : Int32)) fun (x_209 : Int32) => (ap1 (va_up r_207 384 (upd (r_207 384) ((7 : Int32)).toNatClampNeg x_209)) fun (r_211 : Nat → Nat → Int32) => (ap1 (x_209 - (1 : Int32)) fun (x_213 : Int32) => (x_213, I, J, r_211, rj, rq))))))))))))))))))))))
set_option maxRecDepth 100000 in
theorem g_X12_force_e {a0 : Int32} {a1 : Int32} {a2 : Int32} {I : Nat → Int32} {J : Nat → Int64} {ri : Nat → Nat → Int32} {rj : Nat → Nat → Int64} {rq : Nat → Nat → Option Nat} : g_X12_force a0 a1 a2 I J ri rj rq = (ap1 (ri 384 6) fun (y_3 : Int32) => (ap1 ((y_3) - (1 : Int32)) fun (x_4 : Int32) => (ap1 (g_X12_isIn a0 (0 : Int32) x_4) fun (x_6 : Int32) => (if x_6 = (0 : Int32) then (g_X12_force_K56 I J ri rj rq ) else (ap1 (ri 384 0) fun (y_123 : Int32) => (ap1 (g_X12_isIn a1 (y_123) (599 : Int32)) fun (x_124 : Int32) => (if x_124 = (0 : Int32) then (g_X12_force_K56 I J ri rj rq ) else (ap1 (g_X12_isIn a2 a1 (599 : Int32)) fun (x_155 : Int32) => (if x_155 = (0 : Int32) then (g_X12_force_K56 I J ri rj rq ) else (ap1 (ri 384 ((7 : Int32)).toNatClampNeg) fun (x_186 : Int32) => (if x_186 = (30 : Int32) then (g_X12_force_K56 I J ri rj rq ) else (ap1 ((4 : Int32) * x_186) fun (x_195 : Int32) => (ap1 ((2220 : Int32) + x_195) fun (x_197 : Int32) => (ap1 (va_up ri 384 (upd (ri 384) (x_197).toNatClampNeg a0)) fun (r_199 : Nat → Nat → Int32) => (ap1 (x_197 + (1 : Int32)) fun (x_201 : Int32) => (ap1 (va_up r_199 384 (upd (r_199 384) (x_201).toNatClampNeg a1)) fun (r_203 : Nat → Nat → Int32) => (ap1 (x_197 + (2 : Int32)) fun (x_205 : Int32) => (ap1 (va_up r_203 384 (upd (r_203 384) (x_205).toNatClampNeg a2)) fun (r_207 : Nat → Nat → Int32) => (ap1 (x_186 + (1 : Int32)) fun (x_209 : Int32) => (ap1 (va_up r_207 384 (upd (r_207 384) ((7 : Int32)).toNatClampNeg x_209)) fun (r_211 : Nat → Nat → Int32) => (ap1 (x_209 - (1 : Int32)) fun (x_213 : Int32) => (x_213, I, J, r_211, rj, rq)))))))))))))))))))))) := rfl
set_option maxHeartbeats 4000000 in
set_option maxRecDepth 100000 in
theorem s_X12_force (l : Launch) (D : va_G) (t : pq_T) (σ : pq_S) (I : Nat → Nat → Int32) (J : Nat → Nat → Int64) (ri : Nat → Nat → Int32) (rj : Nat → Nat → Int64) (rq : Nat → Nat → Option Nat) (sz : Nat) (tg : Nat → Nat) (hSH : SH σ tg) (hG0 : GT tg I ri) (this : Nat) (a0 : Int32) (a1 : Int32) (a2 : Int32) (hL_this : this ∈ σ.1) (hK_this : σ.2.1 this = 12) : MetI l yX12_force (wa yX12_force cX12_force 5 (some .int)) ({ frames := 1, cells := 0, slots := 0, locals := 22 }) [.ref this, .int a0, .int a1, .int a2] D t σ (I, J, ri, rj, rq) sz 0 0 (fun (r : Int32) (u : pq_S × pq_M) => ∃ ri' : Nat → Nat → Int32, u = (σ, I, J, ri', rj, rq) ∧ GM [1600, 1601, 1602, 1007] tg σ I ri I ri' rq ∧ g_X12_force a0 a1 a2 (vI 12 σ this I) (vJ 12 σ this J) (vR 12 σ this ri) (vL 12 σ this rj) (vQ 12 σ this rq) = (r, (vI 12 σ this I), (vJ 12 σ this J), (vR 12 σ this ri'), (vL 12 σ this rj), (vQ 12 σ this rq)) ∧ FR 12 tg σ this (I, J, ri, rj, rq) (I, J, ri', rj, rq) ∧ rg r (-1) 29) := by
  refine Met.ofW (cc := cX12_force) (maxL := 5) (ret := (some .int)) (by decide) rfl ?_
  intro p e s m args below meth c s₁ B hml hv
  obtain ⟨rfl, hsz, hP, hK, hD0, hN⟩ := hv
  have hx := B.exec
  have hb := B.bytes
  have hr := B.returns
  have hts := atoms_spec (ws := (wa yX12_force cX12_force 5 (some .int))) B.pre
  have hown : s.vm.findClass RX12 = some m.cls := findClass_of_methodNamed B.named
  have hlocks := B.notSynchronized
  subst hsz
  have hD : va_D (pq_B t σ (I, J, ri, rj, rq) s.heap.size) (pq_P t σ (I, J, ri, rj, rq)) := hD0.self
  generalize hAe : pq_B t σ (I, J, ri, rj, rq) s.heap.size = A at hD ⊢
  have hA : ∀ q : Nat, s.heap.size ≤ q → A q := fun q h => by rw [← hAe]; exact Or.inr h
  have hS : va_S A s.heap s.heap [] := va_S.rf
  have hG : GM [1600, 1601, 1602, 1007] tg σ I ri I ri rq := ⟨hG0, fun _ _ _ => rfl, fun _ _ _ _ _ => rfl, fun _ _ _ _ _ _ => rfl⟩
  have hl := lv_entry ([.ref this, .int a0, .int a1, .int a2]) (n := 5) (Nat.le_of_ble_eq_true rfl)
  rw [lg_entry_eq]
  generalize (lg_sl ([.ref this, .int a0, .int a1, .int a2]) ++ List.replicate (5 - (lg_sl ([.ref this, .int a0, .int a1, .int a2])).length) Slot.unset).toArray = ls at hl ⊢
  have hl : lv_has ls 5 [(0, .ref this), (1, .int a0), (2, .int a1), (3, .int a2)] := hl
  refine q_gen (fun Q hQ => ?_)
  have go : ∀ (H : Heap) (locs : List Loc) (ls : Array Slot), va_P D vwCl (pq_P t σ (I, J, ri, rj, rq)) H → va_D A (pq_P t σ (I, J, ri, rj, rq)) → va_S A s.heap H locs → lv_has ls 5 [(0, .ref this), (1, .int a0), (2, .int a1), (3, .int a2)] → W p l e ({ frames := 1, cells := 0, slots := 0, locals := 22 } : Room) s m (List.toArray ([.ref this, .int a0, .int a1, .int a2] : List Value)) below meth c H locs 0 0 Q (F0 m 0 ls []) := by
    intro H locs ls hP hD hS hl
    have hO_this : this = vo σ 12 this := rfl
    have hVT : VT 12 σ tg this := vt_12 hSH hL_this hK_this
    have hFr : FR 12 tg σ this (I, J, ri, rj, rq) (I, J, ri, rj, rq) := fr_rf
    obtain ⟨F, hF0⟩ : ∃ F, F = g_X12_force a0 a1 a2 (vI 12 σ this I) (vJ 12 σ this J) (vR 12 σ this ri) (vL 12 σ this rj) (vQ 12 σ this rq) := ⟨_, rfl⟩
    have hF := hF0.trans g_X12_force_e
    refine lv_iload_n hx hb dX12_force_0 rfl (lv_at hl 1 rfl) ?_
    refine lv_iconst (v := 0) hx hb dX12_force_1 (by decide) ?_
    refine lv_aload_n hx hb dX12_force_2 rfl (lv_at hl 0 rfl) ?_
    obtain ⟨w_1, hR_w_1, hL_w_1, hK_w_1, hN_w_1, hT_w_1⟩ := sh_a hSH 384 (ci := 12) (kd := 13) (len := 12720) rfl (by decide) hL_this hK_this
    have hO_w_1 : w_1 = vrow σ 384 this := vo_k (c := 12) hO_this hR_w_1
    refine pg_f (v := .ref w_1) (C := RX12) (T := TX12) (N := 31) hx hb hts (tw_i inlX12) hown hK hP hL_this hK_this (by decide) rfl 0 (by decide) (hts _ (tw_c tw_176)) (pq_hv rfl hR_w_1) dX12_force_3 ?_
    refine lv_bipush (v := 6) hx hb dX12_force_6 (by decide) ?_
    refine pl_i hx hb hK hP hL_w_1 hK_w_1 hN_w_1 (vp_in_iff.mpr (by decide)) dX12_force_8 ?_
    refine lv_tov (ri w_1 6) rfl ?_
    have h_2 : rg (ri w_1 6) 0 10 := GM.z0 hG0 (by rw [hT_w_1]; decide) (i := 6) (k := 6) (by decide) rfl
    have uh_2 := h_2.1
    have vh_2 := h_2.2
    replace hF := hF.trans (ap_n (vR_r hO_w_1 (by decide) rfl))
    refine lv_iconst (v := 1) hx hb dX12_force_9 (by decide) ?_
    refine lv_isub hx hb dX12_force_10 ?_
    refine lv_topi (fun x_4 ex_4 => ?_)
    replace hF := hF.trans (ap_n ex_4)
    have h_5 : rg x_4 (-1) 9 := rg_of_eq ex_4 (rg_sub h_2 (rg_k (1 : Int32) 1 rfl) (by decide))
    have uh_5 := h_5.1
    have vh_5 := h_5.2
    have tx_4 : (x_4).toInt = (ri w_1 6).toInt - 1 := by rw [ex_4]; exact i_sub_rg (a2 := (ri w_1 6).toInt) (b2 := 1) rfl rfl h_2 (rg_k (1 : Int32) 1 rfl) (by decide)
    refine pk_i (va_runS (As := [.int a0, .int 0, .int x_4]) (rest := []) ⟨hx, hb, hml, hown, hts⟩ (s_X12_isIn l D t σ I J ri rj rq H.size tg hSH hG.1 a0 (0 : Int32) x_4) (va_cwS 3 hts (tw_S tw_235 tw_236 tw_5 tw_237) rfl rfl rfl cd_yX12_isIn_3 ⟨Nat.le_of_ble_eq_true rfl, Nat.le_of_ble_eq_true rfl⟩) ⟨pq_blind, pq_pre hK hN hP hD⟩ rfl rfl hl.1 rfl (lv_room (Nat.le_of_ble_eq_true rfl)) dX12_force_11 ⟨Nat.le_of_ble_eq_true rfl, Nat.le_of_ble_eq_true rfl⟩) hD hS hA (fun x_6 σ1 μ1 H locs hw_7 hP hD hS => ?_)
    obtain ⟨hu_8, hfn_11, hr_10⟩ := hw_7
    obtain ⟨hu_8a, hu_8b⟩ := Prod.mk.inj hu_8
    rw [hu_8a, hu_8b] at hP hD
    replace hF := hF.trans (ap_n hfn_11.symm)
    have h_13 : rg x_6 0 1 := by rcases hr_10 with ⟨q, -⟩ | ⟨q, -⟩ <;> rw [q] <;> exact ⟨by decide, by decide⟩
    have uh_13 := h_13.1
    have vh_13 := h_13.2
    have K_96 : ∀  (H : Heap) (locs : List Loc) (ls : Array Slot), F = g_X12_force_K56 (vI 12 σ this I) (vJ 12 σ this J) (vR 12 σ this ri) (vL 12 σ this rj) (vQ 12 σ this rq)  → FR 12 tg σ this (I, J, ri, rj, rq) (I, J, ri, rj, rq) → GM [1600, 1601, 1602, 1007] tg σ I ri I ri rq → va_P D vwCl (pq_P t σ (I, J, ri, rj, rq)) H → va_D A (pq_P t σ (I, J, ri, rj, rq)) → va_S A s.heap H locs → lv_has ls 5 [] → W p l e ({ frames := 1, cells := 0, slots := 0, locals := 22 } : Room) s m (List.toArray ([.ref this, .int a0, .int a1, .int a2] : List Value)) below meth c H locs 0 0 Q (F0 m 56 ls []) := by
      intro H locs ls hF hFr hG hP hD hS hl
      replace hF := hF.trans g_X12_force_K56_e
      refine lv_iconst (v := (-1)) hx hb dX12_force_56 (by decide) ?_
      subst hQ
      exact W.iret (v := (-1)) hx hb hr (fun t1 ht hW => ⟨⟨(-1), (σ, I, J, ri, rj, rq), rfl, ⟨ri, rfl, hG, (hF0.symm.trans hF), hFr, (rg_w (rg_k (-1 : Int32) (-1) rfl) (by decide))⟩, by rw [ht]; exact hP, va_K.moved hW.alike hK, hD⟩, hS.F ht⟩) hS.2.2 dX12_force_57
    refine lv_if_eq (tgt := 56) hx hb dX12_force_14 (by decide) (fun c_97 => ?_) (fun c_97 => ?_)
    · replace hF := hF.trans (if_pos c_97)
      have f_110 := (hr_10.resolve_left (fun q => absurd (q.1.symm.trans c_97) (by decide))).2
      have tc_111 : (x_6).toInt = 0 := congrArg Int32.toInt c_97
      have h_112 : rg x_6 0 0 := rg_and h_13 (rg_of_eq c_97 (rg_k (0 : Int32) 0 rfl)) (by decide)
      have uh_112 := h_112.1
      have vh_112 := h_112.2
      exact K_96 _ _ _ hF hFr hG hP hD hS (lv_sub hl [] rfl)
    · replace hF := hF.trans (if_neg c_97)
      obtain ⟨f_113, f_114⟩ := (hr_10.resolve_right (fun q => c_97 q.1)).2
      have tc_115 : 0 ≤ (a0).toInt := Int32.le_iff_toInt_le.mp f_113
      have h_116 : rg a0 0 2147483647 := rg_le2 f_113 (rg_k (0 : Int32) 0 rfl) (rg_full _) (by decide)
      have uh_116 := h_116.1
      have vh_116 := h_116.2
      have tc_117 : (a0).toInt ≤ (x_4).toInt := Int32.le_iff_toInt_le.mp f_114
      have h_118 : rg a0 0 9 := rg_le1 f_114 h_116 h_5 (by decide)
      have uh_118 := h_118.1
      have vh_118 := h_118.2
      have h_119 : rg x_4 0 9 := rg_le2 f_114 h_116 h_5 (by decide)
      have uh_119 := h_119.1
      have vh_119 := h_119.2
      have tc_120 : (x_6).toInt ≠ 0 := fun q => c_97 (Int32.toInt_inj.mp q)
      have h_121 : rg x_6 1 1 := rg_ne c_97 h_13 0 rfl (by decide)
      have uh_121 := h_121.1
      have vh_121 := h_121.2
      refine lv_iload_n hx hb dX12_force_17 rfl (lv_at hl 2 rfl) ?_
      refine lv_aload_n hx hb dX12_force_18 rfl (lv_at hl 0 rfl) ?_
      refine pg_f (v := .ref w_1) (C := RX12) (T := TX12) (N := 31) hx hb hts (tw_i inlX12) hown hK hP hL_this hK_this (by decide) rfl 0 (by decide) (hts _ (tw_c tw_176)) (pq_hv rfl hR_w_1) dX12_force_19 ?_
      refine lv_iconst (v := 0) hx hb dX12_force_22 (by decide) ?_
      refine pl_i hx hb hK hP hL_w_1 hK_w_1 hN_w_1 (vp_in_iff.mpr (by decide)) dX12_force_23 ?_
      refine lv_tov (ri w_1 0) rfl ?_
      have h_122 : rg (ri w_1 0) 0 600 := GM.z0 hG0 (by rw [hT_w_1]; decide) (i := 0) (k := 0) (by decide) rfl
      have uh_122 := h_122.1
      have vh_122 := h_122.2
      replace hF := hF.trans (ap_n (vR_r hO_w_1 (by decide) rfl))
      refine lv_sipush (v := 599) hx hb dX12_force_24 (by decide) ?_
      refine pk_i (va_runS (As := [.int a1, .int (ri w_1 0), .int 599]) (rest := []) ⟨hx, hb, hml, hown, hts⟩ (s_X12_isIn l D t σ I J ri rj rq H.size tg hSH hG.1 a1 (ri w_1 0) (599 : Int32)) (va_cwS 3 hts (tw_S tw_235 tw_236 tw_5 tw_237) rfl rfl rfl cd_yX12_isIn_3 ⟨Nat.le_of_ble_eq_true rfl, Nat.le_of_ble_eq_true rfl⟩) ⟨pq_blind, pq_pre hK hN hP hD⟩ rfl rfl hl.1 rfl (lv_room (Nat.le_of_ble_eq_true rfl)) dX12_force_27 ⟨Nat.le_of_ble_eq_true rfl, Nat.le_of_ble_eq_true rfl⟩) hD hS hA (fun x_124 σ1 μ1 H locs hw_125 hP hD hS => ?_)
      obtain ⟨hu_126, hfn_129, hr_128⟩ := hw_125
      obtain ⟨hu_126a, hu_126b⟩ := Prod.mk.inj hu_126
      rw [hu_126a, hu_126b] at hP hD
      replace hF := hF.trans (ap_n hfn_129.symm)
      have h_131 : rg x_124 0 1 := by rcases hr_128 with ⟨q, -⟩ | ⟨q, -⟩ <;> rw [q] <;> exact ⟨by decide, by decide⟩
      have uh_131 := h_131.1
      have vh_131 := h_131.2
      refine lv_if_eq (tgt := 56) hx hb dX12_force_30 (by decide) (fun c_132 => ?_) (fun c_132 => ?_)
      · replace hF := hF.trans (if_pos c_132)
        have f_144 := (hr_128.resolve_left (fun q => absurd (q.1.symm.trans c_132) (by decide))).2
        have tc_145 : (x_124).toInt = 0 := congrArg Int32.toInt c_132
        have h_146 : rg x_124 0 0 := rg_and h_131 (rg_of_eq c_132 (rg_k (0 : Int32) 0 rfl)) (by decide)
        have uh_146 := h_146.1
        have vh_146 := h_146.2
        exact K_96 _ _ _ hF hFr hG hP hD hS (lv_sub hl [] rfl)
      · replace hF := hF.trans (if_neg c_132)
        obtain ⟨f_147, f_148⟩ := (hr_128.resolve_right (fun q => c_132 q.1)).2
        have tc_149 : (ri w_1 0).toInt ≤ (a1).toInt := Int32.le_iff_toInt_le.mp f_147
        have h_150 : rg a1 0 2147483647 := rg_le2 f_147 h_122 (rg_full _) (by decide)
        have uh_150 := h_150.1
        have vh_150 := h_150.2
        have tc_151 : (a1).toInt ≤ 599 := Int32.le_iff_toInt_le.mp f_148
        have h_152 : rg a1 0 599 := rg_le1 f_148 h_150 (rg_k (599 : Int32) 599 rfl) (by decide)
        have uh_152 := h_152.1
        have vh_152 := h_152.2
        have tc_153 : (x_124).toInt ≠ 0 := fun q => c_132 (Int32.toInt_inj.mp q)
        have h_154 : rg x_124 1 1 := rg_ne c_132 h_131 0 rfl (by decide)
        have uh_154 := h_154.1
        have vh_154 := h_154.2
        refine lv_iload_n hx hb dX12_force_33 rfl (lv_at hl 3 rfl) ?_
        refine lv_iload_n hx hb dX12_force_34 rfl (lv_at hl 2 rfl) ?_
        refine lv_sipush (v := 599) hx hb dX12_force_35 (by decide) ?_
        refine pk_i (va_runS (As := [.int a2, .int a1, .int 599]) (rest := []) ⟨hx, hb, hml, hown, hts⟩ (s_X12_isIn l D t σ I J ri rj rq H.size tg hSH hG.1 a2 a1 (599 : Int32)) (va_cwS 3 hts (tw_S tw_235 tw_236 tw_5 tw_237) rfl rfl rfl cd_yX12_isIn_3 ⟨Nat.le_of_ble_eq_true rfl, Nat.le_of_ble_eq_true rfl⟩) ⟨pq_blind, pq_pre hK hN hP hD⟩ rfl rfl hl.1 rfl (lv_room (Nat.le_of_ble_eq_true rfl)) dX12_force_38 ⟨Nat.le_of_ble_eq_true rfl, Nat.le_of_ble_eq_true rfl⟩) hD hS hA (fun x_155 σ1 μ1 H locs hw_156 hP hD hS => ?_)
        obtain ⟨hu_157, hfn_160, hr_159⟩ := hw_156
        obtain ⟨hu_157a, hu_157b⟩ := Prod.mk.inj hu_157
        rw [hu_157a, hu_157b] at hP hD
        replace hF := hF.trans (ap_n hfn_160.symm)
        have h_162 : rg x_155 0 1 := by rcases hr_159 with ⟨q, -⟩ | ⟨q, -⟩ <;> rw [q] <;> exact ⟨by decide, by decide⟩
        have uh_162 := h_162.1
        have vh_162 := h_162.2
        refine lv_if_eq (tgt := 56) hx hb dX12_force_41 (by decide) (fun c_163 => ?_) (fun c_163 => ?_)
        · replace hF := hF.trans (if_pos c_163)
          have f_175 := (hr_159.resolve_left (fun q => absurd (q.1.symm.trans c_163) (by decide))).2
          have tc_176 : (x_155).toInt = 0 := congrArg Int32.toInt c_163
          have h_177 : rg x_155 0 0 := rg_and h_162 (rg_of_eq c_163 (rg_k (0 : Int32) 0 rfl)) (by decide)
          have uh_177 := h_177.1
          have vh_177 := h_177.2
          exact K_96 _ _ _ hF hFr hG hP hD hS (lv_sub hl [] rfl)
        · replace hF := hF.trans (if_neg c_163)
          obtain ⟨f_178, f_179⟩ := (hr_159.resolve_right (fun q => c_163 q.1)).2
          have tc_180 : (a1).toInt ≤ (a2).toInt := Int32.le_iff_toInt_le.mp f_178
          have h_181 : rg a2 0 2147483647 := rg_le2 f_178 h_152 (rg_full _) (by decide)
          have uh_181 := h_181.1
          have vh_181 := h_181.2
          have tc_182 : (a2).toInt ≤ 599 := Int32.le_iff_toInt_le.mp f_179
          have h_183 : rg a2 0 599 := rg_le1 f_179 h_181 (rg_k (599 : Int32) 599 rfl) (by decide)
          have uh_183 := h_183.1
          have vh_183 := h_183.2
          have tc_184 : (x_155).toInt ≠ 0 := fun q => c_163 (Int32.toInt_inj.mp q)
          have h_185 : rg x_155 1 1 := rg_ne c_163 h_162 0 rfl (by decide)
          have uh_185 := h_185.1
          have vh_185 := h_185.2
          refine lv_aload_n hx hb dX12_force_44 rfl (lv_at hl 0 rfl) ?_
          refine pg_f (v := .ref w_1) (C := RX12) (T := TX12) (N := 31) hx hb hts (tw_i inlX12) hown hK hP hL_this hK_this (by decide) rfl 0 (by decide) (hts _ (tw_c tw_176)) (pq_hv rfl hR_w_1) dX12_force_45 ?_
          refine lv_bipush (v := 7) hx hb dX12_force_48 (by decide) ?_
          refine pl_i hx hb hK hP hL_w_1 hK_w_1 hN_w_1 (vp_in_iff.mpr (by decide)) dX12_force_50 ?_
          refine lv_topi (fun x_186 ex_186 => ?_)
          replace hF := hF.trans (ap_n (vR_r hO_w_1 (by decide) ex_186))
          have h_187 : rg x_186 0 30 := rg_of_eq ex_186 (GM.z hG (by rw [hT_w_1]; decide) (show zn ((7 : Int32)).toNatClampNeg = 7 from by decide) rfl)
          have uh_187 := h_187.1
          have vh_187 := h_187.2
          refine lv_bipush (v := 30) hx hb dX12_force_51 (by decide) ?_
          refine lv_icmp_ne (tgt := 58) hx hb dX12_force_53 (by decide) (fun c_188 => ?_) (fun c_188 => ?_)
          · replace hF := hF.trans (if_neg c_188)
            have tc_193 : (x_186).toInt ≠ 30 := fun q => c_188 (Int32.toInt_inj.mp q)
            have h_194 : rg x_186 0 29 := rg_ne c_188 h_187 30 rfl (by decide)
            have uh_194 := h_194.1
            have vh_194 := h_194.2
            refine lv_sipush (v := 2220) hx hb dX12_force_58 (by decide) ?_
            refine lv_iconst (v := 4) hx hb dX12_force_61 (by decide) ?_
            refine lv_aload_n hx hb dX12_force_62 rfl (lv_at hl 0 rfl) ?_
            refine pg_f (v := .ref w_1) (C := RX12) (T := TX12) (N := 31) hx hb hts (tw_i inlX12) hown hK hP hL_this hK_this (by decide) rfl 0 (by decide) (hts _ (tw_c tw_176)) (pq_hv rfl hR_w_1) dX12_force_63 ?_
            refine lv_bipush (v := 7) hx hb dX12_force_66 (by decide) ?_
            refine pl_i hx hb hK hP hL_w_1 hK_w_1 hN_w_1 (vp_in_iff.mpr (by decide)) dX12_force_68 ?_
            refine lv_tov x_186 ex_186.symm ?_
            refine lv_imul hx hb dX12_force_69 ?_
            refine lv_topi (fun x_195 ex_195 => ?_)
            replace hF := hF.trans (ap_n ex_195)
            have h_196 : rg x_195 0 116 := rg_of_eq ex_195 (rg_mul (rg_k (4 : Int32) 4 rfl) h_194 (by decide))
            have uh_196 := h_196.1
            have vh_196 := h_196.2
            have tx_195 : (x_195).toInt = 4 * (x_186).toInt := by rw [ex_195]; exact i_mul_rg (a2 := 4) (b2 := (x_186).toInt) rfl rfl (rg_k (4 : Int32) 4 rfl) h_194 (by decide)
            refine lv_iadd hx hb dX12_force_70 ?_
            refine lv_topi (fun x_197 ex_197 => ?_)
            replace hF := hF.trans (ap_n ex_197)
            have h_198 : rg x_197 2220 2336 := rg_of_eq ex_197 (rg_add (rg_k (2220 : Int32) 2220 rfl) h_196 (by decide))
            have uh_198 := h_198.1
            have vh_198 := h_198.2
            have tx_197 : (x_197).toInt = 2220 + (x_195).toInt := by rw [ex_197]; exact i_add_rg (a2 := 2220) (b2 := (x_195).toInt) rfl rfl (rg_k (2220 : Int32) 2220 rfl) h_196 (by decide)
            refine lv_istore (lv' := [(4, .int x_197), (0, .ref this), (1, .int a0), (2, .int a1), (3, .int a2)]) hx hb dX12_force_71 hl (by decide) rfl (fun ls hl => ?_)
            refine lv_aload_n hx hb dX12_force_73 rfl (lv_at hl 1 rfl) ?_
            refine pg_f (v := .ref w_1) (C := RX12) (T := TX12) (N := 31) hx hb hts (tw_i inlX12) hown hK hP hL_this hK_this (by decide) rfl 0 (by decide) (hts _ (tw_c tw_176)) (pq_hv rfl hR_w_1) dX12_force_74 ?_
            refine lv_iload hx hb dX12_force_77 (lv_at hl 0 rfl) ?_
            refine lv_iload_n hx hb dX12_force_79 rfl (lv_at hl 2 rfl) ?_
            refine pt_i hx hb hK hP hD hS hL_w_1 hK_w_1 hN_w_1 (rg_in h_198 (by decide)) dX12_force_80 (fun r_199 H locs er_199 hP hD hS => ?_)
            replace hFr := fr_R hFr hO_w_1 (by decide) er_199
            replace hF := hF.trans (ap_n (vR_st hVT hO_w_1 (by decide) er_199))
            have hfv : (x_197).toNatClampNeg = 2220 + 4 * (x_186).toNatClampNeg := by have z_i := clampE x_197; have z_0 := clampE x_186; omega
            have hf30 : (x_186).toNatClampNeg < 30 := rg_cl1 h_194 (by decide)
            have hfn : (ri w_1 7).toInt ≤ ((x_186).toNatClampNeg : Int) := by have z_0 := clampE x_186; have z_1 := congrArg Int32.toInt (show ri w_1 7 = x_186 from ex_186.symm); omega
            have hG := GM.wf0 hG hT_w_1 (by decide) er_199 hfv hf30 hfn rfl (rg_w h_118 (by decide)) (by decide)
            have hfc := fc_eq er_199 hfv
            have h_200 : r_199 w_1 7 = x_186 := cz_ne er_199 (zn_FORCE (c := x_186.toNatClampNeg) (k := 0) (by have z_i := clampE x_197; have z_0 := clampE x_186; omega) (rg_cl1 h_194 (by decide)) (by decide)) (by decide) (by decide) ex_186.symm
            refine lv_aload_n hx hb dX12_force_81 rfl (lv_at hl 1 rfl) ?_
            refine pg_f (v := .ref w_1) (C := RX12) (T := TX12) (N := 31) hx hb hts (tw_i inlX12) hown hK hP hL_this hK_this (by decide) rfl 0 (by decide) (hts _ (tw_c tw_176)) (pq_hv rfl hR_w_1) dX12_force_82 ?_
            refine lv_iload hx hb dX12_force_85 (lv_at hl 0 rfl) ?_
            refine lv_iconst (v := 1) hx hb dX12_force_87 (by decide) ?_
            refine lv_iadd hx hb dX12_force_88 ?_
            refine lv_topi (fun x_201 ex_201 => ?_)
            replace hF := hF.trans (ap_n ex_201)
            have h_202 : rg x_201 2221 2337 := rg_of_eq ex_201 (rg_add h_198 (rg_k (1 : Int32) 1 rfl) (by decide))
            have uh_202 := h_202.1
            have vh_202 := h_202.2
            have tx_201 : (x_201).toInt = (x_197).toInt + 1 := by rw [ex_201]; exact i_add_rg (a2 := (x_197).toInt) (b2 := 1) rfl rfl h_198 (rg_k (1 : Int32) 1 rfl) (by decide)
            refine lv_iload_n hx hb dX12_force_89 rfl (lv_at hl 3 rfl) ?_
            refine pt_i hx hb hK hP hD hS hL_w_1 hK_w_1 hN_w_1 (rg_in h_202 (by decide)) dX12_force_90 (fun r_203 H locs er_203 hP hD hS => ?_)
            replace hFr := fr_R hFr hO_w_1 (by decide) er_203
            replace hF := hF.trans (ap_n (vR_st hVT hO_w_1 (by decide) er_203))
            have hG := GM.wz hG hT_w_1 (by decide) er_203 (zn_FORCE (c := x_186.toNatClampNeg) (k := 1) (by have z_i := clampE x_201; have z_0 := clampE x_186; omega) (rg_cl1 h_194 (by decide)) (by decide)) rfl (rg_w h_152 (by decide)) (by decide)
            have h_204 : r_203 w_1 7 = x_186 := cz_ne er_203 (zn_FORCE (c := x_186.toNatClampNeg) (k := 1) (by have z_i := clampE x_201; have z_0 := clampE x_186; omega) (rg_cl1 h_194 (by decide)) (by decide)) (by decide) (by decide) h_200
            have hfc := fc_ne er_203 (by have z_i := clampE x_201; have z_0 := clampE x_186; omega) hfc
            refine lv_aload_n hx hb dX12_force_91 rfl (lv_at hl 1 rfl) ?_
            refine pg_f (v := .ref w_1) (C := RX12) (T := TX12) (N := 31) hx hb hts (tw_i inlX12) hown hK hP hL_this hK_this (by decide) rfl 0 (by decide) (hts _ (tw_c tw_176)) (pq_hv rfl hR_w_1) dX12_force_92 ?_
            refine lv_iload hx hb dX12_force_95 (lv_at hl 0 rfl) ?_
            refine lv_iconst (v := 2) hx hb dX12_force_97 (by decide) ?_
            refine lv_iadd hx hb dX12_force_98 ?_
            refine lv_topi (fun x_205 ex_205 => ?_)
            replace hF := hF.trans (ap_n ex_205)
            have h_206 : rg x_205 2222 2338 := rg_of_eq ex_205 (rg_add h_198 (rg_k (2 : Int32) 2 rfl) (by decide))
            have uh_206 := h_206.1
            have vh_206 := h_206.2
            have tx_205 : (x_205).toInt = (x_197).toInt + 2 := by rw [ex_205]; exact i_add_rg (a2 := (x_197).toInt) (b2 := 2) rfl rfl h_198 (rg_k (2 : Int32) 2 rfl) (by decide)
            refine lv_iload_n hx hb dX12_force_99 rfl (lv_at hl 4 rfl) ?_
            refine pt_i hx hb hK hP hD hS hL_w_1 hK_w_1 hN_w_1 (rg_in h_206 (by decide)) dX12_force_100 (fun r_207 H locs er_207 hP hD hS => ?_)
            replace hFr := fr_R hFr hO_w_1 (by decide) er_207
            replace hF := hF.trans (ap_n (vR_st hVT hO_w_1 (by decide) er_207))
            have hG := GM.wz hG hT_w_1 (by decide) er_207 (zn_FORCE (c := x_186.toNatClampNeg) (k := 2) (by have z_i := clampE x_205; have z_0 := clampE x_186; omega) (rg_cl1 h_194 (by decide)) (by decide)) rfl (rg_w h_183 (by decide)) (by decide)
            have h_208 : r_207 w_1 7 = x_186 := cz_ne er_207 (zn_FORCE (c := x_186.toNatClampNeg) (k := 2) (by have z_i := clampE x_205; have z_0 := clampE x_186; omega) (rg_cl1 h_194 (by decide)) (by decide)) (by decide) (by decide) h_204
            have hfc := fc_ne er_207 (by have z_i := clampE x_205; have z_0 := clampE x_186; omega) hfc
            refine lv_aload_n hx hb dX12_force_101 rfl (lv_at hl 1 rfl) ?_
            refine pg_f (v := .ref w_1) (C := RX12) (T := TX12) (N := 31) hx hb hts (tw_i inlX12) hown hK hP hL_this hK_this (by decide) rfl 0 (by decide) (hts _ (tw_c tw_176)) (pq_hv rfl hR_w_1) dX12_force_102 ?_
            refine lv_bipush (v := 7) hx hb dX12_force_105 (by decide) ?_
            refine lv_dup2_11 hx hb dX12_force_107 rfl rfl ?_
            refine pl_i hx hb hK hP hL_w_1 hK_w_1 hN_w_1 (vp_in_iff.mpr (by decide)) dX12_force_108 ?_
            refine lv_tov x_186 h_208 ?_
            refine lv_iconst (v := 1) hx hb dX12_force_109 (by decide) ?_
            refine lv_iadd hx hb dX12_force_110 ?_
            refine lv_topi (fun x_209 ex_209 => ?_)
            replace hF := hF.trans (ap_n ex_209)
            have h_210 : rg x_209 1 30 := rg_of_eq ex_209 (rg_add h_194 (rg_k (1 : Int32) 1 rfl) (by decide))
            have uh_210 := h_210.1
            have vh_210 := h_210.2
            have tx_209 : (x_209).toInt = (x_186).toInt + 1 := by rw [ex_209]; exact i_add_rg (a2 := (x_186).toInt) (b2 := 1) rfl rfl h_194 (rg_k (1 : Int32) 1 rfl) (by decide)
            refine pt_i hx hb hK hP hD hS hL_w_1 hK_w_1 hN_w_1 (vp_in_iff.mpr (by decide)) dX12_force_111 (fun r_211 H locs er_211 hP hD hS => ?_)
            replace hFr := fr_R hFr hO_w_1 (by decide) er_211
            replace hF := hF.trans (ap_n (vR_st hVT hO_w_1 (by decide) er_211))
            have hf6 := congrArg Int32.toInt (hG.2.2.1 w_1 hT_w_1 6 (by decide) (by decide))
            have hf7 := congrArg Int32.toInt (show r_207 w_1 7 = x_186 from h_208)
            have hfd := congrArg Int32.toInt hfc
            have hG := GM.wf7 hG hT_w_1 (by decide) er_211 rfl (n := (x_186).toNatClampNeg) (by have z_0 := clampE x_186; omega) (by have z_0 := clampE x_186; omega) (rg_w h_210 (by decide)) (by omega) (by decide)
            have h_212 : r_211 w_1 7 = x_209 := cz_eq er_211
            refine lv_aload_n hx hb dX12_force_112 rfl (lv_at hl 1 rfl) ?_
            refine pg_f (v := .ref w_1) (C := RX12) (T := TX12) (N := 31) hx hb hts (tw_i inlX12) hown hK hP hL_this hK_this (by decide) rfl 0 (by decide) (hts _ (tw_c tw_176)) (pq_hv rfl hR_w_1) dX12_force_113 ?_
            refine lv_bipush (v := 7) hx hb dX12_force_116 (by decide) ?_
            refine pl_i hx hb hK hP hL_w_1 hK_w_1 hN_w_1 (vp_in_iff.mpr (by decide)) dX12_force_118 ?_
            refine lv_tov x_209 h_212 ?_
            refine lv_iconst (v := 1) hx hb dX12_force_119 (by decide) ?_
            refine lv_isub hx hb dX12_force_120 ?_
            refine lv_topi (fun x_213 ex_213 => ?_)
            replace hF := hF.trans (ap_n ex_213)
            have h_214 : rg x_213 0 29 := rg_of_eq ex_213 (rg_sub h_210 (rg_k (1 : Int32) 1 rfl) (by decide))
            have uh_214 := h_214.1
            have vh_214 := h_214.2
            have tx_213 : (x_213).toInt = (x_209).toInt - 1 := by rw [ex_213]; exact i_sub_rg (a2 := (x_209).toInt) (b2 := 1) rfl rfl h_210 (rg_k (1 : Int32) 1 rfl) (by decide)
            subst hQ
            exact W.iret (v := x_213) hx hb hr (fun t1 ht hW => ⟨⟨x_213, (σ, I, J, r_211, rj, rq), rfl, ⟨r_211, rfl, hG, (hF0.symm.trans hF), hFr, (rg_w h_214 (by decide))⟩, by rw [ht]; exact hP, va_K.moved hW.alike hK, hD⟩, hS.F ht⟩) hS.2.2 dX12_force_121
          · replace hF := hF.trans (if_pos c_188)
            have tc_215 : (x_186).toInt = 30 := congrArg Int32.toInt c_188
            have h_216 : rg x_186 30 30 := rg_and h_187 (rg_of_eq c_188 (rg_k (30 : Int32) 30 rfl)) (by decide)
            have uh_216 := h_216.1
            have vh_216 := h_216.2
            exact K_96 _ _ _ hF hFr hG hP hD hS (lv_sub hl [] rfl)
  exact go _ _ _ hP hD hS hl

set_option maxRecDepth 100000 in
def g_X12_numberOf (a0 : Int32) (a1 : Int32) (a2 : Int32) (I : Nat → Int32) (J : Nat → Int64) (ri : Nat → Nat → Int32) (rj : Nat → Nat → Int64) (rq : Nat → Nat → Option Nat) : Int32 × vM := (bnI (g_X12_textFor a0 a1 I J ri rj rq) fun (x_1 : Int32) (_ : Nat → Int32) (_ : Nat → Int64) (_ : Nat → Nat → Int32) (_ : Nat → Nat → Int64) (_ : Nat → Nat → Option Nat) => (if (0 : Int32) ≤ x_1 then (bnI (g_X12_firstOf x_1 a0 I J ri rj rq) fun (x_17 : Int32) (_ : Nat → Int32) (_ : Nat → Int64) (_ : Nat → Nat → Int32) (_ : Nat → Nat → Int64) (_ : Nat → Nat → Option Nat) => (ap1 (x_17 + (1 : Int32)) fun (x_25 : Int32) => (ap1 (ri 384 (x_25).toNatClampNeg) fun (x_27 : Int32) => (x_27, I, J, ri, rj, rq)))) else (a2, I, J, ri, rj, rq)))
set_option maxRecDepth 100000 in
theorem g_X12_numberOf_e {a0 : Int32} {a1 : Int32} {a2 : Int32} {I : Nat → Int32} {J : Nat → Int64} {ri : Nat → Nat → Int32} {rj : Nat → Nat → Int64} {rq : Nat → Nat → Option Nat} : g_X12_numberOf a0 a1 a2 I J ri rj rq = (bnI (g_X12_textFor a0 a1 I J ri rj rq) fun (x_1 : Int32) (_ : Nat → Int32) (_ : Nat → Int64) (_ : Nat → Nat → Int32) (_ : Nat → Nat → Int64) (_ : Nat → Nat → Option Nat) => (if (0 : Int32) ≤ x_1 then (bnI (g_X12_firstOf x_1 a0 I J ri rj rq) fun (x_17 : Int32) (_ : Nat → Int32) (_ : Nat → Int64) (_ : Nat → Nat → Int32) (_ : Nat → Nat → Int64) (_ : Nat → Nat → Option Nat) => (ap1 (x_17 + (1 : Int32)) fun (x_25 : Int32) => (ap1 (ri 384 (x_25).toNatClampNeg) fun (x_27 : Int32) => (x_27, I, J, ri, rj, rq)))) else (a2, I, J, ri, rj, rq))) := rfl
set_option maxHeartbeats 4000000 in
set_option maxRecDepth 100000 in
theorem s_X12_numberOf (l : Launch) (D : va_G) (t : pq_T) (σ : pq_S) (I : Nat → Nat → Int32) (J : Nat → Nat → Int64) (ri : Nat → Nat → Int32) (rj : Nat → Nat → Int64) (rq : Nat → Nat → Option Nat) (sz : Nat) (tg : Nat → Nat) (hSH : SH σ tg) (hG0 : GT tg I ri) (this : Nat) (a0 : Int32) (a1 : Int32) (a2 : Int32) (hL_this : this ∈ σ.1) (hK_this : σ.2.1 this = 12) (this_a : Nat) (hR_this_a : σ.2.2.1 384 this = some this_a) (hL_this_a : this_a ∈ σ.1) (hK_this_a : σ.2.1 this_a = 13) (hN_this_a : σ.2.2.2 this_a = 12720) (hT_this_a : tg this_a = 384) : MetI l yX12_numberOf (wa yX12_numberOf cX12_numberOf 5 (some .int)) ({ frames := 3, cells := 0, slots := 0, locals := 69 }) [.ref this, .int a0, .int a1, .int a2] D t σ (I, J, ri, rj, rq) sz 0 0 (fun (r : Int32) (u : pq_S × pq_M) => u = (σ, I, J, ri, rj, rq) ∧ g_X12_numberOf a0 a1 a2 (vI 12 σ this I) (vJ 12 σ this J) (vR 12 σ this ri) (vL 12 σ this rj) (vQ 12 σ this rq) = (r, (vI 12 σ this I), (vJ 12 σ this J), (vR 12 σ this ri), (vL 12 σ this rj), (vQ 12 σ this rq))) := by
  refine Met.ofW (cc := cX12_numberOf) (maxL := 5) (ret := (some .int)) (by decide) rfl ?_
  intro p e s m args below meth c s₁ B hml hv
  obtain ⟨rfl, hsz, hP, hK, hD0, hN⟩ := hv
  have hx := B.exec
  have hb := B.bytes
  have hr := B.returns
  have hts := atoms_spec (ws := (wa yX12_numberOf cX12_numberOf 5 (some .int))) B.pre
  have hown : s.vm.findClass RX12 = some m.cls := findClass_of_methodNamed B.named
  have hlocks := B.notSynchronized
  subst hsz
  have hD : va_D (pq_B t σ (I, J, ri, rj, rq) s.heap.size) (pq_P t σ (I, J, ri, rj, rq)) := hD0.self
  generalize hAe : pq_B t σ (I, J, ri, rj, rq) s.heap.size = A at hD ⊢
  have hA : ∀ q : Nat, s.heap.size ≤ q → A q := fun q h => by rw [← hAe]; exact Or.inr h
  have hS : va_S A s.heap s.heap [] := va_S.rf
  have hG : GM [] tg σ I ri I ri rq := ⟨hG0, fun _ _ _ => rfl, fun _ _ _ _ _ => rfl, fun _ _ _ _ _ _ => rfl⟩
  have hl := lv_entry ([.ref this, .int a0, .int a1, .int a2]) (n := 5) (Nat.le_of_ble_eq_true rfl)
  rw [lg_entry_eq]
  generalize (lg_sl ([.ref this, .int a0, .int a1, .int a2]) ++ List.replicate (5 - (lg_sl ([.ref this, .int a0, .int a1, .int a2])).length) Slot.unset).toArray = ls at hl ⊢
  have hl : lv_has ls 5 [(0, .ref this), (1, .int a0), (2, .int a1), (3, .int a2)] := hl
  refine q_gen (fun Q hQ => ?_)
  have go : ∀ (H : Heap) (locs : List Loc) (ls : Array Slot), va_P D vwCl (pq_P t σ (I, J, ri, rj, rq)) H → va_D A (pq_P t σ (I, J, ri, rj, rq)) → va_S A s.heap H locs → lv_has ls 5 [(0, .ref this), (1, .int a0), (2, .int a1), (3, .int a2)] → W p l e ({ frames := 3, cells := 0, slots := 0, locals := 69 } : Room) s m (List.toArray ([.ref this, .int a0, .int a1, .int a2] : List Value)) below meth c H locs 0 0 Q (F0 m 0 ls []) := by
    intro H locs ls hP hD hS hl
    have hO_this : this = vo σ 12 this := rfl
    have hVT : VT 12 σ tg this := vt_12 hSH hL_this hK_this
    have hFr : FR 12 tg σ this (I, J, ri, rj, rq) (I, J, ri, rj, rq) := fr_rf
    have hO_this_a : this_a = vrow σ 384 this := vo_k (c := 12) hO_this hR_this_a
    obtain ⟨F, hF0⟩ : ∃ F, F = g_X12_numberOf a0 a1 a2 (vI 12 σ this I) (vJ 12 σ this J) (vR 12 σ this ri) (vL 12 σ this rj) (vQ 12 σ this rq) := ⟨_, rfl⟩
    have hF := hF0.trans g_X12_numberOf_e
    refine lv_aload_n hx hb dX12_numberOf_0 rfl (lv_at hl 0 rfl) ?_
    refine lv_iload_n hx hb dX12_numberOf_1 rfl (lv_at hl 1 rfl) ?_
    refine lv_iload_n hx hb dX12_numberOf_2 rfl (lv_at hl 2 rfl) ?_
    refine pk_i (va_runV (As := [.int a0, .int a1]) (rest := []) ⟨hx, hb, hml, hown, hts⟩ (s_X12_textFor l D t σ I J ri rj rq H.size tg hSH hG.1 this a0 a1 hL_this hK_this this_a hR_this_a hL_this_a hK_this_a hN_this_a hT_this_a) (cwV 2 hts (tw_V tw_508 tw_509 tw_510 tw_5 tw_511) rfl rfl rfl cv_yX12_textFor_2 ⟨Nat.le_of_ble_eq_true rfl, Nat.le_of_ble_eq_true rfl⟩) ⟨pq_blind, pq_recv hK hP hL_this hK_this (by decide) rfl, pq_pre hK hN hP hD⟩ rfl rfl hl.1 rfl (lv_room (Nat.le_of_ble_eq_true rfl)) dX12_numberOf_3 ⟨Nat.le_of_ble_eq_true rfl, Nat.le_of_ble_eq_true rfl⟩) hD hS hA (fun x_1 σ1 μ1 H locs hw_2 hP hD hS => ?_)
    obtain ⟨hu_3, hp_6, hfn_7, hr_5⟩ := hw_2
    obtain ⟨hu_3a, hu_3b⟩ := Prod.mk.inj hu_3
    rw [hu_3a, hu_3b] at hP hD
    replace hF := hF.trans (bn_n hfn_7)
    have tt_9 := hp_6
    refine lv_istore (lv' := [(4, .int x_1), (0, .ref this), (1, .int a0), (2, .int a1), (3, .int a2)]) hx hb dX12_numberOf_6 hl (by decide) rfl (fun ls hl => ?_)
    refine lv_iload hx hb dX12_numberOf_8 (lv_at hl 0 rfl) ?_
    refine lv_if_ge (tgt := 17) hx hb dX12_numberOf_10 (by decide) (fun c_10 => ?_) (fun c_10 => ?_)
    · replace hF := hF.trans (if_pos c_10)
      have tc_15 : 0 ≤ (x_1).toInt := Int32.le_iff_toInt_le.mp c_10
      have h_16 : rg x_1 0 9 := rg_le2 c_10 (rg_k (0 : Int32) 0 rfl) hr_5 (by decide)
      have uh_16 := h_16.1
      have vh_16 := h_16.2
      refine lv_aload_n hx hb dX12_numberOf_17 rfl (lv_at hl 1 rfl) ?_
      refine pg_f (v := .ref this_a) (C := RX12) (T := TX12) (N := 31) hx hb hts (tw_i inlX12) hown hK hP hL_this hK_this (by decide) rfl 0 (by decide) (hts _ (tw_c tw_176)) (pq_hv rfl hR_this_a) dX12_numberOf_18 ?_
      refine lv_aload_n hx hb dX12_numberOf_21 rfl (lv_at hl 1 rfl) ?_
      refine lv_iload hx hb dX12_numberOf_22 (lv_at hl 0 rfl) ?_
      refine lv_iload_n hx hb dX12_numberOf_24 rfl (lv_at hl 2 rfl) ?_
      refine pk_i (va_runV (As := [.int x_1, .int a0]) (rest := [.ref this_a]) ⟨hx, hb, hml, hown, hts⟩ (s_X12_firstOf l D t σ I J ri rj rq H.size tg hSH hG.1 this x_1 a0 hL_this hK_this (rg_w h_16 (by decide)) this_a hR_this_a hL_this_a hK_this_a hN_this_a hT_this_a) (cwV 2 hts (tw_V tw_512 tw_513 tw_514 tw_5 tw_515) rfl rfl rfl cv_yX12_firstOf_2 ⟨Nat.le_of_ble_eq_true rfl, Nat.le_of_ble_eq_true rfl⟩) ⟨pq_blind, pq_recv hK hP hL_this hK_this (by decide) rfl, pq_pre hK hN hP hD⟩ rfl rfl hl.1 rfl (lv_room (Nat.le_of_ble_eq_true rfl)) dX12_numberOf_25 ⟨Nat.le_of_ble_eq_true rfl, Nat.le_of_ble_eq_true rfl⟩) hD hS hA (fun x_17 σ1 μ1 H locs hw_18 hP hD hS => ?_)
      obtain ⟨hu_19, hp_22, hfn_23, hr_21⟩ := hw_18
      obtain ⟨hu_19a, hu_19b⟩ := Prod.mk.inj hu_19
      rw [hu_19a, hu_19b] at hP hD
      replace hF := hF.trans (bn_n hfn_23)
      refine lv_iconst (v := 1) hx hb dX12_numberOf_28 (by decide) ?_
      refine lv_iadd hx hb dX12_numberOf_29 ?_
      refine lv_topi (fun x_25 ex_25 => ?_)
      replace hF := hF.trans (ap_n ex_25)
      have h_26 : rg x_25 0 12062 := rg_of_eq ex_25 (rg_add hr_21 (rg_k (1 : Int32) 1 rfl) (by decide))
      have uh_26 := h_26.1
      have vh_26 := h_26.2
      have tx_25 : (x_25).toInt = (x_17).toInt + 1 := by rw [ex_25]; exact i_add_rg (a2 := (x_17).toInt) (b2 := 1) rfl rfl hr_21 (rg_k (1 : Int32) 1 rfl) (by decide)
      refine pl_i hx hb hK hP hL_this_a hK_this_a hN_this_a (rg_in h_26 (by decide)) dX12_numberOf_30 ?_
      refine lv_topi (fun x_27 ex_27 => ?_)
      replace hF := hF.trans (ap_n (vR_r hO_this_a (by decide) ex_27))
      subst hQ
      exact W.iret (v := x_27) hx hb hr (fun t1 ht hW => ⟨⟨x_27, (σ, I, J, ri, rj, rq), rfl, ⟨rfl, (hF0.symm.trans hF)⟩, by rw [ht]; exact hP, va_K.moved hW.alike hK, hD⟩, hS.F ht⟩) hS.2.2 dX12_numberOf_31
    · replace hF := hF.trans (if_neg c_10)
      have tc_28 : (x_1).toInt < 0 := Int32.lt_iff_toInt_lt.mp (nle c_10)
      have h_29 : rg x_1 (-1) (-1) := rg_lt1 (nle c_10) hr_5 (rg_k (0 : Int32) 0 rfl) (by decide)
      have uh_29 := h_29.1
      have vh_29 := h_29.2
      refine lv_iload_n hx hb dX12_numberOf_13 rfl (lv_at hl 4 rfl) ?_
      refine lv_goto (tgt := 31) hx hb dX12_numberOf_14 (by decide) ?_
      subst hQ
      exact W.iret (v := a2) hx hb hr (fun t1 ht hW => ⟨⟨a2, (σ, I, J, ri, rj, rq), rfl, ⟨rfl, (hF0.symm.trans hF)⟩, by rw [ht]; exact hP, va_K.moved hW.alike hK, hD⟩, hS.F ht⟩) hS.2.2 dX12_numberOf_31
  exact go _ _ _ hP hD hS hl

set_option maxRecDepth 100000 in
def g_X12_isFor (a0 : Int32) (a1 : Int32) (a2 : Int32) (I : Nat → Int32) (J : Nat → Int64) (ri : Nat → Nat → Int32) (rj : Nat → Nat → Int64) (rq : Nat → Nat → Option Nat) : Int32 × vM := (bnI (g_X12_textFor a0 a2 I J ri rj rq) fun (x_1 : Int32) (_ : Nat → Int32) (_ : Nat → Int64) (_ : Nat → Nat → Int32) (_ : Nat → Nat → Int64) (_ : Nat → Nat → Option Nat) => (if x_1 < (0 : Int32) then ((1 : Int32), I, J, ri, rj, rq) else (bnI (g_X12_firstSo a0 a1 a2 (0 : Int32) I J ri rj rq) fun (x_19 : Int32) (_ : Nat → Int32) (_ : Nat → Int64) (ri_21 : Nat → Nat → Int32) (rj_22 : Nat → Nat → Int64) (_ : Nat → Nat → Option Nat) => (if x_19 < (0 : Int32) then ((0 : Int32), I, J, ri_21, rj_22, rq) else ((1 : Int32), I, J, ri_21, rj_22, rq)))))
set_option maxRecDepth 100000 in
theorem g_X12_isFor_e {a0 : Int32} {a1 : Int32} {a2 : Int32} {I : Nat → Int32} {J : Nat → Int64} {ri : Nat → Nat → Int32} {rj : Nat → Nat → Int64} {rq : Nat → Nat → Option Nat} : g_X12_isFor a0 a1 a2 I J ri rj rq = (bnI (g_X12_textFor a0 a2 I J ri rj rq) fun (x_1 : Int32) (_ : Nat → Int32) (_ : Nat → Int64) (_ : Nat → Nat → Int32) (_ : Nat → Nat → Int64) (_ : Nat → Nat → Option Nat) => (if x_1 < (0 : Int32) then ((1 : Int32), I, J, ri, rj, rq) else (bnI (g_X12_firstSo a0 a1 a2 (0 : Int32) I J ri rj rq) fun (x_19 : Int32) (_ : Nat → Int32) (_ : Nat → Int64) (ri_21 : Nat → Nat → Int32) (rj_22 : Nat → Nat → Int64) (_ : Nat → Nat → Option Nat) => (if x_19 < (0 : Int32) then ((0 : Int32), I, J, ri_21, rj_22, rq) else ((1 : Int32), I, J, ri_21, rj_22, rq))))) := rfl
set_option maxHeartbeats 4000000 in
set_option maxRecDepth 100000 in
theorem s_X12_isFor (l : Launch) (D : va_G) (t : pq_T) (σ : pq_S) (I : Nat → Nat → Int32) (J : Nat → Nat → Int64) (ri : Nat → Nat → Int32) (rj : Nat → Nat → Int64) (rq : Nat → Nat → Option Nat) (sz : Nat) (tg : Nat → Nat) (hSH : SH σ tg) (hG0 : GT tg I ri) (this : Nat) (a0 : Int32) (a1 : Int32) (a2 : Int32) (hL_this : this ∈ σ.1) (hK_this : σ.2.1 this = 12) (h_a0 : rg a0 2 4) (h_a1 : rg a1 0 39) (this_a : Nat) (hR_this_a : σ.2.2.1 384 this = some this_a) (hL_this_a : this_a ∈ σ.1) (hK_this_a : σ.2.1 this_a = 13) (hN_this_a : σ.2.2.2 this_a = 12720) (hT_this_a : tg this_a = 384) : MetI l yX12_isFor (wa yX12_isFor cX12_isFor 4 (some .boolean)) ({ frames := 4, cells := 0, slots := 0, locals := 102 }) [.ref this, .int a0, .int a1, .int a2] D t σ (I, J, ri, rj, rq) sz 0 0 (fun (r : Int32) (u : pq_S × pq_M) => ∃ ri' : Nat → Nat → Int32, ∃ rj' : Nat → Nat → Int64, u = (σ, I, J, ri', rj', rq) ∧ GM [] tg σ I ri I ri' rq ∧ (∀ q, tg q ≠ 405 → ri' q = ri q) ∧ g_X12_isFor a0 a1 a2 (vI 12 σ this I) (vJ 12 σ this J) (vR 12 σ this ri) (vL 12 σ this rj) (vQ 12 σ this rq) = (r, (vI 12 σ this I), (vJ 12 σ this J), (vR 12 σ this ri'), (vL 12 σ this rj'), (vQ 12 σ this rq)) ∧ FR 12 tg σ this (I, J, ri, rj, rq) (I, J, ri', rj', rq) ∧ ((r = 1 ∧ True) ∨ (r = 0 ∧ True))) := by
  refine Met.ofW (cc := cX12_isFor) (maxL := 4) (ret := (some .boolean)) (by decide) rfl ?_
  intro p e s m args below meth c s₁ B hml hv
  obtain ⟨rfl, hsz, hP, hK, hD0, hN⟩ := hv
  have hx := B.exec
  have hb := B.bytes
  have hr := B.returns
  have hts := atoms_spec (ws := (wa yX12_isFor cX12_isFor 4 (some .boolean))) B.pre
  have hown : s.vm.findClass RX12 = some m.cls := findClass_of_methodNamed B.named
  have hlocks := B.notSynchronized
  subst hsz
  have hD : va_D (pq_B t σ (I, J, ri, rj, rq) s.heap.size) (pq_P t σ (I, J, ri, rj, rq)) := hD0.self
  generalize hAe : pq_B t σ (I, J, ri, rj, rq) s.heap.size = A at hD ⊢
  have hA : ∀ q : Nat, s.heap.size ≤ q → A q := fun q h => by rw [← hAe]; exact Or.inr h
  have hS : va_S A s.heap s.heap [] := va_S.rf
  have hG : GM [] tg σ I ri I ri rq := ⟨hG0, fun _ _ _ => rfl, fun _ _ _ _ _ => rfl, fun _ _ _ _ _ _ => rfl⟩
  have hl := lv_entry ([.ref this, .int a0, .int a1, .int a2]) (n := 4) (Nat.le_of_ble_eq_true rfl)
  rw [lg_entry_eq]
  generalize (lg_sl ([.ref this, .int a0, .int a1, .int a2]) ++ List.replicate (4 - (lg_sl ([.ref this, .int a0, .int a1, .int a2])).length) Slot.unset).toArray = ls at hl ⊢
  have hl : lv_has ls 4 [(0, .ref this), (1, .int a0), (2, .int a1), (3, .int a2)] := hl
  refine q_gen (fun Q hQ => ?_)
  have go : ∀ (H : Heap) (locs : List Loc) (ls : Array Slot), va_P D vwCl (pq_P t σ (I, J, ri, rj, rq)) H → va_D A (pq_P t σ (I, J, ri, rj, rq)) → va_S A s.heap H locs → lv_has ls 4 [(0, .ref this), (1, .int a0), (2, .int a1), (3, .int a2)] → W p l e ({ frames := 4, cells := 0, slots := 0, locals := 102 } : Room) s m (List.toArray ([.ref this, .int a0, .int a1, .int a2] : List Value)) below meth c H locs 0 0 Q (F0 m 0 ls []) := by
    intro H locs ls hP hD hS hl
    have hO_this : this = vo σ 12 this := rfl
    have hVT : VT 12 σ tg this := vt_12 hSH hL_this hK_this
    have hFr : FR 12 tg σ this (I, J, ri, rj, rq) (I, J, ri, rj, rq) := fr_rf
    have hO_this_a : this_a = vrow σ 384 this := vo_k (c := 12) hO_this hR_this_a
    obtain ⟨F, hF0⟩ : ∃ F, F = g_X12_isFor a0 a1 a2 (vI 12 σ this I) (vJ 12 σ this J) (vR 12 σ this ri) (vL 12 σ this rj) (vQ 12 σ this rq) := ⟨_, rfl⟩
    have hF := hF0.trans g_X12_isFor_e
    refine lv_aload_n hx hb dX12_isFor_0 rfl (lv_at hl 0 rfl) ?_
    refine lv_iload_n hx hb dX12_isFor_1 rfl (lv_at hl 1 rfl) ?_
    refine lv_iload_n hx hb dX12_isFor_2 rfl (lv_at hl 3 rfl) ?_
    refine pk_i (va_runV (As := [.int a0, .int a2]) (rest := []) ⟨hx, hb, hml, hown, hts⟩ (s_X12_textFor l D t σ I J ri rj rq H.size tg hSH hG.1 this a0 a2 hL_this hK_this this_a hR_this_a hL_this_a hK_this_a hN_this_a hT_this_a) (cwV 2 hts (tw_V tw_508 tw_509 tw_510 tw_5 tw_511) rfl rfl rfl cv_yX12_textFor_2 ⟨Nat.le_of_ble_eq_true rfl, Nat.le_of_ble_eq_true rfl⟩) ⟨pq_blind, pq_recv hK hP hL_this hK_this (by decide) rfl, pq_pre hK hN hP hD⟩ rfl rfl hl.1 rfl (lv_room (Nat.le_of_ble_eq_true rfl)) dX12_isFor_3 ⟨Nat.le_of_ble_eq_true rfl, Nat.le_of_ble_eq_true rfl⟩) hD hS hA (fun x_1 σ1 μ1 H locs hw_2 hP hD hS => ?_)
    obtain ⟨hu_3, hp_6, hfn_7, hr_5⟩ := hw_2
    obtain ⟨hu_3a, hu_3b⟩ := Prod.mk.inj hu_3
    rw [hu_3a, hu_3b] at hP hD
    replace hF := hF.trans (bn_n hfn_7)
    have tt_9 := hp_6
    refine lv_if_lt (tgt := 20) hx hb dX12_isFor_6 (by decide) (fun c_10 => ?_) (fun c_10 => ?_)
    · replace hF := hF.trans (if_pos c_10)
      have tc_15 : (x_1).toInt < 0 := Int32.lt_iff_toInt_lt.mp c_10
      have h_16 : rg x_1 (-1) (-1) := rg_lt1 c_10 hr_5 (rg_k (0 : Int32) 0 rfl) (by decide)
      have uh_16 := h_16.1
      have vh_16 := h_16.2
      refine lv_iconst (v := 1) hx hb dX12_isFor_20 (by decide) ?_
      refine lv_goto (tgt := 25) hx hb dX12_isFor_21 (by decide) ?_
      subst hQ
      exact W.zret (v := 1) hx hb hr (by decide) (fun t1 ht hW => ⟨⟨1, (σ, I, J, ri, rj, rq), rfl, ⟨ri, rj, rfl, hG, (fun _ _ => rfl), (hF0.symm.trans hF), hFr, (Or.inl ⟨rfl, trivial⟩)⟩, by rw [ht]; exact hP, va_K.moved hW.alike hK, hD⟩, hS.F ht⟩) hS.2.2 dX12_isFor_25
    · replace hF := hF.trans (if_neg c_10)
      have tc_17 : 0 ≤ (x_1).toInt := Int32.le_iff_toInt_le.mp (nlt c_10)
      have h_18 : rg x_1 0 9 := rg_le2 (nlt c_10) (rg_k (0 : Int32) 0 rfl) hr_5 (by decide)
      have uh_18 := h_18.1
      have vh_18 := h_18.2
      refine lv_aload_n hx hb dX12_isFor_9 rfl (lv_at hl 0 rfl) ?_
      refine lv_iload_n hx hb dX12_isFor_10 rfl (lv_at hl 1 rfl) ?_
      refine lv_iload_n hx hb dX12_isFor_11 rfl (lv_at hl 2 rfl) ?_
      refine lv_iload_n hx hb dX12_isFor_12 rfl (lv_at hl 3 rfl) ?_
      refine lv_iconst (v := 0) hx hb dX12_isFor_13 (by decide) ?_
      refine pk_i (va_runV (As := [.int a0, .int a1, .int a2, .int 0]) (rest := []) ⟨hx, hb, hml, hown, hts⟩ (s_X12_firstSo l D t σ I J ri rj rq H.size tg hSH hG.1 this a0 a1 a2 (0 : Int32) hL_this hK_this (rg_w h_a0 (by decide)) (rg_w h_a1 (by decide)) this_a hR_this_a hL_this_a hK_this_a hN_this_a hT_this_a) (cwV 4 hts (tw_V tw_597 tw_598 tw_599 tw_5 tw_600) rfl rfl rfl cv_yX12_firstSo_4 ⟨Nat.le_of_ble_eq_true rfl, Nat.le_of_ble_eq_true rfl⟩) ⟨pq_blind, pq_recv hK hP hL_this hK_this (by decide) rfl, pq_pre hK hN hP hD⟩ rfl rfl hl.1 rfl (lv_room (Nat.le_of_ble_eq_true rfl)) dX12_isFor_14 ⟨Nat.le_of_ble_eq_true rfl, Nat.le_of_ble_eq_true rfl⟩) hD hS hA (fun x_19 σ1 μ1 H locs hw_20 hP hD hS => ?_)
      obtain ⟨ri_21, rj_22, hu_23, hg_24, hp_26, hfn_27, hfr_28, hr_25⟩ := hw_20
      obtain ⟨hu_23a, hu_23b⟩ := Prod.mk.inj hu_23
      rw [hu_23a, hu_23b] at hP hD
      replace hF := hF.trans (bn_n hfn_27)
      replace hFr := fr_tr hFr hfr_28
      have hG := GM.tr hG hg_24 (by decide)
      refine lv_if_lt (tgt := 24) hx hb dX12_isFor_17 (by decide) (fun c_29 => ?_) (fun c_29 => ?_)
      · replace hF := hF.trans (if_pos c_29)
        have tc_34 : (x_19).toInt < 0 := Int32.lt_iff_toInt_lt.mp c_29
        have h_35 : rg x_19 (-1) (-1) := rg_lt1 c_29 hr_25 (rg_k (0 : Int32) 0 rfl) (by decide)
        have uh_35 := h_35.1
        have vh_35 := h_35.2
        refine lv_iconst (v := 0) hx hb dX12_isFor_24 (by decide) ?_
        subst hQ
        exact W.zret (v := 0) hx hb hr (by decide) (fun t1 ht hW => ⟨⟨0, (σ, I, J, ri_21, rj_22, rq), rfl, ⟨ri_21, rj_22, rfl, hG, (fr_t (fun _ _ => rfl) hp_26), (hF0.symm.trans hF), hFr, (Or.inr ⟨rfl, trivial⟩)⟩, by rw [ht]; exact hP, va_K.moved hW.alike hK, hD⟩, hS.F ht⟩) hS.2.2 dX12_isFor_25
      · replace hF := hF.trans (if_neg c_29)
        have tc_36 : 0 ≤ (x_19).toInt := Int32.le_iff_toInt_le.mp (nlt c_29)
        have h_37 : rg x_19 0 19 := rg_le2 (nlt c_29) (rg_k (0 : Int32) 0 rfl) hr_25 (by decide)
        have uh_37 := h_37.1
        have vh_37 := h_37.2
        refine lv_iconst (v := 1) hx hb dX12_isFor_20 (by decide) ?_
        refine lv_goto (tgt := 25) hx hb dX12_isFor_21 (by decide) ?_
        subst hQ
        exact W.zret (v := 1) hx hb hr (by decide) (fun t1 ht hW => ⟨⟨1, (σ, I, J, ri_21, rj_22, rq), rfl, ⟨ri_21, rj_22, rfl, hG, (fr_t (fun _ _ => rfl) hp_26), (hF0.symm.trans hF), hFr, (Or.inl ⟨rfl, trivial⟩)⟩, by rw [ht]; exact hP, va_K.moved hW.alike hK, hD⟩, hS.F ht⟩) hS.2.2 dX12_isFor_25
  exact go _ _ _ hP hD hS hl

set_option maxRecDepth 100000 in
def g_X12_is_K44 (I : Nat → Int32) (J : Nat → Int64) (ri : Nat → Nat → Int32) (rj : Nat → Nat → Int64) (rq : Nat → Nat → Option Nat) : Int32 × vM := ((-1 : Int32), I, J, ri, rj, rq)
set_option maxRecDepth 100000 in
theorem g_X12_is_K44_e {I : Nat → Int32} {J : Nat → Int64} {ri : Nat → Nat → Int32} {rj : Nat → Nat → Int64} {rq : Nat → Nat → Option Nat} : g_X12_is_K44 I J ri rj rq  = ((-1 : Int32), I, J, ri, rj, rq) := rfl
set_option maxRecDepth 100000 in
def g_X12_is (a0 : Int32) (a1 : Int32) (a2 : Int32) (I : Nat → Int32) (J : Nat → Int64) (ri : Nat → Nat → Int32) (rj : Nat → Nat → Int64) (rq : Nat → Nat → Option Nat) : Int32 × vM := (ap1 (g_X12_isIn a0 (0 : Int32) (2 : Int32)) fun (x_1 : Int32) => (if x_1 = (0 : Int32) then (g_X12_is_K44 I J ri rj rq ) else (bnI (g_X12_isPerson a1 I J ri rj rq) fun (x_94 : Int32) (_ : Nat → Int32) (_ : Nat → Int64) (_ : Nat → Nat → Int32) (_ : Nat → Nat → Int64) (_ : Nat → Nat → Option Nat) => (if x_94 = (0 : Int32) then (g_X12_is_K44 I J ri rj rq ) else (ap1 (g_X12_isMonth a2) fun (x_115 : Int32) => (if x_115 = (0 : Int32) then (g_X12_is_K44 I J ri rj rq ) else (ap1 ((2 : Int32) + a0) fun (x_136 : Int32) => (bnI (g_X12_isFor x_136 a1 a2 I J ri rj rq) fun (x_139 : Int32) (_ : Nat → Int32) (_ : Nat → Int64) (ri_141 : Nat → Nat → Int32) (rj_142 : Nat → Nat → Int64) (_ : Nat → Nat → Option Nat) => (if x_139 = (0 : Int32) then ((0 : Int32), I, J, ri_141, rj_142, rq) else ((1 : Int32), I, J, ri_141, rj_142, rq))))))))))
set_option maxRecDepth 100000 in
theorem g_X12_is_e {a0 : Int32} {a1 : Int32} {a2 : Int32} {I : Nat → Int32} {J : Nat → Int64} {ri : Nat → Nat → Int32} {rj : Nat → Nat → Int64} {rq : Nat → Nat → Option Nat} : g_X12_is a0 a1 a2 I J ri rj rq = (ap1 (g_X12_isIn a0 (0 : Int32) (2 : Int32)) fun (x_1 : Int32) => (if x_1 = (0 : Int32) then (g_X12_is_K44 I J ri rj rq ) else (bnI (g_X12_isPerson a1 I J ri rj rq) fun (x_94 : Int32) (_ : Nat → Int32) (_ : Nat → Int64) (_ : Nat → Nat → Int32) (_ : Nat → Nat → Int64) (_ : Nat → Nat → Option Nat) => (if x_94 = (0 : Int32) then (g_X12_is_K44 I J ri rj rq ) else (ap1 (g_X12_isMonth a2) fun (x_115 : Int32) => (if x_115 = (0 : Int32) then (g_X12_is_K44 I J ri rj rq ) else (ap1 ((2 : Int32) + a0) fun (x_136 : Int32) => (bnI (g_X12_isFor x_136 a1 a2 I J ri rj rq) fun (x_139 : Int32) (_ : Nat → Int32) (_ : Nat → Int64) (ri_141 : Nat → Nat → Int32) (rj_142 : Nat → Nat → Int64) (_ : Nat → Nat → Option Nat) => (if x_139 = (0 : Int32) then ((0 : Int32), I, J, ri_141, rj_142, rq) else ((1 : Int32), I, J, ri_141, rj_142, rq)))))))))) := rfl
set_option maxHeartbeats 4000000 in
set_option maxRecDepth 100000 in
theorem s_X12_is (l : Launch) (D : va_G) (t : pq_T) (σ : pq_S) (I : Nat → Nat → Int32) (J : Nat → Nat → Int64) (ri : Nat → Nat → Int32) (rj : Nat → Nat → Int64) (rq : Nat → Nat → Option Nat) (sz : Nat) (tg : Nat → Nat) (hSH : SH σ tg) (hG0 : GT tg I ri) (this : Nat) (a0 : Int32) (a1 : Int32) (a2 : Int32) (hL_this : this ∈ σ.1) (hK_this : σ.2.1 this = 12) : MetI l yX12_is (wa yX12_is cX12_is 4 (some .int)) ({ frames := 5, cells := 0, slots := 0, locals := 125 }) [.ref this, .int a0, .int a1, .int a2] D t σ (I, J, ri, rj, rq) sz 0 0 (fun (r : Int32) (u : pq_S × pq_M) => ∃ ri' : Nat → Nat → Int32, ∃ rj' : Nat → Nat → Int64, u = (σ, I, J, ri', rj', rq) ∧ GM [] tg σ I ri I ri' rq ∧ g_X12_is a0 a1 a2 (vI 12 σ this I) (vJ 12 σ this J) (vR 12 σ this ri) (vL 12 σ this rj) (vQ 12 σ this rq) = (r, (vI 12 σ this I), (vJ 12 σ this J), (vR 12 σ this ri'), (vL 12 σ this rj'), (vQ 12 σ this rq)) ∧ FR 12 tg σ this (I, J, ri, rj, rq) (I, J, ri', rj', rq) ∧ rg r (-1) 1) := by
  refine Met.ofW (cc := cX12_is) (maxL := 4) (ret := (some .int)) (by decide) rfl ?_
  intro p e s m args below meth c s₁ B hml hv
  obtain ⟨rfl, hsz, hP, hK, hD0, hN⟩ := hv
  have hx := B.exec
  have hb := B.bytes
  have hr := B.returns
  have hts := atoms_spec (ws := (wa yX12_is cX12_is 4 (some .int))) B.pre
  have hown : s.vm.findClass RX12 = some m.cls := findClass_of_methodNamed B.named
  have hlocks := B.notSynchronized
  subst hsz
  have hD : va_D (pq_B t σ (I, J, ri, rj, rq) s.heap.size) (pq_P t σ (I, J, ri, rj, rq)) := hD0.self
  generalize hAe : pq_B t σ (I, J, ri, rj, rq) s.heap.size = A at hD ⊢
  have hA : ∀ q : Nat, s.heap.size ≤ q → A q := fun q h => by rw [← hAe]; exact Or.inr h
  have hS : va_S A s.heap s.heap [] := va_S.rf
  have hG : GM [] tg σ I ri I ri rq := ⟨hG0, fun _ _ _ => rfl, fun _ _ _ _ _ => rfl, fun _ _ _ _ _ _ => rfl⟩
  have hl := lv_entry ([.ref this, .int a0, .int a1, .int a2]) (n := 4) (Nat.le_of_ble_eq_true rfl)
  rw [lg_entry_eq]
  generalize (lg_sl ([.ref this, .int a0, .int a1, .int a2]) ++ List.replicate (4 - (lg_sl ([.ref this, .int a0, .int a1, .int a2])).length) Slot.unset).toArray = ls at hl ⊢
  have hl : lv_has ls 4 [(0, .ref this), (1, .int a0), (2, .int a1), (3, .int a2)] := hl
  refine q_gen (fun Q hQ => ?_)
  have go : ∀ (H : Heap) (locs : List Loc) (ls : Array Slot), va_P D vwCl (pq_P t σ (I, J, ri, rj, rq)) H → va_D A (pq_P t σ (I, J, ri, rj, rq)) → va_S A s.heap H locs → lv_has ls 4 [(0, .ref this), (1, .int a0), (2, .int a1), (3, .int a2)] → W p l e ({ frames := 5, cells := 0, slots := 0, locals := 125 } : Room) s m (List.toArray ([.ref this, .int a0, .int a1, .int a2] : List Value)) below meth c H locs 0 0 Q (F0 m 0 ls []) := by
    intro H locs ls hP hD hS hl
    have hO_this : this = vo σ 12 this := rfl
    have hVT : VT 12 σ tg this := vt_12 hSH hL_this hK_this
    have hFr : FR 12 tg σ this (I, J, ri, rj, rq) (I, J, ri, rj, rq) := fr_rf
    obtain ⟨F, hF0⟩ : ∃ F, F = g_X12_is a0 a1 a2 (vI 12 σ this I) (vJ 12 σ this J) (vR 12 σ this ri) (vL 12 σ this rj) (vQ 12 σ this rq) := ⟨_, rfl⟩
    have hF := hF0.trans g_X12_is_e
    refine lv_iload_n hx hb dX12_is_0 rfl (lv_at hl 1 rfl) ?_
    refine lv_iconst (v := 0) hx hb dX12_is_1 (by decide) ?_
    refine lv_iconst (v := 2) hx hb dX12_is_2 (by decide) ?_
    refine pk_i (va_runS (As := [.int a0, .int 0, .int 2]) (rest := []) ⟨hx, hb, hml, hown, hts⟩ (s_X12_isIn l D t σ I J ri rj rq H.size tg hSH hG.1 a0 (0 : Int32) (2 : Int32)) (va_cwS 3 hts (tw_S tw_235 tw_236 tw_5 tw_237) rfl rfl rfl cd_yX12_isIn_3 ⟨Nat.le_of_ble_eq_true rfl, Nat.le_of_ble_eq_true rfl⟩) ⟨pq_blind, pq_pre hK hN hP hD⟩ rfl rfl hl.1 rfl (lv_room (Nat.le_of_ble_eq_true rfl)) dX12_is_3 ⟨Nat.le_of_ble_eq_true rfl, Nat.le_of_ble_eq_true rfl⟩) hD hS hA (fun x_1 σ1 μ1 H locs hw_2 hP hD hS => ?_)
    obtain ⟨hu_3, hfn_6, hr_5⟩ := hw_2
    obtain ⟨hu_3a, hu_3b⟩ := Prod.mk.inj hu_3
    rw [hu_3a, hu_3b] at hP hD
    replace hF := hF.trans (ap_n hfn_6.symm)
    have h_8 : rg x_1 0 1 := by rcases hr_5 with ⟨q, -⟩ | ⟨q, -⟩ <;> rw [q] <;> exact ⟨by decide, by decide⟩
    have uh_8 := h_8.1
    have vh_8 := h_8.2
    have K_70 : ∀  (H : Heap) (locs : List Loc) (ls : Array Slot), F = g_X12_is_K44 (vI 12 σ this I) (vJ 12 σ this J) (vR 12 σ this ri) (vL 12 σ this rj) (vQ 12 σ this rq)  → FR 12 tg σ this (I, J, ri, rj, rq) (I, J, ri, rj, rq) → GM [] tg σ I ri I ri rq → va_P D vwCl (pq_P t σ (I, J, ri, rj, rq)) H → va_D A (pq_P t σ (I, J, ri, rj, rq)) → va_S A s.heap H locs → lv_has ls 4 [] → W p l e ({ frames := 5, cells := 0, slots := 0, locals := 125 } : Room) s m (List.toArray ([.ref this, .int a0, .int a1, .int a2] : List Value)) below meth c H locs 0 0 Q (F0 m 44 ls []) := by
      intro H locs ls hF hFr hG hP hD hS hl
      replace hF := hF.trans g_X12_is_K44_e
      refine lv_iconst (v := (-1)) hx hb dX12_is_44 (by decide) ?_
      subst hQ
      exact W.iret (v := (-1)) hx hb hr (fun t1 ht hW => ⟨⟨(-1), (σ, I, J, ri, rj, rq), rfl, ⟨ri, rj, rfl, hG, (hF0.symm.trans hF), hFr, (rg_w (rg_k (-1 : Int32) (-1) rfl) (by decide))⟩, by rw [ht]; exact hP, va_K.moved hW.alike hK, hD⟩, hS.F ht⟩) hS.2.2 dX12_is_45
    refine lv_if_eq (tgt := 44) hx hb dX12_is_6 (by decide) (fun c_71 => ?_) (fun c_71 => ?_)
    · replace hF := hF.trans (if_pos c_71)
      have f_83 := (hr_5.resolve_left (fun q => absurd (q.1.symm.trans c_71) (by decide))).2
      have tc_84 : (x_1).toInt = 0 := congrArg Int32.toInt c_71
      have h_85 : rg x_1 0 0 := rg_and h_8 (rg_of_eq c_71 (rg_k (0 : Int32) 0 rfl)) (by decide)
      have uh_85 := h_85.1
      have vh_85 := h_85.2
      exact K_70 _ _ _ hF hFr hG hP hD hS (lv_sub hl [] rfl)
    · replace hF := hF.trans (if_neg c_71)
      obtain ⟨f_86, f_87⟩ := (hr_5.resolve_right (fun q => c_71 q.1)).2
      have tc_88 : 0 ≤ (a0).toInt := Int32.le_iff_toInt_le.mp f_86
      have h_89 : rg a0 0 2147483647 := rg_le2 f_86 (rg_k (0 : Int32) 0 rfl) (rg_full _) (by decide)
      have uh_89 := h_89.1
      have vh_89 := h_89.2
      have tc_90 : (a0).toInt ≤ 2 := Int32.le_iff_toInt_le.mp f_87
      have h_91 : rg a0 0 2 := rg_le1 f_87 h_89 (rg_k (2 : Int32) 2 rfl) (by decide)
      have uh_91 := h_91.1
      have vh_91 := h_91.2
      have tc_92 : (x_1).toInt ≠ 0 := fun q => c_71 (Int32.toInt_inj.mp q)
      have h_93 : rg x_1 1 1 := rg_ne c_71 h_8 0 rfl (by decide)
      have uh_93 := h_93.1
      have vh_93 := h_93.2
      refine lv_aload_n hx hb dX12_is_9 rfl (lv_at hl 0 rfl) ?_
      refine lv_iload_n hx hb dX12_is_10 rfl (lv_at hl 2 rfl) ?_
      refine pk_i (va_runV (As := [.int a1]) (rest := []) ⟨hx, hb, hml, hown, hts⟩ (s_X12_isPerson l D t σ I J ri rj rq H.size tg hSH hG.1 this a1 hL_this hK_this) (cwV 1 hts (tw_V tw_425 tw_426 tw_427 tw_5 tw_428) rfl rfl rfl cv_yX12_isPerson_1 ⟨Nat.le_of_ble_eq_true rfl, Nat.le_of_ble_eq_true rfl⟩) ⟨pq_blind, pq_recv hK hP hL_this hK_this (by decide) rfl, pq_pre hK hN hP hD⟩ rfl rfl hl.1 rfl (lv_room (Nat.le_of_ble_eq_true rfl)) dX12_is_11 ⟨Nat.le_of_ble_eq_true rfl, Nat.le_of_ble_eq_true rfl⟩) hD hS hA (fun x_94 σ1 μ1 H locs hw_95 hP hD hS => ?_)
      obtain ⟨hu_96, hfn_99, hr_98⟩ := hw_95
      obtain ⟨hu_96a, hu_96b⟩ := Prod.mk.inj hu_96
      rw [hu_96a, hu_96b] at hP hD
      replace hF := hF.trans (bn_n hfn_99)
      have h_101 : rg x_94 0 1 := by rcases hr_98 with ⟨q, -⟩ | ⟨q, -⟩ <;> rw [q] <;> exact ⟨by decide, by decide⟩
      have uh_101 := h_101.1
      have vh_101 := h_101.2
      refine lv_if_eq (tgt := 44) hx hb dX12_is_14 (by decide) (fun c_102 => ?_) (fun c_102 => ?_)
      · replace hF := hF.trans (if_pos c_102)
        have f_109 := (hr_98.resolve_left (fun q => absurd (q.1.symm.trans c_102) (by decide))).2
        have tc_110 : (x_94).toInt = 0 := congrArg Int32.toInt c_102
        have h_111 : rg x_94 0 0 := rg_and h_101 (rg_of_eq c_102 (rg_k (0 : Int32) 0 rfl)) (by decide)
        have uh_111 := h_111.1
        have vh_111 := h_111.2
        exact K_70 _ _ _ hF hFr hG hP hD hS (lv_sub hl [] rfl)
      · replace hF := hF.trans (if_neg c_102)
        have f_112 := (hr_98.resolve_right (fun q => c_102 q.1)).2
        have uf_112 := f_112.1
        have vf_112 := f_112.2
        have tc_113 : (x_94).toInt ≠ 0 := fun q => c_102 (Int32.toInt_inj.mp q)
        have h_114 : rg x_94 1 1 := rg_ne c_102 h_101 0 rfl (by decide)
        have uh_114 := h_114.1
        have vh_114 := h_114.2
        refine lv_iload_n hx hb dX12_is_17 rfl (lv_at hl 3 rfl) ?_
        refine pk_i (va_runS (As := [.int a2]) (rest := []) ⟨hx, hb, hml, hown, hts⟩ (s_X12_isMonth l D t σ I J ri rj rq H.size tg hSH hG.1 a2) (va_cwS 1 hts (tw_S tw_262 tw_263 tw_5 tw_264) rfl rfl rfl cd_yX12_isMonth_1 ⟨Nat.le_of_ble_eq_true rfl, Nat.le_of_ble_eq_true rfl⟩) ⟨pq_blind, pq_pre hK hN hP hD⟩ rfl rfl hl.1 rfl (lv_room (Nat.le_of_ble_eq_true rfl)) dX12_is_18 ⟨Nat.le_of_ble_eq_true rfl, Nat.le_of_ble_eq_true rfl⟩) hD hS hA (fun x_115 σ1 μ1 H locs hw_116 hP hD hS => ?_)
        obtain ⟨hu_117, hfn_120, hr_119⟩ := hw_116
        obtain ⟨hu_117a, hu_117b⟩ := Prod.mk.inj hu_117
        rw [hu_117a, hu_117b] at hP hD
        replace hF := hF.trans (ap_n hfn_120.symm)
        have h_122 : rg x_115 0 1 := by rcases hr_119 with ⟨q, -⟩ | ⟨q, -⟩ <;> rw [q] <;> exact ⟨by decide, by decide⟩
        have uh_122 := h_122.1
        have vh_122 := h_122.2
        refine lv_if_eq (tgt := 44) hx hb dX12_is_21 (by decide) (fun c_123 => ?_) (fun c_123 => ?_)
        · replace hF := hF.trans (if_pos c_123)
          have f_130 := (hr_119.resolve_left (fun q => absurd (q.1.symm.trans c_123) (by decide))).2
          have tc_131 : (x_115).toInt = 0 := congrArg Int32.toInt c_123
          have h_132 : rg x_115 0 0 := rg_and h_122 (rg_of_eq c_123 (rg_k (0 : Int32) 0 rfl)) (by decide)
          have uh_132 := h_132.1
          have vh_132 := h_132.2
          exact K_70 _ _ _ hF hFr hG hP hD hS (lv_sub hl [] rfl)
        · replace hF := hF.trans (if_neg c_123)
          have f_133 := (hr_119.resolve_right (fun q => c_123 q.1)).2
          have uf_133 := f_133.1
          have vf_133 := f_133.2
          have tc_134 : (x_115).toInt ≠ 0 := fun q => c_123 (Int32.toInt_inj.mp q)
          have h_135 : rg x_115 1 1 := rg_ne c_123 h_122 0 rfl (by decide)
          have uh_135 := h_135.1
          have vh_135 := h_135.2
          refine lv_aload_n hx hb dX12_is_24 rfl (lv_at hl 0 rfl) ?_
          refine lv_iconst (v := 2) hx hb dX12_is_25 (by decide) ?_
          refine lv_iload_n hx hb dX12_is_26 rfl (lv_at hl 1 rfl) ?_
          refine lv_iadd hx hb dX12_is_27 ?_
          refine lv_topi (fun x_136 ex_136 => ?_)
          replace hF := hF.trans (ap_n ex_136)
          have h_137 : rg x_136 2 4 := rg_of_eq ex_136 (rg_add (rg_k (2 : Int32) 2 rfl) h_91 (by decide))
          have uh_137 := h_137.1
          have vh_137 := h_137.2
          have tx_136 : (x_136).toInt = 2 + (a0).toInt := by rw [ex_136]; exact i_add_rg (a2 := 2) (b2 := (a0).toInt) rfl rfl (rg_k (2 : Int32) 2 rfl) h_91 (by decide)
          refine lv_iload_n hx hb dX12_is_28 rfl (lv_at hl 2 rfl) ?_
          refine lv_iload_n hx hb dX12_is_29 rfl (lv_at hl 3 rfl) ?_
          obtain ⟨w_138, hR_w_138, hL_w_138, hK_w_138, hN_w_138, hT_w_138⟩ := sh_a hSH 384 (ci := 12) (kd := 13) (len := 12720) rfl (by decide) hL_this hK_this
          have hO_w_138 : w_138 = vrow σ 384 this := vo_k (c := 12) hO_this hR_w_138
          refine pk_i (va_runV (As := [.int x_136, .int a1, .int a2]) (rest := []) ⟨hx, hb, hml, hown, hts⟩ (s_X12_isFor l D t σ I J ri rj rq H.size tg hSH hG.1 this x_136 a1 a2 hL_this hK_this (rg_w h_137 (by decide)) (rg_w f_112 (by decide)) w_138 hR_w_138 hL_w_138 hK_w_138 hN_w_138 hT_w_138) (cwV 3 hts (tw_V tw_971 tw_972 tw_973 tw_5 tw_974) rfl rfl rfl cv_yX12_isFor_3 ⟨Nat.le_of_ble_eq_true rfl, Nat.le_of_ble_eq_true rfl⟩) ⟨pq_blind, pq_recv hK hP hL_this hK_this (by decide) rfl, pq_pre hK hN hP hD⟩ rfl rfl hl.1 rfl (lv_room (Nat.le_of_ble_eq_true rfl)) dX12_is_30 ⟨Nat.le_of_ble_eq_true rfl, Nat.le_of_ble_eq_true rfl⟩) hD hS hA (fun x_139 σ1 μ1 H locs hw_140 hP hD hS => ?_)
          obtain ⟨ri_141, rj_142, hu_143, hg_144, hp_146, hfn_147, hfr_148, hr_145⟩ := hw_140
          obtain ⟨hu_143a, hu_143b⟩ := Prod.mk.inj hu_143
          rw [hu_143a, hu_143b] at hP hD
          replace hF := hF.trans (bn_n hfn_147)
          replace hFr := fr_tr hFr hfr_148
          have hG := GM.tr hG hg_144 (by decide)
          have h_149 : rg x_139 0 1 := by rcases hr_145 with ⟨q, -⟩ | ⟨q, -⟩ <;> rw [q] <;> exact ⟨by decide, by decide⟩
          have uh_149 := h_149.1
          have vh_149 := h_149.2
          refine lv_if_eq (tgt := 40) hx hb dX12_is_33 (by decide) (fun c_150 => ?_) (fun c_150 => ?_)
          · replace hF := hF.trans (if_pos c_150)
            have tc_155 : (x_139).toInt = 0 := congrArg Int32.toInt c_150
            have h_156 : rg x_139 0 0 := rg_and h_149 (rg_of_eq c_150 (rg_k (0 : Int32) 0 rfl)) (by decide)
            have uh_156 := h_156.1
            have vh_156 := h_156.2
            refine lv_iconst (v := 0) hx hb dX12_is_40 (by decide) ?_
            refine lv_goto (tgt := 45) hx hb dX12_is_41 (by decide) ?_
            subst hQ
            exact W.iret (v := 0) hx hb hr (fun t1 ht hW => ⟨⟨0, (σ, I, J, ri_141, rj_142, rq), rfl, ⟨ri_141, rj_142, rfl, hG, (hF0.symm.trans hF), hFr, (rg_w (rg_k (0 : Int32) 0 rfl) (by decide))⟩, by rw [ht]; exact hP, va_K.moved hW.alike hK, hD⟩, hS.F ht⟩) hS.2.2 dX12_is_45
          · replace hF := hF.trans (if_neg c_150)
            have tc_157 : (x_139).toInt ≠ 0 := fun q => c_150 (Int32.toInt_inj.mp q)
            have h_158 : rg x_139 1 1 := rg_ne c_150 h_149 0 rfl (by decide)
            have uh_158 := h_158.1
            have vh_158 := h_158.2
            refine lv_iconst (v := 1) hx hb dX12_is_36 (by decide) ?_
            refine lv_goto (tgt := 45) hx hb dX12_is_37 (by decide) ?_
            subst hQ
            exact W.iret (v := 1) hx hb hr (fun t1 ht hW => ⟨⟨1, (σ, I, J, ri_141, rj_142, rq), rfl, ⟨ri_141, rj_142, rfl, hG, (hF0.symm.trans hF), hFr, (rg_w (rg_k (1 : Int32) 1 rfl) (by decide))⟩, by rw [ht]; exact hP, va_K.moved hW.alike hK, hD⟩, hS.F ht⟩) hS.2.2 dX12_is_45
  exact go _ _ _ hP hD hS hl

set_option maxRecDepth 100000 in
def g_X12_why_K37 (I : Nat → Int32) (J : Nat → Int64) (ri : Nat → Nat → Int32) (rj : Nat → Nat → Int64) (rq : Nat → Nat → Option Nat) : Int32 × vM := ((-1 : Int32), I, J, ri, rj, rq)
set_option maxRecDepth 100000 in
theorem g_X12_why_K37_e {I : Nat → Int32} {J : Nat → Int64} {ri : Nat → Nat → Int32} {rj : Nat → Nat → Int64} {rq : Nat → Nat → Option Nat} : g_X12_why_K37 I J ri rj rq  = ((-1 : Int32), I, J, ri, rj, rq) := rfl
set_option maxRecDepth 100000 in
def g_X12_why (a0 : Int32) (a1 : Int32) (a2 : Int32) (I : Nat → Int32) (J : Nat → Int64) (ri : Nat → Nat → Int32) (rj : Nat → Nat → Int64) (rq : Nat → Nat → Option Nat) : Int32 × vM := (ap1 (g_X12_isIn a0 (0 : Int32) (2 : Int32)) fun (x_1 : Int32) => (if x_1 = (0 : Int32) then (g_X12_why_K37 I J ri rj rq ) else (bnI (g_X12_isPerson a1 I J ri rj rq) fun (x_88 : Int32) (_ : Nat → Int32) (_ : Nat → Int64) (_ : Nat → Nat → Int32) (_ : Nat → Nat → Int64) (_ : Nat → Nat → Option Nat) => (if x_88 = (0 : Int32) then (g_X12_why_K37 I J ri rj rq ) else (ap1 (g_X12_isMonth a2) fun (x_109 : Int32) => (if x_109 = (0 : Int32) then (g_X12_why_K37 I J ri rj rq ) else (ap1 ((2 : Int32) + a0) fun (x_130 : Int32) => (bnI (g_X12_firstSo x_130 a1 a2 (0 : Int32) I J ri rj rq) fun (x_133 : Int32) (_ : Nat → Int32) (_ : Nat → Int64) (ri_135 : Nat → Nat → Int32) (rj_136 : Nat → Nat → Int64) (_ : Nat → Nat → Option Nat) => (x_133, I, J, ri_135, rj_136, rq)))))))))
set_option maxRecDepth 100000 in
theorem g_X12_why_e {a0 : Int32} {a1 : Int32} {a2 : Int32} {I : Nat → Int32} {J : Nat → Int64} {ri : Nat → Nat → Int32} {rj : Nat → Nat → Int64} {rq : Nat → Nat → Option Nat} : g_X12_why a0 a1 a2 I J ri rj rq = (ap1 (g_X12_isIn a0 (0 : Int32) (2 : Int32)) fun (x_1 : Int32) => (if x_1 = (0 : Int32) then (g_X12_why_K37 I J ri rj rq ) else (bnI (g_X12_isPerson a1 I J ri rj rq) fun (x_88 : Int32) (_ : Nat → Int32) (_ : Nat → Int64) (_ : Nat → Nat → Int32) (_ : Nat → Nat → Int64) (_ : Nat → Nat → Option Nat) => (if x_88 = (0 : Int32) then (g_X12_why_K37 I J ri rj rq ) else (ap1 (g_X12_isMonth a2) fun (x_109 : Int32) => (if x_109 = (0 : Int32) then (g_X12_why_K37 I J ri rj rq ) else (ap1 ((2 : Int32) + a0) fun (x_130 : Int32) => (bnI (g_X12_firstSo x_130 a1 a2 (0 : Int32) I J ri rj rq) fun (x_133 : Int32) (_ : Nat → Int32) (_ : Nat → Int64) (ri_135 : Nat → Nat → Int32) (rj_136 : Nat → Nat → Int64) (_ : Nat → Nat → Option Nat) => (x_133, I, J, ri_135, rj_136, rq))))))))) := rfl
set_option maxHeartbeats 4000000 in
set_option maxRecDepth 100000 in
theorem s_X12_why (l : Launch) (D : va_G) (t : pq_T) (σ : pq_S) (I : Nat → Nat → Int32) (J : Nat → Nat → Int64) (ri : Nat → Nat → Int32) (rj : Nat → Nat → Int64) (rq : Nat → Nat → Option Nat) (sz : Nat) (tg : Nat → Nat) (hSH : SH σ tg) (hG0 : GT tg I ri) (this : Nat) (a0 : Int32) (a1 : Int32) (a2 : Int32) (hL_this : this ∈ σ.1) (hK_this : σ.2.1 this = 12) : MetI l yX12_why (wa yX12_why cX12_why 4 (some .int)) ({ frames := 4, cells := 0, slots := 0, locals := 102 }) [.ref this, .int a0, .int a1, .int a2] D t σ (I, J, ri, rj, rq) sz 0 0 (fun (r : Int32) (u : pq_S × pq_M) => ∃ ri' : Nat → Nat → Int32, ∃ rj' : Nat → Nat → Int64, u = (σ, I, J, ri', rj', rq) ∧ GM [] tg σ I ri I ri' rq ∧ g_X12_why a0 a1 a2 (vI 12 σ this I) (vJ 12 σ this J) (vR 12 σ this ri) (vL 12 σ this rj) (vQ 12 σ this rq) = (r, (vI 12 σ this I), (vJ 12 σ this J), (vR 12 σ this ri'), (vL 12 σ this rj'), (vQ 12 σ this rq)) ∧ FR 12 tg σ this (I, J, ri, rj, rq) (I, J, ri', rj', rq) ∧ rg r (-1) 19) := by
  refine Met.ofW (cc := cX12_why) (maxL := 4) (ret := (some .int)) (by decide) rfl ?_
  intro p e s m args below meth c s₁ B hml hv
  obtain ⟨rfl, hsz, hP, hK, hD0, hN⟩ := hv
  have hx := B.exec
  have hb := B.bytes
  have hr := B.returns
  have hts := atoms_spec (ws := (wa yX12_why cX12_why 4 (some .int))) B.pre
  have hown : s.vm.findClass RX12 = some m.cls := findClass_of_methodNamed B.named
  have hlocks := B.notSynchronized
  subst hsz
  have hD : va_D (pq_B t σ (I, J, ri, rj, rq) s.heap.size) (pq_P t σ (I, J, ri, rj, rq)) := hD0.self
  generalize hAe : pq_B t σ (I, J, ri, rj, rq) s.heap.size = A at hD ⊢
  have hA : ∀ q : Nat, s.heap.size ≤ q → A q := fun q h => by rw [← hAe]; exact Or.inr h
  have hS : va_S A s.heap s.heap [] := va_S.rf
  have hG : GM [] tg σ I ri I ri rq := ⟨hG0, fun _ _ _ => rfl, fun _ _ _ _ _ => rfl, fun _ _ _ _ _ _ => rfl⟩
  have hl := lv_entry ([.ref this, .int a0, .int a1, .int a2]) (n := 4) (Nat.le_of_ble_eq_true rfl)
  rw [lg_entry_eq]
  generalize (lg_sl ([.ref this, .int a0, .int a1, .int a2]) ++ List.replicate (4 - (lg_sl ([.ref this, .int a0, .int a1, .int a2])).length) Slot.unset).toArray = ls at hl ⊢
  have hl : lv_has ls 4 [(0, .ref this), (1, .int a0), (2, .int a1), (3, .int a2)] := hl
  refine q_gen (fun Q hQ => ?_)
  have go : ∀ (H : Heap) (locs : List Loc) (ls : Array Slot), va_P D vwCl (pq_P t σ (I, J, ri, rj, rq)) H → va_D A (pq_P t σ (I, J, ri, rj, rq)) → va_S A s.heap H locs → lv_has ls 4 [(0, .ref this), (1, .int a0), (2, .int a1), (3, .int a2)] → W p l e ({ frames := 4, cells := 0, slots := 0, locals := 102 } : Room) s m (List.toArray ([.ref this, .int a0, .int a1, .int a2] : List Value)) below meth c H locs 0 0 Q (F0 m 0 ls []) := by
    intro H locs ls hP hD hS hl
    have hO_this : this = vo σ 12 this := rfl
    have hVT : VT 12 σ tg this := vt_12 hSH hL_this hK_this
    have hFr : FR 12 tg σ this (I, J, ri, rj, rq) (I, J, ri, rj, rq) := fr_rf
    obtain ⟨F, hF0⟩ : ∃ F, F = g_X12_why a0 a1 a2 (vI 12 σ this I) (vJ 12 σ this J) (vR 12 σ this ri) (vL 12 σ this rj) (vQ 12 σ this rq) := ⟨_, rfl⟩
    have hF := hF0.trans g_X12_why_e
    refine lv_iload_n hx hb dX12_why_0 rfl (lv_at hl 1 rfl) ?_
    refine lv_iconst (v := 0) hx hb dX12_why_1 (by decide) ?_
    refine lv_iconst (v := 2) hx hb dX12_why_2 (by decide) ?_
    refine pk_i (va_runS (As := [.int a0, .int 0, .int 2]) (rest := []) ⟨hx, hb, hml, hown, hts⟩ (s_X12_isIn l D t σ I J ri rj rq H.size tg hSH hG.1 a0 (0 : Int32) (2 : Int32)) (va_cwS 3 hts (tw_S tw_235 tw_236 tw_5 tw_237) rfl rfl rfl cd_yX12_isIn_3 ⟨Nat.le_of_ble_eq_true rfl, Nat.le_of_ble_eq_true rfl⟩) ⟨pq_blind, pq_pre hK hN hP hD⟩ rfl rfl hl.1 rfl (lv_room (Nat.le_of_ble_eq_true rfl)) dX12_why_3 ⟨Nat.le_of_ble_eq_true rfl, Nat.le_of_ble_eq_true rfl⟩) hD hS hA (fun x_1 σ1 μ1 H locs hw_2 hP hD hS => ?_)
    obtain ⟨hu_3, hfn_6, hr_5⟩ := hw_2
    obtain ⟨hu_3a, hu_3b⟩ := Prod.mk.inj hu_3
    rw [hu_3a, hu_3b] at hP hD
    replace hF := hF.trans (ap_n hfn_6.symm)
    have h_8 : rg x_1 0 1 := by rcases hr_5 with ⟨q, -⟩ | ⟨q, -⟩ <;> rw [q] <;> exact ⟨by decide, by decide⟩
    have uh_8 := h_8.1
    have vh_8 := h_8.2
    have K_64 : ∀  (H : Heap) (locs : List Loc) (ls : Array Slot), F = g_X12_why_K37 (vI 12 σ this I) (vJ 12 σ this J) (vR 12 σ this ri) (vL 12 σ this rj) (vQ 12 σ this rq)  → FR 12 tg σ this (I, J, ri, rj, rq) (I, J, ri, rj, rq) → GM [] tg σ I ri I ri rq → va_P D vwCl (pq_P t σ (I, J, ri, rj, rq)) H → va_D A (pq_P t σ (I, J, ri, rj, rq)) → va_S A s.heap H locs → lv_has ls 4 [] → W p l e ({ frames := 4, cells := 0, slots := 0, locals := 102 } : Room) s m (List.toArray ([.ref this, .int a0, .int a1, .int a2] : List Value)) below meth c H locs 0 0 Q (F0 m 37 ls []) := by
      intro H locs ls hF hFr hG hP hD hS hl
      replace hF := hF.trans g_X12_why_K37_e
      refine lv_iconst (v := (-1)) hx hb dX12_why_37 (by decide) ?_
      subst hQ
      exact W.iret (v := (-1)) hx hb hr (fun t1 ht hW => ⟨⟨(-1), (σ, I, J, ri, rj, rq), rfl, ⟨ri, rj, rfl, hG, (hF0.symm.trans hF), hFr, (rg_w (rg_k (-1 : Int32) (-1) rfl) (by decide))⟩, by rw [ht]; exact hP, va_K.moved hW.alike hK, hD⟩, hS.F ht⟩) hS.2.2 dX12_why_38
    refine lv_if_eq (tgt := 37) hx hb dX12_why_6 (by decide) (fun c_65 => ?_) (fun c_65 => ?_)
    · replace hF := hF.trans (if_pos c_65)
      have f_77 := (hr_5.resolve_left (fun q => absurd (q.1.symm.trans c_65) (by decide))).2
      have tc_78 : (x_1).toInt = 0 := congrArg Int32.toInt c_65
      have h_79 : rg x_1 0 0 := rg_and h_8 (rg_of_eq c_65 (rg_k (0 : Int32) 0 rfl)) (by decide)
      have uh_79 := h_79.1
      have vh_79 := h_79.2
      exact K_64 _ _ _ hF hFr hG hP hD hS (lv_sub hl [] rfl)
    · replace hF := hF.trans (if_neg c_65)
      obtain ⟨f_80, f_81⟩ := (hr_5.resolve_right (fun q => c_65 q.1)).2
      have tc_82 : 0 ≤ (a0).toInt := Int32.le_iff_toInt_le.mp f_80
      have h_83 : rg a0 0 2147483647 := rg_le2 f_80 (rg_k (0 : Int32) 0 rfl) (rg_full _) (by decide)
      have uh_83 := h_83.1
      have vh_83 := h_83.2
      have tc_84 : (a0).toInt ≤ 2 := Int32.le_iff_toInt_le.mp f_81
      have h_85 : rg a0 0 2 := rg_le1 f_81 h_83 (rg_k (2 : Int32) 2 rfl) (by decide)
      have uh_85 := h_85.1
      have vh_85 := h_85.2
      have tc_86 : (x_1).toInt ≠ 0 := fun q => c_65 (Int32.toInt_inj.mp q)
      have h_87 : rg x_1 1 1 := rg_ne c_65 h_8 0 rfl (by decide)
      have uh_87 := h_87.1
      have vh_87 := h_87.2
      refine lv_aload_n hx hb dX12_why_9 rfl (lv_at hl 0 rfl) ?_
      refine lv_iload_n hx hb dX12_why_10 rfl (lv_at hl 2 rfl) ?_
      refine pk_i (va_runV (As := [.int a1]) (rest := []) ⟨hx, hb, hml, hown, hts⟩ (s_X12_isPerson l D t σ I J ri rj rq H.size tg hSH hG.1 this a1 hL_this hK_this) (cwV 1 hts (tw_V tw_425 tw_426 tw_427 tw_5 tw_428) rfl rfl rfl cv_yX12_isPerson_1 ⟨Nat.le_of_ble_eq_true rfl, Nat.le_of_ble_eq_true rfl⟩) ⟨pq_blind, pq_recv hK hP hL_this hK_this (by decide) rfl, pq_pre hK hN hP hD⟩ rfl rfl hl.1 rfl (lv_room (Nat.le_of_ble_eq_true rfl)) dX12_why_11 ⟨Nat.le_of_ble_eq_true rfl, Nat.le_of_ble_eq_true rfl⟩) hD hS hA (fun x_88 σ1 μ1 H locs hw_89 hP hD hS => ?_)
      obtain ⟨hu_90, hfn_93, hr_92⟩ := hw_89
      obtain ⟨hu_90a, hu_90b⟩ := Prod.mk.inj hu_90
      rw [hu_90a, hu_90b] at hP hD
      replace hF := hF.trans (bn_n hfn_93)
      have h_95 : rg x_88 0 1 := by rcases hr_92 with ⟨q, -⟩ | ⟨q, -⟩ <;> rw [q] <;> exact ⟨by decide, by decide⟩
      have uh_95 := h_95.1
      have vh_95 := h_95.2
      refine lv_if_eq (tgt := 37) hx hb dX12_why_14 (by decide) (fun c_96 => ?_) (fun c_96 => ?_)
      · replace hF := hF.trans (if_pos c_96)
        have f_103 := (hr_92.resolve_left (fun q => absurd (q.1.symm.trans c_96) (by decide))).2
        have tc_104 : (x_88).toInt = 0 := congrArg Int32.toInt c_96
        have h_105 : rg x_88 0 0 := rg_and h_95 (rg_of_eq c_96 (rg_k (0 : Int32) 0 rfl)) (by decide)
        have uh_105 := h_105.1
        have vh_105 := h_105.2
        exact K_64 _ _ _ hF hFr hG hP hD hS (lv_sub hl [] rfl)
      · replace hF := hF.trans (if_neg c_96)
        have f_106 := (hr_92.resolve_right (fun q => c_96 q.1)).2
        have uf_106 := f_106.1
        have vf_106 := f_106.2
        have tc_107 : (x_88).toInt ≠ 0 := fun q => c_96 (Int32.toInt_inj.mp q)
        have h_108 : rg x_88 1 1 := rg_ne c_96 h_95 0 rfl (by decide)
        have uh_108 := h_108.1
        have vh_108 := h_108.2
        refine lv_iload_n hx hb dX12_why_17 rfl (lv_at hl 3 rfl) ?_
        refine pk_i (va_runS (As := [.int a2]) (rest := []) ⟨hx, hb, hml, hown, hts⟩ (s_X12_isMonth l D t σ I J ri rj rq H.size tg hSH hG.1 a2) (va_cwS 1 hts (tw_S tw_262 tw_263 tw_5 tw_264) rfl rfl rfl cd_yX12_isMonth_1 ⟨Nat.le_of_ble_eq_true rfl, Nat.le_of_ble_eq_true rfl⟩) ⟨pq_blind, pq_pre hK hN hP hD⟩ rfl rfl hl.1 rfl (lv_room (Nat.le_of_ble_eq_true rfl)) dX12_why_18 ⟨Nat.le_of_ble_eq_true rfl, Nat.le_of_ble_eq_true rfl⟩) hD hS hA (fun x_109 σ1 μ1 H locs hw_110 hP hD hS => ?_)
        obtain ⟨hu_111, hfn_114, hr_113⟩ := hw_110
        obtain ⟨hu_111a, hu_111b⟩ := Prod.mk.inj hu_111
        rw [hu_111a, hu_111b] at hP hD
        replace hF := hF.trans (ap_n hfn_114.symm)
        have h_116 : rg x_109 0 1 := by rcases hr_113 with ⟨q, -⟩ | ⟨q, -⟩ <;> rw [q] <;> exact ⟨by decide, by decide⟩
        have uh_116 := h_116.1
        have vh_116 := h_116.2
        refine lv_if_eq (tgt := 37) hx hb dX12_why_21 (by decide) (fun c_117 => ?_) (fun c_117 => ?_)
        · replace hF := hF.trans (if_pos c_117)
          have f_124 := (hr_113.resolve_left (fun q => absurd (q.1.symm.trans c_117) (by decide))).2
          have tc_125 : (x_109).toInt = 0 := congrArg Int32.toInt c_117
          have h_126 : rg x_109 0 0 := rg_and h_116 (rg_of_eq c_117 (rg_k (0 : Int32) 0 rfl)) (by decide)
          have uh_126 := h_126.1
          have vh_126 := h_126.2
          exact K_64 _ _ _ hF hFr hG hP hD hS (lv_sub hl [] rfl)
        · replace hF := hF.trans (if_neg c_117)
          have f_127 := (hr_113.resolve_right (fun q => c_117 q.1)).2
          have uf_127 := f_127.1
          have vf_127 := f_127.2
          have tc_128 : (x_109).toInt ≠ 0 := fun q => c_117 (Int32.toInt_inj.mp q)
          have h_129 : rg x_109 1 1 := rg_ne c_117 h_116 0 rfl (by decide)
          have uh_129 := h_129.1
          have vh_129 := h_129.2
          refine lv_aload_n hx hb dX12_why_24 rfl (lv_at hl 0 rfl) ?_
          refine lv_iconst (v := 2) hx hb dX12_why_25 (by decide) ?_
          refine lv_iload_n hx hb dX12_why_26 rfl (lv_at hl 1 rfl) ?_
          refine lv_iadd hx hb dX12_why_27 ?_
          refine lv_topi (fun x_130 ex_130 => ?_)
          replace hF := hF.trans (ap_n ex_130)
          have h_131 : rg x_130 2 4 := rg_of_eq ex_130 (rg_add (rg_k (2 : Int32) 2 rfl) h_85 (by decide))
          have uh_131 := h_131.1
          have vh_131 := h_131.2
          have tx_130 : (x_130).toInt = 2 + (a0).toInt := by rw [ex_130]; exact i_add_rg (a2 := 2) (b2 := (a0).toInt) rfl rfl (rg_k (2 : Int32) 2 rfl) h_85 (by decide)
          refine lv_iload_n hx hb dX12_why_28 rfl (lv_at hl 2 rfl) ?_
          refine lv_iload_n hx hb dX12_why_29 rfl (lv_at hl 3 rfl) ?_
          refine lv_iconst (v := 0) hx hb dX12_why_30 (by decide) ?_
          obtain ⟨w_132, hR_w_132, hL_w_132, hK_w_132, hN_w_132, hT_w_132⟩ := sh_a hSH 384 (ci := 12) (kd := 13) (len := 12720) rfl (by decide) hL_this hK_this
          have hO_w_132 : w_132 = vrow σ 384 this := vo_k (c := 12) hO_this hR_w_132
          refine pk_i (va_runV (As := [.int x_130, .int a1, .int a2, .int 0]) (rest := []) ⟨hx, hb, hml, hown, hts⟩ (s_X12_firstSo l D t σ I J ri rj rq H.size tg hSH hG.1 this x_130 a1 a2 (0 : Int32) hL_this hK_this (rg_w h_131 (by decide)) (rg_w f_106 (by decide)) w_132 hR_w_132 hL_w_132 hK_w_132 hN_w_132 hT_w_132) (cwV 4 hts (tw_V tw_597 tw_598 tw_599 tw_5 tw_600) rfl rfl rfl cv_yX12_firstSo_4 ⟨Nat.le_of_ble_eq_true rfl, Nat.le_of_ble_eq_true rfl⟩) ⟨pq_blind, pq_recv hK hP hL_this hK_this (by decide) rfl, pq_pre hK hN hP hD⟩ rfl rfl hl.1 rfl (lv_room (Nat.le_of_ble_eq_true rfl)) dX12_why_31 ⟨Nat.le_of_ble_eq_true rfl, Nat.le_of_ble_eq_true rfl⟩) hD hS hA (fun x_133 σ1 μ1 H locs hw_134 hP hD hS => ?_)
          obtain ⟨ri_135, rj_136, hu_137, hg_138, hp_140, hfn_141, hfr_142, hr_139⟩ := hw_134
          obtain ⟨hu_137a, hu_137b⟩ := Prod.mk.inj hu_137
          rw [hu_137a, hu_137b] at hP hD
          replace hF := hF.trans (bn_n hfn_141)
          replace hFr := fr_tr hFr hfr_142
          have hG := GM.tr hG hg_138 (by decide)
          refine lv_goto (tgt := 38) hx hb dX12_why_34 (by decide) ?_
          subst hQ
          exact W.iret (v := x_133) hx hb hr (fun t1 ht hW => ⟨⟨x_133, (σ, I, J, ri_135, rj_136, rq), rfl, ⟨ri_135, rj_136, rfl, hG, (hF0.symm.trans hF), hFr, (rg_w hr_139 (by decide))⟩, by rw [ht]; exact hP, va_K.moved hW.alike hK, hD⟩, hS.F ht⟩) hS.2.2 dX12_why_38
  exact go _ _ _ hP hD hS hl
