theorem dX12_fault_0 : decode cX12_fault 0 = .ok (.iload_n 1, 1) := oc_27 (by decide +kernel)
theorem dX12_fault_1 : decode cX12_fault 1 = .ok (.ifCond .ne 10, 3) := oc_154 (a := 0) (b := 10) (by decide +kernel)
theorem dX12_fault_11 : decode cX12_fault 11 = .ok (.iload_n 1, 1) := oc_27 (by decide +kernel)
theorem dX12_fault_12 : decode cX12_fault 12 = .ok (.iconst 1, 1) := oc_4 (by decide +kernel)
theorem dX12_fault_13 : decode cX12_fault 13 = .ok (.if_icmp .ne 10, 3) := oc_160 (a := 0) (b := 10) (by decide +kernel)
theorem dX12_fault_23 : decode cX12_fault 23 = .ok (.iconst (-1), 1) := oc_2 (by decide +kernel)
theorem dX12_fault_24 : decode cX12_fault 24 = .ok (.ireturn, 1) := oc_172 (by decide +kernel)
theorem dX12_fault_16 : decode cX12_fault 16 = .ok (.aload_n 0, 1) := oc_42 (by decide +kernel)
theorem dX12_fault_17 : decode cX12_fault 17 = .ok (.getfield 26, 3) := oc_180 (a := 0) (b := 26) (by decide +kernel)
theorem dX12_fault_20 : decode cX12_fault 20 = .ok (.goto 4, 3) := oc_167 (a := 0) (b := 4) (by decide +kernel)
theorem dX12_fault_4 : decode cX12_fault 4 = .ok (.aload_n 0, 1) := oc_42 (by decide +kernel)
theorem dX12_fault_5 : decode cX12_fault 5 = .ok (.getfield 22, 3) := oc_180 (a := 0) (b := 22) (by decide +kernel)
theorem dX12_fault_8 : decode cX12_fault 8 = .ok (.goto 16, 3) := oc_167 (a := 0) (b := 16) (by decide +kernel)
theorem dX12_force_0 : decode cX12_force 0 = .ok (.iload_n 1, 1) := oc_27 (by decide +kernel)
theorem dX12_force_1 : decode cX12_force 1 = .ok (.iconst 0, 1) := oc_3 (by decide +kernel)
theorem dX12_force_2 : decode cX12_force 2 = .ok (.aload_n 0, 1) := oc_42 (by decide +kernel)
theorem dX12_force_3 : decode cX12_force 3 = .ok (.getfield 7, 3) := oc_180 (a := 0) (b := 7) (by decide +kernel)
theorem dX12_force_6 : decode cX12_force 6 = .ok (.bipush 6, 2) := oc_16 (a := 6) (by decide +kernel)
theorem dX12_force_8 : decode cX12_force 8 = .ok (.iaload, 1) := oc_46 (by decide +kernel)
theorem dX12_force_9 : decode cX12_force 9 = .ok (.iconst 1, 1) := oc_4 (by decide +kernel)
theorem dX12_force_10 : decode cX12_force 10 = .ok (.isub, 1) := oc_100 (by decide +kernel)
theorem dX12_force_11 : decode cX12_force 11 = .ok (.invokestatic 62, 3) := oc_184 (a := 0) (b := 62) (by decide +kernel)
theorem dX12_force_56 : decode cX12_force 56 = .ok (.iconst (-1), 1) := oc_2 (by decide +kernel)
theorem dX12_force_57 : decode cX12_force 57 = .ok (.ireturn, 1) := oc_172 (by decide +kernel)
theorem dX12_force_14 : decode cX12_force 14 = .ok (.ifCond .eq 42, 3) := oc_153 (a := 0) (b := 42) (by decide +kernel)
theorem dX12_force_17 : decode cX12_force 17 = .ok (.iload_n 2, 1) := oc_28 (by decide +kernel)
theorem dX12_force_18 : decode cX12_force 18 = .ok (.aload_n 0, 1) := oc_42 (by decide +kernel)
theorem dX12_force_19 : decode cX12_force 19 = .ok (.getfield 7, 3) := oc_180 (a := 0) (b := 7) (by decide +kernel)
theorem dX12_force_22 : decode cX12_force 22 = .ok (.iconst 0, 1) := oc_3 (by decide +kernel)
theorem dX12_force_23 : decode cX12_force 23 = .ok (.iaload, 1) := oc_46 (by decide +kernel)
theorem dX12_force_24 : decode cX12_force 24 = .ok (.sipush 599, 3) := oc_17 (a := 2) (b := 87) (by decide +kernel)
theorem dX12_force_27 : decode cX12_force 27 = .ok (.invokestatic 62, 3) := oc_184 (a := 0) (b := 62) (by decide +kernel)
theorem dX12_force_30 : decode cX12_force 30 = .ok (.ifCond .eq 26, 3) := oc_153 (a := 0) (b := 26) (by decide +kernel)
theorem dX12_force_33 : decode cX12_force 33 = .ok (.iload_n 3, 1) := oc_29 (by decide +kernel)
theorem dX12_force_34 : decode cX12_force 34 = .ok (.iload_n 2, 1) := oc_28 (by decide +kernel)
theorem dX12_force_35 : decode cX12_force 35 = .ok (.sipush 599, 3) := oc_17 (a := 2) (b := 87) (by decide +kernel)
theorem dX12_force_38 : decode cX12_force 38 = .ok (.invokestatic 62, 3) := oc_184 (a := 0) (b := 62) (by decide +kernel)
theorem dX12_force_41 : decode cX12_force 41 = .ok (.ifCond .eq 15, 3) := oc_153 (a := 0) (b := 15) (by decide +kernel)
theorem dX12_force_44 : decode cX12_force 44 = .ok (.aload_n 0, 1) := oc_42 (by decide +kernel)
theorem dX12_force_45 : decode cX12_force 45 = .ok (.getfield 7, 3) := oc_180 (a := 0) (b := 7) (by decide +kernel)
theorem dX12_force_48 : decode cX12_force 48 = .ok (.bipush 7, 2) := oc_16 (a := 7) (by decide +kernel)
theorem dX12_force_50 : decode cX12_force 50 = .ok (.iaload, 1) := oc_46 (by decide +kernel)
theorem dX12_force_51 : decode cX12_force 51 = .ok (.bipush 30, 2) := oc_16 (a := 30) (by decide +kernel)
theorem dX12_force_53 : decode cX12_force 53 = .ok (.if_icmp .ne 5, 3) := oc_160 (a := 0) (b := 5) (by decide +kernel)
theorem dX12_force_58 : decode cX12_force 58 = .ok (.sipush 2220, 3) := oc_17 (a := 8) (b := 172) (by decide +kernel)
theorem dX12_force_61 : decode cX12_force 61 = .ok (.iconst 4, 1) := oc_7 (by decide +kernel)
theorem dX12_force_62 : decode cX12_force 62 = .ok (.aload_n 0, 1) := oc_42 (by decide +kernel)
theorem dX12_force_63 : decode cX12_force 63 = .ok (.getfield 7, 3) := oc_180 (a := 0) (b := 7) (by decide +kernel)
theorem dX12_force_66 : decode cX12_force 66 = .ok (.bipush 7, 2) := oc_16 (a := 7) (by decide +kernel)
theorem dX12_force_68 : decode cX12_force 68 = .ok (.iaload, 1) := oc_46 (by decide +kernel)
theorem dX12_force_69 : decode cX12_force 69 = .ok (.imul, 1) := oc_104 (by decide +kernel)
theorem dX12_force_70 : decode cX12_force 70 = .ok (.iadd, 1) := oc_96 (by decide +kernel)
theorem dX12_force_71 : decode cX12_force 71 = .ok (.istore 4, 2) := oc_54 (by decide +kernel)
theorem dX12_force_73 : decode cX12_force 73 = .ok (.aload_n 0, 1) := oc_42 (by decide +kernel)
theorem dX12_force_74 : decode cX12_force 74 = .ok (.getfield 7, 3) := oc_180 (a := 0) (b := 7) (by decide +kernel)
theorem dX12_force_77 : decode cX12_force 77 = .ok (.iload 4, 2) := oc_21 (by decide +kernel)
theorem dX12_force_79 : decode cX12_force 79 = .ok (.iload_n 1, 1) := oc_27 (by decide +kernel)
theorem dX12_force_80 : decode cX12_force 80 = .ok (.iastore, 1) := oc_79 (by decide +kernel)
theorem dX12_force_81 : decode cX12_force 81 = .ok (.aload_n 0, 1) := oc_42 (by decide +kernel)
theorem dX12_force_82 : decode cX12_force 82 = .ok (.getfield 7, 3) := oc_180 (a := 0) (b := 7) (by decide +kernel)
theorem dX12_force_85 : decode cX12_force 85 = .ok (.iload 4, 2) := oc_21 (by decide +kernel)
theorem dX12_force_87 : decode cX12_force 87 = .ok (.iconst 1, 1) := oc_4 (by decide +kernel)
theorem dX12_force_88 : decode cX12_force 88 = .ok (.iadd, 1) := oc_96 (by decide +kernel)
theorem dX12_force_89 : decode cX12_force 89 = .ok (.iload_n 2, 1) := oc_28 (by decide +kernel)
theorem dX12_force_90 : decode cX12_force 90 = .ok (.iastore, 1) := oc_79 (by decide +kernel)
theorem dX12_force_91 : decode cX12_force 91 = .ok (.aload_n 0, 1) := oc_42 (by decide +kernel)
theorem dX12_force_92 : decode cX12_force 92 = .ok (.getfield 7, 3) := oc_180 (a := 0) (b := 7) (by decide +kernel)
theorem dX12_force_95 : decode cX12_force 95 = .ok (.iload 4, 2) := oc_21 (by decide +kernel)
theorem dX12_force_97 : decode cX12_force 97 = .ok (.iconst 2, 1) := oc_5 (by decide +kernel)
theorem dX12_force_98 : decode cX12_force 98 = .ok (.iadd, 1) := oc_96 (by decide +kernel)
theorem dX12_force_99 : decode cX12_force 99 = .ok (.iload_n 3, 1) := oc_29 (by decide +kernel)
theorem dX12_force_100 : decode cX12_force 100 = .ok (.iastore, 1) := oc_79 (by decide +kernel)
theorem dX12_force_101 : decode cX12_force 101 = .ok (.aload_n 0, 1) := oc_42 (by decide +kernel)
theorem dX12_force_102 : decode cX12_force 102 = .ok (.getfield 7, 3) := oc_180 (a := 0) (b := 7) (by decide +kernel)
theorem dX12_force_105 : decode cX12_force 105 = .ok (.bipush 7, 2) := oc_16 (a := 7) (by decide +kernel)
theorem dX12_force_107 : decode cX12_force 107 = .ok (.dup2, 1) := oc_92 (by decide +kernel)
theorem dX12_force_108 : decode cX12_force 108 = .ok (.iaload, 1) := oc_46 (by decide +kernel)
theorem dX12_force_109 : decode cX12_force 109 = .ok (.iconst 1, 1) := oc_4 (by decide +kernel)
theorem dX12_force_110 : decode cX12_force 110 = .ok (.iadd, 1) := oc_96 (by decide +kernel)
theorem dX12_force_111 : decode cX12_force 111 = .ok (.iastore, 1) := oc_79 (by decide +kernel)
theorem dX12_force_112 : decode cX12_force 112 = .ok (.aload_n 0, 1) := oc_42 (by decide +kernel)
theorem dX12_force_113 : decode cX12_force 113 = .ok (.getfield 7, 3) := oc_180 (a := 0) (b := 7) (by decide +kernel)
theorem dX12_force_116 : decode cX12_force 116 = .ok (.bipush 7, 2) := oc_16 (a := 7) (by decide +kernel)
theorem dX12_force_118 : decode cX12_force 118 = .ok (.iaload, 1) := oc_46 (by decide +kernel)
theorem dX12_force_119 : decode cX12_force 119 = .ok (.iconst 1, 1) := oc_4 (by decide +kernel)
theorem dX12_force_120 : decode cX12_force 120 = .ok (.isub, 1) := oc_100 (by decide +kernel)
theorem dX12_force_121 : decode cX12_force 121 = .ok (.ireturn, 1) := oc_172 (by decide +kernel)
theorem dX12_numberOf_0 : decode cX12_numberOf 0 = .ok (.aload_n 0, 1) := oc_42 (by decide +kernel)
theorem dX12_numberOf_1 : decode cX12_numberOf 1 = .ok (.iload_n 1, 1) := oc_27 (by decide +kernel)
theorem dX12_numberOf_2 : decode cX12_numberOf 2 = .ok (.iload_n 2, 1) := oc_28 (by decide +kernel)
theorem dX12_numberOf_3 : decode cX12_numberOf 3 = .ok (.invokevirtual 275, 3) := oc_182 (a := 1) (b := 19) (by decide +kernel)
theorem dX12_numberOf_6 : decode cX12_numberOf 6 = .ok (.istore 4, 2) := oc_54 (by decide +kernel)
theorem dX12_numberOf_8 : decode cX12_numberOf 8 = .ok (.iload 4, 2) := oc_21 (by decide +kernel)
theorem dX12_numberOf_10 : decode cX12_numberOf 10 = .ok (.ifCond .ge 7, 3) := oc_156 (a := 0) (b := 7) (by decide +kernel)
theorem dX12_numberOf_17 : decode cX12_numberOf 17 = .ok (.aload_n 0, 1) := oc_42 (by decide +kernel)
theorem dX12_numberOf_18 : decode cX12_numberOf 18 = .ok (.getfield 7, 3) := oc_180 (a := 0) (b := 7) (by decide +kernel)
theorem dX12_numberOf_21 : decode cX12_numberOf 21 = .ok (.aload_n 0, 1) := oc_42 (by decide +kernel)
theorem dX12_numberOf_22 : decode cX12_numberOf 22 = .ok (.iload 4, 2) := oc_21 (by decide +kernel)
theorem dX12_numberOf_24 : decode cX12_numberOf 24 = .ok (.iload_n 1, 1) := oc_27 (by decide +kernel)
theorem dX12_numberOf_25 : decode cX12_numberOf 25 = .ok (.invokevirtual 272, 3) := oc_182 (a := 1) (b := 16) (by decide +kernel)
theorem dX12_numberOf_28 : decode cX12_numberOf 28 = .ok (.iconst 1, 1) := oc_4 (by decide +kernel)
theorem dX12_numberOf_29 : decode cX12_numberOf 29 = .ok (.iadd, 1) := oc_96 (by decide +kernel)
theorem dX12_numberOf_30 : decode cX12_numberOf 30 = .ok (.iaload, 1) := oc_46 (by decide +kernel)
theorem dX12_numberOf_31 : decode cX12_numberOf 31 = .ok (.ireturn, 1) := oc_172 (by decide +kernel)
theorem dX12_numberOf_13 : decode cX12_numberOf 13 = .ok (.iload_n 3, 1) := oc_29 (by decide +kernel)
theorem dX12_numberOf_14 : decode cX12_numberOf 14 = .ok (.goto 17, 3) := oc_167 (a := 0) (b := 17) (by decide +kernel)
theorem dX12_isFor_0 : decode cX12_isFor 0 = .ok (.aload_n 0, 1) := oc_42 (by decide +kernel)
theorem dX12_isFor_1 : decode cX12_isFor 1 = .ok (.iload_n 1, 1) := oc_27 (by decide +kernel)
theorem dX12_isFor_2 : decode cX12_isFor 2 = .ok (.iload_n 3, 1) := oc_29 (by decide +kernel)
theorem dX12_isFor_3 : decode cX12_isFor 3 = .ok (.invokevirtual 275, 3) := oc_182 (a := 1) (b := 19) (by decide +kernel)
theorem dX12_isFor_6 : decode cX12_isFor 6 = .ok (.ifCond .lt 14, 3) := oc_155 (a := 0) (b := 14) (by decide +kernel)
theorem dX12_isFor_20 : decode cX12_isFor 20 = .ok (.iconst 1, 1) := oc_4 (by decide +kernel)
theorem dX12_isFor_21 : decode cX12_isFor 21 = .ok (.goto 4, 3) := oc_167 (a := 0) (b := 4) (by decide +kernel)
theorem dX12_isFor_25 : decode cX12_isFor 25 = .ok (.ireturn, 1) := oc_172 (by decide +kernel)
theorem dX12_isFor_9 : decode cX12_isFor 9 = .ok (.aload_n 0, 1) := oc_42 (by decide +kernel)
theorem dX12_isFor_10 : decode cX12_isFor 10 = .ok (.iload_n 1, 1) := oc_27 (by decide +kernel)
theorem dX12_isFor_11 : decode cX12_isFor 11 = .ok (.iload_n 2, 1) := oc_28 (by decide +kernel)
theorem dX12_isFor_12 : decode cX12_isFor 12 = .ok (.iload_n 3, 1) := oc_29 (by decide +kernel)
theorem dX12_isFor_13 : decode cX12_isFor 13 = .ok (.iconst 0, 1) := oc_3 (by decide +kernel)
theorem dX12_isFor_14 : decode cX12_isFor 14 = .ok (.invokevirtual 120, 3) := oc_182 (a := 0) (b := 120) (by decide +kernel)
theorem dX12_isFor_17 : decode cX12_isFor 17 = .ok (.ifCond .lt 7, 3) := oc_155 (a := 0) (b := 7) (by decide +kernel)
theorem dX12_isFor_24 : decode cX12_isFor 24 = .ok (.iconst 0, 1) := oc_3 (by decide +kernel)
theorem dX12_is_0 : decode cX12_is 0 = .ok (.iload_n 1, 1) := oc_27 (by decide +kernel)
theorem dX12_is_1 : decode cX12_is 1 = .ok (.iconst 0, 1) := oc_3 (by decide +kernel)
theorem dX12_is_2 : decode cX12_is 2 = .ok (.iconst 2, 1) := oc_5 (by decide +kernel)
theorem dX12_is_3 : decode cX12_is 3 = .ok (.invokestatic 62, 3) := oc_184 (a := 0) (b := 62) (by decide +kernel)
theorem dX12_is_44 : decode cX12_is 44 = .ok (.iconst (-1), 1) := oc_2 (by decide +kernel)
theorem dX12_is_45 : decode cX12_is 45 = .ok (.ireturn, 1) := oc_172 (by decide +kernel)
theorem dX12_is_6 : decode cX12_is 6 = .ok (.ifCond .eq 38, 3) := oc_153 (a := 0) (b := 38) (by decide +kernel)
theorem dX12_is_9 : decode cX12_is 9 = .ok (.aload_n 0, 1) := oc_42 (by decide +kernel)
theorem dX12_is_10 : decode cX12_is 10 = .ok (.iload_n 2, 1) := oc_28 (by decide +kernel)
theorem dX12_is_11 : decode cX12_is 11 = .ok (.invokevirtual 104, 3) := oc_182 (a := 0) (b := 104) (by decide +kernel)
theorem dX12_is_14 : decode cX12_is 14 = .ok (.ifCond .eq 30, 3) := oc_153 (a := 0) (b := 30) (by decide +kernel)
theorem dX12_is_17 : decode cX12_is 17 = .ok (.iload_n 3, 1) := oc_29 (by decide +kernel)
theorem dX12_is_18 : decode cX12_is 18 = .ok (.invokestatic 73, 3) := oc_184 (a := 0) (b := 73) (by decide +kernel)
theorem dX12_is_21 : decode cX12_is 21 = .ok (.ifCond .eq 23, 3) := oc_153 (a := 0) (b := 23) (by decide +kernel)
theorem dX12_is_24 : decode cX12_is 24 = .ok (.aload_n 0, 1) := oc_42 (by decide +kernel)
theorem dX12_is_25 : decode cX12_is 25 = .ok (.iconst 2, 1) := oc_5 (by decide +kernel)
theorem dX12_is_26 : decode cX12_is 26 = .ok (.iload_n 1, 1) := oc_27 (by decide +kernel)
theorem dX12_is_27 : decode cX12_is 27 = .ok (.iadd, 1) := oc_96 (by decide +kernel)
theorem dX12_is_28 : decode cX12_is 28 = .ok (.iload_n 2, 1) := oc_28 (by decide +kernel)
theorem dX12_is_29 : decode cX12_is 29 = .ok (.iload_n 3, 1) := oc_29 (by decide +kernel)
theorem tw_971 : Cond.methodLink RX12 301 yX12_isFor ∈ wsL_law := sg_41 _ (List.mem_of_getElem? (i := 11) rfl)
theorem tw_972 : Cond.instanceMethod yX12_isFor ∈ wsL_law := sg_41 _ (List.mem_of_getElem? (i := 12) rfl)
theorem tw_973 : Cond.selects RX12 yX12_isFor yX12_isFor ∈ wsL_law := sg_41 _ (List.mem_of_getElem? (i := 13) rfl)
theorem tw_974 : Cond.code yX12_isFor cX12_isFor 4 (some .boolean) ∈ wsL_law := sg_41 _ (List.mem_of_getElem? (i := 14) rfl)
theorem dX12_is_30 : decode cX12_is 30 = .ok (.invokevirtual 301, 3) := oc_182 (a := 1) (b := 45) (by decide +kernel)
theorem dX12_is_33 : decode cX12_is 33 = .ok (.ifCond .eq 7, 3) := oc_153 (a := 0) (b := 7) (by decide +kernel)
theorem dX12_is_40 : decode cX12_is 40 = .ok (.iconst 0, 1) := oc_3 (by decide +kernel)
theorem dX12_is_41 : decode cX12_is 41 = .ok (.goto 4, 3) := oc_167 (a := 0) (b := 4) (by decide +kernel)
theorem dX12_is_36 : decode cX12_is 36 = .ok (.iconst 1, 1) := oc_4 (by decide +kernel)
theorem dX12_is_37 : decode cX12_is 37 = .ok (.goto 8, 3) := oc_167 (a := 0) (b := 8) (by decide +kernel)
theorem dX12_why_0 : decode cX12_why 0 = .ok (.iload_n 1, 1) := oc_27 (by decide +kernel)
theorem dX12_why_1 : decode cX12_why 1 = .ok (.iconst 0, 1) := oc_3 (by decide +kernel)
theorem dX12_why_2 : decode cX12_why 2 = .ok (.iconst 2, 1) := oc_5 (by decide +kernel)
theorem dX12_why_3 : decode cX12_why 3 = .ok (.invokestatic 62, 3) := oc_184 (a := 0) (b := 62) (by decide +kernel)
theorem dX12_why_37 : decode cX12_why 37 = .ok (.iconst (-1), 1) := oc_2 (by decide +kernel)
theorem dX12_why_38 : decode cX12_why 38 = .ok (.ireturn, 1) := oc_172 (by decide +kernel)
theorem dX12_why_6 : decode cX12_why 6 = .ok (.ifCond .eq 31, 3) := oc_153 (a := 0) (b := 31) (by decide +kernel)
theorem dX12_why_9 : decode cX12_why 9 = .ok (.aload_n 0, 1) := oc_42 (by decide +kernel)
theorem dX12_why_10 : decode cX12_why 10 = .ok (.iload_n 2, 1) := oc_28 (by decide +kernel)
theorem dX12_why_11 : decode cX12_why 11 = .ok (.invokevirtual 104, 3) := oc_182 (a := 0) (b := 104) (by decide +kernel)
theorem dX12_why_14 : decode cX12_why 14 = .ok (.ifCond .eq 23, 3) := oc_153 (a := 0) (b := 23) (by decide +kernel)
theorem dX12_why_17 : decode cX12_why 17 = .ok (.iload_n 3, 1) := oc_29 (by decide +kernel)
theorem dX12_why_18 : decode cX12_why 18 = .ok (.invokestatic 73, 3) := oc_184 (a := 0) (b := 73) (by decide +kernel)
theorem dX12_why_21 : decode cX12_why 21 = .ok (.ifCond .eq 16, 3) := oc_153 (a := 0) (b := 16) (by decide +kernel)
theorem dX12_why_24 : decode cX12_why 24 = .ok (.aload_n 0, 1) := oc_42 (by decide +kernel)
theorem dX12_why_25 : decode cX12_why 25 = .ok (.iconst 2, 1) := oc_5 (by decide +kernel)
theorem dX12_why_26 : decode cX12_why 26 = .ok (.iload_n 1, 1) := oc_27 (by decide +kernel)
theorem dX12_why_27 : decode cX12_why 27 = .ok (.iadd, 1) := oc_96 (by decide +kernel)
theorem dX12_why_28 : decode cX12_why 28 = .ok (.iload_n 2, 1) := oc_28 (by decide +kernel)
theorem dX12_why_29 : decode cX12_why 29 = .ok (.iload_n 3, 1) := oc_29 (by decide +kernel)
theorem dX12_why_30 : decode cX12_why 30 = .ok (.iconst 0, 1) := oc_3 (by decide +kernel)
theorem dX12_why_31 : decode cX12_why 31 = .ok (.invokevirtual 120, 3) := oc_182 (a := 0) (b := 120) (by decide +kernel)
theorem dX12_why_34 : decode cX12_why 34 = .ok (.goto 4, 3) := oc_167 (a := 0) (b := 4) (by decide +kernel)
theorem dX12_says_0 : decode cX12_says 0 = .ok (.iload_n 1, 1) := oc_27 (by decide +kernel)
theorem dX12_says_1 : decode cX12_says 1 = .ok (.invokestatic 73, 3) := oc_184 (a := 0) (b := 73) (by decide +kernel)
theorem dX12_says_4 : decode cX12_says 4 = .ok (.ifCond .ne 5, 3) := oc_154 (a := 0) (b := 5) (by decide +kernel)
theorem dX12_says_9 : decode cX12_says 9 = .ok (.iload_n 2, 1) := oc_28 (by decide +kernel)
theorem dX12_says_10 : decode cX12_says 10 = .ok (.ifCond .ne 15, 3) := oc_154 (a := 0) (b := 15) (by decide +kernel)
theorem dX12_says_25 : decode cX12_says 25 = .ok (.iload_n 2, 1) := oc_28 (by decide +kernel)
theorem dX12_says_26 : decode cX12_says 26 = .ok (.iconst 1, 1) := oc_4 (by decide +kernel)
theorem dX12_says_27 : decode cX12_says 27 = .ok (.if_icmp .ne 15, 3) := oc_160 (a := 0) (b := 15) (by decide +kernel)
theorem dX12_says_42 : decode cX12_says 42 = .ok (.iload_n 2, 1) := oc_28 (by decide +kernel)
theorem dX12_says_43 : decode cX12_says 43 = .ok (.iconst 2, 1) := oc_5 (by decide +kernel)
theorem dX12_says_44 : decode cX12_says 44 = .ok (.if_icmp .ne 14, 3) := oc_160 (a := 0) (b := 14) (by decide +kernel)
theorem dX12_says_58 : decode cX12_says 58 = .ok (.iconst (-1), 1) := oc_2 (by decide +kernel)
theorem dX12_says_59 : decode cX12_says 59 = .ok (.ireturn, 1) := oc_172 (by decide +kernel)
theorem dX12_says_47 : decode cX12_says 47 = .ok (.aload_n 0, 1) := oc_42 (by decide +kernel)
theorem dX12_says_48 : decode cX12_says 48 = .ok (.bipush 8, 2) := oc_16 (a := 8) (by decide +kernel)
theorem dX12_says_50 : decode cX12_says 50 = .ok (.iload_n 1, 1) := oc_27 (by decide +kernel)
theorem dX12_says_51 : decode cX12_says 51 = .ok (.iconst (-1), 1) := oc_2 (by decide +kernel)
theorem tw_1016 : Cond.methodLink RX12 304 yX12_numberOf ∈ wsL_law := sg_43 _ (List.mem_of_getElem? (i := 8) rfl)
theorem tw_1017 : Cond.instanceMethod yX12_numberOf ∈ wsL_law := sg_43 _ (List.mem_of_getElem? (i := 9) rfl)
theorem tw_1018 : Cond.selects RX12 yX12_numberOf yX12_numberOf ∈ wsL_law := sg_43 _ (List.mem_of_getElem? (i := 10) rfl)
theorem tw_1019 : Cond.code yX12_numberOf cX12_numberOf 5 (some .int) ∈ wsL_law := sg_43 _ (List.mem_of_getElem? (i := 11) rfl)
theorem dX12_says_52 : decode cX12_says 52 = .ok (.invokevirtual 304, 3) := oc_182 (a := 1) (b := 48) (by decide +kernel)
theorem dX12_says_55 : decode cX12_says 55 = .ok (.goto 4, 3) := oc_167 (a := 0) (b := 4) (by decide +kernel)
theorem dX12_says_30 : decode cX12_says 30 = .ok (.aload_n 0, 1) := oc_42 (by decide +kernel)
theorem dX12_says_31 : decode cX12_says 31 = .ok (.bipush 9, 2) := oc_16 (a := 9) (by decide +kernel)
theorem dX12_says_33 : decode cX12_says 33 = .ok (.iload_n 1, 1) := oc_27 (by decide +kernel)
theorem dX12_says_34 : decode cX12_says 34 = .ok (.bipush 10, 2) := oc_16 (a := 10) (by decide +kernel)
theorem dX12_says_36 : decode cX12_says 36 = .ok (.invokevirtual 304, 3) := oc_182 (a := 1) (b := 48) (by decide +kernel)
theorem dX12_says_39 : decode cX12_says 39 = .ok (.goto 20, 3) := oc_167 (a := 0) (b := 20) (by decide +kernel)
theorem dX12_says_13 : decode cX12_says 13 = .ok (.aload_n 0, 1) := oc_42 (by decide +kernel)
theorem dX12_says_14 : decode cX12_says 14 = .ok (.bipush 7, 2) := oc_16 (a := 7) (by decide +kernel)
theorem dX12_says_16 : decode cX12_says 16 = .ok (.iload_n 1, 1) := oc_27 (by decide +kernel)
theorem dX12_says_17 : decode cX12_says 17 = .ok (.bipush 50, 2) := oc_16 (a := 50) (by decide +kernel)
theorem dX12_says_19 : decode cX12_says 19 = .ok (.invokevirtual 304, 3) := oc_182 (a := 1) (b := 48) (by decide +kernel)
theorem dX12_says_22 : decode cX12_says 22 = .ok (.goto 37, 3) := oc_167 (a := 0) (b := 37) (by decide +kernel)
theorem dX12_says_7 : decode cX12_says 7 = .ok (.iconst (-1), 1) := oc_2 (by decide +kernel)
theorem dX12_says_8 : decode cX12_says 8 = .ok (.ireturn, 1) := oc_172 (by decide +kernel)
set_option maxHeartbeats 4000000 in
set_option maxRecDepth 100000 in
theorem s_X12_fault (l : Launch) (D : va_G) (t : pq_T) (σ : pq_S) (I : Nat → Nat → Int32) (J : Nat → Nat → Int64) (ri : Nat → Nat → Int32) (rj : Nat → Nat → Int64) (rq : Nat → Nat → Option Nat) (sz : Nat) (tg : Nat → Nat) (hSH : SH σ tg) (hG0 : GT tg I ri) (this : Nat) (a0 : Int32) (hL_this : this ∈ σ.1) (hK_this : σ.2.1 this = 12) : MetI l yX12_fault (wa yX12_fault cX12_fault 2 (some .int)) ({ frames := 0, cells := 0, slots := 0, locals := 0 }) [.ref this, .int a0] D t σ (I, J, ri, rj, rq) sz 0 0 (fun (r : Int32) (u : pq_S × pq_M) => u = (σ, I, J, ri, rj, rq)) := by
  refine Met.ofW (cc := cX12_fault) (maxL := 2) (ret := (some .int)) (by decide) rfl ?_
  intro p e s m args below meth c s₁ B hml hv
  obtain ⟨rfl, hsz, hP, hK, hD0, hN⟩ := hv
  have hx := B.exec
  have hb := B.bytes
  have hr := B.returns
  have hts := atoms_spec (ws := (wa yX12_fault cX12_fault 2 (some .int))) B.pre
  have hown : s.vm.findClass RX12 = some m.cls := findClass_of_methodNamed B.named
  have hlocks := B.notSynchronized
  subst hsz
  have hD : va_D (pq_B t σ (I, J, ri, rj, rq) s.heap.size) (pq_P t σ (I, J, ri, rj, rq)) := hD0.self
  generalize hAe : pq_B t σ (I, J, ri, rj, rq) s.heap.size = A at hD ⊢
  have hA : ∀ q : Nat, s.heap.size ≤ q → A q := fun q h => by rw [← hAe]; exact Or.inr h
  have hS : va_S A s.heap s.heap [] := va_S.rf
  have hG : GM [] tg σ I ri I ri rq := ⟨hG0, fun _ _ _ => rfl, fun _ _ _ _ _ => rfl, fun _ _ _ _ _ _ => rfl⟩
  have hl := lv_entry ([.ref this, .int a0]) (n := 2) (Nat.le_of_ble_eq_true rfl)
  rw [lg_entry_eq]
  generalize (lg_sl ([.ref this, .int a0]) ++ List.replicate (2 - (lg_sl ([.ref this, .int a0])).length) Slot.unset).toArray = ls at hl ⊢
  have hl : lv_has ls 2 [(0, .ref this), (1, .int a0)] := hl
  refine q_gen (fun Q hQ => ?_)
  have go : ∀ (H : Heap) (locs : List Loc) (ls : Array Slot), va_P D vwCl (pq_P t σ (I, J, ri, rj, rq)) H → va_D A (pq_P t σ (I, J, ri, rj, rq)) → va_S A s.heap H locs → lv_has ls 2 [(0, .ref this), (1, .int a0)] → W p l e ({ frames := 0, cells := 0, slots := 0, locals := 0 } : Room) s m (List.toArray ([.ref this, .int a0] : List Value)) below meth c H locs 0 0 Q (F0 m 0 ls []) := by
    intro H locs ls hP hD hS hl
    refine lv_iload_n hx hb dX12_fault_0 rfl (lv_at hl 1 rfl) ?_
    refine lv_if_ne (tgt := 11) hx hb dX12_fault_1 (by decide) (fun c_1 => ?_) (fun c_1 => ?_)
    · have tc_2 : (a0).toInt ≠ 0 := fun q => c_1 (Int32.toInt_inj.mp q)
      refine lv_iload_n hx hb dX12_fault_11 rfl (lv_at hl 1 rfl) ?_
      refine lv_iconst (v := 1) hx hb dX12_fault_12 (by decide) ?_
      refine lv_icmp_ne (tgt := 23) hx hb dX12_fault_13 (by decide) (fun c_3 => ?_) (fun c_3 => ?_)
      · have tc_4 : (a0).toInt ≠ 1 := fun q => c_3 (Int32.toInt_inj.mp q)
        refine lv_iconst (v := (-1)) hx hb dX12_fault_23 (by decide) ?_
        subst hQ
        exact W.iret (v := (-1)) hx hb hr (fun t1 ht hW => ⟨⟨(-1), (σ, I, J, ri, rj, rq), rfl, rfl, by rw [ht]; exact hP, va_K.moved hW.alike hK, hD⟩, hS.F ht⟩) hS.2.2 dX12_fault_24
      · have tc_5 : (a0).toInt = 1 := congrArg Int32.toInt c_3
        have h_6 : rg a0 1 1 := rg_and (rg_full _) (rg_of_eq c_3 (rg_k (1 : Int32) 1 rfl)) (by decide)
        have uh_6 := h_6.1
        have vh_6 := h_6.2
        refine lv_aload_n hx hb dX12_fault_16 rfl (lv_at hl 0 rfl) ?_
        refine pg_f (v := .int (I 390 this)) (C := RX12) (T := TX12) (N := 31) hx hb hts (tw_i inlX12) hown hK hP hL_this hK_this (by decide) rfl 6 (by decide) (hts _ (tw_c tw_181)) rfl dX12_fault_17 ?_
        refine lv_goto (tgt := 24) hx hb dX12_fault_20 (by decide) ?_
        subst hQ
        exact W.iret (v := (I 390 this)) hx hb hr (fun t1 ht hW => ⟨⟨(I 390 this), (σ, I, J, ri, rj, rq), rfl, rfl, by rw [ht]; exact hP, va_K.moved hW.alike hK, hD⟩, hS.F ht⟩) hS.2.2 dX12_fault_24
    · have tc_7 : (a0).toInt = 0 := congrArg Int32.toInt c_1
      have h_8 : rg a0 0 0 := rg_and (rg_full _) (rg_of_eq c_1 (rg_k (0 : Int32) 0 rfl)) (by decide)
      have uh_8 := h_8.1
      have vh_8 := h_8.2
      refine lv_aload_n hx hb dX12_fault_4 rfl (lv_at hl 0 rfl) ?_
      refine pg_f (v := .int (I 389 this)) (C := RX12) (T := TX12) (N := 31) hx hb hts (tw_i inlX12) hown hK hP hL_this hK_this (by decide) rfl 5 (by decide) (hts _ (tw_c tw_180)) rfl dX12_fault_5 ?_
      refine lv_goto (tgt := 24) hx hb dX12_fault_8 (by decide) ?_
      subst hQ
      exact W.iret (v := (I 389 this)) hx hb hr (fun t1 ht hW => ⟨⟨(I 389 this), (σ, I, J, ri, rj, rq), rfl, rfl, by rw [ht]; exact hP, va_K.moved hW.alike hK, hD⟩, hS.F ht⟩) hS.2.2 dX12_fault_24
  exact go _ _ _ hP hD hS hl

set_option maxHeartbeats 4000000 in
set_option maxRecDepth 100000 in
theorem s_X12_force (l : Launch) (D : va_G) (t : pq_T) (σ : pq_S) (I : Nat → Nat → Int32) (J : Nat → Nat → Int64) (ri : Nat → Nat → Int32) (rj : Nat → Nat → Int64) (rq : Nat → Nat → Option Nat) (sz : Nat) (tg : Nat → Nat) (hSH : SH σ tg) (hG0 : GT tg I ri) (this : Nat) (a0 : Int32) (a1 : Int32) (a2 : Int32) (hL_this : this ∈ σ.1) (hK_this : σ.2.1 this = 12) : MetI l yX12_force (wa yX12_force cX12_force 5 (some .int)) ({ frames := 1, cells := 0, slots := 0, locals := 22 }) [.ref this, .int a0, .int a1, .int a2] D t σ (I, J, ri, rj, rq) sz 0 0 (fun (r : Int32) (u : pq_S × pq_M) => ∃ ri' : Nat → Nat → Int32, u = (σ, I, J, ri', rj, rq) ∧ GM [1007] tg σ I ri I ri' rq ∧ rg r (-1) 29) := by
  refine Met.ofW (cc := cX12_force) (maxL := 5) (ret := (some .int)) (by decide) rfl ?_
  intro p e s m args below meth c s₁ B hml hv
  obtain ⟨rfl, hsz, hP, hK, hD0, hN⟩ := hv
  have hx := B.exec
  have hb := B.bytes
  have hr := B.returns
  have hts := atoms_spec (ws := (wa yX12_force cX12_force 5 (some .int))) B.pre
  have hown : s.vm.findClass RX12 = some m.cls := findClass_of_methodNamed B.named
  have hlocks := B.notSynchronized
  subst hsz
  have hD : va_D (pq_B t σ (I, J, ri, rj, rq) s.heap.size) (pq_P t σ (I, J, ri, rj, rq)) := hD0.self
  generalize hAe : pq_B t σ (I, J, ri, rj, rq) s.heap.size = A at hD ⊢
  have hA : ∀ q : Nat, s.heap.size ≤ q → A q := fun q h => by rw [← hAe]; exact Or.inr h
  have hS : va_S A s.heap s.heap [] := va_S.rf
  have hG : GM [1007] tg σ I ri I ri rq := ⟨hG0, fun _ _ _ => rfl, fun _ _ _ _ _ => rfl, fun _ _ _ _ _ _ => rfl⟩
  have hl := lv_entry ([.ref this, .int a0, .int a1, .int a2]) (n := 5) (Nat.le_of_ble_eq_true rfl)
  rw [lg_entry_eq]
  generalize (lg_sl ([.ref this, .int a0, .int a1, .int a2]) ++ List.replicate (5 - (lg_sl ([.ref this, .int a0, .int a1, .int a2])).length) Slot.unset).toArray = ls at hl ⊢
  have hl : lv_has ls 5 [(0, .ref this), (1, .int a0), (2, .int a1), (3, .int a2)] := hl
  refine q_gen (fun Q hQ => ?_)
  have go : ∀ (H : Heap) (locs : List Loc) (ls : Array Slot), va_P D vwCl (pq_P t σ (I, J, ri, rj, rq)) H → va_D A (pq_P t σ (I, J, ri, rj, rq)) → va_S A s.heap H locs → lv_has ls 5 [(0, .ref this), (1, .int a0), (2, .int a1), (3, .int a2)] → W p l e ({ frames := 1, cells := 0, slots := 0, locals := 22 } : Room) s m (List.toArray ([.ref this, .int a0, .int a1, .int a2] : List Value)) below meth c H locs 0 0 Q (F0 m 0 ls []) := by
    intro H locs ls hP hD hS hl
    refine lv_iload_n hx hb dX12_force_0 rfl (lv_at hl 1 rfl) ?_
    refine lv_iconst (v := 0) hx hb dX12_force_1 (by decide) ?_
    refine lv_aload_n hx hb dX12_force_2 rfl (lv_at hl 0 rfl) ?_
    obtain ⟨w_1, hR_w_1, hL_w_1, hK_w_1, hN_w_1, hT_w_1⟩ := sh_a hSH 384 (ci := 12) (kd := 13) (len := 12720) rfl (by decide) hL_this hK_this
    refine pg_f (v := .ref w_1) (C := RX12) (T := TX12) (N := 31) hx hb hts (tw_i inlX12) hown hK hP hL_this hK_this (by decide) rfl 0 (by decide) (hts _ (tw_c tw_176)) (pq_hv rfl hR_w_1) dX12_force_3 ?_
    refine lv_bipush (v := 6) hx hb dX12_force_6 (by decide) ?_
    refine pl_i hx hb hK hP hL_w_1 hK_w_1 hN_w_1 (vp_in_iff.mpr (by decide)) dX12_force_8 ?_
    refine lv_tov (ri w_1 6) rfl ?_
    have h_2 : rg (ri w_1 6) 0 10 := GM.z0 hG0 (by rw [hT_w_1]; decide) (i := 6) (k := 6) (by decide) rfl
    have uh_2 := h_2.1
    have vh_2 := h_2.2
    refine lv_iconst (v := 1) hx hb dX12_force_9 (by decide) ?_
    refine lv_isub hx hb dX12_force_10 ?_
    refine lv_topi (fun x_3 ex_3 => ?_)
    have h_4 : rg x_3 (-1) 9 := rg_of_eq ex_3 (rg_sub h_2 (rg_k (1 : Int32) 1 rfl) (by decide))
    have uh_4 := h_4.1
    have vh_4 := h_4.2
    have tx_3 : (x_3).toInt = (ri w_1 6).toInt - 1 := by rw [ex_3]; exact i_sub_rg (a2 := (ri w_1 6).toInt) (b2 := 1) rfl rfl h_2 (rg_k (1 : Int32) 1 rfl) (by decide)
    refine pk_i (va_runS (As := [.int a0, .int 0, .int x_3]) (rest := []) ⟨hx, hb, hml, hown, hts⟩ (s_X12_isIn l D t σ I J ri rj rq H.size tg hSH hG.1 a0 (0 : Int32) x_3) (va_cwS 3 hts (tw_S tw_235 tw_236 tw_5 tw_237) rfl rfl rfl cd_yX12_isIn_3 ⟨Nat.le_of_ble_eq_true rfl, Nat.le_of_ble_eq_true rfl⟩) ⟨pq_blind, pq_pre hK hN hP hD⟩ rfl rfl hl.1 rfl (lv_room (Nat.le_of_ble_eq_true rfl)) dX12_force_11 ⟨Nat.le_of_ble_eq_true rfl, Nat.le_of_ble_eq_true rfl⟩) hD hS hA (fun x_5 σ1 μ1 H locs hw_6 hP hD hS => ?_)
    obtain ⟨hu_7, hr_9⟩ := hw_6
    obtain ⟨hu_7a, hu_7b⟩ := Prod.mk.inj hu_7
    rw [hu_7a, hu_7b] at hP hD
    have h_10 : rg x_5 0 1 := by rcases hr_9 with ⟨q, -⟩ | ⟨q, -⟩ <;> rw [q] <;> exact ⟨by decide, by decide⟩
    have uh_10 := h_10.1
    have vh_10 := h_10.2
    have K_88 : ∀  (H : Heap) (locs : List Loc) (ls : Array Slot), GM [1007] tg σ I ri I ri rq → va_P D vwCl (pq_P t σ (I, J, ri, rj, rq)) H → va_D A (pq_P t σ (I, J, ri, rj, rq)) → va_S A s.heap H locs → lv_has ls 5 [] → W p l e ({ frames := 1, cells := 0, slots := 0, locals := 22 } : Room) s m (List.toArray ([.ref this, .int a0, .int a1, .int a2] : List Value)) below meth c H locs 0 0 Q (F0 m 56 ls []) := by
      intro H locs ls hG hP hD hS hl
      refine lv_iconst (v := (-1)) hx hb dX12_force_56 (by decide) ?_
      subst hQ
      exact W.iret (v := (-1)) hx hb hr (fun t1 ht hW => ⟨⟨(-1), (σ, I, J, ri, rj, rq), rfl, ⟨ri, rfl, hG, (rg_w (rg_k (-1 : Int32) (-1) rfl) (by decide))⟩, by rw [ht]; exact hP, va_K.moved hW.alike hK, hD⟩, hS.F ht⟩) hS.2.2 dX12_force_57
    refine lv_if_eq (tgt := 56) hx hb dX12_force_14 (by decide) (fun c_89 => ?_) (fun c_89 => ?_)
    · have f_90 := (hr_9.resolve_left (fun q => absurd (q.1.symm.trans c_89) (by decide))).2
      have tc_91 : (x_5).toInt = 0 := congrArg Int32.toInt c_89
      have h_92 : rg x_5 0 0 := rg_and h_10 (rg_of_eq c_89 (rg_k (0 : Int32) 0 rfl)) (by decide)
      have uh_92 := h_92.1
      have vh_92 := h_92.2
      exact K_88 _ _ _ hG hP hD hS (lv_sub hl [] rfl)
    · obtain ⟨f_93, f_94⟩ := (hr_9.resolve_right (fun q => c_89 q.1)).2
      have tc_95 : 0 ≤ (a0).toInt := Int32.le_iff_toInt_le.mp f_93
      have h_96 : rg a0 0 2147483647 := rg_le2 f_93 (rg_k (0 : Int32) 0 rfl) (rg_full _) (by decide)
      have uh_96 := h_96.1
      have vh_96 := h_96.2
      have tc_97 : (a0).toInt ≤ (x_3).toInt := Int32.le_iff_toInt_le.mp f_94
      have h_98 : rg a0 0 9 := rg_le1 f_94 h_96 h_4 (by decide)
      have uh_98 := h_98.1
      have vh_98 := h_98.2
      have h_99 : rg x_3 0 9 := rg_le2 f_94 h_96 h_4 (by decide)
      have uh_99 := h_99.1
      have vh_99 := h_99.2
      have tc_100 : (x_5).toInt ≠ 0 := fun q => c_89 (Int32.toInt_inj.mp q)
      have h_101 : rg x_5 1 1 := rg_ne c_89 h_10 0 rfl (by decide)
      have uh_101 := h_101.1
      have vh_101 := h_101.2
      refine lv_iload_n hx hb dX12_force_17 rfl (lv_at hl 2 rfl) ?_
      refine lv_aload_n hx hb dX12_force_18 rfl (lv_at hl 0 rfl) ?_
      refine pg_f (v := .ref w_1) (C := RX12) (T := TX12) (N := 31) hx hb hts (tw_i inlX12) hown hK hP hL_this hK_this (by decide) rfl 0 (by decide) (hts _ (tw_c tw_176)) (pq_hv rfl hR_w_1) dX12_force_19 ?_
      refine lv_iconst (v := 0) hx hb dX12_force_22 (by decide) ?_
      refine pl_i hx hb hK hP hL_w_1 hK_w_1 hN_w_1 (vp_in_iff.mpr (by decide)) dX12_force_23 ?_
      refine lv_tov (ri w_1 0) rfl ?_
      have h_102 : rg (ri w_1 0) 0 600 := GM.z0 hG0 (by rw [hT_w_1]; decide) (i := 0) (k := 0) (by decide) rfl
      have uh_102 := h_102.1
      have vh_102 := h_102.2
      refine lv_sipush (v := 599) hx hb dX12_force_24 (by decide) ?_
      refine pk_i (va_runS (As := [.int a1, .int (ri w_1 0), .int 599]) (rest := []) ⟨hx, hb, hml, hown, hts⟩ (s_X12_isIn l D t σ I J ri rj rq H.size tg hSH hG.1 a1 (ri w_1 0) (599 : Int32)) (va_cwS 3 hts (tw_S tw_235 tw_236 tw_5 tw_237) rfl rfl rfl cd_yX12_isIn_3 ⟨Nat.le_of_ble_eq_true rfl, Nat.le_of_ble_eq_true rfl⟩) ⟨pq_blind, pq_pre hK hN hP hD⟩ rfl rfl hl.1 rfl (lv_room (Nat.le_of_ble_eq_true rfl)) dX12_force_27 ⟨Nat.le_of_ble_eq_true rfl, Nat.le_of_ble_eq_true rfl⟩) hD hS hA (fun x_103 σ1 μ1 H locs hw_104 hP hD hS => ?_)
      obtain ⟨hu_105, hr_107⟩ := hw_104
      obtain ⟨hu_105a, hu_105b⟩ := Prod.mk.inj hu_105
      rw [hu_105a, hu_105b] at hP hD
      have h_108 : rg x_103 0 1 := by rcases hr_107 with ⟨q, -⟩ | ⟨q, -⟩ <;> rw [q] <;> exact ⟨by decide, by decide⟩
      have uh_108 := h_108.1
      have vh_108 := h_108.2
      refine lv_if_eq (tgt := 56) hx hb dX12_force_30 (by decide) (fun c_109 => ?_) (fun c_109 => ?_)
      · have f_110 := (hr_107.resolve_left (fun q => absurd (q.1.symm.trans c_109) (by decide))).2
        have tc_111 : (x_103).toInt = 0 := congrArg Int32.toInt c_109
        have h_112 : rg x_103 0 0 := rg_and h_108 (rg_of_eq c_109 (rg_k (0 : Int32) 0 rfl)) (by decide)
        have uh_112 := h_112.1
        have vh_112 := h_112.2
        exact K_88 _ _ _ hG hP hD hS (lv_sub hl [] rfl)
      · obtain ⟨f_113, f_114⟩ := (hr_107.resolve_right (fun q => c_109 q.1)).2
        have tc_115 : (ri w_1 0).toInt ≤ (a1).toInt := Int32.le_iff_toInt_le.mp f_113
        have h_116 : rg a1 0 2147483647 := rg_le2 f_113 h_102 (rg_full _) (by decide)
        have uh_116 := h_116.1
        have vh_116 := h_116.2
        have tc_117 : (a1).toInt ≤ 599 := Int32.le_iff_toInt_le.mp f_114
        have h_118 : rg a1 0 599 := rg_le1 f_114 h_116 (rg_k (599 : Int32) 599 rfl) (by decide)
        have uh_118 := h_118.1
        have vh_118 := h_118.2
        have tc_119 : (x_103).toInt ≠ 0 := fun q => c_109 (Int32.toInt_inj.mp q)
        have h_120 : rg x_103 1 1 := rg_ne c_109 h_108 0 rfl (by decide)
        have uh_120 := h_120.1
        have vh_120 := h_120.2
        refine lv_iload_n hx hb dX12_force_33 rfl (lv_at hl 3 rfl) ?_
        refine lv_iload_n hx hb dX12_force_34 rfl (lv_at hl 2 rfl) ?_
        refine lv_sipush (v := 599) hx hb dX12_force_35 (by decide) ?_
        refine pk_i (va_runS (As := [.int a2, .int a1, .int 599]) (rest := []) ⟨hx, hb, hml, hown, hts⟩ (s_X12_isIn l D t σ I J ri rj rq H.size tg hSH hG.1 a2 a1 (599 : Int32)) (va_cwS 3 hts (tw_S tw_235 tw_236 tw_5 tw_237) rfl rfl rfl cd_yX12_isIn_3 ⟨Nat.le_of_ble_eq_true rfl, Nat.le_of_ble_eq_true rfl⟩) ⟨pq_blind, pq_pre hK hN hP hD⟩ rfl rfl hl.1 rfl (lv_room (Nat.le_of_ble_eq_true rfl)) dX12_force_38 ⟨Nat.le_of_ble_eq_true rfl, Nat.le_of_ble_eq_true rfl⟩) hD hS hA (fun x_121 σ1 μ1 H locs hw_122 hP hD hS => ?_)
        obtain ⟨hu_123, hr_125⟩ := hw_122
        obtain ⟨hu_123a, hu_123b⟩ := Prod.mk.inj hu_123
        rw [hu_123a, hu_123b] at hP hD
        have h_126 : rg x_121 0 1 := by rcases hr_125 with ⟨q, -⟩ | ⟨q, -⟩ <;> rw [q] <;> exact ⟨by decide, by decide⟩
        have uh_126 := h_126.1
        have vh_126 := h_126.2
        refine lv_if_eq (tgt := 56) hx hb dX12_force_41 (by decide) (fun c_127 => ?_) (fun c_127 => ?_)
        · have f_128 := (hr_125.resolve_left (fun q => absurd (q.1.symm.trans c_127) (by decide))).2
          have tc_129 : (x_121).toInt = 0 := congrArg Int32.toInt c_127
          have h_130 : rg x_121 0 0 := rg_and h_126 (rg_of_eq c_127 (rg_k (0 : Int32) 0 rfl)) (by decide)
          have uh_130 := h_130.1
          have vh_130 := h_130.2
          exact K_88 _ _ _ hG hP hD hS (lv_sub hl [] rfl)
        · obtain ⟨f_131, f_132⟩ := (hr_125.resolve_right (fun q => c_127 q.1)).2
          have tc_133 : (a1).toInt ≤ (a2).toInt := Int32.le_iff_toInt_le.mp f_131
          have h_134 : rg a2 0 2147483647 := rg_le2 f_131 h_118 (rg_full _) (by decide)
          have uh_134 := h_134.1
          have vh_134 := h_134.2
          have tc_135 : (a2).toInt ≤ 599 := Int32.le_iff_toInt_le.mp f_132
          have h_136 : rg a2 0 599 := rg_le1 f_132 h_134 (rg_k (599 : Int32) 599 rfl) (by decide)
          have uh_136 := h_136.1
          have vh_136 := h_136.2
          have tc_137 : (x_121).toInt ≠ 0 := fun q => c_127 (Int32.toInt_inj.mp q)
          have h_138 : rg x_121 1 1 := rg_ne c_127 h_126 0 rfl (by decide)
          have uh_138 := h_138.1
          have vh_138 := h_138.2
          refine lv_aload_n hx hb dX12_force_44 rfl (lv_at hl 0 rfl) ?_
          refine pg_f (v := .ref w_1) (C := RX12) (T := TX12) (N := 31) hx hb hts (tw_i inlX12) hown hK hP hL_this hK_this (by decide) rfl 0 (by decide) (hts _ (tw_c tw_176)) (pq_hv rfl hR_w_1) dX12_force_45 ?_
          refine lv_bipush (v := 7) hx hb dX12_force_48 (by decide) ?_
          refine pl_i hx hb hK hP hL_w_1 hK_w_1 hN_w_1 (vp_in_iff.mpr (by decide)) dX12_force_50 ?_
          refine lv_topi (fun x_139 ex_139 => ?_)
          have h_140 : rg x_139 0 30 := rg_of_eq ex_139 (GM.z hG (by rw [hT_w_1]; decide) (show zn ((7 : Int32)).toNatClampNeg = 7 from by decide) rfl)
          have uh_140 := h_140.1
          have vh_140 := h_140.2
          refine lv_bipush (v := 30) hx hb dX12_force_51 (by decide) ?_
          refine lv_icmp_ne (tgt := 58) hx hb dX12_force_53 (by decide) (fun c_141 => ?_) (fun c_141 => ?_)
          · have tc_142 : (x_139).toInt ≠ 30 := fun q => c_141 (Int32.toInt_inj.mp q)
            have h_143 : rg x_139 0 29 := rg_ne c_141 h_140 30 rfl (by decide)
            have uh_143 := h_143.1
            have vh_143 := h_143.2
            refine lv_sipush (v := 2220) hx hb dX12_force_58 (by decide) ?_
            refine lv_iconst (v := 4) hx hb dX12_force_61 (by decide) ?_
            refine lv_aload_n hx hb dX12_force_62 rfl (lv_at hl 0 rfl) ?_
            refine pg_f (v := .ref w_1) (C := RX12) (T := TX12) (N := 31) hx hb hts (tw_i inlX12) hown hK hP hL_this hK_this (by decide) rfl 0 (by decide) (hts _ (tw_c tw_176)) (pq_hv rfl hR_w_1) dX12_force_63 ?_
            refine lv_bipush (v := 7) hx hb dX12_force_66 (by decide) ?_
            refine pl_i hx hb hK hP hL_w_1 hK_w_1 hN_w_1 (vp_in_iff.mpr (by decide)) dX12_force_68 ?_
            refine lv_tov x_139 ex_139.symm ?_
            refine lv_imul hx hb dX12_force_69 ?_
            refine lv_topi (fun x_144 ex_144 => ?_)
            have h_145 : rg x_144 0 116 := rg_of_eq ex_144 (rg_mul (rg_k (4 : Int32) 4 rfl) h_143 (by decide))
            have uh_145 := h_145.1
            have vh_145 := h_145.2
            have tx_144 : (x_144).toInt = 4 * (x_139).toInt := by rw [ex_144]; exact i_mul_rg (a2 := 4) (b2 := (x_139).toInt) rfl rfl (rg_k (4 : Int32) 4 rfl) h_143 (by decide)
            refine lv_iadd hx hb dX12_force_70 ?_
            refine lv_topi (fun x_146 ex_146 => ?_)
            have h_147 : rg x_146 2220 2336 := rg_of_eq ex_146 (rg_add (rg_k (2220 : Int32) 2220 rfl) h_145 (by decide))
            have uh_147 := h_147.1
            have vh_147 := h_147.2
            have tx_146 : (x_146).toInt = 2220 + (x_144).toInt := by rw [ex_146]; exact i_add_rg (a2 := 2220) (b2 := (x_144).toInt) rfl rfl (rg_k (2220 : Int32) 2220 rfl) h_145 (by decide)
            refine lv_istore (lv' := [(4, .int x_146), (0, .ref this), (1, .int a0), (2, .int a1), (3, .int a2)]) hx hb dX12_force_71 hl (by decide) rfl (fun ls hl => ?_)
            refine lv_aload_n hx hb dX12_force_73 rfl (lv_at hl 1 rfl) ?_
            refine pg_f (v := .ref w_1) (C := RX12) (T := TX12) (N := 31) hx hb hts (tw_i inlX12) hown hK hP hL_this hK_this (by decide) rfl 0 (by decide) (hts _ (tw_c tw_176)) (pq_hv rfl hR_w_1) dX12_force_74 ?_
            refine lv_iload hx hb dX12_force_77 (lv_at hl 0 rfl) ?_
            refine lv_iload_n hx hb dX12_force_79 rfl (lv_at hl 2 rfl) ?_
            refine pt_i hx hb hK hP hD hS hL_w_1 hK_w_1 hN_w_1 (rg_in h_147 (by decide)) dX12_force_80 (fun r_148 H locs er_148 hP hD hS => ?_)
            have hfv : (x_146).toNatClampNeg = 2220 + 4 * (x_139).toNatClampNeg := by have z_i := clampE x_146; have z_0 := clampE x_139; omega
            have hf30 : (x_139).toNatClampNeg < 30 := rg_cl1 h_143 (by decide)
            have hfn : (ri w_1 7).toInt ≤ ((x_139).toNatClampNeg : Int) := by have z_0 := clampE x_139; have z_1 := congrArg Int32.toInt (show ri w_1 7 = x_139 from ex_139.symm); omega
            have hG := GM.wf0 hG hT_w_1 (by decide) er_148 hfv hf30 hfn rfl (rg_w h_98 (by decide)) (by decide)
            have hfc := fc_eq er_148 hfv
            have h_149 : r_148 w_1 7 = x_139 := cz_ne er_148 (zn_FORCE (c := x_139.toNatClampNeg) (k := 0) (by have z_i := clampE x_146; have z_0 := clampE x_139; omega) (rg_cl1 h_143 (by decide)) (by decide)) (by decide) (by decide) ex_139.symm
            refine lv_aload_n hx hb dX12_force_81 rfl (lv_at hl 1 rfl) ?_
            refine pg_f (v := .ref w_1) (C := RX12) (T := TX12) (N := 31) hx hb hts (tw_i inlX12) hown hK hP hL_this hK_this (by decide) rfl 0 (by decide) (hts _ (tw_c tw_176)) (pq_hv rfl hR_w_1) dX12_force_82 ?_
            refine lv_iload hx hb dX12_force_85 (lv_at hl 0 rfl) ?_
            refine lv_iconst (v := 1) hx hb dX12_force_87 (by decide) ?_
            refine lv_iadd hx hb dX12_force_88 ?_
            refine lv_topi (fun x_150 ex_150 => ?_)
            have h_151 : rg x_150 2221 2337 := rg_of_eq ex_150 (rg_add h_147 (rg_k (1 : Int32) 1 rfl) (by decide))
            have uh_151 := h_151.1
            have vh_151 := h_151.2
            have tx_150 : (x_150).toInt = (x_146).toInt + 1 := by rw [ex_150]; exact i_add_rg (a2 := (x_146).toInt) (b2 := 1) rfl rfl h_147 (rg_k (1 : Int32) 1 rfl) (by decide)
            refine lv_iload_n hx hb dX12_force_89 rfl (lv_at hl 3 rfl) ?_
            refine pt_i hx hb hK hP hD hS hL_w_1 hK_w_1 hN_w_1 (rg_in h_151 (by decide)) dX12_force_90 (fun r_152 H locs er_152 hP hD hS => ?_)
            have hG := GM.wz hG hT_w_1 (by decide) er_152 (zn_FORCE (c := x_139.toNatClampNeg) (k := 1) (by have z_i := clampE x_150; have z_0 := clampE x_139; omega) (rg_cl1 h_143 (by decide)) (by decide)) rfl (rg_w h_118 (by decide)) (by decide)
            have h_153 : r_152 w_1 7 = x_139 := cz_ne er_152 (zn_FORCE (c := x_139.toNatClampNeg) (k := 1) (by have z_i := clampE x_150; have z_0 := clampE x_139; omega) (rg_cl1 h_143 (by decide)) (by decide)) (by decide) (by decide) h_149
            have hfc := fc_ne er_152 (by have z_i := clampE x_150; have z_0 := clampE x_139; omega) hfc
            refine lv_aload_n hx hb dX12_force_91 rfl (lv_at hl 1 rfl) ?_
            refine pg_f (v := .ref w_1) (C := RX12) (T := TX12) (N := 31) hx hb hts (tw_i inlX12) hown hK hP hL_this hK_this (by decide) rfl 0 (by decide) (hts _ (tw_c tw_176)) (pq_hv rfl hR_w_1) dX12_force_92 ?_
            refine lv_iload hx hb dX12_force_95 (lv_at hl 0 rfl) ?_
            refine lv_iconst (v := 2) hx hb dX12_force_97 (by decide) ?_
            refine lv_iadd hx hb dX12_force_98 ?_
            refine lv_topi (fun x_154 ex_154 => ?_)
            have h_155 : rg x_154 2222 2338 := rg_of_eq ex_154 (rg_add h_147 (rg_k (2 : Int32) 2 rfl) (by decide))
            have uh_155 := h_155.1
            have vh_155 := h_155.2
            have tx_154 : (x_154).toInt = (x_146).toInt + 2 := by rw [ex_154]; exact i_add_rg (a2 := (x_146).toInt) (b2 := 2) rfl rfl h_147 (rg_k (2 : Int32) 2 rfl) (by decide)
            refine lv_iload_n hx hb dX12_force_99 rfl (lv_at hl 4 rfl) ?_
            refine pt_i hx hb hK hP hD hS hL_w_1 hK_w_1 hN_w_1 (rg_in h_155 (by decide)) dX12_force_100 (fun r_156 H locs er_156 hP hD hS => ?_)
            have hG := GM.wz hG hT_w_1 (by decide) er_156 (zn_FORCE (c := x_139.toNatClampNeg) (k := 2) (by have z_i := clampE x_154; have z_0 := clampE x_139; omega) (rg_cl1 h_143 (by decide)) (by decide)) rfl (rg_w h_136 (by decide)) (by decide)
            have h_157 : r_156 w_1 7 = x_139 := cz_ne er_156 (zn_FORCE (c := x_139.toNatClampNeg) (k := 2) (by have z_i := clampE x_154; have z_0 := clampE x_139; omega) (rg_cl1 h_143 (by decide)) (by decide)) (by decide) (by decide) h_153
            have hfc := fc_ne er_156 (by have z_i := clampE x_154; have z_0 := clampE x_139; omega) hfc
            refine lv_aload_n hx hb dX12_force_101 rfl (lv_at hl 1 rfl) ?_
            refine pg_f (v := .ref w_1) (C := RX12) (T := TX12) (N := 31) hx hb hts (tw_i inlX12) hown hK hP hL_this hK_this (by decide) rfl 0 (by decide) (hts _ (tw_c tw_176)) (pq_hv rfl hR_w_1) dX12_force_102 ?_
            refine lv_bipush (v := 7) hx hb dX12_force_105 (by decide) ?_
            refine lv_dup2_11 hx hb dX12_force_107 rfl rfl ?_
            refine pl_i hx hb hK hP hL_w_1 hK_w_1 hN_w_1 (vp_in_iff.mpr (by decide)) dX12_force_108 ?_
            refine lv_tov x_139 h_157 ?_
            refine lv_iconst (v := 1) hx hb dX12_force_109 (by decide) ?_
            refine lv_iadd hx hb dX12_force_110 ?_
            refine lv_topi (fun x_158 ex_158 => ?_)
            have h_159 : rg x_158 1 30 := rg_of_eq ex_158 (rg_add h_143 (rg_k (1 : Int32) 1 rfl) (by decide))
            have uh_159 := h_159.1
            have vh_159 := h_159.2
            have tx_158 : (x_158).toInt = (x_139).toInt + 1 := by rw [ex_158]; exact i_add_rg (a2 := (x_139).toInt) (b2 := 1) rfl rfl h_143 (rg_k (1 : Int32) 1 rfl) (by decide)
            refine pt_i hx hb hK hP hD hS hL_w_1 hK_w_1 hN_w_1 (vp_in_iff.mpr (by decide)) dX12_force_111 (fun r_160 H locs er_160 hP hD hS => ?_)
            have hf6 := congrArg Int32.toInt (hG.2.2.1 w_1 hT_w_1 6 (by decide) (by decide))
            have hf7 := congrArg Int32.toInt (show r_156 w_1 7 = x_139 from h_157)
            have hfd := congrArg Int32.toInt hfc
            have hG := GM.wf7 hG hT_w_1 (by decide) er_160 rfl (n := (x_139).toNatClampNeg) (by have z_0 := clampE x_139; omega) (by have z_0 := clampE x_139; omega) (rg_w h_159 (by decide)) (by omega) (by decide)
            have h_161 : r_160 w_1 7 = x_158 := cz_eq er_160
            refine lv_aload_n hx hb dX12_force_112 rfl (lv_at hl 1 rfl) ?_
            refine pg_f (v := .ref w_1) (C := RX12) (T := TX12) (N := 31) hx hb hts (tw_i inlX12) hown hK hP hL_this hK_this (by decide) rfl 0 (by decide) (hts _ (tw_c tw_176)) (pq_hv rfl hR_w_1) dX12_force_113 ?_
            refine lv_bipush (v := 7) hx hb dX12_force_116 (by decide) ?_
            refine pl_i hx hb hK hP hL_w_1 hK_w_1 hN_w_1 (vp_in_iff.mpr (by decide)) dX12_force_118 ?_
            refine lv_tov x_158 h_161 ?_
            refine lv_iconst (v := 1) hx hb dX12_force_119 (by decide) ?_
            refine lv_isub hx hb dX12_force_120 ?_
            refine lv_topi (fun x_162 ex_162 => ?_)
            have h_163 : rg x_162 0 29 := rg_of_eq ex_162 (rg_sub h_159 (rg_k (1 : Int32) 1 rfl) (by decide))
            have uh_163 := h_163.1
            have vh_163 := h_163.2
            have tx_162 : (x_162).toInt = (x_158).toInt - 1 := by rw [ex_162]; exact i_sub_rg (a2 := (x_158).toInt) (b2 := 1) rfl rfl h_159 (rg_k (1 : Int32) 1 rfl) (by decide)
            subst hQ
            exact W.iret (v := x_162) hx hb hr (fun t1 ht hW => ⟨⟨x_162, (σ, I, J, r_160, rj, rq), rfl, ⟨r_160, rfl, hG, (rg_w h_163 (by decide))⟩, by rw [ht]; exact hP, va_K.moved hW.alike hK, hD⟩, hS.F ht⟩) hS.2.2 dX12_force_121
          · have tc_164 : (x_139).toInt = 30 := congrArg Int32.toInt c_141
            have h_165 : rg x_139 30 30 := rg_and h_140 (rg_of_eq c_141 (rg_k (30 : Int32) 30 rfl)) (by decide)
            have uh_165 := h_165.1
            have vh_165 := h_165.2
            exact K_88 _ _ _ hG hP hD hS (lv_sub hl [] rfl)
  exact go _ _ _ hP hD hS hl

set_option maxHeartbeats 4000000 in
set_option maxRecDepth 100000 in
theorem s_X12_numberOf (l : Launch) (D : va_G) (t : pq_T) (σ : pq_S) (I : Nat → Nat → Int32) (J : Nat → Nat → Int64) (ri : Nat → Nat → Int32) (rj : Nat → Nat → Int64) (rq : Nat → Nat → Option Nat) (sz : Nat) (tg : Nat → Nat) (hSH : SH σ tg) (hG0 : GT tg I ri) (this : Nat) (a0 : Int32) (a1 : Int32) (a2 : Int32) (hL_this : this ∈ σ.1) (hK_this : σ.2.1 this = 12) (this_a : Nat) (hR_this_a : σ.2.2.1 384 this = some this_a) (hL_this_a : this_a ∈ σ.1) (hK_this_a : σ.2.1 this_a = 13) (hN_this_a : σ.2.2.2 this_a = 12720) (hT_this_a : tg this_a = 384) : MetI l yX12_numberOf (wa yX12_numberOf cX12_numberOf 5 (some .int)) ({ frames := 3, cells := 0, slots := 0, locals := 69 }) [.ref this, .int a0, .int a1, .int a2] D t σ (I, J, ri, rj, rq) sz 0 0 (fun (r : Int32) (u : pq_S × pq_M) => u = (σ, I, J, ri, rj, rq)) := by
  refine Met.ofW (cc := cX12_numberOf) (maxL := 5) (ret := (some .int)) (by decide) rfl ?_
  intro p e s m args below meth c s₁ B hml hv
  obtain ⟨rfl, hsz, hP, hK, hD0, hN⟩ := hv
  have hx := B.exec
  have hb := B.bytes
  have hr := B.returns
  have hts := atoms_spec (ws := (wa yX12_numberOf cX12_numberOf 5 (some .int))) B.pre
  have hown : s.vm.findClass RX12 = some m.cls := findClass_of_methodNamed B.named
  have hlocks := B.notSynchronized
  subst hsz
  have hD : va_D (pq_B t σ (I, J, ri, rj, rq) s.heap.size) (pq_P t σ (I, J, ri, rj, rq)) := hD0.self
  generalize hAe : pq_B t σ (I, J, ri, rj, rq) s.heap.size = A at hD ⊢
  have hA : ∀ q : Nat, s.heap.size ≤ q → A q := fun q h => by rw [← hAe]; exact Or.inr h
  have hS : va_S A s.heap s.heap [] := va_S.rf
  have hG : GM [] tg σ I ri I ri rq := ⟨hG0, fun _ _ _ => rfl, fun _ _ _ _ _ => rfl, fun _ _ _ _ _ _ => rfl⟩
  have hl := lv_entry ([.ref this, .int a0, .int a1, .int a2]) (n := 5) (Nat.le_of_ble_eq_true rfl)
  rw [lg_entry_eq]
  generalize (lg_sl ([.ref this, .int a0, .int a1, .int a2]) ++ List.replicate (5 - (lg_sl ([.ref this, .int a0, .int a1, .int a2])).length) Slot.unset).toArray = ls at hl ⊢
  have hl : lv_has ls 5 [(0, .ref this), (1, .int a0), (2, .int a1), (3, .int a2)] := hl
  refine q_gen (fun Q hQ => ?_)
  have go : ∀ (H : Heap) (locs : List Loc) (ls : Array Slot), va_P D vwCl (pq_P t σ (I, J, ri, rj, rq)) H → va_D A (pq_P t σ (I, J, ri, rj, rq)) → va_S A s.heap H locs → lv_has ls 5 [(0, .ref this), (1, .int a0), (2, .int a1), (3, .int a2)] → W p l e ({ frames := 3, cells := 0, slots := 0, locals := 69 } : Room) s m (List.toArray ([.ref this, .int a0, .int a1, .int a2] : List Value)) below meth c H locs 0 0 Q (F0 m 0 ls []) := by
    intro H locs ls hP hD hS hl
    refine lv_aload_n hx hb dX12_numberOf_0 rfl (lv_at hl 0 rfl) ?_
    refine lv_iload_n hx hb dX12_numberOf_1 rfl (lv_at hl 1 rfl) ?_
    refine lv_iload_n hx hb dX12_numberOf_2 rfl (lv_at hl 2 rfl) ?_
    refine pk_i (va_runV (As := [.int a0, .int a1]) (rest := []) ⟨hx, hb, hml, hown, hts⟩ (s_X12_textFor l D t σ I J ri rj rq H.size tg hSH hG.1 this a0 a1 hL_this hK_this this_a hR_this_a hL_this_a hK_this_a hN_this_a hT_this_a) (cwV 2 hts (tw_V tw_508 tw_509 tw_510 tw_5 tw_511) rfl rfl rfl cv_yX12_textFor_2 ⟨Nat.le_of_ble_eq_true rfl, Nat.le_of_ble_eq_true rfl⟩) ⟨pq_blind, pq_recv hK hP hL_this hK_this (by decide) rfl, pq_pre hK hN hP hD⟩ rfl rfl hl.1 rfl (lv_room (Nat.le_of_ble_eq_true rfl)) dX12_numberOf_3 ⟨Nat.le_of_ble_eq_true rfl, Nat.le_of_ble_eq_true rfl⟩) hD hS hA (fun x_1 σ1 μ1 H locs hw_2 hP hD hS => ?_)
    obtain ⟨hu_3, hp_6, hr_5⟩ := hw_2
    obtain ⟨hu_3a, hu_3b⟩ := Prod.mk.inj hu_3
    rw [hu_3a, hu_3b] at hP hD
    have tt_7 := hp_6
    refine lv_istore (lv' := [(4, .int x_1), (0, .ref this), (1, .int a0), (2, .int a1), (3, .int a2)]) hx hb dX12_numberOf_6 hl (by decide) rfl (fun ls hl => ?_)
    refine lv_iload hx hb dX12_numberOf_8 (lv_at hl 0 rfl) ?_
    refine lv_if_ge (tgt := 17) hx hb dX12_numberOf_10 (by decide) (fun c_8 => ?_) (fun c_8 => ?_)
    · have tc_9 : 0 ≤ (x_1).toInt := Int32.le_iff_toInt_le.mp c_8
      have h_10 : rg x_1 0 9 := rg_le2 c_8 (rg_k (0 : Int32) 0 rfl) hr_5 (by decide)
      have uh_10 := h_10.1
      have vh_10 := h_10.2
      refine lv_aload_n hx hb dX12_numberOf_17 rfl (lv_at hl 1 rfl) ?_
      refine pg_f (v := .ref this_a) (C := RX12) (T := TX12) (N := 31) hx hb hts (tw_i inlX12) hown hK hP hL_this hK_this (by decide) rfl 0 (by decide) (hts _ (tw_c tw_176)) (pq_hv rfl hR_this_a) dX12_numberOf_18 ?_
      refine lv_aload_n hx hb dX12_numberOf_21 rfl (lv_at hl 1 rfl) ?_
      refine lv_iload hx hb dX12_numberOf_22 (lv_at hl 0 rfl) ?_
      refine lv_iload_n hx hb dX12_numberOf_24 rfl (lv_at hl 2 rfl) ?_
      refine pk_i (va_runV (As := [.int x_1, .int a0]) (rest := [.ref this_a]) ⟨hx, hb, hml, hown, hts⟩ (s_X12_firstOf l D t σ I J ri rj rq H.size tg hSH hG.1 this x_1 a0 hL_this hK_this (rg_w h_10 (by decide)) this_a hR_this_a hL_this_a hK_this_a hN_this_a hT_this_a) (cwV 2 hts (tw_V tw_512 tw_513 tw_514 tw_5 tw_515) rfl rfl rfl cv_yX12_firstOf_2 ⟨Nat.le_of_ble_eq_true rfl, Nat.le_of_ble_eq_true rfl⟩) ⟨pq_blind, pq_recv hK hP hL_this hK_this (by decide) rfl, pq_pre hK hN hP hD⟩ rfl rfl hl.1 rfl (lv_room (Nat.le_of_ble_eq_true rfl)) dX12_numberOf_25 ⟨Nat.le_of_ble_eq_true rfl, Nat.le_of_ble_eq_true rfl⟩) hD hS hA (fun x_11 σ1 μ1 H locs hw_12 hP hD hS => ?_)
      obtain ⟨hu_13, hp_16, hr_15⟩ := hw_12
      obtain ⟨hu_13a, hu_13b⟩ := Prod.mk.inj hu_13
      rw [hu_13a, hu_13b] at hP hD
      refine lv_iconst (v := 1) hx hb dX12_numberOf_28 (by decide) ?_
      refine lv_iadd hx hb dX12_numberOf_29 ?_
      refine lv_topi (fun x_17 ex_17 => ?_)
      have h_18 : rg x_17 0 12062 := rg_of_eq ex_17 (rg_add hr_15 (rg_k (1 : Int32) 1 rfl) (by decide))
      have uh_18 := h_18.1
      have vh_18 := h_18.2
      have tx_17 : (x_17).toInt = (x_11).toInt + 1 := by rw [ex_17]; exact i_add_rg (a2 := (x_11).toInt) (b2 := 1) rfl rfl hr_15 (rg_k (1 : Int32) 1 rfl) (by decide)
      refine pl_i hx hb hK hP hL_this_a hK_this_a hN_this_a (rg_in h_18 (by decide)) dX12_numberOf_30 ?_
      refine lv_topi (fun x_19 ex_19 => ?_)
      subst hQ
      exact W.iret (v := x_19) hx hb hr (fun t1 ht hW => ⟨⟨x_19, (σ, I, J, ri, rj, rq), rfl, rfl, by rw [ht]; exact hP, va_K.moved hW.alike hK, hD⟩, hS.F ht⟩) hS.2.2 dX12_numberOf_31
    · have tc_20 : (x_1).toInt < 0 := Int32.lt_iff_toInt_lt.mp (nle c_8)
      have h_21 : rg x_1 (-1) (-1) := rg_lt1 (nle c_8) hr_5 (rg_k (0 : Int32) 0 rfl) (by decide)
      have uh_21 := h_21.1
      have vh_21 := h_21.2
      refine lv_iload_n hx hb dX12_numberOf_13 rfl (lv_at hl 4 rfl) ?_
      refine lv_goto (tgt := 31) hx hb dX12_numberOf_14 (by decide) ?_
      subst hQ
      exact W.iret (v := a2) hx hb hr (fun t1 ht hW => ⟨⟨a2, (σ, I, J, ri, rj, rq), rfl, rfl, by rw [ht]; exact hP, va_K.moved hW.alike hK, hD⟩, hS.F ht⟩) hS.2.2 dX12_numberOf_31
  exact go _ _ _ hP hD hS hl

set_option maxHeartbeats 4000000 in
set_option maxRecDepth 100000 in
theorem s_X12_isFor (l : Launch) (D : va_G) (t : pq_T) (σ : pq_S) (I : Nat → Nat → Int32) (J : Nat → Nat → Int64) (ri : Nat → Nat → Int32) (rj : Nat → Nat → Int64) (rq : Nat → Nat → Option Nat) (sz : Nat) (tg : Nat → Nat) (hSH : SH σ tg) (hG0 : GT tg I ri) (this : Nat) (a0 : Int32) (a1 : Int32) (a2 : Int32) (hL_this : this ∈ σ.1) (hK_this : σ.2.1 this = 12) (h_a0 : rg a0 2 4) (h_a1 : rg a1 0 39) (this_a : Nat) (hR_this_a : σ.2.2.1 384 this = some this_a) (hL_this_a : this_a ∈ σ.1) (hK_this_a : σ.2.1 this_a = 13) (hN_this_a : σ.2.2.2 this_a = 12720) (hT_this_a : tg this_a = 384) : MetI l yX12_isFor (wa yX12_isFor cX12_isFor 4 (some .boolean)) ({ frames := 4, cells := 0, slots := 0, locals := 102 }) [.ref this, .int a0, .int a1, .int a2] D t σ (I, J, ri, rj, rq) sz 0 0 (fun (r : Int32) (u : pq_S × pq_M) => ∃ ri' : Nat → Nat → Int32, ∃ rj' : Nat → Nat → Int64, u = (σ, I, J, ri', rj', rq) ∧ GM [] tg σ I ri I ri' rq ∧ (∀ q, tg q ≠ 405 → ri' q = ri q) ∧ ((r = 1 ∧ True) ∨ (r = 0 ∧ True))) := by
  refine Met.ofW (cc := cX12_isFor) (maxL := 4) (ret := (some .boolean)) (by decide) rfl ?_
  intro p e s m args below meth c s₁ B hml hv
  obtain ⟨rfl, hsz, hP, hK, hD0, hN⟩ := hv
  have hx := B.exec
  have hb := B.bytes
  have hr := B.returns
  have hts := atoms_spec (ws := (wa yX12_isFor cX12_isFor 4 (some .boolean))) B.pre
  have hown : s.vm.findClass RX12 = some m.cls := findClass_of_methodNamed B.named
  have hlocks := B.notSynchronized
  subst hsz
  have hD : va_D (pq_B t σ (I, J, ri, rj, rq) s.heap.size) (pq_P t σ (I, J, ri, rj, rq)) := hD0.self
  generalize hAe : pq_B t σ (I, J, ri, rj, rq) s.heap.size = A at hD ⊢
  have hA : ∀ q : Nat, s.heap.size ≤ q → A q := fun q h => by rw [← hAe]; exact Or.inr h
  have hS : va_S A s.heap s.heap [] := va_S.rf
  have hG : GM [] tg σ I ri I ri rq := ⟨hG0, fun _ _ _ => rfl, fun _ _ _ _ _ => rfl, fun _ _ _ _ _ _ => rfl⟩
  have hl := lv_entry ([.ref this, .int a0, .int a1, .int a2]) (n := 4) (Nat.le_of_ble_eq_true rfl)
  rw [lg_entry_eq]
  generalize (lg_sl ([.ref this, .int a0, .int a1, .int a2]) ++ List.replicate (4 - (lg_sl ([.ref this, .int a0, .int a1, .int a2])).length) Slot.unset).toArray = ls at hl ⊢
  have hl : lv_has ls 4 [(0, .ref this), (1, .int a0), (2, .int a1), (3, .int a2)] := hl
  refine q_gen (fun Q hQ => ?_)
  have go : ∀ (H : Heap) (locs : List Loc) (ls : Array Slot), va_P D vwCl (pq_P t σ (I, J, ri, rj, rq)) H → va_D A (pq_P t σ (I, J, ri, rj, rq)) → va_S A s.heap H locs → lv_has ls 4 [(0, .ref this), (1, .int a0), (2, .int a1), (3, .int a2)] → W p l e ({ frames := 4, cells := 0, slots := 0, locals := 102 } : Room) s m (List.toArray ([.ref this, .int a0, .int a1, .int a2] : List Value)) below meth c H locs 0 0 Q (F0 m 0 ls []) := by
    intro H locs ls hP hD hS hl
    refine lv_aload_n hx hb dX12_isFor_0 rfl (lv_at hl 0 rfl) ?_
    refine lv_iload_n hx hb dX12_isFor_1 rfl (lv_at hl 1 rfl) ?_
    refine lv_iload_n hx hb dX12_isFor_2 rfl (lv_at hl 3 rfl) ?_
    refine pk_i (va_runV (As := [.int a0, .int a2]) (rest := []) ⟨hx, hb, hml, hown, hts⟩ (s_X12_textFor l D t σ I J ri rj rq H.size tg hSH hG.1 this a0 a2 hL_this hK_this this_a hR_this_a hL_this_a hK_this_a hN_this_a hT_this_a) (cwV 2 hts (tw_V tw_508 tw_509 tw_510 tw_5 tw_511) rfl rfl rfl cv_yX12_textFor_2 ⟨Nat.le_of_ble_eq_true rfl, Nat.le_of_ble_eq_true rfl⟩) ⟨pq_blind, pq_recv hK hP hL_this hK_this (by decide) rfl, pq_pre hK hN hP hD⟩ rfl rfl hl.1 rfl (lv_room (Nat.le_of_ble_eq_true rfl)) dX12_isFor_3 ⟨Nat.le_of_ble_eq_true rfl, Nat.le_of_ble_eq_true rfl⟩) hD hS hA (fun x_1 σ1 μ1 H locs hw_2 hP hD hS => ?_)
    obtain ⟨hu_3, hp_6, hr_5⟩ := hw_2
    obtain ⟨hu_3a, hu_3b⟩ := Prod.mk.inj hu_3
    rw [hu_3a, hu_3b] at hP hD
    have tt_7 := hp_6
    refine lv_if_lt (tgt := 20) hx hb dX12_isFor_6 (by decide) (fun c_8 => ?_) (fun c_8 => ?_)
    · have tc_9 : (x_1).toInt < 0 := Int32.lt_iff_toInt_lt.mp c_8
      have h_10 : rg x_1 (-1) (-1) := rg_lt1 c_8 hr_5 (rg_k (0 : Int32) 0 rfl) (by decide)
      have uh_10 := h_10.1
      have vh_10 := h_10.2
      refine lv_iconst (v := 1) hx hb dX12_isFor_20 (by decide) ?_
      refine lv_goto (tgt := 25) hx hb dX12_isFor_21 (by decide) ?_
      subst hQ
      exact W.zret (v := 1) hx hb hr (by decide) (fun t1 ht hW => ⟨⟨1, (σ, I, J, ri, rj, rq), rfl, ⟨ri, rj, rfl, hG, (fun _ _ => rfl), (Or.inl ⟨rfl, trivial⟩)⟩, by rw [ht]; exact hP, va_K.moved hW.alike hK, hD⟩, hS.F ht⟩) hS.2.2 dX12_isFor_25
    · have tc_11 : 0 ≤ (x_1).toInt := Int32.le_iff_toInt_le.mp (nlt c_8)
      have h_12 : rg x_1 0 9 := rg_le2 (nlt c_8) (rg_k (0 : Int32) 0 rfl) hr_5 (by decide)
      have uh_12 := h_12.1
      have vh_12 := h_12.2
      refine lv_aload_n hx hb dX12_isFor_9 rfl (lv_at hl 0 rfl) ?_
      refine lv_iload_n hx hb dX12_isFor_10 rfl (lv_at hl 1 rfl) ?_
      refine lv_iload_n hx hb dX12_isFor_11 rfl (lv_at hl 2 rfl) ?_
      refine lv_iload_n hx hb dX12_isFor_12 rfl (lv_at hl 3 rfl) ?_
      refine lv_iconst (v := 0) hx hb dX12_isFor_13 (by decide) ?_
      refine pk_i (va_runV (As := [.int a0, .int a1, .int a2, .int 0]) (rest := []) ⟨hx, hb, hml, hown, hts⟩ (s_X12_firstSo l D t σ I J ri rj rq H.size tg hSH hG.1 this a0 a1 a2 (0 : Int32) hL_this hK_this (rg_w h_a0 (by decide)) (rg_w h_a1 (by decide)) this_a hR_this_a hL_this_a hK_this_a hN_this_a hT_this_a) (cwV 4 hts (tw_V tw_597 tw_598 tw_599 tw_5 tw_600) rfl rfl rfl cv_yX12_firstSo_4 ⟨Nat.le_of_ble_eq_true rfl, Nat.le_of_ble_eq_true rfl⟩) ⟨pq_blind, pq_recv hK hP hL_this hK_this (by decide) rfl, pq_pre hK hN hP hD⟩ rfl rfl hl.1 rfl (lv_room (Nat.le_of_ble_eq_true rfl)) dX12_isFor_14 ⟨Nat.le_of_ble_eq_true rfl, Nat.le_of_ble_eq_true rfl⟩) hD hS hA (fun x_13 σ1 μ1 H locs hw_14 hP hD hS => ?_)
      obtain ⟨ri_15, rj_16, hu_17, hg_18, hp_20, hr_19⟩ := hw_14
      obtain ⟨hu_17a, hu_17b⟩ := Prod.mk.inj hu_17
      rw [hu_17a, hu_17b] at hP hD
      have hG := GM.tr hG hg_18 (by decide)
      refine lv_if_lt (tgt := 24) hx hb dX12_isFor_17 (by decide) (fun c_21 => ?_) (fun c_21 => ?_)
      · have tc_22 : (x_13).toInt < 0 := Int32.lt_iff_toInt_lt.mp c_21
        have h_23 : rg x_13 (-1) (-1) := rg_lt1 c_21 hr_19 (rg_k (0 : Int32) 0 rfl) (by decide)
        have uh_23 := h_23.1
        have vh_23 := h_23.2
        refine lv_iconst (v := 0) hx hb dX12_isFor_24 (by decide) ?_
        subst hQ
        exact W.zret (v := 0) hx hb hr (by decide) (fun t1 ht hW => ⟨⟨0, (σ, I, J, ri_15, rj_16, rq), rfl, ⟨ri_15, rj_16, rfl, hG, (fr_t (fun _ _ => rfl) hp_20), (Or.inr ⟨rfl, trivial⟩)⟩, by rw [ht]; exact hP, va_K.moved hW.alike hK, hD⟩, hS.F ht⟩) hS.2.2 dX12_isFor_25
      · have tc_24 : 0 ≤ (x_13).toInt := Int32.le_iff_toInt_le.mp (nlt c_21)
        have h_25 : rg x_13 0 19 := rg_le2 (nlt c_21) (rg_k (0 : Int32) 0 rfl) hr_19 (by decide)
        have uh_25 := h_25.1
        have vh_25 := h_25.2
        refine lv_iconst (v := 1) hx hb dX12_isFor_20 (by decide) ?_
        refine lv_goto (tgt := 25) hx hb dX12_isFor_21 (by decide) ?_
        subst hQ
        exact W.zret (v := 1) hx hb hr (by decide) (fun t1 ht hW => ⟨⟨1, (σ, I, J, ri_15, rj_16, rq), rfl, ⟨ri_15, rj_16, rfl, hG, (fr_t (fun _ _ => rfl) hp_20), (Or.inl ⟨rfl, trivial⟩)⟩, by rw [ht]; exact hP, va_K.moved hW.alike hK, hD⟩, hS.F ht⟩) hS.2.2 dX12_isFor_25
  exact go _ _ _ hP hD hS hl

set_option maxHeartbeats 4000000 in
set_option maxRecDepth 100000 in
theorem s_X12_is (l : Launch) (D : va_G) (t : pq_T) (σ : pq_S) (I : Nat → Nat → Int32) (J : Nat → Nat → Int64) (ri : Nat → Nat → Int32) (rj : Nat → Nat → Int64) (rq : Nat → Nat → Option Nat) (sz : Nat) (tg : Nat → Nat) (hSH : SH σ tg) (hG0 : GT tg I ri) (this : Nat) (a0 : Int32) (a1 : Int32) (a2 : Int32) (hL_this : this ∈ σ.1) (hK_this : σ.2.1 this = 12) : MetI l yX12_is (wa yX12_is cX12_is 4 (some .int)) ({ frames := 5, cells := 0, slots := 0, locals := 125 }) [.ref this, .int a0, .int a1, .int a2] D t σ (I, J, ri, rj, rq) sz 0 0 (fun (r : Int32) (u : pq_S × pq_M) => ∃ ri' : Nat → Nat → Int32, ∃ rj' : Nat → Nat → Int64, u = (σ, I, J, ri', rj', rq) ∧ GM [] tg σ I ri I ri' rq ∧ rg r (-1) 1) := by
  refine Met.ofW (cc := cX12_is) (maxL := 4) (ret := (some .int)) (by decide) rfl ?_
  intro p e s m args below meth c s₁ B hml hv
  obtain ⟨rfl, hsz, hP, hK, hD0, hN⟩ := hv
  have hx := B.exec
  have hb := B.bytes
  have hr := B.returns
  have hts := atoms_spec (ws := (wa yX12_is cX12_is 4 (some .int))) B.pre
  have hown : s.vm.findClass RX12 = some m.cls := findClass_of_methodNamed B.named
  have hlocks := B.notSynchronized
  subst hsz
  have hD : va_D (pq_B t σ (I, J, ri, rj, rq) s.heap.size) (pq_P t σ (I, J, ri, rj, rq)) := hD0.self
  generalize hAe : pq_B t σ (I, J, ri, rj, rq) s.heap.size = A at hD ⊢
  have hA : ∀ q : Nat, s.heap.size ≤ q → A q := fun q h => by rw [← hAe]; exact Or.inr h
  have hS : va_S A s.heap s.heap [] := va_S.rf
  have hG : GM [] tg σ I ri I ri rq := ⟨hG0, fun _ _ _ => rfl, fun _ _ _ _ _ => rfl, fun _ _ _ _ _ _ => rfl⟩
  have hl := lv_entry ([.ref this, .int a0, .int a1, .int a2]) (n := 4) (Nat.le_of_ble_eq_true rfl)
  rw [lg_entry_eq]
  generalize (lg_sl ([.ref this, .int a0, .int a1, .int a2]) ++ List.replicate (4 - (lg_sl ([.ref this, .int a0, .int a1, .int a2])).length) Slot.unset).toArray = ls at hl ⊢
  have hl : lv_has ls 4 [(0, .ref this), (1, .int a0), (2, .int a1), (3, .int a2)] := hl
  refine q_gen (fun Q hQ => ?_)
  have go : ∀ (H : Heap) (locs : List Loc) (ls : Array Slot), va_P D vwCl (pq_P t σ (I, J, ri, rj, rq)) H → va_D A (pq_P t σ (I, J, ri, rj, rq)) → va_S A s.heap H locs → lv_has ls 4 [(0, .ref this), (1, .int a0), (2, .int a1), (3, .int a2)] → W p l e ({ frames := 5, cells := 0, slots := 0, locals := 125 } : Room) s m (List.toArray ([.ref this, .int a0, .int a1, .int a2] : List Value)) below meth c H locs 0 0 Q (F0 m 0 ls []) := by
    intro H locs ls hP hD hS hl
    refine lv_iload_n hx hb dX12_is_0 rfl (lv_at hl 1 rfl) ?_
    refine lv_iconst (v := 0) hx hb dX12_is_1 (by decide) ?_
    refine lv_iconst (v := 2) hx hb dX12_is_2 (by decide) ?_
    refine pk_i (va_runS (As := [.int a0, .int 0, .int 2]) (rest := []) ⟨hx, hb, hml, hown, hts⟩ (s_X12_isIn l D t σ I J ri rj rq H.size tg hSH hG.1 a0 (0 : Int32) (2 : Int32)) (va_cwS 3 hts (tw_S tw_235 tw_236 tw_5 tw_237) rfl rfl rfl cd_yX12_isIn_3 ⟨Nat.le_of_ble_eq_true rfl, Nat.le_of_ble_eq_true rfl⟩) ⟨pq_blind, pq_pre hK hN hP hD⟩ rfl rfl hl.1 rfl (lv_room (Nat.le_of_ble_eq_true rfl)) dX12_is_3 ⟨Nat.le_of_ble_eq_true rfl, Nat.le_of_ble_eq_true rfl⟩) hD hS hA (fun x_1 σ1 μ1 H locs hw_2 hP hD hS => ?_)
    obtain ⟨hu_3, hr_5⟩ := hw_2
    obtain ⟨hu_3a, hu_3b⟩ := Prod.mk.inj hu_3
    rw [hu_3a, hu_3b] at hP hD
    have h_6 : rg x_1 0 1 := by rcases hr_5 with ⟨q, -⟩ | ⟨q, -⟩ <;> rw [q] <;> exact ⟨by decide, by decide⟩
    have uh_6 := h_6.1
    have vh_6 := h_6.2
    have K_62 : ∀  (H : Heap) (locs : List Loc) (ls : Array Slot), GM [] tg σ I ri I ri rq → va_P D vwCl (pq_P t σ (I, J, ri, rj, rq)) H → va_D A (pq_P t σ (I, J, ri, rj, rq)) → va_S A s.heap H locs → lv_has ls 4 [] → W p l e ({ frames := 5, cells := 0, slots := 0, locals := 125 } : Room) s m (List.toArray ([.ref this, .int a0, .int a1, .int a2] : List Value)) below meth c H locs 0 0 Q (F0 m 44 ls []) := by
      intro H locs ls hG hP hD hS hl
      refine lv_iconst (v := (-1)) hx hb dX12_is_44 (by decide) ?_
      subst hQ
      exact W.iret (v := (-1)) hx hb hr (fun t1 ht hW => ⟨⟨(-1), (σ, I, J, ri, rj, rq), rfl, ⟨ri, rj, rfl, hG, (rg_w (rg_k (-1 : Int32) (-1) rfl) (by decide))⟩, by rw [ht]; exact hP, va_K.moved hW.alike hK, hD⟩, hS.F ht⟩) hS.2.2 dX12_is_45
    refine lv_if_eq (tgt := 44) hx hb dX12_is_6 (by decide) (fun c_63 => ?_) (fun c_63 => ?_)
    · have f_64 := (hr_5.resolve_left (fun q => absurd (q.1.symm.trans c_63) (by decide))).2
      have tc_65 : (x_1).toInt = 0 := congrArg Int32.toInt c_63
      have h_66 : rg x_1 0 0 := rg_and h_6 (rg_of_eq c_63 (rg_k (0 : Int32) 0 rfl)) (by decide)
      have uh_66 := h_66.1
      have vh_66 := h_66.2
      exact K_62 _ _ _ hG hP hD hS (lv_sub hl [] rfl)
    · obtain ⟨f_67, f_68⟩ := (hr_5.resolve_right (fun q => c_63 q.1)).2
      have tc_69 : 0 ≤ (a0).toInt := Int32.le_iff_toInt_le.mp f_67
      have h_70 : rg a0 0 2147483647 := rg_le2 f_67 (rg_k (0 : Int32) 0 rfl) (rg_full _) (by decide)
      have uh_70 := h_70.1
      have vh_70 := h_70.2
      have tc_71 : (a0).toInt ≤ 2 := Int32.le_iff_toInt_le.mp f_68
      have h_72 : rg a0 0 2 := rg_le1 f_68 h_70 (rg_k (2 : Int32) 2 rfl) (by decide)
      have uh_72 := h_72.1
      have vh_72 := h_72.2
      have tc_73 : (x_1).toInt ≠ 0 := fun q => c_63 (Int32.toInt_inj.mp q)
      have h_74 : rg x_1 1 1 := rg_ne c_63 h_6 0 rfl (by decide)
      have uh_74 := h_74.1
      have vh_74 := h_74.2
      refine lv_aload_n hx hb dX12_is_9 rfl (lv_at hl 0 rfl) ?_
      refine lv_iload_n hx hb dX12_is_10 rfl (lv_at hl 2 rfl) ?_
      refine pk_i (va_runV (As := [.int a1]) (rest := []) ⟨hx, hb, hml, hown, hts⟩ (s_X12_isPerson l D t σ I J ri rj rq H.size tg hSH hG.1 this a1 hL_this hK_this) (cwV 1 hts (tw_V tw_425 tw_426 tw_427 tw_5 tw_428) rfl rfl rfl cv_yX12_isPerson_1 ⟨Nat.le_of_ble_eq_true rfl, Nat.le_of_ble_eq_true rfl⟩) ⟨pq_blind, pq_recv hK hP hL_this hK_this (by decide) rfl, pq_pre hK hN hP hD⟩ rfl rfl hl.1 rfl (lv_room (Nat.le_of_ble_eq_true rfl)) dX12_is_11 ⟨Nat.le_of_ble_eq_true rfl, Nat.le_of_ble_eq_true rfl⟩) hD hS hA (fun x_75 σ1 μ1 H locs hw_76 hP hD hS => ?_)
      obtain ⟨hu_77, hr_79⟩ := hw_76
      obtain ⟨hu_77a, hu_77b⟩ := Prod.mk.inj hu_77
      rw [hu_77a, hu_77b] at hP hD
      have h_80 : rg x_75 0 1 := by rcases hr_79 with ⟨q, -⟩ | ⟨q, -⟩ <;> rw [q] <;> exact ⟨by decide, by decide⟩
      have uh_80 := h_80.1
      have vh_80 := h_80.2
      refine lv_if_eq (tgt := 44) hx hb dX12_is_14 (by decide) (fun c_81 => ?_) (fun c_81 => ?_)
      · have f_82 := (hr_79.resolve_left (fun q => absurd (q.1.symm.trans c_81) (by decide))).2
        have tc_83 : (x_75).toInt = 0 := congrArg Int32.toInt c_81
        have h_84 : rg x_75 0 0 := rg_and h_80 (rg_of_eq c_81 (rg_k (0 : Int32) 0 rfl)) (by decide)
        have uh_84 := h_84.1
        have vh_84 := h_84.2
        exact K_62 _ _ _ hG hP hD hS (lv_sub hl [] rfl)
      · have f_85 := (hr_79.resolve_right (fun q => c_81 q.1)).2
        have uf_85 := f_85.1
        have vf_85 := f_85.2
        have tc_86 : (x_75).toInt ≠ 0 := fun q => c_81 (Int32.toInt_inj.mp q)
        have h_87 : rg x_75 1 1 := rg_ne c_81 h_80 0 rfl (by decide)
        have uh_87 := h_87.1
        have vh_87 := h_87.2
        refine lv_iload_n hx hb dX12_is_17 rfl (lv_at hl 3 rfl) ?_
        refine pk_i (va_runS (As := [.int a2]) (rest := []) ⟨hx, hb, hml, hown, hts⟩ (s_X12_isMonth l D t σ I J ri rj rq H.size tg hSH hG.1 a2) (va_cwS 1 hts (tw_S tw_262 tw_263 tw_5 tw_264) rfl rfl rfl cd_yX12_isMonth_1 ⟨Nat.le_of_ble_eq_true rfl, Nat.le_of_ble_eq_true rfl⟩) ⟨pq_blind, pq_pre hK hN hP hD⟩ rfl rfl hl.1 rfl (lv_room (Nat.le_of_ble_eq_true rfl)) dX12_is_18 ⟨Nat.le_of_ble_eq_true rfl, Nat.le_of_ble_eq_true rfl⟩) hD hS hA (fun x_88 σ1 μ1 H locs hw_89 hP hD hS => ?_)
        obtain ⟨hu_90, hr_92⟩ := hw_89
        obtain ⟨hu_90a, hu_90b⟩ := Prod.mk.inj hu_90
        rw [hu_90a, hu_90b] at hP hD
        have h_93 : rg x_88 0 1 := by rcases hr_92 with ⟨q, -⟩ | ⟨q, -⟩ <;> rw [q] <;> exact ⟨by decide, by decide⟩
        have uh_93 := h_93.1
        have vh_93 := h_93.2
        refine lv_if_eq (tgt := 44) hx hb dX12_is_21 (by decide) (fun c_94 => ?_) (fun c_94 => ?_)
        · have f_95 := (hr_92.resolve_left (fun q => absurd (q.1.symm.trans c_94) (by decide))).2
          have tc_96 : (x_88).toInt = 0 := congrArg Int32.toInt c_94
          have h_97 : rg x_88 0 0 := rg_and h_93 (rg_of_eq c_94 (rg_k (0 : Int32) 0 rfl)) (by decide)
          have uh_97 := h_97.1
          have vh_97 := h_97.2
          exact K_62 _ _ _ hG hP hD hS (lv_sub hl [] rfl)
        · have f_98 := (hr_92.resolve_right (fun q => c_94 q.1)).2
          have uf_98 := f_98.1
          have vf_98 := f_98.2
          have tc_99 : (x_88).toInt ≠ 0 := fun q => c_94 (Int32.toInt_inj.mp q)
          have h_100 : rg x_88 1 1 := rg_ne c_94 h_93 0 rfl (by decide)
          have uh_100 := h_100.1
          have vh_100 := h_100.2
          refine lv_aload_n hx hb dX12_is_24 rfl (lv_at hl 0 rfl) ?_
          refine lv_iconst (v := 2) hx hb dX12_is_25 (by decide) ?_
          refine lv_iload_n hx hb dX12_is_26 rfl (lv_at hl 1 rfl) ?_
          refine lv_iadd hx hb dX12_is_27 ?_
          refine lv_topi (fun x_101 ex_101 => ?_)
          have h_102 : rg x_101 2 4 := rg_of_eq ex_101 (rg_add (rg_k (2 : Int32) 2 rfl) h_72 (by decide))
          have uh_102 := h_102.1
          have vh_102 := h_102.2
          have tx_101 : (x_101).toInt = 2 + (a0).toInt := by rw [ex_101]; exact i_add_rg (a2 := 2) (b2 := (a0).toInt) rfl rfl (rg_k (2 : Int32) 2 rfl) h_72 (by decide)
          refine lv_iload_n hx hb dX12_is_28 rfl (lv_at hl 2 rfl) ?_
          refine lv_iload_n hx hb dX12_is_29 rfl (lv_at hl 3 rfl) ?_
          obtain ⟨w_103, hR_w_103, hL_w_103, hK_w_103, hN_w_103, hT_w_103⟩ := sh_a hSH 384 (ci := 12) (kd := 13) (len := 12720) rfl (by decide) hL_this hK_this
          refine pk_i (va_runV (As := [.int x_101, .int a1, .int a2]) (rest := []) ⟨hx, hb, hml, hown, hts⟩ (s_X12_isFor l D t σ I J ri rj rq H.size tg hSH hG.1 this x_101 a1 a2 hL_this hK_this (rg_w h_102 (by decide)) (rg_w f_85 (by decide)) w_103 hR_w_103 hL_w_103 hK_w_103 hN_w_103 hT_w_103) (cwV 3 hts (tw_V tw_971 tw_972 tw_973 tw_5 tw_974) rfl rfl rfl cv_yX12_isFor_3 ⟨Nat.le_of_ble_eq_true rfl, Nat.le_of_ble_eq_true rfl⟩) ⟨pq_blind, pq_recv hK hP hL_this hK_this (by decide) rfl, pq_pre hK hN hP hD⟩ rfl rfl hl.1 rfl (lv_room (Nat.le_of_ble_eq_true rfl)) dX12_is_30 ⟨Nat.le_of_ble_eq_true rfl, Nat.le_of_ble_eq_true rfl⟩) hD hS hA (fun x_104 σ1 μ1 H locs hw_105 hP hD hS => ?_)
          obtain ⟨ri_106, rj_107, hu_108, hg_109, hp_111, hr_110⟩ := hw_105
          obtain ⟨hu_108a, hu_108b⟩ := Prod.mk.inj hu_108
          rw [hu_108a, hu_108b] at hP hD
          have hG := GM.tr hG hg_109 (by decide)
          have h_112 : rg x_104 0 1 := by rcases hr_110 with ⟨q, -⟩ | ⟨q, -⟩ <;> rw [q] <;> exact ⟨by decide, by decide⟩
          have uh_112 := h_112.1
          have vh_112 := h_112.2
          refine lv_if_eq (tgt := 40) hx hb dX12_is_33 (by decide) (fun c_113 => ?_) (fun c_113 => ?_)
          · have tc_114 : (x_104).toInt = 0 := congrArg Int32.toInt c_113
            have h_115 : rg x_104 0 0 := rg_and h_112 (rg_of_eq c_113 (rg_k (0 : Int32) 0 rfl)) (by decide)
            have uh_115 := h_115.1
            have vh_115 := h_115.2
            refine lv_iconst (v := 0) hx hb dX12_is_40 (by decide) ?_
            refine lv_goto (tgt := 45) hx hb dX12_is_41 (by decide) ?_
            subst hQ
            exact W.iret (v := 0) hx hb hr (fun t1 ht hW => ⟨⟨0, (σ, I, J, ri_106, rj_107, rq), rfl, ⟨ri_106, rj_107, rfl, hG, (rg_w (rg_k (0 : Int32) 0 rfl) (by decide))⟩, by rw [ht]; exact hP, va_K.moved hW.alike hK, hD⟩, hS.F ht⟩) hS.2.2 dX12_is_45
          · have tc_116 : (x_104).toInt ≠ 0 := fun q => c_113 (Int32.toInt_inj.mp q)
            have h_117 : rg x_104 1 1 := rg_ne c_113 h_112 0 rfl (by decide)
            have uh_117 := h_117.1
            have vh_117 := h_117.2
            refine lv_iconst (v := 1) hx hb dX12_is_36 (by decide) ?_
            refine lv_goto (tgt := 45) hx hb dX12_is_37 (by decide) ?_
            subst hQ
            exact W.iret (v := 1) hx hb hr (fun t1 ht hW => ⟨⟨1, (σ, I, J, ri_106, rj_107, rq), rfl, ⟨ri_106, rj_107, rfl, hG, (rg_w (rg_k (1 : Int32) 1 rfl) (by decide))⟩, by rw [ht]; exact hP, va_K.moved hW.alike hK, hD⟩, hS.F ht⟩) hS.2.2 dX12_is_45
  exact go _ _ _ hP hD hS hl

set_option maxHeartbeats 4000000 in
set_option maxRecDepth 100000 in
theorem s_X12_why (l : Launch) (D : va_G) (t : pq_T) (σ : pq_S) (I : Nat → Nat → Int32) (J : Nat → Nat → Int64) (ri : Nat → Nat → Int32) (rj : Nat → Nat → Int64) (rq : Nat → Nat → Option Nat) (sz : Nat) (tg : Nat → Nat) (hSH : SH σ tg) (hG0 : GT tg I ri) (this : Nat) (a0 : Int32) (a1 : Int32) (a2 : Int32) (hL_this : this ∈ σ.1) (hK_this : σ.2.1 this = 12) : MetI l yX12_why (wa yX12_why cX12_why 4 (some .int)) ({ frames := 4, cells := 0, slots := 0, locals := 102 }) [.ref this, .int a0, .int a1, .int a2] D t σ (I, J, ri, rj, rq) sz 0 0 (fun (r : Int32) (u : pq_S × pq_M) => ∃ ri' : Nat → Nat → Int32, ∃ rj' : Nat → Nat → Int64, u = (σ, I, J, ri', rj', rq) ∧ GM [] tg σ I ri I ri' rq ∧ rg r (-1) 19) := by
  refine Met.ofW (cc := cX12_why) (maxL := 4) (ret := (some .int)) (by decide) rfl ?_
  intro p e s m args below meth c s₁ B hml hv
  obtain ⟨rfl, hsz, hP, hK, hD0, hN⟩ := hv
  have hx := B.exec
  have hb := B.bytes
  have hr := B.returns
  have hts := atoms_spec (ws := (wa yX12_why cX12_why 4 (some .int))) B.pre
  have hown : s.vm.findClass RX12 = some m.cls := findClass_of_methodNamed B.named
  have hlocks := B.notSynchronized
  subst hsz
  have hD : va_D (pq_B t σ (I, J, ri, rj, rq) s.heap.size) (pq_P t σ (I, J, ri, rj, rq)) := hD0.self
  generalize hAe : pq_B t σ (I, J, ri, rj, rq) s.heap.size = A at hD ⊢
  have hA : ∀ q : Nat, s.heap.size ≤ q → A q := fun q h => by rw [← hAe]; exact Or.inr h
  have hS : va_S A s.heap s.heap [] := va_S.rf
  have hG : GM [] tg σ I ri I ri rq := ⟨hG0, fun _ _ _ => rfl, fun _ _ _ _ _ => rfl, fun _ _ _ _ _ _ => rfl⟩
  have hl := lv_entry ([.ref this, .int a0, .int a1, .int a2]) (n := 4) (Nat.le_of_ble_eq_true rfl)
  rw [lg_entry_eq]
  generalize (lg_sl ([.ref this, .int a0, .int a1, .int a2]) ++ List.replicate (4 - (lg_sl ([.ref this, .int a0, .int a1, .int a2])).length) Slot.unset).toArray = ls at hl ⊢
  have hl : lv_has ls 4 [(0, .ref this), (1, .int a0), (2, .int a1), (3, .int a2)] := hl
  refine q_gen (fun Q hQ => ?_)
  have go : ∀ (H : Heap) (locs : List Loc) (ls : Array Slot), va_P D vwCl (pq_P t σ (I, J, ri, rj, rq)) H → va_D A (pq_P t σ (I, J, ri, rj, rq)) → va_S A s.heap H locs → lv_has ls 4 [(0, .ref this), (1, .int a0), (2, .int a1), (3, .int a2)] → W p l e ({ frames := 4, cells := 0, slots := 0, locals := 102 } : Room) s m (List.toArray ([.ref this, .int a0, .int a1, .int a2] : List Value)) below meth c H locs 0 0 Q (F0 m 0 ls []) := by
    intro H locs ls hP hD hS hl
    refine lv_iload_n hx hb dX12_why_0 rfl (lv_at hl 1 rfl) ?_
    refine lv_iconst (v := 0) hx hb dX12_why_1 (by decide) ?_
    refine lv_iconst (v := 2) hx hb dX12_why_2 (by decide) ?_
    refine pk_i (va_runS (As := [.int a0, .int 0, .int 2]) (rest := []) ⟨hx, hb, hml, hown, hts⟩ (s_X12_isIn l D t σ I J ri rj rq H.size tg hSH hG.1 a0 (0 : Int32) (2 : Int32)) (va_cwS 3 hts (tw_S tw_235 tw_236 tw_5 tw_237) rfl rfl rfl cd_yX12_isIn_3 ⟨Nat.le_of_ble_eq_true rfl, Nat.le_of_ble_eq_true rfl⟩) ⟨pq_blind, pq_pre hK hN hP hD⟩ rfl rfl hl.1 rfl (lv_room (Nat.le_of_ble_eq_true rfl)) dX12_why_3 ⟨Nat.le_of_ble_eq_true rfl, Nat.le_of_ble_eq_true rfl⟩) hD hS hA (fun x_1 σ1 μ1 H locs hw_2 hP hD hS => ?_)
    obtain ⟨hu_3, hr_5⟩ := hw_2
    obtain ⟨hu_3a, hu_3b⟩ := Prod.mk.inj hu_3
    rw [hu_3a, hu_3b] at hP hD
    have h_6 : rg x_1 0 1 := by rcases hr_5 with ⟨q, -⟩ | ⟨q, -⟩ <;> rw [q] <;> exact ⟨by decide, by decide⟩
    have uh_6 := h_6.1
    have vh_6 := h_6.2
    have K_56 : ∀  (H : Heap) (locs : List Loc) (ls : Array Slot), GM [] tg σ I ri I ri rq → va_P D vwCl (pq_P t σ (I, J, ri, rj, rq)) H → va_D A (pq_P t σ (I, J, ri, rj, rq)) → va_S A s.heap H locs → lv_has ls 4 [] → W p l e ({ frames := 4, cells := 0, slots := 0, locals := 102 } : Room) s m (List.toArray ([.ref this, .int a0, .int a1, .int a2] : List Value)) below meth c H locs 0 0 Q (F0 m 37 ls []) := by
      intro H locs ls hG hP hD hS hl
      refine lv_iconst (v := (-1)) hx hb dX12_why_37 (by decide) ?_
      subst hQ
      exact W.iret (v := (-1)) hx hb hr (fun t1 ht hW => ⟨⟨(-1), (σ, I, J, ri, rj, rq), rfl, ⟨ri, rj, rfl, hG, (rg_w (rg_k (-1 : Int32) (-1) rfl) (by decide))⟩, by rw [ht]; exact hP, va_K.moved hW.alike hK, hD⟩, hS.F ht⟩) hS.2.2 dX12_why_38
    refine lv_if_eq (tgt := 37) hx hb dX12_why_6 (by decide) (fun c_57 => ?_) (fun c_57 => ?_)
    · have f_58 := (hr_5.resolve_left (fun q => absurd (q.1.symm.trans c_57) (by decide))).2
      have tc_59 : (x_1).toInt = 0 := congrArg Int32.toInt c_57
      have h_60 : rg x_1 0 0 := rg_and h_6 (rg_of_eq c_57 (rg_k (0 : Int32) 0 rfl)) (by decide)
      have uh_60 := h_60.1
      have vh_60 := h_60.2
      exact K_56 _ _ _ hG hP hD hS (lv_sub hl [] rfl)
    · obtain ⟨f_61, f_62⟩ := (hr_5.resolve_right (fun q => c_57 q.1)).2
      have tc_63 : 0 ≤ (a0).toInt := Int32.le_iff_toInt_le.mp f_61
      have h_64 : rg a0 0 2147483647 := rg_le2 f_61 (rg_k (0 : Int32) 0 rfl) (rg_full _) (by decide)
      have uh_64 := h_64.1
      have vh_64 := h_64.2
      have tc_65 : (a0).toInt ≤ 2 := Int32.le_iff_toInt_le.mp f_62
      have h_66 : rg a0 0 2 := rg_le1 f_62 h_64 (rg_k (2 : Int32) 2 rfl) (by decide)
      have uh_66 := h_66.1
      have vh_66 := h_66.2
      have tc_67 : (x_1).toInt ≠ 0 := fun q => c_57 (Int32.toInt_inj.mp q)
      have h_68 : rg x_1 1 1 := rg_ne c_57 h_6 0 rfl (by decide)
      have uh_68 := h_68.1
      have vh_68 := h_68.2
      refine lv_aload_n hx hb dX12_why_9 rfl (lv_at hl 0 rfl) ?_
      refine lv_iload_n hx hb dX12_why_10 rfl (lv_at hl 2 rfl) ?_
      refine pk_i (va_runV (As := [.int a1]) (rest := []) ⟨hx, hb, hml, hown, hts⟩ (s_X12_isPerson l D t σ I J ri rj rq H.size tg hSH hG.1 this a1 hL_this hK_this) (cwV 1 hts (tw_V tw_425 tw_426 tw_427 tw_5 tw_428) rfl rfl rfl cv_yX12_isPerson_1 ⟨Nat.le_of_ble_eq_true rfl, Nat.le_of_ble_eq_true rfl⟩) ⟨pq_blind, pq_recv hK hP hL_this hK_this (by decide) rfl, pq_pre hK hN hP hD⟩ rfl rfl hl.1 rfl (lv_room (Nat.le_of_ble_eq_true rfl)) dX12_why_11 ⟨Nat.le_of_ble_eq_true rfl, Nat.le_of_ble_eq_true rfl⟩) hD hS hA (fun x_69 σ1 μ1 H locs hw_70 hP hD hS => ?_)
      obtain ⟨hu_71, hr_73⟩ := hw_70
      obtain ⟨hu_71a, hu_71b⟩ := Prod.mk.inj hu_71
      rw [hu_71a, hu_71b] at hP hD
      have h_74 : rg x_69 0 1 := by rcases hr_73 with ⟨q, -⟩ | ⟨q, -⟩ <;> rw [q] <;> exact ⟨by decide, by decide⟩
      have uh_74 := h_74.1
      have vh_74 := h_74.2
      refine lv_if_eq (tgt := 37) hx hb dX12_why_14 (by decide) (fun c_75 => ?_) (fun c_75 => ?_)
      · have f_76 := (hr_73.resolve_left (fun q => absurd (q.1.symm.trans c_75) (by decide))).2
        have tc_77 : (x_69).toInt = 0 := congrArg Int32.toInt c_75
        have h_78 : rg x_69 0 0 := rg_and h_74 (rg_of_eq c_75 (rg_k (0 : Int32) 0 rfl)) (by decide)
        have uh_78 := h_78.1
        have vh_78 := h_78.2
        exact K_56 _ _ _ hG hP hD hS (lv_sub hl [] rfl)
      · have f_79 := (hr_73.resolve_right (fun q => c_75 q.1)).2
        have uf_79 := f_79.1
        have vf_79 := f_79.2
        have tc_80 : (x_69).toInt ≠ 0 := fun q => c_75 (Int32.toInt_inj.mp q)
        have h_81 : rg x_69 1 1 := rg_ne c_75 h_74 0 rfl (by decide)
        have uh_81 := h_81.1
        have vh_81 := h_81.2
        refine lv_iload_n hx hb dX12_why_17 rfl (lv_at hl 3 rfl) ?_
        refine pk_i (va_runS (As := [.int a2]) (rest := []) ⟨hx, hb, hml, hown, hts⟩ (s_X12_isMonth l D t σ I J ri rj rq H.size tg hSH hG.1 a2) (va_cwS 1 hts (tw_S tw_262 tw_263 tw_5 tw_264) rfl rfl rfl cd_yX12_isMonth_1 ⟨Nat.le_of_ble_eq_true rfl, Nat.le_of_ble_eq_true rfl⟩) ⟨pq_blind, pq_pre hK hN hP hD⟩ rfl rfl hl.1 rfl (lv_room (Nat.le_of_ble_eq_true rfl)) dX12_why_18 ⟨Nat.le_of_ble_eq_true rfl, Nat.le_of_ble_eq_true rfl⟩) hD hS hA (fun x_82 σ1 μ1 H locs hw_83 hP hD hS => ?_)
        obtain ⟨hu_84, hr_86⟩ := hw_83
        obtain ⟨hu_84a, hu_84b⟩ := Prod.mk.inj hu_84
        rw [hu_84a, hu_84b] at hP hD
        have h_87 : rg x_82 0 1 := by rcases hr_86 with ⟨q, -⟩ | ⟨q, -⟩ <;> rw [q] <;> exact ⟨by decide, by decide⟩
        have uh_87 := h_87.1
        have vh_87 := h_87.2
        refine lv_if_eq (tgt := 37) hx hb dX12_why_21 (by decide) (fun c_88 => ?_) (fun c_88 => ?_)
        · have f_89 := (hr_86.resolve_left (fun q => absurd (q.1.symm.trans c_88) (by decide))).2
          have tc_90 : (x_82).toInt = 0 := congrArg Int32.toInt c_88
          have h_91 : rg x_82 0 0 := rg_and h_87 (rg_of_eq c_88 (rg_k (0 : Int32) 0 rfl)) (by decide)
          have uh_91 := h_91.1
          have vh_91 := h_91.2
          exact K_56 _ _ _ hG hP hD hS (lv_sub hl [] rfl)
        · have f_92 := (hr_86.resolve_right (fun q => c_88 q.1)).2
          have uf_92 := f_92.1
          have vf_92 := f_92.2
          have tc_93 : (x_82).toInt ≠ 0 := fun q => c_88 (Int32.toInt_inj.mp q)
          have h_94 : rg x_82 1 1 := rg_ne c_88 h_87 0 rfl (by decide)
          have uh_94 := h_94.1
          have vh_94 := h_94.2
          refine lv_aload_n hx hb dX12_why_24 rfl (lv_at hl 0 rfl) ?_
          refine lv_iconst (v := 2) hx hb dX12_why_25 (by decide) ?_
          refine lv_iload_n hx hb dX12_why_26 rfl (lv_at hl 1 rfl) ?_
          refine lv_iadd hx hb dX12_why_27 ?_
          refine lv_topi (fun x_95 ex_95 => ?_)
          have h_96 : rg x_95 2 4 := rg_of_eq ex_95 (rg_add (rg_k (2 : Int32) 2 rfl) h_66 (by decide))
          have uh_96 := h_96.1
          have vh_96 := h_96.2
          have tx_95 : (x_95).toInt = 2 + (a0).toInt := by rw [ex_95]; exact i_add_rg (a2 := 2) (b2 := (a0).toInt) rfl rfl (rg_k (2 : Int32) 2 rfl) h_66 (by decide)
          refine lv_iload_n hx hb dX12_why_28 rfl (lv_at hl 2 rfl) ?_
          refine lv_iload_n hx hb dX12_why_29 rfl (lv_at hl 3 rfl) ?_
          refine lv_iconst (v := 0) hx hb dX12_why_30 (by decide) ?_
          obtain ⟨w_97, hR_w_97, hL_w_97, hK_w_97, hN_w_97, hT_w_97⟩ := sh_a hSH 384 (ci := 12) (kd := 13) (len := 12720) rfl (by decide) hL_this hK_this
          refine pk_i (va_runV (As := [.int x_95, .int a1, .int a2, .int 0]) (rest := []) ⟨hx, hb, hml, hown, hts⟩ (s_X12_firstSo l D t σ I J ri rj rq H.size tg hSH hG.1 this x_95 a1 a2 (0 : Int32) hL_this hK_this (rg_w h_96 (by decide)) (rg_w f_79 (by decide)) w_97 hR_w_97 hL_w_97 hK_w_97 hN_w_97 hT_w_97) (cwV 4 hts (tw_V tw_597 tw_598 tw_599 tw_5 tw_600) rfl rfl rfl cv_yX12_firstSo_4 ⟨Nat.le_of_ble_eq_true rfl, Nat.le_of_ble_eq_true rfl⟩) ⟨pq_blind, pq_recv hK hP hL_this hK_this (by decide) rfl, pq_pre hK hN hP hD⟩ rfl rfl hl.1 rfl (lv_room (Nat.le_of_ble_eq_true rfl)) dX12_why_31 ⟨Nat.le_of_ble_eq_true rfl, Nat.le_of_ble_eq_true rfl⟩) hD hS hA (fun x_98 σ1 μ1 H locs hw_99 hP hD hS => ?_)
          obtain ⟨ri_100, rj_101, hu_102, hg_103, hp_105, hr_104⟩ := hw_99
          obtain ⟨hu_102a, hu_102b⟩ := Prod.mk.inj hu_102
          rw [hu_102a, hu_102b] at hP hD
          have hG := GM.tr hG hg_103 (by decide)
          refine lv_goto (tgt := 38) hx hb dX12_why_34 (by decide) ?_
          subst hQ
          exact W.iret (v := x_98) hx hb hr (fun t1 ht hW => ⟨⟨x_98, (σ, I, J, ri_100, rj_101, rq), rfl, ⟨ri_100, rj_101, rfl, hG, (rg_w hr_104 (by decide))⟩, by rw [ht]; exact hP, va_K.moved hW.alike hK, hD⟩, hS.F ht⟩) hS.2.2 dX12_why_38
  exact go _ _ _ hP hD hS hl

set_option maxHeartbeats 4000000 in
set_option maxRecDepth 100000 in
theorem s_X12_says (l : Launch) (D : va_G) (t : pq_T) (σ : pq_S) (I : Nat → Nat → Int32) (J : Nat → Nat → Int64) (ri : Nat → Nat → Int32) (rj : Nat → Nat → Int64) (rq : Nat → Nat → Option Nat) (sz : Nat) (tg : Nat → Nat) (hSH : SH σ tg) (hG0 : GT tg I ri) (this : Nat) (a0 : Int32) (a1 : Int32) (hL_this : this ∈ σ.1) (hK_this : σ.2.1 this = 12) : MetI l yX12_says (wa yX12_says cX12_says 3 (some .int)) ({ frames := 4, cells := 0, slots := 0, locals := 93 }) [.ref this, .int a0, .int a1] D t σ (I, J, ri, rj, rq) sz 0 0 (fun (r : Int32) (u : pq_S × pq_M) => u = (σ, I, J, ri, rj, rq)) := by
  refine Met.ofW (cc := cX12_says) (maxL := 3) (ret := (some .int)) (by decide) rfl ?_
  intro p e s m args below meth c s₁ B hml hv
  obtain ⟨rfl, hsz, hP, hK, hD0, hN⟩ := hv
  have hx := B.exec
  have hb := B.bytes
  have hr := B.returns
  have hts := atoms_spec (ws := (wa yX12_says cX12_says 3 (some .int))) B.pre
  have hown : s.vm.findClass RX12 = some m.cls := findClass_of_methodNamed B.named
  have hlocks := B.notSynchronized
  subst hsz
  have hD : va_D (pq_B t σ (I, J, ri, rj, rq) s.heap.size) (pq_P t σ (I, J, ri, rj, rq)) := hD0.self
  generalize hAe : pq_B t σ (I, J, ri, rj, rq) s.heap.size = A at hD ⊢
  have hA : ∀ q : Nat, s.heap.size ≤ q → A q := fun q h => by rw [← hAe]; exact Or.inr h
  have hS : va_S A s.heap s.heap [] := va_S.rf
  have hG : GM [] tg σ I ri I ri rq := ⟨hG0, fun _ _ _ => rfl, fun _ _ _ _ _ => rfl, fun _ _ _ _ _ _ => rfl⟩
  have hl := lv_entry ([.ref this, .int a0, .int a1]) (n := 3) (Nat.le_of_ble_eq_true rfl)
  rw [lg_entry_eq]
  generalize (lg_sl ([.ref this, .int a0, .int a1]) ++ List.replicate (3 - (lg_sl ([.ref this, .int a0, .int a1])).length) Slot.unset).toArray = ls at hl ⊢
  have hl : lv_has ls 3 [(0, .ref this), (1, .int a0), (2, .int a1)] := hl
  refine q_gen (fun Q hQ => ?_)
  have go : ∀ (H : Heap) (locs : List Loc) (ls : Array Slot), va_P D vwCl (pq_P t σ (I, J, ri, rj, rq)) H → va_D A (pq_P t σ (I, J, ri, rj, rq)) → va_S A s.heap H locs → lv_has ls 3 [(0, .ref this), (1, .int a0), (2, .int a1)] → W p l e ({ frames := 4, cells := 0, slots := 0, locals := 93 } : Room) s m (List.toArray ([.ref this, .int a0, .int a1] : List Value)) below meth c H locs 0 0 Q (F0 m 0 ls []) := by
    intro H locs ls hP hD hS hl
    refine lv_iload_n hx hb dX12_says_0 rfl (lv_at hl 1 rfl) ?_
    refine pk_i (va_runS (As := [.int a0]) (rest := []) ⟨hx, hb, hml, hown, hts⟩ (s_X12_isMonth l D t σ I J ri rj rq H.size tg hSH hG.1 a0) (va_cwS 1 hts (tw_S tw_262 tw_263 tw_5 tw_264) rfl rfl rfl cd_yX12_isMonth_1 ⟨Nat.le_of_ble_eq_true rfl, Nat.le_of_ble_eq_true rfl⟩) ⟨pq_blind, pq_pre hK hN hP hD⟩ rfl rfl hl.1 rfl (lv_room (Nat.le_of_ble_eq_true rfl)) dX12_says_1 ⟨Nat.le_of_ble_eq_true rfl, Nat.le_of_ble_eq_true rfl⟩) hD hS hA (fun x_1 σ1 μ1 H locs hw_2 hP hD hS => ?_)
    obtain ⟨hu_3, hr_5⟩ := hw_2
    obtain ⟨hu_3a, hu_3b⟩ := Prod.mk.inj hu_3
    rw [hu_3a, hu_3b] at hP hD
    have h_6 : rg x_1 0 1 := by rcases hr_5 with ⟨q, -⟩ | ⟨q, -⟩ <;> rw [q] <;> exact ⟨by decide, by decide⟩
    have uh_6 := h_6.1
    have vh_6 := h_6.2
    refine lv_if_ne (tgt := 9) hx hb dX12_says_4 (by decide) (fun c_7 => ?_) (fun c_7 => ?_)
    · have f_8 := (hr_5.resolve_right (fun q => c_7 q.1)).2
      have uf_8 := f_8.1
      have vf_8 := f_8.2
      have tc_9 : (x_1).toInt ≠ 0 := fun q => c_7 (Int32.toInt_inj.mp q)
      have h_10 : rg x_1 1 1 := rg_ne c_7 h_6 0 rfl (by decide)
      have uh_10 := h_10.1
      have vh_10 := h_10.2
      refine lv_iload_n hx hb dX12_says_9 rfl (lv_at hl 2 rfl) ?_
      refine lv_if_ne (tgt := 25) hx hb dX12_says_10 (by decide) (fun c_11 => ?_) (fun c_11 => ?_)
      · have tc_12 : (a1).toInt ≠ 0 := fun q => c_11 (Int32.toInt_inj.mp q)
        refine lv_iload_n hx hb dX12_says_25 rfl (lv_at hl 2 rfl) ?_
        refine lv_iconst (v := 1) hx hb dX12_says_26 (by decide) ?_
        refine lv_icmp_ne (tgt := 42) hx hb dX12_says_27 (by decide) (fun c_13 => ?_) (fun c_13 => ?_)
        · have tc_14 : (a1).toInt ≠ 1 := fun q => c_13 (Int32.toInt_inj.mp q)
          refine lv_iload_n hx hb dX12_says_42 rfl (lv_at hl 2 rfl) ?_
          refine lv_iconst (v := 2) hx hb dX12_says_43 (by decide) ?_
          refine lv_icmp_ne (tgt := 58) hx hb dX12_says_44 (by decide) (fun c_15 => ?_) (fun c_15 => ?_)
          · have tc_16 : (a1).toInt ≠ 2 := fun q => c_15 (Int32.toInt_inj.mp q)
            refine lv_iconst (v := (-1)) hx hb dX12_says_58 (by decide) ?_
            subst hQ
            exact W.iret (v := (-1)) hx hb hr (fun t1 ht hW => ⟨⟨(-1), (σ, I, J, ri, rj, rq), rfl, rfl, by rw [ht]; exact hP, va_K.moved hW.alike hK, hD⟩, hS.F ht⟩) hS.2.2 dX12_says_59
          · have tc_17 : (a1).toInt = 2 := congrArg Int32.toInt c_15
            have h_18 : rg a1 2 2 := rg_and (rg_full _) (rg_of_eq c_15 (rg_k (2 : Int32) 2 rfl)) (by decide)
            have uh_18 := h_18.1
            have vh_18 := h_18.2
            refine lv_aload_n hx hb dX12_says_47 rfl (lv_at hl 0 rfl) ?_
            refine lv_bipush (v := 8) hx hb dX12_says_48 (by decide) ?_
            refine lv_iload_n hx hb dX12_says_50 rfl (lv_at hl 1 rfl) ?_
            refine lv_iconst (v := (-1)) hx hb dX12_says_51 (by decide) ?_
            obtain ⟨w_19, hR_w_19, hL_w_19, hK_w_19, hN_w_19, hT_w_19⟩ := sh_a hSH 384 (ci := 12) (kd := 13) (len := 12720) rfl (by decide) hL_this hK_this
            refine pk_i (va_runV (As := [.int 8, .int a0, .int (-1)]) (rest := []) ⟨hx, hb, hml, hown, hts⟩ (s_X12_numberOf l D t σ I J ri rj rq H.size tg hSH hG.1 this (8 : Int32) a0 (-1 : Int32) hL_this hK_this w_19 hR_w_19 hL_w_19 hK_w_19 hN_w_19 hT_w_19) (cwV 3 hts (tw_V tw_1016 tw_1017 tw_1018 tw_5 tw_1019) rfl rfl rfl cv_yX12_numberOf_3 ⟨Nat.le_of_ble_eq_true rfl, Nat.le_of_ble_eq_true rfl⟩) ⟨pq_blind, pq_recv hK hP hL_this hK_this (by decide) rfl, pq_pre hK hN hP hD⟩ rfl rfl hl.1 rfl (lv_room (Nat.le_of_ble_eq_true rfl)) dX12_says_52 ⟨Nat.le_of_ble_eq_true rfl, Nat.le_of_ble_eq_true rfl⟩) hD hS hA (fun x_20 σ1 μ1 H locs hw_21 hP hD hS => ?_)
            have hu_22 := hw_21
            obtain ⟨hu_22a, hu_22b⟩ := Prod.mk.inj hu_22
            rw [hu_22a, hu_22b] at hP hD
            refine lv_goto (tgt := 59) hx hb dX12_says_55 (by decide) ?_
            subst hQ
            exact W.iret (v := x_20) hx hb hr (fun t1 ht hW => ⟨⟨x_20, (σ, I, J, ri, rj, rq), rfl, rfl, by rw [ht]; exact hP, va_K.moved hW.alike hK, hD⟩, hS.F ht⟩) hS.2.2 dX12_says_59
        · have tc_25 : (a1).toInt = 1 := congrArg Int32.toInt c_13
          have h_26 : rg a1 1 1 := rg_and (rg_full _) (rg_of_eq c_13 (rg_k (1 : Int32) 1 rfl)) (by decide)
          have uh_26 := h_26.1
          have vh_26 := h_26.2
          refine lv_aload_n hx hb dX12_says_30 rfl (lv_at hl 0 rfl) ?_
          refine lv_bipush (v := 9) hx hb dX12_says_31 (by decide) ?_
          refine lv_iload_n hx hb dX12_says_33 rfl (lv_at hl 1 rfl) ?_
          refine lv_bipush (v := 10) hx hb dX12_says_34 (by decide) ?_
          obtain ⟨w_27, hR_w_27, hL_w_27, hK_w_27, hN_w_27, hT_w_27⟩ := sh_a hSH 384 (ci := 12) (kd := 13) (len := 12720) rfl (by decide) hL_this hK_this
          refine pk_i (va_runV (As := [.int 9, .int a0, .int 10]) (rest := []) ⟨hx, hb, hml, hown, hts⟩ (s_X12_numberOf l D t σ I J ri rj rq H.size tg hSH hG.1 this (9 : Int32) a0 (10 : Int32) hL_this hK_this w_27 hR_w_27 hL_w_27 hK_w_27 hN_w_27 hT_w_27) (cwV 3 hts (tw_V tw_1016 tw_1017 tw_1018 tw_5 tw_1019) rfl rfl rfl cv_yX12_numberOf_3 ⟨Nat.le_of_ble_eq_true rfl, Nat.le_of_ble_eq_true rfl⟩) ⟨pq_blind, pq_recv hK hP hL_this hK_this (by decide) rfl, pq_pre hK hN hP hD⟩ rfl rfl hl.1 rfl (lv_room (Nat.le_of_ble_eq_true rfl)) dX12_says_36 ⟨Nat.le_of_ble_eq_true rfl, Nat.le_of_ble_eq_true rfl⟩) hD hS hA (fun x_28 σ1 μ1 H locs hw_29 hP hD hS => ?_)
          have hu_30 := hw_29
          obtain ⟨hu_30a, hu_30b⟩ := Prod.mk.inj hu_30
          rw [hu_30a, hu_30b] at hP hD
          refine lv_goto (tgt := 59) hx hb dX12_says_39 (by decide) ?_
          subst hQ
          exact W.iret (v := x_28) hx hb hr (fun t1 ht hW => ⟨⟨x_28, (σ, I, J, ri, rj, rq), rfl, rfl, by rw [ht]; exact hP, va_K.moved hW.alike hK, hD⟩, hS.F ht⟩) hS.2.2 dX12_says_59
      · have tc_33 : (a1).toInt = 0 := congrArg Int32.toInt c_11
        have h_34 : rg a1 0 0 := rg_and (rg_full _) (rg_of_eq c_11 (rg_k (0 : Int32) 0 rfl)) (by decide)
        have uh_34 := h_34.1
        have vh_34 := h_34.2
        refine lv_aload_n hx hb dX12_says_13 rfl (lv_at hl 0 rfl) ?_
        refine lv_bipush (v := 7) hx hb dX12_says_14 (by decide) ?_
        refine lv_iload_n hx hb dX12_says_16 rfl (lv_at hl 1 rfl) ?_
        refine lv_bipush (v := 50) hx hb dX12_says_17 (by decide) ?_
        obtain ⟨w_35, hR_w_35, hL_w_35, hK_w_35, hN_w_35, hT_w_35⟩ := sh_a hSH 384 (ci := 12) (kd := 13) (len := 12720) rfl (by decide) hL_this hK_this
        refine pk_i (va_runV (As := [.int 7, .int a0, .int 50]) (rest := []) ⟨hx, hb, hml, hown, hts⟩ (s_X12_numberOf l D t σ I J ri rj rq H.size tg hSH hG.1 this (7 : Int32) a0 (50 : Int32) hL_this hK_this w_35 hR_w_35 hL_w_35 hK_w_35 hN_w_35 hT_w_35) (cwV 3 hts (tw_V tw_1016 tw_1017 tw_1018 tw_5 tw_1019) rfl rfl rfl cv_yX12_numberOf_3 ⟨Nat.le_of_ble_eq_true rfl, Nat.le_of_ble_eq_true rfl⟩) ⟨pq_blind, pq_recv hK hP hL_this hK_this (by decide) rfl, pq_pre hK hN hP hD⟩ rfl rfl hl.1 rfl (lv_room (Nat.le_of_ble_eq_true rfl)) dX12_says_19 ⟨Nat.le_of_ble_eq_true rfl, Nat.le_of_ble_eq_true rfl⟩) hD hS hA (fun x_36 σ1 μ1 H locs hw_37 hP hD hS => ?_)
        have hu_38 := hw_37
        obtain ⟨hu_38a, hu_38b⟩ := Prod.mk.inj hu_38
        rw [hu_38a, hu_38b] at hP hD
        refine lv_goto (tgt := 59) hx hb dX12_says_22 (by decide) ?_
        subst hQ
        exact W.iret (v := x_36) hx hb hr (fun t1 ht hW => ⟨⟨x_36, (σ, I, J, ri, rj, rq), rfl, rfl, by rw [ht]; exact hP, va_K.moved hW.alike hK, hD⟩, hS.F ht⟩) hS.2.2 dX12_says_59
    · have f_41 := (hr_5.resolve_left (fun q => absurd (q.1.symm.trans c_7) (by decide))).2
      have tc_42 : (x_1).toInt = 0 := congrArg Int32.toInt c_7
      have h_43 : rg x_1 0 0 := rg_and h_6 (rg_of_eq c_7 (rg_k (0 : Int32) 0 rfl)) (by decide)
      have uh_43 := h_43.1
      have vh_43 := h_43.2
      refine lv_iconst (v := (-1)) hx hb dX12_says_7 (by decide) ?_
      subst hQ
      exact W.iret (v := (-1)) hx hb hr (fun t1 ht hW => ⟨⟨(-1), (σ, I, J, ri, rj, rq), rfl, rfl, by rw [ht]; exact hP, va_K.moved hW.alike hK, hD⟩, hS.F ht⟩) hS.2.2 dX12_says_8
  exact go _ _ _ hP hD hS hl

set_option maxHeartbeats 4000000 in
set_option maxRecDepth 100000 in
theorem s_X12_cellAt_c1 (l : Launch) (D : va_G) (t : pq_T) (σ : pq_S) (I : Nat → Nat → Int32) (J : Nat → Nat → Int64) (ri : Nat → Nat → Int32) (rj : Nat → Nat → Int64) (rq : Nat → Nat → Option Nat) (sz : Nat) (tg : Nat → Nat) (hSH : SH σ tg) (hG0 : GT tg I ri) (this : Nat) (a0 : Int32) (hL_this : this ∈ σ.1) (hK_this : σ.2.1 this = 12) (h_a0 : rg a0 0 39) : MetI l yX12_cellAt (wa yX12_cellAt cX12_cellAt 3 (some .int)) ({ frames := 0, cells := 0, slots := 0, locals := 0 }) [.ref this, .int a0, .int 1] D t σ (I, J, ri, rj, rq) sz 0 0 (fun (r : Int32) (u : pq_S × pq_M) => u = (σ, I, J, ri, rj, rq)) := by
  refine Met.ofW (cc := cX12_cellAt) (maxL := 3) (ret := (some .int)) (by decide) rfl ?_
  intro p e s m args below meth c s₁ B hml hv
  obtain ⟨rfl, hsz, hP, hK, hD0, hN⟩ := hv
  have hx := B.exec
  have hb := B.bytes
  have hr := B.returns
  have hts := atoms_spec (ws := (wa yX12_cellAt cX12_cellAt 3 (some .int))) B.pre
  have hown : s.vm.findClass RX12 = some m.cls := findClass_of_methodNamed B.named
  have hlocks := B.notSynchronized
  subst hsz
  have hD : va_D (pq_B t σ (I, J, ri, rj, rq) s.heap.size) (pq_P t σ (I, J, ri, rj, rq)) := hD0.self
  generalize hAe : pq_B t σ (I, J, ri, rj, rq) s.heap.size = A at hD ⊢
  have hA : ∀ q : Nat, s.heap.size ≤ q → A q := fun q h => by rw [← hAe]; exact Or.inr h
  have hS : va_S A s.heap s.heap [] := va_S.rf
  have hG : GM [] tg σ I ri I ri rq := ⟨hG0, fun _ _ _ => rfl, fun _ _ _ _ _ => rfl, fun _ _ _ _ _ _ => rfl⟩
  have hl := lv_entry ([.ref this, .int a0, .int 1]) (n := 3) (Nat.le_of_ble_eq_true rfl)
  rw [lg_entry_eq]
  generalize (lg_sl ([.ref this, .int a0, .int 1]) ++ List.replicate (3 - (lg_sl ([.ref this, .int a0, .int 1])).length) Slot.unset).toArray = ls at hl ⊢
  have hl : lv_has ls 3 [(0, .ref this), (1, .int a0), (2, .int 1)] := hl
  refine q_gen (fun Q hQ => ?_)
  have go : ∀ (H : Heap) (locs : List Loc) (ls : Array Slot), va_P D vwCl (pq_P t σ (I, J, ri, rj, rq)) H → va_D A (pq_P t σ (I, J, ri, rj, rq)) → va_S A s.heap H locs → lv_has ls 3 [(0, .ref this), (1, .int a0), (2, .int 1)] → W p l e ({ frames := 0, cells := 0, slots := 0, locals := 0 } : Room) s m (List.toArray ([.ref this, .int a0, .int 1] : List Value)) below meth c H locs 0 0 Q (F0 m 0 ls []) := by
    intro H locs ls hP hD hS hl
    refine lv_aload_n hx hb dX12_cellAt_0 rfl (lv_at hl 0 rfl) ?_
    obtain ⟨w_1, hR_w_1, hL_w_1, hK_w_1, hN_w_1, hT_w_1⟩ := sh_a hSH 384 (ci := 12) (kd := 13) (len := 12720) rfl (by decide) hL_this hK_this
    refine pg_f (v := .ref w_1) (C := RX12) (T := TX12) (N := 31) hx hb hts (tw_i inlX12) hown hK hP hL_this hK_this (by decide) rfl 0 (by decide) (hts _ (tw_c tw_176)) (pq_hv rfl hR_w_1) dX12_cellAt_1 ?_
    refine lv_bipush (v := 100) hx hb dX12_cellAt_4 (by decide) ?_
    refine lv_bipush (v := 16) hx hb dX12_cellAt_6 (by decide) ?_
    refine lv_iload_n hx hb dX12_cellAt_8 rfl (lv_at hl 1 rfl) ?_
    refine lv_imul hx hb dX12_cellAt_9 ?_
    refine lv_topi (fun x_2 ex_2 => ?_)
    have h_3 : rg x_2 0 624 := rg_of_eq ex_2 (rg_mul (rg_k (16 : Int32) 16 rfl) h_a0 (by decide))
    have uh_3 := h_3.1
    have vh_3 := h_3.2
    have tx_2 : (x_2).toInt = 16 * (a0).toInt := by rw [ex_2]; exact i_mul_rg (a2 := 16) (b2 := (a0).toInt) rfl rfl (rg_k (16 : Int32) 16 rfl) h_a0 (by decide)
    refine lv_iadd hx hb dX12_cellAt_10 ?_
    refine lv_topi (fun x_4 ex_4 => ?_)
    have h_5 : rg x_4 100 724 := rg_of_eq ex_4 (rg_add (rg_k (100 : Int32) 100 rfl) h_3 (by decide))
    have uh_5 := h_5.1
    have vh_5 := h_5.2
    have tx_4 : (x_4).toInt = 100 + (x_2).toInt := by rw [ex_4]; exact i_add_rg (a2 := 100) (b2 := (x_2).toInt) rfl rfl (rg_k (100 : Int32) 100 rfl) h_3 (by decide)
    refine lv_iload_n hx hb dX12_cellAt_11 rfl (lv_at hl 2 rfl) ?_
    refine lv_iadd hx hb dX12_cellAt_12 ?_
    refine lv_topi (fun x_6 ex_6 => ?_)
    have h_7 : rg x_6 101 725 := rg_of_eq ex_6 (rg_add h_5 (rg_k (1 : Int32) 1 rfl) (by decide))
    have uh_7 := h_7.1
    have vh_7 := h_7.2
    have tx_6 : (x_6).toInt = (x_4).toInt + 1 := by rw [ex_6]; exact i_add_rg (a2 := (x_4).toInt) (b2 := 1) rfl rfl h_5 (rg_k (1 : Int32) 1 rfl) (by decide)
    refine pl_i hx hb hK hP hL_w_1 hK_w_1 hN_w_1 (rg_in h_7 (by decide)) dX12_cellAt_13 ?_
    refine lv_topi (fun x_8 ex_8 => ?_)
    subst hQ
    exact W.iret (v := x_8) hx hb hr (fun t1 ht hW => ⟨⟨x_8, (σ, I, J, ri, rj, rq), rfl, rfl, by rw [ht]; exact hP, va_K.moved hW.alike hK, hD⟩, hS.F ht⟩) hS.2.2 dX12_cellAt_14
  exact go _ _ _ hP hD hS hl

set_option maxHeartbeats 4000000 in
set_option maxRecDepth 100000 in
theorem s_X12_cellAt_c4 (l : Launch) (D : va_G) (t : pq_T) (σ : pq_S) (I : Nat → Nat → Int32) (J : Nat → Nat → Int64) (ri : Nat → Nat → Int32) (rj : Nat → Nat → Int64) (rq : Nat → Nat → Option Nat) (sz : Nat) (tg : Nat → Nat) (hSH : SH σ tg) (hG0 : GT tg I ri) (this : Nat) (a0 : Int32) (hL_this : this ∈ σ.1) (hK_this : σ.2.1 this = 12) (h_a0 : rg a0 0 39) : MetI l yX12_cellAt (wa yX12_cellAt cX12_cellAt 3 (some .int)) ({ frames := 0, cells := 0, slots := 0, locals := 0 }) [.ref this, .int a0, .int 4] D t σ (I, J, ri, rj, rq) sz 0 0 (fun (r : Int32) (u : pq_S × pq_M) => u = (σ, I, J, ri, rj, rq)) := by
  refine Met.ofW (cc := cX12_cellAt) (maxL := 3) (ret := (some .int)) (by decide) rfl ?_
  intro p e s m args below meth c s₁ B hml hv
  obtain ⟨rfl, hsz, hP, hK, hD0, hN⟩ := hv
  have hx := B.exec
  have hb := B.bytes
  have hr := B.returns
  have hts := atoms_spec (ws := (wa yX12_cellAt cX12_cellAt 3 (some .int))) B.pre
  have hown : s.vm.findClass RX12 = some m.cls := findClass_of_methodNamed B.named
  have hlocks := B.notSynchronized
  subst hsz
  have hD : va_D (pq_B t σ (I, J, ri, rj, rq) s.heap.size) (pq_P t σ (I, J, ri, rj, rq)) := hD0.self
  generalize hAe : pq_B t σ (I, J, ri, rj, rq) s.heap.size = A at hD ⊢
  have hA : ∀ q : Nat, s.heap.size ≤ q → A q := fun q h => by rw [← hAe]; exact Or.inr h
  have hS : va_S A s.heap s.heap [] := va_S.rf
  have hG : GM [] tg σ I ri I ri rq := ⟨hG0, fun _ _ _ => rfl, fun _ _ _ _ _ => rfl, fun _ _ _ _ _ _ => rfl⟩
  have hl := lv_entry ([.ref this, .int a0, .int 4]) (n := 3) (Nat.le_of_ble_eq_true rfl)
  rw [lg_entry_eq]
  generalize (lg_sl ([.ref this, .int a0, .int 4]) ++ List.replicate (3 - (lg_sl ([.ref this, .int a0, .int 4])).length) Slot.unset).toArray = ls at hl ⊢
  have hl : lv_has ls 3 [(0, .ref this), (1, .int a0), (2, .int 4)] := hl
  refine q_gen (fun Q hQ => ?_)
  have go : ∀ (H : Heap) (locs : List Loc) (ls : Array Slot), va_P D vwCl (pq_P t σ (I, J, ri, rj, rq)) H → va_D A (pq_P t σ (I, J, ri, rj, rq)) → va_S A s.heap H locs → lv_has ls 3 [(0, .ref this), (1, .int a0), (2, .int 4)] → W p l e ({ frames := 0, cells := 0, slots := 0, locals := 0 } : Room) s m (List.toArray ([.ref this, .int a0, .int 4] : List Value)) below meth c H locs 0 0 Q (F0 m 0 ls []) := by
    intro H locs ls hP hD hS hl
    refine lv_aload_n hx hb dX12_cellAt_0 rfl (lv_at hl 0 rfl) ?_
    obtain ⟨w_1, hR_w_1, hL_w_1, hK_w_1, hN_w_1, hT_w_1⟩ := sh_a hSH 384 (ci := 12) (kd := 13) (len := 12720) rfl (by decide) hL_this hK_this
    refine pg_f (v := .ref w_1) (C := RX12) (T := TX12) (N := 31) hx hb hts (tw_i inlX12) hown hK hP hL_this hK_this (by decide) rfl 0 (by decide) (hts _ (tw_c tw_176)) (pq_hv rfl hR_w_1) dX12_cellAt_1 ?_
    refine lv_bipush (v := 100) hx hb dX12_cellAt_4 (by decide) ?_
    refine lv_bipush (v := 16) hx hb dX12_cellAt_6 (by decide) ?_
    refine lv_iload_n hx hb dX12_cellAt_8 rfl (lv_at hl 1 rfl) ?_
    refine lv_imul hx hb dX12_cellAt_9 ?_
    refine lv_topi (fun x_2 ex_2 => ?_)
    have h_3 : rg x_2 0 624 := rg_of_eq ex_2 (rg_mul (rg_k (16 : Int32) 16 rfl) h_a0 (by decide))
    have uh_3 := h_3.1
    have vh_3 := h_3.2
    have tx_2 : (x_2).toInt = 16 * (a0).toInt := by rw [ex_2]; exact i_mul_rg (a2 := 16) (b2 := (a0).toInt) rfl rfl (rg_k (16 : Int32) 16 rfl) h_a0 (by decide)
    refine lv_iadd hx hb dX12_cellAt_10 ?_
    refine lv_topi (fun x_4 ex_4 => ?_)
    have h_5 : rg x_4 100 724 := rg_of_eq ex_4 (rg_add (rg_k (100 : Int32) 100 rfl) h_3 (by decide))
    have uh_5 := h_5.1
    have vh_5 := h_5.2
    have tx_4 : (x_4).toInt = 100 + (x_2).toInt := by rw [ex_4]; exact i_add_rg (a2 := 100) (b2 := (x_2).toInt) rfl rfl (rg_k (100 : Int32) 100 rfl) h_3 (by decide)
    refine lv_iload_n hx hb dX12_cellAt_11 rfl (lv_at hl 2 rfl) ?_
    refine lv_iadd hx hb dX12_cellAt_12 ?_
    refine lv_topi (fun x_6 ex_6 => ?_)
    have h_7 : rg x_6 104 728 := rg_of_eq ex_6 (rg_add h_5 (rg_k (4 : Int32) 4 rfl) (by decide))
    have uh_7 := h_7.1
    have vh_7 := h_7.2
    have tx_6 : (x_6).toInt = (x_4).toInt + 4 := by rw [ex_6]; exact i_add_rg (a2 := (x_4).toInt) (b2 := 4) rfl rfl h_5 (rg_k (4 : Int32) 4 rfl) (by decide)
    refine pl_i hx hb hK hP hL_w_1 hK_w_1 hN_w_1 (rg_in h_7 (by decide)) dX12_cellAt_13 ?_
    refine lv_topi (fun x_8 ex_8 => ?_)
    subst hQ
    exact W.iret (v := x_8) hx hb hr (fun t1 ht hW => ⟨⟨x_8, (σ, I, J, ri, rj, rq), rfl, rfl, by rw [ht]; exact hP, va_K.moved hW.alike hK, hD⟩, hS.F ht⟩) hS.2.2 dX12_cellAt_14
  exact go _ _ _ hP hD hS hl

set_option maxHeartbeats 4000000 in
set_option maxRecDepth 100000 in
theorem s_X12_cellAt_c5 (l : Launch) (D : va_G) (t : pq_T) (σ : pq_S) (I : Nat → Nat → Int32) (J : Nat → Nat → Int64) (ri : Nat → Nat → Int32) (rj : Nat → Nat → Int64) (rq : Nat → Nat → Option Nat) (sz : Nat) (tg : Nat → Nat) (hSH : SH σ tg) (hG0 : GT tg I ri) (this : Nat) (a0 : Int32) (hL_this : this ∈ σ.1) (hK_this : σ.2.1 this = 12) (h_a0 : rg a0 0 39) : MetI l yX12_cellAt (wa yX12_cellAt cX12_cellAt 3 (some .int)) ({ frames := 0, cells := 0, slots := 0, locals := 0 }) [.ref this, .int a0, .int 5] D t σ (I, J, ri, rj, rq) sz 0 0 (fun (r : Int32) (u : pq_S × pq_M) => u = (σ, I, J, ri, rj, rq)) := by
  refine Met.ofW (cc := cX12_cellAt) (maxL := 3) (ret := (some .int)) (by decide) rfl ?_
  intro p e s m args below meth c s₁ B hml hv
  obtain ⟨rfl, hsz, hP, hK, hD0, hN⟩ := hv
  have hx := B.exec
  have hb := B.bytes
  have hr := B.returns
  have hts := atoms_spec (ws := (wa yX12_cellAt cX12_cellAt 3 (some .int))) B.pre
  have hown : s.vm.findClass RX12 = some m.cls := findClass_of_methodNamed B.named
  have hlocks := B.notSynchronized
  subst hsz
  have hD : va_D (pq_B t σ (I, J, ri, rj, rq) s.heap.size) (pq_P t σ (I, J, ri, rj, rq)) := hD0.self
  generalize hAe : pq_B t σ (I, J, ri, rj, rq) s.heap.size = A at hD ⊢
  have hA : ∀ q : Nat, s.heap.size ≤ q → A q := fun q h => by rw [← hAe]; exact Or.inr h
  have hS : va_S A s.heap s.heap [] := va_S.rf
  have hG : GM [] tg σ I ri I ri rq := ⟨hG0, fun _ _ _ => rfl, fun _ _ _ _ _ => rfl, fun _ _ _ _ _ _ => rfl⟩
  have hl := lv_entry ([.ref this, .int a0, .int 5]) (n := 3) (Nat.le_of_ble_eq_true rfl)
  rw [lg_entry_eq]
  generalize (lg_sl ([.ref this, .int a0, .int 5]) ++ List.replicate (3 - (lg_sl ([.ref this, .int a0, .int 5])).length) Slot.unset).toArray = ls at hl ⊢
  have hl : lv_has ls 3 [(0, .ref this), (1, .int a0), (2, .int 5)] := hl
  refine q_gen (fun Q hQ => ?_)
  have go : ∀ (H : Heap) (locs : List Loc) (ls : Array Slot), va_P D vwCl (pq_P t σ (I, J, ri, rj, rq)) H → va_D A (pq_P t σ (I, J, ri, rj, rq)) → va_S A s.heap H locs → lv_has ls 3 [(0, .ref this), (1, .int a0), (2, .int 5)] → W p l e ({ frames := 0, cells := 0, slots := 0, locals := 0 } : Room) s m (List.toArray ([.ref this, .int a0, .int 5] : List Value)) below meth c H locs 0 0 Q (F0 m 0 ls []) := by
    intro H locs ls hP hD hS hl
    refine lv_aload_n hx hb dX12_cellAt_0 rfl (lv_at hl 0 rfl) ?_
    obtain ⟨w_1, hR_w_1, hL_w_1, hK_w_1, hN_w_1, hT_w_1⟩ := sh_a hSH 384 (ci := 12) (kd := 13) (len := 12720) rfl (by decide) hL_this hK_this
    refine pg_f (v := .ref w_1) (C := RX12) (T := TX12) (N := 31) hx hb hts (tw_i inlX12) hown hK hP hL_this hK_this (by decide) rfl 0 (by decide) (hts _ (tw_c tw_176)) (pq_hv rfl hR_w_1) dX12_cellAt_1 ?_
    refine lv_bipush (v := 100) hx hb dX12_cellAt_4 (by decide) ?_
    refine lv_bipush (v := 16) hx hb dX12_cellAt_6 (by decide) ?_
    refine lv_iload_n hx hb dX12_cellAt_8 rfl (lv_at hl 1 rfl) ?_
    refine lv_imul hx hb dX12_cellAt_9 ?_
    refine lv_topi (fun x_2 ex_2 => ?_)
    have h_3 : rg x_2 0 624 := rg_of_eq ex_2 (rg_mul (rg_k (16 : Int32) 16 rfl) h_a0 (by decide))
    have uh_3 := h_3.1
    have vh_3 := h_3.2
    have tx_2 : (x_2).toInt = 16 * (a0).toInt := by rw [ex_2]; exact i_mul_rg (a2 := 16) (b2 := (a0).toInt) rfl rfl (rg_k (16 : Int32) 16 rfl) h_a0 (by decide)
    refine lv_iadd hx hb dX12_cellAt_10 ?_
    refine lv_topi (fun x_4 ex_4 => ?_)
    have h_5 : rg x_4 100 724 := rg_of_eq ex_4 (rg_add (rg_k (100 : Int32) 100 rfl) h_3 (by decide))
    have uh_5 := h_5.1
    have vh_5 := h_5.2
    have tx_4 : (x_4).toInt = 100 + (x_2).toInt := by rw [ex_4]; exact i_add_rg (a2 := 100) (b2 := (x_2).toInt) rfl rfl (rg_k (100 : Int32) 100 rfl) h_3 (by decide)
    refine lv_iload_n hx hb dX12_cellAt_11 rfl (lv_at hl 2 rfl) ?_
    refine lv_iadd hx hb dX12_cellAt_12 ?_
    refine lv_topi (fun x_6 ex_6 => ?_)
    have h_7 : rg x_6 105 729 := rg_of_eq ex_6 (rg_add h_5 (rg_k (5 : Int32) 5 rfl) (by decide))
    have uh_7 := h_7.1
    have vh_7 := h_7.2
    have tx_6 : (x_6).toInt = (x_4).toInt + 5 := by rw [ex_6]; exact i_add_rg (a2 := (x_4).toInt) (b2 := 5) rfl rfl h_5 (rg_k (5 : Int32) 5 rfl) (by decide)
    refine pl_i hx hb hK hP hL_w_1 hK_w_1 hN_w_1 (rg_in h_7 (by decide)) dX12_cellAt_13 ?_
    refine lv_topi (fun x_8 ex_8 => ?_)
    subst hQ
    exact W.iret (v := x_8) hx hb hr (fun t1 ht hW => ⟨⟨x_8, (σ, I, J, ri, rj, rq), rfl, rfl, by rw [ht]; exact hP, va_K.moved hW.alike hK, hD⟩, hS.F ht⟩) hS.2.2 dX12_cellAt_14
  exact go _ _ _ hP hD hS hl

set_option maxHeartbeats 4000000 in
set_option maxRecDepth 100000 in
theorem s_X12_cellAt_c6 (l : Launch) (D : va_G) (t : pq_T) (σ : pq_S) (I : Nat → Nat → Int32) (J : Nat → Nat → Int64) (ri : Nat → Nat → Int32) (rj : Nat → Nat → Int64) (rq : Nat → Nat → Option Nat) (sz : Nat) (tg : Nat → Nat) (hSH : SH σ tg) (hG0 : GT tg I ri) (this : Nat) (a0 : Int32) (hL_this : this ∈ σ.1) (hK_this : σ.2.1 this = 12) (h_a0 : rg a0 0 39) : MetI l yX12_cellAt (wa yX12_cellAt cX12_cellAt 3 (some .int)) ({ frames := 0, cells := 0, slots := 0, locals := 0 }) [.ref this, .int a0, .int 6] D t σ (I, J, ri, rj, rq) sz 0 0 (fun (r : Int32) (u : pq_S × pq_M) => u = (σ, I, J, ri, rj, rq)) := by
  refine Met.ofW (cc := cX12_cellAt) (maxL := 3) (ret := (some .int)) (by decide) rfl ?_
  intro p e s m args below meth c s₁ B hml hv
  obtain ⟨rfl, hsz, hP, hK, hD0, hN⟩ := hv
  have hx := B.exec
  have hb := B.bytes
  have hr := B.returns
  have hts := atoms_spec (ws := (wa yX12_cellAt cX12_cellAt 3 (some .int))) B.pre
  have hown : s.vm.findClass RX12 = some m.cls := findClass_of_methodNamed B.named
  have hlocks := B.notSynchronized
  subst hsz
  have hD : va_D (pq_B t σ (I, J, ri, rj, rq) s.heap.size) (pq_P t σ (I, J, ri, rj, rq)) := hD0.self
  generalize hAe : pq_B t σ (I, J, ri, rj, rq) s.heap.size = A at hD ⊢
  have hA : ∀ q : Nat, s.heap.size ≤ q → A q := fun q h => by rw [← hAe]; exact Or.inr h
  have hS : va_S A s.heap s.heap [] := va_S.rf
  have hG : GM [] tg σ I ri I ri rq := ⟨hG0, fun _ _ _ => rfl, fun _ _ _ _ _ => rfl, fun _ _ _ _ _ _ => rfl⟩
  have hl := lv_entry ([.ref this, .int a0, .int 6]) (n := 3) (Nat.le_of_ble_eq_true rfl)
  rw [lg_entry_eq]
  generalize (lg_sl ([.ref this, .int a0, .int 6]) ++ List.replicate (3 - (lg_sl ([.ref this, .int a0, .int 6])).length) Slot.unset).toArray = ls at hl ⊢
  have hl : lv_has ls 3 [(0, .ref this), (1, .int a0), (2, .int 6)] := hl
  refine q_gen (fun Q hQ => ?_)
  have go : ∀ (H : Heap) (locs : List Loc) (ls : Array Slot), va_P D vwCl (pq_P t σ (I, J, ri, rj, rq)) H → va_D A (pq_P t σ (I, J, ri, rj, rq)) → va_S A s.heap H locs → lv_has ls 3 [(0, .ref this), (1, .int a0), (2, .int 6)] → W p l e ({ frames := 0, cells := 0, slots := 0, locals := 0 } : Room) s m (List.toArray ([.ref this, .int a0, .int 6] : List Value)) below meth c H locs 0 0 Q (F0 m 0 ls []) := by
    intro H locs ls hP hD hS hl
    refine lv_aload_n hx hb dX12_cellAt_0 rfl (lv_at hl 0 rfl) ?_
    obtain ⟨w_1, hR_w_1, hL_w_1, hK_w_1, hN_w_1, hT_w_1⟩ := sh_a hSH 384 (ci := 12) (kd := 13) (len := 12720) rfl (by decide) hL_this hK_this
    refine pg_f (v := .ref w_1) (C := RX12) (T := TX12) (N := 31) hx hb hts (tw_i inlX12) hown hK hP hL_this hK_this (by decide) rfl 0 (by decide) (hts _ (tw_c tw_176)) (pq_hv rfl hR_w_1) dX12_cellAt_1 ?_
    refine lv_bipush (v := 100) hx hb dX12_cellAt_4 (by decide) ?_
    refine lv_bipush (v := 16) hx hb dX12_cellAt_6 (by decide) ?_
    refine lv_iload_n hx hb dX12_cellAt_8 rfl (lv_at hl 1 rfl) ?_
    refine lv_imul hx hb dX12_cellAt_9 ?_
    refine lv_topi (fun x_2 ex_2 => ?_)
    have h_3 : rg x_2 0 624 := rg_of_eq ex_2 (rg_mul (rg_k (16 : Int32) 16 rfl) h_a0 (by decide))
    have uh_3 := h_3.1
    have vh_3 := h_3.2
    have tx_2 : (x_2).toInt = 16 * (a0).toInt := by rw [ex_2]; exact i_mul_rg (a2 := 16) (b2 := (a0).toInt) rfl rfl (rg_k (16 : Int32) 16 rfl) h_a0 (by decide)
    refine lv_iadd hx hb dX12_cellAt_10 ?_
    refine lv_topi (fun x_4 ex_4 => ?_)
    have h_5 : rg x_4 100 724 := rg_of_eq ex_4 (rg_add (rg_k (100 : Int32) 100 rfl) h_3 (by decide))
    have uh_5 := h_5.1
    have vh_5 := h_5.2
    have tx_4 : (x_4).toInt = 100 + (x_2).toInt := by rw [ex_4]; exact i_add_rg (a2 := 100) (b2 := (x_2).toInt) rfl rfl (rg_k (100 : Int32) 100 rfl) h_3 (by decide)
    refine lv_iload_n hx hb dX12_cellAt_11 rfl (lv_at hl 2 rfl) ?_
    refine lv_iadd hx hb dX12_cellAt_12 ?_
    refine lv_topi (fun x_6 ex_6 => ?_)
    have h_7 : rg x_6 106 730 := rg_of_eq ex_6 (rg_add h_5 (rg_k (6 : Int32) 6 rfl) (by decide))
    have uh_7 := h_7.1
    have vh_7 := h_7.2
    have tx_6 : (x_6).toInt = (x_4).toInt + 6 := by rw [ex_6]; exact i_add_rg (a2 := (x_4).toInt) (b2 := 6) rfl rfl h_5 (rg_k (6 : Int32) 6 rfl) (by decide)
    refine pl_i hx hb hK hP hL_w_1 hK_w_1 hN_w_1 (rg_in h_7 (by decide)) dX12_cellAt_13 ?_
    refine lv_topi (fun x_8 ex_8 => ?_)
    subst hQ
    exact W.iret (v := x_8) hx hb hr (fun t1 ht hW => ⟨⟨x_8, (σ, I, J, ri, rj, rq), rfl, rfl, by rw [ht]; exact hP, va_K.moved hW.alike hK, hD⟩, hS.F ht⟩) hS.2.2 dX12_cellAt_14
  exact go _ _ _ hP hD hS hl
