theorem dX12_fault_0 : decode cX12_fault 0 = .ok (.iload_n 1, 1) := oc_27 (by decide +kernel)
theorem dX12_fault_1 : decode cX12_fault 1 = .ok (.ifCond .ne 10, 3) := oc_154 (a := 0) (b := 10) (by decide +kernel)
theorem dX12_fault_11 : decode cX12_fault 11 = .ok (.iload_n 1, 1) := oc_27 (by decide +kernel)
theorem dX12_fault_12 : decode cX12_fault 12 = .ok (.iconst 1, 1) := oc_4 (by decide +kernel)
theorem dX12_fault_13 : decode cX12_fault 13 = .ok (.if_icmp .ne 10, 3) := oc_160 (a := 0) (b := 10) (by decide +kernel)
theorem dX12_fault_23 : decode cX12_fault 23 = .ok (.iconst (-1), 1) := oc_2 (by decide +kernel)
theorem dX12_fault_24 : decode cX12_fault 24 = .ok (.ireturn, 1) := oc_172 (by decide +kernel)
theorem dX12_fault_16 : decode cX12_fault 16 = .ok (.aload_n 0, 1) := oc_42 (by decide +kernel)
theorem dX12_fault_17 : decode cX12_fault 17 = .ok (.getfield 26, 3) := oc_180 (a := 0) (b := 26) (by decide +kernel)
theorem dX12_fault_20 : decode cX12_fault 20 = .ok (.goto 4, 3) := oc_167 (a := 0) (b := 4) (by decide +kernel)
theorem dX12_fault_4 : decode cX12_fault 4 = .ok (.aload_n 0, 1) := oc_42 (by decide +kernel)
theorem dX12_fault_5 : decode cX12_fault 5 = .ok (.getfield 22, 3) := oc_180 (a := 0) (b := 22) (by decide +kernel)
theorem dX12_fault_8 : decode cX12_fault 8 = .ok (.goto 16, 3) := oc_167 (a := 0) (b := 16) (by decide +kernel)
theorem dX12_force_0 : decode cX12_force 0 = .ok (.iload_n 1, 1) := oc_27 (by decide +kernel)
theorem dX12_force_1 : decode cX12_force 1 = .ok (.iconst 0, 1) := oc_3 (by decide +kernel)
theorem dX12_force_2 : decode cX12_force 2 = .ok (.aload_n 0, 1) := oc_42 (by decide +kernel)
theorem dX12_force_3 : decode cX12_force 3 = .ok (.getfield 7, 3) := oc_180 (a := 0) (b := 7) (by decide +kernel)
theorem dX12_force_6 : decode cX12_force 6 = .ok (.bipush 6, 2) := oc_16 (a := 6) (by decide +kernel)
theorem dX12_force_8 : decode cX12_force 8 = .ok (.iaload, 1) := oc_46 (by decide +kernel)
theorem dX12_force_9 : decode cX12_force 9 = .ok (.iconst 1, 1) := oc_4 (by decide +kernel)
theorem dX12_force_10 : decode cX12_force 10 = .ok (.isub, 1) := oc_100 (by decide +kernel)
theorem dX12_force_11 : decode cX12_force 11 = .ok (.invokestatic 62, 3) := oc_184 (a := 0) (b := 62) (by decide +kernel)
theorem dX12_force_56 : decode cX12_force 56 = .ok (.iconst (-1), 1) := oc_2 (by decide +kernel)
theorem dX12_force_57 : decode cX12_force 57 = .ok (.ireturn, 1) := oc_172 (by decide +kernel)
theorem dX12_force_14 : decode cX12_force 14 = .ok (.ifCond .eq 42, 3) := oc_153 (a := 0) (b := 42) (by decide +kernel)
theorem dX12_force_17 : decode cX12_force 17 = .ok (.iload_n 2, 1) := oc_28 (by decide +kernel)
theorem dX12_force_18 : decode cX12_force 18 = .ok (.aload_n 0, 1) := oc_42 (by decide +kernel)
theorem dX12_force_19 : decode cX12_force 19 = .ok (.getfield 7, 3) := oc_180 (a := 0) (b := 7) (by decide +kernel)
theorem dX12_force_22 : decode cX12_force 22 = .ok (.iconst 0, 1) := oc_3 (by decide +kernel)
theorem dX12_force_23 : decode cX12_force 23 = .ok (.iaload, 1) := oc_46 (by decide +kernel)
theorem dX12_force_24 : decode cX12_force 24 = .ok (.sipush 599, 3) := oc_17 (a := 2) (b := 87) (by decide +kernel)
theorem dX12_force_27 : decode cX12_force 27 = .ok (.invokestatic 62, 3) := oc_184 (a := 0) (b := 62) (by decide +kernel)
theorem dX12_force_30 : decode cX12_force 30 = .ok (.ifCond .eq 26, 3) := oc_153 (a := 0) (b := 26) (by decide +kernel)
theorem dX12_force_33 : decode cX12_force 33 = .ok (.iload_n 3, 1) := oc_29 (by decide +kernel)
theorem dX12_force_34 : decode cX12_force 34 = .ok (.iload_n 2, 1) := oc_28 (by decide +kernel)
theorem dX12_force_35 : decode cX12_force 35 = .ok (.sipush 599, 3) := oc_17 (a := 2) (b := 87) (by decide +kernel)
theorem dX12_force_38 : decode cX12_force 38 = .ok (.invokestatic 62, 3) := oc_184 (a := 0) (b := 62) (by decide +kernel)
theorem dX12_force_41 : decode cX12_force 41 = .ok (.ifCond .eq 15, 3) := oc_153 (a := 0) (b := 15) (by decide +kernel)
theorem dX12_force_44 : decode cX12_force 44 = .ok (.aload_n 0, 1) := oc_42 (by decide +kernel)
theorem dX12_force_45 : decode cX12_force 45 = .ok (.getfield 7, 3) := oc_180 (a := 0) (b := 7) (by decide +kernel)
theorem dX12_force_48 : decode cX12_force 48 = .ok (.bipush 7, 2) := oc_16 (a := 7) (by decide +kernel)
theorem dX12_force_50 : decode cX12_force 50 = .ok (.iaload, 1) := oc_46 (by decide +kernel)
theorem dX12_force_51 : decode cX12_force 51 = .ok (.bipush 30, 2) := oc_16 (a := 30) (by decide +kernel)
theorem dX12_force_53 : decode cX12_force 53 = .ok (.if_icmp .ne 5, 3) := oc_160 (a := 0) (b := 5) (by decide +kernel)
theorem dX12_force_58 : decode cX12_force 58 = .ok (.sipush 2220, 3) := oc_17 (a := 8) (b := 172) (by decide +kernel)
theorem dX12_force_61 : decode cX12_force 61 = .ok (.iconst 4, 1) := oc_7 (by decide +kernel)
theorem dX12_force_62 : decode cX12_force 62 = .ok (.aload_n 0, 1) := oc_42 (by decide +kernel)
theorem dX12_force_63 : decode cX12_force 63 = .ok (.getfield 7, 3) := oc_180 (a := 0) (b := 7) (by decide +kernel)
theorem dX12_force_66 : decode cX12_force 66 = .ok (.bipush 7, 2) := oc_16 (a := 7) (by decide +kernel)
theorem dX12_force_68 : decode cX12_force 68 = .ok (.iaload, 1) := oc_46 (by decide +kernel)
theorem dX12_force_69 : decode cX12_force 69 = .ok (.imul, 1) := oc_104 (by decide +kernel)
theorem dX12_force_70 : decode cX12_force 70 = .ok (.iadd, 1) := oc_96 (by decide +kernel)
theorem dX12_force_71 : decode cX12_force 71 = .ok (.istore 4, 2) := oc_54 (by decide +kernel)
theorem dX12_force_73 : decode cX12_force 73 = .ok (.aload_n 0, 1) := oc_42 (by decide +kernel)
theorem dX12_force_74 : decode cX12_force 74 = .ok (.getfield 7, 3) := oc_180 (a := 0) (b := 7) (by decide +kernel)
theorem dX12_force_77 : decode cX12_force 77 = .ok (.iload 4, 2) := oc_21 (by decide +kernel)
theorem dX12_force_79 : decode cX12_force 79 = .ok (.iload_n 1, 1) := oc_27 (by decide +kernel)
theorem dX12_force_80 : decode cX12_force 80 = .ok (.iastore, 1) := oc_79 (by decide +kernel)
theorem dX12_force_81 : decode cX12_force 81 = .ok (.aload_n 0, 1) := oc_42 (by decide +kernel)
theorem dX12_force_82 : decode cX12_force 82 = .ok (.getfield 7, 3) := oc_180 (a := 0) (b := 7) (by decide +kernel)
theorem dX12_force_85 : decode cX12_force 85 = .ok (.iload 4, 2) := oc_21 (by decide +kernel)
theorem dX12_force_87 : decode cX12_force 87 = .ok (.iconst 1, 1) := oc_4 (by decide +kernel)
theorem dX12_force_88 : decode cX12_force 88 = .ok (.iadd, 1) := oc_96 (by decide +kernel)
theorem dX12_force_89 : decode cX12_force 89 = .ok (.iload_n 2, 1) := oc_28 (by decide +kernel)
theorem dX12_force_90 : decode cX12_force 90 = .ok (.iastore, 1) := oc_79 (by decide +kernel)
theorem dX12_force_91 : decode cX12_force 91 = .ok (.aload_n 0, 1) := oc_42 (by decide +kernel)
theorem dX12_force_92 : decode cX12_force 92 = .ok (.getfield 7, 3) := oc_180 (a := 0) (b := 7) (by decide +kernel)
theorem dX12_force_95 : decode cX12_force 95 = .ok (.iload 4, 2) := oc_21 (by decide +kernel)
theorem dX12_force_97 : decode cX12_force 97 = .ok (.iconst 2, 1) := oc_5 (by decide +kernel)
theorem dX12_force_98 : decode cX12_force 98 = .ok (.iadd, 1) := oc_96 (by decide +kernel)
theorem dX12_force_99 : decode cX12_force 99 = .ok (.iload_n 3, 1) := oc_29 (by decide +kernel)
theorem dX12_force_100 : decode cX12_force 100 = .ok (.iastore, 1) := oc_79 (by decide +kernel)
theorem dX12_force_101 : decode cX12_force 101 = .ok (.aload_n 0, 1) := oc_42 (by decide +kernel)
theorem dX12_force_102 : decode cX12_force 102 = .ok (.getfield 7, 3) := oc_180 (a := 0) (b := 7) (by decide +kernel)
theorem dX12_force_105 : decode cX12_force 105 = .ok (.bipush 7, 2) := oc_16 (a := 7) (by decide +kernel)
theorem dX12_force_107 : decode cX12_force 107 = .ok (.dup2, 1) := oc_92 (by decide +kernel)
theorem dX12_force_108 : decode cX12_force 108 = .ok (.iaload, 1) := oc_46 (by decide +kernel)
theorem dX12_force_109 : decode cX12_force 109 = .ok (.iconst 1, 1) := oc_4 (by decide +kernel)
theorem dX12_force_110 : decode cX12_force 110 = .ok (.iadd, 1) := oc_96 (by decide +kernel)
theorem dX12_force_111 : decode cX12_force 111 = .ok (.iastore, 1) := oc_79 (by decide +kernel)
theorem dX12_force_112 : decode cX12_force 112 = .ok (.aload_n 0, 1) := oc_42 (by decide +kernel)
theorem dX12_force_113 : decode cX12_force 113 = .ok (.getfield 7, 3) := oc_180 (a := 0) (b := 7) (by decide +kernel)
theorem dX12_force_116 : decode cX12_force 116 = .ok (.bipush 7, 2) := oc_16 (a := 7) (by decide +kernel)
theorem dX12_force_118 : decode cX12_force 118 = .ok (.iaload, 1) := oc_46 (by decide +kernel)
theorem dX12_force_119 : decode cX12_force 119 = .ok (.iconst 1, 1) := oc_4 (by decide +kernel)
theorem dX12_force_120 : decode cX12_force 120 = .ok (.isub, 1) := oc_100 (by decide +kernel)
theorem dX12_force_121 : decode cX12_force 121 = .ok (.ireturn, 1) := oc_172 (by decide +kernel)
theorem dX12_numberOf_0 : decode cX12_numberOf 0 = .ok (.aload_n 0, 1) := oc_42 (by decide +kernel)
theorem dX12_numberOf_1 : decode cX12_numberOf 1 = .ok (.iload_n 1, 1) := oc_27 (by decide +kernel)
theorem dX12_numberOf_2 : decode cX12_numberOf 2 = .ok (.iload_n 2, 1) := oc_28 (by decide +kernel)
theorem dX12_numberOf_3 : decode cX12_numberOf 3 = .ok (.invokevirtual 275, 3) := oc_182 (a := 1) (b := 19) (by decide +kernel)
theorem dX12_numberOf_6 : decode cX12_numberOf 6 = .ok (.istore 4, 2) := oc_54 (by decide +kernel)
theorem dX12_numberOf_8 : decode cX12_numberOf 8 = .ok (.iload 4, 2) := oc_21 (by decide +kernel)
theorem dX12_numberOf_10 : decode cX12_numberOf 10 = .ok (.ifCond .ge 7, 3) := oc_156 (a := 0) (b := 7) (by decide +kernel)
theorem dX12_numberOf_17 : decode cX12_numberOf 17 = .ok (.aload_n 0, 1) := oc_42 (by decide +kernel)
theorem dX12_numberOf_18 : decode cX12_numberOf 18 = .ok (.getfield 7, 3) := oc_180 (a := 0) (b := 7) (by decide +kernel)
theorem dX12_numberOf_21 : decode cX12_numberOf 21 = .ok (.aload_n 0, 1) := oc_42 (by decide +kernel)
theorem dX12_numberOf_22 : decode cX12_numberOf 22 = .ok (.iload 4, 2) := oc_21 (by decide +kernel)
theorem dX12_numberOf_24 : decode cX12_numberOf 24 = .ok (.iload_n 1, 1) := oc_27 (by decide +kernel)
theorem dX12_numberOf_25 : decode cX12_numberOf 25 = .ok (.invokevirtual 272, 3) := oc_182 (a := 1) (b := 16) (by decide +kernel)
theorem dX12_numberOf_28 : decode cX12_numberOf 28 = .ok (.iconst 1, 1) := oc_4 (by decide +kernel)
theorem dX12_numberOf_29 : decode cX12_numberOf 29 = .ok (.iadd, 1) := oc_96 (by decide +kernel)
theorem dX12_numberOf_30 : decode cX12_numberOf 30 = .ok (.iaload, 1) := oc_46 (by decide +kernel)
theorem dX12_numberOf_31 : decode cX12_numberOf 31 = .ok (.ireturn, 1) := oc_172 (by decide +kernel)
theorem dX12_numberOf_13 : decode cX12_numberOf 13 = .ok (.iload_n 3, 1) := oc_29 (by decide +kernel)
theorem dX12_numberOf_14 : decode cX12_numberOf 14 = .ok (.goto 17, 3) := oc_167 (a := 0) (b := 17) (by decide +kernel)
theorem dX12_isFor_0 : decode cX12_isFor 0 = .ok (.aload_n 0, 1) := oc_42 (by decide +kernel)
theorem dX12_isFor_1 : decode cX12_isFor 1 = .ok (.iload_n 1, 1) := oc_27 (by decide +kernel)
theorem dX12_isFor_2 : decode cX12_isFor 2 = .ok (.iload_n 3, 1) := oc_29 (by decide +kernel)
theorem dX12_isFor_3 : decode cX12_isFor 3 = .ok (.invokevirtual 275, 3) := oc_182 (a := 1) (b := 19) (by decide +kernel)
theorem dX12_isFor_6 : decode cX12_isFor 6 = .ok (.ifCond .lt 14, 3) := oc_155 (a := 0) (b := 14) (by decide +kernel)
theorem dX12_isFor_20 : decode cX12_isFor 20 = .ok (.iconst 1, 1) := oc_4 (by decide +kernel)
theorem dX12_isFor_21 : decode cX12_isFor 21 = .ok (.goto 4, 3) := oc_167 (a := 0) (b := 4) (by decide +kernel)
theorem dX12_isFor_25 : decode cX12_isFor 25 = .ok (.ireturn, 1) := oc_172 (by decide +kernel)
theorem dX12_isFor_9 : decode cX12_isFor 9 = .ok (.aload_n 0, 1) := oc_42 (by decide +kernel)
theorem dX12_isFor_10 : decode cX12_isFor 10 = .ok (.iload_n 1, 1) := oc_27 (by decide +kernel)
theorem dX12_isFor_11 : decode cX12_isFor 11 = .ok (.iload_n 2, 1) := oc_28 (by decide +kernel)
theorem dX12_isFor_12 : decode cX12_isFor 12 = .ok (.iload_n 3, 1) := oc_29 (by decide +kernel)
theorem dX12_isFor_13 : decode cX12_isFor 13 = .ok (.iconst 0, 1) := oc_3 (by decide +kernel)
theorem dX12_isFor_14 : decode cX12_isFor 14 = .ok (.invokevirtual 120, 3) := oc_182 (a := 0) (b := 120) (by decide +kernel)
theorem dX12_isFor_17 : decode cX12_isFor 17 = .ok (.ifCond .lt 7, 3) := oc_155 (a := 0) (b := 7) (by decide +kernel)
theorem dX12_isFor_24 : decode cX12_isFor 24 = .ok (.iconst 0, 1) := oc_3 (by decide +kernel)
theorem dX12_is_0 : decode cX12_is 0 = .ok (.iload_n 1, 1) := oc_27 (by decide +kernel)
theorem dX12_is_1 : decode cX12_is 1 = .ok (.iconst 0, 1) := oc_3 (by decide +kernel)
theorem dX12_is_2 : decode cX12_is 2 = .ok (.iconst 2, 1) := oc_5 (by decide +kernel)
theorem dX12_is_3 : decode cX12_is 3 = .ok (.invokestatic 62, 3) := oc_184 (a := 0) (b := 62) (by decide +kernel)
theorem dX12_is_44 : decode cX12_is 44 = .ok (.iconst (-1), 1) := oc_2 (by decide +kernel)
theorem dX12_is_45 : decode cX12_is 45 = .ok (.ireturn, 1) := oc_172 (by decide +kernel)
theorem dX12_is_6 : decode cX12_is 6 = .ok (.ifCond .eq 38, 3) := oc_153 (a := 0) (b := 38) (by decide +kernel)
theorem dX12_is_9 : decode cX12_is 9 = .ok (.aload_n 0, 1) := oc_42 (by decide +kernel)
theorem dX12_is_10 : decode cX12_is 10 = .ok (.iload_n 2, 1) := oc_28 (by decide +kernel)
theorem dX12_is_11 : decode cX12_is 11 = .ok (.invokevirtual 104, 3) := oc_182 (a := 0) (b := 104) (by decide +kernel)
theorem dX12_is_14 : decode cX12_is 14 = .ok (.ifCond .eq 30, 3) := oc_153 (a := 0) (b := 30) (by decide +kernel)
theorem dX12_is_17 : decode cX12_is 17 = .ok (.iload_n 3, 1) := oc_29 (by decide +kernel)
theorem dX12_is_18 : decode cX12_is 18 = .ok (.invokestatic 73, 3) := oc_184 (a := 0) (b := 73) (by decide +kernel)
theorem dX12_is_21 : decode cX12_is 21 = .ok (.ifCond .eq 23, 3) := oc_153 (a := 0) (b := 23) (by decide +kernel)
theorem dX12_is_24 : decode cX12_is 24 = .ok (.aload_n 0, 1) := oc_42 (by decide +kernel)
theorem dX12_is_25 : decode cX12_is 25 = .ok (.iconst 2, 1) := oc_5 (by decide +kernel)
theorem dX12_is_26 : decode cX12_is 26 = .ok (.iload_n 1, 1) := oc_27 (by decide +kernel)
theorem dX12_is_27 : decode cX12_is 27 = .ok (.iadd, 1) := oc_96 (by decide +kernel)
theorem dX12_is_28 : decode cX12_is 28 = .ok (.iload_n 2, 1) := oc_28 (by decide +kernel)
theorem dX12_is_29 : decode cX12_is 29 = .ok (.iload_n 3, 1) := oc_29 (by decide +kernel)
theorem tw_971 : Cond.methodLink RX12 301 yX12_isFor ∈ wsL_law := sg_41 _ (List.mem_of_getElem? (i := 11) rfl)
theorem tw_972 : Cond.instanceMethod yX12_isFor ∈ wsL_law := sg_41 _ (List.mem_of_getElem? (i := 12) rfl)
theorem tw_973 : Cond.selects RX12 yX12_isFor yX12_isFor ∈ wsL_law := sg_41 _ (List.mem_of_getElem? (i := 13) rfl)
theorem tw_974 : Cond.code yX12_isFor cX12_isFor 4 (some .boolean) ∈ wsL_law := sg_41 _ (List.mem_of_getElem? (i := 14) rfl)
theorem dX12_is_30 : decode cX12_is 30 = .ok (.invokevirtual 301, 3) := oc_182 (a := 1) (b := 45) (by decide +kernel)
theorem dX12_is_33 : decode cX12_is 33 = .ok (.ifCond .eq 7, 3) := oc_153 (a := 0) (b := 7) (by decide +kernel)
theorem dX12_is_40 : decode cX12_is 40 = .ok (.iconst 0, 1) := oc_3 (by decide +kernel)
theorem dX12_is_41 : decode cX12_is 41 = .ok (.goto 4, 3) := oc_167 (a := 0) (b := 4) (by decide +kernel)
theorem dX12_is_36 : decode cX12_is 36 = .ok (.iconst 1, 1) := oc_4 (by decide +kernel)
theorem dX12_is_37 : decode cX12_is 37 = .ok (.goto 8, 3) := oc_167 (a := 0) (b := 8) (by decide +kernel)
theorem dX12_why_0 : decode cX12_why 0 = .ok (.iload_n 1, 1) := oc_27 (by decide +kernel)
theorem dX12_why_1 : decode cX12_why 1 = .ok (.iconst 0, 1) := oc_3 (by decide +kernel)
theorem dX12_why_2 : decode cX12_why 2 = .ok (.iconst 2, 1) := oc_5 (by decide +kernel)
theorem dX12_why_3 : decode cX12_why 3 = .ok (.invokestatic 62, 3) := oc_184 (a := 0) (b := 62) (by decide +kernel)
theorem dX12_why_37 : decode cX12_why 37 = .ok (.iconst (-1), 1) := oc_2 (by decide +kernel)
theorem dX12_why_38 : decode cX12_why 38 = .ok (.ireturn, 1) := oc_172 (by decide +kernel)
theorem dX12_why_6 : decode cX12_why 6 = .ok (.ifCond .eq 31, 3) := oc_153 (a := 0) (b := 31) (by decide +kernel)
theorem dX12_why_9 : decode cX12_why 9 = .ok (.aload_n 0, 1) := oc_42 (by decide +kernel)
theorem dX12_why_10 : decode cX12_why 10 = .ok (.iload_n 2, 1) := oc_28 (by decide +kernel)
theorem dX12_why_11 : decode cX12_why 11 = .ok (.invokevirtual 104, 3) := oc_182 (a := 0) (b := 104) (by decide +kernel)
theorem dX12_why_14 : decode cX12_why 14 = .ok (.ifCond .eq 23, 3) := oc_153 (a := 0) (b := 23) (by decide +kernel)
theorem dX12_why_17 : decode cX12_why 17 = .ok (.iload_n 3, 1) := oc_29 (by decide +kernel)
theorem dX12_why_18 : decode cX12_why 18 = .ok (.invokestatic 73, 3) := oc_184 (a := 0) (b := 73) (by decide +kernel)
theorem dX12_why_21 : decode cX12_why 21 = .ok (.ifCond .eq 16, 3) := oc_153 (a := 0) (b := 16) (by decide +kernel)
theorem dX12_why_24 : decode cX12_why 24 = .ok (.aload_n 0, 1) := oc_42 (by decide +kernel)
theorem dX12_why_25 : decode cX12_why 25 = .ok (.iconst 2, 1) := oc_5 (by decide +kernel)
theorem dX12_why_26 : decode cX12_why 26 = .ok (.iload_n 1, 1) := oc_27 (by decide +kernel)
theorem dX12_why_27 : decode cX12_why 27 = .ok (.iadd, 1) := oc_96 (by decide +kernel)
theorem dX12_why_28 : decode cX12_why 28 = .ok (.iload_n 2, 1) := oc_28 (by decide +kernel)
theorem dX12_why_29 : decode cX12_why 29 = .ok (.iload_n 3, 1) := oc_29 (by decide +kernel)
theorem dX12_why_30 : decode cX12_why 30 = .ok (.iconst 0, 1) := oc_3 (by decide +kernel)
theorem dX12_why_31 : decode cX12_why 31 = .ok (.invokevirtual 120, 3) := oc_182 (a := 0) (b := 120) (by decide +kernel)
theorem dX12_why_34 : decode cX12_why 34 = .ok (.goto 4, 3) := oc_167 (a := 0) (b := 4) (by decide +kernel)
set_option maxRecDepth 100000 in
def g_X12_fault (a0 : Int32) (I : Nat → Int32) (J : Nat → Int64) (ri : Nat → Nat → Int32) (rj : Nat → Nat → Int64) (rq : Nat → Nat → Option Nat) : Int32 × vM := (if a0 = (0 : Int32) then (ap1 (I 389) fun (y_16 : Int32) => ((y_16), I, J, ri, rj, rq)) else (if a0 = (1 : Int32) then (ap1 (I 390) fun (y_13 : Int32) => ((y_13), I, J, ri, rj, rq)) else ((-1 : Int32), I, J, ri, rj, rq)))
set_option maxRecDepth 100000 in
theorem g_X12_fault_e {a0 : Int32} {I : Nat → Int32} {J : Nat → Int64} {ri : Nat → Nat → Int32} {rj : Nat → Nat → Int64} {rq : Nat → Nat → Option Nat} : g_X12_fault a0 I J ri rj rq = (if a0 = (0 : Int32) then (ap1 (I 389) fun (y_16 : Int32) => ((y_16), I, J, ri, rj, rq)) else (if a0 = (1 : Int32) then (ap1 (I 390) fun (y_13 : Int32) => ((y_13), I, J, ri, rj, rq)) else ((-1 : Int32), I, J, ri, rj, rq))) := rfl
set_option maxHeartbeats 4000000 in
set_option maxRecDepth 100000 in
theorem s_X12_fault (l : Launch) (D : va_G) (t : pq_T) (σ : pq_S) (I : Nat → Nat → Int32) (J : Nat → Nat → Int64) (ri : Nat → Nat → Int32) (rj : Nat → Nat → Int64) (rq : Nat → Nat → Option Nat) (sz : Nat) (tg : Nat → Nat) (hSH : SH σ tg) (hG0 : GT tg I ri) (this : Nat) (a0 : Int32) (hL_this : this ∈ σ.1) (hK_this : σ.2.1 this = 12) : MetI l yX12_fault (wa yX12_fault cX12_fault 2 (some .int)) ({ frames := 0, cells := 0, slots := 0, locals := 0 }) [.ref this, .int a0] D t σ (I, J, ri, rj, rq) sz 0 0 (fun (r : Int32) (u : pq_S × pq_M) => u = (σ, I, J, ri, rj, rq) ∧ g_X12_fault a0 (vI 12 σ this I) (vJ 12 σ this J) (vR 12 σ this ri) (vL 12 σ this rj) (vQ 12 σ this rq) = (r, (vI 12 σ this I), (vJ 12 σ this J), (vR 12 σ this ri), (vL 12 σ this rj), (vQ 12 σ this rq))) := by
  refine Met.ofW (cc := cX12_fault) (maxL := 2) (ret := (some .int)) (by decide +kernel) rfl ?_
  intro p e s m args below meth c s₁ B hml hv
  obtain ⟨rfl, hsz, hP, hK, hD0, hN⟩ := hv
  have hx := B.exec
  have hb := B.bytes
  have hr := B.returns
  have hts := atoms_spec (ws := (wa yX12_fault cX12_fault 2 (some .int))) B.pre
  have hown : s.vm.findClass RX12 = some m.cls := findClass_of_methodNamed B.named
  have hlocks := B.notSynchronized
  subst hsz
  have hD : va_D (pq_B t σ (I, J, ri, rj, rq) s.heap.size) (pq_P t σ (I, J, ri, rj, rq)) := hD0.self
  generalize hAe : pq_B t σ (I, J, ri, rj, rq) s.heap.size = A at hD ⊢
  have hA : ∀ q : Nat, s.heap.size ≤ q → A q := fun q h => by rw [← hAe]; exact Or.inr h
  have hS : va_S A s.heap s.heap [] := va_S.rf
  have hG : GM [] tg σ I ri I ri rq := ⟨hG0, fun _ _ _ => rfl, fun _ _ _ _ _ => rfl, fun _ _ _ _ _ _ => rfl⟩
  have hl := lv_entry ([.ref this, .int a0]) (n := 2) (Nat.le_of_ble_eq_true rfl)
  rw [lg_entry_eq]
  generalize (lg_sl ([.ref this, .int a0]) ++ List.replicate (2 - (lg_sl ([.ref this, .int a0])).length) Slot.unset).toArray = ls at hl ⊢
  have hl : lv_has ls 2 [(0, .ref this), (1, .int a0)] := hl
  refine q_gen (fun Q hQ => ?_)
  have go : ∀ (H : Heap) (locs : List Loc) (ls : Array Slot), va_P D vwCl (pq_P t σ (I, J, ri, rj, rq)) H → va_D A (pq_P t σ (I, J, ri, rj, rq)) → va_S A s.heap H locs → lv_has ls 2 [(0, .ref this), (1, .int a0)] → W p l e ({ frames := 0, cells := 0, slots := 0, locals := 0 } : Room) s m (List.toArray ([.ref this, .int a0] : List Value)) below meth c H locs 0 0 Q (F0 m 0 ls []) := by
    intro H locs ls hP hD hS hl
    have hO_this : this = vo σ 12 this := rfl
    have hVT : VT 12 σ tg this := vt_12 hSH hL_this hK_this
    have hFr : FR 12 tg σ this (I, J, ri, rj, rq) (I, J, ri, rj, rq) := fr_rf
    obtain ⟨F, hF0⟩ : ∃ F, F = g_X12_fault a0 (vI 12 σ this I) (vJ 12 σ this J) (vR 12 σ this ri) (vL 12 σ this rj) (vQ 12 σ this rq) := ⟨_, rfl⟩
    have hF := hF0.trans g_X12_fault_e
    refine lv_iload_n hx hb dX12_fault_0 rfl (lv_at hl 1 rfl) ?_
    refine lv_if_ne (tgt := 11) hx hb dX12_fault_1 (by decide +kernel) (fun c_1 => ?_) (fun c_1 => ?_)
    · replace hF := hF.trans (if_neg c_1)
      have tc_5 : (a0).toInt ≠ 0 := fun q => c_1 (Int32.toInt_inj.mp q)
      refine lv_iload_n hx hb dX12_fault_11 rfl (lv_at hl 1 rfl) ?_
      refine lv_iconst (v := 1) hx hb dX12_fault_12 (by decide +kernel) ?_
      refine lv_icmp_ne (tgt := 23) hx hb dX12_fault_13 (by decide +kernel) (fun c_6 => ?_) (fun c_6 => ?_)
      · replace hF := hF.trans (if_neg c_6)
        have tc_10 : (a0).toInt ≠ 1 := fun q => c_6 (Int32.toInt_inj.mp q)
        refine lv_iconst (v := (-1)) hx hb dX12_fault_23 (by decide +kernel) ?_
        subst hQ
        exact W.iret (v := (-1)) hx hb hr (fun t1 ht hW => ⟨⟨(-1), (σ, I, J, ri, rj, rq), rfl, ⟨rfl, (hF0.symm.trans hF)⟩, by rw [ht]; exact hP, va_K.moved hW.alike hK, hD⟩, hS.F ht⟩) hS.2.2 dX12_fault_24
      · replace hF := hF.trans (if_pos c_6)
        have tc_11 : (a0).toInt = 1 := congrArg Int32.toInt c_6
        have h_12 : rg a0 1 1 := rg_and (rg_full _) (rg_of_eq c_6 (rg_k (1 : Int32) 1 rfl)) (by decide +kernel)
        have uh_12 := h_12.1
        have vh_12 := h_12.2
        refine lv_aload_n hx hb dX12_fault_16 rfl (lv_at hl 0 rfl) ?_
        refine pg_f (v := .int (I 390 this)) (C := RX12) (T := TX12) (N := 31) hx hb hts (tw_i inlX12) hown hK hP hL_this hK_this (by decide +kernel) rfl 6 (by decide +kernel) (hts _ (tw_c tw_181)) rfl dX12_fault_17 ?_
        replace hF := hF.trans (ap_n (vI_e (f := 390) hO_this (by decide +kernel)))
        refine lv_goto (tgt := 24) hx hb dX12_fault_20 (by decide +kernel) ?_
        subst hQ
        exact W.iret (v := (I 390 this)) hx hb hr (fun t1 ht hW => ⟨⟨(I 390 this), (σ, I, J, ri, rj, rq), rfl, ⟨rfl, (hF0.symm.trans hF)⟩, by rw [ht]; exact hP, va_K.moved hW.alike hK, hD⟩, hS.F ht⟩) hS.2.2 dX12_fault_24
    · replace hF := hF.trans (if_pos c_1)
      have tc_14 : (a0).toInt = 0 := congrArg Int32.toInt c_1
      have h_15 : rg a0 0 0 := rg_and (rg_full _) (rg_of_eq c_1 (rg_k (0 : Int32) 0 rfl)) (by decide +kernel)
      have uh_15 := h_15.1
      have vh_15 := h_15.2
      refine lv_aload_n hx hb dX12_fault_4 rfl (lv_at hl 0 rfl) ?_
      refine pg_f (v := .int (I 389 this)) (C := RX12) (T := TX12) (N := 31) hx hb hts (tw_i inlX12) hown hK hP hL_this hK_this (by decide +kernel) rfl 5 (by decide +kernel) (hts _ (tw_c tw_180)) rfl dX12_fault_5 ?_
      replace hF := hF.trans (ap_n (vI_e (f := 389) hO_this (by decide +kernel)))
      refine lv_goto (tgt := 24) hx hb dX12_fault_8 (by decide +kernel) ?_
      subst hQ
      exact W.iret (v := (I 389 this)) hx hb hr (fun t1 ht hW => ⟨⟨(I 389 this), (σ, I, J, ri, rj, rq), rfl, ⟨rfl, (hF0.symm.trans hF)⟩, by rw [ht]; exact hP, va_K.moved hW.alike hK, hD⟩, hS.F ht⟩) hS.2.2 dX12_fault_24
  exact go _ _ _ hP hD hS hl

set_option maxRecDepth 100000 in
def g_X12_force_K56 (I : Nat → Int32) (J : Nat → Int64) (ri : Nat → Nat → Int32) (rj : Nat → Nat → Int64) (rq : Nat → Nat → Option Nat) : Int32 × vM := ((-1 : Int32), I, J, ri, rj, rq)
set_option maxRecDepth 100000 in
theorem g_X12_force_K56_e {I : Nat → Int32} {J : Nat → Int64} {ri : Nat → Nat → Int32} {rj : Nat → Nat → Int64} {rq : Nat → Nat → Option Nat} : g_X12_force_K56 I J ri rj rq  = ((-1 : Int32), I, J, ri, rj, rq) := rfl
set_option maxRecDepth 100000 in
def g_X12_force (a0 : Int32) (a1 : Int32) (a2 : Int32) (I : Nat → Int32) (J : Nat → Int64) (ri : Nat → Nat → Int32) (rj : Nat → Nat → Int64) (rq : Nat → Nat → Option Nat) : Int32 × vM := (ap1 (ri 384 6) fun (y_3 : Int32) => (ap1 ((y_3) - (1 : Int32)) fun (x_4 : Int32) => (ap1 (g_X12_isIn a0 (0 : Int32) x_4) fun (x_6 : Int32) => (if x_6 = (0 : Int32) then (g_X12_force_K56 I J ri rj rq ) else (ap1 (ri 384 0) fun (y_123 : Int32) => (ap1 (g_X12_isIn a1 (y_123) (599 : Int32)) fun (x_124 : Int32) => (if x_124 = (0 : Int32) then (g_X12_force_K56 I J ri rj rq ) else (ap1 (g_X12_isIn a2 a1 (599 : Int32)) fun (x_155 : Int32) => (if x_155 = (0 : Int32) then (g_X12_force_K56 I J ri rj rq ) else (ap1 (ri 384 ((7 : Int32)).toNatClampNeg) fun (x_186 : Int32) => (if x_186 = (30 : Int32) then (g_X12_force_K56 I J ri rj rq ) else (ap1 ((4 : Int32) * x_186) fun (x_195 : Int32) => (ap1 ((2220 : Int32) + x_195) fun (x_197 : Int32) => (ap1 (va_up ri 384 (upd (ri 384) (x_197).toNatClampNeg a0)) fun (r_199 : Nat → Nat → Int32) => (ap1 (x_197 + (1 : Int32)) fun (x_201 : Int32) => (ap1 (va_up r_199 384 (upd (r_199 384) (x_201).toNatClampNeg a1)) fun (r_203 : Nat → Nat → Int32) => (ap1 (x_197 + (2 : Int32)) fun (x_205 : Int32) => (ap1 (va_up r_203 384 (upd (r_203 384) (x_205).toNatClampNeg a2)) fun (r_207 : Nat → Nat → Int32) => (ap1 (x_186 + (1 : Int32)) fun (x_209 : Int32) => (ap1 (va_up r_207 384 (upd (r_207 384) ((7 : Int32)).toNatClampNeg x_209)) fun (r_211 : Nat → Nat → Int32) => (ap1 (x_209 - (1 : Int32)) fun (x_213 : Int32) => (x_213, I, J, r_211, rj, rq))))))))))))))))))))))
set_option maxRecDepth 100000 in
theorem g_X12_force_e {a0 : Int32} {a1 : Int32} {a2 : Int32} {I : Nat → Int32} {J : Nat → Int64} {ri : Nat → Nat → Int32} {rj : Nat → Nat → Int64} {rq : Nat → Nat → Option Nat} : g_X12_force a0 a1 a2 I J ri rj rq = (ap1 (ri 384 6) fun (y_3 : Int32) => (ap1 ((y_3) - (1 : Int32)) fun (x_4 : Int32) => (ap1 (g_X12_isIn a0 (0 : Int32) x_4) fun (x_6 : Int32) => (if x_6 = (0 : Int32) then (g_X12_force_K56 I J ri rj rq ) else (ap1 (ri 384 0) fun (y_123 : Int32) => (ap1 (g_X12_isIn a1 (y_123) (599 : Int32)) fun (x_124 : Int32) => (if x_124 = (0 : Int32) then (g_X12_force_K56 I J ri rj rq ) else (ap1 (g_X12_isIn a2 a1 (599 : Int32)) fun (x_155 : Int32) => (if x_155 = (0 : Int32) then (g_X12_force_K56 I J ri rj rq ) else (ap1 (ri 384 ((7 : Int32)).toNatClampNeg) fun (x_186 : Int32) => (if x_186 = (30 : Int32) then (g_X12_force_K56 I J ri rj rq ) else (ap1 ((4 : Int32) * x_186) fun (x_195 : Int32) => (ap1 ((2220 : Int32) + x_195) fun (x_197 : Int32) => (ap1 (va_up ri 384 (upd (ri 384) (x_197).toNatClampNeg a0)) fun (r_199 : Nat → Nat → Int32) => (ap1 (x_197 + (1 : Int32)) fun (x_201 : Int32) => (ap1 (va_up r_199 384 (upd (r_199 384) (x_201).toNatClampNeg a1)) fun (r_203 : Nat → Nat → Int32) => (ap1 (x_197 + (2 : Int32)) fun (x_205 : Int32) => (ap1 (va_up r_203 384 (upd (r_203 384) (x_205).toNatClampNeg a2)) fun (r_207 : Nat → Nat → Int32) => (ap1 (x_186 + (1 : Int32)) fun (x_209 : Int32) => (ap1 (va_up r_207 384 (upd (r_207 384) ((7 : Int32)).toNatClampNeg x_209)) fun (r_211 : Nat → Nat → Int32) => (ap1 (x_209 - (1 : Int32)) fun (x_213 : Int32) => (x_213, I, J, r_211, rj, rq)))))))))))))))))))))) := rfl
set_option maxHeartbeats 4000000 in
set_option maxRecDepth 100000 in
theorem s_X12_force (l : Launch) (D : va_G) (t : pq_T) (σ : pq_S) (I : Nat → Nat → Int32) (J : Nat → Nat → Int64) (ri : Nat → Nat → Int32) (rj : Nat → Nat → Int64) (rq : Nat → Nat → Option Nat) (sz : Nat) (tg : Nat → Nat) (hSH : SH σ tg) (hG0 : GT tg I ri) (this : Nat) (a0 : Int32) (a1 : Int32) (a2 : Int32) (hL_this : this ∈ σ.1) (hK_this : σ.2.1 this = 12) : MetI l yX12_force (wa yX12_force cX12_force 5 (some .int)) ({ frames := 1, cells := 0, slots := 0, locals := 22 }) [.ref this, .int a0, .int a1, .int a2] D t σ (I, J, ri, rj, rq) sz 0 0 (fun (r : Int32) (u : pq_S × pq_M) => ∃ ri' : Nat → Nat → Int32, u = (σ, I, J, ri', rj, rq) ∧ GM [1007] tg σ I ri I ri' rq ∧ g_X12_force a0 a1 a2 (vI 12 σ this I) (vJ 12 σ this J) (vR 12 σ this ri) (vL 12 σ this rj) (vQ 12 σ this rq) = (r, (vI 12 σ this I), (vJ 12 σ this J), (vR 12 σ this ri'), (vL 12 σ this rj), (vQ 12 σ this rq)) ∧ FR 12 tg σ this (I, J, ri, rj, rq) (I, J, ri', rj, rq) ∧ rg r (-1) 29) := by
  refine Met.ofW (cc := cX12_force) (maxL := 5) (ret := (some .int)) (by decide +kernel) rfl ?_
  intro p e s m args below meth c s₁ B hml hv
  obtain ⟨rfl, hsz, hP, hK, hD0, hN⟩ := hv
  have hx := B.exec
  have hb := B.bytes
  have hr := B.returns
  have hts := atoms_spec (ws := (wa yX12_force cX12_force 5 (some .int))) B.pre
  have hown : s.vm.findClass RX12 = some m.cls := findClass_of_methodNamed B.named
  have hlocks := B.notSynchronized
  subst hsz
  have hD : va_D (pq_B t σ (I, J, ri, rj, rq) s.heap.size) (pq_P t σ (I, J, ri, rj, rq)) := hD0.self
  generalize hAe : pq_B t σ (I, J, ri, rj, rq) s.heap.size = A at hD ⊢
  have hA : ∀ q : Nat, s.heap.size ≤ q → A q := fun q h => by rw [← hAe]; exact Or.inr h
  have hS : va_S A s.heap s.heap [] := va_S.rf
  have hG : GM [1007] tg σ I ri I ri rq := ⟨hG0, fun _ _ _ => rfl, fun _ _ _ _ _ => rfl, fun _ _ _ _ _ _ => rfl⟩
  have hl := lv_entry ([.ref this, .int a0, .int a1, .int a2]) (n := 5) (Nat.le_of_ble_eq_true rfl)
  rw [lg_entry_eq]
  generalize (lg_sl ([.ref this, .int a0, .int a1, .int a2]) ++ List.replicate (5 - (lg_sl ([.ref this, .int a0, .int a1, .int a2])).length) Slot.unset).toArray = ls at hl ⊢
  have hl : lv_has ls 5 [(0, .ref this), (1, .int a0), (2, .int a1), (3, .int a2)] := hl
  refine q_gen (fun Q hQ => ?_)
  have go : ∀ (H : Heap) (locs : List Loc) (ls : Array Slot), va_P D vwCl (pq_P t σ (I, J, ri, rj, rq)) H → va_D A (pq_P t σ (I, J, ri, rj, rq)) → va_S A s.heap H locs → lv_has ls 5 [(0, .ref this), (1, .int a0), (2, .int a1), (3, .int a2)] → W p l e ({ frames := 1, cells := 0, slots := 0, locals := 22 } : Room) s m (List.toArray ([.ref this, .int a0, .int a1, .int a2] : List Value)) below meth c H locs 0 0 Q (F0 m 0 ls []) := by
    intro H locs ls hP hD hS hl
    have hO_this : this = vo σ 12 this := rfl
    have hVT : VT 12 σ tg this := vt_12 hSH hL_this hK_this
    have hFr : FR 12 tg σ this (I, J, ri, rj, rq) (I, J, ri, rj, rq) := fr_rf
    obtain ⟨F, hF0⟩ : ∃ F, F = g_X12_force a0 a1 a2 (vI 12 σ this I) (vJ 12 σ this J) (vR 12 σ this ri) (vL 12 σ this rj) (vQ 12 σ this rq) := ⟨_, rfl⟩
    have hF := hF0.trans g_X12_force_e
    refine lv_iload_n hx hb dX12_force_0 rfl (lv_at hl 1 rfl) ?_
    refine lv_iconst (v := 0) hx hb dX12_force_1 (by decide +kernel) ?_
    refine lv_aload_n hx hb dX12_force_2 rfl (lv_at hl 0 rfl) ?_
    obtain ⟨w_1, hR_w_1, hL_w_1, hK_w_1, hN_w_1, hT_w_1⟩ := sh_a hSH 384 (ci := 12) (kd := 13) (len := 12720) rfl (by decide +kernel) hL_this hK_this
    have hO_w_1 : w_1 = vrow σ 384 this := vo_k (c := 12) hO_this hR_w_1
    refine pg_f (v := .ref w_1) (C := RX12) (T := TX12) (N := 31) hx hb hts (tw_i inlX12) hown hK hP hL_this hK_this (by decide +kernel) rfl 0 (by decide +kernel) (hts _ (tw_c tw_176)) (pq_hv rfl hR_w_1) dX12_force_3 ?_
    refine lv_bipush (v := 6) hx hb dX12_force_6 (by decide +kernel) ?_
    refine pl_i hx hb hK hP hL_w_1 hK_w_1 hN_w_1 (vp_in_iff.mpr (by decide +kernel)) dX12_force_8 ?_
    refine lv_tov (ri w_1 6) rfl ?_
    have h_2 : rg (ri w_1 6) 0 10 := GM.z0 hG0 (by rw [hT_w_1]; decide) (i := 6) (k := 6) (by decide +kernel) rfl
    have uh_2 := h_2.1
    have vh_2 := h_2.2
    replace hF := hF.trans (ap_n (vR_r hO_w_1 (by decide +kernel) rfl))
    refine lv_iconst (v := 1) hx hb dX12_force_9 (by decide +kernel) ?_
    refine lv_isub hx hb dX12_force_10 ?_
    refine lv_topi (fun x_4 ex_4 => ?_)
    replace hF := hF.trans (ap_n ex_4)
    have h_5 : rg x_4 (-1) 9 := rg_of_eq ex_4 (rg_sub h_2 (rg_k (1 : Int32) 1 rfl) (by decide +kernel))
    have uh_5 := h_5.1
    have vh_5 := h_5.2
    have tx_4 : (x_4).toInt = (ri w_1 6).toInt - 1 := by rw [ex_4]; exact i_sub_rg (a2 := (ri w_1 6).toInt) (b2 := 1) rfl rfl h_2 (rg_k (1 : Int32) 1 rfl) (by decide +kernel)
    refine pk_i (va_runS (As := [.int a0, .int 0, .int x_4]) (rest := []) ⟨hx, hb, hml, hown, hts⟩ (s_X12_isIn l D t σ I J ri rj rq H.size tg hSH hG.1 a0 (0 : Int32) x_4) (va_cwS 3 hts (tw_S tw_235 tw_236 tw_5 tw_237) rfl rfl rfl cd_yX12_isIn_3 ⟨Nat.le_of_ble_eq_true rfl, Nat.le_of_ble_eq_true rfl⟩) ⟨pq_blind, pq_pre hK hN hP hD⟩ rfl rfl hl.1 rfl (lv_room (Nat.le_of_ble_eq_true rfl)) dX12_force_11 ⟨Nat.le_of_ble_eq_true rfl, Nat.le_of_ble_eq_true rfl⟩) hD hS hA (fun x_6 σ1 μ1 H locs hw_7 hP hD hS => ?_)
    obtain ⟨hu_8, hfn_11, hr_10⟩ := hw_7
    obtain ⟨hu_8a, hu_8b⟩ := Prod.mk.inj hu_8
    rw [hu_8a, hu_8b] at hP hD
    replace hF := hF.trans (ap_n hfn_11.symm)
    have h_13 : rg x_6 0 1 := by rcases hr_10 with ⟨q, -⟩ | ⟨q, -⟩ <;> rw [q] <;> exact ⟨by decide +kernel, by decide +kernel⟩
    have uh_13 := h_13.1
    have vh_13 := h_13.2
    have K_96 : ∀  (H : Heap) (locs : List Loc) (ls : Array Slot), F = g_X12_force_K56 (vI 12 σ this I) (vJ 12 σ this J) (vR 12 σ this ri) (vL 12 σ this rj) (vQ 12 σ this rq)  → FR 12 tg σ this (I, J, ri, rj, rq) (I, J, ri, rj, rq) → GM [1007] tg σ I ri I ri rq → va_P D vwCl (pq_P t σ (I, J, ri, rj, rq)) H → va_D A (pq_P t σ (I, J, ri, rj, rq)) → va_S A s.heap H locs → lv_has ls 5 [] → W p l e ({ frames := 1, cells := 0, slots := 0, locals := 22 } : Room) s m (List.toArray ([.ref this, .int a0, .int a1, .int a2] : List Value)) below meth c H locs 0 0 Q (F0 m 56 ls []) := by
      intro H locs ls hF hFr hG hP hD hS hl
      replace hF := hF.trans g_X12_force_K56_e
      refine lv_iconst (v := (-1)) hx hb dX12_force_56 (by decide +kernel) ?_
      subst hQ
      exact W.iret (v := (-1)) hx hb hr (fun t1 ht hW => ⟨⟨(-1), (σ, I, J, ri, rj, rq), rfl, ⟨ri, rfl, hG, (hF0.symm.trans hF), hFr, (rg_w (rg_k (-1 : Int32) (-1) rfl) (by decide +kernel))⟩, by rw [ht]; exact hP, va_K.moved hW.alike hK, hD⟩, hS.F ht⟩) hS.2.2 dX12_force_57
    refine lv_if_eq (tgt := 56) hx hb dX12_force_14 (by decide +kernel) (fun c_97 => ?_) (fun c_97 => ?_)
    · replace hF := hF.trans (if_pos c_97)
      have f_110 := (hr_10.resolve_left (fun q => absurd (q.1.symm.trans c_97) (by decide +kernel))).2
      have tc_111 : (x_6).toInt = 0 := congrArg Int32.toInt c_97
      have h_112 : rg x_6 0 0 := rg_and h_13 (rg_of_eq c_97 (rg_k (0 : Int32) 0 rfl)) (by decide +kernel)
      have uh_112 := h_112.1
      have vh_112 := h_112.2
      exact K_96 _ _ _ hF hFr hG hP hD hS (lv_sub hl [] rfl)
    · replace hF := hF.trans (if_neg c_97)
      obtain ⟨f_113, f_114⟩ := (hr_10.resolve_right (fun q => c_97 q.1)).2
      have tc_115 : 0 ≤ (a0).toInt := Int32.le_iff_toInt_le.mp f_113
      have h_116 : rg a0 0 2147483647 := rg_le2 f_113 (rg_k (0 : Int32) 0 rfl) (rg_full _) (by decide +kernel)
      have uh_116 := h_116.1
      have vh_116 := h_116.2
      have tc_117 : (a0).toInt ≤ (x_4).toInt := Int32.le_iff_toInt_le.mp f_114
      have h_118 : rg a0 0 9 := rg_le1 f_114 h_116 h_5 (by decide +kernel)
      have uh_118 := h_118.1
      have vh_118 := h_118.2
      have h_119 : rg x_4 0 9 := rg_le2 f_114 h_116 h_5 (by decide +kernel)
      have uh_119 := h_119.1
      have vh_119 := h_119.2
      have tc_120 : (x_6).toInt ≠ 0 := fun q => c_97 (Int32.toInt_inj.mp q)
      have h_121 : rg x_6 1 1 := rg_ne c_97 h_13 0 rfl (by decide +kernel)
      have uh_121 := h_121.1
      have vh_121 := h_121.2
      refine lv_iload_n hx hb dX12_force_17 rfl (lv_at hl 2 rfl) ?_
      refine lv_aload_n hx hb dX12_force_18 rfl (lv_at hl 0 rfl) ?_
      refine pg_f (v := .ref w_1) (C := RX12) (T := TX12) (N := 31) hx hb hts (tw_i inlX12) hown hK hP hL_this hK_this (by decide +kernel) rfl 0 (by decide +kernel) (hts _ (tw_c tw_176)) (pq_hv rfl hR_w_1) dX12_force_19 ?_
      refine lv_iconst (v := 0) hx hb dX12_force_22 (by decide +kernel) ?_
      refine pl_i hx hb hK hP hL_w_1 hK_w_1 hN_w_1 (vp_in_iff.mpr (by decide +kernel)) dX12_force_23 ?_
      refine lv_tov (ri w_1 0) rfl ?_
      have h_122 : rg (ri w_1 0) 0 600 := GM.z0 hG0 (by rw [hT_w_1]; decide) (i := 0) (k := 0) (by decide +kernel) rfl
      have uh_122 := h_122.1
      have vh_122 := h_122.2
      replace hF := hF.trans (ap_n (vR_r hO_w_1 (by decide +kernel) rfl))
      refine lv_sipush (v := 599) hx hb dX12_force_24 (by decide +kernel) ?_
      refine pk_i (va_runS (As := [.int a1, .int (ri w_1 0), .int 599]) (rest := []) ⟨hx, hb, hml, hown, hts⟩ (s_X12_isIn l D t σ I J ri rj rq H.size tg hSH hG.1 a1 (ri w_1 0) (599 : Int32)) (va_cwS 3 hts (tw_S tw_235 tw_236 tw_5 tw_237) rfl rfl rfl cd_yX12_isIn_3 ⟨Nat.le_of_ble_eq_true rfl, Nat.le_of_ble_eq_true rfl⟩) ⟨pq_blind, pq_pre hK hN hP hD⟩ rfl rfl hl.1 rfl (lv_room (Nat.le_of_ble_eq_true rfl)) dX12_force_27 ⟨Nat.le_of_ble_eq_true rfl, Nat.le_of_ble_eq_true rfl⟩) hD hS hA (fun x_124 σ1 μ1 H locs hw_125 hP hD hS => ?_)
      obtain ⟨hu_126, hfn_129, hr_128⟩ := hw_125
      obtain ⟨hu_126a, hu_126b⟩ := Prod.mk.inj hu_126
      rw [hu_126a, hu_126b] at hP hD
      replace hF := hF.trans (ap_n hfn_129.symm)
      have h_131 : rg x_124 0 1 := by rcases hr_128 with ⟨q, -⟩ | ⟨q, -⟩ <;> rw [q] <;> exact ⟨by decide +kernel, by decide +kernel⟩
      have uh_131 := h_131.1
      have vh_131 := h_131.2
      refine lv_if_eq (tgt := 56) hx hb dX12_force_30 (by decide +kernel) (fun c_132 => ?_) (fun c_132 => ?_)
      · replace hF := hF.trans (if_pos c_132)
        have f_144 := (hr_128.resolve_left (fun q => absurd (q.1.symm.trans c_132) (by decide +kernel))).2
        have tc_145 : (x_124).toInt = 0 := congrArg Int32.toInt c_132
        have h_146 : rg x_124 0 0 := rg_and h_131 (rg_of_eq c_132 (rg_k (0 : Int32) 0 rfl)) (by decide +kernel)
        have uh_146 := h_146.1
        have vh_146 := h_146.2
        exact K_96 _ _ _ hF hFr hG hP hD hS (lv_sub hl [] rfl)
      · replace hF := hF.trans (if_neg c_132)
        obtain ⟨f_147, f_148⟩ := (hr_128.resolve_right (fun q => c_132 q.1)).2
        have tc_149 : (ri w_1 0).toInt ≤ (a1).toInt := Int32.le_iff_toInt_le.mp f_147
        have h_150 : rg a1 0 2147483647 := rg_le2 f_147 h_122 (rg_full _) (by decide +kernel)
        have uh_150 := h_150.1
        have vh_150 := h_150.2
        have tc_151 : (a1).toInt ≤ 599 := Int32.le_iff_toInt_le.mp f_148
        have h_152 : rg a1 0 599 := rg_le1 f_148 h_150 (rg_k (599 : Int32) 599 rfl) (by decide +kernel)
        have uh_152 := h_152.1
        have vh_152 := h_152.2
        have tc_153 : (x_124).toInt ≠ 0 := fun q => c_132 (Int32.toInt_inj.mp q)
        have h_154 : rg x_124 1 1 := rg_ne c_132 h_131 0 rfl (by decide +kernel)
        have uh_154 := h_154.1
        have vh_154 := h_154.2
        refine lv_iload_n hx hb dX12_force_33 rfl (lv_at hl 3 rfl) ?_
        refine lv_iload_n hx hb dX12_force_34 rfl (lv_at hl 2 rfl) ?_
        refine lv_sipush (v := 599) hx hb dX12_force_35 (by decide +kernel) ?_
        refine pk_i (va_runS (As := [.int a2, .int a1, .int 599]) (rest := []) ⟨hx, hb, hml, hown, hts⟩ (s_X12_isIn l D t σ I J ri rj rq H.size tg hSH hG.1 a2 a1 (599 : Int32)) (va_cwS 3 hts (tw_S tw_235 tw_236 tw_5 tw_237) rfl rfl rfl cd_yX12_isIn_3 ⟨Nat.le_of_ble_eq_true rfl, Nat.le_of_ble_eq_true rfl⟩) ⟨pq_blind, pq_pre hK hN hP hD⟩ rfl rfl hl.1 rfl (lv_room (Nat.le_of_ble_eq_true rfl)) dX12_force_38 ⟨Nat.le_of_ble_eq_true rfl, Nat.le_of_ble_eq_true rfl⟩) hD hS hA (fun x_155 σ1 μ1 H locs hw_156 hP hD hS => ?_)
        obtain ⟨hu_157, hfn_160, hr_159⟩ := hw_156
        obtain ⟨hu_157a, hu_157b⟩ := Prod.mk.inj hu_157
        rw [hu_157a, hu_157b] at hP hD
        replace hF := hF.trans (ap_n hfn_160.symm)
        have h_162 : rg x_155 0 1 := by rcases hr_159 with ⟨q, -⟩ | ⟨q, -⟩ <;> rw [q] <;> exact ⟨by decide +kernel, by decide +kernel⟩
        have uh_162 := h_162.1
        have vh_162 := h_162.2
        refine lv_if_eq (tgt := 56) hx hb dX12_force_41 (by decide +kernel) (fun c_163 => ?_) (fun c_163 => ?_)
        · replace hF := hF.trans (if_pos c_163)
          have f_175 := (hr_159.resolve_left (fun q => absurd (q.1.symm.trans c_163) (by decide +kernel))).2
          have tc_176 : (x_155).toInt = 0 := congrArg Int32.toInt c_163
          have h_177 : rg x_155 0 0 := rg_and h_162 (rg_of_eq c_163 (rg_k (0 : Int32) 0 rfl)) (by decide +kernel)
          have uh_177 := h_177.1
          have vh_177 := h_177.2
          exact K_96 _ _ _ hF hFr hG hP hD hS (lv_sub hl [] rfl)
        · replace hF := hF.trans (if_neg c_163)
          obtain ⟨f_178, f_179⟩ := (hr_159.resolve_right (fun q => c_163 q.1)).2
          have tc_180 : (a1).toInt ≤ (a2).toInt := Int32.le_iff_toInt_le.mp f_178
          have h_181 : rg a2 0 2147483647 := rg_le2 f_178 h_152 (rg_full _) (by decide +kernel)
          have uh_181 := h_181.1
          have vh_181 := h_181.2
          have tc_182 : (a2).toInt ≤ 599 := Int32.le_iff_toInt_le.mp f_179
          have h_183 : rg a2 0 599 := rg_le1 f_179 h_181 (rg_k (599 : Int32) 599 rfl) (by decide +kernel)
          have uh_183 := h_183.1
          have vh_183 := h_183.2
          have tc_184 : (x_155).toInt ≠ 0 := fun q => c_163 (Int32.toInt_inj.mp q)
          have h_185 : rg x_155 1 1 := rg_ne c_163 h_162 0 rfl (by decide +kernel)
          have uh_185 := h_185.1
          have vh_185 := h_185.2
          refine lv_aload_n hx hb dX12_force_44 rfl (lv_at hl 0 rfl) ?_
          refine pg_f (v := .ref w_1) (C := RX12) (T := TX12) (N := 31) hx hb hts (tw_i inlX12) hown hK hP hL_this hK_this (by decide +kernel) rfl 0 (by decide +kernel) (hts _ (tw_c tw_176)) (pq_hv rfl hR_w_1) dX12_force_45 ?_
          refine lv_bipush (v := 7) hx hb dX12_force_48 (by decide +kernel) ?_
          refine pl_i hx hb hK hP hL_w_1 hK_w_1 hN_w_1 (vp_in_iff.mpr (by decide +kernel)) dX12_force_50 ?_
          refine lv_topi (fun x_186 ex_186 => ?_)
          replace hF := hF.trans (ap_n (vR_r hO_w_1 (by decide +kernel) ex_186))
          have h_187 : rg x_186 0 30 := rg_of_eq ex_186 (GM.z hG (by rw [hT_w_1]; decide) (show zn ((7 : Int32)).toNatClampNeg = 7 from by decide +kernel) rfl)
          have uh_187 := h_187.1
          have vh_187 := h_187.2
          refine lv_bipush (v := 30) hx hb dX12_force_51 (by decide +kernel) ?_
          refine lv_icmp_ne (tgt := 58) hx hb dX12_force_53 (by decide +kernel) (fun c_188 => ?_) (fun c_188 => ?_)
          · replace hF := hF.trans (if_neg c_188)
            have tc_193 : (x_186).toInt ≠ 30 := fun q => c_188 (Int32.toInt_inj.mp q)
            have h_194 : rg x_186 0 29 := rg_ne c_188 h_187 30 rfl (by decide +kernel)
            have uh_194 := h_194.1
            have vh_194 := h_194.2
            refine lv_sipush (v := 2220) hx hb dX12_force_58 (by decide +kernel) ?_
            refine lv_iconst (v := 4) hx hb dX12_force_61 (by decide +kernel) ?_
            refine lv_aload_n hx hb dX12_force_62 rfl (lv_at hl 0 rfl) ?_
            refine pg_f (v := .ref w_1) (C := RX12) (T := TX12) (N := 31) hx hb hts (tw_i inlX12) hown hK hP hL_this hK_this (by decide +kernel) rfl 0 (by decide +kernel) (hts _ (tw_c tw_176)) (pq_hv rfl hR_w_1) dX12_force_63 ?_
            refine lv_bipush (v := 7) hx hb dX12_force_66 (by decide +kernel) ?_
            refine pl_i hx hb hK hP hL_w_1 hK_w_1 hN_w_1 (vp_in_iff.mpr (by decide +kernel)) dX12_force_68 ?_
            refine lv_tov x_186 ex_186.symm ?_
            refine lv_imul hx hb dX12_force_69 ?_
            refine lv_topi (fun x_195 ex_195 => ?_)
            replace hF := hF.trans (ap_n ex_195)
            have h_196 : rg x_195 0 116 := rg_of_eq ex_195 (rg_mul (rg_k (4 : Int32) 4 rfl) h_194 (by decide +kernel))
            have uh_196 := h_196.1
            have vh_196 := h_196.2
            have tx_195 : (x_195).toInt = 4 * (x_186).toInt := by rw [ex_195]; exact i_mul_rg (a2 := 4) (b2 := (x_186).toInt) rfl rfl (rg_k (4 : Int32) 4 rfl) h_194 (by decide +kernel)
            refine lv_iadd hx hb dX12_force_70 ?_
            refine lv_topi (fun x_197 ex_197 => ?_)
            replace hF := hF.trans (ap_n ex_197)
            have h_198 : rg x_197 2220 2336 := rg_of_eq ex_197 (rg_add (rg_k (2220 : Int32) 2220 rfl) h_196 (by decide +kernel))
            have uh_198 := h_198.1
            have vh_198 := h_198.2
            have tx_197 : (x_197).toInt = 2220 + (x_195).toInt := by rw [ex_197]; exact i_add_rg (a2 := 2220) (b2 := (x_195).toInt) rfl rfl (rg_k (2220 : Int32) 2220 rfl) h_196 (by decide +kernel)
            refine lv_istore (lv' := [(4, .int x_197), (0, .ref this), (1, .int a0), (2, .int a1), (3, .int a2)]) hx hb dX12_force_71 hl (by decide +kernel) rfl (fun ls hl => ?_)
            refine lv_aload_n hx hb dX12_force_73 rfl (lv_at hl 1 rfl) ?_
            refine pg_f (v := .ref w_1) (C := RX12) (T := TX12) (N := 31) hx hb hts (tw_i inlX12) hown hK hP hL_this hK_this (by decide +kernel) rfl 0 (by decide +kernel) (hts _ (tw_c tw_176)) (pq_hv rfl hR_w_1) dX12_force_74 ?_
            refine lv_iload hx hb dX12_force_77 (lv_at hl 0 rfl) ?_
            refine lv_iload_n hx hb dX12_force_79 rfl (lv_at hl 2 rfl) ?_
            refine pt_i hx hb hK hP hD hS hL_w_1 hK_w_1 hN_w_1 (rg_in h_198 (by decide +kernel)) dX12_force_80 (fun r_199 H locs er_199 hP hD hS => ?_)
            replace hFr := fr_R hFr hO_w_1 (by decide +kernel) er_199
            replace hF := hF.trans (ap_n (vR_st hVT hO_w_1 (by decide +kernel) er_199))
            have hfv : (x_197).toNatClampNeg = 2220 + 4 * (x_186).toNatClampNeg := by have z_i := clampE x_197; have z_0 := clampE x_186; omega
            have hf30 : (x_186).toNatClampNeg < 30 := rg_cl1 h_194 (by decide +kernel)
            have hfn : (ri w_1 7).toInt ≤ ((x_186).toNatClampNeg : Int) := by have z_0 := clampE x_186; have z_1 := congrArg Int32.toInt (show ri w_1 7 = x_186 from ex_186.symm); omega
            have hG := GM.wf0 hG hT_w_1 (by decide +kernel) er_199 hfv hf30 hfn rfl (rg_w h_118 (by decide +kernel)) (by decide +kernel)
            have hfc := fc_eq er_199 hfv
            have h_200 : r_199 w_1 7 = x_186 := cz_ne er_199 (zn_FORCE (c := x_186.toNatClampNeg) (k := 0) (by have z_i := clampE x_197; have z_0 := clampE x_186; omega) (rg_cl1 h_194 (by decide +kernel)) (by decide +kernel)) (by decide +kernel) (by decide +kernel) ex_186.symm
            refine lv_aload_n hx hb dX12_force_81 rfl (lv_at hl 1 rfl) ?_
            refine pg_f (v := .ref w_1) (C := RX12) (T := TX12) (N := 31) hx hb hts (tw_i inlX12) hown hK hP hL_this hK_this (by decide +kernel) rfl 0 (by decide +kernel) (hts _ (tw_c tw_176)) (pq_hv rfl hR_w_1) dX12_force_82 ?_
            refine lv_iload hx hb dX12_force_85 (lv_at hl 0 rfl) ?_
            refine lv_iconst (v := 1) hx hb dX12_force_87 (by decide +kernel) ?_
            refine lv_iadd hx hb dX12_force_88 ?_
            refine lv_topi (fun x_201 ex_201 => ?_)
            replace hF := hF.trans (ap_n ex_201)
            have h_202 : rg x_201 2221 2337 := rg_of_eq ex_201 (rg_add h_198 (rg_k (1 : Int32) 1 rfl) (by decide +kernel))
            have uh_202 := h_202.1
            have vh_202 := h_202.2
            have tx_201 : (x_201).toInt = (x_197).toInt + 1 := by rw [ex_201]; exact i_add_rg (a2 := (x_197).toInt) (b2 := 1) rfl rfl h_198 (rg_k (1 : Int32) 1 rfl) (by decide +kernel)
            refine lv_iload_n hx hb dX12_force_89 rfl (lv_at hl 3 rfl) ?_
            refine pt_i hx hb hK hP hD hS hL_w_1 hK_w_1 hN_w_1 (rg_in h_202 (by decide +kernel)) dX12_force_90 (fun r_203 H locs er_203 hP hD hS => ?_)
            replace hFr := fr_R hFr hO_w_1 (by decide +kernel) er_203
            replace hF := hF.trans (ap_n (vR_st hVT hO_w_1 (by decide +kernel) er_203))
            have hG := GM.wz hG hT_w_1 (by decide +kernel) er_203 (zn_FORCE (c := x_186.toNatClampNeg) (k := 1) (by have z_i := clampE x_201; have z_0 := clampE x_186; omega) (rg_cl1 h_194 (by decide +kernel)) (by decide +kernel)) rfl (rg_w h_152 (by decide +kernel)) (by decide +kernel)
            have h_204 : r_203 w_1 7 = x_186 := cz_ne er_203 (zn_FORCE (c := x_186.toNatClampNeg) (k := 1) (by have z_i := clampE x_201; have z_0 := clampE x_186; omega) (rg_cl1 h_194 (by decide +kernel)) (by decide +kernel)) (by decide +kernel) (by decide +kernel) h_200
            have hfc := fc_ne er_203 (by have z_i := clampE x_201; have z_0 := clampE x_186; omega) hfc
            refine lv_aload_n hx hb dX12_force_91 rfl (lv_at hl 1 rfl) ?_
            refine pg_f (v := .ref w_1) (C := RX12) (T := TX12) (N := 31) hx hb hts (tw_i inlX12) hown hK hP hL_this hK_this (by decide +kernel) rfl 0 (by decide +kernel) (hts _ (tw_c tw_176)) (pq_hv rfl hR_w_1) dX12_force_92 ?_
            refine lv_iload hx hb dX12_force_95 (lv_at hl 0 rfl) ?_
            refine lv_iconst (v := 2) hx hb dX12_force_97 (by decide +kernel) ?_
            refine lv_iadd hx hb dX12_force_98 ?_
            refine lv_topi (fun x_205 ex_205 => ?_)
            replace hF := hF.trans (ap_n ex_205)
            have h_206 : rg x_205 2222 2338 := rg_of_eq ex_205 (rg_add h_198 (rg_k (2 : Int32) 2 rfl) (by decide +kernel))
            have uh_206 := h_206.1
            have vh_206 := h_206.2
            have tx_205 : (x_205).toInt = (x_197).toInt + 2 := by rw [ex_205]; exact i_add_rg (a2 := (x_197).toInt) (b2 := 2) rfl rfl h_198 (rg_k (2 : Int32) 2 rfl) (by decide +kernel)
            refine lv_iload_n hx hb dX12_force_99 rfl (lv_at hl 4 rfl) ?_
            refine pt_i hx hb hK hP hD hS hL_w_1 hK_w_1 hN_w_1 (rg_in h_206 (by decide +kernel)) dX12_force_100 (fun r_207 H locs er_207 hP hD hS => ?_)
            replace hFr := fr_R hFr hO_w_1 (by decide +kernel) er_207
            replace hF := hF.trans (ap_n (vR_st hVT hO_w_1 (by decide +kernel) er_207))
            have hG := GM.wz hG hT_w_1 (by decide +kernel) er_207 (zn_FORCE (c := x_186.toNatClampNeg) (k := 2) (by have z_i := clampE x_205; have z_0 := clampE x_186; omega) (rg_cl1 h_194 (by decide +kernel)) (by decide +kernel)) rfl (rg_w h_183 (by decide +kernel)) (by decide +kernel)
            have h_208 : r_207 w_1 7 = x_186 := cz_ne er_207 (zn_FORCE (c := x_186.toNatClampNeg) (k := 2) (by have z_i := clampE x_205; have z_0 := clampE x_186; omega) (rg_cl1 h_194 (by decide +kernel)) (by decide +kernel)) (by decide +kernel) (by decide +kernel) h_204
            have hfc := fc_ne er_207 (by have z_i := clampE x_205; have z_0 := clampE x_186; omega) hfc
            refine lv_aload_n hx hb dX12_force_101 rfl (lv_at hl 1 rfl) ?_
            refine pg_f (v := .ref w_1) (C := RX12) (T := TX12) (N := 31) hx hb hts (tw_i inlX12) hown hK hP hL_this hK_this (by decide +kernel) rfl 0 (by decide +kernel) (hts _ (tw_c tw_176)) (pq_hv rfl hR_w_1) dX12_force_102 ?_
            refine lv_bipush (v := 7) hx hb dX12_force_105 (by decide +kernel) ?_
            refine lv_dup2_11 hx hb dX12_force_107 rfl rfl ?_
            refine pl_i hx hb hK hP hL_w_1 hK_w_1 hN_w_1 (vp_in_iff.mpr (by decide +kernel)) dX12_force_108 ?_
            refine lv_tov x_186 h_208 ?_
            refine lv_iconst (v := 1) hx hb dX12_force_109 (by decide +kernel) ?_
            refine lv_iadd hx hb dX12_force_110 ?_
            refine lv_topi (fun x_209 ex_209 => ?_)
            replace hF := hF.trans (ap_n ex_209)
            have h_210 : rg x_209 1 30 := rg_of_eq ex_209 (rg_add h_194 (rg_k (1 : Int32) 1 rfl) (by decide +kernel))
            have uh_210 := h_210.1
            have vh_210 := h_210.2
            have tx_209 : (x_209).toInt = (x_186).toInt + 1 := by rw [ex_209]; exact i_add_rg (a2 := (x_186).toInt) (b2 := 1) rfl rfl h_194 (rg_k (1 : Int32) 1 rfl) (by decide +kernel)
            refine pt_i hx hb hK hP hD hS hL_w_1 hK_w_1 hN_w_1 (vp_in_iff.mpr (by decide +kernel)) dX12_force_111 (fun r_211 H locs er_211 hP hD hS => ?_)
            replace hFr := fr_R hFr hO_w_1 (by decide +kernel) er_211
            replace hF := hF.trans (ap_n (vR_st hVT hO_w_1 (by decide +kernel) er_211))
            have hf6 := congrArg Int32.toInt (hG.2.2.1 w_1 hT_w_1 6 (by decide +kernel) (by decide +kernel))
            have hf7 := congrArg Int32.toInt (show r_207 w_1 7 = x_186 from h_208)
            have hfd := congrArg Int32.toInt hfc
            have hG := GM.wf7 hG hT_w_1 (by decide +kernel) er_211 rfl (n := (x_186).toNatClampNeg) (by have z_0 := clampE x_186; omega) (by have z_0 := clampE x_186; omega) (rg_w h_210 (by decide +kernel)) (by omega) (by decide +kernel)
            have h_212 : r_211 w_1 7 = x_209 := cz_eq er_211
            refine lv_aload_n hx hb dX12_force_112 rfl (lv_at hl 1 rfl) ?_
            refine pg_f (v := .ref w_1) (C := RX12) (T := TX12) (N := 31) hx hb hts (tw_i inlX12) hown hK hP hL_this hK_this (by decide +kernel) rfl 0 (by decide +kernel) (hts _ (tw_c tw_176)) (pq_hv rfl hR_w_1) dX12_force_113 ?_
            refine lv_bipush (v := 7) hx hb dX12_force_116 (by decide +kernel) ?_
            refine pl_i hx hb hK hP hL_w_1 hK_w_1 hN_w_1 (vp_in_iff.mpr (by decide +kernel)) dX12_force_118 ?_
            refine lv_tov x_209 h_212 ?_
            refine lv_iconst (v := 1) hx hb dX12_force_119 (by decide +kernel) ?_
            refine lv_isub hx hb dX12_force_120 ?_
            refine lv_topi (fun x_213 ex_213 => ?_)
            replace hF := hF.trans (ap_n ex_213)
            have h_214 : rg x_213 0 29 := rg_of_eq ex_213 (rg_sub h_210 (rg_k (1 : Int32) 1 rfl) (by decide +kernel))
            have uh_214 := h_214.1
            have vh_214 := h_214.2
            have tx_213 : (x_213).toInt = (x_209).toInt - 1 := by rw [ex_213]; exact i_sub_rg (a2 := (x_209).toInt) (b2 := 1) rfl rfl h_210 (rg_k (1 : Int32) 1 rfl) (by decide +kernel)
            subst hQ
            exact W.iret (v := x_213) hx hb hr (fun t1 ht hW => ⟨⟨x_213, (σ, I, J, r_211, rj, rq), rfl, ⟨r_211, rfl, hG, (hF0.symm.trans hF), hFr, (rg_w h_214 (by decide +kernel))⟩, by rw [ht]; exact hP, va_K.moved hW.alike hK, hD⟩, hS.F ht⟩) hS.2.2 dX12_force_121
          · replace hF := hF.trans (if_pos c_188)
            have tc_215 : (x_186).toInt = 30 := congrArg Int32.toInt c_188
            have h_216 : rg x_186 30 30 := rg_and h_187 (rg_of_eq c_188 (rg_k (30 : Int32) 30 rfl)) (by decide +kernel)
            have uh_216 := h_216.1
            have vh_216 := h_216.2
            exact K_96 _ _ _ hF hFr hG hP hD hS (lv_sub hl [] rfl)
  exact go _ _ _ hP hD hS hl

set_option maxRecDepth 100000 in
def g_X12_numberOf (a0 : Int32) (a1 : Int32) (a2 : Int32) (I : Nat → Int32) (J : Nat → Int64) (ri : Nat → Nat → Int32) (rj : Nat → Nat → Int64) (rq : Nat → Nat → Option Nat) : Int32 × vM := (bnI (g_X12_textFor a0 a1 I J ri rj rq) fun (x_1 : Int32) (_ : Nat → Int32) (_ : Nat → Int64) (_ : Nat → Nat → Int32) (_ : Nat → Nat → Int64) (_ : Nat → Nat → Option Nat) => (if (0 : Int32) ≤ x_1 then (bnI (g_X12_firstOf x_1 a0 I J ri rj rq) fun (x_17 : Int32) (_ : Nat → Int32) (_ : Nat → Int64) (_ : Nat → Nat → Int32) (_ : Nat → Nat → Int64) (_ : Nat → Nat → Option Nat) => (ap1 (x_17 + (1 : Int32)) fun (x_25 : Int32) => (ap1 (ri 384 (x_25).toNatClampNeg) fun (x_27 : Int32) => (x_27, I, J, ri, rj, rq)))) else (a2, I, J, ri, rj, rq)))
set_option maxRecDepth 100000 in
theorem g_X12_numberOf_e {a0 : Int32} {a1 : Int32} {a2 : Int32} {I : Nat → Int32} {J : Nat → Int64} {ri : Nat → Nat → Int32} {rj : Nat → Nat → Int64} {rq : Nat → Nat → Option Nat} : g_X12_numberOf a0 a1 a2 I J ri rj rq = (bnI (g_X12_textFor a0 a1 I J ri rj rq) fun (x_1 : Int32) (_ : Nat → Int32) (_ : Nat → Int64) (_ : Nat → Nat → Int32) (_ : Nat → Nat → Int64) (_ : Nat → Nat → Option Nat) => (if (0 : Int32) ≤ x_1 then (bnI (g_X12_firstOf x_1 a0 I J ri rj rq) fun (x_17 : Int32) (_ : Nat → Int32) (_ : Nat → Int64) (_ : Nat → Nat → Int32) (_ : Nat → Nat → Int64) (_ : Nat → Nat → Option Nat) => (ap1 (x_17 + (1 : Int32)) fun (x_25 : Int32) => (ap1 (ri 384 (x_25).toNatClampNeg) fun (x_27 : Int32) => (x_27, I, J, ri, rj, rq)))) else (a2, I, J, ri, rj, rq))) := rfl
set_option maxHeartbeats 4000000 in
set_option maxRecDepth 100000 in
theorem s_X12_numberOf (l : Launch) (D : va_G) (t : pq_T) (σ : pq_S) (I : Nat → Nat → Int32) (J : Nat → Nat → Int64) (ri : Nat → Nat → Int32) (rj : Nat → Nat → Int64) (rq : Nat → Nat → Option Nat) (sz : Nat) (tg : Nat → Nat) (hSH : SH σ tg) (hG0 : GT tg I ri) (this : Nat) (a0 : Int32) (a1 : Int32) (a2 : Int32) (hL_this : this ∈ σ.1) (hK_this : σ.2.1 this = 12) (this_a : Nat) (hR_this_a : σ.2.2.1 384 this = some this_a) (hL_this_a : this_a ∈ σ.1) (hK_this_a : σ.2.1 this_a = 13) (hN_this_a : σ.2.2.2 this_a = 12720) (hT_this_a : tg this_a = 384) : MetI l yX12_numberOf (wa yX12_numberOf cX12_numberOf 5 (some .int)) ({ frames := 3, cells := 0, slots := 0, locals := 69 }) [.ref this, .int a0, .int a1, .int a2] D t σ (I, J, ri, rj, rq) sz 0 0 (fun (r : Int32) (u : pq_S × pq_M) => u = (σ, I, J, ri, rj, rq) ∧ g_X12_numberOf a0 a1 a2 (vI 12 σ this I) (vJ 12 σ this J) (vR 12 σ this ri) (vL 12 σ this rj) (vQ 12 σ this rq) = (r, (vI 12 σ this I), (vJ 12 σ this J), (vR 12 σ this ri), (vL 12 σ this rj), (vQ 12 σ this rq))) := by
  refine Met.ofW (cc := cX12_numberOf) (maxL := 5) (ret := (some .int)) (by decide +kernel) rfl ?_
  intro p e s m args below meth c s₁ B hml hv
  obtain ⟨rfl, hsz, hP, hK, hD0, hN⟩ := hv
  have hx := B.exec
  have hb := B.bytes
  have hr := B.returns
  have hts := atoms_spec (ws := (wa yX12_numberOf cX12_numberOf 5 (some .int))) B.pre
  have hown : s.vm.findClass RX12 = some m.cls := findClass_of_methodNamed B.named
  have hlocks := B.notSynchronized
  subst hsz
  have hD : va_D (pq_B t σ (I, J, ri, rj, rq) s.heap.size) (pq_P t σ (I, J, ri, rj, rq)) := hD0.self
  generalize hAe : pq_B t σ (I, J, ri, rj, rq) s.heap.size = A at hD ⊢
  have hA : ∀ q : Nat, s.heap.size ≤ q → A q := fun q h => by rw [← hAe]; exact Or.inr h
  have hS : va_S A s.heap s.heap [] := va_S.rf
  have hG : GM [] tg σ I ri I ri rq := ⟨hG0, fun _ _ _ => rfl, fun _ _ _ _ _ => rfl, fun _ _ _ _ _ _ => rfl⟩
  have hl := lv_entry ([.ref this, .int a0, .int a1, .int a2]) (n := 5) (Nat.le_of_ble_eq_true rfl)
  rw [lg_entry_eq]
  generalize (lg_sl ([.ref this, .int a0, .int a1, .int a2]) ++ List.replicate (5 - (lg_sl ([.ref this, .int a0, .int a1, .int a2])).length) Slot.unset).toArray = ls at hl ⊢
  have hl : lv_has ls 5 [(0, .ref this), (1, .int a0), (2, .int a1), (3, .int a2)] := hl
  refine q_gen (fun Q hQ => ?_)
  have go : ∀ (H : Heap) (locs : List Loc) (ls : Array Slot), va_P D vwCl (pq_P t σ (I, J, ri, rj, rq)) H → va_D A (pq_P t σ (I, J, ri, rj, rq)) → va_S A s.heap H locs → lv_has ls 5 [(0, .ref this), (1, .int a0), (2, .int a1), (3, .int a2)] → W p l e ({ frames := 3, cells := 0, slots := 0, locals := 69 } : Room) s m (List.toArray ([.ref this, .int a0, .int a1, .int a2] : List Value)) below meth c H locs 0 0 Q (F0 m 0 ls []) := by
    intro H locs ls hP hD hS hl
    have hO_this : this = vo σ 12 this := rfl
    have hVT : VT 12 σ tg this := vt_12 hSH hL_this hK_this
    have hFr : FR 12 tg σ this (I, J, ri, rj, rq) (I, J, ri, rj, rq) := fr_rf
    have hO_this_a : this_a = vrow σ 384 this := vo_k (c := 12) hO_this hR_this_a
    obtain ⟨F, hF0⟩ : ∃ F, F = g_X12_numberOf a0 a1 a2 (vI 12 σ this I) (vJ 12 σ this J) (vR 12 σ this ri) (vL 12 σ this rj) (vQ 12 σ this rq) := ⟨_, rfl⟩
    have hF := hF0.trans g_X12_numberOf_e
    refine lv_aload_n hx hb dX12_numberOf_0 rfl (lv_at hl 0 rfl) ?_
    refine lv_iload_n hx hb dX12_numberOf_1 rfl (lv_at hl 1 rfl) ?_
    refine lv_iload_n hx hb dX12_numberOf_2 rfl (lv_at hl 2 rfl) ?_
    refine pk_i (va_runV (As := [.int a0, .int a1]) (rest := []) ⟨hx, hb, hml, hown, hts⟩ (s_X12_textFor l D t σ I J ri rj rq H.size tg hSH hG.1 this a0 a1 hL_this hK_this this_a hR_this_a hL_this_a hK_this_a hN_this_a hT_this_a) (cwV 2 hts (tw_V tw_508 tw_509 tw_510 tw_5 tw_511) rfl rfl rfl cv_yX12_textFor_2 ⟨Nat.le_of_ble_eq_true rfl, Nat.le_of_ble_eq_true rfl⟩) ⟨pq_blind, pq_recv hK hP hL_this hK_this (by decide +kernel) rfl, pq_pre hK hN hP hD⟩ rfl rfl hl.1 rfl (lv_room (Nat.le_of_ble_eq_true rfl)) dX12_numberOf_3 ⟨Nat.le_of_ble_eq_true rfl, Nat.le_of_ble_eq_true rfl⟩) hD hS hA (fun x_1 σ1 μ1 H locs hw_2 hP hD hS => ?_)
    obtain ⟨hu_3, hp_6, hfn_7, hr_5⟩ := hw_2
    obtain ⟨hu_3a, hu_3b⟩ := Prod.mk.inj hu_3
    rw [hu_3a, hu_3b] at hP hD
    replace hF := hF.trans (bn_n hfn_7)
    have tt_9 := hp_6
    refine lv_istore (lv' := [(4, .int x_1), (0, .ref this), (1, .int a0), (2, .int a1), (3, .int a2)]) hx hb dX12_numberOf_6 hl (by decide +kernel) rfl (fun ls hl => ?_)
    refine lv_iload hx hb dX12_numberOf_8 (lv_at hl 0 rfl) ?_
    refine lv_if_ge (tgt := 17) hx hb dX12_numberOf_10 (by decide +kernel) (fun c_10 => ?_) (fun c_10 => ?_)
    · replace hF := hF.trans (if_pos c_10)
      have tc_15 : 0 ≤ (x_1).toInt := Int32.le_iff_toInt_le.mp c_10
      have h_16 : rg x_1 0 9 := rg_le2 c_10 (rg_k (0 : Int32) 0 rfl) hr_5 (by decide +kernel)
      have uh_16 := h_16.1
      have vh_16 := h_16.2
      refine lv_aload_n hx hb dX12_numberOf_17 rfl (lv_at hl 1 rfl) ?_
      refine pg_f (v := .ref this_a) (C := RX12) (T := TX12) (N := 31) hx hb hts (tw_i inlX12) hown hK hP hL_this hK_this (by decide +kernel) rfl 0 (by decide +kernel) (hts _ (tw_c tw_176)) (pq_hv rfl hR_this_a) dX12_numberOf_18 ?_
      refine lv_aload_n hx hb dX12_numberOf_21 rfl (lv_at hl 1 rfl) ?_
      refine lv_iload hx hb dX12_numberOf_22 (lv_at hl 0 rfl) ?_
      refine lv_iload_n hx hb dX12_numberOf_24 rfl (lv_at hl 2 rfl) ?_
      refine pk_i (va_runV (As := [.int x_1, .int a0]) (rest := [.ref this_a]) ⟨hx, hb, hml, hown, hts⟩ (s_X12_firstOf l D t σ I J ri rj rq H.size tg hSH hG.1 this x_1 a0 hL_this hK_this (rg_w h_16 (by decide +kernel)) this_a hR_this_a hL_this_a hK_this_a hN_this_a hT_this_a) (cwV 2 hts (tw_V tw_512 tw_513 tw_514 tw_5 tw_515) rfl rfl rfl cv_yX12_firstOf_2 ⟨Nat.le_of_ble_eq_true rfl, Nat.le_of_ble_eq_true rfl⟩) ⟨pq_blind, pq_recv hK hP hL_this hK_this (by decide +kernel) rfl, pq_pre hK hN hP hD⟩ rfl rfl hl.1 rfl (lv_room (Nat.le_of_ble_eq_true rfl)) dX12_numberOf_25 ⟨Nat.le_of_ble_eq_true rfl, Nat.le_of_ble_eq_true rfl⟩) hD hS hA (fun x_17 σ1 μ1 H locs hw_18 hP hD hS => ?_)
      obtain ⟨hu_19, hp_22, hfn_23, hr_21⟩ := hw_18
      obtain ⟨hu_19a, hu_19b⟩ := Prod.mk.inj hu_19
      rw [hu_19a, hu_19b] at hP hD
      replace hF := hF.trans (bn_n hfn_23)
      refine lv_iconst (v := 1) hx hb dX12_numberOf_28 (by decide +kernel) ?_
      refine lv_iadd hx hb dX12_numberOf_29 ?_
      refine lv_topi (fun x_25 ex_25 => ?_)
      replace hF := hF.trans (ap_n ex_25)
      have h_26 : rg x_25 0 12062 := rg_of_eq ex_25 (rg_add hr_21 (rg_k (1 : Int32) 1 rfl) (by decide +kernel))
      have uh_26 := h_26.1
      have vh_26 := h_26.2
      have tx_25 : (x_25).toInt = (x_17).toInt + 1 := by rw [ex_25]; exact i_add_rg (a2 := (x_17).toInt) (b2 := 1) rfl rfl hr_21 (rg_k (1 : Int32) 1 rfl) (by decide +kernel)
      refine pl_i hx hb hK hP hL_this_a hK_this_a hN_this_a (rg_in h_26 (by decide +kernel)) dX12_numberOf_30 ?_
      refine lv_topi (fun x_27 ex_27 => ?_)
      replace hF := hF.trans (ap_n (vR_r hO_this_a (by decide +kernel) ex_27))
      subst hQ
      exact W.iret (v := x_27) hx hb hr (fun t1 ht hW => ⟨⟨x_27, (σ, I, J, ri, rj, rq), rfl, ⟨rfl, (hF0.symm.trans hF)⟩, by rw [ht]; exact hP, va_K.moved hW.alike hK, hD⟩, hS.F ht⟩) hS.2.2 dX12_numberOf_31
    · replace hF := hF.trans (if_neg c_10)
      have tc_28 : (x_1).toInt < 0 := Int32.lt_iff_toInt_lt.mp (nle c_10)
      have h_29 : rg x_1 (-1) (-1) := rg_lt1 (nle c_10) hr_5 (rg_k (0 : Int32) 0 rfl) (by decide +kernel)
      have uh_29 := h_29.1
      have vh_29 := h_29.2
      refine lv_iload_n hx hb dX12_numberOf_13 rfl (lv_at hl 4 rfl) ?_
      refine lv_goto (tgt := 31) hx hb dX12_numberOf_14 (by decide +kernel) ?_
      subst hQ
      exact W.iret (v := a2) hx hb hr (fun t1 ht hW => ⟨⟨a2, (σ, I, J, ri, rj, rq), rfl, ⟨rfl, (hF0.symm.trans hF)⟩, by rw [ht]; exact hP, va_K.moved hW.alike hK, hD⟩, hS.F ht⟩) hS.2.2 dX12_numberOf_31
  exact go _ _ _ hP hD hS hl

set_option maxRecDepth 100000 in
def g_X12_isFor (a0 : Int32) (a1 : Int32) (a2 : Int32) (I : Nat → Int32) (J : Nat → Int64) (ri : Nat → Nat → Int32) (rj : Nat → Nat → Int64) (rq : Nat → Nat → Option Nat) : Int32 × vM := (bnI (g_X12_textFor a0 a2 I J ri rj rq) fun (x_1 : Int32) (_ : Nat → Int32) (_ : Nat → Int64) (_ : Nat → Nat → Int32) (_ : Nat → Nat → Int64) (_ : Nat → Nat → Option Nat) => (if x_1 < (0 : Int32) then ((1 : Int32), I, J, ri, rj, rq) else (bnI (g_X12_firstSo a0 a1 a2 (0 : Int32) I J ri rj rq) fun (x_19 : Int32) (_ : Nat → Int32) (_ : Nat → Int64) (ri_21 : Nat → Nat → Int32) (rj_22 : Nat → Nat → Int64) (_ : Nat → Nat → Option Nat) => (if x_19 < (0 : Int32) then ((0 : Int32), I, J, ri_21, rj_22, rq) else ((1 : Int32), I, J, ri_21, rj_22, rq)))))
set_option maxRecDepth 100000 in
theorem g_X12_isFor_e {a0 : Int32} {a1 : Int32} {a2 : Int32} {I : Nat → Int32} {J : Nat → Int64} {ri : Nat → Nat → Int32} {rj : Nat → Nat → Int64} {rq : Nat → Nat → Option Nat} : g_X12_isFor a0 a1 a2 I J ri rj rq = (bnI (g_X12_textFor a0 a2 I J ri rj rq) fun (x_1 : Int32) (_ : Nat → Int32) (_ : Nat → Int64) (_ : Nat → Nat → Int32) (_ : Nat → Nat → Int64) (_ : Nat → Nat → Option Nat) => (if x_1 < (0 : Int32) then ((1 : Int32), I, J, ri, rj, rq) else (bnI (g_X12_firstSo a0 a1 a2 (0 : Int32) I J ri rj rq) fun (x_19 : Int32) (_ : Nat → Int32) (_ : Nat → Int64) (ri_21 : Nat → Nat → Int32) (rj_22 : Nat → Nat → Int64) (_ : Nat → Nat → Option Nat) => (if x_19 < (0 : Int32) then ((0 : Int32), I, J, ri_21, rj_22, rq) else ((1 : Int32), I, J, ri_21, rj_22, rq))))) := rfl
set_option maxHeartbeats 4000000 in
set_option maxRecDepth 100000 in
theorem s_X12_isFor (l : Launch) (D : va_G) (t : pq_T) (σ : pq_S) (I : Nat → Nat → Int32) (J : Nat → Nat → Int64) (ri : Nat → Nat → Int32) (rj : Nat → Nat → Int64) (rq : Nat → Nat → Option Nat) (sz : Nat) (tg : Nat → Nat) (hSH : SH σ tg) (hG0 : GT tg I ri) (this : Nat) (a0 : Int32) (a1 : Int32) (a2 : Int32) (hL_this : this ∈ σ.1) (hK_this : σ.2.1 this = 12) (h_a0 : rg a0 2 4) (h_a1 : rg a1 0 39) (this_a : Nat) (hR_this_a : σ.2.2.1 384 this = some this_a) (hL_this_a : this_a ∈ σ.1) (hK_this_a : σ.2.1 this_a = 13) (hN_this_a : σ.2.2.2 this_a = 12720) (hT_this_a : tg this_a = 384) : MetI l yX12_isFor (wa yX12_isFor cX12_isFor 4 (some .boolean)) ({ frames := 4, cells := 0, slots := 0, locals := 102 }) [.ref this, .int a0, .int a1, .int a2] D t σ (I, J, ri, rj, rq) sz 0 0 (fun (r : Int32) (u : pq_S × pq_M) => ∃ ri' : Nat → Nat → Int32, ∃ rj' : Nat → Nat → Int64, u = (σ, I, J, ri', rj', rq) ∧ GM [] tg σ I ri I ri' rq ∧ (∀ q, tg q ≠ 405 → ri' q = ri q) ∧ g_X12_isFor a0 a1 a2 (vI 12 σ this I) (vJ 12 σ this J) (vR 12 σ this ri) (vL 12 σ this rj) (vQ 12 σ this rq) = (r, (vI 12 σ this I), (vJ 12 σ this J), (vR 12 σ this ri'), (vL 12 σ this rj'), (vQ 12 σ this rq)) ∧ FR 12 tg σ this (I, J, ri, rj, rq) (I, J, ri', rj', rq) ∧ ((r = 1 ∧ True) ∨ (r = 0 ∧ True))) := by
  refine Met.ofW (cc := cX12_isFor) (maxL := 4) (ret := (some .boolean)) (by decide +kernel) rfl ?_
  intro p e s m args below meth c s₁ B hml hv
  obtain ⟨rfl, hsz, hP, hK, hD0, hN⟩ := hv
  have hx := B.exec
  have hb := B.bytes
  have hr := B.returns
  have hts := atoms_spec (ws := (wa yX12_isFor cX12_isFor 4 (some .boolean))) B.pre
  have hown : s.vm.findClass RX12 = some m.cls := findClass_of_methodNamed B.named
  have hlocks := B.notSynchronized
  subst hsz
  have hD : va_D (pq_B t σ (I, J, ri, rj, rq) s.heap.size) (pq_P t σ (I, J, ri, rj, rq)) := hD0.self
  generalize hAe : pq_B t σ (I, J, ri, rj, rq) s.heap.size = A at hD ⊢
  have hA : ∀ q : Nat, s.heap.size ≤ q → A q := fun q h => by rw [← hAe]; exact Or.inr h
  have hS : va_S A s.heap s.heap [] := va_S.rf
  have hG : GM [] tg σ I ri I ri rq := ⟨hG0, fun _ _ _ => rfl, fun _ _ _ _ _ => rfl, fun _ _ _ _ _ _ => rfl⟩
  have hl := lv_entry ([.ref this, .int a0, .int a1, .int a2]) (n := 4) (Nat.le_of_ble_eq_true rfl)
  rw [lg_entry_eq]
  generalize (lg_sl ([.ref this, .int a0, .int a1, .int a2]) ++ List.replicate (4 - (lg_sl ([.ref this, .int a0, .int a1, .int a2])).length) Slot.unset).toArray = ls at hl ⊢
  have hl : lv_has ls 4 [(0, .ref this), (1, .int a0), (2, .int a1), (3, .int a2)] := hl
  refine q_gen (fun Q hQ => ?_)
  have go : ∀ (H : Heap) (locs : List Loc) (ls : Array Slot), va_P D vwCl (pq_P t σ (I, J, ri, rj, rq)) H → va_D A (pq_P t σ (I, J, ri, rj, rq)) → va_S A s.heap H locs → lv_has ls 4 [(0, .ref this), (1, .int a0), (2, .int a1), (3, .int a2)] → W p l e ({ frames := 4, cells := 0, slots := 0, locals := 102 } : Room) s m (List.toArray ([.ref this, .int a0, .int a1, .int a2] : List Value)) below meth c H locs 0 0 Q (F0 m 0 ls []) := by
    intro H locs ls hP hD hS hl
    have hO_this : this = vo σ 12 this := rfl
    have hVT : VT 12 σ tg this := vt_12 hSH hL_this hK_this
    have hFr : FR 12 tg σ this (I, J, ri, rj, rq) (I, J, ri, rj, rq) := fr_rf
    have hO_this_a : this_a = vrow σ 384 this := vo_k (c := 12) hO_this hR_this_a
    obtain ⟨F, hF0⟩ : ∃ F, F = g_X12_isFor a0 a1 a2 (vI 12 σ this I) (vJ 12 σ this J) (vR 12 σ this ri) (vL 12 σ this rj) (vQ 12 σ this rq) := ⟨_, rfl⟩
    have hF := hF0.trans g_X12_isFor_e
    refine lv_aload_n hx hb dX12_isFor_0 rfl (lv_at hl 0 rfl) ?_
    refine lv_iload_n hx hb dX12_isFor_1 rfl (lv_at hl 1 rfl) ?_
    refine lv_iload_n hx hb dX12_isFor_2 rfl (lv_at hl 3 rfl) ?_
    refine pk_i (va_runV (As := [.int a0, .int a2]) (rest := []) ⟨hx, hb, hml, hown, hts⟩ (s_X12_textFor l D t σ I J ri rj rq H.size tg hSH hG.1 this a0 a2 hL_this hK_this this_a hR_this_a hL_this_a hK_this_a hN_this_a hT_this_a) (cwV 2 hts (tw_V tw_508 tw_509 tw_510 tw_5 tw_511) rfl rfl rfl cv_yX12_textFor_2 ⟨Nat.le_of_ble_eq_true rfl, Nat.le_of_ble_eq_true rfl⟩) ⟨pq_blind, pq_recv hK hP hL_this hK_this (by decide +kernel) rfl, pq_pre hK hN hP hD⟩ rfl rfl hl.1 rfl (lv_room (Nat.le_of_ble_eq_true rfl)) dX12_isFor_3 ⟨Nat.le_of_ble_eq_true rfl, Nat.le_of_ble_eq_true rfl⟩) hD hS hA (fun x_1 σ1 μ1 H locs hw_2 hP hD hS => ?_)
    obtain ⟨hu_3, hp_6, hfn_7, hr_5⟩ := hw_2
    obtain ⟨hu_3a, hu_3b⟩ := Prod.mk.inj hu_3
    rw [hu_3a, hu_3b] at hP hD
    replace hF := hF.trans (bn_n hfn_7)
    have tt_9 := hp_6
    refine lv_if_lt (tgt := 20) hx hb dX12_isFor_6 (by decide +kernel) (fun c_10 => ?_) (fun c_10 => ?_)
    · replace hF := hF.trans (if_pos c_10)
      have tc_15 : (x_1).toInt < 0 := Int32.lt_iff_toInt_lt.mp c_10
      have h_16 : rg x_1 (-1) (-1) := rg_lt1 c_10 hr_5 (rg_k (0 : Int32) 0 rfl) (by decide +kernel)
      have uh_16 := h_16.1
      have vh_16 := h_16.2
      refine lv_iconst (v := 1) hx hb dX12_isFor_20 (by decide +kernel) ?_
      refine lv_goto (tgt := 25) hx hb dX12_isFor_21 (by decide +kernel) ?_
      subst hQ
      exact W.zret (v := 1) hx hb hr (by decide +kernel) (fun t1 ht hW => ⟨⟨1, (σ, I, J, ri, rj, rq), rfl, ⟨ri, rj, rfl, hG, (fun _ _ => rfl), (hF0.symm.trans hF), hFr, (Or.inl ⟨rfl, trivial⟩)⟩, by rw [ht]; exact hP, va_K.moved hW.alike hK, hD⟩, hS.F ht⟩) hS.2.2 dX12_isFor_25
    · replace hF := hF.trans (if_neg c_10)
      have tc_17 : 0 ≤ (x_1).toInt := Int32.le_iff_toInt_le.mp (nlt c_10)
      have h_18 : rg x_1 0 9 := rg_le2 (nlt c_10) (rg_k (0 : Int32) 0 rfl) hr_5 (by decide +kernel)
      have uh_18 := h_18.1
      have vh_18 := h_18.2
      refine lv_aload_n hx hb dX12_isFor_9 rfl (lv_at hl 0 rfl) ?_
      refine lv_iload_n hx hb dX12_isFor_10 rfl (lv_at hl 1 rfl) ?_
      refine lv_iload_n hx hb dX12_isFor_11 rfl (lv_at hl 2 rfl) ?_
      refine lv_iload_n hx hb dX12_isFor_12 rfl (lv_at hl 3 rfl) ?_
      refine lv_iconst (v := 0) hx hb dX12_isFor_13 (by decide +kernel) ?_
      refine pk_i (va_runV (As := [.int a0, .int a1, .int a2, .int 0]) (rest := []) ⟨hx, hb, hml, hown, hts⟩ (s_X12_firstSo l D t σ I J ri rj rq H.size tg hSH hG.1 this a0 a1 a2 (0 : Int32) hL_this hK_this (rg_w h_a0 (by decide +kernel)) (rg_w h_a1 (by decide +kernel)) this_a hR_this_a hL_this_a hK_this_a hN_this_a hT_this_a) (cwV 4 hts (tw_V tw_597 tw_598 tw_599 tw_5 tw_600) rfl rfl rfl cv_yX12_firstSo_4 ⟨Nat.le_of_ble_eq_true rfl, Nat.le_of_ble_eq_true rfl⟩) ⟨pq_blind, pq_recv hK hP hL_this hK_this (by decide +kernel) rfl, pq_pre hK hN hP hD⟩ rfl rfl hl.1 rfl (lv_room (Nat.le_of_ble_eq_true rfl)) dX12_isFor_14 ⟨Nat.le_of_ble_eq_true rfl, Nat.le_of_ble_eq_true rfl⟩) hD hS hA (fun x_19 σ1 μ1 H locs hw_20 hP hD hS => ?_)
      obtain ⟨ri_21, rj_22, hu_23, hg_24, hp_26, hfn_27, hfr_28, hr_25⟩ := hw_20
      obtain ⟨hu_23a, hu_23b⟩ := Prod.mk.inj hu_23
      rw [hu_23a, hu_23b] at hP hD
      replace hF := hF.trans (bn_n hfn_27)
      replace hFr := fr_tr hFr hfr_28
      have hG := GM.tr hG hg_24 (by decide +kernel)
      refine lv_if_lt (tgt := 24) hx hb dX12_isFor_17 (by decide +kernel) (fun c_29 => ?_) (fun c_29 => ?_)
      · replace hF := hF.trans (if_pos c_29)
        have tc_34 : (x_19).toInt < 0 := Int32.lt_iff_toInt_lt.mp c_29
        have h_35 : rg x_19 (-1) (-1) := rg_lt1 c_29 hr_25 (rg_k (0 : Int32) 0 rfl) (by decide +kernel)
        have uh_35 := h_35.1
        have vh_35 := h_35.2
        refine lv_iconst (v := 0) hx hb dX12_isFor_24 (by decide +kernel) ?_
        subst hQ
        exact W.zret (v := 0) hx hb hr (by decide +kernel) (fun t1 ht hW => ⟨⟨0, (σ, I, J, ri_21, rj_22, rq), rfl, ⟨ri_21, rj_22, rfl, hG, (fr_t (fun _ _ => rfl) hp_26), (hF0.symm.trans hF), hFr, (Or.inr ⟨rfl, trivial⟩)⟩, by rw [ht]; exact hP, va_K.moved hW.alike hK, hD⟩, hS.F ht⟩) hS.2.2 dX12_isFor_25
      · replace hF := hF.trans (if_neg c_29)
        have tc_36 : 0 ≤ (x_19).toInt := Int32.le_iff_toInt_le.mp (nlt c_29)
        have h_37 : rg x_19 0 19 := rg_le2 (nlt c_29) (rg_k (0 : Int32) 0 rfl) hr_25 (by decide +kernel)
        have uh_37 := h_37.1
        have vh_37 := h_37.2
        refine lv_iconst (v := 1) hx hb dX12_isFor_20 (by decide +kernel) ?_
        refine lv_goto (tgt := 25) hx hb dX12_isFor_21 (by decide +kernel) ?_
        subst hQ
        exact W.zret (v := 1) hx hb hr (by decide +kernel) (fun t1 ht hW => ⟨⟨1, (σ, I, J, ri_21, rj_22, rq), rfl, ⟨ri_21, rj_22, rfl, hG, (fr_t (fun _ _ => rfl) hp_26), (hF0.symm.trans hF), hFr, (Or.inl ⟨rfl, trivial⟩)⟩, by rw [ht]; exact hP, va_K.moved hW.alike hK, hD⟩, hS.F ht⟩) hS.2.2 dX12_isFor_25
  exact go _ _ _ hP hD hS hl

set_option maxRecDepth 100000 in
def g_X12_is_K44 (I : Nat → Int32) (J : Nat → Int64) (ri : Nat → Nat → Int32) (rj : Nat → Nat → Int64) (rq : Nat → Nat → Option Nat) : Int32 × vM := ((-1 : Int32), I, J, ri, rj, rq)
set_option maxRecDepth 100000 in
theorem g_X12_is_K44_e {I : Nat → Int32} {J : Nat → Int64} {ri : Nat → Nat → Int32} {rj : Nat → Nat → Int64} {rq : Nat → Nat → Option Nat} : g_X12_is_K44 I J ri rj rq  = ((-1 : Int32), I, J, ri, rj, rq) := rfl
set_option maxRecDepth 100000 in
def g_X12_is (a0 : Int32) (a1 : Int32) (a2 : Int32) (I : Nat → Int32) (J : Nat → Int64) (ri : Nat → Nat → Int32) (rj : Nat → Nat → Int64) (rq : Nat → Nat → Option Nat) : Int32 × vM := (ap1 (g_X12_isIn a0 (0 : Int32) (2 : Int32)) fun (x_1 : Int32) => (if x_1 = (0 : Int32) then (g_X12_is_K44 I J ri rj rq ) else (bnI (g_X12_isPerson a1 I J ri rj rq) fun (x_94 : Int32) (_ : Nat → Int32) (_ : Nat → Int64) (_ : Nat → Nat → Int32) (_ : Nat → Nat → Int64) (_ : Nat → Nat → Option Nat) => (if x_94 = (0 : Int32) then (g_X12_is_K44 I J ri rj rq ) else (ap1 (g_X12_isMonth a2) fun (x_115 : Int32) => (if x_115 = (0 : Int32) then (g_X12_is_K44 I J ri rj rq ) else (ap1 ((2 : Int32) + a0) fun (x_136 : Int32) => (bnI (g_X12_isFor x_136 a1 a2 I J ri rj rq) fun (x_139 : Int32) (_ : Nat → Int32) (_ : Nat → Int64) (ri_141 : Nat → Nat → Int32) (rj_142 : Nat → Nat → Int64) (_ : Nat → Nat → Option Nat) => (if x_139 = (0 : Int32) then ((0 : Int32), I, J, ri_141, rj_142, rq) else ((1 : Int32), I, J, ri_141, rj_142, rq))))))))))
set_option maxRecDepth 100000 in
theorem g_X12_is_e {a0 : Int32} {a1 : Int32} {a2 : Int32} {I : Nat → Int32} {J : Nat → Int64} {ri : Nat → Nat → Int32} {rj : Nat → Nat → Int64} {rq : Nat → Nat → Option Nat} : g_X12_is a0 a1 a2 I J ri rj rq = (ap1 (g_X12_isIn a0 (0 : Int32) (2 : Int32)) fun (x_1 : Int32) => (if x_1 = (0 : Int32) then (g_X12_is_K44 I J ri rj rq ) else (bnI (g_X12_isPerson a1 I J ri rj rq) fun (x_94 : Int32) (_ : Nat → Int32) (_ : Nat → Int64) (_ : Nat → Nat → Int32) (_ : Nat → Nat → Int64) (_ : Nat → Nat → Option Nat) => (if x_94 = (0 : Int32) then (g_X12_is_K44 I J ri rj rq ) else (ap1 (g_X12_isMonth a2) fun (x_115 : Int32) => (if x_115 = (0 : Int32) then (g_X12_is_K44 I J ri rj rq ) else (ap1 ((2 : Int32) + a0) fun (x_136 : Int32) => (bnI (g_X12_isFor x_136 a1 a2 I J ri rj rq) fun (x_139 : Int32) (_ : Nat → Int32) (_ : Nat → Int64) (ri_141 : Nat → Nat → Int32) (rj_142 : Nat → Nat → Int64) (_ : Nat → Nat → Option Nat) => (if x_139 = (0 : Int32) then ((0 : Int32), I, J, ri_141, rj_142, rq) else ((1 : Int32), I, J, ri_141, rj_142, rq)))))))))) := rfl
set_option maxHeartbeats 4000000 in
set_option maxRecDepth 100000 in
theorem s_X12_is (l : Launch) (D : va_G) (t : pq_T) (σ : pq_S) (I : Nat → Nat → Int32) (J : Nat → Nat → Int64) (ri : Nat → Nat → Int32) (rj : Nat → Nat → Int64) (rq : Nat → Nat → Option Nat) (sz : Nat) (tg : Nat → Nat) (hSH : SH σ tg) (hG0 : GT tg I ri) (this : Nat) (a0 : Int32) (a1 : Int32) (a2 : Int32) (hL_this : this ∈ σ.1) (hK_this : σ.2.1 this = 12) : MetI l yX12_is (wa yX12_is cX12_is 4 (some .int)) ({ frames := 5, cells := 0, slots := 0, locals := 125 }) [.ref this, .int a0, .int a1, .int a2] D t σ (I, J, ri, rj, rq) sz 0 0 (fun (r : Int32) (u : pq_S × pq_M) => ∃ ri' : Nat → Nat → Int32, ∃ rj' : Nat → Nat → Int64, u = (σ, I, J, ri', rj', rq) ∧ GM [] tg σ I ri I ri' rq ∧ g_X12_is a0 a1 a2 (vI 12 σ this I) (vJ 12 σ this J) (vR 12 σ this ri) (vL 12 σ this rj) (vQ 12 σ this rq) = (r, (vI 12 σ this I), (vJ 12 σ this J), (vR 12 σ this ri'), (vL 12 σ this rj'), (vQ 12 σ this rq)) ∧ FR 12 tg σ this (I, J, ri, rj, rq) (I, J, ri', rj', rq) ∧ rg r (-1) 1) := by
  refine Met.ofW (cc := cX12_is) (maxL := 4) (ret := (some .int)) (by decide +kernel) rfl ?_
  intro p e s m args below meth c s₁ B hml hv
  obtain ⟨rfl, hsz, hP, hK, hD0, hN⟩ := hv
  have hx := B.exec
  have hb := B.bytes
  have hr := B.returns
  have hts := atoms_spec (ws := (wa yX12_is cX12_is 4 (some .int))) B.pre
  have hown : s.vm.findClass RX12 = some m.cls := findClass_of_methodNamed B.named
  have hlocks := B.notSynchronized
  subst hsz
  have hD : va_D (pq_B t σ (I, J, ri, rj, rq) s.heap.size) (pq_P t σ (I, J, ri, rj, rq)) := hD0.self
  generalize hAe : pq_B t σ (I, J, ri, rj, rq) s.heap.size = A at hD ⊢
  have hA : ∀ q : Nat, s.heap.size ≤ q → A q := fun q h => by rw [← hAe]; exact Or.inr h
  have hS : va_S A s.heap s.heap [] := va_S.rf
  have hG : GM [] tg σ I ri I ri rq := ⟨hG0, fun _ _ _ => rfl, fun _ _ _ _ _ => rfl, fun _ _ _ _ _ _ => rfl⟩
  have hl := lv_entry ([.ref this, .int a0, .int a1, .int a2]) (n := 4) (Nat.le_of_ble_eq_true rfl)
  rw [lg_entry_eq]
  generalize (lg_sl ([.ref this, .int a0, .int a1, .int a2]) ++ List.replicate (4 - (lg_sl ([.ref this, .int a0, .int a1, .int a2])).length) Slot.unset).toArray = ls at hl ⊢
  have hl : lv_has ls 4 [(0, .ref this), (1, .int a0), (2, .int a1), (3, .int a2)] := hl
  refine q_gen (fun Q hQ => ?_)
  have go : ∀ (H : Heap) (locs : List Loc) (ls : Array Slot), va_P D vwCl (pq_P t σ (I, J, ri, rj, rq)) H → va_D A (pq_P t σ (I, J, ri, rj, rq)) → va_S A s.heap H locs → lv_has ls 4 [(0, .ref this), (1, .int a0), (2, .int a1), (3, .int a2)] → W p l e ({ frames := 5, cells := 0, slots := 0, locals := 125 } : Room) s m (List.toArray ([.ref this, .int a0, .int a1, .int a2] : List Value)) below meth c H locs 0 0 Q (F0 m 0 ls []) := by
    intro H locs ls hP hD hS hl
    have hO_this : this = vo σ 12 this := rfl
    have hVT : VT 12 σ tg this := vt_12 hSH hL_this hK_this
    have hFr : FR 12 tg σ this (I, J, ri, rj, rq) (I, J, ri, rj, rq) := fr_rf
    obtain ⟨F, hF0⟩ : ∃ F, F = g_X12_is a0 a1 a2 (vI 12 σ this I) (vJ 12 σ this J) (vR 12 σ this ri) (vL 12 σ this rj) (vQ 12 σ this rq) := ⟨_, rfl⟩
    have hF := hF0.trans g_X12_is_e
    refine lv_iload_n hx hb dX12_is_0 rfl (lv_at hl 1 rfl) ?_
    refine lv_iconst (v := 0) hx hb dX12_is_1 (by decide +kernel) ?_
    refine lv_iconst (v := 2) hx hb dX12_is_2 (by decide +kernel) ?_
    refine pk_i (va_runS (As := [.int a0, .int 0, .int 2]) (rest := []) ⟨hx, hb, hml, hown, hts⟩ (s_X12_isIn l D t σ I J ri rj rq H.size tg hSH hG.1 a0 (0 : Int32) (2 : Int32)) (va_cwS 3 hts (tw_S tw_235 tw_236 tw_5 tw_237) rfl rfl rfl cd_yX12_isIn_3 ⟨Nat.le_of_ble_eq_true rfl, Nat.le_of_ble_eq_true rfl⟩) ⟨pq_blind, pq_pre hK hN hP hD⟩ rfl rfl hl.1 rfl (lv_room (Nat.le_of_ble_eq_true rfl)) dX12_is_3 ⟨Nat.le_of_ble_eq_true rfl, Nat.le_of_ble_eq_true rfl⟩) hD hS hA (fun x_1 σ1 μ1 H locs hw_2 hP hD hS => ?_)
    obtain ⟨hu_3, hfn_6, hr_5⟩ := hw_2
    obtain ⟨hu_3a, hu_3b⟩ := Prod.mk.inj hu_3
    rw [hu_3a, hu_3b] at hP hD
    replace hF := hF.trans (ap_n hfn_6.symm)
    have h_8 : rg x_1 0 1 := by rcases hr_5 with ⟨q, -⟩ | ⟨q, -⟩ <;> rw [q] <;> exact ⟨by decide +kernel, by decide +kernel⟩
    have uh_8 := h_8.1
    have vh_8 := h_8.2
    have K_70 : ∀  (H : Heap) (locs : List Loc) (ls : Array Slot), F = g_X12_is_K44 (vI 12 σ this I) (vJ 12 σ this J) (vR 12 σ this ri) (vL 12 σ this rj) (vQ 12 σ this rq)  → FR 12 tg σ this (I, J, ri, rj, rq) (I, J, ri, rj, rq) → GM [] tg σ I ri I ri rq → va_P D vwCl (pq_P t σ (I, J, ri, rj, rq)) H → va_D A (pq_P t σ (I, J, ri, rj, rq)) → va_S A s.heap H locs → lv_has ls 4 [] → W p l e ({ frames := 5, cells := 0, slots := 0, locals := 125 } : Room) s m (List.toArray ([.ref this, .int a0, .int a1, .int a2] : List Value)) below meth c H locs 0 0 Q (F0 m 44 ls []) := by
      intro H locs ls hF hFr hG hP hD hS hl
      replace hF := hF.trans g_X12_is_K44_e
      refine lv_iconst (v := (-1)) hx hb dX12_is_44 (by decide +kernel) ?_
      subst hQ
      exact W.iret (v := (-1)) hx hb hr (fun t1 ht hW => ⟨⟨(-1), (σ, I, J, ri, rj, rq), rfl, ⟨ri, rj, rfl, hG, (hF0.symm.trans hF), hFr, (rg_w (rg_k (-1 : Int32) (-1) rfl) (by decide +kernel))⟩, by rw [ht]; exact hP, va_K.moved hW.alike hK, hD⟩, hS.F ht⟩) hS.2.2 dX12_is_45
    refine lv_if_eq (tgt := 44) hx hb dX12_is_6 (by decide +kernel) (fun c_71 => ?_) (fun c_71 => ?_)
    · replace hF := hF.trans (if_pos c_71)
      have f_83 := (hr_5.resolve_left (fun q => absurd (q.1.symm.trans c_71) (by decide +kernel))).2
      have tc_84 : (x_1).toInt = 0 := congrArg Int32.toInt c_71
      have h_85 : rg x_1 0 0 := rg_and h_8 (rg_of_eq c_71 (rg_k (0 : Int32) 0 rfl)) (by decide +kernel)
      have uh_85 := h_85.1
      have vh_85 := h_85.2
      exact K_70 _ _ _ hF hFr hG hP hD hS (lv_sub hl [] rfl)
    · replace hF := hF.trans (if_neg c_71)
      obtain ⟨f_86, f_87⟩ := (hr_5.resolve_right (fun q => c_71 q.1)).2
      have tc_88 : 0 ≤ (a0).toInt := Int32.le_iff_toInt_le.mp f_86
      have h_89 : rg a0 0 2147483647 := rg_le2 f_86 (rg_k (0 : Int32) 0 rfl) (rg_full _) (by decide +kernel)
      have uh_89 := h_89.1
      have vh_89 := h_89.2
      have tc_90 : (a0).toInt ≤ 2 := Int32.le_iff_toInt_le.mp f_87
      have h_91 : rg a0 0 2 := rg_le1 f_87 h_89 (rg_k (2 : Int32) 2 rfl) (by decide +kernel)
      have uh_91 := h_91.1
      have vh_91 := h_91.2
      have tc_92 : (x_1).toInt ≠ 0 := fun q => c_71 (Int32.toInt_inj.mp q)
      have h_93 : rg x_1 1 1 := rg_ne c_71 h_8 0 rfl (by decide +kernel)
      have uh_93 := h_93.1
      have vh_93 := h_93.2
      refine lv_aload_n hx hb dX12_is_9 rfl (lv_at hl 0 rfl) ?_
      refine lv_iload_n hx hb dX12_is_10 rfl (lv_at hl 2 rfl) ?_
      refine pk_i (va_runV (As := [.int a1]) (rest := []) ⟨hx, hb, hml, hown, hts⟩ (s_X12_isPerson l D t σ I J ri rj rq H.size tg hSH hG.1 this a1 hL_this hK_this) (cwV 1 hts (tw_V tw_425 tw_426 tw_427 tw_5 tw_428) rfl rfl rfl cv_yX12_isPerson_1 ⟨Nat.le_of_ble_eq_true rfl, Nat.le_of_ble_eq_true rfl⟩) ⟨pq_blind, pq_recv hK hP hL_this hK_this (by decide +kernel) rfl, pq_pre hK hN hP hD⟩ rfl rfl hl.1 rfl (lv_room (Nat.le_of_ble_eq_true rfl)) dX12_is_11 ⟨Nat.le_of_ble_eq_true rfl, Nat.le_of_ble_eq_true rfl⟩) hD hS hA (fun x_94 σ1 μ1 H locs hw_95 hP hD hS => ?_)
      obtain ⟨hu_96, hfn_99, hr_98⟩ := hw_95
      obtain ⟨hu_96a, hu_96b⟩ := Prod.mk.inj hu_96
      rw [hu_96a, hu_96b] at hP hD
      replace hF := hF.trans (bn_n hfn_99)
      have h_101 : rg x_94 0 1 := by rcases hr_98 with ⟨q, -⟩ | ⟨q, -⟩ <;> rw [q] <;> exact ⟨by decide +kernel, by decide +kernel⟩
      have uh_101 := h_101.1
      have vh_101 := h_101.2
      refine lv_if_eq (tgt := 44) hx hb dX12_is_14 (by decide +kernel) (fun c_102 => ?_) (fun c_102 => ?_)
      · replace hF := hF.trans (if_pos c_102)
        have f_109 := (hr_98.resolve_left (fun q => absurd (q.1.symm.trans c_102) (by decide +kernel))).2
        have tc_110 : (x_94).toInt = 0 := congrArg Int32.toInt c_102
        have h_111 : rg x_94 0 0 := rg_and h_101 (rg_of_eq c_102 (rg_k (0 : Int32) 0 rfl)) (by decide +kernel)
        have uh_111 := h_111.1
        have vh_111 := h_111.2
        exact K_70 _ _ _ hF hFr hG hP hD hS (lv_sub hl [] rfl)
      · replace hF := hF.trans (if_neg c_102)
        have f_112 := (hr_98.resolve_right (fun q => c_102 q.1)).2
        have uf_112 := f_112.1
        have vf_112 := f_112.2
        have tc_113 : (x_94).toInt ≠ 0 := fun q => c_102 (Int32.toInt_inj.mp q)
        have h_114 : rg x_94 1 1 := rg_ne c_102 h_101 0 rfl (by decide +kernel)
        have uh_114 := h_114.1
        have vh_114 := h_114.2
        refine lv_iload_n hx hb dX12_is_17 rfl (lv_at hl 3 rfl) ?_
        refine pk_i (va_runS (As := [.int a2]) (rest := []) ⟨hx, hb, hml, hown, hts⟩ (s_X12_isMonth l D t σ I J ri rj rq H.size tg hSH hG.1 a2) (va_cwS 1 hts (tw_S tw_262 tw_263 tw_5 tw_264) rfl rfl rfl cd_yX12_isMonth_1 ⟨Nat.le_of_ble_eq_true rfl, Nat.le_of_ble_eq_true rfl⟩) ⟨pq_blind, pq_pre hK hN hP hD⟩ rfl rfl hl.1 rfl (lv_room (Nat.le_of_ble_eq_true rfl)) dX12_is_18 ⟨Nat.le_of_ble_eq_true rfl, Nat.le_of_ble_eq_true rfl⟩) hD hS hA (fun x_115 σ1 μ1 H locs hw_116 hP hD hS => ?_)
        obtain ⟨hu_117, hfn_120, hr_119⟩ := hw_116
        obtain ⟨hu_117a, hu_117b⟩ := Prod.mk.inj hu_117
        rw [hu_117a, hu_117b] at hP hD
        replace hF := hF.trans (ap_n hfn_120.symm)
        have h_122 : rg x_115 0 1 := by rcases hr_119 with ⟨q, -⟩ | ⟨q, -⟩ <;> rw [q] <;> exact ⟨by decide +kernel, by decide +kernel⟩
        have uh_122 := h_122.1
        have vh_122 := h_122.2
        refine lv_if_eq (tgt := 44) hx hb dX12_is_21 (by decide +kernel) (fun c_123 => ?_) (fun c_123 => ?_)
        · replace hF := hF.trans (if_pos c_123)
          have f_130 := (hr_119.resolve_left (fun q => absurd (q.1.symm.trans c_123) (by decide +kernel))).2
          have tc_131 : (x_115).toInt = 0 := congrArg Int32.toInt c_123
          have h_132 : rg x_115 0 0 := rg_and h_122 (rg_of_eq c_123 (rg_k (0 : Int32) 0 rfl)) (by decide +kernel)
          have uh_132 := h_132.1
          have vh_132 := h_132.2
          exact K_70 _ _ _ hF hFr hG hP hD hS (lv_sub hl [] rfl)
        · replace hF := hF.trans (if_neg c_123)
          have f_133 := (hr_119.resolve_right (fun q => c_123 q.1)).2
          have uf_133 := f_133.1
          have vf_133 := f_133.2
          have tc_134 : (x_115).toInt ≠ 0 := fun q => c_123 (Int32.toInt_inj.mp q)
          have h_135 : rg x_115 1 1 := rg_ne c_123 h_122 0 rfl (by decide +kernel)
          have uh_135 := h_135.1
          have vh_135 := h_135.2
          refine lv_aload_n hx hb dX12_is_24 rfl (lv_at hl 0 rfl) ?_
          refine lv_iconst (v := 2) hx hb dX12_is_25 (by decide +kernel) ?_
          refine lv_iload_n hx hb dX12_is_26 rfl (lv_at hl 1 rfl) ?_
          refine lv_iadd hx hb dX12_is_27 ?_
          refine lv_topi (fun x_136 ex_136 => ?_)
          replace hF := hF.trans (ap_n ex_136)
          have h_137 : rg x_136 2 4 := rg_of_eq ex_136 (rg_add (rg_k (2 : Int32) 2 rfl) h_91 (by decide +kernel))
          have uh_137 := h_137.1
          have vh_137 := h_137.2
          have tx_136 : (x_136).toInt = 2 + (a0).toInt := by rw [ex_136]; exact i_add_rg (a2 := 2) (b2 := (a0).toInt) rfl rfl (rg_k (2 : Int32) 2 rfl) h_91 (by decide +kernel)
          refine lv_iload_n hx hb dX12_is_28 rfl (lv_at hl 2 rfl) ?_
          refine lv_iload_n hx hb dX12_is_29 rfl (lv_at hl 3 rfl) ?_
          obtain ⟨w_138, hR_w_138, hL_w_138, hK_w_138, hN_w_138, hT_w_138⟩ := sh_a hSH 384 (ci := 12) (kd := 13) (len := 12720) rfl (by decide +kernel) hL_this hK_this
          have hO_w_138 : w_138 = vrow σ 384 this := vo_k (c := 12) hO_this hR_w_138
          refine pk_i (va_runV (As := [.int x_136, .int a1, .int a2]) (rest := []) ⟨hx, hb, hml, hown, hts⟩ (s_X12_isFor l D t σ I J ri rj rq H.size tg hSH hG.1 this x_136 a1 a2 hL_this hK_this (rg_w h_137 (by decide +kernel)) (rg_w f_112 (by decide +kernel)) w_138 hR_w_138 hL_w_138 hK_w_138 hN_w_138 hT_w_138) (cwV 3 hts (tw_V tw_971 tw_972 tw_973 tw_5 tw_974) rfl rfl rfl cv_yX12_isFor_3 ⟨Nat.le_of_ble_eq_true rfl, Nat.le_of_ble_eq_true rfl⟩) ⟨pq_blind, pq_recv hK hP hL_this hK_this (by decide +kernel) rfl, pq_pre hK hN hP hD⟩ rfl rfl hl.1 rfl (lv_room (Nat.le_of_ble_eq_true rfl)) dX12_is_30 ⟨Nat.le_of_ble_eq_true rfl, Nat.le_of_ble_eq_true rfl⟩) hD hS hA (fun x_139 σ1 μ1 H locs hw_140 hP hD hS => ?_)
          obtain ⟨ri_141, rj_142, hu_143, hg_144, hp_146, hfn_147, hfr_148, hr_145⟩ := hw_140
          obtain ⟨hu_143a, hu_143b⟩ := Prod.mk.inj hu_143
          rw [hu_143a, hu_143b] at hP hD
          replace hF := hF.trans (bn_n hfn_147)
          replace hFr := fr_tr hFr hfr_148
          have hG := GM.tr hG hg_144 (by decide +kernel)
          have h_149 : rg x_139 0 1 := by rcases hr_145 with ⟨q, -⟩ | ⟨q, -⟩ <;> rw [q] <;> exact ⟨by decide +kernel, by decide +kernel⟩
          have uh_149 := h_149.1
          have vh_149 := h_149.2
          refine lv_if_eq (tgt := 40) hx hb dX12_is_33 (by decide +kernel) (fun c_150 => ?_) (fun c_150 => ?_)
          · replace hF := hF.trans (if_pos c_150)
            have tc_155 : (x_139).toInt = 0 := congrArg Int32.toInt c_150
            have h_156 : rg x_139 0 0 := rg_and h_149 (rg_of_eq c_150 (rg_k (0 : Int32) 0 rfl)) (by decide +kernel)
            have uh_156 := h_156.1
            have vh_156 := h_156.2
            refine lv_iconst (v := 0) hx hb dX12_is_40 (by decide +kernel) ?_
            refine lv_goto (tgt := 45) hx hb dX12_is_41 (by decide +kernel) ?_
            subst hQ
            exact W.iret (v := 0) hx hb hr (fun t1 ht hW => ⟨⟨0, (σ, I, J, ri_141, rj_142, rq), rfl, ⟨ri_141, rj_142, rfl, hG, (hF0.symm.trans hF), hFr, (rg_w (rg_k (0 : Int32) 0 rfl) (by decide +kernel))⟩, by rw [ht]; exact hP, va_K.moved hW.alike hK, hD⟩, hS.F ht⟩) hS.2.2 dX12_is_45
          · replace hF := hF.trans (if_neg c_150)
            have tc_157 : (x_139).toInt ≠ 0 := fun q => c_150 (Int32.toInt_inj.mp q)
            have h_158 : rg x_139 1 1 := rg_ne c_150 h_149 0 rfl (by decide +kernel)
            have uh_158 := h_158.1
            have vh_158 := h_158.2
            refine lv_iconst (v := 1) hx hb dX12_is_36 (by decide +kernel) ?_
            refine lv_goto (tgt := 45) hx hb dX12_is_37 (by decide +kernel) ?_
            subst hQ
            exact W.iret (v := 1) hx hb hr (fun t1 ht hW => ⟨⟨1, (σ, I, J, ri_141, rj_142, rq), rfl, ⟨ri_141, rj_142, rfl, hG, (hF0.symm.trans hF), hFr, (rg_w (rg_k (1 : Int32) 1 rfl) (by decide +kernel))⟩, by rw [ht]; exact hP, va_K.moved hW.alike hK, hD⟩, hS.F ht⟩) hS.2.2 dX12_is_45
  exact go _ _ _ hP hD hS hl

set_option maxRecDepth 100000 in
def g_X12_why_K37 (I : Nat → Int32) (J : Nat → Int64) (ri : Nat → Nat → Int32) (rj : Nat → Nat → Int64) (rq : Nat → Nat → Option Nat) : Int32 × vM := ((-1 : Int32), I, J, ri, rj, rq)
set_option maxRecDepth 100000 in
theorem g_X12_why_K37_e {I : Nat → Int32} {J : Nat → Int64} {ri : Nat → Nat → Int32} {rj : Nat → Nat → Int64} {rq : Nat → Nat → Option Nat} : g_X12_why_K37 I J ri rj rq  = ((-1 : Int32), I, J, ri, rj, rq) := rfl
set_option maxRecDepth 100000 in
def g_X12_why (a0 : Int32) (a1 : Int32) (a2 : Int32) (I : Nat → Int32) (J : Nat → Int64) (ri : Nat → Nat → Int32) (rj : Nat → Nat → Int64) (rq : Nat → Nat → Option Nat) : Int32 × vM := (ap1 (g_X12_isIn a0 (0 : Int32) (2 : Int32)) fun (x_1 : Int32) => (if x_1 = (0 : Int32) then (g_X12_why_K37 I J ri rj rq ) else (bnI (g_X12_isPerson a1 I J ri rj rq) fun (x_88 : Int32) (_ : Nat → Int32) (_ : Nat → Int64) (_ : Nat → Nat → Int32) (_ : Nat → Nat → Int64) (_ : Nat → Nat → Option Nat) => (if x_88 = (0 : Int32) then (g_X12_why_K37 I J ri rj rq ) else (ap1 (g_X12_isMonth a2) fun (x_109 : Int32) => (if x_109 = (0 : Int32) then (g_X12_why_K37 I J ri rj rq ) else (ap1 ((2 : Int32) + a0) fun (x_130 : Int32) => (bnI (g_X12_firstSo x_130 a1 a2 (0 : Int32) I J ri rj rq) fun (x_133 : Int32) (_ : Nat → Int32) (_ : Nat → Int64) (ri_135 : Nat → Nat → Int32) (rj_136 : Nat → Nat → Int64) (_ : Nat → Nat → Option Nat) => (x_133, I, J, ri_135, rj_136, rq)))))))))
set_option maxRecDepth 100000 in
theorem g_X12_why_e {a0 : Int32} {a1 : Int32} {a2 : Int32} {I : Nat → Int32} {J : Nat → Int64} {ri : Nat → Nat → Int32} {rj : Nat → Nat → Int64} {rq : Nat → Nat → Option Nat} : g_X12_why a0 a1 a2 I J ri rj rq = (ap1 (g_X12_isIn a0 (0 : Int32) (2 : Int32)) fun (x_1 : Int32) => (if x_1 = (0 : Int32) then (g_X12_why_K37 I J ri rj rq ) else (bnI (g_X12_isPerson a1 I J ri rj rq) fun (x_88 : Int32) (_ : Nat → Int32) (_ : Nat → Int64) (_ : Nat → Nat → Int32) (_ : Nat → Nat → Int64) (_ : Nat → Nat → Option Nat) => (if x_88 = (0 : Int32) then (g_X12_why_K37 I J ri rj rq ) else (ap1 (g_X12_isMonth a2) fun (x_109 : Int32) => (if x_109 = (0 : Int32) then (g_X12_why_K37 I J ri rj rq ) else (ap1 ((2 : Int32) + a0) fun (x_130 : Int32) => (bnI (g_X12_firstSo x_130 a1 a2 (0 : Int32) I J ri rj rq) fun (x_133 : Int32) (_ : Nat → Int32) (_ : Nat → Int64) (ri_135 : Nat → Nat → Int32) (rj_136 : Nat → Nat → Int64) (_ : Nat → Nat → Option Nat) => (x_133, I, J, ri_135, rj_136, rq))))))))) := rfl
set_option maxHeartbeats 4000000 in
set_option maxRecDepth 100000 in
theorem s_X12_why (l : Launch) (D : va_G) (t : pq_T) (σ : pq_S) (I : Nat → Nat → Int32) (J : Nat → Nat → Int64) (ri : Nat → Nat → Int32) (rj : Nat → Nat → Int64) (rq : Nat → Nat → Option Nat) (sz : Nat) (tg : Nat → Nat) (hSH : SH σ tg) (hG0 : GT tg I ri) (this : Nat) (a0 : Int32) (a1 : Int32) (a2 : Int32) (hL_this : this ∈ σ.1) (hK_this : σ.2.1 this = 12) : MetI l yX12_why (wa yX12_why cX12_why 4 (some .int)) ({ frames := 4, cells := 0, slots := 0, locals := 102 }) [.ref this, .int a0, .int a1, .int a2] D t σ (I, J, ri, rj, rq) sz 0 0 (fun (r : Int32) (u : pq_S × pq_M) => ∃ ri' : Nat → Nat → Int32, ∃ rj' : Nat → Nat → Int64, u = (σ, I, J, ri', rj', rq) ∧ GM [] tg σ I ri I ri' rq ∧ g_X12_why a0 a1 a2 (vI 12 σ this I) (vJ 12 σ this J) (vR 12 σ this ri) (vL 12 σ this rj) (vQ 12 σ this rq) = (r, (vI 12 σ this I), (vJ 12 σ this J), (vR 12 σ this ri'), (vL 12 σ this rj'), (vQ 12 σ this rq)) ∧ FR 12 tg σ this (I, J, ri, rj, rq) (I, J, ri', rj', rq) ∧ rg r (-1) 19) := by
  refine Met.ofW (cc := cX12_why) (maxL := 4) (ret := (some .int)) (by decide +kernel) rfl ?_
  intro p e s m args below meth c s₁ B hml hv
  obtain ⟨rfl, hsz, hP, hK, hD0, hN⟩ := hv
  have hx := B.exec
  have hb := B.bytes
  have hr := B.returns
  have hts := atoms_spec (ws := (wa yX12_why cX12_why 4 (some .int))) B.pre
  have hown : s.vm.findClass RX12 = some m.cls := findClass_of_methodNamed B.named
  have hlocks := B.notSynchronized
  subst hsz
  have hD : va_D (pq_B t σ (I, J, ri, rj, rq) s.heap.size) (pq_P t σ (I, J, ri, rj, rq)) := hD0.self
  generalize hAe : pq_B t σ (I, J, ri, rj, rq) s.heap.size = A at hD ⊢
  have hA : ∀ q : Nat, s.heap.size ≤ q → A q := fun q h => by rw [← hAe]; exact Or.inr h
  have hS : va_S A s.heap s.heap [] := va_S.rf
  have hG : GM [] tg σ I ri I ri rq := ⟨hG0, fun _ _ _ => rfl, fun _ _ _ _ _ => rfl, fun _ _ _ _ _ _ => rfl⟩
  have hl := lv_entry ([.ref this, .int a0, .int a1, .int a2]) (n := 4) (Nat.le_of_ble_eq_true rfl)
  rw [lg_entry_eq]
  generalize (lg_sl ([.ref this, .int a0, .int a1, .int a2]) ++ List.replicate (4 - (lg_sl ([.ref this, .int a0, .int a1, .int a2])).length) Slot.unset).toArray = ls at hl ⊢
  have hl : lv_has ls 4 [(0, .ref this), (1, .int a0), (2, .int a1), (3, .int a2)] := hl
  refine q_gen (fun Q hQ => ?_)
  have go : ∀ (H : Heap) (locs : List Loc) (ls : Array Slot), va_P D vwCl (pq_P t σ (I, J, ri, rj, rq)) H → va_D A (pq_P t σ (I, J, ri, rj, rq)) → va_S A s.heap H locs → lv_has ls 4 [(0, .ref this), (1, .int a0), (2, .int a1), (3, .int a2)] → W p l e ({ frames := 4, cells := 0, slots := 0, locals := 102 } : Room) s m (List.toArray ([.ref this, .int a0, .int a1, .int a2] : List Value)) below meth c H locs 0 0 Q (F0 m 0 ls []) := by
    intro H locs ls hP hD hS hl
    have hO_this : this = vo σ 12 this := rfl
    have hVT : VT 12 σ tg this := vt_12 hSH hL_this hK_this
    have hFr : FR 12 tg σ this (I, J, ri, rj, rq) (I, J, ri, rj, rq) := fr_rf
    obtain ⟨F, hF0⟩ : ∃ F, F = g_X12_why a0 a1 a2 (vI 12 σ this I) (vJ 12 σ this J) (vR 12 σ this ri) (vL 12 σ this rj) (vQ 12 σ this rq) := ⟨_, rfl⟩
    have hF := hF0.trans g_X12_why_e
    refine lv_iload_n hx hb dX12_why_0 rfl (lv_at hl 1 rfl) ?_
    refine lv_iconst (v := 0) hx hb dX12_why_1 (by decide +kernel) ?_
    refine lv_iconst (v := 2) hx hb dX12_why_2 (by decide +kernel) ?_
    refine pk_i (va_runS (As := [.int a0, .int 0, .int 2]) (rest := []) ⟨hx, hb, hml, hown, hts⟩ (s_X12_isIn l D t σ I J ri rj rq H.size tg hSH hG.1 a0 (0 : Int32) (2 : Int32)) (va_cwS 3 hts (tw_S tw_235 tw_236 tw_5 tw_237) rfl rfl rfl cd_yX12_isIn_3 ⟨Nat.le_of_ble_eq_true rfl, Nat.le_of_ble_eq_true rfl⟩) ⟨pq_blind, pq_pre hK hN hP hD⟩ rfl rfl hl.1 rfl (lv_room (Nat.le_of_ble_eq_true rfl)) dX12_why_3 ⟨Nat.le_of_ble_eq_true rfl, Nat.le_of_ble_eq_true rfl⟩) hD hS hA (fun x_1 σ1 μ1 H locs hw_2 hP hD hS => ?_)
    obtain ⟨hu_3, hfn_6, hr_5⟩ := hw_2
    obtain ⟨hu_3a, hu_3b⟩ := Prod.mk.inj hu_3
    rw [hu_3a, hu_3b] at hP hD
    replace hF := hF.trans (ap_n hfn_6.symm)
    have h_8 : rg x_1 0 1 := by rcases hr_5 with ⟨q, -⟩ | ⟨q, -⟩ <;> rw [q] <;> exact ⟨by decide +kernel, by decide +kernel⟩
    have uh_8 := h_8.1
    have vh_8 := h_8.2
    have K_64 : ∀  (H : Heap) (locs : List Loc) (ls : Array Slot), F = g_X12_why_K37 (vI 12 σ this I) (vJ 12 σ this J) (vR 12 σ this ri) (vL 12 σ this rj) (vQ 12 σ this rq)  → FR 12 tg σ this (I, J, ri, rj, rq) (I, J, ri, rj, rq) → GM [] tg σ I ri I ri rq → va_P D vwCl (pq_P t σ (I, J, ri, rj, rq)) H → va_D A (pq_P t σ (I, J, ri, rj, rq)) → va_S A s.heap H locs → lv_has ls 4 [] → W p l e ({ frames := 4, cells := 0, slots := 0, locals := 102 } : Room) s m (List.toArray ([.ref this, .int a0, .int a1, .int a2] : List Value)) below meth c H locs 0 0 Q (F0 m 37 ls []) := by
      intro H locs ls hF hFr hG hP hD hS hl
      replace hF := hF.trans g_X12_why_K37_e
      refine lv_iconst (v := (-1)) hx hb dX12_why_37 (by decide +kernel) ?_
      subst hQ
      exact W.iret (v := (-1)) hx hb hr (fun t1 ht hW => ⟨⟨(-1), (σ, I, J, ri, rj, rq), rfl, ⟨ri, rj, rfl, hG, (hF0.symm.trans hF), hFr, (rg_w (rg_k (-1 : Int32) (-1) rfl) (by decide +kernel))⟩, by rw [ht]; exact hP, va_K.moved hW.alike hK, hD⟩, hS.F ht⟩) hS.2.2 dX12_why_38
    refine lv_if_eq (tgt := 37) hx hb dX12_why_6 (by decide +kernel) (fun c_65 => ?_) (fun c_65 => ?_)
    · replace hF := hF.trans (if_pos c_65)
      have f_77 := (hr_5.resolve_left (fun q => absurd (q.1.symm.trans c_65) (by decide +kernel))).2
      have tc_78 : (x_1).toInt = 0 := congrArg Int32.toInt c_65
      have h_79 : rg x_1 0 0 := rg_and h_8 (rg_of_eq c_65 (rg_k (0 : Int32) 0 rfl)) (by decide +kernel)
      have uh_79 := h_79.1
      have vh_79 := h_79.2
      exact K_64 _ _ _ hF hFr hG hP hD hS (lv_sub hl [] rfl)
    · replace hF := hF.trans (if_neg c_65)
      obtain ⟨f_80, f_81⟩ := (hr_5.resolve_right (fun q => c_65 q.1)).2
      have tc_82 : 0 ≤ (a0).toInt := Int32.le_iff_toInt_le.mp f_80
      have h_83 : rg a0 0 2147483647 := rg_le2 f_80 (rg_k (0 : Int32) 0 rfl) (rg_full _) (by decide +kernel)
      have uh_83 := h_83.1
      have vh_83 := h_83.2
      have tc_84 : (a0).toInt ≤ 2 := Int32.le_iff_toInt_le.mp f_81
      have h_85 : rg a0 0 2 := rg_le1 f_81 h_83 (rg_k (2 : Int32) 2 rfl) (by decide +kernel)
      have uh_85 := h_85.1
      have vh_85 := h_85.2
      have tc_86 : (x_1).toInt ≠ 0 := fun q => c_65 (Int32.toInt_inj.mp q)
      have h_87 : rg x_1 1 1 := rg_ne c_65 h_8 0 rfl (by decide +kernel)
      have uh_87 := h_87.1
      have vh_87 := h_87.2
      refine lv_aload_n hx hb dX12_why_9 rfl (lv_at hl 0 rfl) ?_
      refine lv_iload_n hx hb dX12_why_10 rfl (lv_at hl 2 rfl) ?_
      refine pk_i (va_runV (As := [.int a1]) (rest := []) ⟨hx, hb, hml, hown, hts⟩ (s_X12_isPerson l D t σ I J ri rj rq H.size tg hSH hG.1 this a1 hL_this hK_this) (cwV 1 hts (tw_V tw_425 tw_426 tw_427 tw_5 tw_428) rfl rfl rfl cv_yX12_isPerson_1 ⟨Nat.le_of_ble_eq_true rfl, Nat.le_of_ble_eq_true rfl⟩) ⟨pq_blind, pq_recv hK hP hL_this hK_this (by decide +kernel) rfl, pq_pre hK hN hP hD⟩ rfl rfl hl.1 rfl (lv_room (Nat.le_of_ble_eq_true rfl)) dX12_why_11 ⟨Nat.le_of_ble_eq_true rfl, Nat.le_of_ble_eq_true rfl⟩) hD hS hA (fun x_88 σ1 μ1 H locs hw_89 hP hD hS => ?_)
      obtain ⟨hu_90, hfn_93, hr_92⟩ := hw_89
      obtain ⟨hu_90a, hu_90b⟩ := Prod.mk.inj hu_90
      rw [hu_90a, hu_90b] at hP hD
      replace hF := hF.trans (bn_n hfn_93)
      have h_95 : rg x_88 0 1 := by rcases hr_92 with ⟨q, -⟩ | ⟨q, -⟩ <;> rw [q] <;> exact ⟨by decide +kernel, by decide +kernel⟩
      have uh_95 := h_95.1
      have vh_95 := h_95.2
      refine lv_if_eq (tgt := 37) hx hb dX12_why_14 (by decide +kernel) (fun c_96 => ?_) (fun c_96 => ?_)
      · replace hF := hF.trans (if_pos c_96)
        have f_103 := (hr_92.resolve_left (fun q => absurd (q.1.symm.trans c_96) (by decide +kernel))).2
        have tc_104 : (x_88).toInt = 0 := congrArg Int32.toInt c_96
        have h_105 : rg x_88 0 0 := rg_and h_95 (rg_of_eq c_96 (rg_k (0 : Int32) 0 rfl)) (by decide +kernel)
        have uh_105 := h_105.1
        have vh_105 := h_105.2
        exact K_64 _ _ _ hF hFr hG hP hD hS (lv_sub hl [] rfl)
      · replace hF := hF.trans (if_neg c_96)
        have f_106 := (hr_92.resolve_right (fun q => c_96 q.1)).2
        have uf_106 := f_106.1
        have vf_106 := f_106.2
        have tc_107 : (x_88).toInt ≠ 0 := fun q => c_96 (Int32.toInt_inj.mp q)
        have h_108 : rg x_88 1 1 := rg_ne c_96 h_95 0 rfl (by decide +kernel)
        have uh_108 := h_108.1
        have vh_108 := h_108.2
        refine lv_iload_n hx hb dX12_why_17 rfl (lv_at hl 3 rfl) ?_
        refine pk_i (va_runS (As := [.int a2]) (rest := []) ⟨hx, hb, hml, hown, hts⟩ (s_X12_isMonth l D t σ I J ri rj rq H.size tg hSH hG.1 a2) (va_cwS 1 hts (tw_S tw_262 tw_263 tw_5 tw_264) rfl rfl rfl cd_yX12_isMonth_1 ⟨Nat.le_of_ble_eq_true rfl, Nat.le_of_ble_eq_true rfl⟩) ⟨pq_blind, pq_pre hK hN hP hD⟩ rfl rfl hl.1 rfl (lv_room (Nat.le_of_ble_eq_true rfl)) dX12_why_18 ⟨Nat.le_of_ble_eq_true rfl, Nat.le_of_ble_eq_true rfl⟩) hD hS hA (fun x_109 σ1 μ1 H locs hw_110 hP hD hS => ?_)
        obtain ⟨hu_111, hfn_114, hr_113⟩ := hw_110
        obtain ⟨hu_111a, hu_111b⟩ := Prod.mk.inj hu_111
        rw [hu_111a, hu_111b] at hP hD
        replace hF := hF.trans (ap_n hfn_114.symm)
        have h_116 : rg x_109 0 1 := by rcases hr_113 with ⟨q, -⟩ | ⟨q, -⟩ <;> rw [q] <;> exact ⟨by decide +kernel, by decide +kernel⟩
        have uh_116 := h_116.1
        have vh_116 := h_116.2
        refine lv_if_eq (tgt := 37) hx hb dX12_why_21 (by decide +kernel) (fun c_117 => ?_) (fun c_117 => ?_)
        · replace hF := hF.trans (if_pos c_117)
          have f_124 := (hr_113.resolve_left (fun q => absurd (q.1.symm.trans c_117) (by decide +kernel))).2
          have tc_125 : (x_109).toInt = 0 := congrArg Int32.toInt c_117
          have h_126 : rg x_109 0 0 := rg_and h_116 (rg_of_eq c_117 (rg_k (0 : Int32) 0 rfl)) (by decide +kernel)
          have uh_126 := h_126.1
          have vh_126 := h_126.2
          exact K_64 _ _ _ hF hFr hG hP hD hS (lv_sub hl [] rfl)
        · replace hF := hF.trans (if_neg c_117)
          have f_127 := (hr_113.resolve_right (fun q => c_117 q.1)).2
          have uf_127 := f_127.1
          have vf_127 := f_127.2
          have tc_128 : (x_109).toInt ≠ 0 := fun q => c_117 (Int32.toInt_inj.mp q)
          have h_129 : rg x_109 1 1 := rg_ne c_117 h_116 0 rfl (by decide +kernel)
          have uh_129 := h_129.1
          have vh_129 := h_129.2
          refine lv_aload_n hx hb dX12_why_24 rfl (lv_at hl 0 rfl) ?_
          refine lv_iconst (v := 2) hx hb dX12_why_25 (by decide +kernel) ?_
          refine lv_iload_n hx hb dX12_why_26 rfl (lv_at hl 1 rfl) ?_
          refine lv_iadd hx hb dX12_why_27 ?_
          refine lv_topi (fun x_130 ex_130 => ?_)
          replace hF := hF.trans (ap_n ex_130)
          have h_131 : rg x_130 2 4 := rg_of_eq ex_130 (rg_add (rg_k (2 : Int32) 2 rfl) h_85 (by decide +kernel))
          have uh_131 := h_131.1
          have vh_131 := h_131.2
          have tx_130 : (x_130).toInt = 2 + (a0).toInt := by rw [ex_130]; exact i_add_rg (a2 := 2) (b2 := (a0).toInt) rfl rfl (rg_k (2 : Int32) 2 rfl) h_85 (by decide +kernel)
          refine lv_iload_n hx hb dX12_why_28 rfl (lv_at hl 2 rfl) ?_
          refine lv_iload_n hx hb dX12_why_29 rfl (lv_at hl 3 rfl) ?_
          refine lv_iconst (v := 0) hx hb dX12_why_30 (by decide +kernel) ?_
          obtain ⟨w_132, hR_w_132, hL_w_132, hK_w_132, hN_w_132, hT_w_132⟩ := sh_a hSH 384 (ci := 12) (kd := 13) (len := 12720) rfl (by decide +kernel) hL_this hK_this
          have hO_w_132 : w_132 = vrow σ 384 this := vo_k (c := 12) hO_this hR_w_132
          refine pk_i (va_runV (As := [.int x_130, .int a1, .int a2, .int 0]) (rest := []) ⟨hx, hb, hml, hown, hts⟩ (s_X12_firstSo l D t σ I J ri rj rq H.size tg hSH hG.1 this x_130 a1 a2 (0 : Int32) hL_this hK_this (rg_w h_131 (by decide +kernel)) (rg_w f_106 (by decide +kernel)) w_132 hR_w_132 hL_w_132 hK_w_132 hN_w_132 hT_w_132) (cwV 4 hts (tw_V tw_597 tw_598 tw_599 tw_5 tw_600) rfl rfl rfl cv_yX12_firstSo_4 ⟨Nat.le_of_ble_eq_true rfl, Nat.le_of_ble_eq_true rfl⟩) ⟨pq_blind, pq_recv hK hP hL_this hK_this (by decide +kernel) rfl, pq_pre hK hN hP hD⟩ rfl rfl hl.1 rfl (lv_room (Nat.le_of_ble_eq_true rfl)) dX12_why_31 ⟨Nat.le_of_ble_eq_true rfl, Nat.le_of_ble_eq_true rfl⟩) hD hS hA (fun x_133 σ1 μ1 H locs hw_134 hP hD hS => ?_)
          obtain ⟨ri_135, rj_136, hu_137, hg_138, hp_140, hfn_141, hfr_142, hr_139⟩ := hw_134
          obtain ⟨hu_137a, hu_137b⟩ := Prod.mk.inj hu_137
          rw [hu_137a, hu_137b] at hP hD
          replace hF := hF.trans (bn_n hfn_141)
          replace hFr := fr_tr hFr hfr_142
          have hG := GM.tr hG hg_138 (by decide +kernel)
          refine lv_goto (tgt := 38) hx hb dX12_why_34 (by decide +kernel) ?_
          subst hQ
          exact W.iret (v := x_133) hx hb hr (fun t1 ht hW => ⟨⟨x_133, (σ, I, J, ri_135, rj_136, rq), rfl, ⟨ri_135, rj_136, rfl, hG, (hF0.symm.trans hF), hFr, (rg_w hr_139 (by decide +kernel))⟩, by rw [ht]; exact hP, va_K.moved hW.alike hK, hD⟩, hS.F ht⟩) hS.2.2 dX12_why_38
  exact go _ _ _ hP hD hS hl
theorem dX12_says_0 : decode cX12_says 0 = .ok (.iload_n 1, 1) := oc_27 (by decide +kernel)
theorem dX12_says_1 : decode cX12_says 1 = .ok (.invokestatic 73, 3) := oc_184 (a := 0) (b := 73) (by decide +kernel)
theorem dX12_says_4 : decode cX12_says 4 = .ok (.ifCond .ne 5, 3) := oc_154 (a := 0) (b := 5) (by decide +kernel)
theorem dX12_says_9 : decode cX12_says 9 = .ok (.iload_n 2, 1) := oc_28 (by decide +kernel)
theorem dX12_says_10 : decode cX12_says 10 = .ok (.ifCond .ne 15, 3) := oc_154 (a := 0) (b := 15) (by decide +kernel)
theorem dX12_says_25 : decode cX12_says 25 = .ok (.iload_n 2, 1) := oc_28 (by decide +kernel)
theorem dX12_says_26 : decode cX12_says 26 = .ok (.iconst 1, 1) := oc_4 (by decide +kernel)
theorem dX12_says_27 : decode cX12_says 27 = .ok (.if_icmp .ne 15, 3) := oc_160 (a := 0) (b := 15) (by decide +kernel)
theorem dX12_says_42 : decode cX12_says 42 = .ok (.iload_n 2, 1) := oc_28 (by decide +kernel)
theorem dX12_says_43 : decode cX12_says 43 = .ok (.iconst 2, 1) := oc_5 (by decide +kernel)
theorem dX12_says_44 : decode cX12_says 44 = .ok (.if_icmp .ne 14, 3) := oc_160 (a := 0) (b := 14) (by decide +kernel)
theorem dX12_says_58 : decode cX12_says 58 = .ok (.iconst (-1), 1) := oc_2 (by decide +kernel)
theorem dX12_says_59 : decode cX12_says 59 = .ok (.ireturn, 1) := oc_172 (by decide +kernel)
theorem dX12_says_47 : decode cX12_says 47 = .ok (.aload_n 0, 1) := oc_42 (by decide +kernel)
theorem dX12_says_48 : decode cX12_says 48 = .ok (.bipush 8, 2) := oc_16 (a := 8) (by decide +kernel)
theorem dX12_says_50 : decode cX12_says 50 = .ok (.iload_n 1, 1) := oc_27 (by decide +kernel)
theorem dX12_says_51 : decode cX12_says 51 = .ok (.iconst (-1), 1) := oc_2 (by decide +kernel)
theorem tw_1016 : Cond.methodLink RX12 304 yX12_numberOf ∈ wsL_law := sg_43 _ (List.mem_of_getElem? (i := 8) rfl)
theorem tw_1017 : Cond.instanceMethod yX12_numberOf ∈ wsL_law := sg_43 _ (List.mem_of_getElem? (i := 9) rfl)
theorem tw_1018 : Cond.selects RX12 yX12_numberOf yX12_numberOf ∈ wsL_law := sg_43 _ (List.mem_of_getElem? (i := 10) rfl)
theorem tw_1019 : Cond.code yX12_numberOf cX12_numberOf 5 (some .int) ∈ wsL_law := sg_43 _ (List.mem_of_getElem? (i := 11) rfl)
theorem dX12_says_52 : decode cX12_says 52 = .ok (.invokevirtual 304, 3) := oc_182 (a := 1) (b := 48) (by decide +kernel)
theorem dX12_says_55 : decode cX12_says 55 = .ok (.goto 4, 3) := oc_167 (a := 0) (b := 4) (by decide +kernel)
theorem dX12_says_30 : decode cX12_says 30 = .ok (.aload_n 0, 1) := oc_42 (by decide +kernel)
theorem dX12_says_31 : decode cX12_says 31 = .ok (.bipush 9, 2) := oc_16 (a := 9) (by decide +kernel)
theorem dX12_says_33 : decode cX12_says 33 = .ok (.iload_n 1, 1) := oc_27 (by decide +kernel)
theorem dX12_says_34 : decode cX12_says 34 = .ok (.bipush 10, 2) := oc_16 (a := 10) (by decide +kernel)
theorem dX12_says_36 : decode cX12_says 36 = .ok (.invokevirtual 304, 3) := oc_182 (a := 1) (b := 48) (by decide +kernel)
theorem dX12_says_39 : decode cX12_says 39 = .ok (.goto 20, 3) := oc_167 (a := 0) (b := 20) (by decide +kernel)
theorem dX12_says_13 : decode cX12_says 13 = .ok (.aload_n 0, 1) := oc_42 (by decide +kernel)
theorem dX12_says_14 : decode cX12_says 14 = .ok (.bipush 7, 2) := oc_16 (a := 7) (by decide +kernel)
theorem dX12_says_16 : decode cX12_says 16 = .ok (.iload_n 1, 1) := oc_27 (by decide +kernel)
theorem dX12_says_17 : decode cX12_says 17 = .ok (.bipush 50, 2) := oc_16 (a := 50) (by decide +kernel)
theorem dX12_says_19 : decode cX12_says 19 = .ok (.invokevirtual 304, 3) := oc_182 (a := 1) (b := 48) (by decide +kernel)
theorem dX12_says_22 : decode cX12_says 22 = .ok (.goto 37, 3) := oc_167 (a := 0) (b := 37) (by decide +kernel)
theorem dX12_says_7 : decode cX12_says 7 = .ok (.iconst (-1), 1) := oc_2 (by decide +kernel)
theorem dX12_says_8 : decode cX12_says 8 = .ok (.ireturn, 1) := oc_172 (by decide +kernel)
theorem dX12_topOf_0 : decode cX12_topOf 0 = .ok (.aload_n 0, 1) := oc_42 (by decide +kernel)
theorem dX12_topOf_1 : decode cX12_topOf 1 = .ok (.iload_n 1, 1) := oc_27 (by decide +kernel)
theorem dX12_topOf_2 : decode cX12_topOf 2 = .ok (.iconst 1, 1) := oc_4 (by decide +kernel)
theorem dX12_topOf_3 : decode cX12_topOf 3 = .ok (.invokevirtual 91, 3) := oc_182 (a := 0) (b := 91) (by decide +kernel)
theorem dX12_topOf_6 : decode cX12_topOf 6 = .ok (.aload_n 0, 1) := oc_42 (by decide +kernel)
theorem dX12_topOf_7 : decode cX12_topOf 7 = .ok (.iload_n 1, 1) := oc_27 (by decide +kernel)
theorem dX12_topOf_8 : decode cX12_topOf 8 = .ok (.iconst 4, 1) := oc_7 (by decide +kernel)
theorem dX12_topOf_9 : decode cX12_topOf 9 = .ok (.invokevirtual 91, 3) := oc_182 (a := 0) (b := 91) (by decide +kernel)
theorem dX12_topOf_12 : decode cX12_topOf 12 = .ok (.iadd, 1) := oc_96 (by decide +kernel)
theorem dX12_topOf_13 : decode cX12_topOf 13 = .ok (.aload_n 0, 1) := oc_42 (by decide +kernel)
theorem dX12_topOf_14 : decode cX12_topOf 14 = .ok (.iload_n 1, 1) := oc_27 (by decide +kernel)
theorem dX12_topOf_15 : decode cX12_topOf 15 = .ok (.iconst 5, 1) := oc_8 (by decide +kernel)
theorem dX12_topOf_16 : decode cX12_topOf 16 = .ok (.invokevirtual 91, 3) := oc_182 (a := 0) (b := 91) (by decide +kernel)
theorem dX12_topOf_19 : decode cX12_topOf 19 = .ok (.iconst 4, 1) := oc_7 (by decide +kernel)
theorem dX12_topOf_20 : decode cX12_topOf 20 = .ok (.idiv, 1) := oc_108 (by decide +kernel)
theorem dX12_topOf_21 : decode cX12_topOf 21 = .ok (.iadd, 1) := oc_96 (by decide +kernel)
theorem dX12_topOf_22 : decode cX12_topOf 22 = .ok (.aload_n 0, 1) := oc_42 (by decide +kernel)
theorem dX12_topOf_23 : decode cX12_topOf 23 = .ok (.iload_n 1, 1) := oc_27 (by decide +kernel)
theorem dX12_topOf_24 : decode cX12_topOf 24 = .ok (.bipush 6, 2) := oc_16 (a := 6) (by decide +kernel)
theorem dX12_topOf_26 : decode cX12_topOf 26 = .ok (.invokevirtual 91, 3) := oc_182 (a := 0) (b := 91) (by decide +kernel)
theorem dX12_topOf_29 : decode cX12_topOf 29 = .ok (.iadd, 1) := oc_96 (by decide +kernel)
theorem dX12_topOf_30 : decode cX12_topOf 30 = .ok (.ireturn, 1) := oc_172 (by decide +kernel)
theorem dX12_tableAt_0 : decode cX12_tableAt 0 = .ok (.aload_n 0, 1) := oc_42 (by decide +kernel)
theorem dX12_tableAt_1 : decode cX12_tableAt 1 = .ok (.getfield 7, 3) := oc_180 (a := 0) (b := 7) (by decide +kernel)
theorem dX12_tableAt_4 : decode cX12_tableAt 4 = .ok (.bipush 20, 2) := oc_16 (a := 20) (by decide +kernel)
theorem dX12_tableAt_6 : decode cX12_tableAt 6 = .ok (.iconst 5, 1) := oc_8 (by decide +kernel)
theorem dX12_tableAt_7 : decode cX12_tableAt 7 = .ok (.iload_n 1, 1) := oc_27 (by decide +kernel)
theorem dX12_tableAt_8 : decode cX12_tableAt 8 = .ok (.bipush 12, 2) := oc_16 (a := 12) (by decide +kernel)
theorem dX12_tableAt_10 : decode cX12_tableAt 10 = .ok (.irem, 1) := oc_112 (by decide +kernel)
theorem dX12_tableAt_11 : decode cX12_tableAt 11 = .ok (.imul, 1) := oc_104 (by decide +kernel)
theorem dX12_tableAt_12 : decode cX12_tableAt 12 = .ok (.iadd, 1) := oc_96 (by decide +kernel)
theorem dX12_tableAt_13 : decode cX12_tableAt 13 = .ok (.iload_n 2, 1) := oc_28 (by decide +kernel)
theorem dX12_tableAt_14 : decode cX12_tableAt 14 = .ok (.iadd, 1) := oc_96 (by decide +kernel)
theorem dX12_tableAt_15 : decode cX12_tableAt 15 = .ok (.iaload, 1) := oc_46 (by decide +kernel)
theorem dX12_tableAt_16 : decode cX12_tableAt 16 = .ok (.ireturn, 1) := oc_172 (by decide +kernel)
theorem dX12_reefGoes_0 : decode cX12_reefGoes 0 = .ok (.iconst 0, 1) := oc_3 (by decide +kernel)
theorem dX12_reefGoes_1 : decode cX12_reefGoes 1 = .ok (.istore_n 2, 1) := oc_61 (by decide +kernel)
theorem dX12_reefGoes_2 : decode cX12_reefGoes 2 = .ok (.iload_n 2, 1) := oc_28 (by decide +kernel)
theorem dX12_reefGoes_3 : decode cX12_reefGoes 3 = .ok (.aload_n 0, 1) := oc_42 (by decide +kernel)
theorem dX12_reefGoes_4 : decode cX12_reefGoes 4 = .ok (.getfield 7, 3) := oc_180 (a := 0) (b := 7) (by decide +kernel)
theorem dX12_reefGoes_7 : decode cX12_reefGoes 7 = .ok (.iconst 2, 1) := oc_5 (by decide +kernel)
theorem dX12_reefGoes_8 : decode cX12_reefGoes 8 = .ok (.iaload, 1) := oc_46 (by decide +kernel)
theorem dX12_reefGoes_9 : decode cX12_reefGoes 9 = .ok (.if_icmp .ge 99, 3) := oc_162 (a := 0) (b := 99) (by decide +kernel)
theorem dX12_reefGoes_108 : decode cX12_reefGoes 108 = .ok (.return_, 1) := oc_177 (by decide +kernel)
theorem dX12_reefGoes_12 : decode cX12_reefGoes 12 = .ok (.bipush 100, 2) := oc_16 (a := 100) (by decide +kernel)
theorem dX12_reefGoes_14 : decode cX12_reefGoes 14 = .ok (.bipush 16, 2) := oc_16 (a := 16) (by decide +kernel)
theorem dX12_reefGoes_16 : decode cX12_reefGoes 16 = .ok (.iload_n 2, 1) := oc_28 (by decide +kernel)
theorem dX12_reefGoes_17 : decode cX12_reefGoes 17 = .ok (.imul, 1) := oc_104 (by decide +kernel)
theorem dX12_reefGoes_18 : decode cX12_reefGoes 18 = .ok (.iadd, 1) := oc_96 (by decide +kernel)
theorem dX12_reefGoes_19 : decode cX12_reefGoes 19 = .ok (.iconst 5, 1) := oc_8 (by decide +kernel)
theorem dX12_reefGoes_20 : decode cX12_reefGoes 20 = .ok (.iadd, 1) := oc_96 (by decide +kernel)
theorem dX12_reefGoes_21 : decode cX12_reefGoes 21 = .ok (.istore_n 3, 1) := oc_62 (by decide +kernel)
theorem dX12_reefGoes_22 : decode cX12_reefGoes 22 = .ok (.aload_n 0, 1) := oc_42 (by decide +kernel)
theorem dX12_reefGoes_23 : decode cX12_reefGoes 23 = .ok (.getfield 7, 3) := oc_180 (a := 0) (b := 7) (by decide +kernel)
theorem dX12_reefGoes_26 : decode cX12_reefGoes 26 = .ok (.iload_n 3, 1) := oc_29 (by decide +kernel)
theorem dX12_reefGoes_27 : decode cX12_reefGoes 27 = .ok (.dup2, 1) := oc_92 (by decide +kernel)
theorem dX12_reefGoes_28 : decode cX12_reefGoes 28 = .ok (.iaload, 1) := oc_46 (by decide +kernel)
theorem dX12_reefGoes_29 : decode cX12_reefGoes 29 = .ok (.aload_n 0, 1) := oc_42 (by decide +kernel)
theorem dX12_reefGoes_30 : decode cX12_reefGoes 30 = .ok (.iload_n 1, 1) := oc_27 (by decide +kernel)
theorem dX12_reefGoes_31 : decode cX12_reefGoes 31 = .ok (.iconst 2, 1) := oc_5 (by decide +kernel)
theorem tw_1201 : Cond.methodLink RX12 310 yX12_tableAt ∈ wsL_law := sg_51 _ (List.mem_of_getElem? (i := 1) rfl)
theorem tw_1202 : Cond.instanceMethod yX12_tableAt ∈ wsL_law := sg_51 _ (List.mem_of_getElem? (i := 2) rfl)
theorem tw_1203 : Cond.selects RX12 yX12_tableAt yX12_tableAt ∈ wsL_law := sg_51 _ (List.mem_of_getElem? (i := 3) rfl)
theorem tw_1204 : Cond.code yX12_tableAt cX12_tableAt 3 (some .int) ∈ wsL_law := sg_51 _ (List.mem_of_getElem? (i := 4) rfl)
theorem dX12_reefGoes_32 : decode cX12_reefGoes 32 = .ok (.invokevirtual 310, 3) := oc_182 (a := 1) (b := 54) (by decide +kernel)
theorem dX12_reefGoes_35 : decode cX12_reefGoes 35 = .ok (.aload_n 0, 1) := oc_42 (by decide +kernel)
theorem dX12_reefGoes_36 : decode cX12_reefGoes 36 = .ok (.getfield 7, 3) := oc_180 (a := 0) (b := 7) (by decide +kernel)
theorem dX12_reefGoes_39 : decode cX12_reefGoes 39 = .ok (.bipush 13, 2) := oc_16 (a := 13) (by decide +kernel)
theorem dX12_reefGoes_41 : decode cX12_reefGoes 41 = .ok (.iaload, 1) := oc_46 (by decide +kernel)
theorem dX12_reefGoes_63 : decode cX12_reefGoes 63 = .ok (.iadd, 1) := oc_96 (by decide +kernel)
theorem dX12_reefGoes_64 : decode cX12_reefGoes 64 = .ok (.iastore, 1) := oc_79 (by decide +kernel)
theorem dX12_reefGoes_65 : decode cX12_reefGoes 65 = .ok (.aload_n 0, 1) := oc_42 (by decide +kernel)
theorem dX12_reefGoes_66 : decode cX12_reefGoes 66 = .ok (.getfield 7, 3) := oc_180 (a := 0) (b := 7) (by decide +kernel)
theorem dX12_reefGoes_69 : decode cX12_reefGoes 69 = .ok (.iload_n 3, 1) := oc_29 (by decide +kernel)
theorem dX12_reefGoes_70 : decode cX12_reefGoes 70 = .ok (.iaload, 1) := oc_46 (by decide +kernel)
theorem dX12_reefGoes_71 : decode cX12_reefGoes 71 = .ok (.sipush 400, 3) := oc_17 (a := 1) (b := 144) (by decide +kernel)
theorem dX12_reefGoes_86 : decode cX12_reefGoes 86 = .ok (.aload_n 0, 1) := oc_42 (by decide +kernel)
theorem dX12_reefGoes_87 : decode cX12_reefGoes 87 = .ok (.getfield 7, 3) := oc_180 (a := 0) (b := 7) (by decide +kernel)
theorem dX12_reefGoes_90 : decode cX12_reefGoes 90 = .ok (.iload_n 3, 1) := oc_29 (by decide +kernel)
theorem dX12_reefGoes_91 : decode cX12_reefGoes 91 = .ok (.iaload, 1) := oc_46 (by decide +kernel)
theorem dX12_reefGoes_102 : decode cX12_reefGoes 102 = .ok (.iinc 2 1, 3) := oc_132 (b := 1) (by decide +kernel)
theorem dX12_reefGoes_105 : decode cX12_reefGoes 105 = .ok (.goto (-103), 3) := oc_167 (a := 255) (b := 153) (by decide +kernel)
theorem dX12_reefGoes_92 : decode cX12_reefGoes 92 = .ok (.ifCond .ge 10, 3) := oc_156 (a := 0) (b := 10) (by decide +kernel)
theorem dX12_reefGoes_95 : decode cX12_reefGoes 95 = .ok (.aload_n 0, 1) := oc_42 (by decide +kernel)
theorem dX12_reefGoes_96 : decode cX12_reefGoes 96 = .ok (.getfield 7, 3) := oc_180 (a := 0) (b := 7) (by decide +kernel)
theorem dX12_reefGoes_99 : decode cX12_reefGoes 99 = .ok (.iload_n 3, 1) := oc_29 (by decide +kernel)
theorem dX12_reefGoes_100 : decode cX12_reefGoes 100 = .ok (.iconst 0, 1) := oc_3 (by decide +kernel)
theorem dX12_reefGoes_101 : decode cX12_reefGoes 101 = .ok (.iastore, 1) := oc_79 (by decide +kernel)
theorem dX12_reefGoes_74 : decode cX12_reefGoes 74 = .ok (.if_icmp .le 12, 3) := oc_164 (a := 0) (b := 12) (by decide +kernel)
theorem dX12_reefGoes_77 : decode cX12_reefGoes 77 = .ok (.aload_n 0, 1) := oc_42 (by decide +kernel)
theorem dX12_reefGoes_78 : decode cX12_reefGoes 78 = .ok (.getfield 7, 3) := oc_180 (a := 0) (b := 7) (by decide +kernel)
theorem dX12_reefGoes_81 : decode cX12_reefGoes 81 = .ok (.iload_n 3, 1) := oc_29 (by decide +kernel)
theorem dX12_reefGoes_82 : decode cX12_reefGoes 82 = .ok (.sipush 400, 3) := oc_17 (a := 1) (b := 144) (by decide +kernel)
theorem dX12_reefGoes_85 : decode cX12_reefGoes 85 = .ok (.iastore, 1) := oc_79 (by decide +kernel)
theorem dX12_reefGoes_42 : decode cX12_reefGoes 42 = .ok (.if_icmp .gt 13, 3) := oc_163 (a := 0) (b := 13) (by decide +kernel)
theorem dX12_reefGoes_55 : decode cX12_reefGoes 55 = .ok (.aload_n 0, 1) := oc_42 (by decide +kernel)
theorem dX12_reefGoes_56 : decode cX12_reefGoes 56 = .ok (.getfield 7, 3) := oc_180 (a := 0) (b := 7) (by decide +kernel)
theorem dX12_reefGoes_59 : decode cX12_reefGoes 59 = .ok (.bipush 15, 2) := oc_16 (a := 15) (by decide +kernel)
theorem dX12_reefGoes_61 : decode cX12_reefGoes 61 = .ok (.iaload, 1) := oc_46 (by decide +kernel)
theorem dX12_reefGoes_62 : decode cX12_reefGoes 62 = .ok (.ineg, 1) := oc_116 (by decide +kernel)
theorem dX12_reefGoes_45 : decode cX12_reefGoes 45 = .ok (.aload_n 0, 1) := oc_42 (by decide +kernel)
theorem dX12_reefGoes_46 : decode cX12_reefGoes 46 = .ok (.getfield 7, 3) := oc_180 (a := 0) (b := 7) (by decide +kernel)
theorem dX12_reefGoes_49 : decode cX12_reefGoes 49 = .ok (.bipush 14, 2) := oc_16 (a := 14) (by decide +kernel)
theorem dX12_reefGoes_51 : decode cX12_reefGoes 51 = .ok (.iaload, 1) := oc_46 (by decide +kernel)
theorem dX12_reefGoes_52 : decode cX12_reefGoes 52 = .ok (.goto 11, 3) := oc_167 (a := 0) (b := 11) (by decide +kernel)
theorem dX12_sandGoes_0 : decode cX12_sandGoes 0 = .ok (.iconst 0, 1) := oc_3 (by decide +kernel)
theorem dX12_sandGoes_1 : decode cX12_sandGoes 1 = .ok (.istore_n 2, 1) := oc_61 (by decide +kernel)
theorem dX12_sandGoes_2 : decode cX12_sandGoes 2 = .ok (.iload_n 2, 1) := oc_28 (by decide +kernel)
theorem dX12_sandGoes_3 : decode cX12_sandGoes 3 = .ok (.aload_n 0, 1) := oc_42 (by decide +kernel)
theorem dX12_sandGoes_4 : decode cX12_sandGoes 4 = .ok (.getfield 7, 3) := oc_180 (a := 0) (b := 7) (by decide +kernel)
theorem dX12_sandGoes_7 : decode cX12_sandGoes 7 = .ok (.iconst 2, 1) := oc_5 (by decide +kernel)
theorem dX12_sandGoes_8 : decode cX12_sandGoes 8 = .ok (.iaload, 1) := oc_46 (by decide +kernel)
theorem dX12_sandGoes_9 : decode cX12_sandGoes 9 = .ok (.if_icmp .ge 56, 3) := oc_162 (a := 0) (b := 56) (by decide +kernel)
theorem dX12_sandGoes_65 : decode cX12_sandGoes 65 = .ok (.iconst 0, 1) := oc_3 (by decide +kernel)
theorem dX12_sandGoes_66 : decode cX12_sandGoes 66 = .ok (.istore_n 2, 1) := oc_61 (by decide +kernel)
theorem dX12_sandGoes_67 : decode cX12_sandGoes 67 = .ok (.iload_n 2, 1) := oc_28 (by decide +kernel)
theorem dX12_sandGoes_68 : decode cX12_sandGoes 68 = .ok (.aload_n 0, 1) := oc_42 (by decide +kernel)
theorem dX12_sandGoes_69 : decode cX12_sandGoes 69 = .ok (.getfield 7, 3) := oc_180 (a := 0) (b := 7) (by decide +kernel)
theorem dX12_sandGoes_72 : decode cX12_sandGoes 72 = .ok (.iconst 2, 1) := oc_5 (by decide +kernel)
theorem dX12_sandGoes_73 : decode cX12_sandGoes 73 = .ok (.iaload, 1) := oc_46 (by decide +kernel)
theorem dX12_sandGoes_74 : decode cX12_sandGoes 74 = .ok (.if_icmp .ge 119, 3) := oc_162 (a := 0) (b := 119) (by decide +kernel)
theorem dX12_sandGoes_193 : decode cX12_sandGoes 193 = .ok (.return_, 1) := oc_177 (by decide +kernel)
theorem dX12_sandGoes_77 : decode cX12_sandGoes 77 = .ok (.aload_n 0, 1) := oc_42 (by decide +kernel)
theorem dX12_sandGoes_78 : decode cX12_sandGoes 78 = .ok (.getfield 7, 3) := oc_180 (a := 0) (b := 7) (by decide +kernel)
theorem dX12_sandGoes_81 : decode cX12_sandGoes 81 = .ok (.bipush 100, 2) := oc_16 (a := 100) (by decide +kernel)
theorem dX12_sandGoes_83 : decode cX12_sandGoes 83 = .ok (.bipush 16, 2) := oc_16 (a := 16) (by decide +kernel)
theorem dX12_sandGoes_85 : decode cX12_sandGoes 85 = .ok (.iload_n 2, 1) := oc_28 (by decide +kernel)
theorem dX12_sandGoes_86 : decode cX12_sandGoes 86 = .ok (.imul, 1) := oc_104 (by decide +kernel)
theorem dX12_sandGoes_87 : decode cX12_sandGoes 87 = .ok (.iadd, 1) := oc_96 (by decide +kernel)
theorem dX12_sandGoes_88 : decode cX12_sandGoes 88 = .ok (.iconst 4, 1) := oc_7 (by decide +kernel)
theorem dX12_sandGoes_89 : decode cX12_sandGoes 89 = .ok (.iadd, 1) := oc_96 (by decide +kernel)
theorem dX12_sandGoes_90 : decode cX12_sandGoes 90 = .ok (.dup2, 1) := oc_92 (by decide +kernel)
theorem dX12_sandGoes_91 : decode cX12_sandGoes 91 = .ok (.iaload, 1) := oc_46 (by decide +kernel)
theorem dX12_sandGoes_92 : decode cX12_sandGoes 92 = .ok (.aload_n 0, 1) := oc_42 (by decide +kernel)
theorem tw_187 : Cond.fieldLink RX12 43 "RingsUnderModel" "leaves" "[I" ∈ wsL_law := sg_8 _ (List.mem_of_getElem? (i := 19) rfl)
theorem dX12_sandGoes_93 : decode cX12_sandGoes 93 = .ok (.getfield 43, 3) := oc_180 (a := 0) (b := 43) (by decide +kernel)
theorem dX12_sandGoes_96 : decode cX12_sandGoes 96 = .ok (.iload_n 2, 1) := oc_28 (by decide +kernel)
theorem dX12_sandGoes_97 : decode cX12_sandGoes 97 = .ok (.iaload, 1) := oc_46 (by decide +kernel)
theorem dX12_sandGoes_98 : decode cX12_sandGoes 98 = .ok (.isub, 1) := oc_100 (by decide +kernel)
theorem dX12_sandGoes_99 : decode cX12_sandGoes 99 = .ok (.iastore, 1) := oc_79 (by decide +kernel)
theorem dX12_sandGoes_100 : decode cX12_sandGoes 100 = .ok (.iload_n 2, 1) := oc_28 (by decide +kernel)
theorem dX12_sandGoes_101 : decode cX12_sandGoes 101 = .ok (.iconst 1, 1) := oc_4 (by decide +kernel)
theorem dX12_sandGoes_102 : decode cX12_sandGoes 102 = .ok (.iadd, 1) := oc_96 (by decide +kernel)
theorem dX12_sandGoes_103 : decode cX12_sandGoes 103 = .ok (.istore_n 3, 1) := oc_62 (by decide +kernel)
theorem dX12_sandGoes_104 : decode cX12_sandGoes 104 = .ok (.iload_n 3, 1) := oc_29 (by decide +kernel)
theorem dX12_sandGoes_105 : decode cX12_sandGoes 105 = .ok (.aload_n 0, 1) := oc_42 (by decide +kernel)
theorem dX12_sandGoes_106 : decode cX12_sandGoes 106 = .ok (.getfield 7, 3) := oc_180 (a := 0) (b := 7) (by decide +kernel)
theorem dX12_sandGoes_109 : decode cX12_sandGoes 109 = .ok (.iconst 2, 1) := oc_5 (by decide +kernel)
theorem dX12_sandGoes_110 : decode cX12_sandGoes 110 = .ok (.iaload, 1) := oc_46 (by decide +kernel)
theorem dX12_sandGoes_135 : decode cX12_sandGoes 135 = .ok (.iload_n 3, 1) := oc_29 (by decide +kernel)
theorem dX12_sandGoes_136 : decode cX12_sandGoes 136 = .ok (.aload_n 0, 1) := oc_42 (by decide +kernel)
theorem dX12_sandGoes_137 : decode cX12_sandGoes 137 = .ok (.getfield 7, 3) := oc_180 (a := 0) (b := 7) (by decide +kernel)
theorem dX12_sandGoes_140 : decode cX12_sandGoes 140 = .ok (.iconst 2, 1) := oc_5 (by decide +kernel)
theorem dX12_sandGoes_141 : decode cX12_sandGoes 141 = .ok (.iaload, 1) := oc_46 (by decide +kernel)
theorem dX12_sandGoes_187 : decode cX12_sandGoes 187 = .ok (.iinc 2 1, 3) := oc_132 (b := 1) (by decide +kernel)
theorem dX12_sandGoes_190 : decode cX12_sandGoes 190 = .ok (.goto (-123), 3) := oc_167 (a := 255) (b := 133) (by decide +kernel)
theorem dX12_sandGoes_142 : decode cX12_sandGoes 142 = .ok (.if_icmp .ge 29, 3) := oc_162 (a := 0) (b := 29) (by decide +kernel)
theorem dX12_sandGoes_171 : decode cX12_sandGoes 171 = .ok (.aload_n 0, 1) := oc_42 (by decide +kernel)
theorem dX12_sandGoes_172 : decode cX12_sandGoes 172 = .ok (.getfield 7, 3) := oc_180 (a := 0) (b := 7) (by decide +kernel)
theorem dX12_sandGoes_175 : decode cX12_sandGoes 175 = .ok (.bipush 9, 2) := oc_16 (a := 9) (by decide +kernel)
theorem dX12_sandGoes_177 : decode cX12_sandGoes 177 = .ok (.dup2, 1) := oc_92 (by decide +kernel)
theorem dX12_sandGoes_178 : decode cX12_sandGoes 178 = .ok (.iaload, 1) := oc_46 (by decide +kernel)
theorem dX12_sandGoes_179 : decode cX12_sandGoes 179 = .ok (.aload_n 0, 1) := oc_42 (by decide +kernel)
theorem dX12_sandGoes_180 : decode cX12_sandGoes 180 = .ok (.getfield 43, 3) := oc_180 (a := 0) (b := 43) (by decide +kernel)
theorem dX12_sandGoes_183 : decode cX12_sandGoes 183 = .ok (.iload_n 2, 1) := oc_28 (by decide +kernel)
theorem dX12_sandGoes_184 : decode cX12_sandGoes 184 = .ok (.iaload, 1) := oc_46 (by decide +kernel)
theorem dX12_sandGoes_185 : decode cX12_sandGoes 185 = .ok (.iadd, 1) := oc_96 (by decide +kernel)
theorem dX12_sandGoes_186 : decode cX12_sandGoes 186 = .ok (.iastore, 1) := oc_79 (by decide +kernel)
theorem dX12_sandGoes_145 : decode cX12_sandGoes 145 = .ok (.aload_n 0, 1) := oc_42 (by decide +kernel)
theorem dX12_sandGoes_146 : decode cX12_sandGoes 146 = .ok (.getfield 7, 3) := oc_180 (a := 0) (b := 7) (by decide +kernel)
theorem dX12_sandGoes_149 : decode cX12_sandGoes 149 = .ok (.bipush 100, 2) := oc_16 (a := 100) (by decide +kernel)
theorem dX12_sandGoes_151 : decode cX12_sandGoes 151 = .ok (.bipush 16, 2) := oc_16 (a := 16) (by decide +kernel)
theorem dX12_sandGoes_153 : decode cX12_sandGoes 153 = .ok (.iload_n 3, 1) := oc_29 (by decide +kernel)
theorem dX12_sandGoes_154 : decode cX12_sandGoes 154 = .ok (.imul, 1) := oc_104 (by decide +kernel)
theorem dX12_sandGoes_155 : decode cX12_sandGoes 155 = .ok (.iadd, 1) := oc_96 (by decide +kernel)
theorem dX12_sandGoes_156 : decode cX12_sandGoes 156 = .ok (.iconst 4, 1) := oc_7 (by decide +kernel)
theorem dX12_sandGoes_157 : decode cX12_sandGoes 157 = .ok (.iadd, 1) := oc_96 (by decide +kernel)
theorem dX12_sandGoes_158 : decode cX12_sandGoes 158 = .ok (.dup2, 1) := oc_92 (by decide +kernel)
theorem dX12_sandGoes_159 : decode cX12_sandGoes 159 = .ok (.iaload, 1) := oc_46 (by decide +kernel)
theorem dX12_sandGoes_160 : decode cX12_sandGoes 160 = .ok (.aload_n 0, 1) := oc_42 (by decide +kernel)
theorem dX12_sandGoes_161 : decode cX12_sandGoes 161 = .ok (.getfield 43, 3) := oc_180 (a := 0) (b := 43) (by decide +kernel)
theorem dX12_sandGoes_164 : decode cX12_sandGoes 164 = .ok (.iload_n 2, 1) := oc_28 (by decide +kernel)
theorem dX12_sandGoes_165 : decode cX12_sandGoes 165 = .ok (.iaload, 1) := oc_46 (by decide +kernel)
theorem dX12_sandGoes_166 : decode cX12_sandGoes 166 = .ok (.iadd, 1) := oc_96 (by decide +kernel)
theorem dX12_sandGoes_167 : decode cX12_sandGoes 167 = .ok (.iastore, 1) := oc_79 (by decide +kernel)
theorem dX12_sandGoes_168 : decode cX12_sandGoes 168 = .ok (.goto 19, 3) := oc_167 (a := 0) (b := 19) (by decide +kernel)
theorem dX12_sandGoes_111 : decode cX12_sandGoes 111 = .ok (.if_icmp .ge 24, 3) := oc_162 (a := 0) (b := 24) (by decide +kernel)
theorem dX12_sandGoes_114 : decode cX12_sandGoes 114 = .ok (.aload_n 0, 1) := oc_42 (by decide +kernel)
theorem dX12_sandGoes_115 : decode cX12_sandGoes 115 = .ok (.iload_n 3, 1) := oc_29 (by decide +kernel)
theorem dX12_sandGoes_116 : decode cX12_sandGoes 116 = .ok (.iconst 0, 1) := oc_3 (by decide +kernel)
theorem dX12_sandGoes_117 : decode cX12_sandGoes 117 = .ok (.invokevirtual 91, 3) := oc_182 (a := 0) (b := 91) (by decide +kernel)
theorem dX12_sandGoes_120 : decode cX12_sandGoes 120 = .ok (.aload_n 0, 1) := oc_42 (by decide +kernel)
theorem dX12_sandGoes_121 : decode cX12_sandGoes 121 = .ok (.iload_n 2, 1) := oc_28 (by decide +kernel)
theorem dX12_sandGoes_122 : decode cX12_sandGoes 122 = .ok (.iconst 0, 1) := oc_3 (by decide +kernel)
theorem dX12_sandGoes_123 : decode cX12_sandGoes 123 = .ok (.invokevirtual 91, 3) := oc_182 (a := 0) (b := 91) (by decide +kernel)
theorem dX12_sandGoes_126 : decode cX12_sandGoes 126 = .ok (.if_icmp .eq 9, 3) := oc_159 (a := 0) (b := 9) (by decide +kernel)
theorem dX12_sandGoes_129 : decode cX12_sandGoes 129 = .ok (.iinc 3 1, 3) := oc_132 (b := 1) (by decide +kernel)
theorem dX12_sandGoes_132 : decode cX12_sandGoes 132 = .ok (.goto (-28), 3) := oc_167 (a := 255) (b := 228) (by decide +kernel)
theorem dX12_sandGoes_12 : decode cX12_sandGoes 12 = .ok (.aload_n 0, 1) := oc_42 (by decide +kernel)
theorem dX12_sandGoes_13 : decode cX12_sandGoes 13 = .ok (.iload_n 1, 1) := oc_27 (by decide +kernel)
theorem dX12_sandGoes_14 : decode cX12_sandGoes 14 = .ok (.iconst 3, 1) := oc_6 (by decide +kernel)
theorem dX12_sandGoes_15 : decode cX12_sandGoes 15 = .ok (.invokevirtual 310, 3) := oc_182 (a := 1) (b := 54) (by decide +kernel)
theorem dX12_sandGoes_18 : decode cX12_sandGoes 18 = .ok (.istore_n 3, 1) := oc_62 (by decide +kernel)
theorem dX12_sandGoes_19 : decode cX12_sandGoes 19 = .ok (.aload_n 0, 1) := oc_42 (by decide +kernel)
theorem dX12_sandGoes_20 : decode cX12_sandGoes 20 = .ok (.getfield 43, 3) := oc_180 (a := 0) (b := 43) (by decide +kernel)
theorem dX12_sandGoes_23 : decode cX12_sandGoes 23 = .ok (.iload_n 2, 1) := oc_28 (by decide +kernel)
theorem dX12_sandGoes_24 : decode cX12_sandGoes 24 = .ok (.aload_n 0, 1) := oc_42 (by decide +kernel)
theorem dX12_sandGoes_25 : decode cX12_sandGoes 25 = .ok (.iload_n 2, 1) := oc_28 (by decide +kernel)
theorem dX12_sandGoes_26 : decode cX12_sandGoes 26 = .ok (.bipush 6, 2) := oc_16 (a := 6) (by decide +kernel)
theorem dX12_sandGoes_28 : decode cX12_sandGoes 28 = .ok (.invokevirtual 91, 3) := oc_182 (a := 0) (b := 91) (by decide +kernel)
theorem dX12_sandGoes_58 : decode cX12_sandGoes 58 = .ok (.iastore, 1) := oc_79 (by decide +kernel)
theorem dX12_sandGoes_59 : decode cX12_sandGoes 59 = .ok (.iinc 2 1, 3) := oc_132 (b := 1) (by decide +kernel)
theorem dX12_sandGoes_62 : decode cX12_sandGoes 62 = .ok (.goto (-60), 3) := oc_167 (a := 255) (b := 196) (by decide +kernel)
theorem dX12_sandGoes_31 : decode cX12_sandGoes 31 = .ok (.ifCond .le 7, 3) := oc_158 (a := 0) (b := 7) (by decide +kernel)
theorem dX12_sandGoes_38 : decode cX12_sandGoes 38 = .ok (.aload_n 0, 1) := oc_42 (by decide +kernel)
theorem dX12_sandGoes_39 : decode cX12_sandGoes 39 = .ok (.iload_n 2, 1) := oc_28 (by decide +kernel)
theorem dX12_sandGoes_40 : decode cX12_sandGoes 40 = .ok (.iconst 4, 1) := oc_7 (by decide +kernel)
theorem dX12_sandGoes_41 : decode cX12_sandGoes 41 = .ok (.invokevirtual 91, 3) := oc_182 (a := 0) (b := 91) (by decide +kernel)
theorem dX12_sandGoes_44 : decode cX12_sandGoes 44 = .ok (.iload_n 3, 1) := oc_29 (by decide +kernel)
theorem dX12_sandGoes_45 : decode cX12_sandGoes 45 = .ok (.if_icmp .ge 12, 3) := oc_162 (a := 0) (b := 12) (by decide +kernel)
theorem dX12_sandGoes_57 : decode cX12_sandGoes 57 = .ok (.iload_n 3, 1) := oc_29 (by decide +kernel)
theorem dX12_sandGoes_48 : decode cX12_sandGoes 48 = .ok (.aload_n 0, 1) := oc_42 (by decide +kernel)
theorem dX12_sandGoes_49 : decode cX12_sandGoes 49 = .ok (.iload_n 2, 1) := oc_28 (by decide +kernel)
theorem dX12_sandGoes_50 : decode cX12_sandGoes 50 = .ok (.iconst 4, 1) := oc_7 (by decide +kernel)
theorem dX12_sandGoes_51 : decode cX12_sandGoes 51 = .ok (.invokevirtual 91, 3) := oc_182 (a := 0) (b := 91) (by decide +kernel)
theorem dX12_sandGoes_54 : decode cX12_sandGoes 54 = .ok (.goto 4, 3) := oc_167 (a := 0) (b := 4) (by decide +kernel)
theorem dX12_sandGoes_34 : decode cX12_sandGoes 34 = .ok (.iconst 0, 1) := oc_3 (by decide +kernel)
theorem dX12_sandGoes_35 : decode cX12_sandGoes 35 = .ok (.goto 23, 3) := oc_167 (a := 0) (b := 23) (by decide +kernel)
set_option maxRecDepth 100000 in
def g_X12_says (a0 : Int32) (a1 : Int32) (I : Nat → Int32) (J : Nat → Int64) (ri : Nat → Nat → Int32) (rj : Nat → Nat → Int64) (rq : Nat → Nat → Option Nat) : Int32 × vM := (ap1 (g_X12_isMonth a0) fun (x_1 : Int32) => (if x_1 = (0 : Int32) then ((-1 : Int32), I, J, ri, rj, rq) else (if a1 = (0 : Int32) then (bnI (g_X12_numberOf (7 : Int32) a0 (50 : Int32) I J ri rj rq) fun (x_57 : Int32) (_ : Nat → Int32) (_ : Nat → Int64) (_ : Nat → Nat → Int32) (_ : Nat → Nat → Int64) (_ : Nat → Nat → Option Nat) => (x_57, I, J, ri, rj, rq)) else (if a1 = (1 : Int32) then (bnI (g_X12_numberOf (9 : Int32) a0 (10 : Int32) I J ri rj rq) fun (x_47 : Int32) (_ : Nat → Int32) (_ : Nat → Int64) (_ : Nat → Nat → Int32) (_ : Nat → Nat → Int64) (_ : Nat → Nat → Option Nat) => (x_47, I, J, ri, rj, rq)) else (if a1 = (2 : Int32) then (bnI (g_X12_numberOf (8 : Int32) a0 (-1 : Int32) I J ri rj rq) fun (x_37 : Int32) (_ : Nat → Int32) (_ : Nat → Int64) (_ : Nat → Nat → Int32) (_ : Nat → Nat → Int64) (_ : Nat → Nat → Option Nat) => (x_37, I, J, ri, rj, rq)) else ((-1 : Int32), I, J, ri, rj, rq))))))
set_option maxRecDepth 100000 in
theorem g_X12_says_e {a0 : Int32} {a1 : Int32} {I : Nat → Int32} {J : Nat → Int64} {ri : Nat → Nat → Int32} {rj : Nat → Nat → Int64} {rq : Nat → Nat → Option Nat} : g_X12_says a0 a1 I J ri rj rq = (ap1 (g_X12_isMonth a0) fun (x_1 : Int32) => (if x_1 = (0 : Int32) then ((-1 : Int32), I, J, ri, rj, rq) else (if a1 = (0 : Int32) then (bnI (g_X12_numberOf (7 : Int32) a0 (50 : Int32) I J ri rj rq) fun (x_57 : Int32) (_ : Nat → Int32) (_ : Nat → Int64) (_ : Nat → Nat → Int32) (_ : Nat → Nat → Int64) (_ : Nat → Nat → Option Nat) => (x_57, I, J, ri, rj, rq)) else (if a1 = (1 : Int32) then (bnI (g_X12_numberOf (9 : Int32) a0 (10 : Int32) I J ri rj rq) fun (x_47 : Int32) (_ : Nat → Int32) (_ : Nat → Int64) (_ : Nat → Nat → Int32) (_ : Nat → Nat → Int64) (_ : Nat → Nat → Option Nat) => (x_47, I, J, ri, rj, rq)) else (if a1 = (2 : Int32) then (bnI (g_X12_numberOf (8 : Int32) a0 (-1 : Int32) I J ri rj rq) fun (x_37 : Int32) (_ : Nat → Int32) (_ : Nat → Int64) (_ : Nat → Nat → Int32) (_ : Nat → Nat → Int64) (_ : Nat → Nat → Option Nat) => (x_37, I, J, ri, rj, rq)) else ((-1 : Int32), I, J, ri, rj, rq)))))) := rfl
set_option maxHeartbeats 4000000 in
set_option maxRecDepth 100000 in
theorem s_X12_says (l : Launch) (D : va_G) (t : pq_T) (σ : pq_S) (I : Nat → Nat → Int32) (J : Nat → Nat → Int64) (ri : Nat → Nat → Int32) (rj : Nat → Nat → Int64) (rq : Nat → Nat → Option Nat) (sz : Nat) (tg : Nat → Nat) (hSH : SH σ tg) (hG0 : GT tg I ri) (this : Nat) (a0 : Int32) (a1 : Int32) (hL_this : this ∈ σ.1) (hK_this : σ.2.1 this = 12) : MetI l yX12_says (wa yX12_says cX12_says 3 (some .int)) ({ frames := 4, cells := 0, slots := 0, locals := 93 }) [.ref this, .int a0, .int a1] D t σ (I, J, ri, rj, rq) sz 0 0 (fun (r : Int32) (u : pq_S × pq_M) => u = (σ, I, J, ri, rj, rq) ∧ g_X12_says a0 a1 (vI 12 σ this I) (vJ 12 σ this J) (vR 12 σ this ri) (vL 12 σ this rj) (vQ 12 σ this rq) = (r, (vI 12 σ this I), (vJ 12 σ this J), (vR 12 σ this ri), (vL 12 σ this rj), (vQ 12 σ this rq))) := by
  refine Met.ofW (cc := cX12_says) (maxL := 3) (ret := (some .int)) (by decide +kernel) rfl ?_
  intro p e s m args below meth c s₁ B hml hv
  obtain ⟨rfl, hsz, hP, hK, hD0, hN⟩ := hv
  have hx := B.exec
  have hb := B.bytes
  have hr := B.returns
  have hts := atoms_spec (ws := (wa yX12_says cX12_says 3 (some .int))) B.pre
  have hown : s.vm.findClass RX12 = some m.cls := findClass_of_methodNamed B.named
  have hlocks := B.notSynchronized
  subst hsz
  have hD : va_D (pq_B t σ (I, J, ri, rj, rq) s.heap.size) (pq_P t σ (I, J, ri, rj, rq)) := hD0.self
  generalize hAe : pq_B t σ (I, J, ri, rj, rq) s.heap.size = A at hD ⊢
  have hA : ∀ q : Nat, s.heap.size ≤ q → A q := fun q h => by rw [← hAe]; exact Or.inr h
  have hS : va_S A s.heap s.heap [] := va_S.rf
  have hG : GM [] tg σ I ri I ri rq := ⟨hG0, fun _ _ _ => rfl, fun _ _ _ _ _ => rfl, fun _ _ _ _ _ _ => rfl⟩
  have hl := lv_entry ([.ref this, .int a0, .int a1]) (n := 3) (Nat.le_of_ble_eq_true rfl)
  rw [lg_entry_eq]
  generalize (lg_sl ([.ref this, .int a0, .int a1]) ++ List.replicate (3 - (lg_sl ([.ref this, .int a0, .int a1])).length) Slot.unset).toArray = ls at hl ⊢
  have hl : lv_has ls 3 [(0, .ref this), (1, .int a0), (2, .int a1)] := hl
  refine q_gen (fun Q hQ => ?_)
  have go : ∀ (H : Heap) (locs : List Loc) (ls : Array Slot), va_P D vwCl (pq_P t σ (I, J, ri, rj, rq)) H → va_D A (pq_P t σ (I, J, ri, rj, rq)) → va_S A s.heap H locs → lv_has ls 3 [(0, .ref this), (1, .int a0), (2, .int a1)] → W p l e ({ frames := 4, cells := 0, slots := 0, locals := 93 } : Room) s m (List.toArray ([.ref this, .int a0, .int a1] : List Value)) below meth c H locs 0 0 Q (F0 m 0 ls []) := by
    intro H locs ls hP hD hS hl
    have hO_this : this = vo σ 12 this := rfl
    have hVT : VT 12 σ tg this := vt_12 hSH hL_this hK_this
    have hFr : FR 12 tg σ this (I, J, ri, rj, rq) (I, J, ri, rj, rq) := fr_rf
    obtain ⟨F, hF0⟩ : ∃ F, F = g_X12_says a0 a1 (vI 12 σ this I) (vJ 12 σ this J) (vR 12 σ this ri) (vL 12 σ this rj) (vQ 12 σ this rq) := ⟨_, rfl⟩
    have hF := hF0.trans g_X12_says_e
    refine lv_iload_n hx hb dX12_says_0 rfl (lv_at hl 1 rfl) ?_
    refine pk_i (va_runS (As := [.int a0]) (rest := []) ⟨hx, hb, hml, hown, hts⟩ (s_X12_isMonth l D t σ I J ri rj rq H.size tg hSH hG.1 a0) (va_cwS 1 hts (tw_S tw_262 tw_263 tw_5 tw_264) rfl rfl rfl cd_yX12_isMonth_1 ⟨Nat.le_of_ble_eq_true rfl, Nat.le_of_ble_eq_true rfl⟩) ⟨pq_blind, pq_pre hK hN hP hD⟩ rfl rfl hl.1 rfl (lv_room (Nat.le_of_ble_eq_true rfl)) dX12_says_1 ⟨Nat.le_of_ble_eq_true rfl, Nat.le_of_ble_eq_true rfl⟩) hD hS hA (fun x_1 σ1 μ1 H locs hw_2 hP hD hS => ?_)
    obtain ⟨hu_3, hfn_6, hr_5⟩ := hw_2
    obtain ⟨hu_3a, hu_3b⟩ := Prod.mk.inj hu_3
    rw [hu_3a, hu_3b] at hP hD
    replace hF := hF.trans (ap_n hfn_6.symm)
    have h_8 : rg x_1 0 1 := by rcases hr_5 with ⟨q, -⟩ | ⟨q, -⟩ <;> rw [q] <;> exact ⟨by decide +kernel, by decide +kernel⟩
    have uh_8 := h_8.1
    have vh_8 := h_8.2
    refine lv_if_ne (tgt := 9) hx hb dX12_says_4 (by decide +kernel) (fun c_9 => ?_) (fun c_9 => ?_)
    · replace hF := hF.trans (if_neg c_9)
      have f_16 := (hr_5.resolve_right (fun q => c_9 q.1)).2
      have uf_16 := f_16.1
      have vf_16 := f_16.2
      have tc_17 : (x_1).toInt ≠ 0 := fun q => c_9 (Int32.toInt_inj.mp q)
      have h_18 : rg x_1 1 1 := rg_ne c_9 h_8 0 rfl (by decide +kernel)
      have uh_18 := h_18.1
      have vh_18 := h_18.2
      refine lv_iload_n hx hb dX12_says_9 rfl (lv_at hl 2 rfl) ?_
      refine lv_if_ne (tgt := 25) hx hb dX12_says_10 (by decide +kernel) (fun c_19 => ?_) (fun c_19 => ?_)
      · replace hF := hF.trans (if_neg c_19)
        have tc_23 : (a1).toInt ≠ 0 := fun q => c_19 (Int32.toInt_inj.mp q)
        refine lv_iload_n hx hb dX12_says_25 rfl (lv_at hl 2 rfl) ?_
        refine lv_iconst (v := 1) hx hb dX12_says_26 (by decide +kernel) ?_
        refine lv_icmp_ne (tgt := 42) hx hb dX12_says_27 (by decide +kernel) (fun c_24 => ?_) (fun c_24 => ?_)
        · replace hF := hF.trans (if_neg c_24)
          have tc_28 : (a1).toInt ≠ 1 := fun q => c_24 (Int32.toInt_inj.mp q)
          refine lv_iload_n hx hb dX12_says_42 rfl (lv_at hl 2 rfl) ?_
          refine lv_iconst (v := 2) hx hb dX12_says_43 (by decide +kernel) ?_
          refine lv_icmp_ne (tgt := 58) hx hb dX12_says_44 (by decide +kernel) (fun c_29 => ?_) (fun c_29 => ?_)
          · replace hF := hF.trans (if_neg c_29)
            have tc_33 : (a1).toInt ≠ 2 := fun q => c_29 (Int32.toInt_inj.mp q)
            refine lv_iconst (v := (-1)) hx hb dX12_says_58 (by decide +kernel) ?_
            subst hQ
            exact W.iret (v := (-1)) hx hb hr (fun t1 ht hW => ⟨⟨(-1), (σ, I, J, ri, rj, rq), rfl, ⟨rfl, (hF0.symm.trans hF)⟩, by rw [ht]; exact hP, va_K.moved hW.alike hK, hD⟩, hS.F ht⟩) hS.2.2 dX12_says_59
          · replace hF := hF.trans (if_pos c_29)
            have tc_34 : (a1).toInt = 2 := congrArg Int32.toInt c_29
            have h_35 : rg a1 2 2 := rg_and (rg_full _) (rg_of_eq c_29 (rg_k (2 : Int32) 2 rfl)) (by decide +kernel)
            have uh_35 := h_35.1
            have vh_35 := h_35.2
            refine lv_aload_n hx hb dX12_says_47 rfl (lv_at hl 0 rfl) ?_
            refine lv_bipush (v := 8) hx hb dX12_says_48 (by decide +kernel) ?_
            refine lv_iload_n hx hb dX12_says_50 rfl (lv_at hl 1 rfl) ?_
            refine lv_iconst (v := (-1)) hx hb dX12_says_51 (by decide +kernel) ?_
            obtain ⟨w_36, hR_w_36, hL_w_36, hK_w_36, hN_w_36, hT_w_36⟩ := sh_a hSH 384 (ci := 12) (kd := 13) (len := 12720) rfl (by decide +kernel) hL_this hK_this
            have hO_w_36 : w_36 = vrow σ 384 this := vo_k (c := 12) hO_this hR_w_36
            refine pk_i (va_runV (As := [.int 8, .int a0, .int (-1)]) (rest := []) ⟨hx, hb, hml, hown, hts⟩ (s_X12_numberOf l D t σ I J ri rj rq H.size tg hSH hG.1 this (8 : Int32) a0 (-1 : Int32) hL_this hK_this w_36 hR_w_36 hL_w_36 hK_w_36 hN_w_36 hT_w_36) (cwV 3 hts (tw_V tw_1016 tw_1017 tw_1018 tw_5 tw_1019) rfl rfl rfl cv_yX12_numberOf_3 ⟨Nat.le_of_ble_eq_true rfl, Nat.le_of_ble_eq_true rfl⟩) ⟨pq_blind, pq_recv hK hP hL_this hK_this (by decide +kernel) rfl, pq_pre hK hN hP hD⟩ rfl rfl hl.1 rfl (lv_room (Nat.le_of_ble_eq_true rfl)) dX12_says_52 ⟨Nat.le_of_ble_eq_true rfl, Nat.le_of_ble_eq_true rfl⟩) hD hS hA (fun x_37 σ1 μ1 H locs hw_38 hP hD hS => ?_)
            obtain ⟨hu_39, hfn_42⟩ := hw_38
            obtain ⟨hu_39a, hu_39b⟩ := Prod.mk.inj hu_39
            rw [hu_39a, hu_39b] at hP hD
            replace hF := hF.trans (bn_n hfn_42)
            refine lv_goto (tgt := 59) hx hb dX12_says_55 (by decide +kernel) ?_
            subst hQ
            exact W.iret (v := x_37) hx hb hr (fun t1 ht hW => ⟨⟨x_37, (σ, I, J, ri, rj, rq), rfl, ⟨rfl, (hF0.symm.trans hF)⟩, by rw [ht]; exact hP, va_K.moved hW.alike hK, hD⟩, hS.F ht⟩) hS.2.2 dX12_says_59
        · replace hF := hF.trans (if_pos c_24)
          have tc_44 : (a1).toInt = 1 := congrArg Int32.toInt c_24
          have h_45 : rg a1 1 1 := rg_and (rg_full _) (rg_of_eq c_24 (rg_k (1 : Int32) 1 rfl)) (by decide +kernel)
          have uh_45 := h_45.1
          have vh_45 := h_45.2
          refine lv_aload_n hx hb dX12_says_30 rfl (lv_at hl 0 rfl) ?_
          refine lv_bipush (v := 9) hx hb dX12_says_31 (by decide +kernel) ?_
          refine lv_iload_n hx hb dX12_says_33 rfl (lv_at hl 1 rfl) ?_
          refine lv_bipush (v := 10) hx hb dX12_says_34 (by decide +kernel) ?_
          obtain ⟨w_46, hR_w_46, hL_w_46, hK_w_46, hN_w_46, hT_w_46⟩ := sh_a hSH 384 (ci := 12) (kd := 13) (len := 12720) rfl (by decide +kernel) hL_this hK_this
          have hO_w_46 : w_46 = vrow σ 384 this := vo_k (c := 12) hO_this hR_w_46
          refine pk_i (va_runV (As := [.int 9, .int a0, .int 10]) (rest := []) ⟨hx, hb, hml, hown, hts⟩ (s_X12_numberOf l D t σ I J ri rj rq H.size tg hSH hG.1 this (9 : Int32) a0 (10 : Int32) hL_this hK_this w_46 hR_w_46 hL_w_46 hK_w_46 hN_w_46 hT_w_46) (cwV 3 hts (tw_V tw_1016 tw_1017 tw_1018 tw_5 tw_1019) rfl rfl rfl cv_yX12_numberOf_3 ⟨Nat.le_of_ble_eq_true rfl, Nat.le_of_ble_eq_true rfl⟩) ⟨pq_blind, pq_recv hK hP hL_this hK_this (by decide +kernel) rfl, pq_pre hK hN hP hD⟩ rfl rfl hl.1 rfl (lv_room (Nat.le_of_ble_eq_true rfl)) dX12_says_36 ⟨Nat.le_of_ble_eq_true rfl, Nat.le_of_ble_eq_true rfl⟩) hD hS hA (fun x_47 σ1 μ1 H locs hw_48 hP hD hS => ?_)
          obtain ⟨hu_49, hfn_52⟩ := hw_48
          obtain ⟨hu_49a, hu_49b⟩ := Prod.mk.inj hu_49
          rw [hu_49a, hu_49b] at hP hD
          replace hF := hF.trans (bn_n hfn_52)
          refine lv_goto (tgt := 59) hx hb dX12_says_39 (by decide +kernel) ?_
          subst hQ
          exact W.iret (v := x_47) hx hb hr (fun t1 ht hW => ⟨⟨x_47, (σ, I, J, ri, rj, rq), rfl, ⟨rfl, (hF0.symm.trans hF)⟩, by rw [ht]; exact hP, va_K.moved hW.alike hK, hD⟩, hS.F ht⟩) hS.2.2 dX12_says_59
      · replace hF := hF.trans (if_pos c_19)
        have tc_54 : (a1).toInt = 0 := congrArg Int32.toInt c_19
        have h_55 : rg a1 0 0 := rg_and (rg_full _) (rg_of_eq c_19 (rg_k (0 : Int32) 0 rfl)) (by decide +kernel)
        have uh_55 := h_55.1
        have vh_55 := h_55.2
        refine lv_aload_n hx hb dX12_says_13 rfl (lv_at hl 0 rfl) ?_
        refine lv_bipush (v := 7) hx hb dX12_says_14 (by decide +kernel) ?_
        refine lv_iload_n hx hb dX12_says_16 rfl (lv_at hl 1 rfl) ?_
        refine lv_bipush (v := 50) hx hb dX12_says_17 (by decide +kernel) ?_
        obtain ⟨w_56, hR_w_56, hL_w_56, hK_w_56, hN_w_56, hT_w_56⟩ := sh_a hSH 384 (ci := 12) (kd := 13) (len := 12720) rfl (by decide +kernel) hL_this hK_this
        have hO_w_56 : w_56 = vrow σ 384 this := vo_k (c := 12) hO_this hR_w_56
        refine pk_i (va_runV (As := [.int 7, .int a0, .int 50]) (rest := []) ⟨hx, hb, hml, hown, hts⟩ (s_X12_numberOf l D t σ I J ri rj rq H.size tg hSH hG.1 this (7 : Int32) a0 (50 : Int32) hL_this hK_this w_56 hR_w_56 hL_w_56 hK_w_56 hN_w_56 hT_w_56) (cwV 3 hts (tw_V tw_1016 tw_1017 tw_1018 tw_5 tw_1019) rfl rfl rfl cv_yX12_numberOf_3 ⟨Nat.le_of_ble_eq_true rfl, Nat.le_of_ble_eq_true rfl⟩) ⟨pq_blind, pq_recv hK hP hL_this hK_this (by decide +kernel) rfl, pq_pre hK hN hP hD⟩ rfl rfl hl.1 rfl (lv_room (Nat.le_of_ble_eq_true rfl)) dX12_says_19 ⟨Nat.le_of_ble_eq_true rfl, Nat.le_of_ble_eq_true rfl⟩) hD hS hA (fun x_57 σ1 μ1 H locs hw_58 hP hD hS => ?_)
        obtain ⟨hu_59, hfn_62⟩ := hw_58
        obtain ⟨hu_59a, hu_59b⟩ := Prod.mk.inj hu_59
        rw [hu_59a, hu_59b] at hP hD
        replace hF := hF.trans (bn_n hfn_62)
        refine lv_goto (tgt := 59) hx hb dX12_says_22 (by decide +kernel) ?_
        subst hQ
        exact W.iret (v := x_57) hx hb hr (fun t1 ht hW => ⟨⟨x_57, (σ, I, J, ri, rj, rq), rfl, ⟨rfl, (hF0.symm.trans hF)⟩, by rw [ht]; exact hP, va_K.moved hW.alike hK, hD⟩, hS.F ht⟩) hS.2.2 dX12_says_59
    · replace hF := hF.trans (if_pos c_9)
      have f_64 := (hr_5.resolve_left (fun q => absurd (q.1.symm.trans c_9) (by decide +kernel))).2
      have tc_65 : (x_1).toInt = 0 := congrArg Int32.toInt c_9
      have h_66 : rg x_1 0 0 := rg_and h_8 (rg_of_eq c_9 (rg_k (0 : Int32) 0 rfl)) (by decide +kernel)
      have uh_66 := h_66.1
      have vh_66 := h_66.2
      refine lv_iconst (v := (-1)) hx hb dX12_says_7 (by decide +kernel) ?_
      subst hQ
      exact W.iret (v := (-1)) hx hb hr (fun t1 ht hW => ⟨⟨(-1), (σ, I, J, ri, rj, rq), rfl, ⟨rfl, (hF0.symm.trans hF)⟩, by rw [ht]; exact hP, va_K.moved hW.alike hK, hD⟩, hS.F ht⟩) hS.2.2 dX12_says_8
  exact go _ _ _ hP hD hS hl

set_option maxRecDepth 100000 in
def g_X12_cellAt_c1 (a0 : Int32) (I : Nat → Int32) (J : Nat → Int64) (ri : Nat → Nat → Int32) (rj : Nat → Nat → Int64) (rq : Nat → Nat → Option Nat) : Int32 × vM := (ap1 ((16 : Int32) * a0) fun (x_2 : Int32) => (ap1 ((100 : Int32) + x_2) fun (x_4 : Int32) => (ap1 (x_4 + (1 : Int32)) fun (x_6 : Int32) => (ap1 (ri 384 (x_6).toNatClampNeg) fun (x_8 : Int32) => (x_8, I, J, ri, rj, rq)))))
set_option maxRecDepth 100000 in
theorem g_X12_cellAt_c1_e {a0 : Int32} {I : Nat → Int32} {J : Nat → Int64} {ri : Nat → Nat → Int32} {rj : Nat → Nat → Int64} {rq : Nat → Nat → Option Nat} : g_X12_cellAt_c1 a0 I J ri rj rq = (ap1 ((16 : Int32) * a0) fun (x_2 : Int32) => (ap1 ((100 : Int32) + x_2) fun (x_4 : Int32) => (ap1 (x_4 + (1 : Int32)) fun (x_6 : Int32) => (ap1 (ri 384 (x_6).toNatClampNeg) fun (x_8 : Int32) => (x_8, I, J, ri, rj, rq))))) := rfl
set_option maxHeartbeats 4000000 in
set_option maxRecDepth 100000 in
theorem s_X12_cellAt_c1 (l : Launch) (D : va_G) (t : pq_T) (σ : pq_S) (I : Nat → Nat → Int32) (J : Nat → Nat → Int64) (ri : Nat → Nat → Int32) (rj : Nat → Nat → Int64) (rq : Nat → Nat → Option Nat) (sz : Nat) (tg : Nat → Nat) (hSH : SH σ tg) (hG0 : GT tg I ri) (this : Nat) (a0 : Int32) (hL_this : this ∈ σ.1) (hK_this : σ.2.1 this = 12) (h_a0 : rg a0 0 39) : MetI l yX12_cellAt (wa yX12_cellAt cX12_cellAt 3 (some .int)) ({ frames := 0, cells := 0, slots := 0, locals := 0 }) [.ref this, .int a0, .int 1] D t σ (I, J, ri, rj, rq) sz 0 0 (fun (r : Int32) (u : pq_S × pq_M) => u = (σ, I, J, ri, rj, rq) ∧ g_X12_cellAt_c1 a0 (vI 12 σ this I) (vJ 12 σ this J) (vR 12 σ this ri) (vL 12 σ this rj) (vQ 12 σ this rq) = (r, (vI 12 σ this I), (vJ 12 σ this J), (vR 12 σ this ri), (vL 12 σ this rj), (vQ 12 σ this rq))) := by
  refine Met.ofW (cc := cX12_cellAt) (maxL := 3) (ret := (some .int)) (by decide +kernel) rfl ?_
  intro p e s m args below meth c s₁ B hml hv
  obtain ⟨rfl, hsz, hP, hK, hD0, hN⟩ := hv
  have hx := B.exec
  have hb := B.bytes
  have hr := B.returns
  have hts := atoms_spec (ws := (wa yX12_cellAt cX12_cellAt 3 (some .int))) B.pre
  have hown : s.vm.findClass RX12 = some m.cls := findClass_of_methodNamed B.named
  have hlocks := B.notSynchronized
  subst hsz
  have hD : va_D (pq_B t σ (I, J, ri, rj, rq) s.heap.size) (pq_P t σ (I, J, ri, rj, rq)) := hD0.self
  generalize hAe : pq_B t σ (I, J, ri, rj, rq) s.heap.size = A at hD ⊢
  have hA : ∀ q : Nat, s.heap.size ≤ q → A q := fun q h => by rw [← hAe]; exact Or.inr h
  have hS : va_S A s.heap s.heap [] := va_S.rf
  have hG : GM [] tg σ I ri I ri rq := ⟨hG0, fun _ _ _ => rfl, fun _ _ _ _ _ => rfl, fun _ _ _ _ _ _ => rfl⟩
  have hl := lv_entry ([.ref this, .int a0, .int 1]) (n := 3) (Nat.le_of_ble_eq_true rfl)
  rw [lg_entry_eq]
  generalize (lg_sl ([.ref this, .int a0, .int 1]) ++ List.replicate (3 - (lg_sl ([.ref this, .int a0, .int 1])).length) Slot.unset).toArray = ls at hl ⊢
  have hl : lv_has ls 3 [(0, .ref this), (1, .int a0), (2, .int 1)] := hl
  refine q_gen (fun Q hQ => ?_)
  have go : ∀ (H : Heap) (locs : List Loc) (ls : Array Slot), va_P D vwCl (pq_P t σ (I, J, ri, rj, rq)) H → va_D A (pq_P t σ (I, J, ri, rj, rq)) → va_S A s.heap H locs → lv_has ls 3 [(0, .ref this), (1, .int a0), (2, .int 1)] → W p l e ({ frames := 0, cells := 0, slots := 0, locals := 0 } : Room) s m (List.toArray ([.ref this, .int a0, .int 1] : List Value)) below meth c H locs 0 0 Q (F0 m 0 ls []) := by
    intro H locs ls hP hD hS hl
    have hO_this : this = vo σ 12 this := rfl
    have hVT : VT 12 σ tg this := vt_12 hSH hL_this hK_this
    have hFr : FR 12 tg σ this (I, J, ri, rj, rq) (I, J, ri, rj, rq) := fr_rf
    obtain ⟨F, hF0⟩ : ∃ F, F = g_X12_cellAt_c1 a0 (vI 12 σ this I) (vJ 12 σ this J) (vR 12 σ this ri) (vL 12 σ this rj) (vQ 12 σ this rq) := ⟨_, rfl⟩
    have hF := hF0.trans g_X12_cellAt_c1_e
    refine lv_aload_n hx hb dX12_cellAt_0 rfl (lv_at hl 0 rfl) ?_
    obtain ⟨w_1, hR_w_1, hL_w_1, hK_w_1, hN_w_1, hT_w_1⟩ := sh_a hSH 384 (ci := 12) (kd := 13) (len := 12720) rfl (by decide +kernel) hL_this hK_this
    have hO_w_1 : w_1 = vrow σ 384 this := vo_k (c := 12) hO_this hR_w_1
    refine pg_f (v := .ref w_1) (C := RX12) (T := TX12) (N := 31) hx hb hts (tw_i inlX12) hown hK hP hL_this hK_this (by decide +kernel) rfl 0 (by decide +kernel) (hts _ (tw_c tw_176)) (pq_hv rfl hR_w_1) dX12_cellAt_1 ?_
    refine lv_bipush (v := 100) hx hb dX12_cellAt_4 (by decide +kernel) ?_
    refine lv_bipush (v := 16) hx hb dX12_cellAt_6 (by decide +kernel) ?_
    refine lv_iload_n hx hb dX12_cellAt_8 rfl (lv_at hl 1 rfl) ?_
    refine lv_imul hx hb dX12_cellAt_9 ?_
    refine lv_topi (fun x_2 ex_2 => ?_)
    replace hF := hF.trans (ap_n ex_2)
    have h_3 : rg x_2 0 624 := rg_of_eq ex_2 (rg_mul (rg_k (16 : Int32) 16 rfl) h_a0 (by decide +kernel))
    have uh_3 := h_3.1
    have vh_3 := h_3.2
    have tx_2 : (x_2).toInt = 16 * (a0).toInt := by rw [ex_2]; exact i_mul_rg (a2 := 16) (b2 := (a0).toInt) rfl rfl (rg_k (16 : Int32) 16 rfl) h_a0 (by decide +kernel)
    refine lv_iadd hx hb dX12_cellAt_10 ?_
    refine lv_topi (fun x_4 ex_4 => ?_)
    replace hF := hF.trans (ap_n ex_4)
    have h_5 : rg x_4 100 724 := rg_of_eq ex_4 (rg_add (rg_k (100 : Int32) 100 rfl) h_3 (by decide +kernel))
    have uh_5 := h_5.1
    have vh_5 := h_5.2
    have tx_4 : (x_4).toInt = 100 + (x_2).toInt := by rw [ex_4]; exact i_add_rg (a2 := 100) (b2 := (x_2).toInt) rfl rfl (rg_k (100 : Int32) 100 rfl) h_3 (by decide +kernel)
    refine lv_iload_n hx hb dX12_cellAt_11 rfl (lv_at hl 2 rfl) ?_
    refine lv_iadd hx hb dX12_cellAt_12 ?_
    refine lv_topi (fun x_6 ex_6 => ?_)
    replace hF := hF.trans (ap_n ex_6)
    have h_7 : rg x_6 101 725 := rg_of_eq ex_6 (rg_add h_5 (rg_k (1 : Int32) 1 rfl) (by decide +kernel))
    have uh_7 := h_7.1
    have vh_7 := h_7.2
    have tx_6 : (x_6).toInt = (x_4).toInt + 1 := by rw [ex_6]; exact i_add_rg (a2 := (x_4).toInt) (b2 := 1) rfl rfl h_5 (rg_k (1 : Int32) 1 rfl) (by decide +kernel)
    refine pl_i hx hb hK hP hL_w_1 hK_w_1 hN_w_1 (rg_in h_7 (by decide +kernel)) dX12_cellAt_13 ?_
    refine lv_topi (fun x_8 ex_8 => ?_)
    replace hF := hF.trans (ap_n (vR_r hO_w_1 (by decide +kernel) ex_8))
    subst hQ
    exact W.iret (v := x_8) hx hb hr (fun t1 ht hW => ⟨⟨x_8, (σ, I, J, ri, rj, rq), rfl, ⟨rfl, (hF0.symm.trans hF)⟩, by rw [ht]; exact hP, va_K.moved hW.alike hK, hD⟩, hS.F ht⟩) hS.2.2 dX12_cellAt_14
  exact go _ _ _ hP hD hS hl

set_option maxRecDepth 100000 in
def g_X12_cellAt_c4 (a0 : Int32) (I : Nat → Int32) (J : Nat → Int64) (ri : Nat → Nat → Int32) (rj : Nat → Nat → Int64) (rq : Nat → Nat → Option Nat) : Int32 × vM := (ap1 ((16 : Int32) * a0) fun (x_2 : Int32) => (ap1 ((100 : Int32) + x_2) fun (x_4 : Int32) => (ap1 (x_4 + (4 : Int32)) fun (x_6 : Int32) => (ap1 (ri 384 (x_6).toNatClampNeg) fun (x_8 : Int32) => (x_8, I, J, ri, rj, rq)))))
set_option maxRecDepth 100000 in
theorem g_X12_cellAt_c4_e {a0 : Int32} {I : Nat → Int32} {J : Nat → Int64} {ri : Nat → Nat → Int32} {rj : Nat → Nat → Int64} {rq : Nat → Nat → Option Nat} : g_X12_cellAt_c4 a0 I J ri rj rq = (ap1 ((16 : Int32) * a0) fun (x_2 : Int32) => (ap1 ((100 : Int32) + x_2) fun (x_4 : Int32) => (ap1 (x_4 + (4 : Int32)) fun (x_6 : Int32) => (ap1 (ri 384 (x_6).toNatClampNeg) fun (x_8 : Int32) => (x_8, I, J, ri, rj, rq))))) := rfl
set_option maxHeartbeats 4000000 in
set_option maxRecDepth 100000 in
theorem s_X12_cellAt_c4 (l : Launch) (D : va_G) (t : pq_T) (σ : pq_S) (I : Nat → Nat → Int32) (J : Nat → Nat → Int64) (ri : Nat → Nat → Int32) (rj : Nat → Nat → Int64) (rq : Nat → Nat → Option Nat) (sz : Nat) (tg : Nat → Nat) (hSH : SH σ tg) (hG0 : GT tg I ri) (this : Nat) (a0 : Int32) (hL_this : this ∈ σ.1) (hK_this : σ.2.1 this = 12) (h_a0 : rg a0 0 39) : MetI l yX12_cellAt (wa yX12_cellAt cX12_cellAt 3 (some .int)) ({ frames := 0, cells := 0, slots := 0, locals := 0 }) [.ref this, .int a0, .int 4] D t σ (I, J, ri, rj, rq) sz 0 0 (fun (r : Int32) (u : pq_S × pq_M) => u = (σ, I, J, ri, rj, rq) ∧ g_X12_cellAt_c4 a0 (vI 12 σ this I) (vJ 12 σ this J) (vR 12 σ this ri) (vL 12 σ this rj) (vQ 12 σ this rq) = (r, (vI 12 σ this I), (vJ 12 σ this J), (vR 12 σ this ri), (vL 12 σ this rj), (vQ 12 σ this rq))) := by
  refine Met.ofW (cc := cX12_cellAt) (maxL := 3) (ret := (some .int)) (by decide +kernel) rfl ?_
  intro p e s m args below meth c s₁ B hml hv
  obtain ⟨rfl, hsz, hP, hK, hD0, hN⟩ := hv
  have hx := B.exec
  have hb := B.bytes
  have hr := B.returns
  have hts := atoms_spec (ws := (wa yX12_cellAt cX12_cellAt 3 (some .int))) B.pre
  have hown : s.vm.findClass RX12 = some m.cls := findClass_of_methodNamed B.named
  have hlocks := B.notSynchronized
  subst hsz
  have hD : va_D (pq_B t σ (I, J, ri, rj, rq) s.heap.size) (pq_P t σ (I, J, ri, rj, rq)) := hD0.self
  generalize hAe : pq_B t σ (I, J, ri, rj, rq) s.heap.size = A at hD ⊢
  have hA : ∀ q : Nat, s.heap.size ≤ q → A q := fun q h => by rw [← hAe]; exact Or.inr h
  have hS : va_S A s.heap s.heap [] := va_S.rf
  have hG : GM [] tg σ I ri I ri rq := ⟨hG0, fun _ _ _ => rfl, fun _ _ _ _ _ => rfl, fun _ _ _ _ _ _ => rfl⟩
  have hl := lv_entry ([.ref this, .int a0, .int 4]) (n := 3) (Nat.le_of_ble_eq_true rfl)
  rw [lg_entry_eq]
  generalize (lg_sl ([.ref this, .int a0, .int 4]) ++ List.replicate (3 - (lg_sl ([.ref this, .int a0, .int 4])).length) Slot.unset).toArray = ls at hl ⊢
  have hl : lv_has ls 3 [(0, .ref this), (1, .int a0), (2, .int 4)] := hl
  refine q_gen (fun Q hQ => ?_)
  have go : ∀ (H : Heap) (locs : List Loc) (ls : Array Slot), va_P D vwCl (pq_P t σ (I, J, ri, rj, rq)) H → va_D A (pq_P t σ (I, J, ri, rj, rq)) → va_S A s.heap H locs → lv_has ls 3 [(0, .ref this), (1, .int a0), (2, .int 4)] → W p l e ({ frames := 0, cells := 0, slots := 0, locals := 0 } : Room) s m (List.toArray ([.ref this, .int a0, .int 4] : List Value)) below meth c H locs 0 0 Q (F0 m 0 ls []) := by
    intro H locs ls hP hD hS hl
    have hO_this : this = vo σ 12 this := rfl
    have hVT : VT 12 σ tg this := vt_12 hSH hL_this hK_this
    have hFr : FR 12 tg σ this (I, J, ri, rj, rq) (I, J, ri, rj, rq) := fr_rf
    obtain ⟨F, hF0⟩ : ∃ F, F = g_X12_cellAt_c4 a0 (vI 12 σ this I) (vJ 12 σ this J) (vR 12 σ this ri) (vL 12 σ this rj) (vQ 12 σ this rq) := ⟨_, rfl⟩
    have hF := hF0.trans g_X12_cellAt_c4_e
    refine lv_aload_n hx hb dX12_cellAt_0 rfl (lv_at hl 0 rfl) ?_
    obtain ⟨w_1, hR_w_1, hL_w_1, hK_w_1, hN_w_1, hT_w_1⟩ := sh_a hSH 384 (ci := 12) (kd := 13) (len := 12720) rfl (by decide +kernel) hL_this hK_this
    have hO_w_1 : w_1 = vrow σ 384 this := vo_k (c := 12) hO_this hR_w_1
    refine pg_f (v := .ref w_1) (C := RX12) (T := TX12) (N := 31) hx hb hts (tw_i inlX12) hown hK hP hL_this hK_this (by decide +kernel) rfl 0 (by decide +kernel) (hts _ (tw_c tw_176)) (pq_hv rfl hR_w_1) dX12_cellAt_1 ?_
    refine lv_bipush (v := 100) hx hb dX12_cellAt_4 (by decide +kernel) ?_
    refine lv_bipush (v := 16) hx hb dX12_cellAt_6 (by decide +kernel) ?_
    refine lv_iload_n hx hb dX12_cellAt_8 rfl (lv_at hl 1 rfl) ?_
    refine lv_imul hx hb dX12_cellAt_9 ?_
    refine lv_topi (fun x_2 ex_2 => ?_)
    replace hF := hF.trans (ap_n ex_2)
    have h_3 : rg x_2 0 624 := rg_of_eq ex_2 (rg_mul (rg_k (16 : Int32) 16 rfl) h_a0 (by decide +kernel))
    have uh_3 := h_3.1
    have vh_3 := h_3.2
    have tx_2 : (x_2).toInt = 16 * (a0).toInt := by rw [ex_2]; exact i_mul_rg (a2 := 16) (b2 := (a0).toInt) rfl rfl (rg_k (16 : Int32) 16 rfl) h_a0 (by decide +kernel)
    refine lv_iadd hx hb dX12_cellAt_10 ?_
    refine lv_topi (fun x_4 ex_4 => ?_)
    replace hF := hF.trans (ap_n ex_4)
    have h_5 : rg x_4 100 724 := rg_of_eq ex_4 (rg_add (rg_k (100 : Int32) 100 rfl) h_3 (by decide +kernel))
    have uh_5 := h_5.1
    have vh_5 := h_5.2
    have tx_4 : (x_4).toInt = 100 + (x_2).toInt := by rw [ex_4]; exact i_add_rg (a2 := 100) (b2 := (x_2).toInt) rfl rfl (rg_k (100 : Int32) 100 rfl) h_3 (by decide +kernel)
    refine lv_iload_n hx hb dX12_cellAt_11 rfl (lv_at hl 2 rfl) ?_
    refine lv_iadd hx hb dX12_cellAt_12 ?_
    refine lv_topi (fun x_6 ex_6 => ?_)
    replace hF := hF.trans (ap_n ex_6)
    have h_7 : rg x_6 104 728 := rg_of_eq ex_6 (rg_add h_5 (rg_k (4 : Int32) 4 rfl) (by decide +kernel))
    have uh_7 := h_7.1
    have vh_7 := h_7.2
    have tx_6 : (x_6).toInt = (x_4).toInt + 4 := by rw [ex_6]; exact i_add_rg (a2 := (x_4).toInt) (b2 := 4) rfl rfl h_5 (rg_k (4 : Int32) 4 rfl) (by decide +kernel)
    refine pl_i hx hb hK hP hL_w_1 hK_w_1 hN_w_1 (rg_in h_7 (by decide +kernel)) dX12_cellAt_13 ?_
    refine lv_topi (fun x_8 ex_8 => ?_)
    replace hF := hF.trans (ap_n (vR_r hO_w_1 (by decide +kernel) ex_8))
    subst hQ
    exact W.iret (v := x_8) hx hb hr (fun t1 ht hW => ⟨⟨x_8, (σ, I, J, ri, rj, rq), rfl, ⟨rfl, (hF0.symm.trans hF)⟩, by rw [ht]; exact hP, va_K.moved hW.alike hK, hD⟩, hS.F ht⟩) hS.2.2 dX12_cellAt_14
  exact go _ _ _ hP hD hS hl

set_option maxRecDepth 100000 in
def g_X12_cellAt_c5 (a0 : Int32) (I : Nat → Int32) (J : Nat → Int64) (ri : Nat → Nat → Int32) (rj : Nat → Nat → Int64) (rq : Nat → Nat → Option Nat) : Int32 × vM := (ap1 ((16 : Int32) * a0) fun (x_2 : Int32) => (ap1 ((100 : Int32) + x_2) fun (x_4 : Int32) => (ap1 (x_4 + (5 : Int32)) fun (x_6 : Int32) => (ap1 (ri 384 (x_6).toNatClampNeg) fun (x_8 : Int32) => (x_8, I, J, ri, rj, rq)))))
set_option maxRecDepth 100000 in
theorem g_X12_cellAt_c5_e {a0 : Int32} {I : Nat → Int32} {J : Nat → Int64} {ri : Nat → Nat → Int32} {rj : Nat → Nat → Int64} {rq : Nat → Nat → Option Nat} : g_X12_cellAt_c5 a0 I J ri rj rq = (ap1 ((16 : Int32) * a0) fun (x_2 : Int32) => (ap1 ((100 : Int32) + x_2) fun (x_4 : Int32) => (ap1 (x_4 + (5 : Int32)) fun (x_6 : Int32) => (ap1 (ri 384 (x_6).toNatClampNeg) fun (x_8 : Int32) => (x_8, I, J, ri, rj, rq))))) := rfl
set_option maxHeartbeats 4000000 in
set_option maxRecDepth 100000 in
theorem s_X12_cellAt_c5 (l : Launch) (D : va_G) (t : pq_T) (σ : pq_S) (I : Nat → Nat → Int32) (J : Nat → Nat → Int64) (ri : Nat → Nat → Int32) (rj : Nat → Nat → Int64) (rq : Nat → Nat → Option Nat) (sz : Nat) (tg : Nat → Nat) (hSH : SH σ tg) (hG0 : GT tg I ri) (this : Nat) (a0 : Int32) (hL_this : this ∈ σ.1) (hK_this : σ.2.1 this = 12) (h_a0 : rg a0 0 39) : MetI l yX12_cellAt (wa yX12_cellAt cX12_cellAt 3 (some .int)) ({ frames := 0, cells := 0, slots := 0, locals := 0 }) [.ref this, .int a0, .int 5] D t σ (I, J, ri, rj, rq) sz 0 0 (fun (r : Int32) (u : pq_S × pq_M) => u = (σ, I, J, ri, rj, rq) ∧ g_X12_cellAt_c5 a0 (vI 12 σ this I) (vJ 12 σ this J) (vR 12 σ this ri) (vL 12 σ this rj) (vQ 12 σ this rq) = (r, (vI 12 σ this I), (vJ 12 σ this J), (vR 12 σ this ri), (vL 12 σ this rj), (vQ 12 σ this rq))) := by
  refine Met.ofW (cc := cX12_cellAt) (maxL := 3) (ret := (some .int)) (by decide +kernel) rfl ?_
  intro p e s m args below meth c s₁ B hml hv
  obtain ⟨rfl, hsz, hP, hK, hD0, hN⟩ := hv
  have hx := B.exec
  have hb := B.bytes
  have hr := B.returns
  have hts := atoms_spec (ws := (wa yX12_cellAt cX12_cellAt 3 (some .int))) B.pre
  have hown : s.vm.findClass RX12 = some m.cls := findClass_of_methodNamed B.named
  have hlocks := B.notSynchronized
  subst hsz
  have hD : va_D (pq_B t σ (I, J, ri, rj, rq) s.heap.size) (pq_P t σ (I, J, ri, rj, rq)) := hD0.self
  generalize hAe : pq_B t σ (I, J, ri, rj, rq) s.heap.size = A at hD ⊢
  have hA : ∀ q : Nat, s.heap.size ≤ q → A q := fun q h => by rw [← hAe]; exact Or.inr h
  have hS : va_S A s.heap s.heap [] := va_S.rf
  have hG : GM [] tg σ I ri I ri rq := ⟨hG0, fun _ _ _ => rfl, fun _ _ _ _ _ => rfl, fun _ _ _ _ _ _ => rfl⟩
  have hl := lv_entry ([.ref this, .int a0, .int 5]) (n := 3) (Nat.le_of_ble_eq_true rfl)
  rw [lg_entry_eq]
  generalize (lg_sl ([.ref this, .int a0, .int 5]) ++ List.replicate (3 - (lg_sl ([.ref this, .int a0, .int 5])).length) Slot.unset).toArray = ls at hl ⊢
  have hl : lv_has ls 3 [(0, .ref this), (1, .int a0), (2, .int 5)] := hl
  refine q_gen (fun Q hQ => ?_)
  have go : ∀ (H : Heap) (locs : List Loc) (ls : Array Slot), va_P D vwCl (pq_P t σ (I, J, ri, rj, rq)) H → va_D A (pq_P t σ (I, J, ri, rj, rq)) → va_S A s.heap H locs → lv_has ls 3 [(0, .ref this), (1, .int a0), (2, .int 5)] → W p l e ({ frames := 0, cells := 0, slots := 0, locals := 0 } : Room) s m (List.toArray ([.ref this, .int a0, .int 5] : List Value)) below meth c H locs 0 0 Q (F0 m 0 ls []) := by
    intro H locs ls hP hD hS hl
    have hO_this : this = vo σ 12 this := rfl
    have hVT : VT 12 σ tg this := vt_12 hSH hL_this hK_this
    have hFr : FR 12 tg σ this (I, J, ri, rj, rq) (I, J, ri, rj, rq) := fr_rf
    obtain ⟨F, hF0⟩ : ∃ F, F = g_X12_cellAt_c5 a0 (vI 12 σ this I) (vJ 12 σ this J) (vR 12 σ this ri) (vL 12 σ this rj) (vQ 12 σ this rq) := ⟨_, rfl⟩
    have hF := hF0.trans g_X12_cellAt_c5_e
    refine lv_aload_n hx hb dX12_cellAt_0 rfl (lv_at hl 0 rfl) ?_
    obtain ⟨w_1, hR_w_1, hL_w_1, hK_w_1, hN_w_1, hT_w_1⟩ := sh_a hSH 384 (ci := 12) (kd := 13) (len := 12720) rfl (by decide +kernel) hL_this hK_this
    have hO_w_1 : w_1 = vrow σ 384 this := vo_k (c := 12) hO_this hR_w_1
    refine pg_f (v := .ref w_1) (C := RX12) (T := TX12) (N := 31) hx hb hts (tw_i inlX12) hown hK hP hL_this hK_this (by decide +kernel) rfl 0 (by decide +kernel) (hts _ (tw_c tw_176)) (pq_hv rfl hR_w_1) dX12_cellAt_1 ?_
    refine lv_bipush (v := 100) hx hb dX12_cellAt_4 (by decide +kernel) ?_
    refine lv_bipush (v := 16) hx hb dX12_cellAt_6 (by decide +kernel) ?_
    refine lv_iload_n hx hb dX12_cellAt_8 rfl (lv_at hl 1 rfl) ?_
    refine lv_imul hx hb dX12_cellAt_9 ?_
    refine lv_topi (fun x_2 ex_2 => ?_)
    replace hF := hF.trans (ap_n ex_2)
    have h_3 : rg x_2 0 624 := rg_of_eq ex_2 (rg_mul (rg_k (16 : Int32) 16 rfl) h_a0 (by decide +kernel))
    have uh_3 := h_3.1
    have vh_3 := h_3.2
    have tx_2 : (x_2).toInt = 16 * (a0).toInt := by rw [ex_2]; exact i_mul_rg (a2 := 16) (b2 := (a0).toInt) rfl rfl (rg_k (16 : Int32) 16 rfl) h_a0 (by decide +kernel)
    refine lv_iadd hx hb dX12_cellAt_10 ?_
    refine lv_topi (fun x_4 ex_4 => ?_)
    replace hF := hF.trans (ap_n ex_4)
    have h_5 : rg x_4 100 724 := rg_of_eq ex_4 (rg_add (rg_k (100 : Int32) 100 rfl) h_3 (by decide +kernel))
    have uh_5 := h_5.1
    have vh_5 := h_5.2
    have tx_4 : (x_4).toInt = 100 + (x_2).toInt := by rw [ex_4]; exact i_add_rg (a2 := 100) (b2 := (x_2).toInt) rfl rfl (rg_k (100 : Int32) 100 rfl) h_3 (by decide +kernel)
    refine lv_iload_n hx hb dX12_cellAt_11 rfl (lv_at hl 2 rfl) ?_
    refine lv_iadd hx hb dX12_cellAt_12 ?_
    refine lv_topi (fun x_6 ex_6 => ?_)
    replace hF := hF.trans (ap_n ex_6)
    have h_7 : rg x_6 105 729 := rg_of_eq ex_6 (rg_add h_5 (rg_k (5 : Int32) 5 rfl) (by decide +kernel))
    have uh_7 := h_7.1
    have vh_7 := h_7.2
    have tx_6 : (x_6).toInt = (x_4).toInt + 5 := by rw [ex_6]; exact i_add_rg (a2 := (x_4).toInt) (b2 := 5) rfl rfl h_5 (rg_k (5 : Int32) 5 rfl) (by decide +kernel)
    refine pl_i hx hb hK hP hL_w_1 hK_w_1 hN_w_1 (rg_in h_7 (by decide +kernel)) dX12_cellAt_13 ?_
    refine lv_topi (fun x_8 ex_8 => ?_)
    replace hF := hF.trans (ap_n (vR_r hO_w_1 (by decide +kernel) ex_8))
    subst hQ
    exact W.iret (v := x_8) hx hb hr (fun t1 ht hW => ⟨⟨x_8, (σ, I, J, ri, rj, rq), rfl, ⟨rfl, (hF0.symm.trans hF)⟩, by rw [ht]; exact hP, va_K.moved hW.alike hK, hD⟩, hS.F ht⟩) hS.2.2 dX12_cellAt_14
  exact go _ _ _ hP hD hS hl

set_option maxRecDepth 100000 in
def g_X12_cellAt_c6 (a0 : Int32) (I : Nat → Int32) (J : Nat → Int64) (ri : Nat → Nat → Int32) (rj : Nat → Nat → Int64) (rq : Nat → Nat → Option Nat) : Int32 × vM := (ap1 ((16 : Int32) * a0) fun (x_2 : Int32) => (ap1 ((100 : Int32) + x_2) fun (x_4 : Int32) => (ap1 (x_4 + (6 : Int32)) fun (x_6 : Int32) => (ap1 (ri 384 (x_6).toNatClampNeg) fun (x_8 : Int32) => (x_8, I, J, ri, rj, rq)))))
set_option maxRecDepth 100000 in
theorem g_X12_cellAt_c6_e {a0 : Int32} {I : Nat → Int32} {J : Nat → Int64} {ri : Nat → Nat → Int32} {rj : Nat → Nat → Int64} {rq : Nat → Nat → Option Nat} : g_X12_cellAt_c6 a0 I J ri rj rq = (ap1 ((16 : Int32) * a0) fun (x_2 : Int32) => (ap1 ((100 : Int32) + x_2) fun (x_4 : Int32) => (ap1 (x_4 + (6 : Int32)) fun (x_6 : Int32) => (ap1 (ri 384 (x_6).toNatClampNeg) fun (x_8 : Int32) => (x_8, I, J, ri, rj, rq))))) := rfl
set_option maxHeartbeats 4000000 in
set_option maxRecDepth 100000 in
theorem s_X12_cellAt_c6 (l : Launch) (D : va_G) (t : pq_T) (σ : pq_S) (I : Nat → Nat → Int32) (J : Nat → Nat → Int64) (ri : Nat → Nat → Int32) (rj : Nat → Nat → Int64) (rq : Nat → Nat → Option Nat) (sz : Nat) (tg : Nat → Nat) (hSH : SH σ tg) (hG0 : GT tg I ri) (this : Nat) (a0 : Int32) (hL_this : this ∈ σ.1) (hK_this : σ.2.1 this = 12) (h_a0 : rg a0 0 39) : MetI l yX12_cellAt (wa yX12_cellAt cX12_cellAt 3 (some .int)) ({ frames := 0, cells := 0, slots := 0, locals := 0 }) [.ref this, .int a0, .int 6] D t σ (I, J, ri, rj, rq) sz 0 0 (fun (r : Int32) (u : pq_S × pq_M) => u = (σ, I, J, ri, rj, rq) ∧ g_X12_cellAt_c6 a0 (vI 12 σ this I) (vJ 12 σ this J) (vR 12 σ this ri) (vL 12 σ this rj) (vQ 12 σ this rq) = (r, (vI 12 σ this I), (vJ 12 σ this J), (vR 12 σ this ri), (vL 12 σ this rj), (vQ 12 σ this rq))) := by
  refine Met.ofW (cc := cX12_cellAt) (maxL := 3) (ret := (some .int)) (by decide +kernel) rfl ?_
  intro p e s m args below meth c s₁ B hml hv
  obtain ⟨rfl, hsz, hP, hK, hD0, hN⟩ := hv
  have hx := B.exec
  have hb := B.bytes
  have hr := B.returns
  have hts := atoms_spec (ws := (wa yX12_cellAt cX12_cellAt 3 (some .int))) B.pre
  have hown : s.vm.findClass RX12 = some m.cls := findClass_of_methodNamed B.named
  have hlocks := B.notSynchronized
  subst hsz
  have hD : va_D (pq_B t σ (I, J, ri, rj, rq) s.heap.size) (pq_P t σ (I, J, ri, rj, rq)) := hD0.self
  generalize hAe : pq_B t σ (I, J, ri, rj, rq) s.heap.size = A at hD ⊢
  have hA : ∀ q : Nat, s.heap.size ≤ q → A q := fun q h => by rw [← hAe]; exact Or.inr h
  have hS : va_S A s.heap s.heap [] := va_S.rf
  have hG : GM [] tg σ I ri I ri rq := ⟨hG0, fun _ _ _ => rfl, fun _ _ _ _ _ => rfl, fun _ _ _ _ _ _ => rfl⟩
  have hl := lv_entry ([.ref this, .int a0, .int 6]) (n := 3) (Nat.le_of_ble_eq_true rfl)
  rw [lg_entry_eq]
  generalize (lg_sl ([.ref this, .int a0, .int 6]) ++ List.replicate (3 - (lg_sl ([.ref this, .int a0, .int 6])).length) Slot.unset).toArray = ls at hl ⊢
  have hl : lv_has ls 3 [(0, .ref this), (1, .int a0), (2, .int 6)] := hl
  refine q_gen (fun Q hQ => ?_)
  have go : ∀ (H : Heap) (locs : List Loc) (ls : Array Slot), va_P D vwCl (pq_P t σ (I, J, ri, rj, rq)) H → va_D A (pq_P t σ (I, J, ri, rj, rq)) → va_S A s.heap H locs → lv_has ls 3 [(0, .ref this), (1, .int a0), (2, .int 6)] → W p l e ({ frames := 0, cells := 0, slots := 0, locals := 0 } : Room) s m (List.toArray ([.ref this, .int a0, .int 6] : List Value)) below meth c H locs 0 0 Q (F0 m 0 ls []) := by
    intro H locs ls hP hD hS hl
    have hO_this : this = vo σ 12 this := rfl
    have hVT : VT 12 σ tg this := vt_12 hSH hL_this hK_this
    have hFr : FR 12 tg σ this (I, J, ri, rj, rq) (I, J, ri, rj, rq) := fr_rf
    obtain ⟨F, hF0⟩ : ∃ F, F = g_X12_cellAt_c6 a0 (vI 12 σ this I) (vJ 12 σ this J) (vR 12 σ this ri) (vL 12 σ this rj) (vQ 12 σ this rq) := ⟨_, rfl⟩
    have hF := hF0.trans g_X12_cellAt_c6_e
    refine lv_aload_n hx hb dX12_cellAt_0 rfl (lv_at hl 0 rfl) ?_
    obtain ⟨w_1, hR_w_1, hL_w_1, hK_w_1, hN_w_1, hT_w_1⟩ := sh_a hSH 384 (ci := 12) (kd := 13) (len := 12720) rfl (by decide +kernel) hL_this hK_this
    have hO_w_1 : w_1 = vrow σ 384 this := vo_k (c := 12) hO_this hR_w_1
    refine pg_f (v := .ref w_1) (C := RX12) (T := TX12) (N := 31) hx hb hts (tw_i inlX12) hown hK hP hL_this hK_this (by decide +kernel) rfl 0 (by decide +kernel) (hts _ (tw_c tw_176)) (pq_hv rfl hR_w_1) dX12_cellAt_1 ?_
    refine lv_bipush (v := 100) hx hb dX12_cellAt_4 (by decide +kernel) ?_
    refine lv_bipush (v := 16) hx hb dX12_cellAt_6 (by decide +kernel) ?_
    refine lv_iload_n hx hb dX12_cellAt_8 rfl (lv_at hl 1 rfl) ?_
    refine lv_imul hx hb dX12_cellAt_9 ?_
    refine lv_topi (fun x_2 ex_2 => ?_)
    replace hF := hF.trans (ap_n ex_2)
    have h_3 : rg x_2 0 624 := rg_of_eq ex_2 (rg_mul (rg_k (16 : Int32) 16 rfl) h_a0 (by decide +kernel))
    have uh_3 := h_3.1
    have vh_3 := h_3.2
    have tx_2 : (x_2).toInt = 16 * (a0).toInt := by rw [ex_2]; exact i_mul_rg (a2 := 16) (b2 := (a0).toInt) rfl rfl (rg_k (16 : Int32) 16 rfl) h_a0 (by decide +kernel)
    refine lv_iadd hx hb dX12_cellAt_10 ?_
    refine lv_topi (fun x_4 ex_4 => ?_)
    replace hF := hF.trans (ap_n ex_4)
    have h_5 : rg x_4 100 724 := rg_of_eq ex_4 (rg_add (rg_k (100 : Int32) 100 rfl) h_3 (by decide +kernel))
    have uh_5 := h_5.1
    have vh_5 := h_5.2
    have tx_4 : (x_4).toInt = 100 + (x_2).toInt := by rw [ex_4]; exact i_add_rg (a2 := 100) (b2 := (x_2).toInt) rfl rfl (rg_k (100 : Int32) 100 rfl) h_3 (by decide +kernel)
    refine lv_iload_n hx hb dX12_cellAt_11 rfl (lv_at hl 2 rfl) ?_
    refine lv_iadd hx hb dX12_cellAt_12 ?_
    refine lv_topi (fun x_6 ex_6 => ?_)
    replace hF := hF.trans (ap_n ex_6)
    have h_7 : rg x_6 106 730 := rg_of_eq ex_6 (rg_add h_5 (rg_k (6 : Int32) 6 rfl) (by decide +kernel))
    have uh_7 := h_7.1
    have vh_7 := h_7.2
    have tx_6 : (x_6).toInt = (x_4).toInt + 6 := by rw [ex_6]; exact i_add_rg (a2 := (x_4).toInt) (b2 := 6) rfl rfl h_5 (rg_k (6 : Int32) 6 rfl) (by decide +kernel)
    refine pl_i hx hb hK hP hL_w_1 hK_w_1 hN_w_1 (rg_in h_7 (by decide +kernel)) dX12_cellAt_13 ?_
    refine lv_topi (fun x_8 ex_8 => ?_)
    replace hF := hF.trans (ap_n (vR_r hO_w_1 (by decide +kernel) ex_8))
    subst hQ
    exact W.iret (v := x_8) hx hb hr (fun t1 ht hW => ⟨⟨x_8, (σ, I, J, ri, rj, rq), rfl, ⟨rfl, (hF0.symm.trans hF)⟩, by rw [ht]; exact hP, va_K.moved hW.alike hK, hD⟩, hS.F ht⟩) hS.2.2 dX12_cellAt_14
  exact go _ _ _ hP hD hS hl

set_option maxRecDepth 100000 in
def g_X12_topOf (a0 : Int32) (I : Nat → Int32) (J : Nat → Int64) (ri : Nat → Nat → Int32) (rj : Nat → Nat → Int64) (rq : Nat → Nat → Option Nat) : Int32 × vM := (bnI (g_X12_cellAt_c1 a0 I J ri rj rq) fun (x_1 : Int32) (_ : Nat → Int32) (_ : Nat → Int64) (_ : Nat → Nat → Int32) (_ : Nat → Nat → Int64) (_ : Nat → Nat → Option Nat) => (bnI (g_X12_cellAt_c4 a0 I J ri rj rq) fun (x_8 : Int32) (_ : Nat → Int32) (_ : Nat → Int64) (_ : Nat → Nat → Int32) (_ : Nat → Nat → Int64) (_ : Nat → Nat → Option Nat) => (ap1 (x_1 + x_8) fun (x_15 : Int32) => (bnI (g_X12_cellAt_c5 a0 I J ri rj rq) fun (x_16 : Int32) (_ : Nat → Int32) (_ : Nat → Int64) (_ : Nat → Nat → Int32) (_ : Nat → Nat → Int64) (_ : Nat → Nat → Option Nat) => (ap1 (x_16 / (4 : Int32)) fun (x_23 : Int32) => (ap1 (x_15 + x_23) fun (x_24 : Int32) => (bnI (g_X12_cellAt_c6 a0 I J ri rj rq) fun (x_25 : Int32) (_ : Nat → Int32) (_ : Nat → Int64) (_ : Nat → Nat → Int32) (_ : Nat → Nat → Int64) (_ : Nat → Nat → Option Nat) => (ap1 (x_24 + x_25) fun (x_32 : Int32) => (x_32, I, J, ri, rj, rq)))))))))
set_option maxRecDepth 100000 in
theorem g_X12_topOf_e {a0 : Int32} {I : Nat → Int32} {J : Nat → Int64} {ri : Nat → Nat → Int32} {rj : Nat → Nat → Int64} {rq : Nat → Nat → Option Nat} : g_X12_topOf a0 I J ri rj rq = (bnI (g_X12_cellAt_c1 a0 I J ri rj rq) fun (x_1 : Int32) (_ : Nat → Int32) (_ : Nat → Int64) (_ : Nat → Nat → Int32) (_ : Nat → Nat → Int64) (_ : Nat → Nat → Option Nat) => (bnI (g_X12_cellAt_c4 a0 I J ri rj rq) fun (x_8 : Int32) (_ : Nat → Int32) (_ : Nat → Int64) (_ : Nat → Nat → Int32) (_ : Nat → Nat → Int64) (_ : Nat → Nat → Option Nat) => (ap1 (x_1 + x_8) fun (x_15 : Int32) => (bnI (g_X12_cellAt_c5 a0 I J ri rj rq) fun (x_16 : Int32) (_ : Nat → Int32) (_ : Nat → Int64) (_ : Nat → Nat → Int32) (_ : Nat → Nat → Int64) (_ : Nat → Nat → Option Nat) => (ap1 (x_16 / (4 : Int32)) fun (x_23 : Int32) => (ap1 (x_15 + x_23) fun (x_24 : Int32) => (bnI (g_X12_cellAt_c6 a0 I J ri rj rq) fun (x_25 : Int32) (_ : Nat → Int32) (_ : Nat → Int64) (_ : Nat → Nat → Int32) (_ : Nat → Nat → Int64) (_ : Nat → Nat → Option Nat) => (ap1 (x_24 + x_25) fun (x_32 : Int32) => (x_32, I, J, ri, rj, rq))))))))) := rfl
set_option maxHeartbeats 4000000 in
set_option maxRecDepth 100000 in
theorem s_X12_topOf (l : Launch) (D : va_G) (t : pq_T) (σ : pq_S) (I : Nat → Nat → Int32) (J : Nat → Nat → Int64) (ri : Nat → Nat → Int32) (rj : Nat → Nat → Int64) (rq : Nat → Nat → Option Nat) (sz : Nat) (tg : Nat → Nat) (hSH : SH σ tg) (hG0 : GT tg I ri) (this : Nat) (a0 : Int32) (hL_this : this ∈ σ.1) (hK_this : σ.2.1 this = 12) (h_a0 : rg a0 0 39) : MetI l yX12_topOf (wa yX12_topOf cX12_topOf 2 (some .int)) ({ frames := 1, cells := 0, slots := 0, locals := 22 }) [.ref this, .int a0] D t σ (I, J, ri, rj, rq) sz 0 0 (fun (r : Int32) (u : pq_S × pq_M) => u = (σ, I, J, ri, rj, rq) ∧ g_X12_topOf a0 (vI 12 σ this I) (vJ 12 σ this J) (vR 12 σ this ri) (vL 12 σ this rj) (vQ 12 σ this rq) = (r, (vI 12 σ this I), (vJ 12 σ this J), (vR 12 σ this ri), (vL 12 σ this rj), (vQ 12 σ this rq))) := by
  refine Met.ofW (cc := cX12_topOf) (maxL := 2) (ret := (some .int)) (by decide +kernel) rfl ?_
  intro p e s m args below meth c s₁ B hml hv
  obtain ⟨rfl, hsz, hP, hK, hD0, hN⟩ := hv
  have hx := B.exec
  have hb := B.bytes
  have hr := B.returns
  have hts := atoms_spec (ws := (wa yX12_topOf cX12_topOf 2 (some .int))) B.pre
  have hown : s.vm.findClass RX12 = some m.cls := findClass_of_methodNamed B.named
  have hlocks := B.notSynchronized
  subst hsz
  have hD : va_D (pq_B t σ (I, J, ri, rj, rq) s.heap.size) (pq_P t σ (I, J, ri, rj, rq)) := hD0.self
  generalize hAe : pq_B t σ (I, J, ri, rj, rq) s.heap.size = A at hD ⊢
  have hA : ∀ q : Nat, s.heap.size ≤ q → A q := fun q h => by rw [← hAe]; exact Or.inr h
  have hS : va_S A s.heap s.heap [] := va_S.rf
  have hG : GM [] tg σ I ri I ri rq := ⟨hG0, fun _ _ _ => rfl, fun _ _ _ _ _ => rfl, fun _ _ _ _ _ _ => rfl⟩
  have hl := lv_entry ([.ref this, .int a0]) (n := 2) (Nat.le_of_ble_eq_true rfl)
  rw [lg_entry_eq]
  generalize (lg_sl ([.ref this, .int a0]) ++ List.replicate (2 - (lg_sl ([.ref this, .int a0])).length) Slot.unset).toArray = ls at hl ⊢
  have hl : lv_has ls 2 [(0, .ref this), (1, .int a0)] := hl
  refine q_gen (fun Q hQ => ?_)
  have go : ∀ (H : Heap) (locs : List Loc) (ls : Array Slot), va_P D vwCl (pq_P t σ (I, J, ri, rj, rq)) H → va_D A (pq_P t σ (I, J, ri, rj, rq)) → va_S A s.heap H locs → lv_has ls 2 [(0, .ref this), (1, .int a0)] → W p l e ({ frames := 1, cells := 0, slots := 0, locals := 22 } : Room) s m (List.toArray ([.ref this, .int a0] : List Value)) below meth c H locs 0 0 Q (F0 m 0 ls []) := by
    intro H locs ls hP hD hS hl
    have hO_this : this = vo σ 12 this := rfl
    have hVT : VT 12 σ tg this := vt_12 hSH hL_this hK_this
    have hFr : FR 12 tg σ this (I, J, ri, rj, rq) (I, J, ri, rj, rq) := fr_rf
    obtain ⟨F, hF0⟩ : ∃ F, F = g_X12_topOf a0 (vI 12 σ this I) (vJ 12 σ this J) (vR 12 σ this ri) (vL 12 σ this rj) (vQ 12 σ this rq) := ⟨_, rfl⟩
    have hF := hF0.trans g_X12_topOf_e
    refine lv_aload_n hx hb dX12_topOf_0 rfl (lv_at hl 0 rfl) ?_
    refine lv_iload_n hx hb dX12_topOf_1 rfl (lv_at hl 1 rfl) ?_
    refine lv_iconst (v := 1) hx hb dX12_topOf_2 (by decide +kernel) ?_
    refine pk_i (va_runV (As := [.int a0, .int 1]) (rest := []) ⟨hx, hb, hml, hown, hts⟩ (s_X12_cellAt_c1 l D t σ I J ri rj rq H.size tg hSH hG.1 this a0 hL_this hK_this (rg_w h_a0 (by decide +kernel))) (cwV 2 hts (tw_V tw_361 tw_362 tw_363 tw_5 tw_364) rfl rfl rfl cv_yX12_cellAt_2 ⟨Nat.le_of_ble_eq_true rfl, Nat.le_of_ble_eq_true rfl⟩) ⟨pq_blind, pq_recv hK hP hL_this hK_this (by decide +kernel) rfl, pq_pre hK hN hP hD⟩ rfl rfl hl.1 rfl (lv_room (Nat.le_of_ble_eq_true rfl)) dX12_topOf_3 ⟨Nat.le_of_ble_eq_true rfl, Nat.le_of_ble_eq_true rfl⟩) hD hS hA (fun x_1 σ1 μ1 H locs hw_2 hP hD hS => ?_)
    obtain ⟨hu_3, hfn_6⟩ := hw_2
    obtain ⟨hu_3a, hu_3b⟩ := Prod.mk.inj hu_3
    rw [hu_3a, hu_3b] at hP hD
    replace hF := hF.trans (bn_n hfn_6)
    refine lv_aload_n hx hb dX12_topOf_6 rfl (lv_at hl 0 rfl) ?_
    refine lv_iload_n hx hb dX12_topOf_7 rfl (lv_at hl 1 rfl) ?_
    refine lv_iconst (v := 4) hx hb dX12_topOf_8 (by decide +kernel) ?_
    refine pk_i (va_runV (As := [.int a0, .int 4]) (rest := [.int x_1]) ⟨hx, hb, hml, hown, hts⟩ (s_X12_cellAt_c4 l D t σ I J ri rj rq H.size tg hSH hG.1 this a0 hL_this hK_this (rg_w h_a0 (by decide +kernel))) (cwV 2 hts (tw_V tw_361 tw_362 tw_363 tw_5 tw_364) rfl rfl rfl cv_yX12_cellAt_2 ⟨Nat.le_of_ble_eq_true rfl, Nat.le_of_ble_eq_true rfl⟩) ⟨pq_blind, pq_recv hK hP hL_this hK_this (by decide +kernel) rfl, pq_pre hK hN hP hD⟩ rfl rfl hl.1 rfl (lv_room (Nat.le_of_ble_eq_true rfl)) dX12_topOf_9 ⟨Nat.le_of_ble_eq_true rfl, Nat.le_of_ble_eq_true rfl⟩) hD hS hA (fun x_8 σ1 μ1 H locs hw_9 hP hD hS => ?_)
    obtain ⟨hu_10, hfn_13⟩ := hw_9
    obtain ⟨hu_10a, hu_10b⟩ := Prod.mk.inj hu_10
    rw [hu_10a, hu_10b] at hP hD
    replace hF := hF.trans (bn_n hfn_13)
    refine lv_iadd hx hb dX12_topOf_12 ?_
    refine lv_topi (fun x_15 ex_15 => ?_)
    replace hF := hF.trans (ap_n ex_15)
    refine lv_aload_n hx hb dX12_topOf_13 rfl (lv_at hl 0 rfl) ?_
    refine lv_iload_n hx hb dX12_topOf_14 rfl (lv_at hl 1 rfl) ?_
    refine lv_iconst (v := 5) hx hb dX12_topOf_15 (by decide +kernel) ?_
    refine pk_i (va_runV (As := [.int a0, .int 5]) (rest := [.int x_15]) ⟨hx, hb, hml, hown, hts⟩ (s_X12_cellAt_c5 l D t σ I J ri rj rq H.size tg hSH hG.1 this a0 hL_this hK_this (rg_w h_a0 (by decide +kernel))) (cwV 2 hts (tw_V tw_361 tw_362 tw_363 tw_5 tw_364) rfl rfl rfl cv_yX12_cellAt_2 ⟨Nat.le_of_ble_eq_true rfl, Nat.le_of_ble_eq_true rfl⟩) ⟨pq_blind, pq_recv hK hP hL_this hK_this (by decide +kernel) rfl, pq_pre hK hN hP hD⟩ rfl rfl hl.1 rfl (lv_room (Nat.le_of_ble_eq_true rfl)) dX12_topOf_16 ⟨Nat.le_of_ble_eq_true rfl, Nat.le_of_ble_eq_true rfl⟩) hD hS hA (fun x_16 σ1 μ1 H locs hw_17 hP hD hS => ?_)
    obtain ⟨hu_18, hfn_21⟩ := hw_17
    obtain ⟨hu_18a, hu_18b⟩ := Prod.mk.inj hu_18
    rw [hu_18a, hu_18b] at hP hD
    replace hF := hF.trans (bn_n hfn_21)
    refine lv_iconst (v := 4) hx hb dX12_topOf_19 (by decide +kernel) ?_
    refine lv_idiv hx hb dX12_topOf_20 (by decide +kernel) ?_
    refine lv_topi (fun x_23 ex_23 => ?_)
    replace hF := hF.trans (ap_n ex_23)
    refine lv_iadd hx hb dX12_topOf_21 ?_
    refine lv_topi (fun x_24 ex_24 => ?_)
    replace hF := hF.trans (ap_n ex_24)
    refine lv_aload_n hx hb dX12_topOf_22 rfl (lv_at hl 0 rfl) ?_
    refine lv_iload_n hx hb dX12_topOf_23 rfl (lv_at hl 1 rfl) ?_
    refine lv_bipush (v := 6) hx hb dX12_topOf_24 (by decide +kernel) ?_
    refine pk_i (va_runV (As := [.int a0, .int 6]) (rest := [.int x_24]) ⟨hx, hb, hml, hown, hts⟩ (s_X12_cellAt_c6 l D t σ I J ri rj rq H.size tg hSH hG.1 this a0 hL_this hK_this (rg_w h_a0 (by decide +kernel))) (cwV 2 hts (tw_V tw_361 tw_362 tw_363 tw_5 tw_364) rfl rfl rfl cv_yX12_cellAt_2 ⟨Nat.le_of_ble_eq_true rfl, Nat.le_of_ble_eq_true rfl⟩) ⟨pq_blind, pq_recv hK hP hL_this hK_this (by decide +kernel) rfl, pq_pre hK hN hP hD⟩ rfl rfl hl.1 rfl (lv_room (Nat.le_of_ble_eq_true rfl)) dX12_topOf_26 ⟨Nat.le_of_ble_eq_true rfl, Nat.le_of_ble_eq_true rfl⟩) hD hS hA (fun x_25 σ1 μ1 H locs hw_26 hP hD hS => ?_)
    obtain ⟨hu_27, hfn_30⟩ := hw_26
    obtain ⟨hu_27a, hu_27b⟩ := Prod.mk.inj hu_27
    rw [hu_27a, hu_27b] at hP hD
    replace hF := hF.trans (bn_n hfn_30)
    refine lv_iadd hx hb dX12_topOf_29 ?_
    refine lv_topi (fun x_32 ex_32 => ?_)
    replace hF := hF.trans (ap_n ex_32)
    subst hQ
    exact W.iret (v := x_32) hx hb hr (fun t1 ht hW => ⟨⟨x_32, (σ, I, J, ri, rj, rq), rfl, ⟨rfl, (hF0.symm.trans hF)⟩, by rw [ht]; exact hP, va_K.moved hW.alike hK, hD⟩, hS.F ht⟩) hS.2.2 dX12_topOf_30
  exact go _ _ _ hP hD hS hl

set_option maxRecDepth 100000 in
def g_X12_tableAt_c2 (a0 : Int32) (I : Nat → Int32) (J : Nat → Int64) (ri : Nat → Nat → Int32) (rj : Nat → Nat → Int64) (rq : Nat → Nat → Option Nat) : Int32 × vM := (ap1 (a0 - a0 / (12 : Int32) * (12 : Int32)) fun (x_2 : Int32) => (ap1 ((5 : Int32) * x_2) fun (x_4 : Int32) => (ap1 ((20 : Int32) + x_4) fun (x_6 : Int32) => (ap1 (x_6 + (2 : Int32)) fun (x_8 : Int32) => (ap1 (ri 384 (x_8).toNatClampNeg) fun (x_10 : Int32) => (x_10, I, J, ri, rj, rq))))))
set_option maxRecDepth 100000 in
theorem g_X12_tableAt_c2_e {a0 : Int32} {I : Nat → Int32} {J : Nat → Int64} {ri : Nat → Nat → Int32} {rj : Nat → Nat → Int64} {rq : Nat → Nat → Option Nat} : g_X12_tableAt_c2 a0 I J ri rj rq = (ap1 (a0 - a0 / (12 : Int32) * (12 : Int32)) fun (x_2 : Int32) => (ap1 ((5 : Int32) * x_2) fun (x_4 : Int32) => (ap1 ((20 : Int32) + x_4) fun (x_6 : Int32) => (ap1 (x_6 + (2 : Int32)) fun (x_8 : Int32) => (ap1 (ri 384 (x_8).toNatClampNeg) fun (x_10 : Int32) => (x_10, I, J, ri, rj, rq)))))) := rfl
set_option maxHeartbeats 4000000 in
set_option maxRecDepth 100000 in
theorem s_X12_tableAt_c2 (l : Launch) (D : va_G) (t : pq_T) (σ : pq_S) (I : Nat → Nat → Int32) (J : Nat → Nat → Int64) (ri : Nat → Nat → Int32) (rj : Nat → Nat → Int64) (rq : Nat → Nat → Option Nat) (sz : Nat) (tg : Nat → Nat) (hSH : SH σ tg) (hG0 : GT tg I ri) (this : Nat) (a0 : Int32) (hL_this : this ∈ σ.1) (hK_this : σ.2.1 this = 12) (h_a0 : rg a0 0 600) : MetI l yX12_tableAt (wa yX12_tableAt cX12_tableAt 3 (some .int)) ({ frames := 0, cells := 0, slots := 0, locals := 0 }) [.ref this, .int a0, .int 2] D t σ (I, J, ri, rj, rq) sz 0 0 (fun (r : Int32) (u : pq_S × pq_M) => u = (σ, I, J, ri, rj, rq) ∧ g_X12_tableAt_c2 a0 (vI 12 σ this I) (vJ 12 σ this J) (vR 12 σ this ri) (vL 12 σ this rj) (vQ 12 σ this rq) = (r, (vI 12 σ this I), (vJ 12 σ this J), (vR 12 σ this ri), (vL 12 σ this rj), (vQ 12 σ this rq))) := by
  refine Met.ofW (cc := cX12_tableAt) (maxL := 3) (ret := (some .int)) (by decide +kernel) rfl ?_
  intro p e s m args below meth c s₁ B hml hv
  obtain ⟨rfl, hsz, hP, hK, hD0, hN⟩ := hv
  have hx := B.exec
  have hb := B.bytes
  have hr := B.returns
  have hts := atoms_spec (ws := (wa yX12_tableAt cX12_tableAt 3 (some .int))) B.pre
  have hown : s.vm.findClass RX12 = some m.cls := findClass_of_methodNamed B.named
  have hlocks := B.notSynchronized
  subst hsz
  have hD : va_D (pq_B t σ (I, J, ri, rj, rq) s.heap.size) (pq_P t σ (I, J, ri, rj, rq)) := hD0.self
  generalize hAe : pq_B t σ (I, J, ri, rj, rq) s.heap.size = A at hD ⊢
  have hA : ∀ q : Nat, s.heap.size ≤ q → A q := fun q h => by rw [← hAe]; exact Or.inr h
  have hS : va_S A s.heap s.heap [] := va_S.rf
  have hG : GM [] tg σ I ri I ri rq := ⟨hG0, fun _ _ _ => rfl, fun _ _ _ _ _ => rfl, fun _ _ _ _ _ _ => rfl⟩
  have hl := lv_entry ([.ref this, .int a0, .int 2]) (n := 3) (Nat.le_of_ble_eq_true rfl)
  rw [lg_entry_eq]
  generalize (lg_sl ([.ref this, .int a0, .int 2]) ++ List.replicate (3 - (lg_sl ([.ref this, .int a0, .int 2])).length) Slot.unset).toArray = ls at hl ⊢
  have hl : lv_has ls 3 [(0, .ref this), (1, .int a0), (2, .int 2)] := hl
  refine q_gen (fun Q hQ => ?_)
  have go : ∀ (H : Heap) (locs : List Loc) (ls : Array Slot), va_P D vwCl (pq_P t σ (I, J, ri, rj, rq)) H → va_D A (pq_P t σ (I, J, ri, rj, rq)) → va_S A s.heap H locs → lv_has ls 3 [(0, .ref this), (1, .int a0), (2, .int 2)] → W p l e ({ frames := 0, cells := 0, slots := 0, locals := 0 } : Room) s m (List.toArray ([.ref this, .int a0, .int 2] : List Value)) below meth c H locs 0 0 Q (F0 m 0 ls []) := by
    intro H locs ls hP hD hS hl
    have hO_this : this = vo σ 12 this := rfl
    have hVT : VT 12 σ tg this := vt_12 hSH hL_this hK_this
    have hFr : FR 12 tg σ this (I, J, ri, rj, rq) (I, J, ri, rj, rq) := fr_rf
    obtain ⟨F, hF0⟩ : ∃ F, F = g_X12_tableAt_c2 a0 (vI 12 σ this I) (vJ 12 σ this J) (vR 12 σ this ri) (vL 12 σ this rj) (vQ 12 σ this rq) := ⟨_, rfl⟩
    have hF := hF0.trans g_X12_tableAt_c2_e
    refine lv_aload_n hx hb dX12_tableAt_0 rfl (lv_at hl 0 rfl) ?_
    obtain ⟨w_1, hR_w_1, hL_w_1, hK_w_1, hN_w_1, hT_w_1⟩ := sh_a hSH 384 (ci := 12) (kd := 13) (len := 12720) rfl (by decide +kernel) hL_this hK_this
    have hO_w_1 : w_1 = vrow σ 384 this := vo_k (c := 12) hO_this hR_w_1
    refine pg_f (v := .ref w_1) (C := RX12) (T := TX12) (N := 31) hx hb hts (tw_i inlX12) hown hK hP hL_this hK_this (by decide +kernel) rfl 0 (by decide +kernel) (hts _ (tw_c tw_176)) (pq_hv rfl hR_w_1) dX12_tableAt_1 ?_
    refine lv_bipush (v := 20) hx hb dX12_tableAt_4 (by decide +kernel) ?_
    refine lv_iconst (v := 5) hx hb dX12_tableAt_6 (by decide +kernel) ?_
    refine lv_iload_n hx hb dX12_tableAt_7 rfl (lv_at hl 1 rfl) ?_
    refine lv_bipush (v := 12) hx hb dX12_tableAt_8 (by decide +kernel) ?_
    refine lv_irem hx hb dX12_tableAt_10 (by decide +kernel) ?_
    refine lv_topi (fun x_2 ex_2 => ?_)
    replace hF := hF.trans (ap_n ex_2)
    have h_3 : rg x_2 0 11 := rg_of_eq ex_2 (rg_rem h_a0 rfl (by decide +kernel))
    have uh_3 := h_3.1
    have vh_3 := h_3.2
    refine lv_imul hx hb dX12_tableAt_11 ?_
    refine lv_topi (fun x_4 ex_4 => ?_)
    replace hF := hF.trans (ap_n ex_4)
    have h_5 : rg x_4 0 55 := rg_of_eq ex_4 (rg_mul (rg_k (5 : Int32) 5 rfl) h_3 (by decide +kernel))
    have uh_5 := h_5.1
    have vh_5 := h_5.2
    have tx_4 : (x_4).toInt = 5 * (x_2).toInt := by rw [ex_4]; exact i_mul_rg (a2 := 5) (b2 := (x_2).toInt) rfl rfl (rg_k (5 : Int32) 5 rfl) h_3 (by decide +kernel)
    refine lv_iadd hx hb dX12_tableAt_12 ?_
    refine lv_topi (fun x_6 ex_6 => ?_)
    replace hF := hF.trans (ap_n ex_6)
    have h_7 : rg x_6 20 75 := rg_of_eq ex_6 (rg_add (rg_k (20 : Int32) 20 rfl) h_5 (by decide +kernel))
    have uh_7 := h_7.1
    have vh_7 := h_7.2
    have tx_6 : (x_6).toInt = 20 + (x_4).toInt := by rw [ex_6]; exact i_add_rg (a2 := 20) (b2 := (x_4).toInt) rfl rfl (rg_k (20 : Int32) 20 rfl) h_5 (by decide +kernel)
    refine lv_iload_n hx hb dX12_tableAt_13 rfl (lv_at hl 2 rfl) ?_
    refine lv_iadd hx hb dX12_tableAt_14 ?_
    refine lv_topi (fun x_8 ex_8 => ?_)
    replace hF := hF.trans (ap_n ex_8)
    have h_9 : rg x_8 22 77 := rg_of_eq ex_8 (rg_add h_7 (rg_k (2 : Int32) 2 rfl) (by decide +kernel))
    have uh_9 := h_9.1
    have vh_9 := h_9.2
    have tx_8 : (x_8).toInt = (x_6).toInt + 2 := by rw [ex_8]; exact i_add_rg (a2 := (x_6).toInt) (b2 := 2) rfl rfl h_7 (rg_k (2 : Int32) 2 rfl) (by decide +kernel)
    refine pl_i hx hb hK hP hL_w_1 hK_w_1 hN_w_1 (rg_in h_9 (by decide +kernel)) dX12_tableAt_15 ?_
    refine lv_topi (fun x_10 ex_10 => ?_)
    replace hF := hF.trans (ap_n (vR_r hO_w_1 (by decide +kernel) ex_10))
    subst hQ
    exact W.iret (v := x_10) hx hb hr (fun t1 ht hW => ⟨⟨x_10, (σ, I, J, ri, rj, rq), rfl, ⟨rfl, (hF0.symm.trans hF)⟩, by rw [ht]; exact hP, va_K.moved hW.alike hK, hD⟩, hS.F ht⟩) hS.2.2 dX12_tableAt_16
  exact go _ _ _ hP hD hS hl

set_option maxRecDepth 100000 in
def g_X12_reefGoes_K102 (x_652 : Int32) (k_g_X12_reefGoes_L2 : (Int32) → (Nat → Nat → Int32) → vM) (ri_798 : Nat → Nat → Int32) : vM := (ap1 (x_652 + Int32.ofInt 1) fun (x_802 : Int32) => (k_g_X12_reefGoes_L2 x_802 ri_798))
set_option maxRecDepth 100000 in
theorem g_X12_reefGoes_K102_e {x_652 : Int32} {k_g_X12_reefGoes_L2 : (Int32) → (Nat → Nat → Int32) → vM} {ri_798 : Nat → Nat → Int32} : g_X12_reefGoes_K102 x_652 k_g_X12_reefGoes_L2 ri_798 = (ap1 (x_652 + Int32.ofInt 1) fun (x_802 : Int32) => (k_g_X12_reefGoes_L2 x_802 ri_798)) := rfl
set_option maxRecDepth 100000 in
def g_X12_reefGoes_K86 (x_652 : Int32) (k_g_X12_reefGoes_L2 : (Int32) → (Nat → Nat → Int32) → vM) (x_729 : Int32) (ri_779 : Nat → Nat → Int32) : vM := (ap1 (ri_779 384 (x_729).toNatClampNeg) fun (x_791 : Int32) => (if (0 : Int32) ≤ x_791 then (g_X12_reefGoes_K102 x_652 k_g_X12_reefGoes_L2 ri_779) else (ap1 (va_up ri_779 384 (upd (ri_779 384) (x_729).toNatClampNeg (0 : Int32))) fun (r_813 : Nat → Nat → Int32) => (g_X12_reefGoes_K102 x_652 k_g_X12_reefGoes_L2 r_813))))
set_option maxRecDepth 100000 in
theorem g_X12_reefGoes_K86_e {x_652 : Int32} {k_g_X12_reefGoes_L2 : (Int32) → (Nat → Nat → Int32) → vM} {x_729 : Int32} {ri_779 : Nat → Nat → Int32} : g_X12_reefGoes_K86 x_652 k_g_X12_reefGoes_L2 x_729 ri_779 = (ap1 (ri_779 384 (x_729).toNatClampNeg) fun (x_791 : Int32) => (if (0 : Int32) ≤ x_791 then (g_X12_reefGoes_K102 x_652 k_g_X12_reefGoes_L2 ri_779) else (ap1 (va_up ri_779 384 (upd (ri_779 384) (x_729).toNatClampNeg (0 : Int32))) fun (r_813 : Nat → Nat → Int32) => (g_X12_reefGoes_K102 x_652 k_g_X12_reefGoes_L2 r_813)))) := rfl
set_option maxRecDepth 100000 in
def g_X12_reefGoes_K63 (x_652 : Int32) (ri_653 : Nat → Nat → Int32) (k_g_X12_reefGoes_L2 : (Int32) → (Nat → Nat → Int32) → vM) (x_729 : Int32) (x_731 : Int32) (x_748 : Int32) : vM := (ap1 (x_731 + x_748) fun (x_770 : Int32) => (ap1 (va_up ri_653 384 (upd (ri_653 384) (x_729).toNatClampNeg x_770)) fun (r_771 : Nat → Nat → Int32) => (ap1 (r_771 384 (x_729).toNatClampNeg) fun (x_772 : Int32) => (if x_772 ≤ (400 : Int32) then (g_X12_reefGoes_K86 x_652 k_g_X12_reefGoes_L2 x_729 r_771) else (ap1 (va_up r_771 384 (upd (r_771 384) (x_729).toNatClampNeg (400 : Int32))) fun (r_823 : Nat → Nat → Int32) => (g_X12_reefGoes_K86 x_652 k_g_X12_reefGoes_L2 x_729 r_823))))))
set_option maxRecDepth 100000 in
theorem g_X12_reefGoes_K63_e {x_652 : Int32} {ri_653 : Nat → Nat → Int32} {k_g_X12_reefGoes_L2 : (Int32) → (Nat → Nat → Int32) → vM} {x_729 : Int32} {x_731 : Int32} {x_748 : Int32} : g_X12_reefGoes_K63 x_652 ri_653 k_g_X12_reefGoes_L2 x_729 x_731 x_748 = (ap1 (x_731 + x_748) fun (x_770 : Int32) => (ap1 (va_up ri_653 384 (upd (ri_653 384) (x_729).toNatClampNeg x_770)) fun (r_771 : Nat → Nat → Int32) => (ap1 (r_771 384 (x_729).toNatClampNeg) fun (x_772 : Int32) => (if x_772 ≤ (400 : Int32) then (g_X12_reefGoes_K86 x_652 k_g_X12_reefGoes_L2 x_729 r_771) else (ap1 (va_up r_771 384 (upd (r_771 384) (x_729).toNatClampNeg (400 : Int32))) fun (r_823 : Nat → Nat → Int32) => (g_X12_reefGoes_K86 x_652 k_g_X12_reefGoes_L2 x_729 r_823)))))) := rfl
set_option maxRecDepth 100000 in
def g_X12_reefGoes_L2 (a0 : Int32) (I : Nat → Int32) (J : Nat → Int64) (ri : Nat → Nat → Int32) (rj : Nat → Nat → Int64) (rq : Nat → Nat → Option Nat) : Nat → (Int32) → (Nat → Nat → Int32) → vM
  | 0, x_652, ri_653 => (I, J, ri_653, rj, rq)
  | n_708 + 1, x_652, ri_653 => (ap1 (ri 384 2) fun (y_715 : Int32) => (if (y_715) ≤ x_652 then (I, J, ri_653, rj, rq) else (ap1 ((16 : Int32) * x_652) fun (x_725 : Int32) => (ap1 ((100 : Int32) + x_725) fun (x_727 : Int32) => (ap1 (x_727 + (5 : Int32)) fun (x_729 : Int32) => (ap1 (ri_653 384 (x_729).toNatClampNeg) fun (x_731 : Int32) => (bnI (g_X12_tableAt_c2 a0 I J ri_653 rj rq) fun (x_732 : Int32) (_ : Nat → Int32) (_ : Nat → Int64) (_ : Nat → Nat → Int32) (_ : Nat → Nat → Int64) (_ : Nat → Nat → Option Nat) => (ap1 (ri_653 384 ((13 : Int32)).toNatClampNeg) fun (x_739 : Int32) => (if x_739 < x_732 then (ap1 (ri_653 384 ((15 : Int32)).toNatClampNeg) fun (x_832 : Int32) => (ap1 (-x_832) fun (x_833 : Int32) => (g_X12_reefGoes_K63 x_652 ri_653 (g_X12_reefGoes_L2 a0 I J ri rj rq n_708) x_729 x_731 x_833))) else (ap1 (ri_653 384 ((14 : Int32)).toNatClampNeg) fun (x_835 : Int32) => (g_X12_reefGoes_K63 x_652 ri_653 (g_X12_reefGoes_L2 a0 I J ri rj rq n_708) x_729 x_731 x_835)))))))))))
set_option maxRecDepth 100000 in
theorem g_X12_reefGoes_L2_e {a0 : Int32} {I : Nat → Int32} {J : Nat → Int64} {ri : Nat → Nat → Int32} {rj : Nat → Nat → Int64} {rq : Nat → Nat → Option Nat} {n_708 : Nat} {x_652 : Int32} {ri_653 : Nat → Nat → Int32} : g_X12_reefGoes_L2 a0 I J ri rj rq (n_708 + 1) x_652 ri_653 = (ap1 (ri 384 2) fun (y_715 : Int32) => (if (y_715) ≤ x_652 then (I, J, ri_653, rj, rq) else (ap1 ((16 : Int32) * x_652) fun (x_725 : Int32) => (ap1 ((100 : Int32) + x_725) fun (x_727 : Int32) => (ap1 (x_727 + (5 : Int32)) fun (x_729 : Int32) => (ap1 (ri_653 384 (x_729).toNatClampNeg) fun (x_731 : Int32) => (bnI (g_X12_tableAt_c2 a0 I J ri_653 rj rq) fun (x_732 : Int32) (_ : Nat → Int32) (_ : Nat → Int64) (_ : Nat → Nat → Int32) (_ : Nat → Nat → Int64) (_ : Nat → Nat → Option Nat) => (ap1 (ri_653 384 ((13 : Int32)).toNatClampNeg) fun (x_739 : Int32) => (if x_739 < x_732 then (ap1 (ri_653 384 ((15 : Int32)).toNatClampNeg) fun (x_832 : Int32) => (ap1 (-x_832) fun (x_833 : Int32) => (g_X12_reefGoes_K63 x_652 ri_653 (g_X12_reefGoes_L2 a0 I J ri rj rq n_708) x_729 x_731 x_833))) else (ap1 (ri_653 384 ((14 : Int32)).toNatClampNeg) fun (x_835 : Int32) => (g_X12_reefGoes_K63 x_652 ri_653 (g_X12_reefGoes_L2 a0 I J ri rj rq n_708) x_729 x_731 x_835))))))))))) := rfl
set_option maxRecDepth 100000 in
def g_X12_reefGoes (a0 : Int32) (I : Nat → Int32) (J : Nat → Int64) (ri : Nat → Nat → Int32) (rj : Nat → Nat → Int64) (rq : Nat → Nat → Option Nat) : vM := (g_X12_reefGoes_L2 a0 I J ri rj rq ((40 - ((0 : Int32)).toInt).toNat + 1) (0 : Int32) ri)
set_option maxRecDepth 100000 in
theorem g_X12_reefGoes_e {a0 : Int32} {I : Nat → Int32} {J : Nat → Int64} {ri : Nat → Nat → Int32} {rj : Nat → Nat → Int64} {rq : Nat → Nat → Option Nat} : g_X12_reefGoes a0 I J ri rj rq = (g_X12_reefGoes_L2 a0 I J ri rj rq ((40 - ((0 : Int32)).toInt).toNat + 1) (0 : Int32) ri) := rfl
set_option maxHeartbeats 4000000 in
set_option maxRecDepth 100000 in
theorem s_X12_reefGoes (l : Launch) (D : va_G) (t : pq_T) (σ : pq_S) (I : Nat → Nat → Int32) (J : Nat → Nat → Int64) (ri : Nat → Nat → Int32) (rj : Nat → Nat → Int64) (rq : Nat → Nat → Option Nat) (sz : Nat) (tg : Nat → Nat) (hSH : SH σ tg) (hG0 : GT tg I ri) (this : Nat) (a0 : Int32) (hL_this : this ∈ σ.1) (hK_this : σ.2.1 this = 12) (h_a0 : rg a0 0 599) : MetV l yX12_reefGoes (wa yX12_reefGoes cX12_reefGoes 4 none) ({ frames := 1, cells := 0, slots := 0, locals := 22 }) [.ref this, .int a0] D t σ (I, J, ri, rj, rq) sz 0 0 (fun (u : pq_S × pq_M) => ∃ ri' : Nat → Nat → Int32, u = (σ, I, J, ri', rj, rq) ∧ GM [1305] tg σ I ri I ri' rq ∧ g_X12_reefGoes a0 (vI 12 σ this I) (vJ 12 σ this J) (vR 12 σ this ri) (vL 12 σ this rj) (vQ 12 σ this rq) = ((vI 12 σ this I), (vJ 12 σ this J), (vR 12 σ this ri'), (vL 12 σ this rj), (vQ 12 σ this rq)) ∧ FR 12 tg σ this (I, J, ri, rj, rq) (I, J, ri', rj, rq)) := by
  refine Met.ofW (cc := cX12_reefGoes) (maxL := 4) (ret := none) (by decide +kernel) rfl ?_
  intro p e s m args below meth c s₁ B hml hv
  obtain ⟨rfl, hsz, hP, hK, hD0, hN⟩ := hv
  have hx := B.exec
  have hb := B.bytes
  have hr := B.returns
  have hts := atoms_spec (ws := (wa yX12_reefGoes cX12_reefGoes 4 none)) B.pre
  have hown : s.vm.findClass RX12 = some m.cls := findClass_of_methodNamed B.named
  have hlocks := B.notSynchronized
  subst hsz
  have hD : va_D (pq_B t σ (I, J, ri, rj, rq) s.heap.size) (pq_P t σ (I, J, ri, rj, rq)) := hD0.self
  generalize hAe : pq_B t σ (I, J, ri, rj, rq) s.heap.size = A at hD ⊢
  have hA : ∀ q : Nat, s.heap.size ≤ q → A q := fun q h => by rw [← hAe]; exact Or.inr h
  have hS : va_S A s.heap s.heap [] := va_S.rf
  have hG : GM [1305] tg σ I ri I ri rq := ⟨hG0, fun _ _ _ => rfl, fun _ _ _ _ _ => rfl, fun _ _ _ _ _ _ => rfl⟩
  have hl := lv_entry ([.ref this, .int a0]) (n := 4) (Nat.le_of_ble_eq_true rfl)
  rw [lg_entry_eq]
  generalize (lg_sl ([.ref this, .int a0]) ++ List.replicate (4 - (lg_sl ([.ref this, .int a0])).length) Slot.unset).toArray = ls at hl ⊢
  have hl : lv_has ls 4 [(0, .ref this), (1, .int a0)] := hl
  refine q_gen (fun Q hQ => ?_)
  have go : ∀ (H : Heap) (locs : List Loc) (ls : Array Slot), va_P D vwCl (pq_P t σ (I, J, ri, rj, rq)) H → va_D A (pq_P t σ (I, J, ri, rj, rq)) → va_S A s.heap H locs → lv_has ls 4 [(0, .ref this), (1, .int a0)] → W p l e ({ frames := 1, cells := 0, slots := 0, locals := 22 } : Room) s m (List.toArray ([.ref this, .int a0] : List Value)) below meth c H locs 0 0 Q (F0 m 0 ls []) := by
    intro H locs ls hP hD hS hl
    have hO_this : this = vo σ 12 this := rfl
    have hVT : VT 12 σ tg this := vt_12 hSH hL_this hK_this
    have hFr : FR 12 tg σ this (I, J, ri, rj, rq) (I, J, ri, rj, rq) := fr_rf
    obtain ⟨F, hF0⟩ : ∃ F, F = g_X12_reefGoes a0 (vI 12 σ this I) (vJ 12 σ this J) (vR 12 σ this ri) (vL 12 σ this rj) (vQ 12 σ this rq) := ⟨_, rfl⟩
    have hF := hF0.trans g_X12_reefGoes_e
    refine lv_iconst (v := 0) hx hb dX12_reefGoes_0 (by decide +kernel) ?_
    refine lv_istore_n (lv' := [(2, .int 0), (0, .ref this), (1, .int a0)]) hx hb dX12_reefGoes_1 rfl hl (by decide +kernel) rfl (fun ls hl => ?_)
    have L_709 : ∀ (n_708 : Nat) (x_652 : Int32) (ri_653 : Nat → Nat → Int32) (H : Heap) (locs : List Loc) (ls : Array Slot), rg x_652 0 40 → (40 - (x_652).toInt).toNat < n_708 → F = g_X12_reefGoes_L2 a0 (vI 12 σ this I) (vJ 12 σ this J) (vR 12 σ this ri) (vL 12 σ this rj) (vQ 12 σ this rq) n_708 x_652 (vR 12 σ this ri_653) → FR 12 tg σ this (I, J, ri, rj, rq) (I, J, ri_653, rj, rq) → GM [1305] tg σ I ri I ri_653 rq → va_P D vwCl (pq_P t σ (I, J, ri_653, rj, rq)) H → va_D A (pq_P t σ (I, J, ri_653, rj, rq)) → va_S A s.heap H locs → lv_has ls 4 [(0, .ref this), (1, .int a0), (2, .int x_652)] → W p l e ({ frames := 1, cells := 0, slots := 0, locals := 22 } : Room) s m (List.toArray ([.ref this, .int a0] : List Value)) below meth c H locs 0 0 Q (F0 m 2 ls []) := by
      intro n_708
      induction n_708 with
      | zero => intro x_652 ri_653 H locs ls h_712 hm_707 hF hFr hG hP hD hS hl; exact absurd hm_707 (Nat.not_lt_zero _)
      | succ n_708 ih_710 =>
        intro x_652 ri_653 H locs ls h_712 hm_707 hF hFr hG hP hD hS hl
        have uh_712 := h_712.1
        have vh_712 := h_712.2
        replace hF := hF.trans g_X12_reefGoes_L2_e
        refine lv_iload_n hx hb dX12_reefGoes_2 rfl (lv_at hl 2 rfl) ?_
        refine lv_aload_n hx hb dX12_reefGoes_3 rfl (lv_at hl 0 rfl) ?_
        obtain ⟨w_713, hR_w_713, hL_w_713, hK_w_713, hN_w_713, hT_w_713⟩ := sh_a hSH 384 (ci := 12) (kd := 13) (len := 12720) rfl (by decide +kernel) hL_this hK_this
        have hO_w_713 : w_713 = vrow σ 384 this := vo_k (c := 12) hO_this hR_w_713
        refine pg_f (v := .ref w_713) (C := RX12) (T := TX12) (N := 31) hx hb hts (tw_i inlX12) hown hK hP hL_this hK_this (by decide +kernel) rfl 0 (by decide +kernel) (hts _ (tw_c tw_176)) (pq_hv rfl hR_w_713) dX12_reefGoes_4 ?_
        refine lv_iconst (v := 2) hx hb dX12_reefGoes_7 (by decide +kernel) ?_
        refine pl_i hx hb hK hP hL_w_713 hK_w_713 hN_w_713 (vp_in_iff.mpr (by decide +kernel)) dX12_reefGoes_8 ?_
        refine lv_tov (ri w_713 2) (hG.2.2.1 w_713 hT_w_713 2 (by decide +kernel) (by decide +kernel)) ?_
        have h_714 : rg (ri w_713 2) 0 40 := GM.z0 hG0 (by rw [hT_w_713]; decide) (i := 2) (k := 2) (by decide +kernel) rfl
        have uh_714 := h_714.1
        have vh_714 := h_714.2
        replace hF := hF.trans (ap_n (vR_r hO_w_713 (by decide +kernel) rfl))
        refine lv_icmp_ge (tgt := 108) hx hb dX12_reefGoes_9 (by decide +kernel) (fun c_716 => ?_) (fun c_716 => ?_)
        · replace hF := hF.trans (if_pos c_716)
          have tc_721 : (ri w_713 2).toInt ≤ (x_652).toInt := Int32.le_iff_toInt_le.mp c_716
          subst hQ
          exact W.vret hx hb hr (fun t1 ht hW => ⟨⟨(σ, I, J, ri_653, rj, rq), rfl, ⟨ri_653, rfl, hG, (hF0.symm.trans hF), hFr⟩, by rw [ht]; exact hP, va_K.moved hW.alike hK, hD⟩, hS.F ht⟩) hS.2.2 dX12_reefGoes_108
        · replace hF := hF.trans (if_neg c_716)
          have tc_722 : (x_652).toInt < (ri w_713 2).toInt := Int32.lt_iff_toInt_lt.mp (nle c_716)
          have h_723 : rg x_652 0 39 := rg_lt1 (nle c_716) h_712 h_714 (by decide +kernel)
          have uh_723 := h_723.1
          have vh_723 := h_723.2
          have h_724 : rg (ri w_713 2) 1 40 := rg_lt2 (nle c_716) h_712 h_714 (by decide +kernel)
          have uh_724 := h_724.1
          have vh_724 := h_724.2
          refine lv_bipush (v := 100) hx hb dX12_reefGoes_12 (by decide +kernel) ?_
          refine lv_bipush (v := 16) hx hb dX12_reefGoes_14 (by decide +kernel) ?_
          refine lv_iload_n hx hb dX12_reefGoes_16 rfl (lv_at hl 2 rfl) ?_
          refine lv_imul hx hb dX12_reefGoes_17 ?_
          refine lv_topi (fun x_725 ex_725 => ?_)
          replace hF := hF.trans (ap_n ex_725)
          have h_726 : rg x_725 0 624 := rg_of_eq ex_725 (rg_mul (rg_k (16 : Int32) 16 rfl) h_723 (by decide +kernel))
          have uh_726 := h_726.1
          have vh_726 := h_726.2
          have tx_725 : (x_725).toInt = 16 * (x_652).toInt := by rw [ex_725]; exact i_mul_rg (a2 := 16) (b2 := (x_652).toInt) rfl rfl (rg_k (16 : Int32) 16 rfl) h_723 (by decide +kernel)
          refine lv_iadd hx hb dX12_reefGoes_18 ?_
          refine lv_topi (fun x_727 ex_727 => ?_)
          replace hF := hF.trans (ap_n ex_727)
          have h_728 : rg x_727 100 724 := rg_of_eq ex_727 (rg_add (rg_k (100 : Int32) 100 rfl) h_726 (by decide +kernel))
          have uh_728 := h_728.1
          have vh_728 := h_728.2
          have tx_727 : (x_727).toInt = 100 + (x_725).toInt := by rw [ex_727]; exact i_add_rg (a2 := 100) (b2 := (x_725).toInt) rfl rfl (rg_k (100 : Int32) 100 rfl) h_726 (by decide +kernel)
          refine lv_iconst (v := 5) hx hb dX12_reefGoes_19 (by decide +kernel) ?_
          refine lv_iadd hx hb dX12_reefGoes_20 ?_
          refine lv_topi (fun x_729 ex_729 => ?_)
          replace hF := hF.trans (ap_n ex_729)
          have h_730 : rg x_729 105 729 := rg_of_eq ex_729 (rg_add h_728 (rg_k (5 : Int32) 5 rfl) (by decide +kernel))
          have uh_730 := h_730.1
          have vh_730 := h_730.2
          have tx_729 : (x_729).toInt = (x_727).toInt + 5 := by rw [ex_729]; exact i_add_rg (a2 := (x_727).toInt) (b2 := 5) rfl rfl h_728 (rg_k (5 : Int32) 5 rfl) (by decide +kernel)
          refine lv_istore_n (lv' := [(3, .int x_729), (0, .ref this), (1, .int a0), (2, .int x_652)]) hx hb dX12_reefGoes_21 rfl hl (by decide +kernel) rfl (fun ls hl => ?_)
          refine lv_aload_n hx hb dX12_reefGoes_22 rfl (lv_at hl 1 rfl) ?_
          refine pg_f (v := .ref w_713) (C := RX12) (T := TX12) (N := 31) hx hb hts (tw_i inlX12) hown hK hP hL_this hK_this (by decide +kernel) rfl 0 (by decide +kernel) (hts _ (tw_c tw_176)) (pq_hv rfl hR_w_713) dX12_reefGoes_23 ?_
          refine lv_iload_n hx hb dX12_reefGoes_26 rfl (lv_at hl 0 rfl) ?_
          refine lv_dup2_11 hx hb dX12_reefGoes_27 rfl rfl ?_
          refine pl_i hx hb hK hP hL_w_713 hK_w_713 hN_w_713 (rg_in h_730 (by decide +kernel)) dX12_reefGoes_28 ?_
          refine lv_topi (fun x_731 ex_731 => ?_)
          replace hF := hF.trans (ap_n (vR_r hO_w_713 (by decide +kernel) ex_731))
          refine lv_aload_n hx hb dX12_reefGoes_29 rfl (lv_at hl 1 rfl) ?_
          refine lv_iload_n hx hb dX12_reefGoes_30 rfl (lv_at hl 2 rfl) ?_
          refine lv_iconst (v := 2) hx hb dX12_reefGoes_31 (by decide +kernel) ?_
          refine pk_i (va_runV (As := [.int a0, .int 2]) (rest := [.int x_731, .int x_729, .ref w_713]) ⟨hx, hb, hml, hown, hts⟩ (s_X12_tableAt_c2 l D t σ I J ri_653 rj rq H.size tg hSH hG.1 this a0 hL_this hK_this (rg_w h_a0 (by decide +kernel))) (cwV 2 hts (tw_V tw_1201 tw_1202 tw_1203 tw_5 tw_1204) rfl rfl rfl cv_yX12_tableAt_2 ⟨Nat.le_of_ble_eq_true rfl, Nat.le_of_ble_eq_true rfl⟩) ⟨pq_blind, pq_recv hK hP hL_this hK_this (by decide +kernel) rfl, pq_pre hK hN hP hD⟩ rfl rfl hl.1 rfl (lv_room (Nat.le_of_ble_eq_true rfl)) dX12_reefGoes_32 ⟨Nat.le_of_ble_eq_true rfl, Nat.le_of_ble_eq_true rfl⟩) hD hS hA (fun x_732 σ1 μ1 H locs hw_733 hP hD hS => ?_)
          obtain ⟨hu_734, hfn_737⟩ := hw_733
          obtain ⟨hu_734a, hu_734b⟩ := Prod.mk.inj hu_734
          rw [hu_734a, hu_734b] at hP hD
          replace hF := hF.trans (bn_n hfn_737)
          refine lv_aload_n hx hb dX12_reefGoes_35 rfl (lv_at hl 1 rfl) ?_
          refine pg_f (v := .ref w_713) (C := RX12) (T := TX12) (N := 31) hx hb hts (tw_i inlX12) hown hK hP hL_this hK_this (by decide +kernel) rfl 0 (by decide +kernel) (hts _ (tw_c tw_176)) (pq_hv rfl hR_w_713) dX12_reefGoes_36 ?_
          refine lv_bipush (v := 13) hx hb dX12_reefGoes_39 (by decide +kernel) ?_
          refine pl_i hx hb hK hP hL_w_713 hK_w_713 hN_w_713 (vp_in_iff.mpr (by decide +kernel)) dX12_reefGoes_41 ?_
          refine lv_topi (fun x_739 ex_739 => ?_)
          replace hF := hF.trans (ap_n (vR_r hO_w_713 (by decide +kernel) ex_739))
          have K_769 : ∀  (x_748 : Int32) (H : Heap) (locs : List Loc) (ls : Array Slot), F = g_X12_reefGoes_K63 x_652 (vR 12 σ this ri_653) (g_X12_reefGoes_L2 a0 (vI 12 σ this I) (vJ 12 σ this J) (vR 12 σ this ri) (vL 12 σ this rj) (vQ 12 σ this rq) n_708) x_729 x_731 x_748 → FR 12 tg σ this (I, J, ri, rj, rq) (I, J, ri_653, rj, rq) → GM [1305] tg σ I ri I ri_653 rq → va_P D vwCl (pq_P t σ (I, J, ri_653, rj, rq)) H → va_D A (pq_P t σ (I, J, ri_653, rj, rq)) → va_S A s.heap H locs → lv_has ls 4 [(0, .ref this), (1, .int a0), (2, .int x_652), (3, .int x_729)] → W p l e ({ frames := 1, cells := 0, slots := 0, locals := 22 } : Room) s m (List.toArray ([.ref this, .int a0] : List Value)) below meth c H locs 0 0 Q (F0 m 63 ls [.int x_748, .int x_731, .int x_729, .ref w_713]) := by
            intro x_748 H locs ls hF hFr hG hP hD hS hl
            replace hF := hF.trans g_X12_reefGoes_K63_e
            refine lv_iadd hx hb dX12_reefGoes_63 ?_
            refine lv_topi (fun x_770 ex_770 => ?_)
            replace hF := hF.trans (ap_n ex_770)
            refine pt_i hx hb hK hP hD hS hL_w_713 hK_w_713 hN_w_713 (rg_in h_730 (by decide +kernel)) dX12_reefGoes_64 (fun r_771 H locs er_771 hP hD hS => ?_)
            replace hFr := fr_R hFr hO_w_713 (by decide +kernel) er_771
            replace hF := hF.trans (ap_n (vR_st hVT hO_w_713 (by decide +kernel) er_771))
            have hG := GM.wz hG hT_w_713 (by decide +kernel) er_771 (zn_CELL (c := x_652.toNatClampNeg) (k := 5) (by have z_i := clampE x_729; have z_0 := clampE x_652; omega) (rg_cl1 h_723 (by decide +kernel)) (by decide +kernel)) rfl (rg_w (rg_full _) (by decide +kernel)) (by decide +kernel)
            refine lv_aload_n hx hb dX12_reefGoes_65 rfl (lv_at hl 0 rfl) ?_
            refine pg_f (v := .ref w_713) (C := RX12) (T := TX12) (N := 31) hx hb hts (tw_i inlX12) hown hK hP hL_this hK_this (by decide +kernel) rfl 0 (by decide +kernel) (hts _ (tw_c tw_176)) (pq_hv rfl hR_w_713) dX12_reefGoes_66 ?_
            refine lv_iload_n hx hb dX12_reefGoes_69 rfl (lv_at hl 3 rfl) ?_
            refine pl_i hx hb hK hP hL_w_713 hK_w_713 hN_w_713 (rg_in h_730 (by decide +kernel)) dX12_reefGoes_70 ?_
            refine lv_topi (fun x_772 ex_772 => ?_)
            replace hF := hF.trans (ap_n (vR_r hO_w_713 (by decide +kernel) ex_772))
            refine lv_sipush (v := 400) hx hb dX12_reefGoes_71 (by decide +kernel) ?_
            have K_790 : ∀  (ri_779 : Nat → Nat → Int32) (H : Heap) (locs : List Loc) (ls : Array Slot), F = g_X12_reefGoes_K86 x_652 (g_X12_reefGoes_L2 a0 (vI 12 σ this I) (vJ 12 σ this J) (vR 12 σ this ri) (vL 12 σ this rj) (vQ 12 σ this rq) n_708) x_729 (vR 12 σ this ri_779) → FR 12 tg σ this (I, J, ri, rj, rq) (I, J, ri_779, rj, rq) → GM [1305] tg σ I ri I ri_779 rq → va_P D vwCl (pq_P t σ (I, J, ri_779, rj, rq)) H → va_D A (pq_P t σ (I, J, ri_779, rj, rq)) → va_S A s.heap H locs → lv_has ls 4 [(0, .ref this), (1, .int a0), (2, .int x_652), (3, .int x_729)] → W p l e ({ frames := 1, cells := 0, slots := 0, locals := 22 } : Room) s m (List.toArray ([.ref this, .int a0] : List Value)) below meth c H locs 0 0 Q (F0 m 86 ls []) := by
              intro ri_779 H locs ls hF hFr hG hP hD hS hl
              replace hF := hF.trans g_X12_reefGoes_K86_e
              refine lv_aload_n hx hb dX12_reefGoes_86 rfl (lv_at hl 0 rfl) ?_
              refine pg_f (v := .ref w_713) (C := RX12) (T := TX12) (N := 31) hx hb hts (tw_i inlX12) hown hK hP hL_this hK_this (by decide +kernel) rfl 0 (by decide +kernel) (hts _ (tw_c tw_176)) (pq_hv rfl hR_w_713) dX12_reefGoes_87 ?_
              refine lv_iload_n hx hb dX12_reefGoes_90 rfl (lv_at hl 3 rfl) ?_
              refine pl_i hx hb hK hP hL_w_713 hK_w_713 hN_w_713 (rg_in h_730 (by decide +kernel)) dX12_reefGoes_91 ?_
              refine lv_topi (fun x_791 ex_791 => ?_)
              replace hF := hF.trans (ap_n (vR_r hO_w_713 (by decide +kernel) ex_791))
              have K_801 : ∀  (ri_798 : Nat → Nat → Int32) (H : Heap) (locs : List Loc) (ls : Array Slot), F = g_X12_reefGoes_K102 x_652 (g_X12_reefGoes_L2 a0 (vI 12 σ this I) (vJ 12 σ this J) (vR 12 σ this ri) (vL 12 σ this rj) (vQ 12 σ this rq) n_708) (vR 12 σ this ri_798) → FR 12 tg σ this (I, J, ri, rj, rq) (I, J, ri_798, rj, rq) → GM [1305] tg σ I ri I ri_798 rq → va_P D vwCl (pq_P t σ (I, J, ri_798, rj, rq)) H → va_D A (pq_P t σ (I, J, ri_798, rj, rq)) → va_S A s.heap H locs → lv_has ls 4 [(0, .ref this), (1, .int a0), (2, .int x_652)] → W p l e ({ frames := 1, cells := 0, slots := 0, locals := 22 } : Room) s m (List.toArray ([.ref this, .int a0] : List Value)) below meth c H locs 0 0 Q (F0 m 102 ls []) := by
                intro ri_798 H locs ls hF hFr hG hP hD hS hl
                replace hF := hF.trans g_X12_reefGoes_K102_e
                obtain ⟨x_802, ex_802⟩ : ∃ y : Int32, y = x_652 + Int32.ofInt 1 := ⟨_, rfl⟩
                replace hF := hF.trans (ap_n ex_802)
                have h_803 : rg x_802 1 40 := rg_of_eq ex_802 (rg_add h_723 (rg_k (Int32.ofInt 1) 1 rfl) (by decide +kernel))
                have uh_803 := h_803.1
                have vh_803 := h_803.2
                have tx_802 : (x_802).toInt = (x_652).toInt + 1 := by rw [ex_802]; exact i_add_rg (a2 := (x_652).toInt) (b2 := 1) rfl rfl h_723 (rg_k (Int32.ofInt 1) 1 rfl) (by decide +kernel)
                refine lv_iinc (v := x_802) (lv' := [(2, .int x_802), (0, .ref this), (1, .int a0)]) hx hb dX12_reefGoes_102 hl (k := 2) rfl ex_802.symm (by decide +kernel) rfl (fun ls hl => ?_)
                refine lv_goto (tgt := 2) hx hb dX12_reefGoes_105 (by decide +kernel) ?_
                exact ih_710 x_802 ri_798 _ _ _ (rg_w h_803 (by decide +kernel)) (ms_up 1 hm_707 ex_802 rfl (by decide +kernel) h_723 (by decide +kernel) (by decide +kernel)) hF hFr hG hP hD hS (lv_sub hl [1, 2, 0] rfl)
              refine lv_if_ge (tgt := 102) hx hb dX12_reefGoes_92 (by decide +kernel) (fun c_804 => ?_) (fun c_804 => ?_)
              · replace hF := hF.trans (if_pos c_804)
                have tc_809 : 0 ≤ (x_791).toInt := Int32.le_iff_toInt_le.mp c_804
                have h_810 : rg x_791 0 2147483647 := rg_le2 c_804 (rg_k (0 : Int32) 0 rfl) (rg_full _) (by decide +kernel)
                have uh_810 := h_810.1
                have vh_810 := h_810.2
                exact K_801 ri_779 _ _ _ hF hFr hG hP hD hS (lv_sub hl [0, 1, 2] rfl)
              · replace hF := hF.trans (if_neg c_804)
                have tc_811 : (x_791).toInt < 0 := Int32.lt_iff_toInt_lt.mp (nle c_804)
                have h_812 : rg x_791 (-2147483648) (-1) := rg_lt1 (nle c_804) (rg_full _) (rg_k (0 : Int32) 0 rfl) (by decide +kernel)
                have uh_812 := h_812.1
                have vh_812 := h_812.2
                refine lv_aload_n hx hb dX12_reefGoes_95 rfl (lv_at hl 0 rfl) ?_
                refine pg_f (v := .ref w_713) (C := RX12) (T := TX12) (N := 31) hx hb hts (tw_i inlX12) hown hK hP hL_this hK_this (by decide +kernel) rfl 0 (by decide +kernel) (hts _ (tw_c tw_176)) (pq_hv rfl hR_w_713) dX12_reefGoes_96 ?_
                refine lv_iload_n hx hb dX12_reefGoes_99 rfl (lv_at hl 3 rfl) ?_
                refine lv_iconst (v := 0) hx hb dX12_reefGoes_100 (by decide +kernel) ?_
                refine pt_i hx hb hK hP hD hS hL_w_713 hK_w_713 hN_w_713 (rg_in h_730 (by decide +kernel)) dX12_reefGoes_101 (fun r_813 H locs er_813 hP hD hS => ?_)
                replace hFr := fr_R hFr hO_w_713 (by decide +kernel) er_813
                replace hF := hF.trans (ap_n (vR_st hVT hO_w_713 (by decide +kernel) er_813))
                have hG := GM.wz hG hT_w_713 (by decide +kernel) er_813 (zn_CELL (c := x_652.toNatClampNeg) (k := 5) (by have z_i := clampE x_729; have z_0 := clampE x_652; omega) (rg_cl1 h_723 (by decide +kernel)) (by decide +kernel)) rfl (rg_w (rg_k (0 : Int32) 0 rfl) (by decide +kernel)) (by decide +kernel)
                exact K_801 r_813 _ _ _ hF hFr hG hP hD hS (lv_sub hl [0, 1, 2] rfl)
            refine lv_icmp_le (tgt := 86) hx hb dX12_reefGoes_74 (by decide +kernel) (fun c_814 => ?_) (fun c_814 => ?_)
            · replace hF := hF.trans (if_pos c_814)
              have tc_819 : (x_772).toInt ≤ 400 := Int32.le_iff_toInt_le.mp c_814
              have h_820 : rg x_772 (-2147483648) 400 := rg_le1 c_814 (rg_full _) (rg_k (400 : Int32) 400 rfl) (by decide +kernel)
              have uh_820 := h_820.1
              have vh_820 := h_820.2
              exact K_790 r_771 _ _ _ hF hFr hG hP hD hS (lv_sub hl [0, 1, 2, 3] rfl)
            · replace hF := hF.trans (if_neg c_814)
              have tc_821 : 400 < (x_772).toInt := Int32.lt_iff_toInt_lt.mp (nle c_814)
              have h_822 : rg x_772 401 2147483647 := rg_lt2 (nle c_814) (rg_k (400 : Int32) 400 rfl) (rg_full _) (by decide +kernel)
              have uh_822 := h_822.1
              have vh_822 := h_822.2
              refine lv_aload_n hx hb dX12_reefGoes_77 rfl (lv_at hl 0 rfl) ?_
              refine pg_f (v := .ref w_713) (C := RX12) (T := TX12) (N := 31) hx hb hts (tw_i inlX12) hown hK hP hL_this hK_this (by decide +kernel) rfl 0 (by decide +kernel) (hts _ (tw_c tw_176)) (pq_hv rfl hR_w_713) dX12_reefGoes_78 ?_
              refine lv_iload_n hx hb dX12_reefGoes_81 rfl (lv_at hl 3 rfl) ?_
              refine lv_sipush (v := 400) hx hb dX12_reefGoes_82 (by decide +kernel) ?_
              refine pt_i hx hb hK hP hD hS hL_w_713 hK_w_713 hN_w_713 (rg_in h_730 (by decide +kernel)) dX12_reefGoes_85 (fun r_823 H locs er_823 hP hD hS => ?_)
              replace hFr := fr_R hFr hO_w_713 (by decide +kernel) er_823
              replace hF := hF.trans (ap_n (vR_st hVT hO_w_713 (by decide +kernel) er_823))
              have hG := GM.wz hG hT_w_713 (by decide +kernel) er_823 (zn_CELL (c := x_652.toNatClampNeg) (k := 5) (by have z_i := clampE x_729; have z_0 := clampE x_652; omega) (rg_cl1 h_723 (by decide +kernel)) (by decide +kernel)) rfl (rg_w (rg_k (400 : Int32) 400 rfl) (by decide +kernel)) (by decide +kernel)
              exact K_790 r_823 _ _ _ hF hFr hG hP hD hS (lv_sub hl [0, 1, 2, 3] rfl)
          refine lv_icmp_gt (tgt := 55) hx hb dX12_reefGoes_42 (by decide +kernel) (fun c_824 => ?_) (fun c_824 => ?_)
          · replace hF := hF.trans (if_pos c_824)
            have tc_829 : (x_739).toInt < (x_732).toInt := Int32.lt_iff_toInt_lt.mp c_824
            have h_830 : rg x_739 (-2147483648) 2147483646 := rg_lt1 c_824 (rg_full _) (rg_full _) (by decide +kernel)
            have uh_830 := h_830.1
            have vh_830 := h_830.2
            have h_831 : rg x_732 (-2147483647) 2147483647 := rg_lt2 c_824 (rg_full _) (rg_full _) (by decide +kernel)
            have uh_831 := h_831.1
            have vh_831 := h_831.2
            refine lv_aload_n hx hb dX12_reefGoes_55 rfl (lv_at hl 1 rfl) ?_
            refine pg_f (v := .ref w_713) (C := RX12) (T := TX12) (N := 31) hx hb hts (tw_i inlX12) hown hK hP hL_this hK_this (by decide +kernel) rfl 0 (by decide +kernel) (hts _ (tw_c tw_176)) (pq_hv rfl hR_w_713) dX12_reefGoes_56 ?_
            refine lv_bipush (v := 15) hx hb dX12_reefGoes_59 (by decide +kernel) ?_
            refine pl_i hx hb hK hP hL_w_713 hK_w_713 hN_w_713 (vp_in_iff.mpr (by decide +kernel)) dX12_reefGoes_61 ?_
            refine lv_topi (fun x_832 ex_832 => ?_)
            replace hF := hF.trans (ap_n (vR_r hO_w_713 (by decide +kernel) ex_832))
            refine lv_ineg hx hb dX12_reefGoes_62 ?_
            refine lv_topi (fun x_833 ex_833 => ?_)
            replace hF := hF.trans (ap_n ex_833)
            exact K_769 x_833 _ _ _ hF hFr hG hP hD hS (lv_sub hl [1, 2, 3, 0] rfl)
          · replace hF := hF.trans (if_neg c_824)
            have tc_834 : (x_732).toInt ≤ (x_739).toInt := Int32.le_iff_toInt_le.mp (nlt c_824)
            refine lv_aload_n hx hb dX12_reefGoes_45 rfl (lv_at hl 1 rfl) ?_
            refine pg_f (v := .ref w_713) (C := RX12) (T := TX12) (N := 31) hx hb hts (tw_i inlX12) hown hK hP hL_this hK_this (by decide +kernel) rfl 0 (by decide +kernel) (hts _ (tw_c tw_176)) (pq_hv rfl hR_w_713) dX12_reefGoes_46 ?_
            refine lv_bipush (v := 14) hx hb dX12_reefGoes_49 (by decide +kernel) ?_
            refine pl_i hx hb hK hP hL_w_713 hK_w_713 hN_w_713 (vp_in_iff.mpr (by decide +kernel)) dX12_reefGoes_51 ?_
            refine lv_topi (fun x_835 ex_835 => ?_)
            replace hF := hF.trans (ap_n (vR_r hO_w_713 (by decide +kernel) ex_835))
            refine lv_goto (tgt := 63) hx hb dX12_reefGoes_52 (by decide +kernel) ?_
            exact K_769 x_835 _ _ _ hF hFr hG hP hD hS (lv_sub hl [1, 2, 3, 0] rfl)
    exact L_709 _ (0 : Int32) ri _ _ _ (rg_w (rg_k (0 : Int32) 0 rfl) (by decide +kernel)) (Nat.lt_succ_self _) hF hFr hG hP hD hS (lv_sub hl [1, 2, 0] rfl)
  exact go _ _ _ hP hD hS hl

set_option maxRecDepth 100000 in
def g_X12_tableAt_c3 (a0 : Int32) (I : Nat → Int32) (J : Nat → Int64) (ri : Nat → Nat → Int32) (rj : Nat → Nat → Int64) (rq : Nat → Nat → Option Nat) : Int32 × vM := (ap1 (a0 - a0 / (12 : Int32) * (12 : Int32)) fun (x_2 : Int32) => (ap1 ((5 : Int32) * x_2) fun (x_4 : Int32) => (ap1 ((20 : Int32) + x_4) fun (x_6 : Int32) => (ap1 (x_6 + (3 : Int32)) fun (x_8 : Int32) => (ap1 (ri 384 (x_8).toNatClampNeg) fun (x_10 : Int32) => (x_10, I, J, ri, rj, rq))))))
set_option maxRecDepth 100000 in
theorem g_X12_tableAt_c3_e {a0 : Int32} {I : Nat → Int32} {J : Nat → Int64} {ri : Nat → Nat → Int32} {rj : Nat → Nat → Int64} {rq : Nat → Nat → Option Nat} : g_X12_tableAt_c3 a0 I J ri rj rq = (ap1 (a0 - a0 / (12 : Int32) * (12 : Int32)) fun (x_2 : Int32) => (ap1 ((5 : Int32) * x_2) fun (x_4 : Int32) => (ap1 ((20 : Int32) + x_4) fun (x_6 : Int32) => (ap1 (x_6 + (3 : Int32)) fun (x_8 : Int32) => (ap1 (ri 384 (x_8).toNatClampNeg) fun (x_10 : Int32) => (x_10, I, J, ri, rj, rq)))))) := rfl
set_option maxHeartbeats 4000000 in
set_option maxRecDepth 100000 in
theorem s_X12_tableAt_c3 (l : Launch) (D : va_G) (t : pq_T) (σ : pq_S) (I : Nat → Nat → Int32) (J : Nat → Nat → Int64) (ri : Nat → Nat → Int32) (rj : Nat → Nat → Int64) (rq : Nat → Nat → Option Nat) (sz : Nat) (tg : Nat → Nat) (hSH : SH σ tg) (hG0 : GT tg I ri) (this : Nat) (a0 : Int32) (hL_this : this ∈ σ.1) (hK_this : σ.2.1 this = 12) (h_a0 : rg a0 0 600) : MetI l yX12_tableAt (wa yX12_tableAt cX12_tableAt 3 (some .int)) ({ frames := 0, cells := 0, slots := 0, locals := 0 }) [.ref this, .int a0, .int 3] D t σ (I, J, ri, rj, rq) sz 0 0 (fun (r : Int32) (u : pq_S × pq_M) => u = (σ, I, J, ri, rj, rq) ∧ g_X12_tableAt_c3 a0 (vI 12 σ this I) (vJ 12 σ this J) (vR 12 σ this ri) (vL 12 σ this rj) (vQ 12 σ this rq) = (r, (vI 12 σ this I), (vJ 12 σ this J), (vR 12 σ this ri), (vL 12 σ this rj), (vQ 12 σ this rq))) := by
  refine Met.ofW (cc := cX12_tableAt) (maxL := 3) (ret := (some .int)) (by decide +kernel) rfl ?_
  intro p e s m args below meth c s₁ B hml hv
  obtain ⟨rfl, hsz, hP, hK, hD0, hN⟩ := hv
  have hx := B.exec
  have hb := B.bytes
  have hr := B.returns
  have hts := atoms_spec (ws := (wa yX12_tableAt cX12_tableAt 3 (some .int))) B.pre
  have hown : s.vm.findClass RX12 = some m.cls := findClass_of_methodNamed B.named
  have hlocks := B.notSynchronized
  subst hsz
  have hD : va_D (pq_B t σ (I, J, ri, rj, rq) s.heap.size) (pq_P t σ (I, J, ri, rj, rq)) := hD0.self
  generalize hAe : pq_B t σ (I, J, ri, rj, rq) s.heap.size = A at hD ⊢
  have hA : ∀ q : Nat, s.heap.size ≤ q → A q := fun q h => by rw [← hAe]; exact Or.inr h
  have hS : va_S A s.heap s.heap [] := va_S.rf
  have hG : GM [] tg σ I ri I ri rq := ⟨hG0, fun _ _ _ => rfl, fun _ _ _ _ _ => rfl, fun _ _ _ _ _ _ => rfl⟩
  have hl := lv_entry ([.ref this, .int a0, .int 3]) (n := 3) (Nat.le_of_ble_eq_true rfl)
  rw [lg_entry_eq]
  generalize (lg_sl ([.ref this, .int a0, .int 3]) ++ List.replicate (3 - (lg_sl ([.ref this, .int a0, .int 3])).length) Slot.unset).toArray = ls at hl ⊢
  have hl : lv_has ls 3 [(0, .ref this), (1, .int a0), (2, .int 3)] := hl
  refine q_gen (fun Q hQ => ?_)
  have go : ∀ (H : Heap) (locs : List Loc) (ls : Array Slot), va_P D vwCl (pq_P t σ (I, J, ri, rj, rq)) H → va_D A (pq_P t σ (I, J, ri, rj, rq)) → va_S A s.heap H locs → lv_has ls 3 [(0, .ref this), (1, .int a0), (2, .int 3)] → W p l e ({ frames := 0, cells := 0, slots := 0, locals := 0 } : Room) s m (List.toArray ([.ref this, .int a0, .int 3] : List Value)) below meth c H locs 0 0 Q (F0 m 0 ls []) := by
    intro H locs ls hP hD hS hl
    have hO_this : this = vo σ 12 this := rfl
    have hVT : VT 12 σ tg this := vt_12 hSH hL_this hK_this
    have hFr : FR 12 tg σ this (I, J, ri, rj, rq) (I, J, ri, rj, rq) := fr_rf
    obtain ⟨F, hF0⟩ : ∃ F, F = g_X12_tableAt_c3 a0 (vI 12 σ this I) (vJ 12 σ this J) (vR 12 σ this ri) (vL 12 σ this rj) (vQ 12 σ this rq) := ⟨_, rfl⟩
    have hF := hF0.trans g_X12_tableAt_c3_e
    refine lv_aload_n hx hb dX12_tableAt_0 rfl (lv_at hl 0 rfl) ?_
    obtain ⟨w_1, hR_w_1, hL_w_1, hK_w_1, hN_w_1, hT_w_1⟩ := sh_a hSH 384 (ci := 12) (kd := 13) (len := 12720) rfl (by decide +kernel) hL_this hK_this
    have hO_w_1 : w_1 = vrow σ 384 this := vo_k (c := 12) hO_this hR_w_1
    refine pg_f (v := .ref w_1) (C := RX12) (T := TX12) (N := 31) hx hb hts (tw_i inlX12) hown hK hP hL_this hK_this (by decide +kernel) rfl 0 (by decide +kernel) (hts _ (tw_c tw_176)) (pq_hv rfl hR_w_1) dX12_tableAt_1 ?_
    refine lv_bipush (v := 20) hx hb dX12_tableAt_4 (by decide +kernel) ?_
    refine lv_iconst (v := 5) hx hb dX12_tableAt_6 (by decide +kernel) ?_
    refine lv_iload_n hx hb dX12_tableAt_7 rfl (lv_at hl 1 rfl) ?_
    refine lv_bipush (v := 12) hx hb dX12_tableAt_8 (by decide +kernel) ?_
    refine lv_irem hx hb dX12_tableAt_10 (by decide +kernel) ?_
    refine lv_topi (fun x_2 ex_2 => ?_)
    replace hF := hF.trans (ap_n ex_2)
    have h_3 : rg x_2 0 11 := rg_of_eq ex_2 (rg_rem h_a0 rfl (by decide +kernel))
    have uh_3 := h_3.1
    have vh_3 := h_3.2
    refine lv_imul hx hb dX12_tableAt_11 ?_
    refine lv_topi (fun x_4 ex_4 => ?_)
    replace hF := hF.trans (ap_n ex_4)
    have h_5 : rg x_4 0 55 := rg_of_eq ex_4 (rg_mul (rg_k (5 : Int32) 5 rfl) h_3 (by decide +kernel))
    have uh_5 := h_5.1
    have vh_5 := h_5.2
    have tx_4 : (x_4).toInt = 5 * (x_2).toInt := by rw [ex_4]; exact i_mul_rg (a2 := 5) (b2 := (x_2).toInt) rfl rfl (rg_k (5 : Int32) 5 rfl) h_3 (by decide +kernel)
    refine lv_iadd hx hb dX12_tableAt_12 ?_
    refine lv_topi (fun x_6 ex_6 => ?_)
    replace hF := hF.trans (ap_n ex_6)
    have h_7 : rg x_6 20 75 := rg_of_eq ex_6 (rg_add (rg_k (20 : Int32) 20 rfl) h_5 (by decide +kernel))
    have uh_7 := h_7.1
    have vh_7 := h_7.2
    have tx_6 : (x_6).toInt = 20 + (x_4).toInt := by rw [ex_6]; exact i_add_rg (a2 := 20) (b2 := (x_4).toInt) rfl rfl (rg_k (20 : Int32) 20 rfl) h_5 (by decide +kernel)
    refine lv_iload_n hx hb dX12_tableAt_13 rfl (lv_at hl 2 rfl) ?_
    refine lv_iadd hx hb dX12_tableAt_14 ?_
    refine lv_topi (fun x_8 ex_8 => ?_)
    replace hF := hF.trans (ap_n ex_8)
    have h_9 : rg x_8 23 78 := rg_of_eq ex_8 (rg_add h_7 (rg_k (3 : Int32) 3 rfl) (by decide +kernel))
    have uh_9 := h_9.1
    have vh_9 := h_9.2
    have tx_8 : (x_8).toInt = (x_6).toInt + 3 := by rw [ex_8]; exact i_add_rg (a2 := (x_6).toInt) (b2 := 3) rfl rfl h_7 (rg_k (3 : Int32) 3 rfl) (by decide +kernel)
    refine pl_i hx hb hK hP hL_w_1 hK_w_1 hN_w_1 (rg_in h_9 (by decide +kernel)) dX12_tableAt_15 ?_
    refine lv_topi (fun x_10 ex_10 => ?_)
    replace hF := hF.trans (ap_n (vR_r hO_w_1 (by decide +kernel) ex_10))
    subst hQ
    exact W.iret (v := x_10) hx hb hr (fun t1 ht hW => ⟨⟨x_10, (σ, I, J, ri, rj, rq), rfl, ⟨rfl, (hF0.symm.trans hF)⟩, by rw [ht]; exact hP, va_K.moved hW.alike hK, hD⟩, hS.F ht⟩) hS.2.2 dX12_tableAt_16
  exact go _ _ _ hP hD hS hl

set_option maxRecDepth 100000 in
def g_X12_cellAt_c0 (a0 : Int32) (I : Nat → Int32) (J : Nat → Int64) (ri : Nat → Nat → Int32) (rj : Nat → Nat → Int64) (rq : Nat → Nat → Option Nat) : Int32 × vM := (ap1 ((16 : Int32) * a0) fun (x_2 : Int32) => (ap1 ((100 : Int32) + x_2) fun (x_4 : Int32) => (ap1 (x_4 + (0 : Int32)) fun (x_6 : Int32) => (ap1 (ri 384 (x_6).toNatClampNeg) fun (x_8 : Int32) => (x_8, I, J, ri, rj, rq)))))
set_option maxRecDepth 100000 in
theorem g_X12_cellAt_c0_e {a0 : Int32} {I : Nat → Int32} {J : Nat → Int64} {ri : Nat → Nat → Int32} {rj : Nat → Nat → Int64} {rq : Nat → Nat → Option Nat} : g_X12_cellAt_c0 a0 I J ri rj rq = (ap1 ((16 : Int32) * a0) fun (x_2 : Int32) => (ap1 ((100 : Int32) + x_2) fun (x_4 : Int32) => (ap1 (x_4 + (0 : Int32)) fun (x_6 : Int32) => (ap1 (ri 384 (x_6).toNatClampNeg) fun (x_8 : Int32) => (x_8, I, J, ri, rj, rq))))) := rfl
set_option maxHeartbeats 4000000 in
set_option maxRecDepth 100000 in
theorem s_X12_cellAt_c0 (l : Launch) (D : va_G) (t : pq_T) (σ : pq_S) (I : Nat → Nat → Int32) (J : Nat → Nat → Int64) (ri : Nat → Nat → Int32) (rj : Nat → Nat → Int64) (rq : Nat → Nat → Option Nat) (sz : Nat) (tg : Nat → Nat) (hSH : SH σ tg) (hG0 : GT tg I ri) (this : Nat) (a0 : Int32) (hL_this : this ∈ σ.1) (hK_this : σ.2.1 this = 12) (h_a0 : rg a0 0 39) : MetI l yX12_cellAt (wa yX12_cellAt cX12_cellAt 3 (some .int)) ({ frames := 0, cells := 0, slots := 0, locals := 0 }) [.ref this, .int a0, .int 0] D t σ (I, J, ri, rj, rq) sz 0 0 (fun (r : Int32) (u : pq_S × pq_M) => u = (σ, I, J, ri, rj, rq) ∧ g_X12_cellAt_c0 a0 (vI 12 σ this I) (vJ 12 σ this J) (vR 12 σ this ri) (vL 12 σ this rj) (vQ 12 σ this rq) = (r, (vI 12 σ this I), (vJ 12 σ this J), (vR 12 σ this ri), (vL 12 σ this rj), (vQ 12 σ this rq))) := by
  refine Met.ofW (cc := cX12_cellAt) (maxL := 3) (ret := (some .int)) (by decide +kernel) rfl ?_
  intro p e s m args below meth c s₁ B hml hv
  obtain ⟨rfl, hsz, hP, hK, hD0, hN⟩ := hv
  have hx := B.exec
  have hb := B.bytes
  have hr := B.returns
  have hts := atoms_spec (ws := (wa yX12_cellAt cX12_cellAt 3 (some .int))) B.pre
  have hown : s.vm.findClass RX12 = some m.cls := findClass_of_methodNamed B.named
  have hlocks := B.notSynchronized
  subst hsz
  have hD : va_D (pq_B t σ (I, J, ri, rj, rq) s.heap.size) (pq_P t σ (I, J, ri, rj, rq)) := hD0.self
  generalize hAe : pq_B t σ (I, J, ri, rj, rq) s.heap.size = A at hD ⊢
  have hA : ∀ q : Nat, s.heap.size ≤ q → A q := fun q h => by rw [← hAe]; exact Or.inr h
  have hS : va_S A s.heap s.heap [] := va_S.rf
  have hG : GM [] tg σ I ri I ri rq := ⟨hG0, fun _ _ _ => rfl, fun _ _ _ _ _ => rfl, fun _ _ _ _ _ _ => rfl⟩
  have hl := lv_entry ([.ref this, .int a0, .int 0]) (n := 3) (Nat.le_of_ble_eq_true rfl)
  rw [lg_entry_eq]
  generalize (lg_sl ([.ref this, .int a0, .int 0]) ++ List.replicate (3 - (lg_sl ([.ref this, .int a0, .int 0])).length) Slot.unset).toArray = ls at hl ⊢
  have hl : lv_has ls 3 [(0, .ref this), (1, .int a0), (2, .int 0)] := hl
  refine q_gen (fun Q hQ => ?_)
  have go : ∀ (H : Heap) (locs : List Loc) (ls : Array Slot), va_P D vwCl (pq_P t σ (I, J, ri, rj, rq)) H → va_D A (pq_P t σ (I, J, ri, rj, rq)) → va_S A s.heap H locs → lv_has ls 3 [(0, .ref this), (1, .int a0), (2, .int 0)] → W p l e ({ frames := 0, cells := 0, slots := 0, locals := 0 } : Room) s m (List.toArray ([.ref this, .int a0, .int 0] : List Value)) below meth c H locs 0 0 Q (F0 m 0 ls []) := by
    intro H locs ls hP hD hS hl
    have hO_this : this = vo σ 12 this := rfl
    have hVT : VT 12 σ tg this := vt_12 hSH hL_this hK_this
    have hFr : FR 12 tg σ this (I, J, ri, rj, rq) (I, J, ri, rj, rq) := fr_rf
    obtain ⟨F, hF0⟩ : ∃ F, F = g_X12_cellAt_c0 a0 (vI 12 σ this I) (vJ 12 σ this J) (vR 12 σ this ri) (vL 12 σ this rj) (vQ 12 σ this rq) := ⟨_, rfl⟩
    have hF := hF0.trans g_X12_cellAt_c0_e
    refine lv_aload_n hx hb dX12_cellAt_0 rfl (lv_at hl 0 rfl) ?_
    obtain ⟨w_1, hR_w_1, hL_w_1, hK_w_1, hN_w_1, hT_w_1⟩ := sh_a hSH 384 (ci := 12) (kd := 13) (len := 12720) rfl (by decide +kernel) hL_this hK_this
    have hO_w_1 : w_1 = vrow σ 384 this := vo_k (c := 12) hO_this hR_w_1
    refine pg_f (v := .ref w_1) (C := RX12) (T := TX12) (N := 31) hx hb hts (tw_i inlX12) hown hK hP hL_this hK_this (by decide +kernel) rfl 0 (by decide +kernel) (hts _ (tw_c tw_176)) (pq_hv rfl hR_w_1) dX12_cellAt_1 ?_
    refine lv_bipush (v := 100) hx hb dX12_cellAt_4 (by decide +kernel) ?_
    refine lv_bipush (v := 16) hx hb dX12_cellAt_6 (by decide +kernel) ?_
    refine lv_iload_n hx hb dX12_cellAt_8 rfl (lv_at hl 1 rfl) ?_
    refine lv_imul hx hb dX12_cellAt_9 ?_
    refine lv_topi (fun x_2 ex_2 => ?_)
    replace hF := hF.trans (ap_n ex_2)
    have h_3 : rg x_2 0 624 := rg_of_eq ex_2 (rg_mul (rg_k (16 : Int32) 16 rfl) h_a0 (by decide +kernel))
    have uh_3 := h_3.1
    have vh_3 := h_3.2
    have tx_2 : (x_2).toInt = 16 * (a0).toInt := by rw [ex_2]; exact i_mul_rg (a2 := 16) (b2 := (a0).toInt) rfl rfl (rg_k (16 : Int32) 16 rfl) h_a0 (by decide +kernel)
    refine lv_iadd hx hb dX12_cellAt_10 ?_
    refine lv_topi (fun x_4 ex_4 => ?_)
    replace hF := hF.trans (ap_n ex_4)
    have h_5 : rg x_4 100 724 := rg_of_eq ex_4 (rg_add (rg_k (100 : Int32) 100 rfl) h_3 (by decide +kernel))
    have uh_5 := h_5.1
    have vh_5 := h_5.2
    have tx_4 : (x_4).toInt = 100 + (x_2).toInt := by rw [ex_4]; exact i_add_rg (a2 := 100) (b2 := (x_2).toInt) rfl rfl (rg_k (100 : Int32) 100 rfl) h_3 (by decide +kernel)
    refine lv_iload_n hx hb dX12_cellAt_11 rfl (lv_at hl 2 rfl) ?_
    refine lv_iadd hx hb dX12_cellAt_12 ?_
    refine lv_topi (fun x_6 ex_6 => ?_)
    replace hF := hF.trans (ap_n ex_6)
    have h_7 : rg x_6 100 724 := rg_of_eq ex_6 (rg_add h_5 (rg_k (0 : Int32) 0 rfl) (by decide +kernel))
    have uh_7 := h_7.1
    have vh_7 := h_7.2
    have tx_6 : (x_6).toInt = (x_4).toInt + 0 := by rw [ex_6]; exact i_add_rg (a2 := (x_4).toInt) (b2 := 0) rfl rfl h_5 (rg_k (0 : Int32) 0 rfl) (by decide +kernel)
    refine pl_i hx hb hK hP hL_w_1 hK_w_1 hN_w_1 (rg_in h_7 (by decide +kernel)) dX12_cellAt_13 ?_
    refine lv_topi (fun x_8 ex_8 => ?_)
    replace hF := hF.trans (ap_n (vR_r hO_w_1 (by decide +kernel) ex_8))
    subst hQ
    exact W.iret (v := x_8) hx hb hr (fun t1 ht hW => ⟨⟨x_8, (σ, I, J, ri, rj, rq), rfl, ⟨rfl, (hF0.symm.trans hF)⟩, by rw [ht]; exact hP, va_K.moved hW.alike hK, hD⟩, hS.F ht⟩) hS.2.2 dX12_cellAt_14
  exact go _ _ _ hP hD hS hl

set_option maxRecDepth 100000 in
def g_X12_sandGoes_K187 (x_48979 : Int32) (k_g_X12_sandGoes_L67 : (Int32) → (Nat → Nat → Int32) → vM) (ri_49529 : Nat → Nat → Int32) : vM := (ap1 (x_48979 + Int32.ofInt 1) fun (x_49533 : Int32) => (k_g_X12_sandGoes_L67 x_49533 ri_49529))
set_option maxRecDepth 100000 in
theorem g_X12_sandGoes_K187_e {x_48979 : Int32} {k_g_X12_sandGoes_L67 : (Int32) → (Nat → Nat → Int32) → vM} {ri_49529 : Nat → Nat → Int32} : g_X12_sandGoes_K187 x_48979 k_g_X12_sandGoes_L67 ri_49529 = (ap1 (x_48979 + Int32.ofInt 1) fun (x_49533 : Int32) => (k_g_X12_sandGoes_L67 x_49533 ri_49529)) := rfl
set_option maxRecDepth 100000 in
def g_X12_sandGoes_K135 (x_49409 : Int32) (y_43517 : Int32) (x_48979 : Int32) (k_g_X12_sandGoes_L67 : (Int32) → (Nat → Nat → Int32) → vM) (r_49264 : Nat → Nat → Int32) : vM := (if (y_43517) ≤ x_49409 then (ap1 (r_49264 384 ((9 : Int32)).toNatClampNeg) fun (x_49541 : Int32) => (ap1 (r_49264 409 (x_48979).toNatClampNeg) fun (x_49542 : Int32) => (ap1 (x_49541 + x_49542) fun (x_49543 : Int32) => (ap1 (va_up r_49264 384 (upd (r_49264 384) ((9 : Int32)).toNatClampNeg x_49543)) fun (r_49544 : Nat → Nat → Int32) => (g_X12_sandGoes_K187 x_48979 k_g_X12_sandGoes_L67 r_49544))))) else (ap1 ((16 : Int32) * x_49409) fun (x_49548 : Int32) => (ap1 ((100 : Int32) + x_49548) fun (x_49550 : Int32) => (ap1 (x_49550 + (4 : Int32)) fun (x_49552 : Int32) => (ap1 (r_49264 384 (x_49552).toNatClampNeg) fun (x_49554 : Int32) => (ap1 (r_49264 409 (x_48979).toNatClampNeg) fun (x_49555 : Int32) => (ap1 (x_49554 + x_49555) fun (x_49556 : Int32) => (ap1 (va_up r_49264 384 (upd (r_49264 384) (x_49552).toNatClampNeg x_49556)) fun (r_49557 : Nat → Nat → Int32) => (g_X12_sandGoes_K187 x_48979 k_g_X12_sandGoes_L67 r_49557)))))))))
set_option maxRecDepth 100000 in
theorem g_X12_sandGoes_K135_e {x_49409 : Int32} {y_43517 : Int32} {x_48979 : Int32} {k_g_X12_sandGoes_L67 : (Int32) → (Nat → Nat → Int32) → vM} {r_49264 : Nat → Nat → Int32} : g_X12_sandGoes_K135 x_49409 y_43517 x_48979 k_g_X12_sandGoes_L67 r_49264  = (if (y_43517) ≤ x_49409 then (ap1 (r_49264 384 ((9 : Int32)).toNatClampNeg) fun (x_49541 : Int32) => (ap1 (r_49264 409 (x_48979).toNatClampNeg) fun (x_49542 : Int32) => (ap1 (x_49541 + x_49542) fun (x_49543 : Int32) => (ap1 (va_up r_49264 384 (upd (r_49264 384) ((9 : Int32)).toNatClampNeg x_49543)) fun (r_49544 : Nat → Nat → Int32) => (g_X12_sandGoes_K187 x_48979 k_g_X12_sandGoes_L67 r_49544))))) else (ap1 ((16 : Int32) * x_49409) fun (x_49548 : Int32) => (ap1 ((100 : Int32) + x_49548) fun (x_49550 : Int32) => (ap1 (x_49550 + (4 : Int32)) fun (x_49552 : Int32) => (ap1 (r_49264 384 (x_49552).toNatClampNeg) fun (x_49554 : Int32) => (ap1 (r_49264 409 (x_48979).toNatClampNeg) fun (x_49555 : Int32) => (ap1 (x_49554 + x_49555) fun (x_49556 : Int32) => (ap1 (va_up r_49264 384 (upd (r_49264 384) (x_49552).toNatClampNeg x_49556)) fun (r_49557 : Nat → Nat → Int32) => (g_X12_sandGoes_K187 x_48979 k_g_X12_sandGoes_L67 r_49557))))))))) := rfl
set_option maxRecDepth 100000 in
def g_X12_sandGoes_L104 (I : Nat → Int32) (J : Nat → Int64) (rj : Nat → Nat → Int64) (rq : Nat → Nat → Option Nat) (y_43517 : Int32) (x_48979 : Int32) (k_g_X12_sandGoes_L67 : (Int32) → (Nat → Nat → Int32) → vM) (r_49264 : Nat → Nat → Int32) : Nat → (Int32) → vM
  | 0, x_49409 => (I, J, r_49264, rj, rq)
  | n_49458 + 1, x_49409 => (if (y_43517) ≤ x_49409 then (g_X12_sandGoes_K135 x_49409 y_43517 x_48979 k_g_X12_sandGoes_L67 r_49264 ) else (bnI (g_X12_cellAt_c0 x_49409 I J r_49264 rj rq) fun (x_49567 : Int32) (_ : Nat → Int32) (_ : Nat → Int64) (_ : Nat → Nat → Int32) (_ : Nat → Nat → Int64) (_ : Nat → Nat → Option Nat) => (bnI (g_X12_cellAt_c0 x_48979 I J r_49264 rj rq) fun (x_49574 : Int32) (_ : Nat → Int32) (_ : Nat → Int64) (_ : Nat → Nat → Int32) (_ : Nat → Nat → Int64) (_ : Nat → Nat → Option Nat) => (if x_49567 = x_49574 then (g_X12_sandGoes_K135 x_49409 y_43517 x_48979 k_g_X12_sandGoes_L67 r_49264 ) else (ap1 (x_49409 + Int32.ofInt 1) fun (x_49586 : Int32) => ((g_X12_sandGoes_L104 I J rj rq y_43517 x_48979 k_g_X12_sandGoes_L67 r_49264 n_49458) x_49586))))))
set_option maxRecDepth 100000 in
theorem g_X12_sandGoes_L104_e {I : Nat → Int32} {J : Nat → Int64} {rj : Nat → Nat → Int64} {rq : Nat → Nat → Option Nat} {y_43517 : Int32} {x_48979 : Int32} {k_g_X12_sandGoes_L67 : (Int32) → (Nat → Nat → Int32) → vM} {r_49264 : Nat → Nat → Int32} {n_49458 : Nat} {x_49409 : Int32} : g_X12_sandGoes_L104 I J rj rq y_43517 x_48979 k_g_X12_sandGoes_L67 r_49264 (n_49458 + 1) x_49409 = (if (y_43517) ≤ x_49409 then (g_X12_sandGoes_K135 x_49409 y_43517 x_48979 k_g_X12_sandGoes_L67 r_49264 ) else (bnI (g_X12_cellAt_c0 x_49409 I J r_49264 rj rq) fun (x_49567 : Int32) (_ : Nat → Int32) (_ : Nat → Int64) (_ : Nat → Nat → Int32) (_ : Nat → Nat → Int64) (_ : Nat → Nat → Option Nat) => (bnI (g_X12_cellAt_c0 x_48979 I J r_49264 rj rq) fun (x_49574 : Int32) (_ : Nat → Int32) (_ : Nat → Int64) (_ : Nat → Nat → Int32) (_ : Nat → Nat → Int64) (_ : Nat → Nat → Option Nat) => (if x_49567 = x_49574 then (g_X12_sandGoes_K135 x_49409 y_43517 x_48979 k_g_X12_sandGoes_L67 r_49264 ) else (ap1 (x_49409 + Int32.ofInt 1) fun (x_49586 : Int32) => ((g_X12_sandGoes_L104 I J rj rq y_43517 x_48979 k_g_X12_sandGoes_L67 r_49264 n_49458) x_49586)))))) := rfl
set_option maxRecDepth 100000 in
def g_X12_sandGoes_L67 (I : Nat → Int32) (J : Nat → Int64) (rj : Nat → Nat → Int64) (rq : Nat → Nat → Option Nat) (y_43517 : Int32) : Nat → (Int32) → (Nat → Nat → Int32) → vM
  | 0, x_48979, ri_48980 => (I, J, ri_48980, rj, rq)
  | n_49240 + 1, x_48979, ri_48980 => (if (y_43517) ≤ x_48979 then (I, J, ri_48980, rj, rq) else (ap1 ((16 : Int32) * x_48979) fun (x_49254 : Int32) => (ap1 ((100 : Int32) + x_49254) fun (x_49256 : Int32) => (ap1 (x_49256 + (4 : Int32)) fun (x_49258 : Int32) => (ap1 (ri_48980 384 (x_49258).toNatClampNeg) fun (x_49260 : Int32) => (ap1 (ri_48980 409 (x_48979).toNatClampNeg) fun (x_49262 : Int32) => (ap1 (x_49260 - x_49262) fun (x_49263 : Int32) => (ap1 (va_up ri_48980 384 (upd (ri_48980 384) (x_49258).toNatClampNeg x_49263)) fun (r_49264 : Nat → Nat → Int32) => (ap1 (x_48979 + (1 : Int32)) fun (x_49265 : Int32) => (g_X12_sandGoes_L104 I J rj rq y_43517 x_48979 (g_X12_sandGoes_L67 I J rj rq y_43517 n_49240) r_49264 ((40 - (x_49265).toInt).toNat + 1) x_49265))))))))))
set_option maxRecDepth 100000 in
theorem g_X12_sandGoes_L67_e {I : Nat → Int32} {J : Nat → Int64} {rj : Nat → Nat → Int64} {rq : Nat → Nat → Option Nat} {y_43517 : Int32} {n_49240 : Nat} {x_48979 : Int32} {ri_48980 : Nat → Nat → Int32} : g_X12_sandGoes_L67 I J rj rq y_43517 (n_49240 + 1) x_48979 ri_48980 = (if (y_43517) ≤ x_48979 then (I, J, ri_48980, rj, rq) else (ap1 ((16 : Int32) * x_48979) fun (x_49254 : Int32) => (ap1 ((100 : Int32) + x_49254) fun (x_49256 : Int32) => (ap1 (x_49256 + (4 : Int32)) fun (x_49258 : Int32) => (ap1 (ri_48980 384 (x_49258).toNatClampNeg) fun (x_49260 : Int32) => (ap1 (ri_48980 409 (x_48979).toNatClampNeg) fun (x_49262 : Int32) => (ap1 (x_49260 - x_49262) fun (x_49263 : Int32) => (ap1 (va_up ri_48980 384 (upd (ri_48980 384) (x_49258).toNatClampNeg x_49263)) fun (r_49264 : Nat → Nat → Int32) => (ap1 (x_48979 + (1 : Int32)) fun (x_49265 : Int32) => (g_X12_sandGoes_L104 I J rj rq y_43517 x_48979 (g_X12_sandGoes_L67 I J rj rq y_43517 n_49240) r_49264 ((40 - (x_49265).toInt).toNat + 1) x_49265)))))))))) := rfl
set_option maxRecDepth 100000 in
def g_X12_sandGoes_K58 (x_37480 : Int32) (ri_37481 : Nat → Nat → Int32) (k_g_X12_sandGoes_L2 : (Int32) → (Nat → Nat → Int32) → vM) (x_49630 : Int32) : vM := (ap1 (va_up ri_37481 409 (upd (ri_37481 409) (x_37480).toNatClampNeg x_49630)) fun (r_49635 : Nat → Nat → Int32) => (ap1 (x_37480 + Int32.ofInt 1) fun (x_49636 : Int32) => (k_g_X12_sandGoes_L2 x_49636 r_49635)))
set_option maxRecDepth 100000 in
theorem g_X12_sandGoes_K58_e {x_37480 : Int32} {ri_37481 : Nat → Nat → Int32} {k_g_X12_sandGoes_L2 : (Int32) → (Nat → Nat → Int32) → vM} {x_49630 : Int32} : g_X12_sandGoes_K58 x_37480 ri_37481 k_g_X12_sandGoes_L2 x_49630 = (ap1 (va_up ri_37481 409 (upd (ri_37481 409) (x_37480).toNatClampNeg x_49630)) fun (r_49635 : Nat → Nat → Int32) => (ap1 (x_37480 + Int32.ofInt 1) fun (x_49636 : Int32) => (k_g_X12_sandGoes_L2 x_49636 r_49635))) := rfl
set_option maxRecDepth 100000 in
def g_X12_sandGoes_L2 (a0 : Int32) (I : Nat → Int32) (J : Nat → Int64) (ri : Nat → Nat → Int32) (rj : Nat → Nat → Int64) (rq : Nat → Nat → Option Nat) : Nat → (Int32) → (Nat → Nat → Int32) → vM
  | 0, x_37480, ri_37481 => (I, J, ri_37481, rj, rq)
  | n_43510 + 1, x_37480, ri_37481 => (ap1 (ri 384 2) fun (y_43517 : Int32) => (if (y_43517) ≤ x_37480 then (g_X12_sandGoes_L67 I J rj rq y_43517 ((40 - ((0 : Int32)).toInt).toNat + 1) (0 : Int32) ri_37481) else (bnI (g_X12_tableAt_c3 a0 I J ri_37481 rj rq) fun (x_49591 : Int32) (_ : Nat → Int32) (_ : Nat → Int64) (_ : Nat → Nat → Int32) (_ : Nat → Nat → Int64) (_ : Nat → Nat → Option Nat) => (bnI (g_X12_cellAt_c6 x_37480 I J ri_37481 rj rq) fun (x_49599 : Int32) (_ : Nat → Int32) (_ : Nat → Int64) (_ : Nat → Nat → Int32) (_ : Nat → Nat → Int64) (_ : Nat → Nat → Option Nat) => (if x_49599 ≤ (0 : Int32) then (bnI (g_X12_cellAt_c4 x_37480 I J ri_37481 rj rq) fun (x_49645 : Int32) (_ : Nat → Int32) (_ : Nat → Int64) (_ : Nat → Nat → Int32) (_ : Nat → Nat → Int64) (_ : Nat → Nat → Option Nat) => (if x_49591 ≤ x_49645 then (g_X12_sandGoes_K58 x_37480 ri_37481 (g_X12_sandGoes_L2 a0 I J ri rj rq n_43510) x_49591) else (bnI (g_X12_cellAt_c4 x_37480 I J ri_37481 rj rq) fun (x_49661 : Int32) (_ : Nat → Int32) (_ : Nat → Int64) (_ : Nat → Nat → Int32) (_ : Nat → Nat → Int64) (_ : Nat → Nat → Option Nat) => (g_X12_sandGoes_K58 x_37480 ri_37481 (g_X12_sandGoes_L2 a0 I J ri rj rq n_43510) x_49661)))) else (g_X12_sandGoes_K58 x_37480 ri_37481 (g_X12_sandGoes_L2 a0 I J ri rj rq n_43510) (0 : Int32)))))))
set_option maxRecDepth 100000 in
theorem g_X12_sandGoes_L2_e {a0 : Int32} {I : Nat → Int32} {J : Nat → Int64} {ri : Nat → Nat → Int32} {rj : Nat → Nat → Int64} {rq : Nat → Nat → Option Nat} {n_43510 : Nat} {x_37480 : Int32} {ri_37481 : Nat → Nat → Int32} : g_X12_sandGoes_L2 a0 I J ri rj rq (n_43510 + 1) x_37480 ri_37481 = (ap1 (ri 384 2) fun (y_43517 : Int32) => (if (y_43517) ≤ x_37480 then (g_X12_sandGoes_L67 I J rj rq y_43517 ((40 - ((0 : Int32)).toInt).toNat + 1) (0 : Int32) ri_37481) else (bnI (g_X12_tableAt_c3 a0 I J ri_37481 rj rq) fun (x_49591 : Int32) (_ : Nat → Int32) (_ : Nat → Int64) (_ : Nat → Nat → Int32) (_ : Nat → Nat → Int64) (_ : Nat → Nat → Option Nat) => (bnI (g_X12_cellAt_c6 x_37480 I J ri_37481 rj rq) fun (x_49599 : Int32) (_ : Nat → Int32) (_ : Nat → Int64) (_ : Nat → Nat → Int32) (_ : Nat → Nat → Int64) (_ : Nat → Nat → Option Nat) => (if x_49599 ≤ (0 : Int32) then (bnI (g_X12_cellAt_c4 x_37480 I J ri_37481 rj rq) fun (x_49645 : Int32) (_ : Nat → Int32) (_ : Nat → Int64) (_ : Nat → Nat → Int32) (_ : Nat → Nat → Int64) (_ : Nat → Nat → Option Nat) => (if x_49591 ≤ x_49645 then (g_X12_sandGoes_K58 x_37480 ri_37481 (g_X12_sandGoes_L2 a0 I J ri rj rq n_43510) x_49591) else (bnI (g_X12_cellAt_c4 x_37480 I J ri_37481 rj rq) fun (x_49661 : Int32) (_ : Nat → Int32) (_ : Nat → Int64) (_ : Nat → Nat → Int32) (_ : Nat → Nat → Int64) (_ : Nat → Nat → Option Nat) => (g_X12_sandGoes_K58 x_37480 ri_37481 (g_X12_sandGoes_L2 a0 I J ri rj rq n_43510) x_49661)))) else (g_X12_sandGoes_K58 x_37480 ri_37481 (g_X12_sandGoes_L2 a0 I J ri rj rq n_43510) (0 : Int32))))))) := rfl
set_option maxRecDepth 100000 in
def g_X12_sandGoes (a0 : Int32) (I : Nat → Int32) (J : Nat → Int64) (ri : Nat → Nat → Int32) (rj : Nat → Nat → Int64) (rq : Nat → Nat → Option Nat) : vM := (g_X12_sandGoes_L2 a0 I J ri rj rq ((40 - ((0 : Int32)).toInt).toNat + 1) (0 : Int32) ri)
set_option maxRecDepth 100000 in
theorem g_X12_sandGoes_e {a0 : Int32} {I : Nat → Int32} {J : Nat → Int64} {ri : Nat → Nat → Int32} {rj : Nat → Nat → Int64} {rq : Nat → Nat → Option Nat} : g_X12_sandGoes a0 I J ri rj rq = (g_X12_sandGoes_L2 a0 I J ri rj rq ((40 - ((0 : Int32)).toInt).toNat + 1) (0 : Int32) ri) := rfl
set_option maxHeartbeats 4000000 in
set_option maxRecDepth 100000 in
theorem s_X12_sandGoes (l : Launch) (D : va_G) (t : pq_T) (σ : pq_S) (I : Nat → Nat → Int32) (J : Nat → Nat → Int64) (ri : Nat → Nat → Int32) (rj : Nat → Nat → Int64) (rq : Nat → Nat → Option Nat) (sz : Nat) (tg : Nat → Nat) (hSH : SH σ tg) (hG0 : GT tg I ri) (this : Nat) (a0 : Int32) (hL_this : this ∈ σ.1) (hK_this : σ.2.1 this = 12) (h_a0 : rg a0 0 599) : MetV l yX12_sandGoes (wa yX12_sandGoes cX12_sandGoes 4 none) ({ frames := 1, cells := 0, slots := 0, locals := 22 }) [.ref this, .int a0] D t σ (I, J, ri, rj, rq) sz 0 0 (fun (u : pq_S × pq_M) => ∃ ri' : Nat → Nat → Int32, u = (σ, I, J, ri', rj, rq) ∧ GM [1304] tg σ I ri I ri' rq ∧ g_X12_sandGoes a0 (vI 12 σ this I) (vJ 12 σ this J) (vR 12 σ this ri) (vL 12 σ this rj) (vQ 12 σ this rq) = ((vI 12 σ this I), (vJ 12 σ this J), (vR 12 σ this ri'), (vL 12 σ this rj), (vQ 12 σ this rq)) ∧ FR 12 tg σ this (I, J, ri, rj, rq) (I, J, ri', rj, rq)) := by
  refine Met.ofW (cc := cX12_sandGoes) (maxL := 4) (ret := none) (by decide +kernel) rfl ?_
  intro p e s m args below meth c s₁ B hml hv
  obtain ⟨rfl, hsz, hP, hK, hD0, hN⟩ := hv
  have hx := B.exec
  have hb := B.bytes
  have hr := B.returns
  have hts := atoms_spec (ws := (wa yX12_sandGoes cX12_sandGoes 4 none)) B.pre
  have hown : s.vm.findClass RX12 = some m.cls := findClass_of_methodNamed B.named
  have hlocks := B.notSynchronized
  subst hsz
  have hD : va_D (pq_B t σ (I, J, ri, rj, rq) s.heap.size) (pq_P t σ (I, J, ri, rj, rq)) := hD0.self
  generalize hAe : pq_B t σ (I, J, ri, rj, rq) s.heap.size = A at hD ⊢
  have hA : ∀ q : Nat, s.heap.size ≤ q → A q := fun q h => by rw [← hAe]; exact Or.inr h
  have hS : va_S A s.heap s.heap [] := va_S.rf
  have hG : GM [1304] tg σ I ri I ri rq := ⟨hG0, fun _ _ _ => rfl, fun _ _ _ _ _ => rfl, fun _ _ _ _ _ _ => rfl⟩
  have hl := lv_entry ([.ref this, .int a0]) (n := 4) (Nat.le_of_ble_eq_true rfl)
  rw [lg_entry_eq]
  generalize (lg_sl ([.ref this, .int a0]) ++ List.replicate (4 - (lg_sl ([.ref this, .int a0])).length) Slot.unset).toArray = ls at hl ⊢
  have hl : lv_has ls 4 [(0, .ref this), (1, .int a0)] := hl
  refine q_gen (fun Q hQ => ?_)
  have go : ∀ (H : Heap) (locs : List Loc) (ls : Array Slot), va_P D vwCl (pq_P t σ (I, J, ri, rj, rq)) H → va_D A (pq_P t σ (I, J, ri, rj, rq)) → va_S A s.heap H locs → lv_has ls 4 [(0, .ref this), (1, .int a0)] → W p l e ({ frames := 1, cells := 0, slots := 0, locals := 22 } : Room) s m (List.toArray ([.ref this, .int a0] : List Value)) below meth c H locs 0 0 Q (F0 m 0 ls []) := by
    intro H locs ls hP hD hS hl
    have hO_this : this = vo σ 12 this := rfl
    have hVT : VT 12 σ tg this := vt_12 hSH hL_this hK_this
    have hFr : FR 12 tg σ this (I, J, ri, rj, rq) (I, J, ri, rj, rq) := fr_rf
    obtain ⟨F, hF0⟩ : ∃ F, F = g_X12_sandGoes a0 (vI 12 σ this I) (vJ 12 σ this J) (vR 12 σ this ri) (vL 12 σ this rj) (vQ 12 σ this rq) := ⟨_, rfl⟩
    have hF := hF0.trans g_X12_sandGoes_e
    refine lv_iconst (v := 0) hx hb dX12_sandGoes_0 (by decide +kernel) ?_
    refine lv_istore_n (lv' := [(2, .int 0), (0, .ref this), (1, .int a0)]) hx hb dX12_sandGoes_1 rfl hl (by decide +kernel) rfl (fun ls hl => ?_)
    have L_43511 : ∀ (n_43510 : Nat) (x_37480 : Int32) (ri_37481 : Nat → Nat → Int32) (H : Heap) (locs : List Loc) (ls : Array Slot), rg x_37480 0 40 → (40 - (x_37480).toInt).toNat < n_43510 → F = g_X12_sandGoes_L2 a0 (vI 12 σ this I) (vJ 12 σ this J) (vR 12 σ this ri) (vL 12 σ this rj) (vQ 12 σ this rq) n_43510 x_37480 (vR 12 σ this ri_37481) → FR 12 tg σ this (I, J, ri, rj, rq) (I, J, ri_37481, rj, rq) → GM [1304] tg σ I ri I ri_37481 rq → va_P D vwCl (pq_P t σ (I, J, ri_37481, rj, rq)) H → va_D A (pq_P t σ (I, J, ri_37481, rj, rq)) → va_S A s.heap H locs → lv_has ls 4 [(0, .ref this), (1, .int a0), (2, .int x_37480)] → W p l e ({ frames := 1, cells := 0, slots := 0, locals := 22 } : Room) s m (List.toArray ([.ref this, .int a0] : List Value)) below meth c H locs 0 0 Q (F0 m 2 ls []) := by
      intro n_43510
      induction n_43510 with
      | zero => intro x_37480 ri_37481 H locs ls h_43514 hm_43509 hF hFr hG hP hD hS hl; exact absurd hm_43509 (Nat.not_lt_zero _)
      | succ n_43510 ih_43512 =>
        intro x_37480 ri_37481 H locs ls h_43514 hm_43509 hF hFr hG hP hD hS hl
        have uh_43514 := h_43514.1
        have vh_43514 := h_43514.2
        replace hF := hF.trans g_X12_sandGoes_L2_e
        refine lv_iload_n hx hb dX12_sandGoes_2 rfl (lv_at hl 2 rfl) ?_
        refine lv_aload_n hx hb dX12_sandGoes_3 rfl (lv_at hl 0 rfl) ?_
        obtain ⟨w_43515, hR_w_43515, hL_w_43515, hK_w_43515, hN_w_43515, hT_w_43515⟩ := sh_a hSH 384 (ci := 12) (kd := 13) (len := 12720) rfl (by decide +kernel) hL_this hK_this
        have hO_w_43515 : w_43515 = vrow σ 384 this := vo_k (c := 12) hO_this hR_w_43515
        refine pg_f (v := .ref w_43515) (C := RX12) (T := TX12) (N := 31) hx hb hts (tw_i inlX12) hown hK hP hL_this hK_this (by decide +kernel) rfl 0 (by decide +kernel) (hts _ (tw_c tw_176)) (pq_hv rfl hR_w_43515) dX12_sandGoes_4 ?_
        refine lv_iconst (v := 2) hx hb dX12_sandGoes_7 (by decide +kernel) ?_
        refine pl_i hx hb hK hP hL_w_43515 hK_w_43515 hN_w_43515 (vp_in_iff.mpr (by decide +kernel)) dX12_sandGoes_8 ?_
        refine lv_tov (ri w_43515 2) (hG.2.2.1 w_43515 hT_w_43515 2 (by decide +kernel) (by decide +kernel)) ?_
        have h_43516 : rg (ri w_43515 2) 0 40 := GM.z0 hG0 (by rw [hT_w_43515]; decide) (i := 2) (k := 2) (by decide +kernel) rfl
        have uh_43516 := h_43516.1
        have vh_43516 := h_43516.2
        replace hF := hF.trans (ap_n (vR_r hO_w_43515 (by decide +kernel) rfl))
        refine lv_icmp_ge (tgt := 65) hx hb dX12_sandGoes_9 (by decide +kernel) (fun c_43518 => ?_) (fun c_43518 => ?_)
        · replace hF := hF.trans (if_pos c_43518)
          have tc_43523 : (ri w_43515 2).toInt ≤ (x_37480).toInt := Int32.le_iff_toInt_le.mp c_43518
          refine lv_iconst (v := 0) hx hb dX12_sandGoes_65 (by decide +kernel) ?_
          refine lv_istore_n (lv' := [(2, .int 0), (0, .ref this), (1, .int a0)]) hx hb dX12_sandGoes_66 rfl hl (by decide +kernel) rfl (fun ls hl => ?_)
          have L_49241 : ∀ (n_49240 : Nat) (x_48979 : Int32) (ri_48980 : Nat → Nat → Int32) (H : Heap) (locs : List Loc) (ls : Array Slot), rg x_48979 0 40 → (40 - (x_48979).toInt).toNat < n_49240 → F = g_X12_sandGoes_L67 (vI 12 σ this I) (vJ 12 σ this J) (vL 12 σ this rj) (vQ 12 σ this rq) (ri w_43515 2) n_49240 x_48979 (vR 12 σ this ri_48980) → FR 12 tg σ this (I, J, ri, rj, rq) (I, J, ri_48980, rj, rq) → GM [1304] tg σ I ri I ri_48980 rq → va_P D vwCl (pq_P t σ (I, J, ri_48980, rj, rq)) H → va_D A (pq_P t σ (I, J, ri_48980, rj, rq)) → va_S A s.heap H locs → lv_has ls 4 [(0, .ref this), (2, .int x_48979)] → W p l e ({ frames := 1, cells := 0, slots := 0, locals := 22 } : Room) s m (List.toArray ([.ref this, .int a0] : List Value)) below meth c H locs 0 0 Q (F0 m 67 ls []) := by
            intro n_49240
            induction n_49240 with
            | zero => intro x_48979 ri_48980 H locs ls h_49244 hm_49239 hF hFr hG hP hD hS hl; exact absurd hm_49239 (Nat.not_lt_zero _)
            | succ n_49240 ih_49242 =>
              intro x_48979 ri_48980 H locs ls h_49244 hm_49239 hF hFr hG hP hD hS hl
              have uh_49244 := h_49244.1
              have vh_49244 := h_49244.2
              replace hF := hF.trans g_X12_sandGoes_L67_e
              refine lv_iload_n hx hb dX12_sandGoes_67 rfl (lv_at hl 1 rfl) ?_
              refine lv_aload_n hx hb dX12_sandGoes_68 rfl (lv_at hl 0 rfl) ?_
              refine pg_f (v := .ref w_43515) (C := RX12) (T := TX12) (N := 31) hx hb hts (tw_i inlX12) hown hK hP hL_this hK_this (by decide +kernel) rfl 0 (by decide +kernel) (hts _ (tw_c tw_176)) (pq_hv rfl hR_w_43515) dX12_sandGoes_69 ?_
              refine lv_iconst (v := 2) hx hb dX12_sandGoes_72 (by decide +kernel) ?_
              refine pl_i hx hb hK hP hL_w_43515 hK_w_43515 hN_w_43515 (vp_in_iff.mpr (by decide +kernel)) dX12_sandGoes_73 ?_
              refine lv_tov (ri w_43515 2) (hG.2.2.1 w_43515 hT_w_43515 2 (by decide +kernel) (by decide +kernel)) ?_
              refine lv_icmp_ge (tgt := 193) hx hb dX12_sandGoes_74 (by decide +kernel) (fun c_49245 => ?_) (fun c_49245 => ?_)
              · replace hF := hF.trans (if_pos c_49245)
                have tc_49250 : (ri w_43515 2).toInt ≤ (x_48979).toInt := Int32.le_iff_toInt_le.mp c_49245
                subst hQ
                exact W.vret hx hb hr (fun t1 ht hW => ⟨⟨(σ, I, J, ri_48980, rj, rq), rfl, ⟨ri_48980, rfl, hG, (hF0.symm.trans hF), hFr⟩, by rw [ht]; exact hP, va_K.moved hW.alike hK, hD⟩, hS.F ht⟩) hS.2.2 dX12_sandGoes_193
              · replace hF := hF.trans (if_neg c_49245)
                have tc_49251 : (x_48979).toInt < (ri w_43515 2).toInt := Int32.lt_iff_toInt_lt.mp (nle c_49245)
                have h_49252 : rg x_48979 0 39 := rg_lt1 (nle c_49245) h_49244 h_43516 (by decide +kernel)
                have uh_49252 := h_49252.1
                have vh_49252 := h_49252.2
                have h_49253 : rg (ri w_43515 2) 1 40 := rg_lt2 (nle c_49245) h_49244 h_43516 (by decide +kernel)
                have uh_49253 := h_49253.1
                have vh_49253 := h_49253.2
                refine lv_aload_n hx hb dX12_sandGoes_77 rfl (lv_at hl 0 rfl) ?_
                refine pg_f (v := .ref w_43515) (C := RX12) (T := TX12) (N := 31) hx hb hts (tw_i inlX12) hown hK hP hL_this hK_this (by decide +kernel) rfl 0 (by decide +kernel) (hts _ (tw_c tw_176)) (pq_hv rfl hR_w_43515) dX12_sandGoes_78 ?_
                refine lv_bipush (v := 100) hx hb dX12_sandGoes_81 (by decide +kernel) ?_
                refine lv_bipush (v := 16) hx hb dX12_sandGoes_83 (by decide +kernel) ?_
                refine lv_iload_n hx hb dX12_sandGoes_85 rfl (lv_at hl 1 rfl) ?_
                refine lv_imul hx hb dX12_sandGoes_86 ?_
                refine lv_topi (fun x_49254 ex_49254 => ?_)
                replace hF := hF.trans (ap_n ex_49254)
                have h_49255 : rg x_49254 0 624 := rg_of_eq ex_49254 (rg_mul (rg_k (16 : Int32) 16 rfl) h_49252 (by decide +kernel))
                have uh_49255 := h_49255.1
                have vh_49255 := h_49255.2
                have tx_49254 : (x_49254).toInt = 16 * (x_48979).toInt := by rw [ex_49254]; exact i_mul_rg (a2 := 16) (b2 := (x_48979).toInt) rfl rfl (rg_k (16 : Int32) 16 rfl) h_49252 (by decide +kernel)
                refine lv_iadd hx hb dX12_sandGoes_87 ?_
                refine lv_topi (fun x_49256 ex_49256 => ?_)
                replace hF := hF.trans (ap_n ex_49256)
                have h_49257 : rg x_49256 100 724 := rg_of_eq ex_49256 (rg_add (rg_k (100 : Int32) 100 rfl) h_49255 (by decide +kernel))
                have uh_49257 := h_49257.1
                have vh_49257 := h_49257.2
                have tx_49256 : (x_49256).toInt = 100 + (x_49254).toInt := by rw [ex_49256]; exact i_add_rg (a2 := 100) (b2 := (x_49254).toInt) rfl rfl (rg_k (100 : Int32) 100 rfl) h_49255 (by decide +kernel)
                refine lv_iconst (v := 4) hx hb dX12_sandGoes_88 (by decide +kernel) ?_
                refine lv_iadd hx hb dX12_sandGoes_89 ?_
                refine lv_topi (fun x_49258 ex_49258 => ?_)
                replace hF := hF.trans (ap_n ex_49258)
                have h_49259 : rg x_49258 104 728 := rg_of_eq ex_49258 (rg_add h_49257 (rg_k (4 : Int32) 4 rfl) (by decide +kernel))
                have uh_49259 := h_49259.1
                have vh_49259 := h_49259.2
                have tx_49258 : (x_49258).toInt = (x_49256).toInt + 4 := by rw [ex_49258]; exact i_add_rg (a2 := (x_49256).toInt) (b2 := 4) rfl rfl h_49257 (rg_k (4 : Int32) 4 rfl) (by decide +kernel)
                refine lv_dup2_11 hx hb dX12_sandGoes_90 rfl rfl ?_
                refine pl_i hx hb hK hP hL_w_43515 hK_w_43515 hN_w_43515 (rg_in h_49259 (by decide +kernel)) dX12_sandGoes_91 ?_
                refine lv_topi (fun x_49260 ex_49260 => ?_)
                replace hF := hF.trans (ap_n (vR_r hO_w_43515 (by decide +kernel) ex_49260))
                refine lv_aload_n hx hb dX12_sandGoes_92 rfl (lv_at hl 0 rfl) ?_
                obtain ⟨w_49261, hR_w_49261, hL_w_49261, hK_w_49261, hN_w_49261, hT_w_49261⟩ := sh_a hSH 409 (ci := 12) (kd := 13) (len := 40) rfl (by decide +kernel) hL_this hK_this
                have hO_w_49261 : w_49261 = vrow σ 409 this := vo_k (c := 12) hO_this hR_w_49261
                refine pg_f (v := .ref w_49261) (C := RX12) (T := TX12) (N := 31) hx hb hts (tw_i inlX12) hown hK hP hL_this hK_this (by decide +kernel) rfl 25 (by decide +kernel) (hts _ (tw_c tw_187)) (pq_hv rfl hR_w_49261) dX12_sandGoes_93 ?_
                refine lv_iload_n hx hb dX12_sandGoes_96 rfl (lv_at hl 1 rfl) ?_
                refine pl_i hx hb hK hP hL_w_49261 hK_w_49261 hN_w_49261 (rg_in h_49252 (by decide +kernel)) dX12_sandGoes_97 ?_
                refine lv_topi (fun x_49262 ex_49262 => ?_)
                replace hF := hF.trans (ap_n (vR_r hO_w_49261 (by decide +kernel) ex_49262))
                refine lv_isub hx hb dX12_sandGoes_98 ?_
                refine lv_topi (fun x_49263 ex_49263 => ?_)
                replace hF := hF.trans (ap_n ex_49263)
                refine pt_i hx hb hK hP hD hS hL_w_43515 hK_w_43515 hN_w_43515 (rg_in h_49259 (by decide +kernel)) dX12_sandGoes_99 (fun r_49264 H locs er_49264 hP hD hS => ?_)
                replace hFr := fr_R hFr hO_w_43515 (by decide +kernel) er_49264
                replace hF := hF.trans (ap_n (vR_st hVT hO_w_43515 (by decide +kernel) er_49264))
                have hG := GM.wz hG hT_w_43515 (by decide +kernel) er_49264 (zn_CELL (c := x_48979.toNatClampNeg) (k := 4) (by have z_i := clampE x_49258; have z_0 := clampE x_48979; omega) (rg_cl1 h_49252 (by decide +kernel)) (by decide +kernel)) rfl (rg_w (rg_full _) (by decide +kernel)) (by decide +kernel)
                refine lv_iload_n hx hb dX12_sandGoes_100 rfl (lv_at hl 1 rfl) ?_
                refine lv_iconst (v := 1) hx hb dX12_sandGoes_101 (by decide +kernel) ?_
                refine lv_iadd hx hb dX12_sandGoes_102 ?_
                refine lv_topi (fun x_49265 ex_49265 => ?_)
                replace hF := hF.trans (ap_n ex_49265)
                have h_49266 : rg x_49265 1 40 := rg_of_eq ex_49265 (rg_add h_49252 (rg_k (1 : Int32) 1 rfl) (by decide +kernel))
                have uh_49266 := h_49266.1
                have vh_49266 := h_49266.2
                have tx_49265 : (x_49265).toInt = (x_48979).toInt + 1 := by rw [ex_49265]; exact i_add_rg (a2 := (x_48979).toInt) (b2 := 1) rfl rfl h_49252 (rg_k (1 : Int32) 1 rfl) (by decide +kernel)
                refine lv_istore_n (lv' := [(3, .int x_49265), (0, .ref this), (2, .int x_48979)]) hx hb dX12_sandGoes_103 rfl hl (by decide +kernel) rfl (fun ls hl => ?_)
                have L_49459 : ∀ (n_49458 : Nat) (x_49409 : Int32) (H : Heap) (locs : List Loc) (ls : Array Slot), rg x_49409 1 40 → (40 - (x_49409).toInt).toNat < n_49458 → F = g_X12_sandGoes_L104 (vI 12 σ this I) (vJ 12 σ this J) (vL 12 σ this rj) (vQ 12 σ this rq) (ri w_43515 2) x_48979 (g_X12_sandGoes_L67 (vI 12 σ this I) (vJ 12 σ this J) (vL 12 σ this rj) (vQ 12 σ this rq) (ri w_43515 2) n_49240) (vR 12 σ this r_49264) n_49458 x_49409 → FR 12 tg σ this (I, J, ri, rj, rq) (I, J, r_49264, rj, rq) → GM [1304] tg σ I ri I r_49264 rq → va_P D vwCl (pq_P t σ (I, J, r_49264, rj, rq)) H → va_D A (pq_P t σ (I, J, r_49264, rj, rq)) → va_S A s.heap H locs → lv_has ls 4 [(0, .ref this), (2, .int x_48979), (3, .int x_49409)] → W p l e ({ frames := 1, cells := 0, slots := 0, locals := 22 } : Room) s m (List.toArray ([.ref this, .int a0] : List Value)) below meth c H locs 0 0 Q (F0 m 104 ls []) := by
                  intro n_49458
                  induction n_49458 with
                  | zero => intro x_49409 H locs ls h_49462 hm_49457 hF hFr hG hP hD hS hl; exact absurd hm_49457 (Nat.not_lt_zero _)
                  | succ n_49458 ih_49460 =>
                    intro x_49409 H locs ls h_49462 hm_49457 hF hFr hG hP hD hS hl
                    have uh_49462 := h_49462.1
                    have vh_49462 := h_49462.2
                    replace hF := hF.trans g_X12_sandGoes_L104_e
                    refine lv_iload_n hx hb dX12_sandGoes_104 rfl (lv_at hl 2 rfl) ?_
                    refine lv_aload_n hx hb dX12_sandGoes_105 rfl (lv_at hl 0 rfl) ?_
                    refine pg_f (v := .ref w_43515) (C := RX12) (T := TX12) (N := 31) hx hb hts (tw_i inlX12) hown hK hP hL_this hK_this (by decide +kernel) rfl 0 (by decide +kernel) (hts _ (tw_c tw_176)) (pq_hv rfl hR_w_43515) dX12_sandGoes_106 ?_
                    refine lv_iconst (v := 2) hx hb dX12_sandGoes_109 (by decide +kernel) ?_
                    refine pl_i hx hb hK hP hL_w_43515 hK_w_43515 hN_w_43515 (vp_in_iff.mpr (by decide +kernel)) dX12_sandGoes_110 ?_
                    refine lv_tov (ri w_43515 2) (hG.2.2.1 w_43515 hT_w_43515 2 (by decide +kernel) (by decide +kernel)) ?_
                    have K_49509 : ∀  (H : Heap) (locs : List Loc) (ls : Array Slot), F = g_X12_sandGoes_K135 x_49409 (ri w_43515 2) x_48979 (g_X12_sandGoes_L67 (vI 12 σ this I) (vJ 12 σ this J) (vL 12 σ this rj) (vQ 12 σ this rq) (ri w_43515 2) n_49240) (vR 12 σ this r_49264)  → FR 12 tg σ this (I, J, ri, rj, rq) (I, J, r_49264, rj, rq) → GM [1304] tg σ I ri I r_49264 rq → va_P D vwCl (pq_P t σ (I, J, r_49264, rj, rq)) H → va_D A (pq_P t σ (I, J, r_49264, rj, rq)) → va_S A s.heap H locs → lv_has ls 4 [(0, .ref this), (2, .int x_48979), (3, .int x_49409)] → W p l e ({ frames := 1, cells := 0, slots := 0, locals := 22 } : Room) s m (List.toArray ([.ref this, .int a0] : List Value)) below meth c H locs 0 0 Q (F0 m 135 ls []) := by
                      intro H locs ls hF hFr hG hP hD hS hl
                      replace hF := hF.trans g_X12_sandGoes_K135_e
                      refine lv_iload_n hx hb dX12_sandGoes_135 rfl (lv_at hl 2 rfl) ?_
                      refine lv_aload_n hx hb dX12_sandGoes_136 rfl (lv_at hl 0 rfl) ?_
                      refine pg_f (v := .ref w_43515) (C := RX12) (T := TX12) (N := 31) hx hb hts (tw_i inlX12) hown hK hP hL_this hK_this (by decide +kernel) rfl 0 (by decide +kernel) (hts _ (tw_c tw_176)) (pq_hv rfl hR_w_43515) dX12_sandGoes_137 ?_
                      refine lv_iconst (v := 2) hx hb dX12_sandGoes_140 (by decide +kernel) ?_
                      refine pl_i hx hb hK hP hL_w_43515 hK_w_43515 hN_w_43515 (vp_in_iff.mpr (by decide +kernel)) dX12_sandGoes_141 ?_
                      refine lv_tov (ri w_43515 2) (hG.2.2.1 w_43515 hT_w_43515 2 (by decide +kernel) (by decide +kernel)) ?_
                      have K_49532 : ∀  (ri_49529 : Nat → Nat → Int32) (H : Heap) (locs : List Loc) (ls : Array Slot), F = g_X12_sandGoes_K187 x_48979 (g_X12_sandGoes_L67 (vI 12 σ this I) (vJ 12 σ this J) (vL 12 σ this rj) (vQ 12 σ this rq) (ri w_43515 2) n_49240) (vR 12 σ this ri_49529) → FR 12 tg σ this (I, J, ri, rj, rq) (I, J, ri_49529, rj, rq) → GM [1304] tg σ I ri I ri_49529 rq → va_P D vwCl (pq_P t σ (I, J, ri_49529, rj, rq)) H → va_D A (pq_P t σ (I, J, ri_49529, rj, rq)) → va_S A s.heap H locs → lv_has ls 4 [(0, .ref this), (2, .int x_48979)] → W p l e ({ frames := 1, cells := 0, slots := 0, locals := 22 } : Room) s m (List.toArray ([.ref this, .int a0] : List Value)) below meth c H locs 0 0 Q (F0 m 187 ls []) := by
                        intro ri_49529 H locs ls hF hFr hG hP hD hS hl
                        replace hF := hF.trans g_X12_sandGoes_K187_e
                        obtain ⟨x_49533, ex_49533⟩ : ∃ y : Int32, y = x_48979 + Int32.ofInt 1 := ⟨_, rfl⟩
                        replace hF := hF.trans (ap_n ex_49533)
                        have h_49534 : rg x_49533 1 40 := rg_of_eq ex_49533 (rg_add h_49252 (rg_k (Int32.ofInt 1) 1 rfl) (by decide +kernel))
                        have uh_49534 := h_49534.1
                        have vh_49534 := h_49534.2
                        have tx_49533 : (x_49533).toInt = (x_48979).toInt + 1 := by rw [ex_49533]; exact i_add_rg (a2 := (x_48979).toInt) (b2 := 1) rfl rfl h_49252 (rg_k (Int32.ofInt 1) 1 rfl) (by decide +kernel)
                        refine lv_iinc (v := x_49533) (lv' := [(2, .int x_49533), (0, .ref this)]) hx hb dX12_sandGoes_187 hl (k := 1) rfl ex_49533.symm (by decide +kernel) rfl (fun ls hl => ?_)
                        refine lv_goto (tgt := 67) hx hb dX12_sandGoes_190 (by decide +kernel) ?_
                        exact ih_49242 x_49533 ri_49529 _ _ _ (rg_w h_49534 (by decide +kernel)) (ms_up 1 hm_49239 ex_49533 rfl (by decide +kernel) h_49252 (by decide +kernel) (by decide +kernel)) hF hFr hG hP hD hS (lv_sub hl [1, 0] rfl)
                      refine lv_icmp_ge (tgt := 171) hx hb dX12_sandGoes_142 (by decide +kernel) (fun c_49535 => ?_) (fun c_49535 => ?_)
                      · replace hF := hF.trans (if_pos c_49535)
                        have tc_49540 : (ri w_43515 2).toInt ≤ (x_49409).toInt := Int32.le_iff_toInt_le.mp c_49535
                        refine lv_aload_n hx hb dX12_sandGoes_171 rfl (lv_at hl 0 rfl) ?_
                        refine pg_f (v := .ref w_43515) (C := RX12) (T := TX12) (N := 31) hx hb hts (tw_i inlX12) hown hK hP hL_this hK_this (by decide +kernel) rfl 0 (by decide +kernel) (hts _ (tw_c tw_176)) (pq_hv rfl hR_w_43515) dX12_sandGoes_172 ?_
                        refine lv_bipush (v := 9) hx hb dX12_sandGoes_175 (by decide +kernel) ?_
                        refine lv_dup2_11 hx hb dX12_sandGoes_177 rfl rfl ?_
                        refine pl_i hx hb hK hP hL_w_43515 hK_w_43515 hN_w_43515 (vp_in_iff.mpr (by decide +kernel)) dX12_sandGoes_178 ?_
                        refine lv_topi (fun x_49541 ex_49541 => ?_)
                        replace hF := hF.trans (ap_n (vR_r hO_w_43515 (by decide +kernel) ex_49541))
                        refine lv_aload_n hx hb dX12_sandGoes_179 rfl (lv_at hl 0 rfl) ?_
                        refine pg_f (v := .ref w_49261) (C := RX12) (T := TX12) (N := 31) hx hb hts (tw_i inlX12) hown hK hP hL_this hK_this (by decide +kernel) rfl 25 (by decide +kernel) (hts _ (tw_c tw_187)) (pq_hv rfl hR_w_49261) dX12_sandGoes_180 ?_
                        refine lv_iload_n hx hb dX12_sandGoes_183 rfl (lv_at hl 1 rfl) ?_
                        refine pl_i hx hb hK hP hL_w_49261 hK_w_49261 hN_w_49261 (rg_in h_49252 (by decide +kernel)) dX12_sandGoes_184 ?_
                        refine lv_topi (fun x_49542 ex_49542 => ?_)
                        replace hF := hF.trans (ap_n (vR_r hO_w_49261 (by decide +kernel) ex_49542))
                        refine lv_iadd hx hb dX12_sandGoes_185 ?_
                        refine lv_topi (fun x_49543 ex_49543 => ?_)
                        replace hF := hF.trans (ap_n ex_49543)
                        refine pt_i hx hb hK hP hD hS hL_w_43515 hK_w_43515 hN_w_43515 (vp_in_iff.mpr (by decide +kernel)) dX12_sandGoes_186 (fun r_49544 H locs er_49544 hP hD hS => ?_)
                        replace hFr := fr_R hFr hO_w_43515 (by decide +kernel) er_49544
                        replace hF := hF.trans (ap_n (vR_st hVT hO_w_43515 (by decide +kernel) er_49544))
                        have hG := GM.wz hG hT_w_43515 (by decide +kernel) er_49544 (show zn ((9 : Int32)).toNatClampNeg = 9 from by decide +kernel) rfl (rg_w (rg_full _) (by decide +kernel)) (by decide +kernel)
                        exact K_49532 r_49544 _ _ _ hF hFr hG hP hD hS (lv_sub hl [0, 1] rfl)
                      · replace hF := hF.trans (if_neg c_49535)
                        have tc_49545 : (x_49409).toInt < (ri w_43515 2).toInt := Int32.lt_iff_toInt_lt.mp (nle c_49535)
                        have h_49546 : rg x_49409 1 39 := rg_lt1 (nle c_49535) h_49462 h_49253 (by decide +kernel)
                        have uh_49546 := h_49546.1
                        have vh_49546 := h_49546.2
                        have h_49547 : rg (ri w_43515 2) 2 40 := rg_lt2 (nle c_49535) h_49462 h_49253 (by decide +kernel)
                        have uh_49547 := h_49547.1
                        have vh_49547 := h_49547.2
                        refine lv_aload_n hx hb dX12_sandGoes_145 rfl (lv_at hl 0 rfl) ?_
                        refine pg_f (v := .ref w_43515) (C := RX12) (T := TX12) (N := 31) hx hb hts (tw_i inlX12) hown hK hP hL_this hK_this (by decide +kernel) rfl 0 (by decide +kernel) (hts _ (tw_c tw_176)) (pq_hv rfl hR_w_43515) dX12_sandGoes_146 ?_
                        refine lv_bipush (v := 100) hx hb dX12_sandGoes_149 (by decide +kernel) ?_
                        refine lv_bipush (v := 16) hx hb dX12_sandGoes_151 (by decide +kernel) ?_
                        refine lv_iload_n hx hb dX12_sandGoes_153 rfl (lv_at hl 2 rfl) ?_
                        refine lv_imul hx hb dX12_sandGoes_154 ?_
                        refine lv_topi (fun x_49548 ex_49548 => ?_)
                        replace hF := hF.trans (ap_n ex_49548)
                        have h_49549 : rg x_49548 16 624 := rg_of_eq ex_49548 (rg_mul (rg_k (16 : Int32) 16 rfl) h_49546 (by decide +kernel))
                        have uh_49549 := h_49549.1
                        have vh_49549 := h_49549.2
                        have tx_49548 : (x_49548).toInt = 16 * (x_49409).toInt := by rw [ex_49548]; exact i_mul_rg (a2 := 16) (b2 := (x_49409).toInt) rfl rfl (rg_k (16 : Int32) 16 rfl) h_49546 (by decide +kernel)
                        refine lv_iadd hx hb dX12_sandGoes_155 ?_
                        refine lv_topi (fun x_49550 ex_49550 => ?_)
                        replace hF := hF.trans (ap_n ex_49550)
                        have h_49551 : rg x_49550 116 724 := rg_of_eq ex_49550 (rg_add (rg_k (100 : Int32) 100 rfl) h_49549 (by decide +kernel))
                        have uh_49551 := h_49551.1
                        have vh_49551 := h_49551.2
                        have tx_49550 : (x_49550).toInt = 100 + (x_49548).toInt := by rw [ex_49550]; exact i_add_rg (a2 := 100) (b2 := (x_49548).toInt) rfl rfl (rg_k (100 : Int32) 100 rfl) h_49549 (by decide +kernel)
                        refine lv_iconst (v := 4) hx hb dX12_sandGoes_156 (by decide +kernel) ?_
                        refine lv_iadd hx hb dX12_sandGoes_157 ?_
                        refine lv_topi (fun x_49552 ex_49552 => ?_)
                        replace hF := hF.trans (ap_n ex_49552)
                        have h_49553 : rg x_49552 120 728 := rg_of_eq ex_49552 (rg_add h_49551 (rg_k (4 : Int32) 4 rfl) (by decide +kernel))
                        have uh_49553 := h_49553.1
                        have vh_49553 := h_49553.2
                        have tx_49552 : (x_49552).toInt = (x_49550).toInt + 4 := by rw [ex_49552]; exact i_add_rg (a2 := (x_49550).toInt) (b2 := 4) rfl rfl h_49551 (rg_k (4 : Int32) 4 rfl) (by decide +kernel)
                        refine lv_dup2_11 hx hb dX12_sandGoes_158 rfl rfl ?_
                        refine pl_i hx hb hK hP hL_w_43515 hK_w_43515 hN_w_43515 (rg_in h_49553 (by decide +kernel)) dX12_sandGoes_159 ?_
                        refine lv_topi (fun x_49554 ex_49554 => ?_)
                        replace hF := hF.trans (ap_n (vR_r hO_w_43515 (by decide +kernel) ex_49554))
                        refine lv_aload_n hx hb dX12_sandGoes_160 rfl (lv_at hl 0 rfl) ?_
                        refine pg_f (v := .ref w_49261) (C := RX12) (T := TX12) (N := 31) hx hb hts (tw_i inlX12) hown hK hP hL_this hK_this (by decide +kernel) rfl 25 (by decide +kernel) (hts _ (tw_c tw_187)) (pq_hv rfl hR_w_49261) dX12_sandGoes_161 ?_
                        refine lv_iload_n hx hb dX12_sandGoes_164 rfl (lv_at hl 1 rfl) ?_
                        refine pl_i hx hb hK hP hL_w_49261 hK_w_49261 hN_w_49261 (rg_in h_49252 (by decide +kernel)) dX12_sandGoes_165 ?_
                        refine lv_topi (fun x_49555 ex_49555 => ?_)
                        replace hF := hF.trans (ap_n (vR_r hO_w_49261 (by decide +kernel) ex_49555))
                        refine lv_iadd hx hb dX12_sandGoes_166 ?_
                        refine lv_topi (fun x_49556 ex_49556 => ?_)
                        replace hF := hF.trans (ap_n ex_49556)
                        refine pt_i hx hb hK hP hD hS hL_w_43515 hK_w_43515 hN_w_43515 (rg_in h_49553 (by decide +kernel)) dX12_sandGoes_167 (fun r_49557 H locs er_49557 hP hD hS => ?_)
                        replace hFr := fr_R hFr hO_w_43515 (by decide +kernel) er_49557
                        replace hF := hF.trans (ap_n (vR_st hVT hO_w_43515 (by decide +kernel) er_49557))
                        have hG := GM.wz hG hT_w_43515 (by decide +kernel) er_49557 (zn_CELL (c := x_49409.toNatClampNeg) (k := 4) (by have z_i := clampE x_49552; have z_0 := clampE x_49409; omega) (rg_cl1 h_49546 (by decide +kernel)) (by decide +kernel)) rfl (rg_w (rg_full _) (by decide +kernel)) (by decide +kernel)
                        refine lv_goto (tgt := 187) hx hb dX12_sandGoes_168 (by decide +kernel) ?_
                        exact K_49532 r_49557 _ _ _ hF hFr hG hP hD hS (lv_sub hl [0, 1] rfl)
                    refine lv_icmp_ge (tgt := 135) hx hb dX12_sandGoes_111 (by decide +kernel) (fun c_49558 => ?_) (fun c_49558 => ?_)
                    · replace hF := hF.trans (if_pos c_49558)
                      have tc_49563 : (ri w_43515 2).toInt ≤ (x_49409).toInt := Int32.le_iff_toInt_le.mp c_49558
                      exact K_49509 _ _ _ hF hFr hG hP hD hS (lv_sub hl [0, 1, 2] rfl)
                    · replace hF := hF.trans (if_neg c_49558)
                      have tc_49564 : (x_49409).toInt < (ri w_43515 2).toInt := Int32.lt_iff_toInt_lt.mp (nle c_49558)
                      have h_49565 : rg x_49409 1 39 := rg_lt1 (nle c_49558) h_49462 h_49253 (by decide +kernel)
                      have uh_49565 := h_49565.1
                      have vh_49565 := h_49565.2
                      have h_49566 : rg (ri w_43515 2) 2 40 := rg_lt2 (nle c_49558) h_49462 h_49253 (by decide +kernel)
                      have uh_49566 := h_49566.1
                      have vh_49566 := h_49566.2
                      refine lv_aload_n hx hb dX12_sandGoes_114 rfl (lv_at hl 0 rfl) ?_
                      refine lv_iload_n hx hb dX12_sandGoes_115 rfl (lv_at hl 2 rfl) ?_
                      refine lv_iconst (v := 0) hx hb dX12_sandGoes_116 (by decide +kernel) ?_
                      refine pk_i (va_runV (As := [.int x_49409, .int 0]) (rest := []) ⟨hx, hb, hml, hown, hts⟩ (s_X12_cellAt_c0 l D t σ I J r_49264 rj rq H.size tg hSH hG.1 this x_49409 hL_this hK_this (rg_w h_49565 (by decide +kernel))) (cwV 2 hts (tw_V tw_361 tw_362 tw_363 tw_5 tw_364) rfl rfl rfl cv_yX12_cellAt_2 ⟨Nat.le_of_ble_eq_true rfl, Nat.le_of_ble_eq_true rfl⟩) ⟨pq_blind, pq_recv hK hP hL_this hK_this (by decide +kernel) rfl, pq_pre hK hN hP hD⟩ rfl rfl hl.1 rfl (lv_room (Nat.le_of_ble_eq_true rfl)) dX12_sandGoes_117 ⟨Nat.le_of_ble_eq_true rfl, Nat.le_of_ble_eq_true rfl⟩) hD hS hA (fun x_49567 σ1 μ1 H locs hw_49568 hP hD hS => ?_)
                      obtain ⟨hu_49569, hfn_49572⟩ := hw_49568
                      obtain ⟨hu_49569a, hu_49569b⟩ := Prod.mk.inj hu_49569
                      rw [hu_49569a, hu_49569b] at hP hD
                      replace hF := hF.trans (bn_n hfn_49572)
                      refine lv_aload_n hx hb dX12_sandGoes_120 rfl (lv_at hl 0 rfl) ?_
                      refine lv_iload_n hx hb dX12_sandGoes_121 rfl (lv_at hl 1 rfl) ?_
                      refine lv_iconst (v := 0) hx hb dX12_sandGoes_122 (by decide +kernel) ?_
                      refine pk_i (va_runV (As := [.int x_48979, .int 0]) (rest := [.int x_49567]) ⟨hx, hb, hml, hown, hts⟩ (s_X12_cellAt_c0 l D t σ I J r_49264 rj rq H.size tg hSH hG.1 this x_48979 hL_this hK_this (rg_w h_49252 (by decide +kernel))) (cwV 2 hts (tw_V tw_361 tw_362 tw_363 tw_5 tw_364) rfl rfl rfl cv_yX12_cellAt_2 ⟨Nat.le_of_ble_eq_true rfl, Nat.le_of_ble_eq_true rfl⟩) ⟨pq_blind, pq_recv hK hP hL_this hK_this (by decide +kernel) rfl, pq_pre hK hN hP hD⟩ rfl rfl hl.1 rfl (lv_room (Nat.le_of_ble_eq_true rfl)) dX12_sandGoes_123 ⟨Nat.le_of_ble_eq_true rfl, Nat.le_of_ble_eq_true rfl⟩) hD hS hA (fun x_49574 σ1 μ1 H locs hw_49575 hP hD hS => ?_)
                      obtain ⟨hu_49576, hfn_49579⟩ := hw_49575
                      obtain ⟨hu_49576a, hu_49576b⟩ := Prod.mk.inj hu_49576
                      rw [hu_49576a, hu_49576b] at hP hD
                      replace hF := hF.trans (bn_n hfn_49579)
                      refine lv_icmp_eq (tgt := 135) hx hb dX12_sandGoes_126 (by decide +kernel) (fun c_49581 => ?_) (fun c_49581 => ?_)
                      · replace hF := hF.trans (if_pos c_49581)
                        have tc_49584 : (x_49567).toInt = (x_49574).toInt := congrArg Int32.toInt c_49581
                        exact K_49509 _ _ _ hF hFr hG hP hD hS (lv_sub hl [0, 1, 2] rfl)
                      · replace hF := hF.trans (if_neg c_49581)
                        have tc_49585 : (x_49567).toInt ≠ (x_49574).toInt := fun q => c_49581 (Int32.toInt_inj.mp q)
                        obtain ⟨x_49586, ex_49586⟩ : ∃ y : Int32, y = x_49409 + Int32.ofInt 1 := ⟨_, rfl⟩
                        replace hF := hF.trans (ap_n ex_49586)
                        have h_49587 : rg x_49586 2 40 := rg_of_eq ex_49586 (rg_add h_49565 (rg_k (Int32.ofInt 1) 1 rfl) (by decide +kernel))
                        have uh_49587 := h_49587.1
                        have vh_49587 := h_49587.2
                        have tx_49586 : (x_49586).toInt = (x_49409).toInt + 1 := by rw [ex_49586]; exact i_add_rg (a2 := (x_49409).toInt) (b2 := 1) rfl rfl h_49565 (rg_k (Int32.ofInt 1) 1 rfl) (by decide +kernel)
                        refine lv_iinc (v := x_49586) (lv' := [(3, .int x_49586), (0, .ref this), (2, .int x_48979)]) hx hb dX12_sandGoes_129 hl (k := 2) rfl ex_49586.symm (by decide +kernel) rfl (fun ls hl => ?_)
                        refine lv_goto (tgt := 104) hx hb dX12_sandGoes_132 (by decide +kernel) ?_
                        exact ih_49460 x_49586 _ _ _ (rg_w h_49587 (by decide +kernel)) (ms_up 1 hm_49457 ex_49586 rfl (by decide +kernel) h_49565 (by decide +kernel) (by decide +kernel)) hF hFr hG hP hD hS (lv_sub hl [1, 2, 0] rfl)
                exact L_49459 _ x_49265 _ _ _ (rg_w h_49266 (by decide +kernel)) (Nat.lt_succ_self _) hF hFr hG hP hD hS (lv_sub hl [1, 2, 0] rfl)
          exact L_49241 _ (0 : Int32) ri_37481 _ _ _ (rg_w (rg_k (0 : Int32) 0 rfl) (by decide +kernel)) (Nat.lt_succ_self _) hF hFr hG hP hD hS (lv_sub hl [1, 0] rfl)
        · replace hF := hF.trans (if_neg c_43518)
          have tc_49588 : (x_37480).toInt < (ri w_43515 2).toInt := Int32.lt_iff_toInt_lt.mp (nle c_43518)
          have h_49589 : rg x_37480 0 39 := rg_lt1 (nle c_43518) h_43514 h_43516 (by decide +kernel)
          have uh_49589 := h_49589.1
          have vh_49589 := h_49589.2
          have h_49590 : rg (ri w_43515 2) 1 40 := rg_lt2 (nle c_43518) h_43514 h_43516 (by decide +kernel)
          have uh_49590 := h_49590.1
          have vh_49590 := h_49590.2
          refine lv_aload_n hx hb dX12_sandGoes_12 rfl (lv_at hl 0 rfl) ?_
          refine lv_iload_n hx hb dX12_sandGoes_13 rfl (lv_at hl 1 rfl) ?_
          refine lv_iconst (v := 3) hx hb dX12_sandGoes_14 (by decide +kernel) ?_
          refine pk_i (va_runV (As := [.int a0, .int 3]) (rest := []) ⟨hx, hb, hml, hown, hts⟩ (s_X12_tableAt_c3 l D t σ I J ri_37481 rj rq H.size tg hSH hG.1 this a0 hL_this hK_this (rg_w h_a0 (by decide +kernel))) (cwV 2 hts (tw_V tw_1201 tw_1202 tw_1203 tw_5 tw_1204) rfl rfl rfl cv_yX12_tableAt_2 ⟨Nat.le_of_ble_eq_true rfl, Nat.le_of_ble_eq_true rfl⟩) ⟨pq_blind, pq_recv hK hP hL_this hK_this (by decide +kernel) rfl, pq_pre hK hN hP hD⟩ rfl rfl hl.1 rfl (lv_room (Nat.le_of_ble_eq_true rfl)) dX12_sandGoes_15 ⟨Nat.le_of_ble_eq_true rfl, Nat.le_of_ble_eq_true rfl⟩) hD hS hA (fun x_49591 σ1 μ1 H locs hw_49592 hP hD hS => ?_)
          obtain ⟨hu_49593, hfn_49596⟩ := hw_49592
          obtain ⟨hu_49593a, hu_49593b⟩ := Prod.mk.inj hu_49593
          rw [hu_49593a, hu_49593b] at hP hD
          replace hF := hF.trans (bn_n hfn_49596)
          refine lv_istore_n (lv' := [(3, .int x_49591), (0, .ref this), (1, .int a0), (2, .int x_37480)]) hx hb dX12_sandGoes_18 rfl hl (by decide +kernel) rfl (fun ls hl => ?_)
          refine lv_aload_n hx hb dX12_sandGoes_19 rfl (lv_at hl 1 rfl) ?_
          obtain ⟨w_49598, hR_w_49598, hL_w_49598, hK_w_49598, hN_w_49598, hT_w_49598⟩ := sh_a hSH 409 (ci := 12) (kd := 13) (len := 40) rfl (by decide +kernel) hL_this hK_this
          have hO_w_49598 : w_49598 = vrow σ 409 this := vo_k (c := 12) hO_this hR_w_49598
          refine pg_f (v := .ref w_49598) (C := RX12) (T := TX12) (N := 31) hx hb hts (tw_i inlX12) hown hK hP hL_this hK_this (by decide +kernel) rfl 25 (by decide +kernel) (hts _ (tw_c tw_187)) (pq_hv rfl hR_w_49598) dX12_sandGoes_20 ?_
          refine lv_iload_n hx hb dX12_sandGoes_23 rfl (lv_at hl 3 rfl) ?_
          refine lv_aload_n hx hb dX12_sandGoes_24 rfl (lv_at hl 1 rfl) ?_
          refine lv_iload_n hx hb dX12_sandGoes_25 rfl (lv_at hl 3 rfl) ?_
          refine lv_bipush (v := 6) hx hb dX12_sandGoes_26 (by decide +kernel) ?_
          refine pk_i (va_runV (As := [.int x_37480, .int 6]) (rest := [.int x_37480, .ref w_49598]) ⟨hx, hb, hml, hown, hts⟩ (s_X12_cellAt_c6 l D t σ I J ri_37481 rj rq H.size tg hSH hG.1 this x_37480 hL_this hK_this (rg_w h_49589 (by decide +kernel))) (cwV 2 hts (tw_V tw_361 tw_362 tw_363 tw_5 tw_364) rfl rfl rfl cv_yX12_cellAt_2 ⟨Nat.le_of_ble_eq_true rfl, Nat.le_of_ble_eq_true rfl⟩) ⟨pq_blind, pq_recv hK hP hL_this hK_this (by decide +kernel) rfl, pq_pre hK hN hP hD⟩ rfl rfl hl.1 rfl (lv_room (Nat.le_of_ble_eq_true rfl)) dX12_sandGoes_28 ⟨Nat.le_of_ble_eq_true rfl, Nat.le_of_ble_eq_true rfl⟩) hD hS hA (fun x_49599 σ1 μ1 H locs hw_49600 hP hD hS => ?_)
          obtain ⟨hu_49601, hfn_49604⟩ := hw_49600
          obtain ⟨hu_49601a, hu_49601b⟩ := Prod.mk.inj hu_49601
          rw [hu_49601a, hu_49601b] at hP hD
          replace hF := hF.trans (bn_n hfn_49604)
          have K_49634 : ∀  (x_49630 : Int32) (H : Heap) (locs : List Loc) (ls : Array Slot), F = g_X12_sandGoes_K58 x_37480 (vR 12 σ this ri_37481) (g_X12_sandGoes_L2 a0 (vI 12 σ this I) (vJ 12 σ this J) (vR 12 σ this ri) (vL 12 σ this rj) (vQ 12 σ this rq) n_43510) x_49630 → FR 12 tg σ this (I, J, ri, rj, rq) (I, J, ri_37481, rj, rq) → GM [1304] tg σ I ri I ri_37481 rq → va_P D vwCl (pq_P t σ (I, J, ri_37481, rj, rq)) H → va_D A (pq_P t σ (I, J, ri_37481, rj, rq)) → va_S A s.heap H locs → lv_has ls 4 [(0, .ref this), (1, .int a0), (2, .int x_37480)] → W p l e ({ frames := 1, cells := 0, slots := 0, locals := 22 } : Room) s m (List.toArray ([.ref this, .int a0] : List Value)) below meth c H locs 0 0 Q (F0 m 58 ls [.int x_49630, .int x_37480, .ref w_49598]) := by
            intro x_49630 H locs ls hF hFr hG hP hD hS hl
            replace hF := hF.trans g_X12_sandGoes_K58_e
            refine pt_i hx hb hK hP hD hS hL_w_49598 hK_w_49598 hN_w_49598 (rg_in h_49589 (by decide +kernel)) dX12_sandGoes_58 (fun r_49635 H locs er_49635 hP hD hS => ?_)
            replace hFr := fr_R hFr hO_w_49598 (by decide +kernel) er_49635
            replace hF := hF.trans (ap_n (vR_st hVT hO_w_49598 (by decide +kernel) er_49635))
            have hG := GM.wR hG hSH hT_w_49598 rfl er_49635 (rg_w (rg_full _) (by decide +kernel)) (by decide +kernel)
            obtain ⟨x_49636, ex_49636⟩ : ∃ y : Int32, y = x_37480 + Int32.ofInt 1 := ⟨_, rfl⟩
            replace hF := hF.trans (ap_n ex_49636)
            have h_49637 : rg x_49636 1 40 := rg_of_eq ex_49636 (rg_add h_49589 (rg_k (Int32.ofInt 1) 1 rfl) (by decide +kernel))
            have uh_49637 := h_49637.1
            have vh_49637 := h_49637.2
            have tx_49636 : (x_49636).toInt = (x_37480).toInt + 1 := by rw [ex_49636]; exact i_add_rg (a2 := (x_37480).toInt) (b2 := 1) rfl rfl h_49589 (rg_k (Int32.ofInt 1) 1 rfl) (by decide +kernel)
            refine lv_iinc (v := x_49636) (lv' := [(2, .int x_49636), (0, .ref this), (1, .int a0)]) hx hb dX12_sandGoes_59 hl (k := 2) rfl ex_49636.symm (by decide +kernel) rfl (fun ls hl => ?_)
            refine lv_goto (tgt := 2) hx hb dX12_sandGoes_62 (by decide +kernel) ?_
            exact ih_43512 x_49636 r_49635 _ _ _ (rg_w h_49637 (by decide +kernel)) (ms_up 1 hm_43509 ex_49636 rfl (by decide +kernel) h_49589 (by decide +kernel) (by decide +kernel)) hF hFr hG hP hD hS (lv_sub hl [1, 2, 0] rfl)
          refine lv_if_le (tgt := 38) hx hb dX12_sandGoes_31 (by decide +kernel) (fun c_49638 => ?_) (fun c_49638 => ?_)
          · replace hF := hF.trans (if_pos c_49638)
            have tc_49643 : (x_49599).toInt ≤ 0 := Int32.le_iff_toInt_le.mp c_49638
            have h_49644 : rg x_49599 (-2147483648) 0 := rg_le1 c_49638 (rg_full _) (rg_k (0 : Int32) 0 rfl) (by decide +kernel)
            have uh_49644 := h_49644.1
            have vh_49644 := h_49644.2
            refine lv_aload_n hx hb dX12_sandGoes_38 rfl (lv_at hl 1 rfl) ?_
            refine lv_iload_n hx hb dX12_sandGoes_39 rfl (lv_at hl 3 rfl) ?_
            refine lv_iconst (v := 4) hx hb dX12_sandGoes_40 (by decide +kernel) ?_
            refine pk_i (va_runV (As := [.int x_37480, .int 4]) (rest := [.int x_37480, .ref w_49598]) ⟨hx, hb, hml, hown, hts⟩ (s_X12_cellAt_c4 l D t σ I J ri_37481 rj rq H.size tg hSH hG.1 this x_37480 hL_this hK_this (rg_w h_49589 (by decide +kernel))) (cwV 2 hts (tw_V tw_361 tw_362 tw_363 tw_5 tw_364) rfl rfl rfl cv_yX12_cellAt_2 ⟨Nat.le_of_ble_eq_true rfl, Nat.le_of_ble_eq_true rfl⟩) ⟨pq_blind, pq_recv hK hP hL_this hK_this (by decide +kernel) rfl, pq_pre hK hN hP hD⟩ rfl rfl hl.1 rfl (lv_room (Nat.le_of_ble_eq_true rfl)) dX12_sandGoes_41 ⟨Nat.le_of_ble_eq_true rfl, Nat.le_of_ble_eq_true rfl⟩) hD hS hA (fun x_49645 σ1 μ1 H locs hw_49646 hP hD hS => ?_)
            obtain ⟨hu_49647, hfn_49650⟩ := hw_49646
            obtain ⟨hu_49647a, hu_49647b⟩ := Prod.mk.inj hu_49647
            rw [hu_49647a, hu_49647b] at hP hD
            replace hF := hF.trans (bn_n hfn_49650)
            refine lv_iload_n hx hb dX12_sandGoes_44 rfl (lv_at hl 0 rfl) ?_
            refine lv_icmp_ge (tgt := 57) hx hb dX12_sandGoes_45 (by decide +kernel) (fun c_49652 => ?_) (fun c_49652 => ?_)
            · replace hF := hF.trans (if_pos c_49652)
              have tc_49657 : (x_49591).toInt ≤ (x_49645).toInt := Int32.le_iff_toInt_le.mp c_49652
              refine lv_iload_n hx hb dX12_sandGoes_57 rfl (lv_at hl 0 rfl) ?_
              exact K_49634 x_49591 _ _ _ hF hFr hG hP hD hS (lv_sub hl [1, 2, 3] rfl)
            · replace hF := hF.trans (if_neg c_49652)
              have tc_49658 : (x_49645).toInt < (x_49591).toInt := Int32.lt_iff_toInt_lt.mp (nle c_49652)
              have h_49659 : rg x_49645 (-2147483648) 2147483646 := rg_lt1 (nle c_49652) (rg_full _) (rg_full _) (by decide +kernel)
              have uh_49659 := h_49659.1
              have vh_49659 := h_49659.2
              have h_49660 : rg x_49591 (-2147483647) 2147483647 := rg_lt2 (nle c_49652) (rg_full _) (rg_full _) (by decide +kernel)
              have uh_49660 := h_49660.1
              have vh_49660 := h_49660.2
              refine lv_aload_n hx hb dX12_sandGoes_48 rfl (lv_at hl 1 rfl) ?_
              refine lv_iload_n hx hb dX12_sandGoes_49 rfl (lv_at hl 3 rfl) ?_
              refine lv_iconst (v := 4) hx hb dX12_sandGoes_50 (by decide +kernel) ?_
              refine pk_i (va_runV (As := [.int x_37480, .int 4]) (rest := [.int x_37480, .ref w_49598]) ⟨hx, hb, hml, hown, hts⟩ (s_X12_cellAt_c4 l D t σ I J ri_37481 rj rq H.size tg hSH hG.1 this x_37480 hL_this hK_this (rg_w h_49589 (by decide +kernel))) (cwV 2 hts (tw_V tw_361 tw_362 tw_363 tw_5 tw_364) rfl rfl rfl cv_yX12_cellAt_2 ⟨Nat.le_of_ble_eq_true rfl, Nat.le_of_ble_eq_true rfl⟩) ⟨pq_blind, pq_recv hK hP hL_this hK_this (by decide +kernel) rfl, pq_pre hK hN hP hD⟩ rfl rfl hl.1 rfl (lv_room (Nat.le_of_ble_eq_true rfl)) dX12_sandGoes_51 ⟨Nat.le_of_ble_eq_true rfl, Nat.le_of_ble_eq_true rfl⟩) hD hS hA (fun x_49661 σ1 μ1 H locs hw_49662 hP hD hS => ?_)
              obtain ⟨hu_49663, hfn_49666⟩ := hw_49662
              obtain ⟨hu_49663a, hu_49663b⟩ := Prod.mk.inj hu_49663
              rw [hu_49663a, hu_49663b] at hP hD
              replace hF := hF.trans (bn_n hfn_49666)
              refine lv_goto (tgt := 58) hx hb dX12_sandGoes_54 (by decide +kernel) ?_
              exact K_49634 x_49661 _ _ _ hF hFr hG hP hD hS (lv_sub hl [1, 2, 3] rfl)
          · replace hF := hF.trans (if_neg c_49638)
            have tc_49668 : 0 < (x_49599).toInt := Int32.lt_iff_toInt_lt.mp (nle c_49638)
            have h_49669 : rg x_49599 1 2147483647 := rg_lt2 (nle c_49638) (rg_k (0 : Int32) 0 rfl) (rg_full _) (by decide +kernel)
            have uh_49669 := h_49669.1
            have vh_49669 := h_49669.2
            refine lv_iconst (v := 0) hx hb dX12_sandGoes_34 (by decide +kernel) ?_
            refine lv_goto (tgt := 58) hx hb dX12_sandGoes_35 (by decide +kernel) ?_
            exact K_49634 (0 : Int32) _ _ _ hF hFr hG hP hD hS (lv_sub hl [1, 2, 3] rfl)
    exact L_43511 _ (0 : Int32) ri _ _ _ (rg_w (rg_k (0 : Int32) 0 rfl) (by decide +kernel)) (Nat.lt_succ_self _) hF hFr hG hP hD hS (lv_sub hl [1, 2, 0] rfl)
  exact go _ _ _ hP hD hS hl
