theorem dX12_lies_0 : decode cX12_lies 0 = .ok (.sipush 2400, 3) := oc_17 (a := 9) (b := 96) (by decide +kernel)
theorem dX12_lies_3 : decode cX12_lies 3 = .ok (.iconst 4, 1) := oc_7 (by decide +kernel)
theorem dX12_lies_4 : decode cX12_lies 4 = .ok (.iload_n 1, 1) := oc_27 (by decide +kernel)
theorem dX12_lies_5 : decode cX12_lies 5 = .ok (.imul, 1) := oc_104 (by decide +kernel)
theorem dX12_lies_6 : decode cX12_lies 6 = .ok (.iadd, 1) := oc_96 (by decide +kernel)
theorem dX12_lies_7 : decode cX12_lies 7 = .ok (.istore_n 3, 1) := oc_62 (by decide +kernel)
theorem dX12_lies_8 : decode cX12_lies 8 = .ok (.aload_n 0, 1) := oc_42 (by decide +kernel)
theorem dX12_lies_9 : decode cX12_lies 9 = .ok (.getfield 7, 3) := oc_180 (a := 0) (b := 7) (by decide +kernel)
theorem dX12_lies_12 : decode cX12_lies 12 = .ok (.iload_n 3, 1) := oc_29 (by decide +kernel)
theorem dX12_lies_13 : decode cX12_lies 13 = .ok (.iload_n 2, 1) := oc_28 (by decide +kernel)
theorem dX12_lies_14 : decode cX12_lies 14 = .ok (.iastore, 1) := oc_79 (by decide +kernel)
theorem dX12_lies_15 : decode cX12_lies 15 = .ok (.iload_n 2, 1) := oc_28 (by decide +kernel)
theorem dX12_lies_16 : decode cX12_lies 16 = .ok (.bipush 20, 2) := oc_16 (a := 20) (by decide +kernel)
theorem dX12_lies_18 : decode cX12_lies 18 = .ok (.if_icmp .ge 20, 3) := oc_162 (a := 0) (b := 20) (by decide +kernel)
theorem dX12_lies_38 : decode cX12_lies 38 = .ok (.aload_n 0, 1) := oc_42 (by decide +kernel)
theorem dX12_lies_39 : decode cX12_lies 39 = .ok (.getfield 7, 3) := oc_180 (a := 0) (b := 7) (by decide +kernel)
theorem dX12_lies_42 : decode cX12_lies 42 = .ok (.iload_n 3, 1) := oc_29 (by decide +kernel)
theorem dX12_lies_43 : decode cX12_lies 43 = .ok (.iconst 2, 1) := oc_5 (by decide +kernel)
theorem dX12_lies_44 : decode cX12_lies 44 = .ok (.iadd, 1) := oc_96 (by decide +kernel)
theorem dX12_lies_45 : decode cX12_lies 45 = .ok (.dup2, 1) := oc_92 (by decide +kernel)
theorem dX12_lies_46 : decode cX12_lies 46 = .ok (.iaload, 1) := oc_46 (by decide +kernel)
theorem dX12_lies_47 : decode cX12_lies 47 = .ok (.iconst 1, 1) := oc_4 (by decide +kernel)
theorem dX12_lies_48 : decode cX12_lies 48 = .ok (.iload_n 2, 1) := oc_28 (by decide +kernel)
theorem dX12_lies_49 : decode cX12_lies 49 = .ok (.bipush 20, 2) := oc_16 (a := 20) (by decide +kernel)
theorem dX12_lies_51 : decode cX12_lies 51 = .ok (.isub, 1) := oc_100 (by decide +kernel)
theorem dX12_lies_52 : decode cX12_lies 52 = .ok (.ishl, 1) := oc_120 (by decide +kernel)
theorem dX12_lies_53 : decode cX12_lies 53 = .ok (.ior, 1) := oc_128 (by decide +kernel)
theorem dX12_lies_54 : decode cX12_lies 54 = .ok (.iastore, 1) := oc_79 (by decide +kernel)
theorem dX12_lies_55 : decode cX12_lies 55 = .ok (.return_, 1) := oc_177 (by decide +kernel)
theorem dX12_lies_21 : decode cX12_lies 21 = .ok (.aload_n 0, 1) := oc_42 (by decide +kernel)
theorem dX12_lies_22 : decode cX12_lies 22 = .ok (.getfield 7, 3) := oc_180 (a := 0) (b := 7) (by decide +kernel)
theorem dX12_lies_25 : decode cX12_lies 25 = .ok (.iload_n 3, 1) := oc_29 (by decide +kernel)
theorem dX12_lies_26 : decode cX12_lies 26 = .ok (.iconst 1, 1) := oc_4 (by decide +kernel)
theorem dX12_lies_27 : decode cX12_lies 27 = .ok (.iadd, 1) := oc_96 (by decide +kernel)
theorem dX12_lies_28 : decode cX12_lies 28 = .ok (.dup2, 1) := oc_92 (by decide +kernel)
theorem dX12_lies_29 : decode cX12_lies 29 = .ok (.iaload, 1) := oc_46 (by decide +kernel)
theorem dX12_lies_30 : decode cX12_lies 30 = .ok (.iconst 1, 1) := oc_4 (by decide +kernel)
theorem dX12_lies_31 : decode cX12_lies 31 = .ok (.iload_n 2, 1) := oc_28 (by decide +kernel)
theorem dX12_lies_32 : decode cX12_lies 32 = .ok (.ishl, 1) := oc_120 (by decide +kernel)
theorem dX12_lies_33 : decode cX12_lies 33 = .ok (.ior, 1) := oc_128 (by decide +kernel)
theorem dX12_lies_34 : decode cX12_lies 34 = .ok (.iastore, 1) := oc_79 (by decide +kernel)
theorem dX12_lies_35 : decode cX12_lies 35 = .ok (.goto 20, 3) := oc_167 (a := 0) (b := 20) (by decide +kernel)
theorem dX12_grave_0 : decode cX12_grave 0 = .ok (.aload_n 0, 1) := oc_42 (by decide +kernel)
theorem dX12_grave_1 : decode cX12_grave 1 = .ok (.iload_n 1, 1) := oc_27 (by decide +kernel)
theorem dX12_grave_2 : decode cX12_grave 2 = .ok (.invokevirtual 88, 3) := oc_182 (a := 0) (b := 88) (by decide +kernel)
theorem dX12_grave_20 : decode cX12_grave 20 = .ok (.iconst (-1), 1) := oc_2 (by decide +kernel)
theorem dX12_grave_21 : decode cX12_grave 21 = .ok (.ireturn, 1) := oc_172 (by decide +kernel)
theorem dX12_grave_5 : decode cX12_grave 5 = .ok (.ifCond .eq 15, 3) := oc_153 (a := 0) (b := 15) (by decide +kernel)
theorem dX12_grave_8 : decode cX12_grave 8 = .ok (.aload_n 0, 1) := oc_42 (by decide +kernel)
theorem dX12_grave_9 : decode cX12_grave 9 = .ok (.getfield 7, 3) := oc_180 (a := 0) (b := 7) (by decide +kernel)
theorem dX12_grave_12 : decode cX12_grave 12 = .ok (.bipush 10, 2) := oc_16 (a := 10) (by decide +kernel)
theorem dX12_grave_14 : decode cX12_grave 14 = .ok (.iaload, 1) := oc_46 (by decide +kernel)
theorem dX12_grave_15 : decode cX12_grave 15 = .ok (.bipush 30, 2) := oc_16 (a := 30) (by decide +kernel)
theorem dX12_grave_17 : decode cX12_grave 17 = .ok (.if_icmp .ne 5, 3) := oc_160 (a := 0) (b := 5) (by decide +kernel)
theorem dX12_grave_22 : decode cX12_grave 22 = .ok (.aload_n 0, 1) := oc_42 (by decide +kernel)
theorem dX12_grave_23 : decode cX12_grave 23 = .ok (.aload_n 0, 1) := oc_42 (by decide +kernel)
theorem dX12_grave_24 : decode cX12_grave 24 = .ok (.getfield 7, 3) := oc_180 (a := 0) (b := 7) (by decide +kernel)
theorem dX12_grave_27 : decode cX12_grave 27 = .ok (.bipush 10, 2) := oc_16 (a := 10) (by decide +kernel)
theorem dX12_grave_29 : decode cX12_grave 29 = .ok (.iaload, 1) := oc_46 (by decide +kernel)
theorem dX12_grave_30 : decode cX12_grave 30 = .ok (.iload_n 1, 1) := oc_27 (by decide +kernel)
theorem tw_1509 : Cond.methodLink RX12 384 yX12_lies ∈ wsL_law := sg_63 _ (List.mem_of_getElem? (i := 21) rfl)
theorem tw_1510 : Cond.instanceMethod yX12_lies ∈ wsL_law := sg_63 _ (List.mem_of_getElem? (i := 22) rfl)
theorem tw_1511 : Cond.selects RX12 yX12_lies yX12_lies ∈ wsL_law := sg_63 _ (List.mem_of_getElem? (i := 23) rfl)
theorem tw_1512 : Cond.code yX12_lies cX12_lies 4 none ∈ wsL_law := sg_64 _ (List.mem_of_getElem? (i := 0) rfl)
theorem dX12_grave_31 : decode cX12_grave 31 = .ok (.invokevirtual 384, 3) := oc_182 (a := 1) (b := 128) (by decide +kernel)
theorem dX12_grave_34 : decode cX12_grave 34 = .ok (.aload_n 0, 1) := oc_42 (by decide +kernel)
theorem dX12_grave_35 : decode cX12_grave 35 = .ok (.getfield 7, 3) := oc_180 (a := 0) (b := 7) (by decide +kernel)
theorem dX12_grave_38 : decode cX12_grave 38 = .ok (.bipush 10, 2) := oc_16 (a := 10) (by decide +kernel)
theorem dX12_grave_40 : decode cX12_grave 40 = .ok (.dup2, 1) := oc_92 (by decide +kernel)
theorem dX12_grave_41 : decode cX12_grave 41 = .ok (.iaload, 1) := oc_46 (by decide +kernel)
theorem dX12_grave_42 : decode cX12_grave 42 = .ok (.iconst 1, 1) := oc_4 (by decide +kernel)
theorem dX12_grave_43 : decode cX12_grave 43 = .ok (.iadd, 1) := oc_96 (by decide +kernel)
theorem dX12_grave_44 : decode cX12_grave 44 = .ok (.iastore, 1) := oc_79 (by decide +kernel)
theorem dX12_grave_45 : decode cX12_grave 45 = .ok (.aload_n 0, 1) := oc_42 (by decide +kernel)
theorem dX12_grave_46 : decode cX12_grave 46 = .ok (.getfield 7, 3) := oc_180 (a := 0) (b := 7) (by decide +kernel)
theorem dX12_grave_49 : decode cX12_grave 49 = .ok (.bipush 10, 2) := oc_16 (a := 10) (by decide +kernel)
theorem dX12_grave_51 : decode cX12_grave 51 = .ok (.iaload, 1) := oc_46 (by decide +kernel)
theorem dX12_grave_52 : decode cX12_grave 52 = .ok (.iconst 1, 1) := oc_4 (by decide +kernel)
theorem dX12_grave_53 : decode cX12_grave 53 = .ok (.isub, 1) := oc_100 (by decide +kernel)
theorem dX12_grave_54 : decode cX12_grave 54 = .ok (.ireturn, 1) := oc_172 (by decide +kernel)
theorem dX12_bury_0 : decode cX12_bury 0 = .ok (.iload_n 1, 1) := oc_27 (by decide +kernel)
theorem dX12_bury_1 : decode cX12_bury 1 = .ok (.iconst 0, 1) := oc_3 (by decide +kernel)
theorem dX12_bury_2 : decode cX12_bury 2 = .ok (.aload_n 0, 1) := oc_42 (by decide +kernel)
theorem dX12_bury_3 : decode cX12_bury 3 = .ok (.getfield 7, 3) := oc_180 (a := 0) (b := 7) (by decide +kernel)
theorem dX12_bury_6 : decode cX12_bury 6 = .ok (.bipush 10, 2) := oc_16 (a := 10) (by decide +kernel)
theorem dX12_bury_8 : decode cX12_bury 8 = .ok (.iaload, 1) := oc_46 (by decide +kernel)
theorem dX12_bury_9 : decode cX12_bury 9 = .ok (.iconst 1, 1) := oc_4 (by decide +kernel)
theorem dX12_bury_10 : decode cX12_bury 10 = .ok (.isub, 1) := oc_100 (by decide +kernel)
theorem dX12_bury_11 : decode cX12_bury 11 = .ok (.invokestatic 62, 3) := oc_184 (a := 0) (b := 62) (by decide +kernel)
theorem dX12_bury_41 : decode cX12_bury 41 = .ok (.iconst 0, 1) := oc_3 (by decide +kernel)
theorem dX12_bury_42 : decode cX12_bury 42 = .ok (.ireturn, 1) := oc_172 (by decide +kernel)
theorem dX12_bury_14 : decode cX12_bury 14 = .ok (.ifCond .eq 27, 3) := oc_153 (a := 0) (b := 27) (by decide +kernel)
theorem dX12_bury_17 : decode cX12_bury 17 = .ok (.aload_n 0, 1) := oc_42 (by decide +kernel)
theorem dX12_bury_18 : decode cX12_bury 18 = .ok (.iload_n 2, 1) := oc_28 (by decide +kernel)
theorem dX12_bury_19 : decode cX12_bury 19 = .ok (.invokevirtual 88, 3) := oc_182 (a := 0) (b := 88) (by decide +kernel)
theorem dX12_bury_22 : decode cX12_bury 22 = .ok (.ifCond .eq 19, 3) := oc_153 (a := 0) (b := 19) (by decide +kernel)
theorem dX12_bury_25 : decode cX12_bury 25 = .ok (.aload_n 0, 1) := oc_42 (by decide +kernel)
theorem dX12_bury_26 : decode cX12_bury 26 = .ok (.getfield 7, 3) := oc_180 (a := 0) (b := 7) (by decide +kernel)
theorem dX12_bury_29 : decode cX12_bury 29 = .ok (.sipush 2400, 3) := oc_17 (a := 9) (b := 96) (by decide +kernel)
theorem dX12_bury_32 : decode cX12_bury 32 = .ok (.iconst 4, 1) := oc_7 (by decide +kernel)
theorem dX12_bury_33 : decode cX12_bury 33 = .ok (.iload_n 1, 1) := oc_27 (by decide +kernel)
theorem dX12_bury_34 : decode cX12_bury 34 = .ok (.imul, 1) := oc_104 (by decide +kernel)
theorem dX12_bury_35 : decode cX12_bury 35 = .ok (.iadd, 1) := oc_96 (by decide +kernel)
theorem dX12_bury_36 : decode cX12_bury 36 = .ok (.iaload, 1) := oc_46 (by decide +kernel)
theorem dX12_bury_37 : decode cX12_bury 37 = .ok (.iload_n 2, 1) := oc_28 (by decide +kernel)
theorem dX12_bury_38 : decode cX12_bury 38 = .ok (.if_icmp .ne 5, 3) := oc_160 (a := 0) (b := 5) (by decide +kernel)
theorem dX12_bury_43 : decode cX12_bury 43 = .ok (.aload_n 0, 1) := oc_42 (by decide +kernel)
theorem dX12_bury_44 : decode cX12_bury 44 = .ok (.iload_n 1, 1) := oc_27 (by decide +kernel)
theorem dX12_bury_45 : decode cX12_bury 45 = .ok (.iload_n 2, 1) := oc_28 (by decide +kernel)
theorem dX12_bury_46 : decode cX12_bury 46 = .ok (.invokevirtual 384, 3) := oc_182 (a := 1) (b := 128) (by decide +kernel)
theorem dX12_bury_49 : decode cX12_bury 49 = .ok (.iconst 1, 1) := oc_4 (by decide +kernel)
theorem dX12_bury_50 : decode cX12_bury 50 = .ok (.ireturn, 1) := oc_172 (by decide +kernel)
theorem dX12_found_0 : decode cX12_found 0 = .ok (.aload_n 0, 1) := oc_42 (by decide +kernel)
theorem dX12_found_1 : decode cX12_found 1 = .ok (.iload_n 1, 1) := oc_27 (by decide +kernel)
theorem dX12_found_2 : decode cX12_found 2 = .ok (.invokevirtual 88, 3) := oc_182 (a := 0) (b := 88) (by decide +kernel)
theorem dX12_found_12 : decode cX12_found 12 = .ok (.iconst (-1), 1) := oc_2 (by decide +kernel)
theorem dX12_found_13 : decode cX12_found 13 = .ok (.ireturn, 1) := oc_172 (by decide +kernel)
theorem dX12_found_5 : decode cX12_found 5 = .ok (.ifCond .eq 7, 3) := oc_153 (a := 0) (b := 7) (by decide +kernel)
theorem dX12_found_8 : decode cX12_found 8 = .ok (.iload_n 2, 1) := oc_28 (by decide +kernel)
theorem dX12_found_9 : decode cX12_found 9 = .ok (.ifCond .ge 5, 3) := oc_156 (a := 0) (b := 5) (by decide +kernel)
theorem dX12_found_14 : decode cX12_found 14 = .ok (.iload_n 2, 1) := oc_28 (by decide +kernel)
theorem dX12_found_15 : decode cX12_found 15 = .ok (.istore_n 3, 1) := oc_62 (by decide +kernel)
theorem dX12_found_16 : decode cX12_found 16 = .ok (.iconst 0, 1) := oc_3 (by decide +kernel)
theorem dX12_found_17 : decode cX12_found 17 = .ok (.istore 4, 2) := oc_54 (by decide +kernel)
theorem dX12_found_19 : decode cX12_found 19 = .ok (.iload 4, 2) := oc_21 (by decide +kernel)
theorem dX12_found_21 : decode cX12_found 21 = .ok (.aload_n 0, 1) := oc_42 (by decide +kernel)
theorem dX12_found_22 : decode cX12_found 22 = .ok (.getfield 7, 3) := oc_180 (a := 0) (b := 7) (by decide +kernel)
theorem dX12_found_25 : decode cX12_found 25 = .ok (.bipush 10, 2) := oc_16 (a := 10) (by decide +kernel)
theorem dX12_found_27 : decode cX12_found 27 = .ok (.iaload, 1) := oc_46 (by decide +kernel)
theorem dX12_found_28 : decode cX12_found 28 = .ok (.if_icmp .ge 80, 3) := oc_162 (a := 0) (b := 80) (by decide +kernel)
theorem dX12_found_108 : decode cX12_found 108 = .ok (.iconst (-1), 1) := oc_2 (by decide +kernel)
theorem dX12_found_109 : decode cX12_found 109 = .ok (.ireturn, 1) := oc_172 (by decide +kernel)
theorem dX12_found_31 : decode cX12_found 31 = .ok (.sipush 2400, 3) := oc_17 (a := 9) (b := 96) (by decide +kernel)
theorem dX12_found_34 : decode cX12_found 34 = .ok (.iconst 4, 1) := oc_7 (by decide +kernel)
theorem dX12_found_35 : decode cX12_found 35 = .ok (.iload 4, 2) := oc_21 (by decide +kernel)
theorem dX12_found_37 : decode cX12_found 37 = .ok (.imul, 1) := oc_104 (by decide +kernel)
theorem dX12_found_38 : decode cX12_found 38 = .ok (.iadd, 1) := oc_96 (by decide +kernel)
theorem dX12_found_39 : decode cX12_found 39 = .ok (.istore 5, 2) := oc_54 (by decide +kernel)
theorem dX12_found_41 : decode cX12_found 41 = .ok (.iload_n 1, 1) := oc_27 (by decide +kernel)
theorem dX12_found_42 : decode cX12_found 42 = .ok (.bipush 20, 2) := oc_16 (a := 20) (by decide +kernel)
theorem dX12_found_75 : decode cX12_found 75 = .ok (.istore 6, 2) := oc_54 (by decide +kernel)
theorem dX12_found_77 : decode cX12_found 77 = .ok (.iload 6, 2) := oc_21 (by decide +kernel)
theorem dX12_found_79 : decode cX12_found 79 = .ok (.iconst 1, 1) := oc_4 (by decide +kernel)
theorem dX12_found_80 : decode cX12_found 80 = .ok (.iand, 1) := oc_126 (by decide +kernel)
theorem dX12_found_102 : decode cX12_found 102 = .ok (.iinc 4 1, 3) := oc_132 (b := 1) (by decide +kernel)
theorem dX12_found_105 : decode cX12_found 105 = .ok (.goto (-86), 3) := oc_167 (a := 255) (b := 170) (by decide +kernel)
theorem dX12_found_81 : decode cX12_found 81 = .ok (.ifCond .ne 6, 3) := oc_154 (a := 0) (b := 6) (by decide +kernel)
theorem dX12_found_87 : decode cX12_found 87 = .ok (.iload_n 3, 1) := oc_29 (by decide +kernel)
theorem dX12_found_88 : decode cX12_found 88 = .ok (.ifCond .ne 11, 3) := oc_154 (a := 0) (b := 11) (by decide +kernel)
theorem dX12_found_99 : decode cX12_found 99 = .ok (.iinc 3 (-1), 3) := oc_132 (b := 255) (by decide +kernel)
theorem dX12_found_91 : decode cX12_found 91 = .ok (.aload_n 0, 1) := oc_42 (by decide +kernel)
theorem dX12_found_92 : decode cX12_found 92 = .ok (.getfield 7, 3) := oc_180 (a := 0) (b := 7) (by decide +kernel)
theorem dX12_found_95 : decode cX12_found 95 = .ok (.iload 5, 2) := oc_21 (by decide +kernel)
theorem dX12_found_97 : decode cX12_found 97 = .ok (.iaload, 1) := oc_46 (by decide +kernel)
theorem dX12_found_98 : decode cX12_found 98 = .ok (.ireturn, 1) := oc_172 (by decide +kernel)
theorem dX12_found_84 : decode cX12_found 84 = .ok (.goto 18, 3) := oc_167 (a := 0) (b := 18) (by decide +kernel)
theorem dX12_found_44 : decode cX12_found 44 = .ok (.if_icmp .ge 17, 3) := oc_162 (a := 0) (b := 17) (by decide +kernel)
theorem dX12_found_61 : decode cX12_found 61 = .ok (.aload_n 0, 1) := oc_42 (by decide +kernel)
theorem dX12_found_62 : decode cX12_found 62 = .ok (.getfield 7, 3) := oc_180 (a := 0) (b := 7) (by decide +kernel)
theorem dX12_found_65 : decode cX12_found 65 = .ok (.iload 5, 2) := oc_21 (by decide +kernel)
theorem dX12_found_67 : decode cX12_found 67 = .ok (.iconst 2, 1) := oc_5 (by decide +kernel)
theorem dX12_found_68 : decode cX12_found 68 = .ok (.iadd, 1) := oc_96 (by decide +kernel)
theorem dX12_found_69 : decode cX12_found 69 = .ok (.iaload, 1) := oc_46 (by decide +kernel)
theorem dX12_found_70 : decode cX12_found 70 = .ok (.iload_n 1, 1) := oc_27 (by decide +kernel)
theorem dX12_found_71 : decode cX12_found 71 = .ok (.bipush 20, 2) := oc_16 (a := 20) (by decide +kernel)
theorem dX12_found_73 : decode cX12_found 73 = .ok (.isub, 1) := oc_100 (by decide +kernel)
theorem dX12_found_74 : decode cX12_found 74 = .ok (.ishr, 1) := oc_122 (by decide +kernel)
theorem dX12_found_47 : decode cX12_found 47 = .ok (.aload_n 0, 1) := oc_42 (by decide +kernel)
theorem dX12_found_48 : decode cX12_found 48 = .ok (.getfield 7, 3) := oc_180 (a := 0) (b := 7) (by decide +kernel)
theorem dX12_found_51 : decode cX12_found 51 = .ok (.iload 5, 2) := oc_21 (by decide +kernel)
theorem dX12_found_53 : decode cX12_found 53 = .ok (.iconst 1, 1) := oc_4 (by decide +kernel)
theorem dX12_found_54 : decode cX12_found 54 = .ok (.iadd, 1) := oc_96 (by decide +kernel)
theorem dX12_found_55 : decode cX12_found 55 = .ok (.iaload, 1) := oc_46 (by decide +kernel)
theorem dX12_found_56 : decode cX12_found 56 = .ok (.iload_n 1, 1) := oc_27 (by decide +kernel)
theorem dX12_found_57 : decode cX12_found 57 = .ok (.ishr, 1) := oc_122 (by decide +kernel)
theorem dX12_found_58 : decode cX12_found 58 = .ok (.goto 17, 3) := oc_167 (a := 0) (b := 17) (by decide +kernel)
theorem dX12_image_0 : decode cX12_image 0 = .ok (.aload_n 0, 1) := oc_42 (by decide +kernel)
theorem dX12_image_1 : decode cX12_image 1 = .ok (.getfield 7, 3) := oc_180 (a := 0) (b := 7) (by decide +kernel)
theorem dX12_image_4 : decode cX12_image 4 = .ok (.aload_n 0, 1) := oc_42 (by decide +kernel)
theorem tw_177 : Cond.fieldLink RX12 13 "RingsUnderModel" "image" "[I" ∈ wsL_law := sg_8 _ (List.mem_of_getElem? (i := 9) rfl)
theorem dX12_image_5 : decode cX12_image 5 = .ok (.getfield 13, 3) := oc_180 (a := 0) (b := 13) (by decide +kernel)
theorem dX12_image_8 : decode cX12_image 8 = .ok (.invokestatic 58, 3) := oc_184 (a := 0) (b := 58) (by decide +kernel)
theorem dX12_image_11 : decode cX12_image 11 = .ok (.aload_n 0, 1) := oc_42 (by decide +kernel)
theorem dX12_image_12 : decode cX12_image 12 = .ok (.getfield 7, 3) := oc_180 (a := 0) (b := 7) (by decide +kernel)
theorem dX12_image_15 : decode cX12_image 15 = .ok (.iconst 0, 1) := oc_3 (by decide +kernel)
theorem dX12_image_16 : decode cX12_image 16 = .ok (.iaload, 1) := oc_46 (by decide +kernel)
theorem dX12_image_17 : decode cX12_image 17 = .ok (.ireturn, 1) := oc_172 (by decide +kernel)
theorem dX12_back_0 : decode cX12_back 0 = .ok (.aload_n 0, 1) := oc_42 (by decide +kernel)
theorem dX12_back_1 : decode cX12_back 1 = .ok (.getfield 13, 3) := oc_180 (a := 0) (b := 13) (by decide +kernel)
theorem dX12_back_4 : decode cX12_back 4 = .ok (.aload_n 0, 1) := oc_42 (by decide +kernel)
theorem dX12_back_5 : decode cX12_back 5 = .ok (.getfield 7, 3) := oc_180 (a := 0) (b := 7) (by decide +kernel)
theorem dX12_back_8 : decode cX12_back 8 = .ok (.invokestatic 58, 3) := oc_184 (a := 0) (b := 58) (by decide +kernel)
theorem dX12_back_11 : decode cX12_back 11 = .ok (.aload_n 0, 1) := oc_42 (by decide +kernel)
theorem dX12_back_12 : decode cX12_back 12 = .ok (.getfield 7, 3) := oc_180 (a := 0) (b := 7) (by decide +kernel)
theorem dX12_back_15 : decode cX12_back 15 = .ok (.iconst 0, 1) := oc_3 (by decide +kernel)
theorem dX12_back_16 : decode cX12_back 16 = .ok (.iaload, 1) := oc_46 (by decide +kernel)
theorem dX12_back_17 : decode cX12_back 17 = .ok (.ireturn, 1) := oc_172 (by decide +kernel)
theorem dX12_about_0 : decode cX12_about 0 = .ok (.iconst 0, 1) := oc_3 (by decide +kernel)
theorem dX12_about_1 : decode cX12_about 1 = .ok (.istore_n 2, 1) := oc_61 (by decide +kernel)
theorem dX12_about_2 : decode cX12_about 2 = .ok (.iload_n 1, 1) := oc_27 (by decide +kernel)
theorem dX12_about_3 : decode cX12_about 3 = .ok (.tableswitch 122 13 16 #[29, 34, 63, 92], 29) := by decide +kernel
theorem dX12_about_32 : decode cX12_about 32 = .ok (.aload_n 0, 1) := oc_42 (by decide +kernel)
theorem dX12_about_33 : decode cX12_about 33 = .ok (.getfield 127, 3) := oc_180 (a := 0) (b := 127) (by decide +kernel)
theorem dX12_about_36 : decode cX12_about 36 = .ok (.ireturn, 1) := oc_172 (by decide +kernel)
theorem dX12_about_37 : decode cX12_about 37 = .ok (.iconst 0, 1) := oc_3 (by decide +kernel)
theorem dX12_about_38 : decode cX12_about 38 = .ok (.istore_n 3, 1) := oc_62 (by decide +kernel)
theorem dX12_about_39 : decode cX12_about 39 = .ok (.iload_n 3, 1) := oc_29 (by decide +kernel)
theorem dX12_about_40 : decode cX12_about 40 = .ok (.aload_n 0, 1) := oc_42 (by decide +kernel)
theorem dX12_about_41 : decode cX12_about 41 = .ok (.getfield 7, 3) := oc_180 (a := 0) (b := 7) (by decide +kernel)
theorem dX12_about_44 : decode cX12_about 44 = .ok (.iconst 2, 1) := oc_5 (by decide +kernel)
theorem dX12_about_45 : decode cX12_about 45 = .ok (.iaload, 1) := oc_46 (by decide +kernel)
theorem dX12_about_46 : decode cX12_about 46 = .ok (.if_icmp .ge 18, 3) := oc_162 (a := 0) (b := 18) (by decide +kernel)
theorem dX12_about_64 : decode cX12_about 64 = .ok (.iload_n 2, 1) := oc_28 (by decide +kernel)
theorem dX12_about_65 : decode cX12_about 65 = .ok (.ireturn, 1) := oc_172 (by decide +kernel)
theorem dX12_about_49 : decode cX12_about 49 = .ok (.iload_n 2, 1) := oc_28 (by decide +kernel)
theorem dX12_about_50 : decode cX12_about 50 = .ok (.aload_n 0, 1) := oc_42 (by decide +kernel)
theorem dX12_about_51 : decode cX12_about 51 = .ok (.iload_n 3, 1) := oc_29 (by decide +kernel)
theorem dX12_about_52 : decode cX12_about 52 = .ok (.iconst 4, 1) := oc_7 (by decide +kernel)
theorem dX12_about_53 : decode cX12_about 53 = .ok (.invokevirtual 91, 3) := oc_182 (a := 0) (b := 91) (by decide +kernel)
theorem dX12_about_56 : decode cX12_about 56 = .ok (.iadd, 1) := oc_96 (by decide +kernel)
theorem dX12_about_57 : decode cX12_about 57 = .ok (.istore_n 2, 1) := oc_61 (by decide +kernel)
theorem dX12_about_58 : decode cX12_about 58 = .ok (.iinc 3 1, 3) := oc_132 (b := 1) (by decide +kernel)
theorem dX12_about_61 : decode cX12_about 61 = .ok (.goto (-22), 3) := oc_167 (a := 255) (b := 234) (by decide +kernel)
theorem dX12_about_66 : decode cX12_about 66 = .ok (.iconst 0, 1) := oc_3 (by decide +kernel)
theorem dX12_about_67 : decode cX12_about 67 = .ok (.istore_n 3, 1) := oc_62 (by decide +kernel)
theorem dX12_about_68 : decode cX12_about 68 = .ok (.iload_n 3, 1) := oc_29 (by decide +kernel)
theorem dX12_about_69 : decode cX12_about 69 = .ok (.aload_n 0, 1) := oc_42 (by decide +kernel)
theorem dX12_about_70 : decode cX12_about 70 = .ok (.getfield 7, 3) := oc_180 (a := 0) (b := 7) (by decide +kernel)
theorem dX12_about_73 : decode cX12_about 73 = .ok (.iconst 5, 1) := oc_8 (by decide +kernel)
theorem dX12_about_74 : decode cX12_about 74 = .ok (.iaload, 1) := oc_46 (by decide +kernel)
theorem dX12_about_75 : decode cX12_about 75 = .ok (.if_icmp .ge 18, 3) := oc_162 (a := 0) (b := 18) (by decide +kernel)
theorem dX12_about_93 : decode cX12_about 93 = .ok (.iload_n 2, 1) := oc_28 (by decide +kernel)
theorem dX12_about_94 : decode cX12_about 94 = .ok (.ireturn, 1) := oc_172 (by decide +kernel)
theorem dX12_about_78 : decode cX12_about 78 = .ok (.iload_n 2, 1) := oc_28 (by decide +kernel)
theorem dX12_about_79 : decode cX12_about 79 = .ok (.aload_n 0, 1) := oc_42 (by decide +kernel)
theorem dX12_about_80 : decode cX12_about 80 = .ok (.iload_n 3, 1) := oc_29 (by decide +kernel)
theorem dX12_about_81 : decode cX12_about 81 = .ok (.iconst 5, 1) := oc_8 (by decide +kernel)
theorem dX12_about_82 : decode cX12_about 82 = .ok (.invokevirtual 94, 3) := oc_182 (a := 0) (b := 94) (by decide +kernel)
theorem dX12_about_85 : decode cX12_about 85 = .ok (.iadd, 1) := oc_96 (by decide +kernel)
theorem dX12_about_86 : decode cX12_about 86 = .ok (.istore_n 2, 1) := oc_61 (by decide +kernel)
theorem dX12_about_87 : decode cX12_about 87 = .ok (.iinc 3 1, 3) := oc_132 (b := 1) (by decide +kernel)
theorem dX12_about_90 : decode cX12_about 90 = .ok (.goto (-22), 3) := oc_167 (a := 255) (b := 234) (by decide +kernel)
theorem dX12_about_95 : decode cX12_about 95 = .ok (.iconst 0, 1) := oc_3 (by decide +kernel)
theorem dX12_about_96 : decode cX12_about 96 = .ok (.istore_n 3, 1) := oc_62 (by decide +kernel)
theorem dX12_about_97 : decode cX12_about 97 = .ok (.iload_n 3, 1) := oc_29 (by decide +kernel)
theorem dX12_about_98 : decode cX12_about 98 = .ok (.aload_n 0, 1) := oc_42 (by decide +kernel)
theorem dX12_about_99 : decode cX12_about 99 = .ok (.getfield 7, 3) := oc_180 (a := 0) (b := 7) (by decide +kernel)
theorem dX12_about_102 : decode cX12_about 102 = .ok (.iconst 5, 1) := oc_8 (by decide +kernel)
theorem dX12_about_103 : decode cX12_about 103 = .ok (.iaload, 1) := oc_46 (by decide +kernel)
theorem dX12_about_104 : decode cX12_about 104 = .ok (.if_icmp .ge 19, 3) := oc_162 (a := 0) (b := 19) (by decide +kernel)
theorem dX12_about_123 : decode cX12_about 123 = .ok (.iload_n 2, 1) := oc_28 (by decide +kernel)
theorem dX12_about_124 : decode cX12_about 124 = .ok (.ireturn, 1) := oc_172 (by decide +kernel)
theorem dX12_about_107 : decode cX12_about 107 = .ok (.iload_n 2, 1) := oc_28 (by decide +kernel)
theorem dX12_about_108 : decode cX12_about 108 = .ok (.aload_n 0, 1) := oc_42 (by decide +kernel)
theorem dX12_about_109 : decode cX12_about 109 = .ok (.iload_n 3, 1) := oc_29 (by decide +kernel)
theorem dX12_about_110 : decode cX12_about 110 = .ok (.bipush 6, 2) := oc_16 (a := 6) (by decide +kernel)
theorem dX12_about_112 : decode cX12_about 112 = .ok (.invokevirtual 94, 3) := oc_182 (a := 0) (b := 94) (by decide +kernel)
theorem dX12_about_115 : decode cX12_about 115 = .ok (.iadd, 1) := oc_96 (by decide +kernel)
theorem dX12_about_116 : decode cX12_about 116 = .ok (.istore_n 2, 1) := oc_61 (by decide +kernel)
theorem dX12_about_117 : decode cX12_about 117 = .ok (.iinc 3 1, 3) := oc_132 (b := 1) (by decide +kernel)
theorem dX12_about_120 : decode cX12_about 120 = .ok (.goto (-23), 3) := oc_167 (a := 255) (b := 233) (by decide +kernel)
theorem dX12_about_125 : decode cX12_about 125 = .ok (.iload_n 1, 1) := oc_27 (by decide +kernel)
theorem dX12_about_126 : decode cX12_about 126 = .ok (.iconst 0, 1) := oc_3 (by decide +kernel)
theorem dX12_about_127 : decode cX12_about 127 = .ok (.bipush 12, 2) := oc_16 (a := 12) (by decide +kernel)
theorem dX12_about_129 : decode cX12_about 129 = .ok (.invokestatic 62, 3) := oc_184 (a := 0) (b := 62) (by decide +kernel)
theorem dX12_about_132 : decode cX12_about 132 = .ok (.ifCond .eq 12, 3) := oc_153 (a := 0) (b := 12) (by decide +kernel)
theorem tw_1566 : Cond.constant RX12 387 (-1000000000) ∈ wsL_law := sg_66 _ (List.mem_of_getElem? (i := 6) rfl)
theorem dX12_about_144 : decode cX12_about 144 = .ok (.ldc_w 387, 3) := oc_19 (a := 1) (b := 131) (by decide +kernel)
theorem dX12_about_147 : decode cX12_about 147 = .ok (.ireturn, 1) := oc_172 (by decide +kernel)
theorem dX12_about_135 : decode cX12_about 135 = .ok (.aload_n 0, 1) := oc_42 (by decide +kernel)
theorem dX12_about_136 : decode cX12_about 136 = .ok (.getfield 7, 3) := oc_180 (a := 0) (b := 7) (by decide +kernel)
theorem dX12_about_139 : decode cX12_about 139 = .ok (.iload_n 1, 1) := oc_27 (by decide +kernel)
theorem dX12_about_140 : decode cX12_about 140 = .ok (.iaload, 1) := oc_46 (by decide +kernel)
theorem dX12_about_141 : decode cX12_about 141 = .ok (.goto 6, 3) := oc_167 (a := 0) (b := 6) (by decide +kernel)
set_option maxRecDepth 100000 in
def g_X12_lies (a0 : Int32) (a1 : Int32) (I : Nat → Int32) (J : Nat → Int64) (ri : Nat → Nat → Int32) (rj : Nat → Nat → Int64) (rq : Nat → Nat → Option Nat) : vM := (ap1 ((4 : Int32) * a0) fun (x_1 : Int32) => (ap1 ((2400 : Int32) + x_1) fun (x_3 : Int32) => (ap1 (va_up ri 384 (upd (ri 384) (x_3).toNatClampNeg a1)) fun (r_6 : Nat → Nat → Int32) => (if (20 : Int32) ≤ a1 then (ap1 (x_3 + (2 : Int32)) fun (x_14 : Int32) => (ap1 (r_6 384 (x_14).toNatClampNeg) fun (x_16 : Int32) => (ap1 (a1 - (20 : Int32)) fun (x_17 : Int32) => (ap1 ((1 : Int32) <<< (x_17 &&& 31)) fun (x_19 : Int32) => (ap1 (x_16 ||| x_19) fun (x_20 : Int32) => (ap1 (va_up r_6 384 (upd (r_6 384) (x_14).toNatClampNeg x_20)) fun (r_21 : Nat → Nat → Int32) => (I, J, r_21, rj, rq))))))) else (ap1 (x_3 + (1 : Int32)) fun (x_24 : Int32) => (ap1 (r_6 384 (x_24).toNatClampNeg) fun (x_26 : Int32) => (ap1 ((1 : Int32) <<< (a1 &&& 31)) fun (x_27 : Int32) => (ap1 (x_26 ||| x_27) fun (x_28 : Int32) => (ap1 (va_up r_6 384 (upd (r_6 384) (x_24).toNatClampNeg x_28)) fun (r_29 : Nat → Nat → Int32) => (I, J, r_29, rj, rq))))))))))
set_option maxRecDepth 100000 in
theorem g_X12_lies_e {a0 : Int32} {a1 : Int32} {I : Nat → Int32} {J : Nat → Int64} {ri : Nat → Nat → Int32} {rj : Nat → Nat → Int64} {rq : Nat → Nat → Option Nat} : g_X12_lies a0 a1 I J ri rj rq = (ap1 ((4 : Int32) * a0) fun (x_1 : Int32) => (ap1 ((2400 : Int32) + x_1) fun (x_3 : Int32) => (ap1 (va_up ri 384 (upd (ri 384) (x_3).toNatClampNeg a1)) fun (r_6 : Nat → Nat → Int32) => (if (20 : Int32) ≤ a1 then (ap1 (x_3 + (2 : Int32)) fun (x_14 : Int32) => (ap1 (r_6 384 (x_14).toNatClampNeg) fun (x_16 : Int32) => (ap1 (a1 - (20 : Int32)) fun (x_17 : Int32) => (ap1 ((1 : Int32) <<< (x_17 &&& 31)) fun (x_19 : Int32) => (ap1 (x_16 ||| x_19) fun (x_20 : Int32) => (ap1 (va_up r_6 384 (upd (r_6 384) (x_14).toNatClampNeg x_20)) fun (r_21 : Nat → Nat → Int32) => (I, J, r_21, rj, rq))))))) else (ap1 (x_3 + (1 : Int32)) fun (x_24 : Int32) => (ap1 (r_6 384 (x_24).toNatClampNeg) fun (x_26 : Int32) => (ap1 ((1 : Int32) <<< (a1 &&& 31)) fun (x_27 : Int32) => (ap1 (x_26 ||| x_27) fun (x_28 : Int32) => (ap1 (va_up r_6 384 (upd (r_6 384) (x_24).toNatClampNeg x_28)) fun (r_29 : Nat → Nat → Int32) => (I, J, r_29, rj, rq)))))))))) := rfl
set_option maxHeartbeats 4000000 in
set_option maxRecDepth 100000 in
theorem s_X12_lies (l : Launch) (D : va_G) (t : pq_T) (σ : pq_S) (I : Nat → Nat → Int32) (J : Nat → Nat → Int64) (ri : Nat → Nat → Int32) (rj : Nat → Nat → Int64) (rq : Nat → Nat → Option Nat) (sz : Nat) (tg : Nat → Nat) (hSH : SH σ tg) (hG0 : GT tg I ri) (this : Nat) (a0 : Int32) (a1 : Int32) (hL_this : this ∈ σ.1) (hK_this : σ.2.1 this = 12) (h_a0 : rg a0 0 29) (h_a1 : rg a1 0 39) : MetV l yX12_lies (wa yX12_lies cX12_lies 4 none) ({ frames := 0, cells := 0, slots := 0, locals := 0 }) [.ref this, .int a0, .int a1] D t σ (I, J, ri, rj, rq) sz 0 0 (fun (u : pq_S × pq_M) => ∃ ri' : Nat → Nat → Int32, u = (σ, I, J, ri', rj, rq) ∧ GM [1700, 1702, 1701] tg σ I ri I ri' rq ∧ g_X12_lies a0 a1 (vI 12 σ this I) (vJ 12 σ this J) (vR 12 σ this ri) (vL 12 σ this rj) (vQ 12 σ this rq) = ((vI 12 σ this I), (vJ 12 σ this J), (vR 12 σ this ri'), (vL 12 σ this rj), (vQ 12 σ this rq)) ∧ FR 12 tg σ this (I, J, ri, rj, rq) (I, J, ri', rj, rq)) := by
  refine Met.ofW (cc := cX12_lies) (maxL := 4) (ret := none) (by decide +kernel) rfl ?_
  intro p e s m args below meth c s₁ B hml hv
  obtain ⟨rfl, hsz, hP, hK, hD0, hN⟩ := hv
  have hx := B.exec
  have hb := B.bytes
  have hr := B.returns
  have hts := atoms_spec (ws := (wa yX12_lies cX12_lies 4 none)) B.pre
  have hown : s.vm.findClass RX12 = some m.cls := findClass_of_methodNamed B.named
  have hlocks := B.notSynchronized
  subst hsz
  have hD : va_D (pq_B t σ (I, J, ri, rj, rq) s.heap.size) (pq_P t σ (I, J, ri, rj, rq)) := hD0.self
  generalize hAe : pq_B t σ (I, J, ri, rj, rq) s.heap.size = A at hD ⊢
  have hA : ∀ q : Nat, s.heap.size ≤ q → A q := fun q h => by rw [← hAe]; exact Or.inr h
  have hS : va_S A s.heap s.heap [] := va_S.rf
  have hG : GM [1700, 1702, 1701] tg σ I ri I ri rq := ⟨hG0, fun _ _ _ => rfl, fun _ _ _ _ _ => rfl, fun _ _ _ _ _ _ => rfl⟩
  have hl := lv_entry ([.ref this, .int a0, .int a1]) (n := 4) (Nat.le_of_ble_eq_true rfl)
  rw [lg_entry_eq]
  generalize (lg_sl ([.ref this, .int a0, .int a1]) ++ List.replicate (4 - (lg_sl ([.ref this, .int a0, .int a1])).length) Slot.unset).toArray = ls at hl ⊢
  have hl : lv_has ls 4 [(0, .ref this), (1, .int a0), (2, .int a1)] := hl
  refine q_gen (fun Q hQ => ?_)
  have go : ∀ (H : Heap) (locs : List Loc) (ls : Array Slot), va_P D vwCl (pq_P t σ (I, J, ri, rj, rq)) H → va_D A (pq_P t σ (I, J, ri, rj, rq)) → va_S A s.heap H locs → lv_has ls 4 [(0, .ref this), (1, .int a0), (2, .int a1)] → W p l e ({ frames := 0, cells := 0, slots := 0, locals := 0 } : Room) s m (List.toArray ([.ref this, .int a0, .int a1] : List Value)) below meth c H locs 0 0 Q (F0 m 0 ls []) := by
    intro H locs ls hP hD hS hl
    have hO_this : this = vo σ 12 this := rfl
    have hVT : VT 12 σ tg this := vt_12 hSH hL_this hK_this
    have hFr : FR 12 tg σ this (I, J, ri, rj, rq) (I, J, ri, rj, rq) := fr_rf
    obtain ⟨F, hF0⟩ : ∃ F, F = g_X12_lies a0 a1 (vI 12 σ this I) (vJ 12 σ this J) (vR 12 σ this ri) (vL 12 σ this rj) (vQ 12 σ this rq) := ⟨_, rfl⟩
    have hF := hF0.trans g_X12_lies_e
    refine lv_sipush (v := 2400) hx hb dX12_lies_0 (by decide +kernel) ?_
    refine lv_iconst (v := 4) hx hb dX12_lies_3 (by decide +kernel) ?_
    refine lv_iload_n hx hb dX12_lies_4 rfl (lv_at hl 1 rfl) ?_
    refine lv_imul hx hb dX12_lies_5 ?_
    refine lv_topi (fun x_1 ex_1 => ?_)
    replace hF := hF.trans (ap_n ex_1)
    have h_2 : rg x_1 0 116 := rg_of_eq ex_1 (rg_mul (rg_k (4 : Int32) 4 rfl) h_a0 (by decide +kernel))
    have uh_2 := h_2.1
    have vh_2 := h_2.2
    have tx_1 : (x_1).toInt = 4 * (a0).toInt := by rw [ex_1]; exact i_mul_rg (a2 := 4) (b2 := (a0).toInt) rfl rfl (rg_k (4 : Int32) 4 rfl) h_a0 (by decide +kernel)
    refine lv_iadd hx hb dX12_lies_6 ?_
    refine lv_topi (fun x_3 ex_3 => ?_)
    replace hF := hF.trans (ap_n ex_3)
    have h_4 : rg x_3 2400 2516 := rg_of_eq ex_3 (rg_add (rg_k (2400 : Int32) 2400 rfl) h_2 (by decide +kernel))
    have uh_4 := h_4.1
    have vh_4 := h_4.2
    have tx_3 : (x_3).toInt = 2400 + (x_1).toInt := by rw [ex_3]; exact i_add_rg (a2 := 2400) (b2 := (x_1).toInt) rfl rfl (rg_k (2400 : Int32) 2400 rfl) h_2 (by decide +kernel)
    refine lv_istore_n (lv' := [(3, .int x_3), (0, .ref this), (1, .int a0), (2, .int a1)]) hx hb dX12_lies_7 rfl hl (by decide +kernel) rfl (fun ls hl => ?_)
    refine lv_aload_n hx hb dX12_lies_8 rfl (lv_at hl 1 rfl) ?_
    obtain ⟨w_5, hR_w_5, hL_w_5, hK_w_5, hN_w_5, hT_w_5⟩ := sh_a hSH 384 (ci := 12) (kd := 13) (len := 12720) rfl (by decide +kernel) hL_this hK_this
    have hO_w_5 : w_5 = vrow σ 384 this := vo_k (c := 12) hO_this hR_w_5
    refine pg_f (v := .ref w_5) (C := RX12) (T := TX12) (N := 31) hx hb hts (tw_i inlX12) hown hK hP hL_this hK_this (by decide +kernel) rfl 0 (by decide +kernel) (hts _ (tw_c tw_176)) (pq_hv rfl hR_w_5) dX12_lies_9 ?_
    refine lv_iload_n hx hb dX12_lies_12 rfl (lv_at hl 0 rfl) ?_
    refine lv_iload_n hx hb dX12_lies_13 rfl (lv_at hl 3 rfl) ?_
    refine pt_i hx hb hK hP hD hS hL_w_5 hK_w_5 hN_w_5 (rg_in h_4 (by decide +kernel)) dX12_lies_14 (fun r_6 H locs er_6 hP hD hS => ?_)
    replace hFr := fr_R hFr hO_w_5 (by decide +kernel) er_6
    replace hF := hF.trans (ap_n (vR_st hVT hO_w_5 (by decide +kernel) er_6))
    have hG := GM.wz hG hT_w_5 (by decide +kernel) er_6 (zn_GRAVE (c := a0.toNatClampNeg) (k := 0) (by have z_i := clampE x_3; have z_0 := clampE a0; omega) (rg_cl1 h_a0 (by decide +kernel)) (by decide +kernel)) rfl (rg_w h_a1 (by decide +kernel)) (by decide +kernel)
    refine lv_iload_n hx hb dX12_lies_15 rfl (lv_at hl 3 rfl) ?_
    refine lv_bipush (v := 20) hx hb dX12_lies_16 (by decide +kernel) ?_
    refine lv_icmp_ge (tgt := 38) hx hb dX12_lies_18 (by decide +kernel) (fun c_7 => ?_) (fun c_7 => ?_)
    · replace hF := hF.trans (if_pos c_7)
      have tc_12 : 20 ≤ (a1).toInt := Int32.le_iff_toInt_le.mp c_7
      have h_13 : rg a1 20 39 := rg_le2 c_7 (rg_k (20 : Int32) 20 rfl) h_a1 (by decide +kernel)
      have uh_13 := h_13.1
      have vh_13 := h_13.2
      refine lv_aload_n hx hb dX12_lies_38 rfl (lv_at hl 1 rfl) ?_
      refine pg_f (v := .ref w_5) (C := RX12) (T := TX12) (N := 31) hx hb hts (tw_i inlX12) hown hK hP hL_this hK_this (by decide +kernel) rfl 0 (by decide +kernel) (hts _ (tw_c tw_176)) (pq_hv rfl hR_w_5) dX12_lies_39 ?_
      refine lv_iload_n hx hb dX12_lies_42 rfl (lv_at hl 0 rfl) ?_
      refine lv_iconst (v := 2) hx hb dX12_lies_43 (by decide +kernel) ?_
      refine lv_iadd hx hb dX12_lies_44 ?_
      refine lv_topi (fun x_14 ex_14 => ?_)
      replace hF := hF.trans (ap_n ex_14)
      have h_15 : rg x_14 2402 2518 := rg_of_eq ex_14 (rg_add h_4 (rg_k (2 : Int32) 2 rfl) (by decide +kernel))
      have uh_15 := h_15.1
      have vh_15 := h_15.2
      have tx_14 : (x_14).toInt = (x_3).toInt + 2 := by rw [ex_14]; exact i_add_rg (a2 := (x_3).toInt) (b2 := 2) rfl rfl h_4 (rg_k (2 : Int32) 2 rfl) (by decide +kernel)
      refine lv_dup2_11 hx hb dX12_lies_45 rfl rfl ?_
      refine pl_i hx hb hK hP hL_w_5 hK_w_5 hN_w_5 (rg_in h_15 (by decide +kernel)) dX12_lies_46 ?_
      refine lv_topi (fun x_16 ex_16 => ?_)
      replace hF := hF.trans (ap_n (vR_r hO_w_5 (by decide +kernel) ex_16))
      refine lv_iconst (v := 1) hx hb dX12_lies_47 (by decide +kernel) ?_
      refine lv_iload_n hx hb dX12_lies_48 rfl (lv_at hl 3 rfl) ?_
      refine lv_bipush (v := 20) hx hb dX12_lies_49 (by decide +kernel) ?_
      refine lv_isub hx hb dX12_lies_51 ?_
      refine lv_topi (fun x_17 ex_17 => ?_)
      replace hF := hF.trans (ap_n ex_17)
      have h_18 : rg x_17 0 19 := rg_of_eq ex_17 (rg_sub h_13 (rg_k (20 : Int32) 20 rfl) (by decide +kernel))
      have uh_18 := h_18.1
      have vh_18 := h_18.2
      have tx_17 : (x_17).toInt = (a1).toInt - 20 := by rw [ex_17]; exact i_sub_rg (a2 := (a1).toInt) (b2 := 20) rfl rfl h_13 (rg_k (20 : Int32) 20 rfl) (by decide +kernel)
      refine lv_ishl hx hb dX12_lies_52 ?_
      refine lv_topi (fun x_19 ex_19 => ?_)
      replace hF := hF.trans (ap_n ex_19)
      refine lv_ior hx hb dX12_lies_53 ?_
      refine lv_topi (fun x_20 ex_20 => ?_)
      replace hF := hF.trans (ap_n ex_20)
      refine pt_i hx hb hK hP hD hS hL_w_5 hK_w_5 hN_w_5 (rg_in h_15 (by decide +kernel)) dX12_lies_54 (fun r_21 H locs er_21 hP hD hS => ?_)
      replace hFr := fr_R hFr hO_w_5 (by decide +kernel) er_21
      replace hF := hF.trans (ap_n (vR_st hVT hO_w_5 (by decide +kernel) er_21))
      have hG := GM.wz hG hT_w_5 (by decide +kernel) er_21 (zn_GRAVE (c := a0.toNatClampNeg) (k := 2) (by have z_i := clampE x_14; have z_0 := clampE a0; omega) (rg_cl1 h_a0 (by decide +kernel)) (by decide +kernel)) rfl (rg_w (rg_full _) (by decide +kernel)) (by decide +kernel)
      subst hQ
      exact W.vret hx hb hr (fun t1 ht hW => ⟨⟨(σ, I, J, r_21, rj, rq), rfl, ⟨r_21, rfl, hG, (hF0.symm.trans hF), hFr⟩, by rw [ht]; exact hP, va_K.moved hW.alike hK, hD⟩, hS.F ht⟩) hS.2.2 dX12_lies_55
    · replace hF := hF.trans (if_neg c_7)
      have tc_22 : (a1).toInt < 20 := Int32.lt_iff_toInt_lt.mp (nle c_7)
      have h_23 : rg a1 0 19 := rg_lt1 (nle c_7) h_a1 (rg_k (20 : Int32) 20 rfl) (by decide +kernel)
      have uh_23 := h_23.1
      have vh_23 := h_23.2
      refine lv_aload_n hx hb dX12_lies_21 rfl (lv_at hl 1 rfl) ?_
      refine pg_f (v := .ref w_5) (C := RX12) (T := TX12) (N := 31) hx hb hts (tw_i inlX12) hown hK hP hL_this hK_this (by decide +kernel) rfl 0 (by decide +kernel) (hts _ (tw_c tw_176)) (pq_hv rfl hR_w_5) dX12_lies_22 ?_
      refine lv_iload_n hx hb dX12_lies_25 rfl (lv_at hl 0 rfl) ?_
      refine lv_iconst (v := 1) hx hb dX12_lies_26 (by decide +kernel) ?_
      refine lv_iadd hx hb dX12_lies_27 ?_
      refine lv_topi (fun x_24 ex_24 => ?_)
      replace hF := hF.trans (ap_n ex_24)
      have h_25 : rg x_24 2401 2517 := rg_of_eq ex_24 (rg_add h_4 (rg_k (1 : Int32) 1 rfl) (by decide +kernel))
      have uh_25 := h_25.1
      have vh_25 := h_25.2
      have tx_24 : (x_24).toInt = (x_3).toInt + 1 := by rw [ex_24]; exact i_add_rg (a2 := (x_3).toInt) (b2 := 1) rfl rfl h_4 (rg_k (1 : Int32) 1 rfl) (by decide +kernel)
      refine lv_dup2_11 hx hb dX12_lies_28 rfl rfl ?_
      refine pl_i hx hb hK hP hL_w_5 hK_w_5 hN_w_5 (rg_in h_25 (by decide +kernel)) dX12_lies_29 ?_
      refine lv_topi (fun x_26 ex_26 => ?_)
      replace hF := hF.trans (ap_n (vR_r hO_w_5 (by decide +kernel) ex_26))
      refine lv_iconst (v := 1) hx hb dX12_lies_30 (by decide +kernel) ?_
      refine lv_iload_n hx hb dX12_lies_31 rfl (lv_at hl 3 rfl) ?_
      refine lv_ishl hx hb dX12_lies_32 ?_
      refine lv_topi (fun x_27 ex_27 => ?_)
      replace hF := hF.trans (ap_n ex_27)
      refine lv_ior hx hb dX12_lies_33 ?_
      refine lv_topi (fun x_28 ex_28 => ?_)
      replace hF := hF.trans (ap_n ex_28)
      refine pt_i hx hb hK hP hD hS hL_w_5 hK_w_5 hN_w_5 (rg_in h_25 (by decide +kernel)) dX12_lies_34 (fun r_29 H locs er_29 hP hD hS => ?_)
      replace hFr := fr_R hFr hO_w_5 (by decide +kernel) er_29
      replace hF := hF.trans (ap_n (vR_st hVT hO_w_5 (by decide +kernel) er_29))
      have hG := GM.wz hG hT_w_5 (by decide +kernel) er_29 (zn_GRAVE (c := a0.toNatClampNeg) (k := 1) (by have z_i := clampE x_24; have z_0 := clampE a0; omega) (rg_cl1 h_a0 (by decide +kernel)) (by decide +kernel)) rfl (rg_w (rg_full _) (by decide +kernel)) (by decide +kernel)
      refine lv_goto (tgt := 55) hx hb dX12_lies_35 (by decide +kernel) ?_
      subst hQ
      exact W.vret hx hb hr (fun t1 ht hW => ⟨⟨(σ, I, J, r_29, rj, rq), rfl, ⟨r_29, rfl, hG, (hF0.symm.trans hF), hFr⟩, by rw [ht]; exact hP, va_K.moved hW.alike hK, hD⟩, hS.F ht⟩) hS.2.2 dX12_lies_55
  exact go _ _ _ hP hD hS hl

set_option maxRecDepth 100000 in
def g_X12_grave_K20 (I : Nat → Int32) (J : Nat → Int64) (ri : Nat → Nat → Int32) (rj : Nat → Nat → Int64) (rq : Nat → Nat → Option Nat) : Int32 × vM := ((-1 : Int32), I, J, ri, rj, rq)
set_option maxRecDepth 100000 in
theorem g_X12_grave_K20_e {I : Nat → Int32} {J : Nat → Int64} {ri : Nat → Nat → Int32} {rj : Nat → Nat → Int64} {rq : Nat → Nat → Option Nat} : g_X12_grave_K20 I J ri rj rq  = ((-1 : Int32), I, J, ri, rj, rq) := rfl
set_option maxRecDepth 100000 in
def g_X12_grave (a0 : Int32) (I : Nat → Int32) (J : Nat → Int64) (ri : Nat → Nat → Int32) (rj : Nat → Nat → Int64) (rq : Nat → Nat → Option Nat) : Int32 × vM := (bnI (g_X12_isCell a0 I J ri rj rq) fun (x_1 : Int32) (_ : Nat → Int32) (_ : Nat → Int64) (_ : Nat → Nat → Int32) (_ : Nat → Nat → Int64) (_ : Nat → Nat → Option Nat) => (if x_1 = (0 : Int32) then (g_X12_grave_K20 I J ri rj rq ) else (ap1 (ri 384 ((10 : Int32)).toNatClampNeg) fun (x_53 : Int32) => (if x_53 = (30 : Int32) then (g_X12_grave_K20 I J ri rj rq ) else (bnV (g_X12_lies x_53 a0 I J ri rj rq) fun (_ : Nat → Int32) (_ : Nat → Int64) (ri_64 : Nat → Nat → Int32) (_ : Nat → Nat → Int64) (_ : Nat → Nat → Option Nat) => (ap1 (x_53 + (1 : Int32)) fun (x_70 : Int32) => (ap1 (va_up ri_64 384 (upd (ri_64 384) ((10 : Int32)).toNatClampNeg x_70)) fun (r_72 : Nat → Nat → Int32) => (ap1 (x_70 - (1 : Int32)) fun (x_74 : Int32) => (x_74, I, J, r_72, rj, rq)))))))))
set_option maxRecDepth 100000 in
theorem g_X12_grave_e {a0 : Int32} {I : Nat → Int32} {J : Nat → Int64} {ri : Nat → Nat → Int32} {rj : Nat → Nat → Int64} {rq : Nat → Nat → Option Nat} : g_X12_grave a0 I J ri rj rq = (bnI (g_X12_isCell a0 I J ri rj rq) fun (x_1 : Int32) (_ : Nat → Int32) (_ : Nat → Int64) (_ : Nat → Nat → Int32) (_ : Nat → Nat → Int64) (_ : Nat → Nat → Option Nat) => (if x_1 = (0 : Int32) then (g_X12_grave_K20 I J ri rj rq ) else (ap1 (ri 384 ((10 : Int32)).toNatClampNeg) fun (x_53 : Int32) => (if x_53 = (30 : Int32) then (g_X12_grave_K20 I J ri rj rq ) else (bnV (g_X12_lies x_53 a0 I J ri rj rq) fun (_ : Nat → Int32) (_ : Nat → Int64) (ri_64 : Nat → Nat → Int32) (_ : Nat → Nat → Int64) (_ : Nat → Nat → Option Nat) => (ap1 (x_53 + (1 : Int32)) fun (x_70 : Int32) => (ap1 (va_up ri_64 384 (upd (ri_64 384) ((10 : Int32)).toNatClampNeg x_70)) fun (r_72 : Nat → Nat → Int32) => (ap1 (x_70 - (1 : Int32)) fun (x_74 : Int32) => (x_74, I, J, r_72, rj, rq))))))))) := rfl
set_option maxHeartbeats 4000000 in
set_option maxRecDepth 100000 in
theorem s_X12_grave (l : Launch) (D : va_G) (t : pq_T) (σ : pq_S) (I : Nat → Nat → Int32) (J : Nat → Nat → Int64) (ri : Nat → Nat → Int32) (rj : Nat → Nat → Int64) (rq : Nat → Nat → Option Nat) (sz : Nat) (tg : Nat → Nat) (hSH : SH σ tg) (hG0 : GT tg I ri) (this : Nat) (a0 : Int32) (hL_this : this ∈ σ.1) (hK_this : σ.2.1 this = 12) : MetI l yX12_grave (wa yX12_grave cX12_grave 2 (some .int)) ({ frames := 2, cells := 0, slots := 0, locals := 43 }) [.ref this, .int a0] D t σ (I, J, ri, rj, rq) sz 0 0 (fun (r : Int32) (u : pq_S × pq_M) => ∃ ri' : Nat → Nat → Int32, u = (σ, I, J, ri', rj, rq) ∧ GM [1700, 1702, 1701, 1010] tg σ I ri I ri' rq ∧ g_X12_grave a0 (vI 12 σ this I) (vJ 12 σ this J) (vR 12 σ this ri) (vL 12 σ this rj) (vQ 12 σ this rq) = (r, (vI 12 σ this I), (vJ 12 σ this J), (vR 12 σ this ri'), (vL 12 σ this rj), (vQ 12 σ this rq)) ∧ FR 12 tg σ this (I, J, ri, rj, rq) (I, J, ri', rj, rq) ∧ rg r (-1) 29) := by
  refine Met.ofW (cc := cX12_grave) (maxL := 2) (ret := (some .int)) (by decide +kernel) rfl ?_
  intro p e s m args below meth c s₁ B hml hv
  obtain ⟨rfl, hsz, hP, hK, hD0, hN⟩ := hv
  have hx := B.exec
  have hb := B.bytes
  have hr := B.returns
  have hts := atoms_spec (ws := (wa yX12_grave cX12_grave 2 (some .int))) B.pre
  have hown : s.vm.findClass RX12 = some m.cls := findClass_of_methodNamed B.named
  have hlocks := B.notSynchronized
  subst hsz
  have hD : va_D (pq_B t σ (I, J, ri, rj, rq) s.heap.size) (pq_P t σ (I, J, ri, rj, rq)) := hD0.self
  generalize hAe : pq_B t σ (I, J, ri, rj, rq) s.heap.size = A at hD ⊢
  have hA : ∀ q : Nat, s.heap.size ≤ q → A q := fun q h => by rw [← hAe]; exact Or.inr h
  have hS : va_S A s.heap s.heap [] := va_S.rf
  have hG : GM [1700, 1702, 1701, 1010] tg σ I ri I ri rq := ⟨hG0, fun _ _ _ => rfl, fun _ _ _ _ _ => rfl, fun _ _ _ _ _ _ => rfl⟩
  have hl := lv_entry ([.ref this, .int a0]) (n := 2) (Nat.le_of_ble_eq_true rfl)
  rw [lg_entry_eq]
  generalize (lg_sl ([.ref this, .int a0]) ++ List.replicate (2 - (lg_sl ([.ref this, .int a0])).length) Slot.unset).toArray = ls at hl ⊢
  have hl : lv_has ls 2 [(0, .ref this), (1, .int a0)] := hl
  refine q_gen (fun Q hQ => ?_)
  have go : ∀ (H : Heap) (locs : List Loc) (ls : Array Slot), va_P D vwCl (pq_P t σ (I, J, ri, rj, rq)) H → va_D A (pq_P t σ (I, J, ri, rj, rq)) → va_S A s.heap H locs → lv_has ls 2 [(0, .ref this), (1, .int a0)] → W p l e ({ frames := 2, cells := 0, slots := 0, locals := 43 } : Room) s m (List.toArray ([.ref this, .int a0] : List Value)) below meth c H locs 0 0 Q (F0 m 0 ls []) := by
    intro H locs ls hP hD hS hl
    have hO_this : this = vo σ 12 this := rfl
    have hVT : VT 12 σ tg this := vt_12 hSH hL_this hK_this
    have hFr : FR 12 tg σ this (I, J, ri, rj, rq) (I, J, ri, rj, rq) := fr_rf
    obtain ⟨F, hF0⟩ : ∃ F, F = g_X12_grave a0 (vI 12 σ this I) (vJ 12 σ this J) (vR 12 σ this ri) (vL 12 σ this rj) (vQ 12 σ this rq) := ⟨_, rfl⟩
    have hF := hF0.trans g_X12_grave_e
    refine lv_aload_n hx hb dX12_grave_0 rfl (lv_at hl 0 rfl) ?_
    refine lv_iload_n hx hb dX12_grave_1 rfl (lv_at hl 1 rfl) ?_
    refine pk_i (va_runV (As := [.int a0]) (rest := []) ⟨hx, hb, hml, hown, hts⟩ (s_X12_isCell l D t σ I J ri rj rq H.size tg hSH hG.1 this a0 hL_this hK_this) (cwV 1 hts (tw_V tw_340 tw_341 tw_342 tw_5 tw_343) rfl rfl rfl cv_yX12_isCell_1 ⟨Nat.le_of_ble_eq_true rfl, Nat.le_of_ble_eq_true rfl⟩) ⟨pq_blind, pq_recv hK hP hL_this hK_this (by decide +kernel) rfl, pq_pre hK hN hP hD⟩ rfl rfl hl.1 rfl (lv_room (Nat.le_of_ble_eq_true rfl)) dX12_grave_2 ⟨Nat.le_of_ble_eq_true rfl, Nat.le_of_ble_eq_true rfl⟩) hD hS hA (fun x_1 σ1 μ1 H locs hw_2 hP hD hS => ?_)
    obtain ⟨hu_3, hfn_6, hr_5⟩ := hw_2
    obtain ⟨hu_3a, hu_3b⟩ := Prod.mk.inj hu_3
    rw [hu_3a, hu_3b] at hP hD
    replace hF := hF.trans (bn_n hfn_6)
    have h_8 : rg x_1 0 1 := by rcases hr_5 with ⟨q, -⟩ | ⟨q, -⟩ <;> rw [q] <;> exact ⟨by decide +kernel, by decide +kernel⟩
    have uh_8 := h_8.1
    have vh_8 := h_8.2
    have K_38 : ∀  (H : Heap) (locs : List Loc) (ls : Array Slot), F = g_X12_grave_K20 (vI 12 σ this I) (vJ 12 σ this J) (vR 12 σ this ri) (vL 12 σ this rj) (vQ 12 σ this rq)  → FR 12 tg σ this (I, J, ri, rj, rq) (I, J, ri, rj, rq) → GM [1700, 1702, 1701, 1010] tg σ I ri I ri rq → va_P D vwCl (pq_P t σ (I, J, ri, rj, rq)) H → va_D A (pq_P t σ (I, J, ri, rj, rq)) → va_S A s.heap H locs → lv_has ls 2 [] → W p l e ({ frames := 2, cells := 0, slots := 0, locals := 43 } : Room) s m (List.toArray ([.ref this, .int a0] : List Value)) below meth c H locs 0 0 Q (F0 m 20 ls []) := by
      intro H locs ls hF hFr hG hP hD hS hl
      replace hF := hF.trans g_X12_grave_K20_e
      refine lv_iconst (v := (-1)) hx hb dX12_grave_20 (by decide +kernel) ?_
      subst hQ
      exact W.iret (v := (-1)) hx hb hr (fun t1 ht hW => ⟨⟨(-1), (σ, I, J, ri, rj, rq), rfl, ⟨ri, rfl, hG, (hF0.symm.trans hF), hFr, (rg_w (rg_k (-1 : Int32) (-1) rfl) (by decide +kernel))⟩, by rw [ht]; exact hP, va_K.moved hW.alike hK, hD⟩, hS.F ht⟩) hS.2.2 dX12_grave_21
    refine lv_if_eq (tgt := 20) hx hb dX12_grave_5 (by decide +kernel) (fun c_39 => ?_) (fun c_39 => ?_)
    · replace hF := hF.trans (if_pos c_39)
      have f_46 := (hr_5.resolve_left (fun q => absurd (q.1.symm.trans c_39) (by decide +kernel))).2
      have tc_47 : (x_1).toInt = 0 := congrArg Int32.toInt c_39
      have h_48 : rg x_1 0 0 := rg_and h_8 (rg_of_eq c_39 (rg_k (0 : Int32) 0 rfl)) (by decide +kernel)
      have uh_48 := h_48.1
      have vh_48 := h_48.2
      exact K_38 _ _ _ hF hFr hG hP hD hS (lv_sub hl [] rfl)
    · replace hF := hF.trans (if_neg c_39)
      have f_49 := (hr_5.resolve_right (fun q => c_39 q.1)).2
      have uf_49 := f_49.1
      have vf_49 := f_49.2
      have tc_50 : (x_1).toInt ≠ 0 := fun q => c_39 (Int32.toInt_inj.mp q)
      have h_51 : rg x_1 1 1 := rg_ne c_39 h_8 0 rfl (by decide +kernel)
      have uh_51 := h_51.1
      have vh_51 := h_51.2
      refine lv_aload_n hx hb dX12_grave_8 rfl (lv_at hl 0 rfl) ?_
      obtain ⟨w_52, hR_w_52, hL_w_52, hK_w_52, hN_w_52, hT_w_52⟩ := sh_a hSH 384 (ci := 12) (kd := 13) (len := 12720) rfl (by decide +kernel) hL_this hK_this
      have hO_w_52 : w_52 = vrow σ 384 this := vo_k (c := 12) hO_this hR_w_52
      refine pg_f (v := .ref w_52) (C := RX12) (T := TX12) (N := 31) hx hb hts (tw_i inlX12) hown hK hP hL_this hK_this (by decide +kernel) rfl 0 (by decide +kernel) (hts _ (tw_c tw_176)) (pq_hv rfl hR_w_52) dX12_grave_9 ?_
      refine lv_bipush (v := 10) hx hb dX12_grave_12 (by decide +kernel) ?_
      refine pl_i hx hb hK hP hL_w_52 hK_w_52 hN_w_52 (vp_in_iff.mpr (by decide +kernel)) dX12_grave_14 ?_
      refine lv_topi (fun x_53 ex_53 => ?_)
      replace hF := hF.trans (ap_n (vR_r hO_w_52 (by decide +kernel) ex_53))
      have h_54 : rg x_53 0 30 := rg_of_eq ex_53 (GM.z hG (by rw [hT_w_52]; decide) (show zn ((10 : Int32)).toNatClampNeg = 10 from by decide +kernel) rfl)
      have uh_54 := h_54.1
      have vh_54 := h_54.2
      refine lv_bipush (v := 30) hx hb dX12_grave_15 (by decide +kernel) ?_
      refine lv_icmp_ne (tgt := 22) hx hb dX12_grave_17 (by decide +kernel) (fun c_55 => ?_) (fun c_55 => ?_)
      · replace hF := hF.trans (if_neg c_55)
        have tc_60 : (x_53).toInt ≠ 30 := fun q => c_55 (Int32.toInt_inj.mp q)
        have h_61 : rg x_53 0 29 := rg_ne c_55 h_54 30 rfl (by decide +kernel)
        have uh_61 := h_61.1
        have vh_61 := h_61.2
        refine lv_aload_n hx hb dX12_grave_22 rfl (lv_at hl 0 rfl) ?_
        refine lv_aload_n hx hb dX12_grave_23 rfl (lv_at hl 0 rfl) ?_
        refine pg_f (v := .ref w_52) (C := RX12) (T := TX12) (N := 31) hx hb hts (tw_i inlX12) hown hK hP hL_this hK_this (by decide +kernel) rfl 0 (by decide +kernel) (hts _ (tw_c tw_176)) (pq_hv rfl hR_w_52) dX12_grave_24 ?_
        refine lv_bipush (v := 10) hx hb dX12_grave_27 (by decide +kernel) ?_
        refine pl_i hx hb hK hP hL_w_52 hK_w_52 hN_w_52 (vp_in_iff.mpr (by decide +kernel)) dX12_grave_29 ?_
        refine lv_tov x_53 ex_53.symm ?_
        refine lv_iload_n hx hb dX12_grave_30 rfl (lv_at hl 1 rfl) ?_
        refine pk_v (va_runV (As := [.int x_53, .int a0]) (rest := []) ⟨hx, hb, hml, hown, hts⟩ (s_X12_lies l D t σ I J ri rj rq H.size tg hSH hG.1 this x_53 a0 hL_this hK_this (rg_w h_61 (by decide +kernel)) (rg_w f_49 (by decide +kernel))) (cwV 2 hts (tw_V tw_1509 tw_1510 tw_1511 tw_5 tw_1512) rfl rfl rfl cv_yX12_lies_2 ⟨Nat.le_of_ble_eq_true rfl, Nat.le_of_ble_eq_true rfl⟩) ⟨pq_blind, pq_recv hK hP hL_this hK_this (by decide +kernel) rfl, pq_pre hK hN hP hD⟩ rfl rfl hl.1 rfl (lv_room (Nat.le_of_ble_eq_true rfl)) dX12_grave_31 ⟨Nat.le_of_ble_eq_true rfl, Nat.le_of_ble_eq_true rfl⟩) hD hS hA (fun σ1 μ1 H locs hw_63 hP hD hS => ?_)
        obtain ⟨ri_64, hu_65, hg_66, hfn_68, hfr_69⟩ := hw_63
        obtain ⟨hu_65a, hu_65b⟩ := Prod.mk.inj hu_65
        rw [hu_65a, hu_65b] at hP hD
        replace hF := hF.trans (bv_n hfn_68)
        replace hFr := fr_tr hFr hfr_69
        have hG := GM.tr hG hg_66 (by decide +kernel)
        refine lv_aload_n hx hb dX12_grave_34 rfl (lv_at hl 0 rfl) ?_
        refine pg_f (v := .ref w_52) (C := RX12) (T := TX12) (N := 31) hx hb hts (tw_i inlX12) hown hK hP hL_this hK_this (by decide +kernel) rfl 0 (by decide +kernel) (hts _ (tw_c tw_176)) (pq_hv rfl hR_w_52) dX12_grave_35 ?_
        refine lv_bipush (v := 10) hx hb dX12_grave_38 (by decide +kernel) ?_
        refine lv_dup2_11 hx hb dX12_grave_40 rfl rfl ?_
        refine pl_i hx hb hK hP hL_w_52 hK_w_52 hN_w_52 (vp_in_iff.mpr (by decide +kernel)) dX12_grave_41 ?_
        refine lv_tov x_53 ((hg_66.2.2.1 w_52 hT_w_52 10 (by decide +kernel) (by decide +kernel)).trans ex_53.symm) ?_
        refine lv_iconst (v := 1) hx hb dX12_grave_42 (by decide +kernel) ?_
        refine lv_iadd hx hb dX12_grave_43 ?_
        refine lv_topi (fun x_70 ex_70 => ?_)
        replace hF := hF.trans (ap_n ex_70)
        have h_71 : rg x_70 1 30 := rg_of_eq ex_70 (rg_add h_61 (rg_k (1 : Int32) 1 rfl) (by decide +kernel))
        have uh_71 := h_71.1
        have vh_71 := h_71.2
        have tx_70 : (x_70).toInt = (x_53).toInt + 1 := by rw [ex_70]; exact i_add_rg (a2 := (x_53).toInt) (b2 := 1) rfl rfl h_61 (rg_k (1 : Int32) 1 rfl) (by decide +kernel)
        refine pt_i hx hb hK hP hD hS hL_w_52 hK_w_52 hN_w_52 (vp_in_iff.mpr (by decide +kernel)) dX12_grave_44 (fun r_72 H locs er_72 hP hD hS => ?_)
        replace hFr := fr_R hFr hO_w_52 (by decide +kernel) er_72
        replace hF := hF.trans (ap_n (vR_st hVT hO_w_52 (by decide +kernel) er_72))
        have hG := GM.wz hG hT_w_52 (by decide +kernel) er_72 (show zn ((10 : Int32)).toNatClampNeg = 10 from by decide +kernel) rfl (rg_w h_71 (by decide +kernel)) (by decide +kernel)
        have h_73 : r_72 w_52 10 = x_70 := cz_eq er_72
        refine lv_aload_n hx hb dX12_grave_45 rfl (lv_at hl 0 rfl) ?_
        refine pg_f (v := .ref w_52) (C := RX12) (T := TX12) (N := 31) hx hb hts (tw_i inlX12) hown hK hP hL_this hK_this (by decide +kernel) rfl 0 (by decide +kernel) (hts _ (tw_c tw_176)) (pq_hv rfl hR_w_52) dX12_grave_46 ?_
        refine lv_bipush (v := 10) hx hb dX12_grave_49 (by decide +kernel) ?_
        refine pl_i hx hb hK hP hL_w_52 hK_w_52 hN_w_52 (vp_in_iff.mpr (by decide +kernel)) dX12_grave_51 ?_
        refine lv_tov x_70 h_73 ?_
        refine lv_iconst (v := 1) hx hb dX12_grave_52 (by decide +kernel) ?_
        refine lv_isub hx hb dX12_grave_53 ?_
        refine lv_topi (fun x_74 ex_74 => ?_)
        replace hF := hF.trans (ap_n ex_74)
        have h_75 : rg x_74 0 29 := rg_of_eq ex_74 (rg_sub h_71 (rg_k (1 : Int32) 1 rfl) (by decide +kernel))
        have uh_75 := h_75.1
        have vh_75 := h_75.2
        have tx_74 : (x_74).toInt = (x_70).toInt - 1 := by rw [ex_74]; exact i_sub_rg (a2 := (x_70).toInt) (b2 := 1) rfl rfl h_71 (rg_k (1 : Int32) 1 rfl) (by decide +kernel)
        subst hQ
        exact W.iret (v := x_74) hx hb hr (fun t1 ht hW => ⟨⟨x_74, (σ, I, J, r_72, rj, rq), rfl, ⟨r_72, rfl, hG, (hF0.symm.trans hF), hFr, (rg_w h_75 (by decide +kernel))⟩, by rw [ht]; exact hP, va_K.moved hW.alike hK, hD⟩, hS.F ht⟩) hS.2.2 dX12_grave_54
      · replace hF := hF.trans (if_pos c_55)
        have tc_76 : (x_53).toInt = 30 := congrArg Int32.toInt c_55
        have h_77 : rg x_53 30 30 := rg_and h_54 (rg_of_eq c_55 (rg_k (30 : Int32) 30 rfl)) (by decide +kernel)
        have uh_77 := h_77.1
        have vh_77 := h_77.2
        exact K_38 _ _ _ hF hFr hG hP hD hS (lv_sub hl [] rfl)
  exact go _ _ _ hP hD hS hl

set_option maxRecDepth 100000 in
def g_X12_bury_K41 (I : Nat → Int32) (J : Nat → Int64) (ri : Nat → Nat → Int32) (rj : Nat → Nat → Int64) (rq : Nat → Nat → Option Nat) : Int32 × vM := ((0 : Int32), I, J, ri, rj, rq)
set_option maxRecDepth 100000 in
theorem g_X12_bury_K41_e {I : Nat → Int32} {J : Nat → Int64} {ri : Nat → Nat → Int32} {rj : Nat → Nat → Int64} {rq : Nat → Nat → Option Nat} : g_X12_bury_K41 I J ri rj rq  = ((0 : Int32), I, J, ri, rj, rq) := rfl
set_option maxRecDepth 100000 in
def g_X12_bury (a0 : Int32) (a1 : Int32) (I : Nat → Int32) (J : Nat → Int64) (ri : Nat → Nat → Int32) (rj : Nat → Nat → Int64) (rq : Nat → Nat → Option Nat) : Int32 × vM := (ap1 (ri 384 10) fun (y_3 : Int32) => (ap1 ((y_3) - (1 : Int32)) fun (x_4 : Int32) => (ap1 (g_X12_isIn a0 (0 : Int32) x_4) fun (x_6 : Int32) => (if x_6 = (0 : Int32) then (g_X12_bury_K41 I J ri rj rq ) else (bnI (g_X12_isCell a1 I J ri rj rq) fun (x_85 : Int32) (_ : Nat → Int32) (_ : Nat → Int64) (_ : Nat → Nat → Int32) (_ : Nat → Nat → Int64) (_ : Nat → Nat → Option Nat) => (if x_85 = (0 : Int32) then (g_X12_bury_K41 I J ri rj rq ) else (ap1 ((4 : Int32) * a0) fun (x_106 : Int32) => (ap1 ((2400 : Int32) + x_106) fun (x_108 : Int32) => (ap1 (ri 384 (x_108).toNatClampNeg) fun (x_110 : Int32) => (if x_110 = a1 then (g_X12_bury_K41 I J ri rj rq ) else (bnV (g_X12_lies a0 a1 I J ri rj rq) fun (_ : Nat → Int32) (_ : Nat → Int64) (ri_118 : Nat → Nat → Int32) (_ : Nat → Nat → Int64) (_ : Nat → Nat → Option Nat) => ((1 : Int32), I, J, ri_118, rj, rq))))))))))))
set_option maxRecDepth 100000 in
theorem g_X12_bury_e {a0 : Int32} {a1 : Int32} {I : Nat → Int32} {J : Nat → Int64} {ri : Nat → Nat → Int32} {rj : Nat → Nat → Int64} {rq : Nat → Nat → Option Nat} : g_X12_bury a0 a1 I J ri rj rq = (ap1 (ri 384 10) fun (y_3 : Int32) => (ap1 ((y_3) - (1 : Int32)) fun (x_4 : Int32) => (ap1 (g_X12_isIn a0 (0 : Int32) x_4) fun (x_6 : Int32) => (if x_6 = (0 : Int32) then (g_X12_bury_K41 I J ri rj rq ) else (bnI (g_X12_isCell a1 I J ri rj rq) fun (x_85 : Int32) (_ : Nat → Int32) (_ : Nat → Int64) (_ : Nat → Nat → Int32) (_ : Nat → Nat → Int64) (_ : Nat → Nat → Option Nat) => (if x_85 = (0 : Int32) then (g_X12_bury_K41 I J ri rj rq ) else (ap1 ((4 : Int32) * a0) fun (x_106 : Int32) => (ap1 ((2400 : Int32) + x_106) fun (x_108 : Int32) => (ap1 (ri 384 (x_108).toNatClampNeg) fun (x_110 : Int32) => (if x_110 = a1 then (g_X12_bury_K41 I J ri rj rq ) else (bnV (g_X12_lies a0 a1 I J ri rj rq) fun (_ : Nat → Int32) (_ : Nat → Int64) (ri_118 : Nat → Nat → Int32) (_ : Nat → Nat → Int64) (_ : Nat → Nat → Option Nat) => ((1 : Int32), I, J, ri_118, rj, rq)))))))))))) := rfl
set_option maxHeartbeats 4000000 in
set_option maxRecDepth 100000 in
theorem s_X12_bury (l : Launch) (D : va_G) (t : pq_T) (σ : pq_S) (I : Nat → Nat → Int32) (J : Nat → Nat → Int64) (ri : Nat → Nat → Int32) (rj : Nat → Nat → Int64) (rq : Nat → Nat → Option Nat) (sz : Nat) (tg : Nat → Nat) (hSH : SH σ tg) (hG0 : GT tg I ri) (this : Nat) (a0 : Int32) (a1 : Int32) (hL_this : this ∈ σ.1) (hK_this : σ.2.1 this = 12) : MetI l yX12_bury (wa yX12_bury cX12_bury 3 (some .boolean)) ({ frames := 2, cells := 0, slots := 0, locals := 43 }) [.ref this, .int a0, .int a1] D t σ (I, J, ri, rj, rq) sz 0 0 (fun (r : Int32) (u : pq_S × pq_M) => ∃ ri' : Nat → Nat → Int32, u = (σ, I, J, ri', rj, rq) ∧ GM [1700, 1702, 1701] tg σ I ri I ri' rq ∧ g_X12_bury a0 a1 (vI 12 σ this I) (vJ 12 σ this J) (vR 12 σ this ri) (vL 12 σ this rj) (vQ 12 σ this rq) = (r, (vI 12 σ this I), (vJ 12 σ this J), (vR 12 σ this ri'), (vL 12 σ this rj), (vQ 12 σ this rq)) ∧ FR 12 tg σ this (I, J, ri, rj, rq) (I, J, ri', rj, rq) ∧ ((r = 1 ∧ rg a0 0 29 ∧ rg a1 0 39) ∨ (r = 0 ∧ True))) := by
  refine Met.ofW (cc := cX12_bury) (maxL := 3) (ret := (some .boolean)) (by decide +kernel) rfl ?_
  intro p e s m args below meth c s₁ B hml hv
  obtain ⟨rfl, hsz, hP, hK, hD0, hN⟩ := hv
  have hx := B.exec
  have hb := B.bytes
  have hr := B.returns
  have hts := atoms_spec (ws := (wa yX12_bury cX12_bury 3 (some .boolean))) B.pre
  have hown : s.vm.findClass RX12 = some m.cls := findClass_of_methodNamed B.named
  have hlocks := B.notSynchronized
  subst hsz
  have hD : va_D (pq_B t σ (I, J, ri, rj, rq) s.heap.size) (pq_P t σ (I, J, ri, rj, rq)) := hD0.self
  generalize hAe : pq_B t σ (I, J, ri, rj, rq) s.heap.size = A at hD ⊢
  have hA : ∀ q : Nat, s.heap.size ≤ q → A q := fun q h => by rw [← hAe]; exact Or.inr h
  have hS : va_S A s.heap s.heap [] := va_S.rf
  have hG : GM [1700, 1702, 1701] tg σ I ri I ri rq := ⟨hG0, fun _ _ _ => rfl, fun _ _ _ _ _ => rfl, fun _ _ _ _ _ _ => rfl⟩
  have hl := lv_entry ([.ref this, .int a0, .int a1]) (n := 3) (Nat.le_of_ble_eq_true rfl)
  rw [lg_entry_eq]
  generalize (lg_sl ([.ref this, .int a0, .int a1]) ++ List.replicate (3 - (lg_sl ([.ref this, .int a0, .int a1])).length) Slot.unset).toArray = ls at hl ⊢
  have hl : lv_has ls 3 [(0, .ref this), (1, .int a0), (2, .int a1)] := hl
  refine q_gen (fun Q hQ => ?_)
  have go : ∀ (H : Heap) (locs : List Loc) (ls : Array Slot), va_P D vwCl (pq_P t σ (I, J, ri, rj, rq)) H → va_D A (pq_P t σ (I, J, ri, rj, rq)) → va_S A s.heap H locs → lv_has ls 3 [(0, .ref this), (1, .int a0), (2, .int a1)] → W p l e ({ frames := 2, cells := 0, slots := 0, locals := 43 } : Room) s m (List.toArray ([.ref this, .int a0, .int a1] : List Value)) below meth c H locs 0 0 Q (F0 m 0 ls []) := by
    intro H locs ls hP hD hS hl
    have hO_this : this = vo σ 12 this := rfl
    have hVT : VT 12 σ tg this := vt_12 hSH hL_this hK_this
    have hFr : FR 12 tg σ this (I, J, ri, rj, rq) (I, J, ri, rj, rq) := fr_rf
    obtain ⟨F, hF0⟩ : ∃ F, F = g_X12_bury a0 a1 (vI 12 σ this I) (vJ 12 σ this J) (vR 12 σ this ri) (vL 12 σ this rj) (vQ 12 σ this rq) := ⟨_, rfl⟩
    have hF := hF0.trans g_X12_bury_e
    refine lv_iload_n hx hb dX12_bury_0 rfl (lv_at hl 1 rfl) ?_
    refine lv_iconst (v := 0) hx hb dX12_bury_1 (by decide +kernel) ?_
    refine lv_aload_n hx hb dX12_bury_2 rfl (lv_at hl 0 rfl) ?_
    obtain ⟨w_1, hR_w_1, hL_w_1, hK_w_1, hN_w_1, hT_w_1⟩ := sh_a hSH 384 (ci := 12) (kd := 13) (len := 12720) rfl (by decide +kernel) hL_this hK_this
    have hO_w_1 : w_1 = vrow σ 384 this := vo_k (c := 12) hO_this hR_w_1
    refine pg_f (v := .ref w_1) (C := RX12) (T := TX12) (N := 31) hx hb hts (tw_i inlX12) hown hK hP hL_this hK_this (by decide +kernel) rfl 0 (by decide +kernel) (hts _ (tw_c tw_176)) (pq_hv rfl hR_w_1) dX12_bury_3 ?_
    refine lv_bipush (v := 10) hx hb dX12_bury_6 (by decide +kernel) ?_
    refine pl_i hx hb hK hP hL_w_1 hK_w_1 hN_w_1 (vp_in_iff.mpr (by decide +kernel)) dX12_bury_8 ?_
    refine lv_tov (ri w_1 10) rfl ?_
    have h_2 : rg (ri w_1 10) 0 30 := GM.z0 hG0 (by rw [hT_w_1]; decide) (i := 10) (k := 10) (by decide +kernel) rfl
    have uh_2 := h_2.1
    have vh_2 := h_2.2
    replace hF := hF.trans (ap_n (vR_r hO_w_1 (by decide +kernel) rfl))
    refine lv_iconst (v := 1) hx hb dX12_bury_9 (by decide +kernel) ?_
    refine lv_isub hx hb dX12_bury_10 ?_
    refine lv_topi (fun x_4 ex_4 => ?_)
    replace hF := hF.trans (ap_n ex_4)
    have h_5 : rg x_4 (-1) 29 := rg_of_eq ex_4 (rg_sub h_2 (rg_k (1 : Int32) 1 rfl) (by decide +kernel))
    have uh_5 := h_5.1
    have vh_5 := h_5.2
    have tx_4 : (x_4).toInt = (ri w_1 10).toInt - 1 := by rw [ex_4]; exact i_sub_rg (a2 := (ri w_1 10).toInt) (b2 := 1) rfl rfl h_2 (rg_k (1 : Int32) 1 rfl) (by decide +kernel)
    refine pk_i (va_runS (As := [.int a0, .int 0, .int x_4]) (rest := []) ⟨hx, hb, hml, hown, hts⟩ (s_X12_isIn l D t σ I J ri rj rq H.size tg hSH hG.1 a0 (0 : Int32) x_4) (va_cwS 3 hts (tw_S tw_235 tw_236 tw_5 tw_237) rfl rfl rfl cd_yX12_isIn_3 ⟨Nat.le_of_ble_eq_true rfl, Nat.le_of_ble_eq_true rfl⟩) ⟨pq_blind, pq_pre hK hN hP hD⟩ rfl rfl hl.1 rfl (lv_room (Nat.le_of_ble_eq_true rfl)) dX12_bury_11 ⟨Nat.le_of_ble_eq_true rfl, Nat.le_of_ble_eq_true rfl⟩) hD hS hA (fun x_6 σ1 μ1 H locs hw_7 hP hD hS => ?_)
    obtain ⟨hu_8, hfn_11, hr_10⟩ := hw_7
    obtain ⟨hu_8a, hu_8b⟩ := Prod.mk.inj hu_8
    rw [hu_8a, hu_8b] at hP hD
    replace hF := hF.trans (ap_n hfn_11.symm)
    have h_13 : rg x_6 0 1 := by rcases hr_10 with ⟨q, -⟩ | ⟨q, -⟩ <;> rw [q] <;> exact ⟨by decide +kernel, by decide +kernel⟩
    have uh_13 := h_13.1
    have vh_13 := h_13.2
    have K_59 : ∀  (H : Heap) (locs : List Loc) (ls : Array Slot), F = g_X12_bury_K41 (vI 12 σ this I) (vJ 12 σ this J) (vR 12 σ this ri) (vL 12 σ this rj) (vQ 12 σ this rq)  → FR 12 tg σ this (I, J, ri, rj, rq) (I, J, ri, rj, rq) → GM [1700, 1702, 1701] tg σ I ri I ri rq → va_P D vwCl (pq_P t σ (I, J, ri, rj, rq)) H → va_D A (pq_P t σ (I, J, ri, rj, rq)) → va_S A s.heap H locs → lv_has ls 3 [] → W p l e ({ frames := 2, cells := 0, slots := 0, locals := 43 } : Room) s m (List.toArray ([.ref this, .int a0, .int a1] : List Value)) below meth c H locs 0 0 Q (F0 m 41 ls []) := by
      intro H locs ls hF hFr hG hP hD hS hl
      replace hF := hF.trans g_X12_bury_K41_e
      refine lv_iconst (v := 0) hx hb dX12_bury_41 (by decide +kernel) ?_
      subst hQ
      exact W.zret (v := 0) hx hb hr (by decide +kernel) (fun t1 ht hW => ⟨⟨0, (σ, I, J, ri, rj, rq), rfl, ⟨ri, rfl, hG, (hF0.symm.trans hF), hFr, (Or.inr ⟨rfl, trivial⟩)⟩, by rw [ht]; exact hP, va_K.moved hW.alike hK, hD⟩, hS.F ht⟩) hS.2.2 dX12_bury_42
    refine lv_if_eq (tgt := 41) hx hb dX12_bury_14 (by decide +kernel) (fun c_60 => ?_) (fun c_60 => ?_)
    · replace hF := hF.trans (if_pos c_60)
      have f_73 := (hr_10.resolve_left (fun q => absurd (q.1.symm.trans c_60) (by decide +kernel))).2
      have tc_74 : (x_6).toInt = 0 := congrArg Int32.toInt c_60
      have h_75 : rg x_6 0 0 := rg_and h_13 (rg_of_eq c_60 (rg_k (0 : Int32) 0 rfl)) (by decide +kernel)
      have uh_75 := h_75.1
      have vh_75 := h_75.2
      exact K_59 _ _ _ hF hFr hG hP hD hS (lv_sub hl [] rfl)
    · replace hF := hF.trans (if_neg c_60)
      obtain ⟨f_76, f_77⟩ := (hr_10.resolve_right (fun q => c_60 q.1)).2
      have tc_78 : 0 ≤ (a0).toInt := Int32.le_iff_toInt_le.mp f_76
      have h_79 : rg a0 0 2147483647 := rg_le2 f_76 (rg_k (0 : Int32) 0 rfl) (rg_full _) (by decide +kernel)
      have uh_79 := h_79.1
      have vh_79 := h_79.2
      have tc_80 : (a0).toInt ≤ (x_4).toInt := Int32.le_iff_toInt_le.mp f_77
      have h_81 : rg a0 0 29 := rg_le1 f_77 h_79 h_5 (by decide +kernel)
      have uh_81 := h_81.1
      have vh_81 := h_81.2
      have h_82 : rg x_4 0 29 := rg_le2 f_77 h_79 h_5 (by decide +kernel)
      have uh_82 := h_82.1
      have vh_82 := h_82.2
      have tc_83 : (x_6).toInt ≠ 0 := fun q => c_60 (Int32.toInt_inj.mp q)
      have h_84 : rg x_6 1 1 := rg_ne c_60 h_13 0 rfl (by decide +kernel)
      have uh_84 := h_84.1
      have vh_84 := h_84.2
      refine lv_aload_n hx hb dX12_bury_17 rfl (lv_at hl 0 rfl) ?_
      refine lv_iload_n hx hb dX12_bury_18 rfl (lv_at hl 2 rfl) ?_
      refine pk_i (va_runV (As := [.int a1]) (rest := []) ⟨hx, hb, hml, hown, hts⟩ (s_X12_isCell l D t σ I J ri rj rq H.size tg hSH hG.1 this a1 hL_this hK_this) (cwV 1 hts (tw_V tw_340 tw_341 tw_342 tw_5 tw_343) rfl rfl rfl cv_yX12_isCell_1 ⟨Nat.le_of_ble_eq_true rfl, Nat.le_of_ble_eq_true rfl⟩) ⟨pq_blind, pq_recv hK hP hL_this hK_this (by decide +kernel) rfl, pq_pre hK hN hP hD⟩ rfl rfl hl.1 rfl (lv_room (Nat.le_of_ble_eq_true rfl)) dX12_bury_19 ⟨Nat.le_of_ble_eq_true rfl, Nat.le_of_ble_eq_true rfl⟩) hD hS hA (fun x_85 σ1 μ1 H locs hw_86 hP hD hS => ?_)
      obtain ⟨hu_87, hfn_90, hr_89⟩ := hw_86
      obtain ⟨hu_87a, hu_87b⟩ := Prod.mk.inj hu_87
      rw [hu_87a, hu_87b] at hP hD
      replace hF := hF.trans (bn_n hfn_90)
      have h_92 : rg x_85 0 1 := by rcases hr_89 with ⟨q, -⟩ | ⟨q, -⟩ <;> rw [q] <;> exact ⟨by decide +kernel, by decide +kernel⟩
      have uh_92 := h_92.1
      have vh_92 := h_92.2
      refine lv_if_eq (tgt := 41) hx hb dX12_bury_22 (by decide +kernel) (fun c_93 => ?_) (fun c_93 => ?_)
      · replace hF := hF.trans (if_pos c_93)
        have f_100 := (hr_89.resolve_left (fun q => absurd (q.1.symm.trans c_93) (by decide +kernel))).2
        have tc_101 : (x_85).toInt = 0 := congrArg Int32.toInt c_93
        have h_102 : rg x_85 0 0 := rg_and h_92 (rg_of_eq c_93 (rg_k (0 : Int32) 0 rfl)) (by decide +kernel)
        have uh_102 := h_102.1
        have vh_102 := h_102.2
        exact K_59 _ _ _ hF hFr hG hP hD hS (lv_sub hl [] rfl)
      · replace hF := hF.trans (if_neg c_93)
        have f_103 := (hr_89.resolve_right (fun q => c_93 q.1)).2
        have uf_103 := f_103.1
        have vf_103 := f_103.2
        have tc_104 : (x_85).toInt ≠ 0 := fun q => c_93 (Int32.toInt_inj.mp q)
        have h_105 : rg x_85 1 1 := rg_ne c_93 h_92 0 rfl (by decide +kernel)
        have uh_105 := h_105.1
        have vh_105 := h_105.2
        refine lv_aload_n hx hb dX12_bury_25 rfl (lv_at hl 0 rfl) ?_
        refine pg_f (v := .ref w_1) (C := RX12) (T := TX12) (N := 31) hx hb hts (tw_i inlX12) hown hK hP hL_this hK_this (by decide +kernel) rfl 0 (by decide +kernel) (hts _ (tw_c tw_176)) (pq_hv rfl hR_w_1) dX12_bury_26 ?_
        refine lv_sipush (v := 2400) hx hb dX12_bury_29 (by decide +kernel) ?_
        refine lv_iconst (v := 4) hx hb dX12_bury_32 (by decide +kernel) ?_
        refine lv_iload_n hx hb dX12_bury_33 rfl (lv_at hl 1 rfl) ?_
        refine lv_imul hx hb dX12_bury_34 ?_
        refine lv_topi (fun x_106 ex_106 => ?_)
        replace hF := hF.trans (ap_n ex_106)
        have h_107 : rg x_106 0 116 := rg_of_eq ex_106 (rg_mul (rg_k (4 : Int32) 4 rfl) h_81 (by decide +kernel))
        have uh_107 := h_107.1
        have vh_107 := h_107.2
        have tx_106 : (x_106).toInt = 4 * (a0).toInt := by rw [ex_106]; exact i_mul_rg (a2 := 4) (b2 := (a0).toInt) rfl rfl (rg_k (4 : Int32) 4 rfl) h_81 (by decide +kernel)
        refine lv_iadd hx hb dX12_bury_35 ?_
        refine lv_topi (fun x_108 ex_108 => ?_)
        replace hF := hF.trans (ap_n ex_108)
        have h_109 : rg x_108 2400 2516 := rg_of_eq ex_108 (rg_add (rg_k (2400 : Int32) 2400 rfl) h_107 (by decide +kernel))
        have uh_109 := h_109.1
        have vh_109 := h_109.2
        have tx_108 : (x_108).toInt = 2400 + (x_106).toInt := by rw [ex_108]; exact i_add_rg (a2 := 2400) (b2 := (x_106).toInt) rfl rfl (rg_k (2400 : Int32) 2400 rfl) h_107 (by decide +kernel)
        refine pl_i hx hb hK hP hL_w_1 hK_w_1 hN_w_1 (rg_in h_109 (by decide +kernel)) dX12_bury_36 ?_
        refine lv_topi (fun x_110 ex_110 => ?_)
        replace hF := hF.trans (ap_n (vR_r hO_w_1 (by decide +kernel) ex_110))
        refine lv_iload_n hx hb dX12_bury_37 rfl (lv_at hl 2 rfl) ?_
        refine lv_icmp_ne (tgt := 43) hx hb dX12_bury_38 (by decide +kernel) (fun c_111 => ?_) (fun c_111 => ?_)
        · replace hF := hF.trans (if_neg c_111)
          have tc_115 : (x_110).toInt ≠ (a1).toInt := fun q => c_111 (Int32.toInt_inj.mp q)
          refine lv_aload_n hx hb dX12_bury_43 rfl (lv_at hl 0 rfl) ?_
          refine lv_iload_n hx hb dX12_bury_44 rfl (lv_at hl 1 rfl) ?_
          refine lv_iload_n hx hb dX12_bury_45 rfl (lv_at hl 2 rfl) ?_
          refine pk_v (va_runV (As := [.int a0, .int a1]) (rest := []) ⟨hx, hb, hml, hown, hts⟩ (s_X12_lies l D t σ I J ri rj rq H.size tg hSH hG.1 this a0 a1 hL_this hK_this (rg_w h_81 (by decide +kernel)) (rg_w f_103 (by decide +kernel))) (cwV 2 hts (tw_V tw_1509 tw_1510 tw_1511 tw_5 tw_1512) rfl rfl rfl cv_yX12_lies_2 ⟨Nat.le_of_ble_eq_true rfl, Nat.le_of_ble_eq_true rfl⟩) ⟨pq_blind, pq_recv hK hP hL_this hK_this (by decide +kernel) rfl, pq_pre hK hN hP hD⟩ rfl rfl hl.1 rfl (lv_room (Nat.le_of_ble_eq_true rfl)) dX12_bury_46 ⟨Nat.le_of_ble_eq_true rfl, Nat.le_of_ble_eq_true rfl⟩) hD hS hA (fun σ1 μ1 H locs hw_117 hP hD hS => ?_)
          obtain ⟨ri_118, hu_119, hg_120, hfn_122, hfr_123⟩ := hw_117
          obtain ⟨hu_119a, hu_119b⟩ := Prod.mk.inj hu_119
          rw [hu_119a, hu_119b] at hP hD
          replace hF := hF.trans (bv_n hfn_122)
          replace hFr := fr_tr hFr hfr_123
          have hG := GM.tr hG hg_120 (by decide +kernel)
          refine lv_iconst (v := 1) hx hb dX12_bury_49 (by decide +kernel) ?_
          subst hQ
          exact W.zret (v := 1) hx hb hr (by decide +kernel) (fun t1 ht hW => ⟨⟨1, (σ, I, J, ri_118, rj, rq), rfl, ⟨ri_118, rfl, hG, (hF0.symm.trans hF), hFr, (Or.inl ⟨rfl, (rg_w h_81 (by decide +kernel)), (rg_w f_103 (by decide +kernel))⟩)⟩, by rw [ht]; exact hP, va_K.moved hW.alike hK, hD⟩, hS.F ht⟩) hS.2.2 dX12_bury_50
        · replace hF := hF.trans (if_pos c_111)
          have tc_124 : (x_110).toInt = (a1).toInt := congrArg Int32.toInt c_111
          have h_125 : rg x_110 0 39 := rg_and (rg_full _) (rg_of_eq c_111 f_103) (by decide +kernel)
          have uh_125 := h_125.1
          have vh_125 := h_125.2
          exact K_59 _ _ _ hF hFr hG hP hD hS (lv_sub hl [] rfl)
  exact go _ _ _ hP hD hS hl

set_option maxRecDepth 100000 in
def g_X12_found_K12 (I : Nat → Int32) (J : Nat → Int64) (ri : Nat → Nat → Int32) (rj : Nat → Nat → Int64) (rq : Nat → Nat → Option Nat) : Int32 × vM := ((-1 : Int32), I, J, ri, rj, rq)
set_option maxRecDepth 100000 in
theorem g_X12_found_K12_e {I : Nat → Int32} {J : Nat → Int64} {ri : Nat → Nat → Int32} {rj : Nat → Nat → Int64} {rq : Nat → Nat → Option Nat} : g_X12_found_K12 I J ri rj rq  = ((-1 : Int32), I, J, ri, rj, rq) := rfl
set_option maxRecDepth 100000 in
def g_X12_found_K102 (x_999 : Int32) (k_g_X12_found_L19 : (Int32) → (Int32) → Int32 × vM) (x_1118 : Int32) : Int32 × vM := (ap1 (x_999 + Int32.ofInt 1) fun (x_1125 : Int32) => (k_g_X12_found_L19 x_1118 x_1125))
set_option maxRecDepth 100000 in
theorem g_X12_found_K102_e {x_999 : Int32} {k_g_X12_found_L19 : (Int32) → (Int32) → Int32 × vM} {x_1118 : Int32} : g_X12_found_K102 x_999 k_g_X12_found_L19 x_1118 = (ap1 (x_999 + Int32.ofInt 1) fun (x_1125 : Int32) => (k_g_X12_found_L19 x_1118 x_1125)) := rfl
set_option maxRecDepth 100000 in
def g_X12_found_K75 (I : Nat → Int32) (J : Nat → Int64) (ri : Nat → Nat → Int32) (rj : Nat → Nat → Int64) (rq : Nat → Nat → Option Nat) (x_998 : Int32) (x_999 : Int32) (k_g_X12_found_L19 : (Int32) → (Int32) → Int32 × vM) (x_1069 : Int32) (x_1086 : Int32) : Int32 × vM := (ap1 (x_1086 &&& (1 : Int32)) fun (x_1105 : Int32) => (if x_1105 = (0 : Int32) then (g_X12_found_K102 x_999 k_g_X12_found_L19 x_998) else (if x_998 = (0 : Int32) then (ap1 (ri 384 (x_1069).toNatClampNeg) fun (x_1143 : Int32) => (x_1143, I, J, ri, rj, rq)) else (ap1 (x_998 + Int32.ofInt (-1)) fun (x_1139 : Int32) => (g_X12_found_K102 x_999 k_g_X12_found_L19 x_1139)))))
set_option maxRecDepth 100000 in
theorem g_X12_found_K75_e {I : Nat → Int32} {J : Nat → Int64} {ri : Nat → Nat → Int32} {rj : Nat → Nat → Int64} {rq : Nat → Nat → Option Nat} {x_998 : Int32} {x_999 : Int32} {k_g_X12_found_L19 : (Int32) → (Int32) → Int32 × vM} {x_1069 : Int32} {x_1086 : Int32} : g_X12_found_K75 I J ri rj rq x_998 x_999 k_g_X12_found_L19 x_1069 x_1086 = (ap1 (x_1086 &&& (1 : Int32)) fun (x_1105 : Int32) => (if x_1105 = (0 : Int32) then (g_X12_found_K102 x_999 k_g_X12_found_L19 x_998) else (if x_998 = (0 : Int32) then (ap1 (ri 384 (x_1069).toNatClampNeg) fun (x_1143 : Int32) => (x_1143, I, J, ri, rj, rq)) else (ap1 (x_998 + Int32.ofInt (-1)) fun (x_1139 : Int32) => (g_X12_found_K102 x_999 k_g_X12_found_L19 x_1139))))) := rfl
set_option maxRecDepth 100000 in
def g_X12_found_L19 (a0 : Int32) (I : Nat → Int32) (J : Nat → Int64) (ri : Nat → Nat → Int32) (rj : Nat → Nat → Int64) (rq : Nat → Nat → Option Nat) : Nat → (Int32) → (Int32) → Int32 × vM
  | 0, x_998, x_999 => ((0 : Int32), I, J, ri, rj, rq)
  | n_1048 + 1, x_998, x_999 => (ap1 (ri 384 10) fun (y_1057 : Int32) => (if (y_1057) ≤ x_999 then ((-1 : Int32), I, J, ri, rj, rq) else (ap1 ((4 : Int32) * x_999) fun (x_1067 : Int32) => (ap1 ((2400 : Int32) + x_1067) fun (x_1069 : Int32) => (if (20 : Int32) ≤ a0 then (ap1 (x_1069 + (2 : Int32)) fun (x_1153 : Int32) => (ap1 (ri 384 (x_1153).toNatClampNeg) fun (x_1155 : Int32) => (ap1 (a0 - (20 : Int32)) fun (x_1156 : Int32) => (ap1 (x_1155 >>> (x_1156 &&& 31)) fun (x_1158 : Int32) => (g_X12_found_K75 I J ri rj rq x_998 x_999 (g_X12_found_L19 a0 I J ri rj rq n_1048) x_1069 x_1158))))) else (ap1 (x_1069 + (1 : Int32)) fun (x_1161 : Int32) => (ap1 (ri 384 (x_1161).toNatClampNeg) fun (x_1163 : Int32) => (ap1 (x_1163 >>> (a0 &&& 31)) fun (x_1164 : Int32) => (g_X12_found_K75 I J ri rj rq x_998 x_999 (g_X12_found_L19 a0 I J ri rj rq n_1048) x_1069 x_1164)))))))))
set_option maxRecDepth 100000 in
theorem g_X12_found_L19_e {a0 : Int32} {I : Nat → Int32} {J : Nat → Int64} {ri : Nat → Nat → Int32} {rj : Nat → Nat → Int64} {rq : Nat → Nat → Option Nat} {n_1048 : Nat} {x_998 : Int32} {x_999 : Int32} : g_X12_found_L19 a0 I J ri rj rq (n_1048 + 1) x_998 x_999 = (ap1 (ri 384 10) fun (y_1057 : Int32) => (if (y_1057) ≤ x_999 then ((-1 : Int32), I, J, ri, rj, rq) else (ap1 ((4 : Int32) * x_999) fun (x_1067 : Int32) => (ap1 ((2400 : Int32) + x_1067) fun (x_1069 : Int32) => (if (20 : Int32) ≤ a0 then (ap1 (x_1069 + (2 : Int32)) fun (x_1153 : Int32) => (ap1 (ri 384 (x_1153).toNatClampNeg) fun (x_1155 : Int32) => (ap1 (a0 - (20 : Int32)) fun (x_1156 : Int32) => (ap1 (x_1155 >>> (x_1156 &&& 31)) fun (x_1158 : Int32) => (g_X12_found_K75 I J ri rj rq x_998 x_999 (g_X12_found_L19 a0 I J ri rj rq n_1048) x_1069 x_1158))))) else (ap1 (x_1069 + (1 : Int32)) fun (x_1161 : Int32) => (ap1 (ri 384 (x_1161).toNatClampNeg) fun (x_1163 : Int32) => (ap1 (x_1163 >>> (a0 &&& 31)) fun (x_1164 : Int32) => (g_X12_found_K75 I J ri rj rq x_998 x_999 (g_X12_found_L19 a0 I J ri rj rq n_1048) x_1069 x_1164))))))))) := rfl
set_option maxRecDepth 100000 in
def g_X12_found (a0 : Int32) (a1 : Int32) (I : Nat → Int32) (J : Nat → Int64) (ri : Nat → Nat → Int32) (rj : Nat → Nat → Int64) (rq : Nat → Nat → Option Nat) : Int32 × vM := (bnI (g_X12_isCell a0 I J ri rj rq) fun (x_1 : Int32) (_ : Nat → Int32) (_ : Nat → Int64) (_ : Nat → Nat → Int32) (_ : Nat → Nat → Int64) (_ : Nat → Nat → Option Nat) => (if x_1 = (0 : Int32) then (g_X12_found_K12 I J ri rj rq ) else (if (0 : Int32) ≤ a1 then (g_X12_found_L19 a0 I J ri rj rq ((30 - ((0 : Int32)).toInt).toNat + 1) a1 (0 : Int32)) else (g_X12_found_K12 I J ri rj rq ))))
set_option maxRecDepth 100000 in
theorem g_X12_found_e {a0 : Int32} {a1 : Int32} {I : Nat → Int32} {J : Nat → Int64} {ri : Nat → Nat → Int32} {rj : Nat → Nat → Int64} {rq : Nat → Nat → Option Nat} : g_X12_found a0 a1 I J ri rj rq = (bnI (g_X12_isCell a0 I J ri rj rq) fun (x_1 : Int32) (_ : Nat → Int32) (_ : Nat → Int64) (_ : Nat → Nat → Int32) (_ : Nat → Nat → Int64) (_ : Nat → Nat → Option Nat) => (if x_1 = (0 : Int32) then (g_X12_found_K12 I J ri rj rq ) else (if (0 : Int32) ≤ a1 then (g_X12_found_L19 a0 I J ri rj rq ((30 - ((0 : Int32)).toInt).toNat + 1) a1 (0 : Int32)) else (g_X12_found_K12 I J ri rj rq )))) := rfl
set_option maxHeartbeats 4000000 in
set_option maxRecDepth 100000 in
theorem s_X12_found (l : Launch) (D : va_G) (t : pq_T) (σ : pq_S) (I : Nat → Nat → Int32) (J : Nat → Nat → Int64) (ri : Nat → Nat → Int32) (rj : Nat → Nat → Int64) (rq : Nat → Nat → Option Nat) (sz : Nat) (tg : Nat → Nat) (hSH : SH σ tg) (hG0 : GT tg I ri) (this : Nat) (a0 : Int32) (a1 : Int32) (hL_this : this ∈ σ.1) (hK_this : σ.2.1 this = 12) : MetI l yX12_found (wa yX12_found cX12_found 7 (some .int)) ({ frames := 2, cells := 0, slots := 0, locals := 43 }) [.ref this, .int a0, .int a1] D t σ (I, J, ri, rj, rq) sz 0 0 (fun (r : Int32) (u : pq_S × pq_M) => u = (σ, I, J, ri, rj, rq) ∧ g_X12_found a0 a1 (vI 12 σ this I) (vJ 12 σ this J) (vR 12 σ this ri) (vL 12 σ this rj) (vQ 12 σ this rq) = (r, (vI 12 σ this I), (vJ 12 σ this J), (vR 12 σ this ri), (vL 12 σ this rj), (vQ 12 σ this rq))) := by
  refine Met.ofW (cc := cX12_found) (maxL := 7) (ret := (some .int)) (by decide +kernel) rfl ?_
  intro p e s m args below meth c s₁ B hml hv
  obtain ⟨rfl, hsz, hP, hK, hD0, hN⟩ := hv
  have hx := B.exec
  have hb := B.bytes
  have hr := B.returns
  have hts := atoms_spec (ws := (wa yX12_found cX12_found 7 (some .int))) B.pre
  have hown : s.vm.findClass RX12 = some m.cls := findClass_of_methodNamed B.named
  have hlocks := B.notSynchronized
  subst hsz
  have hD : va_D (pq_B t σ (I, J, ri, rj, rq) s.heap.size) (pq_P t σ (I, J, ri, rj, rq)) := hD0.self
  generalize hAe : pq_B t σ (I, J, ri, rj, rq) s.heap.size = A at hD ⊢
  have hA : ∀ q : Nat, s.heap.size ≤ q → A q := fun q h => by rw [← hAe]; exact Or.inr h
  have hS : va_S A s.heap s.heap [] := va_S.rf
  have hG : GM [] tg σ I ri I ri rq := ⟨hG0, fun _ _ _ => rfl, fun _ _ _ _ _ => rfl, fun _ _ _ _ _ _ => rfl⟩
  have hl := lv_entry ([.ref this, .int a0, .int a1]) (n := 7) (Nat.le_of_ble_eq_true rfl)
  rw [lg_entry_eq]
  generalize (lg_sl ([.ref this, .int a0, .int a1]) ++ List.replicate (7 - (lg_sl ([.ref this, .int a0, .int a1])).length) Slot.unset).toArray = ls at hl ⊢
  have hl : lv_has ls 7 [(0, .ref this), (1, .int a0), (2, .int a1)] := hl
  refine q_gen (fun Q hQ => ?_)
  have go : ∀ (H : Heap) (locs : List Loc) (ls : Array Slot), va_P D vwCl (pq_P t σ (I, J, ri, rj, rq)) H → va_D A (pq_P t σ (I, J, ri, rj, rq)) → va_S A s.heap H locs → lv_has ls 7 [(0, .ref this), (1, .int a0), (2, .int a1)] → W p l e ({ frames := 2, cells := 0, slots := 0, locals := 43 } : Room) s m (List.toArray ([.ref this, .int a0, .int a1] : List Value)) below meth c H locs 0 0 Q (F0 m 0 ls []) := by
    intro H locs ls hP hD hS hl
    have hO_this : this = vo σ 12 this := rfl
    have hVT : VT 12 σ tg this := vt_12 hSH hL_this hK_this
    have hFr : FR 12 tg σ this (I, J, ri, rj, rq) (I, J, ri, rj, rq) := fr_rf
    obtain ⟨F, hF0⟩ : ∃ F, F = g_X12_found a0 a1 (vI 12 σ this I) (vJ 12 σ this J) (vR 12 σ this ri) (vL 12 σ this rj) (vQ 12 σ this rq) := ⟨_, rfl⟩
    have hF := hF0.trans g_X12_found_e
    refine lv_aload_n hx hb dX12_found_0 rfl (lv_at hl 0 rfl) ?_
    refine lv_iload_n hx hb dX12_found_1 rfl (lv_at hl 1 rfl) ?_
    refine pk_i (va_runV (As := [.int a0]) (rest := []) ⟨hx, hb, hml, hown, hts⟩ (s_X12_isCell l D t σ I J ri rj rq H.size tg hSH hG.1 this a0 hL_this hK_this) (cwV 1 hts (tw_V tw_340 tw_341 tw_342 tw_5 tw_343) rfl rfl rfl cv_yX12_isCell_1 ⟨Nat.le_of_ble_eq_true rfl, Nat.le_of_ble_eq_true rfl⟩) ⟨pq_blind, pq_recv hK hP hL_this hK_this (by decide +kernel) rfl, pq_pre hK hN hP hD⟩ rfl rfl hl.1 rfl (lv_room (Nat.le_of_ble_eq_true rfl)) dX12_found_2 ⟨Nat.le_of_ble_eq_true rfl, Nat.le_of_ble_eq_true rfl⟩) hD hS hA (fun x_1 σ1 μ1 H locs hw_2 hP hD hS => ?_)
    obtain ⟨hu_3, hfn_6, hr_5⟩ := hw_2
    obtain ⟨hu_3a, hu_3b⟩ := Prod.mk.inj hu_3
    rw [hu_3a, hu_3b] at hP hD
    replace hF := hF.trans (bn_n hfn_6)
    have h_8 : rg x_1 0 1 := by rcases hr_5 with ⟨q, -⟩ | ⟨q, -⟩ <;> rw [q] <;> exact ⟨by decide +kernel, by decide +kernel⟩
    have uh_8 := h_8.1
    have vh_8 := h_8.2
    have K_548 : ∀  (H : Heap) (locs : List Loc) (ls : Array Slot), F = g_X12_found_K12 (vI 12 σ this I) (vJ 12 σ this J) (vR 12 σ this ri) (vL 12 σ this rj) (vQ 12 σ this rq)  → FR 12 tg σ this (I, J, ri, rj, rq) (I, J, ri, rj, rq) → GM [] tg σ I ri I ri rq → va_P D vwCl (pq_P t σ (I, J, ri, rj, rq)) H → va_D A (pq_P t σ (I, J, ri, rj, rq)) → va_S A s.heap H locs → lv_has ls 7 [] → W p l e ({ frames := 2, cells := 0, slots := 0, locals := 43 } : Room) s m (List.toArray ([.ref this, .int a0, .int a1] : List Value)) below meth c H locs 0 0 Q (F0 m 12 ls []) := by
      intro H locs ls hF hFr hG hP hD hS hl
      replace hF := hF.trans g_X12_found_K12_e
      refine lv_iconst (v := (-1)) hx hb dX12_found_12 (by decide +kernel) ?_
      subst hQ
      exact W.iret (v := (-1)) hx hb hr (fun t1 ht hW => ⟨⟨(-1), (σ, I, J, ri, rj, rq), rfl, ⟨rfl, (hF0.symm.trans hF)⟩, by rw [ht]; exact hP, va_K.moved hW.alike hK, hD⟩, hS.F ht⟩) hS.2.2 dX12_found_13
    refine lv_if_eq (tgt := 12) hx hb dX12_found_5 (by decide +kernel) (fun c_549 => ?_) (fun c_549 => ?_)
    · replace hF := hF.trans (if_pos c_549)
      have f_556 := (hr_5.resolve_left (fun q => absurd (q.1.symm.trans c_549) (by decide +kernel))).2
      have tc_557 : (x_1).toInt = 0 := congrArg Int32.toInt c_549
      have h_558 : rg x_1 0 0 := rg_and h_8 (rg_of_eq c_549 (rg_k (0 : Int32) 0 rfl)) (by decide +kernel)
      have uh_558 := h_558.1
      have vh_558 := h_558.2
      exact K_548 _ _ _ hF hFr hG hP hD hS (lv_sub hl [] rfl)
    · replace hF := hF.trans (if_neg c_549)
      have f_559 := (hr_5.resolve_right (fun q => c_549 q.1)).2
      have uf_559 := f_559.1
      have vf_559 := f_559.2
      have tc_560 : (x_1).toInt ≠ 0 := fun q => c_549 (Int32.toInt_inj.mp q)
      have h_561 : rg x_1 1 1 := rg_ne c_549 h_8 0 rfl (by decide +kernel)
      have uh_561 := h_561.1
      have vh_561 := h_561.2
      refine lv_iload_n hx hb dX12_found_8 rfl (lv_at hl 2 rfl) ?_
      refine lv_if_ge (tgt := 14) hx hb dX12_found_9 (by decide +kernel) (fun c_562 => ?_) (fun c_562 => ?_)
      · replace hF := hF.trans (if_pos c_562)
        have tc_567 : 0 ≤ (a1).toInt := Int32.le_iff_toInt_le.mp c_562
        have h_568 : rg a1 0 2147483647 := rg_le2 c_562 (rg_k (0 : Int32) 0 rfl) (rg_full _) (by decide +kernel)
        have uh_568 := h_568.1
        have vh_568 := h_568.2
        refine lv_iload_n hx hb dX12_found_14 rfl (lv_at hl 2 rfl) ?_
        refine lv_istore_n (lv' := [(3, .int a1), (0, .ref this), (1, .int a0), (2, .int a1)]) hx hb dX12_found_15 rfl hl (by decide +kernel) rfl (fun ls hl => ?_)
        refine lv_iconst (v := 0) hx hb dX12_found_16 (by decide +kernel) ?_
        refine lv_istore (lv' := [(4, .int 0), (3, .int a1), (0, .ref this), (1, .int a0), (2, .int a1)]) hx hb dX12_found_17 hl (by decide +kernel) rfl (fun ls hl => ?_)
        have L_1049 : ∀ (n_1048 : Nat) (x_998 : Int32) (x_999 : Int32) (H : Heap) (locs : List Loc) (ls : Array Slot), rg x_998 0 2147483647 → rg x_999 0 30 → (30 - (x_999).toInt).toNat < n_1048 → F = g_X12_found_L19 a0 (vI 12 σ this I) (vJ 12 σ this J) (vR 12 σ this ri) (vL 12 σ this rj) (vQ 12 σ this rq) n_1048 x_998 x_999 → FR 12 tg σ this (I, J, ri, rj, rq) (I, J, ri, rj, rq) → GM [] tg σ I ri I ri rq → va_P D vwCl (pq_P t σ (I, J, ri, rj, rq)) H → va_D A (pq_P t σ (I, J, ri, rj, rq)) → va_S A s.heap H locs → lv_has ls 7 [(0, .ref this), (1, .int a0), (3, .int x_998), (4, .int x_999)] → W p l e ({ frames := 2, cells := 0, slots := 0, locals := 43 } : Room) s m (List.toArray ([.ref this, .int a0, .int a1] : List Value)) below meth c H locs 0 0 Q (F0 m 19 ls []) := by
          intro n_1048
          induction n_1048 with
          | zero => intro x_998 x_999 H locs ls h_1053 h_1054 hm_1047 hF hFr hG hP hD hS hl; exact absurd hm_1047 (Nat.not_lt_zero _)
          | succ n_1048 ih_1050 =>
            intro x_998 x_999 H locs ls h_1053 h_1054 hm_1047 hF hFr hG hP hD hS hl
            have uh_1053 := h_1053.1
            have vh_1053 := h_1053.2
            have uh_1054 := h_1054.1
            have vh_1054 := h_1054.2
            replace hF := hF.trans g_X12_found_L19_e
            refine lv_iload hx hb dX12_found_19 (lv_at hl 3 rfl) ?_
            refine lv_aload_n hx hb dX12_found_21 rfl (lv_at hl 0 rfl) ?_
            obtain ⟨w_1055, hR_w_1055, hL_w_1055, hK_w_1055, hN_w_1055, hT_w_1055⟩ := sh_a hSH 384 (ci := 12) (kd := 13) (len := 12720) rfl (by decide +kernel) hL_this hK_this
            have hO_w_1055 : w_1055 = vrow σ 384 this := vo_k (c := 12) hO_this hR_w_1055
            refine pg_f (v := .ref w_1055) (C := RX12) (T := TX12) (N := 31) hx hb hts (tw_i inlX12) hown hK hP hL_this hK_this (by decide +kernel) rfl 0 (by decide +kernel) (hts _ (tw_c tw_176)) (pq_hv rfl hR_w_1055) dX12_found_22 ?_
            refine lv_bipush (v := 10) hx hb dX12_found_25 (by decide +kernel) ?_
            refine pl_i hx hb hK hP hL_w_1055 hK_w_1055 hN_w_1055 (vp_in_iff.mpr (by decide +kernel)) dX12_found_27 ?_
            refine lv_tov (ri w_1055 10) rfl ?_
            have h_1056 : rg (ri w_1055 10) 0 30 := GM.z0 hG0 (by rw [hT_w_1055]; decide) (i := 10) (k := 10) (by decide +kernel) rfl
            have uh_1056 := h_1056.1
            have vh_1056 := h_1056.2
            replace hF := hF.trans (ap_n (vR_r hO_w_1055 (by decide +kernel) rfl))
            refine lv_icmp_ge (tgt := 108) hx hb dX12_found_28 (by decide +kernel) (fun c_1058 => ?_) (fun c_1058 => ?_)
            · replace hF := hF.trans (if_pos c_1058)
              have tc_1063 : (ri w_1055 10).toInt ≤ (x_999).toInt := Int32.le_iff_toInt_le.mp c_1058
              refine lv_iconst (v := (-1)) hx hb dX12_found_108 (by decide +kernel) ?_
              subst hQ
              exact W.iret (v := (-1)) hx hb hr (fun t1 ht hW => ⟨⟨(-1), (σ, I, J, ri, rj, rq), rfl, ⟨rfl, (hF0.symm.trans hF)⟩, by rw [ht]; exact hP, va_K.moved hW.alike hK, hD⟩, hS.F ht⟩) hS.2.2 dX12_found_109
            · replace hF := hF.trans (if_neg c_1058)
              have tc_1064 : (x_999).toInt < (ri w_1055 10).toInt := Int32.lt_iff_toInt_lt.mp (nle c_1058)
              have h_1065 : rg x_999 0 29 := rg_lt1 (nle c_1058) h_1054 h_1056 (by decide +kernel)
              have uh_1065 := h_1065.1
              have vh_1065 := h_1065.2
              have h_1066 : rg (ri w_1055 10) 1 30 := rg_lt2 (nle c_1058) h_1054 h_1056 (by decide +kernel)
              have uh_1066 := h_1066.1
              have vh_1066 := h_1066.2
              refine lv_sipush (v := 2400) hx hb dX12_found_31 (by decide +kernel) ?_
              refine lv_iconst (v := 4) hx hb dX12_found_34 (by decide +kernel) ?_
              refine lv_iload hx hb dX12_found_35 (lv_at hl 3 rfl) ?_
              refine lv_imul hx hb dX12_found_37 ?_
              refine lv_topi (fun x_1067 ex_1067 => ?_)
              replace hF := hF.trans (ap_n ex_1067)
              have h_1068 : rg x_1067 0 116 := rg_of_eq ex_1067 (rg_mul (rg_k (4 : Int32) 4 rfl) h_1065 (by decide +kernel))
              have uh_1068 := h_1068.1
              have vh_1068 := h_1068.2
              have tx_1067 : (x_1067).toInt = 4 * (x_999).toInt := by rw [ex_1067]; exact i_mul_rg (a2 := 4) (b2 := (x_999).toInt) rfl rfl (rg_k (4 : Int32) 4 rfl) h_1065 (by decide +kernel)
              refine lv_iadd hx hb dX12_found_38 ?_
              refine lv_topi (fun x_1069 ex_1069 => ?_)
              replace hF := hF.trans (ap_n ex_1069)
              have h_1070 : rg x_1069 2400 2516 := rg_of_eq ex_1069 (rg_add (rg_k (2400 : Int32) 2400 rfl) h_1068 (by decide +kernel))
              have uh_1070 := h_1070.1
              have vh_1070 := h_1070.2
              have tx_1069 : (x_1069).toInt = 2400 + (x_1067).toInt := by rw [ex_1069]; exact i_add_rg (a2 := 2400) (b2 := (x_1067).toInt) rfl rfl (rg_k (2400 : Int32) 2400 rfl) h_1068 (by decide +kernel)
              refine lv_istore (lv' := [(5, .int x_1069), (0, .ref this), (1, .int a0), (3, .int x_998), (4, .int x_999)]) hx hb dX12_found_39 hl (by decide +kernel) rfl (fun ls hl => ?_)
              refine lv_iload_n hx hb dX12_found_41 rfl (lv_at hl 2 rfl) ?_
              refine lv_bipush (v := 20) hx hb dX12_found_42 (by decide +kernel) ?_
              have K_1104 : ∀  (x_1086 : Int32) (H : Heap) (locs : List Loc) (ls : Array Slot), F = g_X12_found_K75 (vI 12 σ this I) (vJ 12 σ this J) (vR 12 σ this ri) (vL 12 σ this rj) (vQ 12 σ this rq) x_998 x_999 (g_X12_found_L19 a0 (vI 12 σ this I) (vJ 12 σ this J) (vR 12 σ this ri) (vL 12 σ this rj) (vQ 12 σ this rq) n_1048) x_1069 x_1086 → FR 12 tg σ this (I, J, ri, rj, rq) (I, J, ri, rj, rq) → GM [] tg σ I ri I ri rq → va_P D vwCl (pq_P t σ (I, J, ri, rj, rq)) H → va_D A (pq_P t σ (I, J, ri, rj, rq)) → va_S A s.heap H locs → lv_has ls 7 [(0, .ref this), (1, .int a0), (3, .int x_998), (4, .int x_999), (5, .int x_1069)] → W p l e ({ frames := 2, cells := 0, slots := 0, locals := 43 } : Room) s m (List.toArray ([.ref this, .int a0, .int a1] : List Value)) below meth c H locs 0 0 Q (F0 m 75 ls [.int x_1086]) := by
                intro x_1086 H locs ls hF hFr hG hP hD hS hl
                replace hF := hF.trans g_X12_found_K75_e
                refine lv_istore (lv' := [(6, .int x_1086), (0, .ref this), (1, .int a0), (3, .int x_998), (4, .int x_999), (5, .int x_1069)]) hx hb dX12_found_75 hl (by decide +kernel) rfl (fun ls hl => ?_)
                refine lv_iload hx hb dX12_found_77 (lv_at hl 0 rfl) ?_
                refine lv_iconst (v := 1) hx hb dX12_found_79 (by decide +kernel) ?_
                refine lv_iand hx hb dX12_found_80 ?_
                refine lv_topi (fun x_1105 ex_1105 => ?_)
                replace hF := hF.trans (ap_n ex_1105)
                have K_1122 : ∀  (x_1118 : Int32) (H : Heap) (locs : List Loc) (ls : Array Slot), rg x_1118 0 2147483647 → F = g_X12_found_K102 x_999 (g_X12_found_L19 a0 (vI 12 σ this I) (vJ 12 σ this J) (vR 12 σ this ri) (vL 12 σ this rj) (vQ 12 σ this rq) n_1048) x_1118 → FR 12 tg σ this (I, J, ri, rj, rq) (I, J, ri, rj, rq) → GM [] tg σ I ri I ri rq → va_P D vwCl (pq_P t σ (I, J, ri, rj, rq)) H → va_D A (pq_P t σ (I, J, ri, rj, rq)) → va_S A s.heap H locs → lv_has ls 7 [(0, .ref this), (1, .int a0), (3, .int x_1118), (4, .int x_999)] → W p l e ({ frames := 2, cells := 0, slots := 0, locals := 43 } : Room) s m (List.toArray ([.ref this, .int a0, .int a1] : List Value)) below meth c H locs 0 0 Q (F0 m 102 ls []) := by
                  intro x_1118 H locs ls h_1124 hF hFr hG hP hD hS hl
                  have uh_1124 := h_1124.1
                  have vh_1124 := h_1124.2
                  replace hF := hF.trans g_X12_found_K102_e
                  obtain ⟨x_1125, ex_1125⟩ : ∃ y : Int32, y = x_999 + Int32.ofInt 1 := ⟨_, rfl⟩
                  replace hF := hF.trans (ap_n ex_1125)
                  have h_1126 : rg x_1125 1 30 := rg_of_eq ex_1125 (rg_add h_1065 (rg_k (Int32.ofInt 1) 1 rfl) (by decide +kernel))
                  have uh_1126 := h_1126.1
                  have vh_1126 := h_1126.2
                  have tx_1125 : (x_1125).toInt = (x_999).toInt + 1 := by rw [ex_1125]; exact i_add_rg (a2 := (x_999).toInt) (b2 := 1) rfl rfl h_1065 (rg_k (Int32.ofInt 1) 1 rfl) (by decide +kernel)
                  refine lv_iinc (v := x_1125) (lv' := [(4, .int x_1125), (0, .ref this), (1, .int a0), (3, .int x_1118)]) hx hb dX12_found_102 hl (k := 3) rfl ex_1125.symm (by decide +kernel) rfl (fun ls hl => ?_)
                  refine lv_goto (tgt := 19) hx hb dX12_found_105 (by decide +kernel) ?_
                  exact ih_1050 x_1118 x_1125 _ _ _ (rg_w h_1124 (by decide +kernel)) (rg_w h_1126 (by decide +kernel)) (ms_up 1 hm_1047 ex_1125 rfl (by decide +kernel) h_1065 (by decide +kernel) (by decide +kernel)) hF hFr hG hP hD hS (lv_sub hl [1, 2, 3, 0] rfl)
                refine lv_if_ne (tgt := 87) hx hb dX12_found_81 (by decide +kernel) (fun c_1127 => ?_) (fun c_1127 => ?_)
                · replace hF := hF.trans (if_neg c_1127)
                  have tc_1131 : (x_1105).toInt ≠ 0 := fun q => c_1127 (Int32.toInt_inj.mp q)
                  refine lv_iload_n hx hb dX12_found_87 rfl (lv_at hl 3 rfl) ?_
                  refine lv_if_ne (tgt := 99) hx hb dX12_found_88 (by decide +kernel) (fun c_1132 => ?_) (fun c_1132 => ?_)
                  · replace hF := hF.trans (if_neg c_1132)
                    have tc_1137 : (x_998).toInt ≠ 0 := fun q => c_1132 (Int32.toInt_inj.mp q)
                    have h_1138 : rg x_998 1 2147483647 := rg_ne c_1132 h_1053 0 rfl (by decide +kernel)
                    have uh_1138 := h_1138.1
                    have vh_1138 := h_1138.2
                    obtain ⟨x_1139, ex_1139⟩ : ∃ y : Int32, y = x_998 + Int32.ofInt (-1) := ⟨_, rfl⟩
                    replace hF := hF.trans (ap_n ex_1139)
                    have h_1140 : rg x_1139 0 2147483646 := rg_of_eq ex_1139 (rg_add h_1138 (rg_k (Int32.ofInt (-1)) (-1) rfl) (by decide +kernel))
                    have uh_1140 := h_1140.1
                    have vh_1140 := h_1140.2
                    have tx_1139 : (x_1139).toInt = (x_998).toInt + (-1) := by rw [ex_1139]; exact i_add_rg (a2 := (x_998).toInt) (b2 := (-1)) rfl rfl h_1138 (rg_k (Int32.ofInt (-1)) (-1) rfl) (by decide +kernel)
                    refine lv_iinc (v := x_1139) (lv' := [(3, .int x_1139), (6, .int x_1086), (0, .ref this), (1, .int a0), (4, .int x_999), (5, .int x_1069)]) hx hb dX12_found_99 hl (k := 3) rfl ex_1139.symm (by decide +kernel) rfl (fun ls hl => ?_)
                    exact K_1122 x_1139 _ _ _ (rg_w h_1140 (by decide +kernel)) hF hFr hG hP hD hS (lv_sub hl [2, 3, 0, 4] rfl)
                  · replace hF := hF.trans (if_pos c_1132)
                    have tc_1141 : (x_998).toInt = 0 := congrArg Int32.toInt c_1132
                    have h_1142 : rg x_998 0 0 := rg_and h_1053 (rg_of_eq c_1132 (rg_k (0 : Int32) 0 rfl)) (by decide +kernel)
                    have uh_1142 := h_1142.1
                    have vh_1142 := h_1142.2
                    refine lv_aload_n hx hb dX12_found_91 rfl (lv_at hl 1 rfl) ?_
                    refine pg_f (v := .ref w_1055) (C := RX12) (T := TX12) (N := 31) hx hb hts (tw_i inlX12) hown hK hP hL_this hK_this (by decide +kernel) rfl 0 (by decide +kernel) (hts _ (tw_c tw_176)) (pq_hv rfl hR_w_1055) dX12_found_92 ?_
                    refine lv_iload hx hb dX12_found_95 (lv_at hl 5 rfl) ?_
                    refine pl_i hx hb hK hP hL_w_1055 hK_w_1055 hN_w_1055 (rg_in h_1070 (by decide +kernel)) dX12_found_97 ?_
                    refine lv_topi (fun x_1143 ex_1143 => ?_)
                    replace hF := hF.trans (ap_n (vR_r hO_w_1055 (by decide +kernel) ex_1143))
                    subst hQ
                    exact W.iret (v := x_1143) hx hb hr (fun t1 ht hW => ⟨⟨x_1143, (σ, I, J, ri, rj, rq), rfl, ⟨rfl, (hF0.symm.trans hF)⟩, by rw [ht]; exact hP, va_K.moved hW.alike hK, hD⟩, hS.F ht⟩) hS.2.2 dX12_found_98
                · replace hF := hF.trans (if_pos c_1127)
                  have tc_1144 : (x_1105).toInt = 0 := congrArg Int32.toInt c_1127
                  have h_1145 : rg x_1105 0 0 := rg_and (rg_full _) (rg_of_eq c_1127 (rg_k (0 : Int32) 0 rfl)) (by decide +kernel)
                  have uh_1145 := h_1145.1
                  have vh_1145 := h_1145.2
                  refine lv_goto (tgt := 102) hx hb dX12_found_84 (by decide +kernel) ?_
                  exact K_1122 x_998 _ _ _ (rg_w h_1053 (by decide +kernel)) hF hFr hG hP hD hS (lv_sub hl [1, 2, 3, 4] rfl)
              refine lv_icmp_ge (tgt := 61) hx hb dX12_found_44 (by decide +kernel) (fun c_1146 => ?_) (fun c_1146 => ?_)
              · replace hF := hF.trans (if_pos c_1146)
                have tc_1151 : 20 ≤ (a0).toInt := Int32.le_iff_toInt_le.mp c_1146
                have h_1152 : rg a0 20 39 := rg_le2 c_1146 (rg_k (20 : Int32) 20 rfl) f_559 (by decide +kernel)
                have uh_1152 := h_1152.1
                have vh_1152 := h_1152.2
                refine lv_aload_n hx hb dX12_found_61 rfl (lv_at hl 1 rfl) ?_
                refine pg_f (v := .ref w_1055) (C := RX12) (T := TX12) (N := 31) hx hb hts (tw_i inlX12) hown hK hP hL_this hK_this (by decide +kernel) rfl 0 (by decide +kernel) (hts _ (tw_c tw_176)) (pq_hv rfl hR_w_1055) dX12_found_62 ?_
                refine lv_iload hx hb dX12_found_65 (lv_at hl 0 rfl) ?_
                refine lv_iconst (v := 2) hx hb dX12_found_67 (by decide +kernel) ?_
                refine lv_iadd hx hb dX12_found_68 ?_
                refine lv_topi (fun x_1153 ex_1153 => ?_)
                replace hF := hF.trans (ap_n ex_1153)
                have h_1154 : rg x_1153 2402 2518 := rg_of_eq ex_1153 (rg_add h_1070 (rg_k (2 : Int32) 2 rfl) (by decide +kernel))
                have uh_1154 := h_1154.1
                have vh_1154 := h_1154.2
                have tx_1153 : (x_1153).toInt = (x_1069).toInt + 2 := by rw [ex_1153]; exact i_add_rg (a2 := (x_1069).toInt) (b2 := 2) rfl rfl h_1070 (rg_k (2 : Int32) 2 rfl) (by decide +kernel)
                refine pl_i hx hb hK hP hL_w_1055 hK_w_1055 hN_w_1055 (rg_in h_1154 (by decide +kernel)) dX12_found_69 ?_
                refine lv_topi (fun x_1155 ex_1155 => ?_)
                replace hF := hF.trans (ap_n (vR_r hO_w_1055 (by decide +kernel) ex_1155))
                refine lv_iload_n hx hb dX12_found_70 rfl (lv_at hl 2 rfl) ?_
                refine lv_bipush (v := 20) hx hb dX12_found_71 (by decide +kernel) ?_
                refine lv_isub hx hb dX12_found_73 ?_
                refine lv_topi (fun x_1156 ex_1156 => ?_)
                replace hF := hF.trans (ap_n ex_1156)
                have h_1157 : rg x_1156 0 19 := rg_of_eq ex_1156 (rg_sub h_1152 (rg_k (20 : Int32) 20 rfl) (by decide +kernel))
                have uh_1157 := h_1157.1
                have vh_1157 := h_1157.2
                have tx_1156 : (x_1156).toInt = (a0).toInt - 20 := by rw [ex_1156]; exact i_sub_rg (a2 := (a0).toInt) (b2 := 20) rfl rfl h_1152 (rg_k (20 : Int32) 20 rfl) (by decide +kernel)
                refine lv_ishr hx hb dX12_found_74 ?_
                refine lv_topi (fun x_1158 ex_1158 => ?_)
                replace hF := hF.trans (ap_n ex_1158)
                exact K_1104 x_1158 _ _ _ hF hFr hG hP hD hS (lv_sub hl [1, 2, 3, 4, 0] rfl)
              · replace hF := hF.trans (if_neg c_1146)
                have tc_1159 : (a0).toInt < 20 := Int32.lt_iff_toInt_lt.mp (nle c_1146)
                have h_1160 : rg a0 0 19 := rg_lt1 (nle c_1146) f_559 (rg_k (20 : Int32) 20 rfl) (by decide +kernel)
                have uh_1160 := h_1160.1
                have vh_1160 := h_1160.2
                refine lv_aload_n hx hb dX12_found_47 rfl (lv_at hl 1 rfl) ?_
                refine pg_f (v := .ref w_1055) (C := RX12) (T := TX12) (N := 31) hx hb hts (tw_i inlX12) hown hK hP hL_this hK_this (by decide +kernel) rfl 0 (by decide +kernel) (hts _ (tw_c tw_176)) (pq_hv rfl hR_w_1055) dX12_found_48 ?_
                refine lv_iload hx hb dX12_found_51 (lv_at hl 0 rfl) ?_
                refine lv_iconst (v := 1) hx hb dX12_found_53 (by decide +kernel) ?_
                refine lv_iadd hx hb dX12_found_54 ?_
                refine lv_topi (fun x_1161 ex_1161 => ?_)
                replace hF := hF.trans (ap_n ex_1161)
                have h_1162 : rg x_1161 2401 2517 := rg_of_eq ex_1161 (rg_add h_1070 (rg_k (1 : Int32) 1 rfl) (by decide +kernel))
                have uh_1162 := h_1162.1
                have vh_1162 := h_1162.2
                have tx_1161 : (x_1161).toInt = (x_1069).toInt + 1 := by rw [ex_1161]; exact i_add_rg (a2 := (x_1069).toInt) (b2 := 1) rfl rfl h_1070 (rg_k (1 : Int32) 1 rfl) (by decide +kernel)
                refine pl_i hx hb hK hP hL_w_1055 hK_w_1055 hN_w_1055 (rg_in h_1162 (by decide +kernel)) dX12_found_55 ?_
                refine lv_topi (fun x_1163 ex_1163 => ?_)
                replace hF := hF.trans (ap_n (vR_r hO_w_1055 (by decide +kernel) ex_1163))
                refine lv_iload_n hx hb dX12_found_56 rfl (lv_at hl 2 rfl) ?_
                refine lv_ishr hx hb dX12_found_57 ?_
                refine lv_topi (fun x_1164 ex_1164 => ?_)
                replace hF := hF.trans (ap_n ex_1164)
                refine lv_goto (tgt := 75) hx hb dX12_found_58 (by decide +kernel) ?_
                exact K_1104 x_1164 _ _ _ hF hFr hG hP hD hS (lv_sub hl [1, 2, 3, 4, 0] rfl)
        exact L_1049 _ a1 (0 : Int32) _ _ _ (rg_w h_568 (by decide +kernel)) (rg_w (rg_k (0 : Int32) 0 rfl) (by decide +kernel)) (Nat.lt_succ_self _) hF hFr hG hP hD hS (lv_sub hl [2, 3, 1, 0] rfl)
      · replace hF := hF.trans (if_neg c_562)
        have tc_1165 : (a1).toInt < 0 := Int32.lt_iff_toInt_lt.mp (nle c_562)
        have h_1166 : rg a1 (-2147483648) (-1) := rg_lt1 (nle c_562) (rg_full _) (rg_k (0 : Int32) 0 rfl) (by decide +kernel)
        have uh_1166 := h_1166.1
        have vh_1166 := h_1166.2
        exact K_548 _ _ _ hF hFr hG hP hD hS (lv_sub hl [] rfl)
  exact go _ _ _ hP hD hS hl

set_option maxRecDepth 100000 in
def g_X12_image (I : Nat → Int32) (J : Nat → Int64) (ri : Nat → Nat → Int32) (rj : Nat → Nat → Int64) (rq : Nat → Nat → Option Nat) : Int32 × vM := (ap1 (va_up ri 385 (va_cpy (ri 384) (ri 385) 0 0 12720)) fun (ri_5 : Nat → Nat → Int32) => (ap1 (ri 384 0) fun (y_16 : Int32) => ((y_16), I, J, ri_5, rj, rq)))
set_option maxRecDepth 100000 in
theorem g_X12_image_e {I : Nat → Int32} {J : Nat → Int64} {ri : Nat → Nat → Int32} {rj : Nat → Nat → Int64} {rq : Nat → Nat → Option Nat} : g_X12_image I J ri rj rq = (ap1 (va_up ri 385 (va_cpy (ri 384) (ri 385) 0 0 12720)) fun (ri_5 : Nat → Nat → Int32) => (ap1 (ri 384 0) fun (y_16 : Int32) => ((y_16), I, J, ri_5, rj, rq))) := rfl
set_option maxHeartbeats 4000000 in
set_option maxRecDepth 100000 in
theorem s_X12_image (l : Launch) (D : va_G) (t : pq_T) (σ : pq_S) (I : Nat → Nat → Int32) (J : Nat → Nat → Int64) (ri : Nat → Nat → Int32) (rj : Nat → Nat → Int64) (rq : Nat → Nat → Option Nat) (sz : Nat) (tg : Nat → Nat) (hSH : SH σ tg) (hG0 : GT tg I ri) (this : Nat) (hL_this : this ∈ σ.1) (hK_this : σ.2.1 this = 12) : MetI l yX12_image (wa yX12_image cX12_image 1 (some .int)) ({ frames := 1, cells := 0, slots := 0, locals := 22 }) [.ref this] D t σ (I, J, ri, rj, rq) sz 0 0 (fun (r : Int32) (u : pq_S × pq_M) => ∃ ri' : Nat → Nat → Int32, u = (σ, I, J, ri', rj, rq) ∧ GM [2000] tg σ I ri I ri' rq ∧ g_X12_image (vI 12 σ this I) (vJ 12 σ this J) (vR 12 σ this ri) (vL 12 σ this rj) (vQ 12 σ this rq) = (r, (vI 12 σ this I), (vJ 12 σ this J), (vR 12 σ this ri'), (vL 12 σ this rj), (vQ 12 σ this rq)) ∧ FR 12 tg σ this (I, J, ri, rj, rq) (I, J, ri', rj, rq) ∧ rg r 0 600) := by
  refine Met.ofW (cc := cX12_image) (maxL := 1) (ret := (some .int)) (by decide +kernel) rfl ?_
  intro p e s m args below meth c s₁ B hml hv
  obtain ⟨rfl, hsz, hP, hK, hD0, hN⟩ := hv
  have hx := B.exec
  have hb := B.bytes
  have hr := B.returns
  have hts := atoms_spec (ws := (wa yX12_image cX12_image 1 (some .int))) B.pre
  have hown : s.vm.findClass RX12 = some m.cls := findClass_of_methodNamed B.named
  have hlocks := B.notSynchronized
  subst hsz
  have hD : va_D (pq_B t σ (I, J, ri, rj, rq) s.heap.size) (pq_P t σ (I, J, ri, rj, rq)) := hD0.self
  generalize hAe : pq_B t σ (I, J, ri, rj, rq) s.heap.size = A at hD ⊢
  have hA : ∀ q : Nat, s.heap.size ≤ q → A q := fun q h => by rw [← hAe]; exact Or.inr h
  have hS : va_S A s.heap s.heap [] := va_S.rf
  have hG : GM [2000] tg σ I ri I ri rq := ⟨hG0, fun _ _ _ => rfl, fun _ _ _ _ _ => rfl, fun _ _ _ _ _ _ => rfl⟩
  have hl := lv_entry ([.ref this]) (n := 1) (Nat.le_of_ble_eq_true rfl)
  rw [lg_entry_eq]
  generalize (lg_sl ([.ref this]) ++ List.replicate (1 - (lg_sl ([.ref this])).length) Slot.unset).toArray = ls at hl ⊢
  have hl : lv_has ls 1 [(0, .ref this)] := hl
  refine q_gen (fun Q hQ => ?_)
  have go : ∀ (H : Heap) (locs : List Loc) (ls : Array Slot), va_P D vwCl (pq_P t σ (I, J, ri, rj, rq)) H → va_D A (pq_P t σ (I, J, ri, rj, rq)) → va_S A s.heap H locs → lv_has ls 1 [(0, .ref this)] → W p l e ({ frames := 1, cells := 0, slots := 0, locals := 22 } : Room) s m (List.toArray ([.ref this] : List Value)) below meth c H locs 0 0 Q (F0 m 0 ls []) := by
    intro H locs ls hP hD hS hl
    have hO_this : this = vo σ 12 this := rfl
    have hVT : VT 12 σ tg this := vt_12 hSH hL_this hK_this
    have hFr : FR 12 tg σ this (I, J, ri, rj, rq) (I, J, ri, rj, rq) := fr_rf
    obtain ⟨F, hF0⟩ : ∃ F, F = g_X12_image (vI 12 σ this I) (vJ 12 σ this J) (vR 12 σ this ri) (vL 12 σ this rj) (vQ 12 σ this rq) := ⟨_, rfl⟩
    have hF := hF0.trans g_X12_image_e
    refine lv_aload_n hx hb dX12_image_0 rfl (lv_at hl 0 rfl) ?_
    obtain ⟨w_1, hR_w_1, hL_w_1, hK_w_1, hN_w_1, hT_w_1⟩ := sh_a hSH 384 (ci := 12) (kd := 13) (len := 12720) rfl (by decide +kernel) hL_this hK_this
    have hO_w_1 : w_1 = vrow σ 384 this := vo_k (c := 12) hO_this hR_w_1
    refine pg_f (v := .ref w_1) (C := RX12) (T := TX12) (N := 31) hx hb hts (tw_i inlX12) hown hK hP hL_this hK_this (by decide +kernel) rfl 0 (by decide +kernel) (hts _ (tw_c tw_176)) (pq_hv rfl hR_w_1) dX12_image_1 ?_
    refine lv_aload_n hx hb dX12_image_4 rfl (lv_at hl 0 rfl) ?_
    obtain ⟨w_2, hR_w_2, hL_w_2, hK_w_2, hN_w_2, hT_w_2⟩ := sh_a hSH 385 (ci := 12) (kd := 13) (len := 12720) rfl (by decide +kernel) hL_this hK_this
    have hO_w_2 : w_2 = vrow σ 385 this := vo_k (c := 12) hO_this hR_w_2
    refine pg_f (v := .ref w_2) (C := RX12) (T := TX12) (N := 31) hx hb hts (tw_i inlX12) hown hK hP hL_this hK_this (by decide +kernel) rfl 1 (by decide +kernel) (hts _ (tw_c tw_177)) (pq_hv rfl hR_w_2) dX12_image_5 ?_
    refine pk_v (va_runS (As := [.ref w_1, .ref w_2]) (rest := []) ⟨hx, hb, hml, hown, hts⟩ (c_X12_copy l D t σ I J ri rj rq H.size w_1 w_2 12720 hL_w_1 hK_w_1 hN_w_1 hL_w_2 hK_w_2 hN_w_2 rfl (tg_ne hT_w_1 hT_w_2 (by decide +kernel))) (va_cwS 2 hts (tw_S tw_192 tw_193 tw_5 tw_194) rfl rfl rfl cd_yX12_copy_2 ⟨Nat.le_of_ble_eq_true rfl, Nat.le_of_ble_eq_true rfl⟩) ⟨pq_blind, pq_pre hK hN hP hD⟩ rfl rfl hl.1 rfl (lv_room (Nat.le_of_ble_eq_true rfl)) dX12_image_8 ⟨Nat.le_of_ble_eq_true rfl, Nat.le_of_ble_eq_true rfl⟩) hD hS hA (fun σ1 μ1 H locs hw_4 hP hD hS => ?_)
    obtain ⟨ri_5, hu_6, hp_9, hp_10, hp_11⟩ := hw_4
    obtain ⟨hu_6a, hu_6b⟩ := Prod.mk.inj hu_6
    rw [hu_6a, hu_6b] at hP hD
    replace hF := hF.trans (ap_n (vR_cp hVT hO_w_2 (by decide +kernel) (funext fun _ => (vR_r hO_w_1 (by decide +kernel) rfl)) hp_11))
    replace hFr := fr_R hFr hO_w_2 (by decide +kernel) hp_11
    have tt_14 : (ri_5 w_2 0).toInt = (ri w_1 0).toInt := congrArg Int32.toInt (hp_9 0 (by decide +kernel))
    have hG := GM.cp hG hT_w_1 hT_w_2 (by decide +kernel) hp_9 hp_10 (by decide +kernel)
    refine lv_aload_n hx hb dX12_image_11 rfl (lv_at hl 0 rfl) ?_
    refine pg_f (v := .ref w_1) (C := RX12) (T := TX12) (N := 31) hx hb hts (tw_i inlX12) hown hK hP hL_this hK_this (by decide +kernel) rfl 0 (by decide +kernel) (hts _ (tw_c tw_176)) (pq_hv rfl hR_w_1) dX12_image_12 ?_
    refine lv_iconst (v := 0) hx hb dX12_image_15 (by decide +kernel) ?_
    refine pl_i hx hb hK hP hL_w_1 hK_w_1 hN_w_1 (vp_in_iff.mpr (by decide +kernel)) dX12_image_16 ?_
    refine lv_tov (ri w_1 0) (hG.2.2.1 w_1 hT_w_1 0 (by decide +kernel) (by decide +kernel)) ?_
    have h_15 : rg (ri w_1 0) 0 600 := GM.z0 hG0 (by rw [hT_w_1]; decide) (i := 0) (k := 0) (by decide +kernel) rfl
    have uh_15 := h_15.1
    have vh_15 := h_15.2
    replace hF := hF.trans (ap_n (vR_r hO_w_1 (by decide +kernel) rfl))
    subst hQ
    exact W.iret (v := (ri w_1 0)) hx hb hr (fun t1 ht hW => ⟨⟨(ri w_1 0), (σ, I, J, ri_5, rj, rq), rfl, ⟨ri_5, rfl, hG, (hF0.symm.trans hF), hFr, (rg_w h_15 (by decide +kernel))⟩, by rw [ht]; exact hP, va_K.moved hW.alike hK, hD⟩, hS.F ht⟩) hS.2.2 dX12_image_17
  exact go _ _ _ hP hD hS hl

set_option maxRecDepth 100000 in
def g_X12_back (I : Nat → Int32) (J : Nat → Int64) (ri : Nat → Nat → Int32) (rj : Nat → Nat → Int64) (rq : Nat → Nat → Option Nat) : Int32 × vM := (ap1 (va_up ri 384 (va_cpy (ri 385) (ri 384) 0 0 12720)) fun (ri_5 : Nat → Nat → Int32) => (ap1 (ri_5 384 ((0 : Int32)).toNatClampNeg) fun (x_15 : Int32) => (x_15, I, J, ri_5, rj, rq)))
set_option maxRecDepth 100000 in
theorem g_X12_back_e {I : Nat → Int32} {J : Nat → Int64} {ri : Nat → Nat → Int32} {rj : Nat → Nat → Int64} {rq : Nat → Nat → Option Nat} : g_X12_back I J ri rj rq = (ap1 (va_up ri 384 (va_cpy (ri 385) (ri 384) 0 0 12720)) fun (ri_5 : Nat → Nat → Int32) => (ap1 (ri_5 384 ((0 : Int32)).toNatClampNeg) fun (x_15 : Int32) => (x_15, I, J, ri_5, rj, rq))) := rfl
set_option maxHeartbeats 4000000 in
set_option maxRecDepth 100000 in
theorem s_X12_back (l : Launch) (D : va_G) (t : pq_T) (σ : pq_S) (I : Nat → Nat → Int32) (J : Nat → Nat → Int64) (ri : Nat → Nat → Int32) (rj : Nat → Nat → Int64) (rq : Nat → Nat → Option Nat) (sz : Nat) (tg : Nat → Nat) (hSH : SH σ tg) (hG0 : GT tg I ri) (this : Nat) (hL_this : this ∈ σ.1) (hK_this : σ.2.1 this = 12) : MetI l yX12_back (wa yX12_back cX12_back 1 (some .int)) ({ frames := 1, cells := 0, slots := 0, locals := 22 }) [.ref this] D t σ (I, J, ri, rj, rq) sz 0 0 (fun (r : Int32) (u : pq_S × pq_M) => ∃ ri' : Nat → Nat → Int32, u = (σ, I, J, ri', rj, rq) ∧ GM [1000, 1001, 1002, 1003, 1004, 1005, 1006, 1007, 1010, 1013, 1014, 1015, 1500, 1501, 1502, 1503, 1504, 1100, 1101, 1102, 1103, 1104, 1300, 1301, 1304, 1305, 1306, 1308, 1403, 1700, 1701, 1702] tg σ I ri I ri' rq ∧ g_X12_back (vI 12 σ this I) (vJ 12 σ this J) (vR 12 σ this ri) (vL 12 σ this rj) (vQ 12 σ this rq) = (r, (vI 12 σ this I), (vJ 12 σ this J), (vR 12 σ this ri'), (vL 12 σ this rj), (vQ 12 σ this rq)) ∧ FR 12 tg σ this (I, J, ri, rj, rq) (I, J, ri', rj, rq) ∧ rg r 0 600) := by
  refine Met.ofW (cc := cX12_back) (maxL := 1) (ret := (some .int)) (by decide +kernel) rfl ?_
  intro p e s m args below meth c s₁ B hml hv
  obtain ⟨rfl, hsz, hP, hK, hD0, hN⟩ := hv
  have hx := B.exec
  have hb := B.bytes
  have hr := B.returns
  have hts := atoms_spec (ws := (wa yX12_back cX12_back 1 (some .int))) B.pre
  have hown : s.vm.findClass RX12 = some m.cls := findClass_of_methodNamed B.named
  have hlocks := B.notSynchronized
  subst hsz
  have hD : va_D (pq_B t σ (I, J, ri, rj, rq) s.heap.size) (pq_P t σ (I, J, ri, rj, rq)) := hD0.self
  generalize hAe : pq_B t σ (I, J, ri, rj, rq) s.heap.size = A at hD ⊢
  have hA : ∀ q : Nat, s.heap.size ≤ q → A q := fun q h => by rw [← hAe]; exact Or.inr h
  have hS : va_S A s.heap s.heap [] := va_S.rf
  have hG : GM [1000, 1001, 1002, 1003, 1004, 1005, 1006, 1007, 1010, 1013, 1014, 1015, 1500, 1501, 1502, 1503, 1504, 1100, 1101, 1102, 1103, 1104, 1300, 1301, 1304, 1305, 1306, 1308, 1403, 1700, 1701, 1702] tg σ I ri I ri rq := ⟨hG0, fun _ _ _ => rfl, fun _ _ _ _ _ => rfl, fun _ _ _ _ _ _ => rfl⟩
  have hl := lv_entry ([.ref this]) (n := 1) (Nat.le_of_ble_eq_true rfl)
  rw [lg_entry_eq]
  generalize (lg_sl ([.ref this]) ++ List.replicate (1 - (lg_sl ([.ref this])).length) Slot.unset).toArray = ls at hl ⊢
  have hl : lv_has ls 1 [(0, .ref this)] := hl
  refine q_gen (fun Q hQ => ?_)
  have go : ∀ (H : Heap) (locs : List Loc) (ls : Array Slot), va_P D vwCl (pq_P t σ (I, J, ri, rj, rq)) H → va_D A (pq_P t σ (I, J, ri, rj, rq)) → va_S A s.heap H locs → lv_has ls 1 [(0, .ref this)] → W p l e ({ frames := 1, cells := 0, slots := 0, locals := 22 } : Room) s m (List.toArray ([.ref this] : List Value)) below meth c H locs 0 0 Q (F0 m 0 ls []) := by
    intro H locs ls hP hD hS hl
    have hO_this : this = vo σ 12 this := rfl
    have hVT : VT 12 σ tg this := vt_12 hSH hL_this hK_this
    have hFr : FR 12 tg σ this (I, J, ri, rj, rq) (I, J, ri, rj, rq) := fr_rf
    obtain ⟨F, hF0⟩ : ∃ F, F = g_X12_back (vI 12 σ this I) (vJ 12 σ this J) (vR 12 σ this ri) (vL 12 σ this rj) (vQ 12 σ this rq) := ⟨_, rfl⟩
    have hF := hF0.trans g_X12_back_e
    refine lv_aload_n hx hb dX12_back_0 rfl (lv_at hl 0 rfl) ?_
    obtain ⟨w_1, hR_w_1, hL_w_1, hK_w_1, hN_w_1, hT_w_1⟩ := sh_a hSH 385 (ci := 12) (kd := 13) (len := 12720) rfl (by decide +kernel) hL_this hK_this
    have hO_w_1 : w_1 = vrow σ 385 this := vo_k (c := 12) hO_this hR_w_1
    refine pg_f (v := .ref w_1) (C := RX12) (T := TX12) (N := 31) hx hb hts (tw_i inlX12) hown hK hP hL_this hK_this (by decide +kernel) rfl 1 (by decide +kernel) (hts _ (tw_c tw_177)) (pq_hv rfl hR_w_1) dX12_back_1 ?_
    refine lv_aload_n hx hb dX12_back_4 rfl (lv_at hl 0 rfl) ?_
    obtain ⟨w_2, hR_w_2, hL_w_2, hK_w_2, hN_w_2, hT_w_2⟩ := sh_a hSH 384 (ci := 12) (kd := 13) (len := 12720) rfl (by decide +kernel) hL_this hK_this
    have hO_w_2 : w_2 = vrow σ 384 this := vo_k (c := 12) hO_this hR_w_2
    refine pg_f (v := .ref w_2) (C := RX12) (T := TX12) (N := 31) hx hb hts (tw_i inlX12) hown hK hP hL_this hK_this (by decide +kernel) rfl 0 (by decide +kernel) (hts _ (tw_c tw_176)) (pq_hv rfl hR_w_2) dX12_back_5 ?_
    refine pk_v (va_runS (As := [.ref w_1, .ref w_2]) (rest := []) ⟨hx, hb, hml, hown, hts⟩ (c_X12_copy l D t σ I J ri rj rq H.size w_1 w_2 12720 hL_w_1 hK_w_1 hN_w_1 hL_w_2 hK_w_2 hN_w_2 rfl (tg_ne hT_w_1 hT_w_2 (by decide +kernel))) (va_cwS 2 hts (tw_S tw_192 tw_193 tw_5 tw_194) rfl rfl rfl cd_yX12_copy_2 ⟨Nat.le_of_ble_eq_true rfl, Nat.le_of_ble_eq_true rfl⟩) ⟨pq_blind, pq_pre hK hN hP hD⟩ rfl rfl hl.1 rfl (lv_room (Nat.le_of_ble_eq_true rfl)) dX12_back_8 ⟨Nat.le_of_ble_eq_true rfl, Nat.le_of_ble_eq_true rfl⟩) hD hS hA (fun σ1 μ1 H locs hw_4 hP hD hS => ?_)
    obtain ⟨ri_5, hu_6, hp_9, hp_10, hp_11⟩ := hw_4
    obtain ⟨hu_6a, hu_6b⟩ := Prod.mk.inj hu_6
    rw [hu_6a, hu_6b] at hP hD
    replace hF := hF.trans (ap_n (vR_cp hVT hO_w_2 (by decide +kernel) (funext fun _ => (vR_r hO_w_1 (by decide +kernel) rfl)) hp_11))
    replace hFr := fr_R hFr hO_w_2 (by decide +kernel) hp_11
    have tt_14 : (ri_5 w_2 0).toInt = (ri w_1 0).toInt := congrArg Int32.toInt (hp_9 0 (by decide +kernel))
    have hG := GM.cp hG hT_w_1 hT_w_2 (by decide +kernel) hp_9 hp_10 (by decide +kernel)
    refine lv_aload_n hx hb dX12_back_11 rfl (lv_at hl 0 rfl) ?_
    refine pg_f (v := .ref w_2) (C := RX12) (T := TX12) (N := 31) hx hb hts (tw_i inlX12) hown hK hP hL_this hK_this (by decide +kernel) rfl 0 (by decide +kernel) (hts _ (tw_c tw_176)) (pq_hv rfl hR_w_2) dX12_back_12 ?_
    refine lv_iconst (v := 0) hx hb dX12_back_15 (by decide +kernel) ?_
    refine pl_i hx hb hK hP hL_w_2 hK_w_2 hN_w_2 (vp_in_iff.mpr (by decide +kernel)) dX12_back_16 ?_
    refine lv_topi (fun x_15 ex_15 => ?_)
    replace hF := hF.trans (ap_n (vR_r hO_w_2 (by decide +kernel) ex_15))
    have h_16 : rg x_15 0 600 := rg_of_eq ex_15 (GM.z hG (by rw [hT_w_2]; decide) (show zn ((0 : Int32)).toNatClampNeg = 0 from by decide +kernel) rfl)
    have uh_16 := h_16.1
    have vh_16 := h_16.2
    subst hQ
    exact W.iret (v := x_15) hx hb hr (fun t1 ht hW => ⟨⟨x_15, (σ, I, J, ri_5, rj, rq), rfl, ⟨ri_5, rfl, hG, (hF0.symm.trans hF), hFr, (rg_w h_16 (by decide +kernel))⟩, by rw [ht]; exact hP, va_K.moved hW.alike hK, hD⟩, hS.F ht⟩) hS.2.2 dX12_back_17
  exact go _ _ _ hP hD hS hl

set_option maxRecDepth 100000 in
def g_X12_about_L39 (I : Nat → Int32) (J : Nat → Int64) (ri : Nat → Nat → Int32) (rj : Nat → Nat → Int64) (rq : Nat → Nat → Option Nat) : Nat → (Int32) → (Int32) → Int32 × vM
  | 0, x_265, x_266 => ((0 : Int32), I, J, ri, rj, rq)
  | n_287 + 1, x_265, x_266 => (ap1 (ri 384 2) fun (y_294 : Int32) => (if (y_294) ≤ x_266 then (x_265, I, J, ri, rj, rq) else (bnI (g_X12_cellAt_c4 x_266 I J ri rj rq) fun (x_304 : Int32) (_ : Nat → Int32) (_ : Nat → Int64) (_ : Nat → Nat → Int32) (_ : Nat → Nat → Int64) (_ : Nat → Nat → Option Nat) => (ap1 (x_265 + x_304) fun (x_311 : Int32) => (ap1 (x_266 + Int32.ofInt 1) fun (x_312 : Int32) => ((g_X12_about_L39 I J ri rj rq n_287) x_311 x_312))))))
set_option maxRecDepth 100000 in
theorem g_X12_about_L39_e {I : Nat → Int32} {J : Nat → Int64} {ri : Nat → Nat → Int32} {rj : Nat → Nat → Int64} {rq : Nat → Nat → Option Nat} {n_287 : Nat} {x_265 : Int32} {x_266 : Int32} : g_X12_about_L39 I J ri rj rq (n_287 + 1) x_265 x_266 = (ap1 (ri 384 2) fun (y_294 : Int32) => (if (y_294) ≤ x_266 then (x_265, I, J, ri, rj, rq) else (bnI (g_X12_cellAt_c4 x_266 I J ri rj rq) fun (x_304 : Int32) (_ : Nat → Int32) (_ : Nat → Int64) (_ : Nat → Nat → Int32) (_ : Nat → Nat → Int64) (_ : Nat → Nat → Option Nat) => (ap1 (x_265 + x_304) fun (x_311 : Int32) => (ap1 (x_266 + Int32.ofInt 1) fun (x_312 : Int32) => ((g_X12_about_L39 I J ri rj rq n_287) x_311 x_312)))))) := rfl
set_option maxRecDepth 100000 in
def g_X12_about_L68 (I : Nat → Int32) (J : Nat → Int64) (ri : Nat → Nat → Int32) (rj : Nat → Nat → Int64) (rq : Nat → Nat → Option Nat) : Nat → (Int32) → (Int32) → Int32 × vM
  | 0, x_583, x_584 => ((0 : Int32), I, J, ri, rj, rq)
  | n_606 + 1, x_583, x_584 => (ap1 (ri 384 5) fun (y_613 : Int32) => (if (y_613) ≤ x_584 then (x_583, I, J, ri, rj, rq) else (bnI (g_X12_personAt_c5 x_584 I J ri rj rq) fun (x_623 : Int32) (_ : Nat → Int32) (_ : Nat → Int64) (_ : Nat → Nat → Int32) (_ : Nat → Nat → Int64) (_ : Nat → Nat → Option Nat) => (ap1 (x_583 + x_623) fun (x_631 : Int32) => (ap1 (x_584 + Int32.ofInt 1) fun (x_632 : Int32) => ((g_X12_about_L68 I J ri rj rq n_606) x_631 x_632))))))
set_option maxRecDepth 100000 in
theorem g_X12_about_L68_e {I : Nat → Int32} {J : Nat → Int64} {ri : Nat → Nat → Int32} {rj : Nat → Nat → Int64} {rq : Nat → Nat → Option Nat} {n_606 : Nat} {x_583 : Int32} {x_584 : Int32} : g_X12_about_L68 I J ri rj rq (n_606 + 1) x_583 x_584 = (ap1 (ri 384 5) fun (y_613 : Int32) => (if (y_613) ≤ x_584 then (x_583, I, J, ri, rj, rq) else (bnI (g_X12_personAt_c5 x_584 I J ri rj rq) fun (x_623 : Int32) (_ : Nat → Int32) (_ : Nat → Int64) (_ : Nat → Nat → Int32) (_ : Nat → Nat → Int64) (_ : Nat → Nat → Option Nat) => (ap1 (x_583 + x_623) fun (x_631 : Int32) => (ap1 (x_584 + Int32.ofInt 1) fun (x_632 : Int32) => ((g_X12_about_L68 I J ri rj rq n_606) x_631 x_632)))))) := rfl
set_option maxRecDepth 100000 in
def g_X12_about_L97 (I : Nat → Int32) (J : Nat → Int64) (ri : Nat → Nat → Int32) (rj : Nat → Nat → Int64) (rq : Nat → Nat → Option Nat) : Nat → (Int32) → (Int32) → Int32 × vM
  | 0, x_903, x_904 => ((0 : Int32), I, J, ri, rj, rq)
  | n_926 + 1, x_903, x_904 => (ap1 (ri 384 5) fun (y_933 : Int32) => (if (y_933) ≤ x_904 then (x_903, I, J, ri, rj, rq) else (bnI (g_X12_personAt_c6 x_904 I J ri rj rq) fun (x_943 : Int32) (_ : Nat → Int32) (_ : Nat → Int64) (_ : Nat → Nat → Int32) (_ : Nat → Nat → Int64) (_ : Nat → Nat → Option Nat) => (ap1 (x_903 + x_943) fun (x_951 : Int32) => (ap1 (x_904 + Int32.ofInt 1) fun (x_952 : Int32) => ((g_X12_about_L97 I J ri rj rq n_926) x_951 x_952))))))
set_option maxRecDepth 100000 in
theorem g_X12_about_L97_e {I : Nat → Int32} {J : Nat → Int64} {ri : Nat → Nat → Int32} {rj : Nat → Nat → Int64} {rq : Nat → Nat → Option Nat} {n_926 : Nat} {x_903 : Int32} {x_904 : Int32} : g_X12_about_L97 I J ri rj rq (n_926 + 1) x_903 x_904 = (ap1 (ri 384 5) fun (y_933 : Int32) => (if (y_933) ≤ x_904 then (x_903, I, J, ri, rj, rq) else (bnI (g_X12_personAt_c6 x_904 I J ri rj rq) fun (x_943 : Int32) (_ : Nat → Int32) (_ : Nat → Int64) (_ : Nat → Nat → Int32) (_ : Nat → Nat → Int64) (_ : Nat → Nat → Option Nat) => (ap1 (x_903 + x_943) fun (x_951 : Int32) => (ap1 (x_904 + Int32.ofInt 1) fun (x_952 : Int32) => ((g_X12_about_L97 I J ri rj rq n_926) x_951 x_952)))))) := rfl
set_option maxRecDepth 100000 in
def g_X12_about (a0 : Int32) (I : Nat → Int32) (J : Nat → Int64) (ri : Nat → Nat → Int32) (rj : Nat → Nat → Int64) (rq : Nat → Nat → Option Nat) : Int32 × vM := (if a0 = (13 : Int32) then (ap1 (I 388) fun (y_7 : Int32) => ((y_7), I, J, ri, rj, rq)) else (if a0 = (14 : Int32) then (g_X12_about_L39 I J ri rj rq ((40 - ((0 : Int32)).toInt).toNat + 1) (0 : Int32) (0 : Int32)) else (if a0 = (15 : Int32) then (g_X12_about_L68 I J ri rj rq ((40 - ((0 : Int32)).toInt).toNat + 1) (0 : Int32) (0 : Int32)) else (if a0 = (16 : Int32) then (g_X12_about_L97 I J ri rj rq ((40 - ((0 : Int32)).toInt).toNat + 1) (0 : Int32) (0 : Int32)) else (ap1 (g_X12_isIn a0 (0 : Int32) (12 : Int32)) fun (x_954 : Int32) => (if x_954 = (0 : Int32) then ((-1000000000 : Int32), I, J, ri, rj, rq) else (ap1 (ri 384 (a0).toNatClampNeg) fun (x_986 : Int32) => (x_986, I, J, ri, rj, rq))))))))
set_option maxRecDepth 100000 in
theorem g_X12_about_e {a0 : Int32} {I : Nat → Int32} {J : Nat → Int64} {ri : Nat → Nat → Int32} {rj : Nat → Nat → Int64} {rq : Nat → Nat → Option Nat} : g_X12_about a0 I J ri rj rq = (if a0 = (13 : Int32) then (ap1 (I 388) fun (y_7 : Int32) => ((y_7), I, J, ri, rj, rq)) else (if a0 = (14 : Int32) then (g_X12_about_L39 I J ri rj rq ((40 - ((0 : Int32)).toInt).toNat + 1) (0 : Int32) (0 : Int32)) else (if a0 = (15 : Int32) then (g_X12_about_L68 I J ri rj rq ((40 - ((0 : Int32)).toInt).toNat + 1) (0 : Int32) (0 : Int32)) else (if a0 = (16 : Int32) then (g_X12_about_L97 I J ri rj rq ((40 - ((0 : Int32)).toInt).toNat + 1) (0 : Int32) (0 : Int32)) else (ap1 (g_X12_isIn a0 (0 : Int32) (12 : Int32)) fun (x_954 : Int32) => (if x_954 = (0 : Int32) then ((-1000000000 : Int32), I, J, ri, rj, rq) else (ap1 (ri 384 (a0).toNatClampNeg) fun (x_986 : Int32) => (x_986, I, J, ri, rj, rq)))))))) := rfl
set_option maxHeartbeats 4000000 in
set_option maxRecDepth 100000 in
theorem s_X12_about (l : Launch) (D : va_G) (t : pq_T) (σ : pq_S) (I : Nat → Nat → Int32) (J : Nat → Nat → Int64) (ri : Nat → Nat → Int32) (rj : Nat → Nat → Int64) (rq : Nat → Nat → Option Nat) (sz : Nat) (tg : Nat → Nat) (hSH : SH σ tg) (hG0 : GT tg I ri) (this : Nat) (a0 : Int32) (hL_this : this ∈ σ.1) (hK_this : σ.2.1 this = 12) : MetI l yX12_about (wa yX12_about cX12_about 4 (some .int)) ({ frames := 1, cells := 0, slots := 0, locals := 22 }) [.ref this, .int a0] D t σ (I, J, ri, rj, rq) sz 0 0 (fun (r : Int32) (u : pq_S × pq_M) => u = (σ, I, J, ri, rj, rq) ∧ g_X12_about a0 (vI 12 σ this I) (vJ 12 σ this J) (vR 12 σ this ri) (vL 12 σ this rj) (vQ 12 σ this rq) = (r, (vI 12 σ this I), (vJ 12 σ this J), (vR 12 σ this ri), (vL 12 σ this rj), (vQ 12 σ this rq))) := by
  refine Met.ofW (cc := cX12_about) (maxL := 4) (ret := (some .int)) (by decide +kernel) rfl ?_
  intro p e s m args below meth c s₁ B hml hv
  obtain ⟨rfl, hsz, hP, hK, hD0, hN⟩ := hv
  have hx := B.exec
  have hb := B.bytes
  have hr := B.returns
  have hts := atoms_spec (ws := (wa yX12_about cX12_about 4 (some .int))) B.pre
  have hown : s.vm.findClass RX12 = some m.cls := findClass_of_methodNamed B.named
  have hlocks := B.notSynchronized
  subst hsz
  have hD : va_D (pq_B t σ (I, J, ri, rj, rq) s.heap.size) (pq_P t σ (I, J, ri, rj, rq)) := hD0.self
  generalize hAe : pq_B t σ (I, J, ri, rj, rq) s.heap.size = A at hD ⊢
  have hA : ∀ q : Nat, s.heap.size ≤ q → A q := fun q h => by rw [← hAe]; exact Or.inr h
  have hS : va_S A s.heap s.heap [] := va_S.rf
  have hG : GM [] tg σ I ri I ri rq := ⟨hG0, fun _ _ _ => rfl, fun _ _ _ _ _ => rfl, fun _ _ _ _ _ _ => rfl⟩
  have hl := lv_entry ([.ref this, .int a0]) (n := 4) (Nat.le_of_ble_eq_true rfl)
  rw [lg_entry_eq]
  generalize (lg_sl ([.ref this, .int a0]) ++ List.replicate (4 - (lg_sl ([.ref this, .int a0])).length) Slot.unset).toArray = ls at hl ⊢
  have hl : lv_has ls 4 [(0, .ref this), (1, .int a0)] := hl
  refine q_gen (fun Q hQ => ?_)
  have go : ∀ (H : Heap) (locs : List Loc) (ls : Array Slot), va_P D vwCl (pq_P t σ (I, J, ri, rj, rq)) H → va_D A (pq_P t σ (I, J, ri, rj, rq)) → va_S A s.heap H locs → lv_has ls 4 [(0, .ref this), (1, .int a0)] → W p l e ({ frames := 1, cells := 0, slots := 0, locals := 22 } : Room) s m (List.toArray ([.ref this, .int a0] : List Value)) below meth c H locs 0 0 Q (F0 m 0 ls []) := by
    intro H locs ls hP hD hS hl
    have hO_this : this = vo σ 12 this := rfl
    have hVT : VT 12 σ tg this := vt_12 hSH hL_this hK_this
    have hFr : FR 12 tg σ this (I, J, ri, rj, rq) (I, J, ri, rj, rq) := fr_rf
    obtain ⟨F, hF0⟩ : ∃ F, F = g_X12_about a0 (vI 12 σ this I) (vJ 12 σ this J) (vR 12 σ this ri) (vL 12 σ this rj) (vQ 12 σ this rq) := ⟨_, rfl⟩
    have hF := hF0.trans g_X12_about_e
    refine lv_iconst (v := 0) hx hb dX12_about_0 (by decide +kernel) ?_
    refine lv_istore_n (lv' := [(2, .int 0), (0, .ref this), (1, .int a0)]) hx hb dX12_about_1 rfl hl (by decide +kernel) rfl (fun ls hl => ?_)
    refine lv_iload_n hx hb dX12_about_2 rfl (lv_at hl 2 rfl) ?_
    by_cases k_1 : a0 = (13 : Int32)
    · replace hF := hF.trans (if_pos k_1)
      have tc_4 : (a0).toInt = 13 := congrArg Int32.toInt k_1
      have h_5 : rg a0 13 13 := rg_and (rg_full _) (rg_of_eq k_1 (rg_k (13 : Int32) 13 rfl)) (by decide +kernel)
      have uh_5 := h_5.1
      have vh_5 := h_5.2
      refine lv_tov 13 k_1 ?_
      refine lv_tableIn (tgt := 32) hx hb dX12_about_3 (by decide +kernel) (by decide +kernel) rfl (by decide +kernel) ?_
      refine lv_aload_n hx hb dX12_about_32 rfl (lv_at hl 1 rfl) ?_
      refine pg_f (v := .int (I 388 this)) (C := RX12) (T := TX12) (N := 31) hx hb hts (tw_i inlX12) hown hK hP hL_this hK_this (by decide +kernel) rfl 4 (by decide +kernel) (hts _ (tw_c tw_631)) rfl dX12_about_33 ?_
      have h_6 : rg (I 388 this) 0 300 := GM.rI hG 388 rfl
      have uh_6 := h_6.1
      have vh_6 := h_6.2
      replace hF := hF.trans (ap_n (vI_e (f := 388) hO_this (by decide +kernel)))
      subst hQ
      exact W.iret (v := (I 388 this)) hx hb hr (fun t1 ht hW => ⟨⟨(I 388 this), (σ, I, J, ri, rj, rq), rfl, ⟨rfl, (hF0.symm.trans hF)⟩, by rw [ht]; exact hP, va_K.moved hW.alike hK, hD⟩, hS.F ht⟩) hS.2.2 dX12_about_36
    replace hF := hF.trans (if_neg k_1)
    by_cases k_8 : a0 = (14 : Int32)
    · replace hF := hF.trans (if_pos k_8)
      have tc_11 : (a0).toInt = 14 := congrArg Int32.toInt k_8
      have h_12 : rg a0 14 14 := rg_and (rg_full _) (rg_of_eq k_8 (rg_k (14 : Int32) 14 rfl)) (by decide +kernel)
      have uh_12 := h_12.1
      have vh_12 := h_12.2
      refine lv_tov 14 k_8 ?_
      refine lv_tableIn (tgt := 37) hx hb dX12_about_3 (by decide +kernel) (by decide +kernel) rfl (by decide +kernel) ?_
      refine lv_iconst (v := 0) hx hb dX12_about_37 (by decide +kernel) ?_
      refine lv_istore_n (lv' := [(3, .int 0), (2, .int 0), (0, .ref this), (1, .int a0)]) hx hb dX12_about_38 rfl hl (by decide +kernel) rfl (fun ls hl => ?_)
      have L_288 : ∀ (n_287 : Nat) (x_265 : Int32) (x_266 : Int32) (H : Heap) (locs : List Loc) (ls : Array Slot), rg x_266 0 40 → (40 - (x_266).toInt).toNat < n_287 → F = g_X12_about_L39 (vI 12 σ this I) (vJ 12 σ this J) (vR 12 σ this ri) (vL 12 σ this rj) (vQ 12 σ this rq) n_287 x_265 x_266 → FR 12 tg σ this (I, J, ri, rj, rq) (I, J, ri, rj, rq) → GM [] tg σ I ri I ri rq → va_P D vwCl (pq_P t σ (I, J, ri, rj, rq)) H → va_D A (pq_P t σ (I, J, ri, rj, rq)) → va_S A s.heap H locs → lv_has ls 4 [(0, .ref this), (2, .int x_265), (3, .int x_266)] → W p l e ({ frames := 1, cells := 0, slots := 0, locals := 22 } : Room) s m (List.toArray ([.ref this, .int a0] : List Value)) below meth c H locs 0 0 Q (F0 m 39 ls []) := by
        intro n_287
        induction n_287 with
        | zero => intro x_265 x_266 H locs ls h_291 hm_286 hF hFr hG hP hD hS hl; exact absurd hm_286 (Nat.not_lt_zero _)
        | succ n_287 ih_289 =>
          intro x_265 x_266 H locs ls h_291 hm_286 hF hFr hG hP hD hS hl
          have uh_291 := h_291.1
          have vh_291 := h_291.2
          replace hF := hF.trans g_X12_about_L39_e
          refine lv_iload_n hx hb dX12_about_39 rfl (lv_at hl 2 rfl) ?_
          refine lv_aload_n hx hb dX12_about_40 rfl (lv_at hl 0 rfl) ?_
          obtain ⟨w_292, hR_w_292, hL_w_292, hK_w_292, hN_w_292, hT_w_292⟩ := sh_a hSH 384 (ci := 12) (kd := 13) (len := 12720) rfl (by decide +kernel) hL_this hK_this
          have hO_w_292 : w_292 = vrow σ 384 this := vo_k (c := 12) hO_this hR_w_292
          refine pg_f (v := .ref w_292) (C := RX12) (T := TX12) (N := 31) hx hb hts (tw_i inlX12) hown hK hP hL_this hK_this (by decide +kernel) rfl 0 (by decide +kernel) (hts _ (tw_c tw_176)) (pq_hv rfl hR_w_292) dX12_about_41 ?_
          refine lv_iconst (v := 2) hx hb dX12_about_44 (by decide +kernel) ?_
          refine pl_i hx hb hK hP hL_w_292 hK_w_292 hN_w_292 (vp_in_iff.mpr (by decide +kernel)) dX12_about_45 ?_
          refine lv_tov (ri w_292 2) rfl ?_
          have h_293 : rg (ri w_292 2) 0 40 := GM.z0 hG0 (by rw [hT_w_292]; decide) (i := 2) (k := 2) (by decide +kernel) rfl
          have uh_293 := h_293.1
          have vh_293 := h_293.2
          replace hF := hF.trans (ap_n (vR_r hO_w_292 (by decide +kernel) rfl))
          refine lv_icmp_ge (tgt := 64) hx hb dX12_about_46 (by decide +kernel) (fun c_295 => ?_) (fun c_295 => ?_)
          · replace hF := hF.trans (if_pos c_295)
            have tc_300 : (ri w_292 2).toInt ≤ (x_266).toInt := Int32.le_iff_toInt_le.mp c_295
            refine lv_iload_n hx hb dX12_about_64 rfl (lv_at hl 1 rfl) ?_
            subst hQ
            exact W.iret (v := x_265) hx hb hr (fun t1 ht hW => ⟨⟨x_265, (σ, I, J, ri, rj, rq), rfl, ⟨rfl, (hF0.symm.trans hF)⟩, by rw [ht]; exact hP, va_K.moved hW.alike hK, hD⟩, hS.F ht⟩) hS.2.2 dX12_about_65
          · replace hF := hF.trans (if_neg c_295)
            have tc_301 : (x_266).toInt < (ri w_292 2).toInt := Int32.lt_iff_toInt_lt.mp (nle c_295)
            have h_302 : rg x_266 0 39 := rg_lt1 (nle c_295) h_291 h_293 (by decide +kernel)
            have uh_302 := h_302.1
            have vh_302 := h_302.2
            have h_303 : rg (ri w_292 2) 1 40 := rg_lt2 (nle c_295) h_291 h_293 (by decide +kernel)
            have uh_303 := h_303.1
            have vh_303 := h_303.2
            refine lv_iload_n hx hb dX12_about_49 rfl (lv_at hl 1 rfl) ?_
            refine lv_aload_n hx hb dX12_about_50 rfl (lv_at hl 0 rfl) ?_
            refine lv_iload_n hx hb dX12_about_51 rfl (lv_at hl 2 rfl) ?_
            refine lv_iconst (v := 4) hx hb dX12_about_52 (by decide +kernel) ?_
            refine pk_i (va_runV (As := [.int x_266, .int 4]) (rest := [.int x_265]) ⟨hx, hb, hml, hown, hts⟩ (s_X12_cellAt_c4 l D t σ I J ri rj rq H.size tg hSH hG.1 this x_266 hL_this hK_this (rg_w h_302 (by decide +kernel))) (cwV 2 hts (tw_V tw_361 tw_362 tw_363 tw_5 tw_364) rfl rfl rfl cv_yX12_cellAt_2 ⟨Nat.le_of_ble_eq_true rfl, Nat.le_of_ble_eq_true rfl⟩) ⟨pq_blind, pq_recv hK hP hL_this hK_this (by decide +kernel) rfl, pq_pre hK hN hP hD⟩ rfl rfl hl.1 rfl (lv_room (Nat.le_of_ble_eq_true rfl)) dX12_about_53 ⟨Nat.le_of_ble_eq_true rfl, Nat.le_of_ble_eq_true rfl⟩) hD hS hA (fun x_304 σ1 μ1 H locs hw_305 hP hD hS => ?_)
            obtain ⟨hu_306, hfn_309⟩ := hw_305
            obtain ⟨hu_306a, hu_306b⟩ := Prod.mk.inj hu_306
            rw [hu_306a, hu_306b] at hP hD
            replace hF := hF.trans (bn_n hfn_309)
            refine lv_iadd hx hb dX12_about_56 ?_
            refine lv_topi (fun x_311 ex_311 => ?_)
            replace hF := hF.trans (ap_n ex_311)
            refine lv_istore_n (lv' := [(2, .int x_311), (0, .ref this), (3, .int x_266)]) hx hb dX12_about_57 rfl hl (by decide +kernel) rfl (fun ls hl => ?_)
            obtain ⟨x_312, ex_312⟩ : ∃ y : Int32, y = x_266 + Int32.ofInt 1 := ⟨_, rfl⟩
            replace hF := hF.trans (ap_n ex_312)
            have h_313 : rg x_312 1 40 := rg_of_eq ex_312 (rg_add h_302 (rg_k (Int32.ofInt 1) 1 rfl) (by decide +kernel))
            have uh_313 := h_313.1
            have vh_313 := h_313.2
            have tx_312 : (x_312).toInt = (x_266).toInt + 1 := by rw [ex_312]; exact i_add_rg (a2 := (x_266).toInt) (b2 := 1) rfl rfl h_302 (rg_k (Int32.ofInt 1) 1 rfl) (by decide +kernel)
            refine lv_iinc (v := x_312) (lv' := [(3, .int x_312), (2, .int x_311), (0, .ref this)]) hx hb dX12_about_58 hl (k := 2) rfl ex_312.symm (by decide +kernel) rfl (fun ls hl => ?_)
            refine lv_goto (tgt := 39) hx hb dX12_about_61 (by decide +kernel) ?_
            exact ih_289 x_311 x_312 _ _ _ (rg_w h_313 (by decide +kernel)) (ms_up 1 hm_286 ex_312 rfl (by decide +kernel) h_302 (by decide +kernel) (by decide +kernel)) hF hFr hG hP hD hS (lv_sub hl [2, 1, 0] rfl)
      exact L_288 _ (0 : Int32) (0 : Int32) _ _ _ (rg_w (rg_k (0 : Int32) 0 rfl) (by decide +kernel)) (Nat.lt_succ_self _) hF hFr hG hP hD hS (lv_sub hl [2, 1, 0] rfl)
    replace hF := hF.trans (if_neg k_8)
    by_cases k_314 : a0 = (15 : Int32)
    · replace hF := hF.trans (if_pos k_314)
      have tc_317 : (a0).toInt = 15 := congrArg Int32.toInt k_314
      have h_318 : rg a0 15 15 := rg_and (rg_full _) (rg_of_eq k_314 (rg_k (15 : Int32) 15 rfl)) (by decide +kernel)
      have uh_318 := h_318.1
      have vh_318 := h_318.2
      refine lv_tov 15 k_314 ?_
      refine lv_tableIn (tgt := 66) hx hb dX12_about_3 (by decide +kernel) (by decide +kernel) rfl (by decide +kernel) ?_
      refine lv_iconst (v := 0) hx hb dX12_about_66 (by decide +kernel) ?_
      refine lv_istore_n (lv' := [(3, .int 0), (2, .int 0), (0, .ref this), (1, .int a0)]) hx hb dX12_about_67 rfl hl (by decide +kernel) rfl (fun ls hl => ?_)
      have L_607 : ∀ (n_606 : Nat) (x_583 : Int32) (x_584 : Int32) (H : Heap) (locs : List Loc) (ls : Array Slot), rg x_584 0 40 → (40 - (x_584).toInt).toNat < n_606 → F = g_X12_about_L68 (vI 12 σ this I) (vJ 12 σ this J) (vR 12 σ this ri) (vL 12 σ this rj) (vQ 12 σ this rq) n_606 x_583 x_584 → FR 12 tg σ this (I, J, ri, rj, rq) (I, J, ri, rj, rq) → GM [] tg σ I ri I ri rq → va_P D vwCl (pq_P t σ (I, J, ri, rj, rq)) H → va_D A (pq_P t σ (I, J, ri, rj, rq)) → va_S A s.heap H locs → lv_has ls 4 [(0, .ref this), (2, .int x_583), (3, .int x_584)] → W p l e ({ frames := 1, cells := 0, slots := 0, locals := 22 } : Room) s m (List.toArray ([.ref this, .int a0] : List Value)) below meth c H locs 0 0 Q (F0 m 68 ls []) := by
        intro n_606
        induction n_606 with
        | zero => intro x_583 x_584 H locs ls h_610 hm_605 hF hFr hG hP hD hS hl; exact absurd hm_605 (Nat.not_lt_zero _)
        | succ n_606 ih_608 =>
          intro x_583 x_584 H locs ls h_610 hm_605 hF hFr hG hP hD hS hl
          have uh_610 := h_610.1
          have vh_610 := h_610.2
          replace hF := hF.trans g_X12_about_L68_e
          refine lv_iload_n hx hb dX12_about_68 rfl (lv_at hl 2 rfl) ?_
          refine lv_aload_n hx hb dX12_about_69 rfl (lv_at hl 0 rfl) ?_
          obtain ⟨w_611, hR_w_611, hL_w_611, hK_w_611, hN_w_611, hT_w_611⟩ := sh_a hSH 384 (ci := 12) (kd := 13) (len := 12720) rfl (by decide +kernel) hL_this hK_this
          have hO_w_611 : w_611 = vrow σ 384 this := vo_k (c := 12) hO_this hR_w_611
          refine pg_f (v := .ref w_611) (C := RX12) (T := TX12) (N := 31) hx hb hts (tw_i inlX12) hown hK hP hL_this hK_this (by decide +kernel) rfl 0 (by decide +kernel) (hts _ (tw_c tw_176)) (pq_hv rfl hR_w_611) dX12_about_70 ?_
          refine lv_iconst (v := 5) hx hb dX12_about_73 (by decide +kernel) ?_
          refine pl_i hx hb hK hP hL_w_611 hK_w_611 hN_w_611 (vp_in_iff.mpr (by decide +kernel)) dX12_about_74 ?_
          refine lv_tov (ri w_611 5) rfl ?_
          have h_612 : rg (ri w_611 5) 0 40 := GM.z0 hG0 (by rw [hT_w_611]; decide) (i := 5) (k := 5) (by decide +kernel) rfl
          have uh_612 := h_612.1
          have vh_612 := h_612.2
          replace hF := hF.trans (ap_n (vR_r hO_w_611 (by decide +kernel) rfl))
          refine lv_icmp_ge (tgt := 93) hx hb dX12_about_75 (by decide +kernel) (fun c_614 => ?_) (fun c_614 => ?_)
          · replace hF := hF.trans (if_pos c_614)
            have tc_619 : (ri w_611 5).toInt ≤ (x_584).toInt := Int32.le_iff_toInt_le.mp c_614
            refine lv_iload_n hx hb dX12_about_93 rfl (lv_at hl 1 rfl) ?_
            subst hQ
            exact W.iret (v := x_583) hx hb hr (fun t1 ht hW => ⟨⟨x_583, (σ, I, J, ri, rj, rq), rfl, ⟨rfl, (hF0.symm.trans hF)⟩, by rw [ht]; exact hP, va_K.moved hW.alike hK, hD⟩, hS.F ht⟩) hS.2.2 dX12_about_94
          · replace hF := hF.trans (if_neg c_614)
            have tc_620 : (x_584).toInt < (ri w_611 5).toInt := Int32.lt_iff_toInt_lt.mp (nle c_614)
            have h_621 : rg x_584 0 39 := rg_lt1 (nle c_614) h_610 h_612 (by decide +kernel)
            have uh_621 := h_621.1
            have vh_621 := h_621.2
            have h_622 : rg (ri w_611 5) 1 40 := rg_lt2 (nle c_614) h_610 h_612 (by decide +kernel)
            have uh_622 := h_622.1
            have vh_622 := h_622.2
            refine lv_iload_n hx hb dX12_about_78 rfl (lv_at hl 1 rfl) ?_
            refine lv_aload_n hx hb dX12_about_79 rfl (lv_at hl 0 rfl) ?_
            refine lv_iload_n hx hb dX12_about_80 rfl (lv_at hl 2 rfl) ?_
            refine lv_iconst (v := 5) hx hb dX12_about_81 (by decide +kernel) ?_
            refine pk_i (va_runV (As := [.int x_584, .int 5]) (rest := [.int x_583]) ⟨hx, hb, hml, hown, hts⟩ (s_X12_personAt_c5 l D t σ I J ri rj rq H.size tg hSH hG.1 this x_584 hL_this hK_this (rg_w h_621 (by decide +kernel)) w_611 hR_w_611 hL_w_611 hK_w_611 hN_w_611 hT_w_611) (cwV 2 hts (tw_V tw_437 tw_438 tw_439 tw_5 tw_440) rfl rfl rfl cv_yX12_personAt_2 ⟨Nat.le_of_ble_eq_true rfl, Nat.le_of_ble_eq_true rfl⟩) ⟨pq_blind, pq_recv hK hP hL_this hK_this (by decide +kernel) rfl, pq_pre hK hN hP hD⟩ rfl rfl hl.1 rfl (lv_room (Nat.le_of_ble_eq_true rfl)) dX12_about_82 ⟨Nat.le_of_ble_eq_true rfl, Nat.le_of_ble_eq_true rfl⟩) hD hS hA (fun x_623 σ1 μ1 H locs hw_624 hP hD hS => ?_)
            obtain ⟨hu_625, hp_628, hfn_629⟩ := hw_624
            obtain ⟨hu_625a, hu_625b⟩ := Prod.mk.inj hu_625
            rw [hu_625a, hu_625b] at hP hD
            replace hF := hF.trans (bn_n hfn_629)
            refine lv_iadd hx hb dX12_about_85 ?_
            refine lv_topi (fun x_631 ex_631 => ?_)
            replace hF := hF.trans (ap_n ex_631)
            refine lv_istore_n (lv' := [(2, .int x_631), (0, .ref this), (3, .int x_584)]) hx hb dX12_about_86 rfl hl (by decide +kernel) rfl (fun ls hl => ?_)
            obtain ⟨x_632, ex_632⟩ : ∃ y : Int32, y = x_584 + Int32.ofInt 1 := ⟨_, rfl⟩
            replace hF := hF.trans (ap_n ex_632)
            have h_633 : rg x_632 1 40 := rg_of_eq ex_632 (rg_add h_621 (rg_k (Int32.ofInt 1) 1 rfl) (by decide +kernel))
            have uh_633 := h_633.1
            have vh_633 := h_633.2
            have tx_632 : (x_632).toInt = (x_584).toInt + 1 := by rw [ex_632]; exact i_add_rg (a2 := (x_584).toInt) (b2 := 1) rfl rfl h_621 (rg_k (Int32.ofInt 1) 1 rfl) (by decide +kernel)
            refine lv_iinc (v := x_632) (lv' := [(3, .int x_632), (2, .int x_631), (0, .ref this)]) hx hb dX12_about_87 hl (k := 2) rfl ex_632.symm (by decide +kernel) rfl (fun ls hl => ?_)
            refine lv_goto (tgt := 68) hx hb dX12_about_90 (by decide +kernel) ?_
            exact ih_608 x_631 x_632 _ _ _ (rg_w h_633 (by decide +kernel)) (ms_up 1 hm_605 ex_632 rfl (by decide +kernel) h_621 (by decide +kernel) (by decide +kernel)) hF hFr hG hP hD hS (lv_sub hl [2, 1, 0] rfl)
      exact L_607 _ (0 : Int32) (0 : Int32) _ _ _ (rg_w (rg_k (0 : Int32) 0 rfl) (by decide +kernel)) (Nat.lt_succ_self _) hF hFr hG hP hD hS (lv_sub hl [2, 1, 0] rfl)
    replace hF := hF.trans (if_neg k_314)
    by_cases k_634 : a0 = (16 : Int32)
    · replace hF := hF.trans (if_pos k_634)
      have tc_637 : (a0).toInt = 16 := congrArg Int32.toInt k_634
      have h_638 : rg a0 16 16 := rg_and (rg_full _) (rg_of_eq k_634 (rg_k (16 : Int32) 16 rfl)) (by decide +kernel)
      have uh_638 := h_638.1
      have vh_638 := h_638.2
      refine lv_tov 16 k_634 ?_
      refine lv_tableIn (tgt := 95) hx hb dX12_about_3 (by decide +kernel) (by decide +kernel) rfl (by decide +kernel) ?_
      refine lv_iconst (v := 0) hx hb dX12_about_95 (by decide +kernel) ?_
      refine lv_istore_n (lv' := [(3, .int 0), (2, .int 0), (0, .ref this), (1, .int a0)]) hx hb dX12_about_96 rfl hl (by decide +kernel) rfl (fun ls hl => ?_)
      have L_927 : ∀ (n_926 : Nat) (x_903 : Int32) (x_904 : Int32) (H : Heap) (locs : List Loc) (ls : Array Slot), rg x_904 0 40 → (40 - (x_904).toInt).toNat < n_926 → F = g_X12_about_L97 (vI 12 σ this I) (vJ 12 σ this J) (vR 12 σ this ri) (vL 12 σ this rj) (vQ 12 σ this rq) n_926 x_903 x_904 → FR 12 tg σ this (I, J, ri, rj, rq) (I, J, ri, rj, rq) → GM [] tg σ I ri I ri rq → va_P D vwCl (pq_P t σ (I, J, ri, rj, rq)) H → va_D A (pq_P t σ (I, J, ri, rj, rq)) → va_S A s.heap H locs → lv_has ls 4 [(0, .ref this), (2, .int x_903), (3, .int x_904)] → W p l e ({ frames := 1, cells := 0, slots := 0, locals := 22 } : Room) s m (List.toArray ([.ref this, .int a0] : List Value)) below meth c H locs 0 0 Q (F0 m 97 ls []) := by
        intro n_926
        induction n_926 with
        | zero => intro x_903 x_904 H locs ls h_930 hm_925 hF hFr hG hP hD hS hl; exact absurd hm_925 (Nat.not_lt_zero _)
        | succ n_926 ih_928 =>
          intro x_903 x_904 H locs ls h_930 hm_925 hF hFr hG hP hD hS hl
          have uh_930 := h_930.1
          have vh_930 := h_930.2
          replace hF := hF.trans g_X12_about_L97_e
          refine lv_iload_n hx hb dX12_about_97 rfl (lv_at hl 2 rfl) ?_
          refine lv_aload_n hx hb dX12_about_98 rfl (lv_at hl 0 rfl) ?_
          obtain ⟨w_931, hR_w_931, hL_w_931, hK_w_931, hN_w_931, hT_w_931⟩ := sh_a hSH 384 (ci := 12) (kd := 13) (len := 12720) rfl (by decide +kernel) hL_this hK_this
          have hO_w_931 : w_931 = vrow σ 384 this := vo_k (c := 12) hO_this hR_w_931
          refine pg_f (v := .ref w_931) (C := RX12) (T := TX12) (N := 31) hx hb hts (tw_i inlX12) hown hK hP hL_this hK_this (by decide +kernel) rfl 0 (by decide +kernel) (hts _ (tw_c tw_176)) (pq_hv rfl hR_w_931) dX12_about_99 ?_
          refine lv_iconst (v := 5) hx hb dX12_about_102 (by decide +kernel) ?_
          refine pl_i hx hb hK hP hL_w_931 hK_w_931 hN_w_931 (vp_in_iff.mpr (by decide +kernel)) dX12_about_103 ?_
          refine lv_tov (ri w_931 5) rfl ?_
          have h_932 : rg (ri w_931 5) 0 40 := GM.z0 hG0 (by rw [hT_w_931]; decide) (i := 5) (k := 5) (by decide +kernel) rfl
          have uh_932 := h_932.1
          have vh_932 := h_932.2
          replace hF := hF.trans (ap_n (vR_r hO_w_931 (by decide +kernel) rfl))
          refine lv_icmp_ge (tgt := 123) hx hb dX12_about_104 (by decide +kernel) (fun c_934 => ?_) (fun c_934 => ?_)
          · replace hF := hF.trans (if_pos c_934)
            have tc_939 : (ri w_931 5).toInt ≤ (x_904).toInt := Int32.le_iff_toInt_le.mp c_934
            refine lv_iload_n hx hb dX12_about_123 rfl (lv_at hl 1 rfl) ?_
            subst hQ
            exact W.iret (v := x_903) hx hb hr (fun t1 ht hW => ⟨⟨x_903, (σ, I, J, ri, rj, rq), rfl, ⟨rfl, (hF0.symm.trans hF)⟩, by rw [ht]; exact hP, va_K.moved hW.alike hK, hD⟩, hS.F ht⟩) hS.2.2 dX12_about_124
          · replace hF := hF.trans (if_neg c_934)
            have tc_940 : (x_904).toInt < (ri w_931 5).toInt := Int32.lt_iff_toInt_lt.mp (nle c_934)
            have h_941 : rg x_904 0 39 := rg_lt1 (nle c_934) h_930 h_932 (by decide +kernel)
            have uh_941 := h_941.1
            have vh_941 := h_941.2
            have h_942 : rg (ri w_931 5) 1 40 := rg_lt2 (nle c_934) h_930 h_932 (by decide +kernel)
            have uh_942 := h_942.1
            have vh_942 := h_942.2
            refine lv_iload_n hx hb dX12_about_107 rfl (lv_at hl 1 rfl) ?_
            refine lv_aload_n hx hb dX12_about_108 rfl (lv_at hl 0 rfl) ?_
            refine lv_iload_n hx hb dX12_about_109 rfl (lv_at hl 2 rfl) ?_
            refine lv_bipush (v := 6) hx hb dX12_about_110 (by decide +kernel) ?_
            refine pk_i (va_runV (As := [.int x_904, .int 6]) (rest := [.int x_903]) ⟨hx, hb, hml, hown, hts⟩ (s_X12_personAt_c6 l D t σ I J ri rj rq H.size tg hSH hG.1 this x_904 hL_this hK_this (rg_w h_941 (by decide +kernel)) w_931 hR_w_931 hL_w_931 hK_w_931 hN_w_931 hT_w_931) (cwV 2 hts (tw_V tw_437 tw_438 tw_439 tw_5 tw_440) rfl rfl rfl cv_yX12_personAt_2 ⟨Nat.le_of_ble_eq_true rfl, Nat.le_of_ble_eq_true rfl⟩) ⟨pq_blind, pq_recv hK hP hL_this hK_this (by decide +kernel) rfl, pq_pre hK hN hP hD⟩ rfl rfl hl.1 rfl (lv_room (Nat.le_of_ble_eq_true rfl)) dX12_about_112 ⟨Nat.le_of_ble_eq_true rfl, Nat.le_of_ble_eq_true rfl⟩) hD hS hA (fun x_943 σ1 μ1 H locs hw_944 hP hD hS => ?_)
            obtain ⟨hu_945, hp_948, hfn_949⟩ := hw_944
            obtain ⟨hu_945a, hu_945b⟩ := Prod.mk.inj hu_945
            rw [hu_945a, hu_945b] at hP hD
            replace hF := hF.trans (bn_n hfn_949)
            refine lv_iadd hx hb dX12_about_115 ?_
            refine lv_topi (fun x_951 ex_951 => ?_)
            replace hF := hF.trans (ap_n ex_951)
            refine lv_istore_n (lv' := [(2, .int x_951), (0, .ref this), (3, .int x_904)]) hx hb dX12_about_116 rfl hl (by decide +kernel) rfl (fun ls hl => ?_)
            obtain ⟨x_952, ex_952⟩ : ∃ y : Int32, y = x_904 + Int32.ofInt 1 := ⟨_, rfl⟩
            replace hF := hF.trans (ap_n ex_952)
            have h_953 : rg x_952 1 40 := rg_of_eq ex_952 (rg_add h_941 (rg_k (Int32.ofInt 1) 1 rfl) (by decide +kernel))
            have uh_953 := h_953.1
            have vh_953 := h_953.2
            have tx_952 : (x_952).toInt = (x_904).toInt + 1 := by rw [ex_952]; exact i_add_rg (a2 := (x_904).toInt) (b2 := 1) rfl rfl h_941 (rg_k (Int32.ofInt 1) 1 rfl) (by decide +kernel)
            refine lv_iinc (v := x_952) (lv' := [(3, .int x_952), (2, .int x_951), (0, .ref this)]) hx hb dX12_about_117 hl (k := 2) rfl ex_952.symm (by decide +kernel) rfl (fun ls hl => ?_)
            refine lv_goto (tgt := 97) hx hb dX12_about_120 (by decide +kernel) ?_
            exact ih_928 x_951 x_952 _ _ _ (rg_w h_953 (by decide +kernel)) (ms_up 1 hm_925 ex_952 rfl (by decide +kernel) h_941 (by decide +kernel) (by decide +kernel)) hF hFr hG hP hD hS (lv_sub hl [2, 1, 0] rfl)
      exact L_927 _ (0 : Int32) (0 : Int32) _ _ _ (rg_w (rg_k (0 : Int32) 0 rfl) (by decide +kernel)) (Nat.lt_succ_self _) hF hFr hG hP hD hS (lv_sub hl [2, 1, 0] rfl)
    replace hF := hF.trans (if_neg k_634)
    refine lv_tableOut (tgt := 125) hx hb dX12_about_3 (by have z_k_1 := sw_ne k_1 (n := 13) rfl; have z_k_8 := sw_ne k_8 (n := 14) rfl; have z_k_314 := sw_ne k_314 (n := 15) rfl; have z_k_634 := sw_ne k_634 (n := 16) rfl; omega) (by decide +kernel) ?_
    refine lv_iload_n hx hb dX12_about_125 rfl (lv_at hl 2 rfl) ?_
    refine lv_iconst (v := 0) hx hb dX12_about_126 (by decide +kernel) ?_
    refine lv_bipush (v := 12) hx hb dX12_about_127 (by decide +kernel) ?_
    refine pk_i (va_runS (As := [.int a0, .int 0, .int 12]) (rest := []) ⟨hx, hb, hml, hown, hts⟩ (s_X12_isIn l D t σ I J ri rj rq H.size tg hSH hG.1 a0 (0 : Int32) (12 : Int32)) (va_cwS 3 hts (tw_S tw_235 tw_236 tw_5 tw_237) rfl rfl rfl cd_yX12_isIn_3 ⟨Nat.le_of_ble_eq_true rfl, Nat.le_of_ble_eq_true rfl⟩) ⟨pq_blind, pq_pre hK hN hP hD⟩ rfl rfl hl.1 rfl (lv_room (Nat.le_of_ble_eq_true rfl)) dX12_about_129 ⟨Nat.le_of_ble_eq_true rfl, Nat.le_of_ble_eq_true rfl⟩) hD hS hA (fun x_954 σ1 μ1 H locs hw_955 hP hD hS => ?_)
    obtain ⟨hu_956, hfn_959, hr_958⟩ := hw_955
    obtain ⟨hu_956a, hu_956b⟩ := Prod.mk.inj hu_956
    rw [hu_956a, hu_956b] at hP hD
    replace hF := hF.trans (ap_n hfn_959.symm)
    have h_961 : rg x_954 0 1 := by rcases hr_958 with ⟨q, -⟩ | ⟨q, -⟩ <;> rw [q] <;> exact ⟨by decide +kernel, by decide +kernel⟩
    have uh_961 := h_961.1
    have vh_961 := h_961.2
    refine lv_if_eq (tgt := 144) hx hb dX12_about_132 (by decide +kernel) (fun c_962 => ?_) (fun c_962 => ?_)
    · replace hF := hF.trans (if_pos c_962)
      have f_974 := (hr_958.resolve_left (fun q => absurd (q.1.symm.trans c_962) (by decide +kernel))).2
      have tc_975 : (x_954).toInt = 0 := congrArg Int32.toInt c_962
      have h_976 : rg x_954 0 0 := rg_and h_961 (rg_of_eq c_962 (rg_k (0 : Int32) 0 rfl)) (by decide +kernel)
      have uh_976 := h_976.1
      have vh_976 := h_976.2
      refine lv_ldcw hx hb hown (hts _ (tw_c tw_1566)) dX12_about_144 ?_
      subst hQ
      exact W.iret (v := (-1000000000)) hx hb hr (fun t1 ht hW => ⟨⟨(-1000000000), (σ, I, J, ri, rj, rq), rfl, ⟨rfl, (hF0.symm.trans hF)⟩, by rw [ht]; exact hP, va_K.moved hW.alike hK, hD⟩, hS.F ht⟩) hS.2.2 dX12_about_147
    · replace hF := hF.trans (if_neg c_962)
      obtain ⟨f_977, f_978⟩ := (hr_958.resolve_right (fun q => c_962 q.1)).2
      have tc_979 : 0 ≤ (a0).toInt := Int32.le_iff_toInt_le.mp f_977
      have h_980 : rg a0 0 2147483647 := rg_le2 f_977 (rg_k (0 : Int32) 0 rfl) (rg_full _) (by decide +kernel)
      have uh_980 := h_980.1
      have vh_980 := h_980.2
      have tc_981 : (a0).toInt ≤ 12 := Int32.le_iff_toInt_le.mp f_978
      have h_982 : rg a0 0 12 := rg_le1 f_978 h_980 (rg_k (12 : Int32) 12 rfl) (by decide +kernel)
      have uh_982 := h_982.1
      have vh_982 := h_982.2
      have tc_983 : (x_954).toInt ≠ 0 := fun q => c_962 (Int32.toInt_inj.mp q)
      have h_984 : rg x_954 1 1 := rg_ne c_962 h_961 0 rfl (by decide +kernel)
      have uh_984 := h_984.1
      have vh_984 := h_984.2
      refine lv_aload_n hx hb dX12_about_135 rfl (lv_at hl 1 rfl) ?_
      obtain ⟨w_985, hR_w_985, hL_w_985, hK_w_985, hN_w_985, hT_w_985⟩ := sh_a hSH 384 (ci := 12) (kd := 13) (len := 12720) rfl (by decide +kernel) hL_this hK_this
      have hO_w_985 : w_985 = vrow σ 384 this := vo_k (c := 12) hO_this hR_w_985
      refine pg_f (v := .ref w_985) (C := RX12) (T := TX12) (N := 31) hx hb hts (tw_i inlX12) hown hK hP hL_this hK_this (by decide +kernel) rfl 0 (by decide +kernel) (hts _ (tw_c tw_176)) (pq_hv rfl hR_w_985) dX12_about_136 ?_
      refine lv_iload_n hx hb dX12_about_139 rfl (lv_at hl 2 rfl) ?_
      refine pl_i hx hb hK hP hL_w_985 hK_w_985 hN_w_985 (rg_in h_982 (by decide +kernel)) dX12_about_140 ?_
      refine lv_topi (fun x_986 ex_986 => ?_)
      replace hF := hF.trans (ap_n (vR_r hO_w_985 (by decide +kernel) ex_986))
      refine lv_goto (tgt := 147) hx hb dX12_about_141 (by decide +kernel) ?_
      subst hQ
      exact W.iret (v := x_986) hx hb hr (fun t1 ht hW => ⟨⟨x_986, (σ, I, J, ri, rj, rq), rfl, ⟨rfl, (hF0.symm.trans hF)⟩, by rw [ht]; exact hP, va_K.moved hW.alike hK, hD⟩, hS.F ht⟩) hS.2.2 dX12_about_147
  exact go _ _ _ hP hD hS hl
