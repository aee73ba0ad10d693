theorem dX12_latest_0 : decode cX12_latest 0 = .ok (.aload_n 0, 1) := oc_42 (by decide +kernel)
theorem dX12_latest_1 : decode cX12_latest 1 = .ok (.getfield 7, 3) := oc_180 (a := 0) (b := 7) (by decide +kernel)
theorem dX12_latest_4 : decode cX12_latest 4 = .ok (.iconst 3, 1) := oc_6 (by decide +kernel)
theorem dX12_latest_5 : decode cX12_latest 5 = .ok (.iaload, 1) := oc_46 (by decide +kernel)
theorem dX12_latest_6 : decode cX12_latest 6 = .ok (.iconst 1, 1) := oc_4 (by decide +kernel)
theorem dX12_latest_7 : decode cX12_latest 7 = .ok (.isub, 1) := oc_100 (by decide +kernel)
theorem dX12_latest_8 : decode cX12_latest 8 = .ok (.istore 4, 2) := oc_54 (by decide +kernel)
theorem dX12_latest_10 : decode cX12_latest 10 = .ok (.iload 4, 2) := oc_21 (by decide +kernel)
theorem dX12_latest_12 : decode cX12_latest 12 = .ok (.ifCond .lt 59, 3) := oc_155 (a := 0) (b := 59) (by decide +kernel)
theorem dX12_latest_71 : decode cX12_latest 71 = .ok (.iconst (-1), 1) := oc_2 (by decide +kernel)
theorem dX12_latest_72 : decode cX12_latest 72 = .ok (.ireturn, 1) := oc_172 (by decide +kernel)
theorem dX12_latest_15 : decode cX12_latest 15 = .ok (.sipush 1220, 3) := oc_17 (a := 4) (b := 196) (by decide +kernel)
theorem dX12_latest_18 : decode cX12_latest 18 = .ok (.iconst 5, 1) := oc_8 (by decide +kernel)
theorem dX12_latest_19 : decode cX12_latest 19 = .ok (.iload 4, 2) := oc_21 (by decide +kernel)
theorem dX12_latest_21 : decode cX12_latest 21 = .ok (.imul, 1) := oc_104 (by decide +kernel)
theorem dX12_latest_22 : decode cX12_latest 22 = .ok (.iadd, 1) := oc_96 (by decide +kernel)
theorem dX12_latest_23 : decode cX12_latest 23 = .ok (.istore 5, 2) := oc_54 (by decide +kernel)
theorem dX12_latest_25 : decode cX12_latest 25 = .ok (.aload_n 0, 1) := oc_42 (by decide +kernel)
theorem dX12_latest_26 : decode cX12_latest 26 = .ok (.getfield 7, 3) := oc_180 (a := 0) (b := 7) (by decide +kernel)
theorem dX12_latest_29 : decode cX12_latest 29 = .ok (.iload 5, 2) := oc_21 (by decide +kernel)
theorem dX12_latest_31 : decode cX12_latest 31 = .ok (.iaload, 1) := oc_46 (by decide +kernel)
theorem dX12_latest_32 : decode cX12_latest 32 = .ok (.iload_n 1, 1) := oc_27 (by decide +kernel)
theorem dX12_latest_65 : decode cX12_latest 65 = .ok (.iinc 4 (-1), 3) := oc_132 (b := 255) (by decide +kernel)
theorem dX12_latest_68 : decode cX12_latest 68 = .ok (.goto (-58), 3) := oc_167 (a := 255) (b := 198) (by decide +kernel)
theorem dX12_latest_33 : decode cX12_latest 33 = .ok (.if_icmp .ne 32, 3) := oc_160 (a := 0) (b := 32) (by decide +kernel)
theorem dX12_latest_36 : decode cX12_latest 36 = .ok (.aload_n 0, 1) := oc_42 (by decide +kernel)
theorem dX12_latest_37 : decode cX12_latest 37 = .ok (.getfield 7, 3) := oc_180 (a := 0) (b := 7) (by decide +kernel)
theorem dX12_latest_40 : decode cX12_latest 40 = .ok (.iload 5, 2) := oc_21 (by decide +kernel)
theorem dX12_latest_42 : decode cX12_latest 42 = .ok (.iconst 1, 1) := oc_4 (by decide +kernel)
theorem dX12_latest_43 : decode cX12_latest 43 = .ok (.iadd, 1) := oc_96 (by decide +kernel)
theorem dX12_latest_44 : decode cX12_latest 44 = .ok (.iaload, 1) := oc_46 (by decide +kernel)
theorem dX12_latest_45 : decode cX12_latest 45 = .ok (.iload_n 2, 1) := oc_28 (by decide +kernel)
theorem dX12_latest_46 : decode cX12_latest 46 = .ok (.if_icmp .ne 19, 3) := oc_160 (a := 0) (b := 19) (by decide +kernel)
theorem dX12_latest_49 : decode cX12_latest 49 = .ok (.aload_n 0, 1) := oc_42 (by decide +kernel)
theorem dX12_latest_50 : decode cX12_latest 50 = .ok (.getfield 7, 3) := oc_180 (a := 0) (b := 7) (by decide +kernel)
theorem dX12_latest_53 : decode cX12_latest 53 = .ok (.iload 5, 2) := oc_21 (by decide +kernel)
theorem dX12_latest_55 : decode cX12_latest 55 = .ok (.iconst 4, 1) := oc_7 (by decide +kernel)
theorem dX12_latest_56 : decode cX12_latest 56 = .ok (.iadd, 1) := oc_96 (by decide +kernel)
theorem dX12_latest_57 : decode cX12_latest 57 = .ok (.iaload, 1) := oc_46 (by decide +kernel)
theorem dX12_latest_58 : decode cX12_latest 58 = .ok (.iload_n 3, 1) := oc_29 (by decide +kernel)
theorem dX12_latest_59 : decode cX12_latest 59 = .ok (.if_icmp .gt 6, 3) := oc_163 (a := 0) (b := 6) (by decide +kernel)
theorem dX12_latest_62 : decode cX12_latest 62 = .ok (.iload 5, 2) := oc_21 (by decide +kernel)
theorem dX12_latest_64 : decode cX12_latest 64 = .ok (.ireturn, 1) := oc_172 (by decide +kernel)
theorem dX12_worst_0 : decode cX12_worst 0 = .ok (.iconst 0, 1) := oc_3 (by decide +kernel)
theorem dX12_worst_1 : decode cX12_worst 1 = .ok (.istore_n 3, 1) := oc_62 (by decide +kernel)
theorem dX12_worst_2 : decode cX12_worst 2 = .ok (.iconst 0, 1) := oc_3 (by decide +kernel)
theorem dX12_worst_3 : decode cX12_worst 3 = .ok (.istore 4, 2) := oc_54 (by decide +kernel)
theorem dX12_worst_5 : decode cX12_worst 5 = .ok (.iconst 0, 1) := oc_3 (by decide +kernel)
theorem dX12_worst_6 : decode cX12_worst 6 = .ok (.istore 5, 2) := oc_54 (by decide +kernel)
theorem dX12_worst_8 : decode cX12_worst 8 = .ok (.iload 5, 2) := oc_21 (by decide +kernel)
theorem dX12_worst_10 : decode cX12_worst 10 = .ok (.aload_n 0, 1) := oc_42 (by decide +kernel)
theorem dX12_worst_11 : decode cX12_worst 11 = .ok (.getfield 7, 3) := oc_180 (a := 0) (b := 7) (by decide +kernel)
theorem dX12_worst_14 : decode cX12_worst 14 = .ok (.iconst 3, 1) := oc_6 (by decide +kernel)
theorem dX12_worst_15 : decode cX12_worst 15 = .ok (.iaload, 1) := oc_46 (by decide +kernel)
theorem dX12_worst_16 : decode cX12_worst 16 = .ok (.if_icmp .ge 89, 3) := oc_162 (a := 0) (b := 89) (by decide +kernel)
theorem dX12_worst_105 : decode cX12_worst 105 = .ok (.iload_n 3, 1) := oc_29 (by decide +kernel)
theorem dX12_worst_106 : decode cX12_worst 106 = .ok (.ireturn, 1) := oc_172 (by decide +kernel)
theorem dX12_worst_19 : decode cX12_worst 19 = .ok (.sipush 1220, 3) := oc_17 (a := 4) (b := 196) (by decide +kernel)
theorem dX12_worst_22 : decode cX12_worst 22 = .ok (.iconst 5, 1) := oc_8 (by decide +kernel)
theorem dX12_worst_23 : decode cX12_worst 23 = .ok (.iload 5, 2) := oc_21 (by decide +kernel)
theorem dX12_worst_25 : decode cX12_worst 25 = .ok (.imul, 1) := oc_104 (by decide +kernel)
theorem dX12_worst_26 : decode cX12_worst 26 = .ok (.iadd, 1) := oc_96 (by decide +kernel)
theorem dX12_worst_27 : decode cX12_worst 27 = .ok (.istore 6, 2) := oc_54 (by decide +kernel)
theorem dX12_worst_29 : decode cX12_worst 29 = .ok (.aload_n 0, 1) := oc_42 (by decide +kernel)
theorem dX12_worst_30 : decode cX12_worst 30 = .ok (.getfield 7, 3) := oc_180 (a := 0) (b := 7) (by decide +kernel)
theorem dX12_worst_33 : decode cX12_worst 33 = .ok (.iload 6, 2) := oc_21 (by decide +kernel)
theorem dX12_worst_35 : decode cX12_worst 35 = .ok (.iaload, 1) := oc_46 (by decide +kernel)
theorem dX12_worst_36 : decode cX12_worst 36 = .ok (.iload_n 1, 1) := oc_27 (by decide +kernel)
theorem dX12_worst_99 : decode cX12_worst 99 = .ok (.iinc 5 1, 3) := oc_132 (b := 1) (by decide +kernel)
theorem dX12_worst_102 : decode cX12_worst 102 = .ok (.goto (-94), 3) := oc_167 (a := 255) (b := 162) (by decide +kernel)
theorem dX12_worst_37 : decode cX12_worst 37 = .ok (.if_icmp .ne 62, 3) := oc_160 (a := 0) (b := 62) (by decide +kernel)
theorem dX12_worst_40 : decode cX12_worst 40 = .ok (.aload_n 0, 1) := oc_42 (by decide +kernel)
theorem dX12_worst_41 : decode cX12_worst 41 = .ok (.getfield 7, 3) := oc_180 (a := 0) (b := 7) (by decide +kernel)
theorem dX12_worst_44 : decode cX12_worst 44 = .ok (.iload 6, 2) := oc_21 (by decide +kernel)
theorem dX12_worst_46 : decode cX12_worst 46 = .ok (.iconst 2, 1) := oc_5 (by decide +kernel)
theorem dX12_worst_47 : decode cX12_worst 47 = .ok (.iadd, 1) := oc_96 (by decide +kernel)
theorem dX12_worst_48 : decode cX12_worst 48 = .ok (.iaload, 1) := oc_46 (by decide +kernel)
theorem dX12_worst_49 : decode cX12_worst 49 = .ok (.ifCond .eq 50, 3) := oc_153 (a := 0) (b := 50) (by decide +kernel)
theorem dX12_worst_52 : decode cX12_worst 52 = .ok (.aload_n 0, 1) := oc_42 (by decide +kernel)
theorem dX12_worst_53 : decode cX12_worst 53 = .ok (.getfield 7, 3) := oc_180 (a := 0) (b := 7) (by decide +kernel)
theorem dX12_worst_56 : decode cX12_worst 56 = .ok (.iload 6, 2) := oc_21 (by decide +kernel)
theorem dX12_worst_58 : decode cX12_worst 58 = .ok (.iconst 4, 1) := oc_7 (by decide +kernel)
theorem dX12_worst_59 : decode cX12_worst 59 = .ok (.iadd, 1) := oc_96 (by decide +kernel)
theorem dX12_worst_60 : decode cX12_worst 60 = .ok (.iaload, 1) := oc_46 (by decide +kernel)
theorem dX12_worst_61 : decode cX12_worst 61 = .ok (.iload_n 2, 1) := oc_28 (by decide +kernel)
theorem dX12_worst_62 : decode cX12_worst 62 = .ok (.if_icmp .gt 37, 3) := oc_163 (a := 0) (b := 37) (by decide +kernel)
theorem dX12_worst_65 : decode cX12_worst 65 = .ok (.iload 4, 2) := oc_21 (by decide +kernel)
theorem dX12_worst_86 : decode cX12_worst 86 = .ok (.aload_n 0, 1) := oc_42 (by decide +kernel)
theorem dX12_worst_87 : decode cX12_worst 87 = .ok (.getfield 7, 3) := oc_180 (a := 0) (b := 7) (by decide +kernel)
theorem dX12_worst_90 : decode cX12_worst 90 = .ok (.iload 6, 2) := oc_21 (by decide +kernel)
theorem dX12_worst_92 : decode cX12_worst 92 = .ok (.iconst 3, 1) := oc_6 (by decide +kernel)
theorem dX12_worst_93 : decode cX12_worst 93 = .ok (.iadd, 1) := oc_96 (by decide +kernel)
theorem dX12_worst_94 : decode cX12_worst 94 = .ok (.iaload, 1) := oc_46 (by decide +kernel)
theorem dX12_worst_95 : decode cX12_worst 95 = .ok (.istore_n 3, 1) := oc_62 (by decide +kernel)
theorem dX12_worst_96 : decode cX12_worst 96 = .ok (.iconst 1, 1) := oc_4 (by decide +kernel)
theorem dX12_worst_97 : decode cX12_worst 97 = .ok (.istore 4, 2) := oc_54 (by decide +kernel)
theorem dX12_worst_67 : decode cX12_worst 67 = .ok (.ifCond .eq 19, 3) := oc_153 (a := 0) (b := 19) (by decide +kernel)
theorem dX12_worst_70 : decode cX12_worst 70 = .ok (.aload_n 0, 1) := oc_42 (by decide +kernel)
theorem dX12_worst_71 : decode cX12_worst 71 = .ok (.getfield 7, 3) := oc_180 (a := 0) (b := 7) (by decide +kernel)
theorem dX12_worst_74 : decode cX12_worst 74 = .ok (.iload 6, 2) := oc_21 (by decide +kernel)
theorem dX12_worst_76 : decode cX12_worst 76 = .ok (.iconst 3, 1) := oc_6 (by decide +kernel)
theorem dX12_worst_77 : decode cX12_worst 77 = .ok (.iadd, 1) := oc_96 (by decide +kernel)
theorem dX12_worst_78 : decode cX12_worst 78 = .ok (.iaload, 1) := oc_46 (by decide +kernel)
theorem dX12_worst_79 : decode cX12_worst 79 = .ok (.iload_n 3, 1) := oc_29 (by decide +kernel)
theorem dX12_worst_80 : decode cX12_worst 80 = .ok (.if_icmp .gt 6, 3) := oc_163 (a := 0) (b := 6) (by decide +kernel)
theorem dX12_worst_83 : decode cX12_worst 83 = .ok (.goto 16, 3) := oc_167 (a := 0) (b := 16) (by decide +kernel)
theorem dX12_levelAt_0 : decode cX12_levelAt 0 = .ok (.aload_n 0, 1) := oc_42 (by decide +kernel)
theorem dX12_levelAt_1 : decode cX12_levelAt 1 = .ok (.iload_n 1, 1) := oc_27 (by decide +kernel)
theorem dX12_levelAt_2 : decode cX12_levelAt 2 = .ok (.iload_n 2, 1) := oc_28 (by decide +kernel)
theorem dX12_levelAt_3 : decode cX12_levelAt 3 = .ok (.iload_n 3, 1) := oc_29 (by decide +kernel)
theorem tw_293 : Cond.methodLink RX12 76 yX12_latest ∈ wsL_law := sg_13 _ (List.mem_of_getElem? (i := 5) rfl)
theorem tw_294 : Cond.instanceMethod yX12_latest ∈ wsL_law := sg_13 _ (List.mem_of_getElem? (i := 6) rfl)
theorem tw_295 : Cond.selects RX12 yX12_latest yX12_latest ∈ wsL_law := sg_13 _ (List.mem_of_getElem? (i := 7) rfl)
theorem tw_296 : Cond.code yX12_latest cX12_latest 6 (some .int) ∈ wsL_law := sg_13 _ (List.mem_of_getElem? (i := 8) rfl)
theorem dX12_levelAt_4 : decode cX12_levelAt 4 = .ok (.invokevirtual 76, 3) := oc_182 (a := 0) (b := 76) (by decide +kernel)
theorem dX12_levelAt_7 : decode cX12_levelAt 7 = .ok (.istore 4, 2) := oc_54 (by decide +kernel)
theorem dX12_levelAt_9 : decode cX12_levelAt 9 = .ok (.iload 4, 2) := oc_21 (by decide +kernel)
theorem dX12_levelAt_11 : decode cX12_levelAt 11 = .ok (.ifCond .ge 10, 3) := oc_156 (a := 0) (b := 10) (by decide +kernel)
theorem dX12_levelAt_21 : decode cX12_levelAt 21 = .ok (.aload_n 0, 1) := oc_42 (by decide +kernel)
theorem dX12_levelAt_22 : decode cX12_levelAt 22 = .ok (.getfield 7, 3) := oc_180 (a := 0) (b := 7) (by decide +kernel)
theorem dX12_levelAt_25 : decode cX12_levelAt 25 = .ok (.iload 4, 2) := oc_21 (by decide +kernel)
theorem dX12_levelAt_27 : decode cX12_levelAt 27 = .ok (.iconst 2, 1) := oc_5 (by decide +kernel)
theorem dX12_levelAt_28 : decode cX12_levelAt 28 = .ok (.iadd, 1) := oc_96 (by decide +kernel)
theorem dX12_levelAt_29 : decode cX12_levelAt 29 = .ok (.iaload, 1) := oc_46 (by decide +kernel)
theorem dX12_levelAt_30 : decode cX12_levelAt 30 = .ok (.iconst 1, 1) := oc_4 (by decide +kernel)
theorem dX12_levelAt_31 : decode cX12_levelAt 31 = .ok (.if_icmp .ne 13, 3) := oc_160 (a := 0) (b := 13) (by decide +kernel)
theorem dX12_levelAt_44 : decode cX12_levelAt 44 = .ok (.aload_n 0, 1) := oc_42 (by decide +kernel)
theorem dX12_levelAt_45 : decode cX12_levelAt 45 = .ok (.iload_n 1, 1) := oc_27 (by decide +kernel)
theorem dX12_levelAt_46 : decode cX12_levelAt 46 = .ok (.iload_n 2, 1) := oc_28 (by decide +kernel)
theorem dX12_levelAt_47 : decode cX12_levelAt 47 = .ok (.iconst 1, 1) := oc_4 (by decide +kernel)
theorem dX12_levelAt_48 : decode cX12_levelAt 48 = .ok (.isub, 1) := oc_100 (by decide +kernel)
theorem dX12_levelAt_49 : decode cX12_levelAt 49 = .ok (.iload_n 3, 1) := oc_29 (by decide +kernel)
theorem dX12_levelAt_50 : decode cX12_levelAt 50 = .ok (.invokevirtual 76, 3) := oc_182 (a := 0) (b := 76) (by decide +kernel)
theorem dX12_levelAt_53 : decode cX12_levelAt 53 = .ok (.istore 5, 2) := oc_54 (by decide +kernel)
theorem dX12_levelAt_55 : decode cX12_levelAt 55 = .ok (.aload_n 0, 1) := oc_42 (by decide +kernel)
theorem dX12_levelAt_56 : decode cX12_levelAt 56 = .ok (.iload_n 1, 1) := oc_27 (by decide +kernel)
theorem dX12_levelAt_57 : decode cX12_levelAt 57 = .ok (.iload_n 2, 1) := oc_28 (by decide +kernel)
theorem dX12_levelAt_58 : decode cX12_levelAt 58 = .ok (.iconst 1, 1) := oc_4 (by decide +kernel)
theorem dX12_levelAt_59 : decode cX12_levelAt 59 = .ok (.iadd, 1) := oc_96 (by decide +kernel)
theorem dX12_levelAt_60 : decode cX12_levelAt 60 = .ok (.iload_n 3, 1) := oc_29 (by decide +kernel)
theorem dX12_levelAt_61 : decode cX12_levelAt 61 = .ok (.invokevirtual 76, 3) := oc_182 (a := 0) (b := 76) (by decide +kernel)
theorem dX12_levelAt_64 : decode cX12_levelAt 64 = .ok (.istore 6, 2) := oc_54 (by decide +kernel)
theorem dX12_levelAt_66 : decode cX12_levelAt 66 = .ok (.iload 5, 2) := oc_21 (by decide +kernel)
theorem dX12_levelAt_89 : decode cX12_levelAt 89 = .ok (.istore 7, 2) := oc_54 (by decide +kernel)
theorem dX12_levelAt_91 : decode cX12_levelAt 91 = .ok (.iload 6, 2) := oc_21 (by decide +kernel)
theorem dX12_levelAt_114 : decode cX12_levelAt 114 = .ok (.istore 8, 2) := oc_54 (by decide +kernel)
theorem dX12_levelAt_116 : decode cX12_levelAt 116 = .ok (.iload 7, 2) := oc_21 (by decide +kernel)
theorem dX12_levelAt_118 : decode cX12_levelAt 118 = .ok (.ifCond .eq 30, 3) := oc_153 (a := 0) (b := 30) (by decide +kernel)
theorem dX12_levelAt_121 : decode cX12_levelAt 121 = .ok (.iload 8, 2) := oc_21 (by decide +kernel)
theorem dX12_levelAt_123 : decode cX12_levelAt 123 = .ok (.ifCond .eq 25, 3) := oc_153 (a := 0) (b := 25) (by decide +kernel)
theorem dX12_levelAt_126 : decode cX12_levelAt 126 = .ok (.aload_n 0, 1) := oc_42 (by decide +kernel)
theorem dX12_levelAt_127 : decode cX12_levelAt 127 = .ok (.getfield 7, 3) := oc_180 (a := 0) (b := 7) (by decide +kernel)
theorem dX12_levelAt_130 : decode cX12_levelAt 130 = .ok (.iload 5, 2) := oc_21 (by decide +kernel)
theorem dX12_levelAt_132 : decode cX12_levelAt 132 = .ok (.iconst 3, 1) := oc_6 (by decide +kernel)
theorem dX12_levelAt_133 : decode cX12_levelAt 133 = .ok (.iadd, 1) := oc_96 (by decide +kernel)
theorem dX12_levelAt_134 : decode cX12_levelAt 134 = .ok (.iaload, 1) := oc_46 (by decide +kernel)
theorem dX12_levelAt_135 : decode cX12_levelAt 135 = .ok (.aload_n 0, 1) := oc_42 (by decide +kernel)
theorem dX12_levelAt_136 : decode cX12_levelAt 136 = .ok (.getfield 7, 3) := oc_180 (a := 0) (b := 7) (by decide +kernel)
theorem dX12_levelAt_139 : decode cX12_levelAt 139 = .ok (.iload 6, 2) := oc_21 (by decide +kernel)
theorem dX12_levelAt_141 : decode cX12_levelAt 141 = .ok (.iconst 3, 1) := oc_6 (by decide +kernel)
theorem dX12_levelAt_142 : decode cX12_levelAt 142 = .ok (.iadd, 1) := oc_96 (by decide +kernel)
theorem dX12_levelAt_143 : decode cX12_levelAt 143 = .ok (.iaload, 1) := oc_46 (by decide +kernel)
theorem dX12_levelAt_144 : decode cX12_levelAt 144 = .ok (.iadd, 1) := oc_96 (by decide +kernel)
theorem dX12_levelAt_145 : decode cX12_levelAt 145 = .ok (.iconst 2, 1) := oc_5 (by decide +kernel)
theorem dX12_levelAt_146 : decode cX12_levelAt 146 = .ok (.idiv, 1) := oc_108 (by decide +kernel)
theorem dX12_levelAt_147 : decode cX12_levelAt 147 = .ok (.ireturn, 1) := oc_172 (by decide +kernel)
theorem dX12_levelAt_148 : decode cX12_levelAt 148 = .ok (.iload 7, 2) := oc_21 (by decide +kernel)
theorem dX12_levelAt_150 : decode cX12_levelAt 150 = .ok (.ifCond .eq 15, 3) := oc_153 (a := 0) (b := 15) (by decide +kernel)
theorem dX12_levelAt_153 : decode cX12_levelAt 153 = .ok (.aload_n 0, 1) := oc_42 (by decide +kernel)
theorem dX12_levelAt_154 : decode cX12_levelAt 154 = .ok (.getfield 7, 3) := oc_180 (a := 0) (b := 7) (by decide +kernel)
theorem dX12_levelAt_157 : decode cX12_levelAt 157 = .ok (.iload 5, 2) := oc_21 (by decide +kernel)
theorem dX12_levelAt_159 : decode cX12_levelAt 159 = .ok (.iconst 3, 1) := oc_6 (by decide +kernel)
theorem dX12_levelAt_160 : decode cX12_levelAt 160 = .ok (.iadd, 1) := oc_96 (by decide +kernel)
theorem dX12_levelAt_161 : decode cX12_levelAt 161 = .ok (.iaload, 1) := oc_46 (by decide +kernel)
theorem dX12_levelAt_162 : decode cX12_levelAt 162 = .ok (.goto 26, 3) := oc_167 (a := 0) (b := 26) (by decide +kernel)
theorem dX12_levelAt_188 : decode cX12_levelAt 188 = .ok (.ireturn, 1) := oc_172 (by decide +kernel)
theorem dX12_levelAt_113 : decode cX12_levelAt 113 = .ok (.iconst 0, 1) := oc_3 (by decide +kernel)
theorem dX12_levelAt_93 : decode cX12_levelAt 93 = .ok (.ifCond .lt 20, 3) := oc_155 (a := 0) (b := 20) (by decide +kernel)
theorem dX12_levelAt_96 : decode cX12_levelAt 96 = .ok (.aload_n 0, 1) := oc_42 (by decide +kernel)
theorem dX12_levelAt_97 : decode cX12_levelAt 97 = .ok (.getfield 7, 3) := oc_180 (a := 0) (b := 7) (by decide +kernel)
theorem dX12_levelAt_100 : decode cX12_levelAt 100 = .ok (.iload 6, 2) := oc_21 (by decide +kernel)
theorem dX12_levelAt_102 : decode cX12_levelAt 102 = .ok (.iconst 2, 1) := oc_5 (by decide +kernel)
theorem dX12_levelAt_103 : decode cX12_levelAt 103 = .ok (.iadd, 1) := oc_96 (by decide +kernel)
theorem dX12_levelAt_104 : decode cX12_levelAt 104 = .ok (.iaload, 1) := oc_46 (by decide +kernel)
theorem dX12_levelAt_105 : decode cX12_levelAt 105 = .ok (.iconst 1, 1) := oc_4 (by decide +kernel)
theorem dX12_levelAt_106 : decode cX12_levelAt 106 = .ok (.if_icmp .ne 7, 3) := oc_160 (a := 0) (b := 7) (by decide +kernel)
theorem dX12_levelAt_109 : decode cX12_levelAt 109 = .ok (.iconst 1, 1) := oc_4 (by decide +kernel)
theorem dX12_levelAt_110 : decode cX12_levelAt 110 = .ok (.goto 4, 3) := oc_167 (a := 0) (b := 4) (by decide +kernel)
theorem dX12_levelAt_165 : decode cX12_levelAt 165 = .ok (.iload 8, 2) := oc_21 (by decide +kernel)
theorem dX12_levelAt_167 : decode cX12_levelAt 167 = .ok (.ifCond .eq 15, 3) := oc_153 (a := 0) (b := 15) (by decide +kernel)
theorem dX12_levelAt_170 : decode cX12_levelAt 170 = .ok (.aload_n 0, 1) := oc_42 (by decide +kernel)
theorem dX12_levelAt_171 : decode cX12_levelAt 171 = .ok (.getfield 7, 3) := oc_180 (a := 0) (b := 7) (by decide +kernel)
theorem dX12_levelAt_174 : decode cX12_levelAt 174 = .ok (.iload 6, 2) := oc_21 (by decide +kernel)
theorem dX12_levelAt_176 : decode cX12_levelAt 176 = .ok (.iconst 3, 1) := oc_6 (by decide +kernel)
theorem dX12_levelAt_177 : decode cX12_levelAt 177 = .ok (.iadd, 1) := oc_96 (by decide +kernel)
theorem dX12_levelAt_178 : decode cX12_levelAt 178 = .ok (.iaload, 1) := oc_46 (by decide +kernel)
theorem dX12_levelAt_179 : decode cX12_levelAt 179 = .ok (.goto 9, 3) := oc_167 (a := 0) (b := 9) (by decide +kernel)
theorem dX12_levelAt_182 : decode cX12_levelAt 182 = .ok (.aload_n 0, 1) := oc_42 (by decide +kernel)
theorem dX12_levelAt_183 : decode cX12_levelAt 183 = .ok (.iload_n 1, 1) := oc_27 (by decide +kernel)
theorem dX12_levelAt_184 : decode cX12_levelAt 184 = .ok (.iload_n 3, 1) := oc_29 (by decide +kernel)
theorem tw_297 : Cond.methodLink RX12 80 yX12_worst ∈ wsL_law := sg_13 _ (List.mem_of_getElem? (i := 9) rfl)
theorem tw_298 : Cond.instanceMethod yX12_worst ∈ wsL_law := sg_13 _ (List.mem_of_getElem? (i := 10) rfl)
theorem tw_299 : Cond.selects RX12 yX12_worst yX12_worst ∈ wsL_law := sg_13 _ (List.mem_of_getElem? (i := 11) rfl)
theorem tw_300 : Cond.code yX12_worst cX12_worst 7 (some .int) ∈ wsL_law := sg_13 _ (List.mem_of_getElem? (i := 12) rfl)
theorem dX12_levelAt_185 : decode cX12_levelAt 185 = .ok (.invokevirtual 80, 3) := oc_182 (a := 0) (b := 80) (by decide +kernel)
theorem dX12_levelAt_88 : decode cX12_levelAt 88 = .ok (.iconst 0, 1) := oc_3 (by decide +kernel)
theorem dX12_levelAt_68 : decode cX12_levelAt 68 = .ok (.ifCond .lt 20, 3) := oc_155 (a := 0) (b := 20) (by decide +kernel)
theorem dX12_levelAt_71 : decode cX12_levelAt 71 = .ok (.aload_n 0, 1) := oc_42 (by decide +kernel)
theorem dX12_levelAt_72 : decode cX12_levelAt 72 = .ok (.getfield 7, 3) := oc_180 (a := 0) (b := 7) (by decide +kernel)
theorem dX12_levelAt_75 : decode cX12_levelAt 75 = .ok (.iload 5, 2) := oc_21 (by decide +kernel)
theorem dX12_levelAt_77 : decode cX12_levelAt 77 = .ok (.iconst 2, 1) := oc_5 (by decide +kernel)
theorem dX12_levelAt_78 : decode cX12_levelAt 78 = .ok (.iadd, 1) := oc_96 (by decide +kernel)
theorem dX12_levelAt_79 : decode cX12_levelAt 79 = .ok (.iaload, 1) := oc_46 (by decide +kernel)
theorem dX12_levelAt_80 : decode cX12_levelAt 80 = .ok (.iconst 1, 1) := oc_4 (by decide +kernel)
theorem dX12_levelAt_81 : decode cX12_levelAt 81 = .ok (.if_icmp .ne 7, 3) := oc_160 (a := 0) (b := 7) (by decide +kernel)
theorem dX12_levelAt_84 : decode cX12_levelAt 84 = .ok (.iconst 1, 1) := oc_4 (by decide +kernel)
theorem dX12_levelAt_85 : decode cX12_levelAt 85 = .ok (.goto 4, 3) := oc_167 (a := 0) (b := 4) (by decide +kernel)
theorem dX12_levelAt_34 : decode cX12_levelAt 34 = .ok (.aload_n 0, 1) := oc_42 (by decide +kernel)
theorem dX12_levelAt_35 : decode cX12_levelAt 35 = .ok (.getfield 7, 3) := oc_180 (a := 0) (b := 7) (by decide +kernel)
theorem dX12_levelAt_38 : decode cX12_levelAt 38 = .ok (.iload 4, 2) := oc_21 (by decide +kernel)
theorem dX12_levelAt_40 : decode cX12_levelAt 40 = .ok (.iconst 3, 1) := oc_6 (by decide +kernel)
theorem dX12_levelAt_41 : decode cX12_levelAt 41 = .ok (.iadd, 1) := oc_96 (by decide +kernel)
theorem dX12_levelAt_42 : decode cX12_levelAt 42 = .ok (.iaload, 1) := oc_46 (by decide +kernel)
theorem dX12_levelAt_43 : decode cX12_levelAt 43 = .ok (.ireturn, 1) := oc_172 (by decide +kernel)
theorem dX12_levelAt_14 : decode cX12_levelAt 14 = .ok (.aload_n 0, 1) := oc_42 (by decide +kernel)
theorem dX12_levelAt_15 : decode cX12_levelAt 15 = .ok (.iload_n 1, 1) := oc_27 (by decide +kernel)
theorem dX12_levelAt_16 : decode cX12_levelAt 16 = .ok (.iload_n 3, 1) := oc_29 (by decide +kernel)
theorem dX12_levelAt_17 : decode cX12_levelAt 17 = .ok (.invokevirtual 80, 3) := oc_182 (a := 0) (b := 80) (by decide +kernel)
theorem dX12_levelAt_20 : decode cX12_levelAt 20 = .ok (.ireturn, 1) := oc_172 (by decide +kernel)
theorem dX12_levelOf_0 : decode cX12_levelOf 0 = .ok (.iload_n 1, 1) := oc_27 (by decide +kernel)
theorem dX12_levelOf_1 : decode cX12_levelOf 1 = .ok (.invokestatic 70, 3) := oc_184 (a := 0) (b := 70) (by decide +kernel)
theorem tw_288 : Cond.constant RX12 87 (-1000000) ∈ wsL_law := sg_13 _ (List.mem_of_getElem? (i := 0) rfl)
theorem dX12_levelOf_35 : decode cX12_levelOf 35 = .ok (.ldc 87, 2) := oc_18 (by decide +kernel)
theorem dX12_levelOf_37 : decode cX12_levelOf 37 = .ok (.ireturn, 1) := oc_172 (by decide +kernel)
theorem dX12_levelOf_4 : decode cX12_levelOf 4 = .ok (.ifCond .eq 31, 3) := oc_153 (a := 0) (b := 31) (by decide +kernel)
theorem dX12_levelOf_7 : decode cX12_levelOf 7 = .ok (.iload_n 2, 1) := oc_28 (by decide +kernel)
theorem dX12_levelOf_8 : decode cX12_levelOf 8 = .ok (.invokestatic 73, 3) := oc_184 (a := 0) (b := 73) (by decide +kernel)
theorem dX12_levelOf_11 : decode cX12_levelOf 11 = .ok (.ifCond .eq 24, 3) := oc_153 (a := 0) (b := 24) (by decide +kernel)
theorem dX12_levelOf_14 : decode cX12_levelOf 14 = .ok (.iload_n 3, 1) := oc_29 (by decide +kernel)
theorem dX12_levelOf_15 : decode cX12_levelOf 15 = .ok (.iconst 0, 1) := oc_3 (by decide +kernel)
theorem dX12_levelOf_16 : decode cX12_levelOf 16 = .ok (.sipush 600, 3) := oc_17 (a := 2) (b := 88) (by decide +kernel)
theorem dX12_levelOf_19 : decode cX12_levelOf 19 = .ok (.invokestatic 62, 3) := oc_184 (a := 0) (b := 62) (by decide +kernel)
theorem dX12_levelOf_22 : decode cX12_levelOf 22 = .ok (.ifCond .eq 13, 3) := oc_153 (a := 0) (b := 13) (by decide +kernel)
theorem dX12_levelOf_25 : decode cX12_levelOf 25 = .ok (.aload_n 0, 1) := oc_42 (by decide +kernel)
theorem dX12_levelOf_26 : decode cX12_levelOf 26 = .ok (.iload_n 1, 1) := oc_27 (by decide +kernel)
theorem dX12_levelOf_27 : decode cX12_levelOf 27 = .ok (.iload_n 2, 1) := oc_28 (by decide +kernel)
theorem dX12_levelOf_28 : decode cX12_levelOf 28 = .ok (.iload_n 3, 1) := oc_29 (by decide +kernel)
theorem tw_289 : Cond.methodLink RX12 84 yX12_levelAt ∈ wsL_law := sg_13 _ (List.mem_of_getElem? (i := 1) rfl)
theorem tw_290 : Cond.instanceMethod yX12_levelAt ∈ wsL_law := sg_13 _ (List.mem_of_getElem? (i := 2) rfl)
theorem tw_291 : Cond.selects RX12 yX12_levelAt yX12_levelAt ∈ wsL_law := sg_13 _ (List.mem_of_getElem? (i := 3) rfl)
theorem tw_292 : Cond.code yX12_levelAt cX12_levelAt 9 (some .int) ∈ wsL_law := sg_13 _ (List.mem_of_getElem? (i := 4) rfl)
theorem dX12_levelOf_29 : decode cX12_levelOf 29 = .ok (.invokevirtual 84, 3) := oc_182 (a := 0) (b := 84) (by decide +kernel)
theorem dX12_levelOf_32 : decode cX12_levelOf 32 = .ok (.goto 5, 3) := oc_167 (a := 0) (b := 5) (by decide +kernel)
theorem dX12_table_0 : decode cX12_table 0 = .ok (.iload_n 1, 1) := oc_27 (by decide +kernel)
theorem dX12_table_1 : decode cX12_table 1 = .ok (.iconst 0, 1) := oc_3 (by decide +kernel)
theorem dX12_table_2 : decode cX12_table 2 = .ok (.bipush 11, 2) := oc_16 (a := 11) (by decide +kernel)
theorem dX12_table_4 : decode cX12_table 4 = .ok (.invokestatic 62, 3) := oc_184 (a := 0) (b := 62) (by decide +kernel)
theorem dX12_table_65 : decode cX12_table 65 = .ok (.iconst 0, 1) := oc_3 (by decide +kernel)
theorem dX12_table_66 : decode cX12_table 66 = .ok (.ireturn, 1) := oc_172 (by decide +kernel)
theorem dX12_table_7 : decode cX12_table 7 = .ok (.ifCond .eq 58, 3) := oc_153 (a := 0) (b := 58) (by decide +kernel)
theorem dX12_table_10 : decode cX12_table 10 = .ok (.iload_n 2, 1) := oc_28 (by decide +kernel)
theorem dX12_table_11 : decode cX12_table 11 = .ok (.iconst 0, 1) := oc_3 (by decide +kernel)
theorem dX12_table_12 : decode cX12_table 12 = .ok (.sipush 2000, 3) := oc_17 (a := 7) (b := 208) (by decide +kernel)
theorem dX12_table_15 : decode cX12_table 15 = .ok (.invokestatic 62, 3) := oc_184 (a := 0) (b := 62) (by decide +kernel)
theorem dX12_table_18 : decode cX12_table 18 = .ok (.ifCond .eq 47, 3) := oc_153 (a := 0) (b := 47) (by decide +kernel)
theorem dX12_table_21 : decode cX12_table 21 = .ok (.iload_n 3, 1) := oc_29 (by decide +kernel)
theorem dX12_table_22 : decode cX12_table 22 = .ok (.iload_n 2, 1) := oc_28 (by decide +kernel)
theorem dX12_table_23 : decode cX12_table 23 = .ok (.sipush 2000, 3) := oc_17 (a := 7) (b := 208) (by decide +kernel)
theorem dX12_table_26 : decode cX12_table 26 = .ok (.invokestatic 62, 3) := oc_184 (a := 0) (b := 62) (by decide +kernel)
theorem dX12_table_29 : decode cX12_table 29 = .ok (.ifCond .eq 36, 3) := oc_153 (a := 0) (b := 36) (by decide +kernel)
theorem dX12_table_32 : decode cX12_table 32 = .ok (.iload 4, 2) := oc_21 (by decide +kernel)
theorem dX12_table_34 : decode cX12_table 34 = .ok (.iconst 0, 1) := oc_3 (by decide +kernel)
theorem dX12_table_35 : decode cX12_table 35 = .ok (.bipush 40, 2) := oc_16 (a := 40) (by decide +kernel)
theorem dX12_table_37 : decode cX12_table 37 = .ok (.invokestatic 62, 3) := oc_184 (a := 0) (b := 62) (by decide +kernel)
theorem dX12_table_40 : decode cX12_table 40 = .ok (.ifCond .eq 25, 3) := oc_153 (a := 0) (b := 25) (by decide +kernel)
theorem dX12_table_43 : decode cX12_table 43 = .ok (.iload 5, 2) := oc_21 (by decide +kernel)
theorem dX12_table_45 : decode cX12_table 45 = .ok (.iconst 0, 1) := oc_3 (by decide +kernel)
theorem dX12_table_46 : decode cX12_table 46 = .ok (.bipush 50, 2) := oc_16 (a := 50) (by decide +kernel)
theorem dX12_table_48 : decode cX12_table 48 = .ok (.invokestatic 62, 3) := oc_184 (a := 0) (b := 62) (by decide +kernel)
theorem dX12_table_51 : decode cX12_table 51 = .ok (.ifCond .eq 14, 3) := oc_153 (a := 0) (b := 14) (by decide +kernel)
theorem dX12_table_54 : decode cX12_table 54 = .ok (.iload 6, 2) := oc_21 (by decide +kernel)
theorem dX12_table_56 : decode cX12_table 56 = .ok (.iconst 0, 1) := oc_3 (by decide +kernel)
theorem dX12_table_57 : decode cX12_table 57 = .ok (.bipush 100, 2) := oc_16 (a := 100) (by decide +kernel)
theorem dX12_table_59 : decode cX12_table 59 = .ok (.invokestatic 62, 3) := oc_184 (a := 0) (b := 62) (by decide +kernel)
theorem dX12_table_62 : decode cX12_table 62 = .ok (.ifCond .ne 5, 3) := oc_154 (a := 0) (b := 5) (by decide +kernel)
theorem dX12_table_67 : decode cX12_table 67 = .ok (.bipush 20, 2) := oc_16 (a := 20) (by decide +kernel)
theorem dX12_table_69 : decode cX12_table 69 = .ok (.iconst 5, 1) := oc_8 (by decide +kernel)
theorem dX12_table_70 : decode cX12_table 70 = .ok (.iload_n 1, 1) := oc_27 (by decide +kernel)
theorem dX12_table_71 : decode cX12_table 71 = .ok (.imul, 1) := oc_104 (by decide +kernel)
theorem dX12_table_72 : decode cX12_table 72 = .ok (.iadd, 1) := oc_96 (by decide +kernel)
theorem dX12_table_73 : decode cX12_table 73 = .ok (.istore 7, 2) := oc_54 (by decide +kernel)
theorem dX12_table_75 : decode cX12_table 75 = .ok (.aload_n 0, 1) := oc_42 (by decide +kernel)
theorem dX12_table_76 : decode cX12_table 76 = .ok (.getfield 7, 3) := oc_180 (a := 0) (b := 7) (by decide +kernel)
theorem dX12_table_79 : decode cX12_table 79 = .ok (.iload 7, 2) := oc_21 (by decide +kernel)
theorem dX12_table_81 : decode cX12_table 81 = .ok (.iconst 0, 1) := oc_3 (by decide +kernel)
theorem dX12_table_82 : decode cX12_table 82 = .ok (.iadd, 1) := oc_96 (by decide +kernel)
theorem dX12_table_83 : decode cX12_table 83 = .ok (.iload_n 2, 1) := oc_28 (by decide +kernel)
theorem dX12_table_84 : decode cX12_table 84 = .ok (.iastore, 1) := oc_79 (by decide +kernel)
theorem dX12_table_85 : decode cX12_table 85 = .ok (.aload_n 0, 1) := oc_42 (by decide +kernel)
theorem dX12_table_86 : decode cX12_table 86 = .ok (.getfield 7, 3) := oc_180 (a := 0) (b := 7) (by decide +kernel)
theorem dX12_table_89 : decode cX12_table 89 = .ok (.iload 7, 2) := oc_21 (by decide +kernel)
theorem dX12_table_91 : decode cX12_table 91 = .ok (.iconst 1, 1) := oc_4 (by decide +kernel)
theorem dX12_table_92 : decode cX12_table 92 = .ok (.iadd, 1) := oc_96 (by decide +kernel)
theorem dX12_table_93 : decode cX12_table 93 = .ok (.iload_n 3, 1) := oc_29 (by decide +kernel)
theorem dX12_table_94 : decode cX12_table 94 = .ok (.iastore, 1) := oc_79 (by decide +kernel)
theorem dX12_table_95 : decode cX12_table 95 = .ok (.aload_n 0, 1) := oc_42 (by decide +kernel)
theorem dX12_table_96 : decode cX12_table 96 = .ok (.getfield 7, 3) := oc_180 (a := 0) (b := 7) (by decide +kernel)
theorem dX12_table_99 : decode cX12_table 99 = .ok (.iload 7, 2) := oc_21 (by decide +kernel)
theorem dX12_table_101 : decode cX12_table 101 = .ok (.iconst 2, 1) := oc_5 (by decide +kernel)
theorem dX12_table_102 : decode cX12_table 102 = .ok (.iadd, 1) := oc_96 (by decide +kernel)
theorem dX12_table_103 : decode cX12_table 103 = .ok (.iload 4, 2) := oc_21 (by decide +kernel)
theorem dX12_table_105 : decode cX12_table 105 = .ok (.iastore, 1) := oc_79 (by decide +kernel)
theorem dX12_table_106 : decode cX12_table 106 = .ok (.aload_n 0, 1) := oc_42 (by decide +kernel)
theorem dX12_table_107 : decode cX12_table 107 = .ok (.getfield 7, 3) := oc_180 (a := 0) (b := 7) (by decide +kernel)
theorem dX12_table_110 : decode cX12_table 110 = .ok (.iload 7, 2) := oc_21 (by decide +kernel)
theorem dX12_table_112 : decode cX12_table 112 = .ok (.iconst 3, 1) := oc_6 (by decide +kernel)
theorem dX12_table_113 : decode cX12_table 113 = .ok (.iadd, 1) := oc_96 (by decide +kernel)
theorem dX12_table_114 : decode cX12_table 114 = .ok (.iload 5, 2) := oc_21 (by decide +kernel)
theorem dX12_table_116 : decode cX12_table 116 = .ok (.iastore, 1) := oc_79 (by decide +kernel)
theorem dX12_table_117 : decode cX12_table 117 = .ok (.aload_n 0, 1) := oc_42 (by decide +kernel)
theorem dX12_table_118 : decode cX12_table 118 = .ok (.getfield 7, 3) := oc_180 (a := 0) (b := 7) (by decide +kernel)
theorem dX12_table_121 : decode cX12_table 121 = .ok (.iload 7, 2) := oc_21 (by decide +kernel)
theorem dX12_table_123 : decode cX12_table 123 = .ok (.iconst 4, 1) := oc_7 (by decide +kernel)
theorem dX12_table_124 : decode cX12_table 124 = .ok (.iadd, 1) := oc_96 (by decide +kernel)
theorem dX12_table_125 : decode cX12_table 125 = .ok (.iload 6, 2) := oc_21 (by decide +kernel)
theorem dX12_table_127 : decode cX12_table 127 = .ok (.iastore, 1) := oc_79 (by decide +kernel)
theorem dX12_table_128 : decode cX12_table 128 = .ok (.iconst 1, 1) := oc_4 (by decide +kernel)
theorem dX12_table_129 : decode cX12_table 129 = .ok (.ireturn, 1) := oc_172 (by decide +kernel)
set_option maxRecDepth 100000 in
def g_X12_latest_K65 (x_97 : Int32) (k_g_X12_latest_L10 : (Int32) → Int32 × vM) : Int32 × vM := (ap1 (x_97 + Int32.ofInt (-1)) fun (x_168 : Int32) => (k_g_X12_latest_L10 x_168))
set_option maxRecDepth 100000 in
theorem g_X12_latest_K65_e {x_97 : Int32} {k_g_X12_latest_L10 : (Int32) → Int32 × vM} : g_X12_latest_K65 x_97 k_g_X12_latest_L10  = (ap1 (x_97 + Int32.ofInt (-1)) fun (x_168 : Int32) => (k_g_X12_latest_L10 x_168)) := rfl
set_option maxRecDepth 100000 in
def g_X12_latest_L10 (a0 : Int32) (a1 : Int32) (a2 : Int32) (I : Nat → Int32) (J : Nat → Int64) (ri : Nat → Nat → Int32) (rj : Nat → Nat → Int64) (rq : Nat → Nat → Option Nat) : Nat → (Int32) → Int32 × vM
  | 0, x_97 => ((0 : Int32), I, J, ri, rj, rq)
  | n_129 + 1, x_97 => (if x_97 < (0 : Int32) then ((-1 : Int32), I, J, ri, rj, rq) else (ap1 ((5 : Int32) * x_97) fun (x_143 : Int32) => (ap1 ((1220 : Int32) + x_143) fun (x_145 : Int32) => (ap1 (ri 384 (x_145).toNatClampNeg) fun (x_147 : Int32) => (if x_147 = a0 then (ap1 (x_145 + (1 : Int32)) fun (x_175 : Int32) => (ap1 (ri 384 (x_175).toNatClampNeg) fun (x_177 : Int32) => (if x_177 = a1 then (ap1 (x_145 + (4 : Int32)) fun (x_183 : Int32) => (ap1 (ri 384 (x_183).toNatClampNeg) fun (x_185 : Int32) => (if a2 < x_185 then (g_X12_latest_K65 x_97 (g_X12_latest_L10 a0 a1 a2 I J ri rj rq n_129) ) else (x_145, I, J, ri, rj, rq)))) else (g_X12_latest_K65 x_97 (g_X12_latest_L10 a0 a1 a2 I J ri rj rq n_129) )))) else (g_X12_latest_K65 x_97 (g_X12_latest_L10 a0 a1 a2 I J ri rj rq n_129) ))))))
set_option maxRecDepth 100000 in
theorem g_X12_latest_L10_e {a0 : Int32} {a1 : Int32} {a2 : Int32} {I : Nat → Int32} {J : Nat → Int64} {ri : Nat → Nat → Int32} {rj : Nat → Nat → Int64} {rq : Nat → Nat → Option Nat} {n_129 : Nat} {x_97 : Int32} : g_X12_latest_L10 a0 a1 a2 I J ri rj rq (n_129 + 1) x_97 = (if x_97 < (0 : Int32) then ((-1 : Int32), I, J, ri, rj, rq) else (ap1 ((5 : Int32) * x_97) fun (x_143 : Int32) => (ap1 ((1220 : Int32) + x_143) fun (x_145 : Int32) => (ap1 (ri 384 (x_145).toNatClampNeg) fun (x_147 : Int32) => (if x_147 = a0 then (ap1 (x_145 + (1 : Int32)) fun (x_175 : Int32) => (ap1 (ri 384 (x_175).toNatClampNeg) fun (x_177 : Int32) => (if x_177 = a1 then (ap1 (x_145 + (4 : Int32)) fun (x_183 : Int32) => (ap1 (ri 384 (x_183).toNatClampNeg) fun (x_185 : Int32) => (if a2 < x_185 then (g_X12_latest_K65 x_97 (g_X12_latest_L10 a0 a1 a2 I J ri rj rq n_129) ) else (x_145, I, J, ri, rj, rq)))) else (g_X12_latest_K65 x_97 (g_X12_latest_L10 a0 a1 a2 I J ri rj rq n_129) )))) else (g_X12_latest_K65 x_97 (g_X12_latest_L10 a0 a1 a2 I J ri rj rq n_129) )))))) := rfl
set_option maxRecDepth 100000 in
def g_X12_latest (a0 : Int32) (a1 : Int32) (a2 : Int32) (I : Nat → Int32) (J : Nat → Int64) (ri : Nat → Nat → Int32) (rj : Nat → Nat → Int64) (rq : Nat → Nat → Option Nat) : Int32 × vM := (ap1 (ri 384 3) fun (y_3 : Int32) => (ap1 ((y_3) - (1 : Int32)) fun (x_4 : Int32) => (g_X12_latest_L10 a0 a1 a2 I J ri rj rq (((x_4).toInt - (-1)).toNat + 1) x_4)))
set_option maxRecDepth 100000 in
theorem g_X12_latest_e {a0 : Int32} {a1 : Int32} {a2 : Int32} {I : Nat → Int32} {J : Nat → Int64} {ri : Nat → Nat → Int32} {rj : Nat → Nat → Int64} {rq : Nat → Nat → Option Nat} : g_X12_latest a0 a1 a2 I J ri rj rq = (ap1 (ri 384 3) fun (y_3 : Int32) => (ap1 ((y_3) - (1 : Int32)) fun (x_4 : Int32) => (g_X12_latest_L10 a0 a1 a2 I J ri rj rq (((x_4).toInt - (-1)).toNat + 1) x_4))) := rfl
set_option maxHeartbeats 4000000 in
set_option maxRecDepth 100000 in
theorem s_X12_latest (l : Launch) (D : va_G) (t : pq_T) (σ : pq_S) (I : Nat → Nat → Int32) (J : Nat → Nat → Int64) (ri : Nat → Nat → Int32) (rj : Nat → Nat → Int64) (rq : Nat → Nat → Option Nat) (sz : Nat) (tg : Nat → Nat) (hSH : SH σ tg) (hG0 : GT tg I ri) (this : Nat) (a0 : Int32) (a1 : Int32) (a2 : Int32) (hL_this : this ∈ σ.1) (hK_this : σ.2.1 this = 12) : MetI l yX12_latest (wa yX12_latest cX12_latest 6 (some .int)) ({ frames := 0, cells := 0, slots := 0, locals := 0 }) [.ref this, .int a0, .int a1, .int a2] D t σ (I, J, ri, rj, rq) sz 0 0 (fun (r : Int32) (u : pq_S × pq_M) => u = (σ, I, J, ri, rj, rq) ∧ g_X12_latest a0 a1 a2 (vI 12 σ this I) (vJ 12 σ this J) (vR 12 σ this ri) (vL 12 σ this rj) (vQ 12 σ this rq) = (r, (vI 12 σ this I), (vJ 12 σ this J), (vR 12 σ this ri), (vL 12 σ this rj), (vQ 12 σ this rq)) ∧ rg r (-1) 2215) := by
  refine Met.ofW (cc := cX12_latest) (maxL := 6) (ret := (some .int)) (by decide +kernel) rfl ?_
  intro p e s m args below meth c s₁ B hml hv
  obtain ⟨rfl, hsz, hP, hK, hD0, hN⟩ := hv
  have hx := B.exec
  have hb := B.bytes
  have hr := B.returns
  have hts := atoms_spec (ws := (wa yX12_latest cX12_latest 6 (some .int))) B.pre
  have hown : s.vm.findClass RX12 = some m.cls := findClass_of_methodNamed B.named
  have hlocks := B.notSynchronized
  subst hsz
  have hD : va_D (pq_B t σ (I, J, ri, rj, rq) s.heap.size) (pq_P t σ (I, J, ri, rj, rq)) := hD0.self
  generalize hAe : pq_B t σ (I, J, ri, rj, rq) s.heap.size = A at hD ⊢
  have hA : ∀ q : Nat, s.heap.size ≤ q → A q := fun q h => by rw [← hAe]; exact Or.inr h
  have hS : va_S A s.heap s.heap [] := va_S.rf
  have hG : GM [] tg σ I ri I ri rq := ⟨hG0, fun _ _ _ => rfl, fun _ _ _ _ _ => rfl, fun _ _ _ _ _ _ => rfl⟩
  have hl := lv_entry ([.ref this, .int a0, .int a1, .int a2]) (n := 6) (Nat.le_of_ble_eq_true rfl)
  rw [lg_entry_eq]
  generalize (lg_sl ([.ref this, .int a0, .int a1, .int a2]) ++ List.replicate (6 - (lg_sl ([.ref this, .int a0, .int a1, .int a2])).length) Slot.unset).toArray = ls at hl ⊢
  have hl : lv_has ls 6 [(0, .ref this), (1, .int a0), (2, .int a1), (3, .int a2)] := hl
  refine q_gen (fun Q hQ => ?_)
  have go : ∀ (H : Heap) (locs : List Loc) (ls : Array Slot), va_P D vwCl (pq_P t σ (I, J, ri, rj, rq)) H → va_D A (pq_P t σ (I, J, ri, rj, rq)) → va_S A s.heap H locs → lv_has ls 6 [(0, .ref this), (1, .int a0), (2, .int a1), (3, .int a2)] → W p l e ({ frames := 0, cells := 0, slots := 0, locals := 0 } : Room) s m (List.toArray ([.ref this, .int a0, .int a1, .int a2] : List Value)) below meth c H locs 0 0 Q (F0 m 0 ls []) := by
    intro H locs ls hP hD hS hl
    have hO_this : this = vo σ 12 this := rfl
    have hVT : VT 12 σ tg this := vt_12 hSH hL_this hK_this
    have hFr : FR 12 tg σ this (I, J, ri, rj, rq) (I, J, ri, rj, rq) := fr_rf
    obtain ⟨F, hF0⟩ : ∃ F, F = g_X12_latest a0 a1 a2 (vI 12 σ this I) (vJ 12 σ this J) (vR 12 σ this ri) (vL 12 σ this rj) (vQ 12 σ this rq) := ⟨_, rfl⟩
    have hF := hF0.trans g_X12_latest_e
    refine lv_aload_n hx hb dX12_latest_0 rfl (lv_at hl 0 rfl) ?_
    obtain ⟨w_1, hR_w_1, hL_w_1, hK_w_1, hN_w_1, hT_w_1⟩ := sh_a hSH 384 (ci := 12) (kd := 13) (len := 12720) rfl (by decide +kernel) hL_this hK_this
    have hO_w_1 : w_1 = vrow σ 384 this := vo_k (c := 12) hO_this hR_w_1
    refine pg_f (v := .ref w_1) (C := RX12) (T := TX12) (N := 31) hx hb hts (tw_i inlX12) hown hK hP hL_this hK_this (by decide +kernel) rfl 0 (by decide +kernel) (hts _ (tw_c tw_176)) (pq_hv rfl hR_w_1) dX12_latest_1 ?_
    refine lv_iconst (v := 3) hx hb dX12_latest_4 (by decide +kernel) ?_
    refine pl_i hx hb hK hP hL_w_1 hK_w_1 hN_w_1 (vp_in_iff.mpr (by decide +kernel)) dX12_latest_5 ?_
    refine lv_tov (ri w_1 3) rfl ?_
    have h_2 : rg (ri w_1 3) 0 200 := GM.z0 hG0 (by rw [hT_w_1]; decide) (i := 3) (k := 3) (by decide +kernel) rfl
    have uh_2 := h_2.1
    have vh_2 := h_2.2
    replace hF := hF.trans (ap_n (vR_r hO_w_1 (by decide +kernel) rfl))
    refine lv_iconst (v := 1) hx hb dX12_latest_6 (by decide +kernel) ?_
    refine lv_isub hx hb dX12_latest_7 ?_
    refine lv_topi (fun x_4 ex_4 => ?_)
    replace hF := hF.trans (ap_n ex_4)
    have h_5 : rg x_4 (-1) 199 := rg_of_eq ex_4 (rg_sub h_2 (rg_k (1 : Int32) 1 rfl) (by decide +kernel))
    have uh_5 := h_5.1
    have vh_5 := h_5.2
    have tx_4 : (x_4).toInt = (ri w_1 3).toInt - 1 := by rw [ex_4]; exact i_sub_rg (a2 := (ri w_1 3).toInt) (b2 := 1) rfl rfl h_2 (rg_k (1 : Int32) 1 rfl) (by decide +kernel)
    refine lv_istore (lv' := [(4, .int x_4), (0, .ref this), (1, .int a0), (2, .int a1), (3, .int a2)]) hx hb dX12_latest_8 hl (by decide +kernel) rfl (fun ls hl => ?_)
    have L_130 : ∀ (n_129 : Nat) (x_97 : Int32) (H : Heap) (locs : List Loc) (ls : Array Slot), rg x_97 (-1) 199 → ((x_97).toInt - (-1)).toNat < n_129 → F = g_X12_latest_L10 a0 a1 a2 (vI 12 σ this I) (vJ 12 σ this J) (vR 12 σ this ri) (vL 12 σ this rj) (vQ 12 σ this rq) n_129 x_97 → FR 12 tg σ this (I, J, ri, rj, rq) (I, J, ri, rj, rq) → GM [] tg σ I ri I ri rq → va_P D vwCl (pq_P t σ (I, J, ri, rj, rq)) H → va_D A (pq_P t σ (I, J, ri, rj, rq)) → va_S A s.heap H locs → lv_has ls 6 [(0, .ref this), (1, .int a0), (2, .int a1), (3, .int a2), (4, .int x_97)] → W p l e ({ frames := 0, cells := 0, slots := 0, locals := 0 } : Room) s m (List.toArray ([.ref this, .int a0, .int a1, .int a2] : List Value)) below meth c H locs 0 0 Q (F0 m 10 ls []) := by
      intro n_129
      induction n_129 with
      | zero => intro x_97 H locs ls h_133 hm_128 hF hFr hG hP hD hS hl; exact absurd hm_128 (Nat.not_lt_zero _)
      | succ n_129 ih_131 =>
        intro x_97 H locs ls h_133 hm_128 hF hFr hG hP hD hS hl
        have uh_133 := h_133.1
        have vh_133 := h_133.2
        replace hF := hF.trans g_X12_latest_L10_e
        refine lv_iload hx hb dX12_latest_10 (lv_at hl 4 rfl) ?_
        refine lv_if_lt (tgt := 71) hx hb dX12_latest_12 (by decide +kernel) (fun c_134 => ?_) (fun c_134 => ?_)
        · replace hF := hF.trans (if_pos c_134)
          have tc_139 : (x_97).toInt < 0 := Int32.lt_iff_toInt_lt.mp c_134
          have h_140 : rg x_97 (-1) (-1) := rg_lt1 c_134 h_133 (rg_k (0 : Int32) 0 rfl) (by decide +kernel)
          have uh_140 := h_140.1
          have vh_140 := h_140.2
          refine lv_iconst (v := (-1)) hx hb dX12_latest_71 (by decide +kernel) ?_
          subst hQ
          exact W.iret (v := (-1)) hx hb hr (fun t1 ht hW => ⟨⟨(-1), (σ, I, J, ri, rj, rq), rfl, ⟨rfl, (hF0.symm.trans hF), (rg_w (rg_k (-1 : Int32) (-1) rfl) (by decide +kernel))⟩, by rw [ht]; exact hP, va_K.moved hW.alike hK, hD⟩, hS.F ht⟩) hS.2.2 dX12_latest_72
        · replace hF := hF.trans (if_neg c_134)
          have tc_141 : 0 ≤ (x_97).toInt := Int32.le_iff_toInt_le.mp (nlt c_134)
          have h_142 : rg x_97 0 199 := rg_le2 (nlt c_134) (rg_k (0 : Int32) 0 rfl) h_133 (by decide +kernel)
          have uh_142 := h_142.1
          have vh_142 := h_142.2
          refine lv_sipush (v := 1220) hx hb dX12_latest_15 (by decide +kernel) ?_
          refine lv_iconst (v := 5) hx hb dX12_latest_18 (by decide +kernel) ?_
          refine lv_iload hx hb dX12_latest_19 (lv_at hl 4 rfl) ?_
          refine lv_imul hx hb dX12_latest_21 ?_
          refine lv_topi (fun x_143 ex_143 => ?_)
          replace hF := hF.trans (ap_n ex_143)
          have h_144 : rg x_143 0 995 := rg_of_eq ex_143 (rg_mul (rg_k (5 : Int32) 5 rfl) h_142 (by decide +kernel))
          have uh_144 := h_144.1
          have vh_144 := h_144.2
          have tx_143 : (x_143).toInt = 5 * (x_97).toInt := by rw [ex_143]; exact i_mul_rg (a2 := 5) (b2 := (x_97).toInt) rfl rfl (rg_k (5 : Int32) 5 rfl) h_142 (by decide +kernel)
          refine lv_iadd hx hb dX12_latest_22 ?_
          refine lv_topi (fun x_145 ex_145 => ?_)
          replace hF := hF.trans (ap_n ex_145)
          have h_146 : rg x_145 1220 2215 := rg_of_eq ex_145 (rg_add (rg_k (1220 : Int32) 1220 rfl) h_144 (by decide +kernel))
          have uh_146 := h_146.1
          have vh_146 := h_146.2
          have tx_145 : (x_145).toInt = 1220 + (x_143).toInt := by rw [ex_145]; exact i_add_rg (a2 := 1220) (b2 := (x_143).toInt) rfl rfl (rg_k (1220 : Int32) 1220 rfl) h_144 (by decide +kernel)
          refine lv_istore (lv' := [(5, .int x_145), (0, .ref this), (1, .int a0), (2, .int a1), (3, .int a2), (4, .int x_97)]) hx hb dX12_latest_23 hl (by decide +kernel) rfl (fun ls hl => ?_)
          refine lv_aload_n hx hb dX12_latest_25 rfl (lv_at hl 1 rfl) ?_
          refine pg_f (v := .ref w_1) (C := RX12) (T := TX12) (N := 31) hx hb hts (tw_i inlX12) hown hK hP hL_this hK_this (by decide +kernel) rfl 0 (by decide +kernel) (hts _ (tw_c tw_176)) (pq_hv rfl hR_w_1) dX12_latest_26 ?_
          refine lv_iload hx hb dX12_latest_29 (lv_at hl 0 rfl) ?_
          refine pl_i hx hb hK hP hL_w_1 hK_w_1 hN_w_1 (rg_in h_146 (by decide +kernel)) dX12_latest_31 ?_
          refine lv_topi (fun x_147 ex_147 => ?_)
          replace hF := hF.trans (ap_n (vR_r hO_w_1 (by decide +kernel) ex_147))
          refine lv_iload_n hx hb dX12_latest_32 rfl (lv_at hl 2 rfl) ?_
          have K_167 : ∀  (H : Heap) (locs : List Loc) (ls : Array Slot), F = g_X12_latest_K65 x_97 (g_X12_latest_L10 a0 a1 a2 (vI 12 σ this I) (vJ 12 σ this J) (vR 12 σ this ri) (vL 12 σ this rj) (vQ 12 σ this rq) n_129)  → FR 12 tg σ this (I, J, ri, rj, rq) (I, J, ri, rj, rq) → GM [] tg σ I ri I ri rq → va_P D vwCl (pq_P t σ (I, J, ri, rj, rq)) H → va_D A (pq_P t σ (I, J, ri, rj, rq)) → va_S A s.heap H locs → lv_has ls 6 [(0, .ref this), (1, .int a0), (2, .int a1), (3, .int a2), (4, .int x_97)] → W p l e ({ frames := 0, cells := 0, slots := 0, locals := 0 } : Room) s m (List.toArray ([.ref this, .int a0, .int a1, .int a2] : List Value)) below meth c H locs 0 0 Q (F0 m 65 ls []) := by
            intro H locs ls hF hFr hG hP hD hS hl
            replace hF := hF.trans g_X12_latest_K65_e
            obtain ⟨x_168, ex_168⟩ : ∃ y : Int32, y = x_97 + Int32.ofInt (-1) := ⟨_, rfl⟩
            replace hF := hF.trans (ap_n ex_168)
            have h_169 : rg x_168 (-1) 198 := rg_of_eq ex_168 (rg_add h_142 (rg_k (Int32.ofInt (-1)) (-1) rfl) (by decide +kernel))
            have uh_169 := h_169.1
            have vh_169 := h_169.2
            have tx_168 : (x_168).toInt = (x_97).toInt + (-1) := by rw [ex_168]; exact i_add_rg (a2 := (x_97).toInt) (b2 := (-1)) rfl rfl h_142 (rg_k (Int32.ofInt (-1)) (-1) rfl) (by decide +kernel)
            refine lv_iinc (v := x_168) (lv' := [(4, .int x_168), (0, .ref this), (1, .int a0), (2, .int a1), (3, .int a2)]) hx hb dX12_latest_65 hl (k := 4) rfl ex_168.symm (by decide +kernel) rfl (fun ls hl => ?_)
            refine lv_goto (tgt := 10) hx hb dX12_latest_68 (by decide +kernel) ?_
            exact ih_131 x_168 _ _ _ (rg_w h_169 (by decide +kernel)) (ms_dn 1 hm_128 ex_168 rfl (by decide +kernel) h_142 (by decide +kernel) (by decide +kernel)) hF hFr hG hP hD hS (lv_sub hl [1, 2, 3, 4, 0] rfl)
          refine lv_icmp_ne (tgt := 65) hx hb dX12_latest_33 (by decide +kernel) (fun c_170 => ?_) (fun c_170 => ?_)
          · replace hF := hF.trans (if_neg c_170)
            have tc_173 : (x_147).toInt ≠ (a0).toInt := fun q => c_170 (Int32.toInt_inj.mp q)
            exact K_167 _ _ _ hF hFr hG hP hD hS (lv_sub hl [1, 2, 3, 4, 5] rfl)
          · replace hF := hF.trans (if_pos c_170)
            have tc_174 : (x_147).toInt = (a0).toInt := congrArg Int32.toInt c_170
            refine lv_aload_n hx hb dX12_latest_36 rfl (lv_at hl 1 rfl) ?_
            refine pg_f (v := .ref w_1) (C := RX12) (T := TX12) (N := 31) hx hb hts (tw_i inlX12) hown hK hP hL_this hK_this (by decide +kernel) rfl 0 (by decide +kernel) (hts _ (tw_c tw_176)) (pq_hv rfl hR_w_1) dX12_latest_37 ?_
            refine lv_iload hx hb dX12_latest_40 (lv_at hl 0 rfl) ?_
            refine lv_iconst (v := 1) hx hb dX12_latest_42 (by decide +kernel) ?_
            refine lv_iadd hx hb dX12_latest_43 ?_
            refine lv_topi (fun x_175 ex_175 => ?_)
            replace hF := hF.trans (ap_n ex_175)
            have h_176 : rg x_175 1221 2216 := rg_of_eq ex_175 (rg_add h_146 (rg_k (1 : Int32) 1 rfl) (by decide +kernel))
            have uh_176 := h_176.1
            have vh_176 := h_176.2
            have tx_175 : (x_175).toInt = (x_145).toInt + 1 := by rw [ex_175]; exact i_add_rg (a2 := (x_145).toInt) (b2 := 1) rfl rfl h_146 (rg_k (1 : Int32) 1 rfl) (by decide +kernel)
            refine pl_i hx hb hK hP hL_w_1 hK_w_1 hN_w_1 (rg_in h_176 (by decide +kernel)) dX12_latest_44 ?_
            refine lv_topi (fun x_177 ex_177 => ?_)
            replace hF := hF.trans (ap_n (vR_r hO_w_1 (by decide +kernel) ex_177))
            refine lv_iload_n hx hb dX12_latest_45 rfl (lv_at hl 3 rfl) ?_
            refine lv_icmp_ne (tgt := 65) hx hb dX12_latest_46 (by decide +kernel) (fun c_178 => ?_) (fun c_178 => ?_)
            · replace hF := hF.trans (if_neg c_178)
              have tc_181 : (x_177).toInt ≠ (a1).toInt := fun q => c_178 (Int32.toInt_inj.mp q)
              exact K_167 _ _ _ hF hFr hG hP hD hS (lv_sub hl [1, 2, 3, 4, 5] rfl)
            · replace hF := hF.trans (if_pos c_178)
              have tc_182 : (x_177).toInt = (a1).toInt := congrArg Int32.toInt c_178
              refine lv_aload_n hx hb dX12_latest_49 rfl (lv_at hl 1 rfl) ?_
              refine pg_f (v := .ref w_1) (C := RX12) (T := TX12) (N := 31) hx hb hts (tw_i inlX12) hown hK hP hL_this hK_this (by decide +kernel) rfl 0 (by decide +kernel) (hts _ (tw_c tw_176)) (pq_hv rfl hR_w_1) dX12_latest_50 ?_
              refine lv_iload hx hb dX12_latest_53 (lv_at hl 0 rfl) ?_
              refine lv_iconst (v := 4) hx hb dX12_latest_55 (by decide +kernel) ?_
              refine lv_iadd hx hb dX12_latest_56 ?_
              refine lv_topi (fun x_183 ex_183 => ?_)
              replace hF := hF.trans (ap_n ex_183)
              have h_184 : rg x_183 1224 2219 := rg_of_eq ex_183 (rg_add h_146 (rg_k (4 : Int32) 4 rfl) (by decide +kernel))
              have uh_184 := h_184.1
              have vh_184 := h_184.2
              have tx_183 : (x_183).toInt = (x_145).toInt + 4 := by rw [ex_183]; exact i_add_rg (a2 := (x_145).toInt) (b2 := 4) rfl rfl h_146 (rg_k (4 : Int32) 4 rfl) (by decide +kernel)
              refine pl_i hx hb hK hP hL_w_1 hK_w_1 hN_w_1 (rg_in h_184 (by decide +kernel)) dX12_latest_57 ?_
              refine lv_topi (fun x_185 ex_185 => ?_)
              replace hF := hF.trans (ap_n (vR_r hO_w_1 (by decide +kernel) ex_185))
              refine lv_iload_n hx hb dX12_latest_58 rfl (lv_at hl 4 rfl) ?_
              refine lv_icmp_gt (tgt := 65) hx hb dX12_latest_59 (by decide +kernel) (fun c_186 => ?_) (fun c_186 => ?_)
              · replace hF := hF.trans (if_pos c_186)
                have tc_191 : (a2).toInt < (x_185).toInt := Int32.lt_iff_toInt_lt.mp c_186
                have h_192 : rg a2 (-2147483648) 2147483646 := rg_lt1 c_186 (rg_full _) (rg_full _) (by decide +kernel)
                have uh_192 := h_192.1
                have vh_192 := h_192.2
                have h_193 : rg x_185 (-2147483647) 2147483647 := rg_lt2 c_186 (rg_full _) (rg_full _) (by decide +kernel)
                have uh_193 := h_193.1
                have vh_193 := h_193.2
                exact K_167 _ _ _ hF hFr hG hP hD hS (lv_sub hl [1, 2, 3, 4, 5] rfl)
              · replace hF := hF.trans (if_neg c_186)
                have tc_194 : (x_185).toInt ≤ (a2).toInt := Int32.le_iff_toInt_le.mp (nlt c_186)
                refine lv_iload hx hb dX12_latest_62 (lv_at hl 0 rfl) ?_
                subst hQ
                exact W.iret (v := x_145) hx hb hr (fun t1 ht hW => ⟨⟨x_145, (σ, I, J, ri, rj, rq), rfl, ⟨rfl, (hF0.symm.trans hF), (rg_w h_146 (by decide +kernel))⟩, by rw [ht]; exact hP, va_K.moved hW.alike hK, hD⟩, hS.F ht⟩) hS.2.2 dX12_latest_64
    exact L_130 _ x_4 _ _ _ (rg_w h_5 (by decide +kernel)) (Nat.lt_succ_self _) hF hFr hG hP hD hS (lv_sub hl [1, 2, 3, 4, 0] rfl)
  exact go _ _ _ hP hD hS hl

set_option maxRecDepth 100000 in
def g_X12_worst_K99 (x_936 : Int32) (k_g_X12_worst_L8 : (Int32) → (Int32) → (Int32) → Int32 × vM) (x_1050 : Int32) (x_1051 : Int32) : Int32 × vM := (ap1 (x_936 + Int32.ofInt 1) fun (x_1058 : Int32) => (k_g_X12_worst_L8 x_1050 x_1051 x_1058))
set_option maxRecDepth 100000 in
theorem g_X12_worst_K99_e {x_936 : Int32} {k_g_X12_worst_L8 : (Int32) → (Int32) → (Int32) → Int32 × vM} {x_1050 : Int32} {x_1051 : Int32} : g_X12_worst_K99 x_936 k_g_X12_worst_L8 x_1050 x_1051 = (ap1 (x_936 + Int32.ofInt 1) fun (x_1058 : Int32) => (k_g_X12_worst_L8 x_1050 x_1051 x_1058)) := rfl
set_option maxRecDepth 100000 in
def g_X12_worst_K86 (ri : Nat → Nat → Int32) (x_936 : Int32) (x_1013 : Int32) (k_g_X12_worst_L8 : (Int32) → (Int32) → (Int32) → Int32 × vM) : Int32 × vM := (ap1 (x_1013 + (3 : Int32)) fun (x_1104 : Int32) => (ap1 (ri 384 (x_1104).toNatClampNeg) fun (x_1106 : Int32) => (g_X12_worst_K99 x_936 k_g_X12_worst_L8 x_1106 (1 : Int32))))
set_option maxRecDepth 100000 in
theorem g_X12_worst_K86_e {ri : Nat → Nat → Int32} {x_936 : Int32} {x_1013 : Int32} {k_g_X12_worst_L8 : (Int32) → (Int32) → (Int32) → Int32 × vM} : g_X12_worst_K86 ri x_936 x_1013 k_g_X12_worst_L8  = (ap1 (x_1013 + (3 : Int32)) fun (x_1104 : Int32) => (ap1 (ri 384 (x_1104).toNatClampNeg) fun (x_1106 : Int32) => (g_X12_worst_K99 x_936 k_g_X12_worst_L8 x_1106 (1 : Int32)))) := rfl
set_option maxRecDepth 100000 in
def g_X12_worst_L8 (a0 : Int32) (a1 : Int32) (I : Nat → Int32) (J : Nat → Int64) (ri : Nat → Nat → Int32) (rj : Nat → Nat → Int64) (rq : Nat → Nat → Option Nat) : Nat → (Int32) → (Int32) → (Int32) → Int32 × vM
  | 0, x_934, x_935, x_936 => ((0 : Int32), I, J, ri, rj, rq)
  | n_992 + 1, x_934, x_935, x_936 => (ap1 (ri 384 3) fun (y_1001 : Int32) => (if (y_1001) ≤ x_936 then (x_934, I, J, ri, rj, rq) else (ap1 ((5 : Int32) * x_936) fun (x_1011 : Int32) => (ap1 ((1220 : Int32) + x_1011) fun (x_1013 : Int32) => (ap1 (ri 384 (x_1013).toNatClampNeg) fun (x_1015 : Int32) => (if x_1015 = a0 then (ap1 (x_1013 + (2 : Int32)) fun (x_1065 : Int32) => (ap1 (ri 384 (x_1065).toNatClampNeg) fun (x_1067 : Int32) => (if x_1067 = (0 : Int32) then (g_X12_worst_K99 x_936 (g_X12_worst_L8 a0 a1 I J ri rj rq n_992) x_934 x_935) else (ap1 (x_1013 + (4 : Int32)) fun (x_1075 : Int32) => (ap1 (ri 384 (x_1075).toNatClampNeg) fun (x_1077 : Int32) => (if a1 < x_1077 then (g_X12_worst_K99 x_936 (g_X12_worst_L8 a0 a1 I J ri rj rq n_992) x_934 x_935) else (if x_935 = (0 : Int32) then (g_X12_worst_K86 ri x_936 x_1013 (g_X12_worst_L8 a0 a1 I J ri rj rq n_992) ) else (ap1 (x_1013 + (3 : Int32)) fun (x_1116 : Int32) => (ap1 (ri 384 (x_1116).toNatClampNeg) fun (x_1118 : Int32) => (if x_934 < x_1118 then (g_X12_worst_K86 ri x_936 x_1013 (g_X12_worst_L8 a0 a1 I J ri rj rq n_992) ) else (g_X12_worst_K99 x_936 (g_X12_worst_L8 a0 a1 I J ri rj rq n_992) x_934 x_935))))))))))) else (g_X12_worst_K99 x_936 (g_X12_worst_L8 a0 a1 I J ri rj rq n_992) x_934 x_935)))))))
set_option maxRecDepth 100000 in
theorem g_X12_worst_L8_e {a0 : Int32} {a1 : Int32} {I : Nat → Int32} {J : Nat → Int64} {ri : Nat → Nat → Int32} {rj : Nat → Nat → Int64} {rq : Nat → Nat → Option Nat} {n_992 : Nat} {x_934 : Int32} {x_935 : Int32} {x_936 : Int32} : g_X12_worst_L8 a0 a1 I J ri rj rq (n_992 + 1) x_934 x_935 x_936 = (ap1 (ri 384 3) fun (y_1001 : Int32) => (if (y_1001) ≤ x_936 then (x_934, I, J, ri, rj, rq) else (ap1 ((5 : Int32) * x_936) fun (x_1011 : Int32) => (ap1 ((1220 : Int32) + x_1011) fun (x_1013 : Int32) => (ap1 (ri 384 (x_1013).toNatClampNeg) fun (x_1015 : Int32) => (if x_1015 = a0 then (ap1 (x_1013 + (2 : Int32)) fun (x_1065 : Int32) => (ap1 (ri 384 (x_1065).toNatClampNeg) fun (x_1067 : Int32) => (if x_1067 = (0 : Int32) then (g_X12_worst_K99 x_936 (g_X12_worst_L8 a0 a1 I J ri rj rq n_992) x_934 x_935) else (ap1 (x_1013 + (4 : Int32)) fun (x_1075 : Int32) => (ap1 (ri 384 (x_1075).toNatClampNeg) fun (x_1077 : Int32) => (if a1 < x_1077 then (g_X12_worst_K99 x_936 (g_X12_worst_L8 a0 a1 I J ri rj rq n_992) x_934 x_935) else (if x_935 = (0 : Int32) then (g_X12_worst_K86 ri x_936 x_1013 (g_X12_worst_L8 a0 a1 I J ri rj rq n_992) ) else (ap1 (x_1013 + (3 : Int32)) fun (x_1116 : Int32) => (ap1 (ri 384 (x_1116).toNatClampNeg) fun (x_1118 : Int32) => (if x_934 < x_1118 then (g_X12_worst_K86 ri x_936 x_1013 (g_X12_worst_L8 a0 a1 I J ri rj rq n_992) ) else (g_X12_worst_K99 x_936 (g_X12_worst_L8 a0 a1 I J ri rj rq n_992) x_934 x_935))))))))))) else (g_X12_worst_K99 x_936 (g_X12_worst_L8 a0 a1 I J ri rj rq n_992) x_934 x_935))))))) := rfl
set_option maxRecDepth 100000 in
def g_X12_worst (a0 : Int32) (a1 : Int32) (I : Nat → Int32) (J : Nat → Int64) (ri : Nat → Nat → Int32) (rj : Nat → Nat → Int64) (rq : Nat → Nat → Option Nat) : Int32 × vM := (g_X12_worst_L8 a0 a1 I J ri rj rq ((200 - ((0 : Int32)).toInt).toNat + 1) (0 : Int32) (0 : Int32) (0 : Int32))
set_option maxRecDepth 100000 in
theorem g_X12_worst_e {a0 : Int32} {a1 : Int32} {I : Nat → Int32} {J : Nat → Int64} {ri : Nat → Nat → Int32} {rj : Nat → Nat → Int64} {rq : Nat → Nat → Option Nat} : g_X12_worst a0 a1 I J ri rj rq = (g_X12_worst_L8 a0 a1 I J ri rj rq ((200 - ((0 : Int32)).toInt).toNat + 1) (0 : Int32) (0 : Int32) (0 : Int32)) := rfl
set_option maxHeartbeats 4000000 in
set_option maxRecDepth 100000 in
theorem s_X12_worst (l : Launch) (D : va_G) (t : pq_T) (σ : pq_S) (I : Nat → Nat → Int32) (J : Nat → Nat → Int64) (ri : Nat → Nat → Int32) (rj : Nat → Nat → Int64) (rq : Nat → Nat → Option Nat) (sz : Nat) (tg : Nat → Nat) (hSH : SH σ tg) (hG0 : GT tg I ri) (this : Nat) (a0 : Int32) (a1 : Int32) (hL_this : this ∈ σ.1) (hK_this : σ.2.1 this = 12) : MetI l yX12_worst (wa yX12_worst cX12_worst 7 (some .int)) ({ frames := 0, cells := 0, slots := 0, locals := 0 }) [.ref this, .int a0, .int a1] D t σ (I, J, ri, rj, rq) sz 0 0 (fun (r : Int32) (u : pq_S × pq_M) => u = (σ, I, J, ri, rj, rq) ∧ g_X12_worst a0 a1 (vI 12 σ this I) (vJ 12 σ this J) (vR 12 σ this ri) (vL 12 σ this rj) (vQ 12 σ this rq) = (r, (vI 12 σ this I), (vJ 12 σ this J), (vR 12 σ this ri), (vL 12 σ this rj), (vQ 12 σ this rq))) := by
  refine Met.ofW (cc := cX12_worst) (maxL := 7) (ret := (some .int)) (by decide +kernel) rfl ?_
  intro p e s m args below meth c s₁ B hml hv
  obtain ⟨rfl, hsz, hP, hK, hD0, hN⟩ := hv
  have hx := B.exec
  have hb := B.bytes
  have hr := B.returns
  have hts := atoms_spec (ws := (wa yX12_worst cX12_worst 7 (some .int))) B.pre
  have hown : s.vm.findClass RX12 = some m.cls := findClass_of_methodNamed B.named
  have hlocks := B.notSynchronized
  subst hsz
  have hD : va_D (pq_B t σ (I, J, ri, rj, rq) s.heap.size) (pq_P t σ (I, J, ri, rj, rq)) := hD0.self
  generalize hAe : pq_B t σ (I, J, ri, rj, rq) s.heap.size = A at hD ⊢
  have hA : ∀ q : Nat, s.heap.size ≤ q → A q := fun q h => by rw [← hAe]; exact Or.inr h
  have hS : va_S A s.heap s.heap [] := va_S.rf
  have hG : GM [] tg σ I ri I ri rq := ⟨hG0, fun _ _ _ => rfl, fun _ _ _ _ _ => rfl, fun _ _ _ _ _ _ => rfl⟩
  have hl := lv_entry ([.ref this, .int a0, .int a1]) (n := 7) (Nat.le_of_ble_eq_true rfl)
  rw [lg_entry_eq]
  generalize (lg_sl ([.ref this, .int a0, .int a1]) ++ List.replicate (7 - (lg_sl ([.ref this, .int a0, .int a1])).length) Slot.unset).toArray = ls at hl ⊢
  have hl : lv_has ls 7 [(0, .ref this), (1, .int a0), (2, .int a1)] := hl
  refine q_gen (fun Q hQ => ?_)
  have go : ∀ (H : Heap) (locs : List Loc) (ls : Array Slot), va_P D vwCl (pq_P t σ (I, J, ri, rj, rq)) H → va_D A (pq_P t σ (I, J, ri, rj, rq)) → va_S A s.heap H locs → lv_has ls 7 [(0, .ref this), (1, .int a0), (2, .int a1)] → W p l e ({ frames := 0, cells := 0, slots := 0, locals := 0 } : Room) s m (List.toArray ([.ref this, .int a0, .int a1] : List Value)) below meth c H locs 0 0 Q (F0 m 0 ls []) := by
    intro H locs ls hP hD hS hl
    have hO_this : this = vo σ 12 this := rfl
    have hVT : VT 12 σ tg this := vt_12 hSH hL_this hK_this
    have hFr : FR 12 tg σ this (I, J, ri, rj, rq) (I, J, ri, rj, rq) := fr_rf
    obtain ⟨F, hF0⟩ : ∃ F, F = g_X12_worst a0 a1 (vI 12 σ this I) (vJ 12 σ this J) (vR 12 σ this ri) (vL 12 σ this rj) (vQ 12 σ this rq) := ⟨_, rfl⟩
    have hF := hF0.trans g_X12_worst_e
    refine lv_iconst (v := 0) hx hb dX12_worst_0 (by decide +kernel) ?_
    refine lv_istore_n (lv' := [(3, .int 0), (0, .ref this), (1, .int a0), (2, .int a1)]) hx hb dX12_worst_1 rfl hl (by decide +kernel) rfl (fun ls hl => ?_)
    refine lv_iconst (v := 0) hx hb dX12_worst_2 (by decide +kernel) ?_
    refine lv_istore (lv' := [(4, .int 0), (3, .int 0), (0, .ref this), (1, .int a0), (2, .int a1)]) hx hb dX12_worst_3 hl (by decide +kernel) rfl (fun ls hl => ?_)
    refine lv_iconst (v := 0) hx hb dX12_worst_5 (by decide +kernel) ?_
    refine lv_istore (lv' := [(5, .int 0), (4, .int 0), (3, .int 0), (0, .ref this), (1, .int a0), (2, .int a1)]) hx hb dX12_worst_6 hl (by decide +kernel) rfl (fun ls hl => ?_)
    have L_993 : ∀ (n_992 : Nat) (x_934 : Int32) (x_935 : Int32) (x_936 : Int32) (H : Heap) (locs : List Loc) (ls : Array Slot), rg x_935 0 1 → rg x_936 0 200 → (200 - (x_936).toInt).toNat < n_992 → F = g_X12_worst_L8 a0 a1 (vI 12 σ this I) (vJ 12 σ this J) (vR 12 σ this ri) (vL 12 σ this rj) (vQ 12 σ this rq) n_992 x_934 x_935 x_936 → FR 12 tg σ this (I, J, ri, rj, rq) (I, J, ri, rj, rq) → GM [] tg σ I ri I ri rq → va_P D vwCl (pq_P t σ (I, J, ri, rj, rq)) H → va_D A (pq_P t σ (I, J, ri, rj, rq)) → va_S A s.heap H locs → lv_has ls 7 [(0, .ref this), (1, .int a0), (2, .int a1), (3, .int x_934), (4, .int x_935), (5, .int x_936)] → W p l e ({ frames := 0, cells := 0, slots := 0, locals := 0 } : Room) s m (List.toArray ([.ref this, .int a0, .int a1] : List Value)) below meth c H locs 0 0 Q (F0 m 8 ls []) := by
      intro n_992
      induction n_992 with
      | zero => intro x_934 x_935 x_936 H locs ls h_997 h_998 hm_991 hF hFr hG hP hD hS hl; exact absurd hm_991 (Nat.not_lt_zero _)
      | succ n_992 ih_994 =>
        intro x_934 x_935 x_936 H locs ls h_997 h_998 hm_991 hF hFr hG hP hD hS hl
        have uh_997 := h_997.1
        have vh_997 := h_997.2
        have uh_998 := h_998.1
        have vh_998 := h_998.2
        replace hF := hF.trans g_X12_worst_L8_e
        refine lv_iload hx hb dX12_worst_8 (lv_at hl 5 rfl) ?_
        refine lv_aload_n hx hb dX12_worst_10 rfl (lv_at hl 0 rfl) ?_
        obtain ⟨w_999, hR_w_999, hL_w_999, hK_w_999, hN_w_999, hT_w_999⟩ := sh_a hSH 384 (ci := 12) (kd := 13) (len := 12720) rfl (by decide +kernel) hL_this hK_this
        have hO_w_999 : w_999 = vrow σ 384 this := vo_k (c := 12) hO_this hR_w_999
        refine pg_f (v := .ref w_999) (C := RX12) (T := TX12) (N := 31) hx hb hts (tw_i inlX12) hown hK hP hL_this hK_this (by decide +kernel) rfl 0 (by decide +kernel) (hts _ (tw_c tw_176)) (pq_hv rfl hR_w_999) dX12_worst_11 ?_
        refine lv_iconst (v := 3) hx hb dX12_worst_14 (by decide +kernel) ?_
        refine pl_i hx hb hK hP hL_w_999 hK_w_999 hN_w_999 (vp_in_iff.mpr (by decide +kernel)) dX12_worst_15 ?_
        refine lv_tov (ri w_999 3) rfl ?_
        have h_1000 : rg (ri w_999 3) 0 200 := GM.z0 hG0 (by rw [hT_w_999]; decide) (i := 3) (k := 3) (by decide +kernel) rfl
        have uh_1000 := h_1000.1
        have vh_1000 := h_1000.2
        replace hF := hF.trans (ap_n (vR_r hO_w_999 (by decide +kernel) rfl))
        refine lv_icmp_ge (tgt := 105) hx hb dX12_worst_16 (by decide +kernel) (fun c_1002 => ?_) (fun c_1002 => ?_)
        · replace hF := hF.trans (if_pos c_1002)
          have tc_1007 : (ri w_999 3).toInt ≤ (x_936).toInt := Int32.le_iff_toInt_le.mp c_1002
          refine lv_iload_n hx hb dX12_worst_105 rfl (lv_at hl 3 rfl) ?_
          subst hQ
          exact W.iret (v := x_934) hx hb hr (fun t1 ht hW => ⟨⟨x_934, (σ, I, J, ri, rj, rq), rfl, ⟨rfl, (hF0.symm.trans hF)⟩, by rw [ht]; exact hP, va_K.moved hW.alike hK, hD⟩, hS.F ht⟩) hS.2.2 dX12_worst_106
        · replace hF := hF.trans (if_neg c_1002)
          have tc_1008 : (x_936).toInt < (ri w_999 3).toInt := Int32.lt_iff_toInt_lt.mp (nle c_1002)
          have h_1009 : rg x_936 0 199 := rg_lt1 (nle c_1002) h_998 h_1000 (by decide +kernel)
          have uh_1009 := h_1009.1
          have vh_1009 := h_1009.2
          have h_1010 : rg (ri w_999 3) 1 200 := rg_lt2 (nle c_1002) h_998 h_1000 (by decide +kernel)
          have uh_1010 := h_1010.1
          have vh_1010 := h_1010.2
          refine lv_sipush (v := 1220) hx hb dX12_worst_19 (by decide +kernel) ?_
          refine lv_iconst (v := 5) hx hb dX12_worst_22 (by decide +kernel) ?_
          refine lv_iload hx hb dX12_worst_23 (lv_at hl 5 rfl) ?_
          refine lv_imul hx hb dX12_worst_25 ?_
          refine lv_topi (fun x_1011 ex_1011 => ?_)
          replace hF := hF.trans (ap_n ex_1011)
          have h_1012 : rg x_1011 0 995 := rg_of_eq ex_1011 (rg_mul (rg_k (5 : Int32) 5 rfl) h_1009 (by decide +kernel))
          have uh_1012 := h_1012.1
          have vh_1012 := h_1012.2
          have tx_1011 : (x_1011).toInt = 5 * (x_936).toInt := by rw [ex_1011]; exact i_mul_rg (a2 := 5) (b2 := (x_936).toInt) rfl rfl (rg_k (5 : Int32) 5 rfl) h_1009 (by decide +kernel)
          refine lv_iadd hx hb dX12_worst_26 ?_
          refine lv_topi (fun x_1013 ex_1013 => ?_)
          replace hF := hF.trans (ap_n ex_1013)
          have h_1014 : rg x_1013 1220 2215 := rg_of_eq ex_1013 (rg_add (rg_k (1220 : Int32) 1220 rfl) h_1012 (by decide +kernel))
          have uh_1014 := h_1014.1
          have vh_1014 := h_1014.2
          have tx_1013 : (x_1013).toInt = 1220 + (x_1011).toInt := by rw [ex_1013]; exact i_add_rg (a2 := 1220) (b2 := (x_1011).toInt) rfl rfl (rg_k (1220 : Int32) 1220 rfl) h_1012 (by decide +kernel)
          refine lv_istore (lv' := [(6, .int x_1013), (0, .ref this), (1, .int a0), (2, .int a1), (3, .int x_934), (4, .int x_935), (5, .int x_936)]) hx hb dX12_worst_27 hl (by decide +kernel) rfl (fun ls hl => ?_)
          refine lv_aload_n hx hb dX12_worst_29 rfl (lv_at hl 1 rfl) ?_
          refine pg_f (v := .ref w_999) (C := RX12) (T := TX12) (N := 31) hx hb hts (tw_i inlX12) hown hK hP hL_this hK_this (by decide +kernel) rfl 0 (by decide +kernel) (hts _ (tw_c tw_176)) (pq_hv rfl hR_w_999) dX12_worst_30 ?_
          refine lv_iload hx hb dX12_worst_33 (lv_at hl 0 rfl) ?_
          refine pl_i hx hb hK hP hL_w_999 hK_w_999 hN_w_999 (rg_in h_1014 (by decide +kernel)) dX12_worst_35 ?_
          refine lv_topi (fun x_1015 ex_1015 => ?_)
          replace hF := hF.trans (ap_n (vR_r hO_w_999 (by decide +kernel) ex_1015))
          refine lv_iload_n hx hb dX12_worst_36 rfl (lv_at hl 2 rfl) ?_
          have K_1055 : ∀  (x_1050 : Int32) (x_1051 : Int32) (H : Heap) (locs : List Loc) (ls : Array Slot), rg x_1051 0 1 → F = g_X12_worst_K99 x_936 (g_X12_worst_L8 a0 a1 (vI 12 σ this I) (vJ 12 σ this J) (vR 12 σ this ri) (vL 12 σ this rj) (vQ 12 σ this rq) n_992) x_1050 x_1051 → FR 12 tg σ this (I, J, ri, rj, rq) (I, J, ri, rj, rq) → GM [] tg σ I ri I ri rq → va_P D vwCl (pq_P t σ (I, J, ri, rj, rq)) H → va_D A (pq_P t σ (I, J, ri, rj, rq)) → va_S A s.heap H locs → lv_has ls 7 [(0, .ref this), (1, .int a0), (2, .int a1), (3, .int x_1050), (4, .int x_1051), (5, .int x_936)] → W p l e ({ frames := 0, cells := 0, slots := 0, locals := 0 } : Room) s m (List.toArray ([.ref this, .int a0, .int a1] : List Value)) below meth c H locs 0 0 Q (F0 m 99 ls []) := by
            intro x_1050 x_1051 H locs ls h_1057 hF hFr hG hP hD hS hl
            have uh_1057 := h_1057.1
            have vh_1057 := h_1057.2
            replace hF := hF.trans g_X12_worst_K99_e
            obtain ⟨x_1058, ex_1058⟩ : ∃ y : Int32, y = x_936 + Int32.ofInt 1 := ⟨_, rfl⟩
            replace hF := hF.trans (ap_n ex_1058)
            have h_1059 : rg x_1058 1 200 := rg_of_eq ex_1058 (rg_add h_1009 (rg_k (Int32.ofInt 1) 1 rfl) (by decide +kernel))
            have uh_1059 := h_1059.1
            have vh_1059 := h_1059.2
            have tx_1058 : (x_1058).toInt = (x_936).toInt + 1 := by rw [ex_1058]; exact i_add_rg (a2 := (x_936).toInt) (b2 := 1) rfl rfl h_1009 (rg_k (Int32.ofInt 1) 1 rfl) (by decide +kernel)
            refine lv_iinc (v := x_1058) (lv' := [(5, .int x_1058), (0, .ref this), (1, .int a0), (2, .int a1), (3, .int x_1050), (4, .int x_1051)]) hx hb dX12_worst_99 hl (k := 5) rfl ex_1058.symm (by decide +kernel) rfl (fun ls hl => ?_)
            refine lv_goto (tgt := 8) hx hb dX12_worst_102 (by decide +kernel) ?_
            exact ih_994 x_1050 x_1051 x_1058 _ _ _ (rg_w h_1057 (by decide +kernel)) (rg_w h_1059 (by decide +kernel)) (ms_up 1 hm_991 ex_1058 rfl (by decide +kernel) h_1009 (by decide +kernel) (by decide +kernel)) hF hFr hG hP hD hS (lv_sub hl [1, 2, 3, 4, 5, 0] rfl)
          refine lv_icmp_ne (tgt := 99) hx hb dX12_worst_37 (by decide +kernel) (fun c_1060 => ?_) (fun c_1060 => ?_)
          · replace hF := hF.trans (if_neg c_1060)
            have tc_1063 : (x_1015).toInt ≠ (a0).toInt := fun q => c_1060 (Int32.toInt_inj.mp q)
            exact K_1055 x_934 x_935 _ _ _ (rg_w h_997 (by decide +kernel)) hF hFr hG hP hD hS (lv_sub hl [1, 2, 3, 4, 5, 6] rfl)
          · replace hF := hF.trans (if_pos c_1060)
            have tc_1064 : (x_1015).toInt = (a0).toInt := congrArg Int32.toInt c_1060
            refine lv_aload_n hx hb dX12_worst_40 rfl (lv_at hl 1 rfl) ?_
            refine pg_f (v := .ref w_999) (C := RX12) (T := TX12) (N := 31) hx hb hts (tw_i inlX12) hown hK hP hL_this hK_this (by decide +kernel) rfl 0 (by decide +kernel) (hts _ (tw_c tw_176)) (pq_hv rfl hR_w_999) dX12_worst_41 ?_
            refine lv_iload hx hb dX12_worst_44 (lv_at hl 0 rfl) ?_
            refine lv_iconst (v := 2) hx hb dX12_worst_46 (by decide +kernel) ?_
            refine lv_iadd hx hb dX12_worst_47 ?_
            refine lv_topi (fun x_1065 ex_1065 => ?_)
            replace hF := hF.trans (ap_n ex_1065)
            have h_1066 : rg x_1065 1222 2217 := rg_of_eq ex_1065 (rg_add h_1014 (rg_k (2 : Int32) 2 rfl) (by decide +kernel))
            have uh_1066 := h_1066.1
            have vh_1066 := h_1066.2
            have tx_1065 : (x_1065).toInt = (x_1013).toInt + 2 := by rw [ex_1065]; exact i_add_rg (a2 := (x_1013).toInt) (b2 := 2) rfl rfl h_1014 (rg_k (2 : Int32) 2 rfl) (by decide +kernel)
            refine pl_i hx hb hK hP hL_w_999 hK_w_999 hN_w_999 (rg_in h_1066 (by decide +kernel)) dX12_worst_48 ?_
            refine lv_topi (fun x_1067 ex_1067 => ?_)
            replace hF := hF.trans (ap_n (vR_r hO_w_999 (by decide +kernel) ex_1067))
            refine lv_if_eq (tgt := 99) hx hb dX12_worst_49 (by decide +kernel) (fun c_1068 => ?_) (fun c_1068 => ?_)
            · replace hF := hF.trans (if_pos c_1068)
              have tc_1072 : (x_1067).toInt = 0 := congrArg Int32.toInt c_1068
              have h_1073 : rg x_1067 0 0 := rg_and (rg_full _) (rg_of_eq c_1068 (rg_k (0 : Int32) 0 rfl)) (by decide +kernel)
              have uh_1073 := h_1073.1
              have vh_1073 := h_1073.2
              exact K_1055 x_934 x_935 _ _ _ (rg_w h_997 (by decide +kernel)) hF hFr hG hP hD hS (lv_sub hl [1, 2, 3, 4, 5, 6] rfl)
            · replace hF := hF.trans (if_neg c_1068)
              have tc_1074 : (x_1067).toInt ≠ 0 := fun q => c_1068 (Int32.toInt_inj.mp q)
              refine lv_aload_n hx hb dX12_worst_52 rfl (lv_at hl 1 rfl) ?_
              refine pg_f (v := .ref w_999) (C := RX12) (T := TX12) (N := 31) hx hb hts (tw_i inlX12) hown hK hP hL_this hK_this (by decide +kernel) rfl 0 (by decide +kernel) (hts _ (tw_c tw_176)) (pq_hv rfl hR_w_999) dX12_worst_53 ?_
              refine lv_iload hx hb dX12_worst_56 (lv_at hl 0 rfl) ?_
              refine lv_iconst (v := 4) hx hb dX12_worst_58 (by decide +kernel) ?_
              refine lv_iadd hx hb dX12_worst_59 ?_
              refine lv_topi (fun x_1075 ex_1075 => ?_)
              replace hF := hF.trans (ap_n ex_1075)
              have h_1076 : rg x_1075 1224 2219 := rg_of_eq ex_1075 (rg_add h_1014 (rg_k (4 : Int32) 4 rfl) (by decide +kernel))
              have uh_1076 := h_1076.1
              have vh_1076 := h_1076.2
              have tx_1075 : (x_1075).toInt = (x_1013).toInt + 4 := by rw [ex_1075]; exact i_add_rg (a2 := (x_1013).toInt) (b2 := 4) rfl rfl h_1014 (rg_k (4 : Int32) 4 rfl) (by decide +kernel)
              refine pl_i hx hb hK hP hL_w_999 hK_w_999 hN_w_999 (rg_in h_1076 (by decide +kernel)) dX12_worst_60 ?_
              refine lv_topi (fun x_1077 ex_1077 => ?_)
              replace hF := hF.trans (ap_n (vR_r hO_w_999 (by decide +kernel) ex_1077))
              refine lv_iload_n hx hb dX12_worst_61 rfl (lv_at hl 3 rfl) ?_
              refine lv_icmp_gt (tgt := 99) hx hb dX12_worst_62 (by decide +kernel) (fun c_1078 => ?_) (fun c_1078 => ?_)
              · replace hF := hF.trans (if_pos c_1078)
                have tc_1083 : (a1).toInt < (x_1077).toInt := Int32.lt_iff_toInt_lt.mp c_1078
                have h_1084 : rg a1 (-2147483648) 2147483646 := rg_lt1 c_1078 (rg_full _) (rg_full _) (by decide +kernel)
                have uh_1084 := h_1084.1
                have vh_1084 := h_1084.2
                have h_1085 : rg x_1077 (-2147483647) 2147483647 := rg_lt2 c_1078 (rg_full _) (rg_full _) (by decide +kernel)
                have uh_1085 := h_1085.1
                have vh_1085 := h_1085.2
                exact K_1055 x_934 x_935 _ _ _ (rg_w h_997 (by decide +kernel)) hF hFr hG hP hD hS (lv_sub hl [1, 2, 3, 4, 5, 6] rfl)
              · replace hF := hF.trans (if_neg c_1078)
                have tc_1086 : (x_1077).toInt ≤ (a1).toInt := Int32.le_iff_toInt_le.mp (nlt c_1078)
                refine lv_iload hx hb dX12_worst_65 (lv_at hl 5 rfl) ?_
                have K_1103 : ∀  (H : Heap) (locs : List Loc) (ls : Array Slot), F = g_X12_worst_K86 (vR 12 σ this ri) x_936 x_1013 (g_X12_worst_L8 a0 a1 (vI 12 σ this I) (vJ 12 σ this J) (vR 12 σ this ri) (vL 12 σ this rj) (vQ 12 σ this rq) n_992)  → FR 12 tg σ this (I, J, ri, rj, rq) (I, J, ri, rj, rq) → GM [] tg σ I ri I ri rq → va_P D vwCl (pq_P t σ (I, J, ri, rj, rq)) H → va_D A (pq_P t σ (I, J, ri, rj, rq)) → va_S A s.heap H locs → lv_has ls 7 [(0, .ref this), (1, .int a0), (2, .int a1), (5, .int x_936), (6, .int x_1013)] → W p l e ({ frames := 0, cells := 0, slots := 0, locals := 0 } : Room) s m (List.toArray ([.ref this, .int a0, .int a1] : List Value)) below meth c H locs 0 0 Q (F0 m 86 ls []) := by
                  intro H locs ls hF hFr hG hP hD hS hl
                  replace hF := hF.trans g_X12_worst_K86_e
                  refine lv_aload_n hx hb dX12_worst_86 rfl (lv_at hl 0 rfl) ?_
                  refine pg_f (v := .ref w_999) (C := RX12) (T := TX12) (N := 31) hx hb hts (tw_i inlX12) hown hK hP hL_this hK_this (by decide +kernel) rfl 0 (by decide +kernel) (hts _ (tw_c tw_176)) (pq_hv rfl hR_w_999) dX12_worst_87 ?_
                  refine lv_iload hx hb dX12_worst_90 (lv_at hl 4 rfl) ?_
                  refine lv_iconst (v := 3) hx hb dX12_worst_92 (by decide +kernel) ?_
                  refine lv_iadd hx hb dX12_worst_93 ?_
                  refine lv_topi (fun x_1104 ex_1104 => ?_)
                  replace hF := hF.trans (ap_n ex_1104)
                  have h_1105 : rg x_1104 1223 2218 := rg_of_eq ex_1104 (rg_add h_1014 (rg_k (3 : Int32) 3 rfl) (by decide +kernel))
                  have uh_1105 := h_1105.1
                  have vh_1105 := h_1105.2
                  have tx_1104 : (x_1104).toInt = (x_1013).toInt + 3 := by rw [ex_1104]; exact i_add_rg (a2 := (x_1013).toInt) (b2 := 3) rfl rfl h_1014 (rg_k (3 : Int32) 3 rfl) (by decide +kernel)
                  refine pl_i hx hb hK hP hL_w_999 hK_w_999 hN_w_999 (rg_in h_1105 (by decide +kernel)) dX12_worst_94 ?_
                  refine lv_topi (fun x_1106 ex_1106 => ?_)
                  replace hF := hF.trans (ap_n (vR_r hO_w_999 (by decide +kernel) ex_1106))
                  refine lv_istore_n (lv' := [(3, .int x_1106), (0, .ref this), (1, .int a0), (2, .int a1), (5, .int x_936), (6, .int x_1013)]) hx hb dX12_worst_95 rfl hl (by decide +kernel) rfl (fun ls hl => ?_)
                  refine lv_iconst (v := 1) hx hb dX12_worst_96 (by decide +kernel) ?_
                  refine lv_istore (lv' := [(4, .int 1), (3, .int x_1106), (0, .ref this), (1, .int a0), (2, .int a1), (5, .int x_936), (6, .int x_1013)]) hx hb dX12_worst_97 hl (by decide +kernel) rfl (fun ls hl => ?_)
                  exact K_1055 x_1106 (1 : Int32) _ _ _ (rg_w (rg_k (1 : Int32) 1 rfl) (by decide +kernel)) hF hFr hG hP hD hS (lv_sub hl [2, 3, 4, 1, 0, 5] rfl)
                refine lv_if_eq (tgt := 86) hx hb dX12_worst_67 (by decide +kernel) (fun c_1107 => ?_) (fun c_1107 => ?_)
                · replace hF := hF.trans (if_pos c_1107)
                  have tc_1112 : (x_935).toInt = 0 := congrArg Int32.toInt c_1107
                  have h_1113 : rg x_935 0 0 := rg_and h_997 (rg_of_eq c_1107 (rg_k (0 : Int32) 0 rfl)) (by decide +kernel)
                  have uh_1113 := h_1113.1
                  have vh_1113 := h_1113.2
                  exact K_1103 _ _ _ hF hFr hG hP hD hS (lv_sub hl [1, 2, 3, 6, 0] rfl)
                · replace hF := hF.trans (if_neg c_1107)
                  have tc_1114 : (x_935).toInt ≠ 0 := fun q => c_1107 (Int32.toInt_inj.mp q)
                  have h_1115 : rg x_935 1 1 := rg_ne c_1107 h_997 0 rfl (by decide +kernel)
                  have uh_1115 := h_1115.1
                  have vh_1115 := h_1115.2
                  refine lv_aload_n hx hb dX12_worst_70 rfl (lv_at hl 1 rfl) ?_
                  refine pg_f (v := .ref w_999) (C := RX12) (T := TX12) (N := 31) hx hb hts (tw_i inlX12) hown hK hP hL_this hK_this (by decide +kernel) rfl 0 (by decide +kernel) (hts _ (tw_c tw_176)) (pq_hv rfl hR_w_999) dX12_worst_71 ?_
                  refine lv_iload hx hb dX12_worst_74 (lv_at hl 0 rfl) ?_
                  refine lv_iconst (v := 3) hx hb dX12_worst_76 (by decide +kernel) ?_
                  refine lv_iadd hx hb dX12_worst_77 ?_
                  refine lv_topi (fun x_1116 ex_1116 => ?_)
                  replace hF := hF.trans (ap_n ex_1116)
                  have h_1117 : rg x_1116 1223 2218 := rg_of_eq ex_1116 (rg_add h_1014 (rg_k (3 : Int32) 3 rfl) (by decide +kernel))
                  have uh_1117 := h_1117.1
                  have vh_1117 := h_1117.2
                  have tx_1116 : (x_1116).toInt = (x_1013).toInt + 3 := by rw [ex_1116]; exact i_add_rg (a2 := (x_1013).toInt) (b2 := 3) rfl rfl h_1014 (rg_k (3 : Int32) 3 rfl) (by decide +kernel)
                  refine pl_i hx hb hK hP hL_w_999 hK_w_999 hN_w_999 (rg_in h_1117 (by decide +kernel)) dX12_worst_78 ?_
                  refine lv_topi (fun x_1118 ex_1118 => ?_)
                  replace hF := hF.trans (ap_n (vR_r hO_w_999 (by decide +kernel) ex_1118))
                  refine lv_iload_n hx hb dX12_worst_79 rfl (lv_at hl 4 rfl) ?_
                  refine lv_icmp_gt (tgt := 86) hx hb dX12_worst_80 (by decide +kernel) (fun c_1119 => ?_) (fun c_1119 => ?_)
                  · replace hF := hF.trans (if_pos c_1119)
                    have tc_1124 : (x_934).toInt < (x_1118).toInt := Int32.lt_iff_toInt_lt.mp c_1119
                    have h_1125 : rg x_934 (-2147483648) 2147483646 := rg_lt1 c_1119 (rg_full _) (rg_full _) (by decide +kernel)
                    have uh_1125 := h_1125.1
                    have vh_1125 := h_1125.2
                    have h_1126 : rg x_1118 (-2147483647) 2147483647 := rg_lt2 c_1119 (rg_full _) (rg_full _) (by decide +kernel)
                    have uh_1126 := h_1126.1
                    have vh_1126 := h_1126.2
                    exact K_1103 _ _ _ hF hFr hG hP hD hS (lv_sub hl [1, 2, 3, 6, 0] rfl)
                  · replace hF := hF.trans (if_neg c_1119)
                    have tc_1127 : (x_1118).toInt ≤ (x_934).toInt := Int32.le_iff_toInt_le.mp (nlt c_1119)
                    refine lv_goto (tgt := 99) hx hb dX12_worst_83 (by decide +kernel) ?_
                    exact K_1055 x_934 x_935 _ _ _ (rg_w h_1115 (by decide +kernel)) hF hFr hG hP hD hS (lv_sub hl [1, 2, 3, 4, 5, 6] rfl)
    exact L_993 _ (0 : Int32) (0 : Int32) (0 : Int32) _ _ _ (rg_w (rg_k (0 : Int32) 0 rfl) (by decide +kernel)) (rg_w (rg_k (0 : Int32) 0 rfl) (by decide +kernel)) (Nat.lt_succ_self _) hF hFr hG hP hD hS (lv_sub hl [3, 4, 5, 2, 1, 0] rfl)
  exact go _ _ _ hP hD hS hl

set_option maxRecDepth 100000 in
def g_X12_levelAt_K114 (I : Nat → Int32) (J : Nat → Int64) (ri : Nat → Nat → Int32) (rj : Nat → Nat → Int64) (rq : Nat → Nat → Option Nat) (x_25 : Int32) (x_33 : Int32) : Int32 × vM := (ap1 (x_25 + (3 : Int32)) fun (x_158 : Int32) => (ap1 (ri 384 (x_158).toNatClampNeg) fun (x_160 : Int32) => (ap1 (x_33 + (3 : Int32)) fun (x_161 : Int32) => (ap1 (ri 384 (x_161).toNatClampNeg) fun (x_163 : Int32) => (ap1 (x_160 + x_163) fun (x_164 : Int32) => (ap1 (x_164 / (2 : Int32)) fun (x_165 : Int32) => (x_165, I, J, ri, rj, rq)))))))
set_option maxRecDepth 100000 in
theorem g_X12_levelAt_K114_e {I : Nat → Int32} {J : Nat → Int64} {ri : Nat → Nat → Int32} {rj : Nat → Nat → Int64} {rq : Nat → Nat → Option Nat} {x_25 : Int32} {x_33 : Int32} : g_X12_levelAt_K114 I J ri rj rq x_25 x_33  = (ap1 (x_25 + (3 : Int32)) fun (x_158 : Int32) => (ap1 (ri 384 (x_158).toNatClampNeg) fun (x_160 : Int32) => (ap1 (x_33 + (3 : Int32)) fun (x_161 : Int32) => (ap1 (ri 384 (x_161).toNatClampNeg) fun (x_163 : Int32) => (ap1 (x_160 + x_163) fun (x_164 : Int32) => (ap1 (x_164 / (2 : Int32)) fun (x_165 : Int32) => (x_165, I, J, ri, rj, rq))))))) := rfl
set_option maxRecDepth 100000 in
def g_X12_levelAt_K148 (I : Nat → Int32) (J : Nat → Int64) (ri : Nat → Nat → Int32) (rj : Nat → Nat → Int64) (rq : Nat → Nat → Option Nat) (x_25 : Int32) : Int32 × vM := (ap1 (x_25 + (3 : Int32)) fun (x_175 : Int32) => (ap1 (ri 384 (x_175).toNatClampNeg) fun (x_177 : Int32) => (x_177, I, J, ri, rj, rq)))
set_option maxRecDepth 100000 in
theorem g_X12_levelAt_K148_e {I : Nat → Int32} {J : Nat → Int64} {ri : Nat → Nat → Int32} {rj : Nat → Nat → Int64} {rq : Nat → Nat → Option Nat} {x_25 : Int32} : g_X12_levelAt_K148 I J ri rj rq x_25  = (ap1 (x_25 + (3 : Int32)) fun (x_175 : Int32) => (ap1 (ri 384 (x_175).toNatClampNeg) fun (x_177 : Int32) => (x_177, I, J, ri, rj, rq))) := rfl
set_option maxRecDepth 100000 in
def g_X12_levelAt_K114_2 (I : Nat → Int32) (J : Nat → Int64) (ri : Nat → Nat → Int32) (rj : Nat → Nat → Int64) (rq : Nat → Nat → Option Nat) (x_25 : Int32) : Int32 × vM := (g_X12_levelAt_K148 I J ri rj rq x_25 )
set_option maxRecDepth 100000 in
theorem g_X12_levelAt_K114_2_e {I : Nat → Int32} {J : Nat → Int64} {ri : Nat → Nat → Int32} {rj : Nat → Nat → Int64} {rq : Nat → Nat → Option Nat} {x_25 : Int32} : g_X12_levelAt_K114_2 I J ri rj rq x_25  = (g_X12_levelAt_K148 I J ri rj rq x_25 ) := rfl
set_option maxRecDepth 100000 in
def g_X12_levelAt_K113 (I : Nat → Int32) (J : Nat → Int64) (ri : Nat → Nat → Int32) (rj : Nat → Nat → Int64) (rq : Nat → Nat → Option Nat) (x_25 : Int32) : Int32 × vM := (g_X12_levelAt_K114_2 I J ri rj rq x_25 )
set_option maxRecDepth 100000 in
theorem g_X12_levelAt_K113_e {I : Nat → Int32} {J : Nat → Int64} {ri : Nat → Nat → Int32} {rj : Nat → Nat → Int64} {rq : Nat → Nat → Option Nat} {x_25 : Int32} : g_X12_levelAt_K113 I J ri rj rq x_25  = (g_X12_levelAt_K114_2 I J ri rj rq x_25 ) := rfl
set_option maxRecDepth 100000 in
def g_X12_levelAt_K89 (I : Nat → Int32) (J : Nat → Int64) (ri : Nat → Nat → Int32) (rj : Nat → Nat → Int64) (rq : Nat → Nat → Option Nat) (x_25 : Int32) (x_33 : Int32) : Int32 × vM := (if x_33 < (0 : Int32) then (g_X12_levelAt_K113 I J ri rj rq x_25 ) else (ap1 (x_33 + (2 : Int32)) fun (x_190 : Int32) => (ap1 (ri 384 (x_190).toNatClampNeg) fun (x_192 : Int32) => (if x_192 = (1 : Int32) then (g_X12_levelAt_K114 I J ri rj rq x_25 x_33 ) else (g_X12_levelAt_K113 I J ri rj rq x_25 )))))
set_option maxRecDepth 100000 in
theorem g_X12_levelAt_K89_e {I : Nat → Int32} {J : Nat → Int64} {ri : Nat → Nat → Int32} {rj : Nat → Nat → Int64} {rq : Nat → Nat → Option Nat} {x_25 : Int32} {x_33 : Int32} : g_X12_levelAt_K89 I J ri rj rq x_25 x_33  = (if x_33 < (0 : Int32) then (g_X12_levelAt_K113 I J ri rj rq x_25 ) else (ap1 (x_33 + (2 : Int32)) fun (x_190 : Int32) => (ap1 (ri 384 (x_190).toNatClampNeg) fun (x_192 : Int32) => (if x_192 = (1 : Int32) then (g_X12_levelAt_K114 I J ri rj rq x_25 x_33 ) else (g_X12_levelAt_K113 I J ri rj rq x_25 ))))) := rfl
set_option maxRecDepth 100000 in
def g_X12_levelAt_K148_2 (I : Nat → Int32) (J : Nat → Int64) (ri : Nat → Nat → Int32) (rj : Nat → Nat → Int64) (rq : Nat → Nat → Option Nat) (x_33 : Int32) : Int32 × vM := (ap1 (x_33 + (3 : Int32)) fun (x_242 : Int32) => (ap1 (ri 384 (x_242).toNatClampNeg) fun (x_244 : Int32) => (x_244, I, J, ri, rj, rq)))
set_option maxRecDepth 100000 in
theorem g_X12_levelAt_K148_2_e {I : Nat → Int32} {J : Nat → Int64} {ri : Nat → Nat → Int32} {rj : Nat → Nat → Int64} {rq : Nat → Nat → Option Nat} {x_33 : Int32} : g_X12_levelAt_K148_2 I J ri rj rq x_33  = (ap1 (x_33 + (3 : Int32)) fun (x_242 : Int32) => (ap1 (ri 384 (x_242).toNatClampNeg) fun (x_244 : Int32) => (x_244, I, J, ri, rj, rq))) := rfl
set_option maxRecDepth 100000 in
def g_X12_levelAt_K114_3 (I : Nat → Int32) (J : Nat → Int64) (ri : Nat → Nat → Int32) (rj : Nat → Nat → Int64) (rq : Nat → Nat → Option Nat) (x_33 : Int32) : Int32 × vM := (g_X12_levelAt_K148_2 I J ri rj rq x_33 )
set_option maxRecDepth 100000 in
theorem g_X12_levelAt_K114_3_e {I : Nat → Int32} {J : Nat → Int64} {ri : Nat → Nat → Int32} {rj : Nat → Nat → Int64} {rq : Nat → Nat → Option Nat} {x_33 : Int32} : g_X12_levelAt_K114_3 I J ri rj rq x_33  = (g_X12_levelAt_K148_2 I J ri rj rq x_33 ) := rfl
set_option maxRecDepth 100000 in
def g_X12_levelAt_K148_3 (a0 : Int32) (a2 : Int32) (I : Nat → Int32) (J : Nat → Int64) (ri : Nat → Nat → Int32) (rj : Nat → Nat → Int64) (rq : Nat → Nat → Option Nat) : Int32 × vM := (bnI (g_X12_worst a0 a2 I J ri rj rq) fun (x_260 : Int32) (_ : Nat → Int32) (_ : Nat → Int64) (_ : Nat → Nat → Int32) (_ : Nat → Nat → Int64) (_ : Nat → Nat → Option Nat) => (x_260, I, J, ri, rj, rq))
set_option maxRecDepth 100000 in
theorem g_X12_levelAt_K148_3_e {a0 : Int32} {a2 : Int32} {I : Nat → Int32} {J : Nat → Int64} {ri : Nat → Nat → Int32} {rj : Nat → Nat → Int64} {rq : Nat → Nat → Option Nat} : g_X12_levelAt_K148_3 a0 a2 I J ri rj rq  = (bnI (g_X12_worst a0 a2 I J ri rj rq) fun (x_260 : Int32) (_ : Nat → Int32) (_ : Nat → Int64) (_ : Nat → Nat → Int32) (_ : Nat → Nat → Int64) (_ : Nat → Nat → Option Nat) => (x_260, I, J, ri, rj, rq)) := rfl
set_option maxRecDepth 100000 in
def g_X12_levelAt_K114_4 (a0 : Int32) (a2 : Int32) (I : Nat → Int32) (J : Nat → Int64) (ri : Nat → Nat → Int32) (rj : Nat → Nat → Int64) (rq : Nat → Nat → Option Nat) : Int32 × vM := (g_X12_levelAt_K148_3 a0 a2 I J ri rj rq )
set_option maxRecDepth 100000 in
theorem g_X12_levelAt_K114_4_e {a0 : Int32} {a2 : Int32} {I : Nat → Int32} {J : Nat → Int64} {ri : Nat → Nat → Int32} {rj : Nat → Nat → Int64} {rq : Nat → Nat → Option Nat} : g_X12_levelAt_K114_4 a0 a2 I J ri rj rq  = (g_X12_levelAt_K148_3 a0 a2 I J ri rj rq ) := rfl
set_option maxRecDepth 100000 in
def g_X12_levelAt_K113_2 (a0 : Int32) (a2 : Int32) (I : Nat → Int32) (J : Nat → Int64) (ri : Nat → Nat → Int32) (rj : Nat → Nat → Int64) (rq : Nat → Nat → Option Nat) : Int32 × vM := (g_X12_levelAt_K114_4 a0 a2 I J ri rj rq )
set_option maxRecDepth 100000 in
theorem g_X12_levelAt_K113_2_e {a0 : Int32} {a2 : Int32} {I : Nat → Int32} {J : Nat → Int64} {ri : Nat → Nat → Int32} {rj : Nat → Nat → Int64} {rq : Nat → Nat → Option Nat} : g_X12_levelAt_K113_2 a0 a2 I J ri rj rq  = (g_X12_levelAt_K114_4 a0 a2 I J ri rj rq ) := rfl
set_option maxRecDepth 100000 in
def g_X12_levelAt_K89_2 (a0 : Int32) (a2 : Int32) (I : Nat → Int32) (J : Nat → Int64) (ri : Nat → Nat → Int32) (rj : Nat → Nat → Int64) (rq : Nat → Nat → Option Nat) (x_33 : Int32) : Int32 × vM := (if x_33 < (0 : Int32) then (g_X12_levelAt_K113_2 a0 a2 I J ri rj rq ) else (ap1 (x_33 + (2 : Int32)) fun (x_278 : Int32) => (ap1 (ri 384 (x_278).toNatClampNeg) fun (x_280 : Int32) => (if x_280 = (1 : Int32) then (g_X12_levelAt_K114_3 I J ri rj rq x_33 ) else (g_X12_levelAt_K113_2 a0 a2 I J ri rj rq )))))
set_option maxRecDepth 100000 in
theorem g_X12_levelAt_K89_2_e {a0 : Int32} {a2 : Int32} {I : Nat → Int32} {J : Nat → Int64} {ri : Nat → Nat → Int32} {rj : Nat → Nat → Int64} {rq : Nat → Nat → Option Nat} {x_33 : Int32} : g_X12_levelAt_K89_2 a0 a2 I J ri rj rq x_33  = (if x_33 < (0 : Int32) then (g_X12_levelAt_K113_2 a0 a2 I J ri rj rq ) else (ap1 (x_33 + (2 : Int32)) fun (x_278 : Int32) => (ap1 (ri 384 (x_278).toNatClampNeg) fun (x_280 : Int32) => (if x_280 = (1 : Int32) then (g_X12_levelAt_K114_3 I J ri rj rq x_33 ) else (g_X12_levelAt_K113_2 a0 a2 I J ri rj rq ))))) := rfl
set_option maxRecDepth 100000 in
def g_X12_levelAt_K88 (a0 : Int32) (a2 : Int32) (I : Nat → Int32) (J : Nat → Int64) (ri : Nat → Nat → Int32) (rj : Nat → Nat → Int64) (rq : Nat → Nat → Option Nat) (x_33 : Int32) : Int32 × vM := (g_X12_levelAt_K89_2 a0 a2 I J ri rj rq x_33 )
set_option maxRecDepth 100000 in
theorem g_X12_levelAt_K88_e {a0 : Int32} {a2 : Int32} {I : Nat → Int32} {J : Nat → Int64} {ri : Nat → Nat → Int32} {rj : Nat → Nat → Int64} {rq : Nat → Nat → Option Nat} {x_33 : Int32} : g_X12_levelAt_K88 a0 a2 I J ri rj rq x_33  = (g_X12_levelAt_K89_2 a0 a2 I J ri rj rq x_33 ) := rfl
set_option maxRecDepth 100000 in
def g_X12_levelAt (a0 : Int32) (a1 : Int32) (a2 : Int32) (I : Nat → Int32) (J : Nat → Int64) (ri : Nat → Nat → Int32) (rj : Nat → Nat → Int64) (rq : Nat → Nat → Option Nat) : Int32 × vM := (bnI (g_X12_latest a0 a1 a2 I J ri rj rq) fun (x_1 : Int32) (_ : Nat → Int32) (_ : Nat → Int64) (_ : Nat → Nat → Int32) (_ : Nat → Nat → Int64) (_ : Nat → Nat → Option Nat) => (if (0 : Int32) ≤ x_1 then (ap1 (x_1 + (2 : Int32)) fun (x_16 : Int32) => (ap1 (ri 384 (x_16).toNatClampNeg) fun (x_18 : Int32) => (if x_18 = (1 : Int32) then (ap1 (x_1 + (3 : Int32)) fun (x_310 : Int32) => (ap1 (ri 384 (x_310).toNatClampNeg) fun (x_312 : Int32) => (x_312, I, J, ri, rj, rq))) else (ap1 (a1 - (1 : Int32)) fun (x_24 : Int32) => (bnI (g_X12_latest a0 x_24 a2 I J ri rj rq) fun (x_25 : Int32) (_ : Nat → Int32) (_ : Nat → Int64) (_ : Nat → Nat → Int32) (_ : Nat → Nat → Int64) (_ : Nat → Nat → Option Nat) => (ap1 (a1 + (1 : Int32)) fun (x_32 : Int32) => (bnI (g_X12_latest a0 x_32 a2 I J ri rj rq) fun (x_33 : Int32) (_ : Nat → Int32) (_ : Nat → Int64) (_ : Nat → Nat → Int32) (_ : Nat → Nat → Int64) (_ : Nat → Nat → Option Nat) => (if x_25 < (0 : Int32) then (g_X12_levelAt_K88 a0 a2 I J ri rj rq x_33 ) else (ap1 (x_25 + (2 : Int32)) fun (x_298 : Int32) => (ap1 (ri 384 (x_298).toNatClampNeg) fun (x_300 : Int32) => (if x_300 = (1 : Int32) then (g_X12_levelAt_K89 I J ri rj rq x_25 x_33 ) else (g_X12_levelAt_K88 a0 a2 I J ri rj rq x_33 )))))))))))) else (bnI (g_X12_worst a0 a2 I J ri rj rq) fun (x_315 : Int32) (_ : Nat → Int32) (_ : Nat → Int64) (_ : Nat → Nat → Int32) (_ : Nat → Nat → Int64) (_ : Nat → Nat → Option Nat) => (x_315, I, J, ri, rj, rq))))
set_option maxRecDepth 100000 in
theorem g_X12_levelAt_e {a0 : Int32} {a1 : Int32} {a2 : Int32} {I : Nat → Int32} {J : Nat → Int64} {ri : Nat → Nat → Int32} {rj : Nat → Nat → Int64} {rq : Nat → Nat → Option Nat} : g_X12_levelAt a0 a1 a2 I J ri rj rq = (bnI (g_X12_latest a0 a1 a2 I J ri rj rq) fun (x_1 : Int32) (_ : Nat → Int32) (_ : Nat → Int64) (_ : Nat → Nat → Int32) (_ : Nat → Nat → Int64) (_ : Nat → Nat → Option Nat) => (if (0 : Int32) ≤ x_1 then (ap1 (x_1 + (2 : Int32)) fun (x_16 : Int32) => (ap1 (ri 384 (x_16).toNatClampNeg) fun (x_18 : Int32) => (if x_18 = (1 : Int32) then (ap1 (x_1 + (3 : Int32)) fun (x_310 : Int32) => (ap1 (ri 384 (x_310).toNatClampNeg) fun (x_312 : Int32) => (x_312, I, J, ri, rj, rq))) else (ap1 (a1 - (1 : Int32)) fun (x_24 : Int32) => (bnI (g_X12_latest a0 x_24 a2 I J ri rj rq) fun (x_25 : Int32) (_ : Nat → Int32) (_ : Nat → Int64) (_ : Nat → Nat → Int32) (_ : Nat → Nat → Int64) (_ : Nat → Nat → Option Nat) => (ap1 (a1 + (1 : Int32)) fun (x_32 : Int32) => (bnI (g_X12_latest a0 x_32 a2 I J ri rj rq) fun (x_33 : Int32) (_ : Nat → Int32) (_ : Nat → Int64) (_ : Nat → Nat → Int32) (_ : Nat → Nat → Int64) (_ : Nat → Nat → Option Nat) => (if x_25 < (0 : Int32) then (g_X12_levelAt_K88 a0 a2 I J ri rj rq x_33 ) else (ap1 (x_25 + (2 : Int32)) fun (x_298 : Int32) => (ap1 (ri 384 (x_298).toNatClampNeg) fun (x_300 : Int32) => (if x_300 = (1 : Int32) then (g_X12_levelAt_K89 I J ri rj rq x_25 x_33 ) else (g_X12_levelAt_K88 a0 a2 I J ri rj rq x_33 )))))))))))) else (bnI (g_X12_worst a0 a2 I J ri rj rq) fun (x_315 : Int32) (_ : Nat → Int32) (_ : Nat → Int64) (_ : Nat → Nat → Int32) (_ : Nat → Nat → Int64) (_ : Nat → Nat → Option Nat) => (x_315, I, J, ri, rj, rq)))) := rfl
set_option maxHeartbeats 4000000 in
set_option maxRecDepth 100000 in
theorem s_X12_levelAt (l : Launch) (D : va_G) (t : pq_T) (σ : pq_S) (I : Nat → Nat → Int32) (J : Nat → Nat → Int64) (ri : Nat → Nat → Int32) (rj : Nat → Nat → Int64) (rq : Nat → Nat → Option Nat) (sz : Nat) (tg : Nat → Nat) (hSH : SH σ tg) (hG0 : GT tg I ri) (this : Nat) (a0 : Int32) (a1 : Int32) (a2 : Int32) (hL_this : this ∈ σ.1) (hK_this : σ.2.1 this = 12) : MetI l yX12_levelAt (wa yX12_levelAt cX12_levelAt 9 (some .int)) ({ frames := 1, cells := 0, slots := 0, locals := 26 }) [.ref this, .int a0, .int a1, .int a2] D t σ (I, J, ri, rj, rq) sz 0 0 (fun (r : Int32) (u : pq_S × pq_M) => u = (σ, I, J, ri, rj, rq) ∧ g_X12_levelAt a0 a1 a2 (vI 12 σ this I) (vJ 12 σ this J) (vR 12 σ this ri) (vL 12 σ this rj) (vQ 12 σ this rq) = (r, (vI 12 σ this I), (vJ 12 σ this J), (vR 12 σ this ri), (vL 12 σ this rj), (vQ 12 σ this rq))) := by
  refine Met.ofW (cc := cX12_levelAt) (maxL := 9) (ret := (some .int)) (by decide +kernel) rfl ?_
  intro p e s m args below meth c s₁ B hml hv
  obtain ⟨rfl, hsz, hP, hK, hD0, hN⟩ := hv
  have hx := B.exec
  have hb := B.bytes
  have hr := B.returns
  have hts := atoms_spec (ws := (wa yX12_levelAt cX12_levelAt 9 (some .int))) B.pre
  have hown : s.vm.findClass RX12 = some m.cls := findClass_of_methodNamed B.named
  have hlocks := B.notSynchronized
  subst hsz
  have hD : va_D (pq_B t σ (I, J, ri, rj, rq) s.heap.size) (pq_P t σ (I, J, ri, rj, rq)) := hD0.self
  generalize hAe : pq_B t σ (I, J, ri, rj, rq) s.heap.size = A at hD ⊢
  have hA : ∀ q : Nat, s.heap.size ≤ q → A q := fun q h => by rw [← hAe]; exact Or.inr h
  have hS : va_S A s.heap s.heap [] := va_S.rf
  have hG : GM [] tg σ I ri I ri rq := ⟨hG0, fun _ _ _ => rfl, fun _ _ _ _ _ => rfl, fun _ _ _ _ _ _ => rfl⟩
  have hl := lv_entry ([.ref this, .int a0, .int a1, .int a2]) (n := 9) (Nat.le_of_ble_eq_true rfl)
  rw [lg_entry_eq]
  generalize (lg_sl ([.ref this, .int a0, .int a1, .int a2]) ++ List.replicate (9 - (lg_sl ([.ref this, .int a0, .int a1, .int a2])).length) Slot.unset).toArray = ls at hl ⊢
  have hl : lv_has ls 9 [(0, .ref this), (1, .int a0), (2, .int a1), (3, .int a2)] := hl
  refine q_gen (fun Q hQ => ?_)
  have go : ∀ (H : Heap) (locs : List Loc) (ls : Array Slot), va_P D vwCl (pq_P t σ (I, J, ri, rj, rq)) H → va_D A (pq_P t σ (I, J, ri, rj, rq)) → va_S A s.heap H locs → lv_has ls 9 [(0, .ref this), (1, .int a0), (2, .int a1), (3, .int a2)] → W p l e ({ frames := 1, cells := 0, slots := 0, locals := 26 } : Room) s m (List.toArray ([.ref this, .int a0, .int a1, .int a2] : List Value)) below meth c H locs 0 0 Q (F0 m 0 ls []) := by
    intro H locs ls hP hD hS hl
    have hO_this : this = vo σ 12 this := rfl
    have hVT : VT 12 σ tg this := vt_12 hSH hL_this hK_this
    have hFr : FR 12 tg σ this (I, J, ri, rj, rq) (I, J, ri, rj, rq) := fr_rf
    obtain ⟨F, hF0⟩ : ∃ F, F = g_X12_levelAt a0 a1 a2 (vI 12 σ this I) (vJ 12 σ this J) (vR 12 σ this ri) (vL 12 σ this rj) (vQ 12 σ this rq) := ⟨_, rfl⟩
    have hF := hF0.trans g_X12_levelAt_e
    refine lv_aload_n hx hb dX12_levelAt_0 rfl (lv_at hl 0 rfl) ?_
    refine lv_iload_n hx hb dX12_levelAt_1 rfl (lv_at hl 1 rfl) ?_
    refine lv_iload_n hx hb dX12_levelAt_2 rfl (lv_at hl 2 rfl) ?_
    refine lv_iload_n hx hb dX12_levelAt_3 rfl (lv_at hl 3 rfl) ?_
    refine pk_i (va_runV (As := [.int a0, .int a1, .int a2]) (rest := []) ⟨hx, hb, hml, hown, hts⟩ (s_X12_latest l D t σ I J ri rj rq H.size tg hSH hG.1 this a0 a1 a2 hL_this hK_this) (cwV 3 hts (tw_V tw_293 tw_294 tw_295 tw_5 tw_296) rfl rfl rfl cv_yX12_latest_3 ⟨Nat.le_of_ble_eq_true rfl, Nat.le_of_ble_eq_true rfl⟩) ⟨pq_blind, pq_recv hK hP hL_this hK_this (by decide +kernel) rfl, pq_pre hK hN hP hD⟩ rfl rfl hl.1 rfl (lv_room (Nat.le_of_ble_eq_true rfl)) dX12_levelAt_4 ⟨Nat.le_of_ble_eq_true rfl, Nat.le_of_ble_eq_true rfl⟩) hD hS hA (fun x_1 σ1 μ1 H locs hw_2 hP hD hS => ?_)
    obtain ⟨hu_3, hfn_6, hr_5⟩ := hw_2
    obtain ⟨hu_3a, hu_3b⟩ := Prod.mk.inj hu_3
    rw [hu_3a, hu_3b] at hP hD
    replace hF := hF.trans (bn_n hfn_6)
    refine lv_istore (lv' := [(4, .int x_1), (0, .ref this), (1, .int a0), (2, .int a1), (3, .int a2)]) hx hb dX12_levelAt_7 hl (by decide +kernel) rfl (fun ls hl => ?_)
    refine lv_iload hx hb dX12_levelAt_9 (lv_at hl 0 rfl) ?_
    refine lv_if_ge (tgt := 21) hx hb dX12_levelAt_11 (by decide +kernel) (fun c_8 => ?_) (fun c_8 => ?_)
    · replace hF := hF.trans (if_pos c_8)
      have tc_13 : 0 ≤ (x_1).toInt := Int32.le_iff_toInt_le.mp c_8
      have h_14 : rg x_1 0 2215 := rg_le2 c_8 (rg_k (0 : Int32) 0 rfl) hr_5 (by decide +kernel)
      have uh_14 := h_14.1
      have vh_14 := h_14.2
      refine lv_aload_n hx hb dX12_levelAt_21 rfl (lv_at hl 1 rfl) ?_
      obtain ⟨w_15, hR_w_15, hL_w_15, hK_w_15, hN_w_15, hT_w_15⟩ := sh_a hSH 384 (ci := 12) (kd := 13) (len := 12720) rfl (by decide +kernel) hL_this hK_this
      have hO_w_15 : w_15 = vrow σ 384 this := vo_k (c := 12) hO_this hR_w_15
      refine pg_f (v := .ref w_15) (C := RX12) (T := TX12) (N := 31) hx hb hts (tw_i inlX12) hown hK hP hL_this hK_this (by decide +kernel) rfl 0 (by decide +kernel) (hts _ (tw_c tw_176)) (pq_hv rfl hR_w_15) dX12_levelAt_22 ?_
      refine lv_iload hx hb dX12_levelAt_25 (lv_at hl 0 rfl) ?_
      refine lv_iconst (v := 2) hx hb dX12_levelAt_27 (by decide +kernel) ?_
      refine lv_iadd hx hb dX12_levelAt_28 ?_
      refine lv_topi (fun x_16 ex_16 => ?_)
      replace hF := hF.trans (ap_n ex_16)
      have h_17 : rg x_16 2 2217 := rg_of_eq ex_16 (rg_add h_14 (rg_k (2 : Int32) 2 rfl) (by decide +kernel))
      have uh_17 := h_17.1
      have vh_17 := h_17.2
      have tx_16 : (x_16).toInt = (x_1).toInt + 2 := by rw [ex_16]; exact i_add_rg (a2 := (x_1).toInt) (b2 := 2) rfl rfl h_14 (rg_k (2 : Int32) 2 rfl) (by decide +kernel)
      refine pl_i hx hb hK hP hL_w_15 hK_w_15 hN_w_15 (rg_in h_17 (by decide +kernel)) dX12_levelAt_29 ?_
      refine lv_topi (fun x_18 ex_18 => ?_)
      replace hF := hF.trans (ap_n (vR_r hO_w_15 (by decide +kernel) ex_18))
      refine lv_iconst (v := 1) hx hb dX12_levelAt_30 (by decide +kernel) ?_
      refine lv_icmp_ne (tgt := 44) hx hb dX12_levelAt_31 (by decide +kernel) (fun c_19 => ?_) (fun c_19 => ?_)
      · replace hF := hF.trans (if_neg c_19)
        have tc_23 : (x_18).toInt ≠ 1 := fun q => c_19 (Int32.toInt_inj.mp q)
        refine lv_aload_n hx hb dX12_levelAt_44 rfl (lv_at hl 1 rfl) ?_
        refine lv_iload_n hx hb dX12_levelAt_45 rfl (lv_at hl 2 rfl) ?_
        refine lv_iload_n hx hb dX12_levelAt_46 rfl (lv_at hl 3 rfl) ?_
        refine lv_iconst (v := 1) hx hb dX12_levelAt_47 (by decide +kernel) ?_
        refine lv_isub hx hb dX12_levelAt_48 ?_
        refine lv_topi (fun x_24 ex_24 => ?_)
        replace hF := hF.trans (ap_n ex_24)
        refine lv_iload_n hx hb dX12_levelAt_49 rfl (lv_at hl 4 rfl) ?_
        refine pk_i (va_runV (As := [.int a0, .int x_24, .int a2]) (rest := []) ⟨hx, hb, hml, hown, hts⟩ (s_X12_latest l D t σ I J ri rj rq H.size tg hSH hG.1 this a0 x_24 a2 hL_this hK_this) (cwV 3 hts (tw_V tw_293 tw_294 tw_295 tw_5 tw_296) rfl rfl rfl cv_yX12_latest_3 ⟨Nat.le_of_ble_eq_true rfl, Nat.le_of_ble_eq_true rfl⟩) ⟨pq_blind, pq_recv hK hP hL_this hK_this (by decide +kernel) rfl, pq_pre hK hN hP hD⟩ rfl rfl hl.1 rfl (lv_room (Nat.le_of_ble_eq_true rfl)) dX12_levelAt_50 ⟨Nat.le_of_ble_eq_true rfl, Nat.le_of_ble_eq_true rfl⟩) hD hS hA (fun x_25 σ1 μ1 H locs hw_26 hP hD hS => ?_)
        obtain ⟨hu_27, hfn_30, hr_29⟩ := hw_26
        obtain ⟨hu_27a, hu_27b⟩ := Prod.mk.inj hu_27
        rw [hu_27a, hu_27b] at hP hD
        replace hF := hF.trans (bn_n hfn_30)
        refine lv_istore (lv' := [(5, .int x_25), (4, .int x_1), (0, .ref this), (1, .int a0), (2, .int a1), (3, .int a2)]) hx hb dX12_levelAt_53 hl (by decide +kernel) rfl (fun ls hl => ?_)
        refine lv_aload_n hx hb dX12_levelAt_55 rfl (lv_at hl 2 rfl) ?_
        refine lv_iload_n hx hb dX12_levelAt_56 rfl (lv_at hl 3 rfl) ?_
        refine lv_iload_n hx hb dX12_levelAt_57 rfl (lv_at hl 4 rfl) ?_
        refine lv_iconst (v := 1) hx hb dX12_levelAt_58 (by decide +kernel) ?_
        refine lv_iadd hx hb dX12_levelAt_59 ?_
        refine lv_topi (fun x_32 ex_32 => ?_)
        replace hF := hF.trans (ap_n ex_32)
        refine lv_iload_n hx hb dX12_levelAt_60 rfl (lv_at hl 5 rfl) ?_
        refine pk_i (va_runV (As := [.int a0, .int x_32, .int a2]) (rest := []) ⟨hx, hb, hml, hown, hts⟩ (s_X12_latest l D t σ I J ri rj rq H.size tg hSH hG.1 this a0 x_32 a2 hL_this hK_this) (cwV 3 hts (tw_V tw_293 tw_294 tw_295 tw_5 tw_296) rfl rfl rfl cv_yX12_latest_3 ⟨Nat.le_of_ble_eq_true rfl, Nat.le_of_ble_eq_true rfl⟩) ⟨pq_blind, pq_recv hK hP hL_this hK_this (by decide +kernel) rfl, pq_pre hK hN hP hD⟩ rfl rfl hl.1 rfl (lv_room (Nat.le_of_ble_eq_true rfl)) dX12_levelAt_61 ⟨Nat.le_of_ble_eq_true rfl, Nat.le_of_ble_eq_true rfl⟩) hD hS hA (fun x_33 σ1 μ1 H locs hw_34 hP hD hS => ?_)
        obtain ⟨hu_35, hfn_38, hr_37⟩ := hw_34
        obtain ⟨hu_35a, hu_35b⟩ := Prod.mk.inj hu_35
        rw [hu_35a, hu_35b] at hP hD
        replace hF := hF.trans (bn_n hfn_38)
        refine lv_istore (lv' := [(6, .int x_33), (5, .int x_25), (4, .int x_1), (0, .ref this), (1, .int a0), (2, .int a1), (3, .int a2)]) hx hb dX12_levelAt_64 hl (by decide +kernel) rfl (fun ls hl => ?_)
        refine lv_iload hx hb dX12_levelAt_66 (lv_at hl 1 rfl) ?_
        have K_111 : ∀  (H : Heap) (locs : List Loc) (ls : Array Slot), rg (x_25) 0 2215 → F = g_X12_levelAt_K89 (vI 12 σ this I) (vJ 12 σ this J) (vR 12 σ this ri) (vL 12 σ this rj) (vQ 12 σ this rq) x_25 x_33  → FR 12 tg σ this (I, J, ri, rj, rq) (I, J, ri, rj, rq) → GM [] tg σ I ri I ri rq → va_P D vwCl (pq_P t σ (I, J, ri, rj, rq)) H → va_D A (pq_P t σ (I, J, ri, rj, rq)) → va_S A s.heap H locs → lv_has ls 9 [(0, .ref this), (1, .int a0), (3, .int a2), (5, .int x_25), (6, .int x_33)] → W p l e ({ frames := 1, cells := 0, slots := 0, locals := 26 } : Room) s m (List.toArray ([.ref this, .int a0, .int a1, .int a2] : List Value)) below meth c H locs 0 0 Q (F0 m 89 ls [.int 1]) := by
          intro H locs ls h_113 hF hFr hG hP hD hS hl
          have uh_113 := h_113.1
          have vh_113 := h_113.2
          replace hF := hF.trans g_X12_levelAt_K89_e
          refine lv_istore (lv' := [(7, .int 1), (0, .ref this), (1, .int a0), (3, .int a2), (5, .int x_25), (6, .int x_33)]) hx hb dX12_levelAt_89 hl (by decide +kernel) rfl (fun ls hl => ?_)
          refine lv_iload hx hb dX12_levelAt_91 (lv_at hl 5 rfl) ?_
          have K_143 : ∀  (H : Heap) (locs : List Loc) (ls : Array Slot), rg (x_33) 0 2215 → F = g_X12_levelAt_K114 (vI 12 σ this I) (vJ 12 σ this J) (vR 12 σ this ri) (vL 12 σ this rj) (vQ 12 σ this rq) x_25 x_33  → FR 12 tg σ this (I, J, ri, rj, rq) (I, J, ri, rj, rq) → GM [] tg σ I ri I ri rq → va_P D vwCl (pq_P t σ (I, J, ri, rj, rq)) H → va_D A (pq_P t σ (I, J, ri, rj, rq)) → va_S A s.heap H locs → lv_has ls 9 [(0, .ref this), (1, .int a0), (3, .int a2), (5, .int x_25), (6, .int x_33), (7, .int 1)] → W p l e ({ frames := 1, cells := 0, slots := 0, locals := 26 } : Room) s m (List.toArray ([.ref this, .int a0, .int a1, .int a2] : List Value)) below meth c H locs 0 0 Q (F0 m 114 ls [.int 1]) := by
            intro H locs ls h_145 hF hFr hG hP hD hS hl
            have uh_145 := h_145.1
            have vh_145 := h_145.2
            replace hF := hF.trans g_X12_levelAt_K114_e
            refine lv_istore (lv' := [(8, .int 1), (0, .ref this), (1, .int a0), (3, .int a2), (5, .int x_25), (6, .int x_33), (7, .int 1)]) hx hb dX12_levelAt_114 hl (by decide +kernel) rfl (fun ls hl => ?_)
            refine lv_iload hx hb dX12_levelAt_116 (lv_at hl 6 rfl) ?_
            refine lv_if_eq (tgt := 148) hx hb dX12_levelAt_118 (by decide +kernel) (fun c_156 => absurd c_156 (by decide +kernel)) (fun c_156 => ?_)
            refine lv_iload hx hb dX12_levelAt_121 (lv_at hl 0 rfl) ?_
            refine lv_if_eq (tgt := 148) hx hb dX12_levelAt_123 (by decide +kernel) (fun c_157 => absurd c_157 (by decide +kernel)) (fun c_157 => ?_)
            refine lv_aload_n hx hb dX12_levelAt_126 rfl (lv_at hl 1 rfl) ?_
            refine pg_f (v := .ref w_15) (C := RX12) (T := TX12) (N := 31) hx hb hts (tw_i inlX12) hown hK hP hL_this hK_this (by decide +kernel) rfl 0 (by decide +kernel) (hts _ (tw_c tw_176)) (pq_hv rfl hR_w_15) dX12_levelAt_127 ?_
            refine lv_iload hx hb dX12_levelAt_130 (lv_at hl 4 rfl) ?_
            refine lv_iconst (v := 3) hx hb dX12_levelAt_132 (by decide +kernel) ?_
            refine lv_iadd hx hb dX12_levelAt_133 ?_
            refine lv_topi (fun x_158 ex_158 => ?_)
            replace hF := hF.trans (ap_n ex_158)
            have h_159 : rg x_158 3 2218 := rg_of_eq ex_158 (rg_add h_113 (rg_k (3 : Int32) 3 rfl) (by decide +kernel))
            have uh_159 := h_159.1
            have vh_159 := h_159.2
            have tx_158 : (x_158).toInt = (x_25).toInt + 3 := by rw [ex_158]; exact i_add_rg (a2 := (x_25).toInt) (b2 := 3) rfl rfl h_113 (rg_k (3 : Int32) 3 rfl) (by decide +kernel)
            refine pl_i hx hb hK hP hL_w_15 hK_w_15 hN_w_15 (rg_in h_159 (by decide +kernel)) dX12_levelAt_134 ?_
            refine lv_topi (fun x_160 ex_160 => ?_)
            replace hF := hF.trans (ap_n (vR_r hO_w_15 (by decide +kernel) ex_160))
            refine lv_aload_n hx hb dX12_levelAt_135 rfl (lv_at hl 1 rfl) ?_
            refine pg_f (v := .ref w_15) (C := RX12) (T := TX12) (N := 31) hx hb hts (tw_i inlX12) hown hK hP hL_this hK_this (by decide +kernel) rfl 0 (by decide +kernel) (hts _ (tw_c tw_176)) (pq_hv rfl hR_w_15) dX12_levelAt_136 ?_
            refine lv_iload hx hb dX12_levelAt_139 (lv_at hl 5 rfl) ?_
            refine lv_iconst (v := 3) hx hb dX12_levelAt_141 (by decide +kernel) ?_
            refine lv_iadd hx hb dX12_levelAt_142 ?_
            refine lv_topi (fun x_161 ex_161 => ?_)
            replace hF := hF.trans (ap_n ex_161)
            have h_162 : rg x_161 3 2218 := rg_of_eq ex_161 (rg_add h_145 (rg_k (3 : Int32) 3 rfl) (by decide +kernel))
            have uh_162 := h_162.1
            have vh_162 := h_162.2
            have tx_161 : (x_161).toInt = (x_33).toInt + 3 := by rw [ex_161]; exact i_add_rg (a2 := (x_33).toInt) (b2 := 3) rfl rfl h_145 (rg_k (3 : Int32) 3 rfl) (by decide +kernel)
            refine pl_i hx hb hK hP hL_w_15 hK_w_15 hN_w_15 (rg_in h_162 (by decide +kernel)) dX12_levelAt_143 ?_
            refine lv_topi (fun x_163 ex_163 => ?_)
            replace hF := hF.trans (ap_n (vR_r hO_w_15 (by decide +kernel) ex_163))
            refine lv_iadd hx hb dX12_levelAt_144 ?_
            refine lv_topi (fun x_164 ex_164 => ?_)
            replace hF := hF.trans (ap_n ex_164)
            refine lv_iconst (v := 2) hx hb dX12_levelAt_145 (by decide +kernel) ?_
            refine lv_idiv hx hb dX12_levelAt_146 (by decide +kernel) ?_
            refine lv_topi (fun x_165 ex_165 => ?_)
            replace hF := hF.trans (ap_n ex_165)
            subst hQ
            exact W.iret (v := x_165) hx hb hr (fun t1 ht hW => ⟨⟨x_165, (σ, I, J, ri, rj, rq), rfl, ⟨rfl, (hF0.symm.trans hF)⟩, by rw [ht]; exact hP, va_K.moved hW.alike hK, hD⟩, hS.F ht⟩) hS.2.2 dX12_levelAt_147
          have K_166 : ∀  (H : Heap) (locs : List Loc) (ls : Array Slot), F = g_X12_levelAt_K114_2 (vI 12 σ this I) (vJ 12 σ this J) (vR 12 σ this ri) (vL 12 σ this rj) (vQ 12 σ this rq) x_25  → FR 12 tg σ this (I, J, ri, rj, rq) (I, J, ri, rj, rq) → GM [] tg σ I ri I ri rq → va_P D vwCl (pq_P t σ (I, J, ri, rj, rq)) H → va_D A (pq_P t σ (I, J, ri, rj, rq)) → va_S A s.heap H locs → lv_has ls 9 [(0, .ref this), (1, .int a0), (3, .int a2), (5, .int x_25), (6, .int x_33), (7, .int 1)] → W p l e ({ frames := 1, cells := 0, slots := 0, locals := 26 } : Room) s m (List.toArray ([.ref this, .int a0, .int a1, .int a2] : List Value)) below meth c H locs 0 0 Q (F0 m 114 ls [.int 0]) := by
            intro H locs ls hF hFr hG hP hD hS hl
            replace hF := hF.trans g_X12_levelAt_K114_2_e
            refine lv_istore (lv' := [(8, .int 0), (0, .ref this), (1, .int a0), (3, .int a2), (5, .int x_25), (6, .int x_33), (7, .int 1)]) hx hb dX12_levelAt_114 hl (by decide +kernel) rfl (fun ls hl => ?_)
            refine lv_iload hx hb dX12_levelAt_116 (lv_at hl 6 rfl) ?_
            have K_173 : ∀  (H : Heap) (locs : List Loc) (ls : Array Slot), F = g_X12_levelAt_K148 (vI 12 σ this I) (vJ 12 σ this J) (vR 12 σ this ri) (vL 12 σ this rj) (vQ 12 σ this rq) x_25  → FR 12 tg σ this (I, J, ri, rj, rq) (I, J, ri, rj, rq) → GM [] tg σ I ri I ri rq → va_P D vwCl (pq_P t σ (I, J, ri, rj, rq)) H → va_D A (pq_P t σ (I, J, ri, rj, rq)) → va_S A s.heap H locs → lv_has ls 9 [(0, .ref this), (1, .int a0), (3, .int a2), (5, .int x_25), (6, .int x_33), (7, .int 1), (8, .int 0)] → W p l e ({ frames := 1, cells := 0, slots := 0, locals := 26 } : Room) s m (List.toArray ([.ref this, .int a0, .int a1, .int a2] : List Value)) below meth c H locs 0 0 Q (F0 m 148 ls []) := by
              intro H locs ls hF hFr hG hP hD hS hl
              replace hF := hF.trans g_X12_levelAt_K148_e
              refine lv_iload hx hb dX12_levelAt_148 (lv_at hl 5 rfl) ?_
              refine lv_if_eq (tgt := 165) hx hb dX12_levelAt_150 (by decide +kernel) (fun c_174 => absurd c_174 (by decide +kernel)) (fun c_174 => ?_)
              refine lv_aload_n hx hb dX12_levelAt_153 rfl (lv_at hl 0 rfl) ?_
              refine pg_f (v := .ref w_15) (C := RX12) (T := TX12) (N := 31) hx hb hts (tw_i inlX12) hown hK hP hL_this hK_this (by decide +kernel) rfl 0 (by decide +kernel) (hts _ (tw_c tw_176)) (pq_hv rfl hR_w_15) dX12_levelAt_154 ?_
              refine lv_iload hx hb dX12_levelAt_157 (lv_at hl 3 rfl) ?_
              refine lv_iconst (v := 3) hx hb dX12_levelAt_159 (by decide +kernel) ?_
              refine lv_iadd hx hb dX12_levelAt_160 ?_
              refine lv_topi (fun x_175 ex_175 => ?_)
              replace hF := hF.trans (ap_n ex_175)
              have h_176 : rg x_175 3 2218 := rg_of_eq ex_175 (rg_add h_113 (rg_k (3 : Int32) 3 rfl) (by decide +kernel))
              have uh_176 := h_176.1
              have vh_176 := h_176.2
              have tx_175 : (x_175).toInt = (x_25).toInt + 3 := by rw [ex_175]; exact i_add_rg (a2 := (x_25).toInt) (b2 := 3) rfl rfl h_113 (rg_k (3 : Int32) 3 rfl) (by decide +kernel)
              refine pl_i hx hb hK hP hL_w_15 hK_w_15 hN_w_15 (rg_in h_176 (by decide +kernel)) dX12_levelAt_161 ?_
              refine lv_topi (fun x_177 ex_177 => ?_)
              replace hF := hF.trans (ap_n (vR_r hO_w_15 (by decide +kernel) ex_177))
              refine lv_goto (tgt := 188) hx hb dX12_levelAt_162 (by decide +kernel) ?_
              subst hQ
              exact W.iret (v := x_177) hx hb hr (fun t1 ht hW => ⟨⟨x_177, (σ, I, J, ri, rj, rq), rfl, ⟨rfl, (hF0.symm.trans hF)⟩, by rw [ht]; exact hP, va_K.moved hW.alike hK, hD⟩, hS.F ht⟩) hS.2.2 dX12_levelAt_188
            refine lv_if_eq (tgt := 148) hx hb dX12_levelAt_118 (by decide +kernel) (fun c_178 => absurd c_178 (by decide +kernel)) (fun c_178 => ?_)
            refine lv_iload hx hb dX12_levelAt_121 (lv_at hl 0 rfl) ?_
            refine lv_if_eq (tgt := 148) hx hb dX12_levelAt_123 (by decide +kernel) (fun c_179 => ?_) (fun c_179 => absurd c_179 (by decide +kernel))
            exact K_173 _ _ _ hF hFr hG hP hD hS (lv_sub hl [1, 2, 3, 4, 5, 6, 0] rfl)
          have K_180 : ∀  (H : Heap) (locs : List Loc) (ls : Array Slot), F = g_X12_levelAt_K113 (vI 12 σ this I) (vJ 12 σ this J) (vR 12 σ this ri) (vL 12 σ this rj) (vQ 12 σ this rq) x_25  → FR 12 tg σ this (I, J, ri, rj, rq) (I, J, ri, rj, rq) → GM [] tg σ I ri I ri rq → va_P D vwCl (pq_P t σ (I, J, ri, rj, rq)) H → va_D A (pq_P t σ (I, J, ri, rj, rq)) → va_S A s.heap H locs → lv_has ls 9 [(0, .ref this), (1, .int a0), (3, .int a2), (5, .int x_25), (6, .int x_33), (7, .int 1)] → W p l e ({ frames := 1, cells := 0, slots := 0, locals := 26 } : Room) s m (List.toArray ([.ref this, .int a0, .int a1, .int a2] : List Value)) below meth c H locs 0 0 Q (F0 m 113 ls []) := by
            intro H locs ls hF hFr hG hP hD hS hl
            replace hF := hF.trans g_X12_levelAt_K113_e
            refine lv_iconst (v := 0) hx hb dX12_levelAt_113 (by decide +kernel) ?_
            exact K_166 _ _ _ hF hFr hG hP hD hS (lv_sub hl [0, 1, 2, 3, 4, 5] rfl)
          refine lv_if_lt (tgt := 113) hx hb dX12_levelAt_93 (by decide +kernel) (fun c_181 => ?_) (fun c_181 => ?_)
          · replace hF := hF.trans (if_pos c_181)
            have tc_186 : (x_33).toInt < 0 := Int32.lt_iff_toInt_lt.mp c_181
            have h_187 : rg x_33 (-1) (-1) := rg_lt1 c_181 hr_37 (rg_k (0 : Int32) 0 rfl) (by decide +kernel)
            have uh_187 := h_187.1
            have vh_187 := h_187.2
            exact K_180 _ _ _ hF hFr hG hP hD hS (lv_sub hl [1, 2, 3, 4, 5, 0] rfl)
          · replace hF := hF.trans (if_neg c_181)
            have tc_188 : 0 ≤ (x_33).toInt := Int32.le_iff_toInt_le.mp (nlt c_181)
            have h_189 : rg x_33 0 2215 := rg_le2 (nlt c_181) (rg_k (0 : Int32) 0 rfl) hr_37 (by decide +kernel)
            have uh_189 := h_189.1
            have vh_189 := h_189.2
            refine lv_aload_n hx hb dX12_levelAt_96 rfl (lv_at hl 1 rfl) ?_
            refine pg_f (v := .ref w_15) (C := RX12) (T := TX12) (N := 31) hx hb hts (tw_i inlX12) hown hK hP hL_this hK_this (by decide +kernel) rfl 0 (by decide +kernel) (hts _ (tw_c tw_176)) (pq_hv rfl hR_w_15) dX12_levelAt_97 ?_
            refine lv_iload hx hb dX12_levelAt_100 (lv_at hl 5 rfl) ?_
            refine lv_iconst (v := 2) hx hb dX12_levelAt_102 (by decide +kernel) ?_
            refine lv_iadd hx hb dX12_levelAt_103 ?_
            refine lv_topi (fun x_190 ex_190 => ?_)
            replace hF := hF.trans (ap_n ex_190)
            have h_191 : rg x_190 2 2217 := rg_of_eq ex_190 (rg_add h_189 (rg_k (2 : Int32) 2 rfl) (by decide +kernel))
            have uh_191 := h_191.1
            have vh_191 := h_191.2
            have tx_190 : (x_190).toInt = (x_33).toInt + 2 := by rw [ex_190]; exact i_add_rg (a2 := (x_33).toInt) (b2 := 2) rfl rfl h_189 (rg_k (2 : Int32) 2 rfl) (by decide +kernel)
            refine pl_i hx hb hK hP hL_w_15 hK_w_15 hN_w_15 (rg_in h_191 (by decide +kernel)) dX12_levelAt_104 ?_
            refine lv_topi (fun x_192 ex_192 => ?_)
            replace hF := hF.trans (ap_n (vR_r hO_w_15 (by decide +kernel) ex_192))
            refine lv_iconst (v := 1) hx hb dX12_levelAt_105 (by decide +kernel) ?_
            refine lv_icmp_ne (tgt := 113) hx hb dX12_levelAt_106 (by decide +kernel) (fun c_193 => ?_) (fun c_193 => ?_)
            · replace hF := hF.trans (if_neg c_193)
              have tc_197 : (x_192).toInt ≠ 1 := fun q => c_193 (Int32.toInt_inj.mp q)
              exact K_180 _ _ _ hF hFr hG hP hD hS (lv_sub hl [1, 2, 3, 4, 5, 0] rfl)
            · replace hF := hF.trans (if_pos c_193)
              have tc_198 : (x_192).toInt = 1 := congrArg Int32.toInt c_193
              have h_199 : rg x_192 1 1 := rg_and (rg_full _) (rg_of_eq c_193 (rg_k (1 : Int32) 1 rfl)) (by decide +kernel)
              have uh_199 := h_199.1
              have vh_199 := h_199.2
              refine lv_iconst (v := 1) hx hb dX12_levelAt_109 (by decide +kernel) ?_
              refine lv_goto (tgt := 114) hx hb dX12_levelAt_110 (by decide +kernel) ?_
              exact K_143 _ _ _ (rg_w h_189 (by decide +kernel)) hF hFr hG hP hD hS (lv_sub hl [1, 2, 3, 4, 5, 0] rfl)
        have K_200 : ∀  (H : Heap) (locs : List Loc) (ls : Array Slot), F = g_X12_levelAt_K89_2 a0 a2 (vI 12 σ this I) (vJ 12 σ this J) (vR 12 σ this ri) (vL 12 σ this rj) (vQ 12 σ this rq) x_33  → FR 12 tg σ this (I, J, ri, rj, rq) (I, J, ri, rj, rq) → GM [] tg σ I ri I ri rq → va_P D vwCl (pq_P t σ (I, J, ri, rj, rq)) H → va_D A (pq_P t σ (I, J, ri, rj, rq)) → va_S A s.heap H locs → lv_has ls 9 [(0, .ref this), (1, .int a0), (3, .int a2), (5, .int x_25), (6, .int x_33)] → W p l e ({ frames := 1, cells := 0, slots := 0, locals := 26 } : Room) s m (List.toArray ([.ref this, .int a0, .int a1, .int a2] : List Value)) below meth c H locs 0 0 Q (F0 m 89 ls [.int 0]) := by
          intro H locs ls hF hFr hG hP hD hS hl
          replace hF := hF.trans g_X12_levelAt_K89_2_e
          refine lv_istore (lv' := [(7, .int 0), (0, .ref this), (1, .int a0), (3, .int a2), (5, .int x_25), (6, .int x_33)]) hx hb dX12_levelAt_89 hl (by decide +kernel) rfl (fun ls hl => ?_)
          refine lv_iload hx hb dX12_levelAt_91 (lv_at hl 5 rfl) ?_
          have K_230 : ∀  (H : Heap) (locs : List Loc) (ls : Array Slot), rg (x_33) 0 2215 → F = g_X12_levelAt_K114_3 (vI 12 σ this I) (vJ 12 σ this J) (vR 12 σ this ri) (vL 12 σ this rj) (vQ 12 σ this rq) x_33  → FR 12 tg σ this (I, J, ri, rj, rq) (I, J, ri, rj, rq) → GM [] tg σ I ri I ri rq → va_P D vwCl (pq_P t σ (I, J, ri, rj, rq)) H → va_D A (pq_P t σ (I, J, ri, rj, rq)) → va_S A s.heap H locs → lv_has ls 9 [(0, .ref this), (1, .int a0), (3, .int a2), (5, .int x_25), (6, .int x_33), (7, .int 0)] → W p l e ({ frames := 1, cells := 0, slots := 0, locals := 26 } : Room) s m (List.toArray ([.ref this, .int a0, .int a1, .int a2] : List Value)) below meth c H locs 0 0 Q (F0 m 114 ls [.int 1]) := by
            intro H locs ls h_232 hF hFr hG hP hD hS hl
            have uh_232 := h_232.1
            have vh_232 := h_232.2
            replace hF := hF.trans g_X12_levelAt_K114_3_e
            refine lv_istore (lv' := [(8, .int 1), (0, .ref this), (1, .int a0), (3, .int a2), (5, .int x_25), (6, .int x_33), (7, .int 0)]) hx hb dX12_levelAt_114 hl (by decide +kernel) rfl (fun ls hl => ?_)
            refine lv_iload hx hb dX12_levelAt_116 (lv_at hl 6 rfl) ?_
            have K_239 : ∀  (H : Heap) (locs : List Loc) (ls : Array Slot), F = g_X12_levelAt_K148_2 (vI 12 σ this I) (vJ 12 σ this J) (vR 12 σ this ri) (vL 12 σ this rj) (vQ 12 σ this rq) x_33  → FR 12 tg σ this (I, J, ri, rj, rq) (I, J, ri, rj, rq) → GM [] tg σ I ri I ri rq → va_P D vwCl (pq_P t σ (I, J, ri, rj, rq)) H → va_D A (pq_P t σ (I, J, ri, rj, rq)) → va_S A s.heap H locs → lv_has ls 9 [(0, .ref this), (1, .int a0), (3, .int a2), (5, .int x_25), (6, .int x_33), (7, .int 0), (8, .int 1)] → W p l e ({ frames := 1, cells := 0, slots := 0, locals := 26 } : Room) s m (List.toArray ([.ref this, .int a0, .int a1, .int a2] : List Value)) below meth c H locs 0 0 Q (F0 m 148 ls []) := by
              intro H locs ls hF hFr hG hP hD hS hl
              replace hF := hF.trans g_X12_levelAt_K148_2_e
              refine lv_iload hx hb dX12_levelAt_148 (lv_at hl 5 rfl) ?_
              refine lv_if_eq (tgt := 165) hx hb dX12_levelAt_150 (by decide +kernel) (fun c_240 => ?_) (fun c_240 => absurd c_240 (by decide +kernel))
              refine lv_iload hx hb dX12_levelAt_165 (lv_at hl 6 rfl) ?_
              refine lv_if_eq (tgt := 182) hx hb dX12_levelAt_167 (by decide +kernel) (fun c_241 => absurd c_241 (by decide +kernel)) (fun c_241 => ?_)
              refine lv_aload_n hx hb dX12_levelAt_170 rfl (lv_at hl 0 rfl) ?_
              refine pg_f (v := .ref w_15) (C := RX12) (T := TX12) (N := 31) hx hb hts (tw_i inlX12) hown hK hP hL_this hK_this (by decide +kernel) rfl 0 (by decide +kernel) (hts _ (tw_c tw_176)) (pq_hv rfl hR_w_15) dX12_levelAt_171 ?_
              refine lv_iload hx hb dX12_levelAt_174 (lv_at hl 4 rfl) ?_
              refine lv_iconst (v := 3) hx hb dX12_levelAt_176 (by decide +kernel) ?_
              refine lv_iadd hx hb dX12_levelAt_177 ?_
              refine lv_topi (fun x_242 ex_242 => ?_)
              replace hF := hF.trans (ap_n ex_242)
              have h_243 : rg x_242 3 2218 := rg_of_eq ex_242 (rg_add h_232 (rg_k (3 : Int32) 3 rfl) (by decide +kernel))
              have uh_243 := h_243.1
              have vh_243 := h_243.2
              have tx_242 : (x_242).toInt = (x_33).toInt + 3 := by rw [ex_242]; exact i_add_rg (a2 := (x_33).toInt) (b2 := 3) rfl rfl h_232 (rg_k (3 : Int32) 3 rfl) (by decide +kernel)
              refine pl_i hx hb hK hP hL_w_15 hK_w_15 hN_w_15 (rg_in h_243 (by decide +kernel)) dX12_levelAt_178 ?_
              refine lv_topi (fun x_244 ex_244 => ?_)
              replace hF := hF.trans (ap_n (vR_r hO_w_15 (by decide +kernel) ex_244))
              refine lv_goto (tgt := 188) hx hb dX12_levelAt_179 (by decide +kernel) ?_
              subst hQ
              exact W.iret (v := x_244) hx hb hr (fun t1 ht hW => ⟨⟨x_244, (σ, I, J, ri, rj, rq), rfl, ⟨rfl, (hF0.symm.trans hF)⟩, by rw [ht]; exact hP, va_K.moved hW.alike hK, hD⟩, hS.F ht⟩) hS.2.2 dX12_levelAt_188
            refine lv_if_eq (tgt := 148) hx hb dX12_levelAt_118 (by decide +kernel) (fun c_245 => ?_) (fun c_245 => absurd c_245 (by decide +kernel))
            exact K_239 _ _ _ hF hFr hG hP hD hS (lv_sub hl [1, 2, 3, 4, 5, 6, 0] rfl)
          have K_246 : ∀  (H : Heap) (locs : List Loc) (ls : Array Slot), F = g_X12_levelAt_K114_4 a0 a2 (vI 12 σ this I) (vJ 12 σ this J) (vR 12 σ this ri) (vL 12 σ this rj) (vQ 12 σ this rq)  → FR 12 tg σ this (I, J, ri, rj, rq) (I, J, ri, rj, rq) → GM [] tg σ I ri I ri rq → va_P D vwCl (pq_P t σ (I, J, ri, rj, rq)) H → va_D A (pq_P t σ (I, J, ri, rj, rq)) → va_S A s.heap H locs → lv_has ls 9 [(0, .ref this), (1, .int a0), (3, .int a2), (5, .int x_25), (6, .int x_33), (7, .int 0)] → W p l e ({ frames := 1, cells := 0, slots := 0, locals := 26 } : Room) s m (List.toArray ([.ref this, .int a0, .int a1, .int a2] : List Value)) below meth c H locs 0 0 Q (F0 m 114 ls [.int 0]) := by
            intro H locs ls hF hFr hG hP hD hS hl
            replace hF := hF.trans g_X12_levelAt_K114_4_e
            refine lv_istore (lv' := [(8, .int 0), (0, .ref this), (1, .int a0), (3, .int a2), (5, .int x_25), (6, .int x_33), (7, .int 0)]) hx hb dX12_levelAt_114 hl (by decide +kernel) rfl (fun ls hl => ?_)
            refine lv_iload hx hb dX12_levelAt_116 (lv_at hl 6 rfl) ?_
            have K_257 : ∀  (H : Heap) (locs : List Loc) (ls : Array Slot), F = g_X12_levelAt_K148_3 a0 a2 (vI 12 σ this I) (vJ 12 σ this J) (vR 12 σ this ri) (vL 12 σ this rj) (vQ 12 σ this rq)  → FR 12 tg σ this (I, J, ri, rj, rq) (I, J, ri, rj, rq) → GM [] tg σ I ri I ri rq → va_P D vwCl (pq_P t σ (I, J, ri, rj, rq)) H → va_D A (pq_P t σ (I, J, ri, rj, rq)) → va_S A s.heap H locs → lv_has ls 9 [(0, .ref this), (1, .int a0), (3, .int a2), (5, .int x_25), (6, .int x_33), (7, .int 0), (8, .int 0)] → W p l e ({ frames := 1, cells := 0, slots := 0, locals := 26 } : Room) s m (List.toArray ([.ref this, .int a0, .int a1, .int a2] : List Value)) below meth c H locs 0 0 Q (F0 m 148 ls []) := by
              intro H locs ls hF hFr hG hP hD hS hl
              replace hF := hF.trans g_X12_levelAt_K148_3_e
              refine lv_iload hx hb dX12_levelAt_148 (lv_at hl 5 rfl) ?_
              refine lv_if_eq (tgt := 165) hx hb dX12_levelAt_150 (by decide +kernel) (fun c_258 => ?_) (fun c_258 => absurd c_258 (by decide +kernel))
              refine lv_iload hx hb dX12_levelAt_165 (lv_at hl 6 rfl) ?_
              refine lv_if_eq (tgt := 182) hx hb dX12_levelAt_167 (by decide +kernel) (fun c_259 => ?_) (fun c_259 => absurd c_259 (by decide +kernel))
              refine lv_aload_n hx hb dX12_levelAt_182 rfl (lv_at hl 0 rfl) ?_
              refine lv_iload_n hx hb dX12_levelAt_183 rfl (lv_at hl 1 rfl) ?_
              refine lv_iload_n hx hb dX12_levelAt_184 rfl (lv_at hl 2 rfl) ?_
              refine pk_i (va_runV (As := [.int a0, .int a2]) (rest := []) ⟨hx, hb, hml, hown, hts⟩ (s_X12_worst l D t σ I J ri rj rq H.size tg hSH hG.1 this a0 a2 hL_this hK_this) (cwV 2 hts (tw_V tw_297 tw_298 tw_299 tw_5 tw_300) rfl rfl rfl cv_yX12_worst_2 ⟨Nat.le_of_ble_eq_true rfl, Nat.le_of_ble_eq_true rfl⟩) ⟨pq_blind, pq_recv hK hP hL_this hK_this (by decide +kernel) rfl, pq_pre hK hN hP hD⟩ rfl rfl hl.1 rfl (lv_room (Nat.le_of_ble_eq_true rfl)) dX12_levelAt_185 ⟨Nat.le_of_ble_eq_true rfl, Nat.le_of_ble_eq_true rfl⟩) hD hS hA (fun x_260 σ1 μ1 H locs hw_261 hP hD hS => ?_)
              obtain ⟨hu_262, hfn_265⟩ := hw_261
              obtain ⟨hu_262a, hu_262b⟩ := Prod.mk.inj hu_262
              rw [hu_262a, hu_262b] at hP hD
              replace hF := hF.trans (bn_n hfn_265)
              subst hQ
              exact W.iret (v := x_260) hx hb hr (fun t1 ht hW => ⟨⟨x_260, (σ, I, J, ri, rj, rq), rfl, ⟨rfl, (hF0.symm.trans hF)⟩, by rw [ht]; exact hP, va_K.moved hW.alike hK, hD⟩, hS.F ht⟩) hS.2.2 dX12_levelAt_188
            refine lv_if_eq (tgt := 148) hx hb dX12_levelAt_118 (by decide +kernel) (fun c_267 => ?_) (fun c_267 => absurd c_267 (by decide +kernel))
            exact K_257 _ _ _ hF hFr hG hP hD hS (lv_sub hl [1, 2, 3, 4, 5, 6, 0] rfl)
          have K_268 : ∀  (H : Heap) (locs : List Loc) (ls : Array Slot), F = g_X12_levelAt_K113_2 a0 a2 (vI 12 σ this I) (vJ 12 σ this J) (vR 12 σ this ri) (vL 12 σ this rj) (vQ 12 σ this rq)  → FR 12 tg σ this (I, J, ri, rj, rq) (I, J, ri, rj, rq) → GM [] tg σ I ri I ri rq → va_P D vwCl (pq_P t σ (I, J, ri, rj, rq)) H → va_D A (pq_P t σ (I, J, ri, rj, rq)) → va_S A s.heap H locs → lv_has ls 9 [(0, .ref this), (1, .int a0), (3, .int a2), (5, .int x_25), (6, .int x_33), (7, .int 0)] → W p l e ({ frames := 1, cells := 0, slots := 0, locals := 26 } : Room) s m (List.toArray ([.ref this, .int a0, .int a1, .int a2] : List Value)) below meth c H locs 0 0 Q (F0 m 113 ls []) := by
            intro H locs ls hF hFr hG hP hD hS hl
            replace hF := hF.trans g_X12_levelAt_K113_2_e
            refine lv_iconst (v := 0) hx hb dX12_levelAt_113 (by decide +kernel) ?_
            exact K_246 _ _ _ hF hFr hG hP hD hS (lv_sub hl [0, 1, 2, 3, 4, 5] rfl)
          refine lv_if_lt (tgt := 113) hx hb dX12_levelAt_93 (by decide +kernel) (fun c_269 => ?_) (fun c_269 => ?_)
          · replace hF := hF.trans (if_pos c_269)
            have tc_274 : (x_33).toInt < 0 := Int32.lt_iff_toInt_lt.mp c_269
            have h_275 : rg x_33 (-1) (-1) := rg_lt1 c_269 hr_37 (rg_k (0 : Int32) 0 rfl) (by decide +kernel)
            have uh_275 := h_275.1
            have vh_275 := h_275.2
            exact K_268 _ _ _ hF hFr hG hP hD hS (lv_sub hl [1, 2, 3, 4, 5, 0] rfl)
          · replace hF := hF.trans (if_neg c_269)
            have tc_276 : 0 ≤ (x_33).toInt := Int32.le_iff_toInt_le.mp (nlt c_269)
            have h_277 : rg x_33 0 2215 := rg_le2 (nlt c_269) (rg_k (0 : Int32) 0 rfl) hr_37 (by decide +kernel)
            have uh_277 := h_277.1
            have vh_277 := h_277.2
            refine lv_aload_n hx hb dX12_levelAt_96 rfl (lv_at hl 1 rfl) ?_
            refine pg_f (v := .ref w_15) (C := RX12) (T := TX12) (N := 31) hx hb hts (tw_i inlX12) hown hK hP hL_this hK_this (by decide +kernel) rfl 0 (by decide +kernel) (hts _ (tw_c tw_176)) (pq_hv rfl hR_w_15) dX12_levelAt_97 ?_
            refine lv_iload hx hb dX12_levelAt_100 (lv_at hl 5 rfl) ?_
            refine lv_iconst (v := 2) hx hb dX12_levelAt_102 (by decide +kernel) ?_
            refine lv_iadd hx hb dX12_levelAt_103 ?_
            refine lv_topi (fun x_278 ex_278 => ?_)
            replace hF := hF.trans (ap_n ex_278)
            have h_279 : rg x_278 2 2217 := rg_of_eq ex_278 (rg_add h_277 (rg_k (2 : Int32) 2 rfl) (by decide +kernel))
            have uh_279 := h_279.1
            have vh_279 := h_279.2
            have tx_278 : (x_278).toInt = (x_33).toInt + 2 := by rw [ex_278]; exact i_add_rg (a2 := (x_33).toInt) (b2 := 2) rfl rfl h_277 (rg_k (2 : Int32) 2 rfl) (by decide +kernel)
            refine pl_i hx hb hK hP hL_w_15 hK_w_15 hN_w_15 (rg_in h_279 (by decide +kernel)) dX12_levelAt_104 ?_
            refine lv_topi (fun x_280 ex_280 => ?_)
            replace hF := hF.trans (ap_n (vR_r hO_w_15 (by decide +kernel) ex_280))
            refine lv_iconst (v := 1) hx hb dX12_levelAt_105 (by decide +kernel) ?_
            refine lv_icmp_ne (tgt := 113) hx hb dX12_levelAt_106 (by decide +kernel) (fun c_281 => ?_) (fun c_281 => ?_)
            · replace hF := hF.trans (if_neg c_281)
              have tc_285 : (x_280).toInt ≠ 1 := fun q => c_281 (Int32.toInt_inj.mp q)
              exact K_268 _ _ _ hF hFr hG hP hD hS (lv_sub hl [1, 2, 3, 4, 5, 0] rfl)
            · replace hF := hF.trans (if_pos c_281)
              have tc_286 : (x_280).toInt = 1 := congrArg Int32.toInt c_281
              have h_287 : rg x_280 1 1 := rg_and (rg_full _) (rg_of_eq c_281 (rg_k (1 : Int32) 1 rfl)) (by decide +kernel)
              have uh_287 := h_287.1
              have vh_287 := h_287.2
              refine lv_iconst (v := 1) hx hb dX12_levelAt_109 (by decide +kernel) ?_
              refine lv_goto (tgt := 114) hx hb dX12_levelAt_110 (by decide +kernel) ?_
              exact K_230 _ _ _ (rg_w h_277 (by decide +kernel)) hF hFr hG hP hD hS (lv_sub hl [1, 2, 3, 4, 5, 0] rfl)
        have K_288 : ∀  (H : Heap) (locs : List Loc) (ls : Array Slot), F = g_X12_levelAt_K88 a0 a2 (vI 12 σ this I) (vJ 12 σ this J) (vR 12 σ this ri) (vL 12 σ this rj) (vQ 12 σ this rq) x_33  → FR 12 tg σ this (I, J, ri, rj, rq) (I, J, ri, rj, rq) → GM [] tg σ I ri I ri rq → va_P D vwCl (pq_P t σ (I, J, ri, rj, rq)) H → va_D A (pq_P t σ (I, J, ri, rj, rq)) → va_S A s.heap H locs → lv_has ls 9 [(0, .ref this), (1, .int a0), (3, .int a2), (5, .int x_25), (6, .int x_33)] → W p l e ({ frames := 1, cells := 0, slots := 0, locals := 26 } : Room) s m (List.toArray ([.ref this, .int a0, .int a1, .int a2] : List Value)) below meth c H locs 0 0 Q (F0 m 88 ls []) := by
          intro H locs ls hF hFr hG hP hD hS hl
          replace hF := hF.trans g_X12_levelAt_K88_e
          refine lv_iconst (v := 0) hx hb dX12_levelAt_88 (by decide +kernel) ?_
          exact K_200 _ _ _ hF hFr hG hP hD hS (lv_sub hl [0, 1, 2, 3, 4] rfl)
        refine lv_if_lt (tgt := 88) hx hb dX12_levelAt_68 (by decide +kernel) (fun c_289 => ?_) (fun c_289 => ?_)
        · replace hF := hF.trans (if_pos c_289)
          have tc_294 : (x_25).toInt < 0 := Int32.lt_iff_toInt_lt.mp c_289
          have h_295 : rg x_25 (-1) (-1) := rg_lt1 c_289 hr_29 (rg_k (0 : Int32) 0 rfl) (by decide +kernel)
          have uh_295 := h_295.1
          have vh_295 := h_295.2
          exact K_288 _ _ _ hF hFr hG hP hD hS (lv_sub hl [3, 4, 6, 1, 0] rfl)
        · replace hF := hF.trans (if_neg c_289)
          have tc_296 : 0 ≤ (x_25).toInt := Int32.le_iff_toInt_le.mp (nlt c_289)
          have h_297 : rg x_25 0 2215 := rg_le2 (nlt c_289) (rg_k (0 : Int32) 0 rfl) hr_29 (by decide +kernel)
          have uh_297 := h_297.1
          have vh_297 := h_297.2
          refine lv_aload_n hx hb dX12_levelAt_71 rfl (lv_at hl 3 rfl) ?_
          refine pg_f (v := .ref w_15) (C := RX12) (T := TX12) (N := 31) hx hb hts (tw_i inlX12) hown hK hP hL_this hK_this (by decide +kernel) rfl 0 (by decide +kernel) (hts _ (tw_c tw_176)) (pq_hv rfl hR_w_15) dX12_levelAt_72 ?_
          refine lv_iload hx hb dX12_levelAt_75 (lv_at hl 1 rfl) ?_
          refine lv_iconst (v := 2) hx hb dX12_levelAt_77 (by decide +kernel) ?_
          refine lv_iadd hx hb dX12_levelAt_78 ?_
          refine lv_topi (fun x_298 ex_298 => ?_)
          replace hF := hF.trans (ap_n ex_298)
          have h_299 : rg x_298 2 2217 := rg_of_eq ex_298 (rg_add h_297 (rg_k (2 : Int32) 2 rfl) (by decide +kernel))
          have uh_299 := h_299.1
          have vh_299 := h_299.2
          have tx_298 : (x_298).toInt = (x_25).toInt + 2 := by rw [ex_298]; exact i_add_rg (a2 := (x_25).toInt) (b2 := 2) rfl rfl h_297 (rg_k (2 : Int32) 2 rfl) (by decide +kernel)
          refine pl_i hx hb hK hP hL_w_15 hK_w_15 hN_w_15 (rg_in h_299 (by decide +kernel)) dX12_levelAt_79 ?_
          refine lv_topi (fun x_300 ex_300 => ?_)
          replace hF := hF.trans (ap_n (vR_r hO_w_15 (by decide +kernel) ex_300))
          refine lv_iconst (v := 1) hx hb dX12_levelAt_80 (by decide +kernel) ?_
          refine lv_icmp_ne (tgt := 88) hx hb dX12_levelAt_81 (by decide +kernel) (fun c_301 => ?_) (fun c_301 => ?_)
          · replace hF := hF.trans (if_neg c_301)
            have tc_305 : (x_300).toInt ≠ 1 := fun q => c_301 (Int32.toInt_inj.mp q)
            exact K_288 _ _ _ hF hFr hG hP hD hS (lv_sub hl [3, 4, 6, 1, 0] rfl)
          · replace hF := hF.trans (if_pos c_301)
            have tc_306 : (x_300).toInt = 1 := congrArg Int32.toInt c_301
            have h_307 : rg x_300 1 1 := rg_and (rg_full _) (rg_of_eq c_301 (rg_k (1 : Int32) 1 rfl)) (by decide +kernel)
            have uh_307 := h_307.1
            have vh_307 := h_307.2
            refine lv_iconst (v := 1) hx hb dX12_levelAt_84 (by decide +kernel) ?_
            refine lv_goto (tgt := 89) hx hb dX12_levelAt_85 (by decide +kernel) ?_
            exact K_111 _ _ _ (rg_w h_297 (by decide +kernel)) hF hFr hG hP hD hS (lv_sub hl [3, 4, 6, 1, 0] rfl)
      · replace hF := hF.trans (if_pos c_19)
        have tc_308 : (x_18).toInt = 1 := congrArg Int32.toInt c_19
        have h_309 : rg x_18 1 1 := rg_and (rg_full _) (rg_of_eq c_19 (rg_k (1 : Int32) 1 rfl)) (by decide +kernel)
        have uh_309 := h_309.1
        have vh_309 := h_309.2
        refine lv_aload_n hx hb dX12_levelAt_34 rfl (lv_at hl 1 rfl) ?_
        refine pg_f (v := .ref w_15) (C := RX12) (T := TX12) (N := 31) hx hb hts (tw_i inlX12) hown hK hP hL_this hK_this (by decide +kernel) rfl 0 (by decide +kernel) (hts _ (tw_c tw_176)) (pq_hv rfl hR_w_15) dX12_levelAt_35 ?_
        refine lv_iload hx hb dX12_levelAt_38 (lv_at hl 0 rfl) ?_
        refine lv_iconst (v := 3) hx hb dX12_levelAt_40 (by decide +kernel) ?_
        refine lv_iadd hx hb dX12_levelAt_41 ?_
        refine lv_topi (fun x_310 ex_310 => ?_)
        replace hF := hF.trans (ap_n ex_310)
        have h_311 : rg x_310 3 2218 := rg_of_eq ex_310 (rg_add h_14 (rg_k (3 : Int32) 3 rfl) (by decide +kernel))
        have uh_311 := h_311.1
        have vh_311 := h_311.2
        have tx_310 : (x_310).toInt = (x_1).toInt + 3 := by rw [ex_310]; exact i_add_rg (a2 := (x_1).toInt) (b2 := 3) rfl rfl h_14 (rg_k (3 : Int32) 3 rfl) (by decide +kernel)
        refine pl_i hx hb hK hP hL_w_15 hK_w_15 hN_w_15 (rg_in h_311 (by decide +kernel)) dX12_levelAt_42 ?_
        refine lv_topi (fun x_312 ex_312 => ?_)
        replace hF := hF.trans (ap_n (vR_r hO_w_15 (by decide +kernel) ex_312))
        subst hQ
        exact W.iret (v := x_312) hx hb hr (fun t1 ht hW => ⟨⟨x_312, (σ, I, J, ri, rj, rq), rfl, ⟨rfl, (hF0.symm.trans hF)⟩, by rw [ht]; exact hP, va_K.moved hW.alike hK, hD⟩, hS.F ht⟩) hS.2.2 dX12_levelAt_43
    · replace hF := hF.trans (if_neg c_8)
      have tc_313 : (x_1).toInt < 0 := Int32.lt_iff_toInt_lt.mp (nle c_8)
      have h_314 : rg x_1 (-1) (-1) := rg_lt1 (nle c_8) hr_5 (rg_k (0 : Int32) 0 rfl) (by decide +kernel)
      have uh_314 := h_314.1
      have vh_314 := h_314.2
      refine lv_aload_n hx hb dX12_levelAt_14 rfl (lv_at hl 1 rfl) ?_
      refine lv_iload_n hx hb dX12_levelAt_15 rfl (lv_at hl 2 rfl) ?_
      refine lv_iload_n hx hb dX12_levelAt_16 rfl (lv_at hl 4 rfl) ?_
      refine pk_i (va_runV (As := [.int a0, .int a2]) (rest := []) ⟨hx, hb, hml, hown, hts⟩ (s_X12_worst l D t σ I J ri rj rq H.size tg hSH hG.1 this a0 a2 hL_this hK_this) (cwV 2 hts (tw_V tw_297 tw_298 tw_299 tw_5 tw_300) rfl rfl rfl cv_yX12_worst_2 ⟨Nat.le_of_ble_eq_true rfl, Nat.le_of_ble_eq_true rfl⟩) ⟨pq_blind, pq_recv hK hP hL_this hK_this (by decide +kernel) rfl, pq_pre hK hN hP hD⟩ rfl rfl hl.1 rfl (lv_room (Nat.le_of_ble_eq_true rfl)) dX12_levelAt_17 ⟨Nat.le_of_ble_eq_true rfl, Nat.le_of_ble_eq_true rfl⟩) hD hS hA (fun x_315 σ1 μ1 H locs hw_316 hP hD hS => ?_)
      obtain ⟨hu_317, hfn_320⟩ := hw_316
      obtain ⟨hu_317a, hu_317b⟩ := Prod.mk.inj hu_317
      rw [hu_317a, hu_317b] at hP hD
      replace hF := hF.trans (bn_n hfn_320)
      subst hQ
      exact W.iret (v := x_315) hx hb hr (fun t1 ht hW => ⟨⟨x_315, (σ, I, J, ri, rj, rq), rfl, ⟨rfl, (hF0.symm.trans hF)⟩, by rw [ht]; exact hP, va_K.moved hW.alike hK, hD⟩, hS.F ht⟩) hS.2.2 dX12_levelAt_20
  exact go _ _ _ hP hD hS hl

set_option maxRecDepth 100000 in
def g_X12_levelOf_K35 (I : Nat → Int32) (J : Nat → Int64) (ri : Nat → Nat → Int32) (rj : Nat → Nat → Int64) (rq : Nat → Nat → Option Nat) : Int32 × vM := ((-1000000 : Int32), I, J, ri, rj, rq)
set_option maxRecDepth 100000 in
theorem g_X12_levelOf_K35_e {I : Nat → Int32} {J : Nat → Int64} {ri : Nat → Nat → Int32} {rj : Nat → Nat → Int64} {rq : Nat → Nat → Option Nat} : g_X12_levelOf_K35 I J ri rj rq  = ((-1000000 : Int32), I, J, ri, rj, rq) := rfl
set_option maxRecDepth 100000 in
def g_X12_levelOf (a0 : Int32) (a1 : Int32) (a2 : Int32) (I : Nat → Int32) (J : Nat → Int64) (ri : Nat → Nat → Int32) (rj : Nat → Nat → Int64) (rq : Nat → Nat → Option Nat) : Int32 × vM := (ap1 (g_X12_isRise a0) fun (x_1 : Int32) => (if x_1 = (0 : Int32) then (g_X12_levelOf_K35 I J ri rj rq ) else (ap1 (g_X12_isMonth a1) fun (x_72 : Int32) => (if x_72 = (0 : Int32) then (g_X12_levelOf_K35 I J ri rj rq ) else (ap1 (g_X12_isIn a2 (0 : Int32) (600 : Int32)) fun (x_93 : Int32) => (if x_93 = (0 : Int32) then (g_X12_levelOf_K35 I J ri rj rq ) else (bnI (g_X12_levelAt a0 a1 a2 I J ri rj rq) fun (x_124 : Int32) (_ : Nat → Int32) (_ : Nat → Int64) (_ : Nat → Nat → Int32) (_ : Nat → Nat → Int64) (_ : Nat → Nat → Option Nat) => (x_124, I, J, ri, rj, rq))))))))
set_option maxRecDepth 100000 in
theorem g_X12_levelOf_e {a0 : Int32} {a1 : Int32} {a2 : Int32} {I : Nat → Int32} {J : Nat → Int64} {ri : Nat → Nat → Int32} {rj : Nat → Nat → Int64} {rq : Nat → Nat → Option Nat} : g_X12_levelOf a0 a1 a2 I J ri rj rq = (ap1 (g_X12_isRise a0) fun (x_1 : Int32) => (if x_1 = (0 : Int32) then (g_X12_levelOf_K35 I J ri rj rq ) else (ap1 (g_X12_isMonth a1) fun (x_72 : Int32) => (if x_72 = (0 : Int32) then (g_X12_levelOf_K35 I J ri rj rq ) else (ap1 (g_X12_isIn a2 (0 : Int32) (600 : Int32)) fun (x_93 : Int32) => (if x_93 = (0 : Int32) then (g_X12_levelOf_K35 I J ri rj rq ) else (bnI (g_X12_levelAt a0 a1 a2 I J ri rj rq) fun (x_124 : Int32) (_ : Nat → Int32) (_ : Nat → Int64) (_ : Nat → Nat → Int32) (_ : Nat → Nat → Int64) (_ : Nat → Nat → Option Nat) => (x_124, I, J, ri, rj, rq)))))))) := rfl
set_option maxHeartbeats 4000000 in
set_option maxRecDepth 100000 in
theorem s_X12_levelOf (l : Launch) (D : va_G) (t : pq_T) (σ : pq_S) (I : Nat → Nat → Int32) (J : Nat → Nat → Int64) (ri : Nat → Nat → Int32) (rj : Nat → Nat → Int64) (rq : Nat → Nat → Option Nat) (sz : Nat) (tg : Nat → Nat) (hSH : SH σ tg) (hG0 : GT tg I ri) (this : Nat) (a0 : Int32) (a1 : Int32) (a2 : Int32) (hL_this : this ∈ σ.1) (hK_this : σ.2.1 this = 12) : MetI l yX12_levelOf (wa yX12_levelOf cX12_levelOf 4 (some .int)) ({ frames := 2, cells := 0, slots := 0, locals := 54 }) [.ref this, .int a0, .int a1, .int a2] D t σ (I, J, ri, rj, rq) sz 0 0 (fun (r : Int32) (u : pq_S × pq_M) => u = (σ, I, J, ri, rj, rq) ∧ g_X12_levelOf a0 a1 a2 (vI 12 σ this I) (vJ 12 σ this J) (vR 12 σ this ri) (vL 12 σ this rj) (vQ 12 σ this rq) = (r, (vI 12 σ this I), (vJ 12 σ this J), (vR 12 σ this ri), (vL 12 σ this rj), (vQ 12 σ this rq))) := by
  refine Met.ofW (cc := cX12_levelOf) (maxL := 4) (ret := (some .int)) (by decide +kernel) rfl ?_
  intro p e s m args below meth c s₁ B hml hv
  obtain ⟨rfl, hsz, hP, hK, hD0, hN⟩ := hv
  have hx := B.exec
  have hb := B.bytes
  have hr := B.returns
  have hts := atoms_spec (ws := (wa yX12_levelOf cX12_levelOf 4 (some .int))) B.pre
  have hown : s.vm.findClass RX12 = some m.cls := findClass_of_methodNamed B.named
  have hlocks := B.notSynchronized
  subst hsz
  have hD : va_D (pq_B t σ (I, J, ri, rj, rq) s.heap.size) (pq_P t σ (I, J, ri, rj, rq)) := hD0.self
  generalize hAe : pq_B t σ (I, J, ri, rj, rq) s.heap.size = A at hD ⊢
  have hA : ∀ q : Nat, s.heap.size ≤ q → A q := fun q h => by rw [← hAe]; exact Or.inr h
  have hS : va_S A s.heap s.heap [] := va_S.rf
  have hG : GM [] tg σ I ri I ri rq := ⟨hG0, fun _ _ _ => rfl, fun _ _ _ _ _ => rfl, fun _ _ _ _ _ _ => rfl⟩
  have hl := lv_entry ([.ref this, .int a0, .int a1, .int a2]) (n := 4) (Nat.le_of_ble_eq_true rfl)
  rw [lg_entry_eq]
  generalize (lg_sl ([.ref this, .int a0, .int a1, .int a2]) ++ List.replicate (4 - (lg_sl ([.ref this, .int a0, .int a1, .int a2])).length) Slot.unset).toArray = ls at hl ⊢
  have hl : lv_has ls 4 [(0, .ref this), (1, .int a0), (2, .int a1), (3, .int a2)] := hl
  refine q_gen (fun Q hQ => ?_)
  have go : ∀ (H : Heap) (locs : List Loc) (ls : Array Slot), va_P D vwCl (pq_P t σ (I, J, ri, rj, rq)) H → va_D A (pq_P t σ (I, J, ri, rj, rq)) → va_S A s.heap H locs → lv_has ls 4 [(0, .ref this), (1, .int a0), (2, .int a1), (3, .int a2)] → W p l e ({ frames := 2, cells := 0, slots := 0, locals := 54 } : Room) s m (List.toArray ([.ref this, .int a0, .int a1, .int a2] : List Value)) below meth c H locs 0 0 Q (F0 m 0 ls []) := by
    intro H locs ls hP hD hS hl
    have hO_this : this = vo σ 12 this := rfl
    have hVT : VT 12 σ tg this := vt_12 hSH hL_this hK_this
    have hFr : FR 12 tg σ this (I, J, ri, rj, rq) (I, J, ri, rj, rq) := fr_rf
    obtain ⟨F, hF0⟩ : ∃ F, F = g_X12_levelOf a0 a1 a2 (vI 12 σ this I) (vJ 12 σ this J) (vR 12 σ this ri) (vL 12 σ this rj) (vQ 12 σ this rq) := ⟨_, rfl⟩
    have hF := hF0.trans g_X12_levelOf_e
    refine lv_iload_n hx hb dX12_levelOf_0 rfl (lv_at hl 1 rfl) ?_
    refine pk_i (va_runS (As := [.int a0]) (rest := []) ⟨hx, hb, hml, hown, hts⟩ (s_X12_isRise l D t σ I J ri rj rq H.size tg hSH hG.1 a0) (va_cwS 1 hts (tw_S tw_259 tw_260 tw_5 tw_261) rfl rfl rfl cd_yX12_isRise_1 ⟨Nat.le_of_ble_eq_true rfl, Nat.le_of_ble_eq_true rfl⟩) ⟨pq_blind, pq_pre hK hN hP hD⟩ rfl rfl hl.1 rfl (lv_room (Nat.le_of_ble_eq_true rfl)) dX12_levelOf_1 ⟨Nat.le_of_ble_eq_true rfl, Nat.le_of_ble_eq_true rfl⟩) hD hS hA (fun x_1 σ1 μ1 H locs hw_2 hP hD hS => ?_)
    obtain ⟨hu_3, hfn_6, hr_5⟩ := hw_2
    obtain ⟨hu_3a, hu_3b⟩ := Prod.mk.inj hu_3
    rw [hu_3a, hu_3b] at hP hD
    replace hF := hF.trans (ap_n hfn_6.symm)
    have h_8 : rg x_1 0 1 := by rcases hr_5 with ⟨q, -⟩ | ⟨q, -⟩ <;> rw [q] <;> exact ⟨by decide +kernel, by decide +kernel⟩
    have uh_8 := h_8.1
    have vh_8 := h_8.2
    have K_58 : ∀  (H : Heap) (locs : List Loc) (ls : Array Slot), F = g_X12_levelOf_K35 (vI 12 σ this I) (vJ 12 σ this J) (vR 12 σ this ri) (vL 12 σ this rj) (vQ 12 σ this rq)  → FR 12 tg σ this (I, J, ri, rj, rq) (I, J, ri, rj, rq) → GM [] tg σ I ri I ri rq → va_P D vwCl (pq_P t σ (I, J, ri, rj, rq)) H → va_D A (pq_P t σ (I, J, ri, rj, rq)) → va_S A s.heap H locs → lv_has ls 4 [] → W p l e ({ frames := 2, cells := 0, slots := 0, locals := 54 } : Room) s m (List.toArray ([.ref this, .int a0, .int a1, .int a2] : List Value)) below meth c H locs 0 0 Q (F0 m 35 ls []) := by
      intro H locs ls hF hFr hG hP hD hS hl
      replace hF := hF.trans g_X12_levelOf_K35_e
      refine lv_ldc hx hb hown (hts _ (tw_c tw_288)) dX12_levelOf_35 ?_
      subst hQ
      exact W.iret (v := (-1000000)) hx hb hr (fun t1 ht hW => ⟨⟨(-1000000), (σ, I, J, ri, rj, rq), rfl, ⟨rfl, (hF0.symm.trans hF)⟩, by rw [ht]; exact hP, va_K.moved hW.alike hK, hD⟩, hS.F ht⟩) hS.2.2 dX12_levelOf_37
    refine lv_if_eq (tgt := 35) hx hb dX12_levelOf_4 (by decide +kernel) (fun c_59 => ?_) (fun c_59 => ?_)
    · replace hF := hF.trans (if_pos c_59)
      have f_66 := (hr_5.resolve_left (fun q => absurd (q.1.symm.trans c_59) (by decide +kernel))).2
      have tc_67 : (x_1).toInt = 0 := congrArg Int32.toInt c_59
      have h_68 : rg x_1 0 0 := rg_and h_8 (rg_of_eq c_59 (rg_k (0 : Int32) 0 rfl)) (by decide +kernel)
      have uh_68 := h_68.1
      have vh_68 := h_68.2
      exact K_58 _ _ _ hF hFr hG hP hD hS (lv_sub hl [] rfl)
    · replace hF := hF.trans (if_neg c_59)
      have f_69 := (hr_5.resolve_right (fun q => c_59 q.1)).2
      have uf_69 := f_69.1
      have vf_69 := f_69.2
      have tc_70 : (x_1).toInt ≠ 0 := fun q => c_59 (Int32.toInt_inj.mp q)
      have h_71 : rg x_1 1 1 := rg_ne c_59 h_8 0 rfl (by decide +kernel)
      have uh_71 := h_71.1
      have vh_71 := h_71.2
      refine lv_iload_n hx hb dX12_levelOf_7 rfl (lv_at hl 2 rfl) ?_
      refine pk_i (va_runS (As := [.int a1]) (rest := []) ⟨hx, hb, hml, hown, hts⟩ (s_X12_isMonth l D t σ I J ri rj rq H.size tg hSH hG.1 a1) (va_cwS 1 hts (tw_S tw_262 tw_263 tw_5 tw_264) rfl rfl rfl cd_yX12_isMonth_1 ⟨Nat.le_of_ble_eq_true rfl, Nat.le_of_ble_eq_true rfl⟩) ⟨pq_blind, pq_pre hK hN hP hD⟩ rfl rfl hl.1 rfl (lv_room (Nat.le_of_ble_eq_true rfl)) dX12_levelOf_8 ⟨Nat.le_of_ble_eq_true rfl, Nat.le_of_ble_eq_true rfl⟩) hD hS hA (fun x_72 σ1 μ1 H locs hw_73 hP hD hS => ?_)
      obtain ⟨hu_74, hfn_77, hr_76⟩ := hw_73
      obtain ⟨hu_74a, hu_74b⟩ := Prod.mk.inj hu_74
      rw [hu_74a, hu_74b] at hP hD
      replace hF := hF.trans (ap_n hfn_77.symm)
      have h_79 : rg x_72 0 1 := by rcases hr_76 with ⟨q, -⟩ | ⟨q, -⟩ <;> rw [q] <;> exact ⟨by decide +kernel, by decide +kernel⟩
      have uh_79 := h_79.1
      have vh_79 := h_79.2
      refine lv_if_eq (tgt := 35) hx hb dX12_levelOf_11 (by decide +kernel) (fun c_80 => ?_) (fun c_80 => ?_)
      · replace hF := hF.trans (if_pos c_80)
        have f_87 := (hr_76.resolve_left (fun q => absurd (q.1.symm.trans c_80) (by decide +kernel))).2
        have tc_88 : (x_72).toInt = 0 := congrArg Int32.toInt c_80
        have h_89 : rg x_72 0 0 := rg_and h_79 (rg_of_eq c_80 (rg_k (0 : Int32) 0 rfl)) (by decide +kernel)
        have uh_89 := h_89.1
        have vh_89 := h_89.2
        exact K_58 _ _ _ hF hFr hG hP hD hS (lv_sub hl [] rfl)
      · replace hF := hF.trans (if_neg c_80)
        have f_90 := (hr_76.resolve_right (fun q => c_80 q.1)).2
        have uf_90 := f_90.1
        have vf_90 := f_90.2
        have tc_91 : (x_72).toInt ≠ 0 := fun q => c_80 (Int32.toInt_inj.mp q)
        have h_92 : rg x_72 1 1 := rg_ne c_80 h_79 0 rfl (by decide +kernel)
        have uh_92 := h_92.1
        have vh_92 := h_92.2
        refine lv_iload_n hx hb dX12_levelOf_14 rfl (lv_at hl 3 rfl) ?_
        refine lv_iconst (v := 0) hx hb dX12_levelOf_15 (by decide +kernel) ?_
        refine lv_sipush (v := 600) hx hb dX12_levelOf_16 (by decide +kernel) ?_
        refine pk_i (va_runS (As := [.int a2, .int 0, .int 600]) (rest := []) ⟨hx, hb, hml, hown, hts⟩ (s_X12_isIn l D t σ I J ri rj rq H.size tg hSH hG.1 a2 (0 : Int32) (600 : Int32)) (va_cwS 3 hts (tw_S tw_235 tw_236 tw_5 tw_237) rfl rfl rfl cd_yX12_isIn_3 ⟨Nat.le_of_ble_eq_true rfl, Nat.le_of_ble_eq_true rfl⟩) ⟨pq_blind, pq_pre hK hN hP hD⟩ rfl rfl hl.1 rfl (lv_room (Nat.le_of_ble_eq_true rfl)) dX12_levelOf_19 ⟨Nat.le_of_ble_eq_true rfl, Nat.le_of_ble_eq_true rfl⟩) hD hS hA (fun x_93 σ1 μ1 H locs hw_94 hP hD hS => ?_)
        obtain ⟨hu_95, hfn_98, hr_97⟩ := hw_94
        obtain ⟨hu_95a, hu_95b⟩ := Prod.mk.inj hu_95
        rw [hu_95a, hu_95b] at hP hD
        replace hF := hF.trans (ap_n hfn_98.symm)
        have h_100 : rg x_93 0 1 := by rcases hr_97 with ⟨q, -⟩ | ⟨q, -⟩ <;> rw [q] <;> exact ⟨by decide +kernel, by decide +kernel⟩
        have uh_100 := h_100.1
        have vh_100 := h_100.2
        refine lv_if_eq (tgt := 35) hx hb dX12_levelOf_22 (by decide +kernel) (fun c_101 => ?_) (fun c_101 => ?_)
        · replace hF := hF.trans (if_pos c_101)
          have f_113 := (hr_97.resolve_left (fun q => absurd (q.1.symm.trans c_101) (by decide +kernel))).2
          have tc_114 : (x_93).toInt = 0 := congrArg Int32.toInt c_101
          have h_115 : rg x_93 0 0 := rg_and h_100 (rg_of_eq c_101 (rg_k (0 : Int32) 0 rfl)) (by decide +kernel)
          have uh_115 := h_115.1
          have vh_115 := h_115.2
          exact K_58 _ _ _ hF hFr hG hP hD hS (lv_sub hl [] rfl)
        · replace hF := hF.trans (if_neg c_101)
          obtain ⟨f_116, f_117⟩ := (hr_97.resolve_right (fun q => c_101 q.1)).2
          have tc_118 : 0 ≤ (a2).toInt := Int32.le_iff_toInt_le.mp f_116
          have h_119 : rg a2 0 2147483647 := rg_le2 f_116 (rg_k (0 : Int32) 0 rfl) (rg_full _) (by decide +kernel)
          have uh_119 := h_119.1
          have vh_119 := h_119.2
          have tc_120 : (a2).toInt ≤ 600 := Int32.le_iff_toInt_le.mp f_117
          have h_121 : rg a2 0 600 := rg_le1 f_117 h_119 (rg_k (600 : Int32) 600 rfl) (by decide +kernel)
          have uh_121 := h_121.1
          have vh_121 := h_121.2
          have tc_122 : (x_93).toInt ≠ 0 := fun q => c_101 (Int32.toInt_inj.mp q)
          have h_123 : rg x_93 1 1 := rg_ne c_101 h_100 0 rfl (by decide +kernel)
          have uh_123 := h_123.1
          have vh_123 := h_123.2
          refine lv_aload_n hx hb dX12_levelOf_25 rfl (lv_at hl 0 rfl) ?_
          refine lv_iload_n hx hb dX12_levelOf_26 rfl (lv_at hl 1 rfl) ?_
          refine lv_iload_n hx hb dX12_levelOf_27 rfl (lv_at hl 2 rfl) ?_
          refine lv_iload_n hx hb dX12_levelOf_28 rfl (lv_at hl 3 rfl) ?_
          refine pk_i (va_runV (As := [.int a0, .int a1, .int a2]) (rest := []) ⟨hx, hb, hml, hown, hts⟩ (s_X12_levelAt l D t σ I J ri rj rq H.size tg hSH hG.1 this a0 a1 a2 hL_this hK_this) (cwV 3 hts (tw_V tw_289 tw_290 tw_291 tw_5 tw_292) rfl rfl rfl cv_yX12_levelAt_3 ⟨Nat.le_of_ble_eq_true rfl, Nat.le_of_ble_eq_true rfl⟩) ⟨pq_blind, pq_recv hK hP hL_this hK_this (by decide +kernel) rfl, pq_pre hK hN hP hD⟩ rfl rfl hl.1 rfl (lv_room (Nat.le_of_ble_eq_true rfl)) dX12_levelOf_29 ⟨Nat.le_of_ble_eq_true rfl, Nat.le_of_ble_eq_true rfl⟩) hD hS hA (fun x_124 σ1 μ1 H locs hw_125 hP hD hS => ?_)
          obtain ⟨hu_126, hfn_129⟩ := hw_125
          obtain ⟨hu_126a, hu_126b⟩ := Prod.mk.inj hu_126
          rw [hu_126a, hu_126b] at hP hD
          replace hF := hF.trans (bn_n hfn_129)
          refine lv_goto (tgt := 37) hx hb dX12_levelOf_32 (by decide +kernel) ?_
          subst hQ
          exact W.iret (v := x_124) hx hb hr (fun t1 ht hW => ⟨⟨x_124, (σ, I, J, ri, rj, rq), rfl, ⟨rfl, (hF0.symm.trans hF)⟩, by rw [ht]; exact hP, va_K.moved hW.alike hK, hD⟩, hS.F ht⟩) hS.2.2 dX12_levelOf_37
  exact go _ _ _ hP hD hS hl

set_option maxRecDepth 100000 in
def g_X12_table_K65 (I : Nat → Int32) (J : Nat → Int64) (ri : Nat → Nat → Int32) (rj : Nat → Nat → Int64) (rq : Nat → Nat → Option Nat) : Int32 × vM := ((0 : Int32), I, J, ri, rj, rq)
set_option maxRecDepth 100000 in
theorem g_X12_table_K65_e {I : Nat → Int32} {J : Nat → Int64} {ri : Nat → Nat → Int32} {rj : Nat → Nat → Int64} {rq : Nat → Nat → Option Nat} : g_X12_table_K65 I J ri rj rq  = ((0 : Int32), I, J, ri, rj, rq) := rfl
set_option maxRecDepth 100000 in
def g_X12_table (a0 : Int32) (a1 : Int32) (a2 : Int32) (a3 : Int32) (a4 : Int32) (a5 : Int32) (I : Nat → Int32) (J : Nat → Int64) (ri : Nat → Nat → Int32) (rj : Nat → Nat → Int64) (rq : Nat → Nat → Option Nat) : Int32 × vM := (ap1 (g_X12_isIn a0 (0 : Int32) (11 : Int32)) fun (x_1 : Int32) => (if x_1 = (0 : Int32) then (g_X12_table_K65 I J ri rj rq ) else (ap1 (g_X12_isIn a1 (0 : Int32) (2000 : Int32)) fun (x_165 : Int32) => (if x_165 = (0 : Int32) then (g_X12_table_K65 I J ri rj rq ) else (ap1 (g_X12_isIn a2 a1 (2000 : Int32)) fun (x_196 : Int32) => (if x_196 = (0 : Int32) then (g_X12_table_K65 I J ri rj rq ) else (ap1 (g_X12_isIn a3 (0 : Int32) (40 : Int32)) fun (x_227 : Int32) => (if x_227 = (0 : Int32) then (g_X12_table_K65 I J ri rj rq ) else (ap1 (g_X12_isIn a4 (0 : Int32) (50 : Int32)) fun (x_258 : Int32) => (if x_258 = (0 : Int32) then (g_X12_table_K65 I J ri rj rq ) else (ap1 (g_X12_isIn a5 (0 : Int32) (100 : Int32)) fun (x_289 : Int32) => (if x_289 = (0 : Int32) then (g_X12_table_K65 I J ri rj rq ) else (ap1 ((5 : Int32) * a0) fun (x_317 : Int32) => (ap1 ((20 : Int32) + x_317) fun (x_319 : Int32) => (ap1 (x_319 + (0 : Int32)) fun (x_322 : Int32) => (ap1 (va_up ri 384 (upd (ri 384) (x_322).toNatClampNeg a1)) fun (r_324 : Nat → Nat → Int32) => (ap1 (x_319 + (1 : Int32)) fun (x_325 : Int32) => (ap1 (va_up r_324 384 (upd (r_324 384) (x_325).toNatClampNeg a2)) fun (r_327 : Nat → Nat → Int32) => (ap1 (x_319 + (2 : Int32)) fun (x_328 : Int32) => (ap1 (va_up r_327 384 (upd (r_327 384) (x_328).toNatClampNeg a3)) fun (r_330 : Nat → Nat → Int32) => (ap1 (x_319 + (3 : Int32)) fun (x_331 : Int32) => (ap1 (va_up r_330 384 (upd (r_330 384) (x_331).toNatClampNeg a4)) fun (r_333 : Nat → Nat → Int32) => (ap1 (x_319 + (4 : Int32)) fun (x_334 : Int32) => (ap1 (va_up r_333 384 (upd (r_333 384) (x_334).toNatClampNeg a5)) fun (r_336 : Nat → Nat → Int32) => ((1 : Int32), I, J, r_336, rj, rq)))))))))))))))))))))))))
set_option maxRecDepth 100000 in
theorem g_X12_table_e {a0 : Int32} {a1 : Int32} {a2 : Int32} {a3 : Int32} {a4 : Int32} {a5 : Int32} {I : Nat → Int32} {J : Nat → Int64} {ri : Nat → Nat → Int32} {rj : Nat → Nat → Int64} {rq : Nat → Nat → Option Nat} : g_X12_table a0 a1 a2 a3 a4 a5 I J ri rj rq = (ap1 (g_X12_isIn a0 (0 : Int32) (11 : Int32)) fun (x_1 : Int32) => (if x_1 = (0 : Int32) then (g_X12_table_K65 I J ri rj rq ) else (ap1 (g_X12_isIn a1 (0 : Int32) (2000 : Int32)) fun (x_165 : Int32) => (if x_165 = (0 : Int32) then (g_X12_table_K65 I J ri rj rq ) else (ap1 (g_X12_isIn a2 a1 (2000 : Int32)) fun (x_196 : Int32) => (if x_196 = (0 : Int32) then (g_X12_table_K65 I J ri rj rq ) else (ap1 (g_X12_isIn a3 (0 : Int32) (40 : Int32)) fun (x_227 : Int32) => (if x_227 = (0 : Int32) then (g_X12_table_K65 I J ri rj rq ) else (ap1 (g_X12_isIn a4 (0 : Int32) (50 : Int32)) fun (x_258 : Int32) => (if x_258 = (0 : Int32) then (g_X12_table_K65 I J ri rj rq ) else (ap1 (g_X12_isIn a5 (0 : Int32) (100 : Int32)) fun (x_289 : Int32) => (if x_289 = (0 : Int32) then (g_X12_table_K65 I J ri rj rq ) else (ap1 ((5 : Int32) * a0) fun (x_317 : Int32) => (ap1 ((20 : Int32) + x_317) fun (x_319 : Int32) => (ap1 (x_319 + (0 : Int32)) fun (x_322 : Int32) => (ap1 (va_up ri 384 (upd (ri 384) (x_322).toNatClampNeg a1)) fun (r_324 : Nat → Nat → Int32) => (ap1 (x_319 + (1 : Int32)) fun (x_325 : Int32) => (ap1 (va_up r_324 384 (upd (r_324 384) (x_325).toNatClampNeg a2)) fun (r_327 : Nat → Nat → Int32) => (ap1 (x_319 + (2 : Int32)) fun (x_328 : Int32) => (ap1 (va_up r_327 384 (upd (r_327 384) (x_328).toNatClampNeg a3)) fun (r_330 : Nat → Nat → Int32) => (ap1 (x_319 + (3 : Int32)) fun (x_331 : Int32) => (ap1 (va_up r_330 384 (upd (r_330 384) (x_331).toNatClampNeg a4)) fun (r_333 : Nat → Nat → Int32) => (ap1 (x_319 + (4 : Int32)) fun (x_334 : Int32) => (ap1 (va_up r_333 384 (upd (r_333 384) (x_334).toNatClampNeg a5)) fun (r_336 : Nat → Nat → Int32) => ((1 : Int32), I, J, r_336, rj, rq))))))))))))))))))))))))) := rfl
set_option maxHeartbeats 4000000 in
set_option maxRecDepth 100000 in
theorem s_X12_table (l : Launch) (D : va_G) (t : pq_T) (σ : pq_S) (I : Nat → Nat → Int32) (J : Nat → Nat → Int64) (ri : Nat → Nat → Int32) (rj : Nat → Nat → Int64) (rq : Nat → Nat → Option Nat) (sz : Nat) (tg : Nat → Nat) (hSH : SH σ tg) (hG0 : GT tg I ri) (this : Nat) (a0 : Int32) (a1 : Int32) (a2 : Int32) (a3 : Int32) (a4 : Int32) (a5 : Int32) (hL_this : this ∈ σ.1) (hK_this : σ.2.1 this = 12) : MetI l yX12_table (wa yX12_table cX12_table 8 (some .boolean)) ({ frames := 1, cells := 0, slots := 0, locals := 22 }) [.ref this, .int a0, .int a1, .int a2, .int a3, .int a4, .int a5] D t σ (I, J, ri, rj, rq) sz 0 0 (fun (r : Int32) (u : pq_S × pq_M) => ∃ ri' : Nat → Nat → Int32, u = (σ, I, J, ri', rj, rq) ∧ GM [1100, 1101, 1102, 1103, 1104] tg σ I ri I ri' rq ∧ g_X12_table a0 a1 a2 a3 a4 a5 (vI 12 σ this I) (vJ 12 σ this J) (vR 12 σ this ri) (vL 12 σ this rj) (vQ 12 σ this rq) = (r, (vI 12 σ this I), (vJ 12 σ this J), (vR 12 σ this ri'), (vL 12 σ this rj), (vQ 12 σ this rq)) ∧ FR 12 tg σ this (I, J, ri, rj, rq) (I, J, ri', rj, rq) ∧ ((r = 1 ∧ rg a0 0 11 ∧ rg a1 0 2000 ∧ rg a2 0 2000 ∧ rg a3 0 40 ∧ rg a4 0 50 ∧ rg a5 0 100) ∨ (r = 0 ∧ True))) := by
  refine Met.ofW (cc := cX12_table) (maxL := 8) (ret := (some .boolean)) (by decide +kernel) rfl ?_
  intro p e s m args below meth c s₁ B hml hv
  obtain ⟨rfl, hsz, hP, hK, hD0, hN⟩ := hv
  have hx := B.exec
  have hb := B.bytes
  have hr := B.returns
  have hts := atoms_spec (ws := (wa yX12_table cX12_table 8 (some .boolean))) B.pre
  have hown : s.vm.findClass RX12 = some m.cls := findClass_of_methodNamed B.named
  have hlocks := B.notSynchronized
  subst hsz
  have hD : va_D (pq_B t σ (I, J, ri, rj, rq) s.heap.size) (pq_P t σ (I, J, ri, rj, rq)) := hD0.self
  generalize hAe : pq_B t σ (I, J, ri, rj, rq) s.heap.size = A at hD ⊢
  have hA : ∀ q : Nat, s.heap.size ≤ q → A q := fun q h => by rw [← hAe]; exact Or.inr h
  have hS : va_S A s.heap s.heap [] := va_S.rf
  have hG : GM [1100, 1101, 1102, 1103, 1104] tg σ I ri I ri rq := ⟨hG0, fun _ _ _ => rfl, fun _ _ _ _ _ => rfl, fun _ _ _ _ _ _ => rfl⟩
  have hl := lv_entry ([.ref this, .int a0, .int a1, .int a2, .int a3, .int a4, .int a5]) (n := 8) (Nat.le_of_ble_eq_true rfl)
  rw [lg_entry_eq]
  generalize (lg_sl ([.ref this, .int a0, .int a1, .int a2, .int a3, .int a4, .int a5]) ++ List.replicate (8 - (lg_sl ([.ref this, .int a0, .int a1, .int a2, .int a3, .int a4, .int a5])).length) Slot.unset).toArray = ls at hl ⊢
  have hl : lv_has ls 8 [(0, .ref this), (1, .int a0), (2, .int a1), (3, .int a2), (4, .int a3), (5, .int a4), (6, .int a5)] := hl
  refine q_gen (fun Q hQ => ?_)
  have go : ∀ (H : Heap) (locs : List Loc) (ls : Array Slot), va_P D vwCl (pq_P t σ (I, J, ri, rj, rq)) H → va_D A (pq_P t σ (I, J, ri, rj, rq)) → va_S A s.heap H locs → lv_has ls 8 [(0, .ref this), (1, .int a0), (2, .int a1), (3, .int a2), (4, .int a3), (5, .int a4), (6, .int a5)] → W p l e ({ frames := 1, cells := 0, slots := 0, locals := 22 } : Room) s m (List.toArray ([.ref this, .int a0, .int a1, .int a2, .int a3, .int a4, .int a5] : List Value)) below meth c H locs 0 0 Q (F0 m 0 ls []) := by
    intro H locs ls hP hD hS hl
    have hO_this : this = vo σ 12 this := rfl
    have hVT : VT 12 σ tg this := vt_12 hSH hL_this hK_this
    have hFr : FR 12 tg σ this (I, J, ri, rj, rq) (I, J, ri, rj, rq) := fr_rf
    obtain ⟨F, hF0⟩ : ∃ F, F = g_X12_table a0 a1 a2 a3 a4 a5 (vI 12 σ this I) (vJ 12 σ this J) (vR 12 σ this ri) (vL 12 σ this rj) (vQ 12 σ this rq) := ⟨_, rfl⟩
    have hF := hF0.trans g_X12_table_e
    refine lv_iload_n hx hb dX12_table_0 rfl (lv_at hl 1 rfl) ?_
    refine lv_iconst (v := 0) hx hb dX12_table_1 (by decide +kernel) ?_
    refine lv_bipush (v := 11) hx hb dX12_table_2 (by decide +kernel) ?_
    refine pk_i (va_runS (As := [.int a0, .int 0, .int 11]) (rest := []) ⟨hx, hb, hml, hown, hts⟩ (s_X12_isIn l D t σ I J ri rj rq H.size tg hSH hG.1 a0 (0 : Int32) (11 : Int32)) (va_cwS 3 hts (tw_S tw_235 tw_236 tw_5 tw_237) rfl rfl rfl cd_yX12_isIn_3 ⟨Nat.le_of_ble_eq_true rfl, Nat.le_of_ble_eq_true rfl⟩) ⟨pq_blind, pq_pre hK hN hP hD⟩ rfl rfl hl.1 rfl (lv_room (Nat.le_of_ble_eq_true rfl)) dX12_table_4 ⟨Nat.le_of_ble_eq_true rfl, Nat.le_of_ble_eq_true rfl⟩) hD hS hA (fun x_1 σ1 μ1 H locs hw_2 hP hD hS => ?_)
    obtain ⟨hu_3, hfn_6, hr_5⟩ := hw_2
    obtain ⟨hu_3a, hu_3b⟩ := Prod.mk.inj hu_3
    rw [hu_3a, hu_3b] at hP hD
    replace hF := hF.trans (ap_n hfn_6.symm)
    have h_8 : rg x_1 0 1 := by rcases hr_5 with ⟨q, -⟩ | ⟨q, -⟩ <;> rw [q] <;> exact ⟨by decide +kernel, by decide +kernel⟩
    have uh_8 := h_8.1
    have vh_8 := h_8.2
    have K_141 : ∀  (H : Heap) (locs : List Loc) (ls : Array Slot), F = g_X12_table_K65 (vI 12 σ this I) (vJ 12 σ this J) (vR 12 σ this ri) (vL 12 σ this rj) (vQ 12 σ this rq)  → FR 12 tg σ this (I, J, ri, rj, rq) (I, J, ri, rj, rq) → GM [1100, 1101, 1102, 1103, 1104] tg σ I ri I ri rq → va_P D vwCl (pq_P t σ (I, J, ri, rj, rq)) H → va_D A (pq_P t σ (I, J, ri, rj, rq)) → va_S A s.heap H locs → lv_has ls 8 [] → W p l e ({ frames := 1, cells := 0, slots := 0, locals := 22 } : Room) s m (List.toArray ([.ref this, .int a0, .int a1, .int a2, .int a3, .int a4, .int a5] : List Value)) below meth c H locs 0 0 Q (F0 m 65 ls []) := by
      intro H locs ls hF hFr hG hP hD hS hl
      replace hF := hF.trans g_X12_table_K65_e
      refine lv_iconst (v := 0) hx hb dX12_table_65 (by decide +kernel) ?_
      subst hQ
      exact W.zret (v := 0) hx hb hr (by decide +kernel) (fun t1 ht hW => ⟨⟨0, (σ, I, J, ri, rj, rq), rfl, ⟨ri, rfl, hG, (hF0.symm.trans hF), hFr, (Or.inr ⟨rfl, trivial⟩)⟩, by rw [ht]; exact hP, va_K.moved hW.alike hK, hD⟩, hS.F ht⟩) hS.2.2 dX12_table_66
    refine lv_if_eq (tgt := 65) hx hb dX12_table_7 (by decide +kernel) (fun c_142 => ?_) (fun c_142 => ?_)
    · replace hF := hF.trans (if_pos c_142)
      have f_154 := (hr_5.resolve_left (fun q => absurd (q.1.symm.trans c_142) (by decide +kernel))).2
      have tc_155 : (x_1).toInt = 0 := congrArg Int32.toInt c_142
      have h_156 : rg x_1 0 0 := rg_and h_8 (rg_of_eq c_142 (rg_k (0 : Int32) 0 rfl)) (by decide +kernel)
      have uh_156 := h_156.1
      have vh_156 := h_156.2
      exact K_141 _ _ _ hF hFr hG hP hD hS (lv_sub hl [] rfl)
    · replace hF := hF.trans (if_neg c_142)
      obtain ⟨f_157, f_158⟩ := (hr_5.resolve_right (fun q => c_142 q.1)).2
      have tc_159 : 0 ≤ (a0).toInt := Int32.le_iff_toInt_le.mp f_157
      have h_160 : rg a0 0 2147483647 := rg_le2 f_157 (rg_k (0 : Int32) 0 rfl) (rg_full _) (by decide +kernel)
      have uh_160 := h_160.1
      have vh_160 := h_160.2
      have tc_161 : (a0).toInt ≤ 11 := Int32.le_iff_toInt_le.mp f_158
      have h_162 : rg a0 0 11 := rg_le1 f_158 h_160 (rg_k (11 : Int32) 11 rfl) (by decide +kernel)
      have uh_162 := h_162.1
      have vh_162 := h_162.2
      have tc_163 : (x_1).toInt ≠ 0 := fun q => c_142 (Int32.toInt_inj.mp q)
      have h_164 : rg x_1 1 1 := rg_ne c_142 h_8 0 rfl (by decide +kernel)
      have uh_164 := h_164.1
      have vh_164 := h_164.2
      refine lv_iload_n hx hb dX12_table_10 rfl (lv_at hl 2 rfl) ?_
      refine lv_iconst (v := 0) hx hb dX12_table_11 (by decide +kernel) ?_
      refine lv_sipush (v := 2000) hx hb dX12_table_12 (by decide +kernel) ?_
      refine pk_i (va_runS (As := [.int a1, .int 0, .int 2000]) (rest := []) ⟨hx, hb, hml, hown, hts⟩ (s_X12_isIn l D t σ I J ri rj rq H.size tg hSH hG.1 a1 (0 : Int32) (2000 : Int32)) (va_cwS 3 hts (tw_S tw_235 tw_236 tw_5 tw_237) rfl rfl rfl cd_yX12_isIn_3 ⟨Nat.le_of_ble_eq_true rfl, Nat.le_of_ble_eq_true rfl⟩) ⟨pq_blind, pq_pre hK hN hP hD⟩ rfl rfl hl.1 rfl (lv_room (Nat.le_of_ble_eq_true rfl)) dX12_table_15 ⟨Nat.le_of_ble_eq_true rfl, Nat.le_of_ble_eq_true rfl⟩) hD hS hA (fun x_165 σ1 μ1 H locs hw_166 hP hD hS => ?_)
      obtain ⟨hu_167, hfn_170, hr_169⟩ := hw_166
      obtain ⟨hu_167a, hu_167b⟩ := Prod.mk.inj hu_167
      rw [hu_167a, hu_167b] at hP hD
      replace hF := hF.trans (ap_n hfn_170.symm)
      have h_172 : rg x_165 0 1 := by rcases hr_169 with ⟨q, -⟩ | ⟨q, -⟩ <;> rw [q] <;> exact ⟨by decide +kernel, by decide +kernel⟩
      have uh_172 := h_172.1
      have vh_172 := h_172.2
      refine lv_if_eq (tgt := 65) hx hb dX12_table_18 (by decide +kernel) (fun c_173 => ?_) (fun c_173 => ?_)
      · replace hF := hF.trans (if_pos c_173)
        have f_185 := (hr_169.resolve_left (fun q => absurd (q.1.symm.trans c_173) (by decide +kernel))).2
        have tc_186 : (x_165).toInt = 0 := congrArg Int32.toInt c_173
        have h_187 : rg x_165 0 0 := rg_and h_172 (rg_of_eq c_173 (rg_k (0 : Int32) 0 rfl)) (by decide +kernel)
        have uh_187 := h_187.1
        have vh_187 := h_187.2
        exact K_141 _ _ _ hF hFr hG hP hD hS (lv_sub hl [] rfl)
      · replace hF := hF.trans (if_neg c_173)
        obtain ⟨f_188, f_189⟩ := (hr_169.resolve_right (fun q => c_173 q.1)).2
        have tc_190 : 0 ≤ (a1).toInt := Int32.le_iff_toInt_le.mp f_188
        have h_191 : rg a1 0 2147483647 := rg_le2 f_188 (rg_k (0 : Int32) 0 rfl) (rg_full _) (by decide +kernel)
        have uh_191 := h_191.1
        have vh_191 := h_191.2
        have tc_192 : (a1).toInt ≤ 2000 := Int32.le_iff_toInt_le.mp f_189
        have h_193 : rg a1 0 2000 := rg_le1 f_189 h_191 (rg_k (2000 : Int32) 2000 rfl) (by decide +kernel)
        have uh_193 := h_193.1
        have vh_193 := h_193.2
        have tc_194 : (x_165).toInt ≠ 0 := fun q => c_173 (Int32.toInt_inj.mp q)
        have h_195 : rg x_165 1 1 := rg_ne c_173 h_172 0 rfl (by decide +kernel)
        have uh_195 := h_195.1
        have vh_195 := h_195.2
        refine lv_iload_n hx hb dX12_table_21 rfl (lv_at hl 3 rfl) ?_
        refine lv_iload_n hx hb dX12_table_22 rfl (lv_at hl 2 rfl) ?_
        refine lv_sipush (v := 2000) hx hb dX12_table_23 (by decide +kernel) ?_
        refine pk_i (va_runS (As := [.int a2, .int a1, .int 2000]) (rest := []) ⟨hx, hb, hml, hown, hts⟩ (s_X12_isIn l D t σ I J ri rj rq H.size tg hSH hG.1 a2 a1 (2000 : Int32)) (va_cwS 3 hts (tw_S tw_235 tw_236 tw_5 tw_237) rfl rfl rfl cd_yX12_isIn_3 ⟨Nat.le_of_ble_eq_true rfl, Nat.le_of_ble_eq_true rfl⟩) ⟨pq_blind, pq_pre hK hN hP hD⟩ rfl rfl hl.1 rfl (lv_room (Nat.le_of_ble_eq_true rfl)) dX12_table_26 ⟨Nat.le_of_ble_eq_true rfl, Nat.le_of_ble_eq_true rfl⟩) hD hS hA (fun x_196 σ1 μ1 H locs hw_197 hP hD hS => ?_)
        obtain ⟨hu_198, hfn_201, hr_200⟩ := hw_197
        obtain ⟨hu_198a, hu_198b⟩ := Prod.mk.inj hu_198
        rw [hu_198a, hu_198b] at hP hD
        replace hF := hF.trans (ap_n hfn_201.symm)
        have h_203 : rg x_196 0 1 := by rcases hr_200 with ⟨q, -⟩ | ⟨q, -⟩ <;> rw [q] <;> exact ⟨by decide +kernel, by decide +kernel⟩
        have uh_203 := h_203.1
        have vh_203 := h_203.2
        refine lv_if_eq (tgt := 65) hx hb dX12_table_29 (by decide +kernel) (fun c_204 => ?_) (fun c_204 => ?_)
        · replace hF := hF.trans (if_pos c_204)
          have f_216 := (hr_200.resolve_left (fun q => absurd (q.1.symm.trans c_204) (by decide +kernel))).2
          have tc_217 : (x_196).toInt = 0 := congrArg Int32.toInt c_204
          have h_218 : rg x_196 0 0 := rg_and h_203 (rg_of_eq c_204 (rg_k (0 : Int32) 0 rfl)) (by decide +kernel)
          have uh_218 := h_218.1
          have vh_218 := h_218.2
          exact K_141 _ _ _ hF hFr hG hP hD hS (lv_sub hl [] rfl)
        · replace hF := hF.trans (if_neg c_204)
          obtain ⟨f_219, f_220⟩ := (hr_200.resolve_right (fun q => c_204 q.1)).2
          have tc_221 : (a1).toInt ≤ (a2).toInt := Int32.le_iff_toInt_le.mp f_219
          have h_222 : rg a2 0 2147483647 := rg_le2 f_219 h_193 (rg_full _) (by decide +kernel)
          have uh_222 := h_222.1
          have vh_222 := h_222.2
          have tc_223 : (a2).toInt ≤ 2000 := Int32.le_iff_toInt_le.mp f_220
          have h_224 : rg a2 0 2000 := rg_le1 f_220 h_222 (rg_k (2000 : Int32) 2000 rfl) (by decide +kernel)
          have uh_224 := h_224.1
          have vh_224 := h_224.2
          have tc_225 : (x_196).toInt ≠ 0 := fun q => c_204 (Int32.toInt_inj.mp q)
          have h_226 : rg x_196 1 1 := rg_ne c_204 h_203 0 rfl (by decide +kernel)
          have uh_226 := h_226.1
          have vh_226 := h_226.2
          refine lv_iload hx hb dX12_table_32 (lv_at hl 4 rfl) ?_
          refine lv_iconst (v := 0) hx hb dX12_table_34 (by decide +kernel) ?_
          refine lv_bipush (v := 40) hx hb dX12_table_35 (by decide +kernel) ?_
          refine pk_i (va_runS (As := [.int a3, .int 0, .int 40]) (rest := []) ⟨hx, hb, hml, hown, hts⟩ (s_X12_isIn l D t σ I J ri rj rq H.size tg hSH hG.1 a3 (0 : Int32) (40 : Int32)) (va_cwS 3 hts (tw_S tw_235 tw_236 tw_5 tw_237) rfl rfl rfl cd_yX12_isIn_3 ⟨Nat.le_of_ble_eq_true rfl, Nat.le_of_ble_eq_true rfl⟩) ⟨pq_blind, pq_pre hK hN hP hD⟩ rfl rfl hl.1 rfl (lv_room (Nat.le_of_ble_eq_true rfl)) dX12_table_37 ⟨Nat.le_of_ble_eq_true rfl, Nat.le_of_ble_eq_true rfl⟩) hD hS hA (fun x_227 σ1 μ1 H locs hw_228 hP hD hS => ?_)
          obtain ⟨hu_229, hfn_232, hr_231⟩ := hw_228
          obtain ⟨hu_229a, hu_229b⟩ := Prod.mk.inj hu_229
          rw [hu_229a, hu_229b] at hP hD
          replace hF := hF.trans (ap_n hfn_232.symm)
          have h_234 : rg x_227 0 1 := by rcases hr_231 with ⟨q, -⟩ | ⟨q, -⟩ <;> rw [q] <;> exact ⟨by decide +kernel, by decide +kernel⟩
          have uh_234 := h_234.1
          have vh_234 := h_234.2
          refine lv_if_eq (tgt := 65) hx hb dX12_table_40 (by decide +kernel) (fun c_235 => ?_) (fun c_235 => ?_)
          · replace hF := hF.trans (if_pos c_235)
            have f_247 := (hr_231.resolve_left (fun q => absurd (q.1.symm.trans c_235) (by decide +kernel))).2
            have tc_248 : (x_227).toInt = 0 := congrArg Int32.toInt c_235
            have h_249 : rg x_227 0 0 := rg_and h_234 (rg_of_eq c_235 (rg_k (0 : Int32) 0 rfl)) (by decide +kernel)
            have uh_249 := h_249.1
            have vh_249 := h_249.2
            exact K_141 _ _ _ hF hFr hG hP hD hS (lv_sub hl [] rfl)
          · replace hF := hF.trans (if_neg c_235)
            obtain ⟨f_250, f_251⟩ := (hr_231.resolve_right (fun q => c_235 q.1)).2
            have tc_252 : 0 ≤ (a3).toInt := Int32.le_iff_toInt_le.mp f_250
            have h_253 : rg a3 0 2147483647 := rg_le2 f_250 (rg_k (0 : Int32) 0 rfl) (rg_full _) (by decide +kernel)
            have uh_253 := h_253.1
            have vh_253 := h_253.2
            have tc_254 : (a3).toInt ≤ 40 := Int32.le_iff_toInt_le.mp f_251
            have h_255 : rg a3 0 40 := rg_le1 f_251 h_253 (rg_k (40 : Int32) 40 rfl) (by decide +kernel)
            have uh_255 := h_255.1
            have vh_255 := h_255.2
            have tc_256 : (x_227).toInt ≠ 0 := fun q => c_235 (Int32.toInt_inj.mp q)
            have h_257 : rg x_227 1 1 := rg_ne c_235 h_234 0 rfl (by decide +kernel)
            have uh_257 := h_257.1
            have vh_257 := h_257.2
            refine lv_iload hx hb dX12_table_43 (lv_at hl 5 rfl) ?_
            refine lv_iconst (v := 0) hx hb dX12_table_45 (by decide +kernel) ?_
            refine lv_bipush (v := 50) hx hb dX12_table_46 (by decide +kernel) ?_
            refine pk_i (va_runS (As := [.int a4, .int 0, .int 50]) (rest := []) ⟨hx, hb, hml, hown, hts⟩ (s_X12_isIn l D t σ I J ri rj rq H.size tg hSH hG.1 a4 (0 : Int32) (50 : Int32)) (va_cwS 3 hts (tw_S tw_235 tw_236 tw_5 tw_237) rfl rfl rfl cd_yX12_isIn_3 ⟨Nat.le_of_ble_eq_true rfl, Nat.le_of_ble_eq_true rfl⟩) ⟨pq_blind, pq_pre hK hN hP hD⟩ rfl rfl hl.1 rfl (lv_room (Nat.le_of_ble_eq_true rfl)) dX12_table_48 ⟨Nat.le_of_ble_eq_true rfl, Nat.le_of_ble_eq_true rfl⟩) hD hS hA (fun x_258 σ1 μ1 H locs hw_259 hP hD hS => ?_)
            obtain ⟨hu_260, hfn_263, hr_262⟩ := hw_259
            obtain ⟨hu_260a, hu_260b⟩ := Prod.mk.inj hu_260
            rw [hu_260a, hu_260b] at hP hD
            replace hF := hF.trans (ap_n hfn_263.symm)
            have h_265 : rg x_258 0 1 := by rcases hr_262 with ⟨q, -⟩ | ⟨q, -⟩ <;> rw [q] <;> exact ⟨by decide +kernel, by decide +kernel⟩
            have uh_265 := h_265.1
            have vh_265 := h_265.2
            refine lv_if_eq (tgt := 65) hx hb dX12_table_51 (by decide +kernel) (fun c_266 => ?_) (fun c_266 => ?_)
            · replace hF := hF.trans (if_pos c_266)
              have f_278 := (hr_262.resolve_left (fun q => absurd (q.1.symm.trans c_266) (by decide +kernel))).2
              have tc_279 : (x_258).toInt = 0 := congrArg Int32.toInt c_266
              have h_280 : rg x_258 0 0 := rg_and h_265 (rg_of_eq c_266 (rg_k (0 : Int32) 0 rfl)) (by decide +kernel)
              have uh_280 := h_280.1
              have vh_280 := h_280.2
              exact K_141 _ _ _ hF hFr hG hP hD hS (lv_sub hl [] rfl)
            · replace hF := hF.trans (if_neg c_266)
              obtain ⟨f_281, f_282⟩ := (hr_262.resolve_right (fun q => c_266 q.1)).2
              have tc_283 : 0 ≤ (a4).toInt := Int32.le_iff_toInt_le.mp f_281
              have h_284 : rg a4 0 2147483647 := rg_le2 f_281 (rg_k (0 : Int32) 0 rfl) (rg_full _) (by decide +kernel)
              have uh_284 := h_284.1
              have vh_284 := h_284.2
              have tc_285 : (a4).toInt ≤ 50 := Int32.le_iff_toInt_le.mp f_282
              have h_286 : rg a4 0 50 := rg_le1 f_282 h_284 (rg_k (50 : Int32) 50 rfl) (by decide +kernel)
              have uh_286 := h_286.1
              have vh_286 := h_286.2
              have tc_287 : (x_258).toInt ≠ 0 := fun q => c_266 (Int32.toInt_inj.mp q)
              have h_288 : rg x_258 1 1 := rg_ne c_266 h_265 0 rfl (by decide +kernel)
              have uh_288 := h_288.1
              have vh_288 := h_288.2
              refine lv_iload hx hb dX12_table_54 (lv_at hl 6 rfl) ?_
              refine lv_iconst (v := 0) hx hb dX12_table_56 (by decide +kernel) ?_
              refine lv_bipush (v := 100) hx hb dX12_table_57 (by decide +kernel) ?_
              refine pk_i (va_runS (As := [.int a5, .int 0, .int 100]) (rest := []) ⟨hx, hb, hml, hown, hts⟩ (s_X12_isIn l D t σ I J ri rj rq H.size tg hSH hG.1 a5 (0 : Int32) (100 : Int32)) (va_cwS 3 hts (tw_S tw_235 tw_236 tw_5 tw_237) rfl rfl rfl cd_yX12_isIn_3 ⟨Nat.le_of_ble_eq_true rfl, Nat.le_of_ble_eq_true rfl⟩) ⟨pq_blind, pq_pre hK hN hP hD⟩ rfl rfl hl.1 rfl (lv_room (Nat.le_of_ble_eq_true rfl)) dX12_table_59 ⟨Nat.le_of_ble_eq_true rfl, Nat.le_of_ble_eq_true rfl⟩) hD hS hA (fun x_289 σ1 μ1 H locs hw_290 hP hD hS => ?_)
              obtain ⟨hu_291, hfn_294, hr_293⟩ := hw_290
              obtain ⟨hu_291a, hu_291b⟩ := Prod.mk.inj hu_291
              rw [hu_291a, hu_291b] at hP hD
              replace hF := hF.trans (ap_n hfn_294.symm)
              have h_296 : rg x_289 0 1 := by rcases hr_293 with ⟨q, -⟩ | ⟨q, -⟩ <;> rw [q] <;> exact ⟨by decide +kernel, by decide +kernel⟩
              have uh_296 := h_296.1
              have vh_296 := h_296.2
              refine lv_if_ne (tgt := 67) hx hb dX12_table_62 (by decide +kernel) (fun c_297 => ?_) (fun c_297 => ?_)
              · replace hF := hF.trans (if_neg c_297)
                obtain ⟨f_309, f_310⟩ := (hr_293.resolve_right (fun q => c_297 q.1)).2
                have tc_311 : 0 ≤ (a5).toInt := Int32.le_iff_toInt_le.mp f_309
                have h_312 : rg a5 0 2147483647 := rg_le2 f_309 (rg_k (0 : Int32) 0 rfl) (rg_full _) (by decide +kernel)
                have uh_312 := h_312.1
                have vh_312 := h_312.2
                have tc_313 : (a5).toInt ≤ 100 := Int32.le_iff_toInt_le.mp f_310
                have h_314 : rg a5 0 100 := rg_le1 f_310 h_312 (rg_k (100 : Int32) 100 rfl) (by decide +kernel)
                have uh_314 := h_314.1
                have vh_314 := h_314.2
                have tc_315 : (x_289).toInt ≠ 0 := fun q => c_297 (Int32.toInt_inj.mp q)
                have h_316 : rg x_289 1 1 := rg_ne c_297 h_296 0 rfl (by decide +kernel)
                have uh_316 := h_316.1
                have vh_316 := h_316.2
                refine lv_bipush (v := 20) hx hb dX12_table_67 (by decide +kernel) ?_
                refine lv_iconst (v := 5) hx hb dX12_table_69 (by decide +kernel) ?_
                refine lv_iload_n hx hb dX12_table_70 rfl (lv_at hl 1 rfl) ?_
                refine lv_imul hx hb dX12_table_71 ?_
                refine lv_topi (fun x_317 ex_317 => ?_)
                replace hF := hF.trans (ap_n ex_317)
                have h_318 : rg x_317 0 55 := rg_of_eq ex_317 (rg_mul (rg_k (5 : Int32) 5 rfl) h_162 (by decide +kernel))
                have uh_318 := h_318.1
                have vh_318 := h_318.2
                have tx_317 : (x_317).toInt = 5 * (a0).toInt := by rw [ex_317]; exact i_mul_rg (a2 := 5) (b2 := (a0).toInt) rfl rfl (rg_k (5 : Int32) 5 rfl) h_162 (by decide +kernel)
                refine lv_iadd hx hb dX12_table_72 ?_
                refine lv_topi (fun x_319 ex_319 => ?_)
                replace hF := hF.trans (ap_n ex_319)
                have h_320 : rg x_319 20 75 := rg_of_eq ex_319 (rg_add (rg_k (20 : Int32) 20 rfl) h_318 (by decide +kernel))
                have uh_320 := h_320.1
                have vh_320 := h_320.2
                have tx_319 : (x_319).toInt = 20 + (x_317).toInt := by rw [ex_319]; exact i_add_rg (a2 := 20) (b2 := (x_317).toInt) rfl rfl (rg_k (20 : Int32) 20 rfl) h_318 (by decide +kernel)
                refine lv_istore (lv' := [(7, .int x_319), (0, .ref this), (1, .int a0), (2, .int a1), (3, .int a2), (4, .int a3), (5, .int a4), (6, .int a5)]) hx hb dX12_table_73 hl (by decide +kernel) rfl (fun ls hl => ?_)
                refine lv_aload_n hx hb dX12_table_75 rfl (lv_at hl 1 rfl) ?_
                obtain ⟨w_321, hR_w_321, hL_w_321, hK_w_321, hN_w_321, hT_w_321⟩ := sh_a hSH 384 (ci := 12) (kd := 13) (len := 12720) rfl (by decide +kernel) hL_this hK_this
                have hO_w_321 : w_321 = vrow σ 384 this := vo_k (c := 12) hO_this hR_w_321
                refine pg_f (v := .ref w_321) (C := RX12) (T := TX12) (N := 31) hx hb hts (tw_i inlX12) hown hK hP hL_this hK_this (by decide +kernel) rfl 0 (by decide +kernel) (hts _ (tw_c tw_176)) (pq_hv rfl hR_w_321) dX12_table_76 ?_
                refine lv_iload hx hb dX12_table_79 (lv_at hl 0 rfl) ?_
                refine lv_iconst (v := 0) hx hb dX12_table_81 (by decide +kernel) ?_
                refine lv_iadd hx hb dX12_table_82 ?_
                refine lv_topi (fun x_322 ex_322 => ?_)
                replace hF := hF.trans (ap_n ex_322)
                have h_323 : rg x_322 20 75 := rg_of_eq ex_322 (rg_add h_320 (rg_k (0 : Int32) 0 rfl) (by decide +kernel))
                have uh_323 := h_323.1
                have vh_323 := h_323.2
                have tx_322 : (x_322).toInt = (x_319).toInt + 0 := by rw [ex_322]; exact i_add_rg (a2 := (x_319).toInt) (b2 := 0) rfl rfl h_320 (rg_k (0 : Int32) 0 rfl) (by decide +kernel)
                refine lv_iload_n hx hb dX12_table_83 rfl (lv_at hl 3 rfl) ?_
                refine pt_i hx hb hK hP hD hS hL_w_321 hK_w_321 hN_w_321 (rg_in h_323 (by decide +kernel)) dX12_table_84 (fun r_324 H locs er_324 hP hD hS => ?_)
                replace hFr := fr_R hFr hO_w_321 (by decide +kernel) er_324
                replace hF := hF.trans (ap_n (vR_st hVT hO_w_321 (by decide +kernel) er_324))
                have hG := GM.wz hG hT_w_321 (by decide +kernel) er_324 (zn_TABLE (c := a0.toNatClampNeg) (k := 0) (by have z_i := clampE x_322; have z_0 := clampE a0; omega) (rg_cl1 h_162 (by decide +kernel)) (by decide +kernel)) rfl (rg_w h_193 (by decide +kernel)) (by decide +kernel)
                refine lv_aload_n hx hb dX12_table_85 rfl (lv_at hl 1 rfl) ?_
                refine pg_f (v := .ref w_321) (C := RX12) (T := TX12) (N := 31) hx hb hts (tw_i inlX12) hown hK hP hL_this hK_this (by decide +kernel) rfl 0 (by decide +kernel) (hts _ (tw_c tw_176)) (pq_hv rfl hR_w_321) dX12_table_86 ?_
                refine lv_iload hx hb dX12_table_89 (lv_at hl 0 rfl) ?_
                refine lv_iconst (v := 1) hx hb dX12_table_91 (by decide +kernel) ?_
                refine lv_iadd hx hb dX12_table_92 ?_
                refine lv_topi (fun x_325 ex_325 => ?_)
                replace hF := hF.trans (ap_n ex_325)
                have h_326 : rg x_325 21 76 := rg_of_eq ex_325 (rg_add h_320 (rg_k (1 : Int32) 1 rfl) (by decide +kernel))
                have uh_326 := h_326.1
                have vh_326 := h_326.2
                have tx_325 : (x_325).toInt = (x_319).toInt + 1 := by rw [ex_325]; exact i_add_rg (a2 := (x_319).toInt) (b2 := 1) rfl rfl h_320 (rg_k (1 : Int32) 1 rfl) (by decide +kernel)
                refine lv_iload_n hx hb dX12_table_93 rfl (lv_at hl 4 rfl) ?_
                refine pt_i hx hb hK hP hD hS hL_w_321 hK_w_321 hN_w_321 (rg_in h_326 (by decide +kernel)) dX12_table_94 (fun r_327 H locs er_327 hP hD hS => ?_)
                replace hFr := fr_R hFr hO_w_321 (by decide +kernel) er_327
                replace hF := hF.trans (ap_n (vR_st hVT hO_w_321 (by decide +kernel) er_327))
                have hG := GM.wz hG hT_w_321 (by decide +kernel) er_327 (zn_TABLE (c := a0.toNatClampNeg) (k := 1) (by have z_i := clampE x_325; have z_0 := clampE a0; omega) (rg_cl1 h_162 (by decide +kernel)) (by decide +kernel)) rfl (rg_w h_224 (by decide +kernel)) (by decide +kernel)
                refine lv_aload_n hx hb dX12_table_95 rfl (lv_at hl 1 rfl) ?_
                refine pg_f (v := .ref w_321) (C := RX12) (T := TX12) (N := 31) hx hb hts (tw_i inlX12) hown hK hP hL_this hK_this (by decide +kernel) rfl 0 (by decide +kernel) (hts _ (tw_c tw_176)) (pq_hv rfl hR_w_321) dX12_table_96 ?_
                refine lv_iload hx hb dX12_table_99 (lv_at hl 0 rfl) ?_
                refine lv_iconst (v := 2) hx hb dX12_table_101 (by decide +kernel) ?_
                refine lv_iadd hx hb dX12_table_102 ?_
                refine lv_topi (fun x_328 ex_328 => ?_)
                replace hF := hF.trans (ap_n ex_328)
                have h_329 : rg x_328 22 77 := rg_of_eq ex_328 (rg_add h_320 (rg_k (2 : Int32) 2 rfl) (by decide +kernel))
                have uh_329 := h_329.1
                have vh_329 := h_329.2
                have tx_328 : (x_328).toInt = (x_319).toInt + 2 := by rw [ex_328]; exact i_add_rg (a2 := (x_319).toInt) (b2 := 2) rfl rfl h_320 (rg_k (2 : Int32) 2 rfl) (by decide +kernel)
                refine lv_iload hx hb dX12_table_103 (lv_at hl 5 rfl) ?_
                refine pt_i hx hb hK hP hD hS hL_w_321 hK_w_321 hN_w_321 (rg_in h_329 (by decide +kernel)) dX12_table_105 (fun r_330 H locs er_330 hP hD hS => ?_)
                replace hFr := fr_R hFr hO_w_321 (by decide +kernel) er_330
                replace hF := hF.trans (ap_n (vR_st hVT hO_w_321 (by decide +kernel) er_330))
                have hG := GM.wz hG hT_w_321 (by decide +kernel) er_330 (zn_TABLE (c := a0.toNatClampNeg) (k := 2) (by have z_i := clampE x_328; have z_0 := clampE a0; omega) (rg_cl1 h_162 (by decide +kernel)) (by decide +kernel)) rfl (rg_w h_255 (by decide +kernel)) (by decide +kernel)
                refine lv_aload_n hx hb dX12_table_106 rfl (lv_at hl 1 rfl) ?_
                refine pg_f (v := .ref w_321) (C := RX12) (T := TX12) (N := 31) hx hb hts (tw_i inlX12) hown hK hP hL_this hK_this (by decide +kernel) rfl 0 (by decide +kernel) (hts _ (tw_c tw_176)) (pq_hv rfl hR_w_321) dX12_table_107 ?_
                refine lv_iload hx hb dX12_table_110 (lv_at hl 0 rfl) ?_
                refine lv_iconst (v := 3) hx hb dX12_table_112 (by decide +kernel) ?_
                refine lv_iadd hx hb dX12_table_113 ?_
                refine lv_topi (fun x_331 ex_331 => ?_)
                replace hF := hF.trans (ap_n ex_331)
                have h_332 : rg x_331 23 78 := rg_of_eq ex_331 (rg_add h_320 (rg_k (3 : Int32) 3 rfl) (by decide +kernel))
                have uh_332 := h_332.1
                have vh_332 := h_332.2
                have tx_331 : (x_331).toInt = (x_319).toInt + 3 := by rw [ex_331]; exact i_add_rg (a2 := (x_319).toInt) (b2 := 3) rfl rfl h_320 (rg_k (3 : Int32) 3 rfl) (by decide +kernel)
                refine lv_iload hx hb dX12_table_114 (lv_at hl 6 rfl) ?_
                refine pt_i hx hb hK hP hD hS hL_w_321 hK_w_321 hN_w_321 (rg_in h_332 (by decide +kernel)) dX12_table_116 (fun r_333 H locs er_333 hP hD hS => ?_)
                replace hFr := fr_R hFr hO_w_321 (by decide +kernel) er_333
                replace hF := hF.trans (ap_n (vR_st hVT hO_w_321 (by decide +kernel) er_333))
                have hG := GM.wz hG hT_w_321 (by decide +kernel) er_333 (zn_TABLE (c := a0.toNatClampNeg) (k := 3) (by have z_i := clampE x_331; have z_0 := clampE a0; omega) (rg_cl1 h_162 (by decide +kernel)) (by decide +kernel)) rfl (rg_w h_286 (by decide +kernel)) (by decide +kernel)
                refine lv_aload_n hx hb dX12_table_117 rfl (lv_at hl 1 rfl) ?_
                refine pg_f (v := .ref w_321) (C := RX12) (T := TX12) (N := 31) hx hb hts (tw_i inlX12) hown hK hP hL_this hK_this (by decide +kernel) rfl 0 (by decide +kernel) (hts _ (tw_c tw_176)) (pq_hv rfl hR_w_321) dX12_table_118 ?_
                refine lv_iload hx hb dX12_table_121 (lv_at hl 0 rfl) ?_
                refine lv_iconst (v := 4) hx hb dX12_table_123 (by decide +kernel) ?_
                refine lv_iadd hx hb dX12_table_124 ?_
                refine lv_topi (fun x_334 ex_334 => ?_)
                replace hF := hF.trans (ap_n ex_334)
                have h_335 : rg x_334 24 79 := rg_of_eq ex_334 (rg_add h_320 (rg_k (4 : Int32) 4 rfl) (by decide +kernel))
                have uh_335 := h_335.1
                have vh_335 := h_335.2
                have tx_334 : (x_334).toInt = (x_319).toInt + 4 := by rw [ex_334]; exact i_add_rg (a2 := (x_319).toInt) (b2 := 4) rfl rfl h_320 (rg_k (4 : Int32) 4 rfl) (by decide +kernel)
                refine lv_iload hx hb dX12_table_125 (lv_at hl 7 rfl) ?_
                refine pt_i hx hb hK hP hD hS hL_w_321 hK_w_321 hN_w_321 (rg_in h_335 (by decide +kernel)) dX12_table_127 (fun r_336 H locs er_336 hP hD hS => ?_)
                replace hFr := fr_R hFr hO_w_321 (by decide +kernel) er_336
                replace hF := hF.trans (ap_n (vR_st hVT hO_w_321 (by decide +kernel) er_336))
                have hG := GM.wz hG hT_w_321 (by decide +kernel) er_336 (zn_TABLE (c := a0.toNatClampNeg) (k := 4) (by have z_i := clampE x_334; have z_0 := clampE a0; omega) (rg_cl1 h_162 (by decide +kernel)) (by decide +kernel)) rfl (rg_w h_314 (by decide +kernel)) (by decide +kernel)
                refine lv_iconst (v := 1) hx hb dX12_table_128 (by decide +kernel) ?_
                subst hQ
                exact W.zret (v := 1) hx hb hr (by decide +kernel) (fun t1 ht hW => ⟨⟨1, (σ, I, J, r_336, rj, rq), rfl, ⟨r_336, rfl, hG, (hF0.symm.trans hF), hFr, (Or.inl ⟨rfl, (rg_w h_162 (by decide +kernel)), (rg_w h_193 (by decide +kernel)), (rg_w h_224 (by decide +kernel)), (rg_w h_255 (by decide +kernel)), (rg_w h_286 (by decide +kernel)), (rg_w h_314 (by decide +kernel))⟩)⟩, by rw [ht]; exact hP, va_K.moved hW.alike hK, hD⟩, hS.F ht⟩) hS.2.2 dX12_table_129
              · replace hF := hF.trans (if_pos c_297)
                have f_337 := (hr_293.resolve_left (fun q => absurd (q.1.symm.trans c_297) (by decide +kernel))).2
                have tc_338 : (x_289).toInt = 0 := congrArg Int32.toInt c_297
                have h_339 : rg x_289 0 0 := rg_and h_296 (rg_of_eq c_297 (rg_k (0 : Int32) 0 rfl)) (by decide +kernel)
                have uh_339 := h_339.1
                have vh_339 := h_339.2
                exact K_141 _ _ _ hF hFr hG hP hD hS (lv_sub hl [] rfl)
  exact go _ _ _ hP hD hS hl
