theorem dX12_isSweet_0 : decode cX12_isSweet 0 = .ok (.aload_n 0, 1) := oc_42 (by decide +kernel)
theorem dX12_isSweet_1 : decode cX12_isSweet 1 = .ok (.iload_n 1, 1) := oc_27 (by decide +kernel)
theorem dX12_isSweet_2 : decode cX12_isSweet 2 = .ok (.iconst 0, 1) := oc_3 (by decide +kernel)
theorem dX12_isSweet_3 : decode cX12_isSweet 3 = .ok (.invokevirtual 91, 3) := oc_182 (a := 0) (b := 91) (by decide +kernel)
theorem dX12_isSweet_6 : decode cX12_isSweet 6 = .ok (.iload_n 2, 1) := oc_28 (by decide +kernel)
theorem dX12_isSweet_48 : decode cX12_isSweet 48 = .ok (.iconst 0, 1) := oc_3 (by decide +kernel)
theorem dX12_isSweet_49 : decode cX12_isSweet 49 = .ok (.ireturn, 1) := oc_172 (by decide +kernel)
theorem dX12_isSweet_7 : decode cX12_isSweet 7 = .ok (.if_icmp .ne 41, 3) := oc_160 (a := 0) (b := 41) (by decide +kernel)
theorem dX12_isSweet_10 : decode cX12_isSweet 10 = .ok (.aload_n 0, 1) := oc_42 (by decide +kernel)
theorem dX12_isSweet_11 : decode cX12_isSweet 11 = .ok (.iload_n 1, 1) := oc_27 (by decide +kernel)
theorem dX12_isSweet_12 : decode cX12_isSweet 12 = .ok (.bipush 8, 2) := oc_16 (a := 8) (by decide +kernel)
theorem dX12_isSweet_14 : decode cX12_isSweet 14 = .ok (.invokevirtual 91, 3) := oc_182 (a := 0) (b := 91) (by decide +kernel)
theorem dX12_isSweet_17 : decode cX12_isSweet 17 = .ok (.ifCond .le 31, 3) := oc_158 (a := 0) (b := 31) (by decide +kernel)
theorem dX12_isSweet_20 : decode cX12_isSweet 20 = .ok (.aload_n 0, 1) := oc_42 (by decide +kernel)
theorem dX12_isSweet_21 : decode cX12_isSweet 21 = .ok (.iload_n 1, 1) := oc_27 (by decide +kernel)
theorem dX12_isSweet_22 : decode cX12_isSweet 22 = .ok (.bipush 10, 2) := oc_16 (a := 10) (by decide +kernel)
theorem dX12_isSweet_24 : decode cX12_isSweet 24 = .ok (.invokevirtual 91, 3) := oc_182 (a := 0) (b := 91) (by decide +kernel)
theorem dX12_isSweet_27 : decode cX12_isSweet 27 = .ok (.bipush 20, 2) := oc_16 (a := 20) (by decide +kernel)
theorem dX12_isSweet_29 : decode cX12_isSweet 29 = .ok (.if_icmp .gt 19, 3) := oc_163 (a := 0) (b := 19) (by decide +kernel)
theorem dX12_isSweet_32 : decode cX12_isSweet 32 = .ok (.aload_n 0, 1) := oc_42 (by decide +kernel)
theorem dX12_isSweet_33 : decode cX12_isSweet 33 = .ok (.iload_n 1, 1) := oc_27 (by decide +kernel)
theorem dX12_isSweet_34 : decode cX12_isSweet 34 = .ok (.bipush 9, 2) := oc_16 (a := 9) (by decide +kernel)
theorem dX12_isSweet_36 : decode cX12_isSweet 36 = .ok (.invokevirtual 91, 3) := oc_182 (a := 0) (b := 91) (by decide +kernel)
theorem dX12_isSweet_39 : decode cX12_isSweet 39 = .ok (.bipush 10, 2) := oc_16 (a := 10) (by decide +kernel)
theorem dX12_isSweet_41 : decode cX12_isSweet 41 = .ok (.if_icmp .lt 7, 3) := oc_161 (a := 0) (b := 7) (by decide +kernel)
theorem dX12_isSweet_44 : decode cX12_isSweet 44 = .ok (.iconst 1, 1) := oc_4 (by decide +kernel)
theorem dX12_isSweet_45 : decode cX12_isSweet 45 = .ok (.goto 4, 3) := oc_167 (a := 0) (b := 4) (by decide +kernel)
theorem dX12_isOnRing_0 : decode cX12_isOnRing 0 = .ok (.aload_n 0, 1) := oc_42 (by decide +kernel)
theorem dX12_isOnRing_1 : decode cX12_isOnRing 1 = .ok (.iload_n 1, 1) := oc_27 (by decide +kernel)
theorem dX12_isOnRing_2 : decode cX12_isOnRing 2 = .ok (.iconst 3, 1) := oc_6 (by decide +kernel)
theorem dX12_isOnRing_3 : decode cX12_isOnRing 3 = .ok (.invokevirtual 94, 3) := oc_182 (a := 0) (b := 94) (by decide +kernel)
theorem dX12_isOnRing_6 : decode cX12_isOnRing 6 = .ok (.bipush 100, 2) := oc_16 (a := 100) (by decide +kernel)
theorem dX12_isOnRing_8 : decode cX12_isOnRing 8 = .ok (.if_icmp .ge 7, 3) := oc_162 (a := 0) (b := 7) (by decide +kernel)
theorem dX12_isOnRing_15 : decode cX12_isOnRing 15 = .ok (.iconst 0, 1) := oc_3 (by decide +kernel)
theorem dX12_isOnRing_16 : decode cX12_isOnRing 16 = .ok (.ireturn, 1) := oc_172 (by decide +kernel)
theorem dX12_isOnRing_11 : decode cX12_isOnRing 11 = .ok (.iconst 1, 1) := oc_4 (by decide +kernel)
theorem dX12_isOnRing_12 : decode cX12_isOnRing 12 = .ok (.goto 4, 3) := oc_167 (a := 0) (b := 4) (by decide +kernel)
theorem dX12_drink_0 : decode cX12_drink 0 = .ok (.iconst 0, 1) := oc_3 (by decide +kernel)
theorem dX12_drink_1 : decode cX12_drink 1 = .ok (.istore_n 1, 1) := oc_60 (by decide +kernel)
theorem dX12_drink_2 : decode cX12_drink 2 = .ok (.iload_n 1, 1) := oc_27 (by decide +kernel)
theorem dX12_drink_3 : decode cX12_drink 3 = .ok (.aload_n 0, 1) := oc_42 (by decide +kernel)
theorem dX12_drink_4 : decode cX12_drink 4 = .ok (.getfield 7, 3) := oc_180 (a := 0) (b := 7) (by decide +kernel)
theorem dX12_drink_7 : decode cX12_drink 7 = .ok (.iconst 5, 1) := oc_8 (by decide +kernel)
theorem dX12_drink_8 : decode cX12_drink 8 = .ok (.iaload, 1) := oc_46 (by decide +kernel)
theorem dX12_drink_9 : decode cX12_drink 9 = .ok (.if_icmp .ge 104, 3) := oc_162 (a := 0) (b := 104) (by decide +kernel)
theorem dX12_drink_113 : decode cX12_drink 113 = .ok (.return_, 1) := oc_177 (by decide +kernel)
theorem dX12_drink_12 : decode cX12_drink 12 = .ok (.aload_n 0, 1) := oc_42 (by decide +kernel)
theorem dX12_drink_13 : decode cX12_drink 13 = .ok (.iload_n 1, 1) := oc_27 (by decide +kernel)
theorem tw_1221 : Cond.methodLink RX12 316 yX12_isOnRing ∈ wsL_law := sg_51 _ (List.mem_of_getElem? (i := 21) rfl)
theorem tw_1222 : Cond.instanceMethod yX12_isOnRing ∈ wsL_law := sg_51 _ (List.mem_of_getElem? (i := 22) rfl)
theorem tw_1223 : Cond.selects RX12 yX12_isOnRing yX12_isOnRing ∈ wsL_law := sg_51 _ (List.mem_of_getElem? (i := 23) rfl)
theorem tw_1224 : Cond.code yX12_isOnRing cX12_isOnRing 2 (some .boolean) ∈ wsL_law := sg_52 _ (List.mem_of_getElem? (i := 0) rfl)
theorem dX12_drink_14 : decode cX12_drink 14 = .ok (.invokevirtual 316, 3) := oc_182 (a := 1) (b := 60) (by decide +kernel)
theorem dX12_drink_107 : decode cX12_drink 107 = .ok (.iinc 1 1, 3) := oc_132 (b := 1) (by decide +kernel)
theorem dX12_drink_110 : decode cX12_drink 110 = .ok (.goto (-108), 3) := oc_167 (a := 255) (b := 148) (by decide +kernel)
theorem dX12_drink_17 : decode cX12_drink 17 = .ok (.ifCond .ne 6, 3) := oc_154 (a := 0) (b := 6) (by decide +kernel)
theorem dX12_drink_23 : decode cX12_drink 23 = .ok (.iconst 0, 1) := oc_3 (by decide +kernel)
theorem dX12_drink_24 : decode cX12_drink 24 = .ok (.istore_n 2, 1) := oc_61 (by decide +kernel)
theorem dX12_drink_25 : decode cX12_drink 25 = .ok (.iload_n 2, 1) := oc_28 (by decide +kernel)
theorem dX12_drink_26 : decode cX12_drink 26 = .ok (.aload_n 0, 1) := oc_42 (by decide +kernel)
theorem dX12_drink_27 : decode cX12_drink 27 = .ok (.getfield 7, 3) := oc_180 (a := 0) (b := 7) (by decide +kernel)
theorem dX12_drink_30 : decode cX12_drink 30 = .ok (.iconst 2, 1) := oc_5 (by decide +kernel)
theorem dX12_drink_31 : decode cX12_drink 31 = .ok (.iaload, 1) := oc_46 (by decide +kernel)
theorem dX12_drink_55 : decode cX12_drink 55 = .ok (.iload_n 2, 1) := oc_28 (by decide +kernel)
theorem dX12_drink_56 : decode cX12_drink 56 = .ok (.aload_n 0, 1) := oc_42 (by decide +kernel)
theorem dX12_drink_57 : decode cX12_drink 57 = .ok (.getfield 7, 3) := oc_180 (a := 0) (b := 7) (by decide +kernel)
theorem dX12_drink_60 : decode cX12_drink 60 = .ok (.iconst 2, 1) := oc_5 (by decide +kernel)
theorem dX12_drink_61 : decode cX12_drink 61 = .ok (.iaload, 1) := oc_46 (by decide +kernel)
theorem dX12_drink_62 : decode cX12_drink 62 = .ok (.if_icmp .ge 26, 3) := oc_162 (a := 0) (b := 26) (by decide +kernel)
theorem dX12_drink_88 : decode cX12_drink 88 = .ok (.aload_n 0, 1) := oc_42 (by decide +kernel)
theorem dX12_drink_89 : decode cX12_drink 89 = .ok (.getfield 7, 3) := oc_180 (a := 0) (b := 7) (by decide +kernel)
theorem dX12_drink_92 : decode cX12_drink 92 = .ok (.sipush 740, 3) := oc_17 (a := 2) (b := 228) (by decide +kernel)
theorem dX12_drink_95 : decode cX12_drink 95 = .ok (.bipush 12, 2) := oc_16 (a := 12) (by decide +kernel)
theorem dX12_drink_97 : decode cX12_drink 97 = .ok (.iload_n 1, 1) := oc_27 (by decide +kernel)
theorem dX12_drink_98 : decode cX12_drink 98 = .ok (.imul, 1) := oc_104 (by decide +kernel)
theorem dX12_drink_99 : decode cX12_drink 99 = .ok (.iadd, 1) := oc_96 (by decide +kernel)
theorem dX12_drink_100 : decode cX12_drink 100 = .ok (.iconst 5, 1) := oc_8 (by decide +kernel)
theorem dX12_drink_101 : decode cX12_drink 101 = .ok (.iadd, 1) := oc_96 (by decide +kernel)
theorem dX12_drink_102 : decode cX12_drink 102 = .ok (.dup2, 1) := oc_92 (by decide +kernel)
theorem dX12_drink_103 : decode cX12_drink 103 = .ok (.iaload, 1) := oc_46 (by decide +kernel)
theorem dX12_drink_104 : decode cX12_drink 104 = .ok (.iconst 1, 1) := oc_4 (by decide +kernel)
theorem dX12_drink_105 : decode cX12_drink 105 = .ok (.iadd, 1) := oc_96 (by decide +kernel)
theorem dX12_drink_106 : decode cX12_drink 106 = .ok (.iastore, 1) := oc_79 (by decide +kernel)
theorem dX12_drink_65 : decode cX12_drink 65 = .ok (.aload_n 0, 1) := oc_42 (by decide +kernel)
theorem dX12_drink_66 : decode cX12_drink 66 = .ok (.getfield 7, 3) := oc_180 (a := 0) (b := 7) (by decide +kernel)
theorem dX12_drink_69 : decode cX12_drink 69 = .ok (.bipush 100, 2) := oc_16 (a := 100) (by decide +kernel)
theorem dX12_drink_71 : decode cX12_drink 71 = .ok (.bipush 16, 2) := oc_16 (a := 16) (by decide +kernel)
theorem dX12_drink_73 : decode cX12_drink 73 = .ok (.iload_n 2, 1) := oc_28 (by decide +kernel)
theorem dX12_drink_74 : decode cX12_drink 74 = .ok (.imul, 1) := oc_104 (by decide +kernel)
theorem dX12_drink_75 : decode cX12_drink 75 = .ok (.iadd, 1) := oc_96 (by decide +kernel)
theorem dX12_drink_76 : decode cX12_drink 76 = .ok (.bipush 9, 2) := oc_16 (a := 9) (by decide +kernel)
theorem dX12_drink_78 : decode cX12_drink 78 = .ok (.iadd, 1) := oc_96 (by decide +kernel)
theorem dX12_drink_79 : decode cX12_drink 79 = .ok (.dup2, 1) := oc_92 (by decide +kernel)
theorem dX12_drink_80 : decode cX12_drink 80 = .ok (.iaload, 1) := oc_46 (by decide +kernel)
theorem dX12_drink_81 : decode cX12_drink 81 = .ok (.bipush 10, 2) := oc_16 (a := 10) (by decide +kernel)
theorem dX12_drink_83 : decode cX12_drink 83 = .ok (.isub, 1) := oc_100 (by decide +kernel)
theorem dX12_drink_84 : decode cX12_drink 84 = .ok (.iastore, 1) := oc_79 (by decide +kernel)
theorem dX12_drink_85 : decode cX12_drink 85 = .ok (.goto 22, 3) := oc_167 (a := 0) (b := 22) (by decide +kernel)
theorem dX12_drink_32 : decode cX12_drink 32 = .ok (.if_icmp .ge 23, 3) := oc_162 (a := 0) (b := 23) (by decide +kernel)
theorem dX12_drink_35 : decode cX12_drink 35 = .ok (.aload_n 0, 1) := oc_42 (by decide +kernel)
theorem dX12_drink_36 : decode cX12_drink 36 = .ok (.iload_n 2, 1) := oc_28 (by decide +kernel)
theorem dX12_drink_37 : decode cX12_drink 37 = .ok (.aload_n 0, 1) := oc_42 (by decide +kernel)
theorem dX12_drink_38 : decode cX12_drink 38 = .ok (.iload_n 1, 1) := oc_27 (by decide +kernel)
theorem dX12_drink_39 : decode cX12_drink 39 = .ok (.iconst 3, 1) := oc_6 (by decide +kernel)
theorem dX12_drink_40 : decode cX12_drink 40 = .ok (.invokevirtual 94, 3) := oc_182 (a := 0) (b := 94) (by decide +kernel)
theorem tw_1225 : Cond.methodLink RX12 319 yX12_isSweet ∈ wsL_law := sg_52 _ (List.mem_of_getElem? (i := 1) rfl)
theorem tw_1226 : Cond.instanceMethod yX12_isSweet ∈ wsL_law := sg_52 _ (List.mem_of_getElem? (i := 2) rfl)
theorem tw_1227 : Cond.selects RX12 yX12_isSweet yX12_isSweet ∈ wsL_law := sg_52 _ (List.mem_of_getElem? (i := 3) rfl)
theorem tw_1228 : Cond.code yX12_isSweet cX12_isSweet 3 (some .boolean) ∈ wsL_law := sg_52 _ (List.mem_of_getElem? (i := 4) rfl)
theorem dX12_drink_43 : decode cX12_drink 43 = .ok (.invokevirtual 319, 3) := oc_182 (a := 1) (b := 63) (by decide +kernel)
theorem dX12_drink_46 : decode cX12_drink 46 = .ok (.ifCond .ne 9, 3) := oc_154 (a := 0) (b := 9) (by decide +kernel)
theorem dX12_drink_49 : decode cX12_drink 49 = .ok (.iinc 2 1, 3) := oc_132 (b := 1) (by decide +kernel)
theorem dX12_drink_52 : decode cX12_drink 52 = .ok (.goto (-27), 3) := oc_167 (a := 255) (b := 229) (by decide +kernel)
theorem dX12_drink_20 : decode cX12_drink 20 = .ok (.goto 87, 3) := oc_167 (a := 0) (b := 87) (by decide +kernel)
theorem dX12_sleep_0 : decode cX12_sleep 0 = .ok (.iconst 0, 1) := oc_3 (by decide +kernel)
theorem dX12_sleep_1 : decode cX12_sleep 1 = .ok (.istore_n 1, 1) := oc_60 (by decide +kernel)
theorem dX12_sleep_2 : decode cX12_sleep 2 = .ok (.iload_n 1, 1) := oc_27 (by decide +kernel)
theorem dX12_sleep_3 : decode cX12_sleep 3 = .ok (.aload_n 0, 1) := oc_42 (by decide +kernel)
theorem dX12_sleep_4 : decode cX12_sleep 4 = .ok (.getfield 7, 3) := oc_180 (a := 0) (b := 7) (by decide +kernel)
theorem dX12_sleep_7 : decode cX12_sleep 7 = .ok (.iconst 1, 1) := oc_4 (by decide +kernel)
theorem dX12_sleep_8 : decode cX12_sleep 8 = .ok (.iaload, 1) := oc_46 (by decide +kernel)
theorem dX12_sleep_9 : decode cX12_sleep 9 = .ok (.if_icmp .ge 114, 3) := oc_162 (a := 0) (b := 114) (by decide +kernel)
theorem dX12_sleep_123 : decode cX12_sleep 123 = .ok (.return_, 1) := oc_177 (by decide +kernel)
theorem dX12_sleep_12 : decode cX12_sleep 12 = .ok (.iconst 0, 1) := oc_3 (by decide +kernel)
theorem dX12_sleep_13 : decode cX12_sleep 13 = .ok (.istore_n 2, 1) := oc_61 (by decide +kernel)
theorem dX12_sleep_14 : decode cX12_sleep 14 = .ok (.iconst 0, 1) := oc_3 (by decide +kernel)
theorem dX12_sleep_15 : decode cX12_sleep 15 = .ok (.istore_n 3, 1) := oc_62 (by decide +kernel)
theorem dX12_sleep_16 : decode cX12_sleep 16 = .ok (.iload_n 3, 1) := oc_29 (by decide +kernel)
theorem dX12_sleep_17 : decode cX12_sleep 17 = .ok (.aload_n 0, 1) := oc_42 (by decide +kernel)
theorem dX12_sleep_18 : decode cX12_sleep 18 = .ok (.getfield 7, 3) := oc_180 (a := 0) (b := 7) (by decide +kernel)
theorem dX12_sleep_21 : decode cX12_sleep 21 = .ok (.iconst 2, 1) := oc_5 (by decide +kernel)
theorem dX12_sleep_22 : decode cX12_sleep 22 = .ok (.iaload, 1) := oc_46 (by decide +kernel)
theorem dX12_sleep_23 : decode cX12_sleep 23 = .ok (.if_icmp .ge 33, 3) := oc_162 (a := 0) (b := 33) (by decide +kernel)
theorem dX12_sleep_56 : decode cX12_sleep 56 = .ok (.iconst 0, 1) := oc_3 (by decide +kernel)
theorem dX12_sleep_57 : decode cX12_sleep 57 = .ok (.istore_n 3, 1) := oc_62 (by decide +kernel)
theorem dX12_sleep_58 : decode cX12_sleep 58 = .ok (.iload_n 3, 1) := oc_29 (by decide +kernel)
theorem dX12_sleep_59 : decode cX12_sleep 59 = .ok (.aload_n 0, 1) := oc_42 (by decide +kernel)
theorem dX12_sleep_60 : decode cX12_sleep 60 = .ok (.getfield 7, 3) := oc_180 (a := 0) (b := 7) (by decide +kernel)
theorem dX12_sleep_63 : decode cX12_sleep 63 = .ok (.iconst 5, 1) := oc_8 (by decide +kernel)
theorem dX12_sleep_64 : decode cX12_sleep 64 = .ok (.iaload, 1) := oc_46 (by decide +kernel)
theorem dX12_sleep_65 : decode cX12_sleep 65 = .ok (.if_icmp .ge 52, 3) := oc_162 (a := 0) (b := 52) (by decide +kernel)
theorem dX12_sleep_117 : decode cX12_sleep 117 = .ok (.iinc 1 1, 3) := oc_132 (b := 1) (by decide +kernel)
theorem dX12_sleep_120 : decode cX12_sleep 120 = .ok (.goto (-118), 3) := oc_167 (a := 255) (b := 138) (by decide +kernel)
theorem dX12_sleep_68 : decode cX12_sleep 68 = .ok (.aload_n 0, 1) := oc_42 (by decide +kernel)
theorem dX12_sleep_69 : decode cX12_sleep 69 = .ok (.iload_n 3, 1) := oc_29 (by decide +kernel)
theorem dX12_sleep_70 : decode cX12_sleep 70 = .ok (.iconst 3, 1) := oc_6 (by decide +kernel)
theorem dX12_sleep_71 : decode cX12_sleep 71 = .ok (.invokevirtual 94, 3) := oc_182 (a := 0) (b := 94) (by decide +kernel)
theorem dX12_sleep_74 : decode cX12_sleep 74 = .ok (.iload_n 1, 1) := oc_27 (by decide +kernel)
theorem dX12_sleep_111 : decode cX12_sleep 111 = .ok (.iinc 3 1, 3) := oc_132 (b := 1) (by decide +kernel)
theorem dX12_sleep_114 : decode cX12_sleep 114 = .ok (.goto (-56), 3) := oc_167 (a := 255) (b := 200) (by decide +kernel)
theorem dX12_sleep_75 : decode cX12_sleep 75 = .ok (.if_icmp .eq 6, 3) := oc_159 (a := 0) (b := 6) (by decide +kernel)
theorem dX12_sleep_81 : decode cX12_sleep 81 = .ok (.iload_n 2, 1) := oc_28 (by decide +kernel)
theorem dX12_sleep_82 : decode cX12_sleep 82 = .ok (.ifCond .ne 26, 3) := oc_154 (a := 0) (b := 26) (by decide +kernel)
theorem dX12_sleep_108 : decode cX12_sleep 108 = .ok (.iinc 2 (-1), 3) := oc_132 (b := 255) (by decide +kernel)
theorem dX12_sleep_85 : decode cX12_sleep 85 = .ok (.aload_n 0, 1) := oc_42 (by decide +kernel)
theorem dX12_sleep_86 : decode cX12_sleep 86 = .ok (.getfield 7, 3) := oc_180 (a := 0) (b := 7) (by decide +kernel)
theorem dX12_sleep_89 : decode cX12_sleep 89 = .ok (.sipush 740, 3) := oc_17 (a := 2) (b := 228) (by decide +kernel)
theorem dX12_sleep_92 : decode cX12_sleep 92 = .ok (.bipush 12, 2) := oc_16 (a := 12) (by decide +kernel)
theorem dX12_sleep_94 : decode cX12_sleep 94 = .ok (.iload_n 3, 1) := oc_29 (by decide +kernel)
theorem dX12_sleep_95 : decode cX12_sleep 95 = .ok (.imul, 1) := oc_104 (by decide +kernel)
theorem dX12_sleep_96 : decode cX12_sleep 96 = .ok (.iadd, 1) := oc_96 (by decide +kernel)
theorem dX12_sleep_97 : decode cX12_sleep 97 = .ok (.bipush 6, 2) := oc_16 (a := 6) (by decide +kernel)
theorem dX12_sleep_99 : decode cX12_sleep 99 = .ok (.iadd, 1) := oc_96 (by decide +kernel)
theorem dX12_sleep_100 : decode cX12_sleep 100 = .ok (.dup2, 1) := oc_92 (by decide +kernel)
theorem dX12_sleep_101 : decode cX12_sleep 101 = .ok (.iaload, 1) := oc_46 (by decide +kernel)
theorem dX12_sleep_102 : decode cX12_sleep 102 = .ok (.iconst 1, 1) := oc_4 (by decide +kernel)
theorem dX12_sleep_103 : decode cX12_sleep 103 = .ok (.iadd, 1) := oc_96 (by decide +kernel)
theorem dX12_sleep_104 : decode cX12_sleep 104 = .ok (.iastore, 1) := oc_79 (by decide +kernel)
theorem dX12_sleep_105 : decode cX12_sleep 105 = .ok (.goto 6, 3) := oc_167 (a := 0) (b := 6) (by decide +kernel)
theorem dX12_sleep_78 : decode cX12_sleep 78 = .ok (.goto 33, 3) := oc_167 (a := 0) (b := 33) (by decide +kernel)
theorem dX12_sleep_26 : decode cX12_sleep 26 = .ok (.iload_n 2, 1) := oc_28 (by decide +kernel)
theorem dX12_sleep_27 : decode cX12_sleep 27 = .ok (.aload_n 0, 1) := oc_42 (by decide +kernel)
theorem dX12_sleep_28 : decode cX12_sleep 28 = .ok (.iload_n 3, 1) := oc_29 (by decide +kernel)
theorem dX12_sleep_29 : decode cX12_sleep 29 = .ok (.iconst 0, 1) := oc_3 (by decide +kernel)
theorem dX12_sleep_30 : decode cX12_sleep 30 = .ok (.invokevirtual 91, 3) := oc_182 (a := 0) (b := 91) (by decide +kernel)
theorem dX12_sleep_33 : decode cX12_sleep 33 = .ok (.iload_n 1, 1) := oc_27 (by decide +kernel)
theorem dX12_sleep_48 : decode cX12_sleep 48 = .ok (.iadd, 1) := oc_96 (by decide +kernel)
theorem dX12_sleep_49 : decode cX12_sleep 49 = .ok (.istore_n 2, 1) := oc_61 (by decide +kernel)
theorem dX12_sleep_50 : decode cX12_sleep 50 = .ok (.iinc 3 1, 3) := oc_132 (b := 1) (by decide +kernel)
theorem dX12_sleep_53 : decode cX12_sleep 53 = .ok (.goto (-37), 3) := oc_167 (a := 255) (b := 219) (by decide +kernel)
theorem dX12_sleep_34 : decode cX12_sleep 34 = .ok (.if_icmp .ne 13, 3) := oc_160 (a := 0) (b := 13) (by decide +kernel)
theorem dX12_sleep_47 : decode cX12_sleep 47 = .ok (.iconst 0, 1) := oc_3 (by decide +kernel)
theorem dX12_sleep_37 : decode cX12_sleep 37 = .ok (.aload_n 0, 1) := oc_42 (by decide +kernel)
theorem dX12_sleep_38 : decode cX12_sleep 38 = .ok (.iload_n 3, 1) := oc_29 (by decide +kernel)
theorem dX12_sleep_39 : decode cX12_sleep 39 = .ok (.bipush 7, 2) := oc_16 (a := 7) (by decide +kernel)
theorem dX12_sleep_41 : decode cX12_sleep 41 = .ok (.invokevirtual 91, 3) := oc_182 (a := 0) (b := 91) (by decide +kernel)
theorem dX12_sleep_44 : decode cX12_sleep 44 = .ok (.goto 4, 3) := oc_167 (a := 0) (b := 4) (by decide +kernel)
theorem dX12_wasRock_0 : decode cX12_wasRock 0 = .ok (.iload_n 1, 1) := oc_27 (by decide +kernel)
theorem dX12_wasRock_1 : decode cX12_wasRock 1 = .ok (.bipush 20, 2) := oc_16 (a := 20) (by decide +kernel)
theorem dX12_wasRock_42 : decode cX12_wasRock 42 = .ok (.iconst 1, 1) := oc_4 (by decide +kernel)
theorem dX12_wasRock_43 : decode cX12_wasRock 43 = .ok (.iand, 1) := oc_126 (by decide +kernel)
theorem dX12_wasRock_44 : decode cX12_wasRock 44 = .ok (.iconst 1, 1) := oc_4 (by decide +kernel)
theorem dX12_wasRock_45 : decode cX12_wasRock 45 = .ok (.if_icmp .ne 7, 3) := oc_160 (a := 0) (b := 7) (by decide +kernel)
theorem dX12_wasRock_52 : decode cX12_wasRock 52 = .ok (.iconst 0, 1) := oc_3 (by decide +kernel)
theorem dX12_wasRock_53 : decode cX12_wasRock 53 = .ok (.ireturn, 1) := oc_172 (by decide +kernel)
theorem dX12_wasRock_48 : decode cX12_wasRock 48 = .ok (.iconst 1, 1) := oc_4 (by decide +kernel)
theorem dX12_wasRock_49 : decode cX12_wasRock 49 = .ok (.goto 4, 3) := oc_167 (a := 0) (b := 4) (by decide +kernel)
theorem dX12_wasRock_3 : decode cX12_wasRock 3 = .ok (.if_icmp .ge 20, 3) := oc_162 (a := 0) (b := 20) (by decide +kernel)
theorem dX12_wasRock_23 : decode cX12_wasRock 23 = .ok (.aload_n 0, 1) := oc_42 (by decide +kernel)
theorem dX12_wasRock_24 : decode cX12_wasRock 24 = .ok (.getfield 7, 3) := oc_180 (a := 0) (b := 7) (by decide +kernel)
theorem dX12_wasRock_27 : decode cX12_wasRock 27 = .ok (.sipush 2520, 3) := oc_17 (a := 9) (b := 216) (by decide +kernel)
theorem dX12_wasRock_30 : decode cX12_wasRock 30 = .ok (.iconst 2, 1) := oc_5 (by decide +kernel)
theorem dX12_wasRock_31 : decode cX12_wasRock 31 = .ok (.iload_n 2, 1) := oc_28 (by decide +kernel)
theorem dX12_wasRock_32 : decode cX12_wasRock 32 = .ok (.imul, 1) := oc_104 (by decide +kernel)
theorem dX12_wasRock_33 : decode cX12_wasRock 33 = .ok (.iadd, 1) := oc_96 (by decide +kernel)
theorem dX12_wasRock_34 : decode cX12_wasRock 34 = .ok (.iconst 1, 1) := oc_4 (by decide +kernel)
theorem dX12_wasRock_35 : decode cX12_wasRock 35 = .ok (.iadd, 1) := oc_96 (by decide +kernel)
theorem dX12_wasRock_36 : decode cX12_wasRock 36 = .ok (.iaload, 1) := oc_46 (by decide +kernel)
theorem dX12_wasRock_37 : decode cX12_wasRock 37 = .ok (.iload_n 1, 1) := oc_27 (by decide +kernel)
theorem dX12_wasRock_38 : decode cX12_wasRock 38 = .ok (.bipush 20, 2) := oc_16 (a := 20) (by decide +kernel)
theorem dX12_wasRock_40 : decode cX12_wasRock 40 = .ok (.isub, 1) := oc_100 (by decide +kernel)
theorem dX12_wasRock_41 : decode cX12_wasRock 41 = .ok (.ishr, 1) := oc_122 (by decide +kernel)
theorem dX12_wasRock_6 : decode cX12_wasRock 6 = .ok (.aload_n 0, 1) := oc_42 (by decide +kernel)
theorem dX12_wasRock_7 : decode cX12_wasRock 7 = .ok (.getfield 7, 3) := oc_180 (a := 0) (b := 7) (by decide +kernel)
theorem dX12_wasRock_10 : decode cX12_wasRock 10 = .ok (.sipush 2520, 3) := oc_17 (a := 9) (b := 216) (by decide +kernel)
theorem dX12_wasRock_13 : decode cX12_wasRock 13 = .ok (.iconst 2, 1) := oc_5 (by decide +kernel)
theorem dX12_wasRock_14 : decode cX12_wasRock 14 = .ok (.iload_n 2, 1) := oc_28 (by decide +kernel)
theorem dX12_wasRock_15 : decode cX12_wasRock 15 = .ok (.imul, 1) := oc_104 (by decide +kernel)
theorem dX12_wasRock_16 : decode cX12_wasRock 16 = .ok (.iadd, 1) := oc_96 (by decide +kernel)
theorem dX12_wasRock_17 : decode cX12_wasRock 17 = .ok (.iaload, 1) := oc_46 (by decide +kernel)
theorem dX12_wasRock_18 : decode cX12_wasRock 18 = .ok (.iload_n 1, 1) := oc_27 (by decide +kernel)
theorem dX12_wasRock_19 : decode cX12_wasRock 19 = .ok (.ishr, 1) := oc_122 (by decide +kernel)
theorem dX12_wasRock_20 : decode cX12_wasRock 20 = .ok (.goto 22, 3) := oc_167 (a := 0) (b := 22) (by decide +kernel)
theorem dX12_areaOf_0 : decode cX12_areaOf 0 = .ok (.aload_n 0, 1) := oc_42 (by decide +kernel)
theorem dX12_areaOf_1 : decode cX12_areaOf 1 = .ok (.bipush 8, 2) := oc_16 (a := 8) (by decide +kernel)
theorem dX12_areaOf_3 : decode cX12_areaOf 3 = .ok (.iload_n 1, 1) := oc_27 (by decide +kernel)
theorem dX12_areaOf_4 : decode cX12_areaOf 4 = .ok (.iconst (-1), 1) := oc_2 (by decide +kernel)
theorem dX12_areaOf_5 : decode cX12_areaOf 5 = .ok (.invokevirtual 304, 3) := oc_182 (a := 1) (b := 48) (by decide +kernel)
theorem dX12_areaOf_8 : decode cX12_areaOf 8 = .ok (.istore_n 2, 1) := oc_61 (by decide +kernel)
theorem dX12_areaOf_9 : decode cX12_areaOf 9 = .ok (.iload_n 2, 1) := oc_28 (by decide +kernel)
theorem dX12_areaOf_23 : decode cX12_areaOf 23 = .ok (.istore_n 3, 1) := oc_62 (by decide +kernel)
theorem dX12_areaOf_24 : decode cX12_areaOf 24 = .ok (.iconst 0, 1) := oc_3 (by decide +kernel)
theorem dX12_areaOf_25 : decode cX12_areaOf 25 = .ok (.istore 4, 2) := oc_54 (by decide +kernel)
theorem dX12_areaOf_27 : decode cX12_areaOf 27 = .ok (.iconst 0, 1) := oc_3 (by decide +kernel)
theorem dX12_areaOf_28 : decode cX12_areaOf 28 = .ok (.istore 5, 2) := oc_54 (by decide +kernel)
theorem dX12_areaOf_30 : decode cX12_areaOf 30 = .ok (.iload 5, 2) := oc_21 (by decide +kernel)
theorem dX12_areaOf_32 : decode cX12_areaOf 32 = .ok (.sipush 1024, 3) := oc_17 (a := 4) (b := 0) (by decide +kernel)
theorem dX12_areaOf_35 : decode cX12_areaOf 35 = .ok (.if_icmp .ge 128, 3) := oc_162 (a := 0) (b := 128) (by decide +kernel)
theorem dX12_areaOf_163 : decode cX12_areaOf 163 = .ok (.iload 4, 2) := oc_21 (by decide +kernel)
theorem dX12_areaOf_165 : decode cX12_areaOf 165 = .ok (.ireturn, 1) := oc_172 (by decide +kernel)
theorem dX12_areaOf_38 : decode cX12_areaOf 38 = .ok (.iconst 0, 1) := oc_3 (by decide +kernel)
theorem dX12_areaOf_39 : decode cX12_areaOf 39 = .ok (.istore 6, 2) := oc_54 (by decide +kernel)
theorem dX12_areaOf_41 : decode cX12_areaOf 41 = .ok (.iconst 0, 1) := oc_3 (by decide +kernel)
theorem dX12_areaOf_42 : decode cX12_areaOf 42 = .ok (.istore 7, 2) := oc_54 (by decide +kernel)
theorem dX12_areaOf_44 : decode cX12_areaOf 44 = .ok (.iload 7, 2) := oc_21 (by decide +kernel)
theorem dX12_areaOf_46 : decode cX12_areaOf 46 = .ok (.aload_n 0, 1) := oc_42 (by decide +kernel)
theorem dX12_areaOf_47 : decode cX12_areaOf 47 = .ok (.getfield 7, 3) := oc_180 (a := 0) (b := 7) (by decide +kernel)
theorem dX12_areaOf_50 : decode cX12_areaOf 50 = .ok (.iconst 2, 1) := oc_5 (by decide +kernel)
theorem dX12_areaOf_51 : decode cX12_areaOf 51 = .ok (.iaload, 1) := oc_46 (by decide +kernel)
theorem dX12_areaOf_142 : decode cX12_areaOf 142 = .ok (.iload 4, 2) := oc_21 (by decide +kernel)
theorem dX12_areaOf_144 : decode cX12_areaOf 144 = .ok (.iload 6, 2) := oc_21 (by decide +kernel)
theorem dX12_areaOf_154 : decode cX12_areaOf 154 = .ok (.iadd, 1) := oc_96 (by decide +kernel)
theorem dX12_areaOf_155 : decode cX12_areaOf 155 = .ok (.istore 4, 2) := oc_54 (by decide +kernel)
theorem dX12_areaOf_157 : decode cX12_areaOf 157 = .ok (.iinc 5 1, 3) := oc_132 (b := 1) (by decide +kernel)
theorem dX12_areaOf_160 : decode cX12_areaOf 160 = .ok (.goto (-130), 3) := oc_167 (a := 255) (b := 126) (by decide +kernel)
theorem dX12_areaOf_146 : decode cX12_areaOf 146 = .ok (.ifCond .eq 7, 3) := oc_153 (a := 0) (b := 7) (by decide +kernel)
theorem dX12_areaOf_153 : decode cX12_areaOf 153 = .ok (.iconst 0, 1) := oc_3 (by decide +kernel)
theorem dX12_areaOf_149 : decode cX12_areaOf 149 = .ok (.iconst 1, 1) := oc_4 (by decide +kernel)
theorem dX12_areaOf_150 : decode cX12_areaOf 150 = .ok (.goto 4, 3) := oc_167 (a := 0) (b := 4) (by decide +kernel)
theorem dX12_areaOf_52 : decode cX12_areaOf 52 = .ok (.if_icmp .ge 90, 3) := oc_162 (a := 0) (b := 90) (by decide +kernel)
theorem dX12_areaOf_55 : decode cX12_areaOf 55 = .ok (.iload 6, 2) := oc_21 (by decide +kernel)
theorem dX12_areaOf_57 : decode cX12_areaOf 57 = .ok (.ifCond .ne 85, 3) := oc_154 (a := 0) (b := 85) (by decide +kernel)
theorem dX12_areaOf_60 : decode cX12_areaOf 60 = .ok (.iload 5, 2) := oc_21 (by decide +kernel)
theorem dX12_areaOf_62 : decode cX12_areaOf 62 = .ok (.bipush 32, 2) := oc_16 (a := 32) (by decide +kernel)
theorem dX12_areaOf_64 : decode cX12_areaOf 64 = .ok (.irem, 1) := oc_112 (by decide +kernel)
theorem dX12_areaOf_65 : decode cX12_areaOf 65 = .ok (.aload_n 0, 1) := oc_42 (by decide +kernel)
theorem dX12_areaOf_66 : decode cX12_areaOf 66 = .ok (.iload 7, 2) := oc_21 (by decide +kernel)
theorem dX12_areaOf_68 : decode cX12_areaOf 68 = .ok (.iconst 2, 1) := oc_5 (by decide +kernel)
theorem dX12_areaOf_69 : decode cX12_areaOf 69 = .ok (.invokevirtual 91, 3) := oc_182 (a := 0) (b := 91) (by decide +kernel)
theorem dX12_areaOf_72 : decode cX12_areaOf 72 = .ok (.isub, 1) := oc_100 (by decide +kernel)
theorem dX12_areaOf_73 : decode cX12_areaOf 73 = .ok (.istore 8, 2) := oc_54 (by decide +kernel)
theorem dX12_areaOf_75 : decode cX12_areaOf 75 = .ok (.iload 5, 2) := oc_21 (by decide +kernel)
theorem dX12_areaOf_77 : decode cX12_areaOf 77 = .ok (.bipush 32, 2) := oc_16 (a := 32) (by decide +kernel)
theorem dX12_areaOf_79 : decode cX12_areaOf 79 = .ok (.idiv, 1) := oc_108 (by decide +kernel)
theorem dX12_areaOf_80 : decode cX12_areaOf 80 = .ok (.aload_n 0, 1) := oc_42 (by decide +kernel)
theorem dX12_areaOf_81 : decode cX12_areaOf 81 = .ok (.iload 7, 2) := oc_21 (by decide +kernel)
theorem dX12_areaOf_83 : decode cX12_areaOf 83 = .ok (.iconst 3, 1) := oc_6 (by decide +kernel)
theorem dX12_areaOf_84 : decode cX12_areaOf 84 = .ok (.invokevirtual 91, 3) := oc_182 (a := 0) (b := 91) (by decide +kernel)
theorem dX12_areaOf_87 : decode cX12_areaOf 87 = .ok (.isub, 1) := oc_100 (by decide +kernel)
theorem dX12_areaOf_88 : decode cX12_areaOf 88 = .ok (.istore 9, 2) := oc_54 (by decide +kernel)
theorem dX12_areaOf_90 : decode cX12_areaOf 90 = .ok (.iload 8, 2) := oc_21 (by decide +kernel)
theorem dX12_areaOf_92 : decode cX12_areaOf 92 = .ok (.iload 8, 2) := oc_21 (by decide +kernel)
theorem dX12_areaOf_94 : decode cX12_areaOf 94 = .ok (.imul, 1) := oc_104 (by decide +kernel)
theorem dX12_areaOf_95 : decode cX12_areaOf 95 = .ok (.iload 9, 2) := oc_21 (by decide +kernel)
theorem dX12_areaOf_97 : decode cX12_areaOf 97 = .ok (.iload 9, 2) := oc_21 (by decide +kernel)
theorem dX12_areaOf_99 : decode cX12_areaOf 99 = .ok (.imul, 1) := oc_104 (by decide +kernel)
theorem dX12_areaOf_100 : decode cX12_areaOf 100 = .ok (.iadd, 1) := oc_96 (by decide +kernel)
theorem dX12_areaOf_101 : decode cX12_areaOf 101 = .ok (.aload_n 0, 1) := oc_42 (by decide +kernel)
theorem dX12_areaOf_102 : decode cX12_areaOf 102 = .ok (.getfield 7, 3) := oc_180 (a := 0) (b := 7) (by decide +kernel)
theorem dX12_areaOf_105 : decode cX12_areaOf 105 = .ok (.bipush 16, 2) := oc_16 (a := 16) (by decide +kernel)
theorem dX12_areaOf_107 : decode cX12_areaOf 107 = .ok (.iaload, 1) := oc_46 (by decide +kernel)
theorem dX12_areaOf_108 : decode cX12_areaOf 108 = .ok (.aload_n 0, 1) := oc_42 (by decide +kernel)
theorem dX12_areaOf_109 : decode cX12_areaOf 109 = .ok (.getfield 7, 3) := oc_180 (a := 0) (b := 7) (by decide +kernel)
theorem dX12_areaOf_112 : decode cX12_areaOf 112 = .ok (.bipush 16, 2) := oc_16 (a := 16) (by decide +kernel)
theorem dX12_areaOf_114 : decode cX12_areaOf 114 = .ok (.iaload, 1) := oc_46 (by decide +kernel)
theorem dX12_areaOf_115 : decode cX12_areaOf 115 = .ok (.imul, 1) := oc_104 (by decide +kernel)
theorem dX12_areaOf_134 : decode cX12_areaOf 134 = .ok (.istore 6, 2) := oc_54 (by decide +kernel)
theorem dX12_areaOf_136 : decode cX12_areaOf 136 = .ok (.iinc 7 1, 3) := oc_132 (b := 1) (by decide +kernel)
theorem dX12_areaOf_139 : decode cX12_areaOf 139 = .ok (.goto (-95), 3) := oc_167 (a := 255) (b := 161) (by decide +kernel)
theorem dX12_areaOf_133 : decode cX12_areaOf 133 = .ok (.iconst 0, 1) := oc_3 (by decide +kernel)
theorem dX12_areaOf_116 : decode cX12_areaOf 116 = .ok (.if_icmp .gt 17, 3) := oc_163 (a := 0) (b := 17) (by decide +kernel)
theorem dX12_areaOf_119 : decode cX12_areaOf 119 = .ok (.aload_n 0, 1) := oc_42 (by decide +kernel)
theorem dX12_areaOf_120 : decode cX12_areaOf 120 = .ok (.iload 7, 2) := oc_21 (by decide +kernel)
theorem dX12_areaOf_122 : decode cX12_areaOf 122 = .ok (.iload_n 3, 1) := oc_29 (by decide +kernel)
theorem tw_1243 : Cond.methodLink RX12 322 yX12_wasRock ∈ wsL_law := sg_52 _ (List.mem_of_getElem? (i := 19) rfl)
theorem tw_1244 : Cond.instanceMethod yX12_wasRock ∈ wsL_law := sg_52 _ (List.mem_of_getElem? (i := 20) rfl)
theorem tw_1245 : Cond.selects RX12 yX12_wasRock yX12_wasRock ∈ wsL_law := sg_52 _ (List.mem_of_getElem? (i := 21) rfl)
theorem tw_1246 : Cond.code yX12_wasRock cX12_wasRock 3 (some .boolean) ∈ wsL_law := sg_52 _ (List.mem_of_getElem? (i := 22) rfl)
theorem dX12_areaOf_123 : decode cX12_areaOf 123 = .ok (.invokevirtual 322, 3) := oc_182 (a := 1) (b := 66) (by decide +kernel)
theorem dX12_areaOf_126 : decode cX12_areaOf 126 = .ok (.ifCond .eq 7, 3) := oc_153 (a := 0) (b := 7) (by decide +kernel)
theorem dX12_areaOf_129 : decode cX12_areaOf 129 = .ok (.iconst 1, 1) := oc_4 (by decide +kernel)
theorem dX12_areaOf_130 : decode cX12_areaOf 130 = .ok (.goto 4, 3) := oc_167 (a := 0) (b := 4) (by decide +kernel)
theorem dX12_areaOf_22 : decode cX12_areaOf 22 = .ok (.iload_n 1, 1) := oc_27 (by decide +kernel)
theorem dX12_areaOf_10 : decode cX12_areaOf 10 = .ok (.ifCond .lt 12, 3) := oc_155 (a := 0) (b := 12) (by decide +kernel)
theorem dX12_areaOf_13 : decode cX12_areaOf 13 = .ok (.iload_n 2, 1) := oc_28 (by decide +kernel)
theorem dX12_areaOf_14 : decode cX12_areaOf 14 = .ok (.iload_n 1, 1) := oc_27 (by decide +kernel)
theorem dX12_areaOf_15 : decode cX12_areaOf 15 = .ok (.if_icmp .ge 7, 3) := oc_162 (a := 0) (b := 7) (by decide +kernel)
theorem dX12_areaOf_18 : decode cX12_areaOf 18 = .ok (.iload_n 2, 1) := oc_28 (by decide +kernel)
theorem dX12_areaOf_19 : decode cX12_areaOf 19 = .ok (.goto 4, 3) := oc_167 (a := 0) (b := 4) (by decide +kernel)
set_option maxHeartbeats 4000000 in
set_option maxRecDepth 100000 in
theorem s_X12_cellAt_c10 (l : Launch) (D : va_G) (t : pq_T) (σ : pq_S) (I : Nat → Nat → Int32) (J : Nat → Nat → Int64) (ri : Nat → Nat → Int32) (rj : Nat → Nat → Int64) (rq : Nat → Nat → Option Nat) (sz : Nat) (tg : Nat → Nat) (hSH : SH σ tg) (hG0 : GT tg I ri) (this : Nat) (a0 : Int32) (hL_this : this ∈ σ.1) (hK_this : σ.2.1 this = 12) (h_a0 : rg a0 0 39) : MetI l yX12_cellAt (wa yX12_cellAt cX12_cellAt 3 (some .int)) ({ frames := 0, cells := 0, slots := 0, locals := 0 }) [.ref this, .int a0, .int 10] D t σ (I, J, ri, rj, rq) sz 0 0 (fun (r : Int32) (u : pq_S × pq_M) => u = (σ, I, J, ri, rj, rq)) := by
  refine Met.ofW (cc := cX12_cellAt) (maxL := 3) (ret := (some .int)) (by decide) rfl ?_
  intro p e s m args below meth c s₁ B hml hv
  obtain ⟨rfl, hsz, hP, hK, hD0, hN⟩ := hv
  have hx := B.exec
  have hb := B.bytes
  have hr := B.returns
  have hts := atoms_spec (ws := (wa yX12_cellAt cX12_cellAt 3 (some .int))) B.pre
  have hown : s.vm.findClass RX12 = some m.cls := findClass_of_methodNamed B.named
  have hlocks := B.notSynchronized
  subst hsz
  have hD : va_D (pq_B t σ (I, J, ri, rj, rq) s.heap.size) (pq_P t σ (I, J, ri, rj, rq)) := hD0.self
  generalize hAe : pq_B t σ (I, J, ri, rj, rq) s.heap.size = A at hD ⊢
  have hA : ∀ q : Nat, s.heap.size ≤ q → A q := fun q h => by rw [← hAe]; exact Or.inr h
  have hS : va_S A s.heap s.heap [] := va_S.rf
  have hG : GM [] tg σ I ri I ri rq := ⟨hG0, fun _ _ _ => rfl, fun _ _ _ _ _ => rfl, fun _ _ _ _ _ _ => rfl⟩
  have hl := lv_entry ([.ref this, .int a0, .int 10]) (n := 3) (Nat.le_of_ble_eq_true rfl)
  rw [lg_entry_eq]
  generalize (lg_sl ([.ref this, .int a0, .int 10]) ++ List.replicate (3 - (lg_sl ([.ref this, .int a0, .int 10])).length) Slot.unset).toArray = ls at hl ⊢
  have hl : lv_has ls 3 [(0, .ref this), (1, .int a0), (2, .int 10)] := hl
  refine q_gen (fun Q hQ => ?_)
  have go : ∀ (H : Heap) (locs : List Loc) (ls : Array Slot), va_P D vwCl (pq_P t σ (I, J, ri, rj, rq)) H → va_D A (pq_P t σ (I, J, ri, rj, rq)) → va_S A s.heap H locs → lv_has ls 3 [(0, .ref this), (1, .int a0), (2, .int 10)] → W p l e ({ frames := 0, cells := 0, slots := 0, locals := 0 } : Room) s m (List.toArray ([.ref this, .int a0, .int 10] : List Value)) below meth c H locs 0 0 Q (F0 m 0 ls []) := by
    intro H locs ls hP hD hS hl
    refine lv_aload_n hx hb dX12_cellAt_0 rfl (lv_at hl 0 rfl) ?_
    obtain ⟨w_1, hR_w_1, hL_w_1, hK_w_1, hN_w_1, hT_w_1⟩ := sh_a hSH 384 (ci := 12) (kd := 13) (len := 12720) rfl (by decide) hL_this hK_this
    refine pg_f (v := .ref w_1) (C := RX12) (T := TX12) (N := 31) hx hb hts (tw_i inlX12) hown hK hP hL_this hK_this (by decide) rfl 0 (by decide) (hts _ (tw_c tw_176)) (pq_hv rfl hR_w_1) dX12_cellAt_1 ?_
    refine lv_bipush (v := 100) hx hb dX12_cellAt_4 (by decide) ?_
    refine lv_bipush (v := 16) hx hb dX12_cellAt_6 (by decide) ?_
    refine lv_iload_n hx hb dX12_cellAt_8 rfl (lv_at hl 1 rfl) ?_
    refine lv_imul hx hb dX12_cellAt_9 ?_
    refine lv_topi (fun x_2 ex_2 => ?_)
    have h_3 : rg x_2 0 624 := rg_of_eq ex_2 (rg_mul (rg_k (16 : Int32) 16 rfl) h_a0 (by decide))
    have uh_3 := h_3.1
    have vh_3 := h_3.2
    have tx_2 : (x_2).toInt = 16 * (a0).toInt := by rw [ex_2]; exact i_mul_rg (a2 := 16) (b2 := (a0).toInt) rfl rfl (rg_k (16 : Int32) 16 rfl) h_a0 (by decide)
    refine lv_iadd hx hb dX12_cellAt_10 ?_
    refine lv_topi (fun x_4 ex_4 => ?_)
    have h_5 : rg x_4 100 724 := rg_of_eq ex_4 (rg_add (rg_k (100 : Int32) 100 rfl) h_3 (by decide))
    have uh_5 := h_5.1
    have vh_5 := h_5.2
    have tx_4 : (x_4).toInt = 100 + (x_2).toInt := by rw [ex_4]; exact i_add_rg (a2 := 100) (b2 := (x_2).toInt) rfl rfl (rg_k (100 : Int32) 100 rfl) h_3 (by decide)
    refine lv_iload_n hx hb dX12_cellAt_11 rfl (lv_at hl 2 rfl) ?_
    refine lv_iadd hx hb dX12_cellAt_12 ?_
    refine lv_topi (fun x_6 ex_6 => ?_)
    have h_7 : rg x_6 110 734 := rg_of_eq ex_6 (rg_add h_5 (rg_k (10 : Int32) 10 rfl) (by decide))
    have uh_7 := h_7.1
    have vh_7 := h_7.2
    have tx_6 : (x_6).toInt = (x_4).toInt + 10 := by rw [ex_6]; exact i_add_rg (a2 := (x_4).toInt) (b2 := 10) rfl rfl h_5 (rg_k (10 : Int32) 10 rfl) (by decide)
    refine pl_i hx hb hK hP hL_w_1 hK_w_1 hN_w_1 (rg_in h_7 (by decide)) dX12_cellAt_13 ?_
    refine lv_topi (fun x_8 ex_8 => ?_)
    subst hQ
    exact W.iret (v := x_8) hx hb hr (fun t1 ht hW => ⟨⟨x_8, (σ, I, J, ri, rj, rq), rfl, rfl, by rw [ht]; exact hP, va_K.moved hW.alike hK, hD⟩, hS.F ht⟩) hS.2.2 dX12_cellAt_14
  exact go _ _ _ hP hD hS hl

set_option maxHeartbeats 4000000 in
set_option maxRecDepth 100000 in
theorem s_X12_cellAt_c9 (l : Launch) (D : va_G) (t : pq_T) (σ : pq_S) (I : Nat → Nat → Int32) (J : Nat → Nat → Int64) (ri : Nat → Nat → Int32) (rj : Nat → Nat → Int64) (rq : Nat → Nat → Option Nat) (sz : Nat) (tg : Nat → Nat) (hSH : SH σ tg) (hG0 : GT tg I ri) (this : Nat) (a0 : Int32) (hL_this : this ∈ σ.1) (hK_this : σ.2.1 this = 12) (h_a0 : rg a0 0 39) : MetI l yX12_cellAt (wa yX12_cellAt cX12_cellAt 3 (some .int)) ({ frames := 0, cells := 0, slots := 0, locals := 0 }) [.ref this, .int a0, .int 9] D t σ (I, J, ri, rj, rq) sz 0 0 (fun (r : Int32) (u : pq_S × pq_M) => u = (σ, I, J, ri, rj, rq)) := by
  refine Met.ofW (cc := cX12_cellAt) (maxL := 3) (ret := (some .int)) (by decide) rfl ?_
  intro p e s m args below meth c s₁ B hml hv
  obtain ⟨rfl, hsz, hP, hK, hD0, hN⟩ := hv
  have hx := B.exec
  have hb := B.bytes
  have hr := B.returns
  have hts := atoms_spec (ws := (wa yX12_cellAt cX12_cellAt 3 (some .int))) B.pre
  have hown : s.vm.findClass RX12 = some m.cls := findClass_of_methodNamed B.named
  have hlocks := B.notSynchronized
  subst hsz
  have hD : va_D (pq_B t σ (I, J, ri, rj, rq) s.heap.size) (pq_P t σ (I, J, ri, rj, rq)) := hD0.self
  generalize hAe : pq_B t σ (I, J, ri, rj, rq) s.heap.size = A at hD ⊢
  have hA : ∀ q : Nat, s.heap.size ≤ q → A q := fun q h => by rw [← hAe]; exact Or.inr h
  have hS : va_S A s.heap s.heap [] := va_S.rf
  have hG : GM [] tg σ I ri I ri rq := ⟨hG0, fun _ _ _ => rfl, fun _ _ _ _ _ => rfl, fun _ _ _ _ _ _ => rfl⟩
  have hl := lv_entry ([.ref this, .int a0, .int 9]) (n := 3) (Nat.le_of_ble_eq_true rfl)
  rw [lg_entry_eq]
  generalize (lg_sl ([.ref this, .int a0, .int 9]) ++ List.replicate (3 - (lg_sl ([.ref this, .int a0, .int 9])).length) Slot.unset).toArray = ls at hl ⊢
  have hl : lv_has ls 3 [(0, .ref this), (1, .int a0), (2, .int 9)] := hl
  refine q_gen (fun Q hQ => ?_)
  have go : ∀ (H : Heap) (locs : List Loc) (ls : Array Slot), va_P D vwCl (pq_P t σ (I, J, ri, rj, rq)) H → va_D A (pq_P t σ (I, J, ri, rj, rq)) → va_S A s.heap H locs → lv_has ls 3 [(0, .ref this), (1, .int a0), (2, .int 9)] → W p l e ({ frames := 0, cells := 0, slots := 0, locals := 0 } : Room) s m (List.toArray ([.ref this, .int a0, .int 9] : List Value)) below meth c H locs 0 0 Q (F0 m 0 ls []) := by
    intro H locs ls hP hD hS hl
    refine lv_aload_n hx hb dX12_cellAt_0 rfl (lv_at hl 0 rfl) ?_
    obtain ⟨w_1, hR_w_1, hL_w_1, hK_w_1, hN_w_1, hT_w_1⟩ := sh_a hSH 384 (ci := 12) (kd := 13) (len := 12720) rfl (by decide) hL_this hK_this
    refine pg_f (v := .ref w_1) (C := RX12) (T := TX12) (N := 31) hx hb hts (tw_i inlX12) hown hK hP hL_this hK_this (by decide) rfl 0 (by decide) (hts _ (tw_c tw_176)) (pq_hv rfl hR_w_1) dX12_cellAt_1 ?_
    refine lv_bipush (v := 100) hx hb dX12_cellAt_4 (by decide) ?_
    refine lv_bipush (v := 16) hx hb dX12_cellAt_6 (by decide) ?_
    refine lv_iload_n hx hb dX12_cellAt_8 rfl (lv_at hl 1 rfl) ?_
    refine lv_imul hx hb dX12_cellAt_9 ?_
    refine lv_topi (fun x_2 ex_2 => ?_)
    have h_3 : rg x_2 0 624 := rg_of_eq ex_2 (rg_mul (rg_k (16 : Int32) 16 rfl) h_a0 (by decide))
    have uh_3 := h_3.1
    have vh_3 := h_3.2
    have tx_2 : (x_2).toInt = 16 * (a0).toInt := by rw [ex_2]; exact i_mul_rg (a2 := 16) (b2 := (a0).toInt) rfl rfl (rg_k (16 : Int32) 16 rfl) h_a0 (by decide)
    refine lv_iadd hx hb dX12_cellAt_10 ?_
    refine lv_topi (fun x_4 ex_4 => ?_)
    have h_5 : rg x_4 100 724 := rg_of_eq ex_4 (rg_add (rg_k (100 : Int32) 100 rfl) h_3 (by decide))
    have uh_5 := h_5.1
    have vh_5 := h_5.2
    have tx_4 : (x_4).toInt = 100 + (x_2).toInt := by rw [ex_4]; exact i_add_rg (a2 := 100) (b2 := (x_2).toInt) rfl rfl (rg_k (100 : Int32) 100 rfl) h_3 (by decide)
    refine lv_iload_n hx hb dX12_cellAt_11 rfl (lv_at hl 2 rfl) ?_
    refine lv_iadd hx hb dX12_cellAt_12 ?_
    refine lv_topi (fun x_6 ex_6 => ?_)
    have h_7 : rg x_6 109 733 := rg_of_eq ex_6 (rg_add h_5 (rg_k (9 : Int32) 9 rfl) (by decide))
    have uh_7 := h_7.1
    have vh_7 := h_7.2
    have tx_6 : (x_6).toInt = (x_4).toInt + 9 := by rw [ex_6]; exact i_add_rg (a2 := (x_4).toInt) (b2 := 9) rfl rfl h_5 (rg_k (9 : Int32) 9 rfl) (by decide)
    refine pl_i hx hb hK hP hL_w_1 hK_w_1 hN_w_1 (rg_in h_7 (by decide)) dX12_cellAt_13 ?_
    refine lv_topi (fun x_8 ex_8 => ?_)
    subst hQ
    exact W.iret (v := x_8) hx hb hr (fun t1 ht hW => ⟨⟨x_8, (σ, I, J, ri, rj, rq), rfl, rfl, by rw [ht]; exact hP, va_K.moved hW.alike hK, hD⟩, hS.F ht⟩) hS.2.2 dX12_cellAt_14
  exact go _ _ _ hP hD hS hl

set_option maxHeartbeats 4000000 in
set_option maxRecDepth 100000 in
theorem s_X12_isSweet (l : Launch) (D : va_G) (t : pq_T) (σ : pq_S) (I : Nat → Nat → Int32) (J : Nat → Nat → Int64) (ri : Nat → Nat → Int32) (rj : Nat → Nat → Int64) (rq : Nat → Nat → Option Nat) (sz : Nat) (tg : Nat → Nat) (hSH : SH σ tg) (hG0 : GT tg I ri) (this : Nat) (a0 : Int32) (a1 : Int32) (hL_this : this ∈ σ.1) (hK_this : σ.2.1 this = 12) (h_a0 : rg a0 0 39) : MetI l yX12_isSweet (wa yX12_isSweet cX12_isSweet 3 (some .boolean)) ({ frames := 1, cells := 0, slots := 0, locals := 22 }) [.ref this, .int a0, .int a1] D t σ (I, J, ri, rj, rq) sz 0 0 (fun (r : Int32) (u : pq_S × pq_M) => u = (σ, I, J, ri, rj, rq) ∧ ((r = 1 ∧ True) ∨ (r = 0 ∧ True))) := by
  refine Met.ofW (cc := cX12_isSweet) (maxL := 3) (ret := (some .boolean)) (by decide) rfl ?_
  intro p e s m args below meth c s₁ B hml hv
  obtain ⟨rfl, hsz, hP, hK, hD0, hN⟩ := hv
  have hx := B.exec
  have hb := B.bytes
  have hr := B.returns
  have hts := atoms_spec (ws := (wa yX12_isSweet cX12_isSweet 3 (some .boolean))) B.pre
  have hown : s.vm.findClass RX12 = some m.cls := findClass_of_methodNamed B.named
  have hlocks := B.notSynchronized
  subst hsz
  have hD : va_D (pq_B t σ (I, J, ri, rj, rq) s.heap.size) (pq_P t σ (I, J, ri, rj, rq)) := hD0.self
  generalize hAe : pq_B t σ (I, J, ri, rj, rq) s.heap.size = A at hD ⊢
  have hA : ∀ q : Nat, s.heap.size ≤ q → A q := fun q h => by rw [← hAe]; exact Or.inr h
  have hS : va_S A s.heap s.heap [] := va_S.rf
  have hG : GM [] tg σ I ri I ri rq := ⟨hG0, fun _ _ _ => rfl, fun _ _ _ _ _ => rfl, fun _ _ _ _ _ _ => rfl⟩
  have hl := lv_entry ([.ref this, .int a0, .int a1]) (n := 3) (Nat.le_of_ble_eq_true rfl)
  rw [lg_entry_eq]
  generalize (lg_sl ([.ref this, .int a0, .int a1]) ++ List.replicate (3 - (lg_sl ([.ref this, .int a0, .int a1])).length) Slot.unset).toArray = ls at hl ⊢
  have hl : lv_has ls 3 [(0, .ref this), (1, .int a0), (2, .int a1)] := hl
  refine q_gen (fun Q hQ => ?_)
  have go : ∀ (H : Heap) (locs : List Loc) (ls : Array Slot), va_P D vwCl (pq_P t σ (I, J, ri, rj, rq)) H → va_D A (pq_P t σ (I, J, ri, rj, rq)) → va_S A s.heap H locs → lv_has ls 3 [(0, .ref this), (1, .int a0), (2, .int a1)] → W p l e ({ frames := 1, cells := 0, slots := 0, locals := 22 } : Room) s m (List.toArray ([.ref this, .int a0, .int a1] : List Value)) below meth c H locs 0 0 Q (F0 m 0 ls []) := by
    intro H locs ls hP hD hS hl
    refine lv_aload_n hx hb dX12_isSweet_0 rfl (lv_at hl 0 rfl) ?_
    refine lv_iload_n hx hb dX12_isSweet_1 rfl (lv_at hl 1 rfl) ?_
    refine lv_iconst (v := 0) hx hb dX12_isSweet_2 (by decide) ?_
    refine pk_i (va_runV (As := [.int a0, .int 0]) (rest := []) ⟨hx, hb, hml, hown, hts⟩ (s_X12_cellAt_c0 l D t σ I J ri rj rq H.size tg hSH hG.1 this a0 hL_this hK_this (rg_w h_a0 (by decide))) (cwV 2 hts (tw_V tw_361 tw_362 tw_363 tw_5 tw_364) rfl rfl rfl cv_yX12_cellAt_2 ⟨Nat.le_of_ble_eq_true rfl, Nat.le_of_ble_eq_true rfl⟩) ⟨pq_blind, pq_recv hK hP hL_this hK_this (by decide) rfl, pq_pre hK hN hP hD⟩ rfl rfl hl.1 rfl (lv_room (Nat.le_of_ble_eq_true rfl)) dX12_isSweet_3 ⟨Nat.le_of_ble_eq_true rfl, Nat.le_of_ble_eq_true rfl⟩) hD hS hA (fun x_1 σ1 μ1 H locs hw_2 hP hD hS => ?_)
    have hu_3 := hw_2
    obtain ⟨hu_3a, hu_3b⟩ := Prod.mk.inj hu_3
    rw [hu_3a, hu_3b] at hP hD
    refine lv_iload_n hx hb dX12_isSweet_6 rfl (lv_at hl 2 rfl) ?_
    have K_39 : ∀  (H : Heap) (locs : List Loc) (ls : Array Slot), GM [] tg σ I ri I ri rq → va_P D vwCl (pq_P t σ (I, J, ri, rj, rq)) H → va_D A (pq_P t σ (I, J, ri, rj, rq)) → va_S A s.heap H locs → lv_has ls 3 [] → W p l e ({ frames := 1, cells := 0, slots := 0, locals := 22 } : Room) s m (List.toArray ([.ref this, .int a0, .int a1] : List Value)) below meth c H locs 0 0 Q (F0 m 48 ls []) := by
      intro H locs ls hG hP hD hS hl
      refine lv_iconst (v := 0) hx hb dX12_isSweet_48 (by decide) ?_
      subst hQ
      exact W.zret (v := 0) hx hb hr (by decide) (fun t1 ht hW => ⟨⟨0, (σ, I, J, ri, rj, rq), rfl, ⟨rfl, (Or.inr ⟨rfl, trivial⟩)⟩, by rw [ht]; exact hP, va_K.moved hW.alike hK, hD⟩, hS.F ht⟩) hS.2.2 dX12_isSweet_49
    refine lv_icmp_ne (tgt := 48) hx hb dX12_isSweet_7 (by decide) (fun c_40 => ?_) (fun c_40 => ?_)
    · have tc_41 : (x_1).toInt ≠ (a1).toInt := fun q => c_40 (Int32.toInt_inj.mp q)
      exact K_39 _ _ _ hG hP hD hS (lv_sub hl [] rfl)
    · have tc_42 : (x_1).toInt = (a1).toInt := congrArg Int32.toInt c_40
      refine lv_aload_n hx hb dX12_isSweet_10 rfl (lv_at hl 0 rfl) ?_
      refine lv_iload_n hx hb dX12_isSweet_11 rfl (lv_at hl 1 rfl) ?_
      refine lv_bipush (v := 8) hx hb dX12_isSweet_12 (by decide) ?_
      refine pk_i (va_runV (As := [.int a0, .int 8]) (rest := []) ⟨hx, hb, hml, hown, hts⟩ (s_X12_cellAt_c8 l D t σ I J ri rj rq H.size tg hSH hG.1 this a0 hL_this hK_this (rg_w h_a0 (by decide))) (cwV 2 hts (tw_V tw_361 tw_362 tw_363 tw_5 tw_364) rfl rfl rfl cv_yX12_cellAt_2 ⟨Nat.le_of_ble_eq_true rfl, Nat.le_of_ble_eq_true rfl⟩) ⟨pq_blind, pq_recv hK hP hL_this hK_this (by decide) rfl, pq_pre hK hN hP hD⟩ rfl rfl hl.1 rfl (lv_room (Nat.le_of_ble_eq_true rfl)) dX12_isSweet_14 ⟨Nat.le_of_ble_eq_true rfl, Nat.le_of_ble_eq_true rfl⟩) hD hS hA (fun x_43 σ1 μ1 H locs hw_44 hP hD hS => ?_)
      have hu_45 := hw_44
      obtain ⟨hu_45a, hu_45b⟩ := Prod.mk.inj hu_45
      rw [hu_45a, hu_45b] at hP hD
      refine lv_if_le (tgt := 48) hx hb dX12_isSweet_17 (by decide) (fun c_48 => ?_) (fun c_48 => ?_)
      · have tc_49 : (x_43).toInt ≤ 0 := Int32.le_iff_toInt_le.mp c_48
        have h_50 : rg x_43 (-2147483648) 0 := rg_le1 c_48 (rg_full _) (rg_k (0 : Int32) 0 rfl) (by decide)
        have uh_50 := h_50.1
        have vh_50 := h_50.2
        exact K_39 _ _ _ hG hP hD hS (lv_sub hl [] rfl)
      · have tc_51 : 0 < (x_43).toInt := Int32.lt_iff_toInt_lt.mp (nle c_48)
        have h_52 : rg x_43 1 2147483647 := rg_lt2 (nle c_48) (rg_k (0 : Int32) 0 rfl) (rg_full _) (by decide)
        have uh_52 := h_52.1
        have vh_52 := h_52.2
        refine lv_aload_n hx hb dX12_isSweet_20 rfl (lv_at hl 0 rfl) ?_
        refine lv_iload_n hx hb dX12_isSweet_21 rfl (lv_at hl 1 rfl) ?_
        refine lv_bipush (v := 10) hx hb dX12_isSweet_22 (by decide) ?_
        refine pk_i (va_runV (As := [.int a0, .int 10]) (rest := []) ⟨hx, hb, hml, hown, hts⟩ (s_X12_cellAt_c10 l D t σ I J ri rj rq H.size tg hSH hG.1 this a0 hL_this hK_this (rg_w h_a0 (by decide))) (cwV 2 hts (tw_V tw_361 tw_362 tw_363 tw_5 tw_364) rfl rfl rfl cv_yX12_cellAt_2 ⟨Nat.le_of_ble_eq_true rfl, Nat.le_of_ble_eq_true rfl⟩) ⟨pq_blind, pq_recv hK hP hL_this hK_this (by decide) rfl, pq_pre hK hN hP hD⟩ rfl rfl hl.1 rfl (lv_room (Nat.le_of_ble_eq_true rfl)) dX12_isSweet_24 ⟨Nat.le_of_ble_eq_true rfl, Nat.le_of_ble_eq_true rfl⟩) hD hS hA (fun x_53 σ1 μ1 H locs hw_54 hP hD hS => ?_)
        have hu_55 := hw_54
        obtain ⟨hu_55a, hu_55b⟩ := Prod.mk.inj hu_55
        rw [hu_55a, hu_55b] at hP hD
        refine lv_bipush (v := 20) hx hb dX12_isSweet_27 (by decide) ?_
        refine lv_icmp_gt (tgt := 48) hx hb dX12_isSweet_29 (by decide) (fun c_58 => ?_) (fun c_58 => ?_)
        · have tc_59 : 20 < (x_53).toInt := Int32.lt_iff_toInt_lt.mp c_58
          have h_60 : rg x_53 21 2147483647 := rg_lt2 c_58 (rg_k (20 : Int32) 20 rfl) (rg_full _) (by decide)
          have uh_60 := h_60.1
          have vh_60 := h_60.2
          exact K_39 _ _ _ hG hP hD hS (lv_sub hl [] rfl)
        · have tc_61 : (x_53).toInt ≤ 20 := Int32.le_iff_toInt_le.mp (nlt c_58)
          have h_62 : rg x_53 (-2147483648) 20 := rg_le1 (nlt c_58) (rg_full _) (rg_k (20 : Int32) 20 rfl) (by decide)
          have uh_62 := h_62.1
          have vh_62 := h_62.2
          refine lv_aload_n hx hb dX12_isSweet_32 rfl (lv_at hl 0 rfl) ?_
          refine lv_iload_n hx hb dX12_isSweet_33 rfl (lv_at hl 1 rfl) ?_
          refine lv_bipush (v := 9) hx hb dX12_isSweet_34 (by decide) ?_
          refine pk_i (va_runV (As := [.int a0, .int 9]) (rest := []) ⟨hx, hb, hml, hown, hts⟩ (s_X12_cellAt_c9 l D t σ I J ri rj rq H.size tg hSH hG.1 this a0 hL_this hK_this (rg_w h_a0 (by decide))) (cwV 2 hts (tw_V tw_361 tw_362 tw_363 tw_5 tw_364) rfl rfl rfl cv_yX12_cellAt_2 ⟨Nat.le_of_ble_eq_true rfl, Nat.le_of_ble_eq_true rfl⟩) ⟨pq_blind, pq_recv hK hP hL_this hK_this (by decide) rfl, pq_pre hK hN hP hD⟩ rfl rfl hl.1 rfl (lv_room (Nat.le_of_ble_eq_true rfl)) dX12_isSweet_36 ⟨Nat.le_of_ble_eq_true rfl, Nat.le_of_ble_eq_true rfl⟩) hD hS hA (fun x_63 σ1 μ1 H locs hw_64 hP hD hS => ?_)
          have hu_65 := hw_64
          obtain ⟨hu_65a, hu_65b⟩ := Prod.mk.inj hu_65
          rw [hu_65a, hu_65b] at hP hD
          refine lv_bipush (v := 10) hx hb dX12_isSweet_39 (by decide) ?_
          refine lv_icmp_lt (tgt := 48) hx hb dX12_isSweet_41 (by decide) (fun c_68 => ?_) (fun c_68 => ?_)
          · have tc_69 : (x_63).toInt < 10 := Int32.lt_iff_toInt_lt.mp c_68
            have h_70 : rg x_63 (-2147483648) 9 := rg_lt1 c_68 (rg_full _) (rg_k (10 : Int32) 10 rfl) (by decide)
            have uh_70 := h_70.1
            have vh_70 := h_70.2
            exact K_39 _ _ _ hG hP hD hS (lv_sub hl [] rfl)
          · have tc_71 : 10 ≤ (x_63).toInt := Int32.le_iff_toInt_le.mp (nlt c_68)
            have h_72 : rg x_63 10 2147483647 := rg_le2 (nlt c_68) (rg_k (10 : Int32) 10 rfl) (rg_full _) (by decide)
            have uh_72 := h_72.1
            have vh_72 := h_72.2
            refine lv_iconst (v := 1) hx hb dX12_isSweet_44 (by decide) ?_
            refine lv_goto (tgt := 49) hx hb dX12_isSweet_45 (by decide) ?_
            subst hQ
            exact W.zret (v := 1) hx hb hr (by decide) (fun t1 ht hW => ⟨⟨1, (σ, I, J, ri, rj, rq), rfl, ⟨rfl, (Or.inl ⟨rfl, trivial⟩)⟩, by rw [ht]; exact hP, va_K.moved hW.alike hK, hD⟩, hS.F ht⟩) hS.2.2 dX12_isSweet_49
  exact go _ _ _ hP hD hS hl

set_option maxHeartbeats 4000000 in
set_option maxRecDepth 100000 in
theorem s_X12_isOnRing (l : Launch) (D : va_G) (t : pq_T) (σ : pq_S) (I : Nat → Nat → Int32) (J : Nat → Nat → Int64) (ri : Nat → Nat → Int32) (rj : Nat → Nat → Int64) (rq : Nat → Nat → Option Nat) (sz : Nat) (tg : Nat → Nat) (hSH : SH σ tg) (hG0 : GT tg I ri) (this : Nat) (a0 : Int32) (hL_this : this ∈ σ.1) (hK_this : σ.2.1 this = 12) (h_a0 : rg a0 0 39) (this_a : Nat) (hR_this_a : σ.2.2.1 384 this = some this_a) (hL_this_a : this_a ∈ σ.1) (hK_this_a : σ.2.1 this_a = 13) (hN_this_a : σ.2.2.2 this_a = 12720) (hT_this_a : tg this_a = 384) : MetI l yX12_isOnRing (wa yX12_isOnRing cX12_isOnRing 2 (some .boolean)) ({ frames := 1, cells := 0, slots := 0, locals := 22 }) [.ref this, .int a0] D t σ (I, J, ri, rj, rq) sz 0 0 (fun (r : Int32) (u : pq_S × pq_M) => u = (σ, I, J, ri, rj, rq) ∧ ((r = 1 ∧ rg (ri this_a (743 + 12 * (a0).toNatClampNeg)) 0 4) ∨ (r = 0 ∧ True))) := by
  refine Met.ofW (cc := cX12_isOnRing) (maxL := 2) (ret := (some .boolean)) (by decide) rfl ?_
  intro p e s m args below meth c s₁ B hml hv
  obtain ⟨rfl, hsz, hP, hK, hD0, hN⟩ := hv
  have hx := B.exec
  have hb := B.bytes
  have hr := B.returns
  have hts := atoms_spec (ws := (wa yX12_isOnRing cX12_isOnRing 2 (some .boolean))) B.pre
  have hown : s.vm.findClass RX12 = some m.cls := findClass_of_methodNamed B.named
  have hlocks := B.notSynchronized
  subst hsz
  have hD : va_D (pq_B t σ (I, J, ri, rj, rq) s.heap.size) (pq_P t σ (I, J, ri, rj, rq)) := hD0.self
  generalize hAe : pq_B t σ (I, J, ri, rj, rq) s.heap.size = A at hD ⊢
  have hA : ∀ q : Nat, s.heap.size ≤ q → A q := fun q h => by rw [← hAe]; exact Or.inr h
  have hS : va_S A s.heap s.heap [] := va_S.rf
  have hG : GM [] tg σ I ri I ri rq := ⟨hG0, fun _ _ _ => rfl, fun _ _ _ _ _ => rfl, fun _ _ _ _ _ _ => rfl⟩
  have hl := lv_entry ([.ref this, .int a0]) (n := 2) (Nat.le_of_ble_eq_true rfl)
  rw [lg_entry_eq]
  generalize (lg_sl ([.ref this, .int a0]) ++ List.replicate (2 - (lg_sl ([.ref this, .int a0])).length) Slot.unset).toArray = ls at hl ⊢
  have hl : lv_has ls 2 [(0, .ref this), (1, .int a0)] := hl
  refine q_gen (fun Q hQ => ?_)
  have go : ∀ (H : Heap) (locs : List Loc) (ls : Array Slot), va_P D vwCl (pq_P t σ (I, J, ri, rj, rq)) H → va_D A (pq_P t σ (I, J, ri, rj, rq)) → va_S A s.heap H locs → lv_has ls 2 [(0, .ref this), (1, .int a0)] → W p l e ({ frames := 1, cells := 0, slots := 0, locals := 22 } : Room) s m (List.toArray ([.ref this, .int a0] : List Value)) below meth c H locs 0 0 Q (F0 m 0 ls []) := by
    intro H locs ls hP hD hS hl
    refine lv_aload_n hx hb dX12_isOnRing_0 rfl (lv_at hl 0 rfl) ?_
    refine lv_iload_n hx hb dX12_isOnRing_1 rfl (lv_at hl 1 rfl) ?_
    refine lv_iconst (v := 3) hx hb dX12_isOnRing_2 (by decide) ?_
    refine pk_i (va_runV (As := [.int a0, .int 3]) (rest := []) ⟨hx, hb, hml, hown, hts⟩ (s_X12_personAt_c3 l D t σ I J ri rj rq H.size tg hSH hG.1 this a0 hL_this hK_this (rg_w h_a0 (by decide)) this_a hR_this_a hL_this_a hK_this_a hN_this_a hT_this_a) (cwV 2 hts (tw_V tw_437 tw_438 tw_439 tw_5 tw_440) rfl rfl rfl cv_yX12_personAt_2 ⟨Nat.le_of_ble_eq_true rfl, Nat.le_of_ble_eq_true rfl⟩) ⟨pq_blind, pq_recv hK hP hL_this hK_this (by decide) rfl, pq_pre hK hN hP hD⟩ rfl rfl hl.1 rfl (lv_room (Nat.le_of_ble_eq_true rfl)) dX12_isOnRing_3 ⟨Nat.le_of_ble_eq_true rfl, Nat.le_of_ble_eq_true rfl⟩) hD hS hA (fun x_1 σ1 μ1 H locs hw_2 hP hD hS => ?_)
    obtain ⟨hu_3, hp_6, hp_7, hr_5⟩ := hw_2
    obtain ⟨hu_3a, hu_3b⟩ := Prod.mk.inj hu_3
    rw [hu_3a, hu_3b] at hP hD
    have tt_8 := hp_7
    refine lv_bipush (v := 100) hx hb dX12_isOnRing_6 (by decide) ?_
    refine lv_icmp_ge (tgt := 15) hx hb dX12_isOnRing_8 (by decide) (fun c_9 => ?_) (fun c_9 => ?_)
    · have tc_10 : 100 ≤ (x_1).toInt := Int32.le_iff_toInt_le.mp c_9
      have h_11 : rg x_1 100 300 := rg_le2 c_9 (rg_k (100 : Int32) 100 rfl) hr_5 (by decide)
      have uh_11 := h_11.1
      have vh_11 := h_11.2
      refine lv_iconst (v := 0) hx hb dX12_isOnRing_15 (by decide) ?_
      subst hQ
      exact W.zret (v := 0) hx hb hr (by decide) (fun t1 ht hW => ⟨⟨0, (σ, I, J, ri, rj, rq), rfl, ⟨rfl, (Or.inr ⟨rfl, trivial⟩)⟩, by rw [ht]; exact hP, va_K.moved hW.alike hK, hD⟩, hS.F ht⟩) hS.2.2 dX12_isOnRing_16
    · have tc_12 : (x_1).toInt < 100 := Int32.lt_iff_toInt_lt.mp (nle c_9)
      have h_13 : rg x_1 0 99 := rg_lt1 (nle c_9) hr_5 (rg_k (100 : Int32) 100 rfl) (by decide)
      have uh_13 := h_13.1
      have vh_13 := h_13.2
      refine lv_iconst (v := 1) hx hb dX12_isOnRing_11 (by decide) ?_
      refine lv_goto (tgt := 16) hx hb dX12_isOnRing_12 (by decide) ?_
      subst hQ
      exact W.zret (v := 1) hx hb hr (by decide) (fun t1 ht hW => ⟨⟨1, (σ, I, J, ri, rj, rq), rfl, ⟨rfl, (Or.inl ⟨rfl, (rg_of_eq hp_6.symm ⟨by omega, by omega⟩)⟩)⟩, by rw [ht]; exact hP, va_K.moved hW.alike hK, hD⟩, hS.F ht⟩) hS.2.2 dX12_isOnRing_16
  exact go _ _ _ hP hD hS hl

set_option maxHeartbeats 4000000 in
set_option maxRecDepth 100000 in
theorem s_X12_drink (l : Launch) (D : va_G) (t : pq_T) (σ : pq_S) (I : Nat → Nat → Int32) (J : Nat → Nat → Int64) (ri : Nat → Nat → Int32) (rj : Nat → Nat → Int64) (rq : Nat → Nat → Option Nat) (sz : Nat) (tg : Nat → Nat) (hSH : SH σ tg) (hG0 : GT tg I ri) (this : Nat) (hL_this : this ∈ σ.1) (hK_this : σ.2.1 this = 12) : MetV l yX12_drink (wa yX12_drink cX12_drink 3 none) ({ frames := 2, cells := 0, slots := 0, locals := 44 }) [.ref this] D t σ (I, J, ri, rj, rq) sz 0 0 (fun (u : pq_S × pq_M) => ∃ ri' : Nat → Nat → Int32, u = (σ, I, J, ri', rj, rq) ∧ GM [] tg σ I ri I ri' rq) := by
  refine Met.ofW (cc := cX12_drink) (maxL := 3) (ret := none) (by decide) rfl ?_
  intro p e s m args below meth c s₁ B hml hv
  obtain ⟨rfl, hsz, hP, hK, hD0, hN⟩ := hv
  have hx := B.exec
  have hb := B.bytes
  have hr := B.returns
  have hts := atoms_spec (ws := (wa yX12_drink cX12_drink 3 none)) B.pre
  have hown : s.vm.findClass RX12 = some m.cls := findClass_of_methodNamed B.named
  have hlocks := B.notSynchronized
  subst hsz
  have hD : va_D (pq_B t σ (I, J, ri, rj, rq) s.heap.size) (pq_P t σ (I, J, ri, rj, rq)) := hD0.self
  generalize hAe : pq_B t σ (I, J, ri, rj, rq) s.heap.size = A at hD ⊢
  have hA : ∀ q : Nat, s.heap.size ≤ q → A q := fun q h => by rw [← hAe]; exact Or.inr h
  have hS : va_S A s.heap s.heap [] := va_S.rf
  have hG : GM [] tg σ I ri I ri rq := ⟨hG0, fun _ _ _ => rfl, fun _ _ _ _ _ => rfl, fun _ _ _ _ _ _ => rfl⟩
  have hl := lv_entry ([.ref this]) (n := 3) (Nat.le_of_ble_eq_true rfl)
  rw [lg_entry_eq]
  generalize (lg_sl ([.ref this]) ++ List.replicate (3 - (lg_sl ([.ref this])).length) Slot.unset).toArray = ls at hl ⊢
  have hl : lv_has ls 3 [(0, .ref this)] := hl
  refine q_gen (fun Q hQ => ?_)
  have go : ∀ (H : Heap) (locs : List Loc) (ls : Array Slot), va_P D vwCl (pq_P t σ (I, J, ri, rj, rq)) H → va_D A (pq_P t σ (I, J, ri, rj, rq)) → va_S A s.heap H locs → lv_has ls 3 [(0, .ref this)] → W p l e ({ frames := 2, cells := 0, slots := 0, locals := 44 } : Room) s m (List.toArray ([.ref this] : List Value)) below meth c H locs 0 0 Q (F0 m 0 ls []) := by
    intro H locs ls hP hD hS hl
    refine lv_iconst (v := 0) hx hb dX12_drink_0 (by decide) ?_
    refine lv_istore_n (lv' := [(1, .int 0), (0, .ref this)]) hx hb dX12_drink_1 rfl hl (by decide) rfl (fun ls hl => ?_)
    have L_9627 : ∀ (n_9626 : Nat) (x_8878 : Int32) (ri_8879 : Nat → Nat → Int32) (H : Heap) (locs : List Loc) (ls : Array Slot), rg x_8878 0 40 → (40 - (x_8878).toInt).toNat < n_9626 → GM [] tg σ I ri I ri_8879 rq → va_P D vwCl (pq_P t σ (I, J, ri_8879, rj, rq)) H → va_D A (pq_P t σ (I, J, ri_8879, rj, rq)) → va_S A s.heap H locs → lv_has ls 3 [(0, .ref this), (1, .int x_8878)] → W p l e ({ frames := 2, cells := 0, slots := 0, locals := 44 } : Room) s m (List.toArray ([.ref this] : List Value)) below meth c H locs 0 0 Q (F0 m 2 ls []) := by
      intro n_9626
      induction n_9626 with
      | zero => intro x_8878 ri_8879 H locs ls h_9630 hm_9625 hG hP hD hS hl; exact absurd hm_9625 (Nat.not_lt_zero _)
      | succ n_9626 ih_9628 =>
        intro x_8878 ri_8879 H locs ls h_9630 hm_9625 hG hP hD hS hl
        have uh_9630 := h_9630.1
        have vh_9630 := h_9630.2
        refine lv_iload_n hx hb dX12_drink_2 rfl (lv_at hl 1 rfl) ?_
        refine lv_aload_n hx hb dX12_drink_3 rfl (lv_at hl 0 rfl) ?_
        obtain ⟨w_9631, hR_w_9631, hL_w_9631, hK_w_9631, hN_w_9631, hT_w_9631⟩ := sh_a hSH 384 (ci := 12) (kd := 13) (len := 12720) rfl (by decide) hL_this hK_this
        refine pg_f (v := .ref w_9631) (C := RX12) (T := TX12) (N := 31) hx hb hts (tw_i inlX12) hown hK hP hL_this hK_this (by decide) rfl 0 (by decide) (hts _ (tw_c tw_176)) (pq_hv rfl hR_w_9631) dX12_drink_4 ?_
        refine lv_iconst (v := 5) hx hb dX12_drink_7 (by decide) ?_
        refine pl_i hx hb hK hP hL_w_9631 hK_w_9631 hN_w_9631 (vp_in_iff.mpr (by decide)) dX12_drink_8 ?_
        refine lv_tov (ri w_9631 5) (hG.2.2.1 w_9631 hT_w_9631 5 (by decide) (by decide)) ?_
        have h_9632 : rg (ri w_9631 5) 0 40 := GM.z0 hG0 (by rw [hT_w_9631]; decide) (i := 5) (k := 5) (by decide) rfl
        have uh_9632 := h_9632.1
        have vh_9632 := h_9632.2
        refine lv_icmp_ge (tgt := 113) hx hb dX12_drink_9 (by decide) (fun c_9633 => ?_) (fun c_9633 => ?_)
        · have tc_9634 : (ri w_9631 5).toInt ≤ (x_8878).toInt := Int32.le_iff_toInt_le.mp c_9633
          subst hQ
          exact W.vret hx hb hr (fun t1 ht hW => ⟨⟨(σ, I, J, ri_8879, rj, rq), rfl, ⟨ri_8879, rfl, hG⟩, by rw [ht]; exact hP, va_K.moved hW.alike hK, hD⟩, hS.F ht⟩) hS.2.2 dX12_drink_113
        · have tc_9635 : (x_8878).toInt < (ri w_9631 5).toInt := Int32.lt_iff_toInt_lt.mp (nle c_9633)
          have h_9636 : rg x_8878 0 39 := rg_lt1 (nle c_9633) h_9630 h_9632 (by decide)
          have uh_9636 := h_9636.1
          have vh_9636 := h_9636.2
          have h_9637 : rg (ri w_9631 5) 1 40 := rg_lt2 (nle c_9633) h_9630 h_9632 (by decide)
          have uh_9637 := h_9637.1
          have vh_9637 := h_9637.2
          refine lv_aload_n hx hb dX12_drink_12 rfl (lv_at hl 0 rfl) ?_
          refine lv_iload_n hx hb dX12_drink_13 rfl (lv_at hl 1 rfl) ?_
          refine pk_i (va_runV (As := [.int x_8878]) (rest := []) ⟨hx, hb, hml, hown, hts⟩ (s_X12_isOnRing l D t σ I J ri_8879 rj rq H.size tg hSH hG.1 this x_8878 hL_this hK_this (rg_w h_9636 (by decide)) w_9631 hR_w_9631 hL_w_9631 hK_w_9631 hN_w_9631 hT_w_9631) (cwV 1 hts (tw_V tw_1221 tw_1222 tw_1223 tw_5 tw_1224) rfl rfl rfl cv_yX12_isOnRing_1 ⟨Nat.le_of_ble_eq_true rfl, Nat.le_of_ble_eq_true rfl⟩) ⟨pq_blind, pq_recv hK hP hL_this hK_this (by decide) rfl, pq_pre hK hN hP hD⟩ rfl rfl hl.1 rfl (lv_room (Nat.le_of_ble_eq_true rfl)) dX12_drink_14 ⟨Nat.le_of_ble_eq_true rfl, Nat.le_of_ble_eq_true rfl⟩) hD hS hA (fun x_9638 σ1 μ1 H locs hw_9639 hP hD hS => ?_)
          obtain ⟨hu_9640, hr_9642⟩ := hw_9639
          obtain ⟨hu_9640a, hu_9640b⟩ := Prod.mk.inj hu_9640
          rw [hu_9640a, hu_9640b] at hP hD
          have h_9643 : rg x_9638 0 1 := by rcases hr_9642 with ⟨q, -⟩ | ⟨q, -⟩ <;> rw [q] <;> exact ⟨by decide, by decide⟩
          have uh_9643 := h_9643.1
          have vh_9643 := h_9643.2
          have K_10375 : ∀  (ri_10372 : Nat → Nat → Int32) (H : Heap) (locs : List Loc) (ls : Array Slot), GM [] tg σ I ri I ri_10372 rq → va_P D vwCl (pq_P t σ (I, J, ri_10372, rj, rq)) H → va_D A (pq_P t σ (I, J, ri_10372, rj, rq)) → va_S A s.heap H locs → lv_has ls 3 [(0, .ref this), (1, .int x_8878)] → W p l e ({ frames := 2, cells := 0, slots := 0, locals := 44 } : Room) s m (List.toArray ([.ref this] : List Value)) below meth c H locs 0 0 Q (F0 m 107 ls []) := by
            intro ri_10372 H locs ls hG hP hD hS hl
            obtain ⟨x_10376, ex_10376⟩ : ∃ y : Int32, y = x_8878 + Int32.ofInt 1 := ⟨_, rfl⟩
            have h_10377 : rg x_10376 1 40 := rg_of_eq ex_10376 (rg_add h_9636 (rg_k (Int32.ofInt 1) 1 rfl) (by decide))
            have uh_10377 := h_10377.1
            have vh_10377 := h_10377.2
            have tx_10376 : (x_10376).toInt = (x_8878).toInt + 1 := by rw [ex_10376]; exact i_add_rg (a2 := (x_8878).toInt) (b2 := 1) rfl rfl h_9636 (rg_k (Int32.ofInt 1) 1 rfl) (by decide)
            refine lv_iinc (v := x_10376) (lv' := [(1, .int x_10376), (0, .ref this)]) hx hb dX12_drink_107 hl (k := 1) rfl ex_10376.symm (by decide) rfl (fun ls hl => ?_)
            refine lv_goto (tgt := 2) hx hb dX12_drink_110 (by decide) ?_
            exact ih_9628 x_10376 ri_10372 _ _ _ (rg_w h_10377 (by decide)) (ms_up 1 hm_9625 ex_10376 rfl (by decide) h_9636 (by decide) (by decide)) hG hP hD hS (lv_sub hl [1, 0] rfl)
          refine lv_if_ne (tgt := 23) hx hb dX12_drink_17 (by decide) (fun c_10378 => ?_) (fun c_10378 => ?_)
          · have f_10379 := (hr_9642.resolve_right (fun q => c_10378 q.1)).2
            have tc_10380 : (x_9638).toInt ≠ 0 := fun q => c_10378 (Int32.toInt_inj.mp q)
            have h_10381 : rg x_9638 1 1 := rg_ne c_10378 h_9643 0 rfl (by decide)
            have uh_10381 := h_10381.1
            have vh_10381 := h_10381.2
            refine lv_iconst (v := 0) hx hb dX12_drink_23 (by decide) ?_
            refine lv_istore_n (lv' := [(2, .int 0), (0, .ref this), (1, .int x_8878)]) hx hb dX12_drink_24 rfl hl (by decide) rfl (fun ls hl => ?_)
            have L_11052 : ∀ (n_11051 : Nat) (x_10998 : Int32) (H : Heap) (locs : List Loc) (ls : Array Slot), rg x_10998 0 40 → (40 - (x_10998).toInt).toNat < n_11051 → GM [] tg σ I ri I ri_8879 rq → va_P D vwCl (pq_P t σ (I, J, ri_8879, rj, rq)) H → va_D A (pq_P t σ (I, J, ri_8879, rj, rq)) → va_S A s.heap H locs → lv_has ls 3 [(0, .ref this), (1, .int x_8878), (2, .int x_10998)] → W p l e ({ frames := 2, cells := 0, slots := 0, locals := 44 } : Room) s m (List.toArray ([.ref this] : List Value)) below meth c H locs 0 0 Q (F0 m 25 ls []) := by
              intro n_11051
              induction n_11051 with
              | zero => intro x_10998 H locs ls h_11055 hm_11050 hG hP hD hS hl; exact absurd hm_11050 (Nat.not_lt_zero _)
              | succ n_11051 ih_11053 =>
                intro x_10998 H locs ls h_11055 hm_11050 hG hP hD hS hl
                have uh_11055 := h_11055.1
                have vh_11055 := h_11055.2
                refine lv_iload_n hx hb dX12_drink_25 rfl (lv_at hl 2 rfl) ?_
                refine lv_aload_n hx hb dX12_drink_26 rfl (lv_at hl 0 rfl) ?_
                refine pg_f (v := .ref w_9631) (C := RX12) (T := TX12) (N := 31) hx hb hts (tw_i inlX12) hown hK hP hL_this hK_this (by decide) rfl 0 (by decide) (hts _ (tw_c tw_176)) (pq_hv rfl hR_w_9631) dX12_drink_27 ?_
                refine lv_iconst (v := 2) hx hb dX12_drink_30 (by decide) ?_
                refine pl_i hx hb hK hP hL_w_9631 hK_w_9631 hN_w_9631 (vp_in_iff.mpr (by decide)) dX12_drink_31 ?_
                refine lv_tov (ri w_9631 2) (hG.2.2.1 w_9631 hT_w_9631 2 (by decide) (by decide)) ?_
                have h_11056 : rg (ri w_9631 2) 0 40 := GM.z0 hG0 (by rw [hT_w_9631]; decide) (i := 2) (k := 2) (by decide) rfl
                have uh_11056 := h_11056.1
                have vh_11056 := h_11056.2
                have K_11106 : ∀  (H : Heap) (locs : List Loc) (ls : Array Slot), GM [] tg σ I ri I ri_8879 rq → va_P D vwCl (pq_P t σ (I, J, ri_8879, rj, rq)) H → va_D A (pq_P t σ (I, J, ri_8879, rj, rq)) → va_S A s.heap H locs → lv_has ls 3 [(0, .ref this), (1, .int x_8878), (2, .int x_10998)] → W p l e ({ frames := 2, cells := 0, slots := 0, locals := 44 } : Room) s m (List.toArray ([.ref this] : List Value)) below meth c H locs 0 0 Q (F0 m 55 ls []) := by
                  intro H locs ls hG hP hD hS hl
                  refine lv_iload_n hx hb dX12_drink_55 rfl (lv_at hl 2 rfl) ?_
                  refine lv_aload_n hx hb dX12_drink_56 rfl (lv_at hl 0 rfl) ?_
                  refine pg_f (v := .ref w_9631) (C := RX12) (T := TX12) (N := 31) hx hb hts (tw_i inlX12) hown hK hP hL_this hK_this (by decide) rfl 0 (by decide) (hts _ (tw_c tw_176)) (pq_hv rfl hR_w_9631) dX12_drink_57 ?_
                  refine lv_iconst (v := 2) hx hb dX12_drink_60 (by decide) ?_
                  refine pl_i hx hb hK hP hL_w_9631 hK_w_9631 hN_w_9631 (vp_in_iff.mpr (by decide)) dX12_drink_61 ?_
                  refine lv_tov (ri w_9631 2) (hG.2.2.1 w_9631 hT_w_9631 2 (by decide) (by decide)) ?_
                  refine lv_icmp_ge (tgt := 88) hx hb dX12_drink_62 (by decide) (fun c_11107 => ?_) (fun c_11107 => ?_)
                  · have tc_11108 : (ri w_9631 2).toInt ≤ (x_10998).toInt := Int32.le_iff_toInt_le.mp c_11107
                    refine lv_aload_n hx hb dX12_drink_88 rfl (lv_at hl 0 rfl) ?_
                    refine pg_f (v := .ref w_9631) (C := RX12) (T := TX12) (N := 31) hx hb hts (tw_i inlX12) hown hK hP hL_this hK_this (by decide) rfl 0 (by decide) (hts _ (tw_c tw_176)) (pq_hv rfl hR_w_9631) dX12_drink_89 ?_
                    refine lv_sipush (v := 740) hx hb dX12_drink_92 (by decide) ?_
                    refine lv_bipush (v := 12) hx hb dX12_drink_95 (by decide) ?_
                    refine lv_iload_n hx hb dX12_drink_97 rfl (lv_at hl 1 rfl) ?_
                    refine lv_imul hx hb dX12_drink_98 ?_
                    refine lv_topi (fun x_11109 ex_11109 => ?_)
                    have h_11110 : rg x_11109 0 468 := rg_of_eq ex_11109 (rg_mul (rg_k (12 : Int32) 12 rfl) h_9636 (by decide))
                    have uh_11110 := h_11110.1
                    have vh_11110 := h_11110.2
                    have tx_11109 : (x_11109).toInt = 12 * (x_8878).toInt := by rw [ex_11109]; exact i_mul_rg (a2 := 12) (b2 := (x_8878).toInt) rfl rfl (rg_k (12 : Int32) 12 rfl) h_9636 (by decide)
                    refine lv_iadd hx hb dX12_drink_99 ?_
                    refine lv_topi (fun x_11111 ex_11111 => ?_)
                    have h_11112 : rg x_11111 740 1208 := rg_of_eq ex_11111 (rg_add (rg_k (740 : Int32) 740 rfl) h_11110 (by decide))
                    have uh_11112 := h_11112.1
                    have vh_11112 := h_11112.2
                    have tx_11111 : (x_11111).toInt = 740 + (x_11109).toInt := by rw [ex_11111]; exact i_add_rg (a2 := 740) (b2 := (x_11109).toInt) rfl rfl (rg_k (740 : Int32) 740 rfl) h_11110 (by decide)
                    refine lv_iconst (v := 5) hx hb dX12_drink_100 (by decide) ?_
                    refine lv_iadd hx hb dX12_drink_101 ?_
                    refine lv_topi (fun x_11113 ex_11113 => ?_)
                    have h_11114 : rg x_11113 745 1213 := rg_of_eq ex_11113 (rg_add h_11112 (rg_k (5 : Int32) 5 rfl) (by decide))
                    have uh_11114 := h_11114.1
                    have vh_11114 := h_11114.2
                    have tx_11113 : (x_11113).toInt = (x_11111).toInt + 5 := by rw [ex_11113]; exact i_add_rg (a2 := (x_11111).toInt) (b2 := 5) rfl rfl h_11112 (rg_k (5 : Int32) 5 rfl) (by decide)
                    refine lv_dup2_11 hx hb dX12_drink_102 rfl rfl ?_
                    refine pl_i hx hb hK hP hL_w_9631 hK_w_9631 hN_w_9631 (rg_in h_11114 (by decide)) dX12_drink_103 ?_
                    refine lv_topi (fun x_11115 ex_11115 => ?_)
                    refine lv_iconst (v := 1) hx hb dX12_drink_104 (by decide) ?_
                    refine lv_iadd hx hb dX12_drink_105 ?_
                    refine lv_topi (fun x_11116 ex_11116 => ?_)
                    refine pt_i hx hb hK hP hD hS hL_w_9631 hK_w_9631 hN_w_9631 (rg_in h_11114 (by decide)) dX12_drink_106 (fun r_11117 H locs er_11117 hP hD hS => ?_)
                    have hG := GM.wz hG hT_w_9631 (by decide) er_11117 (zn_PERSON (c := x_8878.toNatClampNeg) (k := 5) (by have z_i := clampE x_11113; have z_0 := clampE x_8878; omega) (rg_cl1 h_9636 (by decide)) (by decide)) rfl (rg_w (rg_full _) (by decide)) (by decide)
                    exact K_10375 r_11117 _ _ _ hG hP hD hS (lv_sub hl [0, 1] rfl)
                  · have tc_11118 : (x_10998).toInt < (ri w_9631 2).toInt := Int32.lt_iff_toInt_lt.mp (nle c_11107)
                    have h_11119 : rg x_10998 0 39 := rg_lt1 (nle c_11107) h_11055 h_11056 (by decide)
                    have uh_11119 := h_11119.1
                    have vh_11119 := h_11119.2
                    have h_11120 : rg (ri w_9631 2) 1 40 := rg_lt2 (nle c_11107) h_11055 h_11056 (by decide)
                    have uh_11120 := h_11120.1
                    have vh_11120 := h_11120.2
                    refine lv_aload_n hx hb dX12_drink_65 rfl (lv_at hl 0 rfl) ?_
                    refine pg_f (v := .ref w_9631) (C := RX12) (T := TX12) (N := 31) hx hb hts (tw_i inlX12) hown hK hP hL_this hK_this (by decide) rfl 0 (by decide) (hts _ (tw_c tw_176)) (pq_hv rfl hR_w_9631) dX12_drink_66 ?_
                    refine lv_bipush (v := 100) hx hb dX12_drink_69 (by decide) ?_
                    refine lv_bipush (v := 16) hx hb dX12_drink_71 (by decide) ?_
                    refine lv_iload_n hx hb dX12_drink_73 rfl (lv_at hl 2 rfl) ?_
                    refine lv_imul hx hb dX12_drink_74 ?_
                    refine lv_topi (fun x_11121 ex_11121 => ?_)
                    have h_11122 : rg x_11121 0 624 := rg_of_eq ex_11121 (rg_mul (rg_k (16 : Int32) 16 rfl) h_11119 (by decide))
                    have uh_11122 := h_11122.1
                    have vh_11122 := h_11122.2
                    have tx_11121 : (x_11121).toInt = 16 * (x_10998).toInt := by rw [ex_11121]; exact i_mul_rg (a2 := 16) (b2 := (x_10998).toInt) rfl rfl (rg_k (16 : Int32) 16 rfl) h_11119 (by decide)
                    refine lv_iadd hx hb dX12_drink_75 ?_
                    refine lv_topi (fun x_11123 ex_11123 => ?_)
                    have h_11124 : rg x_11123 100 724 := rg_of_eq ex_11123 (rg_add (rg_k (100 : Int32) 100 rfl) h_11122 (by decide))
                    have uh_11124 := h_11124.1
                    have vh_11124 := h_11124.2
                    have tx_11123 : (x_11123).toInt = 100 + (x_11121).toInt := by rw [ex_11123]; exact i_add_rg (a2 := 100) (b2 := (x_11121).toInt) rfl rfl (rg_k (100 : Int32) 100 rfl) h_11122 (by decide)
                    refine lv_bipush (v := 9) hx hb dX12_drink_76 (by decide) ?_
                    refine lv_iadd hx hb dX12_drink_78 ?_
                    refine lv_topi (fun x_11125 ex_11125 => ?_)
                    have h_11126 : rg x_11125 109 733 := rg_of_eq ex_11125 (rg_add h_11124 (rg_k (9 : Int32) 9 rfl) (by decide))
                    have uh_11126 := h_11126.1
                    have vh_11126 := h_11126.2
                    have tx_11125 : (x_11125).toInt = (x_11123).toInt + 9 := by rw [ex_11125]; exact i_add_rg (a2 := (x_11123).toInt) (b2 := 9) rfl rfl h_11124 (rg_k (9 : Int32) 9 rfl) (by decide)
                    refine lv_dup2_11 hx hb dX12_drink_79 rfl rfl ?_
                    refine pl_i hx hb hK hP hL_w_9631 hK_w_9631 hN_w_9631 (rg_in h_11126 (by decide)) dX12_drink_80 ?_
                    refine lv_topi (fun x_11127 ex_11127 => ?_)
                    refine lv_bipush (v := 10) hx hb dX12_drink_81 (by decide) ?_
                    refine lv_isub hx hb dX12_drink_83 ?_
                    refine lv_topi (fun x_11128 ex_11128 => ?_)
                    refine pt_i hx hb hK hP hD hS hL_w_9631 hK_w_9631 hN_w_9631 (rg_in h_11126 (by decide)) dX12_drink_84 (fun r_11129 H locs er_11129 hP hD hS => ?_)
                    have hG := GM.wz hG hT_w_9631 (by decide) er_11129 (zn_CELL (c := x_10998.toNatClampNeg) (k := 9) (by have z_i := clampE x_11125; have z_0 := clampE x_10998; omega) (rg_cl1 h_11119 (by decide)) (by decide)) rfl (rg_w (rg_full _) (by decide)) (by decide)
                    refine lv_goto (tgt := 107) hx hb dX12_drink_85 (by decide) ?_
                    exact K_10375 r_11129 _ _ _ hG hP hD hS (lv_sub hl [0, 1] rfl)
                refine lv_icmp_ge (tgt := 55) hx hb dX12_drink_32 (by decide) (fun c_11130 => ?_) (fun c_11130 => ?_)
                · have tc_11131 : (ri w_9631 2).toInt ≤ (x_10998).toInt := Int32.le_iff_toInt_le.mp c_11130
                  exact K_11106 _ _ _ hG hP hD hS (lv_sub hl [0, 1, 2] rfl)
                · have tc_11132 : (x_10998).toInt < (ri w_9631 2).toInt := Int32.lt_iff_toInt_lt.mp (nle c_11130)
                  have h_11133 : rg x_10998 0 39 := rg_lt1 (nle c_11130) h_11055 h_11056 (by decide)
                  have uh_11133 := h_11133.1
                  have vh_11133 := h_11133.2
                  have h_11134 : rg (ri w_9631 2) 1 40 := rg_lt2 (nle c_11130) h_11055 h_11056 (by decide)
                  have uh_11134 := h_11134.1
                  have vh_11134 := h_11134.2
                  refine lv_aload_n hx hb dX12_drink_35 rfl (lv_at hl 0 rfl) ?_
                  refine lv_iload_n hx hb dX12_drink_36 rfl (lv_at hl 2 rfl) ?_
                  refine lv_aload_n hx hb dX12_drink_37 rfl (lv_at hl 0 rfl) ?_
                  refine lv_iload_n hx hb dX12_drink_38 rfl (lv_at hl 1 rfl) ?_
                  refine lv_iconst (v := 3) hx hb dX12_drink_39 (by decide) ?_
                  refine pk_i (va_runV (As := [.int x_8878, .int 3]) (rest := [.int x_10998, .ref this]) ⟨hx, hb, hml, hown, hts⟩ (s_X12_personAt_c3 l D t σ I J ri_8879 rj rq H.size tg hSH hG.1 this x_8878 hL_this hK_this (rg_w h_9636 (by decide)) w_9631 hR_w_9631 hL_w_9631 hK_w_9631 hN_w_9631 hT_w_9631) (cwV 2 hts (tw_V tw_437 tw_438 tw_439 tw_5 tw_440) rfl rfl rfl cv_yX12_personAt_2 ⟨Nat.le_of_ble_eq_true rfl, Nat.le_of_ble_eq_true rfl⟩) ⟨pq_blind, pq_recv hK hP hL_this hK_this (by decide) rfl, pq_pre hK hN hP hD⟩ rfl rfl hl.1 rfl (lv_room (Nat.le_of_ble_eq_true rfl)) dX12_drink_40 ⟨Nat.le_of_ble_eq_true rfl, Nat.le_of_ble_eq_true rfl⟩) hD hS hA (fun x_11135 σ1 μ1 H locs hw_11136 hP hD hS => ?_)
                  obtain ⟨hu_11137, hp_11140, hp_11141, hr_11139⟩ := hw_11136
                  obtain ⟨hu_11137a, hu_11137b⟩ := Prod.mk.inj hu_11137
                  rw [hu_11137a, hu_11137b] at hP hD
                  have tt_11142 := hp_11141
                  refine pk_i (va_runV (As := [.int x_10998, .int x_11135]) (rest := []) ⟨hx, hb, hml, hown, hts⟩ (s_X12_isSweet l D t σ I J ri_8879 rj rq H.size tg hSH hG.1 this x_10998 x_11135 hL_this hK_this (rg_w h_11133 (by decide))) (cwV 2 hts (tw_V tw_1225 tw_1226 tw_1227 tw_5 tw_1228) rfl rfl rfl cv_yX12_isSweet_2 ⟨Nat.le_of_ble_eq_true rfl, Nat.le_of_ble_eq_true rfl⟩) ⟨pq_blind, pq_recv hK hP hL_this hK_this (by decide) rfl, pq_pre hK hN hP hD⟩ rfl rfl hl.1 rfl (lv_room (Nat.le_of_ble_eq_true rfl)) dX12_drink_43 ⟨Nat.le_of_ble_eq_true rfl, Nat.le_of_ble_eq_true rfl⟩) hD hS hA (fun x_11143 σ1 μ1 H locs hw_11144 hP hD hS => ?_)
                  obtain ⟨hu_11145, hr_11147⟩ := hw_11144
                  obtain ⟨hu_11145a, hu_11145b⟩ := Prod.mk.inj hu_11145
                  rw [hu_11145a, hu_11145b] at hP hD
                  have h_11148 : rg x_11143 0 1 := by rcases hr_11147 with ⟨q, -⟩ | ⟨q, -⟩ <;> rw [q] <;> exact ⟨by decide, by decide⟩
                  have uh_11148 := h_11148.1
                  have vh_11148 := h_11148.2
                  refine lv_if_ne (tgt := 55) hx hb dX12_drink_46 (by decide) (fun c_11149 => ?_) (fun c_11149 => ?_)
                  · have tc_11150 : (x_11143).toInt ≠ 0 := fun q => c_11149 (Int32.toInt_inj.mp q)
                    have h_11151 : rg x_11143 1 1 := rg_ne c_11149 h_11148 0 rfl (by decide)
                    have uh_11151 := h_11151.1
                    have vh_11151 := h_11151.2
                    exact K_11106 _ _ _ hG hP hD hS (lv_sub hl [0, 1, 2] rfl)
                  · have tc_11152 : (x_11143).toInt = 0 := congrArg Int32.toInt c_11149
                    have h_11153 : rg x_11143 0 0 := rg_and h_11148 (rg_of_eq c_11149 (rg_k (0 : Int32) 0 rfl)) (by decide)
                    have uh_11153 := h_11153.1
                    have vh_11153 := h_11153.2
                    obtain ⟨x_11154, ex_11154⟩ : ∃ y : Int32, y = x_10998 + Int32.ofInt 1 := ⟨_, rfl⟩
                    have h_11155 : rg x_11154 1 40 := rg_of_eq ex_11154 (rg_add h_11133 (rg_k (Int32.ofInt 1) 1 rfl) (by decide))
                    have uh_11155 := h_11155.1
                    have vh_11155 := h_11155.2
                    have tx_11154 : (x_11154).toInt = (x_10998).toInt + 1 := by rw [ex_11154]; exact i_add_rg (a2 := (x_10998).toInt) (b2 := 1) rfl rfl h_11133 (rg_k (Int32.ofInt 1) 1 rfl) (by decide)
                    refine lv_iinc (v := x_11154) (lv' := [(2, .int x_11154), (0, .ref this), (1, .int x_8878)]) hx hb dX12_drink_49 hl (k := 2) rfl ex_11154.symm (by decide) rfl (fun ls hl => ?_)
                    refine lv_goto (tgt := 25) hx hb dX12_drink_52 (by decide) ?_
                    exact ih_11053 x_11154 _ _ _ (rg_w h_11155 (by decide)) (ms_up 1 hm_11050 ex_11154 rfl (by decide) h_11133 (by decide) (by decide)) hG hP hD hS (lv_sub hl [1, 2, 0] rfl)
            exact L_11052 _ (0 : Int32) _ _ _ (rg_w (rg_k (0 : Int32) 0 rfl) (by decide)) (Nat.lt_succ_self _) hG hP hD hS (lv_sub hl [1, 2, 0] rfl)
          · have f_11156 := (hr_9642.resolve_left (fun q => absurd (q.1.symm.trans c_10378) (by decide))).2
            have tc_11157 : (x_9638).toInt = 0 := congrArg Int32.toInt c_10378
            have h_11158 : rg x_9638 0 0 := rg_and h_9643 (rg_of_eq c_10378 (rg_k (0 : Int32) 0 rfl)) (by decide)
            have uh_11158 := h_11158.1
            have vh_11158 := h_11158.2
            refine lv_goto (tgt := 107) hx hb dX12_drink_20 (by decide) ?_
            exact K_10375 ri_8879 _ _ _ hG hP hD hS (lv_sub hl [0, 1] rfl)
    exact L_9627 _ (0 : Int32) ri _ _ _ (rg_w (rg_k (0 : Int32) 0 rfl) (by decide)) (Nat.lt_succ_self _) hG hP hD hS (lv_sub hl [1, 0] rfl)
  exact go _ _ _ hP hD hS hl

set_option maxHeartbeats 4000000 in
set_option maxRecDepth 100000 in
theorem s_X12_sleep (l : Launch) (D : va_G) (t : pq_T) (σ : pq_S) (I : Nat → Nat → Int32) (J : Nat → Nat → Int64) (ri : Nat → Nat → Int32) (rj : Nat → Nat → Int64) (rq : Nat → Nat → Option Nat) (sz : Nat) (tg : Nat → Nat) (hSH : SH σ tg) (hG0 : GT tg I ri) (this : Nat) (hL_this : this ∈ σ.1) (hK_this : σ.2.1 this = 12) : MetV l yX12_sleep (wa yX12_sleep cX12_sleep 4 none) ({ frames := 1, cells := 0, slots := 0, locals := 22 }) [.ref this] D t σ (I, J, ri, rj, rq) sz 0 0 (fun (u : pq_S × pq_M) => ∃ ri' : Nat → Nat → Int32, u = (σ, I, J, ri', rj, rq) ∧ GM [] tg σ I ri I ri' rq) := by
  refine Met.ofW (cc := cX12_sleep) (maxL := 4) (ret := none) (by decide) rfl ?_
  intro p e s m args below meth c s₁ B hml hv
  obtain ⟨rfl, hsz, hP, hK, hD0, hN⟩ := hv
  have hx := B.exec
  have hb := B.bytes
  have hr := B.returns
  have hts := atoms_spec (ws := (wa yX12_sleep cX12_sleep 4 none)) B.pre
  have hown : s.vm.findClass RX12 = some m.cls := findClass_of_methodNamed B.named
  have hlocks := B.notSynchronized
  subst hsz
  have hD : va_D (pq_B t σ (I, J, ri, rj, rq) s.heap.size) (pq_P t σ (I, J, ri, rj, rq)) := hD0.self
  generalize hAe : pq_B t σ (I, J, ri, rj, rq) s.heap.size = A at hD ⊢
  have hA : ∀ q : Nat, s.heap.size ≤ q → A q := fun q h => by rw [← hAe]; exact Or.inr h
  have hS : va_S A s.heap s.heap [] := va_S.rf
  have hG : GM [] tg σ I ri I ri rq := ⟨hG0, fun _ _ _ => rfl, fun _ _ _ _ _ => rfl, fun _ _ _ _ _ _ => rfl⟩
  have hl := lv_entry ([.ref this]) (n := 4) (Nat.le_of_ble_eq_true rfl)
  rw [lg_entry_eq]
  generalize (lg_sl ([.ref this]) ++ List.replicate (4 - (lg_sl ([.ref this])).length) Slot.unset).toArray = ls at hl ⊢
  have hl : lv_has ls 4 [(0, .ref this)] := hl
  refine q_gen (fun Q hQ => ?_)
  have go : ∀ (H : Heap) (locs : List Loc) (ls : Array Slot), va_P D vwCl (pq_P t σ (I, J, ri, rj, rq)) H → va_D A (pq_P t σ (I, J, ri, rj, rq)) → va_S A s.heap H locs → lv_has ls 4 [(0, .ref this)] → W p l e ({ frames := 1, cells := 0, slots := 0, locals := 22 } : Room) s m (List.toArray ([.ref this] : List Value)) below meth c H locs 0 0 Q (F0 m 0 ls []) := by
    intro H locs ls hP hD hS hl
    refine lv_iconst (v := 0) hx hb dX12_sleep_0 (by decide) ?_
    refine lv_istore_n (lv' := [(1, .int 0), (0, .ref this)]) hx hb dX12_sleep_1 rfl hl (by decide) rfl (fun ls hl => ?_)
    have L_58506 : ∀ (n_58505 : Nat) (x_50174 : Int32) (ri_50175 : Nat → Nat → Int32) (H : Heap) (locs : List Loc) (ls : Array Slot), rg x_50174 0 5 → (5 - (x_50174).toInt).toNat < n_58505 → GM [] tg σ I ri I ri_50175 rq → va_P D vwCl (pq_P t σ (I, J, ri_50175, rj, rq)) H → va_D A (pq_P t σ (I, J, ri_50175, rj, rq)) → va_S A s.heap H locs → lv_has ls 4 [(0, .ref this), (1, .int x_50174)] → W p l e ({ frames := 1, cells := 0, slots := 0, locals := 22 } : Room) s m (List.toArray ([.ref this] : List Value)) below meth c H locs 0 0 Q (F0 m 2 ls []) := by
      intro n_58505
      induction n_58505 with
      | zero => intro x_50174 ri_50175 H locs ls h_58509 hm_58504 hG hP hD hS hl; exact absurd hm_58504 (Nat.not_lt_zero _)
      | succ n_58505 ih_58507 =>
        intro x_50174 ri_50175 H locs ls h_58509 hm_58504 hG hP hD hS hl
        have uh_58509 := h_58509.1
        have vh_58509 := h_58509.2
        refine lv_iload_n hx hb dX12_sleep_2 rfl (lv_at hl 1 rfl) ?_
        refine lv_aload_n hx hb dX12_sleep_3 rfl (lv_at hl 0 rfl) ?_
        obtain ⟨w_58510, hR_w_58510, hL_w_58510, hK_w_58510, hN_w_58510, hT_w_58510⟩ := sh_a hSH 384 (ci := 12) (kd := 13) (len := 12720) rfl (by decide) hL_this hK_this
        refine pg_f (v := .ref w_58510) (C := RX12) (T := TX12) (N := 31) hx hb hts (tw_i inlX12) hown hK hP hL_this hK_this (by decide) rfl 0 (by decide) (hts _ (tw_c tw_176)) (pq_hv rfl hR_w_58510) dX12_sleep_4 ?_
        refine lv_iconst (v := 1) hx hb dX12_sleep_7 (by decide) ?_
        refine pl_i hx hb hK hP hL_w_58510 hK_w_58510 hN_w_58510 (vp_in_iff.mpr (by decide)) dX12_sleep_8 ?_
        refine lv_tov (ri w_58510 1) (hG.2.2.1 w_58510 hT_w_58510 1 (by decide) (by decide)) ?_
        have h_58511 : rg (ri w_58510 1) 0 5 := GM.z0 hG0 (by rw [hT_w_58510]; decide) (i := 1) (k := 1) (by decide) rfl
        have uh_58511 := h_58511.1
        have vh_58511 := h_58511.2
        refine lv_icmp_ge (tgt := 123) hx hb dX12_sleep_9 (by decide) (fun c_58512 => ?_) (fun c_58512 => ?_)
        · have tc_58513 : (ri w_58510 1).toInt ≤ (x_50174).toInt := Int32.le_iff_toInt_le.mp c_58512
          subst hQ
          exact W.vret hx hb hr (fun t1 ht hW => ⟨⟨(σ, I, J, ri_50175, rj, rq), rfl, ⟨ri_50175, rfl, hG⟩, by rw [ht]; exact hP, va_K.moved hW.alike hK, hD⟩, hS.F ht⟩) hS.2.2 dX12_sleep_123
        · have tc_58514 : (x_50174).toInt < (ri w_58510 1).toInt := Int32.lt_iff_toInt_lt.mp (nle c_58512)
          have h_58515 : rg x_50174 0 4 := rg_lt1 (nle c_58512) h_58509 h_58511 (by decide)
          have uh_58515 := h_58515.1
          have vh_58515 := h_58515.2
          have h_58516 : rg (ri w_58510 1) 1 5 := rg_lt2 (nle c_58512) h_58509 h_58511 (by decide)
          have uh_58516 := h_58516.1
          have vh_58516 := h_58516.2
          refine lv_iconst (v := 0) hx hb dX12_sleep_12 (by decide) ?_
          refine lv_istore_n (lv' := [(2, .int 0), (0, .ref this), (1, .int x_50174)]) hx hb dX12_sleep_13 rfl hl (by decide) rfl (fun ls hl => ?_)
          refine lv_iconst (v := 0) hx hb dX12_sleep_14 (by decide) ?_
          refine lv_istore_n (lv' := [(3, .int 0), (2, .int 0), (0, .ref this), (1, .int x_50174)]) hx hb dX12_sleep_15 rfl hl (by decide) rfl (fun ls hl => ?_)
          have L_66235 : ∀ (n_66234 : Nat) (x_65629 : Int32) (x_65630 : Int32) (H : Heap) (locs : List Loc) (ls : Array Slot), rg x_65630 0 40 → (40 - (x_65630).toInt).toNat < n_66234 → GM [] tg σ I ri I ri_50175 rq → va_P D vwCl (pq_P t σ (I, J, ri_50175, rj, rq)) H → va_D A (pq_P t σ (I, J, ri_50175, rj, rq)) → va_S A s.heap H locs → lv_has ls 4 [(0, .ref this), (1, .int x_50174), (2, .int x_65629), (3, .int x_65630)] → W p l e ({ frames := 1, cells := 0, slots := 0, locals := 22 } : Room) s m (List.toArray ([.ref this] : List Value)) below meth c H locs 0 0 Q (F0 m 16 ls []) := by
            intro n_66234
            induction n_66234 with
            | zero => intro x_65629 x_65630 H locs ls h_66238 hm_66233 hG hP hD hS hl; exact absurd hm_66233 (Nat.not_lt_zero _)
            | succ n_66234 ih_66236 =>
              intro x_65629 x_65630 H locs ls h_66238 hm_66233 hG hP hD hS hl
              have uh_66238 := h_66238.1
              have vh_66238 := h_66238.2
              refine lv_iload_n hx hb dX12_sleep_16 rfl (lv_at hl 3 rfl) ?_
              refine lv_aload_n hx hb dX12_sleep_17 rfl (lv_at hl 0 rfl) ?_
              refine pg_f (v := .ref w_58510) (C := RX12) (T := TX12) (N := 31) hx hb hts (tw_i inlX12) hown hK hP hL_this hK_this (by decide) rfl 0 (by decide) (hts _ (tw_c tw_176)) (pq_hv rfl hR_w_58510) dX12_sleep_18 ?_
              refine lv_iconst (v := 2) hx hb dX12_sleep_21 (by decide) ?_
              refine pl_i hx hb hK hP hL_w_58510 hK_w_58510 hN_w_58510 (vp_in_iff.mpr (by decide)) dX12_sleep_22 ?_
              refine lv_tov (ri w_58510 2) (hG.2.2.1 w_58510 hT_w_58510 2 (by decide) (by decide)) ?_
              have h_66239 : rg (ri w_58510 2) 0 40 := GM.z0 hG0 (by rw [hT_w_58510]; decide) (i := 2) (k := 2) (by decide) rfl
              have uh_66239 := h_66239.1
              have vh_66239 := h_66239.2
              refine lv_icmp_ge (tgt := 56) hx hb dX12_sleep_23 (by decide) (fun c_66240 => ?_) (fun c_66240 => ?_)
              · have tc_66241 : (ri w_58510 2).toInt ≤ (x_65630).toInt := Int32.le_iff_toInt_le.mp c_66240
                refine lv_iconst (v := 0) hx hb dX12_sleep_56 (by decide) ?_
                refine lv_istore_n (lv' := [(3, .int 0), (0, .ref this), (1, .int x_50174), (2, .int x_65629)]) hx hb dX12_sleep_57 rfl hl (by decide) rfl (fun ls hl => ?_)
                have L_66780 : ∀ (n_66779 : Nat) (x_66736 : Int32) (x_66737 : Int32) (ri_66738 : Nat → Nat → Int32) (H : Heap) (locs : List Loc) (ls : Array Slot), rg x_66737 0 40 → (40 - (x_66737).toInt).toNat < n_66779 → GM [] tg σ I ri I ri_66738 rq → va_P D vwCl (pq_P t σ (I, J, ri_66738, rj, rq)) H → va_D A (pq_P t σ (I, J, ri_66738, rj, rq)) → va_S A s.heap H locs → lv_has ls 4 [(0, .ref this), (1, .int x_50174), (2, .int x_66736), (3, .int x_66737)] → W p l e ({ frames := 1, cells := 0, slots := 0, locals := 22 } : Room) s m (List.toArray ([.ref this] : List Value)) below meth c H locs 0 0 Q (F0 m 58 ls []) := by
                  intro n_66779
                  induction n_66779 with
                  | zero => intro x_66736 x_66737 ri_66738 H locs ls h_66783 hm_66778 hG hP hD hS hl; exact absurd hm_66778 (Nat.not_lt_zero _)
                  | succ n_66779 ih_66781 =>
                    intro x_66736 x_66737 ri_66738 H locs ls h_66783 hm_66778 hG hP hD hS hl
                    have uh_66783 := h_66783.1
                    have vh_66783 := h_66783.2
                    refine lv_iload_n hx hb dX12_sleep_58 rfl (lv_at hl 3 rfl) ?_
                    refine lv_aload_n hx hb dX12_sleep_59 rfl (lv_at hl 0 rfl) ?_
                    refine pg_f (v := .ref w_58510) (C := RX12) (T := TX12) (N := 31) hx hb hts (tw_i inlX12) hown hK hP hL_this hK_this (by decide) rfl 0 (by decide) (hts _ (tw_c tw_176)) (pq_hv rfl hR_w_58510) dX12_sleep_60 ?_
                    refine lv_iconst (v := 5) hx hb dX12_sleep_63 (by decide) ?_
                    refine pl_i hx hb hK hP hL_w_58510 hK_w_58510 hN_w_58510 (vp_in_iff.mpr (by decide)) dX12_sleep_64 ?_
                    refine lv_tov (ri w_58510 5) (hG.2.2.1 w_58510 hT_w_58510 5 (by decide) (by decide)) ?_
                    have h_66784 : rg (ri w_58510 5) 0 40 := GM.z0 hG0 (by rw [hT_w_58510]; decide) (i := 5) (k := 5) (by decide) rfl
                    have uh_66784 := h_66784.1
                    have vh_66784 := h_66784.2
                    refine lv_icmp_ge (tgt := 117) hx hb dX12_sleep_65 (by decide) (fun c_66785 => ?_) (fun c_66785 => ?_)
                    · have tc_66786 : (ri w_58510 5).toInt ≤ (x_66737).toInt := Int32.le_iff_toInt_le.mp c_66785
                      obtain ⟨x_66787, ex_66787⟩ : ∃ y : Int32, y = x_50174 + Int32.ofInt 1 := ⟨_, rfl⟩
                      have h_66788 : rg x_66787 1 5 := rg_of_eq ex_66787 (rg_add h_58515 (rg_k (Int32.ofInt 1) 1 rfl) (by decide))
                      have uh_66788 := h_66788.1
                      have vh_66788 := h_66788.2
                      have tx_66787 : (x_66787).toInt = (x_50174).toInt + 1 := by rw [ex_66787]; exact i_add_rg (a2 := (x_50174).toInt) (b2 := 1) rfl rfl h_58515 (rg_k (Int32.ofInt 1) 1 rfl) (by decide)
                      refine lv_iinc (v := x_66787) (lv' := [(1, .int x_66787), (0, .ref this), (2, .int x_66736), (3, .int x_66737)]) hx hb dX12_sleep_117 hl (k := 1) rfl ex_66787.symm (by decide) rfl (fun ls hl => ?_)
                      refine lv_goto (tgt := 2) hx hb dX12_sleep_120 (by decide) ?_
                      exact ih_58507 x_66787 ri_66738 _ _ _ (rg_w h_66788 (by decide)) (ms_up 1 hm_58504 ex_66787 rfl (by decide) h_58515 (by decide) (by decide)) hG hP hD hS (lv_sub hl [1, 0] rfl)
                    · have tc_66789 : (x_66737).toInt < (ri w_58510 5).toInt := Int32.lt_iff_toInt_lt.mp (nle c_66785)
                      have h_66790 : rg x_66737 0 39 := rg_lt1 (nle c_66785) h_66783 h_66784 (by decide)
                      have uh_66790 := h_66790.1
                      have vh_66790 := h_66790.2
                      have h_66791 : rg (ri w_58510 5) 1 40 := rg_lt2 (nle c_66785) h_66783 h_66784 (by decide)
                      have uh_66791 := h_66791.1
                      have vh_66791 := h_66791.2
                      refine lv_aload_n hx hb dX12_sleep_68 rfl (lv_at hl 0 rfl) ?_
                      refine lv_iload_n hx hb dX12_sleep_69 rfl (lv_at hl 3 rfl) ?_
                      refine lv_iconst (v := 3) hx hb dX12_sleep_70 (by decide) ?_
                      refine pk_i (va_runV (As := [.int x_66737, .int 3]) (rest := []) ⟨hx, hb, hml, hown, hts⟩ (s_X12_personAt_c3 l D t σ I J ri_66738 rj rq H.size tg hSH hG.1 this x_66737 hL_this hK_this (rg_w h_66790 (by decide)) w_58510 hR_w_58510 hL_w_58510 hK_w_58510 hN_w_58510 hT_w_58510) (cwV 2 hts (tw_V tw_437 tw_438 tw_439 tw_5 tw_440) rfl rfl rfl cv_yX12_personAt_2 ⟨Nat.le_of_ble_eq_true rfl, Nat.le_of_ble_eq_true rfl⟩) ⟨pq_blind, pq_recv hK hP hL_this hK_this (by decide) rfl, pq_pre hK hN hP hD⟩ rfl rfl hl.1 rfl (lv_room (Nat.le_of_ble_eq_true rfl)) dX12_sleep_71 ⟨Nat.le_of_ble_eq_true rfl, Nat.le_of_ble_eq_true rfl⟩) hD hS hA (fun x_66792 σ1 μ1 H locs hw_66793 hP hD hS => ?_)
                      obtain ⟨hu_66794, hp_66797, hp_66798, hr_66796⟩ := hw_66793
                      obtain ⟨hu_66794a, hu_66794b⟩ := Prod.mk.inj hu_66794
                      rw [hu_66794a, hu_66794b] at hP hD
                      have tt_66799 := hp_66798
                      refine lv_iload_n hx hb dX12_sleep_74 rfl (lv_at hl 1 rfl) ?_
                      have K_66822 : ∀  (x_66818 : Int32) (ri_66819 : Nat → Nat → Int32) (H : Heap) (locs : List Loc) (ls : Array Slot), GM [] tg σ I ri I ri_66819 rq → va_P D vwCl (pq_P t σ (I, J, ri_66819, rj, rq)) H → va_D A (pq_P t σ (I, J, ri_66819, rj, rq)) → va_S A s.heap H locs → lv_has ls 4 [(0, .ref this), (1, .int x_50174), (2, .int x_66818), (3, .int x_66737)] → W p l e ({ frames := 1, cells := 0, slots := 0, locals := 22 } : Room) s m (List.toArray ([.ref this] : List Value)) below meth c H locs 0 0 Q (F0 m 111 ls []) := by
                        intro x_66818 ri_66819 H locs ls hG hP hD hS hl
                        obtain ⟨x_66823, ex_66823⟩ : ∃ y : Int32, y = x_66737 + Int32.ofInt 1 := ⟨_, rfl⟩
                        have h_66824 : rg x_66823 1 40 := rg_of_eq ex_66823 (rg_add h_66790 (rg_k (Int32.ofInt 1) 1 rfl) (by decide))
                        have uh_66824 := h_66824.1
                        have vh_66824 := h_66824.2
                        have tx_66823 : (x_66823).toInt = (x_66737).toInt + 1 := by rw [ex_66823]; exact i_add_rg (a2 := (x_66737).toInt) (b2 := 1) rfl rfl h_66790 (rg_k (Int32.ofInt 1) 1 rfl) (by decide)
                        refine lv_iinc (v := x_66823) (lv' := [(3, .int x_66823), (0, .ref this), (1, .int x_50174), (2, .int x_66818)]) hx hb dX12_sleep_111 hl (k := 3) rfl ex_66823.symm (by decide) rfl (fun ls hl => ?_)
                        refine lv_goto (tgt := 58) hx hb dX12_sleep_114 (by decide) ?_
                        exact ih_66781 x_66818 x_66823 ri_66819 _ _ _ (rg_w h_66824 (by decide)) (ms_up 1 hm_66778 ex_66823 rfl (by decide) h_66790 (by decide) (by decide)) hG hP hD hS (lv_sub hl [1, 2, 3, 0] rfl)
                      refine lv_icmp_eq (tgt := 81) hx hb dX12_sleep_75 (by decide) (fun c_66825 => ?_) (fun c_66825 => ?_)
                      · have tc_66826 : (x_66792).toInt = (x_50174).toInt := congrArg Int32.toInt c_66825
                        have h_66827 : rg x_66792 0 4 := rg_and hr_66796 (rg_of_eq c_66825 h_58515) (by decide)
                        have uh_66827 := h_66827.1
                        have vh_66827 := h_66827.2
                        refine lv_iload_n hx hb dX12_sleep_81 rfl (lv_at hl 2 rfl) ?_
                        refine lv_if_ne (tgt := 108) hx hb dX12_sleep_82 (by decide) (fun c_66828 => ?_) (fun c_66828 => ?_)
                        · have tc_66829 : (x_66736).toInt ≠ 0 := fun q => c_66828 (Int32.toInt_inj.mp q)
                          obtain ⟨x_66830, ex_66830⟩ : ∃ y : Int32, y = x_66736 + Int32.ofInt (-1) := ⟨_, rfl⟩
                          refine lv_iinc (v := x_66830) (lv' := [(2, .int x_66830), (0, .ref this), (1, .int x_50174), (3, .int x_66737)]) hx hb dX12_sleep_108 hl (k := 2) rfl ex_66830.symm (by decide) rfl (fun ls hl => ?_)
                          exact K_66822 x_66830 ri_66738 _ _ _ hG hP hD hS (lv_sub hl [1, 2, 0, 3] rfl)
                        · have tc_66831 : (x_66736).toInt = 0 := congrArg Int32.toInt c_66828
                          have h_66832 : rg x_66736 0 0 := rg_and (rg_full _) (rg_of_eq c_66828 (rg_k (0 : Int32) 0 rfl)) (by decide)
                          have uh_66832 := h_66832.1
                          have vh_66832 := h_66832.2
                          refine lv_aload_n hx hb dX12_sleep_85 rfl (lv_at hl 0 rfl) ?_
                          refine pg_f (v := .ref w_58510) (C := RX12) (T := TX12) (N := 31) hx hb hts (tw_i inlX12) hown hK hP hL_this hK_this (by decide) rfl 0 (by decide) (hts _ (tw_c tw_176)) (pq_hv rfl hR_w_58510) dX12_sleep_86 ?_
                          refine lv_sipush (v := 740) hx hb dX12_sleep_89 (by decide) ?_
                          refine lv_bipush (v := 12) hx hb dX12_sleep_92 (by decide) ?_
                          refine lv_iload_n hx hb dX12_sleep_94 rfl (lv_at hl 3 rfl) ?_
                          refine lv_imul hx hb dX12_sleep_95 ?_
                          refine lv_topi (fun x_66833 ex_66833 => ?_)
                          have h_66834 : rg x_66833 0 468 := rg_of_eq ex_66833 (rg_mul (rg_k (12 : Int32) 12 rfl) h_66790 (by decide))
                          have uh_66834 := h_66834.1
                          have vh_66834 := h_66834.2
                          have tx_66833 : (x_66833).toInt = 12 * (x_66737).toInt := by rw [ex_66833]; exact i_mul_rg (a2 := 12) (b2 := (x_66737).toInt) rfl rfl (rg_k (12 : Int32) 12 rfl) h_66790 (by decide)
                          refine lv_iadd hx hb dX12_sleep_96 ?_
                          refine lv_topi (fun x_66835 ex_66835 => ?_)
                          have h_66836 : rg x_66835 740 1208 := rg_of_eq ex_66835 (rg_add (rg_k (740 : Int32) 740 rfl) h_66834 (by decide))
                          have uh_66836 := h_66836.1
                          have vh_66836 := h_66836.2
                          have tx_66835 : (x_66835).toInt = 740 + (x_66833).toInt := by rw [ex_66835]; exact i_add_rg (a2 := 740) (b2 := (x_66833).toInt) rfl rfl (rg_k (740 : Int32) 740 rfl) h_66834 (by decide)
                          refine lv_bipush (v := 6) hx hb dX12_sleep_97 (by decide) ?_
                          refine lv_iadd hx hb dX12_sleep_99 ?_
                          refine lv_topi (fun x_66837 ex_66837 => ?_)
                          have h_66838 : rg x_66837 746 1214 := rg_of_eq ex_66837 (rg_add h_66836 (rg_k (6 : Int32) 6 rfl) (by decide))
                          have uh_66838 := h_66838.1
                          have vh_66838 := h_66838.2
                          have tx_66837 : (x_66837).toInt = (x_66835).toInt + 6 := by rw [ex_66837]; exact i_add_rg (a2 := (x_66835).toInt) (b2 := 6) rfl rfl h_66836 (rg_k (6 : Int32) 6 rfl) (by decide)
                          refine lv_dup2_11 hx hb dX12_sleep_100 rfl rfl ?_
                          refine pl_i hx hb hK hP hL_w_58510 hK_w_58510 hN_w_58510 (rg_in h_66838 (by decide)) dX12_sleep_101 ?_
                          refine lv_topi (fun x_66839 ex_66839 => ?_)
                          refine lv_iconst (v := 1) hx hb dX12_sleep_102 (by decide) ?_
                          refine lv_iadd hx hb dX12_sleep_103 ?_
                          refine lv_topi (fun x_66840 ex_66840 => ?_)
                          refine pt_i hx hb hK hP hD hS hL_w_58510 hK_w_58510 hN_w_58510 (rg_in h_66838 (by decide)) dX12_sleep_104 (fun r_66841 H locs er_66841 hP hD hS => ?_)
                          have hG := GM.wz hG hT_w_58510 (by decide) er_66841 (zn_PERSON (c := x_66737.toNatClampNeg) (k := 6) (by have z_i := clampE x_66837; have z_0 := clampE x_66737; omega) (rg_cl1 h_66790 (by decide)) (by decide)) rfl (rg_w (rg_full _) (by decide)) (by decide)
                          refine lv_goto (tgt := 111) hx hb dX12_sleep_105 (by decide) ?_
                          exact K_66822 x_66736 r_66841 _ _ _ hG hP hD hS (lv_sub hl [0, 1, 2, 3] rfl)
                      · have tc_66842 : (x_66792).toInt ≠ (x_50174).toInt := fun q => c_66825 (Int32.toInt_inj.mp q)
                        refine lv_goto (tgt := 111) hx hb dX12_sleep_78 (by decide) ?_
                        exact K_66822 x_66736 ri_66738 _ _ _ hG hP hD hS (lv_sub hl [0, 1, 2, 3] rfl)
                exact L_66780 _ x_65629 (0 : Int32) ri_50175 _ _ _ (rg_w (rg_k (0 : Int32) 0 rfl) (by decide)) (Nat.lt_succ_self _) hG hP hD hS (lv_sub hl [1, 2, 3, 0] rfl)
              · have tc_66843 : (x_65630).toInt < (ri w_58510 2).toInt := Int32.lt_iff_toInt_lt.mp (nle c_66240)
                have h_66844 : rg x_65630 0 39 := rg_lt1 (nle c_66240) h_66238 h_66239 (by decide)
                have uh_66844 := h_66844.1
                have vh_66844 := h_66844.2
                have h_66845 : rg (ri w_58510 2) 1 40 := rg_lt2 (nle c_66240) h_66238 h_66239 (by decide)
                have uh_66845 := h_66845.1
                have vh_66845 := h_66845.2
                refine lv_iload_n hx hb dX12_sleep_26 rfl (lv_at hl 2 rfl) ?_
                refine lv_aload_n hx hb dX12_sleep_27 rfl (lv_at hl 0 rfl) ?_
                refine lv_iload_n hx hb dX12_sleep_28 rfl (lv_at hl 3 rfl) ?_
                refine lv_iconst (v := 0) hx hb dX12_sleep_29 (by decide) ?_
                refine pk_i (va_runV (As := [.int x_65630, .int 0]) (rest := [.int x_65629]) ⟨hx, hb, hml, hown, hts⟩ (s_X12_cellAt_c0 l D t σ I J ri_50175 rj rq H.size tg hSH hG.1 this x_65630 hL_this hK_this (rg_w h_66844 (by decide))) (cwV 2 hts (tw_V tw_361 tw_362 tw_363 tw_5 tw_364) rfl rfl rfl cv_yX12_cellAt_2 ⟨Nat.le_of_ble_eq_true rfl, Nat.le_of_ble_eq_true rfl⟩) ⟨pq_blind, pq_recv hK hP hL_this hK_this (by decide) rfl, pq_pre hK hN hP hD⟩ rfl rfl hl.1 rfl (lv_room (Nat.le_of_ble_eq_true rfl)) dX12_sleep_30 ⟨Nat.le_of_ble_eq_true rfl, Nat.le_of_ble_eq_true rfl⟩) hD hS hA (fun x_66846 σ1 μ1 H locs hw_66847 hP hD hS => ?_)
                have hu_66848 := hw_66847
                obtain ⟨hu_66848a, hu_66848b⟩ := Prod.mk.inj hu_66848
                rw [hu_66848a, hu_66848b] at hP hD
                refine lv_iload_n hx hb dX12_sleep_33 rfl (lv_at hl 1 rfl) ?_
                have K_66864 : ∀  (x_66860 : Int32) (H : Heap) (locs : List Loc) (ls : Array Slot), GM [] tg σ I ri I ri_50175 rq → va_P D vwCl (pq_P t σ (I, J, ri_50175, rj, rq)) H → va_D A (pq_P t σ (I, J, ri_50175, rj, rq)) → va_S A s.heap H locs → lv_has ls 4 [(0, .ref this), (1, .int x_50174), (3, .int x_65630)] → W p l e ({ frames := 1, cells := 0, slots := 0, locals := 22 } : Room) s m (List.toArray ([.ref this] : List Value)) below meth c H locs 0 0 Q (F0 m 48 ls [.int x_66860, .int x_65629]) := by
                  intro x_66860 H locs ls hG hP hD hS hl
                  refine lv_iadd hx hb dX12_sleep_48 ?_
                  refine lv_topi (fun x_66865 ex_66865 => ?_)
                  refine lv_istore_n (lv' := [(2, .int x_66865), (0, .ref this), (1, .int x_50174), (3, .int x_65630)]) hx hb dX12_sleep_49 rfl hl (by decide) rfl (fun ls hl => ?_)
                  obtain ⟨x_66866, ex_66866⟩ : ∃ y : Int32, y = x_65630 + Int32.ofInt 1 := ⟨_, rfl⟩
                  have h_66867 : rg x_66866 1 40 := rg_of_eq ex_66866 (rg_add h_66844 (rg_k (Int32.ofInt 1) 1 rfl) (by decide))
                  have uh_66867 := h_66867.1
                  have vh_66867 := h_66867.2
                  have tx_66866 : (x_66866).toInt = (x_65630).toInt + 1 := by rw [ex_66866]; exact i_add_rg (a2 := (x_65630).toInt) (b2 := 1) rfl rfl h_66844 (rg_k (Int32.ofInt 1) 1 rfl) (by decide)
                  refine lv_iinc (v := x_66866) (lv' := [(3, .int x_66866), (2, .int x_66865), (0, .ref this), (1, .int x_50174)]) hx hb dX12_sleep_50 hl (k := 3) rfl ex_66866.symm (by decide) rfl (fun ls hl => ?_)
                  refine lv_goto (tgt := 16) hx hb dX12_sleep_53 (by decide) ?_
                  exact ih_66236 x_66865 x_66866 _ _ _ (rg_w h_66867 (by decide)) (ms_up 1 hm_66233 ex_66866 rfl (by decide) h_66844 (by decide) (by decide)) hG hP hD hS (lv_sub hl [2, 3, 1, 0] rfl)
                refine lv_icmp_ne (tgt := 47) hx hb dX12_sleep_34 (by decide) (fun c_66868 => ?_) (fun c_66868 => ?_)
                · have tc_66869 : (x_66846).toInt ≠ (x_50174).toInt := fun q => c_66868 (Int32.toInt_inj.mp q)
                  refine lv_iconst (v := 0) hx hb dX12_sleep_47 (by decide) ?_
                  exact K_66864 (0 : Int32) _ _ _ hG hP hD hS (lv_sub hl [0, 1, 3] rfl)
                · have tc_66870 : (x_66846).toInt = (x_50174).toInt := congrArg Int32.toInt c_66868
                  have h_66871 : rg x_66846 0 4 := rg_and (rg_full _) (rg_of_eq c_66868 h_58515) (by decide)
                  have uh_66871 := h_66871.1
                  have vh_66871 := h_66871.2
                  refine lv_aload_n hx hb dX12_sleep_37 rfl (lv_at hl 0 rfl) ?_
                  refine lv_iload_n hx hb dX12_sleep_38 rfl (lv_at hl 3 rfl) ?_
                  refine lv_bipush (v := 7) hx hb dX12_sleep_39 (by decide) ?_
                  refine pk_i (va_runV (As := [.int x_65630, .int 7]) (rest := [.int x_65629]) ⟨hx, hb, hml, hown, hts⟩ (s_X12_cellAt_c7 l D t σ I J ri_50175 rj rq H.size tg hSH hG.1 this x_65630 hL_this hK_this (rg_w h_66844 (by decide))) (cwV 2 hts (tw_V tw_361 tw_362 tw_363 tw_5 tw_364) rfl rfl rfl cv_yX12_cellAt_2 ⟨Nat.le_of_ble_eq_true rfl, Nat.le_of_ble_eq_true rfl⟩) ⟨pq_blind, pq_recv hK hP hL_this hK_this (by decide) rfl, pq_pre hK hN hP hD⟩ rfl rfl hl.1 rfl (lv_room (Nat.le_of_ble_eq_true rfl)) dX12_sleep_41 ⟨Nat.le_of_ble_eq_true rfl, Nat.le_of_ble_eq_true rfl⟩) hD hS hA (fun x_66872 σ1 μ1 H locs hw_66873 hP hD hS => ?_)
                  have hu_66874 := hw_66873
                  obtain ⟨hu_66874a, hu_66874b⟩ := Prod.mk.inj hu_66874
                  rw [hu_66874a, hu_66874b] at hP hD
                  refine lv_goto (tgt := 48) hx hb dX12_sleep_44 (by decide) ?_
                  exact K_66864 x_66872 _ _ _ hG hP hD hS (lv_sub hl [0, 1, 3] rfl)
          exact L_66235 _ (0 : Int32) (0 : Int32) _ _ _ (rg_w (rg_k (0 : Int32) 0 rfl) (by decide)) (Nat.lt_succ_self _) hG hP hD hS (lv_sub hl [2, 3, 1, 0] rfl)
    exact L_58506 _ (0 : Int32) ri _ _ _ (rg_w (rg_k (0 : Int32) 0 rfl) (by decide)) (Nat.lt_succ_self _) hG hP hD hS (lv_sub hl [1, 0] rfl)
  exact go _ _ _ hP hD hS hl

set_option maxHeartbeats 4000000 in
set_option maxRecDepth 100000 in
theorem s_X12_wasRock (l : Launch) (D : va_G) (t : pq_T) (σ : pq_S) (I : Nat → Nat → Int32) (J : Nat → Nat → Int64) (ri : Nat → Nat → Int32) (rj : Nat → Nat → Int64) (rq : Nat → Nat → Option Nat) (sz : Nat) (tg : Nat → Nat) (hSH : SH σ tg) (hG0 : GT tg I ri) (this : Nat) (a0 : Int32) (a1 : Int32) (hL_this : this ∈ σ.1) (hK_this : σ.2.1 this = 12) (h_a0 : rg a0 0 39) (h_a1 : rg a1 0 599) : MetI l yX12_wasRock (wa yX12_wasRock cX12_wasRock 3 (some .boolean)) ({ frames := 0, cells := 0, slots := 0, locals := 0 }) [.ref this, .int a0, .int a1] D t σ (I, J, ri, rj, rq) sz 0 0 (fun (r : Int32) (u : pq_S × pq_M) => u = (σ, I, J, ri, rj, rq) ∧ ((r = 1 ∧ True) ∨ (r = 0 ∧ True))) := by
  refine Met.ofW (cc := cX12_wasRock) (maxL := 3) (ret := (some .boolean)) (by decide) rfl ?_
  intro p e s m args below meth c s₁ B hml hv
  obtain ⟨rfl, hsz, hP, hK, hD0, hN⟩ := hv
  have hx := B.exec
  have hb := B.bytes
  have hr := B.returns
  have hts := atoms_spec (ws := (wa yX12_wasRock cX12_wasRock 3 (some .boolean))) B.pre
  have hown : s.vm.findClass RX12 = some m.cls := findClass_of_methodNamed B.named
  have hlocks := B.notSynchronized
  subst hsz
  have hD : va_D (pq_B t σ (I, J, ri, rj, rq) s.heap.size) (pq_P t σ (I, J, ri, rj, rq)) := hD0.self
  generalize hAe : pq_B t σ (I, J, ri, rj, rq) s.heap.size = A at hD ⊢
  have hA : ∀ q : Nat, s.heap.size ≤ q → A q := fun q h => by rw [← hAe]; exact Or.inr h
  have hS : va_S A s.heap s.heap [] := va_S.rf
  have hG : GM [] tg σ I ri I ri rq := ⟨hG0, fun _ _ _ => rfl, fun _ _ _ _ _ => rfl, fun _ _ _ _ _ _ => rfl⟩
  have hl := lv_entry ([.ref this, .int a0, .int a1]) (n := 3) (Nat.le_of_ble_eq_true rfl)
  rw [lg_entry_eq]
  generalize (lg_sl ([.ref this, .int a0, .int a1]) ++ List.replicate (3 - (lg_sl ([.ref this, .int a0, .int a1])).length) Slot.unset).toArray = ls at hl ⊢
  have hl : lv_has ls 3 [(0, .ref this), (1, .int a0), (2, .int a1)] := hl
  refine q_gen (fun Q hQ => ?_)
  have go : ∀ (H : Heap) (locs : List Loc) (ls : Array Slot), va_P D vwCl (pq_P t σ (I, J, ri, rj, rq)) H → va_D A (pq_P t σ (I, J, ri, rj, rq)) → va_S A s.heap H locs → lv_has ls 3 [(0, .ref this), (1, .int a0), (2, .int a1)] → W p l e ({ frames := 0, cells := 0, slots := 0, locals := 0 } : Room) s m (List.toArray ([.ref this, .int a0, .int a1] : List Value)) below meth c H locs 0 0 Q (F0 m 0 ls []) := by
    intro H locs ls hP hD hS hl
    refine lv_iload_n hx hb dX12_wasRock_0 rfl (lv_at hl 1 rfl) ?_
    refine lv_bipush (v := 20) hx hb dX12_wasRock_1 (by decide) ?_
    have K_30 : ∀  (x_24 : Int32) (H : Heap) (locs : List Loc) (ls : Array Slot), GM [] tg σ I ri I ri rq → va_P D vwCl (pq_P t σ (I, J, ri, rj, rq)) H → va_D A (pq_P t σ (I, J, ri, rj, rq)) → va_S A s.heap H locs → lv_has ls 3 [] → W p l e ({ frames := 0, cells := 0, slots := 0, locals := 0 } : Room) s m (List.toArray ([.ref this, .int a0, .int a1] : List Value)) below meth c H locs 0 0 Q (F0 m 42 ls [.int x_24]) := by
      intro x_24 H locs ls hG hP hD hS hl
      refine lv_iconst (v := 1) hx hb dX12_wasRock_42 (by decide) ?_
      refine lv_iand hx hb dX12_wasRock_43 ?_
      refine lv_topi (fun x_31 ex_31 => ?_)
      refine lv_iconst (v := 1) hx hb dX12_wasRock_44 (by decide) ?_
      refine lv_icmp_ne (tgt := 52) hx hb dX12_wasRock_45 (by decide) (fun c_32 => ?_) (fun c_32 => ?_)
      · have tc_33 : (x_31).toInt ≠ 1 := fun q => c_32 (Int32.toInt_inj.mp q)
        refine lv_iconst (v := 0) hx hb dX12_wasRock_52 (by decide) ?_
        subst hQ
        exact W.zret (v := 0) hx hb hr (by decide) (fun t1 ht hW => ⟨⟨0, (σ, I, J, ri, rj, rq), rfl, ⟨rfl, (Or.inr ⟨rfl, trivial⟩)⟩, by rw [ht]; exact hP, va_K.moved hW.alike hK, hD⟩, hS.F ht⟩) hS.2.2 dX12_wasRock_53
      · have tc_34 : (x_31).toInt = 1 := congrArg Int32.toInt c_32
        have h_35 : rg x_31 1 1 := rg_and (rg_full _) (rg_of_eq c_32 (rg_k (1 : Int32) 1 rfl)) (by decide)
        have uh_35 := h_35.1
        have vh_35 := h_35.2
        refine lv_iconst (v := 1) hx hb dX12_wasRock_48 (by decide) ?_
        refine lv_goto (tgt := 53) hx hb dX12_wasRock_49 (by decide) ?_
        subst hQ
        exact W.zret (v := 1) hx hb hr (by decide) (fun t1 ht hW => ⟨⟨1, (σ, I, J, ri, rj, rq), rfl, ⟨rfl, (Or.inl ⟨rfl, trivial⟩)⟩, by rw [ht]; exact hP, va_K.moved hW.alike hK, hD⟩, hS.F ht⟩) hS.2.2 dX12_wasRock_53
    refine lv_icmp_ge (tgt := 23) hx hb dX12_wasRock_3 (by decide) (fun c_36 => ?_) (fun c_36 => ?_)
    · have tc_37 : 20 ≤ (a0).toInt := Int32.le_iff_toInt_le.mp c_36
      have h_38 : rg a0 20 39 := rg_le2 c_36 (rg_k (20 : Int32) 20 rfl) h_a0 (by decide)
      have uh_38 := h_38.1
      have vh_38 := h_38.2
      refine lv_aload_n hx hb dX12_wasRock_23 rfl (lv_at hl 0 rfl) ?_
      obtain ⟨w_39, hR_w_39, hL_w_39, hK_w_39, hN_w_39, hT_w_39⟩ := sh_a hSH 384 (ci := 12) (kd := 13) (len := 12720) rfl (by decide) hL_this hK_this
      refine pg_f (v := .ref w_39) (C := RX12) (T := TX12) (N := 31) hx hb hts (tw_i inlX12) hown hK hP hL_this hK_this (by decide) rfl 0 (by decide) (hts _ (tw_c tw_176)) (pq_hv rfl hR_w_39) dX12_wasRock_24 ?_
      refine lv_sipush (v := 2520) hx hb dX12_wasRock_27 (by decide) ?_
      refine lv_iconst (v := 2) hx hb dX12_wasRock_30 (by decide) ?_
      refine lv_iload_n hx hb dX12_wasRock_31 rfl (lv_at hl 2 rfl) ?_
      refine lv_imul hx hb dX12_wasRock_32 ?_
      refine lv_topi (fun x_40 ex_40 => ?_)
      have h_41 : rg x_40 0 1198 := rg_of_eq ex_40 (rg_mul (rg_k (2 : Int32) 2 rfl) h_a1 (by decide))
      have uh_41 := h_41.1
      have vh_41 := h_41.2
      have tx_40 : (x_40).toInt = 2 * (a1).toInt := by rw [ex_40]; exact i_mul_rg (a2 := 2) (b2 := (a1).toInt) rfl rfl (rg_k (2 : Int32) 2 rfl) h_a1 (by decide)
      refine lv_iadd hx hb dX12_wasRock_33 ?_
      refine lv_topi (fun x_42 ex_42 => ?_)
      have h_43 : rg x_42 2520 3718 := rg_of_eq ex_42 (rg_add (rg_k (2520 : Int32) 2520 rfl) h_41 (by decide))
      have uh_43 := h_43.1
      have vh_43 := h_43.2
      have tx_42 : (x_42).toInt = 2520 + (x_40).toInt := by rw [ex_42]; exact i_add_rg (a2 := 2520) (b2 := (x_40).toInt) rfl rfl (rg_k (2520 : Int32) 2520 rfl) h_41 (by decide)
      refine lv_iconst (v := 1) hx hb dX12_wasRock_34 (by decide) ?_
      refine lv_iadd hx hb dX12_wasRock_35 ?_
      refine lv_topi (fun x_44 ex_44 => ?_)
      have h_45 : rg x_44 2521 3719 := rg_of_eq ex_44 (rg_add h_43 (rg_k (1 : Int32) 1 rfl) (by decide))
      have uh_45 := h_45.1
      have vh_45 := h_45.2
      have tx_44 : (x_44).toInt = (x_42).toInt + 1 := by rw [ex_44]; exact i_add_rg (a2 := (x_42).toInt) (b2 := 1) rfl rfl h_43 (rg_k (1 : Int32) 1 rfl) (by decide)
      refine pl_i hx hb hK hP hL_w_39 hK_w_39 hN_w_39 (rg_in h_45 (by decide)) dX12_wasRock_36 ?_
      refine lv_topi (fun x_46 ex_46 => ?_)
      refine lv_iload_n hx hb dX12_wasRock_37 rfl (lv_at hl 1 rfl) ?_
      refine lv_bipush (v := 20) hx hb dX12_wasRock_38 (by decide) ?_
      refine lv_isub hx hb dX12_wasRock_40 ?_
      refine lv_topi (fun x_47 ex_47 => ?_)
      have h_48 : rg x_47 0 19 := rg_of_eq ex_47 (rg_sub h_38 (rg_k (20 : Int32) 20 rfl) (by decide))
      have uh_48 := h_48.1
      have vh_48 := h_48.2
      have tx_47 : (x_47).toInt = (a0).toInt - 20 := by rw [ex_47]; exact i_sub_rg (a2 := (a0).toInt) (b2 := 20) rfl rfl h_38 (rg_k (20 : Int32) 20 rfl) (by decide)
      refine lv_ishr hx hb dX12_wasRock_41 ?_
      refine lv_topi (fun x_49 ex_49 => ?_)
      exact K_30 x_49 _ _ _ hG hP hD hS (lv_sub hl [] rfl)
    · have tc_50 : (a0).toInt < 20 := Int32.lt_iff_toInt_lt.mp (nle c_36)
      have h_51 : rg a0 0 19 := rg_lt1 (nle c_36) h_a0 (rg_k (20 : Int32) 20 rfl) (by decide)
      have uh_51 := h_51.1
      have vh_51 := h_51.2
      refine lv_aload_n hx hb dX12_wasRock_6 rfl (lv_at hl 0 rfl) ?_
      obtain ⟨w_52, hR_w_52, hL_w_52, hK_w_52, hN_w_52, hT_w_52⟩ := sh_a hSH 384 (ci := 12) (kd := 13) (len := 12720) rfl (by decide) hL_this hK_this
      refine pg_f (v := .ref w_52) (C := RX12) (T := TX12) (N := 31) hx hb hts (tw_i inlX12) hown hK hP hL_this hK_this (by decide) rfl 0 (by decide) (hts _ (tw_c tw_176)) (pq_hv rfl hR_w_52) dX12_wasRock_7 ?_
      refine lv_sipush (v := 2520) hx hb dX12_wasRock_10 (by decide) ?_
      refine lv_iconst (v := 2) hx hb dX12_wasRock_13 (by decide) ?_
      refine lv_iload_n hx hb dX12_wasRock_14 rfl (lv_at hl 2 rfl) ?_
      refine lv_imul hx hb dX12_wasRock_15 ?_
      refine lv_topi (fun x_53 ex_53 => ?_)
      have h_54 : rg x_53 0 1198 := rg_of_eq ex_53 (rg_mul (rg_k (2 : Int32) 2 rfl) h_a1 (by decide))
      have uh_54 := h_54.1
      have vh_54 := h_54.2
      have tx_53 : (x_53).toInt = 2 * (a1).toInt := by rw [ex_53]; exact i_mul_rg (a2 := 2) (b2 := (a1).toInt) rfl rfl (rg_k (2 : Int32) 2 rfl) h_a1 (by decide)
      refine lv_iadd hx hb dX12_wasRock_16 ?_
      refine lv_topi (fun x_55 ex_55 => ?_)
      have h_56 : rg x_55 2520 3718 := rg_of_eq ex_55 (rg_add (rg_k (2520 : Int32) 2520 rfl) h_54 (by decide))
      have uh_56 := h_56.1
      have vh_56 := h_56.2
      have tx_55 : (x_55).toInt = 2520 + (x_53).toInt := by rw [ex_55]; exact i_add_rg (a2 := 2520) (b2 := (x_53).toInt) rfl rfl (rg_k (2520 : Int32) 2520 rfl) h_54 (by decide)
      refine pl_i hx hb hK hP hL_w_52 hK_w_52 hN_w_52 (rg_in h_56 (by decide)) dX12_wasRock_17 ?_
      refine lv_topi (fun x_57 ex_57 => ?_)
      refine lv_iload_n hx hb dX12_wasRock_18 rfl (lv_at hl 1 rfl) ?_
      refine lv_ishr hx hb dX12_wasRock_19 ?_
      refine lv_topi (fun x_58 ex_58 => ?_)
      refine lv_goto (tgt := 42) hx hb dX12_wasRock_20 (by decide) ?_
      exact K_30 x_58 _ _ _ hG hP hD hS (lv_sub hl [] rfl)
  exact go _ _ _ hP hD hS hl

set_option maxHeartbeats 4000000 in
set_option maxRecDepth 100000 in
theorem s_X12_cellAt_c2 (l : Launch) (D : va_G) (t : pq_T) (σ : pq_S) (I : Nat → Nat → Int32) (J : Nat → Nat → Int64) (ri : Nat → Nat → Int32) (rj : Nat → Nat → Int64) (rq : Nat → Nat → Option Nat) (sz : Nat) (tg : Nat → Nat) (hSH : SH σ tg) (hG0 : GT tg I ri) (this : Nat) (a0 : Int32) (hL_this : this ∈ σ.1) (hK_this : σ.2.1 this = 12) (h_a0 : rg a0 0 39) : MetI l yX12_cellAt (wa yX12_cellAt cX12_cellAt 3 (some .int)) ({ frames := 0, cells := 0, slots := 0, locals := 0 }) [.ref this, .int a0, .int 2] D t σ (I, J, ri, rj, rq) sz 0 0 (fun (r : Int32) (u : pq_S × pq_M) => u = (σ, I, J, ri, rj, rq)) := by
  refine Met.ofW (cc := cX12_cellAt) (maxL := 3) (ret := (some .int)) (by decide) rfl ?_
  intro p e s m args below meth c s₁ B hml hv
  obtain ⟨rfl, hsz, hP, hK, hD0, hN⟩ := hv
  have hx := B.exec
  have hb := B.bytes
  have hr := B.returns
  have hts := atoms_spec (ws := (wa yX12_cellAt cX12_cellAt 3 (some .int))) B.pre
  have hown : s.vm.findClass RX12 = some m.cls := findClass_of_methodNamed B.named
  have hlocks := B.notSynchronized
  subst hsz
  have hD : va_D (pq_B t σ (I, J, ri, rj, rq) s.heap.size) (pq_P t σ (I, J, ri, rj, rq)) := hD0.self
  generalize hAe : pq_B t σ (I, J, ri, rj, rq) s.heap.size = A at hD ⊢
  have hA : ∀ q : Nat, s.heap.size ≤ q → A q := fun q h => by rw [← hAe]; exact Or.inr h
  have hS : va_S A s.heap s.heap [] := va_S.rf
  have hG : GM [] tg σ I ri I ri rq := ⟨hG0, fun _ _ _ => rfl, fun _ _ _ _ _ => rfl, fun _ _ _ _ _ _ => rfl⟩
  have hl := lv_entry ([.ref this, .int a0, .int 2]) (n := 3) (Nat.le_of_ble_eq_true rfl)
  rw [lg_entry_eq]
  generalize (lg_sl ([.ref this, .int a0, .int 2]) ++ List.replicate (3 - (lg_sl ([.ref this, .int a0, .int 2])).length) Slot.unset).toArray = ls at hl ⊢
  have hl : lv_has ls 3 [(0, .ref this), (1, .int a0), (2, .int 2)] := hl
  refine q_gen (fun Q hQ => ?_)
  have go : ∀ (H : Heap) (locs : List Loc) (ls : Array Slot), va_P D vwCl (pq_P t σ (I, J, ri, rj, rq)) H → va_D A (pq_P t σ (I, J, ri, rj, rq)) → va_S A s.heap H locs → lv_has ls 3 [(0, .ref this), (1, .int a0), (2, .int 2)] → W p l e ({ frames := 0, cells := 0, slots := 0, locals := 0 } : Room) s m (List.toArray ([.ref this, .int a0, .int 2] : List Value)) below meth c H locs 0 0 Q (F0 m 0 ls []) := by
    intro H locs ls hP hD hS hl
    refine lv_aload_n hx hb dX12_cellAt_0 rfl (lv_at hl 0 rfl) ?_
    obtain ⟨w_1, hR_w_1, hL_w_1, hK_w_1, hN_w_1, hT_w_1⟩ := sh_a hSH 384 (ci := 12) (kd := 13) (len := 12720) rfl (by decide) hL_this hK_this
    refine pg_f (v := .ref w_1) (C := RX12) (T := TX12) (N := 31) hx hb hts (tw_i inlX12) hown hK hP hL_this hK_this (by decide) rfl 0 (by decide) (hts _ (tw_c tw_176)) (pq_hv rfl hR_w_1) dX12_cellAt_1 ?_
    refine lv_bipush (v := 100) hx hb dX12_cellAt_4 (by decide) ?_
    refine lv_bipush (v := 16) hx hb dX12_cellAt_6 (by decide) ?_
    refine lv_iload_n hx hb dX12_cellAt_8 rfl (lv_at hl 1 rfl) ?_
    refine lv_imul hx hb dX12_cellAt_9 ?_
    refine lv_topi (fun x_2 ex_2 => ?_)
    have h_3 : rg x_2 0 624 := rg_of_eq ex_2 (rg_mul (rg_k (16 : Int32) 16 rfl) h_a0 (by decide))
    have uh_3 := h_3.1
    have vh_3 := h_3.2
    have tx_2 : (x_2).toInt = 16 * (a0).toInt := by rw [ex_2]; exact i_mul_rg (a2 := 16) (b2 := (a0).toInt) rfl rfl (rg_k (16 : Int32) 16 rfl) h_a0 (by decide)
    refine lv_iadd hx hb dX12_cellAt_10 ?_
    refine lv_topi (fun x_4 ex_4 => ?_)
    have h_5 : rg x_4 100 724 := rg_of_eq ex_4 (rg_add (rg_k (100 : Int32) 100 rfl) h_3 (by decide))
    have uh_5 := h_5.1
    have vh_5 := h_5.2
    have tx_4 : (x_4).toInt = 100 + (x_2).toInt := by rw [ex_4]; exact i_add_rg (a2 := 100) (b2 := (x_2).toInt) rfl rfl (rg_k (100 : Int32) 100 rfl) h_3 (by decide)
    refine lv_iload_n hx hb dX12_cellAt_11 rfl (lv_at hl 2 rfl) ?_
    refine lv_iadd hx hb dX12_cellAt_12 ?_
    refine lv_topi (fun x_6 ex_6 => ?_)
    have h_7 : rg x_6 102 726 := rg_of_eq ex_6 (rg_add h_5 (rg_k (2 : Int32) 2 rfl) (by decide))
    have uh_7 := h_7.1
    have vh_7 := h_7.2
    have tx_6 : (x_6).toInt = (x_4).toInt + 2 := by rw [ex_6]; exact i_add_rg (a2 := (x_4).toInt) (b2 := 2) rfl rfl h_5 (rg_k (2 : Int32) 2 rfl) (by decide)
    refine pl_i hx hb hK hP hL_w_1 hK_w_1 hN_w_1 (rg_in h_7 (by decide)) dX12_cellAt_13 ?_
    refine lv_topi (fun x_8 ex_8 => ?_)
    subst hQ
    exact W.iret (v := x_8) hx hb hr (fun t1 ht hW => ⟨⟨x_8, (σ, I, J, ri, rj, rq), rfl, rfl, by rw [ht]; exact hP, va_K.moved hW.alike hK, hD⟩, hS.F ht⟩) hS.2.2 dX12_cellAt_14
  exact go _ _ _ hP hD hS hl

set_option maxHeartbeats 4000000 in
set_option maxRecDepth 100000 in
theorem s_X12_cellAt_c3 (l : Launch) (D : va_G) (t : pq_T) (σ : pq_S) (I : Nat → Nat → Int32) (J : Nat → Nat → Int64) (ri : Nat → Nat → Int32) (rj : Nat → Nat → Int64) (rq : Nat → Nat → Option Nat) (sz : Nat) (tg : Nat → Nat) (hSH : SH σ tg) (hG0 : GT tg I ri) (this : Nat) (a0 : Int32) (hL_this : this ∈ σ.1) (hK_this : σ.2.1 this = 12) (h_a0 : rg a0 0 39) : MetI l yX12_cellAt (wa yX12_cellAt cX12_cellAt 3 (some .int)) ({ frames := 0, cells := 0, slots := 0, locals := 0 }) [.ref this, .int a0, .int 3] D t σ (I, J, ri, rj, rq) sz 0 0 (fun (r : Int32) (u : pq_S × pq_M) => u = (σ, I, J, ri, rj, rq)) := by
  refine Met.ofW (cc := cX12_cellAt) (maxL := 3) (ret := (some .int)) (by decide) rfl ?_
  intro p e s m args below meth c s₁ B hml hv
  obtain ⟨rfl, hsz, hP, hK, hD0, hN⟩ := hv
  have hx := B.exec
  have hb := B.bytes
  have hr := B.returns
  have hts := atoms_spec (ws := (wa yX12_cellAt cX12_cellAt 3 (some .int))) B.pre
  have hown : s.vm.findClass RX12 = some m.cls := findClass_of_methodNamed B.named
  have hlocks := B.notSynchronized
  subst hsz
  have hD : va_D (pq_B t σ (I, J, ri, rj, rq) s.heap.size) (pq_P t σ (I, J, ri, rj, rq)) := hD0.self
  generalize hAe : pq_B t σ (I, J, ri, rj, rq) s.heap.size = A at hD ⊢
  have hA : ∀ q : Nat, s.heap.size ≤ q → A q := fun q h => by rw [← hAe]; exact Or.inr h
  have hS : va_S A s.heap s.heap [] := va_S.rf
  have hG : GM [] tg σ I ri I ri rq := ⟨hG0, fun _ _ _ => rfl, fun _ _ _ _ _ => rfl, fun _ _ _ _ _ _ => rfl⟩
  have hl := lv_entry ([.ref this, .int a0, .int 3]) (n := 3) (Nat.le_of_ble_eq_true rfl)
  rw [lg_entry_eq]
  generalize (lg_sl ([.ref this, .int a0, .int 3]) ++ List.replicate (3 - (lg_sl ([.ref this, .int a0, .int 3])).length) Slot.unset).toArray = ls at hl ⊢
  have hl : lv_has ls 3 [(0, .ref this), (1, .int a0), (2, .int 3)] := hl
  refine q_gen (fun Q hQ => ?_)
  have go : ∀ (H : Heap) (locs : List Loc) (ls : Array Slot), va_P D vwCl (pq_P t σ (I, J, ri, rj, rq)) H → va_D A (pq_P t σ (I, J, ri, rj, rq)) → va_S A s.heap H locs → lv_has ls 3 [(0, .ref this), (1, .int a0), (2, .int 3)] → W p l e ({ frames := 0, cells := 0, slots := 0, locals := 0 } : Room) s m (List.toArray ([.ref this, .int a0, .int 3] : List Value)) below meth c H locs 0 0 Q (F0 m 0 ls []) := by
    intro H locs ls hP hD hS hl
    refine lv_aload_n hx hb dX12_cellAt_0 rfl (lv_at hl 0 rfl) ?_
    obtain ⟨w_1, hR_w_1, hL_w_1, hK_w_1, hN_w_1, hT_w_1⟩ := sh_a hSH 384 (ci := 12) (kd := 13) (len := 12720) rfl (by decide) hL_this hK_this
    refine pg_f (v := .ref w_1) (C := RX12) (T := TX12) (N := 31) hx hb hts (tw_i inlX12) hown hK hP hL_this hK_this (by decide) rfl 0 (by decide) (hts _ (tw_c tw_176)) (pq_hv rfl hR_w_1) dX12_cellAt_1 ?_
    refine lv_bipush (v := 100) hx hb dX12_cellAt_4 (by decide) ?_
    refine lv_bipush (v := 16) hx hb dX12_cellAt_6 (by decide) ?_
    refine lv_iload_n hx hb dX12_cellAt_8 rfl (lv_at hl 1 rfl) ?_
    refine lv_imul hx hb dX12_cellAt_9 ?_
    refine lv_topi (fun x_2 ex_2 => ?_)
    have h_3 : rg x_2 0 624 := rg_of_eq ex_2 (rg_mul (rg_k (16 : Int32) 16 rfl) h_a0 (by decide))
    have uh_3 := h_3.1
    have vh_3 := h_3.2
    have tx_2 : (x_2).toInt = 16 * (a0).toInt := by rw [ex_2]; exact i_mul_rg (a2 := 16) (b2 := (a0).toInt) rfl rfl (rg_k (16 : Int32) 16 rfl) h_a0 (by decide)
    refine lv_iadd hx hb dX12_cellAt_10 ?_
    refine lv_topi (fun x_4 ex_4 => ?_)
    have h_5 : rg x_4 100 724 := rg_of_eq ex_4 (rg_add (rg_k (100 : Int32) 100 rfl) h_3 (by decide))
    have uh_5 := h_5.1
    have vh_5 := h_5.2
    have tx_4 : (x_4).toInt = 100 + (x_2).toInt := by rw [ex_4]; exact i_add_rg (a2 := 100) (b2 := (x_2).toInt) rfl rfl (rg_k (100 : Int32) 100 rfl) h_3 (by decide)
    refine lv_iload_n hx hb dX12_cellAt_11 rfl (lv_at hl 2 rfl) ?_
    refine lv_iadd hx hb dX12_cellAt_12 ?_
    refine lv_topi (fun x_6 ex_6 => ?_)
    have h_7 : rg x_6 103 727 := rg_of_eq ex_6 (rg_add h_5 (rg_k (3 : Int32) 3 rfl) (by decide))
    have uh_7 := h_7.1
    have vh_7 := h_7.2
    have tx_6 : (x_6).toInt = (x_4).toInt + 3 := by rw [ex_6]; exact i_add_rg (a2 := (x_4).toInt) (b2 := 3) rfl rfl h_5 (rg_k (3 : Int32) 3 rfl) (by decide)
    refine pl_i hx hb hK hP hL_w_1 hK_w_1 hN_w_1 (rg_in h_7 (by decide)) dX12_cellAt_13 ?_
    refine lv_topi (fun x_8 ex_8 => ?_)
    subst hQ
    exact W.iret (v := x_8) hx hb hr (fun t1 ht hW => ⟨⟨x_8, (σ, I, J, ri, rj, rq), rfl, rfl, by rw [ht]; exact hP, va_K.moved hW.alike hK, hD⟩, hS.F ht⟩) hS.2.2 dX12_cellAt_14
  exact go _ _ _ hP hD hS hl

set_option maxHeartbeats 4000000 in
set_option maxRecDepth 100000 in
theorem s_X12_areaOf (l : Launch) (D : va_G) (t : pq_T) (σ : pq_S) (I : Nat → Nat → Int32) (J : Nat → Nat → Int64) (ri : Nat → Nat → Int32) (rj : Nat → Nat → Int64) (rq : Nat → Nat → Option Nat) (sz : Nat) (tg : Nat → Nat) (hSH : SH σ tg) (hG0 : GT tg I ri) (this : Nat) (a0 : Int32) (hL_this : this ∈ σ.1) (hK_this : σ.2.1 this = 12) (h_a0 : rg a0 0 599) : MetI l yX12_areaOf (wa yX12_areaOf cX12_areaOf 10 (some .int)) ({ frames := 4, cells := 0, slots := 0, locals := 93 }) [.ref this, .int a0] D t σ (I, J, ri, rj, rq) sz 0 0 (fun (r : Int32) (u : pq_S × pq_M) => u = (σ, I, J, ri, rj, rq)) := by
  refine Met.ofW (cc := cX12_areaOf) (maxL := 10) (ret := (some .int)) (by decide) rfl ?_
  intro p e s m args below meth c s₁ B hml hv
  obtain ⟨rfl, hsz, hP, hK, hD0, hN⟩ := hv
  have hx := B.exec
  have hb := B.bytes
  have hr := B.returns
  have hts := atoms_spec (ws := (wa yX12_areaOf cX12_areaOf 10 (some .int))) B.pre
  have hown : s.vm.findClass RX12 = some m.cls := findClass_of_methodNamed B.named
  have hlocks := B.notSynchronized
  subst hsz
  have hD : va_D (pq_B t σ (I, J, ri, rj, rq) s.heap.size) (pq_P t σ (I, J, ri, rj, rq)) := hD0.self
  generalize hAe : pq_B t σ (I, J, ri, rj, rq) s.heap.size = A at hD ⊢
  have hA : ∀ q : Nat, s.heap.size ≤ q → A q := fun q h => by rw [← hAe]; exact Or.inr h
  have hS : va_S A s.heap s.heap [] := va_S.rf
  have hG : GM [] tg σ I ri I ri rq := ⟨hG0, fun _ _ _ => rfl, fun _ _ _ _ _ => rfl, fun _ _ _ _ _ _ => rfl⟩
  have hl := lv_entry ([.ref this, .int a0]) (n := 10) (Nat.le_of_ble_eq_true rfl)
  rw [lg_entry_eq]
  generalize (lg_sl ([.ref this, .int a0]) ++ List.replicate (10 - (lg_sl ([.ref this, .int a0])).length) Slot.unset).toArray = ls at hl ⊢
  have hl : lv_has ls 10 [(0, .ref this), (1, .int a0)] := hl
  refine q_gen (fun Q hQ => ?_)
  have go : ∀ (H : Heap) (locs : List Loc) (ls : Array Slot), va_P D vwCl (pq_P t σ (I, J, ri, rj, rq)) H → va_D A (pq_P t σ (I, J, ri, rj, rq)) → va_S A s.heap H locs → lv_has ls 10 [(0, .ref this), (1, .int a0)] → W p l e ({ frames := 4, cells := 0, slots := 0, locals := 93 } : Room) s m (List.toArray ([.ref this, .int a0] : List Value)) below meth c H locs 0 0 Q (F0 m 0 ls []) := by
    intro H locs ls hP hD hS hl
    refine lv_aload_n hx hb dX12_areaOf_0 rfl (lv_at hl 0 rfl) ?_
    refine lv_bipush (v := 8) hx hb dX12_areaOf_1 (by decide) ?_
    refine lv_iload_n hx hb dX12_areaOf_3 rfl (lv_at hl 1 rfl) ?_
    refine lv_iconst (v := (-1)) hx hb dX12_areaOf_4 (by decide) ?_
    obtain ⟨w_1, hR_w_1, hL_w_1, hK_w_1, hN_w_1, hT_w_1⟩ := sh_a hSH 384 (ci := 12) (kd := 13) (len := 12720) rfl (by decide) hL_this hK_this
    refine pk_i (va_runV (As := [.int 8, .int a0, .int (-1)]) (rest := []) ⟨hx, hb, hml, hown, hts⟩ (s_X12_numberOf l D t σ I J ri rj rq H.size tg hSH hG.1 this (8 : Int32) a0 (-1 : Int32) hL_this hK_this w_1 hR_w_1 hL_w_1 hK_w_1 hN_w_1 hT_w_1) (cwV 3 hts (tw_V tw_1016 tw_1017 tw_1018 tw_5 tw_1019) rfl rfl rfl cv_yX12_numberOf_3 ⟨Nat.le_of_ble_eq_true rfl, Nat.le_of_ble_eq_true rfl⟩) ⟨pq_blind, pq_recv hK hP hL_this hK_this (by decide) rfl, pq_pre hK hN hP hD⟩ rfl rfl hl.1 rfl (lv_room (Nat.le_of_ble_eq_true rfl)) dX12_areaOf_5 ⟨Nat.le_of_ble_eq_true rfl, Nat.le_of_ble_eq_true rfl⟩) hD hS hA (fun x_2 σ1 μ1 H locs hw_3 hP hD hS => ?_)
    have hu_4 := hw_3
    obtain ⟨hu_4a, hu_4b⟩ := Prod.mk.inj hu_4
    rw [hu_4a, hu_4b] at hP hD
    refine lv_istore_n (lv' := [(2, .int x_2), (0, .ref this), (1, .int a0)]) hx hb dX12_areaOf_8 rfl hl (by decide) rfl (fun ls hl => ?_)
    refine lv_iload_n hx hb dX12_areaOf_9 rfl (lv_at hl 0 rfl) ?_
    have K_27133 : ∀  (x_17 : Int32) (H : Heap) (locs : List Loc) (ls : Array Slot), rg x_17 0 599 → GM [] tg σ I ri I ri rq → va_P D vwCl (pq_P t σ (I, J, ri, rj, rq)) H → va_D A (pq_P t σ (I, J, ri, rj, rq)) → va_S A s.heap H locs → lv_has ls 10 [(0, .ref this)] → W p l e ({ frames := 4, cells := 0, slots := 0, locals := 93 } : Room) s m (List.toArray ([.ref this, .int a0] : List Value)) below meth c H locs 0 0 Q (F0 m 23 ls [.int x_17]) := by
      intro x_17 H locs ls h_27135 hG hP hD hS hl
      have uh_27135 := h_27135.1
      have vh_27135 := h_27135.2
      refine lv_istore_n (lv' := [(3, .int x_17), (0, .ref this)]) hx hb dX12_areaOf_23 rfl hl (by decide) rfl (fun ls hl => ?_)
      refine lv_iconst (v := 0) hx hb dX12_areaOf_24 (by decide) ?_
      refine lv_istore (lv' := [(4, .int 0), (3, .int x_17), (0, .ref this)]) hx hb dX12_areaOf_25 hl (by decide) rfl (fun ls hl => ?_)
      refine lv_iconst (v := 0) hx hb dX12_areaOf_27 (by decide) ?_
      refine lv_istore (lv' := [(5, .int 0), (4, .int 0), (3, .int x_17), (0, .ref this)]) hx hb dX12_areaOf_28 hl (by decide) rfl (fun ls hl => ?_)
      have L_53288 : ∀ (n_53287 : Nat) (x_52322 : Int32) (x_52323 : Int32) (H : Heap) (locs : List Loc) (ls : Array Slot), rg x_52323 0 1024 → (1024 - (x_52323).toInt).toNat < n_53287 → GM [] tg σ I ri I ri rq → va_P D vwCl (pq_P t σ (I, J, ri, rj, rq)) H → va_D A (pq_P t σ (I, J, ri, rj, rq)) → va_S A s.heap H locs → lv_has ls 10 [(0, .ref this), (3, .int x_17), (4, .int x_52322), (5, .int x_52323)] → W p l e ({ frames := 4, cells := 0, slots := 0, locals := 93 } : Room) s m (List.toArray ([.ref this, .int a0] : List Value)) below meth c H locs 0 0 Q (F0 m 30 ls []) := by
        intro n_53287
        induction n_53287 with
        | zero => intro x_52322 x_52323 H locs ls h_53291 hm_53286 hG hP hD hS hl; exact absurd hm_53286 (Nat.not_lt_zero _)
        | succ n_53287 ih_53289 =>
          intro x_52322 x_52323 H locs ls h_53291 hm_53286 hG hP hD hS hl
          have uh_53291 := h_53291.1
          have vh_53291 := h_53291.2
          refine lv_iload hx hb dX12_areaOf_30 (lv_at hl 3 rfl) ?_
          refine lv_sipush (v := 1024) hx hb dX12_areaOf_32 (by decide) ?_
          refine lv_icmp_ge (tgt := 163) hx hb dX12_areaOf_35 (by decide) (fun c_53292 => ?_) (fun c_53292 => ?_)
          · have tc_53293 : 1024 ≤ (x_52323).toInt := Int32.le_iff_toInt_le.mp c_53292
            have h_53294 : rg x_52323 1024 1024 := rg_le2 c_53292 (rg_k (1024 : Int32) 1024 rfl) h_53291 (by decide)
            have uh_53294 := h_53294.1
            have vh_53294 := h_53294.2
            refine lv_iload hx hb dX12_areaOf_163 (lv_at hl 2 rfl) ?_
            subst hQ
            exact W.iret (v := x_52322) hx hb hr (fun t1 ht hW => ⟨⟨x_52322, (σ, I, J, ri, rj, rq), rfl, rfl, by rw [ht]; exact hP, va_K.moved hW.alike hK, hD⟩, hS.F ht⟩) hS.2.2 dX12_areaOf_165
          · have tc_53295 : (x_52323).toInt < 1024 := Int32.lt_iff_toInt_lt.mp (nle c_53292)
            have h_53296 : rg x_52323 0 1023 := rg_lt1 (nle c_53292) h_53291 (rg_k (1024 : Int32) 1024 rfl) (by decide)
            have uh_53296 := h_53296.1
            have vh_53296 := h_53296.2
            refine lv_iconst (v := 0) hx hb dX12_areaOf_38 (by decide) ?_
            refine lv_istore (lv' := [(6, .int 0), (0, .ref this), (3, .int x_17), (4, .int x_52322), (5, .int x_52323)]) hx hb dX12_areaOf_39 hl (by decide) rfl (fun ls hl => ?_)
            refine lv_iconst (v := 0) hx hb dX12_areaOf_41 (by decide) ?_
            refine lv_istore (lv' := [(7, .int 0), (6, .int 0), (0, .ref this), (3, .int x_17), (4, .int x_52322), (5, .int x_52323)]) hx hb dX12_areaOf_42 hl (by decide) rfl (fun ls hl => ?_)
            have L_54185 : ∀ (n_54184 : Nat) (x_54113 : Int32) (x_54114 : Int32) (H : Heap) (locs : List Loc) (ls : Array Slot), rg x_54113 0 1 → rg x_54114 0 40 → (40 - (x_54114).toInt).toNat < n_54184 → GM [] tg σ I ri I ri rq → va_P D vwCl (pq_P t σ (I, J, ri, rj, rq)) H → va_D A (pq_P t σ (I, J, ri, rj, rq)) → va_S A s.heap H locs → lv_has ls 10 [(0, .ref this), (3, .int x_17), (4, .int x_52322), (5, .int x_52323), (6, .int x_54113), (7, .int x_54114)] → W p l e ({ frames := 4, cells := 0, slots := 0, locals := 93 } : Room) s m (List.toArray ([.ref this, .int a0] : List Value)) below meth c H locs 0 0 Q (F0 m 44 ls []) := by
              intro n_54184
              induction n_54184 with
              | zero => intro x_54113 x_54114 H locs ls h_54189 h_54190 hm_54183 hG hP hD hS hl; exact absurd hm_54183 (Nat.not_lt_zero _)
              | succ n_54184 ih_54186 =>
                intro x_54113 x_54114 H locs ls h_54189 h_54190 hm_54183 hG hP hD hS hl
                have uh_54189 := h_54189.1
                have vh_54189 := h_54189.2
                have uh_54190 := h_54190.1
                have vh_54190 := h_54190.2
                refine lv_iload hx hb dX12_areaOf_44 (lv_at hl 5 rfl) ?_
                refine lv_aload_n hx hb dX12_areaOf_46 rfl (lv_at hl 0 rfl) ?_
                refine pg_f (v := .ref w_1) (C := RX12) (T := TX12) (N := 31) hx hb hts (tw_i inlX12) hown hK hP hL_this hK_this (by decide) rfl 0 (by decide) (hts _ (tw_c tw_176)) (pq_hv rfl hR_w_1) dX12_areaOf_47 ?_
                refine lv_iconst (v := 2) hx hb dX12_areaOf_50 (by decide) ?_
                refine pl_i hx hb hK hP hL_w_1 hK_w_1 hN_w_1 (vp_in_iff.mpr (by decide)) dX12_areaOf_51 ?_
                refine lv_tov (ri w_1 2) rfl ?_
                have h_54191 : rg (ri w_1 2) 0 40 := GM.z0 hG0 (by rw [hT_w_1]; decide) (i := 2) (k := 2) (by decide) rfl
                have uh_54191 := h_54191.1
                have vh_54191 := h_54191.2
                have K_54257 : ∀  (H : Heap) (locs : List Loc) (ls : Array Slot), GM [] tg σ I ri I ri rq → va_P D vwCl (pq_P t σ (I, J, ri, rj, rq)) H → va_D A (pq_P t σ (I, J, ri, rj, rq)) → va_S A s.heap H locs → lv_has ls 10 [(0, .ref this), (3, .int x_17), (4, .int x_52322), (5, .int x_52323), (6, .int x_54113)] → W p l e ({ frames := 4, cells := 0, slots := 0, locals := 93 } : Room) s m (List.toArray ([.ref this, .int a0] : List Value)) below meth c H locs 0 0 Q (F0 m 142 ls []) := by
                  intro H locs ls hG hP hD hS hl
                  refine lv_iload hx hb dX12_areaOf_142 (lv_at hl 2 rfl) ?_
                  refine lv_iload hx hb dX12_areaOf_144 (lv_at hl 4 rfl) ?_
                  have K_54272 : ∀  (H : Heap) (locs : List Loc) (ls : Array Slot), rg (x_54113) 0 0 → GM [] tg σ I ri I ri rq → va_P D vwCl (pq_P t σ (I, J, ri, rj, rq)) H → va_D A (pq_P t σ (I, J, ri, rj, rq)) → va_S A s.heap H locs → lv_has ls 10 [(0, .ref this), (3, .int x_17), (5, .int x_52323)] → W p l e ({ frames := 4, cells := 0, slots := 0, locals := 93 } : Room) s m (List.toArray ([.ref this, .int a0] : List Value)) below meth c H locs 0 0 Q (F0 m 154 ls [.int 0, .int x_52322]) := by
                    intro H locs ls h_54274 hG hP hD hS hl
                    have uh_54274 := h_54274.1
                    have vh_54274 := h_54274.2
                    refine lv_iadd hx hb dX12_areaOf_154 ?_
                    refine lv_topi (fun x_54275 ex_54275 => ?_)
                    have h_54276 : rg x_54275 (-2147483648) 2147483647 := rg_of_eq ex_54275 (rg_add (rg_full _) (rg_k (0 : Int32) 0 rfl) (by decide))
                    have uh_54276 := h_54276.1
                    have vh_54276 := h_54276.2
                    have tx_54275 : (x_54275).toInt = (x_52322).toInt + 0 := by rw [ex_54275]; exact i_add_rg (a2 := (x_52322).toInt) (b2 := 0) rfl rfl (rg_full _) (rg_k (0 : Int32) 0 rfl) (by decide)
                    refine lv_istore (lv' := [(4, .int x_54275), (0, .ref this), (3, .int x_17), (5, .int x_52323)]) hx hb dX12_areaOf_155 hl (by decide) rfl (fun ls hl => ?_)
                    obtain ⟨x_54277, ex_54277⟩ : ∃ y : Int32, y = x_52323 + Int32.ofInt 1 := ⟨_, rfl⟩
                    have h_54278 : rg x_54277 1 1024 := rg_of_eq ex_54277 (rg_add h_53296 (rg_k (Int32.ofInt 1) 1 rfl) (by decide))
                    have uh_54278 := h_54278.1
                    have vh_54278 := h_54278.2
                    have tx_54277 : (x_54277).toInt = (x_52323).toInt + 1 := by rw [ex_54277]; exact i_add_rg (a2 := (x_52323).toInt) (b2 := 1) rfl rfl h_53296 (rg_k (Int32.ofInt 1) 1 rfl) (by decide)
                    refine lv_iinc (v := x_54277) (lv' := [(5, .int x_54277), (4, .int x_54275), (0, .ref this), (3, .int x_17)]) hx hb dX12_areaOf_157 hl (k := 3) rfl ex_54277.symm (by decide) rfl (fun ls hl => ?_)
                    refine lv_goto (tgt := 30) hx hb dX12_areaOf_160 (by decide) ?_
                    exact ih_53289 x_54275 x_54277 _ _ _ (rg_w h_54278 (by decide)) (ms_up 1 hm_53286 ex_54277 rfl (by decide) h_53296 (by decide) (by decide)) hG hP hD hS (lv_sub hl [2, 3, 1, 0] rfl)
                  have K_54279 : ∀  (H : Heap) (locs : List Loc) (ls : Array Slot), rg (x_54113) 1 1 → GM [] tg σ I ri I ri rq → va_P D vwCl (pq_P t σ (I, J, ri, rj, rq)) H → va_D A (pq_P t σ (I, J, ri, rj, rq)) → va_S A s.heap H locs → lv_has ls 10 [(0, .ref this), (3, .int x_17), (5, .int x_52323)] → W p l e ({ frames := 4, cells := 0, slots := 0, locals := 93 } : Room) s m (List.toArray ([.ref this, .int a0] : List Value)) below meth c H locs 0 0 Q (F0 m 154 ls [.int 1, .int x_52322]) := by
                    intro H locs ls h_54281 hG hP hD hS hl
                    have uh_54281 := h_54281.1
                    have vh_54281 := h_54281.2
                    refine lv_iadd hx hb dX12_areaOf_154 ?_
                    refine lv_topi (fun x_54282 ex_54282 => ?_)
                    refine lv_istore (lv' := [(4, .int x_54282), (0, .ref this), (3, .int x_17), (5, .int x_52323)]) hx hb dX12_areaOf_155 hl (by decide) rfl (fun ls hl => ?_)
                    obtain ⟨x_54283, ex_54283⟩ : ∃ y : Int32, y = x_52323 + Int32.ofInt 1 := ⟨_, rfl⟩
                    have h_54284 : rg x_54283 1 1024 := rg_of_eq ex_54283 (rg_add h_53296 (rg_k (Int32.ofInt 1) 1 rfl) (by decide))
                    have uh_54284 := h_54284.1
                    have vh_54284 := h_54284.2
                    have tx_54283 : (x_54283).toInt = (x_52323).toInt + 1 := by rw [ex_54283]; exact i_add_rg (a2 := (x_52323).toInt) (b2 := 1) rfl rfl h_53296 (rg_k (Int32.ofInt 1) 1 rfl) (by decide)
                    refine lv_iinc (v := x_54283) (lv' := [(5, .int x_54283), (4, .int x_54282), (0, .ref this), (3, .int x_17)]) hx hb dX12_areaOf_157 hl (k := 3) rfl ex_54283.symm (by decide) rfl (fun ls hl => ?_)
                    refine lv_goto (tgt := 30) hx hb dX12_areaOf_160 (by decide) ?_
                    exact ih_53289 x_54282 x_54283 _ _ _ (rg_w h_54284 (by decide)) (ms_up 1 hm_53286 ex_54283 rfl (by decide) h_53296 (by decide) (by decide)) hG hP hD hS (lv_sub hl [2, 3, 1, 0] rfl)
                  refine lv_if_eq (tgt := 153) hx hb dX12_areaOf_146 (by decide) (fun c_54285 => ?_) (fun c_54285 => ?_)
                  · have tc_54286 : (x_54113).toInt = 0 := congrArg Int32.toInt c_54285
                    have h_54287 : rg x_54113 0 0 := rg_and h_54189 (rg_of_eq c_54285 (rg_k (0 : Int32) 0 rfl)) (by decide)
                    have uh_54287 := h_54287.1
                    have vh_54287 := h_54287.2
                    refine lv_iconst (v := 0) hx hb dX12_areaOf_153 (by decide) ?_
                    exact K_54272 _ _ _ (rg_w h_54287 (by decide)) hG hP hD hS (lv_sub hl [0, 1, 3] rfl)
                  · have tc_54288 : (x_54113).toInt ≠ 0 := fun q => c_54285 (Int32.toInt_inj.mp q)
                    have h_54289 : rg x_54113 1 1 := rg_ne c_54285 h_54189 0 rfl (by decide)
                    have uh_54289 := h_54289.1
                    have vh_54289 := h_54289.2
                    refine lv_iconst (v := 1) hx hb dX12_areaOf_149 (by decide) ?_
                    refine lv_goto (tgt := 154) hx hb dX12_areaOf_150 (by decide) ?_
                    exact K_54279 _ _ _ (rg_w h_54289 (by decide)) hG hP hD hS (lv_sub hl [0, 1, 3] rfl)
                refine lv_icmp_ge (tgt := 142) hx hb dX12_areaOf_52 (by decide) (fun c_54290 => ?_) (fun c_54290 => ?_)
                · have tc_54291 : (ri w_1 2).toInt ≤ (x_54114).toInt := Int32.le_iff_toInt_le.mp c_54290
                  exact K_54257 _ _ _ hG hP hD hS (lv_sub hl [0, 1, 2, 3, 4] rfl)
                · have tc_54292 : (x_54114).toInt < (ri w_1 2).toInt := Int32.lt_iff_toInt_lt.mp (nle c_54290)
                  have h_54293 : rg x_54114 0 39 := rg_lt1 (nle c_54290) h_54190 h_54191 (by decide)
                  have uh_54293 := h_54293.1
                  have vh_54293 := h_54293.2
                  have h_54294 : rg (ri w_1 2) 1 40 := rg_lt2 (nle c_54290) h_54190 h_54191 (by decide)
                  have uh_54294 := h_54294.1
                  have vh_54294 := h_54294.2
                  refine lv_iload hx hb dX12_areaOf_55 (lv_at hl 4 rfl) ?_
                  refine lv_if_ne (tgt := 142) hx hb dX12_areaOf_57 (by decide) (fun c_54295 => ?_) (fun c_54295 => ?_)
                  · have tc_54296 : (x_54113).toInt ≠ 0 := fun q => c_54295 (Int32.toInt_inj.mp q)
                    have h_54297 : rg x_54113 1 1 := rg_ne c_54295 h_54189 0 rfl (by decide)
                    have uh_54297 := h_54297.1
                    have vh_54297 := h_54297.2
                    exact K_54257 _ _ _ hG hP hD hS (lv_sub hl [0, 1, 2, 3, 4] rfl)
                  · have tc_54298 : (x_54113).toInt = 0 := congrArg Int32.toInt c_54295
                    have h_54299 : rg x_54113 0 0 := rg_and h_54189 (rg_of_eq c_54295 (rg_k (0 : Int32) 0 rfl)) (by decide)
                    have uh_54299 := h_54299.1
                    have vh_54299 := h_54299.2
                    refine lv_iload hx hb dX12_areaOf_60 (lv_at hl 3 rfl) ?_
                    refine lv_bipush (v := 32) hx hb dX12_areaOf_62 (by decide) ?_
                    refine lv_irem hx hb dX12_areaOf_64 (by decide) ?_
                    refine lv_topi (fun x_54300 ex_54300 => ?_)
                    have h_54301 : rg x_54300 0 31 := rg_of_eq ex_54300 (rg_rem h_53296 rfl (by decide))
                    have uh_54301 := h_54301.1
                    have vh_54301 := h_54301.2
                    refine lv_aload_n hx hb dX12_areaOf_65 rfl (lv_at hl 0 rfl) ?_
                    refine lv_iload hx hb dX12_areaOf_66 (lv_at hl 5 rfl) ?_
                    refine lv_iconst (v := 2) hx hb dX12_areaOf_68 (by decide) ?_
                    refine pk_i (va_runV (As := [.int x_54114, .int 2]) (rest := [.int x_54300]) ⟨hx, hb, hml, hown, hts⟩ (s_X12_cellAt_c2 l D t σ I J ri rj rq H.size tg hSH hG.1 this x_54114 hL_this hK_this (rg_w h_54293 (by decide))) (cwV 2 hts (tw_V tw_361 tw_362 tw_363 tw_5 tw_364) rfl rfl rfl cv_yX12_cellAt_2 ⟨Nat.le_of_ble_eq_true rfl, Nat.le_of_ble_eq_true rfl⟩) ⟨pq_blind, pq_recv hK hP hL_this hK_this (by decide) rfl, pq_pre hK hN hP hD⟩ rfl rfl hl.1 rfl (lv_room (Nat.le_of_ble_eq_true rfl)) dX12_areaOf_69 ⟨Nat.le_of_ble_eq_true rfl, Nat.le_of_ble_eq_true rfl⟩) hD hS hA (fun x_54302 σ1 μ1 H locs hw_54303 hP hD hS => ?_)
                    have hu_54304 := hw_54303
                    obtain ⟨hu_54304a, hu_54304b⟩ := Prod.mk.inj hu_54304
                    rw [hu_54304a, hu_54304b] at hP hD
                    refine lv_isub hx hb dX12_areaOf_72 ?_
                    refine lv_topi (fun x_54307 ex_54307 => ?_)
                    refine lv_istore (lv' := [(8, .int x_54307), (0, .ref this), (3, .int x_17), (4, .int x_52322), (5, .int x_52323), (6, .int x_54113), (7, .int x_54114)]) hx hb dX12_areaOf_73 hl (by decide) rfl (fun ls hl => ?_)
                    refine lv_iload hx hb dX12_areaOf_75 (lv_at hl 4 rfl) ?_
                    refine lv_bipush (v := 32) hx hb dX12_areaOf_77 (by decide) ?_
                    refine lv_idiv hx hb dX12_areaOf_79 (by decide) ?_
                    refine lv_topi (fun x_54308 ex_54308 => ?_)
                    have h_54309 : rg x_54308 0 31 := rg_of_eq ex_54308 (rg_div h_53296 rfl (by decide))
                    have uh_54309 := h_54309.1
                    have vh_54309 := h_54309.2
                    refine lv_aload_n hx hb dX12_areaOf_80 rfl (lv_at hl 1 rfl) ?_
                    refine lv_iload hx hb dX12_areaOf_81 (lv_at hl 6 rfl) ?_
                    refine lv_iconst (v := 3) hx hb dX12_areaOf_83 (by decide) ?_
                    refine pk_i (va_runV (As := [.int x_54114, .int 3]) (rest := [.int x_54308]) ⟨hx, hb, hml, hown, hts⟩ (s_X12_cellAt_c3 l D t σ I J ri rj rq H.size tg hSH hG.1 this x_54114 hL_this hK_this (rg_w h_54293 (by decide))) (cwV 2 hts (tw_V tw_361 tw_362 tw_363 tw_5 tw_364) rfl rfl rfl cv_yX12_cellAt_2 ⟨Nat.le_of_ble_eq_true rfl, Nat.le_of_ble_eq_true rfl⟩) ⟨pq_blind, pq_recv hK hP hL_this hK_this (by decide) rfl, pq_pre hK hN hP hD⟩ rfl rfl hl.1 rfl (lv_room (Nat.le_of_ble_eq_true rfl)) dX12_areaOf_84 ⟨Nat.le_of_ble_eq_true rfl, Nat.le_of_ble_eq_true rfl⟩) hD hS hA (fun x_54310 σ1 μ1 H locs hw_54311 hP hD hS => ?_)
                    have hu_54312 := hw_54311
                    obtain ⟨hu_54312a, hu_54312b⟩ := Prod.mk.inj hu_54312
                    rw [hu_54312a, hu_54312b] at hP hD
                    refine lv_isub hx hb dX12_areaOf_87 ?_
                    refine lv_topi (fun x_54315 ex_54315 => ?_)
                    refine lv_istore (lv' := [(9, .int x_54315), (8, .int x_54307), (0, .ref this), (3, .int x_17), (4, .int x_52322), (5, .int x_52323), (6, .int x_54113), (7, .int x_54114)]) hx hb dX12_areaOf_88 hl (by decide) rfl (fun ls hl => ?_)
                    refine lv_iload hx hb dX12_areaOf_90 (lv_at hl 1 rfl) ?_
                    refine lv_iload hx hb dX12_areaOf_92 (lv_at hl 1 rfl) ?_
                    refine lv_imul hx hb dX12_areaOf_94 ?_
                    refine lv_topi (fun x_54316 ex_54316 => ?_)
                    refine lv_iload hx hb dX12_areaOf_95 (lv_at hl 0 rfl) ?_
                    refine lv_iload hx hb dX12_areaOf_97 (lv_at hl 0 rfl) ?_
                    refine lv_imul hx hb dX12_areaOf_99 ?_
                    refine lv_topi (fun x_54317 ex_54317 => ?_)
                    refine lv_iadd hx hb dX12_areaOf_100 ?_
                    refine lv_topi (fun x_54318 ex_54318 => ?_)
                    refine lv_aload_n hx hb dX12_areaOf_101 rfl (lv_at hl 2 rfl) ?_
                    refine pg_f (v := .ref w_1) (C := RX12) (T := TX12) (N := 31) hx hb hts (tw_i inlX12) hown hK hP hL_this hK_this (by decide) rfl 0 (by decide) (hts _ (tw_c tw_176)) (pq_hv rfl hR_w_1) dX12_areaOf_102 ?_
                    refine lv_bipush (v := 16) hx hb dX12_areaOf_105 (by decide) ?_
                    refine pl_i hx hb hK hP hL_w_1 hK_w_1 hN_w_1 (vp_in_iff.mpr (by decide)) dX12_areaOf_107 ?_
                    refine lv_topi (fun x_54319 ex_54319 => ?_)
                    refine lv_aload_n hx hb dX12_areaOf_108 rfl (lv_at hl 2 rfl) ?_
                    refine pg_f (v := .ref w_1) (C := RX12) (T := TX12) (N := 31) hx hb hts (tw_i inlX12) hown hK hP hL_this hK_this (by decide) rfl 0 (by decide) (hts _ (tw_c tw_176)) (pq_hv rfl hR_w_1) dX12_areaOf_109 ?_
                    refine lv_bipush (v := 16) hx hb dX12_areaOf_112 (by decide) ?_
                    refine pl_i hx hb hK hP hL_w_1 hK_w_1 hN_w_1 (vp_in_iff.mpr (by decide)) dX12_areaOf_114 ?_
                    refine lv_tov x_54319 ex_54319.symm ?_
                    refine lv_imul hx hb dX12_areaOf_115 ?_
                    refine lv_topi (fun x_54320 ex_54320 => ?_)
                    have K_54341 : ∀  (H : Heap) (locs : List Loc) (ls : Array Slot), GM [] tg σ I ri I ri rq → va_P D vwCl (pq_P t σ (I, J, ri, rj, rq)) H → va_D A (pq_P t σ (I, J, ri, rj, rq)) → va_S A s.heap H locs → lv_has ls 10 [(0, .ref this), (3, .int x_17), (4, .int x_52322), (5, .int x_52323), (7, .int x_54114)] → W p l e ({ frames := 4, cells := 0, slots := 0, locals := 93 } : Room) s m (List.toArray ([.ref this, .int a0] : List Value)) below meth c H locs 0 0 Q (F0 m 134 ls [.int 1]) := by
                      intro H locs ls hG hP hD hS hl
                      refine lv_istore (lv' := [(6, .int 1), (0, .ref this), (3, .int x_17), (4, .int x_52322), (5, .int x_52323), (7, .int x_54114)]) hx hb dX12_areaOf_134 hl (by decide) rfl (fun ls hl => ?_)
                      obtain ⟨x_54342, ex_54342⟩ : ∃ y : Int32, y = x_54114 + Int32.ofInt 1 := ⟨_, rfl⟩
                      have h_54343 : rg x_54342 1 40 := rg_of_eq ex_54342 (rg_add h_54293 (rg_k (Int32.ofInt 1) 1 rfl) (by decide))
                      have uh_54343 := h_54343.1
                      have vh_54343 := h_54343.2
                      have tx_54342 : (x_54342).toInt = (x_54114).toInt + 1 := by rw [ex_54342]; exact i_add_rg (a2 := (x_54114).toInt) (b2 := 1) rfl rfl h_54293 (rg_k (Int32.ofInt 1) 1 rfl) (by decide)
                      refine lv_iinc (v := x_54342) (lv' := [(7, .int x_54342), (6, .int 1), (0, .ref this), (3, .int x_17), (4, .int x_52322), (5, .int x_52323)]) hx hb dX12_areaOf_136 hl (k := 5) rfl ex_54342.symm (by decide) rfl (fun ls hl => ?_)
                      refine lv_goto (tgt := 44) hx hb dX12_areaOf_139 (by decide) ?_
                      exact ih_54186 (1 : Int32) x_54342 _ _ _ (rg_w (rg_k (1 : Int32) 1 rfl) (by decide)) (rg_w h_54343 (by decide)) (ms_up 1 hm_54183 ex_54342 rfl (by decide) h_54293 (by decide) (by decide)) hG hP hD hS (lv_sub hl [2, 3, 4, 5, 1, 0] rfl)
                    have K_54344 : ∀  (H : Heap) (locs : List Loc) (ls : Array Slot), GM [] tg σ I ri I ri rq → va_P D vwCl (pq_P t σ (I, J, ri, rj, rq)) H → va_D A (pq_P t σ (I, J, ri, rj, rq)) → va_S A s.heap H locs → lv_has ls 10 [(0, .ref this), (3, .int x_17), (4, .int x_52322), (5, .int x_52323), (7, .int x_54114)] → W p l e ({ frames := 4, cells := 0, slots := 0, locals := 93 } : Room) s m (List.toArray ([.ref this, .int a0] : List Value)) below meth c H locs 0 0 Q (F0 m 134 ls [.int 0]) := by
                      intro H locs ls hG hP hD hS hl
                      refine lv_istore (lv' := [(6, .int 0), (0, .ref this), (3, .int x_17), (4, .int x_52322), (5, .int x_52323), (7, .int x_54114)]) hx hb dX12_areaOf_134 hl (by decide) rfl (fun ls hl => ?_)
                      obtain ⟨x_54345, ex_54345⟩ : ∃ y : Int32, y = x_54114 + Int32.ofInt 1 := ⟨_, rfl⟩
                      have h_54346 : rg x_54345 1 40 := rg_of_eq ex_54345 (rg_add h_54293 (rg_k (Int32.ofInt 1) 1 rfl) (by decide))
                      have uh_54346 := h_54346.1
                      have vh_54346 := h_54346.2
                      have tx_54345 : (x_54345).toInt = (x_54114).toInt + 1 := by rw [ex_54345]; exact i_add_rg (a2 := (x_54114).toInt) (b2 := 1) rfl rfl h_54293 (rg_k (Int32.ofInt 1) 1 rfl) (by decide)
                      refine lv_iinc (v := x_54345) (lv' := [(7, .int x_54345), (6, .int 0), (0, .ref this), (3, .int x_17), (4, .int x_52322), (5, .int x_52323)]) hx hb dX12_areaOf_136 hl (k := 5) rfl ex_54345.symm (by decide) rfl (fun ls hl => ?_)
                      refine lv_goto (tgt := 44) hx hb dX12_areaOf_139 (by decide) ?_
                      exact ih_54186 (0 : Int32) x_54345 _ _ _ (rg_w (rg_k (0 : Int32) 0 rfl) (by decide)) (rg_w h_54346 (by decide)) (ms_up 1 hm_54183 ex_54345 rfl (by decide) h_54293 (by decide) (by decide)) hG hP hD hS (lv_sub hl [2, 3, 4, 5, 1, 0] rfl)
                    have K_54347 : ∀  (H : Heap) (locs : List Loc) (ls : Array Slot), GM [] tg σ I ri I ri rq → va_P D vwCl (pq_P t σ (I, J, ri, rj, rq)) H → va_D A (pq_P t σ (I, J, ri, rj, rq)) → va_S A s.heap H locs → lv_has ls 10 [(0, .ref this), (3, .int x_17), (4, .int x_52322), (5, .int x_52323), (7, .int x_54114)] → W p l e ({ frames := 4, cells := 0, slots := 0, locals := 93 } : Room) s m (List.toArray ([.ref this, .int a0] : List Value)) below meth c H locs 0 0 Q (F0 m 133 ls []) := by
                      intro H locs ls hG hP hD hS hl
                      refine lv_iconst (v := 0) hx hb dX12_areaOf_133 (by decide) ?_
                      exact K_54344 _ _ _ hG hP hD hS (lv_sub hl [0, 1, 2, 3, 4] rfl)
                    refine lv_icmp_gt (tgt := 133) hx hb dX12_areaOf_116 (by decide) (fun c_54348 => ?_) (fun c_54348 => ?_)
                    · have tc_54349 : (x_54320).toInt < (x_54318).toInt := Int32.lt_iff_toInt_lt.mp c_54348
                      have h_54350 : rg x_54320 (-2147483648) 2147483646 := rg_lt1 c_54348 (rg_full _) (rg_full _) (by decide)
                      have uh_54350 := h_54350.1
                      have vh_54350 := h_54350.2
                      have h_54351 : rg x_54318 (-2147483647) 2147483647 := rg_lt2 c_54348 (rg_full _) (rg_full _) (by decide)
                      have uh_54351 := h_54351.1
                      have vh_54351 := h_54351.2
                      exact K_54347 _ _ _ hG hP hD hS (lv_sub hl [2, 3, 4, 5, 7] rfl)
                    · have tc_54352 : (x_54318).toInt ≤ (x_54320).toInt := Int32.le_iff_toInt_le.mp (nlt c_54348)
                      refine lv_aload_n hx hb dX12_areaOf_119 rfl (lv_at hl 2 rfl) ?_
                      refine lv_iload hx hb dX12_areaOf_120 (lv_at hl 7 rfl) ?_
                      refine lv_iload_n hx hb dX12_areaOf_122 rfl (lv_at hl 3 rfl) ?_
                      refine pk_i (va_runV (As := [.int x_54114, .int x_17]) (rest := []) ⟨hx, hb, hml, hown, hts⟩ (s_X12_wasRock l D t σ I J ri rj rq H.size tg hSH hG.1 this x_54114 x_17 hL_this hK_this (rg_w h_54293 (by decide)) (rg_w h_27135 (by decide))) (cwV 2 hts (tw_V tw_1243 tw_1244 tw_1245 tw_5 tw_1246) rfl rfl rfl cv_yX12_wasRock_2 ⟨Nat.le_of_ble_eq_true rfl, Nat.le_of_ble_eq_true rfl⟩) ⟨pq_blind, pq_recv hK hP hL_this hK_this (by decide) rfl, pq_pre hK hN hP hD⟩ rfl rfl hl.1 rfl (lv_room (Nat.le_of_ble_eq_true rfl)) dX12_areaOf_123 ⟨Nat.le_of_ble_eq_true rfl, Nat.le_of_ble_eq_true rfl⟩) hD hS hA (fun x_54353 σ1 μ1 H locs hw_54354 hP hD hS => ?_)
                      obtain ⟨hu_54355, hr_54357⟩ := hw_54354
                      obtain ⟨hu_54355a, hu_54355b⟩ := Prod.mk.inj hu_54355
                      rw [hu_54355a, hu_54355b] at hP hD
                      have h_54358 : rg x_54353 0 1 := by rcases hr_54357 with ⟨q, -⟩ | ⟨q, -⟩ <;> rw [q] <;> exact ⟨by decide, by decide⟩
                      have uh_54358 := h_54358.1
                      have vh_54358 := h_54358.2
                      refine lv_if_eq (tgt := 133) hx hb dX12_areaOf_126 (by decide) (fun c_54359 => ?_) (fun c_54359 => ?_)
                      · have tc_54360 : (x_54353).toInt = 0 := congrArg Int32.toInt c_54359
                        have h_54361 : rg x_54353 0 0 := rg_and h_54358 (rg_of_eq c_54359 (rg_k (0 : Int32) 0 rfl)) (by decide)
                        have uh_54361 := h_54361.1
                        have vh_54361 := h_54361.2
                        exact K_54347 _ _ _ hG hP hD hS (lv_sub hl [2, 3, 4, 5, 7] rfl)
                      · have tc_54362 : (x_54353).toInt ≠ 0 := fun q => c_54359 (Int32.toInt_inj.mp q)
                        have h_54363 : rg x_54353 1 1 := rg_ne c_54359 h_54358 0 rfl (by decide)
                        have uh_54363 := h_54363.1
                        have vh_54363 := h_54363.2
                        refine lv_iconst (v := 1) hx hb dX12_areaOf_129 (by decide) ?_
                        refine lv_goto (tgt := 134) hx hb dX12_areaOf_130 (by decide) ?_
                        exact K_54341 _ _ _ hG hP hD hS (lv_sub hl [2, 3, 4, 5, 7] rfl)
            exact L_54185 _ (0 : Int32) (0 : Int32) _ _ _ (rg_w (rg_k (0 : Int32) 0 rfl) (by decide)) (rg_w (rg_k (0 : Int32) 0 rfl) (by decide)) (Nat.lt_succ_self _) hG hP hD hS (lv_sub hl [2, 3, 4, 5, 1, 0] rfl)
      exact L_53288 _ (0 : Int32) (0 : Int32) _ _ _ (rg_w (rg_k (0 : Int32) 0 rfl) (by decide)) (Nat.lt_succ_self _) hG hP hD hS (lv_sub hl [3, 2, 1, 0] rfl)
    have K_54364 : ∀  (H : Heap) (locs : List Loc) (ls : Array Slot), GM [] tg σ I ri I ri rq → va_P D vwCl (pq_P t σ (I, J, ri, rj, rq)) H → va_D A (pq_P t σ (I, J, ri, rj, rq)) → va_S A s.heap H locs → lv_has ls 10 [(0, .ref this), (1, .int a0)] → W p l e ({ frames := 4, cells := 0, slots := 0, locals := 93 } : Room) s m (List.toArray ([.ref this, .int a0] : List Value)) below meth c H locs 0 0 Q (F0 m 22 ls []) := by
      intro H locs ls hG hP hD hS hl
      refine lv_iload_n hx hb dX12_areaOf_22 rfl (lv_at hl 1 rfl) ?_
      exact K_27133 a0 _ _ _ (rg_w h_a0 (by decide)) hG hP hD hS (lv_sub hl [0] rfl)
    refine lv_if_lt (tgt := 22) hx hb dX12_areaOf_10 (by decide) (fun c_54365 => ?_) (fun c_54365 => ?_)
    · have tc_54366 : (x_2).toInt < 0 := Int32.lt_iff_toInt_lt.mp c_54365
      have h_54367 : rg x_2 (-2147483648) (-1) := rg_lt1 c_54365 (rg_full _) (rg_k (0 : Int32) 0 rfl) (by decide)
      have uh_54367 := h_54367.1
      have vh_54367 := h_54367.2
      exact K_54364 _ _ _ hG hP hD hS (lv_sub hl [1, 2] rfl)
    · have tc_54368 : 0 ≤ (x_2).toInt := Int32.le_iff_toInt_le.mp (nlt c_54365)
      have h_54369 : rg x_2 0 2147483647 := rg_le2 (nlt c_54365) (rg_k (0 : Int32) 0 rfl) (rg_full _) (by decide)
      have uh_54369 := h_54369.1
      have vh_54369 := h_54369.2
      refine lv_iload_n hx hb dX12_areaOf_13 rfl (lv_at hl 0 rfl) ?_
      refine lv_iload_n hx hb dX12_areaOf_14 rfl (lv_at hl 2 rfl) ?_
      refine lv_icmp_ge (tgt := 22) hx hb dX12_areaOf_15 (by decide) (fun c_54370 => ?_) (fun c_54370 => ?_)
      · have tc_54371 : (a0).toInt ≤ (x_2).toInt := Int32.le_iff_toInt_le.mp c_54370
        exact K_54364 _ _ _ hG hP hD hS (lv_sub hl [1, 2] rfl)
      · have tc_54372 : (x_2).toInt < (a0).toInt := Int32.lt_iff_toInt_lt.mp (nle c_54370)
        have h_54373 : rg x_2 0 598 := rg_lt1 (nle c_54370) h_54369 h_a0 (by decide)
        have uh_54373 := h_54373.1
        have vh_54373 := h_54373.2
        have h_54374 : rg a0 1 599 := rg_lt2 (nle c_54370) h_54369 h_a0 (by decide)
        have uh_54374 := h_54374.1
        have vh_54374 := h_54374.2
        refine lv_iload_n hx hb dX12_areaOf_18 rfl (lv_at hl 0 rfl) ?_
        refine lv_goto (tgt := 23) hx hb dX12_areaOf_19 (by decide) ?_
        exact K_27133 x_2 _ _ _ (rg_w h_54373 (by decide)) hG hP hD hS (lv_sub hl [1] rfl)
  exact go _ _ _ hP hD hS hl

set_option maxHeartbeats 4000000 in
set_option maxRecDepth 100000 in
theorem s_X12_personAt_c4 (l : Launch) (D : va_G) (t : pq_T) (σ : pq_S) (I : Nat → Nat → Int32) (J : Nat → Nat → Int64) (ri : Nat → Nat → Int32) (rj : Nat → Nat → Int64) (rq : Nat → Nat → Option Nat) (sz : Nat) (tg : Nat → Nat) (hSH : SH σ tg) (hG0 : GT tg I ri) (this : Nat) (a0 : Int32) (hL_this : this ∈ σ.1) (hK_this : σ.2.1 this = 12) (h_a0 : rg a0 0 39) (this_a : Nat) (hR_this_a : σ.2.2.1 384 this = some this_a) (hL_this_a : this_a ∈ σ.1) (hK_this_a : σ.2.1 this_a = 13) (hN_this_a : σ.2.2.2 this_a = 12720) (hT_this_a : tg this_a = 384) : MetI l yX12_personAt (wa yX12_personAt cX12_personAt 3 (some .int)) ({ frames := 0, cells := 0, slots := 0, locals := 0 }) [.ref this, .int a0, .int 4] D t σ (I, J, ri, rj, rq) sz 0 0 (fun (r : Int32) (u : pq_S × pq_M) => u = (σ, I, J, ri, rj, rq) ∧ (r = ri this_a (744 + 12 * a0.toNatClampNeg))) := by
  refine Met.ofW (cc := cX12_personAt) (maxL := 3) (ret := (some .int)) (by decide) rfl ?_
  intro p e s m args below meth c s₁ B hml hv
  obtain ⟨rfl, hsz, hP, hK, hD0, hN⟩ := hv
  have hx := B.exec
  have hb := B.bytes
  have hr := B.returns
  have hts := atoms_spec (ws := (wa yX12_personAt cX12_personAt 3 (some .int))) B.pre
  have hown : s.vm.findClass RX12 = some m.cls := findClass_of_methodNamed B.named
  have hlocks := B.notSynchronized
  subst hsz
  have hD : va_D (pq_B t σ (I, J, ri, rj, rq) s.heap.size) (pq_P t σ (I, J, ri, rj, rq)) := hD0.self
  generalize hAe : pq_B t σ (I, J, ri, rj, rq) s.heap.size = A at hD ⊢
  have hA : ∀ q : Nat, s.heap.size ≤ q → A q := fun q h => by rw [← hAe]; exact Or.inr h
  have hS : va_S A s.heap s.heap [] := va_S.rf
  have hG : GM [] tg σ I ri I ri rq := ⟨hG0, fun _ _ _ => rfl, fun _ _ _ _ _ => rfl, fun _ _ _ _ _ _ => rfl⟩
  have hl := lv_entry ([.ref this, .int a0, .int 4]) (n := 3) (Nat.le_of_ble_eq_true rfl)
  rw [lg_entry_eq]
  generalize (lg_sl ([.ref this, .int a0, .int 4]) ++ List.replicate (3 - (lg_sl ([.ref this, .int a0, .int 4])).length) Slot.unset).toArray = ls at hl ⊢
  have hl : lv_has ls 3 [(0, .ref this), (1, .int a0), (2, .int 4)] := hl
  refine q_gen (fun Q hQ => ?_)
  have go : ∀ (H : Heap) (locs : List Loc) (ls : Array Slot), va_P D vwCl (pq_P t σ (I, J, ri, rj, rq)) H → va_D A (pq_P t σ (I, J, ri, rj, rq)) → va_S A s.heap H locs → lv_has ls 3 [(0, .ref this), (1, .int a0), (2, .int 4)] → W p l e ({ frames := 0, cells := 0, slots := 0, locals := 0 } : Room) s m (List.toArray ([.ref this, .int a0, .int 4] : List Value)) below meth c H locs 0 0 Q (F0 m 0 ls []) := by
    intro H locs ls hP hD hS hl
    refine lv_aload_n hx hb dX12_personAt_0 rfl (lv_at hl 0 rfl) ?_
    refine pg_f (v := .ref this_a) (C := RX12) (T := TX12) (N := 31) hx hb hts (tw_i inlX12) hown hK hP hL_this hK_this (by decide) rfl 0 (by decide) (hts _ (tw_c tw_176)) (pq_hv rfl hR_this_a) dX12_personAt_1 ?_
    refine lv_sipush (v := 740) hx hb dX12_personAt_4 (by decide) ?_
    refine lv_bipush (v := 12) hx hb dX12_personAt_7 (by decide) ?_
    refine lv_iload_n hx hb dX12_personAt_9 rfl (lv_at hl 1 rfl) ?_
    refine lv_imul hx hb dX12_personAt_10 ?_
    refine lv_topi (fun x_1 ex_1 => ?_)
    have h_2 : rg x_1 0 468 := rg_of_eq ex_1 (rg_mul (rg_k (12 : Int32) 12 rfl) h_a0 (by decide))
    have uh_2 := h_2.1
    have vh_2 := h_2.2
    have tx_1 : (x_1).toInt = 12 * (a0).toInt := by rw [ex_1]; exact i_mul_rg (a2 := 12) (b2 := (a0).toInt) rfl rfl (rg_k (12 : Int32) 12 rfl) h_a0 (by decide)
    refine lv_iadd hx hb dX12_personAt_11 ?_
    refine lv_topi (fun x_3 ex_3 => ?_)
    have h_4 : rg x_3 740 1208 := rg_of_eq ex_3 (rg_add (rg_k (740 : Int32) 740 rfl) h_2 (by decide))
    have uh_4 := h_4.1
    have vh_4 := h_4.2
    have tx_3 : (x_3).toInt = 740 + (x_1).toInt := by rw [ex_3]; exact i_add_rg (a2 := 740) (b2 := (x_1).toInt) rfl rfl (rg_k (740 : Int32) 740 rfl) h_2 (by decide)
    refine lv_iload_n hx hb dX12_personAt_12 rfl (lv_at hl 2 rfl) ?_
    refine lv_iadd hx hb dX12_personAt_13 ?_
    refine lv_topi (fun x_5 ex_5 => ?_)
    have h_6 : rg x_5 744 1212 := rg_of_eq ex_5 (rg_add h_4 (rg_k (4 : Int32) 4 rfl) (by decide))
    have uh_6 := h_6.1
    have vh_6 := h_6.2
    have tx_5 : (x_5).toInt = (x_3).toInt + 4 := by rw [ex_5]; exact i_add_rg (a2 := (x_3).toInt) (b2 := 4) rfl rfl h_4 (rg_k (4 : Int32) 4 rfl) (by decide)
    refine pl_i hx hb hK hP hL_this_a hK_this_a hN_this_a (rg_in h_6 (by decide)) dX12_personAt_14 ?_
    refine lv_topi (fun x_7 ex_7 => ?_)
    subst hQ
    exact W.iret (v := x_7) hx hb hr (fun t1 ht hW => ⟨⟨x_7, (σ, I, J, ri, rj, rq), rfl, ⟨rfl, (show x_7 = ri this_a (744 + 12 * a0.toNatClampNeg) from ex_7.trans (congrArg (ri this_a) (by have z0 := clampE a0; have z1 := clampE x_5; omega)))⟩, by rw [ht]; exact hP, va_K.moved hW.alike hK, hD⟩, hS.F ht⟩) hS.2.2 dX12_personAt_15
  exact go _ _ _ hP hD hS hl
