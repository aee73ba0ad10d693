theorem dX12_isSweet_0 : decode cX12_isSweet 0 = .ok (.aload_n 0, 1) := oc_42 (by decide +kernel)
theorem dX12_isSweet_1 : decode cX12_isSweet 1 = .ok (.iload_n 1, 1) := oc_27 (by decide +kernel)
theorem dX12_isSweet_2 : decode cX12_isSweet 2 = .ok (.iconst 0, 1) := oc_3 (by decide +kernel)
theorem dX12_isSweet_3 : decode cX12_isSweet 3 = .ok (.invokevirtual 91, 3) := oc_182 (a := 0) (b := 91) (by decide +kernel)
theorem dX12_isSweet_6 : decode cX12_isSweet 6 = .ok (.iload_n 2, 1) := oc_28 (by decide +kernel)
theorem dX12_isSweet_48 : decode cX12_isSweet 48 = .ok (.iconst 0, 1) := oc_3 (by decide +kernel)
theorem dX12_isSweet_49 : decode cX12_isSweet 49 = .ok (.ireturn, 1) := oc_172 (by decide +kernel)
theorem dX12_isSweet_7 : decode cX12_isSweet 7 = .ok (.if_icmp .ne 41, 3) := oc_160 (a := 0) (b := 41) (by decide +kernel)
theorem dX12_isSweet_10 : decode cX12_isSweet 10 = .ok (.aload_n 0, 1) := oc_42 (by decide +kernel)
theorem dX12_isSweet_11 : decode cX12_isSweet 11 = .ok (.iload_n 1, 1) := oc_27 (by decide +kernel)
theorem dX12_isSweet_12 : decode cX12_isSweet 12 = .ok (.bipush 8, 2) := oc_16 (a := 8) (by decide +kernel)
theorem dX12_isSweet_14 : decode cX12_isSweet 14 = .ok (.invokevirtual 91, 3) := oc_182 (a := 0) (b := 91) (by decide +kernel)
theorem dX12_isSweet_17 : decode cX12_isSweet 17 = .ok (.ifCond .le 31, 3) := oc_158 (a := 0) (b := 31) (by decide +kernel)
theorem dX12_isSweet_20 : decode cX12_isSweet 20 = .ok (.aload_n 0, 1) := oc_42 (by decide +kernel)
theorem dX12_isSweet_21 : decode cX12_isSweet 21 = .ok (.iload_n 1, 1) := oc_27 (by decide +kernel)
theorem dX12_isSweet_22 : decode cX12_isSweet 22 = .ok (.bipush 10, 2) := oc_16 (a := 10) (by decide +kernel)
theorem dX12_isSweet_24 : decode cX12_isSweet 24 = .ok (.invokevirtual 91, 3) := oc_182 (a := 0) (b := 91) (by decide +kernel)
theorem dX12_isSweet_27 : decode cX12_isSweet 27 = .ok (.bipush 20, 2) := oc_16 (a := 20) (by decide +kernel)
theorem dX12_isSweet_29 : decode cX12_isSweet 29 = .ok (.if_icmp .gt 19, 3) := oc_163 (a := 0) (b := 19) (by decide +kernel)
theorem dX12_isSweet_32 : decode cX12_isSweet 32 = .ok (.aload_n 0, 1) := oc_42 (by decide +kernel)
theorem dX12_isSweet_33 : decode cX12_isSweet 33 = .ok (.iload_n 1, 1) := oc_27 (by decide +kernel)
theorem dX12_isSweet_34 : decode cX12_isSweet 34 = .ok (.bipush 9, 2) := oc_16 (a := 9) (by decide +kernel)
theorem dX12_isSweet_36 : decode cX12_isSweet 36 = .ok (.invokevirtual 91, 3) := oc_182 (a := 0) (b := 91) (by decide +kernel)
theorem dX12_isSweet_39 : decode cX12_isSweet 39 = .ok (.bipush 10, 2) := oc_16 (a := 10) (by decide +kernel)
theorem dX12_isSweet_41 : decode cX12_isSweet 41 = .ok (.if_icmp .lt 7, 3) := oc_161 (a := 0) (b := 7) (by decide +kernel)
theorem dX12_isSweet_44 : decode cX12_isSweet 44 = .ok (.iconst 1, 1) := oc_4 (by decide +kernel)
theorem dX12_isSweet_45 : decode cX12_isSweet 45 = .ok (.goto 4, 3) := oc_167 (a := 0) (b := 4) (by decide +kernel)
theorem dX12_isOnRing_0 : decode cX12_isOnRing 0 = .ok (.aload_n 0, 1) := oc_42 (by decide +kernel)
theorem dX12_isOnRing_1 : decode cX12_isOnRing 1 = .ok (.iload_n 1, 1) := oc_27 (by decide +kernel)
theorem dX12_isOnRing_2 : decode cX12_isOnRing 2 = .ok (.iconst 3, 1) := oc_6 (by decide +kernel)
theorem dX12_isOnRing_3 : decode cX12_isOnRing 3 = .ok (.invokevirtual 94, 3) := oc_182 (a := 0) (b := 94) (by decide +kernel)
theorem dX12_isOnRing_6 : decode cX12_isOnRing 6 = .ok (.bipush 100, 2) := oc_16 (a := 100) (by decide +kernel)
theorem dX12_isOnRing_8 : decode cX12_isOnRing 8 = .ok (.if_icmp .ge 7, 3) := oc_162 (a := 0) (b := 7) (by decide +kernel)
theorem dX12_isOnRing_15 : decode cX12_isOnRing 15 = .ok (.iconst 0, 1) := oc_3 (by decide +kernel)
theorem dX12_isOnRing_16 : decode cX12_isOnRing 16 = .ok (.ireturn, 1) := oc_172 (by decide +kernel)
theorem dX12_isOnRing_11 : decode cX12_isOnRing 11 = .ok (.iconst 1, 1) := oc_4 (by decide +kernel)
theorem dX12_isOnRing_12 : decode cX12_isOnRing 12 = .ok (.goto 4, 3) := oc_167 (a := 0) (b := 4) (by decide +kernel)
theorem dX12_drink_0 : decode cX12_drink 0 = .ok (.iconst 0, 1) := oc_3 (by decide +kernel)
theorem dX12_drink_1 : decode cX12_drink 1 = .ok (.istore_n 1, 1) := oc_60 (by decide +kernel)
theorem dX12_drink_2 : decode cX12_drink 2 = .ok (.iload_n 1, 1) := oc_27 (by decide +kernel)
theorem dX12_drink_3 : decode cX12_drink 3 = .ok (.aload_n 0, 1) := oc_42 (by decide +kernel)
theorem dX12_drink_4 : decode cX12_drink 4 = .ok (.getfield 7, 3) := oc_180 (a := 0) (b := 7) (by decide +kernel)
theorem dX12_drink_7 : decode cX12_drink 7 = .ok (.iconst 5, 1) := oc_8 (by decide +kernel)
theorem dX12_drink_8 : decode cX12_drink 8 = .ok (.iaload, 1) := oc_46 (by decide +kernel)
theorem dX12_drink_9 : decode cX12_drink 9 = .ok (.if_icmp .ge 104, 3) := oc_162 (a := 0) (b := 104) (by decide +kernel)
theorem dX12_drink_113 : decode cX12_drink 113 = .ok (.return_, 1) := oc_177 (by decide +kernel)
theorem dX12_drink_12 : decode cX12_drink 12 = .ok (.aload_n 0, 1) := oc_42 (by decide +kernel)
theorem dX12_drink_13 : decode cX12_drink 13 = .ok (.iload_n 1, 1) := oc_27 (by decide +kernel)
theorem tw_1221 : Cond.methodLink RX12 316 yX12_isOnRing ∈ wsL_law := sg_51 _ (List.mem_of_getElem? (i := 21) rfl)
theorem tw_1222 : Cond.instanceMethod yX12_isOnRing ∈ wsL_law := sg_51 _ (List.mem_of_getElem? (i := 22) rfl)
theorem tw_1223 : Cond.selects RX12 yX12_isOnRing yX12_isOnRing ∈ wsL_law := sg_51 _ (List.mem_of_getElem? (i := 23) rfl)
theorem tw_1224 : Cond.code yX12_isOnRing cX12_isOnRing 2 (some .boolean) ∈ wsL_law := sg_52 _ (List.mem_of_getElem? (i := 0) rfl)
theorem dX12_drink_14 : decode cX12_drink 14 = .ok (.invokevirtual 316, 3) := oc_182 (a := 1) (b := 60) (by decide +kernel)
theorem dX12_drink_107 : decode cX12_drink 107 = .ok (.iinc 1 1, 3) := oc_132 (b := 1) (by decide +kernel)
theorem dX12_drink_110 : decode cX12_drink 110 = .ok (.goto (-108), 3) := oc_167 (a := 255) (b := 148) (by decide +kernel)
theorem dX12_drink_17 : decode cX12_drink 17 = .ok (.ifCond .ne 6, 3) := oc_154 (a := 0) (b := 6) (by decide +kernel)
theorem dX12_drink_23 : decode cX12_drink 23 = .ok (.iconst 0, 1) := oc_3 (by decide +kernel)
theorem dX12_drink_24 : decode cX12_drink 24 = .ok (.istore_n 2, 1) := oc_61 (by decide +kernel)
theorem dX12_drink_25 : decode cX12_drink 25 = .ok (.iload_n 2, 1) := oc_28 (by decide +kernel)
theorem dX12_drink_26 : decode cX12_drink 26 = .ok (.aload_n 0, 1) := oc_42 (by decide +kernel)
theorem dX12_drink_27 : decode cX12_drink 27 = .ok (.getfield 7, 3) := oc_180 (a := 0) (b := 7) (by decide +kernel)
theorem dX12_drink_30 : decode cX12_drink 30 = .ok (.iconst 2, 1) := oc_5 (by decide +kernel)
theorem dX12_drink_31 : decode cX12_drink 31 = .ok (.iaload, 1) := oc_46 (by decide +kernel)
theorem dX12_drink_55 : decode cX12_drink 55 = .ok (.iload_n 2, 1) := oc_28 (by decide +kernel)
theorem dX12_drink_56 : decode cX12_drink 56 = .ok (.aload_n 0, 1) := oc_42 (by decide +kernel)
theorem dX12_drink_57 : decode cX12_drink 57 = .ok (.getfield 7, 3) := oc_180 (a := 0) (b := 7) (by decide +kernel)
theorem dX12_drink_60 : decode cX12_drink 60 = .ok (.iconst 2, 1) := oc_5 (by decide +kernel)
theorem dX12_drink_61 : decode cX12_drink 61 = .ok (.iaload, 1) := oc_46 (by decide +kernel)
theorem dX12_drink_62 : decode cX12_drink 62 = .ok (.if_icmp .ge 26, 3) := oc_162 (a := 0) (b := 26) (by decide +kernel)
theorem dX12_drink_88 : decode cX12_drink 88 = .ok (.aload_n 0, 1) := oc_42 (by decide +kernel)
theorem dX12_drink_89 : decode cX12_drink 89 = .ok (.getfield 7, 3) := oc_180 (a := 0) (b := 7) (by decide +kernel)
theorem dX12_drink_92 : decode cX12_drink 92 = .ok (.sipush 740, 3) := oc_17 (a := 2) (b := 228) (by decide +kernel)
theorem dX12_drink_95 : decode cX12_drink 95 = .ok (.bipush 12, 2) := oc_16 (a := 12) (by decide +kernel)
theorem dX12_drink_97 : decode cX12_drink 97 = .ok (.iload_n 1, 1) := oc_27 (by decide +kernel)
theorem dX12_drink_98 : decode cX12_drink 98 = .ok (.imul, 1) := oc_104 (by decide +kernel)
theorem dX12_drink_99 : decode cX12_drink 99 = .ok (.iadd, 1) := oc_96 (by decide +kernel)
theorem dX12_drink_100 : decode cX12_drink 100 = .ok (.iconst 5, 1) := oc_8 (by decide +kernel)
theorem dX12_drink_101 : decode cX12_drink 101 = .ok (.iadd, 1) := oc_96 (by decide +kernel)
theorem dX12_drink_102 : decode cX12_drink 102 = .ok (.dup2, 1) := oc_92 (by decide +kernel)
theorem dX12_drink_103 : decode cX12_drink 103 = .ok (.iaload, 1) := oc_46 (by decide +kernel)
theorem dX12_drink_104 : decode cX12_drink 104 = .ok (.iconst 1, 1) := oc_4 (by decide +kernel)
theorem dX12_drink_105 : decode cX12_drink 105 = .ok (.iadd, 1) := oc_96 (by decide +kernel)
theorem dX12_drink_106 : decode cX12_drink 106 = .ok (.iastore, 1) := oc_79 (by decide +kernel)
theorem dX12_drink_65 : decode cX12_drink 65 = .ok (.aload_n 0, 1) := oc_42 (by decide +kernel)
theorem dX12_drink_66 : decode cX12_drink 66 = .ok (.getfield 7, 3) := oc_180 (a := 0) (b := 7) (by decide +kernel)
theorem dX12_drink_69 : decode cX12_drink 69 = .ok (.bipush 100, 2) := oc_16 (a := 100) (by decide +kernel)
theorem dX12_drink_71 : decode cX12_drink 71 = .ok (.bipush 16, 2) := oc_16 (a := 16) (by decide +kernel)
theorem dX12_drink_73 : decode cX12_drink 73 = .ok (.iload_n 2, 1) := oc_28 (by decide +kernel)
theorem dX12_drink_74 : decode cX12_drink 74 = .ok (.imul, 1) := oc_104 (by decide +kernel)
theorem dX12_drink_75 : decode cX12_drink 75 = .ok (.iadd, 1) := oc_96 (by decide +kernel)
theorem dX12_drink_76 : decode cX12_drink 76 = .ok (.bipush 9, 2) := oc_16 (a := 9) (by decide +kernel)
theorem dX12_drink_78 : decode cX12_drink 78 = .ok (.iadd, 1) := oc_96 (by decide +kernel)
theorem dX12_drink_79 : decode cX12_drink 79 = .ok (.dup2, 1) := oc_92 (by decide +kernel)
theorem dX12_drink_80 : decode cX12_drink 80 = .ok (.iaload, 1) := oc_46 (by decide +kernel)
theorem dX12_drink_81 : decode cX12_drink 81 = .ok (.bipush 10, 2) := oc_16 (a := 10) (by decide +kernel)
theorem dX12_drink_83 : decode cX12_drink 83 = .ok (.isub, 1) := oc_100 (by decide +kernel)
theorem dX12_drink_84 : decode cX12_drink 84 = .ok (.iastore, 1) := oc_79 (by decide +kernel)
theorem dX12_drink_85 : decode cX12_drink 85 = .ok (.goto 22, 3) := oc_167 (a := 0) (b := 22) (by decide +kernel)
theorem dX12_drink_32 : decode cX12_drink 32 = .ok (.if_icmp .ge 23, 3) := oc_162 (a := 0) (b := 23) (by decide +kernel)
theorem dX12_drink_35 : decode cX12_drink 35 = .ok (.aload_n 0, 1) := oc_42 (by decide +kernel)
theorem dX12_drink_36 : decode cX12_drink 36 = .ok (.iload_n 2, 1) := oc_28 (by decide +kernel)
theorem dX12_drink_37 : decode cX12_drink 37 = .ok (.aload_n 0, 1) := oc_42 (by decide +kernel)
theorem dX12_drink_38 : decode cX12_drink 38 = .ok (.iload_n 1, 1) := oc_27 (by decide +kernel)
theorem dX12_drink_39 : decode cX12_drink 39 = .ok (.iconst 3, 1) := oc_6 (by decide +kernel)
theorem dX12_drink_40 : decode cX12_drink 40 = .ok (.invokevirtual 94, 3) := oc_182 (a := 0) (b := 94) (by decide +kernel)
theorem tw_1225 : Cond.methodLink RX12 319 yX12_isSweet ∈ wsL_law := sg_52 _ (List.mem_of_getElem? (i := 1) rfl)
theorem tw_1226 : Cond.instanceMethod yX12_isSweet ∈ wsL_law := sg_52 _ (List.mem_of_getElem? (i := 2) rfl)
theorem tw_1227 : Cond.selects RX12 yX12_isSweet yX12_isSweet ∈ wsL_law := sg_52 _ (List.mem_of_getElem? (i := 3) rfl)
theorem tw_1228 : Cond.code yX12_isSweet cX12_isSweet 3 (some .boolean) ∈ wsL_law := sg_52 _ (List.mem_of_getElem? (i := 4) rfl)
theorem dX12_drink_43 : decode cX12_drink 43 = .ok (.invokevirtual 319, 3) := oc_182 (a := 1) (b := 63) (by decide +kernel)
theorem dX12_drink_46 : decode cX12_drink 46 = .ok (.ifCond .ne 9, 3) := oc_154 (a := 0) (b := 9) (by decide +kernel)
theorem dX12_drink_49 : decode cX12_drink 49 = .ok (.iinc 2 1, 3) := oc_132 (b := 1) (by decide +kernel)
theorem dX12_drink_52 : decode cX12_drink 52 = .ok (.goto (-27), 3) := oc_167 (a := 255) (b := 229) (by decide +kernel)
theorem dX12_drink_20 : decode cX12_drink 20 = .ok (.goto 87, 3) := oc_167 (a := 0) (b := 87) (by decide +kernel)
theorem dX12_sleep_0 : decode cX12_sleep 0 = .ok (.iconst 0, 1) := oc_3 (by decide +kernel)
theorem dX12_sleep_1 : decode cX12_sleep 1 = .ok (.istore_n 1, 1) := oc_60 (by decide +kernel)
theorem dX12_sleep_2 : decode cX12_sleep 2 = .ok (.iload_n 1, 1) := oc_27 (by decide +kernel)
theorem dX12_sleep_3 : decode cX12_sleep 3 = .ok (.aload_n 0, 1) := oc_42 (by decide +kernel)
theorem dX12_sleep_4 : decode cX12_sleep 4 = .ok (.getfield 7, 3) := oc_180 (a := 0) (b := 7) (by decide +kernel)
theorem dX12_sleep_7 : decode cX12_sleep 7 = .ok (.iconst 1, 1) := oc_4 (by decide +kernel)
theorem dX12_sleep_8 : decode cX12_sleep 8 = .ok (.iaload, 1) := oc_46 (by decide +kernel)
theorem dX12_sleep_9 : decode cX12_sleep 9 = .ok (.if_icmp .ge 114, 3) := oc_162 (a := 0) (b := 114) (by decide +kernel)
theorem dX12_sleep_123 : decode cX12_sleep 123 = .ok (.return_, 1) := oc_177 (by decide +kernel)
theorem dX12_sleep_12 : decode cX12_sleep 12 = .ok (.iconst 0, 1) := oc_3 (by decide +kernel)
theorem dX12_sleep_13 : decode cX12_sleep 13 = .ok (.istore_n 2, 1) := oc_61 (by decide +kernel)
theorem dX12_sleep_14 : decode cX12_sleep 14 = .ok (.iconst 0, 1) := oc_3 (by decide +kernel)
theorem dX12_sleep_15 : decode cX12_sleep 15 = .ok (.istore_n 3, 1) := oc_62 (by decide +kernel)
theorem dX12_sleep_16 : decode cX12_sleep 16 = .ok (.iload_n 3, 1) := oc_29 (by decide +kernel)
theorem dX12_sleep_17 : decode cX12_sleep 17 = .ok (.aload_n 0, 1) := oc_42 (by decide +kernel)
theorem dX12_sleep_18 : decode cX12_sleep 18 = .ok (.getfield 7, 3) := oc_180 (a := 0) (b := 7) (by decide +kernel)
theorem dX12_sleep_21 : decode cX12_sleep 21 = .ok (.iconst 2, 1) := oc_5 (by decide +kernel)
theorem dX12_sleep_22 : decode cX12_sleep 22 = .ok (.iaload, 1) := oc_46 (by decide +kernel)
theorem dX12_sleep_23 : decode cX12_sleep 23 = .ok (.if_icmp .ge 33, 3) := oc_162 (a := 0) (b := 33) (by decide +kernel)
theorem dX12_sleep_56 : decode cX12_sleep 56 = .ok (.iconst 0, 1) := oc_3 (by decide +kernel)
theorem dX12_sleep_57 : decode cX12_sleep 57 = .ok (.istore_n 3, 1) := oc_62 (by decide +kernel)
theorem dX12_sleep_58 : decode cX12_sleep 58 = .ok (.iload_n 3, 1) := oc_29 (by decide +kernel)
theorem dX12_sleep_59 : decode cX12_sleep 59 = .ok (.aload_n 0, 1) := oc_42 (by decide +kernel)
theorem dX12_sleep_60 : decode cX12_sleep 60 = .ok (.getfield 7, 3) := oc_180 (a := 0) (b := 7) (by decide +kernel)
theorem dX12_sleep_63 : decode cX12_sleep 63 = .ok (.iconst 5, 1) := oc_8 (by decide +kernel)
theorem dX12_sleep_64 : decode cX12_sleep 64 = .ok (.iaload, 1) := oc_46 (by decide +kernel)
theorem dX12_sleep_65 : decode cX12_sleep 65 = .ok (.if_icmp .ge 52, 3) := oc_162 (a := 0) (b := 52) (by decide +kernel)
theorem dX12_sleep_117 : decode cX12_sleep 117 = .ok (.iinc 1 1, 3) := oc_132 (b := 1) (by decide +kernel)
theorem dX12_sleep_120 : decode cX12_sleep 120 = .ok (.goto (-118), 3) := oc_167 (a := 255) (b := 138) (by decide +kernel)
theorem dX12_sleep_68 : decode cX12_sleep 68 = .ok (.aload_n 0, 1) := oc_42 (by decide +kernel)
theorem dX12_sleep_69 : decode cX12_sleep 69 = .ok (.iload_n 3, 1) := oc_29 (by decide +kernel)
theorem dX12_sleep_70 : decode cX12_sleep 70 = .ok (.iconst 3, 1) := oc_6 (by decide +kernel)
theorem dX12_sleep_71 : decode cX12_sleep 71 = .ok (.invokevirtual 94, 3) := oc_182 (a := 0) (b := 94) (by decide +kernel)
theorem dX12_sleep_74 : decode cX12_sleep 74 = .ok (.iload_n 1, 1) := oc_27 (by decide +kernel)
theorem dX12_sleep_111 : decode cX12_sleep 111 = .ok (.iinc 3 1, 3) := oc_132 (b := 1) (by decide +kernel)
theorem dX12_sleep_114 : decode cX12_sleep 114 = .ok (.goto (-56), 3) := oc_167 (a := 255) (b := 200) (by decide +kernel)
theorem dX12_sleep_75 : decode cX12_sleep 75 = .ok (.if_icmp .eq 6, 3) := oc_159 (a := 0) (b := 6) (by decide +kernel)
theorem dX12_sleep_81 : decode cX12_sleep 81 = .ok (.iload_n 2, 1) := oc_28 (by decide +kernel)
theorem dX12_sleep_82 : decode cX12_sleep 82 = .ok (.ifCond .ne 26, 3) := oc_154 (a := 0) (b := 26) (by decide +kernel)
theorem dX12_sleep_108 : decode cX12_sleep 108 = .ok (.iinc 2 (-1), 3) := oc_132 (b := 255) (by decide +kernel)
theorem dX12_sleep_85 : decode cX12_sleep 85 = .ok (.aload_n 0, 1) := oc_42 (by decide +kernel)
theorem dX12_sleep_86 : decode cX12_sleep 86 = .ok (.getfield 7, 3) := oc_180 (a := 0) (b := 7) (by decide +kernel)
theorem dX12_sleep_89 : decode cX12_sleep 89 = .ok (.sipush 740, 3) := oc_17 (a := 2) (b := 228) (by decide +kernel)
theorem dX12_sleep_92 : decode cX12_sleep 92 = .ok (.bipush 12, 2) := oc_16 (a := 12) (by decide +kernel)
theorem dX12_sleep_94 : decode cX12_sleep 94 = .ok (.iload_n 3, 1) := oc_29 (by decide +kernel)
theorem dX12_sleep_95 : decode cX12_sleep 95 = .ok (.imul, 1) := oc_104 (by decide +kernel)
theorem dX12_sleep_96 : decode cX12_sleep 96 = .ok (.iadd, 1) := oc_96 (by decide +kernel)
theorem dX12_sleep_97 : decode cX12_sleep 97 = .ok (.bipush 6, 2) := oc_16 (a := 6) (by decide +kernel)
theorem dX12_sleep_99 : decode cX12_sleep 99 = .ok (.iadd, 1) := oc_96 (by decide +kernel)
theorem dX12_sleep_100 : decode cX12_sleep 100 = .ok (.dup2, 1) := oc_92 (by decide +kernel)
theorem dX12_sleep_101 : decode cX12_sleep 101 = .ok (.iaload, 1) := oc_46 (by decide +kernel)
theorem dX12_sleep_102 : decode cX12_sleep 102 = .ok (.iconst 1, 1) := oc_4 (by decide +kernel)
theorem dX12_sleep_103 : decode cX12_sleep 103 = .ok (.iadd, 1) := oc_96 (by decide +kernel)
theorem dX12_sleep_104 : decode cX12_sleep 104 = .ok (.iastore, 1) := oc_79 (by decide +kernel)
theorem dX12_sleep_105 : decode cX12_sleep 105 = .ok (.goto 6, 3) := oc_167 (a := 0) (b := 6) (by decide +kernel)
theorem dX12_sleep_78 : decode cX12_sleep 78 = .ok (.goto 33, 3) := oc_167 (a := 0) (b := 33) (by decide +kernel)
theorem dX12_sleep_26 : decode cX12_sleep 26 = .ok (.iload_n 2, 1) := oc_28 (by decide +kernel)
theorem dX12_sleep_27 : decode cX12_sleep 27 = .ok (.aload_n 0, 1) := oc_42 (by decide +kernel)
theorem dX12_sleep_28 : decode cX12_sleep 28 = .ok (.iload_n 3, 1) := oc_29 (by decide +kernel)
theorem dX12_sleep_29 : decode cX12_sleep 29 = .ok (.iconst 0, 1) := oc_3 (by decide +kernel)
theorem dX12_sleep_30 : decode cX12_sleep 30 = .ok (.invokevirtual 91, 3) := oc_182 (a := 0) (b := 91) (by decide +kernel)
theorem dX12_sleep_33 : decode cX12_sleep 33 = .ok (.iload_n 1, 1) := oc_27 (by decide +kernel)
theorem dX12_sleep_48 : decode cX12_sleep 48 = .ok (.iadd, 1) := oc_96 (by decide +kernel)
theorem dX12_sleep_49 : decode cX12_sleep 49 = .ok (.istore_n 2, 1) := oc_61 (by decide +kernel)
theorem dX12_sleep_50 : decode cX12_sleep 50 = .ok (.iinc 3 1, 3) := oc_132 (b := 1) (by decide +kernel)
theorem dX12_sleep_53 : decode cX12_sleep 53 = .ok (.goto (-37), 3) := oc_167 (a := 255) (b := 219) (by decide +kernel)
theorem dX12_sleep_34 : decode cX12_sleep 34 = .ok (.if_icmp .ne 13, 3) := oc_160 (a := 0) (b := 13) (by decide +kernel)
theorem dX12_sleep_47 : decode cX12_sleep 47 = .ok (.iconst 0, 1) := oc_3 (by decide +kernel)
theorem dX12_sleep_37 : decode cX12_sleep 37 = .ok (.aload_n 0, 1) := oc_42 (by decide +kernel)
theorem dX12_sleep_38 : decode cX12_sleep 38 = .ok (.iload_n 3, 1) := oc_29 (by decide +kernel)
theorem dX12_sleep_39 : decode cX12_sleep 39 = .ok (.bipush 7, 2) := oc_16 (a := 7) (by decide +kernel)
theorem dX12_sleep_41 : decode cX12_sleep 41 = .ok (.invokevirtual 91, 3) := oc_182 (a := 0) (b := 91) (by decide +kernel)
theorem dX12_sleep_44 : decode cX12_sleep 44 = .ok (.goto 4, 3) := oc_167 (a := 0) (b := 4) (by decide +kernel)
theorem dX12_wasRock_0 : decode cX12_wasRock 0 = .ok (.iload_n 1, 1) := oc_27 (by decide +kernel)
theorem dX12_wasRock_1 : decode cX12_wasRock 1 = .ok (.bipush 20, 2) := oc_16 (a := 20) (by decide +kernel)
theorem dX12_wasRock_42 : decode cX12_wasRock 42 = .ok (.iconst 1, 1) := oc_4 (by decide +kernel)
theorem dX12_wasRock_43 : decode cX12_wasRock 43 = .ok (.iand, 1) := oc_126 (by decide +kernel)
theorem dX12_wasRock_44 : decode cX12_wasRock 44 = .ok (.iconst 1, 1) := oc_4 (by decide +kernel)
theorem dX12_wasRock_45 : decode cX12_wasRock 45 = .ok (.if_icmp .ne 7, 3) := oc_160 (a := 0) (b := 7) (by decide +kernel)
theorem dX12_wasRock_52 : decode cX12_wasRock 52 = .ok (.iconst 0, 1) := oc_3 (by decide +kernel)
theorem dX12_wasRock_53 : decode cX12_wasRock 53 = .ok (.ireturn, 1) := oc_172 (by decide +kernel)
theorem dX12_wasRock_48 : decode cX12_wasRock 48 = .ok (.iconst 1, 1) := oc_4 (by decide +kernel)
theorem dX12_wasRock_49 : decode cX12_wasRock 49 = .ok (.goto 4, 3) := oc_167 (a := 0) (b := 4) (by decide +kernel)
theorem dX12_wasRock_3 : decode cX12_wasRock 3 = .ok (.if_icmp .ge 20, 3) := oc_162 (a := 0) (b := 20) (by decide +kernel)
theorem dX12_wasRock_23 : decode cX12_wasRock 23 = .ok (.aload_n 0, 1) := oc_42 (by decide +kernel)
theorem dX12_wasRock_24 : decode cX12_wasRock 24 = .ok (.getfield 7, 3) := oc_180 (a := 0) (b := 7) (by decide +kernel)
theorem dX12_wasRock_27 : decode cX12_wasRock 27 = .ok (.sipush 2520, 3) := oc_17 (a := 9) (b := 216) (by decide +kernel)
theorem dX12_wasRock_30 : decode cX12_wasRock 30 = .ok (.iconst 2, 1) := oc_5 (by decide +kernel)
theorem dX12_wasRock_31 : decode cX12_wasRock 31 = .ok (.iload_n 2, 1) := oc_28 (by decide +kernel)
theorem dX12_wasRock_32 : decode cX12_wasRock 32 = .ok (.imul, 1) := oc_104 (by decide +kernel)
theorem dX12_wasRock_33 : decode cX12_wasRock 33 = .ok (.iadd, 1) := oc_96 (by decide +kernel)
theorem dX12_wasRock_34 : decode cX12_wasRock 34 = .ok (.iconst 1, 1) := oc_4 (by decide +kernel)
theorem dX12_wasRock_35 : decode cX12_wasRock 35 = .ok (.iadd, 1) := oc_96 (by decide +kernel)
theorem dX12_wasRock_36 : decode cX12_wasRock 36 = .ok (.iaload, 1) := oc_46 (by decide +kernel)
theorem dX12_wasRock_37 : decode cX12_wasRock 37 = .ok (.iload_n 1, 1) := oc_27 (by decide +kernel)
theorem dX12_wasRock_38 : decode cX12_wasRock 38 = .ok (.bipush 20, 2) := oc_16 (a := 20) (by decide +kernel)
theorem dX12_wasRock_40 : decode cX12_wasRock 40 = .ok (.isub, 1) := oc_100 (by decide +kernel)
theorem dX12_wasRock_41 : decode cX12_wasRock 41 = .ok (.ishr, 1) := oc_122 (by decide +kernel)
theorem dX12_wasRock_6 : decode cX12_wasRock 6 = .ok (.aload_n 0, 1) := oc_42 (by decide +kernel)
theorem dX12_wasRock_7 : decode cX12_wasRock 7 = .ok (.getfield 7, 3) := oc_180 (a := 0) (b := 7) (by decide +kernel)
theorem dX12_wasRock_10 : decode cX12_wasRock 10 = .ok (.sipush 2520, 3) := oc_17 (a := 9) (b := 216) (by decide +kernel)
theorem dX12_wasRock_13 : decode cX12_wasRock 13 = .ok (.iconst 2, 1) := oc_5 (by decide +kernel)
theorem dX12_wasRock_14 : decode cX12_wasRock 14 = .ok (.iload_n 2, 1) := oc_28 (by decide +kernel)
theorem dX12_wasRock_15 : decode cX12_wasRock 15 = .ok (.imul, 1) := oc_104 (by decide +kernel)
theorem dX12_wasRock_16 : decode cX12_wasRock 16 = .ok (.iadd, 1) := oc_96 (by decide +kernel)
theorem dX12_wasRock_17 : decode cX12_wasRock 17 = .ok (.iaload, 1) := oc_46 (by decide +kernel)
theorem dX12_wasRock_18 : decode cX12_wasRock 18 = .ok (.iload_n 1, 1) := oc_27 (by decide +kernel)
theorem dX12_wasRock_19 : decode cX12_wasRock 19 = .ok (.ishr, 1) := oc_122 (by decide +kernel)
theorem dX12_wasRock_20 : decode cX12_wasRock 20 = .ok (.goto 22, 3) := oc_167 (a := 0) (b := 22) (by decide +kernel)
set_option maxRecDepth 100000 in
def g_X12_cellAt_c10 (a0 : Int32) (I : Nat → Int32) (J : Nat → Int64) (ri : Nat → Nat → Int32) (rj : Nat → Nat → Int64) (rq : Nat → Nat → Option Nat) : Int32 × vM := (ap1 ((16 : Int32) * a0) fun (x_2 : Int32) => (ap1 ((100 : Int32) + x_2) fun (x_4 : Int32) => (ap1 (x_4 + (10 : Int32)) fun (x_6 : Int32) => (ap1 (ri 384 (x_6).toNatClampNeg) fun (x_8 : Int32) => (x_8, I, J, ri, rj, rq)))))
set_option maxRecDepth 100000 in
theorem g_X12_cellAt_c10_e {a0 : Int32} {I : Nat → Int32} {J : Nat → Int64} {ri : Nat → Nat → Int32} {rj : Nat → Nat → Int64} {rq : Nat → Nat → Option Nat} : g_X12_cellAt_c10 a0 I J ri rj rq = (ap1 ((16 : Int32) * a0) fun (x_2 : Int32) => (ap1 ((100 : Int32) + x_2) fun (x_4 : Int32) => (ap1 (x_4 + (10 : Int32)) fun (x_6 : Int32) => (ap1 (ri 384 (x_6).toNatClampNeg) fun (x_8 : Int32) => (x_8, I, J, ri, rj, rq))))) := rfl
set_option maxHeartbeats 4000000 in
set_option maxRecDepth 100000 in
theorem s_X12_cellAt_c10 (l : Launch) (D : va_G) (t : pq_T) (σ : pq_S) (I : Nat → Nat → Int32) (J : Nat → Nat → Int64) (ri : Nat → Nat → Int32) (rj : Nat → Nat → Int64) (rq : Nat → Nat → Option Nat) (sz : Nat) (tg : Nat → Nat) (hSH : SH σ tg) (hG0 : GT tg I ri) (this : Nat) (a0 : Int32) (hL_this : this ∈ σ.1) (hK_this : σ.2.1 this = 12) (h_a0 : rg a0 0 39) : MetI l yX12_cellAt (wa yX12_cellAt cX12_cellAt 3 (some .int)) ({ frames := 0, cells := 0, slots := 0, locals := 0 }) [.ref this, .int a0, .int 10] D t σ (I, J, ri, rj, rq) sz 0 0 (fun (r : Int32) (u : pq_S × pq_M) => u = (σ, I, J, ri, rj, rq) ∧ g_X12_cellAt_c10 a0 (vI 12 σ this I) (vJ 12 σ this J) (vR 12 σ this ri) (vL 12 σ this rj) (vQ 12 σ this rq) = (r, (vI 12 σ this I), (vJ 12 σ this J), (vR 12 σ this ri), (vL 12 σ this rj), (vQ 12 σ this rq))) := by
  refine Met.ofW (cc := cX12_cellAt) (maxL := 3) (ret := (some .int)) (by decide +kernel) rfl ?_
  intro p e s m args below meth c s₁ B hml hv
  obtain ⟨rfl, hsz, hP, hK, hD0, hN⟩ := hv
  have hx := B.exec
  have hb := B.bytes
  have hr := B.returns
  have hts := atoms_spec (ws := (wa yX12_cellAt cX12_cellAt 3 (some .int))) B.pre
  have hown : s.vm.findClass RX12 = some m.cls := findClass_of_methodNamed B.named
  have hlocks := B.notSynchronized
  subst hsz
  have hD : va_D (pq_B t σ (I, J, ri, rj, rq) s.heap.size) (pq_P t σ (I, J, ri, rj, rq)) := hD0.self
  generalize hAe : pq_B t σ (I, J, ri, rj, rq) s.heap.size = A at hD ⊢
  have hA : ∀ q : Nat, s.heap.size ≤ q → A q := fun q h => by rw [← hAe]; exact Or.inr h
  have hS : va_S A s.heap s.heap [] := va_S.rf
  have hG : GM [] tg σ I ri I ri rq := ⟨hG0, fun _ _ _ => rfl, fun _ _ _ _ _ => rfl, fun _ _ _ _ _ _ => rfl⟩
  have hl := lv_entry ([.ref this, .int a0, .int 10]) (n := 3) (Nat.le_of_ble_eq_true rfl)
  rw [lg_entry_eq]
  generalize (lg_sl ([.ref this, .int a0, .int 10]) ++ List.replicate (3 - (lg_sl ([.ref this, .int a0, .int 10])).length) Slot.unset).toArray = ls at hl ⊢
  have hl : lv_has ls 3 [(0, .ref this), (1, .int a0), (2, .int 10)] := hl
  refine q_gen (fun Q hQ => ?_)
  have go : ∀ (H : Heap) (locs : List Loc) (ls : Array Slot), va_P D vwCl (pq_P t σ (I, J, ri, rj, rq)) H → va_D A (pq_P t σ (I, J, ri, rj, rq)) → va_S A s.heap H locs → lv_has ls 3 [(0, .ref this), (1, .int a0), (2, .int 10)] → W p l e ({ frames := 0, cells := 0, slots := 0, locals := 0 } : Room) s m (List.toArray ([.ref this, .int a0, .int 10] : List Value)) below meth c H locs 0 0 Q (F0 m 0 ls []) := by
    intro H locs ls hP hD hS hl
    have hO_this : this = vo σ 12 this := rfl
    have hVT : VT 12 σ tg this := vt_12 hSH hL_this hK_this
    have hFr : FR 12 tg σ this (I, J, ri, rj, rq) (I, J, ri, rj, rq) := fr_rf
    obtain ⟨F, hF0⟩ : ∃ F, F = g_X12_cellAt_c10 a0 (vI 12 σ this I) (vJ 12 σ this J) (vR 12 σ this ri) (vL 12 σ this rj) (vQ 12 σ this rq) := ⟨_, rfl⟩
    have hF := hF0.trans g_X12_cellAt_c10_e
    refine lv_aload_n hx hb dX12_cellAt_0 rfl (lv_at hl 0 rfl) ?_
    obtain ⟨w_1, hR_w_1, hL_w_1, hK_w_1, hN_w_1, hT_w_1⟩ := sh_a hSH 384 (ci := 12) (kd := 13) (len := 12720) rfl (by decide +kernel) hL_this hK_this
    have hO_w_1 : w_1 = vrow σ 384 this := vo_k (c := 12) hO_this hR_w_1
    refine pg_f (v := .ref w_1) (C := RX12) (T := TX12) (N := 31) hx hb hts (tw_i inlX12) hown hK hP hL_this hK_this (by decide +kernel) rfl 0 (by decide +kernel) (hts _ (tw_c tw_176)) (pq_hv rfl hR_w_1) dX12_cellAt_1 ?_
    refine lv_bipush (v := 100) hx hb dX12_cellAt_4 (by decide +kernel) ?_
    refine lv_bipush (v := 16) hx hb dX12_cellAt_6 (by decide +kernel) ?_
    refine lv_iload_n hx hb dX12_cellAt_8 rfl (lv_at hl 1 rfl) ?_
    refine lv_imul hx hb dX12_cellAt_9 ?_
    refine lv_topi (fun x_2 ex_2 => ?_)
    replace hF := hF.trans (ap_n ex_2)
    have h_3 : rg x_2 0 624 := rg_of_eq ex_2 (rg_mul (rg_k (16 : Int32) 16 rfl) h_a0 (by decide +kernel))
    have uh_3 := h_3.1
    have vh_3 := h_3.2
    have tx_2 : (x_2).toInt = 16 * (a0).toInt := by rw [ex_2]; exact i_mul_rg (a2 := 16) (b2 := (a0).toInt) rfl rfl (rg_k (16 : Int32) 16 rfl) h_a0 (by decide +kernel)
    refine lv_iadd hx hb dX12_cellAt_10 ?_
    refine lv_topi (fun x_4 ex_4 => ?_)
    replace hF := hF.trans (ap_n ex_4)
    have h_5 : rg x_4 100 724 := rg_of_eq ex_4 (rg_add (rg_k (100 : Int32) 100 rfl) h_3 (by decide +kernel))
    have uh_5 := h_5.1
    have vh_5 := h_5.2
    have tx_4 : (x_4).toInt = 100 + (x_2).toInt := by rw [ex_4]; exact i_add_rg (a2 := 100) (b2 := (x_2).toInt) rfl rfl (rg_k (100 : Int32) 100 rfl) h_3 (by decide +kernel)
    refine lv_iload_n hx hb dX12_cellAt_11 rfl (lv_at hl 2 rfl) ?_
    refine lv_iadd hx hb dX12_cellAt_12 ?_
    refine lv_topi (fun x_6 ex_6 => ?_)
    replace hF := hF.trans (ap_n ex_6)
    have h_7 : rg x_6 110 734 := rg_of_eq ex_6 (rg_add h_5 (rg_k (10 : Int32) 10 rfl) (by decide +kernel))
    have uh_7 := h_7.1
    have vh_7 := h_7.2
    have tx_6 : (x_6).toInt = (x_4).toInt + 10 := by rw [ex_6]; exact i_add_rg (a2 := (x_4).toInt) (b2 := 10) rfl rfl h_5 (rg_k (10 : Int32) 10 rfl) (by decide +kernel)
    refine pl_i hx hb hK hP hL_w_1 hK_w_1 hN_w_1 (rg_in h_7 (by decide +kernel)) dX12_cellAt_13 ?_
    refine lv_topi (fun x_8 ex_8 => ?_)
    replace hF := hF.trans (ap_n (vR_r hO_w_1 (by decide +kernel) ex_8))
    subst hQ
    exact W.iret (v := x_8) hx hb hr (fun t1 ht hW => ⟨⟨x_8, (σ, I, J, ri, rj, rq), rfl, ⟨rfl, (hF0.symm.trans hF)⟩, by rw [ht]; exact hP, va_K.moved hW.alike hK, hD⟩, hS.F ht⟩) hS.2.2 dX12_cellAt_14
  exact go _ _ _ hP hD hS hl

set_option maxRecDepth 100000 in
def g_X12_cellAt_c9 (a0 : Int32) (I : Nat → Int32) (J : Nat → Int64) (ri : Nat → Nat → Int32) (rj : Nat → Nat → Int64) (rq : Nat → Nat → Option Nat) : Int32 × vM := (ap1 ((16 : Int32) * a0) fun (x_2 : Int32) => (ap1 ((100 : Int32) + x_2) fun (x_4 : Int32) => (ap1 (x_4 + (9 : Int32)) fun (x_6 : Int32) => (ap1 (ri 384 (x_6).toNatClampNeg) fun (x_8 : Int32) => (x_8, I, J, ri, rj, rq)))))
set_option maxRecDepth 100000 in
theorem g_X12_cellAt_c9_e {a0 : Int32} {I : Nat → Int32} {J : Nat → Int64} {ri : Nat → Nat → Int32} {rj : Nat → Nat → Int64} {rq : Nat → Nat → Option Nat} : g_X12_cellAt_c9 a0 I J ri rj rq = (ap1 ((16 : Int32) * a0) fun (x_2 : Int32) => (ap1 ((100 : Int32) + x_2) fun (x_4 : Int32) => (ap1 (x_4 + (9 : Int32)) fun (x_6 : Int32) => (ap1 (ri 384 (x_6).toNatClampNeg) fun (x_8 : Int32) => (x_8, I, J, ri, rj, rq))))) := rfl
set_option maxHeartbeats 4000000 in
set_option maxRecDepth 100000 in
theorem s_X12_cellAt_c9 (l : Launch) (D : va_G) (t : pq_T) (σ : pq_S) (I : Nat → Nat → Int32) (J : Nat → Nat → Int64) (ri : Nat → Nat → Int32) (rj : Nat → Nat → Int64) (rq : Nat → Nat → Option Nat) (sz : Nat) (tg : Nat → Nat) (hSH : SH σ tg) (hG0 : GT tg I ri) (this : Nat) (a0 : Int32) (hL_this : this ∈ σ.1) (hK_this : σ.2.1 this = 12) (h_a0 : rg a0 0 39) : MetI l yX12_cellAt (wa yX12_cellAt cX12_cellAt 3 (some .int)) ({ frames := 0, cells := 0, slots := 0, locals := 0 }) [.ref this, .int a0, .int 9] D t σ (I, J, ri, rj, rq) sz 0 0 (fun (r : Int32) (u : pq_S × pq_M) => u = (σ, I, J, ri, rj, rq) ∧ g_X12_cellAt_c9 a0 (vI 12 σ this I) (vJ 12 σ this J) (vR 12 σ this ri) (vL 12 σ this rj) (vQ 12 σ this rq) = (r, (vI 12 σ this I), (vJ 12 σ this J), (vR 12 σ this ri), (vL 12 σ this rj), (vQ 12 σ this rq))) := by
  refine Met.ofW (cc := cX12_cellAt) (maxL := 3) (ret := (some .int)) (by decide +kernel) rfl ?_
  intro p e s m args below meth c s₁ B hml hv
  obtain ⟨rfl, hsz, hP, hK, hD0, hN⟩ := hv
  have hx := B.exec
  have hb := B.bytes
  have hr := B.returns
  have hts := atoms_spec (ws := (wa yX12_cellAt cX12_cellAt 3 (some .int))) B.pre
  have hown : s.vm.findClass RX12 = some m.cls := findClass_of_methodNamed B.named
  have hlocks := B.notSynchronized
  subst hsz
  have hD : va_D (pq_B t σ (I, J, ri, rj, rq) s.heap.size) (pq_P t σ (I, J, ri, rj, rq)) := hD0.self
  generalize hAe : pq_B t σ (I, J, ri, rj, rq) s.heap.size = A at hD ⊢
  have hA : ∀ q : Nat, s.heap.size ≤ q → A q := fun q h => by rw [← hAe]; exact Or.inr h
  have hS : va_S A s.heap s.heap [] := va_S.rf
  have hG : GM [] tg σ I ri I ri rq := ⟨hG0, fun _ _ _ => rfl, fun _ _ _ _ _ => rfl, fun _ _ _ _ _ _ => rfl⟩
  have hl := lv_entry ([.ref this, .int a0, .int 9]) (n := 3) (Nat.le_of_ble_eq_true rfl)
  rw [lg_entry_eq]
  generalize (lg_sl ([.ref this, .int a0, .int 9]) ++ List.replicate (3 - (lg_sl ([.ref this, .int a0, .int 9])).length) Slot.unset).toArray = ls at hl ⊢
  have hl : lv_has ls 3 [(0, .ref this), (1, .int a0), (2, .int 9)] := hl
  refine q_gen (fun Q hQ => ?_)
  have go : ∀ (H : Heap) (locs : List Loc) (ls : Array Slot), va_P D vwCl (pq_P t σ (I, J, ri, rj, rq)) H → va_D A (pq_P t σ (I, J, ri, rj, rq)) → va_S A s.heap H locs → lv_has ls 3 [(0, .ref this), (1, .int a0), (2, .int 9)] → W p l e ({ frames := 0, cells := 0, slots := 0, locals := 0 } : Room) s m (List.toArray ([.ref this, .int a0, .int 9] : List Value)) below meth c H locs 0 0 Q (F0 m 0 ls []) := by
    intro H locs ls hP hD hS hl
    have hO_this : this = vo σ 12 this := rfl
    have hVT : VT 12 σ tg this := vt_12 hSH hL_this hK_this
    have hFr : FR 12 tg σ this (I, J, ri, rj, rq) (I, J, ri, rj, rq) := fr_rf
    obtain ⟨F, hF0⟩ : ∃ F, F = g_X12_cellAt_c9 a0 (vI 12 σ this I) (vJ 12 σ this J) (vR 12 σ this ri) (vL 12 σ this rj) (vQ 12 σ this rq) := ⟨_, rfl⟩
    have hF := hF0.trans g_X12_cellAt_c9_e
    refine lv_aload_n hx hb dX12_cellAt_0 rfl (lv_at hl 0 rfl) ?_
    obtain ⟨w_1, hR_w_1, hL_w_1, hK_w_1, hN_w_1, hT_w_1⟩ := sh_a hSH 384 (ci := 12) (kd := 13) (len := 12720) rfl (by decide +kernel) hL_this hK_this
    have hO_w_1 : w_1 = vrow σ 384 this := vo_k (c := 12) hO_this hR_w_1
    refine pg_f (v := .ref w_1) (C := RX12) (T := TX12) (N := 31) hx hb hts (tw_i inlX12) hown hK hP hL_this hK_this (by decide +kernel) rfl 0 (by decide +kernel) (hts _ (tw_c tw_176)) (pq_hv rfl hR_w_1) dX12_cellAt_1 ?_
    refine lv_bipush (v := 100) hx hb dX12_cellAt_4 (by decide +kernel) ?_
    refine lv_bipush (v := 16) hx hb dX12_cellAt_6 (by decide +kernel) ?_
    refine lv_iload_n hx hb dX12_cellAt_8 rfl (lv_at hl 1 rfl) ?_
    refine lv_imul hx hb dX12_cellAt_9 ?_
    refine lv_topi (fun x_2 ex_2 => ?_)
    replace hF := hF.trans (ap_n ex_2)
    have h_3 : rg x_2 0 624 := rg_of_eq ex_2 (rg_mul (rg_k (16 : Int32) 16 rfl) h_a0 (by decide +kernel))
    have uh_3 := h_3.1
    have vh_3 := h_3.2
    have tx_2 : (x_2).toInt = 16 * (a0).toInt := by rw [ex_2]; exact i_mul_rg (a2 := 16) (b2 := (a0).toInt) rfl rfl (rg_k (16 : Int32) 16 rfl) h_a0 (by decide +kernel)
    refine lv_iadd hx hb dX12_cellAt_10 ?_
    refine lv_topi (fun x_4 ex_4 => ?_)
    replace hF := hF.trans (ap_n ex_4)
    have h_5 : rg x_4 100 724 := rg_of_eq ex_4 (rg_add (rg_k (100 : Int32) 100 rfl) h_3 (by decide +kernel))
    have uh_5 := h_5.1
    have vh_5 := h_5.2
    have tx_4 : (x_4).toInt = 100 + (x_2).toInt := by rw [ex_4]; exact i_add_rg (a2 := 100) (b2 := (x_2).toInt) rfl rfl (rg_k (100 : Int32) 100 rfl) h_3 (by decide +kernel)
    refine lv_iload_n hx hb dX12_cellAt_11 rfl (lv_at hl 2 rfl) ?_
    refine lv_iadd hx hb dX12_cellAt_12 ?_
    refine lv_topi (fun x_6 ex_6 => ?_)
    replace hF := hF.trans (ap_n ex_6)
    have h_7 : rg x_6 109 733 := rg_of_eq ex_6 (rg_add h_5 (rg_k (9 : Int32) 9 rfl) (by decide +kernel))
    have uh_7 := h_7.1
    have vh_7 := h_7.2
    have tx_6 : (x_6).toInt = (x_4).toInt + 9 := by rw [ex_6]; exact i_add_rg (a2 := (x_4).toInt) (b2 := 9) rfl rfl h_5 (rg_k (9 : Int32) 9 rfl) (by decide +kernel)
    refine pl_i hx hb hK hP hL_w_1 hK_w_1 hN_w_1 (rg_in h_7 (by decide +kernel)) dX12_cellAt_13 ?_
    refine lv_topi (fun x_8 ex_8 => ?_)
    replace hF := hF.trans (ap_n (vR_r hO_w_1 (by decide +kernel) ex_8))
    subst hQ
    exact W.iret (v := x_8) hx hb hr (fun t1 ht hW => ⟨⟨x_8, (σ, I, J, ri, rj, rq), rfl, ⟨rfl, (hF0.symm.trans hF)⟩, by rw [ht]; exact hP, va_K.moved hW.alike hK, hD⟩, hS.F ht⟩) hS.2.2 dX12_cellAt_14
  exact go _ _ _ hP hD hS hl

set_option maxRecDepth 100000 in
def g_X12_isSweet_K48 (I : Nat → Int32) (J : Nat → Int64) (ri : Nat → Nat → Int32) (rj : Nat → Nat → Int64) (rq : Nat → Nat → Option Nat) : Int32 × vM := ((0 : Int32), I, J, ri, rj, rq)
set_option maxRecDepth 100000 in
theorem g_X12_isSweet_K48_e {I : Nat → Int32} {J : Nat → Int64} {ri : Nat → Nat → Int32} {rj : Nat → Nat → Int64} {rq : Nat → Nat → Option Nat} : g_X12_isSweet_K48 I J ri rj rq  = ((0 : Int32), I, J, ri, rj, rq) := rfl
set_option maxRecDepth 100000 in
def g_X12_isSweet (a0 : Int32) (a1 : Int32) (I : Nat → Int32) (J : Nat → Int64) (ri : Nat → Nat → Int32) (rj : Nat → Nat → Int64) (rq : Nat → Nat → Option Nat) : Int32 × vM := (bnI (g_X12_cellAt_c0 a0 I J ri rj rq) fun (x_1 : Int32) (_ : Nat → Int32) (_ : Nat → Int64) (_ : Nat → Nat → Int32) (_ : Nat → Nat → Int64) (_ : Nat → Nat → Option Nat) => (if x_1 = a1 then (bnI (g_X12_cellAt_c8 a0 I J ri rj rq) fun (x_53 : Int32) (_ : Nat → Int32) (_ : Nat → Int64) (_ : Nat → Nat → Int32) (_ : Nat → Nat → Int64) (_ : Nat → Nat → Option Nat) => (if x_53 ≤ (0 : Int32) then (g_X12_isSweet_K48 I J ri rj rq ) else (bnI (g_X12_cellAt_c10 a0 I J ri rj rq) fun (x_69 : Int32) (_ : Nat → Int32) (_ : Nat → Int64) (_ : Nat → Nat → Int32) (_ : Nat → Nat → Int64) (_ : Nat → Nat → Option Nat) => (if (20 : Int32) < x_69 then (g_X12_isSweet_K48 I J ri rj rq ) else (bnI (g_X12_cellAt_c9 a0 I J ri rj rq) fun (x_85 : Int32) (_ : Nat → Int32) (_ : Nat → Int64) (_ : Nat → Nat → Int32) (_ : Nat → Nat → Int64) (_ : Nat → Nat → Option Nat) => (if x_85 < (10 : Int32) then (g_X12_isSweet_K48 I J ri rj rq ) else ((1 : Int32), I, J, ri, rj, rq))))))) else (g_X12_isSweet_K48 I J ri rj rq )))
set_option maxRecDepth 100000 in
theorem g_X12_isSweet_e {a0 : Int32} {a1 : Int32} {I : Nat → Int32} {J : Nat → Int64} {ri : Nat → Nat → Int32} {rj : Nat → Nat → Int64} {rq : Nat → Nat → Option Nat} : g_X12_isSweet a0 a1 I J ri rj rq = (bnI (g_X12_cellAt_c0 a0 I J ri rj rq) fun (x_1 : Int32) (_ : Nat → Int32) (_ : Nat → Int64) (_ : Nat → Nat → Int32) (_ : Nat → Nat → Int64) (_ : Nat → Nat → Option Nat) => (if x_1 = a1 then (bnI (g_X12_cellAt_c8 a0 I J ri rj rq) fun (x_53 : Int32) (_ : Nat → Int32) (_ : Nat → Int64) (_ : Nat → Nat → Int32) (_ : Nat → Nat → Int64) (_ : Nat → Nat → Option Nat) => (if x_53 ≤ (0 : Int32) then (g_X12_isSweet_K48 I J ri rj rq ) else (bnI (g_X12_cellAt_c10 a0 I J ri rj rq) fun (x_69 : Int32) (_ : Nat → Int32) (_ : Nat → Int64) (_ : Nat → Nat → Int32) (_ : Nat → Nat → Int64) (_ : Nat → Nat → Option Nat) => (if (20 : Int32) < x_69 then (g_X12_isSweet_K48 I J ri rj rq ) else (bnI (g_X12_cellAt_c9 a0 I J ri rj rq) fun (x_85 : Int32) (_ : Nat → Int32) (_ : Nat → Int64) (_ : Nat → Nat → Int32) (_ : Nat → Nat → Int64) (_ : Nat → Nat → Option Nat) => (if x_85 < (10 : Int32) then (g_X12_isSweet_K48 I J ri rj rq ) else ((1 : Int32), I, J, ri, rj, rq))))))) else (g_X12_isSweet_K48 I J ri rj rq ))) := rfl
set_option maxHeartbeats 4000000 in
set_option maxRecDepth 100000 in
theorem s_X12_isSweet (l : Launch) (D : va_G) (t : pq_T) (σ : pq_S) (I : Nat → Nat → Int32) (J : Nat → Nat → Int64) (ri : Nat → Nat → Int32) (rj : Nat → Nat → Int64) (rq : Nat → Nat → Option Nat) (sz : Nat) (tg : Nat → Nat) (hSH : SH σ tg) (hG0 : GT tg I ri) (this : Nat) (a0 : Int32) (a1 : Int32) (hL_this : this ∈ σ.1) (hK_this : σ.2.1 this = 12) (h_a0 : rg a0 0 39) : MetI l yX12_isSweet (wa yX12_isSweet cX12_isSweet 3 (some .boolean)) ({ frames := 1, cells := 0, slots := 0, locals := 22 }) [.ref this, .int a0, .int a1] D t σ (I, J, ri, rj, rq) sz 0 0 (fun (r : Int32) (u : pq_S × pq_M) => u = (σ, I, J, ri, rj, rq) ∧ g_X12_isSweet a0 a1 (vI 12 σ this I) (vJ 12 σ this J) (vR 12 σ this ri) (vL 12 σ this rj) (vQ 12 σ this rq) = (r, (vI 12 σ this I), (vJ 12 σ this J), (vR 12 σ this ri), (vL 12 σ this rj), (vQ 12 σ this rq)) ∧ ((r = 1 ∧ True) ∨ (r = 0 ∧ True))) := by
  refine Met.ofW (cc := cX12_isSweet) (maxL := 3) (ret := (some .boolean)) (by decide +kernel) rfl ?_
  intro p e s m args below meth c s₁ B hml hv
  obtain ⟨rfl, hsz, hP, hK, hD0, hN⟩ := hv
  have hx := B.exec
  have hb := B.bytes
  have hr := B.returns
  have hts := atoms_spec (ws := (wa yX12_isSweet cX12_isSweet 3 (some .boolean))) B.pre
  have hown : s.vm.findClass RX12 = some m.cls := findClass_of_methodNamed B.named
  have hlocks := B.notSynchronized
  subst hsz
  have hD : va_D (pq_B t σ (I, J, ri, rj, rq) s.heap.size) (pq_P t σ (I, J, ri, rj, rq)) := hD0.self
  generalize hAe : pq_B t σ (I, J, ri, rj, rq) s.heap.size = A at hD ⊢
  have hA : ∀ q : Nat, s.heap.size ≤ q → A q := fun q h => by rw [← hAe]; exact Or.inr h
  have hS : va_S A s.heap s.heap [] := va_S.rf
  have hG : GM [] tg σ I ri I ri rq := ⟨hG0, fun _ _ _ => rfl, fun _ _ _ _ _ => rfl, fun _ _ _ _ _ _ => rfl⟩
  have hl := lv_entry ([.ref this, .int a0, .int a1]) (n := 3) (Nat.le_of_ble_eq_true rfl)
  rw [lg_entry_eq]
  generalize (lg_sl ([.ref this, .int a0, .int a1]) ++ List.replicate (3 - (lg_sl ([.ref this, .int a0, .int a1])).length) Slot.unset).toArray = ls at hl ⊢
  have hl : lv_has ls 3 [(0, .ref this), (1, .int a0), (2, .int a1)] := hl
  refine q_gen (fun Q hQ => ?_)
  have go : ∀ (H : Heap) (locs : List Loc) (ls : Array Slot), va_P D vwCl (pq_P t σ (I, J, ri, rj, rq)) H → va_D A (pq_P t σ (I, J, ri, rj, rq)) → va_S A s.heap H locs → lv_has ls 3 [(0, .ref this), (1, .int a0), (2, .int a1)] → W p l e ({ frames := 1, cells := 0, slots := 0, locals := 22 } : Room) s m (List.toArray ([.ref this, .int a0, .int a1] : List Value)) below meth c H locs 0 0 Q (F0 m 0 ls []) := by
    intro H locs ls hP hD hS hl
    have hO_this : this = vo σ 12 this := rfl
    have hVT : VT 12 σ tg this := vt_12 hSH hL_this hK_this
    have hFr : FR 12 tg σ this (I, J, ri, rj, rq) (I, J, ri, rj, rq) := fr_rf
    obtain ⟨F, hF0⟩ : ∃ F, F = g_X12_isSweet a0 a1 (vI 12 σ this I) (vJ 12 σ this J) (vR 12 σ this ri) (vL 12 σ this rj) (vQ 12 σ this rq) := ⟨_, rfl⟩
    have hF := hF0.trans g_X12_isSweet_e
    refine lv_aload_n hx hb dX12_isSweet_0 rfl (lv_at hl 0 rfl) ?_
    refine lv_iload_n hx hb dX12_isSweet_1 rfl (lv_at hl 1 rfl) ?_
    refine lv_iconst (v := 0) hx hb dX12_isSweet_2 (by decide +kernel) ?_
    refine pk_i (va_runV (As := [.int a0, .int 0]) (rest := []) ⟨hx, hb, hml, hown, hts⟩ (s_X12_cellAt_c0 l D t σ I J ri rj rq H.size tg hSH hG.1 this a0 hL_this hK_this (rg_w h_a0 (by decide +kernel))) (cwV 2 hts (tw_V tw_361 tw_362 tw_363 tw_5 tw_364) rfl rfl rfl cv_yX12_cellAt_2 ⟨Nat.le_of_ble_eq_true rfl, Nat.le_of_ble_eq_true rfl⟩) ⟨pq_blind, pq_recv hK hP hL_this hK_this (by decide +kernel) rfl, pq_pre hK hN hP hD⟩ rfl rfl hl.1 rfl (lv_room (Nat.le_of_ble_eq_true rfl)) dX12_isSweet_3 ⟨Nat.le_of_ble_eq_true rfl, Nat.le_of_ble_eq_true rfl⟩) hD hS hA (fun x_1 σ1 μ1 H locs hw_2 hP hD hS => ?_)
    obtain ⟨hu_3, hfn_6⟩ := hw_2
    obtain ⟨hu_3a, hu_3b⟩ := Prod.mk.inj hu_3
    rw [hu_3a, hu_3b] at hP hD
    replace hF := hF.trans (bn_n hfn_6)
    refine lv_iload_n hx hb dX12_isSweet_6 rfl (lv_at hl 2 rfl) ?_
    have K_47 : ∀  (H : Heap) (locs : List Loc) (ls : Array Slot), F = g_X12_isSweet_K48 (vI 12 σ this I) (vJ 12 σ this J) (vR 12 σ this ri) (vL 12 σ this rj) (vQ 12 σ this rq)  → FR 12 tg σ this (I, J, ri, rj, rq) (I, J, ri, rj, rq) → GM [] tg σ I ri I ri rq → va_P D vwCl (pq_P t σ (I, J, ri, rj, rq)) H → va_D A (pq_P t σ (I, J, ri, rj, rq)) → va_S A s.heap H locs → lv_has ls 3 [] → W p l e ({ frames := 1, cells := 0, slots := 0, locals := 22 } : Room) s m (List.toArray ([.ref this, .int a0, .int a1] : List Value)) below meth c H locs 0 0 Q (F0 m 48 ls []) := by
      intro H locs ls hF hFr hG hP hD hS hl
      replace hF := hF.trans g_X12_isSweet_K48_e
      refine lv_iconst (v := 0) hx hb dX12_isSweet_48 (by decide +kernel) ?_
      subst hQ
      exact W.zret (v := 0) hx hb hr (by decide +kernel) (fun t1 ht hW => ⟨⟨0, (σ, I, J, ri, rj, rq), rfl, ⟨rfl, (hF0.symm.trans hF), (Or.inr ⟨rfl, trivial⟩)⟩, by rw [ht]; exact hP, va_K.moved hW.alike hK, hD⟩, hS.F ht⟩) hS.2.2 dX12_isSweet_49
    refine lv_icmp_ne (tgt := 48) hx hb dX12_isSweet_7 (by decide +kernel) (fun c_48 => ?_) (fun c_48 => ?_)
    · replace hF := hF.trans (if_neg c_48)
      have tc_51 : (x_1).toInt ≠ (a1).toInt := fun q => c_48 (Int32.toInt_inj.mp q)
      exact K_47 _ _ _ hF hFr hG hP hD hS (lv_sub hl [] rfl)
    · replace hF := hF.trans (if_pos c_48)
      have tc_52 : (x_1).toInt = (a1).toInt := congrArg Int32.toInt c_48
      refine lv_aload_n hx hb dX12_isSweet_10 rfl (lv_at hl 0 rfl) ?_
      refine lv_iload_n hx hb dX12_isSweet_11 rfl (lv_at hl 1 rfl) ?_
      refine lv_bipush (v := 8) hx hb dX12_isSweet_12 (by decide +kernel) ?_
      refine pk_i (va_runV (As := [.int a0, .int 8]) (rest := []) ⟨hx, hb, hml, hown, hts⟩ (s_X12_cellAt_c8 l D t σ I J ri rj rq H.size tg hSH hG.1 this a0 hL_this hK_this (rg_w h_a0 (by decide +kernel))) (cwV 2 hts (tw_V tw_361 tw_362 tw_363 tw_5 tw_364) rfl rfl rfl cv_yX12_cellAt_2 ⟨Nat.le_of_ble_eq_true rfl, Nat.le_of_ble_eq_true rfl⟩) ⟨pq_blind, pq_recv hK hP hL_this hK_this (by decide +kernel) rfl, pq_pre hK hN hP hD⟩ rfl rfl hl.1 rfl (lv_room (Nat.le_of_ble_eq_true rfl)) dX12_isSweet_14 ⟨Nat.le_of_ble_eq_true rfl, Nat.le_of_ble_eq_true rfl⟩) hD hS hA (fun x_53 σ1 μ1 H locs hw_54 hP hD hS => ?_)
      obtain ⟨hu_55, hfn_58⟩ := hw_54
      obtain ⟨hu_55a, hu_55b⟩ := Prod.mk.inj hu_55
      rw [hu_55a, hu_55b] at hP hD
      replace hF := hF.trans (bn_n hfn_58)
      refine lv_if_le (tgt := 48) hx hb dX12_isSweet_17 (by decide +kernel) (fun c_60 => ?_) (fun c_60 => ?_)
      · replace hF := hF.trans (if_pos c_60)
        have tc_65 : (x_53).toInt ≤ 0 := Int32.le_iff_toInt_le.mp c_60
        have h_66 : rg x_53 (-2147483648) 0 := rg_le1 c_60 (rg_full _) (rg_k (0 : Int32) 0 rfl) (by decide +kernel)
        have uh_66 := h_66.1
        have vh_66 := h_66.2
        exact K_47 _ _ _ hF hFr hG hP hD hS (lv_sub hl [] rfl)
      · replace hF := hF.trans (if_neg c_60)
        have tc_67 : 0 < (x_53).toInt := Int32.lt_iff_toInt_lt.mp (nle c_60)
        have h_68 : rg x_53 1 2147483647 := rg_lt2 (nle c_60) (rg_k (0 : Int32) 0 rfl) (rg_full _) (by decide +kernel)
        have uh_68 := h_68.1
        have vh_68 := h_68.2
        refine lv_aload_n hx hb dX12_isSweet_20 rfl (lv_at hl 0 rfl) ?_
        refine lv_iload_n hx hb dX12_isSweet_21 rfl (lv_at hl 1 rfl) ?_
        refine lv_bipush (v := 10) hx hb dX12_isSweet_22 (by decide +kernel) ?_
        refine pk_i (va_runV (As := [.int a0, .int 10]) (rest := []) ⟨hx, hb, hml, hown, hts⟩ (s_X12_cellAt_c10 l D t σ I J ri rj rq H.size tg hSH hG.1 this a0 hL_this hK_this (rg_w h_a0 (by decide +kernel))) (cwV 2 hts (tw_V tw_361 tw_362 tw_363 tw_5 tw_364) rfl rfl rfl cv_yX12_cellAt_2 ⟨Nat.le_of_ble_eq_true rfl, Nat.le_of_ble_eq_true rfl⟩) ⟨pq_blind, pq_recv hK hP hL_this hK_this (by decide +kernel) rfl, pq_pre hK hN hP hD⟩ rfl rfl hl.1 rfl (lv_room (Nat.le_of_ble_eq_true rfl)) dX12_isSweet_24 ⟨Nat.le_of_ble_eq_true rfl, Nat.le_of_ble_eq_true rfl⟩) hD hS hA (fun x_69 σ1 μ1 H locs hw_70 hP hD hS => ?_)
        obtain ⟨hu_71, hfn_74⟩ := hw_70
        obtain ⟨hu_71a, hu_71b⟩ := Prod.mk.inj hu_71
        rw [hu_71a, hu_71b] at hP hD
        replace hF := hF.trans (bn_n hfn_74)
        refine lv_bipush (v := 20) hx hb dX12_isSweet_27 (by decide +kernel) ?_
        refine lv_icmp_gt (tgt := 48) hx hb dX12_isSweet_29 (by decide +kernel) (fun c_76 => ?_) (fun c_76 => ?_)
        · replace hF := hF.trans (if_pos c_76)
          have tc_81 : 20 < (x_69).toInt := Int32.lt_iff_toInt_lt.mp c_76
          have h_82 : rg x_69 21 2147483647 := rg_lt2 c_76 (rg_k (20 : Int32) 20 rfl) (rg_full _) (by decide +kernel)
          have uh_82 := h_82.1
          have vh_82 := h_82.2
          exact K_47 _ _ _ hF hFr hG hP hD hS (lv_sub hl [] rfl)
        · replace hF := hF.trans (if_neg c_76)
          have tc_83 : (x_69).toInt ≤ 20 := Int32.le_iff_toInt_le.mp (nlt c_76)
          have h_84 : rg x_69 (-2147483648) 20 := rg_le1 (nlt c_76) (rg_full _) (rg_k (20 : Int32) 20 rfl) (by decide +kernel)
          have uh_84 := h_84.1
          have vh_84 := h_84.2
          refine lv_aload_n hx hb dX12_isSweet_32 rfl (lv_at hl 0 rfl) ?_
          refine lv_iload_n hx hb dX12_isSweet_33 rfl (lv_at hl 1 rfl) ?_
          refine lv_bipush (v := 9) hx hb dX12_isSweet_34 (by decide +kernel) ?_
          refine pk_i (va_runV (As := [.int a0, .int 9]) (rest := []) ⟨hx, hb, hml, hown, hts⟩ (s_X12_cellAt_c9 l D t σ I J ri rj rq H.size tg hSH hG.1 this a0 hL_this hK_this (rg_w h_a0 (by decide +kernel))) (cwV 2 hts (tw_V tw_361 tw_362 tw_363 tw_5 tw_364) rfl rfl rfl cv_yX12_cellAt_2 ⟨Nat.le_of_ble_eq_true rfl, Nat.le_of_ble_eq_true rfl⟩) ⟨pq_blind, pq_recv hK hP hL_this hK_this (by decide +kernel) rfl, pq_pre hK hN hP hD⟩ rfl rfl hl.1 rfl (lv_room (Nat.le_of_ble_eq_true rfl)) dX12_isSweet_36 ⟨Nat.le_of_ble_eq_true rfl, Nat.le_of_ble_eq_true rfl⟩) hD hS hA (fun x_85 σ1 μ1 H locs hw_86 hP hD hS => ?_)
          obtain ⟨hu_87, hfn_90⟩ := hw_86
          obtain ⟨hu_87a, hu_87b⟩ := Prod.mk.inj hu_87
          rw [hu_87a, hu_87b] at hP hD
          replace hF := hF.trans (bn_n hfn_90)
          refine lv_bipush (v := 10) hx hb dX12_isSweet_39 (by decide +kernel) ?_
          refine lv_icmp_lt (tgt := 48) hx hb dX12_isSweet_41 (by decide +kernel) (fun c_92 => ?_) (fun c_92 => ?_)
          · replace hF := hF.trans (if_pos c_92)
            have tc_97 : (x_85).toInt < 10 := Int32.lt_iff_toInt_lt.mp c_92
            have h_98 : rg x_85 (-2147483648) 9 := rg_lt1 c_92 (rg_full _) (rg_k (10 : Int32) 10 rfl) (by decide +kernel)
            have uh_98 := h_98.1
            have vh_98 := h_98.2
            exact K_47 _ _ _ hF hFr hG hP hD hS (lv_sub hl [] rfl)
          · replace hF := hF.trans (if_neg c_92)
            have tc_99 : 10 ≤ (x_85).toInt := Int32.le_iff_toInt_le.mp (nlt c_92)
            have h_100 : rg x_85 10 2147483647 := rg_le2 (nlt c_92) (rg_k (10 : Int32) 10 rfl) (rg_full _) (by decide +kernel)
            have uh_100 := h_100.1
            have vh_100 := h_100.2
            refine lv_iconst (v := 1) hx hb dX12_isSweet_44 (by decide +kernel) ?_
            refine lv_goto (tgt := 49) hx hb dX12_isSweet_45 (by decide +kernel) ?_
            subst hQ
            exact W.zret (v := 1) hx hb hr (by decide +kernel) (fun t1 ht hW => ⟨⟨1, (σ, I, J, ri, rj, rq), rfl, ⟨rfl, (hF0.symm.trans hF), (Or.inl ⟨rfl, trivial⟩)⟩, by rw [ht]; exact hP, va_K.moved hW.alike hK, hD⟩, hS.F ht⟩) hS.2.2 dX12_isSweet_49
  exact go _ _ _ hP hD hS hl

set_option maxRecDepth 100000 in
def g_X12_isOnRing (a0 : Int32) (I : Nat → Int32) (J : Nat → Int64) (ri : Nat → Nat → Int32) (rj : Nat → Nat → Int64) (rq : Nat → Nat → Option Nat) : Int32 × vM := (bnI (g_X12_personAt_c3 a0 I J ri rj rq) fun (x_1 : Int32) (_ : Nat → Int32) (_ : Nat → Int64) (_ : Nat → Nat → Int32) (_ : Nat → Nat → Int64) (_ : Nat → Nat → Option Nat) => (if (100 : Int32) ≤ x_1 then ((0 : Int32), I, J, ri, rj, rq) else ((1 : Int32), I, J, ri, rj, rq)))
set_option maxRecDepth 100000 in
theorem g_X12_isOnRing_e {a0 : Int32} {I : Nat → Int32} {J : Nat → Int64} {ri : Nat → Nat → Int32} {rj : Nat → Nat → Int64} {rq : Nat → Nat → Option Nat} : g_X12_isOnRing a0 I J ri rj rq = (bnI (g_X12_personAt_c3 a0 I J ri rj rq) fun (x_1 : Int32) (_ : Nat → Int32) (_ : Nat → Int64) (_ : Nat → Nat → Int32) (_ : Nat → Nat → Int64) (_ : Nat → Nat → Option Nat) => (if (100 : Int32) ≤ x_1 then ((0 : Int32), I, J, ri, rj, rq) else ((1 : Int32), I, J, ri, rj, rq))) := rfl
set_option maxHeartbeats 4000000 in
set_option maxRecDepth 100000 in
theorem s_X12_isOnRing (l : Launch) (D : va_G) (t : pq_T) (σ : pq_S) (I : Nat → Nat → Int32) (J : Nat → Nat → Int64) (ri : Nat → Nat → Int32) (rj : Nat → Nat → Int64) (rq : Nat → Nat → Option Nat) (sz : Nat) (tg : Nat → Nat) (hSH : SH σ tg) (hG0 : GT tg I ri) (this : Nat) (a0 : Int32) (hL_this : this ∈ σ.1) (hK_this : σ.2.1 this = 12) (h_a0 : rg a0 0 39) (this_a : Nat) (hR_this_a : σ.2.2.1 384 this = some this_a) (hL_this_a : this_a ∈ σ.1) (hK_this_a : σ.2.1 this_a = 13) (hN_this_a : σ.2.2.2 this_a = 12720) (hT_this_a : tg this_a = 384) : MetI l yX12_isOnRing (wa yX12_isOnRing cX12_isOnRing 2 (some .boolean)) ({ frames := 1, cells := 0, slots := 0, locals := 22 }) [.ref this, .int a0] D t σ (I, J, ri, rj, rq) sz 0 0 (fun (r : Int32) (u : pq_S × pq_M) => u = (σ, I, J, ri, rj, rq) ∧ g_X12_isOnRing a0 (vI 12 σ this I) (vJ 12 σ this J) (vR 12 σ this ri) (vL 12 σ this rj) (vQ 12 σ this rq) = (r, (vI 12 σ this I), (vJ 12 σ this J), (vR 12 σ this ri), (vL 12 σ this rj), (vQ 12 σ this rq)) ∧ ((r = 1 ∧ rg (ri this_a (743 + 12 * (a0).toNatClampNeg)) 0 4) ∨ (r = 0 ∧ True))) := by
  refine Met.ofW (cc := cX12_isOnRing) (maxL := 2) (ret := (some .boolean)) (by decide +kernel) rfl ?_
  intro p e s m args below meth c s₁ B hml hv
  obtain ⟨rfl, hsz, hP, hK, hD0, hN⟩ := hv
  have hx := B.exec
  have hb := B.bytes
  have hr := B.returns
  have hts := atoms_spec (ws := (wa yX12_isOnRing cX12_isOnRing 2 (some .boolean))) B.pre
  have hown : s.vm.findClass RX12 = some m.cls := findClass_of_methodNamed B.named
  have hlocks := B.notSynchronized
  subst hsz
  have hD : va_D (pq_B t σ (I, J, ri, rj, rq) s.heap.size) (pq_P t σ (I, J, ri, rj, rq)) := hD0.self
  generalize hAe : pq_B t σ (I, J, ri, rj, rq) s.heap.size = A at hD ⊢
  have hA : ∀ q : Nat, s.heap.size ≤ q → A q := fun q h => by rw [← hAe]; exact Or.inr h
  have hS : va_S A s.heap s.heap [] := va_S.rf
  have hG : GM [] tg σ I ri I ri rq := ⟨hG0, fun _ _ _ => rfl, fun _ _ _ _ _ => rfl, fun _ _ _ _ _ _ => rfl⟩
  have hl := lv_entry ([.ref this, .int a0]) (n := 2) (Nat.le_of_ble_eq_true rfl)
  rw [lg_entry_eq]
  generalize (lg_sl ([.ref this, .int a0]) ++ List.replicate (2 - (lg_sl ([.ref this, .int a0])).length) Slot.unset).toArray = ls at hl ⊢
  have hl : lv_has ls 2 [(0, .ref this), (1, .int a0)] := hl
  refine q_gen (fun Q hQ => ?_)
  have go : ∀ (H : Heap) (locs : List Loc) (ls : Array Slot), va_P D vwCl (pq_P t σ (I, J, ri, rj, rq)) H → va_D A (pq_P t σ (I, J, ri, rj, rq)) → va_S A s.heap H locs → lv_has ls 2 [(0, .ref this), (1, .int a0)] → W p l e ({ frames := 1, cells := 0, slots := 0, locals := 22 } : Room) s m (List.toArray ([.ref this, .int a0] : List Value)) below meth c H locs 0 0 Q (F0 m 0 ls []) := by
    intro H locs ls hP hD hS hl
    have hO_this : this = vo σ 12 this := rfl
    have hVT : VT 12 σ tg this := vt_12 hSH hL_this hK_this
    have hFr : FR 12 tg σ this (I, J, ri, rj, rq) (I, J, ri, rj, rq) := fr_rf
    have hO_this_a : this_a = vrow σ 384 this := vo_k (c := 12) hO_this hR_this_a
    obtain ⟨F, hF0⟩ : ∃ F, F = g_X12_isOnRing a0 (vI 12 σ this I) (vJ 12 σ this J) (vR 12 σ this ri) (vL 12 σ this rj) (vQ 12 σ this rq) := ⟨_, rfl⟩
    have hF := hF0.trans g_X12_isOnRing_e
    refine lv_aload_n hx hb dX12_isOnRing_0 rfl (lv_at hl 0 rfl) ?_
    refine lv_iload_n hx hb dX12_isOnRing_1 rfl (lv_at hl 1 rfl) ?_
    refine lv_iconst (v := 3) hx hb dX12_isOnRing_2 (by decide +kernel) ?_
    refine pk_i (va_runV (As := [.int a0, .int 3]) (rest := []) ⟨hx, hb, hml, hown, hts⟩ (s_X12_personAt_c3 l D t σ I J ri rj rq H.size tg hSH hG.1 this a0 hL_this hK_this (rg_w h_a0 (by decide +kernel)) this_a hR_this_a hL_this_a hK_this_a hN_this_a hT_this_a) (cwV 2 hts (tw_V tw_437 tw_438 tw_439 tw_5 tw_440) rfl rfl rfl cv_yX12_personAt_2 ⟨Nat.le_of_ble_eq_true rfl, Nat.le_of_ble_eq_true rfl⟩) ⟨pq_blind, pq_recv hK hP hL_this hK_this (by decide +kernel) rfl, pq_pre hK hN hP hD⟩ rfl rfl hl.1 rfl (lv_room (Nat.le_of_ble_eq_true rfl)) dX12_isOnRing_3 ⟨Nat.le_of_ble_eq_true rfl, Nat.le_of_ble_eq_true rfl⟩) hD hS hA (fun x_1 σ1 μ1 H locs hw_2 hP hD hS => ?_)
    obtain ⟨hu_3, hp_6, hp_7, hfn_8, hr_5⟩ := hw_2
    obtain ⟨hu_3a, hu_3b⟩ := Prod.mk.inj hu_3
    rw [hu_3a, hu_3b] at hP hD
    replace hF := hF.trans (bn_n hfn_8)
    have tt_10 := hp_7
    refine lv_bipush (v := 100) hx hb dX12_isOnRing_6 (by decide +kernel) ?_
    refine lv_icmp_ge (tgt := 15) hx hb dX12_isOnRing_8 (by decide +kernel) (fun c_11 => ?_) (fun c_11 => ?_)
    · replace hF := hF.trans (if_pos c_11)
      have tc_16 : 100 ≤ (x_1).toInt := Int32.le_iff_toInt_le.mp c_11
      have h_17 : rg x_1 100 300 := rg_le2 c_11 (rg_k (100 : Int32) 100 rfl) hr_5 (by decide +kernel)
      have uh_17 := h_17.1
      have vh_17 := h_17.2
      refine lv_iconst (v := 0) hx hb dX12_isOnRing_15 (by decide +kernel) ?_
      subst hQ
      exact W.zret (v := 0) hx hb hr (by decide +kernel) (fun t1 ht hW => ⟨⟨0, (σ, I, J, ri, rj, rq), rfl, ⟨rfl, (hF0.symm.trans hF), (Or.inr ⟨rfl, trivial⟩)⟩, by rw [ht]; exact hP, va_K.moved hW.alike hK, hD⟩, hS.F ht⟩) hS.2.2 dX12_isOnRing_16
    · replace hF := hF.trans (if_neg c_11)
      have tc_18 : (x_1).toInt < 100 := Int32.lt_iff_toInt_lt.mp (nle c_11)
      have h_19 : rg x_1 0 99 := rg_lt1 (nle c_11) hr_5 (rg_k (100 : Int32) 100 rfl) (by decide +kernel)
      have uh_19 := h_19.1
      have vh_19 := h_19.2
      refine lv_iconst (v := 1) hx hb dX12_isOnRing_11 (by decide +kernel) ?_
      refine lv_goto (tgt := 16) hx hb dX12_isOnRing_12 (by decide +kernel) ?_
      subst hQ
      exact W.zret (v := 1) hx hb hr (by decide +kernel) (fun t1 ht hW => ⟨⟨1, (σ, I, J, ri, rj, rq), rfl, ⟨rfl, (hF0.symm.trans hF), (Or.inl ⟨rfl, (rg_of_eq hp_6.symm ⟨by omega, by omega⟩)⟩)⟩, by rw [ht]; exact hP, va_K.moved hW.alike hK, hD⟩, hS.F ht⟩) hS.2.2 dX12_isOnRing_16
  exact go _ _ _ hP hD hS hl

set_option maxRecDepth 100000 in
def g_X12_drink_K107 (x_9754 : Int32) (k_g_X12_drink_L2 : (Int32) → (Nat → Nat → Int32) → vM) (ri_11398 : Nat → Nat → Int32) : vM := (ap1 (x_9754 + Int32.ofInt 1) fun (x_11402 : Int32) => (k_g_X12_drink_L2 x_11402 ri_11398))
set_option maxRecDepth 100000 in
theorem g_X12_drink_K107_e {x_9754 : Int32} {k_g_X12_drink_L2 : (Int32) → (Nat → Nat → Int32) → vM} {ri_11398 : Nat → Nat → Int32} : g_X12_drink_K107 x_9754 k_g_X12_drink_L2 ri_11398 = (ap1 (x_9754 + Int32.ofInt 1) fun (x_11402 : Int32) => (k_g_X12_drink_L2 x_11402 ri_11398)) := rfl
set_option maxRecDepth 100000 in
def g_X12_drink_K55 (x_9754 : Int32) (ri_9755 : Nat → Nat → Int32) (k_g_X12_drink_L2 : (Int32) → (Nat → Nat → Int32) → vM) (x_12090 : Int32) (y_12154 : Int32) : vM := (if (y_12154) ≤ x_12090 then (ap1 ((12 : Int32) * x_9754) fun (x_12215 : Int32) => (ap1 ((740 : Int32) + x_12215) fun (x_12217 : Int32) => (ap1 (x_12217 + (5 : Int32)) fun (x_12219 : Int32) => (ap1 (ri_9755 384 (x_12219).toNatClampNeg) fun (x_12221 : Int32) => (ap1 (x_12221 + (1 : Int32)) fun (x_12222 : Int32) => (ap1 (va_up ri_9755 384 (upd (ri_9755 384) (x_12219).toNatClampNeg x_12222)) fun (r_12223 : Nat → Nat → Int32) => (g_X12_drink_K107 x_9754 k_g_X12_drink_L2 r_12223))))))) else (ap1 ((16 : Int32) * x_12090) fun (x_12227 : Int32) => (ap1 ((100 : Int32) + x_12227) fun (x_12229 : Int32) => (ap1 (x_12229 + (9 : Int32)) fun (x_12231 : Int32) => (ap1 (ri_9755 384 (x_12231).toNatClampNeg) fun (x_12233 : Int32) => (ap1 (x_12233 - (10 : Int32)) fun (x_12234 : Int32) => (ap1 (va_up ri_9755 384 (upd (ri_9755 384) (x_12231).toNatClampNeg x_12234)) fun (r_12235 : Nat → Nat → Int32) => (g_X12_drink_K107 x_9754 k_g_X12_drink_L2 r_12235))))))))
set_option maxRecDepth 100000 in
theorem g_X12_drink_K55_e {x_9754 : Int32} {ri_9755 : Nat → Nat → Int32} {k_g_X12_drink_L2 : (Int32) → (Nat → Nat → Int32) → vM} {x_12090 : Int32} {y_12154 : Int32} : g_X12_drink_K55 x_9754 ri_9755 k_g_X12_drink_L2 x_12090 y_12154  = (if (y_12154) ≤ x_12090 then (ap1 ((12 : Int32) * x_9754) fun (x_12215 : Int32) => (ap1 ((740 : Int32) + x_12215) fun (x_12217 : Int32) => (ap1 (x_12217 + (5 : Int32)) fun (x_12219 : Int32) => (ap1 (ri_9755 384 (x_12219).toNatClampNeg) fun (x_12221 : Int32) => (ap1 (x_12221 + (1 : Int32)) fun (x_12222 : Int32) => (ap1 (va_up ri_9755 384 (upd (ri_9755 384) (x_12219).toNatClampNeg x_12222)) fun (r_12223 : Nat → Nat → Int32) => (g_X12_drink_K107 x_9754 k_g_X12_drink_L2 r_12223))))))) else (ap1 ((16 : Int32) * x_12090) fun (x_12227 : Int32) => (ap1 ((100 : Int32) + x_12227) fun (x_12229 : Int32) => (ap1 (x_12229 + (9 : Int32)) fun (x_12231 : Int32) => (ap1 (ri_9755 384 (x_12231).toNatClampNeg) fun (x_12233 : Int32) => (ap1 (x_12233 - (10 : Int32)) fun (x_12234 : Int32) => (ap1 (va_up ri_9755 384 (upd (ri_9755 384) (x_12231).toNatClampNeg x_12234)) fun (r_12235 : Nat → Nat → Int32) => (g_X12_drink_K107 x_9754 k_g_X12_drink_L2 r_12235)))))))) := rfl
set_option maxRecDepth 100000 in
def g_X12_drink_L25 (I : Nat → Int32) (J : Nat → Int64) (ri : Nat → Nat → Int32) (rj : Nat → Nat → Int64) (rq : Nat → Nat → Option Nat) (x_9754 : Int32) (ri_9755 : Nat → Nat → Int32) (k_g_X12_drink_L2 : (Int32) → (Nat → Nat → Int32) → vM) : Nat → (Int32) → vM
  | 0, x_12090 => (I, J, ri_9755, rj, rq)
  | n_12148 + 1, x_12090 => (ap1 (ri 384 2) fun (y_12154 : Int32) => (if (y_12154) ≤ x_12090 then (g_X12_drink_K55 x_9754 ri_9755 k_g_X12_drink_L2 x_12090 y_12154 ) else (bnI (g_X12_personAt_c3 x_9754 I J ri_9755 rj rq) fun (x_12245 : Int32) (_ : Nat → Int32) (_ : Nat → Int64) (_ : Nat → Nat → Int32) (_ : Nat → Nat → Int64) (_ : Nat → Nat → Option Nat) => (bnI (g_X12_isSweet x_12090 x_12245 I J ri_9755 rj rq) fun (x_12255 : Int32) (_ : Nat → Int32) (_ : Nat → Int64) (_ : Nat → Nat → Int32) (_ : Nat → Nat → Int64) (_ : Nat → Nat → Option Nat) => (if x_12255 = (0 : Int32) then (ap1 (x_12090 + Int32.ofInt 1) fun (x_12272 : Int32) => ((g_X12_drink_L25 I J ri rj rq x_9754 ri_9755 k_g_X12_drink_L2 n_12148) x_12272)) else (g_X12_drink_K55 x_9754 ri_9755 k_g_X12_drink_L2 x_12090 y_12154 ))))))
set_option maxRecDepth 100000 in
theorem g_X12_drink_L25_e {I : Nat → Int32} {J : Nat → Int64} {ri : Nat → Nat → Int32} {rj : Nat → Nat → Int64} {rq : Nat → Nat → Option Nat} {x_9754 : Int32} {ri_9755 : Nat → Nat → Int32} {k_g_X12_drink_L2 : (Int32) → (Nat → Nat → Int32) → vM} {n_12148 : Nat} {x_12090 : Int32} : g_X12_drink_L25 I J ri rj rq x_9754 ri_9755 k_g_X12_drink_L2 (n_12148 + 1) x_12090 = (ap1 (ri 384 2) fun (y_12154 : Int32) => (if (y_12154) ≤ x_12090 then (g_X12_drink_K55 x_9754 ri_9755 k_g_X12_drink_L2 x_12090 y_12154 ) else (bnI (g_X12_personAt_c3 x_9754 I J ri_9755 rj rq) fun (x_12245 : Int32) (_ : Nat → Int32) (_ : Nat → Int64) (_ : Nat → Nat → Int32) (_ : Nat → Nat → Int64) (_ : Nat → Nat → Option Nat) => (bnI (g_X12_isSweet x_12090 x_12245 I J ri_9755 rj rq) fun (x_12255 : Int32) (_ : Nat → Int32) (_ : Nat → Int64) (_ : Nat → Nat → Int32) (_ : Nat → Nat → Int64) (_ : Nat → Nat → Option Nat) => (if x_12255 = (0 : Int32) then (ap1 (x_12090 + Int32.ofInt 1) fun (x_12272 : Int32) => ((g_X12_drink_L25 I J ri rj rq x_9754 ri_9755 k_g_X12_drink_L2 n_12148) x_12272)) else (g_X12_drink_K55 x_9754 ri_9755 k_g_X12_drink_L2 x_12090 y_12154 )))))) := rfl
set_option maxRecDepth 100000 in
def g_X12_drink_L2 (I : Nat → Int32) (J : Nat → Int64) (ri : Nat → Nat → Int32) (rj : Nat → Nat → Int64) (rq : Nat → Nat → Option Nat) : Nat → (Int32) → (Nat → Nat → Int32) → vM
  | 0, x_9754, ri_9755 => (I, J, ri_9755, rj, rq)
  | n_10575 + 1, x_9754, ri_9755 => (ap1 (ri 384 5) fun (y_10582 : Int32) => (if (y_10582) ≤ x_9754 then (I, J, ri_9755, rj, rq) else (bnI (g_X12_isOnRing x_9754 I J ri_9755 rj rq) fun (x_10592 : Int32) (_ : Nat → Int32) (_ : Nat → Int64) (_ : Nat → Nat → Int32) (_ : Nat → Nat → Int64) (_ : Nat → Nat → Option Nat) => (if x_10592 = (0 : Int32) then (g_X12_drink_K107 x_9754 (g_X12_drink_L2 I J ri rj rq n_10575) ri_9755) else (g_X12_drink_L25 I J ri rj rq x_9754 ri_9755 (g_X12_drink_L2 I J ri rj rq n_10575) ((40 - ((0 : Int32)).toInt).toNat + 1) (0 : Int32))))))
set_option maxRecDepth 100000 in
theorem g_X12_drink_L2_e {I : Nat → Int32} {J : Nat → Int64} {ri : Nat → Nat → Int32} {rj : Nat → Nat → Int64} {rq : Nat → Nat → Option Nat} {n_10575 : Nat} {x_9754 : Int32} {ri_9755 : Nat → Nat → Int32} : g_X12_drink_L2 I J ri rj rq (n_10575 + 1) x_9754 ri_9755 = (ap1 (ri 384 5) fun (y_10582 : Int32) => (if (y_10582) ≤ x_9754 then (I, J, ri_9755, rj, rq) else (bnI (g_X12_isOnRing x_9754 I J ri_9755 rj rq) fun (x_10592 : Int32) (_ : Nat → Int32) (_ : Nat → Int64) (_ : Nat → Nat → Int32) (_ : Nat → Nat → Int64) (_ : Nat → Nat → Option Nat) => (if x_10592 = (0 : Int32) then (g_X12_drink_K107 x_9754 (g_X12_drink_L2 I J ri rj rq n_10575) ri_9755) else (g_X12_drink_L25 I J ri rj rq x_9754 ri_9755 (g_X12_drink_L2 I J ri rj rq n_10575) ((40 - ((0 : Int32)).toInt).toNat + 1) (0 : Int32)))))) := rfl
set_option maxRecDepth 100000 in
def g_X12_drink (I : Nat → Int32) (J : Nat → Int64) (ri : Nat → Nat → Int32) (rj : Nat → Nat → Int64) (rq : Nat → Nat → Option Nat) : vM := (g_X12_drink_L2 I J ri rj rq ((40 - ((0 : Int32)).toInt).toNat + 1) (0 : Int32) ri)
set_option maxRecDepth 100000 in
theorem g_X12_drink_e {I : Nat → Int32} {J : Nat → Int64} {ri : Nat → Nat → Int32} {rj : Nat → Nat → Int64} {rq : Nat → Nat → Option Nat} : g_X12_drink I J ri rj rq = (g_X12_drink_L2 I J ri rj rq ((40 - ((0 : Int32)).toInt).toNat + 1) (0 : Int32) ri) := rfl
set_option maxHeartbeats 4000000 in
set_option maxRecDepth 100000 in
theorem s_X12_drink (l : Launch) (D : va_G) (t : pq_T) (σ : pq_S) (I : Nat → Nat → Int32) (J : Nat → Nat → Int64) (ri : Nat → Nat → Int32) (rj : Nat → Nat → Int64) (rq : Nat → Nat → Option Nat) (sz : Nat) (tg : Nat → Nat) (hSH : SH σ tg) (hG0 : GT tg I ri) (this : Nat) (hL_this : this ∈ σ.1) (hK_this : σ.2.1 this = 12) : MetV l yX12_drink (wa yX12_drink cX12_drink 3 none) ({ frames := 2, cells := 0, slots := 0, locals := 44 }) [.ref this] D t σ (I, J, ri, rj, rq) sz 0 0 (fun (u : pq_S × pq_M) => ∃ ri' : Nat → Nat → Int32, u = (σ, I, J, ri', rj, rq) ∧ GM [] tg σ I ri I ri' rq ∧ g_X12_drink (vI 12 σ this I) (vJ 12 σ this J) (vR 12 σ this ri) (vL 12 σ this rj) (vQ 12 σ this rq) = ((vI 12 σ this I), (vJ 12 σ this J), (vR 12 σ this ri'), (vL 12 σ this rj), (vQ 12 σ this rq)) ∧ FR 12 tg σ this (I, J, ri, rj, rq) (I, J, ri', rj, rq)) := by
  refine Met.ofW (cc := cX12_drink) (maxL := 3) (ret := none) (by decide +kernel) rfl ?_
  intro p e s m args below meth c s₁ B hml hv
  obtain ⟨rfl, hsz, hP, hK, hD0, hN⟩ := hv
  have hx := B.exec
  have hb := B.bytes
  have hr := B.returns
  have hts := atoms_spec (ws := (wa yX12_drink cX12_drink 3 none)) B.pre
  have hown : s.vm.findClass RX12 = some m.cls := findClass_of_methodNamed B.named
  have hlocks := B.notSynchronized
  subst hsz
  have hD : va_D (pq_B t σ (I, J, ri, rj, rq) s.heap.size) (pq_P t σ (I, J, ri, rj, rq)) := hD0.self
  generalize hAe : pq_B t σ (I, J, ri, rj, rq) s.heap.size = A at hD ⊢
  have hA : ∀ q : Nat, s.heap.size ≤ q → A q := fun q h => by rw [← hAe]; exact Or.inr h
  have hS : va_S A s.heap s.heap [] := va_S.rf
  have hG : GM [] tg σ I ri I ri rq := ⟨hG0, fun _ _ _ => rfl, fun _ _ _ _ _ => rfl, fun _ _ _ _ _ _ => rfl⟩
  have hl := lv_entry ([.ref this]) (n := 3) (Nat.le_of_ble_eq_true rfl)
  rw [lg_entry_eq]
  generalize (lg_sl ([.ref this]) ++ List.replicate (3 - (lg_sl ([.ref this])).length) Slot.unset).toArray = ls at hl ⊢
  have hl : lv_has ls 3 [(0, .ref this)] := hl
  refine q_gen (fun Q hQ => ?_)
  have go : ∀ (H : Heap) (locs : List Loc) (ls : Array Slot), va_P D vwCl (pq_P t σ (I, J, ri, rj, rq)) H → va_D A (pq_P t σ (I, J, ri, rj, rq)) → va_S A s.heap H locs → lv_has ls 3 [(0, .ref this)] → W p l e ({ frames := 2, cells := 0, slots := 0, locals := 44 } : Room) s m (List.toArray ([.ref this] : List Value)) below meth c H locs 0 0 Q (F0 m 0 ls []) := by
    intro H locs ls hP hD hS hl
    have hO_this : this = vo σ 12 this := rfl
    have hVT : VT 12 σ tg this := vt_12 hSH hL_this hK_this
    have hFr : FR 12 tg σ this (I, J, ri, rj, rq) (I, J, ri, rj, rq) := fr_rf
    obtain ⟨F, hF0⟩ : ∃ F, F = g_X12_drink (vI 12 σ this I) (vJ 12 σ this J) (vR 12 σ this ri) (vL 12 σ this rj) (vQ 12 σ this rq) := ⟨_, rfl⟩
    have hF := hF0.trans g_X12_drink_e
    refine lv_iconst (v := 0) hx hb dX12_drink_0 (by decide +kernel) ?_
    refine lv_istore_n (lv' := [(1, .int 0), (0, .ref this)]) hx hb dX12_drink_1 rfl hl (by decide +kernel) rfl (fun ls hl => ?_)
    have L_10576 : ∀ (n_10575 : Nat) (x_9754 : Int32) (ri_9755 : Nat → Nat → Int32) (H : Heap) (locs : List Loc) (ls : Array Slot), rg x_9754 0 40 → (40 - (x_9754).toInt).toNat < n_10575 → F = g_X12_drink_L2 (vI 12 σ this I) (vJ 12 σ this J) (vR 12 σ this ri) (vL 12 σ this rj) (vQ 12 σ this rq) n_10575 x_9754 (vR 12 σ this ri_9755) → FR 12 tg σ this (I, J, ri, rj, rq) (I, J, ri_9755, rj, rq) → GM [] tg σ I ri I ri_9755 rq → va_P D vwCl (pq_P t σ (I, J, ri_9755, rj, rq)) H → va_D A (pq_P t σ (I, J, ri_9755, rj, rq)) → va_S A s.heap H locs → lv_has ls 3 [(0, .ref this), (1, .int x_9754)] → W p l e ({ frames := 2, cells := 0, slots := 0, locals := 44 } : Room) s m (List.toArray ([.ref this] : List Value)) below meth c H locs 0 0 Q (F0 m 2 ls []) := by
      intro n_10575
      induction n_10575 with
      | zero => intro x_9754 ri_9755 H locs ls h_10579 hm_10574 hF hFr hG hP hD hS hl; exact absurd hm_10574 (Nat.not_lt_zero _)
      | succ n_10575 ih_10577 =>
        intro x_9754 ri_9755 H locs ls h_10579 hm_10574 hF hFr hG hP hD hS hl
        have uh_10579 := h_10579.1
        have vh_10579 := h_10579.2
        replace hF := hF.trans g_X12_drink_L2_e
        refine lv_iload_n hx hb dX12_drink_2 rfl (lv_at hl 1 rfl) ?_
        refine lv_aload_n hx hb dX12_drink_3 rfl (lv_at hl 0 rfl) ?_
        obtain ⟨w_10580, hR_w_10580, hL_w_10580, hK_w_10580, hN_w_10580, hT_w_10580⟩ := sh_a hSH 384 (ci := 12) (kd := 13) (len := 12720) rfl (by decide +kernel) hL_this hK_this
        have hO_w_10580 : w_10580 = vrow σ 384 this := vo_k (c := 12) hO_this hR_w_10580
        refine pg_f (v := .ref w_10580) (C := RX12) (T := TX12) (N := 31) hx hb hts (tw_i inlX12) hown hK hP hL_this hK_this (by decide +kernel) rfl 0 (by decide +kernel) (hts _ (tw_c tw_176)) (pq_hv rfl hR_w_10580) dX12_drink_4 ?_
        refine lv_iconst (v := 5) hx hb dX12_drink_7 (by decide +kernel) ?_
        refine pl_i hx hb hK hP hL_w_10580 hK_w_10580 hN_w_10580 (vp_in_iff.mpr (by decide +kernel)) dX12_drink_8 ?_
        refine lv_tov (ri w_10580 5) (hG.2.2.1 w_10580 hT_w_10580 5 (by decide +kernel) (by decide +kernel)) ?_
        have h_10581 : rg (ri w_10580 5) 0 40 := GM.z0 hG0 (by rw [hT_w_10580]; decide) (i := 5) (k := 5) (by decide +kernel) rfl
        have uh_10581 := h_10581.1
        have vh_10581 := h_10581.2
        replace hF := hF.trans (ap_n (vR_r hO_w_10580 (by decide +kernel) rfl))
        refine lv_icmp_ge (tgt := 113) hx hb dX12_drink_9 (by decide +kernel) (fun c_10583 => ?_) (fun c_10583 => ?_)
        · replace hF := hF.trans (if_pos c_10583)
          have tc_10588 : (ri w_10580 5).toInt ≤ (x_9754).toInt := Int32.le_iff_toInt_le.mp c_10583
          subst hQ
          exact W.vret hx hb hr (fun t1 ht hW => ⟨⟨(σ, I, J, ri_9755, rj, rq), rfl, ⟨ri_9755, rfl, hG, (hF0.symm.trans hF), hFr⟩, by rw [ht]; exact hP, va_K.moved hW.alike hK, hD⟩, hS.F ht⟩) hS.2.2 dX12_drink_113
        · replace hF := hF.trans (if_neg c_10583)
          have tc_10589 : (x_9754).toInt < (ri w_10580 5).toInt := Int32.lt_iff_toInt_lt.mp (nle c_10583)
          have h_10590 : rg x_9754 0 39 := rg_lt1 (nle c_10583) h_10579 h_10581 (by decide +kernel)
          have uh_10590 := h_10590.1
          have vh_10590 := h_10590.2
          have h_10591 : rg (ri w_10580 5) 1 40 := rg_lt2 (nle c_10583) h_10579 h_10581 (by decide +kernel)
          have uh_10591 := h_10591.1
          have vh_10591 := h_10591.2
          refine lv_aload_n hx hb dX12_drink_12 rfl (lv_at hl 0 rfl) ?_
          refine lv_iload_n hx hb dX12_drink_13 rfl (lv_at hl 1 rfl) ?_
          refine pk_i (va_runV (As := [.int x_9754]) (rest := []) ⟨hx, hb, hml, hown, hts⟩ (s_X12_isOnRing l D t σ I J ri_9755 rj rq H.size tg hSH hG.1 this x_9754 hL_this hK_this (rg_w h_10590 (by decide +kernel)) w_10580 hR_w_10580 hL_w_10580 hK_w_10580 hN_w_10580 hT_w_10580) (cwV 1 hts (tw_V tw_1221 tw_1222 tw_1223 tw_5 tw_1224) rfl rfl rfl cv_yX12_isOnRing_1 ⟨Nat.le_of_ble_eq_true rfl, Nat.le_of_ble_eq_true rfl⟩) ⟨pq_blind, pq_recv hK hP hL_this hK_this (by decide +kernel) rfl, pq_pre hK hN hP hD⟩ rfl rfl hl.1 rfl (lv_room (Nat.le_of_ble_eq_true rfl)) dX12_drink_14 ⟨Nat.le_of_ble_eq_true rfl, Nat.le_of_ble_eq_true rfl⟩) hD hS hA (fun x_10592 σ1 μ1 H locs hw_10593 hP hD hS => ?_)
          obtain ⟨hu_10594, hfn_10597, hr_10596⟩ := hw_10593
          obtain ⟨hu_10594a, hu_10594b⟩ := Prod.mk.inj hu_10594
          rw [hu_10594a, hu_10594b] at hP hD
          replace hF := hF.trans (bn_n hfn_10597)
          have h_10599 : rg x_10592 0 1 := by rcases hr_10596 with ⟨q, -⟩ | ⟨q, -⟩ <;> rw [q] <;> exact ⟨by decide +kernel, by decide +kernel⟩
          have uh_10599 := h_10599.1
          have vh_10599 := h_10599.2
          have K_11401 : ∀  (ri_11398 : Nat → Nat → Int32) (H : Heap) (locs : List Loc) (ls : Array Slot), F = g_X12_drink_K107 x_9754 (g_X12_drink_L2 (vI 12 σ this I) (vJ 12 σ this J) (vR 12 σ this ri) (vL 12 σ this rj) (vQ 12 σ this rq) n_10575) (vR 12 σ this ri_11398) → FR 12 tg σ this (I, J, ri, rj, rq) (I, J, ri_11398, rj, rq) → GM [] tg σ I ri I ri_11398 rq → va_P D vwCl (pq_P t σ (I, J, ri_11398, rj, rq)) H → va_D A (pq_P t σ (I, J, ri_11398, rj, rq)) → va_S A s.heap H locs → lv_has ls 3 [(0, .ref this), (1, .int x_9754)] → W p l e ({ frames := 2, cells := 0, slots := 0, locals := 44 } : Room) s m (List.toArray ([.ref this] : List Value)) below meth c H locs 0 0 Q (F0 m 107 ls []) := by
            intro ri_11398 H locs ls hF hFr hG hP hD hS hl
            replace hF := hF.trans g_X12_drink_K107_e
            obtain ⟨x_11402, ex_11402⟩ : ∃ y : Int32, y = x_9754 + Int32.ofInt 1 := ⟨_, rfl⟩
            replace hF := hF.trans (ap_n ex_11402)
            have h_11403 : rg x_11402 1 40 := rg_of_eq ex_11402 (rg_add h_10590 (rg_k (Int32.ofInt 1) 1 rfl) (by decide +kernel))
            have uh_11403 := h_11403.1
            have vh_11403 := h_11403.2
            have tx_11402 : (x_11402).toInt = (x_9754).toInt + 1 := by rw [ex_11402]; exact i_add_rg (a2 := (x_9754).toInt) (b2 := 1) rfl rfl h_10590 (rg_k (Int32.ofInt 1) 1 rfl) (by decide +kernel)
            refine lv_iinc (v := x_11402) (lv' := [(1, .int x_11402), (0, .ref this)]) hx hb dX12_drink_107 hl (k := 1) rfl ex_11402.symm (by decide +kernel) rfl (fun ls hl => ?_)
            refine lv_goto (tgt := 2) hx hb dX12_drink_110 (by decide +kernel) ?_
            exact ih_10577 x_11402 ri_11398 _ _ _ (rg_w h_11403 (by decide +kernel)) (ms_up 1 hm_10574 ex_11402 rfl (by decide +kernel) h_10590 (by decide +kernel) (by decide +kernel)) hF hFr hG hP hD hS (lv_sub hl [1, 0] rfl)
          refine lv_if_ne (tgt := 23) hx hb dX12_drink_17 (by decide +kernel) (fun c_11404 => ?_) (fun c_11404 => ?_)
          · replace hF := hF.trans (if_neg c_11404)
            have f_11411 := (hr_10596.resolve_right (fun q => c_11404 q.1)).2
            have tc_11412 : (x_10592).toInt ≠ 0 := fun q => c_11404 (Int32.toInt_inj.mp q)
            have h_11413 : rg x_10592 1 1 := rg_ne c_11404 h_10599 0 rfl (by decide +kernel)
            have uh_11413 := h_11413.1
            have vh_11413 := h_11413.2
            refine lv_iconst (v := 0) hx hb dX12_drink_23 (by decide +kernel) ?_
            refine lv_istore_n (lv' := [(2, .int 0), (0, .ref this), (1, .int x_9754)]) hx hb dX12_drink_24 rfl hl (by decide +kernel) rfl (fun ls hl => ?_)
            have L_12149 : ∀ (n_12148 : Nat) (x_12090 : Int32) (H : Heap) (locs : List Loc) (ls : Array Slot), rg x_12090 0 40 → (40 - (x_12090).toInt).toNat < n_12148 → F = g_X12_drink_L25 (vI 12 σ this I) (vJ 12 σ this J) (vR 12 σ this ri) (vL 12 σ this rj) (vQ 12 σ this rq) x_9754 (vR 12 σ this ri_9755) (g_X12_drink_L2 (vI 12 σ this I) (vJ 12 σ this J) (vR 12 σ this ri) (vL 12 σ this rj) (vQ 12 σ this rq) n_10575) n_12148 x_12090 → FR 12 tg σ this (I, J, ri, rj, rq) (I, J, ri_9755, rj, rq) → GM [] tg σ I ri I ri_9755 rq → va_P D vwCl (pq_P t σ (I, J, ri_9755, rj, rq)) H → va_D A (pq_P t σ (I, J, ri_9755, rj, rq)) → va_S A s.heap H locs → lv_has ls 3 [(0, .ref this), (1, .int x_9754), (2, .int x_12090)] → W p l e ({ frames := 2, cells := 0, slots := 0, locals := 44 } : Room) s m (List.toArray ([.ref this] : List Value)) below meth c H locs 0 0 Q (F0 m 25 ls []) := by
              intro n_12148
              induction n_12148 with
              | zero => intro x_12090 H locs ls h_12152 hm_12147 hF hFr hG hP hD hS hl; exact absurd hm_12147 (Nat.not_lt_zero _)
              | succ n_12148 ih_12150 =>
                intro x_12090 H locs ls h_12152 hm_12147 hF hFr hG hP hD hS hl
                have uh_12152 := h_12152.1
                have vh_12152 := h_12152.2
                replace hF := hF.trans g_X12_drink_L25_e
                refine lv_iload_n hx hb dX12_drink_25 rfl (lv_at hl 2 rfl) ?_
                refine lv_aload_n hx hb dX12_drink_26 rfl (lv_at hl 0 rfl) ?_
                refine pg_f (v := .ref w_10580) (C := RX12) (T := TX12) (N := 31) hx hb hts (tw_i inlX12) hown hK hP hL_this hK_this (by decide +kernel) rfl 0 (by decide +kernel) (hts _ (tw_c tw_176)) (pq_hv rfl hR_w_10580) dX12_drink_27 ?_
                refine lv_iconst (v := 2) hx hb dX12_drink_30 (by decide +kernel) ?_
                refine pl_i hx hb hK hP hL_w_10580 hK_w_10580 hN_w_10580 (vp_in_iff.mpr (by decide +kernel)) dX12_drink_31 ?_
                refine lv_tov (ri w_10580 2) (hG.2.2.1 w_10580 hT_w_10580 2 (by decide +kernel) (by decide +kernel)) ?_
                have h_12153 : rg (ri w_10580 2) 0 40 := GM.z0 hG0 (by rw [hT_w_10580]; decide) (i := 2) (k := 2) (by decide +kernel) rfl
                have uh_12153 := h_12153.1
                have vh_12153 := h_12153.2
                replace hF := hF.trans (ap_n (vR_r hO_w_10580 (by decide +kernel) rfl))
                have K_12208 : ∀  (H : Heap) (locs : List Loc) (ls : Array Slot), F = g_X12_drink_K55 x_9754 (vR 12 σ this ri_9755) (g_X12_drink_L2 (vI 12 σ this I) (vJ 12 σ this J) (vR 12 σ this ri) (vL 12 σ this rj) (vQ 12 σ this rq) n_10575) x_12090 (ri w_10580 2)  → FR 12 tg σ this (I, J, ri, rj, rq) (I, J, ri_9755, rj, rq) → GM [] tg σ I ri I ri_9755 rq → va_P D vwCl (pq_P t σ (I, J, ri_9755, rj, rq)) H → va_D A (pq_P t σ (I, J, ri_9755, rj, rq)) → va_S A s.heap H locs → lv_has ls 3 [(0, .ref this), (1, .int x_9754), (2, .int x_12090)] → W p l e ({ frames := 2, cells := 0, slots := 0, locals := 44 } : Room) s m (List.toArray ([.ref this] : List Value)) below meth c H locs 0 0 Q (F0 m 55 ls []) := by
                  intro H locs ls hF hFr hG hP hD hS hl
                  replace hF := hF.trans g_X12_drink_K55_e
                  refine lv_iload_n hx hb dX12_drink_55 rfl (lv_at hl 2 rfl) ?_
                  refine lv_aload_n hx hb dX12_drink_56 rfl (lv_at hl 0 rfl) ?_
                  refine pg_f (v := .ref w_10580) (C := RX12) (T := TX12) (N := 31) hx hb hts (tw_i inlX12) hown hK hP hL_this hK_this (by decide +kernel) rfl 0 (by decide +kernel) (hts _ (tw_c tw_176)) (pq_hv rfl hR_w_10580) dX12_drink_57 ?_
                  refine lv_iconst (v := 2) hx hb dX12_drink_60 (by decide +kernel) ?_
                  refine pl_i hx hb hK hP hL_w_10580 hK_w_10580 hN_w_10580 (vp_in_iff.mpr (by decide +kernel)) dX12_drink_61 ?_
                  refine lv_tov (ri w_10580 2) (hG.2.2.1 w_10580 hT_w_10580 2 (by decide +kernel) (by decide +kernel)) ?_
                  refine lv_icmp_ge (tgt := 88) hx hb dX12_drink_62 (by decide +kernel) (fun c_12209 => ?_) (fun c_12209 => ?_)
                  · replace hF := hF.trans (if_pos c_12209)
                    have tc_12214 : (ri w_10580 2).toInt ≤ (x_12090).toInt := Int32.le_iff_toInt_le.mp c_12209
                    refine lv_aload_n hx hb dX12_drink_88 rfl (lv_at hl 0 rfl) ?_
                    refine pg_f (v := .ref w_10580) (C := RX12) (T := TX12) (N := 31) hx hb hts (tw_i inlX12) hown hK hP hL_this hK_this (by decide +kernel) rfl 0 (by decide +kernel) (hts _ (tw_c tw_176)) (pq_hv rfl hR_w_10580) dX12_drink_89 ?_
                    refine lv_sipush (v := 740) hx hb dX12_drink_92 (by decide +kernel) ?_
                    refine lv_bipush (v := 12) hx hb dX12_drink_95 (by decide +kernel) ?_
                    refine lv_iload_n hx hb dX12_drink_97 rfl (lv_at hl 1 rfl) ?_
                    refine lv_imul hx hb dX12_drink_98 ?_
                    refine lv_topi (fun x_12215 ex_12215 => ?_)
                    replace hF := hF.trans (ap_n ex_12215)
                    have h_12216 : rg x_12215 0 468 := rg_of_eq ex_12215 (rg_mul (rg_k (12 : Int32) 12 rfl) h_10590 (by decide +kernel))
                    have uh_12216 := h_12216.1
                    have vh_12216 := h_12216.2
                    have tx_12215 : (x_12215).toInt = 12 * (x_9754).toInt := by rw [ex_12215]; exact i_mul_rg (a2 := 12) (b2 := (x_9754).toInt) rfl rfl (rg_k (12 : Int32) 12 rfl) h_10590 (by decide +kernel)
                    refine lv_iadd hx hb dX12_drink_99 ?_
                    refine lv_topi (fun x_12217 ex_12217 => ?_)
                    replace hF := hF.trans (ap_n ex_12217)
                    have h_12218 : rg x_12217 740 1208 := rg_of_eq ex_12217 (rg_add (rg_k (740 : Int32) 740 rfl) h_12216 (by decide +kernel))
                    have uh_12218 := h_12218.1
                    have vh_12218 := h_12218.2
                    have tx_12217 : (x_12217).toInt = 740 + (x_12215).toInt := by rw [ex_12217]; exact i_add_rg (a2 := 740) (b2 := (x_12215).toInt) rfl rfl (rg_k (740 : Int32) 740 rfl) h_12216 (by decide +kernel)
                    refine lv_iconst (v := 5) hx hb dX12_drink_100 (by decide +kernel) ?_
                    refine lv_iadd hx hb dX12_drink_101 ?_
                    refine lv_topi (fun x_12219 ex_12219 => ?_)
                    replace hF := hF.trans (ap_n ex_12219)
                    have h_12220 : rg x_12219 745 1213 := rg_of_eq ex_12219 (rg_add h_12218 (rg_k (5 : Int32) 5 rfl) (by decide +kernel))
                    have uh_12220 := h_12220.1
                    have vh_12220 := h_12220.2
                    have tx_12219 : (x_12219).toInt = (x_12217).toInt + 5 := by rw [ex_12219]; exact i_add_rg (a2 := (x_12217).toInt) (b2 := 5) rfl rfl h_12218 (rg_k (5 : Int32) 5 rfl) (by decide +kernel)
                    refine lv_dup2_11 hx hb dX12_drink_102 rfl rfl ?_
                    refine pl_i hx hb hK hP hL_w_10580 hK_w_10580 hN_w_10580 (rg_in h_12220 (by decide +kernel)) dX12_drink_103 ?_
                    refine lv_topi (fun x_12221 ex_12221 => ?_)
                    replace hF := hF.trans (ap_n (vR_r hO_w_10580 (by decide +kernel) ex_12221))
                    refine lv_iconst (v := 1) hx hb dX12_drink_104 (by decide +kernel) ?_
                    refine lv_iadd hx hb dX12_drink_105 ?_
                    refine lv_topi (fun x_12222 ex_12222 => ?_)
                    replace hF := hF.trans (ap_n ex_12222)
                    refine pt_i hx hb hK hP hD hS hL_w_10580 hK_w_10580 hN_w_10580 (rg_in h_12220 (by decide +kernel)) dX12_drink_106 (fun r_12223 H locs er_12223 hP hD hS => ?_)
                    replace hFr := fr_R hFr hO_w_10580 (by decide +kernel) er_12223
                    replace hF := hF.trans (ap_n (vR_st hVT hO_w_10580 (by decide +kernel) er_12223))
                    have hG := GM.wz hG hT_w_10580 (by decide +kernel) er_12223 (zn_PERSON (c := x_9754.toNatClampNeg) (k := 5) (by have z_i := clampE x_12219; have z_0 := clampE x_9754; omega) (rg_cl1 h_10590 (by decide +kernel)) (by decide +kernel)) rfl (rg_w (rg_full _) (by decide +kernel)) (by decide +kernel)
                    exact K_11401 r_12223 _ _ _ hF hFr hG hP hD hS (lv_sub hl [0, 1] rfl)
                  · replace hF := hF.trans (if_neg c_12209)
                    have tc_12224 : (x_12090).toInt < (ri w_10580 2).toInt := Int32.lt_iff_toInt_lt.mp (nle c_12209)
                    have h_12225 : rg x_12090 0 39 := rg_lt1 (nle c_12209) h_12152 h_12153 (by decide +kernel)
                    have uh_12225 := h_12225.1
                    have vh_12225 := h_12225.2
                    have h_12226 : rg (ri w_10580 2) 1 40 := rg_lt2 (nle c_12209) h_12152 h_12153 (by decide +kernel)
                    have uh_12226 := h_12226.1
                    have vh_12226 := h_12226.2
                    refine lv_aload_n hx hb dX12_drink_65 rfl (lv_at hl 0 rfl) ?_
                    refine pg_f (v := .ref w_10580) (C := RX12) (T := TX12) (N := 31) hx hb hts (tw_i inlX12) hown hK hP hL_this hK_this (by decide +kernel) rfl 0 (by decide +kernel) (hts _ (tw_c tw_176)) (pq_hv rfl hR_w_10580) dX12_drink_66 ?_
                    refine lv_bipush (v := 100) hx hb dX12_drink_69 (by decide +kernel) ?_
                    refine lv_bipush (v := 16) hx hb dX12_drink_71 (by decide +kernel) ?_
                    refine lv_iload_n hx hb dX12_drink_73 rfl (lv_at hl 2 rfl) ?_
                    refine lv_imul hx hb dX12_drink_74 ?_
                    refine lv_topi (fun x_12227 ex_12227 => ?_)
                    replace hF := hF.trans (ap_n ex_12227)
                    have h_12228 : rg x_12227 0 624 := rg_of_eq ex_12227 (rg_mul (rg_k (16 : Int32) 16 rfl) h_12225 (by decide +kernel))
                    have uh_12228 := h_12228.1
                    have vh_12228 := h_12228.2
                    have tx_12227 : (x_12227).toInt = 16 * (x_12090).toInt := by rw [ex_12227]; exact i_mul_rg (a2 := 16) (b2 := (x_12090).toInt) rfl rfl (rg_k (16 : Int32) 16 rfl) h_12225 (by decide +kernel)
                    refine lv_iadd hx hb dX12_drink_75 ?_
                    refine lv_topi (fun x_12229 ex_12229 => ?_)
                    replace hF := hF.trans (ap_n ex_12229)
                    have h_12230 : rg x_12229 100 724 := rg_of_eq ex_12229 (rg_add (rg_k (100 : Int32) 100 rfl) h_12228 (by decide +kernel))
                    have uh_12230 := h_12230.1
                    have vh_12230 := h_12230.2
                    have tx_12229 : (x_12229).toInt = 100 + (x_12227).toInt := by rw [ex_12229]; exact i_add_rg (a2 := 100) (b2 := (x_12227).toInt) rfl rfl (rg_k (100 : Int32) 100 rfl) h_12228 (by decide +kernel)
                    refine lv_bipush (v := 9) hx hb dX12_drink_76 (by decide +kernel) ?_
                    refine lv_iadd hx hb dX12_drink_78 ?_
                    refine lv_topi (fun x_12231 ex_12231 => ?_)
                    replace hF := hF.trans (ap_n ex_12231)
                    have h_12232 : rg x_12231 109 733 := rg_of_eq ex_12231 (rg_add h_12230 (rg_k (9 : Int32) 9 rfl) (by decide +kernel))
                    have uh_12232 := h_12232.1
                    have vh_12232 := h_12232.2
                    have tx_12231 : (x_12231).toInt = (x_12229).toInt + 9 := by rw [ex_12231]; exact i_add_rg (a2 := (x_12229).toInt) (b2 := 9) rfl rfl h_12230 (rg_k (9 : Int32) 9 rfl) (by decide +kernel)
                    refine lv_dup2_11 hx hb dX12_drink_79 rfl rfl ?_
                    refine pl_i hx hb hK hP hL_w_10580 hK_w_10580 hN_w_10580 (rg_in h_12232 (by decide +kernel)) dX12_drink_80 ?_
                    refine lv_topi (fun x_12233 ex_12233 => ?_)
                    replace hF := hF.trans (ap_n (vR_r hO_w_10580 (by decide +kernel) ex_12233))
                    refine lv_bipush (v := 10) hx hb dX12_drink_81 (by decide +kernel) ?_
                    refine lv_isub hx hb dX12_drink_83 ?_
                    refine lv_topi (fun x_12234 ex_12234 => ?_)
                    replace hF := hF.trans (ap_n ex_12234)
                    refine pt_i hx hb hK hP hD hS hL_w_10580 hK_w_10580 hN_w_10580 (rg_in h_12232 (by decide +kernel)) dX12_drink_84 (fun r_12235 H locs er_12235 hP hD hS => ?_)
                    replace hFr := fr_R hFr hO_w_10580 (by decide +kernel) er_12235
                    replace hF := hF.trans (ap_n (vR_st hVT hO_w_10580 (by decide +kernel) er_12235))
                    have hG := GM.wz hG hT_w_10580 (by decide +kernel) er_12235 (zn_CELL (c := x_12090.toNatClampNeg) (k := 9) (by have z_i := clampE x_12231; have z_0 := clampE x_12090; omega) (rg_cl1 h_12225 (by decide +kernel)) (by decide +kernel)) rfl (rg_w (rg_full _) (by decide +kernel)) (by decide +kernel)
                    refine lv_goto (tgt := 107) hx hb dX12_drink_85 (by decide +kernel) ?_
                    exact K_11401 r_12235 _ _ _ hF hFr hG hP hD hS (lv_sub hl [0, 1] rfl)
                refine lv_icmp_ge (tgt := 55) hx hb dX12_drink_32 (by decide +kernel) (fun c_12236 => ?_) (fun c_12236 => ?_)
                · replace hF := hF.trans (if_pos c_12236)
                  have tc_12241 : (ri w_10580 2).toInt ≤ (x_12090).toInt := Int32.le_iff_toInt_le.mp c_12236
                  exact K_12208 _ _ _ hF hFr hG hP hD hS (lv_sub hl [0, 1, 2] rfl)
                · replace hF := hF.trans (if_neg c_12236)
                  have tc_12242 : (x_12090).toInt < (ri w_10580 2).toInt := Int32.lt_iff_toInt_lt.mp (nle c_12236)
                  have h_12243 : rg x_12090 0 39 := rg_lt1 (nle c_12236) h_12152 h_12153 (by decide +kernel)
                  have uh_12243 := h_12243.1
                  have vh_12243 := h_12243.2
                  have h_12244 : rg (ri w_10580 2) 1 40 := rg_lt2 (nle c_12236) h_12152 h_12153 (by decide +kernel)
                  have uh_12244 := h_12244.1
                  have vh_12244 := h_12244.2
                  refine lv_aload_n hx hb dX12_drink_35 rfl (lv_at hl 0 rfl) ?_
                  refine lv_iload_n hx hb dX12_drink_36 rfl (lv_at hl 2 rfl) ?_
                  refine lv_aload_n hx hb dX12_drink_37 rfl (lv_at hl 0 rfl) ?_
                  refine lv_iload_n hx hb dX12_drink_38 rfl (lv_at hl 1 rfl) ?_
                  refine lv_iconst (v := 3) hx hb dX12_drink_39 (by decide +kernel) ?_
                  refine pk_i (va_runV (As := [.int x_9754, .int 3]) (rest := [.int x_12090, .ref this]) ⟨hx, hb, hml, hown, hts⟩ (s_X12_personAt_c3 l D t σ I J ri_9755 rj rq H.size tg hSH hG.1 this x_9754 hL_this hK_this (rg_w h_10590 (by decide +kernel)) w_10580 hR_w_10580 hL_w_10580 hK_w_10580 hN_w_10580 hT_w_10580) (cwV 2 hts (tw_V tw_437 tw_438 tw_439 tw_5 tw_440) rfl rfl rfl cv_yX12_personAt_2 ⟨Nat.le_of_ble_eq_true rfl, Nat.le_of_ble_eq_true rfl⟩) ⟨pq_blind, pq_recv hK hP hL_this hK_this (by decide +kernel) rfl, pq_pre hK hN hP hD⟩ rfl rfl hl.1 rfl (lv_room (Nat.le_of_ble_eq_true rfl)) dX12_drink_40 ⟨Nat.le_of_ble_eq_true rfl, Nat.le_of_ble_eq_true rfl⟩) hD hS hA (fun x_12245 σ1 μ1 H locs hw_12246 hP hD hS => ?_)
                  obtain ⟨hu_12247, hp_12250, hp_12251, hfn_12252, hr_12249⟩ := hw_12246
                  obtain ⟨hu_12247a, hu_12247b⟩ := Prod.mk.inj hu_12247
                  rw [hu_12247a, hu_12247b] at hP hD
                  replace hF := hF.trans (bn_n hfn_12252)
                  have tt_12254 := hp_12251
                  refine pk_i (va_runV (As := [.int x_12090, .int x_12245]) (rest := []) ⟨hx, hb, hml, hown, hts⟩ (s_X12_isSweet l D t σ I J ri_9755 rj rq H.size tg hSH hG.1 this x_12090 x_12245 hL_this hK_this (rg_w h_12243 (by decide +kernel))) (cwV 2 hts (tw_V tw_1225 tw_1226 tw_1227 tw_5 tw_1228) rfl rfl rfl cv_yX12_isSweet_2 ⟨Nat.le_of_ble_eq_true rfl, Nat.le_of_ble_eq_true rfl⟩) ⟨pq_blind, pq_recv hK hP hL_this hK_this (by decide +kernel) rfl, pq_pre hK hN hP hD⟩ rfl rfl hl.1 rfl (lv_room (Nat.le_of_ble_eq_true rfl)) dX12_drink_43 ⟨Nat.le_of_ble_eq_true rfl, Nat.le_of_ble_eq_true rfl⟩) hD hS hA (fun x_12255 σ1 μ1 H locs hw_12256 hP hD hS => ?_)
                  obtain ⟨hu_12257, hfn_12260, hr_12259⟩ := hw_12256
                  obtain ⟨hu_12257a, hu_12257b⟩ := Prod.mk.inj hu_12257
                  rw [hu_12257a, hu_12257b] at hP hD
                  replace hF := hF.trans (bn_n hfn_12260)
                  have h_12262 : rg x_12255 0 1 := by rcases hr_12259 with ⟨q, -⟩ | ⟨q, -⟩ <;> rw [q] <;> exact ⟨by decide +kernel, by decide +kernel⟩
                  have uh_12262 := h_12262.1
                  have vh_12262 := h_12262.2
                  refine lv_if_ne (tgt := 55) hx hb dX12_drink_46 (by decide +kernel) (fun c_12263 => ?_) (fun c_12263 => ?_)
                  · replace hF := hF.trans (if_neg c_12263)
                    have tc_12268 : (x_12255).toInt ≠ 0 := fun q => c_12263 (Int32.toInt_inj.mp q)
                    have h_12269 : rg x_12255 1 1 := rg_ne c_12263 h_12262 0 rfl (by decide +kernel)
                    have uh_12269 := h_12269.1
                    have vh_12269 := h_12269.2
                    exact K_12208 _ _ _ hF hFr hG hP hD hS (lv_sub hl [0, 1, 2] rfl)
                  · replace hF := hF.trans (if_pos c_12263)
                    have tc_12270 : (x_12255).toInt = 0 := congrArg Int32.toInt c_12263
                    have h_12271 : rg x_12255 0 0 := rg_and h_12262 (rg_of_eq c_12263 (rg_k (0 : Int32) 0 rfl)) (by decide +kernel)
                    have uh_12271 := h_12271.1
                    have vh_12271 := h_12271.2
                    obtain ⟨x_12272, ex_12272⟩ : ∃ y : Int32, y = x_12090 + Int32.ofInt 1 := ⟨_, rfl⟩
                    replace hF := hF.trans (ap_n ex_12272)
                    have h_12273 : rg x_12272 1 40 := rg_of_eq ex_12272 (rg_add h_12243 (rg_k (Int32.ofInt 1) 1 rfl) (by decide +kernel))
                    have uh_12273 := h_12273.1
                    have vh_12273 := h_12273.2
                    have tx_12272 : (x_12272).toInt = (x_12090).toInt + 1 := by rw [ex_12272]; exact i_add_rg (a2 := (x_12090).toInt) (b2 := 1) rfl rfl h_12243 (rg_k (Int32.ofInt 1) 1 rfl) (by decide +kernel)
                    refine lv_iinc (v := x_12272) (lv' := [(2, .int x_12272), (0, .ref this), (1, .int x_9754)]) hx hb dX12_drink_49 hl (k := 2) rfl ex_12272.symm (by decide +kernel) rfl (fun ls hl => ?_)
                    refine lv_goto (tgt := 25) hx hb dX12_drink_52 (by decide +kernel) ?_
                    exact ih_12150 x_12272 _ _ _ (rg_w h_12273 (by decide +kernel)) (ms_up 1 hm_12147 ex_12272 rfl (by decide +kernel) h_12243 (by decide +kernel) (by decide +kernel)) hF hFr hG hP hD hS (lv_sub hl [1, 2, 0] rfl)
            exact L_12149 _ (0 : Int32) _ _ _ (rg_w (rg_k (0 : Int32) 0 rfl) (by decide +kernel)) (Nat.lt_succ_self _) hF hFr hG hP hD hS (lv_sub hl [1, 2, 0] rfl)
          · replace hF := hF.trans (if_pos c_11404)
            have f_12274 := (hr_10596.resolve_left (fun q => absurd (q.1.symm.trans c_11404) (by decide +kernel))).2
            have tc_12275 : (x_10592).toInt = 0 := congrArg Int32.toInt c_11404
            have h_12276 : rg x_10592 0 0 := rg_and h_10599 (rg_of_eq c_11404 (rg_k (0 : Int32) 0 rfl)) (by decide +kernel)
            have uh_12276 := h_12276.1
            have vh_12276 := h_12276.2
            refine lv_goto (tgt := 107) hx hb dX12_drink_20 (by decide +kernel) ?_
            exact K_11401 ri_9755 _ _ _ hF hFr hG hP hD hS (lv_sub hl [0, 1] rfl)
    exact L_10576 _ (0 : Int32) ri _ _ _ (rg_w (rg_k (0 : Int32) 0 rfl) (by decide +kernel)) (Nat.lt_succ_self _) hF hFr hG hP hD hS (lv_sub hl [1, 0] rfl)
  exact go _ _ _ hP hD hS hl

set_option maxRecDepth 100000 in
def g_X12_sleep_K111 (x_72007 : Int32) (k_g_X12_sleep_L58 : (Int32) → (Int32) → (Nat → Nat → Int32) → vM) (x_72098 : Int32) (ri_72099 : Nat → Nat → Int32) : vM := (ap1 (x_72007 + Int32.ofInt 1) fun (x_72103 : Int32) => (k_g_X12_sleep_L58 x_72098 x_72103 ri_72099))
set_option maxRecDepth 100000 in
theorem g_X12_sleep_K111_e {x_72007 : Int32} {k_g_X12_sleep_L58 : (Int32) → (Int32) → (Nat → Nat → Int32) → vM} {x_72098 : Int32} {ri_72099 : Nat → Nat → Int32} : g_X12_sleep_K111 x_72007 k_g_X12_sleep_L58 x_72098 ri_72099 = (ap1 (x_72007 + Int32.ofInt 1) fun (x_72103 : Int32) => (k_g_X12_sleep_L58 x_72098 x_72103 ri_72099)) := rfl
set_option maxRecDepth 100000 in
def g_X12_sleep_L58 (I : Nat → Int32) (J : Nat → Int64) (ri : Nat → Nat → Int32) (rj : Nat → Nat → Int64) (rq : Nat → Nat → Option Nat) (x_54128 : Int32) (k_g_X12_sleep_L2 : (Int32) → (Nat → Nat → Int32) → vM) : Nat → (Int32) → (Int32) → (Nat → Nat → Int32) → vM
  | 0, x_72006, x_72007, ri_72008 => (I, J, ri_72008, rj, rq)
  | n_72052 + 1, x_72006, x_72007, ri_72008 => (ap1 (ri 384 5) fun (y_72058 : Int32) => (if (y_72058) ≤ x_72007 then (ap1 (x_54128 + Int32.ofInt 1) fun (x_72065 : Int32) => (k_g_X12_sleep_L2 x_72065 ri_72008)) else (bnI (g_X12_personAt_c3 x_72007 I J ri_72008 rj rq) fun (x_72070 : Int32) (_ : Nat → Int32) (_ : Nat → Int64) (_ : Nat → Nat → Int32) (_ : Nat → Nat → Int64) (_ : Nat → Nat → Option Nat) => (if x_72070 = x_54128 then (if x_72006 = (0 : Int32) then (ap1 ((12 : Int32) * x_72007) fun (x_72119 : Int32) => (ap1 ((740 : Int32) + x_72119) fun (x_72121 : Int32) => (ap1 (x_72121 + (6 : Int32)) fun (x_72123 : Int32) => (ap1 (ri_72008 384 (x_72123).toNatClampNeg) fun (x_72125 : Int32) => (ap1 (x_72125 + (1 : Int32)) fun (x_72126 : Int32) => (ap1 (va_up ri_72008 384 (upd (ri_72008 384) (x_72123).toNatClampNeg x_72126)) fun (r_72127 : Nat → Nat → Int32) => (g_X12_sleep_K111 x_72007 (g_X12_sleep_L58 I J ri rj rq x_54128 k_g_X12_sleep_L2 n_72052) x_72006 r_72127))))))) else (ap1 (x_72006 + Int32.ofInt (-1)) fun (x_72116 : Int32) => (g_X12_sleep_K111 x_72007 (g_X12_sleep_L58 I J ri rj rq x_54128 k_g_X12_sleep_L2 n_72052) x_72116 ri_72008))) else (g_X12_sleep_K111 x_72007 (g_X12_sleep_L58 I J ri rj rq x_54128 k_g_X12_sleep_L2 n_72052) x_72006 ri_72008)))))
set_option maxRecDepth 100000 in
theorem g_X12_sleep_L58_e {I : Nat → Int32} {J : Nat → Int64} {ri : Nat → Nat → Int32} {rj : Nat → Nat → Int64} {rq : Nat → Nat → Option Nat} {x_54128 : Int32} {k_g_X12_sleep_L2 : (Int32) → (Nat → Nat → Int32) → vM} {n_72052 : Nat} {x_72006 : Int32} {x_72007 : Int32} {ri_72008 : Nat → Nat → Int32} : g_X12_sleep_L58 I J ri rj rq x_54128 k_g_X12_sleep_L2 (n_72052 + 1) x_72006 x_72007 ri_72008 = (ap1 (ri 384 5) fun (y_72058 : Int32) => (if (y_72058) ≤ x_72007 then (ap1 (x_54128 + Int32.ofInt 1) fun (x_72065 : Int32) => (k_g_X12_sleep_L2 x_72065 ri_72008)) else (bnI (g_X12_personAt_c3 x_72007 I J ri_72008 rj rq) fun (x_72070 : Int32) (_ : Nat → Int32) (_ : Nat → Int64) (_ : Nat → Nat → Int32) (_ : Nat → Nat → Int64) (_ : Nat → Nat → Option Nat) => (if x_72070 = x_54128 then (if x_72006 = (0 : Int32) then (ap1 ((12 : Int32) * x_72007) fun (x_72119 : Int32) => (ap1 ((740 : Int32) + x_72119) fun (x_72121 : Int32) => (ap1 (x_72121 + (6 : Int32)) fun (x_72123 : Int32) => (ap1 (ri_72008 384 (x_72123).toNatClampNeg) fun (x_72125 : Int32) => (ap1 (x_72125 + (1 : Int32)) fun (x_72126 : Int32) => (ap1 (va_up ri_72008 384 (upd (ri_72008 384) (x_72123).toNatClampNeg x_72126)) fun (r_72127 : Nat → Nat → Int32) => (g_X12_sleep_K111 x_72007 (g_X12_sleep_L58 I J ri rj rq x_54128 k_g_X12_sleep_L2 n_72052) x_72006 r_72127))))))) else (ap1 (x_72006 + Int32.ofInt (-1)) fun (x_72116 : Int32) => (g_X12_sleep_K111 x_72007 (g_X12_sleep_L58 I J ri rj rq x_54128 k_g_X12_sleep_L2 n_72052) x_72116 ri_72008))) else (g_X12_sleep_K111 x_72007 (g_X12_sleep_L58 I J ri rj rq x_54128 k_g_X12_sleep_L2 n_72052) x_72006 ri_72008))))) := rfl
set_option maxRecDepth 100000 in
def g_X12_sleep_K48 (x_70811 : Int32) (x_70812 : Int32) (k_g_X12_sleep_L16 : (Int32) → (Int32) → vM) (x_72150 : Int32) : vM := (ap1 (x_70811 + x_72150) fun (x_72155 : Int32) => (ap1 (x_70812 + Int32.ofInt 1) fun (x_72156 : Int32) => (k_g_X12_sleep_L16 x_72155 x_72156)))
set_option maxRecDepth 100000 in
theorem g_X12_sleep_K48_e {x_70811 : Int32} {x_70812 : Int32} {k_g_X12_sleep_L16 : (Int32) → (Int32) → vM} {x_72150 : Int32} : g_X12_sleep_K48 x_70811 x_70812 k_g_X12_sleep_L16 x_72150 = (ap1 (x_70811 + x_72150) fun (x_72155 : Int32) => (ap1 (x_70812 + Int32.ofInt 1) fun (x_72156 : Int32) => (k_g_X12_sleep_L16 x_72155 x_72156))) := rfl
set_option maxRecDepth 100000 in
def g_X12_sleep_L16 (I : Nat → Int32) (J : Nat → Int64) (ri : Nat → Nat → Int32) (rj : Nat → Nat → Int64) (rq : Nat → Nat → Option Nat) (x_54128 : Int32) (ri_54129 : Nat → Nat → Int32) (k_g_X12_sleep_L2 : (Int32) → (Nat → Nat → Int32) → vM) : Nat → (Int32) → (Int32) → vM
  | 0, x_70811, x_70812 => (I, J, ri_54129, rj, rq)
  | n_71463 + 1, x_70811, x_70812 => (ap1 (ri 384 2) fun (y_71469 : Int32) => (if (y_71469) ≤ x_70812 then (g_X12_sleep_L58 I J ri rj rq x_54128 k_g_X12_sleep_L2 ((40 - ((0 : Int32)).toInt).toNat + 1) x_70811 (0 : Int32) ri_54129) else (bnI (g_X12_cellAt_c0 x_70812 I J ri_54129 rj rq) fun (x_72132 : Int32) (_ : Nat → Int32) (_ : Nat → Int64) (_ : Nat → Nat → Int32) (_ : Nat → Nat → Int64) (_ : Nat → Nat → Option Nat) => (if x_72132 = x_54128 then (bnI (g_X12_cellAt_c7 x_70812 I J ri_54129 rj rq) fun (x_72165 : Int32) (_ : Nat → Int32) (_ : Nat → Int64) (_ : Nat → Nat → Int32) (_ : Nat → Nat → Int64) (_ : Nat → Nat → Option Nat) => (g_X12_sleep_K48 x_70811 x_70812 (g_X12_sleep_L16 I J ri rj rq x_54128 ri_54129 k_g_X12_sleep_L2 n_71463) x_72165)) else (g_X12_sleep_K48 x_70811 x_70812 (g_X12_sleep_L16 I J ri rj rq x_54128 ri_54129 k_g_X12_sleep_L2 n_71463) (0 : Int32))))))
set_option maxRecDepth 100000 in
theorem g_X12_sleep_L16_e {I : Nat → Int32} {J : Nat → Int64} {ri : Nat → Nat → Int32} {rj : Nat → Nat → Int64} {rq : Nat → Nat → Option Nat} {x_54128 : Int32} {ri_54129 : Nat → Nat → Int32} {k_g_X12_sleep_L2 : (Int32) → (Nat → Nat → Int32) → vM} {n_71463 : Nat} {x_70811 : Int32} {x_70812 : Int32} : g_X12_sleep_L16 I J ri rj rq x_54128 ri_54129 k_g_X12_sleep_L2 (n_71463 + 1) x_70811 x_70812 = (ap1 (ri 384 2) fun (y_71469 : Int32) => (if (y_71469) ≤ x_70812 then (g_X12_sleep_L58 I J ri rj rq x_54128 k_g_X12_sleep_L2 ((40 - ((0 : Int32)).toInt).toNat + 1) x_70811 (0 : Int32) ri_54129) else (bnI (g_X12_cellAt_c0 x_70812 I J ri_54129 rj rq) fun (x_72132 : Int32) (_ : Nat → Int32) (_ : Nat → Int64) (_ : Nat → Nat → Int32) (_ : Nat → Nat → Int64) (_ : Nat → Nat → Option Nat) => (if x_72132 = x_54128 then (bnI (g_X12_cellAt_c7 x_70812 I J ri_54129 rj rq) fun (x_72165 : Int32) (_ : Nat → Int32) (_ : Nat → Int64) (_ : Nat → Nat → Int32) (_ : Nat → Nat → Int64) (_ : Nat → Nat → Option Nat) => (g_X12_sleep_K48 x_70811 x_70812 (g_X12_sleep_L16 I J ri rj rq x_54128 ri_54129 k_g_X12_sleep_L2 n_71463) x_72165)) else (g_X12_sleep_K48 x_70811 x_70812 (g_X12_sleep_L16 I J ri rj rq x_54128 ri_54129 k_g_X12_sleep_L2 n_71463) (0 : Int32)))))) := rfl
set_option maxRecDepth 100000 in
def g_X12_sleep_L2 (I : Nat → Int32) (J : Nat → Int64) (ri : Nat → Nat → Int32) (rj : Nat → Nat → Int64) (rq : Nat → Nat → Option Nat) : Nat → (Int32) → (Nat → Nat → Int32) → vM
  | 0, x_54128, ri_54129 => (I, J, ri_54129, rj, rq)
  | n_63118 + 1, x_54128, ri_54129 => (ap1 (ri 384 1) fun (y_63125 : Int32) => (if (y_63125) ≤ x_54128 then (I, J, ri_54129, rj, rq) else (g_X12_sleep_L16 I J ri rj rq x_54128 ri_54129 (g_X12_sleep_L2 I J ri rj rq n_63118) ((40 - ((0 : Int32)).toInt).toNat + 1) (0 : Int32) (0 : Int32))))
set_option maxRecDepth 100000 in
theorem g_X12_sleep_L2_e {I : Nat → Int32} {J : Nat → Int64} {ri : Nat → Nat → Int32} {rj : Nat → Nat → Int64} {rq : Nat → Nat → Option Nat} {n_63118 : Nat} {x_54128 : Int32} {ri_54129 : Nat → Nat → Int32} : g_X12_sleep_L2 I J ri rj rq (n_63118 + 1) x_54128 ri_54129 = (ap1 (ri 384 1) fun (y_63125 : Int32) => (if (y_63125) ≤ x_54128 then (I, J, ri_54129, rj, rq) else (g_X12_sleep_L16 I J ri rj rq x_54128 ri_54129 (g_X12_sleep_L2 I J ri rj rq n_63118) ((40 - ((0 : Int32)).toInt).toNat + 1) (0 : Int32) (0 : Int32)))) := rfl
set_option maxRecDepth 100000 in
def g_X12_sleep (I : Nat → Int32) (J : Nat → Int64) (ri : Nat → Nat → Int32) (rj : Nat → Nat → Int64) (rq : Nat → Nat → Option Nat) : vM := (g_X12_sleep_L2 I J ri rj rq ((5 - ((0 : Int32)).toInt).toNat + 1) (0 : Int32) ri)
set_option maxRecDepth 100000 in
theorem g_X12_sleep_e {I : Nat → Int32} {J : Nat → Int64} {ri : Nat → Nat → Int32} {rj : Nat → Nat → Int64} {rq : Nat → Nat → Option Nat} : g_X12_sleep I J ri rj rq = (g_X12_sleep_L2 I J ri rj rq ((5 - ((0 : Int32)).toInt).toNat + 1) (0 : Int32) ri) := rfl
set_option maxHeartbeats 4000000 in
set_option maxRecDepth 100000 in
theorem s_X12_sleep (l : Launch) (D : va_G) (t : pq_T) (σ : pq_S) (I : Nat → Nat → Int32) (J : Nat → Nat → Int64) (ri : Nat → Nat → Int32) (rj : Nat → Nat → Int64) (rq : Nat → Nat → Option Nat) (sz : Nat) (tg : Nat → Nat) (hSH : SH σ tg) (hG0 : GT tg I ri) (this : Nat) (hL_this : this ∈ σ.1) (hK_this : σ.2.1 this = 12) : MetV l yX12_sleep (wa yX12_sleep cX12_sleep 4 none) ({ frames := 1, cells := 0, slots := 0, locals := 22 }) [.ref this] D t σ (I, J, ri, rj, rq) sz 0 0 (fun (u : pq_S × pq_M) => ∃ ri' : Nat → Nat → Int32, u = (σ, I, J, ri', rj, rq) ∧ GM [] tg σ I ri I ri' rq ∧ g_X12_sleep (vI 12 σ this I) (vJ 12 σ this J) (vR 12 σ this ri) (vL 12 σ this rj) (vQ 12 σ this rq) = ((vI 12 σ this I), (vJ 12 σ this J), (vR 12 σ this ri'), (vL 12 σ this rj), (vQ 12 σ this rq)) ∧ FR 12 tg σ this (I, J, ri, rj, rq) (I, J, ri', rj, rq)) := by
  refine Met.ofW (cc := cX12_sleep) (maxL := 4) (ret := none) (by decide +kernel) rfl ?_
  intro p e s m args below meth c s₁ B hml hv
  obtain ⟨rfl, hsz, hP, hK, hD0, hN⟩ := hv
  have hx := B.exec
  have hb := B.bytes
  have hr := B.returns
  have hts := atoms_spec (ws := (wa yX12_sleep cX12_sleep 4 none)) B.pre
  have hown : s.vm.findClass RX12 = some m.cls := findClass_of_methodNamed B.named
  have hlocks := B.notSynchronized
  subst hsz
  have hD : va_D (pq_B t σ (I, J, ri, rj, rq) s.heap.size) (pq_P t σ (I, J, ri, rj, rq)) := hD0.self
  generalize hAe : pq_B t σ (I, J, ri, rj, rq) s.heap.size = A at hD ⊢
  have hA : ∀ q : Nat, s.heap.size ≤ q → A q := fun q h => by rw [← hAe]; exact Or.inr h
  have hS : va_S A s.heap s.heap [] := va_S.rf
  have hG : GM [] tg σ I ri I ri rq := ⟨hG0, fun _ _ _ => rfl, fun _ _ _ _ _ => rfl, fun _ _ _ _ _ _ => rfl⟩
  have hl := lv_entry ([.ref this]) (n := 4) (Nat.le_of_ble_eq_true rfl)
  rw [lg_entry_eq]
  generalize (lg_sl ([.ref this]) ++ List.replicate (4 - (lg_sl ([.ref this])).length) Slot.unset).toArray = ls at hl ⊢
  have hl : lv_has ls 4 [(0, .ref this)] := hl
  refine q_gen (fun Q hQ => ?_)
  have go : ∀ (H : Heap) (locs : List Loc) (ls : Array Slot), va_P D vwCl (pq_P t σ (I, J, ri, rj, rq)) H → va_D A (pq_P t σ (I, J, ri, rj, rq)) → va_S A s.heap H locs → lv_has ls 4 [(0, .ref this)] → W p l e ({ frames := 1, cells := 0, slots := 0, locals := 22 } : Room) s m (List.toArray ([.ref this] : List Value)) below meth c H locs 0 0 Q (F0 m 0 ls []) := by
    intro H locs ls hP hD hS hl
    have hO_this : this = vo σ 12 this := rfl
    have hVT : VT 12 σ tg this := vt_12 hSH hL_this hK_this
    have hFr : FR 12 tg σ this (I, J, ri, rj, rq) (I, J, ri, rj, rq) := fr_rf
    obtain ⟨F, hF0⟩ : ∃ F, F = g_X12_sleep (vI 12 σ this I) (vJ 12 σ this J) (vR 12 σ this ri) (vL 12 σ this rj) (vQ 12 σ this rq) := ⟨_, rfl⟩
    have hF := hF0.trans g_X12_sleep_e
    refine lv_iconst (v := 0) hx hb dX12_sleep_0 (by decide +kernel) ?_
    refine lv_istore_n (lv' := [(1, .int 0), (0, .ref this)]) hx hb dX12_sleep_1 rfl hl (by decide +kernel) rfl (fun ls hl => ?_)
    have L_63119 : ∀ (n_63118 : Nat) (x_54128 : Int32) (ri_54129 : Nat → Nat → Int32) (H : Heap) (locs : List Loc) (ls : Array Slot), rg x_54128 0 5 → (5 - (x_54128).toInt).toNat < n_63118 → F = g_X12_sleep_L2 (vI 12 σ this I) (vJ 12 σ this J) (vR 12 σ this ri) (vL 12 σ this rj) (vQ 12 σ this rq) n_63118 x_54128 (vR 12 σ this ri_54129) → FR 12 tg σ this (I, J, ri, rj, rq) (I, J, ri_54129, rj, rq) → GM [] tg σ I ri I ri_54129 rq → va_P D vwCl (pq_P t σ (I, J, ri_54129, rj, rq)) H → va_D A (pq_P t σ (I, J, ri_54129, rj, rq)) → va_S A s.heap H locs → lv_has ls 4 [(0, .ref this), (1, .int x_54128)] → W p l e ({ frames := 1, cells := 0, slots := 0, locals := 22 } : Room) s m (List.toArray ([.ref this] : List Value)) below meth c H locs 0 0 Q (F0 m 2 ls []) := by
      intro n_63118
      induction n_63118 with
      | zero => intro x_54128 ri_54129 H locs ls h_63122 hm_63117 hF hFr hG hP hD hS hl; exact absurd hm_63117 (Nat.not_lt_zero _)
      | succ n_63118 ih_63120 =>
        intro x_54128 ri_54129 H locs ls h_63122 hm_63117 hF hFr hG hP hD hS hl
        have uh_63122 := h_63122.1
        have vh_63122 := h_63122.2
        replace hF := hF.trans g_X12_sleep_L2_e
        refine lv_iload_n hx hb dX12_sleep_2 rfl (lv_at hl 1 rfl) ?_
        refine lv_aload_n hx hb dX12_sleep_3 rfl (lv_at hl 0 rfl) ?_
        obtain ⟨w_63123, hR_w_63123, hL_w_63123, hK_w_63123, hN_w_63123, hT_w_63123⟩ := sh_a hSH 384 (ci := 12) (kd := 13) (len := 12720) rfl (by decide +kernel) hL_this hK_this
        have hO_w_63123 : w_63123 = vrow σ 384 this := vo_k (c := 12) hO_this hR_w_63123
        refine pg_f (v := .ref w_63123) (C := RX12) (T := TX12) (N := 31) hx hb hts (tw_i inlX12) hown hK hP hL_this hK_this (by decide +kernel) rfl 0 (by decide +kernel) (hts _ (tw_c tw_176)) (pq_hv rfl hR_w_63123) dX12_sleep_4 ?_
        refine lv_iconst (v := 1) hx hb dX12_sleep_7 (by decide +kernel) ?_
        refine pl_i hx hb hK hP hL_w_63123 hK_w_63123 hN_w_63123 (vp_in_iff.mpr (by decide +kernel)) dX12_sleep_8 ?_
        refine lv_tov (ri w_63123 1) (hG.2.2.1 w_63123 hT_w_63123 1 (by decide +kernel) (by decide +kernel)) ?_
        have h_63124 : rg (ri w_63123 1) 0 5 := GM.z0 hG0 (by rw [hT_w_63123]; decide) (i := 1) (k := 1) (by decide +kernel) rfl
        have uh_63124 := h_63124.1
        have vh_63124 := h_63124.2
        replace hF := hF.trans (ap_n (vR_r hO_w_63123 (by decide +kernel) rfl))
        refine lv_icmp_ge (tgt := 123) hx hb dX12_sleep_9 (by decide +kernel) (fun c_63126 => ?_) (fun c_63126 => ?_)
        · replace hF := hF.trans (if_pos c_63126)
          have tc_63131 : (ri w_63123 1).toInt ≤ (x_54128).toInt := Int32.le_iff_toInt_le.mp c_63126
          subst hQ
          exact W.vret hx hb hr (fun t1 ht hW => ⟨⟨(σ, I, J, ri_54129, rj, rq), rfl, ⟨ri_54129, rfl, hG, (hF0.symm.trans hF), hFr⟩, by rw [ht]; exact hP, va_K.moved hW.alike hK, hD⟩, hS.F ht⟩) hS.2.2 dX12_sleep_123
        · replace hF := hF.trans (if_neg c_63126)
          have tc_63132 : (x_54128).toInt < (ri w_63123 1).toInt := Int32.lt_iff_toInt_lt.mp (nle c_63126)
          have h_63133 : rg x_54128 0 4 := rg_lt1 (nle c_63126) h_63122 h_63124 (by decide +kernel)
          have uh_63133 := h_63133.1
          have vh_63133 := h_63133.2
          have h_63134 : rg (ri w_63123 1) 1 5 := rg_lt2 (nle c_63126) h_63122 h_63124 (by decide +kernel)
          have uh_63134 := h_63134.1
          have vh_63134 := h_63134.2
          refine lv_iconst (v := 0) hx hb dX12_sleep_12 (by decide +kernel) ?_
          refine lv_istore_n (lv' := [(2, .int 0), (0, .ref this), (1, .int x_54128)]) hx hb dX12_sleep_13 rfl hl (by decide +kernel) rfl (fun ls hl => ?_)
          refine lv_iconst (v := 0) hx hb dX12_sleep_14 (by decide +kernel) ?_
          refine lv_istore_n (lv' := [(3, .int 0), (2, .int 0), (0, .ref this), (1, .int x_54128)]) hx hb dX12_sleep_15 rfl hl (by decide +kernel) rfl (fun ls hl => ?_)
          have L_71464 : ∀ (n_71463 : Nat) (x_70811 : Int32) (x_70812 : Int32) (H : Heap) (locs : List Loc) (ls : Array Slot), rg x_70812 0 40 → (40 - (x_70812).toInt).toNat < n_71463 → F = g_X12_sleep_L16 (vI 12 σ this I) (vJ 12 σ this J) (vR 12 σ this ri) (vL 12 σ this rj) (vQ 12 σ this rq) x_54128 (vR 12 σ this ri_54129) (g_X12_sleep_L2 (vI 12 σ this I) (vJ 12 σ this J) (vR 12 σ this ri) (vL 12 σ this rj) (vQ 12 σ this rq) n_63118) n_71463 x_70811 x_70812 → FR 12 tg σ this (I, J, ri, rj, rq) (I, J, ri_54129, rj, rq) → GM [] tg σ I ri I ri_54129 rq → va_P D vwCl (pq_P t σ (I, J, ri_54129, rj, rq)) H → va_D A (pq_P t σ (I, J, ri_54129, rj, rq)) → va_S A s.heap H locs → lv_has ls 4 [(0, .ref this), (1, .int x_54128), (2, .int x_70811), (3, .int x_70812)] → W p l e ({ frames := 1, cells := 0, slots := 0, locals := 22 } : Room) s m (List.toArray ([.ref this] : List Value)) below meth c H locs 0 0 Q (F0 m 16 ls []) := by
            intro n_71463
            induction n_71463 with
            | zero => intro x_70811 x_70812 H locs ls h_71467 hm_71462 hF hFr hG hP hD hS hl; exact absurd hm_71462 (Nat.not_lt_zero _)
            | succ n_71463 ih_71465 =>
              intro x_70811 x_70812 H locs ls h_71467 hm_71462 hF hFr hG hP hD hS hl
              have uh_71467 := h_71467.1
              have vh_71467 := h_71467.2
              replace hF := hF.trans g_X12_sleep_L16_e
              refine lv_iload_n hx hb dX12_sleep_16 rfl (lv_at hl 3 rfl) ?_
              refine lv_aload_n hx hb dX12_sleep_17 rfl (lv_at hl 0 rfl) ?_
              refine pg_f (v := .ref w_63123) (C := RX12) (T := TX12) (N := 31) hx hb hts (tw_i inlX12) hown hK hP hL_this hK_this (by decide +kernel) rfl 0 (by decide +kernel) (hts _ (tw_c tw_176)) (pq_hv rfl hR_w_63123) dX12_sleep_18 ?_
              refine lv_iconst (v := 2) hx hb dX12_sleep_21 (by decide +kernel) ?_
              refine pl_i hx hb hK hP hL_w_63123 hK_w_63123 hN_w_63123 (vp_in_iff.mpr (by decide +kernel)) dX12_sleep_22 ?_
              refine lv_tov (ri w_63123 2) (hG.2.2.1 w_63123 hT_w_63123 2 (by decide +kernel) (by decide +kernel)) ?_
              have h_71468 : rg (ri w_63123 2) 0 40 := GM.z0 hG0 (by rw [hT_w_63123]; decide) (i := 2) (k := 2) (by decide +kernel) rfl
              have uh_71468 := h_71468.1
              have vh_71468 := h_71468.2
              replace hF := hF.trans (ap_n (vR_r hO_w_63123 (by decide +kernel) rfl))
              refine lv_icmp_ge (tgt := 56) hx hb dX12_sleep_23 (by decide +kernel) (fun c_71470 => ?_) (fun c_71470 => ?_)
              · replace hF := hF.trans (if_pos c_71470)
                have tc_71475 : (ri w_63123 2).toInt ≤ (x_70812).toInt := Int32.le_iff_toInt_le.mp c_71470
                refine lv_iconst (v := 0) hx hb dX12_sleep_56 (by decide +kernel) ?_
                refine lv_istore_n (lv' := [(3, .int 0), (0, .ref this), (1, .int x_54128), (2, .int x_70811)]) hx hb dX12_sleep_57 rfl hl (by decide +kernel) rfl (fun ls hl => ?_)
                have L_72053 : ∀ (n_72052 : Nat) (x_72006 : Int32) (x_72007 : Int32) (ri_72008 : Nat → Nat → Int32) (H : Heap) (locs : List Loc) (ls : Array Slot), rg x_72007 0 40 → (40 - (x_72007).toInt).toNat < n_72052 → F = g_X12_sleep_L58 (vI 12 σ this I) (vJ 12 σ this J) (vR 12 σ this ri) (vL 12 σ this rj) (vQ 12 σ this rq) x_54128 (g_X12_sleep_L2 (vI 12 σ this I) (vJ 12 σ this J) (vR 12 σ this ri) (vL 12 σ this rj) (vQ 12 σ this rq) n_63118) n_72052 x_72006 x_72007 (vR 12 σ this ri_72008) → FR 12 tg σ this (I, J, ri, rj, rq) (I, J, ri_72008, rj, rq) → GM [] tg σ I ri I ri_72008 rq → va_P D vwCl (pq_P t σ (I, J, ri_72008, rj, rq)) H → va_D A (pq_P t σ (I, J, ri_72008, rj, rq)) → va_S A s.heap H locs → lv_has ls 4 [(0, .ref this), (1, .int x_54128), (2, .int x_72006), (3, .int x_72007)] → W p l e ({ frames := 1, cells := 0, slots := 0, locals := 22 } : Room) s m (List.toArray ([.ref this] : List Value)) below meth c H locs 0 0 Q (F0 m 58 ls []) := by
                  intro n_72052
                  induction n_72052 with
                  | zero => intro x_72006 x_72007 ri_72008 H locs ls h_72056 hm_72051 hF hFr hG hP hD hS hl; exact absurd hm_72051 (Nat.not_lt_zero _)
                  | succ n_72052 ih_72054 =>
                    intro x_72006 x_72007 ri_72008 H locs ls h_72056 hm_72051 hF hFr hG hP hD hS hl
                    have uh_72056 := h_72056.1
                    have vh_72056 := h_72056.2
                    replace hF := hF.trans g_X12_sleep_L58_e
                    refine lv_iload_n hx hb dX12_sleep_58 rfl (lv_at hl 3 rfl) ?_
                    refine lv_aload_n hx hb dX12_sleep_59 rfl (lv_at hl 0 rfl) ?_
                    refine pg_f (v := .ref w_63123) (C := RX12) (T := TX12) (N := 31) hx hb hts (tw_i inlX12) hown hK hP hL_this hK_this (by decide +kernel) rfl 0 (by decide +kernel) (hts _ (tw_c tw_176)) (pq_hv rfl hR_w_63123) dX12_sleep_60 ?_
                    refine lv_iconst (v := 5) hx hb dX12_sleep_63 (by decide +kernel) ?_
                    refine pl_i hx hb hK hP hL_w_63123 hK_w_63123 hN_w_63123 (vp_in_iff.mpr (by decide +kernel)) dX12_sleep_64 ?_
                    refine lv_tov (ri w_63123 5) (hG.2.2.1 w_63123 hT_w_63123 5 (by decide +kernel) (by decide +kernel)) ?_
                    have h_72057 : rg (ri w_63123 5) 0 40 := GM.z0 hG0 (by rw [hT_w_63123]; decide) (i := 5) (k := 5) (by decide +kernel) rfl
                    have uh_72057 := h_72057.1
                    have vh_72057 := h_72057.2
                    replace hF := hF.trans (ap_n (vR_r hO_w_63123 (by decide +kernel) rfl))
                    refine lv_icmp_ge (tgt := 117) hx hb dX12_sleep_65 (by decide +kernel) (fun c_72059 => ?_) (fun c_72059 => ?_)
                    · replace hF := hF.trans (if_pos c_72059)
                      have tc_72064 : (ri w_63123 5).toInt ≤ (x_72007).toInt := Int32.le_iff_toInt_le.mp c_72059
                      obtain ⟨x_72065, ex_72065⟩ : ∃ y : Int32, y = x_54128 + Int32.ofInt 1 := ⟨_, rfl⟩
                      replace hF := hF.trans (ap_n ex_72065)
                      have h_72066 : rg x_72065 1 5 := rg_of_eq ex_72065 (rg_add h_63133 (rg_k (Int32.ofInt 1) 1 rfl) (by decide +kernel))
                      have uh_72066 := h_72066.1
                      have vh_72066 := h_72066.2
                      have tx_72065 : (x_72065).toInt = (x_54128).toInt + 1 := by rw [ex_72065]; exact i_add_rg (a2 := (x_54128).toInt) (b2 := 1) rfl rfl h_63133 (rg_k (Int32.ofInt 1) 1 rfl) (by decide +kernel)
                      refine lv_iinc (v := x_72065) (lv' := [(1, .int x_72065), (0, .ref this), (2, .int x_72006), (3, .int x_72007)]) hx hb dX12_sleep_117 hl (k := 1) rfl ex_72065.symm (by decide +kernel) rfl (fun ls hl => ?_)
                      refine lv_goto (tgt := 2) hx hb dX12_sleep_120 (by decide +kernel) ?_
                      exact ih_63120 x_72065 ri_72008 _ _ _ (rg_w h_72066 (by decide +kernel)) (ms_up 1 hm_63117 ex_72065 rfl (by decide +kernel) h_63133 (by decide +kernel) (by decide +kernel)) hF hFr hG hP hD hS (lv_sub hl [1, 0] rfl)
                    · replace hF := hF.trans (if_neg c_72059)
                      have tc_72067 : (x_72007).toInt < (ri w_63123 5).toInt := Int32.lt_iff_toInt_lt.mp (nle c_72059)
                      have h_72068 : rg x_72007 0 39 := rg_lt1 (nle c_72059) h_72056 h_72057 (by decide +kernel)
                      have uh_72068 := h_72068.1
                      have vh_72068 := h_72068.2
                      have h_72069 : rg (ri w_63123 5) 1 40 := rg_lt2 (nle c_72059) h_72056 h_72057 (by decide +kernel)
                      have uh_72069 := h_72069.1
                      have vh_72069 := h_72069.2
                      refine lv_aload_n hx hb dX12_sleep_68 rfl (lv_at hl 0 rfl) ?_
                      refine lv_iload_n hx hb dX12_sleep_69 rfl (lv_at hl 3 rfl) ?_
                      refine lv_iconst (v := 3) hx hb dX12_sleep_70 (by decide +kernel) ?_
                      refine pk_i (va_runV (As := [.int x_72007, .int 3]) (rest := []) ⟨hx, hb, hml, hown, hts⟩ (s_X12_personAt_c3 l D t σ I J ri_72008 rj rq H.size tg hSH hG.1 this x_72007 hL_this hK_this (rg_w h_72068 (by decide +kernel)) w_63123 hR_w_63123 hL_w_63123 hK_w_63123 hN_w_63123 hT_w_63123) (cwV 2 hts (tw_V tw_437 tw_438 tw_439 tw_5 tw_440) rfl rfl rfl cv_yX12_personAt_2 ⟨Nat.le_of_ble_eq_true rfl, Nat.le_of_ble_eq_true rfl⟩) ⟨pq_blind, pq_recv hK hP hL_this hK_this (by decide +kernel) rfl, pq_pre hK hN hP hD⟩ rfl rfl hl.1 rfl (lv_room (Nat.le_of_ble_eq_true rfl)) dX12_sleep_71 ⟨Nat.le_of_ble_eq_true rfl, Nat.le_of_ble_eq_true rfl⟩) hD hS hA (fun x_72070 σ1 μ1 H locs hw_72071 hP hD hS => ?_)
                      obtain ⟨hu_72072, hp_72075, hp_72076, hfn_72077, hr_72074⟩ := hw_72071
                      obtain ⟨hu_72072a, hu_72072b⟩ := Prod.mk.inj hu_72072
                      rw [hu_72072a, hu_72072b] at hP hD
                      replace hF := hF.trans (bn_n hfn_72077)
                      have tt_72079 := hp_72076
                      refine lv_iload_n hx hb dX12_sleep_74 rfl (lv_at hl 1 rfl) ?_
                      have K_72102 : ∀  (x_72098 : Int32) (ri_72099 : Nat → Nat → Int32) (H : Heap) (locs : List Loc) (ls : Array Slot), F = g_X12_sleep_K111 x_72007 (g_X12_sleep_L58 (vI 12 σ this I) (vJ 12 σ this J) (vR 12 σ this ri) (vL 12 σ this rj) (vQ 12 σ this rq) x_54128 (g_X12_sleep_L2 (vI 12 σ this I) (vJ 12 σ this J) (vR 12 σ this ri) (vL 12 σ this rj) (vQ 12 σ this rq) n_63118) n_72052) x_72098 (vR 12 σ this ri_72099) → FR 12 tg σ this (I, J, ri, rj, rq) (I, J, ri_72099, rj, rq) → GM [] tg σ I ri I ri_72099 rq → va_P D vwCl (pq_P t σ (I, J, ri_72099, rj, rq)) H → va_D A (pq_P t σ (I, J, ri_72099, rj, rq)) → va_S A s.heap H locs → lv_has ls 4 [(0, .ref this), (1, .int x_54128), (2, .int x_72098), (3, .int x_72007)] → W p l e ({ frames := 1, cells := 0, slots := 0, locals := 22 } : Room) s m (List.toArray ([.ref this] : List Value)) below meth c H locs 0 0 Q (F0 m 111 ls []) := by
                        intro x_72098 ri_72099 H locs ls hF hFr hG hP hD hS hl
                        replace hF := hF.trans g_X12_sleep_K111_e
                        obtain ⟨x_72103, ex_72103⟩ : ∃ y : Int32, y = x_72007 + Int32.ofInt 1 := ⟨_, rfl⟩
                        replace hF := hF.trans (ap_n ex_72103)
                        have h_72104 : rg x_72103 1 40 := rg_of_eq ex_72103 (rg_add h_72068 (rg_k (Int32.ofInt 1) 1 rfl) (by decide +kernel))
                        have uh_72104 := h_72104.1
                        have vh_72104 := h_72104.2
                        have tx_72103 : (x_72103).toInt = (x_72007).toInt + 1 := by rw [ex_72103]; exact i_add_rg (a2 := (x_72007).toInt) (b2 := 1) rfl rfl h_72068 (rg_k (Int32.ofInt 1) 1 rfl) (by decide +kernel)
                        refine lv_iinc (v := x_72103) (lv' := [(3, .int x_72103), (0, .ref this), (1, .int x_54128), (2, .int x_72098)]) hx hb dX12_sleep_111 hl (k := 3) rfl ex_72103.symm (by decide +kernel) rfl (fun ls hl => ?_)
                        refine lv_goto (tgt := 58) hx hb dX12_sleep_114 (by decide +kernel) ?_
                        exact ih_72054 x_72098 x_72103 ri_72099 _ _ _ (rg_w h_72104 (by decide +kernel)) (ms_up 1 hm_72051 ex_72103 rfl (by decide +kernel) h_72068 (by decide +kernel) (by decide +kernel)) hF hFr hG hP hD hS (lv_sub hl [1, 2, 3, 0] rfl)
                      refine lv_icmp_eq (tgt := 81) hx hb dX12_sleep_75 (by decide +kernel) (fun c_72105 => ?_) (fun c_72105 => ?_)
                      · replace hF := hF.trans (if_pos c_72105)
                        have tc_72109 : (x_72070).toInt = (x_54128).toInt := congrArg Int32.toInt c_72105
                        have h_72110 : rg x_72070 0 4 := rg_and hr_72074 (rg_of_eq c_72105 h_63133) (by decide +kernel)
                        have uh_72110 := h_72110.1
                        have vh_72110 := h_72110.2
                        refine lv_iload_n hx hb dX12_sleep_81 rfl (lv_at hl 2 rfl) ?_
                        refine lv_if_ne (tgt := 108) hx hb dX12_sleep_82 (by decide +kernel) (fun c_72111 => ?_) (fun c_72111 => ?_)
                        · replace hF := hF.trans (if_neg c_72111)
                          have tc_72115 : (x_72006).toInt ≠ 0 := fun q => c_72111 (Int32.toInt_inj.mp q)
                          obtain ⟨x_72116, ex_72116⟩ : ∃ y : Int32, y = x_72006 + Int32.ofInt (-1) := ⟨_, rfl⟩
                          replace hF := hF.trans (ap_n ex_72116)
                          refine lv_iinc (v := x_72116) (lv' := [(2, .int x_72116), (0, .ref this), (1, .int x_54128), (3, .int x_72007)]) hx hb dX12_sleep_108 hl (k := 2) rfl ex_72116.symm (by decide +kernel) rfl (fun ls hl => ?_)
                          exact K_72102 x_72116 ri_72008 _ _ _ hF hFr hG hP hD hS (lv_sub hl [1, 2, 0, 3] rfl)
                        · replace hF := hF.trans (if_pos c_72111)
                          have tc_72117 : (x_72006).toInt = 0 := congrArg Int32.toInt c_72111
                          have h_72118 : rg x_72006 0 0 := rg_and (rg_full _) (rg_of_eq c_72111 (rg_k (0 : Int32) 0 rfl)) (by decide +kernel)
                          have uh_72118 := h_72118.1
                          have vh_72118 := h_72118.2
                          refine lv_aload_n hx hb dX12_sleep_85 rfl (lv_at hl 0 rfl) ?_
                          refine pg_f (v := .ref w_63123) (C := RX12) (T := TX12) (N := 31) hx hb hts (tw_i inlX12) hown hK hP hL_this hK_this (by decide +kernel) rfl 0 (by decide +kernel) (hts _ (tw_c tw_176)) (pq_hv rfl hR_w_63123) dX12_sleep_86 ?_
                          refine lv_sipush (v := 740) hx hb dX12_sleep_89 (by decide +kernel) ?_
                          refine lv_bipush (v := 12) hx hb dX12_sleep_92 (by decide +kernel) ?_
                          refine lv_iload_n hx hb dX12_sleep_94 rfl (lv_at hl 3 rfl) ?_
                          refine lv_imul hx hb dX12_sleep_95 ?_
                          refine lv_topi (fun x_72119 ex_72119 => ?_)
                          replace hF := hF.trans (ap_n ex_72119)
                          have h_72120 : rg x_72119 0 468 := rg_of_eq ex_72119 (rg_mul (rg_k (12 : Int32) 12 rfl) h_72068 (by decide +kernel))
                          have uh_72120 := h_72120.1
                          have vh_72120 := h_72120.2
                          have tx_72119 : (x_72119).toInt = 12 * (x_72007).toInt := by rw [ex_72119]; exact i_mul_rg (a2 := 12) (b2 := (x_72007).toInt) rfl rfl (rg_k (12 : Int32) 12 rfl) h_72068 (by decide +kernel)
                          refine lv_iadd hx hb dX12_sleep_96 ?_
                          refine lv_topi (fun x_72121 ex_72121 => ?_)
                          replace hF := hF.trans (ap_n ex_72121)
                          have h_72122 : rg x_72121 740 1208 := rg_of_eq ex_72121 (rg_add (rg_k (740 : Int32) 740 rfl) h_72120 (by decide +kernel))
                          have uh_72122 := h_72122.1
                          have vh_72122 := h_72122.2
                          have tx_72121 : (x_72121).toInt = 740 + (x_72119).toInt := by rw [ex_72121]; exact i_add_rg (a2 := 740) (b2 := (x_72119).toInt) rfl rfl (rg_k (740 : Int32) 740 rfl) h_72120 (by decide +kernel)
                          refine lv_bipush (v := 6) hx hb dX12_sleep_97 (by decide +kernel) ?_
                          refine lv_iadd hx hb dX12_sleep_99 ?_
                          refine lv_topi (fun x_72123 ex_72123 => ?_)
                          replace hF := hF.trans (ap_n ex_72123)
                          have h_72124 : rg x_72123 746 1214 := rg_of_eq ex_72123 (rg_add h_72122 (rg_k (6 : Int32) 6 rfl) (by decide +kernel))
                          have uh_72124 := h_72124.1
                          have vh_72124 := h_72124.2
                          have tx_72123 : (x_72123).toInt = (x_72121).toInt + 6 := by rw [ex_72123]; exact i_add_rg (a2 := (x_72121).toInt) (b2 := 6) rfl rfl h_72122 (rg_k (6 : Int32) 6 rfl) (by decide +kernel)
                          refine lv_dup2_11 hx hb dX12_sleep_100 rfl rfl ?_
                          refine pl_i hx hb hK hP hL_w_63123 hK_w_63123 hN_w_63123 (rg_in h_72124 (by decide +kernel)) dX12_sleep_101 ?_
                          refine lv_topi (fun x_72125 ex_72125 => ?_)
                          replace hF := hF.trans (ap_n (vR_r hO_w_63123 (by decide +kernel) ex_72125))
                          refine lv_iconst (v := 1) hx hb dX12_sleep_102 (by decide +kernel) ?_
                          refine lv_iadd hx hb dX12_sleep_103 ?_
                          refine lv_topi (fun x_72126 ex_72126 => ?_)
                          replace hF := hF.trans (ap_n ex_72126)
                          refine pt_i hx hb hK hP hD hS hL_w_63123 hK_w_63123 hN_w_63123 (rg_in h_72124 (by decide +kernel)) dX12_sleep_104 (fun r_72127 H locs er_72127 hP hD hS => ?_)
                          replace hFr := fr_R hFr hO_w_63123 (by decide +kernel) er_72127
                          replace hF := hF.trans (ap_n (vR_st hVT hO_w_63123 (by decide +kernel) er_72127))
                          have hG := GM.wz hG hT_w_63123 (by decide +kernel) er_72127 (zn_PERSON (c := x_72007.toNatClampNeg) (k := 6) (by have z_i := clampE x_72123; have z_0 := clampE x_72007; omega) (rg_cl1 h_72068 (by decide +kernel)) (by decide +kernel)) rfl (rg_w (rg_full _) (by decide +kernel)) (by decide +kernel)
                          refine lv_goto (tgt := 111) hx hb dX12_sleep_105 (by decide +kernel) ?_
                          exact K_72102 x_72006 r_72127 _ _ _ hF hFr hG hP hD hS (lv_sub hl [0, 1, 2, 3] rfl)
                      · replace hF := hF.trans (if_neg c_72105)
                        have tc_72128 : (x_72070).toInt ≠ (x_54128).toInt := fun q => c_72105 (Int32.toInt_inj.mp q)
                        refine lv_goto (tgt := 111) hx hb dX12_sleep_78 (by decide +kernel) ?_
                        exact K_72102 x_72006 ri_72008 _ _ _ hF hFr hG hP hD hS (lv_sub hl [0, 1, 2, 3] rfl)
                exact L_72053 _ x_70811 (0 : Int32) ri_54129 _ _ _ (rg_w (rg_k (0 : Int32) 0 rfl) (by decide +kernel)) (Nat.lt_succ_self _) hF hFr hG hP hD hS (lv_sub hl [1, 2, 3, 0] rfl)
              · replace hF := hF.trans (if_neg c_71470)
                have tc_72129 : (x_70812).toInt < (ri w_63123 2).toInt := Int32.lt_iff_toInt_lt.mp (nle c_71470)
                have h_72130 : rg x_70812 0 39 := rg_lt1 (nle c_71470) h_71467 h_71468 (by decide +kernel)
                have uh_72130 := h_72130.1
                have vh_72130 := h_72130.2
                have h_72131 : rg (ri w_63123 2) 1 40 := rg_lt2 (nle c_71470) h_71467 h_71468 (by decide +kernel)
                have uh_72131 := h_72131.1
                have vh_72131 := h_72131.2
                refine lv_iload_n hx hb dX12_sleep_26 rfl (lv_at hl 2 rfl) ?_
                refine lv_aload_n hx hb dX12_sleep_27 rfl (lv_at hl 0 rfl) ?_
                refine lv_iload_n hx hb dX12_sleep_28 rfl (lv_at hl 3 rfl) ?_
                refine lv_iconst (v := 0) hx hb dX12_sleep_29 (by decide +kernel) ?_
                refine pk_i (va_runV (As := [.int x_70812, .int 0]) (rest := [.int x_70811]) ⟨hx, hb, hml, hown, hts⟩ (s_X12_cellAt_c0 l D t σ I J ri_54129 rj rq H.size tg hSH hG.1 this x_70812 hL_this hK_this (rg_w h_72130 (by decide +kernel))) (cwV 2 hts (tw_V tw_361 tw_362 tw_363 tw_5 tw_364) rfl rfl rfl cv_yX12_cellAt_2 ⟨Nat.le_of_ble_eq_true rfl, Nat.le_of_ble_eq_true rfl⟩) ⟨pq_blind, pq_recv hK hP hL_this hK_this (by decide +kernel) rfl, pq_pre hK hN hP hD⟩ rfl rfl hl.1 rfl (lv_room (Nat.le_of_ble_eq_true rfl)) dX12_sleep_30 ⟨Nat.le_of_ble_eq_true rfl, Nat.le_of_ble_eq_true rfl⟩) hD hS hA (fun x_72132 σ1 μ1 H locs hw_72133 hP hD hS => ?_)
                obtain ⟨hu_72134, hfn_72137⟩ := hw_72133
                obtain ⟨hu_72134a, hu_72134b⟩ := Prod.mk.inj hu_72134
                rw [hu_72134a, hu_72134b] at hP hD
                replace hF := hF.trans (bn_n hfn_72137)
                refine lv_iload_n hx hb dX12_sleep_33 rfl (lv_at hl 1 rfl) ?_
                have K_72154 : ∀  (x_72150 : Int32) (H : Heap) (locs : List Loc) (ls : Array Slot), F = g_X12_sleep_K48 x_70811 x_70812 (g_X12_sleep_L16 (vI 12 σ this I) (vJ 12 σ this J) (vR 12 σ this ri) (vL 12 σ this rj) (vQ 12 σ this rq) x_54128 (vR 12 σ this ri_54129) (g_X12_sleep_L2 (vI 12 σ this I) (vJ 12 σ this J) (vR 12 σ this ri) (vL 12 σ this rj) (vQ 12 σ this rq) n_63118) n_71463) x_72150 → FR 12 tg σ this (I, J, ri, rj, rq) (I, J, ri_54129, rj, rq) → GM [] tg σ I ri I ri_54129 rq → va_P D vwCl (pq_P t σ (I, J, ri_54129, rj, rq)) H → va_D A (pq_P t σ (I, J, ri_54129, rj, rq)) → va_S A s.heap H locs → lv_has ls 4 [(0, .ref this), (1, .int x_54128), (3, .int x_70812)] → W p l e ({ frames := 1, cells := 0, slots := 0, locals := 22 } : Room) s m (List.toArray ([.ref this] : List Value)) below meth c H locs 0 0 Q (F0 m 48 ls [.int x_72150, .int x_70811]) := by
                  intro x_72150 H locs ls hF hFr hG hP hD hS hl
                  replace hF := hF.trans g_X12_sleep_K48_e
                  refine lv_iadd hx hb dX12_sleep_48 ?_
                  refine lv_topi (fun x_72155 ex_72155 => ?_)
                  replace hF := hF.trans (ap_n ex_72155)
                  refine lv_istore_n (lv' := [(2, .int x_72155), (0, .ref this), (1, .int x_54128), (3, .int x_70812)]) hx hb dX12_sleep_49 rfl hl (by decide +kernel) rfl (fun ls hl => ?_)
                  obtain ⟨x_72156, ex_72156⟩ : ∃ y : Int32, y = x_70812 + Int32.ofInt 1 := ⟨_, rfl⟩
                  replace hF := hF.trans (ap_n ex_72156)
                  have h_72157 : rg x_72156 1 40 := rg_of_eq ex_72156 (rg_add h_72130 (rg_k (Int32.ofInt 1) 1 rfl) (by decide +kernel))
                  have uh_72157 := h_72157.1
                  have vh_72157 := h_72157.2
                  have tx_72156 : (x_72156).toInt = (x_70812).toInt + 1 := by rw [ex_72156]; exact i_add_rg (a2 := (x_70812).toInt) (b2 := 1) rfl rfl h_72130 (rg_k (Int32.ofInt 1) 1 rfl) (by decide +kernel)
                  refine lv_iinc (v := x_72156) (lv' := [(3, .int x_72156), (2, .int x_72155), (0, .ref this), (1, .int x_54128)]) hx hb dX12_sleep_50 hl (k := 3) rfl ex_72156.symm (by decide +kernel) rfl (fun ls hl => ?_)
                  refine lv_goto (tgt := 16) hx hb dX12_sleep_53 (by decide +kernel) ?_
                  exact ih_71465 x_72155 x_72156 _ _ _ (rg_w h_72157 (by decide +kernel)) (ms_up 1 hm_71462 ex_72156 rfl (by decide +kernel) h_72130 (by decide +kernel) (by decide +kernel)) hF hFr hG hP hD hS (lv_sub hl [2, 3, 1, 0] rfl)
                refine lv_icmp_ne (tgt := 47) hx hb dX12_sleep_34 (by decide +kernel) (fun c_72158 => ?_) (fun c_72158 => ?_)
                · replace hF := hF.trans (if_neg c_72158)
                  have tc_72162 : (x_72132).toInt ≠ (x_54128).toInt := fun q => c_72158 (Int32.toInt_inj.mp q)
                  refine lv_iconst (v := 0) hx hb dX12_sleep_47 (by decide +kernel) ?_
                  exact K_72154 (0 : Int32) _ _ _ hF hFr hG hP hD hS (lv_sub hl [0, 1, 3] rfl)
                · replace hF := hF.trans (if_pos c_72158)
                  have tc_72163 : (x_72132).toInt = (x_54128).toInt := congrArg Int32.toInt c_72158
                  have h_72164 : rg x_72132 0 4 := rg_and (rg_full _) (rg_of_eq c_72158 h_63133) (by decide +kernel)
                  have uh_72164 := h_72164.1
                  have vh_72164 := h_72164.2
                  refine lv_aload_n hx hb dX12_sleep_37 rfl (lv_at hl 0 rfl) ?_
                  refine lv_iload_n hx hb dX12_sleep_38 rfl (lv_at hl 3 rfl) ?_
                  refine lv_bipush (v := 7) hx hb dX12_sleep_39 (by decide +kernel) ?_
                  refine pk_i (va_runV (As := [.int x_70812, .int 7]) (rest := [.int x_70811]) ⟨hx, hb, hml, hown, hts⟩ (s_X12_cellAt_c7 l D t σ I J ri_54129 rj rq H.size tg hSH hG.1 this x_70812 hL_this hK_this (rg_w h_72130 (by decide +kernel))) (cwV 2 hts (tw_V tw_361 tw_362 tw_363 tw_5 tw_364) rfl rfl rfl cv_yX12_cellAt_2 ⟨Nat.le_of_ble_eq_true rfl, Nat.le_of_ble_eq_true rfl⟩) ⟨pq_blind, pq_recv hK hP hL_this hK_this (by decide +kernel) rfl, pq_pre hK hN hP hD⟩ rfl rfl hl.1 rfl (lv_room (Nat.le_of_ble_eq_true rfl)) dX12_sleep_41 ⟨Nat.le_of_ble_eq_true rfl, Nat.le_of_ble_eq_true rfl⟩) hD hS hA (fun x_72165 σ1 μ1 H locs hw_72166 hP hD hS => ?_)
                  obtain ⟨hu_72167, hfn_72170⟩ := hw_72166
                  obtain ⟨hu_72167a, hu_72167b⟩ := Prod.mk.inj hu_72167
                  rw [hu_72167a, hu_72167b] at hP hD
                  replace hF := hF.trans (bn_n hfn_72170)
                  refine lv_goto (tgt := 48) hx hb dX12_sleep_44 (by decide +kernel) ?_
                  exact K_72154 x_72165 _ _ _ hF hFr hG hP hD hS (lv_sub hl [0, 1, 3] rfl)
          exact L_71464 _ (0 : Int32) (0 : Int32) _ _ _ (rg_w (rg_k (0 : Int32) 0 rfl) (by decide +kernel)) (Nat.lt_succ_self _) hF hFr hG hP hD hS (lv_sub hl [2, 3, 1, 0] rfl)
    exact L_63119 _ (0 : Int32) ri _ _ _ (rg_w (rg_k (0 : Int32) 0 rfl) (by decide +kernel)) (Nat.lt_succ_self _) hF hFr hG hP hD hS (lv_sub hl [1, 0] rfl)
  exact go _ _ _ hP hD hS hl

set_option maxRecDepth 100000 in
def g_X12_wasRock_K42 (I : Nat → Int32) (J : Nat → Int64) (ri : Nat → Nat → Int32) (rj : Nat → Nat → Int64) (rq : Nat → Nat → Option Nat) (x_24 : Int32) : Int32 × vM := (ap1 (x_24 &&& (1 : Int32)) fun (x_31 : Int32) => (if x_31 = (1 : Int32) then ((1 : Int32), I, J, ri, rj, rq) else ((0 : Int32), I, J, ri, rj, rq)))
set_option maxRecDepth 100000 in
theorem g_X12_wasRock_K42_e {I : Nat → Int32} {J : Nat → Int64} {ri : Nat → Nat → Int32} {rj : Nat → Nat → Int64} {rq : Nat → Nat → Option Nat} {x_24 : Int32} : g_X12_wasRock_K42 I J ri rj rq x_24 = (ap1 (x_24 &&& (1 : Int32)) fun (x_31 : Int32) => (if x_31 = (1 : Int32) then ((1 : Int32), I, J, ri, rj, rq) else ((0 : Int32), I, J, ri, rj, rq))) := rfl
set_option maxRecDepth 100000 in
def g_X12_wasRock (a0 : Int32) (a1 : Int32) (I : Nat → Int32) (J : Nat → Int64) (ri : Nat → Nat → Int32) (rj : Nat → Nat → Int64) (rq : Nat → Nat → Option Nat) : Int32 × vM := (if (20 : Int32) ≤ a0 then (ap1 ((2 : Int32) * a1) fun (x_47 : Int32) => (ap1 ((2520 : Int32) + x_47) fun (x_49 : Int32) => (ap1 (x_49 + (1 : Int32)) fun (x_51 : Int32) => (ap1 (ri 384 (x_51).toNatClampNeg) fun (x_53 : Int32) => (ap1 (a0 - (20 : Int32)) fun (x_54 : Int32) => (ap1 (x_53 >>> (x_54 &&& 31)) fun (x_56 : Int32) => (g_X12_wasRock_K42 I J ri rj rq x_56))))))) else (ap1 ((2 : Int32) * a1) fun (x_60 : Int32) => (ap1 ((2520 : Int32) + x_60) fun (x_62 : Int32) => (ap1 (ri 384 (x_62).toNatClampNeg) fun (x_64 : Int32) => (ap1 (x_64 >>> (a0 &&& 31)) fun (x_65 : Int32) => (g_X12_wasRock_K42 I J ri rj rq x_65))))))
set_option maxRecDepth 100000 in
theorem g_X12_wasRock_e {a0 : Int32} {a1 : Int32} {I : Nat → Int32} {J : Nat → Int64} {ri : Nat → Nat → Int32} {rj : Nat → Nat → Int64} {rq : Nat → Nat → Option Nat} : g_X12_wasRock a0 a1 I J ri rj rq = (if (20 : Int32) ≤ a0 then (ap1 ((2 : Int32) * a1) fun (x_47 : Int32) => (ap1 ((2520 : Int32) + x_47) fun (x_49 : Int32) => (ap1 (x_49 + (1 : Int32)) fun (x_51 : Int32) => (ap1 (ri 384 (x_51).toNatClampNeg) fun (x_53 : Int32) => (ap1 (a0 - (20 : Int32)) fun (x_54 : Int32) => (ap1 (x_53 >>> (x_54 &&& 31)) fun (x_56 : Int32) => (g_X12_wasRock_K42 I J ri rj rq x_56))))))) else (ap1 ((2 : Int32) * a1) fun (x_60 : Int32) => (ap1 ((2520 : Int32) + x_60) fun (x_62 : Int32) => (ap1 (ri 384 (x_62).toNatClampNeg) fun (x_64 : Int32) => (ap1 (x_64 >>> (a0 &&& 31)) fun (x_65 : Int32) => (g_X12_wasRock_K42 I J ri rj rq x_65)))))) := rfl
set_option maxHeartbeats 4000000 in
set_option maxRecDepth 100000 in
theorem s_X12_wasRock (l : Launch) (D : va_G) (t : pq_T) (σ : pq_S) (I : Nat → Nat → Int32) (J : Nat → Nat → Int64) (ri : Nat → Nat → Int32) (rj : Nat → Nat → Int64) (rq : Nat → Nat → Option Nat) (sz : Nat) (tg : Nat → Nat) (hSH : SH σ tg) (hG0 : GT tg I ri) (this : Nat) (a0 : Int32) (a1 : Int32) (hL_this : this ∈ σ.1) (hK_this : σ.2.1 this = 12) (h_a0 : rg a0 0 39) (h_a1 : rg a1 0 599) : MetI l yX12_wasRock (wa yX12_wasRock cX12_wasRock 3 (some .boolean)) ({ frames := 0, cells := 0, slots := 0, locals := 0 }) [.ref this, .int a0, .int a1] D t σ (I, J, ri, rj, rq) sz 0 0 (fun (r : Int32) (u : pq_S × pq_M) => u = (σ, I, J, ri, rj, rq) ∧ g_X12_wasRock a0 a1 (vI 12 σ this I) (vJ 12 σ this J) (vR 12 σ this ri) (vL 12 σ this rj) (vQ 12 σ this rq) = (r, (vI 12 σ this I), (vJ 12 σ this J), (vR 12 σ this ri), (vL 12 σ this rj), (vQ 12 σ this rq)) ∧ ((r = 1 ∧ True) ∨ (r = 0 ∧ True))) := by
  refine Met.ofW (cc := cX12_wasRock) (maxL := 3) (ret := (some .boolean)) (by decide +kernel) rfl ?_
  intro p e s m args below meth c s₁ B hml hv
  obtain ⟨rfl, hsz, hP, hK, hD0, hN⟩ := hv
  have hx := B.exec
  have hb := B.bytes
  have hr := B.returns
  have hts := atoms_spec (ws := (wa yX12_wasRock cX12_wasRock 3 (some .boolean))) B.pre
  have hown : s.vm.findClass RX12 = some m.cls := findClass_of_methodNamed B.named
  have hlocks := B.notSynchronized
  subst hsz
  have hD : va_D (pq_B t σ (I, J, ri, rj, rq) s.heap.size) (pq_P t σ (I, J, ri, rj, rq)) := hD0.self
  generalize hAe : pq_B t σ (I, J, ri, rj, rq) s.heap.size = A at hD ⊢
  have hA : ∀ q : Nat, s.heap.size ≤ q → A q := fun q h => by rw [← hAe]; exact Or.inr h
  have hS : va_S A s.heap s.heap [] := va_S.rf
  have hG : GM [] tg σ I ri I ri rq := ⟨hG0, fun _ _ _ => rfl, fun _ _ _ _ _ => rfl, fun _ _ _ _ _ _ => rfl⟩
  have hl := lv_entry ([.ref this, .int a0, .int a1]) (n := 3) (Nat.le_of_ble_eq_true rfl)
  rw [lg_entry_eq]
  generalize (lg_sl ([.ref this, .int a0, .int a1]) ++ List.replicate (3 - (lg_sl ([.ref this, .int a0, .int a1])).length) Slot.unset).toArray = ls at hl ⊢
  have hl : lv_has ls 3 [(0, .ref this), (1, .int a0), (2, .int a1)] := hl
  refine q_gen (fun Q hQ => ?_)
  have go : ∀ (H : Heap) (locs : List Loc) (ls : Array Slot), va_P D vwCl (pq_P t σ (I, J, ri, rj, rq)) H → va_D A (pq_P t σ (I, J, ri, rj, rq)) → va_S A s.heap H locs → lv_has ls 3 [(0, .ref this), (1, .int a0), (2, .int a1)] → W p l e ({ frames := 0, cells := 0, slots := 0, locals := 0 } : Room) s m (List.toArray ([.ref this, .int a0, .int a1] : List Value)) below meth c H locs 0 0 Q (F0 m 0 ls []) := by
    intro H locs ls hP hD hS hl
    have hO_this : this = vo σ 12 this := rfl
    have hVT : VT 12 σ tg this := vt_12 hSH hL_this hK_this
    have hFr : FR 12 tg σ this (I, J, ri, rj, rq) (I, J, ri, rj, rq) := fr_rf
    obtain ⟨F, hF0⟩ : ∃ F, F = g_X12_wasRock a0 a1 (vI 12 σ this I) (vJ 12 σ this J) (vR 12 σ this ri) (vL 12 σ this rj) (vQ 12 σ this rq) := ⟨_, rfl⟩
    have hF := hF0.trans g_X12_wasRock_e
    refine lv_iload_n hx hb dX12_wasRock_0 rfl (lv_at hl 1 rfl) ?_
    refine lv_bipush (v := 20) hx hb dX12_wasRock_1 (by decide +kernel) ?_
    have K_30 : ∀  (x_24 : Int32) (H : Heap) (locs : List Loc) (ls : Array Slot), F = g_X12_wasRock_K42 (vI 12 σ this I) (vJ 12 σ this J) (vR 12 σ this ri) (vL 12 σ this rj) (vQ 12 σ this rq) x_24 → FR 12 tg σ this (I, J, ri, rj, rq) (I, J, ri, rj, rq) → GM [] tg σ I ri I ri rq → va_P D vwCl (pq_P t σ (I, J, ri, rj, rq)) H → va_D A (pq_P t σ (I, J, ri, rj, rq)) → va_S A s.heap H locs → lv_has ls 3 [] → W p l e ({ frames := 0, cells := 0, slots := 0, locals := 0 } : Room) s m (List.toArray ([.ref this, .int a0, .int a1] : List Value)) below meth c H locs 0 0 Q (F0 m 42 ls [.int x_24]) := by
      intro x_24 H locs ls hF hFr hG hP hD hS hl
      replace hF := hF.trans g_X12_wasRock_K42_e
      refine lv_iconst (v := 1) hx hb dX12_wasRock_42 (by decide +kernel) ?_
      refine lv_iand hx hb dX12_wasRock_43 ?_
      refine lv_topi (fun x_31 ex_31 => ?_)
      replace hF := hF.trans (ap_n ex_31)
      refine lv_iconst (v := 1) hx hb dX12_wasRock_44 (by decide +kernel) ?_
      refine lv_icmp_ne (tgt := 52) hx hb dX12_wasRock_45 (by decide +kernel) (fun c_32 => ?_) (fun c_32 => ?_)
      · replace hF := hF.trans (if_neg c_32)
        have tc_36 : (x_31).toInt ≠ 1 := fun q => c_32 (Int32.toInt_inj.mp q)
        refine lv_iconst (v := 0) hx hb dX12_wasRock_52 (by decide +kernel) ?_
        subst hQ
        exact W.zret (v := 0) hx hb hr (by decide +kernel) (fun t1 ht hW => ⟨⟨0, (σ, I, J, ri, rj, rq), rfl, ⟨rfl, (hF0.symm.trans hF), (Or.inr ⟨rfl, trivial⟩)⟩, by rw [ht]; exact hP, va_K.moved hW.alike hK, hD⟩, hS.F ht⟩) hS.2.2 dX12_wasRock_53
      · replace hF := hF.trans (if_pos c_32)
        have tc_37 : (x_31).toInt = 1 := congrArg Int32.toInt c_32
        have h_38 : rg x_31 1 1 := rg_and (rg_full _) (rg_of_eq c_32 (rg_k (1 : Int32) 1 rfl)) (by decide +kernel)
        have uh_38 := h_38.1
        have vh_38 := h_38.2
        refine lv_iconst (v := 1) hx hb dX12_wasRock_48 (by decide +kernel) ?_
        refine lv_goto (tgt := 53) hx hb dX12_wasRock_49 (by decide +kernel) ?_
        subst hQ
        exact W.zret (v := 1) hx hb hr (by decide +kernel) (fun t1 ht hW => ⟨⟨1, (σ, I, J, ri, rj, rq), rfl, ⟨rfl, (hF0.symm.trans hF), (Or.inl ⟨rfl, trivial⟩)⟩, by rw [ht]; exact hP, va_K.moved hW.alike hK, hD⟩, hS.F ht⟩) hS.2.2 dX12_wasRock_53
    refine lv_icmp_ge (tgt := 23) hx hb dX12_wasRock_3 (by decide +kernel) (fun c_39 => ?_) (fun c_39 => ?_)
    · replace hF := hF.trans (if_pos c_39)
      have tc_44 : 20 ≤ (a0).toInt := Int32.le_iff_toInt_le.mp c_39
      have h_45 : rg a0 20 39 := rg_le2 c_39 (rg_k (20 : Int32) 20 rfl) h_a0 (by decide +kernel)
      have uh_45 := h_45.1
      have vh_45 := h_45.2
      refine lv_aload_n hx hb dX12_wasRock_23 rfl (lv_at hl 0 rfl) ?_
      obtain ⟨w_46, hR_w_46, hL_w_46, hK_w_46, hN_w_46, hT_w_46⟩ := sh_a hSH 384 (ci := 12) (kd := 13) (len := 12720) rfl (by decide +kernel) hL_this hK_this
      have hO_w_46 : w_46 = vrow σ 384 this := vo_k (c := 12) hO_this hR_w_46
      refine pg_f (v := .ref w_46) (C := RX12) (T := TX12) (N := 31) hx hb hts (tw_i inlX12) hown hK hP hL_this hK_this (by decide +kernel) rfl 0 (by decide +kernel) (hts _ (tw_c tw_176)) (pq_hv rfl hR_w_46) dX12_wasRock_24 ?_
      refine lv_sipush (v := 2520) hx hb dX12_wasRock_27 (by decide +kernel) ?_
      refine lv_iconst (v := 2) hx hb dX12_wasRock_30 (by decide +kernel) ?_
      refine lv_iload_n hx hb dX12_wasRock_31 rfl (lv_at hl 2 rfl) ?_
      refine lv_imul hx hb dX12_wasRock_32 ?_
      refine lv_topi (fun x_47 ex_47 => ?_)
      replace hF := hF.trans (ap_n ex_47)
      have h_48 : rg x_47 0 1198 := rg_of_eq ex_47 (rg_mul (rg_k (2 : Int32) 2 rfl) h_a1 (by decide +kernel))
      have uh_48 := h_48.1
      have vh_48 := h_48.2
      have tx_47 : (x_47).toInt = 2 * (a1).toInt := by rw [ex_47]; exact i_mul_rg (a2 := 2) (b2 := (a1).toInt) rfl rfl (rg_k (2 : Int32) 2 rfl) h_a1 (by decide +kernel)
      refine lv_iadd hx hb dX12_wasRock_33 ?_
      refine lv_topi (fun x_49 ex_49 => ?_)
      replace hF := hF.trans (ap_n ex_49)
      have h_50 : rg x_49 2520 3718 := rg_of_eq ex_49 (rg_add (rg_k (2520 : Int32) 2520 rfl) h_48 (by decide +kernel))
      have uh_50 := h_50.1
      have vh_50 := h_50.2
      have tx_49 : (x_49).toInt = 2520 + (x_47).toInt := by rw [ex_49]; exact i_add_rg (a2 := 2520) (b2 := (x_47).toInt) rfl rfl (rg_k (2520 : Int32) 2520 rfl) h_48 (by decide +kernel)
      refine lv_iconst (v := 1) hx hb dX12_wasRock_34 (by decide +kernel) ?_
      refine lv_iadd hx hb dX12_wasRock_35 ?_
      refine lv_topi (fun x_51 ex_51 => ?_)
      replace hF := hF.trans (ap_n ex_51)
      have h_52 : rg x_51 2521 3719 := rg_of_eq ex_51 (rg_add h_50 (rg_k (1 : Int32) 1 rfl) (by decide +kernel))
      have uh_52 := h_52.1
      have vh_52 := h_52.2
      have tx_51 : (x_51).toInt = (x_49).toInt + 1 := by rw [ex_51]; exact i_add_rg (a2 := (x_49).toInt) (b2 := 1) rfl rfl h_50 (rg_k (1 : Int32) 1 rfl) (by decide +kernel)
      refine pl_i hx hb hK hP hL_w_46 hK_w_46 hN_w_46 (rg_in h_52 (by decide +kernel)) dX12_wasRock_36 ?_
      refine lv_topi (fun x_53 ex_53 => ?_)
      replace hF := hF.trans (ap_n (vR_r hO_w_46 (by decide +kernel) ex_53))
      refine lv_iload_n hx hb dX12_wasRock_37 rfl (lv_at hl 1 rfl) ?_
      refine lv_bipush (v := 20) hx hb dX12_wasRock_38 (by decide +kernel) ?_
      refine lv_isub hx hb dX12_wasRock_40 ?_
      refine lv_topi (fun x_54 ex_54 => ?_)
      replace hF := hF.trans (ap_n ex_54)
      have h_55 : rg x_54 0 19 := rg_of_eq ex_54 (rg_sub h_45 (rg_k (20 : Int32) 20 rfl) (by decide +kernel))
      have uh_55 := h_55.1
      have vh_55 := h_55.2
      have tx_54 : (x_54).toInt = (a0).toInt - 20 := by rw [ex_54]; exact i_sub_rg (a2 := (a0).toInt) (b2 := 20) rfl rfl h_45 (rg_k (20 : Int32) 20 rfl) (by decide +kernel)
      refine lv_ishr hx hb dX12_wasRock_41 ?_
      refine lv_topi (fun x_56 ex_56 => ?_)
      replace hF := hF.trans (ap_n ex_56)
      exact K_30 x_56 _ _ _ hF hFr hG hP hD hS (lv_sub hl [] rfl)
    · replace hF := hF.trans (if_neg c_39)
      have tc_57 : (a0).toInt < 20 := Int32.lt_iff_toInt_lt.mp (nle c_39)
      have h_58 : rg a0 0 19 := rg_lt1 (nle c_39) h_a0 (rg_k (20 : Int32) 20 rfl) (by decide +kernel)
      have uh_58 := h_58.1
      have vh_58 := h_58.2
      refine lv_aload_n hx hb dX12_wasRock_6 rfl (lv_at hl 0 rfl) ?_
      obtain ⟨w_59, hR_w_59, hL_w_59, hK_w_59, hN_w_59, hT_w_59⟩ := sh_a hSH 384 (ci := 12) (kd := 13) (len := 12720) rfl (by decide +kernel) hL_this hK_this
      have hO_w_59 : w_59 = vrow σ 384 this := vo_k (c := 12) hO_this hR_w_59
      refine pg_f (v := .ref w_59) (C := RX12) (T := TX12) (N := 31) hx hb hts (tw_i inlX12) hown hK hP hL_this hK_this (by decide +kernel) rfl 0 (by decide +kernel) (hts _ (tw_c tw_176)) (pq_hv rfl hR_w_59) dX12_wasRock_7 ?_
      refine lv_sipush (v := 2520) hx hb dX12_wasRock_10 (by decide +kernel) ?_
      refine lv_iconst (v := 2) hx hb dX12_wasRock_13 (by decide +kernel) ?_
      refine lv_iload_n hx hb dX12_wasRock_14 rfl (lv_at hl 2 rfl) ?_
      refine lv_imul hx hb dX12_wasRock_15 ?_
      refine lv_topi (fun x_60 ex_60 => ?_)
      replace hF := hF.trans (ap_n ex_60)
      have h_61 : rg x_60 0 1198 := rg_of_eq ex_60 (rg_mul (rg_k (2 : Int32) 2 rfl) h_a1 (by decide +kernel))
      have uh_61 := h_61.1
      have vh_61 := h_61.2
      have tx_60 : (x_60).toInt = 2 * (a1).toInt := by rw [ex_60]; exact i_mul_rg (a2 := 2) (b2 := (a1).toInt) rfl rfl (rg_k (2 : Int32) 2 rfl) h_a1 (by decide +kernel)
      refine lv_iadd hx hb dX12_wasRock_16 ?_
      refine lv_topi (fun x_62 ex_62 => ?_)
      replace hF := hF.trans (ap_n ex_62)
      have h_63 : rg x_62 2520 3718 := rg_of_eq ex_62 (rg_add (rg_k (2520 : Int32) 2520 rfl) h_61 (by decide +kernel))
      have uh_63 := h_63.1
      have vh_63 := h_63.2
      have tx_62 : (x_62).toInt = 2520 + (x_60).toInt := by rw [ex_62]; exact i_add_rg (a2 := 2520) (b2 := (x_60).toInt) rfl rfl (rg_k (2520 : Int32) 2520 rfl) h_61 (by decide +kernel)
      refine pl_i hx hb hK hP hL_w_59 hK_w_59 hN_w_59 (rg_in h_63 (by decide +kernel)) dX12_wasRock_17 ?_
      refine lv_topi (fun x_64 ex_64 => ?_)
      replace hF := hF.trans (ap_n (vR_r hO_w_59 (by decide +kernel) ex_64))
      refine lv_iload_n hx hb dX12_wasRock_18 rfl (lv_at hl 1 rfl) ?_
      refine lv_ishr hx hb dX12_wasRock_19 ?_
      refine lv_topi (fun x_65 ex_65 => ?_)
      replace hF := hF.trans (ap_n ex_65)
      refine lv_goto (tgt := 42) hx hb dX12_wasRock_20 (by decide +kernel) ?_
      exact K_30 x_65 _ _ _ hF hFr hG hP hD hS (lv_sub hl [] rfl)
  exact go _ _ _ hP hD hS hl

set_option maxRecDepth 100000 in
def g_X12_cellAt_c2 (a0 : Int32) (I : Nat → Int32) (J : Nat → Int64) (ri : Nat → Nat → Int32) (rj : Nat → Nat → Int64) (rq : Nat → Nat → Option Nat) : Int32 × vM := (ap1 ((16 : Int32) * a0) fun (x_2 : Int32) => (ap1 ((100 : Int32) + x_2) fun (x_4 : Int32) => (ap1 (x_4 + (2 : Int32)) fun (x_6 : Int32) => (ap1 (ri 384 (x_6).toNatClampNeg) fun (x_8 : Int32) => (x_8, I, J, ri, rj, rq)))))
set_option maxRecDepth 100000 in
theorem g_X12_cellAt_c2_e {a0 : Int32} {I : Nat → Int32} {J : Nat → Int64} {ri : Nat → Nat → Int32} {rj : Nat → Nat → Int64} {rq : Nat → Nat → Option Nat} : g_X12_cellAt_c2 a0 I J ri rj rq = (ap1 ((16 : Int32) * a0) fun (x_2 : Int32) => (ap1 ((100 : Int32) + x_2) fun (x_4 : Int32) => (ap1 (x_4 + (2 : Int32)) fun (x_6 : Int32) => (ap1 (ri 384 (x_6).toNatClampNeg) fun (x_8 : Int32) => (x_8, I, J, ri, rj, rq))))) := rfl
set_option maxHeartbeats 4000000 in
set_option maxRecDepth 100000 in
theorem s_X12_cellAt_c2 (l : Launch) (D : va_G) (t : pq_T) (σ : pq_S) (I : Nat → Nat → Int32) (J : Nat → Nat → Int64) (ri : Nat → Nat → Int32) (rj : Nat → Nat → Int64) (rq : Nat → Nat → Option Nat) (sz : Nat) (tg : Nat → Nat) (hSH : SH σ tg) (hG0 : GT tg I ri) (this : Nat) (a0 : Int32) (hL_this : this ∈ σ.1) (hK_this : σ.2.1 this = 12) (h_a0 : rg a0 0 39) : MetI l yX12_cellAt (wa yX12_cellAt cX12_cellAt 3 (some .int)) ({ frames := 0, cells := 0, slots := 0, locals := 0 }) [.ref this, .int a0, .int 2] D t σ (I, J, ri, rj, rq) sz 0 0 (fun (r : Int32) (u : pq_S × pq_M) => u = (σ, I, J, ri, rj, rq) ∧ g_X12_cellAt_c2 a0 (vI 12 σ this I) (vJ 12 σ this J) (vR 12 σ this ri) (vL 12 σ this rj) (vQ 12 σ this rq) = (r, (vI 12 σ this I), (vJ 12 σ this J), (vR 12 σ this ri), (vL 12 σ this rj), (vQ 12 σ this rq))) := by
  refine Met.ofW (cc := cX12_cellAt) (maxL := 3) (ret := (some .int)) (by decide +kernel) rfl ?_
  intro p e s m args below meth c s₁ B hml hv
  obtain ⟨rfl, hsz, hP, hK, hD0, hN⟩ := hv
  have hx := B.exec
  have hb := B.bytes
  have hr := B.returns
  have hts := atoms_spec (ws := (wa yX12_cellAt cX12_cellAt 3 (some .int))) B.pre
  have hown : s.vm.findClass RX12 = some m.cls := findClass_of_methodNamed B.named
  have hlocks := B.notSynchronized
  subst hsz
  have hD : va_D (pq_B t σ (I, J, ri, rj, rq) s.heap.size) (pq_P t σ (I, J, ri, rj, rq)) := hD0.self
  generalize hAe : pq_B t σ (I, J, ri, rj, rq) s.heap.size = A at hD ⊢
  have hA : ∀ q : Nat, s.heap.size ≤ q → A q := fun q h => by rw [← hAe]; exact Or.inr h
  have hS : va_S A s.heap s.heap [] := va_S.rf
  have hG : GM [] tg σ I ri I ri rq := ⟨hG0, fun _ _ _ => rfl, fun _ _ _ _ _ => rfl, fun _ _ _ _ _ _ => rfl⟩
  have hl := lv_entry ([.ref this, .int a0, .int 2]) (n := 3) (Nat.le_of_ble_eq_true rfl)
  rw [lg_entry_eq]
  generalize (lg_sl ([.ref this, .int a0, .int 2]) ++ List.replicate (3 - (lg_sl ([.ref this, .int a0, .int 2])).length) Slot.unset).toArray = ls at hl ⊢
  have hl : lv_has ls 3 [(0, .ref this), (1, .int a0), (2, .int 2)] := hl
  refine q_gen (fun Q hQ => ?_)
  have go : ∀ (H : Heap) (locs : List Loc) (ls : Array Slot), va_P D vwCl (pq_P t σ (I, J, ri, rj, rq)) H → va_D A (pq_P t σ (I, J, ri, rj, rq)) → va_S A s.heap H locs → lv_has ls 3 [(0, .ref this), (1, .int a0), (2, .int 2)] → W p l e ({ frames := 0, cells := 0, slots := 0, locals := 0 } : Room) s m (List.toArray ([.ref this, .int a0, .int 2] : List Value)) below meth c H locs 0 0 Q (F0 m 0 ls []) := by
    intro H locs ls hP hD hS hl
    have hO_this : this = vo σ 12 this := rfl
    have hVT : VT 12 σ tg this := vt_12 hSH hL_this hK_this
    have hFr : FR 12 tg σ this (I, J, ri, rj, rq) (I, J, ri, rj, rq) := fr_rf
    obtain ⟨F, hF0⟩ : ∃ F, F = g_X12_cellAt_c2 a0 (vI 12 σ this I) (vJ 12 σ this J) (vR 12 σ this ri) (vL 12 σ this rj) (vQ 12 σ this rq) := ⟨_, rfl⟩
    have hF := hF0.trans g_X12_cellAt_c2_e
    refine lv_aload_n hx hb dX12_cellAt_0 rfl (lv_at hl 0 rfl) ?_
    obtain ⟨w_1, hR_w_1, hL_w_1, hK_w_1, hN_w_1, hT_w_1⟩ := sh_a hSH 384 (ci := 12) (kd := 13) (len := 12720) rfl (by decide +kernel) hL_this hK_this
    have hO_w_1 : w_1 = vrow σ 384 this := vo_k (c := 12) hO_this hR_w_1
    refine pg_f (v := .ref w_1) (C := RX12) (T := TX12) (N := 31) hx hb hts (tw_i inlX12) hown hK hP hL_this hK_this (by decide +kernel) rfl 0 (by decide +kernel) (hts _ (tw_c tw_176)) (pq_hv rfl hR_w_1) dX12_cellAt_1 ?_
    refine lv_bipush (v := 100) hx hb dX12_cellAt_4 (by decide +kernel) ?_
    refine lv_bipush (v := 16) hx hb dX12_cellAt_6 (by decide +kernel) ?_
    refine lv_iload_n hx hb dX12_cellAt_8 rfl (lv_at hl 1 rfl) ?_
    refine lv_imul hx hb dX12_cellAt_9 ?_
    refine lv_topi (fun x_2 ex_2 => ?_)
    replace hF := hF.trans (ap_n ex_2)
    have h_3 : rg x_2 0 624 := rg_of_eq ex_2 (rg_mul (rg_k (16 : Int32) 16 rfl) h_a0 (by decide +kernel))
    have uh_3 := h_3.1
    have vh_3 := h_3.2
    have tx_2 : (x_2).toInt = 16 * (a0).toInt := by rw [ex_2]; exact i_mul_rg (a2 := 16) (b2 := (a0).toInt) rfl rfl (rg_k (16 : Int32) 16 rfl) h_a0 (by decide +kernel)
    refine lv_iadd hx hb dX12_cellAt_10 ?_
    refine lv_topi (fun x_4 ex_4 => ?_)
    replace hF := hF.trans (ap_n ex_4)
    have h_5 : rg x_4 100 724 := rg_of_eq ex_4 (rg_add (rg_k (100 : Int32) 100 rfl) h_3 (by decide +kernel))
    have uh_5 := h_5.1
    have vh_5 := h_5.2
    have tx_4 : (x_4).toInt = 100 + (x_2).toInt := by rw [ex_4]; exact i_add_rg (a2 := 100) (b2 := (x_2).toInt) rfl rfl (rg_k (100 : Int32) 100 rfl) h_3 (by decide +kernel)
    refine lv_iload_n hx hb dX12_cellAt_11 rfl (lv_at hl 2 rfl) ?_
    refine lv_iadd hx hb dX12_cellAt_12 ?_
    refine lv_topi (fun x_6 ex_6 => ?_)
    replace hF := hF.trans (ap_n ex_6)
    have h_7 : rg x_6 102 726 := rg_of_eq ex_6 (rg_add h_5 (rg_k (2 : Int32) 2 rfl) (by decide +kernel))
    have uh_7 := h_7.1
    have vh_7 := h_7.2
    have tx_6 : (x_6).toInt = (x_4).toInt + 2 := by rw [ex_6]; exact i_add_rg (a2 := (x_4).toInt) (b2 := 2) rfl rfl h_5 (rg_k (2 : Int32) 2 rfl) (by decide +kernel)
    refine pl_i hx hb hK hP hL_w_1 hK_w_1 hN_w_1 (rg_in h_7 (by decide +kernel)) dX12_cellAt_13 ?_
    refine lv_topi (fun x_8 ex_8 => ?_)
    replace hF := hF.trans (ap_n (vR_r hO_w_1 (by decide +kernel) ex_8))
    subst hQ
    exact W.iret (v := x_8) hx hb hr (fun t1 ht hW => ⟨⟨x_8, (σ, I, J, ri, rj, rq), rfl, ⟨rfl, (hF0.symm.trans hF)⟩, by rw [ht]; exact hP, va_K.moved hW.alike hK, hD⟩, hS.F ht⟩) hS.2.2 dX12_cellAt_14
  exact go _ _ _ hP hD hS hl
theorem dX12_areaOf_0 : decode cX12_areaOf 0 = .ok (.aload_n 0, 1) := oc_42 (by decide +kernel)
theorem dX12_areaOf_1 : decode cX12_areaOf 1 = .ok (.bipush 8, 2) := oc_16 (a := 8) (by decide +kernel)
theorem dX12_areaOf_3 : decode cX12_areaOf 3 = .ok (.iload_n 1, 1) := oc_27 (by decide +kernel)
theorem dX12_areaOf_4 : decode cX12_areaOf 4 = .ok (.iconst (-1), 1) := oc_2 (by decide +kernel)
theorem dX12_areaOf_5 : decode cX12_areaOf 5 = .ok (.invokevirtual 304, 3) := oc_182 (a := 1) (b := 48) (by decide +kernel)
theorem dX12_areaOf_8 : decode cX12_areaOf 8 = .ok (.istore_n 2, 1) := oc_61 (by decide +kernel)
theorem dX12_areaOf_9 : decode cX12_areaOf 9 = .ok (.iload_n 2, 1) := oc_28 (by decide +kernel)
theorem dX12_areaOf_23 : decode cX12_areaOf 23 = .ok (.istore_n 3, 1) := oc_62 (by decide +kernel)
theorem dX12_areaOf_24 : decode cX12_areaOf 24 = .ok (.iconst 0, 1) := oc_3 (by decide +kernel)
theorem dX12_areaOf_25 : decode cX12_areaOf 25 = .ok (.istore 4, 2) := oc_54 (by decide +kernel)
theorem dX12_areaOf_27 : decode cX12_areaOf 27 = .ok (.iconst 0, 1) := oc_3 (by decide +kernel)
theorem dX12_areaOf_28 : decode cX12_areaOf 28 = .ok (.istore 5, 2) := oc_54 (by decide +kernel)
theorem dX12_areaOf_30 : decode cX12_areaOf 30 = .ok (.iload 5, 2) := oc_21 (by decide +kernel)
theorem dX12_areaOf_32 : decode cX12_areaOf 32 = .ok (.sipush 1024, 3) := oc_17 (a := 4) (b := 0) (by decide +kernel)
theorem dX12_areaOf_35 : decode cX12_areaOf 35 = .ok (.if_icmp .ge 128, 3) := oc_162 (a := 0) (b := 128) (by decide +kernel)
theorem dX12_areaOf_163 : decode cX12_areaOf 163 = .ok (.iload 4, 2) := oc_21 (by decide +kernel)
theorem dX12_areaOf_165 : decode cX12_areaOf 165 = .ok (.ireturn, 1) := oc_172 (by decide +kernel)
theorem dX12_areaOf_38 : decode cX12_areaOf 38 = .ok (.iconst 0, 1) := oc_3 (by decide +kernel)
theorem dX12_areaOf_39 : decode cX12_areaOf 39 = .ok (.istore 6, 2) := oc_54 (by decide +kernel)
theorem dX12_areaOf_41 : decode cX12_areaOf 41 = .ok (.iconst 0, 1) := oc_3 (by decide +kernel)
theorem dX12_areaOf_42 : decode cX12_areaOf 42 = .ok (.istore 7, 2) := oc_54 (by decide +kernel)
theorem dX12_areaOf_44 : decode cX12_areaOf 44 = .ok (.iload 7, 2) := oc_21 (by decide +kernel)
theorem dX12_areaOf_46 : decode cX12_areaOf 46 = .ok (.aload_n 0, 1) := oc_42 (by decide +kernel)
theorem dX12_areaOf_47 : decode cX12_areaOf 47 = .ok (.getfield 7, 3) := oc_180 (a := 0) (b := 7) (by decide +kernel)
theorem dX12_areaOf_50 : decode cX12_areaOf 50 = .ok (.iconst 2, 1) := oc_5 (by decide +kernel)
theorem dX12_areaOf_51 : decode cX12_areaOf 51 = .ok (.iaload, 1) := oc_46 (by decide +kernel)
theorem dX12_areaOf_142 : decode cX12_areaOf 142 = .ok (.iload 4, 2) := oc_21 (by decide +kernel)
theorem dX12_areaOf_144 : decode cX12_areaOf 144 = .ok (.iload 6, 2) := oc_21 (by decide +kernel)
theorem dX12_areaOf_154 : decode cX12_areaOf 154 = .ok (.iadd, 1) := oc_96 (by decide +kernel)
theorem dX12_areaOf_155 : decode cX12_areaOf 155 = .ok (.istore 4, 2) := oc_54 (by decide +kernel)
theorem dX12_areaOf_157 : decode cX12_areaOf 157 = .ok (.iinc 5 1, 3) := oc_132 (b := 1) (by decide +kernel)
theorem dX12_areaOf_160 : decode cX12_areaOf 160 = .ok (.goto (-130), 3) := oc_167 (a := 255) (b := 126) (by decide +kernel)
theorem dX12_areaOf_146 : decode cX12_areaOf 146 = .ok (.ifCond .eq 7, 3) := oc_153 (a := 0) (b := 7) (by decide +kernel)
theorem dX12_areaOf_153 : decode cX12_areaOf 153 = .ok (.iconst 0, 1) := oc_3 (by decide +kernel)
theorem dX12_areaOf_149 : decode cX12_areaOf 149 = .ok (.iconst 1, 1) := oc_4 (by decide +kernel)
theorem dX12_areaOf_150 : decode cX12_areaOf 150 = .ok (.goto 4, 3) := oc_167 (a := 0) (b := 4) (by decide +kernel)
theorem dX12_areaOf_52 : decode cX12_areaOf 52 = .ok (.if_icmp .ge 90, 3) := oc_162 (a := 0) (b := 90) (by decide +kernel)
theorem dX12_areaOf_55 : decode cX12_areaOf 55 = .ok (.iload 6, 2) := oc_21 (by decide +kernel)
theorem dX12_areaOf_57 : decode cX12_areaOf 57 = .ok (.ifCond .ne 85, 3) := oc_154 (a := 0) (b := 85) (by decide +kernel)
theorem dX12_areaOf_60 : decode cX12_areaOf 60 = .ok (.iload 5, 2) := oc_21 (by decide +kernel)
theorem dX12_areaOf_62 : decode cX12_areaOf 62 = .ok (.bipush 32, 2) := oc_16 (a := 32) (by decide +kernel)
theorem dX12_areaOf_64 : decode cX12_areaOf 64 = .ok (.irem, 1) := oc_112 (by decide +kernel)
theorem dX12_areaOf_65 : decode cX12_areaOf 65 = .ok (.aload_n 0, 1) := oc_42 (by decide +kernel)
theorem dX12_areaOf_66 : decode cX12_areaOf 66 = .ok (.iload 7, 2) := oc_21 (by decide +kernel)
theorem dX12_areaOf_68 : decode cX12_areaOf 68 = .ok (.iconst 2, 1) := oc_5 (by decide +kernel)
theorem dX12_areaOf_69 : decode cX12_areaOf 69 = .ok (.invokevirtual 91, 3) := oc_182 (a := 0) (b := 91) (by decide +kernel)
theorem dX12_areaOf_72 : decode cX12_areaOf 72 = .ok (.isub, 1) := oc_100 (by decide +kernel)
theorem dX12_areaOf_73 : decode cX12_areaOf 73 = .ok (.istore 8, 2) := oc_54 (by decide +kernel)
theorem dX12_areaOf_75 : decode cX12_areaOf 75 = .ok (.iload 5, 2) := oc_21 (by decide +kernel)
theorem dX12_areaOf_77 : decode cX12_areaOf 77 = .ok (.bipush 32, 2) := oc_16 (a := 32) (by decide +kernel)
theorem dX12_areaOf_79 : decode cX12_areaOf 79 = .ok (.idiv, 1) := oc_108 (by decide +kernel)
theorem dX12_areaOf_80 : decode cX12_areaOf 80 = .ok (.aload_n 0, 1) := oc_42 (by decide +kernel)
theorem dX12_areaOf_81 : decode cX12_areaOf 81 = .ok (.iload 7, 2) := oc_21 (by decide +kernel)
theorem dX12_areaOf_83 : decode cX12_areaOf 83 = .ok (.iconst 3, 1) := oc_6 (by decide +kernel)
theorem dX12_areaOf_84 : decode cX12_areaOf 84 = .ok (.invokevirtual 91, 3) := oc_182 (a := 0) (b := 91) (by decide +kernel)
theorem dX12_areaOf_87 : decode cX12_areaOf 87 = .ok (.isub, 1) := oc_100 (by decide +kernel)
theorem dX12_areaOf_88 : decode cX12_areaOf 88 = .ok (.istore 9, 2) := oc_54 (by decide +kernel)
theorem dX12_areaOf_90 : decode cX12_areaOf 90 = .ok (.iload 8, 2) := oc_21 (by decide +kernel)
theorem dX12_areaOf_92 : decode cX12_areaOf 92 = .ok (.iload 8, 2) := oc_21 (by decide +kernel)
theorem dX12_areaOf_94 : decode cX12_areaOf 94 = .ok (.imul, 1) := oc_104 (by decide +kernel)
theorem dX12_areaOf_95 : decode cX12_areaOf 95 = .ok (.iload 9, 2) := oc_21 (by decide +kernel)
theorem dX12_areaOf_97 : decode cX12_areaOf 97 = .ok (.iload 9, 2) := oc_21 (by decide +kernel)
theorem dX12_areaOf_99 : decode cX12_areaOf 99 = .ok (.imul, 1) := oc_104 (by decide +kernel)
theorem dX12_areaOf_100 : decode cX12_areaOf 100 = .ok (.iadd, 1) := oc_96 (by decide +kernel)
theorem dX12_areaOf_101 : decode cX12_areaOf 101 = .ok (.aload_n 0, 1) := oc_42 (by decide +kernel)
theorem dX12_areaOf_102 : decode cX12_areaOf 102 = .ok (.getfield 7, 3) := oc_180 (a := 0) (b := 7) (by decide +kernel)
theorem dX12_areaOf_105 : decode cX12_areaOf 105 = .ok (.bipush 16, 2) := oc_16 (a := 16) (by decide +kernel)
theorem dX12_areaOf_107 : decode cX12_areaOf 107 = .ok (.iaload, 1) := oc_46 (by decide +kernel)
theorem dX12_areaOf_108 : decode cX12_areaOf 108 = .ok (.aload_n 0, 1) := oc_42 (by decide +kernel)
theorem dX12_areaOf_109 : decode cX12_areaOf 109 = .ok (.getfield 7, 3) := oc_180 (a := 0) (b := 7) (by decide +kernel)
theorem dX12_areaOf_112 : decode cX12_areaOf 112 = .ok (.bipush 16, 2) := oc_16 (a := 16) (by decide +kernel)
theorem dX12_areaOf_114 : decode cX12_areaOf 114 = .ok (.iaload, 1) := oc_46 (by decide +kernel)
theorem dX12_areaOf_115 : decode cX12_areaOf 115 = .ok (.imul, 1) := oc_104 (by decide +kernel)
theorem dX12_areaOf_134 : decode cX12_areaOf 134 = .ok (.istore 6, 2) := oc_54 (by decide +kernel)
theorem dX12_areaOf_136 : decode cX12_areaOf 136 = .ok (.iinc 7 1, 3) := oc_132 (b := 1) (by decide +kernel)
theorem dX12_areaOf_139 : decode cX12_areaOf 139 = .ok (.goto (-95), 3) := oc_167 (a := 255) (b := 161) (by decide +kernel)
theorem dX12_areaOf_133 : decode cX12_areaOf 133 = .ok (.iconst 0, 1) := oc_3 (by decide +kernel)
theorem dX12_areaOf_116 : decode cX12_areaOf 116 = .ok (.if_icmp .gt 17, 3) := oc_163 (a := 0) (b := 17) (by decide +kernel)
theorem dX12_areaOf_119 : decode cX12_areaOf 119 = .ok (.aload_n 0, 1) := oc_42 (by decide +kernel)
theorem dX12_areaOf_120 : decode cX12_areaOf 120 = .ok (.iload 7, 2) := oc_21 (by decide +kernel)
theorem dX12_areaOf_122 : decode cX12_areaOf 122 = .ok (.iload_n 3, 1) := oc_29 (by decide +kernel)
theorem tw_1243 : Cond.methodLink RX12 322 yX12_wasRock ∈ wsL_law := sg_52 _ (List.mem_of_getElem? (i := 19) rfl)
theorem tw_1244 : Cond.instanceMethod yX12_wasRock ∈ wsL_law := sg_52 _ (List.mem_of_getElem? (i := 20) rfl)
theorem tw_1245 : Cond.selects RX12 yX12_wasRock yX12_wasRock ∈ wsL_law := sg_52 _ (List.mem_of_getElem? (i := 21) rfl)
theorem tw_1246 : Cond.code yX12_wasRock cX12_wasRock 3 (some .boolean) ∈ wsL_law := sg_52 _ (List.mem_of_getElem? (i := 22) rfl)
theorem dX12_areaOf_123 : decode cX12_areaOf 123 = .ok (.invokevirtual 322, 3) := oc_182 (a := 1) (b := 66) (by decide +kernel)
theorem dX12_areaOf_126 : decode cX12_areaOf 126 = .ok (.ifCond .eq 7, 3) := oc_153 (a := 0) (b := 7) (by decide +kernel)
theorem dX12_areaOf_129 : decode cX12_areaOf 129 = .ok (.iconst 1, 1) := oc_4 (by decide +kernel)
theorem dX12_areaOf_130 : decode cX12_areaOf 130 = .ok (.goto 4, 3) := oc_167 (a := 0) (b := 4) (by decide +kernel)
theorem dX12_areaOf_22 : decode cX12_areaOf 22 = .ok (.iload_n 1, 1) := oc_27 (by decide +kernel)
theorem dX12_areaOf_10 : decode cX12_areaOf 10 = .ok (.ifCond .lt 12, 3) := oc_155 (a := 0) (b := 12) (by decide +kernel)
theorem dX12_areaOf_13 : decode cX12_areaOf 13 = .ok (.iload_n 2, 1) := oc_28 (by decide +kernel)
theorem dX12_areaOf_14 : decode cX12_areaOf 14 = .ok (.iload_n 1, 1) := oc_27 (by decide +kernel)
theorem dX12_areaOf_15 : decode cX12_areaOf 15 = .ok (.if_icmp .ge 7, 3) := oc_162 (a := 0) (b := 7) (by decide +kernel)
theorem dX12_areaOf_18 : decode cX12_areaOf 18 = .ok (.iload_n 2, 1) := oc_28 (by decide +kernel)
theorem dX12_areaOf_19 : decode cX12_areaOf 19 = .ok (.goto 4, 3) := oc_167 (a := 0) (b := 4) (by decide +kernel)
theorem dX12_fundGoes_0 : decode cX12_fundGoes 0 = .ok (.iconst 0, 1) := oc_3 (by decide +kernel)
theorem dX12_fundGoes_1 : decode cX12_fundGoes 1 = .ok (.istore_n 2, 1) := oc_61 (by decide +kernel)
theorem dX12_fundGoes_2 : decode cX12_fundGoes 2 = .ok (.iload_n 2, 1) := oc_28 (by decide +kernel)
theorem dX12_fundGoes_3 : decode cX12_fundGoes 3 = .ok (.aload_n 0, 1) := oc_42 (by decide +kernel)
theorem dX12_fundGoes_4 : decode cX12_fundGoes 4 = .ok (.getfield 7, 3) := oc_180 (a := 0) (b := 7) (by decide +kernel)
theorem dX12_fundGoes_7 : decode cX12_fundGoes 7 = .ok (.iconst 5, 1) := oc_8 (by decide +kernel)
theorem dX12_fundGoes_8 : decode cX12_fundGoes 8 = .ok (.iaload, 1) := oc_46 (by decide +kernel)
theorem dX12_fundGoes_9 : decode cX12_fundGoes 9 = .ok (.if_icmp .ge 37, 3) := oc_162 (a := 0) (b := 37) (by decide +kernel)
theorem dX12_fundGoes_46 : decode cX12_fundGoes 46 = .ok (.aload_n 0, 1) := oc_42 (by decide +kernel)
theorem dX12_fundGoes_47 : decode cX12_fundGoes 47 = .ok (.iconst 0, 1) := oc_3 (by decide +kernel)
theorem tw_1237 : Cond.fieldLink RX12 325 "RingsUnderModel" "cantNow" "I" ∈ wsL_law := sg_52 _ (List.mem_of_getElem? (i := 13) rfl)
theorem dX12_fundGoes_48 : decode cX12_fundGoes 48 = .ok (.putfield 325, 3) := oc_181 (a := 1) (b := 69) (by decide +kernel)
theorem dX12_fundGoes_51 : decode cX12_fundGoes 51 = .ok (.aload_n 0, 1) := oc_42 (by decide +kernel)
theorem tw_1238 : Cond.fieldLink RX12 328 "RingsUnderModel" "lawless" "I" ∈ wsL_law := sg_52 _ (List.mem_of_getElem? (i := 14) rfl)
theorem dX12_fundGoes_52 : decode cX12_fundGoes 52 = .ok (.getfield 328, 3) := oc_180 (a := 1) (b := 72) (by decide +kernel)
theorem dX12_fundGoes_55 : decode cX12_fundGoes 55 = .ok (.iconst 1, 1) := oc_4 (by decide +kernel)
theorem dX12_fundGoes_56 : decode cX12_fundGoes 56 = .ok (.if_icmp .ne 4, 3) := oc_160 (a := 0) (b := 4) (by decide +kernel)
theorem dX12_fundGoes_60 : decode cX12_fundGoes 60 = .ok (.aload_n 0, 1) := oc_42 (by decide +kernel)
theorem dX12_fundGoes_61 : decode cX12_fundGoes 61 = .ok (.getfield 7, 3) := oc_180 (a := 0) (b := 7) (by decide +kernel)
theorem dX12_fundGoes_64 : decode cX12_fundGoes 64 = .ok (.bipush 18, 2) := oc_16 (a := 18) (by decide +kernel)
theorem dX12_fundGoes_66 : decode cX12_fundGoes 66 = .ok (.aload_n 0, 1) := oc_42 (by decide +kernel)
theorem dX12_fundGoes_67 : decode cX12_fundGoes 67 = .ok (.iload_n 1, 1) := oc_27 (by decide +kernel)
theorem tw_1239 : Cond.methodLink RX12 331 yX12_areaOf ∈ wsL_law := sg_52 _ (List.mem_of_getElem? (i := 15) rfl)
theorem tw_1240 : Cond.instanceMethod yX12_areaOf ∈ wsL_law := sg_52 _ (List.mem_of_getElem? (i := 16) rfl)
theorem tw_1241 : Cond.selects RX12 yX12_areaOf yX12_areaOf ∈ wsL_law := sg_52 _ (List.mem_of_getElem? (i := 17) rfl)
theorem tw_1242 : Cond.code yX12_areaOf cX12_areaOf 10 (some .int) ∈ wsL_law := sg_52 _ (List.mem_of_getElem? (i := 18) rfl)
theorem dX12_fundGoes_68 : decode cX12_fundGoes 68 = .ok (.invokevirtual 331, 3) := oc_182 (a := 1) (b := 75) (by decide +kernel)
theorem dX12_fundGoes_71 : decode cX12_fundGoes 71 = .ok (.iastore, 1) := oc_79 (by decide +kernel)
theorem dX12_fundGoes_72 : decode cX12_fundGoes 72 = .ok (.aload_n 0, 1) := oc_42 (by decide +kernel)
theorem dX12_fundGoes_73 : decode cX12_fundGoes 73 = .ok (.getfield 7, 3) := oc_180 (a := 0) (b := 7) (by decide +kernel)
theorem dX12_fundGoes_76 : decode cX12_fundGoes 76 = .ok (.bipush 8, 2) := oc_16 (a := 8) (by decide +kernel)
theorem dX12_fundGoes_78 : decode cX12_fundGoes 78 = .ok (.dup2, 1) := oc_92 (by decide +kernel)
theorem dX12_fundGoes_79 : decode cX12_fundGoes 79 = .ok (.iaload, 1) := oc_46 (by decide +kernel)
theorem dX12_fundGoes_80 : decode cX12_fundGoes 80 = .ok (.aload_n 0, 1) := oc_42 (by decide +kernel)
theorem dX12_fundGoes_81 : decode cX12_fundGoes 81 = .ok (.bipush 9, 2) := oc_16 (a := 9) (by decide +kernel)
theorem dX12_fundGoes_83 : decode cX12_fundGoes 83 = .ok (.iload_n 1, 1) := oc_27 (by decide +kernel)
theorem dX12_fundGoes_84 : decode cX12_fundGoes 84 = .ok (.bipush 10, 2) := oc_16 (a := 10) (by decide +kernel)
theorem dX12_fundGoes_86 : decode cX12_fundGoes 86 = .ok (.invokevirtual 304, 3) := oc_182 (a := 1) (b := 48) (by decide +kernel)
theorem dX12_fundGoes_89 : decode cX12_fundGoes 89 = .ok (.aload_n 0, 1) := oc_42 (by decide +kernel)
theorem dX12_fundGoes_90 : decode cX12_fundGoes 90 = .ok (.getfield 7, 3) := oc_180 (a := 0) (b := 7) (by decide +kernel)
theorem dX12_fundGoes_93 : decode cX12_fundGoes 93 = .ok (.bipush 18, 2) := oc_16 (a := 18) (by decide +kernel)
theorem dX12_fundGoes_95 : decode cX12_fundGoes 95 = .ok (.iaload, 1) := oc_46 (by decide +kernel)
theorem dX12_fundGoes_96 : decode cX12_fundGoes 96 = .ok (.imul, 1) := oc_104 (by decide +kernel)
theorem dX12_fundGoes_97 : decode cX12_fundGoes 97 = .ok (.bipush 100, 2) := oc_16 (a := 100) (by decide +kernel)
theorem dX12_fundGoes_99 : decode cX12_fundGoes 99 = .ok (.idiv, 1) := oc_108 (by decide +kernel)
theorem dX12_fundGoes_100 : decode cX12_fundGoes 100 = .ok (.iadd, 1) := oc_96 (by decide +kernel)
theorem dX12_fundGoes_101 : decode cX12_fundGoes 101 = .ok (.iastore, 1) := oc_79 (by decide +kernel)
theorem dX12_fundGoes_102 : decode cX12_fundGoes 102 = .ok (.iconst 0, 1) := oc_3 (by decide +kernel)
theorem dX12_fundGoes_103 : decode cX12_fundGoes 103 = .ok (.istore_n 2, 1) := oc_61 (by decide +kernel)
theorem dX12_fundGoes_104 : decode cX12_fundGoes 104 = .ok (.iload_n 2, 1) := oc_28 (by decide +kernel)
theorem dX12_fundGoes_105 : decode cX12_fundGoes 105 = .ok (.aload_n 0, 1) := oc_42 (by decide +kernel)
theorem dX12_fundGoes_106 : decode cX12_fundGoes 106 = .ok (.getfield 7, 3) := oc_180 (a := 0) (b := 7) (by decide +kernel)
theorem dX12_fundGoes_109 : decode cX12_fundGoes 109 = .ok (.iconst 2, 1) := oc_5 (by decide +kernel)
theorem dX12_fundGoes_110 : decode cX12_fundGoes 110 = .ok (.iaload, 1) := oc_46 (by decide +kernel)
theorem dX12_fundGoes_111 : decode cX12_fundGoes 111 = .ok (.if_icmp .ge 36, 3) := oc_162 (a := 0) (b := 36) (by decide +kernel)
theorem dX12_fundGoes_147 : decode cX12_fundGoes 147 = .ok (.aload_n 0, 1) := oc_42 (by decide +kernel)
theorem dX12_fundGoes_148 : decode cX12_fundGoes 148 = .ok (.getfield 7, 3) := oc_180 (a := 0) (b := 7) (by decide +kernel)
theorem dX12_fundGoes_151 : decode cX12_fundGoes 151 = .ok (.bipush 8, 2) := oc_16 (a := 8) (by decide +kernel)
theorem dX12_fundGoes_153 : decode cX12_fundGoes 153 = .ok (.iaload, 1) := oc_46 (by decide +kernel)
theorem dX12_fundGoes_154 : decode cX12_fundGoes 154 = .ok (.ifCond .lt 4, 3) := oc_155 (a := 0) (b := 4) (by decide +kernel)
theorem dX12_fundGoes_158 : decode cX12_fundGoes 158 = .ok (.aload_n 0, 1) := oc_42 (by decide +kernel)
theorem dX12_fundGoes_159 : decode cX12_fundGoes 159 = .ok (.iconst 1, 1) := oc_4 (by decide +kernel)
theorem dX12_fundGoes_160 : decode cX12_fundGoes 160 = .ok (.putfield 325, 3) := oc_181 (a := 1) (b := 69) (by decide +kernel)
theorem dX12_fundGoes_163 : decode cX12_fundGoes 163 = .ok (.aload_n 0, 1) := oc_42 (by decide +kernel)
theorem dX12_fundGoes_164 : decode cX12_fundGoes 164 = .ok (.getfield 7, 3) := oc_180 (a := 0) (b := 7) (by decide +kernel)
theorem dX12_fundGoes_167 : decode cX12_fundGoes 167 = .ok (.bipush 12, 2) := oc_16 (a := 12) (by decide +kernel)
theorem dX12_fundGoes_169 : decode cX12_fundGoes 169 = .ok (.iaload, 1) := oc_46 (by decide +kernel)
theorem dX12_fundGoes_170 : decode cX12_fundGoes 170 = .ok (.ifCond .ge 11, 3) := oc_156 (a := 0) (b := 11) (by decide +kernel)
theorem dX12_fundGoes_181 : decode cX12_fundGoes 181 = .ok (.return_, 1) := oc_177 (by decide +kernel)
theorem dX12_fundGoes_173 : decode cX12_fundGoes 173 = .ok (.aload_n 0, 1) := oc_42 (by decide +kernel)
theorem dX12_fundGoes_174 : decode cX12_fundGoes 174 = .ok (.getfield 7, 3) := oc_180 (a := 0) (b := 7) (by decide +kernel)
theorem dX12_fundGoes_177 : decode cX12_fundGoes 177 = .ok (.bipush 12, 2) := oc_16 (a := 12) (by decide +kernel)
theorem dX12_fundGoes_179 : decode cX12_fundGoes 179 = .ok (.iload_n 1, 1) := oc_27 (by decide +kernel)
theorem dX12_fundGoes_180 : decode cX12_fundGoes 180 = .ok (.iastore, 1) := oc_79 (by decide +kernel)
theorem dX12_fundGoes_157 : decode cX12_fundGoes 157 = .ok (.return_, 1) := oc_177 (by decide +kernel)
theorem dX12_fundGoes_114 : decode cX12_fundGoes 114 = .ok (.aload_n 0, 1) := oc_42 (by decide +kernel)
theorem dX12_fundGoes_115 : decode cX12_fundGoes 115 = .ok (.iload_n 2, 1) := oc_28 (by decide +kernel)
theorem dX12_fundGoes_116 : decode cX12_fundGoes 116 = .ok (.bipush 6, 2) := oc_16 (a := 6) (by decide +kernel)
theorem dX12_fundGoes_118 : decode cX12_fundGoes 118 = .ok (.invokevirtual 91, 3) := oc_182 (a := 0) (b := 91) (by decide +kernel)
theorem dX12_fundGoes_141 : decode cX12_fundGoes 141 = .ok (.iinc 2 1, 3) := oc_132 (b := 1) (by decide +kernel)
theorem dX12_fundGoes_144 : decode cX12_fundGoes 144 = .ok (.goto (-40), 3) := oc_167 (a := 255) (b := 216) (by decide +kernel)
theorem dX12_fundGoes_121 : decode cX12_fundGoes 121 = .ok (.ifCond .le 20, 3) := oc_158 (a := 0) (b := 20) (by decide +kernel)
theorem dX12_fundGoes_124 : decode cX12_fundGoes 124 = .ok (.aload_n 0, 1) := oc_42 (by decide +kernel)
theorem dX12_fundGoes_125 : decode cX12_fundGoes 125 = .ok (.getfield 7, 3) := oc_180 (a := 0) (b := 7) (by decide +kernel)
theorem dX12_fundGoes_128 : decode cX12_fundGoes 128 = .ok (.bipush 8, 2) := oc_16 (a := 8) (by decide +kernel)
theorem dX12_fundGoes_130 : decode cX12_fundGoes 130 = .ok (.dup2, 1) := oc_92 (by decide +kernel)
theorem dX12_fundGoes_131 : decode cX12_fundGoes 131 = .ok (.iaload, 1) := oc_46 (by decide +kernel)
theorem dX12_fundGoes_132 : decode cX12_fundGoes 132 = .ok (.aload_n 0, 1) := oc_42 (by decide +kernel)
theorem dX12_fundGoes_133 : decode cX12_fundGoes 133 = .ok (.getfield 7, 3) := oc_180 (a := 0) (b := 7) (by decide +kernel)
theorem dX12_fundGoes_136 : decode cX12_fundGoes 136 = .ok (.bipush 17, 2) := oc_16 (a := 17) (by decide +kernel)
theorem dX12_fundGoes_138 : decode cX12_fundGoes 138 = .ok (.iaload, 1) := oc_46 (by decide +kernel)
theorem dX12_fundGoes_139 : decode cX12_fundGoes 139 = .ok (.isub, 1) := oc_100 (by decide +kernel)
theorem dX12_fundGoes_140 : decode cX12_fundGoes 140 = .ok (.iastore, 1) := oc_79 (by decide +kernel)
theorem dX12_fundGoes_59 : decode cX12_fundGoes 59 = .ok (.return_, 1) := oc_177 (by decide +kernel)
theorem dX12_fundGoes_12 : decode cX12_fundGoes 12 = .ok (.aload_n 0, 1) := oc_42 (by decide +kernel)
theorem dX12_fundGoes_13 : decode cX12_fundGoes 13 = .ok (.iload_n 2, 1) := oc_28 (by decide +kernel)
theorem dX12_fundGoes_14 : decode cX12_fundGoes 14 = .ok (.iconst 3, 1) := oc_6 (by decide +kernel)
theorem dX12_fundGoes_15 : decode cX12_fundGoes 15 = .ok (.invokevirtual 94, 3) := oc_182 (a := 0) (b := 94) (by decide +kernel)
theorem dX12_fundGoes_18 : decode cX12_fundGoes 18 = .ok (.sipush 200, 3) := oc_17 (a := 0) (b := 200) (by decide +kernel)
theorem dX12_fundGoes_40 : decode cX12_fundGoes 40 = .ok (.iinc 2 1, 3) := oc_132 (b := 1) (by decide +kernel)
theorem dX12_fundGoes_43 : decode cX12_fundGoes 43 = .ok (.goto (-41), 3) := oc_167 (a := 255) (b := 215) (by decide +kernel)
theorem dX12_fundGoes_21 : decode cX12_fundGoes 21 = .ok (.if_icmp .ne 19, 3) := oc_160 (a := 0) (b := 19) (by decide +kernel)
theorem dX12_fundGoes_24 : decode cX12_fundGoes 24 = .ok (.aload_n 0, 1) := oc_42 (by decide +kernel)
theorem dX12_fundGoes_25 : decode cX12_fundGoes 25 = .ok (.getfield 7, 3) := oc_180 (a := 0) (b := 7) (by decide +kernel)
theorem dX12_fundGoes_28 : decode cX12_fundGoes 28 = .ok (.bipush 8, 2) := oc_16 (a := 8) (by decide +kernel)
theorem dX12_fundGoes_30 : decode cX12_fundGoes 30 = .ok (.dup2, 1) := oc_92 (by decide +kernel)
theorem dX12_fundGoes_31 : decode cX12_fundGoes 31 = .ok (.iaload, 1) := oc_46 (by decide +kernel)
theorem dX12_fundGoes_32 : decode cX12_fundGoes 32 = .ok (.aload_n 0, 1) := oc_42 (by decide +kernel)
theorem dX12_fundGoes_33 : decode cX12_fundGoes 33 = .ok (.iload_n 2, 1) := oc_28 (by decide +kernel)
theorem dX12_fundGoes_34 : decode cX12_fundGoes 34 = .ok (.iconst 4, 1) := oc_7 (by decide +kernel)
theorem dX12_fundGoes_35 : decode cX12_fundGoes 35 = .ok (.invokevirtual 94, 3) := oc_182 (a := 0) (b := 94) (by decide +kernel)
theorem dX12_fundGoes_38 : decode cX12_fundGoes 38 = .ok (.iadd, 1) := oc_96 (by decide +kernel)
theorem dX12_fundGoes_39 : decode cX12_fundGoes 39 = .ok (.iastore, 1) := oc_79 (by decide +kernel)
theorem dX12_goesAhead_0 : decode cX12_goesAhead 0 = .ok (.aload_n 0, 1) := oc_42 (by decide +kernel)
theorem dX12_goesAhead_1 : decode cX12_goesAhead 1 = .ok (.getfield 328, 3) := oc_180 (a := 1) (b := 72) (by decide +kernel)
theorem dX12_goesAhead_4 : decode cX12_goesAhead 4 = .ok (.iconst 1, 1) := oc_4 (by decide +kernel)
theorem dX12_goesAhead_5 : decode cX12_goesAhead 5 = .ok (.if_icmp .ne 34, 3) := oc_160 (a := 0) (b := 34) (by decide +kernel)
theorem dX12_goesAhead_39 : decode cX12_goesAhead 39 = .ok (.iload 4, 2) := oc_21 (by decide +kernel)
theorem dX12_goesAhead_58 : decode cX12_goesAhead 58 = .ok (.iconst 0, 1) := oc_3 (by decide +kernel)
theorem dX12_goesAhead_59 : decode cX12_goesAhead 59 = .ok (.ireturn, 1) := oc_172 (by decide +kernel)
theorem dX12_goesAhead_41 : decode cX12_goesAhead 41 = .ok (.ifCond .eq 17, 3) := oc_153 (a := 0) (b := 17) (by decide +kernel)
theorem dX12_goesAhead_44 : decode cX12_goesAhead 44 = .ok (.aload_n 0, 1) := oc_42 (by decide +kernel)
theorem dX12_goesAhead_45 : decode cX12_goesAhead 45 = .ok (.iload_n 1, 1) := oc_27 (by decide +kernel)
theorem dX12_goesAhead_46 : decode cX12_goesAhead 46 = .ok (.iload_n 2, 1) := oc_28 (by decide +kernel)
theorem dX12_goesAhead_47 : decode cX12_goesAhead 47 = .ok (.iload_n 3, 1) := oc_29 (by decide +kernel)
theorem dX12_goesAhead_48 : decode cX12_goesAhead 48 = .ok (.invokevirtual 117, 3) := oc_182 (a := 0) (b := 117) (by decide +kernel)
theorem dX12_goesAhead_51 : decode cX12_goesAhead 51 = .ok (.ifCond .eq 7, 3) := oc_153 (a := 0) (b := 7) (by decide +kernel)
theorem dX12_goesAhead_54 : decode cX12_goesAhead 54 = .ok (.iconst 1, 1) := oc_4 (by decide +kernel)
theorem dX12_goesAhead_55 : decode cX12_goesAhead 55 = .ok (.goto 4, 3) := oc_167 (a := 0) (b := 4) (by decide +kernel)
theorem dX12_goesAhead_8 : decode cX12_goesAhead 8 = .ok (.aload_n 0, 1) := oc_42 (by decide +kernel)
theorem tw_186 : Cond.fieldLink RX12 40 "RingsUnderModel" "rankOf" "[I" ∈ wsL_law := sg_8 _ (List.mem_of_getElem? (i := 18) rfl)
theorem dX12_goesAhead_9 : decode cX12_goesAhead 9 = .ok (.getfield 40, 3) := oc_180 (a := 0) (b := 40) (by decide +kernel)
theorem dX12_goesAhead_12 : decode cX12_goesAhead 12 = .ok (.aload_n 0, 1) := oc_42 (by decide +kernel)
theorem dX12_goesAhead_13 : decode cX12_goesAhead 13 = .ok (.iload_n 1, 1) := oc_27 (by decide +kernel)
theorem dX12_goesAhead_14 : decode cX12_goesAhead 14 = .ok (.iconst 3, 1) := oc_6 (by decide +kernel)
theorem dX12_goesAhead_15 : decode cX12_goesAhead 15 = .ok (.invokevirtual 94, 3) := oc_182 (a := 0) (b := 94) (by decide +kernel)
theorem dX12_goesAhead_18 : decode cX12_goesAhead 18 = .ok (.iaload, 1) := oc_46 (by decide +kernel)
theorem dX12_goesAhead_19 : decode cX12_goesAhead 19 = .ok (.aload_n 0, 1) := oc_42 (by decide +kernel)
theorem dX12_goesAhead_20 : decode cX12_goesAhead 20 = .ok (.getfield 40, 3) := oc_180 (a := 0) (b := 40) (by decide +kernel)
theorem dX12_goesAhead_23 : decode cX12_goesAhead 23 = .ok (.aload_n 0, 1) := oc_42 (by decide +kernel)
theorem dX12_goesAhead_24 : decode cX12_goesAhead 24 = .ok (.iload_n 2, 1) := oc_28 (by decide +kernel)
theorem dX12_goesAhead_25 : decode cX12_goesAhead 25 = .ok (.iconst 3, 1) := oc_6 (by decide +kernel)
theorem dX12_goesAhead_26 : decode cX12_goesAhead 26 = .ok (.invokevirtual 94, 3) := oc_182 (a := 0) (b := 94) (by decide +kernel)
theorem dX12_goesAhead_29 : decode cX12_goesAhead 29 = .ok (.iaload, 1) := oc_46 (by decide +kernel)
theorem dX12_goesAhead_30 : decode cX12_goesAhead 30 = .ok (.if_icmp .ge 7, 3) := oc_162 (a := 0) (b := 7) (by decide +kernel)
theorem dX12_goesAhead_37 : decode cX12_goesAhead 37 = .ok (.iconst 0, 1) := oc_3 (by decide +kernel)
theorem dX12_goesAhead_38 : decode cX12_goesAhead 38 = .ok (.ireturn, 1) := oc_172 (by decide +kernel)
theorem dX12_goesAhead_33 : decode cX12_goesAhead 33 = .ok (.iconst 1, 1) := oc_4 (by decide +kernel)
theorem dX12_goesAhead_34 : decode cX12_goesAhead 34 = .ok (.goto 4, 3) := oc_167 (a := 0) (b := 4) (by decide +kernel)
theorem dX12_sails_0 : decode cX12_sails 0 = .ok (.aload_n 0, 1) := oc_42 (by decide +kernel)
theorem dX12_sails_1 : decode cX12_sails 1 = .ok (.getfield 7, 3) := oc_180 (a := 0) (b := 7) (by decide +kernel)
theorem dX12_sails_4 : decode cX12_sails 4 = .ok (.sipush 740, 3) := oc_17 (a := 2) (b := 228) (by decide +kernel)
theorem dX12_sails_7 : decode cX12_sails 7 = .ok (.bipush 12, 2) := oc_16 (a := 12) (by decide +kernel)
theorem dX12_sails_9 : decode cX12_sails 9 = .ok (.iload_n 1, 1) := oc_27 (by decide +kernel)
theorem dX12_sails_10 : decode cX12_sails 10 = .ok (.imul, 1) := oc_104 (by decide +kernel)
theorem dX12_sails_11 : decode cX12_sails 11 = .ok (.iadd, 1) := oc_96 (by decide +kernel)
theorem dX12_sails_12 : decode cX12_sails 12 = .ok (.iconst 3, 1) := oc_6 (by decide +kernel)
theorem dX12_sails_13 : decode cX12_sails 13 = .ok (.iadd, 1) := oc_96 (by decide +kernel)
theorem dX12_sails_14 : decode cX12_sails 14 = .ok (.bipush 100, 2) := oc_16 (a := 100) (by decide +kernel)
theorem dX12_sails_16 : decode cX12_sails 16 = .ok (.iload_n 2, 1) := oc_28 (by decide +kernel)
theorem dX12_sails_17 : decode cX12_sails 17 = .ok (.iadd, 1) := oc_96 (by decide +kernel)
theorem dX12_sails_18 : decode cX12_sails 18 = .ok (.iastore, 1) := oc_79 (by decide +kernel)
theorem dX12_sails_19 : decode cX12_sails 19 = .ok (.aload_n 0, 1) := oc_42 (by decide +kernel)
theorem dX12_sails_20 : decode cX12_sails 20 = .ok (.getfield 7, 3) := oc_180 (a := 0) (b := 7) (by decide +kernel)
theorem dX12_sails_23 : decode cX12_sails 23 = .ok (.sipush 740, 3) := oc_17 (a := 2) (b := 228) (by decide +kernel)
theorem dX12_sails_26 : decode cX12_sails 26 = .ok (.bipush 12, 2) := oc_16 (a := 12) (by decide +kernel)
theorem dX12_sails_28 : decode cX12_sails 28 = .ok (.iload_n 1, 1) := oc_27 (by decide +kernel)
theorem dX12_sails_29 : decode cX12_sails 29 = .ok (.imul, 1) := oc_104 (by decide +kernel)
theorem dX12_sails_30 : decode cX12_sails 30 = .ok (.iadd, 1) := oc_96 (by decide +kernel)
theorem dX12_sails_31 : decode cX12_sails 31 = .ok (.bipush 7, 2) := oc_16 (a := 7) (by decide +kernel)
theorem dX12_sails_33 : decode cX12_sails 33 = .ok (.iadd, 1) := oc_96 (by decide +kernel)
theorem dX12_sails_34 : decode cX12_sails 34 = .ok (.iload_n 3, 1) := oc_29 (by decide +kernel)
theorem dX12_sails_35 : decode cX12_sails 35 = .ok (.iastore, 1) := oc_79 (by decide +kernel)
theorem dX12_sails_36 : decode cX12_sails 36 = .ok (.return_, 1) := oc_177 (by decide +kernel)
set_option maxRecDepth 100000 in
def g_X12_cellAt_c3 (a0 : Int32) (I : Nat → Int32) (J : Nat → Int64) (ri : Nat → Nat → Int32) (rj : Nat → Nat → Int64) (rq : Nat → Nat → Option Nat) : Int32 × vM := (ap1 ((16 : Int32) * a0) fun (x_2 : Int32) => (ap1 ((100 : Int32) + x_2) fun (x_4 : Int32) => (ap1 (x_4 + (3 : Int32)) fun (x_6 : Int32) => (ap1 (ri 384 (x_6).toNatClampNeg) fun (x_8 : Int32) => (x_8, I, J, ri, rj, rq)))))
set_option maxRecDepth 100000 in
theorem g_X12_cellAt_c3_e {a0 : Int32} {I : Nat → Int32} {J : Nat → Int64} {ri : Nat → Nat → Int32} {rj : Nat → Nat → Int64} {rq : Nat → Nat → Option Nat} : g_X12_cellAt_c3 a0 I J ri rj rq = (ap1 ((16 : Int32) * a0) fun (x_2 : Int32) => (ap1 ((100 : Int32) + x_2) fun (x_4 : Int32) => (ap1 (x_4 + (3 : Int32)) fun (x_6 : Int32) => (ap1 (ri 384 (x_6).toNatClampNeg) fun (x_8 : Int32) => (x_8, I, J, ri, rj, rq))))) := rfl
set_option maxHeartbeats 4000000 in
set_option maxRecDepth 100000 in
theorem s_X12_cellAt_c3 (l : Launch) (D : va_G) (t : pq_T) (σ : pq_S) (I : Nat → Nat → Int32) (J : Nat → Nat → Int64) (ri : Nat → Nat → Int32) (rj : Nat → Nat → Int64) (rq : Nat → Nat → Option Nat) (sz : Nat) (tg : Nat → Nat) (hSH : SH σ tg) (hG0 : GT tg I ri) (this : Nat) (a0 : Int32) (hL_this : this ∈ σ.1) (hK_this : σ.2.1 this = 12) (h_a0 : rg a0 0 39) : MetI l yX12_cellAt (wa yX12_cellAt cX12_cellAt 3 (some .int)) ({ frames := 0, cells := 0, slots := 0, locals := 0 }) [.ref this, .int a0, .int 3] D t σ (I, J, ri, rj, rq) sz 0 0 (fun (r : Int32) (u : pq_S × pq_M) => u = (σ, I, J, ri, rj, rq) ∧ g_X12_cellAt_c3 a0 (vI 12 σ this I) (vJ 12 σ this J) (vR 12 σ this ri) (vL 12 σ this rj) (vQ 12 σ this rq) = (r, (vI 12 σ this I), (vJ 12 σ this J), (vR 12 σ this ri), (vL 12 σ this rj), (vQ 12 σ this rq))) := by
  refine Met.ofW (cc := cX12_cellAt) (maxL := 3) (ret := (some .int)) (by decide +kernel) rfl ?_
  intro p e s m args below meth c s₁ B hml hv
  obtain ⟨rfl, hsz, hP, hK, hD0, hN⟩ := hv
  have hx := B.exec
  have hb := B.bytes
  have hr := B.returns
  have hts := atoms_spec (ws := (wa yX12_cellAt cX12_cellAt 3 (some .int))) B.pre
  have hown : s.vm.findClass RX12 = some m.cls := findClass_of_methodNamed B.named
  have hlocks := B.notSynchronized
  subst hsz
  have hD : va_D (pq_B t σ (I, J, ri, rj, rq) s.heap.size) (pq_P t σ (I, J, ri, rj, rq)) := hD0.self
  generalize hAe : pq_B t σ (I, J, ri, rj, rq) s.heap.size = A at hD ⊢
  have hA : ∀ q : Nat, s.heap.size ≤ q → A q := fun q h => by rw [← hAe]; exact Or.inr h
  have hS : va_S A s.heap s.heap [] := va_S.rf
  have hG : GM [] tg σ I ri I ri rq := ⟨hG0, fun _ _ _ => rfl, fun _ _ _ _ _ => rfl, fun _ _ _ _ _ _ => rfl⟩
  have hl := lv_entry ([.ref this, .int a0, .int 3]) (n := 3) (Nat.le_of_ble_eq_true rfl)
  rw [lg_entry_eq]
  generalize (lg_sl ([.ref this, .int a0, .int 3]) ++ List.replicate (3 - (lg_sl ([.ref this, .int a0, .int 3])).length) Slot.unset).toArray = ls at hl ⊢
  have hl : lv_has ls 3 [(0, .ref this), (1, .int a0), (2, .int 3)] := hl
  refine q_gen (fun Q hQ => ?_)
  have go : ∀ (H : Heap) (locs : List Loc) (ls : Array Slot), va_P D vwCl (pq_P t σ (I, J, ri, rj, rq)) H → va_D A (pq_P t σ (I, J, ri, rj, rq)) → va_S A s.heap H locs → lv_has ls 3 [(0, .ref this), (1, .int a0), (2, .int 3)] → W p l e ({ frames := 0, cells := 0, slots := 0, locals := 0 } : Room) s m (List.toArray ([.ref this, .int a0, .int 3] : List Value)) below meth c H locs 0 0 Q (F0 m 0 ls []) := by
    intro H locs ls hP hD hS hl
    have hO_this : this = vo σ 12 this := rfl
    have hVT : VT 12 σ tg this := vt_12 hSH hL_this hK_this
    have hFr : FR 12 tg σ this (I, J, ri, rj, rq) (I, J, ri, rj, rq) := fr_rf
    obtain ⟨F, hF0⟩ : ∃ F, F = g_X12_cellAt_c3 a0 (vI 12 σ this I) (vJ 12 σ this J) (vR 12 σ this ri) (vL 12 σ this rj) (vQ 12 σ this rq) := ⟨_, rfl⟩
    have hF := hF0.trans g_X12_cellAt_c3_e
    refine lv_aload_n hx hb dX12_cellAt_0 rfl (lv_at hl 0 rfl) ?_
    obtain ⟨w_1, hR_w_1, hL_w_1, hK_w_1, hN_w_1, hT_w_1⟩ := sh_a hSH 384 (ci := 12) (kd := 13) (len := 12720) rfl (by decide +kernel) hL_this hK_this
    have hO_w_1 : w_1 = vrow σ 384 this := vo_k (c := 12) hO_this hR_w_1
    refine pg_f (v := .ref w_1) (C := RX12) (T := TX12) (N := 31) hx hb hts (tw_i inlX12) hown hK hP hL_this hK_this (by decide +kernel) rfl 0 (by decide +kernel) (hts _ (tw_c tw_176)) (pq_hv rfl hR_w_1) dX12_cellAt_1 ?_
    refine lv_bipush (v := 100) hx hb dX12_cellAt_4 (by decide +kernel) ?_
    refine lv_bipush (v := 16) hx hb dX12_cellAt_6 (by decide +kernel) ?_
    refine lv_iload_n hx hb dX12_cellAt_8 rfl (lv_at hl 1 rfl) ?_
    refine lv_imul hx hb dX12_cellAt_9 ?_
    refine lv_topi (fun x_2 ex_2 => ?_)
    replace hF := hF.trans (ap_n ex_2)
    have h_3 : rg x_2 0 624 := rg_of_eq ex_2 (rg_mul (rg_k (16 : Int32) 16 rfl) h_a0 (by decide +kernel))
    have uh_3 := h_3.1
    have vh_3 := h_3.2
    have tx_2 : (x_2).toInt = 16 * (a0).toInt := by rw [ex_2]; exact i_mul_rg (a2 := 16) (b2 := (a0).toInt) rfl rfl (rg_k (16 : Int32) 16 rfl) h_a0 (by decide +kernel)
    refine lv_iadd hx hb dX12_cellAt_10 ?_
    refine lv_topi (fun x_4 ex_4 => ?_)
    replace hF := hF.trans (ap_n ex_4)
    have h_5 : rg x_4 100 724 := rg_of_eq ex_4 (rg_add (rg_k (100 : Int32) 100 rfl) h_3 (by decide +kernel))
    have uh_5 := h_5.1
    have vh_5 := h_5.2
    have tx_4 : (x_4).toInt = 100 + (x_2).toInt := by rw [ex_4]; exact i_add_rg (a2 := 100) (b2 := (x_2).toInt) rfl rfl (rg_k (100 : Int32) 100 rfl) h_3 (by decide +kernel)
    refine lv_iload_n hx hb dX12_cellAt_11 rfl (lv_at hl 2 rfl) ?_
    refine lv_iadd hx hb dX12_cellAt_12 ?_
    refine lv_topi (fun x_6 ex_6 => ?_)
    replace hF := hF.trans (ap_n ex_6)
    have h_7 : rg x_6 103 727 := rg_of_eq ex_6 (rg_add h_5 (rg_k (3 : Int32) 3 rfl) (by decide +kernel))
    have uh_7 := h_7.1
    have vh_7 := h_7.2
    have tx_6 : (x_6).toInt = (x_4).toInt + 3 := by rw [ex_6]; exact i_add_rg (a2 := (x_4).toInt) (b2 := 3) rfl rfl h_5 (rg_k (3 : Int32) 3 rfl) (by decide +kernel)
    refine pl_i hx hb hK hP hL_w_1 hK_w_1 hN_w_1 (rg_in h_7 (by decide +kernel)) dX12_cellAt_13 ?_
    refine lv_topi (fun x_8 ex_8 => ?_)
    replace hF := hF.trans (ap_n (vR_r hO_w_1 (by decide +kernel) ex_8))
    subst hQ
    exact W.iret (v := x_8) hx hb hr (fun t1 ht hW => ⟨⟨x_8, (σ, I, J, ri, rj, rq), rfl, ⟨rfl, (hF0.symm.trans hF)⟩, by rw [ht]; exact hP, va_K.moved hW.alike hK, hD⟩, hS.F ht⟩) hS.2.2 dX12_cellAt_14
  exact go _ _ _ hP hD hS hl

set_option maxRecDepth 100000 in
def g_X12_areaOf_K154 (x_57616 : Int32) (x_57617 : Int32) (k_g_X12_areaOf_L30 : (Int32) → (Int32) → Int32 × vM) : Int32 × vM := (ap1 (x_57616 + (0 : Int32)) fun (x_59769 : Int32) => (ap1 (x_57617 + Int32.ofInt 1) fun (x_59771 : Int32) => (k_g_X12_areaOf_L30 x_59769 x_59771)))
set_option maxRecDepth 100000 in
theorem g_X12_areaOf_K154_e {x_57616 : Int32} {x_57617 : Int32} {k_g_X12_areaOf_L30 : (Int32) → (Int32) → Int32 × vM} : g_X12_areaOf_K154 x_57616 x_57617 k_g_X12_areaOf_L30  = (ap1 (x_57616 + (0 : Int32)) fun (x_59769 : Int32) => (ap1 (x_57617 + Int32.ofInt 1) fun (x_59771 : Int32) => (k_g_X12_areaOf_L30 x_59769 x_59771))) := rfl
set_option maxRecDepth 100000 in
def g_X12_areaOf_K154_2 (x_57616 : Int32) (x_57617 : Int32) (k_g_X12_areaOf_L30 : (Int32) → (Int32) → Int32 × vM) : Int32 × vM := (ap1 (x_57616 + (1 : Int32)) fun (x_59776 : Int32) => (ap1 (x_57617 + Int32.ofInt 1) fun (x_59777 : Int32) => (k_g_X12_areaOf_L30 x_59776 x_59777)))
set_option maxRecDepth 100000 in
theorem g_X12_areaOf_K154_2_e {x_57616 : Int32} {x_57617 : Int32} {k_g_X12_areaOf_L30 : (Int32) → (Int32) → Int32 × vM} : g_X12_areaOf_K154_2 x_57616 x_57617 k_g_X12_areaOf_L30  = (ap1 (x_57616 + (1 : Int32)) fun (x_59776 : Int32) => (ap1 (x_57617 + Int32.ofInt 1) fun (x_59777 : Int32) => (k_g_X12_areaOf_L30 x_59776 x_59777))) := rfl
set_option maxRecDepth 100000 in
def g_X12_areaOf_K142 (x_57616 : Int32) (x_57617 : Int32) (k_g_X12_areaOf_L30 : (Int32) → (Int32) → Int32 × vM) (x_59593 : Int32) : Int32 × vM := (if x_59593 = (0 : Int32) then (g_X12_areaOf_K154 x_57616 x_57617 k_g_X12_areaOf_L30 ) else (g_X12_areaOf_K154_2 x_57616 x_57617 k_g_X12_areaOf_L30 ))
set_option maxRecDepth 100000 in
theorem g_X12_areaOf_K142_e {x_57616 : Int32} {x_57617 : Int32} {k_g_X12_areaOf_L30 : (Int32) → (Int32) → Int32 × vM} {x_59593 : Int32} : g_X12_areaOf_K142 x_57616 x_57617 k_g_X12_areaOf_L30 x_59593  = (if x_59593 = (0 : Int32) then (g_X12_areaOf_K154 x_57616 x_57617 k_g_X12_areaOf_L30 ) else (g_X12_areaOf_K154_2 x_57616 x_57617 k_g_X12_areaOf_L30 )) := rfl
set_option maxRecDepth 100000 in
def g_X12_areaOf_K134 (x_59594 : Int32) (k_g_X12_areaOf_L44 : (Int32) → (Int32) → Int32 × vM) : Int32 × vM := (ap1 (x_59594 + Int32.ofInt 1) fun (x_59854 : Int32) => (k_g_X12_areaOf_L44 (1 : Int32) x_59854))
set_option maxRecDepth 100000 in
theorem g_X12_areaOf_K134_e {x_59594 : Int32} {k_g_X12_areaOf_L44 : (Int32) → (Int32) → Int32 × vM} : g_X12_areaOf_K134 x_59594 k_g_X12_areaOf_L44  = (ap1 (x_59594 + Int32.ofInt 1) fun (x_59854 : Int32) => (k_g_X12_areaOf_L44 (1 : Int32) x_59854)) := rfl
set_option maxRecDepth 100000 in
def g_X12_areaOf_K134_2 (x_59594 : Int32) (k_g_X12_areaOf_L44 : (Int32) → (Int32) → Int32 × vM) : Int32 × vM := (ap1 (x_59594 + Int32.ofInt 1) fun (x_59857 : Int32) => (k_g_X12_areaOf_L44 (0 : Int32) x_59857))
set_option maxRecDepth 100000 in
theorem g_X12_areaOf_K134_2_e {x_59594 : Int32} {k_g_X12_areaOf_L44 : (Int32) → (Int32) → Int32 × vM} : g_X12_areaOf_K134_2 x_59594 k_g_X12_areaOf_L44  = (ap1 (x_59594 + Int32.ofInt 1) fun (x_59857 : Int32) => (k_g_X12_areaOf_L44 (0 : Int32) x_59857)) := rfl
set_option maxRecDepth 100000 in
def g_X12_areaOf_K133 (x_59594 : Int32) (k_g_X12_areaOf_L44 : (Int32) → (Int32) → Int32 × vM) : Int32 × vM := (g_X12_areaOf_K134_2 x_59594 k_g_X12_areaOf_L44 )
set_option maxRecDepth 100000 in
theorem g_X12_areaOf_K133_e {x_59594 : Int32} {k_g_X12_areaOf_L44 : (Int32) → (Int32) → Int32 × vM} : g_X12_areaOf_K133 x_59594 k_g_X12_areaOf_L44  = (g_X12_areaOf_K134_2 x_59594 k_g_X12_areaOf_L44 ) := rfl
set_option maxRecDepth 100000 in
def g_X12_areaOf_L44 (I : Nat → Int32) (J : Nat → Int64) (ri : Nat → Nat → Int32) (rj : Nat → Nat → Int64) (rq : Nat → Nat → Option Nat) (x_19 : Int32) (x_57616 : Int32) (x_57617 : Int32) (k_g_X12_areaOf_L30 : (Int32) → (Int32) → Int32 × vM) : Nat → (Int32) → (Int32) → Int32 × vM
  | 0, x_59593, x_59594 => ((0 : Int32), I, J, ri, rj, rq)
  | n_59671 + 1, x_59593, x_59594 => (ap1 (ri 384 2) fun (y_59679 : Int32) => (if (y_59679) ≤ x_59594 then (g_X12_areaOf_K142 x_57616 x_57617 k_g_X12_areaOf_L30 x_59593 ) else (if x_59593 = (0 : Int32) then (ap1 (x_57617 - x_57617 / (32 : Int32) * (32 : Int32)) fun (x_59806 : Int32) => (bnI (g_X12_cellAt_c2 x_59594 I J ri rj rq) fun (x_59808 : Int32) (_ : Nat → Int32) (_ : Nat → Int64) (_ : Nat → Nat → Int32) (_ : Nat → Nat → Int64) (_ : Nat → Nat → Option Nat) => (ap1 (x_59806 - x_59808) fun (x_59815 : Int32) => (ap1 (x_57617 / (32 : Int32)) fun (x_59816 : Int32) => (bnI (g_X12_cellAt_c3 x_59594 I J ri rj rq) fun (x_59818 : Int32) (_ : Nat → Int32) (_ : Nat → Int64) (_ : Nat → Nat → Int32) (_ : Nat → Nat → Int64) (_ : Nat → Nat → Option Nat) => (ap1 (x_59816 - x_59818) fun (x_59825 : Int32) => (ap1 (x_59815 * x_59815) fun (x_59826 : Int32) => (ap1 (x_59825 * x_59825) fun (x_59827 : Int32) => (ap1 (x_59826 + x_59827) fun (x_59828 : Int32) => (ap1 (ri 384 ((16 : Int32)).toNatClampNeg) fun (x_59829 : Int32) => (ap1 (x_59829 * x_59829) fun (x_59830 : Int32) => (if x_59830 < x_59828 then (g_X12_areaOf_K133 x_59594 (g_X12_areaOf_L44 I J ri rj rq x_19 x_57616 x_57617 k_g_X12_areaOf_L30 n_59671) ) else (bnI (g_X12_wasRock x_59594 x_19 I J ri rj rq) fun (x_59869 : Int32) (_ : Nat → Int32) (_ : Nat → Int64) (_ : Nat → Nat → Int32) (_ : Nat → Nat → Int64) (_ : Nat → Nat → Option Nat) => (if x_59869 = (0 : Int32) then (g_X12_areaOf_K133 x_59594 (g_X12_areaOf_L44 I J ri rj rq x_19 x_57616 x_57617 k_g_X12_areaOf_L30 n_59671) ) else (g_X12_areaOf_K134 x_59594 (g_X12_areaOf_L44 I J ri rj rq x_19 x_57616 x_57617 k_g_X12_areaOf_L30 n_59671) ))))))))))))))) else (g_X12_areaOf_K142 x_57616 x_57617 k_g_X12_areaOf_L30 x_59593 ))))
set_option maxRecDepth 100000 in
theorem g_X12_areaOf_L44_e {I : Nat → Int32} {J : Nat → Int64} {ri : Nat → Nat → Int32} {rj : Nat → Nat → Int64} {rq : Nat → Nat → Option Nat} {x_19 : Int32} {x_57616 : Int32} {x_57617 : Int32} {k_g_X12_areaOf_L30 : (Int32) → (Int32) → Int32 × vM} {n_59671 : Nat} {x_59593 : Int32} {x_59594 : Int32} : g_X12_areaOf_L44 I J ri rj rq x_19 x_57616 x_57617 k_g_X12_areaOf_L30 (n_59671 + 1) x_59593 x_59594 = (ap1 (ri 384 2) fun (y_59679 : Int32) => (if (y_59679) ≤ x_59594 then (g_X12_areaOf_K142 x_57616 x_57617 k_g_X12_areaOf_L30 x_59593 ) else (if x_59593 = (0 : Int32) then (ap1 (x_57617 - x_57617 / (32 : Int32) * (32 : Int32)) fun (x_59806 : Int32) => (bnI (g_X12_cellAt_c2 x_59594 I J ri rj rq) fun (x_59808 : Int32) (_ : Nat → Int32) (_ : Nat → Int64) (_ : Nat → Nat → Int32) (_ : Nat → Nat → Int64) (_ : Nat → Nat → Option Nat) => (ap1 (x_59806 - x_59808) fun (x_59815 : Int32) => (ap1 (x_57617 / (32 : Int32)) fun (x_59816 : Int32) => (bnI (g_X12_cellAt_c3 x_59594 I J ri rj rq) fun (x_59818 : Int32) (_ : Nat → Int32) (_ : Nat → Int64) (_ : Nat → Nat → Int32) (_ : Nat → Nat → Int64) (_ : Nat → Nat → Option Nat) => (ap1 (x_59816 - x_59818) fun (x_59825 : Int32) => (ap1 (x_59815 * x_59815) fun (x_59826 : Int32) => (ap1 (x_59825 * x_59825) fun (x_59827 : Int32) => (ap1 (x_59826 + x_59827) fun (x_59828 : Int32) => (ap1 (ri 384 ((16 : Int32)).toNatClampNeg) fun (x_59829 : Int32) => (ap1 (x_59829 * x_59829) fun (x_59830 : Int32) => (if x_59830 < x_59828 then (g_X12_areaOf_K133 x_59594 (g_X12_areaOf_L44 I J ri rj rq x_19 x_57616 x_57617 k_g_X12_areaOf_L30 n_59671) ) else (bnI (g_X12_wasRock x_59594 x_19 I J ri rj rq) fun (x_59869 : Int32) (_ : Nat → Int32) (_ : Nat → Int64) (_ : Nat → Nat → Int32) (_ : Nat → Nat → Int64) (_ : Nat → Nat → Option Nat) => (if x_59869 = (0 : Int32) then (g_X12_areaOf_K133 x_59594 (g_X12_areaOf_L44 I J ri rj rq x_19 x_57616 x_57617 k_g_X12_areaOf_L30 n_59671) ) else (g_X12_areaOf_K134 x_59594 (g_X12_areaOf_L44 I J ri rj rq x_19 x_57616 x_57617 k_g_X12_areaOf_L30 n_59671) ))))))))))))))) else (g_X12_areaOf_K142 x_57616 x_57617 k_g_X12_areaOf_L30 x_59593 )))) := rfl
set_option maxRecDepth 100000 in
def g_X12_areaOf_L30 (I : Nat → Int32) (J : Nat → Int64) (ri : Nat → Nat → Int32) (rj : Nat → Nat → Int64) (rq : Nat → Nat → Option Nat) (x_19 : Int32) : Nat → (Int32) → (Int32) → Int32 × vM
  | 0, x_57616, x_57617 => ((0 : Int32), I, J, ri, rj, rq)
  | n_58679 + 1, x_57616, x_57617 => (if (1024 : Int32) ≤ x_57617 then (x_57616, I, J, ri, rj, rq) else (g_X12_areaOf_L44 I J ri rj rq x_19 x_57616 x_57617 (g_X12_areaOf_L30 I J ri rj rq x_19 n_58679) ((40 - ((0 : Int32)).toInt).toNat + 1) (0 : Int32) (0 : Int32)))
set_option maxRecDepth 100000 in
theorem g_X12_areaOf_L30_e {I : Nat → Int32} {J : Nat → Int64} {ri : Nat → Nat → Int32} {rj : Nat → Nat → Int64} {rq : Nat → Nat → Option Nat} {x_19 : Int32} {n_58679 : Nat} {x_57616 : Int32} {x_57617 : Int32} : g_X12_areaOf_L30 I J ri rj rq x_19 (n_58679 + 1) x_57616 x_57617 = (if (1024 : Int32) ≤ x_57617 then (x_57616, I, J, ri, rj, rq) else (g_X12_areaOf_L44 I J ri rj rq x_19 x_57616 x_57617 (g_X12_areaOf_L30 I J ri rj rq x_19 n_58679) ((40 - ((0 : Int32)).toInt).toNat + 1) (0 : Int32) (0 : Int32))) := rfl
set_option maxRecDepth 100000 in
def g_X12_areaOf_K23 (I : Nat → Int32) (J : Nat → Int64) (ri : Nat → Nat → Int32) (rj : Nat → Nat → Int64) (rq : Nat → Nat → Option Nat) (x_19 : Int32) : Int32 × vM := (g_X12_areaOf_L30 I J ri rj rq x_19 ((1024 - ((0 : Int32)).toInt).toNat + 1) (0 : Int32) (0 : Int32))
set_option maxRecDepth 100000 in
theorem g_X12_areaOf_K23_e {I : Nat → Int32} {J : Nat → Int64} {ri : Nat → Nat → Int32} {rj : Nat → Nat → Int64} {rq : Nat → Nat → Option Nat} {x_19 : Int32} : g_X12_areaOf_K23 I J ri rj rq x_19 = (g_X12_areaOf_L30 I J ri rj rq x_19 ((1024 - ((0 : Int32)).toInt).toNat + 1) (0 : Int32) (0 : Int32)) := rfl
set_option maxRecDepth 100000 in
def g_X12_areaOf_K22 (a0 : Int32) (I : Nat → Int32) (J : Nat → Int64) (ri : Nat → Nat → Int32) (rj : Nat → Nat → Int64) (rq : Nat → Nat → Option Nat) : Int32 × vM := (g_X12_areaOf_K23 I J ri rj rq a0)
set_option maxRecDepth 100000 in
theorem g_X12_areaOf_K22_e {a0 : Int32} {I : Nat → Int32} {J : Nat → Int64} {ri : Nat → Nat → Int32} {rj : Nat → Nat → Int64} {rq : Nat → Nat → Option Nat} : g_X12_areaOf_K22 a0 I J ri rj rq  = (g_X12_areaOf_K23 I J ri rj rq a0) := rfl
set_option maxRecDepth 100000 in
def g_X12_areaOf (a0 : Int32) (I : Nat → Int32) (J : Nat → Int64) (ri : Nat → Nat → Int32) (rj : Nat → Nat → Int64) (rq : Nat → Nat → Option Nat) : Int32 × vM := (bnI (g_X12_numberOf (8 : Int32) a0 (-1 : Int32) I J ri rj rq) fun (x_2 : Int32) (_ : Nat → Int32) (_ : Nat → Int64) (_ : Nat → Nat → Int32) (_ : Nat → Nat → Int64) (_ : Nat → Nat → Option Nat) => (if x_2 < (0 : Int32) then (g_X12_areaOf_K22 a0 I J ri rj rq ) else (if a0 ≤ x_2 then (g_X12_areaOf_K22 a0 I J ri rj rq ) else (g_X12_areaOf_K23 I J ri rj rq x_2))))
set_option maxRecDepth 100000 in
theorem g_X12_areaOf_e {a0 : Int32} {I : Nat → Int32} {J : Nat → Int64} {ri : Nat → Nat → Int32} {rj : Nat → Nat → Int64} {rq : Nat → Nat → Option Nat} : g_X12_areaOf a0 I J ri rj rq = (bnI (g_X12_numberOf (8 : Int32) a0 (-1 : Int32) I J ri rj rq) fun (x_2 : Int32) (_ : Nat → Int32) (_ : Nat → Int64) (_ : Nat → Nat → Int32) (_ : Nat → Nat → Int64) (_ : Nat → Nat → Option Nat) => (if x_2 < (0 : Int32) then (g_X12_areaOf_K22 a0 I J ri rj rq ) else (if a0 ≤ x_2 then (g_X12_areaOf_K22 a0 I J ri rj rq ) else (g_X12_areaOf_K23 I J ri rj rq x_2)))) := rfl
set_option maxHeartbeats 4000000 in
set_option maxRecDepth 100000 in
theorem s_X12_areaOf (l : Launch) (D : va_G) (t : pq_T) (σ : pq_S) (I : Nat → Nat → Int32) (J : Nat → Nat → Int64) (ri : Nat → Nat → Int32) (rj : Nat → Nat → Int64) (rq : Nat → Nat → Option Nat) (sz : Nat) (tg : Nat → Nat) (hSH : SH σ tg) (hG0 : GT tg I ri) (this : Nat) (a0 : Int32) (hL_this : this ∈ σ.1) (hK_this : σ.2.1 this = 12) (h_a0 : rg a0 0 599) : MetI l yX12_areaOf (wa yX12_areaOf cX12_areaOf 10 (some .int)) ({ frames := 4, cells := 0, slots := 0, locals := 93 }) [.ref this, .int a0] D t σ (I, J, ri, rj, rq) sz 0 0 (fun (r : Int32) (u : pq_S × pq_M) => u = (σ, I, J, ri, rj, rq) ∧ g_X12_areaOf a0 (vI 12 σ this I) (vJ 12 σ this J) (vR 12 σ this ri) (vL 12 σ this rj) (vQ 12 σ this rq) = (r, (vI 12 σ this I), (vJ 12 σ this J), (vR 12 σ this ri), (vL 12 σ this rj), (vQ 12 σ this rq))) := by
  refine Met.ofW (cc := cX12_areaOf) (maxL := 10) (ret := (some .int)) (by decide +kernel) rfl ?_
  intro p e s m args below meth c s₁ B hml hv
  obtain ⟨rfl, hsz, hP, hK, hD0, hN⟩ := hv
  have hx := B.exec
  have hb := B.bytes
  have hr := B.returns
  have hts := atoms_spec (ws := (wa yX12_areaOf cX12_areaOf 10 (some .int))) B.pre
  have hown : s.vm.findClass RX12 = some m.cls := findClass_of_methodNamed B.named
  have hlocks := B.notSynchronized
  subst hsz
  have hD : va_D (pq_B t σ (I, J, ri, rj, rq) s.heap.size) (pq_P t σ (I, J, ri, rj, rq)) := hD0.self
  generalize hAe : pq_B t σ (I, J, ri, rj, rq) s.heap.size = A at hD ⊢
  have hA : ∀ q : Nat, s.heap.size ≤ q → A q := fun q h => by rw [← hAe]; exact Or.inr h
  have hS : va_S A s.heap s.heap [] := va_S.rf
  have hG : GM [] tg σ I ri I ri rq := ⟨hG0, fun _ _ _ => rfl, fun _ _ _ _ _ => rfl, fun _ _ _ _ _ _ => rfl⟩
  have hl := lv_entry ([.ref this, .int a0]) (n := 10) (Nat.le_of_ble_eq_true rfl)
  rw [lg_entry_eq]
  generalize (lg_sl ([.ref this, .int a0]) ++ List.replicate (10 - (lg_sl ([.ref this, .int a0])).length) Slot.unset).toArray = ls at hl ⊢
  have hl : lv_has ls 10 [(0, .ref this), (1, .int a0)] := hl
  refine q_gen (fun Q hQ => ?_)
  have go : ∀ (H : Heap) (locs : List Loc) (ls : Array Slot), va_P D vwCl (pq_P t σ (I, J, ri, rj, rq)) H → va_D A (pq_P t σ (I, J, ri, rj, rq)) → va_S A s.heap H locs → lv_has ls 10 [(0, .ref this), (1, .int a0)] → W p l e ({ frames := 4, cells := 0, slots := 0, locals := 93 } : Room) s m (List.toArray ([.ref this, .int a0] : List Value)) below meth c H locs 0 0 Q (F0 m 0 ls []) := by
    intro H locs ls hP hD hS hl
    have hO_this : this = vo σ 12 this := rfl
    have hVT : VT 12 σ tg this := vt_12 hSH hL_this hK_this
    have hFr : FR 12 tg σ this (I, J, ri, rj, rq) (I, J, ri, rj, rq) := fr_rf
    obtain ⟨F, hF0⟩ : ∃ F, F = g_X12_areaOf a0 (vI 12 σ this I) (vJ 12 σ this J) (vR 12 σ this ri) (vL 12 σ this rj) (vQ 12 σ this rq) := ⟨_, rfl⟩
    have hF := hF0.trans g_X12_areaOf_e
    refine lv_aload_n hx hb dX12_areaOf_0 rfl (lv_at hl 0 rfl) ?_
    refine lv_bipush (v := 8) hx hb dX12_areaOf_1 (by decide +kernel) ?_
    refine lv_iload_n hx hb dX12_areaOf_3 rfl (lv_at hl 1 rfl) ?_
    refine lv_iconst (v := (-1)) hx hb dX12_areaOf_4 (by decide +kernel) ?_
    obtain ⟨w_1, hR_w_1, hL_w_1, hK_w_1, hN_w_1, hT_w_1⟩ := sh_a hSH 384 (ci := 12) (kd := 13) (len := 12720) rfl (by decide +kernel) hL_this hK_this
    have hO_w_1 : w_1 = vrow σ 384 this := vo_k (c := 12) hO_this hR_w_1
    refine pk_i (va_runV (As := [.int 8, .int a0, .int (-1)]) (rest := []) ⟨hx, hb, hml, hown, hts⟩ (s_X12_numberOf l D t σ I J ri rj rq H.size tg hSH hG.1 this (8 : Int32) a0 (-1 : Int32) hL_this hK_this w_1 hR_w_1 hL_w_1 hK_w_1 hN_w_1 hT_w_1) (cwV 3 hts (tw_V tw_1016 tw_1017 tw_1018 tw_5 tw_1019) rfl rfl rfl cv_yX12_numberOf_3 ⟨Nat.le_of_ble_eq_true rfl, Nat.le_of_ble_eq_true rfl⟩) ⟨pq_blind, pq_recv hK hP hL_this hK_this (by decide +kernel) rfl, pq_pre hK hN hP hD⟩ rfl rfl hl.1 rfl (lv_room (Nat.le_of_ble_eq_true rfl)) dX12_areaOf_5 ⟨Nat.le_of_ble_eq_true rfl, Nat.le_of_ble_eq_true rfl⟩) hD hS hA (fun x_2 σ1 μ1 H locs hw_3 hP hD hS => ?_)
    obtain ⟨hu_4, hfn_7⟩ := hw_3
    obtain ⟨hu_4a, hu_4b⟩ := Prod.mk.inj hu_4
    rw [hu_4a, hu_4b] at hP hD
    replace hF := hF.trans (bn_n hfn_7)
    refine lv_istore_n (lv' := [(2, .int x_2), (0, .ref this), (1, .int a0)]) hx hb dX12_areaOf_8 rfl hl (by decide +kernel) rfl (fun ls hl => ?_)
    refine lv_iload_n hx hb dX12_areaOf_9 rfl (lv_at hl 0 rfl) ?_
    have K_29879 : ∀  (x_19 : Int32) (H : Heap) (locs : List Loc) (ls : Array Slot), rg x_19 0 599 → F = g_X12_areaOf_K23 (vI 12 σ this I) (vJ 12 σ this J) (vR 12 σ this ri) (vL 12 σ this rj) (vQ 12 σ this rq) x_19 → FR 12 tg σ this (I, J, ri, rj, rq) (I, J, ri, rj, rq) → GM [] tg σ I ri I ri rq → va_P D vwCl (pq_P t σ (I, J, ri, rj, rq)) H → va_D A (pq_P t σ (I, J, ri, rj, rq)) → va_S A s.heap H locs → lv_has ls 10 [(0, .ref this)] → W p l e ({ frames := 4, cells := 0, slots := 0, locals := 93 } : Room) s m (List.toArray ([.ref this, .int a0] : List Value)) below meth c H locs 0 0 Q (F0 m 23 ls [.int x_19]) := by
      intro x_19 H locs ls h_29881 hF hFr hG hP hD hS hl
      have uh_29881 := h_29881.1
      have vh_29881 := h_29881.2
      replace hF := hF.trans g_X12_areaOf_K23_e
      refine lv_istore_n (lv' := [(3, .int x_19), (0, .ref this)]) hx hb dX12_areaOf_23 rfl hl (by decide +kernel) rfl (fun ls hl => ?_)
      refine lv_iconst (v := 0) hx hb dX12_areaOf_24 (by decide +kernel) ?_
      refine lv_istore (lv' := [(4, .int 0), (3, .int x_19), (0, .ref this)]) hx hb dX12_areaOf_25 hl (by decide +kernel) rfl (fun ls hl => ?_)
      refine lv_iconst (v := 0) hx hb dX12_areaOf_27 (by decide +kernel) ?_
      refine lv_istore (lv' := [(5, .int 0), (4, .int 0), (3, .int x_19), (0, .ref this)]) hx hb dX12_areaOf_28 hl (by decide +kernel) rfl (fun ls hl => ?_)
      have L_58680 : ∀ (n_58679 : Nat) (x_57616 : Int32) (x_57617 : Int32) (H : Heap) (locs : List Loc) (ls : Array Slot), rg x_57617 0 1024 → (1024 - (x_57617).toInt).toNat < n_58679 → F = g_X12_areaOf_L30 (vI 12 σ this I) (vJ 12 σ this J) (vR 12 σ this ri) (vL 12 σ this rj) (vQ 12 σ this rq) x_19 n_58679 x_57616 x_57617 → FR 12 tg σ this (I, J, ri, rj, rq) (I, J, ri, rj, rq) → GM [] tg σ I ri I ri rq → va_P D vwCl (pq_P t σ (I, J, ri, rj, rq)) H → va_D A (pq_P t σ (I, J, ri, rj, rq)) → va_S A s.heap H locs → lv_has ls 10 [(0, .ref this), (3, .int x_19), (4, .int x_57616), (5, .int x_57617)] → W p l e ({ frames := 4, cells := 0, slots := 0, locals := 93 } : Room) s m (List.toArray ([.ref this, .int a0] : List Value)) below meth c H locs 0 0 Q (F0 m 30 ls []) := by
        intro n_58679
        induction n_58679 with
        | zero => intro x_57616 x_57617 H locs ls h_58683 hm_58678 hF hFr hG hP hD hS hl; exact absurd hm_58678 (Nat.not_lt_zero _)
        | succ n_58679 ih_58681 =>
          intro x_57616 x_57617 H locs ls h_58683 hm_58678 hF hFr hG hP hD hS hl
          have uh_58683 := h_58683.1
          have vh_58683 := h_58683.2
          replace hF := hF.trans g_X12_areaOf_L30_e
          refine lv_iload hx hb dX12_areaOf_30 (lv_at hl 3 rfl) ?_
          refine lv_sipush (v := 1024) hx hb dX12_areaOf_32 (by decide +kernel) ?_
          refine lv_icmp_ge (tgt := 163) hx hb dX12_areaOf_35 (by decide +kernel) (fun c_58684 => ?_) (fun c_58684 => ?_)
          · replace hF := hF.trans (if_pos c_58684)
            have tc_58689 : 1024 ≤ (x_57617).toInt := Int32.le_iff_toInt_le.mp c_58684
            have h_58690 : rg x_57617 1024 1024 := rg_le2 c_58684 (rg_k (1024 : Int32) 1024 rfl) h_58683 (by decide +kernel)
            have uh_58690 := h_58690.1
            have vh_58690 := h_58690.2
            refine lv_iload hx hb dX12_areaOf_163 (lv_at hl 2 rfl) ?_
            subst hQ
            exact W.iret (v := x_57616) hx hb hr (fun t1 ht hW => ⟨⟨x_57616, (σ, I, J, ri, rj, rq), rfl, ⟨rfl, (hF0.symm.trans hF)⟩, by rw [ht]; exact hP, va_K.moved hW.alike hK, hD⟩, hS.F ht⟩) hS.2.2 dX12_areaOf_165
          · replace hF := hF.trans (if_neg c_58684)
            have tc_58691 : (x_57617).toInt < 1024 := Int32.lt_iff_toInt_lt.mp (nle c_58684)
            have h_58692 : rg x_57617 0 1023 := rg_lt1 (nle c_58684) h_58683 (rg_k (1024 : Int32) 1024 rfl) (by decide +kernel)
            have uh_58692 := h_58692.1
            have vh_58692 := h_58692.2
            refine lv_iconst (v := 0) hx hb dX12_areaOf_38 (by decide +kernel) ?_
            refine lv_istore (lv' := [(6, .int 0), (0, .ref this), (3, .int x_19), (4, .int x_57616), (5, .int x_57617)]) hx hb dX12_areaOf_39 hl (by decide +kernel) rfl (fun ls hl => ?_)
            refine lv_iconst (v := 0) hx hb dX12_areaOf_41 (by decide +kernel) ?_
            refine lv_istore (lv' := [(7, .int 0), (6, .int 0), (0, .ref this), (3, .int x_19), (4, .int x_57616), (5, .int x_57617)]) hx hb dX12_areaOf_42 hl (by decide +kernel) rfl (fun ls hl => ?_)
            have L_59672 : ∀ (n_59671 : Nat) (x_59593 : Int32) (x_59594 : Int32) (H : Heap) (locs : List Loc) (ls : Array Slot), rg x_59593 0 1 → rg x_59594 0 40 → (40 - (x_59594).toInt).toNat < n_59671 → F = g_X12_areaOf_L44 (vI 12 σ this I) (vJ 12 σ this J) (vR 12 σ this ri) (vL 12 σ this rj) (vQ 12 σ this rq) x_19 x_57616 x_57617 (g_X12_areaOf_L30 (vI 12 σ this I) (vJ 12 σ this J) (vR 12 σ this ri) (vL 12 σ this rj) (vQ 12 σ this rq) x_19 n_58679) n_59671 x_59593 x_59594 → FR 12 tg σ this (I, J, ri, rj, rq) (I, J, ri, rj, rq) → GM [] tg σ I ri I ri rq → va_P D vwCl (pq_P t σ (I, J, ri, rj, rq)) H → va_D A (pq_P t σ (I, J, ri, rj, rq)) → va_S A s.heap H locs → lv_has ls 10 [(0, .ref this), (3, .int x_19), (4, .int x_57616), (5, .int x_57617), (6, .int x_59593), (7, .int x_59594)] → W p l e ({ frames := 4, cells := 0, slots := 0, locals := 93 } : Room) s m (List.toArray ([.ref this, .int a0] : List Value)) below meth c H locs 0 0 Q (F0 m 44 ls []) := by
              intro n_59671
              induction n_59671 with
              | zero => intro x_59593 x_59594 H locs ls h_59676 h_59677 hm_59670 hF hFr hG hP hD hS hl; exact absurd hm_59670 (Nat.not_lt_zero _)
              | succ n_59671 ih_59673 =>
                intro x_59593 x_59594 H locs ls h_59676 h_59677 hm_59670 hF hFr hG hP hD hS hl
                have uh_59676 := h_59676.1
                have vh_59676 := h_59676.2
                have uh_59677 := h_59677.1
                have vh_59677 := h_59677.2
                replace hF := hF.trans g_X12_areaOf_L44_e
                refine lv_iload hx hb dX12_areaOf_44 (lv_at hl 5 rfl) ?_
                refine lv_aload_n hx hb dX12_areaOf_46 rfl (lv_at hl 0 rfl) ?_
                refine pg_f (v := .ref w_1) (C := RX12) (T := TX12) (N := 31) hx hb hts (tw_i inlX12) hown hK hP hL_this hK_this (by decide +kernel) rfl 0 (by decide +kernel) (hts _ (tw_c tw_176)) (pq_hv rfl hR_w_1) dX12_areaOf_47 ?_
                refine lv_iconst (v := 2) hx hb dX12_areaOf_50 (by decide +kernel) ?_
                refine pl_i hx hb hK hP hL_w_1 hK_w_1 hN_w_1 (vp_in_iff.mpr (by decide +kernel)) dX12_areaOf_51 ?_
                refine lv_tov (ri w_1 2) rfl ?_
                have h_59678 : rg (ri w_1 2) 0 40 := GM.z0 hG0 (by rw [hT_w_1]; decide) (i := 2) (k := 2) (by decide +kernel) rfl
                have uh_59678 := h_59678.1
                have vh_59678 := h_59678.2
                replace hF := hF.trans (ap_n (vR_r hO_w_1 (by decide +kernel) rfl))
                have K_59751 : ∀  (H : Heap) (locs : List Loc) (ls : Array Slot), F = g_X12_areaOf_K142 x_57616 x_57617 (g_X12_areaOf_L30 (vI 12 σ this I) (vJ 12 σ this J) (vR 12 σ this ri) (vL 12 σ this rj) (vQ 12 σ this rq) x_19 n_58679) x_59593  → FR 12 tg σ this (I, J, ri, rj, rq) (I, J, ri, rj, rq) → GM [] tg σ I ri I ri rq → va_P D vwCl (pq_P t σ (I, J, ri, rj, rq)) H → va_D A (pq_P t σ (I, J, ri, rj, rq)) → va_S A s.heap H locs → lv_has ls 10 [(0, .ref this), (3, .int x_19), (4, .int x_57616), (5, .int x_57617), (6, .int x_59593)] → W p l e ({ frames := 4, cells := 0, slots := 0, locals := 93 } : Room) s m (List.toArray ([.ref this, .int a0] : List Value)) below meth c H locs 0 0 Q (F0 m 142 ls []) := by
                  intro H locs ls hF hFr hG hP hD hS hl
                  replace hF := hF.trans g_X12_areaOf_K142_e
                  refine lv_iload hx hb dX12_areaOf_142 (lv_at hl 2 rfl) ?_
                  refine lv_iload hx hb dX12_areaOf_144 (lv_at hl 4 rfl) ?_
                  have K_59766 : ∀  (H : Heap) (locs : List Loc) (ls : Array Slot), rg (x_59593) 0 0 → F = g_X12_areaOf_K154 x_57616 x_57617 (g_X12_areaOf_L30 (vI 12 σ this I) (vJ 12 σ this J) (vR 12 σ this ri) (vL 12 σ this rj) (vQ 12 σ this rq) x_19 n_58679)  → FR 12 tg σ this (I, J, ri, rj, rq) (I, J, ri, rj, rq) → GM [] tg σ I ri I ri rq → va_P D vwCl (pq_P t σ (I, J, ri, rj, rq)) H → va_D A (pq_P t σ (I, J, ri, rj, rq)) → va_S A s.heap H locs → lv_has ls 10 [(0, .ref this), (3, .int x_19), (5, .int x_57617)] → W p l e ({ frames := 4, cells := 0, slots := 0, locals := 93 } : Room) s m (List.toArray ([.ref this, .int a0] : List Value)) below meth c H locs 0 0 Q (F0 m 154 ls [.int 0, .int x_57616]) := by
                    intro H locs ls h_59768 hF hFr hG hP hD hS hl
                    have uh_59768 := h_59768.1
                    have vh_59768 := h_59768.2
                    replace hF := hF.trans g_X12_areaOf_K154_e
                    refine lv_iadd hx hb dX12_areaOf_154 ?_
                    refine lv_topi (fun x_59769 ex_59769 => ?_)
                    replace hF := hF.trans (ap_n ex_59769)
                    have h_59770 : rg x_59769 (-2147483648) 2147483647 := rg_of_eq ex_59769 (rg_add (rg_full _) (rg_k (0 : Int32) 0 rfl) (by decide +kernel))
                    have uh_59770 := h_59770.1
                    have vh_59770 := h_59770.2
                    have tx_59769 : (x_59769).toInt = (x_57616).toInt + 0 := by rw [ex_59769]; exact i_add_rg (a2 := (x_57616).toInt) (b2 := 0) rfl rfl (rg_full _) (rg_k (0 : Int32) 0 rfl) (by decide +kernel)
                    refine lv_istore (lv' := [(4, .int x_59769), (0, .ref this), (3, .int x_19), (5, .int x_57617)]) hx hb dX12_areaOf_155 hl (by decide +kernel) rfl (fun ls hl => ?_)
                    obtain ⟨x_59771, ex_59771⟩ : ∃ y : Int32, y = x_57617 + Int32.ofInt 1 := ⟨_, rfl⟩
                    replace hF := hF.trans (ap_n ex_59771)
                    have h_59772 : rg x_59771 1 1024 := rg_of_eq ex_59771 (rg_add h_58692 (rg_k (Int32.ofInt 1) 1 rfl) (by decide +kernel))
                    have uh_59772 := h_59772.1
                    have vh_59772 := h_59772.2
                    have tx_59771 : (x_59771).toInt = (x_57617).toInt + 1 := by rw [ex_59771]; exact i_add_rg (a2 := (x_57617).toInt) (b2 := 1) rfl rfl h_58692 (rg_k (Int32.ofInt 1) 1 rfl) (by decide +kernel)
                    refine lv_iinc (v := x_59771) (lv' := [(5, .int x_59771), (4, .int x_59769), (0, .ref this), (3, .int x_19)]) hx hb dX12_areaOf_157 hl (k := 3) rfl ex_59771.symm (by decide +kernel) rfl (fun ls hl => ?_)
                    refine lv_goto (tgt := 30) hx hb dX12_areaOf_160 (by decide +kernel) ?_
                    exact ih_58681 x_59769 x_59771 _ _ _ (rg_w h_59772 (by decide +kernel)) (ms_up 1 hm_58678 ex_59771 rfl (by decide +kernel) h_58692 (by decide +kernel) (by decide +kernel)) hF hFr hG hP hD hS (lv_sub hl [2, 3, 1, 0] rfl)
                  have K_59773 : ∀  (H : Heap) (locs : List Loc) (ls : Array Slot), rg (x_59593) 1 1 → F = g_X12_areaOf_K154_2 x_57616 x_57617 (g_X12_areaOf_L30 (vI 12 σ this I) (vJ 12 σ this J) (vR 12 σ this ri) (vL 12 σ this rj) (vQ 12 σ this rq) x_19 n_58679)  → FR 12 tg σ this (I, J, ri, rj, rq) (I, J, ri, rj, rq) → GM [] tg σ I ri I ri rq → va_P D vwCl (pq_P t σ (I, J, ri, rj, rq)) H → va_D A (pq_P t σ (I, J, ri, rj, rq)) → va_S A s.heap H locs → lv_has ls 10 [(0, .ref this), (3, .int x_19), (5, .int x_57617)] → W p l e ({ frames := 4, cells := 0, slots := 0, locals := 93 } : Room) s m (List.toArray ([.ref this, .int a0] : List Value)) below meth c H locs 0 0 Q (F0 m 154 ls [.int 1, .int x_57616]) := by
                    intro H locs ls h_59775 hF hFr hG hP hD hS hl
                    have uh_59775 := h_59775.1
                    have vh_59775 := h_59775.2
                    replace hF := hF.trans g_X12_areaOf_K154_2_e
                    refine lv_iadd hx hb dX12_areaOf_154 ?_
                    refine lv_topi (fun x_59776 ex_59776 => ?_)
                    replace hF := hF.trans (ap_n ex_59776)
                    refine lv_istore (lv' := [(4, .int x_59776), (0, .ref this), (3, .int x_19), (5, .int x_57617)]) hx hb dX12_areaOf_155 hl (by decide +kernel) rfl (fun ls hl => ?_)
                    obtain ⟨x_59777, ex_59777⟩ : ∃ y : Int32, y = x_57617 + Int32.ofInt 1 := ⟨_, rfl⟩
                    replace hF := hF.trans (ap_n ex_59777)
                    have h_59778 : rg x_59777 1 1024 := rg_of_eq ex_59777 (rg_add h_58692 (rg_k (Int32.ofInt 1) 1 rfl) (by decide +kernel))
                    have uh_59778 := h_59778.1
                    have vh_59778 := h_59778.2
                    have tx_59777 : (x_59777).toInt = (x_57617).toInt + 1 := by rw [ex_59777]; exact i_add_rg (a2 := (x_57617).toInt) (b2 := 1) rfl rfl h_58692 (rg_k (Int32.ofInt 1) 1 rfl) (by decide +kernel)
                    refine lv_iinc (v := x_59777) (lv' := [(5, .int x_59777), (4, .int x_59776), (0, .ref this), (3, .int x_19)]) hx hb dX12_areaOf_157 hl (k := 3) rfl ex_59777.symm (by decide +kernel) rfl (fun ls hl => ?_)
                    refine lv_goto (tgt := 30) hx hb dX12_areaOf_160 (by decide +kernel) ?_
                    exact ih_58681 x_59776 x_59777 _ _ _ (rg_w h_59778 (by decide +kernel)) (ms_up 1 hm_58678 ex_59777 rfl (by decide +kernel) h_58692 (by decide +kernel) (by decide +kernel)) hF hFr hG hP hD hS (lv_sub hl [2, 3, 1, 0] rfl)
                  refine lv_if_eq (tgt := 153) hx hb dX12_areaOf_146 (by decide +kernel) (fun c_59779 => ?_) (fun c_59779 => ?_)
                  · replace hF := hF.trans (if_pos c_59779)
                    have tc_59784 : (x_59593).toInt = 0 := congrArg Int32.toInt c_59779
                    have h_59785 : rg x_59593 0 0 := rg_and h_59676 (rg_of_eq c_59779 (rg_k (0 : Int32) 0 rfl)) (by decide +kernel)
                    have uh_59785 := h_59785.1
                    have vh_59785 := h_59785.2
                    refine lv_iconst (v := 0) hx hb dX12_areaOf_153 (by decide +kernel) ?_
                    exact K_59766 _ _ _ (rg_w h_59785 (by decide +kernel)) hF hFr hG hP hD hS (lv_sub hl [0, 1, 3] rfl)
                  · replace hF := hF.trans (if_neg c_59779)
                    have tc_59786 : (x_59593).toInt ≠ 0 := fun q => c_59779 (Int32.toInt_inj.mp q)
                    have h_59787 : rg x_59593 1 1 := rg_ne c_59779 h_59676 0 rfl (by decide +kernel)
                    have uh_59787 := h_59787.1
                    have vh_59787 := h_59787.2
                    refine lv_iconst (v := 1) hx hb dX12_areaOf_149 (by decide +kernel) ?_
                    refine lv_goto (tgt := 154) hx hb dX12_areaOf_150 (by decide +kernel) ?_
                    exact K_59773 _ _ _ (rg_w h_59787 (by decide +kernel)) hF hFr hG hP hD hS (lv_sub hl [0, 1, 3] rfl)
                refine lv_icmp_ge (tgt := 142) hx hb dX12_areaOf_52 (by decide +kernel) (fun c_59788 => ?_) (fun c_59788 => ?_)
                · replace hF := hF.trans (if_pos c_59788)
                  have tc_59793 : (ri w_1 2).toInt ≤ (x_59594).toInt := Int32.le_iff_toInt_le.mp c_59788
                  exact K_59751 _ _ _ hF hFr hG hP hD hS (lv_sub hl [0, 1, 2, 3, 4] rfl)
                · replace hF := hF.trans (if_neg c_59788)
                  have tc_59794 : (x_59594).toInt < (ri w_1 2).toInt := Int32.lt_iff_toInt_lt.mp (nle c_59788)
                  have h_59795 : rg x_59594 0 39 := rg_lt1 (nle c_59788) h_59677 h_59678 (by decide +kernel)
                  have uh_59795 := h_59795.1
                  have vh_59795 := h_59795.2
                  have h_59796 : rg (ri w_1 2) 1 40 := rg_lt2 (nle c_59788) h_59677 h_59678 (by decide +kernel)
                  have uh_59796 := h_59796.1
                  have vh_59796 := h_59796.2
                  refine lv_iload hx hb dX12_areaOf_55 (lv_at hl 4 rfl) ?_
                  refine lv_if_ne (tgt := 142) hx hb dX12_areaOf_57 (by decide +kernel) (fun c_59797 => ?_) (fun c_59797 => ?_)
                  · replace hF := hF.trans (if_neg c_59797)
                    have tc_59802 : (x_59593).toInt ≠ 0 := fun q => c_59797 (Int32.toInt_inj.mp q)
                    have h_59803 : rg x_59593 1 1 := rg_ne c_59797 h_59676 0 rfl (by decide +kernel)
                    have uh_59803 := h_59803.1
                    have vh_59803 := h_59803.2
                    exact K_59751 _ _ _ hF hFr hG hP hD hS (lv_sub hl [0, 1, 2, 3, 4] rfl)
                  · replace hF := hF.trans (if_pos c_59797)
                    have tc_59804 : (x_59593).toInt = 0 := congrArg Int32.toInt c_59797
                    have h_59805 : rg x_59593 0 0 := rg_and h_59676 (rg_of_eq c_59797 (rg_k (0 : Int32) 0 rfl)) (by decide +kernel)
                    have uh_59805 := h_59805.1
                    have vh_59805 := h_59805.2
                    refine lv_iload hx hb dX12_areaOf_60 (lv_at hl 3 rfl) ?_
                    refine lv_bipush (v := 32) hx hb dX12_areaOf_62 (by decide +kernel) ?_
                    refine lv_irem hx hb dX12_areaOf_64 (by decide +kernel) ?_
                    refine lv_topi (fun x_59806 ex_59806 => ?_)
                    replace hF := hF.trans (ap_n ex_59806)
                    have h_59807 : rg x_59806 0 31 := rg_of_eq ex_59806 (rg_rem h_58692 rfl (by decide +kernel))
                    have uh_59807 := h_59807.1
                    have vh_59807 := h_59807.2
                    refine lv_aload_n hx hb dX12_areaOf_65 rfl (lv_at hl 0 rfl) ?_
                    refine lv_iload hx hb dX12_areaOf_66 (lv_at hl 5 rfl) ?_
                    refine lv_iconst (v := 2) hx hb dX12_areaOf_68 (by decide +kernel) ?_
                    refine pk_i (va_runV (As := [.int x_59594, .int 2]) (rest := [.int x_59806]) ⟨hx, hb, hml, hown, hts⟩ (s_X12_cellAt_c2 l D t σ I J ri rj rq H.size tg hSH hG.1 this x_59594 hL_this hK_this (rg_w h_59795 (by decide +kernel))) (cwV 2 hts (tw_V tw_361 tw_362 tw_363 tw_5 tw_364) rfl rfl rfl cv_yX12_cellAt_2 ⟨Nat.le_of_ble_eq_true rfl, Nat.le_of_ble_eq_true rfl⟩) ⟨pq_blind, pq_recv hK hP hL_this hK_this (by decide +kernel) rfl, pq_pre hK hN hP hD⟩ rfl rfl hl.1 rfl (lv_room (Nat.le_of_ble_eq_true rfl)) dX12_areaOf_69 ⟨Nat.le_of_ble_eq_true rfl, Nat.le_of_ble_eq_true rfl⟩) hD hS hA (fun x_59808 σ1 μ1 H locs hw_59809 hP hD hS => ?_)
                    obtain ⟨hu_59810, hfn_59813⟩ := hw_59809
                    obtain ⟨hu_59810a, hu_59810b⟩ := Prod.mk.inj hu_59810
                    rw [hu_59810a, hu_59810b] at hP hD
                    replace hF := hF.trans (bn_n hfn_59813)
                    refine lv_isub hx hb dX12_areaOf_72 ?_
                    refine lv_topi (fun x_59815 ex_59815 => ?_)
                    replace hF := hF.trans (ap_n ex_59815)
                    refine lv_istore (lv' := [(8, .int x_59815), (0, .ref this), (3, .int x_19), (4, .int x_57616), (5, .int x_57617), (6, .int x_59593), (7, .int x_59594)]) hx hb dX12_areaOf_73 hl (by decide +kernel) rfl (fun ls hl => ?_)
                    refine lv_iload hx hb dX12_areaOf_75 (lv_at hl 4 rfl) ?_
                    refine lv_bipush (v := 32) hx hb dX12_areaOf_77 (by decide +kernel) ?_
                    refine lv_idiv hx hb dX12_areaOf_79 (by decide +kernel) ?_
                    refine lv_topi (fun x_59816 ex_59816 => ?_)
                    replace hF := hF.trans (ap_n ex_59816)
                    have h_59817 : rg x_59816 0 31 := rg_of_eq ex_59816 (rg_div h_58692 rfl (by decide +kernel))
                    have uh_59817 := h_59817.1
                    have vh_59817 := h_59817.2
                    refine lv_aload_n hx hb dX12_areaOf_80 rfl (lv_at hl 1 rfl) ?_
                    refine lv_iload hx hb dX12_areaOf_81 (lv_at hl 6 rfl) ?_
                    refine lv_iconst (v := 3) hx hb dX12_areaOf_83 (by decide +kernel) ?_
                    refine pk_i (va_runV (As := [.int x_59594, .int 3]) (rest := [.int x_59816]) ⟨hx, hb, hml, hown, hts⟩ (s_X12_cellAt_c3 l D t σ I J ri rj rq H.size tg hSH hG.1 this x_59594 hL_this hK_this (rg_w h_59795 (by decide +kernel))) (cwV 2 hts (tw_V tw_361 tw_362 tw_363 tw_5 tw_364) rfl rfl rfl cv_yX12_cellAt_2 ⟨Nat.le_of_ble_eq_true rfl, Nat.le_of_ble_eq_true rfl⟩) ⟨pq_blind, pq_recv hK hP hL_this hK_this (by decide +kernel) rfl, pq_pre hK hN hP hD⟩ rfl rfl hl.1 rfl (lv_room (Nat.le_of_ble_eq_true rfl)) dX12_areaOf_84 ⟨Nat.le_of_ble_eq_true rfl, Nat.le_of_ble_eq_true rfl⟩) hD hS hA (fun x_59818 σ1 μ1 H locs hw_59819 hP hD hS => ?_)
                    obtain ⟨hu_59820, hfn_59823⟩ := hw_59819
                    obtain ⟨hu_59820a, hu_59820b⟩ := Prod.mk.inj hu_59820
                    rw [hu_59820a, hu_59820b] at hP hD
                    replace hF := hF.trans (bn_n hfn_59823)
                    refine lv_isub hx hb dX12_areaOf_87 ?_
                    refine lv_topi (fun x_59825 ex_59825 => ?_)
                    replace hF := hF.trans (ap_n ex_59825)
                    refine lv_istore (lv' := [(9, .int x_59825), (8, .int x_59815), (0, .ref this), (3, .int x_19), (4, .int x_57616), (5, .int x_57617), (6, .int x_59593), (7, .int x_59594)]) hx hb dX12_areaOf_88 hl (by decide +kernel) rfl (fun ls hl => ?_)
                    refine lv_iload hx hb dX12_areaOf_90 (lv_at hl 1 rfl) ?_
                    refine lv_iload hx hb dX12_areaOf_92 (lv_at hl 1 rfl) ?_
                    refine lv_imul hx hb dX12_areaOf_94 ?_
                    refine lv_topi (fun x_59826 ex_59826 => ?_)
                    replace hF := hF.trans (ap_n ex_59826)
                    refine lv_iload hx hb dX12_areaOf_95 (lv_at hl 0 rfl) ?_
                    refine lv_iload hx hb dX12_areaOf_97 (lv_at hl 0 rfl) ?_
                    refine lv_imul hx hb dX12_areaOf_99 ?_
                    refine lv_topi (fun x_59827 ex_59827 => ?_)
                    replace hF := hF.trans (ap_n ex_59827)
                    refine lv_iadd hx hb dX12_areaOf_100 ?_
                    refine lv_topi (fun x_59828 ex_59828 => ?_)
                    replace hF := hF.trans (ap_n ex_59828)
                    refine lv_aload_n hx hb dX12_areaOf_101 rfl (lv_at hl 2 rfl) ?_
                    refine pg_f (v := .ref w_1) (C := RX12) (T := TX12) (N := 31) hx hb hts (tw_i inlX12) hown hK hP hL_this hK_this (by decide +kernel) rfl 0 (by decide +kernel) (hts _ (tw_c tw_176)) (pq_hv rfl hR_w_1) dX12_areaOf_102 ?_
                    refine lv_bipush (v := 16) hx hb dX12_areaOf_105 (by decide +kernel) ?_
                    refine pl_i hx hb hK hP hL_w_1 hK_w_1 hN_w_1 (vp_in_iff.mpr (by decide +kernel)) dX12_areaOf_107 ?_
                    refine lv_topi (fun x_59829 ex_59829 => ?_)
                    replace hF := hF.trans (ap_n (vR_r hO_w_1 (by decide +kernel) ex_59829))
                    refine lv_aload_n hx hb dX12_areaOf_108 rfl (lv_at hl 2 rfl) ?_
                    refine pg_f (v := .ref w_1) (C := RX12) (T := TX12) (N := 31) hx hb hts (tw_i inlX12) hown hK hP hL_this hK_this (by decide +kernel) rfl 0 (by decide +kernel) (hts _ (tw_c tw_176)) (pq_hv rfl hR_w_1) dX12_areaOf_109 ?_
                    refine lv_bipush (v := 16) hx hb dX12_areaOf_112 (by decide +kernel) ?_
                    refine pl_i hx hb hK hP hL_w_1 hK_w_1 hN_w_1 (vp_in_iff.mpr (by decide +kernel)) dX12_areaOf_114 ?_
                    refine lv_tov x_59829 ex_59829.symm ?_
                    refine lv_imul hx hb dX12_areaOf_115 ?_
                    refine lv_topi (fun x_59830 ex_59830 => ?_)
                    replace hF := hF.trans (ap_n ex_59830)
                    have K_59853 : ∀  (H : Heap) (locs : List Loc) (ls : Array Slot), F = g_X12_areaOf_K134 x_59594 (g_X12_areaOf_L44 (vI 12 σ this I) (vJ 12 σ this J) (vR 12 σ this ri) (vL 12 σ this rj) (vQ 12 σ this rq) x_19 x_57616 x_57617 (g_X12_areaOf_L30 (vI 12 σ this I) (vJ 12 σ this J) (vR 12 σ this ri) (vL 12 σ this rj) (vQ 12 σ this rq) x_19 n_58679) n_59671)  → FR 12 tg σ this (I, J, ri, rj, rq) (I, J, ri, rj, rq) → GM [] tg σ I ri I ri rq → va_P D vwCl (pq_P t σ (I, J, ri, rj, rq)) H → va_D A (pq_P t σ (I, J, ri, rj, rq)) → va_S A s.heap H locs → lv_has ls 10 [(0, .ref this), (3, .int x_19), (4, .int x_57616), (5, .int x_57617), (7, .int x_59594)] → W p l e ({ frames := 4, cells := 0, slots := 0, locals := 93 } : Room) s m (List.toArray ([.ref this, .int a0] : List Value)) below meth c H locs 0 0 Q (F0 m 134 ls [.int 1]) := by
                      intro H locs ls hF hFr hG hP hD hS hl
                      replace hF := hF.trans g_X12_areaOf_K134_e
                      refine lv_istore (lv' := [(6, .int 1), (0, .ref this), (3, .int x_19), (4, .int x_57616), (5, .int x_57617), (7, .int x_59594)]) hx hb dX12_areaOf_134 hl (by decide +kernel) rfl (fun ls hl => ?_)
                      obtain ⟨x_59854, ex_59854⟩ : ∃ y : Int32, y = x_59594 + Int32.ofInt 1 := ⟨_, rfl⟩
                      replace hF := hF.trans (ap_n ex_59854)
                      have h_59855 : rg x_59854 1 40 := rg_of_eq ex_59854 (rg_add h_59795 (rg_k (Int32.ofInt 1) 1 rfl) (by decide +kernel))
                      have uh_59855 := h_59855.1
                      have vh_59855 := h_59855.2
                      have tx_59854 : (x_59854).toInt = (x_59594).toInt + 1 := by rw [ex_59854]; exact i_add_rg (a2 := (x_59594).toInt) (b2 := 1) rfl rfl h_59795 (rg_k (Int32.ofInt 1) 1 rfl) (by decide +kernel)
                      refine lv_iinc (v := x_59854) (lv' := [(7, .int x_59854), (6, .int 1), (0, .ref this), (3, .int x_19), (4, .int x_57616), (5, .int x_57617)]) hx hb dX12_areaOf_136 hl (k := 5) rfl ex_59854.symm (by decide +kernel) rfl (fun ls hl => ?_)
                      refine lv_goto (tgt := 44) hx hb dX12_areaOf_139 (by decide +kernel) ?_
                      exact ih_59673 (1 : Int32) x_59854 _ _ _ (rg_w (rg_k (1 : Int32) 1 rfl) (by decide +kernel)) (rg_w h_59855 (by decide +kernel)) (ms_up 1 hm_59670 ex_59854 rfl (by decide +kernel) h_59795 (by decide +kernel) (by decide +kernel)) hF hFr hG hP hD hS (lv_sub hl [2, 3, 4, 5, 1, 0] rfl)
                    have K_59856 : ∀  (H : Heap) (locs : List Loc) (ls : Array Slot), F = g_X12_areaOf_K134_2 x_59594 (g_X12_areaOf_L44 (vI 12 σ this I) (vJ 12 σ this J) (vR 12 σ this ri) (vL 12 σ this rj) (vQ 12 σ this rq) x_19 x_57616 x_57617 (g_X12_areaOf_L30 (vI 12 σ this I) (vJ 12 σ this J) (vR 12 σ this ri) (vL 12 σ this rj) (vQ 12 σ this rq) x_19 n_58679) n_59671)  → FR 12 tg σ this (I, J, ri, rj, rq) (I, J, ri, rj, rq) → GM [] tg σ I ri I ri rq → va_P D vwCl (pq_P t σ (I, J, ri, rj, rq)) H → va_D A (pq_P t σ (I, J, ri, rj, rq)) → va_S A s.heap H locs → lv_has ls 10 [(0, .ref this), (3, .int x_19), (4, .int x_57616), (5, .int x_57617), (7, .int x_59594)] → W p l e ({ frames := 4, cells := 0, slots := 0, locals := 93 } : Room) s m (List.toArray ([.ref this, .int a0] : List Value)) below meth c H locs 0 0 Q (F0 m 134 ls [.int 0]) := by
                      intro H locs ls hF hFr hG hP hD hS hl
                      replace hF := hF.trans g_X12_areaOf_K134_2_e
                      refine lv_istore (lv' := [(6, .int 0), (0, .ref this), (3, .int x_19), (4, .int x_57616), (5, .int x_57617), (7, .int x_59594)]) hx hb dX12_areaOf_134 hl (by decide +kernel) rfl (fun ls hl => ?_)
                      obtain ⟨x_59857, ex_59857⟩ : ∃ y : Int32, y = x_59594 + Int32.ofInt 1 := ⟨_, rfl⟩
                      replace hF := hF.trans (ap_n ex_59857)
                      have h_59858 : rg x_59857 1 40 := rg_of_eq ex_59857 (rg_add h_59795 (rg_k (Int32.ofInt 1) 1 rfl) (by decide +kernel))
                      have uh_59858 := h_59858.1
                      have vh_59858 := h_59858.2
                      have tx_59857 : (x_59857).toInt = (x_59594).toInt + 1 := by rw [ex_59857]; exact i_add_rg (a2 := (x_59594).toInt) (b2 := 1) rfl rfl h_59795 (rg_k (Int32.ofInt 1) 1 rfl) (by decide +kernel)
                      refine lv_iinc (v := x_59857) (lv' := [(7, .int x_59857), (6, .int 0), (0, .ref this), (3, .int x_19), (4, .int x_57616), (5, .int x_57617)]) hx hb dX12_areaOf_136 hl (k := 5) rfl ex_59857.symm (by decide +kernel) rfl (fun ls hl => ?_)
                      refine lv_goto (tgt := 44) hx hb dX12_areaOf_139 (by decide +kernel) ?_
                      exact ih_59673 (0 : Int32) x_59857 _ _ _ (rg_w (rg_k (0 : Int32) 0 rfl) (by decide +kernel)) (rg_w h_59858 (by decide +kernel)) (ms_up 1 hm_59670 ex_59857 rfl (by decide +kernel) h_59795 (by decide +kernel) (by decide +kernel)) hF hFr hG hP hD hS (lv_sub hl [2, 3, 4, 5, 1, 0] rfl)
                    have K_59859 : ∀  (H : Heap) (locs : List Loc) (ls : Array Slot), F = g_X12_areaOf_K133 x_59594 (g_X12_areaOf_L44 (vI 12 σ this I) (vJ 12 σ this J) (vR 12 σ this ri) (vL 12 σ this rj) (vQ 12 σ this rq) x_19 x_57616 x_57617 (g_X12_areaOf_L30 (vI 12 σ this I) (vJ 12 σ this J) (vR 12 σ this ri) (vL 12 σ this rj) (vQ 12 σ this rq) x_19 n_58679) n_59671)  → FR 12 tg σ this (I, J, ri, rj, rq) (I, J, ri, rj, rq) → GM [] tg σ I ri I ri rq → va_P D vwCl (pq_P t σ (I, J, ri, rj, rq)) H → va_D A (pq_P t σ (I, J, ri, rj, rq)) → va_S A s.heap H locs → lv_has ls 10 [(0, .ref this), (3, .int x_19), (4, .int x_57616), (5, .int x_57617), (7, .int x_59594)] → W p l e ({ frames := 4, cells := 0, slots := 0, locals := 93 } : Room) s m (List.toArray ([.ref this, .int a0] : List Value)) below meth c H locs 0 0 Q (F0 m 133 ls []) := by
                      intro H locs ls hF hFr hG hP hD hS hl
                      replace hF := hF.trans g_X12_areaOf_K133_e
                      refine lv_iconst (v := 0) hx hb dX12_areaOf_133 (by decide +kernel) ?_
                      exact K_59856 _ _ _ hF hFr hG hP hD hS (lv_sub hl [0, 1, 2, 3, 4] rfl)
                    refine lv_icmp_gt (tgt := 133) hx hb dX12_areaOf_116 (by decide +kernel) (fun c_59860 => ?_) (fun c_59860 => ?_)
                    · replace hF := hF.trans (if_pos c_59860)
                      have tc_59865 : (x_59830).toInt < (x_59828).toInt := Int32.lt_iff_toInt_lt.mp c_59860
                      have h_59866 : rg x_59830 (-2147483648) 2147483646 := rg_lt1 c_59860 (rg_full _) (rg_full _) (by decide +kernel)
                      have uh_59866 := h_59866.1
                      have vh_59866 := h_59866.2
                      have h_59867 : rg x_59828 (-2147483647) 2147483647 := rg_lt2 c_59860 (rg_full _) (rg_full _) (by decide +kernel)
                      have uh_59867 := h_59867.1
                      have vh_59867 := h_59867.2
                      exact K_59859 _ _ _ hF hFr hG hP hD hS (lv_sub hl [2, 3, 4, 5, 7] rfl)
                    · replace hF := hF.trans (if_neg c_59860)
                      have tc_59868 : (x_59828).toInt ≤ (x_59830).toInt := Int32.le_iff_toInt_le.mp (nlt c_59860)
                      refine lv_aload_n hx hb dX12_areaOf_119 rfl (lv_at hl 2 rfl) ?_
                      refine lv_iload hx hb dX12_areaOf_120 (lv_at hl 7 rfl) ?_
                      refine lv_iload_n hx hb dX12_areaOf_122 rfl (lv_at hl 3 rfl) ?_
                      refine pk_i (va_runV (As := [.int x_59594, .int x_19]) (rest := []) ⟨hx, hb, hml, hown, hts⟩ (s_X12_wasRock l D t σ I J ri rj rq H.size tg hSH hG.1 this x_59594 x_19 hL_this hK_this (rg_w h_59795 (by decide +kernel)) (rg_w h_29881 (by decide +kernel))) (cwV 2 hts (tw_V tw_1243 tw_1244 tw_1245 tw_5 tw_1246) rfl rfl rfl cv_yX12_wasRock_2 ⟨Nat.le_of_ble_eq_true rfl, Nat.le_of_ble_eq_true rfl⟩) ⟨pq_blind, pq_recv hK hP hL_this hK_this (by decide +kernel) rfl, pq_pre hK hN hP hD⟩ rfl rfl hl.1 rfl (lv_room (Nat.le_of_ble_eq_true rfl)) dX12_areaOf_123 ⟨Nat.le_of_ble_eq_true rfl, Nat.le_of_ble_eq_true rfl⟩) hD hS hA (fun x_59869 σ1 μ1 H locs hw_59870 hP hD hS => ?_)
                      obtain ⟨hu_59871, hfn_59874, hr_59873⟩ := hw_59870
                      obtain ⟨hu_59871a, hu_59871b⟩ := Prod.mk.inj hu_59871
                      rw [hu_59871a, hu_59871b] at hP hD
                      replace hF := hF.trans (bn_n hfn_59874)
                      have h_59876 : rg x_59869 0 1 := by rcases hr_59873 with ⟨q, -⟩ | ⟨q, -⟩ <;> rw [q] <;> exact ⟨by decide +kernel, by decide +kernel⟩
                      have uh_59876 := h_59876.1
                      have vh_59876 := h_59876.2
                      refine lv_if_eq (tgt := 133) hx hb dX12_areaOf_126 (by decide +kernel) (fun c_59877 => ?_) (fun c_59877 => ?_)
                      · replace hF := hF.trans (if_pos c_59877)
                        have tc_59882 : (x_59869).toInt = 0 := congrArg Int32.toInt c_59877
                        have h_59883 : rg x_59869 0 0 := rg_and h_59876 (rg_of_eq c_59877 (rg_k (0 : Int32) 0 rfl)) (by decide +kernel)
                        have uh_59883 := h_59883.1
                        have vh_59883 := h_59883.2
                        exact K_59859 _ _ _ hF hFr hG hP hD hS (lv_sub hl [2, 3, 4, 5, 7] rfl)
                      · replace hF := hF.trans (if_neg c_59877)
                        have tc_59884 : (x_59869).toInt ≠ 0 := fun q => c_59877 (Int32.toInt_inj.mp q)
                        have h_59885 : rg x_59869 1 1 := rg_ne c_59877 h_59876 0 rfl (by decide +kernel)
                        have uh_59885 := h_59885.1
                        have vh_59885 := h_59885.2
                        refine lv_iconst (v := 1) hx hb dX12_areaOf_129 (by decide +kernel) ?_
                        refine lv_goto (tgt := 134) hx hb dX12_areaOf_130 (by decide +kernel) ?_
                        exact K_59853 _ _ _ hF hFr hG hP hD hS (lv_sub hl [2, 3, 4, 5, 7] rfl)
            exact L_59672 _ (0 : Int32) (0 : Int32) _ _ _ (rg_w (rg_k (0 : Int32) 0 rfl) (by decide +kernel)) (rg_w (rg_k (0 : Int32) 0 rfl) (by decide +kernel)) (Nat.lt_succ_self _) hF hFr hG hP hD hS (lv_sub hl [2, 3, 4, 5, 1, 0] rfl)
      exact L_58680 _ (0 : Int32) (0 : Int32) _ _ _ (rg_w (rg_k (0 : Int32) 0 rfl) (by decide +kernel)) (Nat.lt_succ_self _) hF hFr hG hP hD hS (lv_sub hl [3, 2, 1, 0] rfl)
    have K_59886 : ∀  (H : Heap) (locs : List Loc) (ls : Array Slot), F = g_X12_areaOf_K22 a0 (vI 12 σ this I) (vJ 12 σ this J) (vR 12 σ this ri) (vL 12 σ this rj) (vQ 12 σ this rq)  → FR 12 tg σ this (I, J, ri, rj, rq) (I, J, ri, rj, rq) → GM [] tg σ I ri I ri rq → va_P D vwCl (pq_P t σ (I, J, ri, rj, rq)) H → va_D A (pq_P t σ (I, J, ri, rj, rq)) → va_S A s.heap H locs → lv_has ls 10 [(0, .ref this), (1, .int a0)] → W p l e ({ frames := 4, cells := 0, slots := 0, locals := 93 } : Room) s m (List.toArray ([.ref this, .int a0] : List Value)) below meth c H locs 0 0 Q (F0 m 22 ls []) := by
      intro H locs ls hF hFr hG hP hD hS hl
      replace hF := hF.trans g_X12_areaOf_K22_e
      refine lv_iload_n hx hb dX12_areaOf_22 rfl (lv_at hl 1 rfl) ?_
      exact K_29879 a0 _ _ _ (rg_w h_a0 (by decide +kernel)) hF hFr hG hP hD hS (lv_sub hl [0] rfl)
    refine lv_if_lt (tgt := 22) hx hb dX12_areaOf_10 (by decide +kernel) (fun c_59887 => ?_) (fun c_59887 => ?_)
    · replace hF := hF.trans (if_pos c_59887)
      have tc_59892 : (x_2).toInt < 0 := Int32.lt_iff_toInt_lt.mp c_59887
      have h_59893 : rg x_2 (-2147483648) (-1) := rg_lt1 c_59887 (rg_full _) (rg_k (0 : Int32) 0 rfl) (by decide +kernel)
      have uh_59893 := h_59893.1
      have vh_59893 := h_59893.2
      exact K_59886 _ _ _ hF hFr hG hP hD hS (lv_sub hl [1, 2] rfl)
    · replace hF := hF.trans (if_neg c_59887)
      have tc_59894 : 0 ≤ (x_2).toInt := Int32.le_iff_toInt_le.mp (nlt c_59887)
      have h_59895 : rg x_2 0 2147483647 := rg_le2 (nlt c_59887) (rg_k (0 : Int32) 0 rfl) (rg_full _) (by decide +kernel)
      have uh_59895 := h_59895.1
      have vh_59895 := h_59895.2
      refine lv_iload_n hx hb dX12_areaOf_13 rfl (lv_at hl 0 rfl) ?_
      refine lv_iload_n hx hb dX12_areaOf_14 rfl (lv_at hl 2 rfl) ?_
      refine lv_icmp_ge (tgt := 22) hx hb dX12_areaOf_15 (by decide +kernel) (fun c_59896 => ?_) (fun c_59896 => ?_)
      · replace hF := hF.trans (if_pos c_59896)
        have tc_59901 : (a0).toInt ≤ (x_2).toInt := Int32.le_iff_toInt_le.mp c_59896
        exact K_59886 _ _ _ hF hFr hG hP hD hS (lv_sub hl [1, 2] rfl)
      · replace hF := hF.trans (if_neg c_59896)
        have tc_59902 : (x_2).toInt < (a0).toInt := Int32.lt_iff_toInt_lt.mp (nle c_59896)
        have h_59903 : rg x_2 0 598 := rg_lt1 (nle c_59896) h_59895 h_a0 (by decide +kernel)
        have uh_59903 := h_59903.1
        have vh_59903 := h_59903.2
        have h_59904 : rg a0 1 599 := rg_lt2 (nle c_59896) h_59895 h_a0 (by decide +kernel)
        have uh_59904 := h_59904.1
        have vh_59904 := h_59904.2
        refine lv_iload_n hx hb dX12_areaOf_18 rfl (lv_at hl 0 rfl) ?_
        refine lv_goto (tgt := 23) hx hb dX12_areaOf_19 (by decide +kernel) ?_
        exact K_29879 x_2 _ _ _ (rg_w h_59903 (by decide +kernel)) hF hFr hG hP hD hS (lv_sub hl [1] rfl)
  exact go _ _ _ hP hD hS hl

set_option maxRecDepth 100000 in
def g_X12_personAt_c4 (a0 : Int32) (I : Nat → Int32) (J : Nat → Int64) (ri : Nat → Nat → Int32) (rj : Nat → Nat → Int64) (rq : Nat → Nat → Option Nat) : Int32 × vM := (ap1 ((12 : Int32) * a0) fun (x_1 : Int32) => (ap1 ((740 : Int32) + x_1) fun (x_3 : Int32) => (ap1 (x_3 + (4 : Int32)) fun (x_5 : Int32) => (ap1 (ri 384 (x_5).toNatClampNeg) fun (x_7 : Int32) => (x_7, I, J, ri, rj, rq)))))
set_option maxRecDepth 100000 in
theorem g_X12_personAt_c4_e {a0 : Int32} {I : Nat → Int32} {J : Nat → Int64} {ri : Nat → Nat → Int32} {rj : Nat → Nat → Int64} {rq : Nat → Nat → Option Nat} : g_X12_personAt_c4 a0 I J ri rj rq = (ap1 ((12 : Int32) * a0) fun (x_1 : Int32) => (ap1 ((740 : Int32) + x_1) fun (x_3 : Int32) => (ap1 (x_3 + (4 : Int32)) fun (x_5 : Int32) => (ap1 (ri 384 (x_5).toNatClampNeg) fun (x_7 : Int32) => (x_7, I, J, ri, rj, rq))))) := rfl
set_option maxHeartbeats 4000000 in
set_option maxRecDepth 100000 in
theorem s_X12_personAt_c4 (l : Launch) (D : va_G) (t : pq_T) (σ : pq_S) (I : Nat → Nat → Int32) (J : Nat → Nat → Int64) (ri : Nat → Nat → Int32) (rj : Nat → Nat → Int64) (rq : Nat → Nat → Option Nat) (sz : Nat) (tg : Nat → Nat) (hSH : SH σ tg) (hG0 : GT tg I ri) (this : Nat) (a0 : Int32) (hL_this : this ∈ σ.1) (hK_this : σ.2.1 this = 12) (h_a0 : rg a0 0 39) (this_a : Nat) (hR_this_a : σ.2.2.1 384 this = some this_a) (hL_this_a : this_a ∈ σ.1) (hK_this_a : σ.2.1 this_a = 13) (hN_this_a : σ.2.2.2 this_a = 12720) (hT_this_a : tg this_a = 384) : MetI l yX12_personAt (wa yX12_personAt cX12_personAt 3 (some .int)) ({ frames := 0, cells := 0, slots := 0, locals := 0 }) [.ref this, .int a0, .int 4] D t σ (I, J, ri, rj, rq) sz 0 0 (fun (r : Int32) (u : pq_S × pq_M) => u = (σ, I, J, ri, rj, rq) ∧ (r = ri this_a (744 + 12 * a0.toNatClampNeg)) ∧ g_X12_personAt_c4 a0 (vI 12 σ this I) (vJ 12 σ this J) (vR 12 σ this ri) (vL 12 σ this rj) (vQ 12 σ this rq) = (r, (vI 12 σ this I), (vJ 12 σ this J), (vR 12 σ this ri), (vL 12 σ this rj), (vQ 12 σ this rq))) := by
  refine Met.ofW (cc := cX12_personAt) (maxL := 3) (ret := (some .int)) (by decide +kernel) rfl ?_
  intro p e s m args below meth c s₁ B hml hv
  obtain ⟨rfl, hsz, hP, hK, hD0, hN⟩ := hv
  have hx := B.exec
  have hb := B.bytes
  have hr := B.returns
  have hts := atoms_spec (ws := (wa yX12_personAt cX12_personAt 3 (some .int))) B.pre
  have hown : s.vm.findClass RX12 = some m.cls := findClass_of_methodNamed B.named
  have hlocks := B.notSynchronized
  subst hsz
  have hD : va_D (pq_B t σ (I, J, ri, rj, rq) s.heap.size) (pq_P t σ (I, J, ri, rj, rq)) := hD0.self
  generalize hAe : pq_B t σ (I, J, ri, rj, rq) s.heap.size = A at hD ⊢
  have hA : ∀ q : Nat, s.heap.size ≤ q → A q := fun q h => by rw [← hAe]; exact Or.inr h
  have hS : va_S A s.heap s.heap [] := va_S.rf
  have hG : GM [] tg σ I ri I ri rq := ⟨hG0, fun _ _ _ => rfl, fun _ _ _ _ _ => rfl, fun _ _ _ _ _ _ => rfl⟩
  have hl := lv_entry ([.ref this, .int a0, .int 4]) (n := 3) (Nat.le_of_ble_eq_true rfl)
  rw [lg_entry_eq]
  generalize (lg_sl ([.ref this, .int a0, .int 4]) ++ List.replicate (3 - (lg_sl ([.ref this, .int a0, .int 4])).length) Slot.unset).toArray = ls at hl ⊢
  have hl : lv_has ls 3 [(0, .ref this), (1, .int a0), (2, .int 4)] := hl
  refine q_gen (fun Q hQ => ?_)
  have go : ∀ (H : Heap) (locs : List Loc) (ls : Array Slot), va_P D vwCl (pq_P t σ (I, J, ri, rj, rq)) H → va_D A (pq_P t σ (I, J, ri, rj, rq)) → va_S A s.heap H locs → lv_has ls 3 [(0, .ref this), (1, .int a0), (2, .int 4)] → W p l e ({ frames := 0, cells := 0, slots := 0, locals := 0 } : Room) s m (List.toArray ([.ref this, .int a0, .int 4] : List Value)) below meth c H locs 0 0 Q (F0 m 0 ls []) := by
    intro H locs ls hP hD hS hl
    have hO_this : this = vo σ 12 this := rfl
    have hVT : VT 12 σ tg this := vt_12 hSH hL_this hK_this
    have hFr : FR 12 tg σ this (I, J, ri, rj, rq) (I, J, ri, rj, rq) := fr_rf
    have hO_this_a : this_a = vrow σ 384 this := vo_k (c := 12) hO_this hR_this_a
    obtain ⟨F, hF0⟩ : ∃ F, F = g_X12_personAt_c4 a0 (vI 12 σ this I) (vJ 12 σ this J) (vR 12 σ this ri) (vL 12 σ this rj) (vQ 12 σ this rq) := ⟨_, rfl⟩
    have hF := hF0.trans g_X12_personAt_c4_e
    refine lv_aload_n hx hb dX12_personAt_0 rfl (lv_at hl 0 rfl) ?_
    refine pg_f (v := .ref this_a) (C := RX12) (T := TX12) (N := 31) hx hb hts (tw_i inlX12) hown hK hP hL_this hK_this (by decide +kernel) rfl 0 (by decide +kernel) (hts _ (tw_c tw_176)) (pq_hv rfl hR_this_a) dX12_personAt_1 ?_
    refine lv_sipush (v := 740) hx hb dX12_personAt_4 (by decide +kernel) ?_
    refine lv_bipush (v := 12) hx hb dX12_personAt_7 (by decide +kernel) ?_
    refine lv_iload_n hx hb dX12_personAt_9 rfl (lv_at hl 1 rfl) ?_
    refine lv_imul hx hb dX12_personAt_10 ?_
    refine lv_topi (fun x_1 ex_1 => ?_)
    replace hF := hF.trans (ap_n ex_1)
    have h_2 : rg x_1 0 468 := rg_of_eq ex_1 (rg_mul (rg_k (12 : Int32) 12 rfl) h_a0 (by decide +kernel))
    have uh_2 := h_2.1
    have vh_2 := h_2.2
    have tx_1 : (x_1).toInt = 12 * (a0).toInt := by rw [ex_1]; exact i_mul_rg (a2 := 12) (b2 := (a0).toInt) rfl rfl (rg_k (12 : Int32) 12 rfl) h_a0 (by decide +kernel)
    refine lv_iadd hx hb dX12_personAt_11 ?_
    refine lv_topi (fun x_3 ex_3 => ?_)
    replace hF := hF.trans (ap_n ex_3)
    have h_4 : rg x_3 740 1208 := rg_of_eq ex_3 (rg_add (rg_k (740 : Int32) 740 rfl) h_2 (by decide +kernel))
    have uh_4 := h_4.1
    have vh_4 := h_4.2
    have tx_3 : (x_3).toInt = 740 + (x_1).toInt := by rw [ex_3]; exact i_add_rg (a2 := 740) (b2 := (x_1).toInt) rfl rfl (rg_k (740 : Int32) 740 rfl) h_2 (by decide +kernel)
    refine lv_iload_n hx hb dX12_personAt_12 rfl (lv_at hl 2 rfl) ?_
    refine lv_iadd hx hb dX12_personAt_13 ?_
    refine lv_topi (fun x_5 ex_5 => ?_)
    replace hF := hF.trans (ap_n ex_5)
    have h_6 : rg x_5 744 1212 := rg_of_eq ex_5 (rg_add h_4 (rg_k (4 : Int32) 4 rfl) (by decide +kernel))
    have uh_6 := h_6.1
    have vh_6 := h_6.2
    have tx_5 : (x_5).toInt = (x_3).toInt + 4 := by rw [ex_5]; exact i_add_rg (a2 := (x_3).toInt) (b2 := 4) rfl rfl h_4 (rg_k (4 : Int32) 4 rfl) (by decide +kernel)
    refine pl_i hx hb hK hP hL_this_a hK_this_a hN_this_a (rg_in h_6 (by decide +kernel)) dX12_personAt_14 ?_
    refine lv_topi (fun x_7 ex_7 => ?_)
    replace hF := hF.trans (ap_n (vR_r hO_this_a (by decide +kernel) ex_7))
    subst hQ
    exact W.iret (v := x_7) hx hb hr (fun t1 ht hW => ⟨⟨x_7, (σ, I, J, ri, rj, rq), rfl, ⟨rfl, (show x_7 = ri this_a (744 + 12 * a0.toNatClampNeg) from ex_7.trans (congrArg (ri this_a) (by have z0 := clampE a0; have z1 := clampE x_5; omega))), (hF0.symm.trans hF)⟩, by rw [ht]; exact hP, va_K.moved hW.alike hK, hD⟩, hS.F ht⟩) hS.2.2 dX12_personAt_15
  exact go _ _ _ hP hD hS hl

set_option maxRecDepth 100000 in
def g_X12_fundGoes_K141 (x_9199 : Int32) (k_g_X12_fundGoes_L104 : (Int32) → (Nat → Nat → Int32) → vM) (ri_9297 : Nat → Nat → Int32) : vM := (ap1 (x_9199 + Int32.ofInt 1) fun (x_9301 : Int32) => (k_g_X12_fundGoes_L104 x_9301 ri_9297))
set_option maxRecDepth 100000 in
theorem g_X12_fundGoes_K141_e {x_9199 : Int32} {k_g_X12_fundGoes_L104 : (Int32) → (Nat → Nat → Int32) → vM} {ri_9297 : Nat → Nat → Int32} : g_X12_fundGoes_K141 x_9199 k_g_X12_fundGoes_L104 ri_9297 = (ap1 (x_9199 + Int32.ofInt 1) fun (x_9301 : Int32) => (k_g_X12_fundGoes_L104 x_9301 ri_9297)) := rfl
set_option maxRecDepth 100000 in
def g_X12_fundGoes_L104 (a0 : Int32) (J : Nat → Int64) (ri : Nat → Nat → Int32) (rj : Nat → Nat → Int64) (rq : Nat → Nat → Option Nat) (I_8658 : Nat → Int32) : Nat → (Int32) → (Nat → Nat → Int32) → vM
  | 0, x_9199, ri_9200 => (I_8658, J, ri_9200, rj, rq)
  | n_9243 + 1, x_9199, ri_9200 => (ap1 (ri 384 2) fun (y_9249 : Int32) => (if (y_9249) ≤ x_9199 then (ap1 (ri_9200 384 ((8 : Int32)).toNatClampNeg) fun (x_9256 : Int32) => (if x_9256 < (0 : Int32) then (ap1 (va_up I_8658 410 (1 : Int32)) fun (I_9264 : Nat → Int32) => (ap1 (ri_9200 384 ((12 : Int32)).toNatClampNeg) fun (x_9265 : Int32) => (if (0 : Int32) ≤ x_9265 then (I_9264, J, ri_9200, rj, rq) else (ap1 (va_up ri_9200 384 (upd (ri_9200 384) ((12 : Int32)).toNatClampNeg a0)) fun (r_9275 : Nat → Nat → Int32) => (I_9264, J, r_9275, rj, rq))))) else (I_8658, J, ri_9200, rj, rq))) else (bnI (g_X12_cellAt_c6 x_9199 I_8658 J ri_9200 rj rq) fun (x_9281 : Int32) (_ : Nat → Int32) (_ : Nat → Int64) (_ : Nat → Nat → Int32) (_ : Nat → Nat → Int64) (_ : Nat → Nat → Option Nat) => (if x_9281 ≤ (0 : Int32) then (g_X12_fundGoes_K141 x_9199 (g_X12_fundGoes_L104 a0 J ri rj rq I_8658 n_9243) ri_9200) else (ap1 (ri_9200 384 ((8 : Int32)).toNatClampNeg) fun (x_9312 : Int32) => (ap1 (ri_9200 384 ((17 : Int32)).toNatClampNeg) fun (x_9313 : Int32) => (ap1 (x_9312 - x_9313) fun (x_9314 : Int32) => (ap1 (va_up ri_9200 384 (upd (ri_9200 384) ((8 : Int32)).toNatClampNeg x_9314)) fun (r_9315 : Nat → Nat → Int32) => (g_X12_fundGoes_K141 x_9199 (g_X12_fundGoes_L104 a0 J ri rj rq I_8658 n_9243) r_9315)))))))))
set_option maxRecDepth 100000 in
theorem g_X12_fundGoes_L104_e {a0 : Int32} {J : Nat → Int64} {ri : Nat → Nat → Int32} {rj : Nat → Nat → Int64} {rq : Nat → Nat → Option Nat} {I_8658 : Nat → Int32} {n_9243 : Nat} {x_9199 : Int32} {ri_9200 : Nat → Nat → Int32} : g_X12_fundGoes_L104 a0 J ri rj rq I_8658 (n_9243 + 1) x_9199 ri_9200 = (ap1 (ri 384 2) fun (y_9249 : Int32) => (if (y_9249) ≤ x_9199 then (ap1 (ri_9200 384 ((8 : Int32)).toNatClampNeg) fun (x_9256 : Int32) => (if x_9256 < (0 : Int32) then (ap1 (va_up I_8658 410 (1 : Int32)) fun (I_9264 : Nat → Int32) => (ap1 (ri_9200 384 ((12 : Int32)).toNatClampNeg) fun (x_9265 : Int32) => (if (0 : Int32) ≤ x_9265 then (I_9264, J, ri_9200, rj, rq) else (ap1 (va_up ri_9200 384 (upd (ri_9200 384) ((12 : Int32)).toNatClampNeg a0)) fun (r_9275 : Nat → Nat → Int32) => (I_9264, J, r_9275, rj, rq))))) else (I_8658, J, ri_9200, rj, rq))) else (bnI (g_X12_cellAt_c6 x_9199 I_8658 J ri_9200 rj rq) fun (x_9281 : Int32) (_ : Nat → Int32) (_ : Nat → Int64) (_ : Nat → Nat → Int32) (_ : Nat → Nat → Int64) (_ : Nat → Nat → Option Nat) => (if x_9281 ≤ (0 : Int32) then (g_X12_fundGoes_K141 x_9199 (g_X12_fundGoes_L104 a0 J ri rj rq I_8658 n_9243) ri_9200) else (ap1 (ri_9200 384 ((8 : Int32)).toNatClampNeg) fun (x_9312 : Int32) => (ap1 (ri_9200 384 ((17 : Int32)).toNatClampNeg) fun (x_9313 : Int32) => (ap1 (x_9312 - x_9313) fun (x_9314 : Int32) => (ap1 (va_up ri_9200 384 (upd (ri_9200 384) ((8 : Int32)).toNatClampNeg x_9314)) fun (r_9315 : Nat → Nat → Int32) => (g_X12_fundGoes_K141 x_9199 (g_X12_fundGoes_L104 a0 J ri rj rq I_8658 n_9243) r_9315))))))))) := rfl
set_option maxRecDepth 100000 in
def g_X12_fundGoes_K40 (x_7978 : Int32) (k_g_X12_fundGoes_L2 : (Int32) → (Nat → Nat → Int32) → vM) (ri_9346 : Nat → Nat → Int32) : vM := (ap1 (x_7978 + Int32.ofInt 1) fun (x_9350 : Int32) => (k_g_X12_fundGoes_L2 x_9350 ri_9346))
set_option maxRecDepth 100000 in
theorem g_X12_fundGoes_K40_e {x_7978 : Int32} {k_g_X12_fundGoes_L2 : (Int32) → (Nat → Nat → Int32) → vM} {ri_9346 : Nat → Nat → Int32} : g_X12_fundGoes_K40 x_7978 k_g_X12_fundGoes_L2 ri_9346 = (ap1 (x_7978 + Int32.ofInt 1) fun (x_9350 : Int32) => (k_g_X12_fundGoes_L2 x_9350 ri_9346)) := rfl
set_option maxRecDepth 100000 in
def g_X12_fundGoes_L2 (a0 : Int32) (I : Nat → Int32) (J : Nat → Int64) (ri : Nat → Nat → Int32) (rj : Nat → Nat → Int64) (rq : Nat → Nat → Option Nat) : Nat → (Int32) → (Nat → Nat → Int32) → vM
  | 0, x_7978, ri_7979 => (I, J, ri_7979, rj, rq)
  | n_8644 + 1, x_7978, ri_7979 => (ap1 (ri 384 5) fun (y_8651 : Int32) => (if (y_8651) ≤ x_7978 then (ap1 (va_up I 410 (0 : Int32)) fun (I_8658 : Nat → Int32) => (ap1 (I_8658 407) fun (y_8659 : Int32) => (if (y_8659) = (1 : Int32) then (I_8658, J, ri_7979, rj, rq) else (bnI (g_X12_areaOf a0 I_8658 J ri_7979 rj rq) fun (x_8665 : Int32) (_ : Nat → Int32) (_ : Nat → Int64) (_ : Nat → Nat → Int32) (_ : Nat → Nat → Int64) (_ : Nat → Nat → Option Nat) => (ap1 (va_up ri_7979 384 (upd (ri_7979 384) ((18 : Int32)).toNatClampNeg x_8665)) fun (r_8672 : Nat → Nat → Int32) => (ap1 (r_8672 384 ((8 : Int32)).toNatClampNeg) fun (x_8673 : Int32) => (bnI (g_X12_numberOf (9 : Int32) a0 (10 : Int32) I_8658 J r_8672 rj rq) fun (x_8674 : Int32) (_ : Nat → Int32) (_ : Nat → Int64) (_ : Nat → Nat → Int32) (_ : Nat → Nat → Int64) (_ : Nat → Nat → Option Nat) => (ap1 (r_8672 384 ((18 : Int32)).toNatClampNeg) fun (x_8681 : Int32) => (ap1 (x_8674 * x_8681) fun (x_8682 : Int32) => (ap1 (x_8682 / (100 : Int32)) fun (x_8683 : Int32) => (ap1 (x_8673 + x_8683) fun (x_8684 : Int32) => (ap1 (va_up r_8672 384 (upd (r_8672 384) ((8 : Int32)).toNatClampNeg x_8684)) fun (r_8685 : Nat → Nat → Int32) => (g_X12_fundGoes_L104 a0 J ri rj rq I_8658 ((40 - ((0 : Int32)).toInt).toNat + 1) (0 : Int32) r_8685))))))))))))) else (bnI (g_X12_personAt_c3 x_7978 I J ri_7979 rj rq) fun (x_9321 : Int32) (_ : Nat → Int32) (_ : Nat → Int64) (_ : Nat → Nat → Int32) (_ : Nat → Nat → Int64) (_ : Nat → Nat → Option Nat) => (if x_9321 = (200 : Int32) then (ap1 (ri_7979 384 ((8 : Int32)).toNatClampNeg) fun (x_9359 : Int32) => (bnI (g_X12_personAt_c4 x_7978 I J ri_7979 rj rq) fun (x_9360 : Int32) (_ : Nat → Int32) (_ : Nat → Int64) (_ : Nat → Nat → Int32) (_ : Nat → Nat → Int64) (_ : Nat → Nat → Option Nat) => (ap1 (x_9359 + x_9360) fun (x_9368 : Int32) => (ap1 (va_up ri_7979 384 (upd (ri_7979 384) ((8 : Int32)).toNatClampNeg x_9368)) fun (r_9369 : Nat → Nat → Int32) => (g_X12_fundGoes_K40 x_7978 (g_X12_fundGoes_L2 a0 I J ri rj rq n_8644) r_9369))))) else (g_X12_fundGoes_K40 x_7978 (g_X12_fundGoes_L2 a0 I J ri rj rq n_8644) ri_7979)))))
set_option maxRecDepth 100000 in
theorem g_X12_fundGoes_L2_e {a0 : Int32} {I : Nat → Int32} {J : Nat → Int64} {ri : Nat → Nat → Int32} {rj : Nat → Nat → Int64} {rq : Nat → Nat → Option Nat} {n_8644 : Nat} {x_7978 : Int32} {ri_7979 : Nat → Nat → Int32} : g_X12_fundGoes_L2 a0 I J ri rj rq (n_8644 + 1) x_7978 ri_7979 = (ap1 (ri 384 5) fun (y_8651 : Int32) => (if (y_8651) ≤ x_7978 then (ap1 (va_up I 410 (0 : Int32)) fun (I_8658 : Nat → Int32) => (ap1 (I_8658 407) fun (y_8659 : Int32) => (if (y_8659) = (1 : Int32) then (I_8658, J, ri_7979, rj, rq) else (bnI (g_X12_areaOf a0 I_8658 J ri_7979 rj rq) fun (x_8665 : Int32) (_ : Nat → Int32) (_ : Nat → Int64) (_ : Nat → Nat → Int32) (_ : Nat → Nat → Int64) (_ : Nat → Nat → Option Nat) => (ap1 (va_up ri_7979 384 (upd (ri_7979 384) ((18 : Int32)).toNatClampNeg x_8665)) fun (r_8672 : Nat → Nat → Int32) => (ap1 (r_8672 384 ((8 : Int32)).toNatClampNeg) fun (x_8673 : Int32) => (bnI (g_X12_numberOf (9 : Int32) a0 (10 : Int32) I_8658 J r_8672 rj rq) fun (x_8674 : Int32) (_ : Nat → Int32) (_ : Nat → Int64) (_ : Nat → Nat → Int32) (_ : Nat → Nat → Int64) (_ : Nat → Nat → Option Nat) => (ap1 (r_8672 384 ((18 : Int32)).toNatClampNeg) fun (x_8681 : Int32) => (ap1 (x_8674 * x_8681) fun (x_8682 : Int32) => (ap1 (x_8682 / (100 : Int32)) fun (x_8683 : Int32) => (ap1 (x_8673 + x_8683) fun (x_8684 : Int32) => (ap1 (va_up r_8672 384 (upd (r_8672 384) ((8 : Int32)).toNatClampNeg x_8684)) fun (r_8685 : Nat → Nat → Int32) => (g_X12_fundGoes_L104 a0 J ri rj rq I_8658 ((40 - ((0 : Int32)).toInt).toNat + 1) (0 : Int32) r_8685))))))))))))) else (bnI (g_X12_personAt_c3 x_7978 I J ri_7979 rj rq) fun (x_9321 : Int32) (_ : Nat → Int32) (_ : Nat → Int64) (_ : Nat → Nat → Int32) (_ : Nat → Nat → Int64) (_ : Nat → Nat → Option Nat) => (if x_9321 = (200 : Int32) then (ap1 (ri_7979 384 ((8 : Int32)).toNatClampNeg) fun (x_9359 : Int32) => (bnI (g_X12_personAt_c4 x_7978 I J ri_7979 rj rq) fun (x_9360 : Int32) (_ : Nat → Int32) (_ : Nat → Int64) (_ : Nat → Nat → Int32) (_ : Nat → Nat → Int64) (_ : Nat → Nat → Option Nat) => (ap1 (x_9359 + x_9360) fun (x_9368 : Int32) => (ap1 (va_up ri_7979 384 (upd (ri_7979 384) ((8 : Int32)).toNatClampNeg x_9368)) fun (r_9369 : Nat → Nat → Int32) => (g_X12_fundGoes_K40 x_7978 (g_X12_fundGoes_L2 a0 I J ri rj rq n_8644) r_9369))))) else (g_X12_fundGoes_K40 x_7978 (g_X12_fundGoes_L2 a0 I J ri rj rq n_8644) ri_7979))))) := rfl
set_option maxRecDepth 100000 in
def g_X12_fundGoes (a0 : Int32) (I : Nat → Int32) (J : Nat → Int64) (ri : Nat → Nat → Int32) (rj : Nat → Nat → Int64) (rq : Nat → Nat → Option Nat) : vM := (g_X12_fundGoes_L2 a0 I J ri rj rq ((40 - ((0 : Int32)).toInt).toNat + 1) (0 : Int32) ri)
set_option maxRecDepth 100000 in
theorem g_X12_fundGoes_e {a0 : Int32} {I : Nat → Int32} {J : Nat → Int64} {ri : Nat → Nat → Int32} {rj : Nat → Nat → Int64} {rq : Nat → Nat → Option Nat} : g_X12_fundGoes a0 I J ri rj rq = (g_X12_fundGoes_L2 a0 I J ri rj rq ((40 - ((0 : Int32)).toInt).toNat + 1) (0 : Int32) ri) := rfl
set_option maxHeartbeats 4000000 in
set_option maxRecDepth 100000 in
theorem s_X12_fundGoes (l : Launch) (D : va_G) (t : pq_T) (σ : pq_S) (I : Nat → Nat → Int32) (J : Nat → Nat → Int64) (ri : Nat → Nat → Int32) (rj : Nat → Nat → Int64) (rq : Nat → Nat → Option Nat) (sz : Nat) (tg : Nat → Nat) (hSH : SH σ tg) (hG0 : GT tg I ri) (this : Nat) (a0 : Int32) (hL_this : this ∈ σ.1) (hK_this : σ.2.1 this = 12) (h_a0 : rg a0 0 599) : MetV l yX12_fundGoes (wa yX12_fundGoes cX12_fundGoes 3 none) ({ frames := 5, cells := 0, slots := 0, locals := 122 }) [.ref this, .int a0] D t σ (I, J, ri, rj, rq) sz 0 0 (fun (u : pq_S × pq_M) => ∃ I' : Nat → Nat → Int32, ∃ ri' : Nat → Nat → Int32, u = (σ, I', J, ri', rj, rq) ∧ GM [] tg σ I ri I' ri' rq ∧ g_X12_fundGoes a0 (vI 12 σ this I) (vJ 12 σ this J) (vR 12 σ this ri) (vL 12 σ this rj) (vQ 12 σ this rq) = ((vI 12 σ this I'), (vJ 12 σ this J), (vR 12 σ this ri'), (vL 12 σ this rj), (vQ 12 σ this rq)) ∧ FR 12 tg σ this (I, J, ri, rj, rq) (I', J, ri', rj, rq)) := by
  refine Met.ofW (cc := cX12_fundGoes) (maxL := 3) (ret := none) (by decide +kernel) rfl ?_
  intro p e s m args below meth c s₁ B hml hv
  obtain ⟨rfl, hsz, hP, hK, hD0, hN⟩ := hv
  have hx := B.exec
  have hb := B.bytes
  have hr := B.returns
  have hts := atoms_spec (ws := (wa yX12_fundGoes cX12_fundGoes 3 none)) B.pre
  have hown : s.vm.findClass RX12 = some m.cls := findClass_of_methodNamed B.named
  have hlocks := B.notSynchronized
  subst hsz
  have hD : va_D (pq_B t σ (I, J, ri, rj, rq) s.heap.size) (pq_P t σ (I, J, ri, rj, rq)) := hD0.self
  generalize hAe : pq_B t σ (I, J, ri, rj, rq) s.heap.size = A at hD ⊢
  have hA : ∀ q : Nat, s.heap.size ≤ q → A q := fun q h => by rw [← hAe]; exact Or.inr h
  have hS : va_S A s.heap s.heap [] := va_S.rf
  have hG : GM [] tg σ I ri I ri rq := ⟨hG0, fun _ _ _ => rfl, fun _ _ _ _ _ => rfl, fun _ _ _ _ _ _ => rfl⟩
  have hl := lv_entry ([.ref this, .int a0]) (n := 3) (Nat.le_of_ble_eq_true rfl)
  rw [lg_entry_eq]
  generalize (lg_sl ([.ref this, .int a0]) ++ List.replicate (3 - (lg_sl ([.ref this, .int a0])).length) Slot.unset).toArray = ls at hl ⊢
  have hl : lv_has ls 3 [(0, .ref this), (1, .int a0)] := hl
  refine q_gen (fun Q hQ => ?_)
  have go : ∀ (H : Heap) (locs : List Loc) (ls : Array Slot), va_P D vwCl (pq_P t σ (I, J, ri, rj, rq)) H → va_D A (pq_P t σ (I, J, ri, rj, rq)) → va_S A s.heap H locs → lv_has ls 3 [(0, .ref this), (1, .int a0)] → W p l e ({ frames := 5, cells := 0, slots := 0, locals := 122 } : Room) s m (List.toArray ([.ref this, .int a0] : List Value)) below meth c H locs 0 0 Q (F0 m 0 ls []) := by
    intro H locs ls hP hD hS hl
    have hO_this : this = vo σ 12 this := rfl
    have hVT : VT 12 σ tg this := vt_12 hSH hL_this hK_this
    have hFr : FR 12 tg σ this (I, J, ri, rj, rq) (I, J, ri, rj, rq) := fr_rf
    obtain ⟨F, hF0⟩ : ∃ F, F = g_X12_fundGoes a0 (vI 12 σ this I) (vJ 12 σ this J) (vR 12 σ this ri) (vL 12 σ this rj) (vQ 12 σ this rq) := ⟨_, rfl⟩
    have hF := hF0.trans g_X12_fundGoes_e
    refine lv_iconst (v := 0) hx hb dX12_fundGoes_0 (by decide +kernel) ?_
    refine lv_istore_n (lv' := [(2, .int 0), (0, .ref this), (1, .int a0)]) hx hb dX12_fundGoes_1 rfl hl (by decide +kernel) rfl (fun ls hl => ?_)
    have L_8645 : ∀ (n_8644 : Nat) (x_7978 : Int32) (ri_7979 : Nat → Nat → Int32) (H : Heap) (locs : List Loc) (ls : Array Slot), rg x_7978 0 40 → (40 - (x_7978).toInt).toNat < n_8644 → F = g_X12_fundGoes_L2 a0 (vI 12 σ this I) (vJ 12 σ this J) (vR 12 σ this ri) (vL 12 σ this rj) (vQ 12 σ this rq) n_8644 x_7978 (vR 12 σ this ri_7979) → FR 12 tg σ this (I, J, ri, rj, rq) (I, J, ri_7979, rj, rq) → GM [] tg σ I ri I ri_7979 rq → va_P D vwCl (pq_P t σ (I, J, ri_7979, rj, rq)) H → va_D A (pq_P t σ (I, J, ri_7979, rj, rq)) → va_S A s.heap H locs → lv_has ls 3 [(0, .ref this), (1, .int a0), (2, .int x_7978)] → W p l e ({ frames := 5, cells := 0, slots := 0, locals := 122 } : Room) s m (List.toArray ([.ref this, .int a0] : List Value)) below meth c H locs 0 0 Q (F0 m 2 ls []) := by
      intro n_8644
      induction n_8644 with
      | zero => intro x_7978 ri_7979 H locs ls h_8648 hm_8643 hF hFr hG hP hD hS hl; exact absurd hm_8643 (Nat.not_lt_zero _)
      | succ n_8644 ih_8646 =>
        intro x_7978 ri_7979 H locs ls h_8648 hm_8643 hF hFr hG hP hD hS hl
        have uh_8648 := h_8648.1
        have vh_8648 := h_8648.2
        replace hF := hF.trans g_X12_fundGoes_L2_e
        refine lv_iload_n hx hb dX12_fundGoes_2 rfl (lv_at hl 2 rfl) ?_
        refine lv_aload_n hx hb dX12_fundGoes_3 rfl (lv_at hl 0 rfl) ?_
        obtain ⟨w_8649, hR_w_8649, hL_w_8649, hK_w_8649, hN_w_8649, hT_w_8649⟩ := sh_a hSH 384 (ci := 12) (kd := 13) (len := 12720) rfl (by decide +kernel) hL_this hK_this
        have hO_w_8649 : w_8649 = vrow σ 384 this := vo_k (c := 12) hO_this hR_w_8649
        refine pg_f (v := .ref w_8649) (C := RX12) (T := TX12) (N := 31) hx hb hts (tw_i inlX12) hown hK hP hL_this hK_this (by decide +kernel) rfl 0 (by decide +kernel) (hts _ (tw_c tw_176)) (pq_hv rfl hR_w_8649) dX12_fundGoes_4 ?_
        refine lv_iconst (v := 5) hx hb dX12_fundGoes_7 (by decide +kernel) ?_
        refine pl_i hx hb hK hP hL_w_8649 hK_w_8649 hN_w_8649 (vp_in_iff.mpr (by decide +kernel)) dX12_fundGoes_8 ?_
        refine lv_tov (ri w_8649 5) (hG.2.2.1 w_8649 hT_w_8649 5 (by decide +kernel) (by decide +kernel)) ?_
        have h_8650 : rg (ri w_8649 5) 0 40 := GM.z0 hG0 (by rw [hT_w_8649]; decide) (i := 5) (k := 5) (by decide +kernel) rfl
        have uh_8650 := h_8650.1
        have vh_8650 := h_8650.2
        replace hF := hF.trans (ap_n (vR_r hO_w_8649 (by decide +kernel) rfl))
        refine lv_icmp_ge (tgt := 46) hx hb dX12_fundGoes_9 (by decide +kernel) (fun c_8652 => ?_) (fun c_8652 => ?_)
        · replace hF := hF.trans (if_pos c_8652)
          have tc_8657 : (ri w_8649 5).toInt ≤ (x_7978).toInt := Int32.le_iff_toInt_le.mp c_8652
          refine lv_aload_n hx hb dX12_fundGoes_46 rfl (lv_at hl 0 rfl) ?_
          refine lv_iconst (v := 0) hx hb dX12_fundGoes_47 (by decide +kernel) ?_
          refine pp_i (v := 0) (ty := .int) (C := RX12) (T := TX12) (N := 31) hx hb hts (tw_i inlX12) tyX12 tyX12_ok nmX12 hown hK hP hD hS hL_this hK_this (by decide +kernel) rfl 26 410 (by decide +kernel) (hts _ (tw_c tw_1237)) rfl (tyX12_ok 26 (by decide +kernel)) rfl rfl (Nat.le_of_ble_eq_true rfl) (ps_410 _ _ _ _ _) dX12_fundGoes_48 (fun I_8658 H locs eI_8658 hP hD hS => ?_)
          replace hFr := fr_I (f := 410) hFr hO_this (by decide +kernel) eI_8658
          replace hF := hF.trans (ap_n (vI_st (f := 410) hO_this (by decide +kernel) eI_8658))
          have hG := GM.wI hG 410 rfl eI_8658 (rg_w (rg_k (0 : Int32) 0 rfl) (by decide +kernel)) (by decide +kernel)
          refine lv_aload_n hx hb dX12_fundGoes_51 rfl (lv_at hl 0 rfl) ?_
          refine pg_f (v := .int (I_8658 407 this)) (C := RX12) (T := TX12) (N := 31) hx hb hts (tw_i inlX12) hown hK hP hL_this hK_this (by decide +kernel) rfl 23 (by decide +kernel) (hts _ (tw_c tw_1238)) rfl dX12_fundGoes_52 ?_
          replace hF := hF.trans (ap_n (vI_e (f := 407) hO_this (by decide +kernel)))
          refine lv_iconst (v := 1) hx hb dX12_fundGoes_55 (by decide +kernel) ?_
          refine lv_icmp_ne (tgt := 60) hx hb dX12_fundGoes_56 (by decide +kernel) (fun c_8660 => ?_) (fun c_8660 => ?_)
          · replace hF := hF.trans (if_neg c_8660)
            have tc_8664 : (I_8658 407 this).toInt ≠ 1 := fun q => c_8660 (Int32.toInt_inj.mp q)
            refine lv_aload_n hx hb dX12_fundGoes_60 rfl (lv_at hl 0 rfl) ?_
            refine pg_f (v := .ref w_8649) (C := RX12) (T := TX12) (N := 31) hx hb hts (tw_i inlX12) hown hK hP hL_this hK_this (by decide +kernel) rfl 0 (by decide +kernel) (hts _ (tw_c tw_176)) (pq_hv rfl hR_w_8649) dX12_fundGoes_61 ?_
            refine lv_bipush (v := 18) hx hb dX12_fundGoes_64 (by decide +kernel) ?_
            refine lv_aload_n hx hb dX12_fundGoes_66 rfl (lv_at hl 0 rfl) ?_
            refine lv_iload_n hx hb dX12_fundGoes_67 rfl (lv_at hl 1 rfl) ?_
            refine pk_i (va_runV (As := [.int a0]) (rest := [.int 18, .ref w_8649]) ⟨hx, hb, hml, hown, hts⟩ (s_X12_areaOf l D t σ I_8658 J ri_7979 rj rq H.size tg hSH hG.1 this a0 hL_this hK_this (rg_w h_a0 (by decide +kernel))) (cwV 1 hts (tw_V tw_1239 tw_1240 tw_1241 tw_5 tw_1242) rfl rfl rfl cv_yX12_areaOf_1 ⟨Nat.le_of_ble_eq_true rfl, Nat.le_of_ble_eq_true rfl⟩) ⟨pq_blind, pq_recv hK hP hL_this hK_this (by decide +kernel) rfl, pq_pre hK hN hP hD⟩ rfl rfl hl.1 rfl (lv_room (Nat.le_of_ble_eq_true rfl)) dX12_fundGoes_68 ⟨Nat.le_of_ble_eq_true rfl, Nat.le_of_ble_eq_true rfl⟩) hD hS hA (fun x_8665 σ1 μ1 H locs hw_8666 hP hD hS => ?_)
            obtain ⟨hu_8667, hfn_8670⟩ := hw_8666
            obtain ⟨hu_8667a, hu_8667b⟩ := Prod.mk.inj hu_8667
            rw [hu_8667a, hu_8667b] at hP hD
            replace hF := hF.trans (bn_n hfn_8670)
            refine pt_i hx hb hK hP hD hS hL_w_8649 hK_w_8649 hN_w_8649 (vp_in_iff.mpr (by decide +kernel)) dX12_fundGoes_71 (fun r_8672 H locs er_8672 hP hD hS => ?_)
            replace hFr := fr_R hFr hO_w_8649 (by decide +kernel) er_8672
            replace hF := hF.trans (ap_n (vR_st hVT hO_w_8649 (by decide +kernel) er_8672))
            have hG := GM.wz hG hT_w_8649 (by decide +kernel) er_8672 (show zn ((18 : Int32)).toNatClampNeg = 18 from by decide +kernel) rfl (rg_w (rg_full _) (by decide +kernel)) (by decide +kernel)
            refine lv_aload_n hx hb dX12_fundGoes_72 rfl (lv_at hl 0 rfl) ?_
            refine pg_f (v := .ref w_8649) (C := RX12) (T := TX12) (N := 31) hx hb hts (tw_i inlX12) hown hK hP hL_this hK_this (by decide +kernel) rfl 0 (by decide +kernel) (hts _ (tw_c tw_176)) (pq_hv rfl hR_w_8649) dX12_fundGoes_73 ?_
            refine lv_bipush (v := 8) hx hb dX12_fundGoes_76 (by decide +kernel) ?_
            refine lv_dup2_11 hx hb dX12_fundGoes_78 rfl rfl ?_
            refine pl_i hx hb hK hP hL_w_8649 hK_w_8649 hN_w_8649 (vp_in_iff.mpr (by decide +kernel)) dX12_fundGoes_79 ?_
            refine lv_topi (fun x_8673 ex_8673 => ?_)
            replace hF := hF.trans (ap_n (vR_r hO_w_8649 (by decide +kernel) ex_8673))
            refine lv_aload_n hx hb dX12_fundGoes_80 rfl (lv_at hl 0 rfl) ?_
            refine lv_bipush (v := 9) hx hb dX12_fundGoes_81 (by decide +kernel) ?_
            refine lv_iload_n hx hb dX12_fundGoes_83 rfl (lv_at hl 1 rfl) ?_
            refine lv_bipush (v := 10) hx hb dX12_fundGoes_84 (by decide +kernel) ?_
            refine pk_i (va_runV (As := [.int 9, .int a0, .int 10]) (rest := [.int x_8673, .int 8, .ref w_8649]) ⟨hx, hb, hml, hown, hts⟩ (s_X12_numberOf l D t σ I_8658 J r_8672 rj rq H.size tg hSH hG.1 this (9 : Int32) a0 (10 : Int32) hL_this hK_this w_8649 hR_w_8649 hL_w_8649 hK_w_8649 hN_w_8649 hT_w_8649) (cwV 3 hts (tw_V tw_1016 tw_1017 tw_1018 tw_5 tw_1019) rfl rfl rfl cv_yX12_numberOf_3 ⟨Nat.le_of_ble_eq_true rfl, Nat.le_of_ble_eq_true rfl⟩) ⟨pq_blind, pq_recv hK hP hL_this hK_this (by decide +kernel) rfl, pq_pre hK hN hP hD⟩ rfl rfl hl.1 rfl (lv_room (Nat.le_of_ble_eq_true rfl)) dX12_fundGoes_86 ⟨Nat.le_of_ble_eq_true rfl, Nat.le_of_ble_eq_true rfl⟩) hD hS hA (fun x_8674 σ1 μ1 H locs hw_8675 hP hD hS => ?_)
            obtain ⟨hu_8676, hfn_8679⟩ := hw_8675
            obtain ⟨hu_8676a, hu_8676b⟩ := Prod.mk.inj hu_8676
            rw [hu_8676a, hu_8676b] at hP hD
            replace hF := hF.trans (bn_n hfn_8679)
            refine lv_aload_n hx hb dX12_fundGoes_89 rfl (lv_at hl 0 rfl) ?_
            refine pg_f (v := .ref w_8649) (C := RX12) (T := TX12) (N := 31) hx hb hts (tw_i inlX12) hown hK hP hL_this hK_this (by decide +kernel) rfl 0 (by decide +kernel) (hts _ (tw_c tw_176)) (pq_hv rfl hR_w_8649) dX12_fundGoes_90 ?_
            refine lv_bipush (v := 18) hx hb dX12_fundGoes_93 (by decide +kernel) ?_
            refine pl_i hx hb hK hP hL_w_8649 hK_w_8649 hN_w_8649 (vp_in_iff.mpr (by decide +kernel)) dX12_fundGoes_95 ?_
            refine lv_topi (fun x_8681 ex_8681 => ?_)
            replace hF := hF.trans (ap_n (vR_r hO_w_8649 (by decide +kernel) ex_8681))
            refine lv_imul hx hb dX12_fundGoes_96 ?_
            refine lv_topi (fun x_8682 ex_8682 => ?_)
            replace hF := hF.trans (ap_n ex_8682)
            refine lv_bipush (v := 100) hx hb dX12_fundGoes_97 (by decide +kernel) ?_
            refine lv_idiv hx hb dX12_fundGoes_99 (by decide +kernel) ?_
            refine lv_topi (fun x_8683 ex_8683 => ?_)
            replace hF := hF.trans (ap_n ex_8683)
            refine lv_iadd hx hb dX12_fundGoes_100 ?_
            refine lv_topi (fun x_8684 ex_8684 => ?_)
            replace hF := hF.trans (ap_n ex_8684)
            refine pt_i hx hb hK hP hD hS hL_w_8649 hK_w_8649 hN_w_8649 (vp_in_iff.mpr (by decide +kernel)) dX12_fundGoes_101 (fun r_8685 H locs er_8685 hP hD hS => ?_)
            replace hFr := fr_R hFr hO_w_8649 (by decide +kernel) er_8685
            replace hF := hF.trans (ap_n (vR_st hVT hO_w_8649 (by decide +kernel) er_8685))
            have hG := GM.wz hG hT_w_8649 (by decide +kernel) er_8685 (show zn ((8 : Int32)).toNatClampNeg = 8 from by decide +kernel) rfl (rg_w (rg_full _) (by decide +kernel)) (by decide +kernel)
            refine lv_iconst (v := 0) hx hb dX12_fundGoes_102 (by decide +kernel) ?_
            refine lv_istore_n (lv' := [(2, .int 0), (0, .ref this), (1, .int a0)]) hx hb dX12_fundGoes_103 rfl hl (by decide +kernel) rfl (fun ls hl => ?_)
            have L_9244 : ∀ (n_9243 : Nat) (x_9199 : Int32) (ri_9200 : Nat → Nat → Int32) (H : Heap) (locs : List Loc) (ls : Array Slot), rg x_9199 0 40 → (40 - (x_9199).toInt).toNat < n_9243 → F = g_X12_fundGoes_L104 a0 (vJ 12 σ this J) (vR 12 σ this ri) (vL 12 σ this rj) (vQ 12 σ this rq) (vI 12 σ this I_8658) n_9243 x_9199 (vR 12 σ this ri_9200) → FR 12 tg σ this (I, J, ri, rj, rq) (I_8658, J, ri_9200, rj, rq) → GM [] tg σ I ri I_8658 ri_9200 rq → va_P D vwCl (pq_P t σ (I_8658, J, ri_9200, rj, rq)) H → va_D A (pq_P t σ (I_8658, J, ri_9200, rj, rq)) → va_S A s.heap H locs → lv_has ls 3 [(0, .ref this), (1, .int a0), (2, .int x_9199)] → W p l e ({ frames := 5, cells := 0, slots := 0, locals := 122 } : Room) s m (List.toArray ([.ref this, .int a0] : List Value)) below meth c H locs 0 0 Q (F0 m 104 ls []) := by
              intro n_9243
              induction n_9243 with
              | zero => intro x_9199 ri_9200 H locs ls h_9247 hm_9242 hF hFr hG hP hD hS hl; exact absurd hm_9242 (Nat.not_lt_zero _)
              | succ n_9243 ih_9245 =>
                intro x_9199 ri_9200 H locs ls h_9247 hm_9242 hF hFr hG hP hD hS hl
                have uh_9247 := h_9247.1
                have vh_9247 := h_9247.2
                replace hF := hF.trans g_X12_fundGoes_L104_e
                refine lv_iload_n hx hb dX12_fundGoes_104 rfl (lv_at hl 2 rfl) ?_
                refine lv_aload_n hx hb dX12_fundGoes_105 rfl (lv_at hl 0 rfl) ?_
                refine pg_f (v := .ref w_8649) (C := RX12) (T := TX12) (N := 31) hx hb hts (tw_i inlX12) hown hK hP hL_this hK_this (by decide +kernel) rfl 0 (by decide +kernel) (hts _ (tw_c tw_176)) (pq_hv rfl hR_w_8649) dX12_fundGoes_106 ?_
                refine lv_iconst (v := 2) hx hb dX12_fundGoes_109 (by decide +kernel) ?_
                refine pl_i hx hb hK hP hL_w_8649 hK_w_8649 hN_w_8649 (vp_in_iff.mpr (by decide +kernel)) dX12_fundGoes_110 ?_
                refine lv_tov (ri w_8649 2) (hG.2.2.1 w_8649 hT_w_8649 2 (by decide +kernel) (by decide +kernel)) ?_
                have h_9248 : rg (ri w_8649 2) 0 40 := GM.z0 hG0 (by rw [hT_w_8649]; decide) (i := 2) (k := 2) (by decide +kernel) rfl
                have uh_9248 := h_9248.1
                have vh_9248 := h_9248.2
                replace hF := hF.trans (ap_n (vR_r hO_w_8649 (by decide +kernel) rfl))
                refine lv_icmp_ge (tgt := 147) hx hb dX12_fundGoes_111 (by decide +kernel) (fun c_9250 => ?_) (fun c_9250 => ?_)
                · replace hF := hF.trans (if_pos c_9250)
                  have tc_9255 : (ri w_8649 2).toInt ≤ (x_9199).toInt := Int32.le_iff_toInt_le.mp c_9250
                  refine lv_aload_n hx hb dX12_fundGoes_147 rfl (lv_at hl 0 rfl) ?_
                  refine pg_f (v := .ref w_8649) (C := RX12) (T := TX12) (N := 31) hx hb hts (tw_i inlX12) hown hK hP hL_this hK_this (by decide +kernel) rfl 0 (by decide +kernel) (hts _ (tw_c tw_176)) (pq_hv rfl hR_w_8649) dX12_fundGoes_148 ?_
                  refine lv_bipush (v := 8) hx hb dX12_fundGoes_151 (by decide +kernel) ?_
                  refine pl_i hx hb hK hP hL_w_8649 hK_w_8649 hN_w_8649 (vp_in_iff.mpr (by decide +kernel)) dX12_fundGoes_153 ?_
                  refine lv_topi (fun x_9256 ex_9256 => ?_)
                  replace hF := hF.trans (ap_n (vR_r hO_w_8649 (by decide +kernel) ex_9256))
                  refine lv_if_lt (tgt := 158) hx hb dX12_fundGoes_154 (by decide +kernel) (fun c_9257 => ?_) (fun c_9257 => ?_)
                  · replace hF := hF.trans (if_pos c_9257)
                    have tc_9262 : (x_9256).toInt < 0 := Int32.lt_iff_toInt_lt.mp c_9257
                    have h_9263 : rg x_9256 (-2147483648) (-1) := rg_lt1 c_9257 (rg_full _) (rg_k (0 : Int32) 0 rfl) (by decide +kernel)
                    have uh_9263 := h_9263.1
                    have vh_9263 := h_9263.2
                    refine lv_aload_n hx hb dX12_fundGoes_158 rfl (lv_at hl 0 rfl) ?_
                    refine lv_iconst (v := 1) hx hb dX12_fundGoes_159 (by decide +kernel) ?_
                    refine pp_i (v := 1) (ty := .int) (C := RX12) (T := TX12) (N := 31) hx hb hts (tw_i inlX12) tyX12 tyX12_ok nmX12 hown hK hP hD hS hL_this hK_this (by decide +kernel) rfl 26 410 (by decide +kernel) (hts _ (tw_c tw_1237)) rfl (tyX12_ok 26 (by decide +kernel)) rfl rfl (Nat.le_of_ble_eq_true rfl) (ps_410 _ _ _ _ _) dX12_fundGoes_160 (fun I_9264 H locs eI_9264 hP hD hS => ?_)
                    replace hFr := fr_I (f := 410) hFr hO_this (by decide +kernel) eI_9264
                    replace hF := hF.trans (ap_n (vI_st (f := 410) hO_this (by decide +kernel) eI_9264))
                    have hG := GM.wI hG 410 rfl eI_9264 (rg_w (rg_k (1 : Int32) 1 rfl) (by decide +kernel)) (by decide +kernel)
                    refine lv_aload_n hx hb dX12_fundGoes_163 rfl (lv_at hl 0 rfl) ?_
                    refine pg_f (v := .ref w_8649) (C := RX12) (T := TX12) (N := 31) hx hb hts (tw_i inlX12) hown hK hP hL_this hK_this (by decide +kernel) rfl 0 (by decide +kernel) (hts _ (tw_c tw_176)) (pq_hv rfl hR_w_8649) dX12_fundGoes_164 ?_
                    refine lv_bipush (v := 12) hx hb dX12_fundGoes_167 (by decide +kernel) ?_
                    refine pl_i hx hb hK hP hL_w_8649 hK_w_8649 hN_w_8649 (vp_in_iff.mpr (by decide +kernel)) dX12_fundGoes_169 ?_
                    refine lv_topi (fun x_9265 ex_9265 => ?_)
                    replace hF := hF.trans (ap_n (vR_r hO_w_8649 (by decide +kernel) ex_9265))
                    refine lv_if_ge (tgt := 181) hx hb dX12_fundGoes_170 (by decide +kernel) (fun c_9266 => ?_) (fun c_9266 => ?_)
                    · replace hF := hF.trans (if_pos c_9266)
                      have tc_9271 : 0 ≤ (x_9265).toInt := Int32.le_iff_toInt_le.mp c_9266
                      have h_9272 : rg x_9265 0 2147483647 := rg_le2 c_9266 (rg_k (0 : Int32) 0 rfl) (rg_full _) (by decide +kernel)
                      have uh_9272 := h_9272.1
                      have vh_9272 := h_9272.2
                      subst hQ
                      exact W.vret hx hb hr (fun t1 ht hW => ⟨⟨(σ, I_9264, J, ri_9200, rj, rq), rfl, ⟨I_9264, ri_9200, rfl, hG, (hF0.symm.trans hF), hFr⟩, by rw [ht]; exact hP, va_K.moved hW.alike hK, hD⟩, hS.F ht⟩) hS.2.2 dX12_fundGoes_181
                    · replace hF := hF.trans (if_neg c_9266)
                      have tc_9273 : (x_9265).toInt < 0 := Int32.lt_iff_toInt_lt.mp (nle c_9266)
                      have h_9274 : rg x_9265 (-2147483648) (-1) := rg_lt1 (nle c_9266) (rg_full _) (rg_k (0 : Int32) 0 rfl) (by decide +kernel)
                      have uh_9274 := h_9274.1
                      have vh_9274 := h_9274.2
                      refine lv_aload_n hx hb dX12_fundGoes_173 rfl (lv_at hl 0 rfl) ?_
                      refine pg_f (v := .ref w_8649) (C := RX12) (T := TX12) (N := 31) hx hb hts (tw_i inlX12) hown hK hP hL_this hK_this (by decide +kernel) rfl 0 (by decide +kernel) (hts _ (tw_c tw_176)) (pq_hv rfl hR_w_8649) dX12_fundGoes_174 ?_
                      refine lv_bipush (v := 12) hx hb dX12_fundGoes_177 (by decide +kernel) ?_
                      refine lv_iload_n hx hb dX12_fundGoes_179 rfl (lv_at hl 1 rfl) ?_
                      refine pt_i hx hb hK hP hD hS hL_w_8649 hK_w_8649 hN_w_8649 (vp_in_iff.mpr (by decide +kernel)) dX12_fundGoes_180 (fun r_9275 H locs er_9275 hP hD hS => ?_)
                      replace hFr := fr_R hFr hO_w_8649 (by decide +kernel) er_9275
                      replace hF := hF.trans (ap_n (vR_st hVT hO_w_8649 (by decide +kernel) er_9275))
                      have hG := GM.wz hG hT_w_8649 (by decide +kernel) er_9275 (show zn ((12 : Int32)).toNatClampNeg = 12 from by decide +kernel) rfl (rg_w h_a0 (by decide +kernel)) (by decide +kernel)
                      subst hQ
                      exact W.vret hx hb hr (fun t1 ht hW => ⟨⟨(σ, I_9264, J, r_9275, rj, rq), rfl, ⟨I_9264, r_9275, rfl, hG, (hF0.symm.trans hF), hFr⟩, by rw [ht]; exact hP, va_K.moved hW.alike hK, hD⟩, hS.F ht⟩) hS.2.2 dX12_fundGoes_181
                  · replace hF := hF.trans (if_neg c_9257)
                    have tc_9276 : 0 ≤ (x_9256).toInt := Int32.le_iff_toInt_le.mp (nlt c_9257)
                    have h_9277 : rg x_9256 0 2147483647 := rg_le2 (nlt c_9257) (rg_k (0 : Int32) 0 rfl) (rg_full _) (by decide +kernel)
                    have uh_9277 := h_9277.1
                    have vh_9277 := h_9277.2
                    subst hQ
                    exact W.vret hx hb hr (fun t1 ht hW => ⟨⟨(σ, I_8658, J, ri_9200, rj, rq), rfl, ⟨I_8658, ri_9200, rfl, hG, (hF0.symm.trans hF), hFr⟩, by rw [ht]; exact hP, va_K.moved hW.alike hK, hD⟩, hS.F ht⟩) hS.2.2 dX12_fundGoes_157
                · replace hF := hF.trans (if_neg c_9250)
                  have tc_9278 : (x_9199).toInt < (ri w_8649 2).toInt := Int32.lt_iff_toInt_lt.mp (nle c_9250)
                  have h_9279 : rg x_9199 0 39 := rg_lt1 (nle c_9250) h_9247 h_9248 (by decide +kernel)
                  have uh_9279 := h_9279.1
                  have vh_9279 := h_9279.2
                  have h_9280 : rg (ri w_8649 2) 1 40 := rg_lt2 (nle c_9250) h_9247 h_9248 (by decide +kernel)
                  have uh_9280 := h_9280.1
                  have vh_9280 := h_9280.2
                  refine lv_aload_n hx hb dX12_fundGoes_114 rfl (lv_at hl 0 rfl) ?_
                  refine lv_iload_n hx hb dX12_fundGoes_115 rfl (lv_at hl 2 rfl) ?_
                  refine lv_bipush (v := 6) hx hb dX12_fundGoes_116 (by decide +kernel) ?_
                  refine pk_i (va_runV (As := [.int x_9199, .int 6]) (rest := []) ⟨hx, hb, hml, hown, hts⟩ (s_X12_cellAt_c6 l D t σ I_8658 J ri_9200 rj rq H.size tg hSH hG.1 this x_9199 hL_this hK_this (rg_w h_9279 (by decide +kernel))) (cwV 2 hts (tw_V tw_361 tw_362 tw_363 tw_5 tw_364) rfl rfl rfl cv_yX12_cellAt_2 ⟨Nat.le_of_ble_eq_true rfl, Nat.le_of_ble_eq_true rfl⟩) ⟨pq_blind, pq_recv hK hP hL_this hK_this (by decide +kernel) rfl, pq_pre hK hN hP hD⟩ rfl rfl hl.1 rfl (lv_room (Nat.le_of_ble_eq_true rfl)) dX12_fundGoes_118 ⟨Nat.le_of_ble_eq_true rfl, Nat.le_of_ble_eq_true rfl⟩) hD hS hA (fun x_9281 σ1 μ1 H locs hw_9282 hP hD hS => ?_)
                  obtain ⟨hu_9283, hfn_9286⟩ := hw_9282
                  obtain ⟨hu_9283a, hu_9283b⟩ := Prod.mk.inj hu_9283
                  rw [hu_9283a, hu_9283b] at hP hD
                  replace hF := hF.trans (bn_n hfn_9286)
                  have K_9300 : ∀  (ri_9297 : Nat → Nat → Int32) (H : Heap) (locs : List Loc) (ls : Array Slot), F = g_X12_fundGoes_K141 x_9199 (g_X12_fundGoes_L104 a0 (vJ 12 σ this J) (vR 12 σ this ri) (vL 12 σ this rj) (vQ 12 σ this rq) (vI 12 σ this I_8658) n_9243) (vR 12 σ this ri_9297) → FR 12 tg σ this (I, J, ri, rj, rq) (I_8658, J, ri_9297, rj, rq) → GM [] tg σ I ri I_8658 ri_9297 rq → va_P D vwCl (pq_P t σ (I_8658, J, ri_9297, rj, rq)) H → va_D A (pq_P t σ (I_8658, J, ri_9297, rj, rq)) → va_S A s.heap H locs → lv_has ls 3 [(0, .ref this), (1, .int a0), (2, .int x_9199)] → W p l e ({ frames := 5, cells := 0, slots := 0, locals := 122 } : Room) s m (List.toArray ([.ref this, .int a0] : List Value)) below meth c H locs 0 0 Q (F0 m 141 ls []) := by
                    intro ri_9297 H locs ls hF hFr hG hP hD hS hl
                    replace hF := hF.trans g_X12_fundGoes_K141_e
                    obtain ⟨x_9301, ex_9301⟩ : ∃ y : Int32, y = x_9199 + Int32.ofInt 1 := ⟨_, rfl⟩
                    replace hF := hF.trans (ap_n ex_9301)
                    have h_9302 : rg x_9301 1 40 := rg_of_eq ex_9301 (rg_add h_9279 (rg_k (Int32.ofInt 1) 1 rfl) (by decide +kernel))
                    have uh_9302 := h_9302.1
                    have vh_9302 := h_9302.2
                    have tx_9301 : (x_9301).toInt = (x_9199).toInt + 1 := by rw [ex_9301]; exact i_add_rg (a2 := (x_9199).toInt) (b2 := 1) rfl rfl h_9279 (rg_k (Int32.ofInt 1) 1 rfl) (by decide +kernel)
                    refine lv_iinc (v := x_9301) (lv' := [(2, .int x_9301), (0, .ref this), (1, .int a0)]) hx hb dX12_fundGoes_141 hl (k := 2) rfl ex_9301.symm (by decide +kernel) rfl (fun ls hl => ?_)
                    refine lv_goto (tgt := 104) hx hb dX12_fundGoes_144 (by decide +kernel) ?_
                    exact ih_9245 x_9301 ri_9297 _ _ _ (rg_w h_9302 (by decide +kernel)) (ms_up 1 hm_9242 ex_9301 rfl (by decide +kernel) h_9279 (by decide +kernel) (by decide +kernel)) hF hFr hG hP hD hS (lv_sub hl [1, 2, 0] rfl)
                  refine lv_if_le (tgt := 141) hx hb dX12_fundGoes_121 (by decide +kernel) (fun c_9303 => ?_) (fun c_9303 => ?_)
                  · replace hF := hF.trans (if_pos c_9303)
                    have tc_9308 : (x_9281).toInt ≤ 0 := Int32.le_iff_toInt_le.mp c_9303
                    have h_9309 : rg x_9281 (-2147483648) 0 := rg_le1 c_9303 (rg_full _) (rg_k (0 : Int32) 0 rfl) (by decide +kernel)
                    have uh_9309 := h_9309.1
                    have vh_9309 := h_9309.2
                    exact K_9300 ri_9200 _ _ _ hF hFr hG hP hD hS (lv_sub hl [0, 1, 2] rfl)
                  · replace hF := hF.trans (if_neg c_9303)
                    have tc_9310 : 0 < (x_9281).toInt := Int32.lt_iff_toInt_lt.mp (nle c_9303)
                    have h_9311 : rg x_9281 1 2147483647 := rg_lt2 (nle c_9303) (rg_k (0 : Int32) 0 rfl) (rg_full _) (by decide +kernel)
                    have uh_9311 := h_9311.1
                    have vh_9311 := h_9311.2
                    refine lv_aload_n hx hb dX12_fundGoes_124 rfl (lv_at hl 0 rfl) ?_
                    refine pg_f (v := .ref w_8649) (C := RX12) (T := TX12) (N := 31) hx hb hts (tw_i inlX12) hown hK hP hL_this hK_this (by decide +kernel) rfl 0 (by decide +kernel) (hts _ (tw_c tw_176)) (pq_hv rfl hR_w_8649) dX12_fundGoes_125 ?_
                    refine lv_bipush (v := 8) hx hb dX12_fundGoes_128 (by decide +kernel) ?_
                    refine lv_dup2_11 hx hb dX12_fundGoes_130 rfl rfl ?_
                    refine pl_i hx hb hK hP hL_w_8649 hK_w_8649 hN_w_8649 (vp_in_iff.mpr (by decide +kernel)) dX12_fundGoes_131 ?_
                    refine lv_topi (fun x_9312 ex_9312 => ?_)
                    replace hF := hF.trans (ap_n (vR_r hO_w_8649 (by decide +kernel) ex_9312))
                    refine lv_aload_n hx hb dX12_fundGoes_132 rfl (lv_at hl 0 rfl) ?_
                    refine pg_f (v := .ref w_8649) (C := RX12) (T := TX12) (N := 31) hx hb hts (tw_i inlX12) hown hK hP hL_this hK_this (by decide +kernel) rfl 0 (by decide +kernel) (hts _ (tw_c tw_176)) (pq_hv rfl hR_w_8649) dX12_fundGoes_133 ?_
                    refine lv_bipush (v := 17) hx hb dX12_fundGoes_136 (by decide +kernel) ?_
                    refine pl_i hx hb hK hP hL_w_8649 hK_w_8649 hN_w_8649 (vp_in_iff.mpr (by decide +kernel)) dX12_fundGoes_138 ?_
                    refine lv_topi (fun x_9313 ex_9313 => ?_)
                    replace hF := hF.trans (ap_n (vR_r hO_w_8649 (by decide +kernel) ex_9313))
                    refine lv_isub hx hb dX12_fundGoes_139 ?_
                    refine lv_topi (fun x_9314 ex_9314 => ?_)
                    replace hF := hF.trans (ap_n ex_9314)
                    refine pt_i hx hb hK hP hD hS hL_w_8649 hK_w_8649 hN_w_8649 (vp_in_iff.mpr (by decide +kernel)) dX12_fundGoes_140 (fun r_9315 H locs er_9315 hP hD hS => ?_)
                    replace hFr := fr_R hFr hO_w_8649 (by decide +kernel) er_9315
                    replace hF := hF.trans (ap_n (vR_st hVT hO_w_8649 (by decide +kernel) er_9315))
                    have hG := GM.wz hG hT_w_8649 (by decide +kernel) er_9315 (show zn ((8 : Int32)).toNatClampNeg = 8 from by decide +kernel) rfl (rg_w (rg_full _) (by decide +kernel)) (by decide +kernel)
                    exact K_9300 r_9315 _ _ _ hF hFr hG hP hD hS (lv_sub hl [0, 1, 2] rfl)
            exact L_9244 _ (0 : Int32) r_8685 _ _ _ (rg_w (rg_k (0 : Int32) 0 rfl) (by decide +kernel)) (Nat.lt_succ_self _) hF hFr hG hP hD hS (lv_sub hl [1, 2, 0] rfl)
          · replace hF := hF.trans (if_pos c_8660)
            have tc_9316 : (I_8658 407 this).toInt = 1 := congrArg Int32.toInt c_8660
            have h_9317 : rg (I_8658 407 this) 1 1 := rg_and (rg_full _) (rg_of_eq c_8660 (rg_k (1 : Int32) 1 rfl)) (by decide +kernel)
            have uh_9317 := h_9317.1
            have vh_9317 := h_9317.2
            subst hQ
            exact W.vret hx hb hr (fun t1 ht hW => ⟨⟨(σ, I_8658, J, ri_7979, rj, rq), rfl, ⟨I_8658, ri_7979, rfl, hG, (hF0.symm.trans hF), hFr⟩, by rw [ht]; exact hP, va_K.moved hW.alike hK, hD⟩, hS.F ht⟩) hS.2.2 dX12_fundGoes_59
        · replace hF := hF.trans (if_neg c_8652)
          have tc_9318 : (x_7978).toInt < (ri w_8649 5).toInt := Int32.lt_iff_toInt_lt.mp (nle c_8652)
          have h_9319 : rg x_7978 0 39 := rg_lt1 (nle c_8652) h_8648 h_8650 (by decide +kernel)
          have uh_9319 := h_9319.1
          have vh_9319 := h_9319.2
          have h_9320 : rg (ri w_8649 5) 1 40 := rg_lt2 (nle c_8652) h_8648 h_8650 (by decide +kernel)
          have uh_9320 := h_9320.1
          have vh_9320 := h_9320.2
          refine lv_aload_n hx hb dX12_fundGoes_12 rfl (lv_at hl 0 rfl) ?_
          refine lv_iload_n hx hb dX12_fundGoes_13 rfl (lv_at hl 2 rfl) ?_
          refine lv_iconst (v := 3) hx hb dX12_fundGoes_14 (by decide +kernel) ?_
          refine pk_i (va_runV (As := [.int x_7978, .int 3]) (rest := []) ⟨hx, hb, hml, hown, hts⟩ (s_X12_personAt_c3 l D t σ I J ri_7979 rj rq H.size tg hSH hG.1 this x_7978 hL_this hK_this (rg_w h_9319 (by decide +kernel)) w_8649 hR_w_8649 hL_w_8649 hK_w_8649 hN_w_8649 hT_w_8649) (cwV 2 hts (tw_V tw_437 tw_438 tw_439 tw_5 tw_440) rfl rfl rfl cv_yX12_personAt_2 ⟨Nat.le_of_ble_eq_true rfl, Nat.le_of_ble_eq_true rfl⟩) ⟨pq_blind, pq_recv hK hP hL_this hK_this (by decide +kernel) rfl, pq_pre hK hN hP hD⟩ rfl rfl hl.1 rfl (lv_room (Nat.le_of_ble_eq_true rfl)) dX12_fundGoes_15 ⟨Nat.le_of_ble_eq_true rfl, Nat.le_of_ble_eq_true rfl⟩) hD hS hA (fun x_9321 σ1 μ1 H locs hw_9322 hP hD hS => ?_)
          obtain ⟨hu_9323, hp_9326, hp_9327, hfn_9328, hr_9325⟩ := hw_9322
          obtain ⟨hu_9323a, hu_9323b⟩ := Prod.mk.inj hu_9323
          rw [hu_9323a, hu_9323b] at hP hD
          replace hF := hF.trans (bn_n hfn_9328)
          have tt_9330 := hp_9327
          refine lv_sipush (v := 200) hx hb dX12_fundGoes_18 (by decide +kernel) ?_
          have K_9349 : ∀  (ri_9346 : Nat → Nat → Int32) (H : Heap) (locs : List Loc) (ls : Array Slot), F = g_X12_fundGoes_K40 x_7978 (g_X12_fundGoes_L2 a0 (vI 12 σ this I) (vJ 12 σ this J) (vR 12 σ this ri) (vL 12 σ this rj) (vQ 12 σ this rq) n_8644) (vR 12 σ this ri_9346) → FR 12 tg σ this (I, J, ri, rj, rq) (I, J, ri_9346, rj, rq) → GM [] tg σ I ri I ri_9346 rq → va_P D vwCl (pq_P t σ (I, J, ri_9346, rj, rq)) H → va_D A (pq_P t σ (I, J, ri_9346, rj, rq)) → va_S A s.heap H locs → lv_has ls 3 [(0, .ref this), (1, .int a0), (2, .int x_7978)] → W p l e ({ frames := 5, cells := 0, slots := 0, locals := 122 } : Room) s m (List.toArray ([.ref this, .int a0] : List Value)) below meth c H locs 0 0 Q (F0 m 40 ls []) := by
            intro ri_9346 H locs ls hF hFr hG hP hD hS hl
            replace hF := hF.trans g_X12_fundGoes_K40_e
            obtain ⟨x_9350, ex_9350⟩ : ∃ y : Int32, y = x_7978 + Int32.ofInt 1 := ⟨_, rfl⟩
            replace hF := hF.trans (ap_n ex_9350)
            have h_9351 : rg x_9350 1 40 := rg_of_eq ex_9350 (rg_add h_9319 (rg_k (Int32.ofInt 1) 1 rfl) (by decide +kernel))
            have uh_9351 := h_9351.1
            have vh_9351 := h_9351.2
            have tx_9350 : (x_9350).toInt = (x_7978).toInt + 1 := by rw [ex_9350]; exact i_add_rg (a2 := (x_7978).toInt) (b2 := 1) rfl rfl h_9319 (rg_k (Int32.ofInt 1) 1 rfl) (by decide +kernel)
            refine lv_iinc (v := x_9350) (lv' := [(2, .int x_9350), (0, .ref this), (1, .int a0)]) hx hb dX12_fundGoes_40 hl (k := 2) rfl ex_9350.symm (by decide +kernel) rfl (fun ls hl => ?_)
            refine lv_goto (tgt := 2) hx hb dX12_fundGoes_43 (by decide +kernel) ?_
            exact ih_8646 x_9350 ri_9346 _ _ _ (rg_w h_9351 (by decide +kernel)) (ms_up 1 hm_8643 ex_9350 rfl (by decide +kernel) h_9319 (by decide +kernel) (by decide +kernel)) hF hFr hG hP hD hS (lv_sub hl [1, 2, 0] rfl)
          refine lv_icmp_ne (tgt := 40) hx hb dX12_fundGoes_21 (by decide +kernel) (fun c_9352 => ?_) (fun c_9352 => ?_)
          · replace hF := hF.trans (if_neg c_9352)
            have tc_9356 : (x_9321).toInt ≠ 200 := fun q => c_9352 (Int32.toInt_inj.mp q)
            exact K_9349 ri_7979 _ _ _ hF hFr hG hP hD hS (lv_sub hl [0, 1, 2] rfl)
          · replace hF := hF.trans (if_pos c_9352)
            have tc_9357 : (x_9321).toInt = 200 := congrArg Int32.toInt c_9352
            have h_9358 : rg x_9321 200 200 := rg_and hr_9325 (rg_of_eq c_9352 (rg_k (200 : Int32) 200 rfl)) (by decide +kernel)
            have uh_9358 := h_9358.1
            have vh_9358 := h_9358.2
            refine lv_aload_n hx hb dX12_fundGoes_24 rfl (lv_at hl 0 rfl) ?_
            refine pg_f (v := .ref w_8649) (C := RX12) (T := TX12) (N := 31) hx hb hts (tw_i inlX12) hown hK hP hL_this hK_this (by decide +kernel) rfl 0 (by decide +kernel) (hts _ (tw_c tw_176)) (pq_hv rfl hR_w_8649) dX12_fundGoes_25 ?_
            refine lv_bipush (v := 8) hx hb dX12_fundGoes_28 (by decide +kernel) ?_
            refine lv_dup2_11 hx hb dX12_fundGoes_30 rfl rfl ?_
            refine pl_i hx hb hK hP hL_w_8649 hK_w_8649 hN_w_8649 (vp_in_iff.mpr (by decide +kernel)) dX12_fundGoes_31 ?_
            refine lv_topi (fun x_9359 ex_9359 => ?_)
            replace hF := hF.trans (ap_n (vR_r hO_w_8649 (by decide +kernel) ex_9359))
            refine lv_aload_n hx hb dX12_fundGoes_32 rfl (lv_at hl 0 rfl) ?_
            refine lv_iload_n hx hb dX12_fundGoes_33 rfl (lv_at hl 2 rfl) ?_
            refine lv_iconst (v := 4) hx hb dX12_fundGoes_34 (by decide +kernel) ?_
            refine pk_i (va_runV (As := [.int x_7978, .int 4]) (rest := [.int x_9359, .int 8, .ref w_8649]) ⟨hx, hb, hml, hown, hts⟩ (s_X12_personAt_c4 l D t σ I J ri_7979 rj rq H.size tg hSH hG.1 this x_7978 hL_this hK_this (rg_w h_9319 (by decide +kernel)) w_8649 hR_w_8649 hL_w_8649 hK_w_8649 hN_w_8649 hT_w_8649) (cwV 2 hts (tw_V tw_437 tw_438 tw_439 tw_5 tw_440) rfl rfl rfl cv_yX12_personAt_2 ⟨Nat.le_of_ble_eq_true rfl, Nat.le_of_ble_eq_true rfl⟩) ⟨pq_blind, pq_recv hK hP hL_this hK_this (by decide +kernel) rfl, pq_pre hK hN hP hD⟩ rfl rfl hl.1 rfl (lv_room (Nat.le_of_ble_eq_true rfl)) dX12_fundGoes_35 ⟨Nat.le_of_ble_eq_true rfl, Nat.le_of_ble_eq_true rfl⟩) hD hS hA (fun x_9360 σ1 μ1 H locs hw_9361 hP hD hS => ?_)
            obtain ⟨hu_9362, hp_9365, hfn_9366⟩ := hw_9361
            obtain ⟨hu_9362a, hu_9362b⟩ := Prod.mk.inj hu_9362
            rw [hu_9362a, hu_9362b] at hP hD
            replace hF := hF.trans (bn_n hfn_9366)
            refine lv_iadd hx hb dX12_fundGoes_38 ?_
            refine lv_topi (fun x_9368 ex_9368 => ?_)
            replace hF := hF.trans (ap_n ex_9368)
            refine pt_i hx hb hK hP hD hS hL_w_8649 hK_w_8649 hN_w_8649 (vp_in_iff.mpr (by decide +kernel)) dX12_fundGoes_39 (fun r_9369 H locs er_9369 hP hD hS => ?_)
            replace hFr := fr_R hFr hO_w_8649 (by decide +kernel) er_9369
            replace hF := hF.trans (ap_n (vR_st hVT hO_w_8649 (by decide +kernel) er_9369))
            have hG := GM.wz hG hT_w_8649 (by decide +kernel) er_9369 (show zn ((8 : Int32)).toNatClampNeg = 8 from by decide +kernel) rfl (rg_w (rg_full _) (by decide +kernel)) (by decide +kernel)
            exact K_9349 r_9369 _ _ _ hF hFr hG hP hD hS (lv_sub hl [0, 1, 2] rfl)
    exact L_8645 _ (0 : Int32) ri _ _ _ (rg_w (rg_k (0 : Int32) 0 rfl) (by decide +kernel)) (Nat.lt_succ_self _) hF hFr hG hP hD hS (lv_sub hl [1, 2, 0] rfl)
  exact go _ _ _ hP hD hS hl

set_option maxRecDepth 100000 in
def g_X12_goesAhead_K58 (I : Nat → Int32) (J : Nat → Int64) (ri : Nat → Nat → Int32) (rj : Nat → Nat → Int64) (rq : Nat → Nat → Option Nat) : Int32 × vM := ((0 : Int32), I, J, ri, rj, rq)
set_option maxRecDepth 100000 in
theorem g_X12_goesAhead_K58_e {I : Nat → Int32} {J : Nat → Int64} {ri : Nat → Nat → Int32} {rj : Nat → Nat → Int64} {rq : Nat → Nat → Option Nat} : g_X12_goesAhead_K58 I J ri rj rq  = ((0 : Int32), I, J, ri, rj, rq) := rfl
set_option maxRecDepth 100000 in
def g_X12_goesAhead (a0 : Int32) (a1 : Int32) (a2 : Int32) (a3 : Int32) (I : Nat → Int32) (J : Nat → Int64) (ri : Nat → Nat → Int32) (rj : Nat → Nat → Int64) (rq : Nat → Nat → Option Nat) : Int32 × vM := (ap1 (I 407) fun (y_1 : Int32) => (if (y_1) = (1 : Int32) then (bnI (g_X12_personAt_c3 a0 I J ri rj rq) fun (x_55 : Int32) (_ : Nat → Int32) (_ : Nat → Int64) (_ : Nat → Nat → Int32) (_ : Nat → Nat → Int64) (_ : Nat → Nat → Option Nat) => (ap1 (ri 408 (x_55).toNatClampNeg) fun (x_66 : Int32) => (bnI (g_X12_personAt_c3 a1 I J ri rj rq) fun (x_67 : Int32) (_ : Nat → Int32) (_ : Nat → Int64) (_ : Nat → Nat → Int32) (_ : Nat → Nat → Int64) (_ : Nat → Nat → Option Nat) => (ap1 (ri 408 (x_67).toNatClampNeg) fun (x_78 : Int32) => (if x_78 ≤ x_66 then ((0 : Int32), I, J, ri, rj, rq) else ((1 : Int32), I, J, ri, rj, rq)))))) else (if a3 = (0 : Int32) then (g_X12_goesAhead_K58 I J ri rj rq ) else (bnI (g_X12_isAhead a0 a1 a2 I J ri rj rq) fun (x_35 : Int32) (_ : Nat → Int32) (_ : Nat → Int64) (_ : Nat → Nat → Int32) (_ : Nat → Nat → Int64) (_ : Nat → Nat → Option Nat) => (if x_35 = (0 : Int32) then (g_X12_goesAhead_K58 I J ri rj rq ) else ((1 : Int32), I, J, ri, rj, rq))))))
set_option maxRecDepth 100000 in
theorem g_X12_goesAhead_e {a0 : Int32} {a1 : Int32} {a2 : Int32} {a3 : Int32} {I : Nat → Int32} {J : Nat → Int64} {ri : Nat → Nat → Int32} {rj : Nat → Nat → Int64} {rq : Nat → Nat → Option Nat} : g_X12_goesAhead a0 a1 a2 a3 I J ri rj rq = (ap1 (I 407) fun (y_1 : Int32) => (if (y_1) = (1 : Int32) then (bnI (g_X12_personAt_c3 a0 I J ri rj rq) fun (x_55 : Int32) (_ : Nat → Int32) (_ : Nat → Int64) (_ : Nat → Nat → Int32) (_ : Nat → Nat → Int64) (_ : Nat → Nat → Option Nat) => (ap1 (ri 408 (x_55).toNatClampNeg) fun (x_66 : Int32) => (bnI (g_X12_personAt_c3 a1 I J ri rj rq) fun (x_67 : Int32) (_ : Nat → Int32) (_ : Nat → Int64) (_ : Nat → Nat → Int32) (_ : Nat → Nat → Int64) (_ : Nat → Nat → Option Nat) => (ap1 (ri 408 (x_67).toNatClampNeg) fun (x_78 : Int32) => (if x_78 ≤ x_66 then ((0 : Int32), I, J, ri, rj, rq) else ((1 : Int32), I, J, ri, rj, rq)))))) else (if a3 = (0 : Int32) then (g_X12_goesAhead_K58 I J ri rj rq ) else (bnI (g_X12_isAhead a0 a1 a2 I J ri rj rq) fun (x_35 : Int32) (_ : Nat → Int32) (_ : Nat → Int64) (_ : Nat → Nat → Int32) (_ : Nat → Nat → Int64) (_ : Nat → Nat → Option Nat) => (if x_35 = (0 : Int32) then (g_X12_goesAhead_K58 I J ri rj rq ) else ((1 : Int32), I, J, ri, rj, rq)))))) := rfl
set_option maxHeartbeats 4000000 in
set_option maxRecDepth 100000 in
theorem s_X12_goesAhead (l : Launch) (D : va_G) (t : pq_T) (σ : pq_S) (I : Nat → Nat → Int32) (J : Nat → Nat → Int64) (ri : Nat → Nat → Int32) (rj : Nat → Nat → Int64) (rq : Nat → Nat → Option Nat) (sz : Nat) (tg : Nat → Nat) (hSH : SH σ tg) (hG0 : GT tg I ri) (this : Nat) (a0 : Int32) (a1 : Int32) (a2 : Int32) (a3 : Int32) (hL_this : this ∈ σ.1) (hK_this : σ.2.1 this = 12) (h_a0 : rg a0 0 39) (h_a1 : rg a1 0 39) (h_a3 : rg a3 0 1) (this_a : Nat) (hR_this_a : σ.2.2.1 384 this = some this_a) (hL_this_a : this_a ∈ σ.1) (hK_this_a : σ.2.1 this_a = 13) (hN_this_a : σ.2.2.2 this_a = 12720) (hT_this_a : tg this_a = 384) (hp0 : rg (ri this_a (743 + 12 * a0.toNatClampNeg)) 0 4) (hp1 : rg (ri this_a (743 + 12 * a1.toNatClampNeg)) 0 4) : MetI l yX12_goesAhead (wa yX12_goesAhead cX12_goesAhead 5 (some .boolean)) ({ frames := 3, cells := 0, slots := 0, locals := 74 }) [.ref this, .int a0, .int a1, .int a2, .int a3] D t σ (I, J, ri, rj, rq) sz 0 0 (fun (r : Int32) (u : pq_S × pq_M) => u = (σ, I, J, ri, rj, rq) ∧ g_X12_goesAhead a0 a1 a2 a3 (vI 12 σ this I) (vJ 12 σ this J) (vR 12 σ this ri) (vL 12 σ this rj) (vQ 12 σ this rq) = (r, (vI 12 σ this I), (vJ 12 σ this J), (vR 12 σ this ri), (vL 12 σ this rj), (vQ 12 σ this rq)) ∧ ((r = 1 ∧ True) ∨ (r = 0 ∧ True))) := by
  refine Met.ofW (cc := cX12_goesAhead) (maxL := 5) (ret := (some .boolean)) (by decide +kernel) rfl ?_
  intro p e s m args below meth c s₁ B hml hv
  obtain ⟨rfl, hsz, hP, hK, hD0, hN⟩ := hv
  have hx := B.exec
  have hb := B.bytes
  have hr := B.returns
  have hts := atoms_spec (ws := (wa yX12_goesAhead cX12_goesAhead 5 (some .boolean))) B.pre
  have hown : s.vm.findClass RX12 = some m.cls := findClass_of_methodNamed B.named
  have hlocks := B.notSynchronized
  subst hsz
  have hD : va_D (pq_B t σ (I, J, ri, rj, rq) s.heap.size) (pq_P t σ (I, J, ri, rj, rq)) := hD0.self
  generalize hAe : pq_B t σ (I, J, ri, rj, rq) s.heap.size = A at hD ⊢
  have hA : ∀ q : Nat, s.heap.size ≤ q → A q := fun q h => by rw [← hAe]; exact Or.inr h
  have hS : va_S A s.heap s.heap [] := va_S.rf
  have hG : GM [] tg σ I ri I ri rq := ⟨hG0, fun _ _ _ => rfl, fun _ _ _ _ _ => rfl, fun _ _ _ _ _ _ => rfl⟩
  have hl := lv_entry ([.ref this, .int a0, .int a1, .int a2, .int a3]) (n := 5) (Nat.le_of_ble_eq_true rfl)
  rw [lg_entry_eq]
  generalize (lg_sl ([.ref this, .int a0, .int a1, .int a2, .int a3]) ++ List.replicate (5 - (lg_sl ([.ref this, .int a0, .int a1, .int a2, .int a3])).length) Slot.unset).toArray = ls at hl ⊢
  have hl : lv_has ls 5 [(0, .ref this), (1, .int a0), (2, .int a1), (3, .int a2), (4, .int a3)] := hl
  refine q_gen (fun Q hQ => ?_)
  have go : ∀ (H : Heap) (locs : List Loc) (ls : Array Slot), va_P D vwCl (pq_P t σ (I, J, ri, rj, rq)) H → va_D A (pq_P t σ (I, J, ri, rj, rq)) → va_S A s.heap H locs → lv_has ls 5 [(0, .ref this), (1, .int a0), (2, .int a1), (3, .int a2), (4, .int a3)] → W p l e ({ frames := 3, cells := 0, slots := 0, locals := 74 } : Room) s m (List.toArray ([.ref this, .int a0, .int a1, .int a2, .int a3] : List Value)) below meth c H locs 0 0 Q (F0 m 0 ls []) := by
    intro H locs ls hP hD hS hl
    have hO_this : this = vo σ 12 this := rfl
    have hVT : VT 12 σ tg this := vt_12 hSH hL_this hK_this
    have hFr : FR 12 tg σ this (I, J, ri, rj, rq) (I, J, ri, rj, rq) := fr_rf
    have hO_this_a : this_a = vrow σ 384 this := vo_k (c := 12) hO_this hR_this_a
    obtain ⟨F, hF0⟩ : ∃ F, F = g_X12_goesAhead a0 a1 a2 a3 (vI 12 σ this I) (vJ 12 σ this J) (vR 12 σ this ri) (vL 12 σ this rj) (vQ 12 σ this rq) := ⟨_, rfl⟩
    have hF := hF0.trans g_X12_goesAhead_e
    refine lv_aload_n hx hb dX12_goesAhead_0 rfl (lv_at hl 0 rfl) ?_
    refine pg_f (v := .int (I 407 this)) (C := RX12) (T := TX12) (N := 31) hx hb hts (tw_i inlX12) hown hK hP hL_this hK_this (by decide +kernel) rfl 23 (by decide +kernel) (hts _ (tw_c tw_1238)) rfl dX12_goesAhead_1 ?_
    replace hF := hF.trans (ap_n (vI_e (f := 407) hO_this (by decide +kernel)))
    refine lv_iconst (v := 1) hx hb dX12_goesAhead_4 (by decide +kernel) ?_
    refine lv_icmp_ne (tgt := 39) hx hb dX12_goesAhead_5 (by decide +kernel) (fun c_2 => ?_) (fun c_2 => ?_)
    · replace hF := hF.trans (if_neg c_2)
      have tc_6 : (I 407 this).toInt ≠ 1 := fun q => c_2 (Int32.toInt_inj.mp q)
      refine lv_iload hx hb dX12_goesAhead_39 (lv_at hl 4 rfl) ?_
      have K_25 : ∀  (H : Heap) (locs : List Loc) (ls : Array Slot), F = g_X12_goesAhead_K58 (vI 12 σ this I) (vJ 12 σ this J) (vR 12 σ this ri) (vL 12 σ this rj) (vQ 12 σ this rq)  → FR 12 tg σ this (I, J, ri, rj, rq) (I, J, ri, rj, rq) → GM [] tg σ I ri I ri rq → va_P D vwCl (pq_P t σ (I, J, ri, rj, rq)) H → va_D A (pq_P t σ (I, J, ri, rj, rq)) → va_S A s.heap H locs → lv_has ls 5 [] → W p l e ({ frames := 3, cells := 0, slots := 0, locals := 74 } : Room) s m (List.toArray ([.ref this, .int a0, .int a1, .int a2, .int a3] : List Value)) below meth c H locs 0 0 Q (F0 m 58 ls []) := by
        intro H locs ls hF hFr hG hP hD hS hl
        replace hF := hF.trans g_X12_goesAhead_K58_e
        refine lv_iconst (v := 0) hx hb dX12_goesAhead_58 (by decide +kernel) ?_
        subst hQ
        exact W.zret (v := 0) hx hb hr (by decide +kernel) (fun t1 ht hW => ⟨⟨0, (σ, I, J, ri, rj, rq), rfl, ⟨rfl, (hF0.symm.trans hF), (Or.inr ⟨rfl, trivial⟩)⟩, by rw [ht]; exact hP, va_K.moved hW.alike hK, hD⟩, hS.F ht⟩) hS.2.2 dX12_goesAhead_59
      refine lv_if_eq (tgt := 58) hx hb dX12_goesAhead_41 (by decide +kernel) (fun c_26 => ?_) (fun c_26 => ?_)
      · replace hF := hF.trans (if_pos c_26)
        have tc_31 : (a3).toInt = 0 := congrArg Int32.toInt c_26
        have h_32 : rg a3 0 0 := rg_and h_a3 (rg_of_eq c_26 (rg_k (0 : Int32) 0 rfl)) (by decide +kernel)
        have uh_32 := h_32.1
        have vh_32 := h_32.2
        exact K_25 _ _ _ hF hFr hG hP hD hS (lv_sub hl [] rfl)
      · replace hF := hF.trans (if_neg c_26)
        have tc_33 : (a3).toInt ≠ 0 := fun q => c_26 (Int32.toInt_inj.mp q)
        have h_34 : rg a3 1 1 := rg_ne c_26 h_a3 0 rfl (by decide +kernel)
        have uh_34 := h_34.1
        have vh_34 := h_34.2
        refine lv_aload_n hx hb dX12_goesAhead_44 rfl (lv_at hl 0 rfl) ?_
        refine lv_iload_n hx hb dX12_goesAhead_45 rfl (lv_at hl 1 rfl) ?_
        refine lv_iload_n hx hb dX12_goesAhead_46 rfl (lv_at hl 2 rfl) ?_
        refine lv_iload_n hx hb dX12_goesAhead_47 rfl (lv_at hl 3 rfl) ?_
        refine pk_i (va_runV (As := [.int a0, .int a1, .int a2]) (rest := []) ⟨hx, hb, hml, hown, hts⟩ (s_X12_isAhead l D t σ I J ri rj rq H.size tg hSH hG.1 this a0 a1 a2 hL_this hK_this (rg_w h_a0 (by decide +kernel)) (rg_w h_a1 (by decide +kernel)) this_a hR_this_a hL_this_a hK_this_a hN_this_a hT_this_a) (cwV 3 hts (tw_V tw_524 tw_525 tw_526 tw_5 tw_527) rfl rfl rfl cv_yX12_isAhead_3 ⟨Nat.le_of_ble_eq_true rfl, Nat.le_of_ble_eq_true rfl⟩) ⟨pq_blind, pq_recv hK hP hL_this hK_this (by decide +kernel) rfl, pq_pre hK hN hP hD⟩ rfl rfl hl.1 rfl (lv_room (Nat.le_of_ble_eq_true rfl)) dX12_goesAhead_48 ⟨Nat.le_of_ble_eq_true rfl, Nat.le_of_ble_eq_true rfl⟩) hD hS hA (fun x_35 σ1 μ1 H locs hw_36 hP hD hS => ?_)
        obtain ⟨hu_37, hfn_40, hr_39⟩ := hw_36
        obtain ⟨hu_37a, hu_37b⟩ := Prod.mk.inj hu_37
        rw [hu_37a, hu_37b] at hP hD
        replace hF := hF.trans (bn_n hfn_40)
        have h_42 : rg x_35 0 1 := by rcases hr_39 with ⟨q, -⟩ | ⟨q, -⟩ <;> rw [q] <;> exact ⟨by decide +kernel, by decide +kernel⟩
        have uh_42 := h_42.1
        have vh_42 := h_42.2
        refine lv_if_eq (tgt := 58) hx hb dX12_goesAhead_51 (by decide +kernel) (fun c_43 => ?_) (fun c_43 => ?_)
        · replace hF := hF.trans (if_pos c_43)
          have tc_48 : (x_35).toInt = 0 := congrArg Int32.toInt c_43
          have h_49 : rg x_35 0 0 := rg_and h_42 (rg_of_eq c_43 (rg_k (0 : Int32) 0 rfl)) (by decide +kernel)
          have uh_49 := h_49.1
          have vh_49 := h_49.2
          exact K_25 _ _ _ hF hFr hG hP hD hS (lv_sub hl [] rfl)
        · replace hF := hF.trans (if_neg c_43)
          have tc_50 : (x_35).toInt ≠ 0 := fun q => c_43 (Int32.toInt_inj.mp q)
          have h_51 : rg x_35 1 1 := rg_ne c_43 h_42 0 rfl (by decide +kernel)
          have uh_51 := h_51.1
          have vh_51 := h_51.2
          refine lv_iconst (v := 1) hx hb dX12_goesAhead_54 (by decide +kernel) ?_
          refine lv_goto (tgt := 59) hx hb dX12_goesAhead_55 (by decide +kernel) ?_
          subst hQ
          exact W.zret (v := 1) hx hb hr (by decide +kernel) (fun t1 ht hW => ⟨⟨1, (σ, I, J, ri, rj, rq), rfl, ⟨rfl, (hF0.symm.trans hF), (Or.inl ⟨rfl, trivial⟩)⟩, by rw [ht]; exact hP, va_K.moved hW.alike hK, hD⟩, hS.F ht⟩) hS.2.2 dX12_goesAhead_59
    · replace hF := hF.trans (if_pos c_2)
      have tc_52 : (I 407 this).toInt = 1 := congrArg Int32.toInt c_2
      have h_53 : rg (I 407 this) 1 1 := rg_and (rg_full _) (rg_of_eq c_2 (rg_k (1 : Int32) 1 rfl)) (by decide +kernel)
      have uh_53 := h_53.1
      have vh_53 := h_53.2
      refine lv_aload_n hx hb dX12_goesAhead_8 rfl (lv_at hl 0 rfl) ?_
      obtain ⟨w_54, hR_w_54, hL_w_54, hK_w_54, hN_w_54, hT_w_54⟩ := sh_a hSH 408 (ci := 12) (kd := 13) (len := 5) rfl (by decide +kernel) hL_this hK_this
      have hO_w_54 : w_54 = vrow σ 408 this := vo_k (c := 12) hO_this hR_w_54
      refine pg_f (v := .ref w_54) (C := RX12) (T := TX12) (N := 31) hx hb hts (tw_i inlX12) hown hK hP hL_this hK_this (by decide +kernel) rfl 24 (by decide +kernel) (hts _ (tw_c tw_186)) (pq_hv rfl hR_w_54) dX12_goesAhead_9 ?_
      refine lv_aload_n hx hb dX12_goesAhead_12 rfl (lv_at hl 0 rfl) ?_
      refine lv_iload_n hx hb dX12_goesAhead_13 rfl (lv_at hl 1 rfl) ?_
      refine lv_iconst (v := 3) hx hb dX12_goesAhead_14 (by decide +kernel) ?_
      refine pk_i (va_runV (As := [.int a0, .int 3]) (rest := [.ref w_54]) ⟨hx, hb, hml, hown, hts⟩ (s_X12_personAt_c3 l D t σ I J ri rj rq H.size tg hSH hG.1 this a0 hL_this hK_this (rg_w h_a0 (by decide +kernel)) this_a hR_this_a hL_this_a hK_this_a hN_this_a hT_this_a) (cwV 2 hts (tw_V tw_437 tw_438 tw_439 tw_5 tw_440) rfl rfl rfl cv_yX12_personAt_2 ⟨Nat.le_of_ble_eq_true rfl, Nat.le_of_ble_eq_true rfl⟩) ⟨pq_blind, pq_recv hK hP hL_this hK_this (by decide +kernel) rfl, pq_pre hK hN hP hD⟩ rfl rfl hl.1 rfl (lv_room (Nat.le_of_ble_eq_true rfl)) dX12_goesAhead_15 ⟨Nat.le_of_ble_eq_true rfl, Nat.le_of_ble_eq_true rfl⟩) hD hS hA (fun x_55 σ1 μ1 H locs hw_56 hP hD hS => ?_)
      obtain ⟨hu_57, hp_60, hp_61, hfn_62, hr_59⟩ := hw_56
      obtain ⟨hu_57a, hu_57b⟩ := Prod.mk.inj hu_57
      rw [hu_57a, hu_57b] at hP hD
      replace hF := hF.trans (bn_n hfn_62)
      have tt_64 := hp_61
      have h_65 : rg x_55 0 4 := rg_of_eq hp_60 hp0
      have uh_65 := h_65.1
      have vh_65 := h_65.2
      refine pl_i hx hb hK hP hL_w_54 hK_w_54 hN_w_54 (rg_in h_65 (by decide +kernel)) dX12_goesAhead_18 ?_
      refine lv_topi (fun x_66 ex_66 => ?_)
      replace hF := hF.trans (ap_n (vR_r hO_w_54 (by decide +kernel) ex_66))
      refine lv_aload_n hx hb dX12_goesAhead_19 rfl (lv_at hl 0 rfl) ?_
      refine pg_f (v := .ref w_54) (C := RX12) (T := TX12) (N := 31) hx hb hts (tw_i inlX12) hown hK hP hL_this hK_this (by decide +kernel) rfl 24 (by decide +kernel) (hts _ (tw_c tw_186)) (pq_hv rfl hR_w_54) dX12_goesAhead_20 ?_
      refine lv_aload_n hx hb dX12_goesAhead_23 rfl (lv_at hl 0 rfl) ?_
      refine lv_iload_n hx hb dX12_goesAhead_24 rfl (lv_at hl 2 rfl) ?_
      refine lv_iconst (v := 3) hx hb dX12_goesAhead_25 (by decide +kernel) ?_
      refine pk_i (va_runV (As := [.int a1, .int 3]) (rest := [.ref w_54, .int x_66]) ⟨hx, hb, hml, hown, hts⟩ (s_X12_personAt_c3 l D t σ I J ri rj rq H.size tg hSH hG.1 this a1 hL_this hK_this (rg_w h_a1 (by decide +kernel)) this_a hR_this_a hL_this_a hK_this_a hN_this_a hT_this_a) (cwV 2 hts (tw_V tw_437 tw_438 tw_439 tw_5 tw_440) rfl rfl rfl cv_yX12_personAt_2 ⟨Nat.le_of_ble_eq_true rfl, Nat.le_of_ble_eq_true rfl⟩) ⟨pq_blind, pq_recv hK hP hL_this hK_this (by decide +kernel) rfl, pq_pre hK hN hP hD⟩ rfl rfl hl.1 rfl (lv_room (Nat.le_of_ble_eq_true rfl)) dX12_goesAhead_26 ⟨Nat.le_of_ble_eq_true rfl, Nat.le_of_ble_eq_true rfl⟩) hD hS hA (fun x_67 σ1 μ1 H locs hw_68 hP hD hS => ?_)
      obtain ⟨hu_69, hp_72, hp_73, hfn_74, hr_71⟩ := hw_68
      obtain ⟨hu_69a, hu_69b⟩ := Prod.mk.inj hu_69
      rw [hu_69a, hu_69b] at hP hD
      replace hF := hF.trans (bn_n hfn_74)
      have tt_76 := hp_73
      have h_77 : rg x_67 0 4 := rg_of_eq hp_72 hp1
      have uh_77 := h_77.1
      have vh_77 := h_77.2
      refine pl_i hx hb hK hP hL_w_54 hK_w_54 hN_w_54 (rg_in h_77 (by decide +kernel)) dX12_goesAhead_29 ?_
      refine lv_topi (fun x_78 ex_78 => ?_)
      replace hF := hF.trans (ap_n (vR_r hO_w_54 (by decide +kernel) ex_78))
      refine lv_icmp_ge (tgt := 37) hx hb dX12_goesAhead_30 (by decide +kernel) (fun c_79 => ?_) (fun c_79 => ?_)
      · replace hF := hF.trans (if_pos c_79)
        have tc_84 : (x_78).toInt ≤ (x_66).toInt := Int32.le_iff_toInt_le.mp c_79
        refine lv_iconst (v := 0) hx hb dX12_goesAhead_37 (by decide +kernel) ?_
        subst hQ
        exact W.zret (v := 0) hx hb hr (by decide +kernel) (fun t1 ht hW => ⟨⟨0, (σ, I, J, ri, rj, rq), rfl, ⟨rfl, (hF0.symm.trans hF), (Or.inr ⟨rfl, trivial⟩)⟩, by rw [ht]; exact hP, va_K.moved hW.alike hK, hD⟩, hS.F ht⟩) hS.2.2 dX12_goesAhead_38
      · replace hF := hF.trans (if_neg c_79)
        have tc_85 : (x_66).toInt < (x_78).toInt := Int32.lt_iff_toInt_lt.mp (nle c_79)
        have h_86 : rg x_66 (-2147483648) 2147483646 := rg_lt1 (nle c_79) (rg_full _) (rg_full _) (by decide +kernel)
        have uh_86 := h_86.1
        have vh_86 := h_86.2
        have h_87 : rg x_78 (-2147483647) 2147483647 := rg_lt2 (nle c_79) (rg_full _) (rg_full _) (by decide +kernel)
        have uh_87 := h_87.1
        have vh_87 := h_87.2
        refine lv_iconst (v := 1) hx hb dX12_goesAhead_33 (by decide +kernel) ?_
        refine lv_goto (tgt := 38) hx hb dX12_goesAhead_34 (by decide +kernel) ?_
        subst hQ
        exact W.zret (v := 1) hx hb hr (by decide +kernel) (fun t1 ht hW => ⟨⟨1, (σ, I, J, ri, rj, rq), rfl, ⟨rfl, (hF0.symm.trans hF), (Or.inl ⟨rfl, trivial⟩)⟩, by rw [ht]; exact hP, va_K.moved hW.alike hK, hD⟩, hS.F ht⟩) hS.2.2 dX12_goesAhead_38
  exact go _ _ _ hP hD hS hl

set_option maxRecDepth 100000 in
def g_X12_sails (a0 : Int32) (a1 : Int32) (a2 : Int32) (I : Nat → Int32) (J : Nat → Int64) (ri : Nat → Nat → Int32) (rj : Nat → Nat → Int64) (rq : Nat → Nat → Option Nat) : vM := (ap1 ((12 : Int32) * a0) fun (x_2 : Int32) => (ap1 ((740 : Int32) + x_2) fun (x_4 : Int32) => (ap1 (x_4 + (3 : Int32)) fun (x_6 : Int32) => (ap1 ((100 : Int32) + a1) fun (x_8 : Int32) => (ap1 (va_up ri 384 (upd (ri 384) (x_6).toNatClampNeg x_8)) fun (r_10 : Nat → Nat → Int32) => (ap1 ((12 : Int32) * a0) fun (x_11 : Int32) => (ap1 ((740 : Int32) + x_11) fun (x_13 : Int32) => (ap1 (x_13 + (7 : Int32)) fun (x_15 : Int32) => (ap1 (va_up r_10 384 (upd (r_10 384) (x_15).toNatClampNeg a2)) fun (r_17 : Nat → Nat → Int32) => (I, J, r_17, rj, rq))))))))))
set_option maxRecDepth 100000 in
theorem g_X12_sails_e {a0 : Int32} {a1 : Int32} {a2 : Int32} {I : Nat → Int32} {J : Nat → Int64} {ri : Nat → Nat → Int32} {rj : Nat → Nat → Int64} {rq : Nat → Nat → Option Nat} : g_X12_sails a0 a1 a2 I J ri rj rq = (ap1 ((12 : Int32) * a0) fun (x_2 : Int32) => (ap1 ((740 : Int32) + x_2) fun (x_4 : Int32) => (ap1 (x_4 + (3 : Int32)) fun (x_6 : Int32) => (ap1 ((100 : Int32) + a1) fun (x_8 : Int32) => (ap1 (va_up ri 384 (upd (ri 384) (x_6).toNatClampNeg x_8)) fun (r_10 : Nat → Nat → Int32) => (ap1 ((12 : Int32) * a0) fun (x_11 : Int32) => (ap1 ((740 : Int32) + x_11) fun (x_13 : Int32) => (ap1 (x_13 + (7 : Int32)) fun (x_15 : Int32) => (ap1 (va_up r_10 384 (upd (r_10 384) (x_15).toNatClampNeg a2)) fun (r_17 : Nat → Nat → Int32) => (I, J, r_17, rj, rq)))))))))) := rfl
set_option maxHeartbeats 4000000 in
set_option maxRecDepth 100000 in
theorem s_X12_sails (l : Launch) (D : va_G) (t : pq_T) (σ : pq_S) (I : Nat → Nat → Int32) (J : Nat → Nat → Int64) (ri : Nat → Nat → Int32) (rj : Nat → Nat → Int64) (rq : Nat → Nat → Option Nat) (sz : Nat) (tg : Nat → Nat) (hSH : SH σ tg) (hG0 : GT tg I ri) (this : Nat) (a0 : Int32) (a1 : Int32) (a2 : Int32) (hL_this : this ∈ σ.1) (hK_this : σ.2.1 this = 12) (h_a0 : rg a0 0 39) (h_a1 : rg a1 0 4) : MetV l yX12_sails (wa yX12_sails cX12_sails 4 none) ({ frames := 0, cells := 0, slots := 0, locals := 0 }) [.ref this, .int a0, .int a1, .int a2] D t σ (I, J, ri, rj, rq) sz 0 0 (fun (u : pq_S × pq_M) => ∃ ri' : Nat → Nat → Int32, u = (σ, I, J, ri', rj, rq) ∧ GM [1403] tg σ I ri I ri' rq ∧ g_X12_sails a0 a1 a2 (vI 12 σ this I) (vJ 12 σ this J) (vR 12 σ this ri) (vL 12 σ this rj) (vQ 12 σ this rq) = ((vI 12 σ this I), (vJ 12 σ this J), (vR 12 σ this ri'), (vL 12 σ this rj), (vQ 12 σ this rq)) ∧ FR 12 tg σ this (I, J, ri, rj, rq) (I, J, ri', rj, rq)) := by
  refine Met.ofW (cc := cX12_sails) (maxL := 4) (ret := none) (by decide +kernel) rfl ?_
  intro p e s m args below meth c s₁ B hml hv
  obtain ⟨rfl, hsz, hP, hK, hD0, hN⟩ := hv
  have hx := B.exec
  have hb := B.bytes
  have hr := B.returns
  have hts := atoms_spec (ws := (wa yX12_sails cX12_sails 4 none)) B.pre
  have hown : s.vm.findClass RX12 = some m.cls := findClass_of_methodNamed B.named
  have hlocks := B.notSynchronized
  subst hsz
  have hD : va_D (pq_B t σ (I, J, ri, rj, rq) s.heap.size) (pq_P t σ (I, J, ri, rj, rq)) := hD0.self
  generalize hAe : pq_B t σ (I, J, ri, rj, rq) s.heap.size = A at hD ⊢
  have hA : ∀ q : Nat, s.heap.size ≤ q → A q := fun q h => by rw [← hAe]; exact Or.inr h
  have hS : va_S A s.heap s.heap [] := va_S.rf
  have hG : GM [1403] tg σ I ri I ri rq := ⟨hG0, fun _ _ _ => rfl, fun _ _ _ _ _ => rfl, fun _ _ _ _ _ _ => rfl⟩
  have hl := lv_entry ([.ref this, .int a0, .int a1, .int a2]) (n := 4) (Nat.le_of_ble_eq_true rfl)
  rw [lg_entry_eq]
  generalize (lg_sl ([.ref this, .int a0, .int a1, .int a2]) ++ List.replicate (4 - (lg_sl ([.ref this, .int a0, .int a1, .int a2])).length) Slot.unset).toArray = ls at hl ⊢
  have hl : lv_has ls 4 [(0, .ref this), (1, .int a0), (2, .int a1), (3, .int a2)] := hl
  refine q_gen (fun Q hQ => ?_)
  have go : ∀ (H : Heap) (locs : List Loc) (ls : Array Slot), va_P D vwCl (pq_P t σ (I, J, ri, rj, rq)) H → va_D A (pq_P t σ (I, J, ri, rj, rq)) → va_S A s.heap H locs → lv_has ls 4 [(0, .ref this), (1, .int a0), (2, .int a1), (3, .int a2)] → W p l e ({ frames := 0, cells := 0, slots := 0, locals := 0 } : Room) s m (List.toArray ([.ref this, .int a0, .int a1, .int a2] : List Value)) below meth c H locs 0 0 Q (F0 m 0 ls []) := by
    intro H locs ls hP hD hS hl
    have hO_this : this = vo σ 12 this := rfl
    have hVT : VT 12 σ tg this := vt_12 hSH hL_this hK_this
    have hFr : FR 12 tg σ this (I, J, ri, rj, rq) (I, J, ri, rj, rq) := fr_rf
    obtain ⟨F, hF0⟩ : ∃ F, F = g_X12_sails a0 a1 a2 (vI 12 σ this I) (vJ 12 σ this J) (vR 12 σ this ri) (vL 12 σ this rj) (vQ 12 σ this rq) := ⟨_, rfl⟩
    have hF := hF0.trans g_X12_sails_e
    refine lv_aload_n hx hb dX12_sails_0 rfl (lv_at hl 0 rfl) ?_
    obtain ⟨w_1, hR_w_1, hL_w_1, hK_w_1, hN_w_1, hT_w_1⟩ := sh_a hSH 384 (ci := 12) (kd := 13) (len := 12720) rfl (by decide +kernel) hL_this hK_this
    have hO_w_1 : w_1 = vrow σ 384 this := vo_k (c := 12) hO_this hR_w_1
    refine pg_f (v := .ref w_1) (C := RX12) (T := TX12) (N := 31) hx hb hts (tw_i inlX12) hown hK hP hL_this hK_this (by decide +kernel) rfl 0 (by decide +kernel) (hts _ (tw_c tw_176)) (pq_hv rfl hR_w_1) dX12_sails_1 ?_
    refine lv_sipush (v := 740) hx hb dX12_sails_4 (by decide +kernel) ?_
    refine lv_bipush (v := 12) hx hb dX12_sails_7 (by decide +kernel) ?_
    refine lv_iload_n hx hb dX12_sails_9 rfl (lv_at hl 1 rfl) ?_
    refine lv_imul hx hb dX12_sails_10 ?_
    refine lv_topi (fun x_2 ex_2 => ?_)
    replace hF := hF.trans (ap_n ex_2)
    have h_3 : rg x_2 0 468 := rg_of_eq ex_2 (rg_mul (rg_k (12 : Int32) 12 rfl) h_a0 (by decide +kernel))
    have uh_3 := h_3.1
    have vh_3 := h_3.2
    have tx_2 : (x_2).toInt = 12 * (a0).toInt := by rw [ex_2]; exact i_mul_rg (a2 := 12) (b2 := (a0).toInt) rfl rfl (rg_k (12 : Int32) 12 rfl) h_a0 (by decide +kernel)
    refine lv_iadd hx hb dX12_sails_11 ?_
    refine lv_topi (fun x_4 ex_4 => ?_)
    replace hF := hF.trans (ap_n ex_4)
    have h_5 : rg x_4 740 1208 := rg_of_eq ex_4 (rg_add (rg_k (740 : Int32) 740 rfl) h_3 (by decide +kernel))
    have uh_5 := h_5.1
    have vh_5 := h_5.2
    have tx_4 : (x_4).toInt = 740 + (x_2).toInt := by rw [ex_4]; exact i_add_rg (a2 := 740) (b2 := (x_2).toInt) rfl rfl (rg_k (740 : Int32) 740 rfl) h_3 (by decide +kernel)
    refine lv_iconst (v := 3) hx hb dX12_sails_12 (by decide +kernel) ?_
    refine lv_iadd hx hb dX12_sails_13 ?_
    refine lv_topi (fun x_6 ex_6 => ?_)
    replace hF := hF.trans (ap_n ex_6)
    have h_7 : rg x_6 743 1211 := rg_of_eq ex_6 (rg_add h_5 (rg_k (3 : Int32) 3 rfl) (by decide +kernel))
    have uh_7 := h_7.1
    have vh_7 := h_7.2
    have tx_6 : (x_6).toInt = (x_4).toInt + 3 := by rw [ex_6]; exact i_add_rg (a2 := (x_4).toInt) (b2 := 3) rfl rfl h_5 (rg_k (3 : Int32) 3 rfl) (by decide +kernel)
    refine lv_bipush (v := 100) hx hb dX12_sails_14 (by decide +kernel) ?_
    refine lv_iload_n hx hb dX12_sails_16 rfl (lv_at hl 2 rfl) ?_
    refine lv_iadd hx hb dX12_sails_17 ?_
    refine lv_topi (fun x_8 ex_8 => ?_)
    replace hF := hF.trans (ap_n ex_8)
    have h_9 : rg x_8 100 104 := rg_of_eq ex_8 (rg_add (rg_k (100 : Int32) 100 rfl) h_a1 (by decide +kernel))
    have uh_9 := h_9.1
    have vh_9 := h_9.2
    have tx_8 : (x_8).toInt = 100 + (a1).toInt := by rw [ex_8]; exact i_add_rg (a2 := 100) (b2 := (a1).toInt) rfl rfl (rg_k (100 : Int32) 100 rfl) h_a1 (by decide +kernel)
    refine pt_i hx hb hK hP hD hS hL_w_1 hK_w_1 hN_w_1 (rg_in h_7 (by decide +kernel)) dX12_sails_18 (fun r_10 H locs er_10 hP hD hS => ?_)
    replace hFr := fr_R hFr hO_w_1 (by decide +kernel) er_10
    replace hF := hF.trans (ap_n (vR_st hVT hO_w_1 (by decide +kernel) er_10))
    have hG := GM.wp hG hT_w_1 (by decide +kernel) er_10 (zn_PERSON (c := a0.toNatClampNeg) (k := 3) (by have z_i := clampE x_6; have z_0 := clampE a0; omega) (rg_cl1 h_a0 (by decide +kernel)) (by decide +kernel)) (rg_w h_9 (by decide +kernel)) (by omega) (by decide +kernel)
    refine lv_aload_n hx hb dX12_sails_19 rfl (lv_at hl 0 rfl) ?_
    refine pg_f (v := .ref w_1) (C := RX12) (T := TX12) (N := 31) hx hb hts (tw_i inlX12) hown hK hP hL_this hK_this (by decide +kernel) rfl 0 (by decide +kernel) (hts _ (tw_c tw_176)) (pq_hv rfl hR_w_1) dX12_sails_20 ?_
    refine lv_sipush (v := 740) hx hb dX12_sails_23 (by decide +kernel) ?_
    refine lv_bipush (v := 12) hx hb dX12_sails_26 (by decide +kernel) ?_
    refine lv_iload_n hx hb dX12_sails_28 rfl (lv_at hl 1 rfl) ?_
    refine lv_imul hx hb dX12_sails_29 ?_
    refine lv_topi (fun x_11 ex_11 => ?_)
    replace hF := hF.trans (ap_n ex_11)
    have h_12 : rg x_11 0 468 := rg_of_eq ex_11 (rg_mul (rg_k (12 : Int32) 12 rfl) h_a0 (by decide +kernel))
    have uh_12 := h_12.1
    have vh_12 := h_12.2
    have tx_11 : (x_11).toInt = 12 * (a0).toInt := by rw [ex_11]; exact i_mul_rg (a2 := 12) (b2 := (a0).toInt) rfl rfl (rg_k (12 : Int32) 12 rfl) h_a0 (by decide +kernel)
    refine lv_iadd hx hb dX12_sails_30 ?_
    refine lv_topi (fun x_13 ex_13 => ?_)
    replace hF := hF.trans (ap_n ex_13)
    have h_14 : rg x_13 740 1208 := rg_of_eq ex_13 (rg_add (rg_k (740 : Int32) 740 rfl) h_12 (by decide +kernel))
    have uh_14 := h_14.1
    have vh_14 := h_14.2
    have tx_13 : (x_13).toInt = 740 + (x_11).toInt := by rw [ex_13]; exact i_add_rg (a2 := 740) (b2 := (x_11).toInt) rfl rfl (rg_k (740 : Int32) 740 rfl) h_12 (by decide +kernel)
    refine lv_bipush (v := 7) hx hb dX12_sails_31 (by decide +kernel) ?_
    refine lv_iadd hx hb dX12_sails_33 ?_
    refine lv_topi (fun x_15 ex_15 => ?_)
    replace hF := hF.trans (ap_n ex_15)
    have h_16 : rg x_15 747 1215 := rg_of_eq ex_15 (rg_add h_14 (rg_k (7 : Int32) 7 rfl) (by decide +kernel))
    have uh_16 := h_16.1
    have vh_16 := h_16.2
    have tx_15 : (x_15).toInt = (x_13).toInt + 7 := by rw [ex_15]; exact i_add_rg (a2 := (x_13).toInt) (b2 := 7) rfl rfl h_14 (rg_k (7 : Int32) 7 rfl) (by decide +kernel)
    refine lv_iload_n hx hb dX12_sails_34 rfl (lv_at hl 3 rfl) ?_
    refine pt_i hx hb hK hP hD hS hL_w_1 hK_w_1 hN_w_1 (rg_in h_16 (by decide +kernel)) dX12_sails_35 (fun r_17 H locs er_17 hP hD hS => ?_)
    replace hFr := fr_R hFr hO_w_1 (by decide +kernel) er_17
    replace hF := hF.trans (ap_n (vR_st hVT hO_w_1 (by decide +kernel) er_17))
    have hG := GM.wz hG hT_w_1 (by decide +kernel) er_17 (zn_PERSON (c := a0.toNatClampNeg) (k := 7) (by have z_i := clampE x_15; have z_0 := clampE a0; omega) (rg_cl1 h_a0 (by decide +kernel)) (by decide +kernel)) rfl (rg_w (rg_full _) (by decide +kernel)) (by decide +kernel)
    subst hQ
    exact W.vret hx hb hr (fun t1 ht hW => ⟨⟨(σ, I, J, r_17, rj, rq), rfl, ⟨r_17, rfl, hG, (hF0.symm.trans hF), hFr⟩, by rw [ht]; exact hP, va_K.moved hW.alike hK, hD⟩, hS.F ht⟩) hS.2.2 dX12_sails_36
  exact go _ _ _ hP hD hS hl
