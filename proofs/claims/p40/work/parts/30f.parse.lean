theorem dX12_behindOne_0 : decode cX12_behindOne 0 = .ok (.aload_n 0, 1) := oc_42 (by decide +kernel)
theorem dX12_behindOne_1 : decode cX12_behindOne 1 = .ok (.getfield 143, 3) := oc_180 (a := 0) (b := 143) (by decide +kernel)
theorem dX12_behindOne_4 : decode cX12_behindOne 4 = .ok (.istore_n 1, 1) := oc_60 (by decide +kernel)
theorem dX12_behindOne_5 : decode cX12_behindOne 5 = .ok (.aload_n 0, 1) := oc_42 (by decide +kernel)
theorem dX12_behindOne_6 : decode cX12_behindOne 6 = .ok (.invokevirtual 196, 3) := oc_182 (a := 0) (b := 196) (by decide +kernel)
theorem dX12_behindOne_9 : decode cX12_behindOne 9 = .ok (.iload_n 1, 1) := oc_27 (by decide +kernel)
theorem dX12_behindOne_10 : decode cX12_behindOne 10 = .ok (.bipush 41, 2) := oc_16 (a := 41) (by decide +kernel)
theorem dX12_behindOne_12 : decode cX12_behindOne 12 = .ok (.if_icmp .ne 33, 3) := oc_160 (a := 0) (b := 33) (by decide +kernel)
theorem dX12_behindOne_45 : decode cX12_behindOne 45 = .ok (.iload_n 1, 1) := oc_27 (by decide +kernel)
theorem dX12_behindOne_46 : decode cX12_behindOne 46 = .ok (.bipush 43, 2) := oc_16 (a := 43) (by decide +kernel)
theorem dX12_behindOne_48 : decode cX12_behindOne 48 = .ok (.if_icmp .eq 9, 3) := oc_159 (a := 0) (b := 9) (by decide +kernel)
theorem dX12_behindOne_57 : decode cX12_behindOne 57 = .ok (.iconst 1, 1) := oc_4 (by decide +kernel)
theorem dX12_behindOne_58 : decode cX12_behindOne 58 = .ok (.goto 4, 3) := oc_167 (a := 0) (b := 4) (by decide +kernel)
theorem dX12_behindOne_62 : decode cX12_behindOne 62 = .ok (.istore_n 2, 1) := oc_61 (by decide +kernel)
theorem dX12_behindOne_63 : decode cX12_behindOne 63 = .ok (.aload_n 0, 1) := oc_42 (by decide +kernel)
theorem dX12_behindOne_64 : decode cX12_behindOne 64 = .ok (.iload_n 2, 1) := oc_28 (by decide +kernel)
theorem dX12_behindOne_65 : decode cX12_behindOne 65 = .ok (.ifCond .eq 7, 3) := oc_153 (a := 0) (b := 7) (by decide +kernel)
theorem dX12_behindOne_68 : decode cX12_behindOne 68 = .ok (.iconst 3, 1) := oc_6 (by decide +kernel)
theorem dX12_behindOne_69 : decode cX12_behindOne 69 = .ok (.goto 4, 3) := oc_167 (a := 0) (b := 4) (by decide +kernel)
theorem tw_901 : Cond.methodLink RX12 209 yX12_settle ∈ wsL_law := sg_38 _ (List.mem_of_getElem? (i := 13) rfl)
theorem tw_902 : Cond.instanceMethod yX12_settle ∈ wsL_law := sg_38 _ (List.mem_of_getElem? (i := 14) rfl)
theorem tw_903 : Cond.selects RX12 yX12_settle yX12_settle ∈ wsL_law := sg_38 _ (List.mem_of_getElem? (i := 15) rfl)
theorem tw_904 : Cond.code yX12_settle cX12_settle 2 none ∈ wsL_law := sg_38 _ (List.mem_of_getElem? (i := 16) rfl)
theorem dX12_behindOne_73 : decode cX12_behindOne 73 = .ok (.invokevirtual 209, 3) := oc_182 (a := 0) (b := 209) (by decide +kernel)
theorem dX12_behindOne_76 : decode cX12_behindOne 76 = .ok (.aload_n 0, 1) := oc_42 (by decide +kernel)
theorem dX12_behindOne_77 : decode cX12_behindOne 77 = .ok (.iload_n 1, 1) := oc_27 (by decide +kernel)
theorem dX12_behindOne_78 : decode cX12_behindOne 78 = .ok (.bipush 43, 2) := oc_16 (a := 43) (by decide +kernel)
theorem dX12_behindOne_80 : decode cX12_behindOne 80 = .ok (.if_icmp .ne 7, 3) := oc_160 (a := 0) (b := 7) (by decide +kernel)
theorem dX12_behindOne_83 : decode cX12_behindOne 83 = .ok (.iconst 3, 1) := oc_6 (by decide +kernel)
theorem dX12_behindOne_84 : decode cX12_behindOne 84 = .ok (.goto 25, 3) := oc_167 (a := 0) (b := 25) (by decide +kernel)
theorem dX12_behindOne_109 : decode cX12_behindOne 109 = .ok (.invokevirtual 202, 3) := oc_182 (a := 0) (b := 202) (by decide +kernel)
theorem dX12_behindOne_112 : decode cX12_behindOne 112 = .ok (.aload_n 0, 1) := oc_42 (by decide +kernel)
theorem dX12_behindOne_113 : decode cX12_behindOne 113 = .ok (.iconst 0, 1) := oc_3 (by decide +kernel)
theorem dX12_behindOne_114 : decode cX12_behindOne 114 = .ok (.putfield 181, 3) := oc_181 (a := 0) (b := 181) (by decide +kernel)
theorem dX12_behindOne_117 : decode cX12_behindOne 117 = .ok (.return_, 1) := oc_177 (by decide +kernel)
theorem dX12_behindOne_51 : decode cX12_behindOne 51 = .ok (.iload_n 1, 1) := oc_27 (by decide +kernel)
theorem dX12_behindOne_52 : decode cX12_behindOne 52 = .ok (.bipush 45, 2) := oc_16 (a := 45) (by decide +kernel)
theorem dX12_behindOne_54 : decode cX12_behindOne 54 = .ok (.if_icmp .ne 7, 3) := oc_160 (a := 0) (b := 7) (by decide +kernel)
theorem dX12_behindOne_61 : decode cX12_behindOne 61 = .ok (.iconst 0, 1) := oc_3 (by decide +kernel)
theorem dX12_behindOne_72 : decode cX12_behindOne 72 = .ok (.iconst 5, 1) := oc_8 (by decide +kernel)
theorem dX12_behindOne_87 : decode cX12_behindOne 87 = .ok (.iload_n 1, 1) := oc_27 (by decide +kernel)
theorem dX12_behindOne_88 : decode cX12_behindOne 88 = .ok (.bipush 45, 2) := oc_16 (a := 45) (by decide +kernel)
theorem dX12_behindOne_90 : decode cX12_behindOne 90 = .ok (.if_icmp .ne 7, 3) := oc_160 (a := 0) (b := 7) (by decide +kernel)
theorem dX12_behindOne_97 : decode cX12_behindOne 97 = .ok (.iload_n 1, 1) := oc_27 (by decide +kernel)
theorem dX12_behindOne_98 : decode cX12_behindOne 98 = .ok (.bipush 42, 2) := oc_16 (a := 42) (by decide +kernel)
theorem dX12_behindOne_100 : decode cX12_behindOne 100 = .ok (.if_icmp .ne 7, 3) := oc_160 (a := 0) (b := 7) (by decide +kernel)
theorem dX12_behindOne_107 : decode cX12_behindOne 107 = .ok (.bipush 6, 2) := oc_16 (a := 6) (by decide +kernel)
theorem dX12_behindOne_103 : decode cX12_behindOne 103 = .ok (.iconst 5, 1) := oc_8 (by decide +kernel)
theorem dX12_behindOne_104 : decode cX12_behindOne 104 = .ok (.goto 5, 3) := oc_167 (a := 0) (b := 5) (by decide +kernel)
theorem dX12_behindOne_93 : decode cX12_behindOne 93 = .ok (.iconst 4, 1) := oc_7 (by decide +kernel)
theorem dX12_behindOne_94 : decode cX12_behindOne 94 = .ok (.goto 15, 3) := oc_167 (a := 0) (b := 15) (by decide +kernel)
theorem dX12_behindOne_15 : decode cX12_behindOne 15 = .ok (.aload_n 0, 1) := oc_42 (by decide +kernel)
theorem dX12_behindOne_16 : decode cX12_behindOne 16 = .ok (.iconst 3, 1) := oc_6 (by decide +kernel)
theorem dX12_behindOne_17 : decode cX12_behindOne 17 = .ok (.invokevirtual 209, 3) := oc_182 (a := 0) (b := 209) (by decide +kernel)
theorem dX12_behindOne_20 : decode cX12_behindOne 20 = .ok (.aload_n 0, 1) := oc_42 (by decide +kernel)
theorem dX12_behindOne_21 : decode cX12_behindOne 21 = .ok (.dup, 1) := oc_89 (by decide +kernel)
theorem dX12_behindOne_22 : decode cX12_behindOne 22 = .ok (.getfield 178, 3) := oc_180 (a := 0) (b := 178) (by decide +kernel)
theorem dX12_behindOne_25 : decode cX12_behindOne 25 = .ok (.iconst 1, 1) := oc_4 (by decide +kernel)
theorem dX12_behindOne_26 : decode cX12_behindOne 26 = .ok (.isub, 1) := oc_100 (by decide +kernel)
theorem dX12_behindOne_27 : decode cX12_behindOne 27 = .ok (.putfield 178, 3) := oc_181 (a := 0) (b := 178) (by decide +kernel)
theorem dX12_behindOne_30 : decode cX12_behindOne 30 = .ok (.aload_n 0, 1) := oc_42 (by decide +kernel)
theorem dX12_behindOne_31 : decode cX12_behindOne 31 = .ok (.dup, 1) := oc_89 (by decide +kernel)
theorem dX12_behindOne_32 : decode cX12_behindOne 32 = .ok (.getfield 185, 3) := oc_180 (a := 0) (b := 185) (by decide +kernel)
theorem dX12_behindOne_35 : decode cX12_behindOne 35 = .ok (.iconst 1, 1) := oc_4 (by decide +kernel)
theorem dX12_behindOne_36 : decode cX12_behindOne 36 = .ok (.isub, 1) := oc_100 (by decide +kernel)
theorem dX12_behindOne_37 : decode cX12_behindOne 37 = .ok (.putfield 185, 3) := oc_181 (a := 0) (b := 185) (by decide +kernel)
theorem dX12_behindOne_40 : decode cX12_behindOne 40 = .ok (.aload_n 0, 1) := oc_42 (by decide +kernel)
theorem dX12_behindOne_41 : decode cX12_behindOne 41 = .ok (.invokevirtual 199, 3) := oc_182 (a := 0) (b := 199) (by decide +kernel)
theorem dX12_behindOne_44 : decode cX12_behindOne 44 = .ok (.return_, 1) := oc_177 (by decide +kernel)
theorem dX12_sum_0 : decode cX12_sum 0 = .ok (.aload_n 0, 1) := oc_42 (by decide +kernel)
theorem dX12_sum_1 : decode cX12_sum 1 = .ok (.iconst 0, 1) := oc_3 (by decide +kernel)
theorem dX12_sum_2 : decode cX12_sum 2 = .ok (.putfield 178, 3) := oc_181 (a := 0) (b := 178) (by decide +kernel)
theorem dX12_sum_5 : decode cX12_sum 5 = .ok (.aload_n 0, 1) := oc_42 (by decide +kernel)
theorem dX12_sum_6 : decode cX12_sum 6 = .ok (.iconst 0, 1) := oc_3 (by decide +kernel)
theorem dX12_sum_7 : decode cX12_sum 7 = .ok (.putfield 181, 3) := oc_181 (a := 0) (b := 181) (by decide +kernel)
theorem dX12_sum_10 : decode cX12_sum 10 = .ok (.aload_n 0, 1) := oc_42 (by decide +kernel)
theorem dX12_sum_11 : decode cX12_sum 11 = .ok (.getfield 181, 3) := oc_180 (a := 0) (b := 181) (by decide +kernel)
theorem dX12_sum_14 : decode cX12_sum 14 = .ok (.ifCond .eq 10, 3) := oc_153 (a := 0) (b := 10) (by decide +kernel)
theorem dX12_sum_24 : decode cX12_sum 24 = .ok (.aload_n 0, 1) := oc_42 (by decide +kernel)
theorem dX12_sum_25 : decode cX12_sum 25 = .ok (.getfield 181, 3) := oc_180 (a := 0) (b := 181) (by decide +kernel)
theorem dX12_sum_28 : decode cX12_sum 28 = .ok (.ifCond .eq 10, 3) := oc_153 (a := 0) (b := 10) (by decide +kernel)
theorem dX12_sum_38 : decode cX12_sum 38 = .ok (.aload_n 0, 1) := oc_42 (by decide +kernel)
theorem tw_917 : Cond.methodLink RX12 218 yX12_beginOne ∈ wsL_law := sg_39 _ (List.mem_of_getElem? (i := 5) rfl)
theorem tw_918 : Cond.instanceMethod yX12_beginOne ∈ wsL_law := sg_39 _ (List.mem_of_getElem? (i := 6) rfl)
theorem tw_919 : Cond.selects RX12 yX12_beginOne yX12_beginOne ∈ wsL_law := sg_39 _ (List.mem_of_getElem? (i := 7) rfl)
theorem tw_920 : Cond.code yX12_beginOne cX12_beginOne 1 (some .int) ∈ wsL_law := sg_39 _ (List.mem_of_getElem? (i := 8) rfl)
theorem dX12_sum_39 : decode cX12_sum 39 = .ok (.invokevirtual 218, 3) := oc_182 (a := 0) (b := 218) (by decide +kernel)
theorem dX12_sum_42 : decode cX12_sum 42 = .ok (.istore_n 1, 1) := oc_60 (by decide +kernel)
theorem dX12_sum_43 : decode cX12_sum 43 = .ok (.iload_n 1, 1) := oc_27 (by decide +kernel)
theorem dX12_sum_44 : decode cX12_sum 44 = .ok (.ifCond .eq 5, 3) := oc_153 (a := 0) (b := 5) (by decide +kernel)
theorem dX12_sum_49 : decode cX12_sum 49 = .ok (.goto (-39), 3) := oc_167 (a := 255) (b := 217) (by decide +kernel)
theorem dX12_sum_47 : decode cX12_sum 47 = .ok (.iload_n 1, 1) := oc_27 (by decide +kernel)
theorem dX12_sum_48 : decode cX12_sum 48 = .ok (.ireturn, 1) := oc_172 (by decide +kernel)
theorem dX12_sum_17 : decode cX12_sum 17 = .ok (.aload_n 0, 1) := oc_42 (by decide +kernel)
theorem tw_889 : Cond.methodLink RX12 212 yX12_goesOn ∈ wsL_law := sg_38 _ (List.mem_of_getElem? (i := 1) rfl)
theorem tw_890 : Cond.instanceMethod yX12_goesOn ∈ wsL_law := sg_38 _ (List.mem_of_getElem? (i := 2) rfl)
theorem tw_891 : Cond.selects RX12 yX12_goesOn yX12_goesOn ∈ wsL_law := sg_38 _ (List.mem_of_getElem? (i := 3) rfl)
theorem tw_892 : Cond.code yX12_goesOn cX12_goesOn 1 (some .boolean) ∈ wsL_law := sg_38 _ (List.mem_of_getElem? (i := 4) rfl)
theorem dX12_sum_18 : decode cX12_sum 18 = .ok (.invokevirtual 212, 3) := oc_182 (a := 0) (b := 212) (by decide +kernel)
theorem dX12_sum_21 : decode cX12_sum 21 = .ok (.ifCond .eq 31, 3) := oc_153 (a := 0) (b := 31) (by decide +kernel)
theorem dX12_sum_52 : decode cX12_sum 52 = .ok (.aload_n 0, 1) := oc_42 (by decide +kernel)
theorem dX12_sum_53 : decode cX12_sum 53 = .ok (.iconst 3, 1) := oc_6 (by decide +kernel)
theorem dX12_sum_54 : decode cX12_sum 54 = .ok (.invokevirtual 209, 3) := oc_182 (a := 0) (b := 209) (by decide +kernel)
theorem dX12_sum_57 : decode cX12_sum 57 = .ok (.aload_n 0, 1) := oc_42 (by decide +kernel)
theorem dX12_sum_58 : decode cX12_sum 58 = .ok (.getfield 178, 3) := oc_180 (a := 0) (b := 178) (by decide +kernel)
theorem dX12_sum_61 : decode cX12_sum 61 = .ok (.ifCond .le 7, 3) := oc_158 (a := 0) (b := 7) (by decide +kernel)
theorem dX12_sum_68 : decode cX12_sum 68 = .ok (.iconst 0, 1) := oc_3 (by decide +kernel)
theorem dX12_sum_69 : decode cX12_sum 69 = .ok (.ireturn, 1) := oc_172 (by decide +kernel)
theorem dX12_sum_64 : decode cX12_sum 64 = .ok (.iconst 1, 1) := oc_4 (by decide +kernel)
theorem dX12_sum_65 : decode cX12_sum 65 = .ok (.goto 4, 3) := oc_167 (a := 0) (b := 4) (by decide +kernel)
theorem dX12_sum_31 : decode cX12_sum 31 = .ok (.aload_n 0, 1) := oc_42 (by decide +kernel)
theorem tw_897 : Cond.methodLink RX12 215 yX12_behindOne ∈ wsL_law := sg_38 _ (List.mem_of_getElem? (i := 9) rfl)
theorem tw_898 : Cond.instanceMethod yX12_behindOne ∈ wsL_law := sg_38 _ (List.mem_of_getElem? (i := 10) rfl)
theorem tw_899 : Cond.selects RX12 yX12_behindOne yX12_behindOne ∈ wsL_law := sg_38 _ (List.mem_of_getElem? (i := 11) rfl)
theorem tw_900 : Cond.code yX12_behindOne cX12_behindOne 3 none ∈ wsL_law := sg_38 _ (List.mem_of_getElem? (i := 12) rfl)
theorem dX12_sum_32 : decode cX12_sum 32 = .ok (.invokevirtual 215, 3) := oc_182 (a := 0) (b := 215) (by decide +kernel)
theorem dX12_sum_35 : decode cX12_sum 35 = .ok (.goto (-25), 3) := oc_167 (a := 255) (b := 231) (by decide +kernel)
theorem dX12_compareOf_0 : decode cX12_compareOf 0 = .ok (.aload_n 0, 1) := oc_42 (by decide +kernel)
theorem dX12_compareOf_1 : decode cX12_compareOf 1 = .ok (.getfield 143, 3) := oc_180 (a := 0) (b := 143) (by decide +kernel)
theorem dX12_compareOf_4 : decode cX12_compareOf 4 = .ok (.bipush 60, 2) := oc_16 (a := 60) (by decide +kernel)
theorem dX12_compareOf_6 : decode cX12_compareOf 6 = .ok (.if_icmp .ne 8, 3) := oc_160 (a := 0) (b := 8) (by decide +kernel)
theorem dX12_compareOf_14 : decode cX12_compareOf 14 = .ok (.aload_n 0, 1) := oc_42 (by decide +kernel)
theorem dX12_compareOf_15 : decode cX12_compareOf 15 = .ok (.getfield 143, 3) := oc_180 (a := 0) (b := 143) (by decide +kernel)
theorem dX12_compareOf_18 : decode cX12_compareOf 18 = .ok (.iconst 4, 1) := oc_7 (by decide +kernel)
theorem dX12_compareOf_19 : decode cX12_compareOf 19 = .ok (.if_icmp .ne 8, 3) := oc_160 (a := 0) (b := 8) (by decide +kernel)
theorem dX12_compareOf_27 : decode cX12_compareOf 27 = .ok (.aload_n 0, 1) := oc_42 (by decide +kernel)
theorem dX12_compareOf_28 : decode cX12_compareOf 28 = .ok (.getfield 143, 3) := oc_180 (a := 0) (b := 143) (by decide +kernel)
theorem dX12_compareOf_31 : decode cX12_compareOf 31 = .ok (.bipush 62, 2) := oc_16 (a := 62) (by decide +kernel)
theorem dX12_compareOf_33 : decode cX12_compareOf 33 = .ok (.if_icmp .ne 8, 3) := oc_160 (a := 0) (b := 8) (by decide +kernel)
theorem dX12_compareOf_41 : decode cX12_compareOf 41 = .ok (.aload_n 0, 1) := oc_42 (by decide +kernel)
theorem dX12_compareOf_42 : decode cX12_compareOf 42 = .ok (.getfield 143, 3) := oc_180 (a := 0) (b := 143) (by decide +kernel)
theorem dX12_compareOf_45 : decode cX12_compareOf 45 = .ok (.iconst 5, 1) := oc_8 (by decide +kernel)
theorem dX12_compareOf_46 : decode cX12_compareOf 46 = .ok (.if_icmp .ne 8, 3) := oc_160 (a := 0) (b := 8) (by decide +kernel)
theorem dX12_compareOf_54 : decode cX12_compareOf 54 = .ok (.aload_n 0, 1) := oc_42 (by decide +kernel)
theorem dX12_compareOf_55 : decode cX12_compareOf 55 = .ok (.getfield 143, 3) := oc_180 (a := 0) (b := 143) (by decide +kernel)
theorem dX12_compareOf_58 : decode cX12_compareOf 58 = .ok (.bipush 61, 2) := oc_16 (a := 61) (by decide +kernel)
theorem dX12_compareOf_60 : decode cX12_compareOf 60 = .ok (.if_icmp .ne 8, 3) := oc_160 (a := 0) (b := 8) (by decide +kernel)
theorem dX12_compareOf_68 : decode cX12_compareOf 68 = .ok (.aload_n 0, 1) := oc_42 (by decide +kernel)
theorem dX12_compareOf_69 : decode cX12_compareOf 69 = .ok (.getfield 143, 3) := oc_180 (a := 0) (b := 143) (by decide +kernel)
theorem dX12_compareOf_72 : decode cX12_compareOf 72 = .ok (.bipush 35, 2) := oc_16 (a := 35) (by decide +kernel)
theorem dX12_compareOf_74 : decode cX12_compareOf 74 = .ok (.if_icmp .ne 8, 3) := oc_160 (a := 0) (b := 8) (by decide +kernel)
theorem dX12_compareOf_82 : decode cX12_compareOf 82 = .ok (.iconst (-1), 1) := oc_2 (by decide +kernel)
theorem dX12_compareOf_83 : decode cX12_compareOf 83 = .ok (.ireturn, 1) := oc_172 (by decide +kernel)
theorem dX12_compareOf_77 : decode cX12_compareOf 77 = .ok (.bipush 15, 2) := oc_16 (a := 15) (by decide +kernel)
theorem dX12_compareOf_79 : decode cX12_compareOf 79 = .ok (.goto 4, 3) := oc_167 (a := 0) (b := 4) (by decide +kernel)
theorem dX12_compareOf_63 : decode cX12_compareOf 63 = .ok (.bipush 14, 2) := oc_16 (a := 14) (by decide +kernel)
theorem dX12_compareOf_65 : decode cX12_compareOf 65 = .ok (.goto 18, 3) := oc_167 (a := 0) (b := 18) (by decide +kernel)
theorem dX12_compareOf_49 : decode cX12_compareOf 49 = .ok (.bipush 13, 2) := oc_16 (a := 13) (by decide +kernel)
theorem dX12_compareOf_51 : decode cX12_compareOf 51 = .ok (.goto 32, 3) := oc_167 (a := 0) (b := 32) (by decide +kernel)
theorem dX12_compareOf_36 : decode cX12_compareOf 36 = .ok (.bipush 12, 2) := oc_16 (a := 12) (by decide +kernel)
theorem dX12_compareOf_38 : decode cX12_compareOf 38 = .ok (.goto 45, 3) := oc_167 (a := 0) (b := 45) (by decide +kernel)
theorem dX12_compareOf_22 : decode cX12_compareOf 22 = .ok (.bipush 11, 2) := oc_16 (a := 11) (by decide +kernel)
theorem dX12_compareOf_24 : decode cX12_compareOf 24 = .ok (.goto 59, 3) := oc_167 (a := 0) (b := 59) (by decide +kernel)
theorem dX12_compareOf_9 : decode cX12_compareOf 9 = .ok (.bipush 10, 2) := oc_16 (a := 10) (by decide +kernel)
theorem dX12_compareOf_11 : decode cX12_compareOf 11 = .ok (.goto 72, 3) := oc_167 (a := 0) (b := 72) (by decide +kernel)
theorem dX12_ask_0 : decode cX12_ask 0 = .ok (.iconst 0, 1) := oc_3 (by decide +kernel)
theorem dX12_ask_1 : decode cX12_ask 1 = .ok (.istore_n 1, 1) := oc_60 (by decide +kernel)
theorem dX12_ask_2 : decode cX12_ask 2 = .ok (.aload_n 0, 1) := oc_42 (by decide +kernel)
theorem dX12_ask_3 : decode cX12_ask 3 = .ok (.bipush 110, 2) := oc_16 (a := 110) (by decide +kernel)
theorem dX12_ask_5 : decode cX12_ask 5 = .ok (.bipush 111, 2) := oc_16 (a := 111) (by decide +kernel)
theorem dX12_ask_7 : decode cX12_ask 7 = .ok (.bipush 116, 2) := oc_16 (a := 116) (by decide +kernel)
theorem dX12_ask_9 : decode cX12_ask 9 = .ok (.invokestatic 160, 3) := oc_184 (a := 0) (b := 160) (by decide +kernel)
theorem tw_879 : Cond.methodLink RX12 221 yX12_isWord ∈ wsL_law := sg_37 _ (List.mem_of_getElem? (i := 15) rfl)
theorem tw_880 : Cond.instanceMethod yX12_isWord ∈ wsL_law := sg_37 _ (List.mem_of_getElem? (i := 16) rfl)
theorem tw_881 : Cond.selects RX12 yX12_isWord yX12_isWord ∈ wsL_law := sg_37 _ (List.mem_of_getElem? (i := 17) rfl)
theorem tw_882 : Cond.code yX12_isWord cX12_isWord 3 (some .boolean) ∈ wsL_law := sg_37 _ (List.mem_of_getElem? (i := 18) rfl)
theorem dX12_ask_12 : decode cX12_ask 12 = .ok (.invokevirtual 221, 3) := oc_182 (a := 0) (b := 221) (by decide +kernel)
theorem dX12_ask_15 : decode cX12_ask 15 = .ok (.ifCond .eq 34, 3) := oc_153 (a := 0) (b := 34) (by decide +kernel)
theorem dX12_ask_49 : decode cX12_ask 49 = .ok (.aload_n 0, 1) := oc_42 (by decide +kernel)
theorem tw_883 : Cond.methodLink RX12 225 yX12_sum ∈ wsL_law := sg_37 _ (List.mem_of_getElem? (i := 19) rfl)
theorem tw_884 : Cond.instanceMethod yX12_sum ∈ wsL_law := sg_37 _ (List.mem_of_getElem? (i := 20) rfl)
theorem tw_885 : Cond.selects RX12 yX12_sum yX12_sum ∈ wsL_law := sg_37 _ (List.mem_of_getElem? (i := 21) rfl)
theorem tw_886 : Cond.code yX12_sum cX12_sum 2 (some .int) ∈ wsL_law := sg_37 _ (List.mem_of_getElem? (i := 22) rfl)
theorem dX12_ask_50 : decode cX12_ask 50 = .ok (.invokevirtual 225, 3) := oc_182 (a := 0) (b := 225) (by decide +kernel)
theorem dX12_ask_53 : decode cX12_ask 53 = .ok (.istore_n 2, 1) := oc_61 (by decide +kernel)
theorem dX12_ask_54 : decode cX12_ask 54 = .ok (.iload_n 2, 1) := oc_28 (by decide +kernel)
theorem dX12_ask_55 : decode cX12_ask 55 = .ok (.ifCond .eq 5, 3) := oc_153 (a := 0) (b := 5) (by decide +kernel)
theorem dX12_ask_60 : decode cX12_ask 60 = .ok (.aload_n 0, 1) := oc_42 (by decide +kernel)
theorem tw_925 : Cond.methodLink RX12 228 yX12_compareOf ∈ wsL_law := sg_39 _ (List.mem_of_getElem? (i := 13) rfl)
theorem tw_926 : Cond.instanceMethod yX12_compareOf ∈ wsL_law := sg_39 _ (List.mem_of_getElem? (i := 14) rfl)
theorem tw_927 : Cond.selects RX12 yX12_compareOf yX12_compareOf ∈ wsL_law := sg_39 _ (List.mem_of_getElem? (i := 15) rfl)
theorem tw_928 : Cond.code yX12_compareOf cX12_compareOf 1 (some .int) ∈ wsL_law := sg_39 _ (List.mem_of_getElem? (i := 16) rfl)
theorem dX12_ask_61 : decode cX12_ask 61 = .ok (.invokevirtual 228, 3) := oc_182 (a := 0) (b := 228) (by decide +kernel)
theorem dX12_ask_64 : decode cX12_ask 64 = .ok (.istore_n 3, 1) := oc_62 (by decide +kernel)
theorem dX12_ask_65 : decode cX12_ask 65 = .ok (.iload_n 3, 1) := oc_29 (by decide +kernel)
theorem dX12_ask_66 : decode cX12_ask 66 = .ok (.ifCond .ge 5, 3) := oc_156 (a := 0) (b := 5) (by decide +kernel)
theorem dX12_ask_71 : decode cX12_ask 71 = .ok (.aload_n 0, 1) := oc_42 (by decide +kernel)
theorem dX12_ask_72 : decode cX12_ask 72 = .ok (.invokevirtual 196, 3) := oc_182 (a := 0) (b := 196) (by decide +kernel)
theorem dX12_ask_75 : decode cX12_ask 75 = .ok (.aload_n 0, 1) := oc_42 (by decide +kernel)
theorem dX12_ask_76 : decode cX12_ask 76 = .ok (.invokevirtual 225, 3) := oc_182 (a := 0) (b := 225) (by decide +kernel)
theorem dX12_ask_79 : decode cX12_ask 79 = .ok (.istore_n 2, 1) := oc_61 (by decide +kernel)
theorem dX12_ask_80 : decode cX12_ask 80 = .ok (.iload_n 2, 1) := oc_28 (by decide +kernel)
theorem dX12_ask_81 : decode cX12_ask 81 = .ok (.ifCond .eq 5, 3) := oc_153 (a := 0) (b := 5) (by decide +kernel)
theorem dX12_ask_86 : decode cX12_ask 86 = .ok (.aload_n 0, 1) := oc_42 (by decide +kernel)
theorem dX12_ask_87 : decode cX12_ask 87 = .ok (.iload_n 3, 1) := oc_29 (by decide +kernel)
theorem dX12_ask_88 : decode cX12_ask 88 = .ok (.iconst 0, 1) := oc_3 (by decide +kernel)
theorem dX12_ask_89 : decode cX12_ask 89 = .ok (.invokevirtual 188, 3) := oc_182 (a := 0) (b := 188) (by decide +kernel)
theorem dX12_ask_92 : decode cX12_ask 92 = .ok (.aload_n 0, 1) := oc_42 (by decide +kernel)
theorem dX12_ask_93 : decode cX12_ask 93 = .ok (.dup, 1) := oc_89 (by decide +kernel)
theorem dX12_ask_94 : decode cX12_ask 94 = .ok (.getfield 185, 3) := oc_180 (a := 0) (b := 185) (by decide +kernel)
theorem dX12_ask_97 : decode cX12_ask 97 = .ok (.iload_n 1, 1) := oc_27 (by decide +kernel)
theorem dX12_ask_98 : decode cX12_ask 98 = .ok (.isub, 1) := oc_100 (by decide +kernel)
theorem dX12_ask_99 : decode cX12_ask 99 = .ok (.putfield 185, 3) := oc_181 (a := 0) (b := 185) (by decide +kernel)
theorem dX12_ask_102 : decode cX12_ask 102 = .ok (.iconst 0, 1) := oc_3 (by decide +kernel)
theorem dX12_ask_103 : decode cX12_ask 103 = .ok (.istore 4, 2) := oc_54 (by decide +kernel)
theorem dX12_ask_105 : decode cX12_ask 105 = .ok (.iload 4, 2) := oc_21 (by decide +kernel)
theorem dX12_ask_107 : decode cX12_ask 107 = .ok (.iload_n 1, 1) := oc_27 (by decide +kernel)
theorem dX12_ask_108 : decode cX12_ask 108 = .ok (.if_icmp .ge 16, 3) := oc_162 (a := 0) (b := 16) (by decide +kernel)
theorem dX12_ask_124 : decode cX12_ask 124 = .ok (.iconst 0, 1) := oc_3 (by decide +kernel)
theorem dX12_ask_125 : decode cX12_ask 125 = .ok (.ireturn, 1) := oc_172 (by decide +kernel)
theorem dX12_ask_111 : decode cX12_ask 111 = .ok (.aload_n 0, 1) := oc_42 (by decide +kernel)
theorem dX12_ask_112 : decode cX12_ask 112 = .ok (.bipush 20, 2) := oc_16 (a := 20) (by decide +kernel)
theorem dX12_ask_114 : decode cX12_ask 114 = .ok (.iconst 0, 1) := oc_3 (by decide +kernel)
theorem dX12_ask_115 : decode cX12_ask 115 = .ok (.invokevirtual 188, 3) := oc_182 (a := 0) (b := 188) (by decide +kernel)
theorem dX12_ask_118 : decode cX12_ask 118 = .ok (.iinc 4 1, 3) := oc_132 (b := 1) (by decide +kernel)
theorem dX12_ask_121 : decode cX12_ask 121 = .ok (.goto (-16), 3) := oc_167 (a := 255) (b := 240) (by decide +kernel)
theorem dX12_ask_84 : decode cX12_ask 84 = .ok (.iload_n 2, 1) := oc_28 (by decide +kernel)
theorem dX12_ask_85 : decode cX12_ask 85 = .ok (.ireturn, 1) := oc_172 (by decide +kernel)
theorem dX12_ask_69 : decode cX12_ask 69 = .ok (.iconst 1, 1) := oc_4 (by decide +kernel)
theorem dX12_ask_70 : decode cX12_ask 70 = .ok (.ireturn, 1) := oc_172 (by decide +kernel)
theorem dX12_ask_58 : decode cX12_ask 58 = .ok (.iload_n 2, 1) := oc_28 (by decide +kernel)
theorem dX12_ask_59 : decode cX12_ask 59 = .ok (.ireturn, 1) := oc_172 (by decide +kernel)
theorem dX12_ask_18 : decode cX12_ask 18 = .ok (.aload_n 0, 1) := oc_42 (by decide +kernel)
theorem dX12_ask_19 : decode cX12_ask 19 = .ok (.getfield 185, 3) := oc_180 (a := 0) (b := 185) (by decide +kernel)
theorem dX12_ask_22 : decode cX12_ask 22 = .ok (.bipush 8, 2) := oc_16 (a := 8) (by decide +kernel)
theorem dX12_ask_24 : decode cX12_ask 24 = .ok (.if_icmp .ne 5, 3) := oc_160 (a := 0) (b := 5) (by decide +kernel)
theorem dX12_ask_29 : decode cX12_ask 29 = .ok (.aload_n 0, 1) := oc_42 (by decide +kernel)
theorem dX12_ask_30 : decode cX12_ask 30 = .ok (.dup, 1) := oc_89 (by decide +kernel)
theorem dX12_ask_31 : decode cX12_ask 31 = .ok (.getfield 185, 3) := oc_180 (a := 0) (b := 185) (by decide +kernel)
theorem dX12_ask_34 : decode cX12_ask 34 = .ok (.iconst 1, 1) := oc_4 (by decide +kernel)
theorem dX12_ask_35 : decode cX12_ask 35 = .ok (.iadd, 1) := oc_96 (by decide +kernel)
theorem dX12_ask_36 : decode cX12_ask 36 = .ok (.putfield 185, 3) := oc_181 (a := 0) (b := 185) (by decide +kernel)
theorem dX12_ask_39 : decode cX12_ask 39 = .ok (.iinc 1 1, 3) := oc_132 (b := 1) (by decide +kernel)
theorem dX12_ask_42 : decode cX12_ask 42 = .ok (.aload_n 0, 1) := oc_42 (by decide +kernel)
theorem dX12_ask_43 : decode cX12_ask 43 = .ok (.invokevirtual 196, 3) := oc_182 (a := 0) (b := 196) (by decide +kernel)
theorem dX12_ask_46 : decode cX12_ask 46 = .ok (.goto (-44), 3) := oc_167 (a := 255) (b := 212) (by decide +kernel)
theorem dX12_ask_27 : decode cX12_ask 27 = .ok (.iconst 3, 1) := oc_6 (by decide +kernel)
theorem dX12_ask_28 : decode cX12_ask 28 = .ok (.ireturn, 1) := oc_172 (by decide +kernel)
set_option maxHeartbeats 4000000 in
set_option maxRecDepth 100000 in
theorem s_X12_behindOne (l : Launch) (D : va_G) (t : pq_T) (σ : pq_S) (I : Nat → Nat → Int32) (J : Nat → Nat → Int64) (ri : Nat → Nat → Int32) (rj : Nat → Nat → Int64) (rq : Nat → Nat → Option Nat) (sz : Nat) (tg : Nat → Nat) (hSH : SH σ tg) (hG0 : GT tg I ri) (this : Nat) (hL_this : this ∈ σ.1) (hK_this : σ.2.1 this = 12) (this_a : Nat) (hR_this_a : σ.2.2.1 384 this = some this_a) (hL_this_a : this_a ∈ σ.1) (hK_this_a : σ.2.1 this_a = 13) (hN_this_a : σ.2.2.2 this_a = 12720) (hT_this_a : tg this_a = 384) (this_pile : Nat) (hR_this_pile : σ.2.2.1 400 this = some this_pile) (hL_this_pile : this_pile ∈ σ.1) (hK_this_pile : σ.2.1 this_pile = 13) (hN_this_pile : σ.2.2.2 this_pile = 160) (hT_this_pile : tg this_pile = 400) (bb : Nat) (f0 : Nat → Int32) (fr : Int) (ba : Int) (tb : Int) (nn : Int) (K : Int) (hps : PSz (I 396 this).toInt (I 398 this).toInt (I 401 this).toInt (I 402 this).toInt (I 391 this).toInt (I 393 this).toInt (ri this_a) (ri this_pile) bb f0 fr ba tb nn K 1) (hgo : ((I 393 this).toInt = 43 ∨ (I 393 this).toInt = 45 ∨ (I 393 this).toInt = 42 ∨ (I 393 this).toInt = 47 ∨ (I 393 this).toInt = 41) ∧ ((I 393 this).toInt = 41 → ∃ k : Nat, (k : Int) < (I 401 this).toInt ∧ (ri this_pile k).toInt = 40)) : MetV l yX12_behindOne (wa yX12_behindOne cX12_behindOne 3 none) ({ frames := 3, cells := 0, slots := 0, locals := 64 }) [.ref this] D t σ (I, J, ri, rj, rq) sz 0 0 (fun (u : pq_S × pq_M) => ∃ I' : Nat → Nat → Int32, ∃ J' : Nat → Nat → Int64, ∃ ri' : Nat → Nat → Int32, u = (σ, I', J', ri', rj, rq) ∧ GM [391, 392, 393, 401, 398, 402] tg σ I ri I' ri' rq ∧ (PSz (I' 396 this).toInt (I' 398 this).toInt (I' 401 this).toInt (I' 402 this).toInt (I' 391 this).toInt (I' 393 this).toInt (ri' this_a) (ri' this_pile) bb f0 fr ba tb nn K (I' 403 this).toInt) ∧ (tmM (I' 391 this).toInt (I' 393 this).toInt < tmM (I 391 this).toInt (I 393 this).toInt)) := by
  refine Met.ofW (cc := cX12_behindOne) (maxL := 3) (ret := none) (by decide) rfl ?_
  intro p e s m args below meth c s₁ B hml hv
  obtain ⟨rfl, hsz, hP, hK, hD0, hN⟩ := hv
  have hx := B.exec
  have hb := B.bytes
  have hr := B.returns
  have hts := atoms_spec (ws := (wa yX12_behindOne cX12_behindOne 3 none)) B.pre
  have hown : s.vm.findClass RX12 = some m.cls := findClass_of_methodNamed B.named
  have hlocks := B.notSynchronized
  subst hsz
  have hD : va_D (pq_B t σ (I, J, ri, rj, rq) s.heap.size) (pq_P t σ (I, J, ri, rj, rq)) := hD0.self
  generalize hAe : pq_B t σ (I, J, ri, rj, rq) s.heap.size = A at hD ⊢
  have hA : ∀ q : Nat, s.heap.size ≤ q → A q := fun q h => by rw [← hAe]; exact Or.inr h
  have hS : va_S A s.heap s.heap [] := va_S.rf
  have hG : GM [391, 392, 393, 401, 398, 402] tg σ I ri I ri rq := ⟨hG0, fun _ _ _ => rfl, fun _ _ _ _ _ => rfl, fun _ _ _ _ _ _ => rfl⟩
  have hl := lv_entry ([.ref this]) (n := 3) (Nat.le_of_ble_eq_true rfl)
  rw [lg_entry_eq]
  generalize (lg_sl ([.ref this]) ++ List.replicate (3 - (lg_sl ([.ref this])).length) Slot.unset).toArray = ls at hl ⊢
  have hl : lv_has ls 3 [(0, .ref this)] := hl
  refine q_gen (fun Q hQ => ?_)
  have go : ∀ (H : Heap) (locs : List Loc) (ls : Array Slot), va_P D vwCl (pq_P t σ (I, J, ri, rj, rq)) H → va_D A (pq_P t σ (I, J, ri, rj, rq)) → va_S A s.heap H locs → lv_has ls 3 [(0, .ref this)] → W p l e ({ frames := 3, cells := 0, slots := 0, locals := 64 } : Room) s m (List.toArray ([.ref this] : List Value)) below meth c H locs 0 0 Q (F0 m 0 ls []) := by
    intro H locs ls hP hD hS hl
    refine lv_aload_n hx hb dX12_behindOne_0 rfl (lv_at hl 0 rfl) ?_
    refine pg_f (v := .int (I 393 this)) (C := RX12) (T := TX12) (N := 31) hx hb hts (tw_i inlX12) hown hK hP hL_this hK_this (by decide) rfl 9 (by decide) (hts _ (tw_c tw_831)) rfl dX12_behindOne_1 ?_
    refine lv_istore_n (lv' := [(1, .int (I 393 this)), (0, .ref this)]) hx hb dX12_behindOne_4 rfl hl (by decide) rfl (fun ls hl => ?_)
    refine lv_aload_n hx hb dX12_behindOne_5 rfl (lv_at hl 1 rfl) ?_
    obtain ⟨w_1, hR_w_1, hL_w_1, hK_w_1, hN_w_1, hT_w_1⟩ := sh_a hSH 387 (ci := 12) (kd := 13) (len := 300) rfl (by decide) hL_this hK_this
    refine pk_v (va_runV (As := []) (rest := []) ⟨hx, hb, hml, hown, hts⟩ (s_X12_nextToken_x l D t σ I J ri rj rq H.size tg hSH hG.1 this hL_this hK_this w_1 hR_w_1 hL_w_1 hK_w_1 hN_w_1 hT_w_1) (cwV 0 hts (tw_V tw_832 tw_833 tw_834 tw_5 tw_835) rfl rfl rfl cv_yX12_nextToken_0 ⟨Nat.le_of_ble_eq_true rfl, Nat.le_of_ble_eq_true rfl⟩) ⟨pq_blind, pq_recv hK hP hL_this hK_this (by decide) rfl, pq_pre hK hN hP hD⟩ rfl rfl hl.1 rfl (lv_room (Nat.le_of_ble_eq_true rfl)) dX12_behindOne_6 ⟨Nat.le_of_ble_eq_true rfl, Nat.le_of_ble_eq_true rfl⟩) hD hS hA (fun σ1 μ1 H locs hw_3 hP hD hS => ?_)
    obtain ⟨I_4, J_5, hu_6, hg_7, hp_9, hp_10, hp_11⟩ := hw_3
    obtain ⟨hu_6a, hu_6b⟩ := Prod.mk.inj hu_6
    rw [hu_6a, hu_6b] at hP hD
    have tt_12 := hp_9
    have tt_13 := hp_10
    have tt_14 := hp_11
    have tt_15 : (I_4 391 this).toInt ≤ 300 := by have z := hg_7.1.1 391 this; exact z.2
    have hG := GM.tr hG hg_7 (by decide)
    have tt_16 : (I_4 396 this).toInt = (I 396 this).toInt := by rw [hg_7.2.1 396 (by decide) (by decide)]
    have tt_17 : (I_4 398 this).toInt = (I 398 this).toInt := by rw [hg_7.2.1 398 (by decide) (by decide)]
    have tt_18 : (I_4 401 this).toInt = (I 401 this).toInt := by rw [hg_7.2.1 401 (by decide) (by decide)]
    have tt_19 : (I_4 402 this).toInt = (I 402 this).toInt := by rw [hg_7.2.1 402 (by decide) (by decide)]
    have tt_20 : (I_4 397 this).toInt = (I 397 this).toInt := by rw [hg_7.2.1 397 (by decide) (by decide)]
    have hgo1 := hgo.1
    have hK0 : 0 ≤ K := hps.2.2.2.2.1
    have hps1 : PSz (I_4 396 this).toInt (I_4 398 this).toInt (I_4 401 this).toInt (I_4 402 this).toInt (I_4 391 this).toInt (I_4 393 this).toInt (ri this_a) (ri this_pile) bb f0 fr ba tb nn (K + 1) 1 := PSz_tok hps (by omega) (by omega) (by omega) (by omega) (by omega) (by omega) (by omega) (by omega) rfl rfl
    have htm : tmM (I_4 391 this).toInt (I_4 393 this).toInt < tmM (I 391 this).toInt (I 393 this).toInt := tm_lt (by omega) (by omega) (by omega)
    refine lv_iload_n hx hb dX12_behindOne_9 rfl (lv_at hl 0 rfl) ?_
    refine lv_bipush (v := 41) hx hb dX12_behindOne_10 (by decide) ?_
    refine lv_icmp_ne (tgt := 45) hx hb dX12_behindOne_12 (by decide) (fun c_21 => ?_) (fun c_21 => ?_)
    · have tc_22 : (I 393 this).toInt ≠ 41 := fun q => c_21 (Int32.toInt_inj.mp q)
      refine lv_iload_n hx hb dX12_behindOne_45 rfl (lv_at hl 0 rfl) ?_
      refine lv_bipush (v := 43) hx hb dX12_behindOne_46 (by decide) ?_
      refine lv_icmp_eq (tgt := 57) hx hb dX12_behindOne_48 (by decide) (fun c_23 => ?_) (fun c_23 => ?_)
      · have tc_24 : (I 393 this).toInt = 43 := congrArg Int32.toInt c_23
        have h_25 : rg (I 393 this) 43 43 := rg_and (rg_full _) (rg_of_eq c_23 (rg_k (43 : Int32) 43 rfl)) (by decide)
        have uh_25 := h_25.1
        have vh_25 := h_25.2
        refine lv_iconst (v := 1) hx hb dX12_behindOne_57 (by decide) ?_
        refine lv_goto (tgt := 62) hx hb dX12_behindOne_58 (by decide) ?_
        refine lv_istore_n (lv' := [(2, .int 1), (1, .int (I 393 this)), (0, .ref this)]) hx hb dX12_behindOne_62 rfl hl (by decide) rfl (fun ls hl => ?_)
        refine lv_aload_n hx hb dX12_behindOne_63 rfl (lv_at hl 2 rfl) ?_
        refine lv_iload_n hx hb dX12_behindOne_64 rfl (lv_at hl 0 rfl) ?_
        refine lv_if_eq (tgt := 72) hx hb dX12_behindOne_65 (by decide) (fun c_26 => absurd c_26 (by decide)) (fun c_26 => ?_)
        refine lv_iconst (v := 3) hx hb dX12_behindOne_68 (by decide) ?_
        refine lv_goto (tgt := 73) hx hb dX12_behindOne_69 (by decide) ?_
        refine pk_v (va_runV (As := [.int 3]) (rest := []) ⟨hx, hb, hml, hown, hts⟩ (s_X12_settle l D t σ I_4 J_5 ri rj rq H.size tg hSH hG.1 this (3 : Int32) hL_this hK_this (rg_w (rg_k (3 : Int32) 3 rfl) (by decide)) this_a hR_this_a hL_this_a hK_this_a hN_this_a hT_this_a this_pile hR_this_pile hL_this_pile hK_this_pile hN_this_pile hT_this_pile bb f0 fr ba tb nn (K + 1) (by assumption)) (cwV 1 hts (tw_V tw_901 tw_902 tw_903 tw_5 tw_904) rfl rfl rfl cv_yX12_settle_1 ⟨Nat.le_of_ble_eq_true rfl, Nat.le_of_ble_eq_true rfl⟩) ⟨pq_blind, pq_recv hK hP hL_this hK_this (by decide) rfl, pq_pre hK hN hP hD⟩ rfl rfl hl.1 rfl (lv_room (Nat.le_of_ble_eq_true rfl)) dX12_behindOne_73 ⟨Nat.le_of_ble_eq_true rfl, Nat.le_of_ble_eq_true rfl⟩) hD hS hA (fun σ1 μ1 H locs hw_28 hP hD hS => ?_)
        obtain ⟨I_29, ri_30, hu_31, hg_32, hp_34, hp_35, hp_36, hp_37, hp_38⟩ := hw_28
        obtain ⟨hu_31a, hu_31b⟩ := Prod.mk.inj hu_31
        rw [hu_31a, hu_31b] at hP hD
        have tt_39 := hp_38
        have hG := GM.tr hG hg_32 (by decide)
        have tt_40 : (I_29 396 this).toInt = (I_4 396 this).toInt := by rw [hg_32.2.1 396 (by decide) (by decide)]
        have tt_41 : (I_29 402 this).toInt = (I_4 402 this).toInt := by rw [hg_32.2.1 402 (by decide) (by decide)]
        have tt_42 : (I_29 391 this).toInt = (I_4 391 this).toInt := by rw [hg_32.2.1 391 (by decide) (by decide)]
        have tt_43 : (I_29 393 this).toInt = (I_4 393 this).toInt := by rw [hg_32.2.1 393 (by decide) (by decide)]
        have tt_44 : (I_29 397 this).toInt = (I_4 397 this).toInt := by rw [hg_32.2.1 397 (by decide) (by decide)]
        refine lv_aload_n hx hb dX12_behindOne_76 rfl (lv_at hl 2 rfl) ?_
        refine lv_iload_n hx hb dX12_behindOne_77 rfl (lv_at hl 1 rfl) ?_
        refine lv_bipush (v := 43) hx hb dX12_behindOne_78 (by decide) ?_
        refine lv_icmp_ne (tgt := 87) hx hb dX12_behindOne_80 (by decide) (fun c_45 => ?_) (fun c_45 => ?_)
        · have tc_46 : (I 393 this).toInt ≠ 43 := fun q => c_45 (Int32.toInt_inj.mp q)
          exact (rg_empty (rg_ne c_45 h_25 43 rfl (lo := 44) (hi := 42) (by decide)) (by decide)).elim
        · have tc_47 : (I 393 this).toInt = 43 := congrArg Int32.toInt c_45
          refine lv_iconst (v := 3) hx hb dX12_behindOne_83 (by decide) ?_
          refine lv_goto (tgt := 109) hx hb dX12_behindOne_84 (by decide) ?_
          have hq3 := PSz_bd hp_34
          refine pk_v (va_runV (As := [.int 3]) (rest := []) ⟨hx, hb, hml, hown, hts⟩ (s_X12_push l D t σ I_29 J_5 ri_30 rj rq H.size tg hSH hG.1 this (3 : Int32) hL_this hK_this (rg_w (rg_k (3 : Int32) 3 rfl) (by decide)) this_pile hR_this_pile hL_this_pile hK_this_pile hN_this_pile hT_this_pile (by omega)) (cwV 1 hts (tw_V tw_913 tw_914 tw_915 tw_5 tw_916) rfl rfl rfl cv_yX12_push_1 ⟨Nat.le_of_ble_eq_true rfl, Nat.le_of_ble_eq_true rfl⟩) ⟨pq_blind, pq_recv hK hP hL_this hK_this (by decide) rfl, pq_pre hK hN hP hD⟩ rfl rfl hl.1 rfl (lv_room (Nat.le_of_ble_eq_true rfl)) dX12_behindOne_109 ⟨Nat.le_of_ble_eq_true rfl, Nat.le_of_ble_eq_true rfl⟩) hD hS hA (fun σ1 μ1 H locs hw_49 hP hD hS => ?_)
          obtain ⟨I_50, ri_51, hu_52, hg_53, hp_55, hp_56, hp_57⟩ := hw_49
          obtain ⟨hu_52a, hu_52b⟩ := Prod.mk.inj hu_52
          rw [hu_52a, hu_52b] at hP hD
          obtain ⟨v_58, ev_58, hv_58⟩ := hp_55
          have tt_59 : (I_50 401 this).toInt = (I_29 401 this).toInt + 1 := by rw [ev_58, pq_us]; exact hv_58
          have tt_60 : (I_50 403 this).toInt = (I_29 403 this).toInt := by rw [ev_58, pq_uf _ _ _ (by decide)]
          have hG := GM.tr hG hg_53 (by decide)
          have tt_61 : (I_50 396 this).toInt = (I_29 396 this).toInt := by rw [hg_53.2.1 396 (by decide) (by decide)]
          have tt_62 : (I_50 398 this).toInt = (I_29 398 this).toInt := by rw [hg_53.2.1 398 (by decide) (by decide)]
          have tt_63 : (I_50 402 this).toInt = (I_29 402 this).toInt := by rw [hg_53.2.1 402 (by decide) (by decide)]
          have tt_64 : (I_50 391 this).toInt = (I_29 391 this).toInt := by rw [hg_53.2.1 391 (by decide) (by decide)]
          have tt_65 : (I_50 393 this).toInt = (I_29 393 this).toInt := by rw [hg_53.2.1 393 (by decide) (by decide)]
          have tt_66 : (I_50 397 this).toInt = (I_29 397 this).toInt := by rw [hg_53.2.1 397 (by decide) (by decide)]
          refine lv_aload_n hx hb dX12_behindOne_112 rfl (lv_at hl 2 rfl) ?_
          refine lv_iconst (v := 0) hx hb dX12_behindOne_113 (by decide) ?_
          refine pp_i (v := 0) (ty := .boolean) (C := RX12) (T := TX12) (N := 31) hx hb hts (tw_i inlX12) tyX12 tyX12_ok nmX12 hown hK hP hD hS hL_this hK_this (by decide) rfl 19 403 (by decide) (hts _ (tw_c tw_888)) rfl (tyX12_ok 19 (by decide)) rfl (by decide) (Nat.le_of_ble_eq_true rfl) (ps_403 _ _ _ _ _) dX12_behindOne_114 (fun I_67 H locs eI_67 hP hD hS => ?_)
          have hG := GM.wI hG 403 rfl eI_67 (rg_w (rg_k (0 : Int32) 0 rfl) (by decide)) (by decide)
          have tt_68 : (I_67 396 this).toInt = (I_50 396 this).toInt := by rw [eI_67, pq_uf _ _ _ (by decide)]
          have tt_69 : (I_67 398 this).toInt = (I_50 398 this).toInt := by rw [eI_67, pq_uf _ _ _ (by decide)]
          have tt_70 : (I_67 401 this).toInt = (I_50 401 this).toInt := by rw [eI_67, pq_uf _ _ _ (by decide)]
          have tt_71 : (I_67 402 this).toInt = (I_50 402 this).toInt := by rw [eI_67, pq_uf _ _ _ (by decide)]
          have tt_72 : (I_67 391 this).toInt = (I_50 391 this).toInt := by rw [eI_67, pq_uf _ _ _ (by decide)]
          have tt_73 : (I_67 393 this).toInt = (I_50 393 this).toInt := by rw [eI_67, pq_uf _ _ _ (by decide)]
          have tt_74 : (I_67 403 this).toInt = 0 := by rw [eI_67, pq_us]; rfl
          have tt_75 : (I_67 397 this).toInt = (I_50 397 this).toInt := by rw [eI_67, pq_uf _ _ _ (by decide)]
          subst hQ
          exact W.vret hx hb hr (fun t1 ht hW => ⟨⟨(σ, I_67, J_5, ri_51, rj, rq), rfl, ⟨I_67, J_5, ri_51, rfl, hG, (by rw [show (I_67 403 this).toInt = 0 from by omega]; exact PSz_push hp_34 hK0 (x := (3 : Int32)) (by decide) (PSz_hl hp_34 hp_35 (by decide)) (by omega) (by omega) (by omega) (by omega) (by omega) (by omega) (hp_57 this_a (tg_ne hT_this_a hT_this_pile (by decide))) (by rw [show (I_29 401 this).toInt = (I_29 401 this).toInt from by omega]; exact hp_56)), (tm_cg htm (by omega) (by omega) rfl rfl)⟩, by rw [ht]; exact hP, va_K.moved hW.alike hK, hD⟩, hS.F ht⟩) hS.2.2 dX12_behindOne_117
      · have tc_76 : (I 393 this).toInt ≠ 43 := fun q => c_23 (Int32.toInt_inj.mp q)
        refine lv_iload_n hx hb dX12_behindOne_51 rfl (lv_at hl 0 rfl) ?_
        refine lv_bipush (v := 45) hx hb dX12_behindOne_52 (by decide) ?_
        refine lv_icmp_ne (tgt := 61) hx hb dX12_behindOne_54 (by decide) (fun c_77 => ?_) (fun c_77 => ?_)
        · have tc_78 : (I 393 this).toInt ≠ 45 := fun q => c_77 (Int32.toInt_inj.mp q)
          refine lv_iconst (v := 0) hx hb dX12_behindOne_61 (by decide) ?_
          refine lv_istore_n (lv' := [(2, .int 0), (1, .int (I 393 this)), (0, .ref this)]) hx hb dX12_behindOne_62 rfl hl (by decide) rfl (fun ls hl => ?_)
          refine lv_aload_n hx hb dX12_behindOne_63 rfl (lv_at hl 2 rfl) ?_
          refine lv_iload_n hx hb dX12_behindOne_64 rfl (lv_at hl 0 rfl) ?_
          refine lv_if_eq (tgt := 72) hx hb dX12_behindOne_65 (by decide) (fun c_79 => ?_) (fun c_79 => absurd c_79 (by decide))
          refine lv_iconst (v := 5) hx hb dX12_behindOne_72 (by decide) ?_
          refine pk_v (va_runV (As := [.int 5]) (rest := []) ⟨hx, hb, hml, hown, hts⟩ (s_X12_settle l D t σ I_4 J_5 ri rj rq H.size tg hSH hG.1 this (5 : Int32) hL_this hK_this (rg_w (rg_k (5 : Int32) 5 rfl) (by decide)) this_a hR_this_a hL_this_a hK_this_a hN_this_a hT_this_a this_pile hR_this_pile hL_this_pile hK_this_pile hN_this_pile hT_this_pile bb f0 fr ba tb nn (K + 1) (by assumption)) (cwV 1 hts (tw_V tw_901 tw_902 tw_903 tw_5 tw_904) rfl rfl rfl cv_yX12_settle_1 ⟨Nat.le_of_ble_eq_true rfl, Nat.le_of_ble_eq_true rfl⟩) ⟨pq_blind, pq_recv hK hP hL_this hK_this (by decide) rfl, pq_pre hK hN hP hD⟩ rfl rfl hl.1 rfl (lv_room (Nat.le_of_ble_eq_true rfl)) dX12_behindOne_73 ⟨Nat.le_of_ble_eq_true rfl, Nat.le_of_ble_eq_true rfl⟩) hD hS hA (fun σ1 μ1 H locs hw_81 hP hD hS => ?_)
          obtain ⟨I_82, ri_83, hu_84, hg_85, hp_87, hp_88, hp_89, hp_90, hp_91⟩ := hw_81
          obtain ⟨hu_84a, hu_84b⟩ := Prod.mk.inj hu_84
          rw [hu_84a, hu_84b] at hP hD
          have tt_92 := hp_91
          have hG := GM.tr hG hg_85 (by decide)
          have tt_93 : (I_82 396 this).toInt = (I_4 396 this).toInt := by rw [hg_85.2.1 396 (by decide) (by decide)]
          have tt_94 : (I_82 402 this).toInt = (I_4 402 this).toInt := by rw [hg_85.2.1 402 (by decide) (by decide)]
          have tt_95 : (I_82 391 this).toInt = (I_4 391 this).toInt := by rw [hg_85.2.1 391 (by decide) (by decide)]
          have tt_96 : (I_82 393 this).toInt = (I_4 393 this).toInt := by rw [hg_85.2.1 393 (by decide) (by decide)]
          have tt_97 : (I_82 397 this).toInt = (I_4 397 this).toInt := by rw [hg_85.2.1 397 (by decide) (by decide)]
          refine lv_aload_n hx hb dX12_behindOne_76 rfl (lv_at hl 2 rfl) ?_
          refine lv_iload_n hx hb dX12_behindOne_77 rfl (lv_at hl 1 rfl) ?_
          refine lv_bipush (v := 43) hx hb dX12_behindOne_78 (by decide) ?_
          refine lv_icmp_ne (tgt := 87) hx hb dX12_behindOne_80 (by decide) (fun c_98 => ?_) (fun c_98 => ?_)
          · have tc_99 : (I 393 this).toInt ≠ 43 := fun q => c_98 (Int32.toInt_inj.mp q)
            refine lv_iload_n hx hb dX12_behindOne_87 rfl (lv_at hl 1 rfl) ?_
            refine lv_bipush (v := 45) hx hb dX12_behindOne_88 (by decide) ?_
            refine lv_icmp_ne (tgt := 97) hx hb dX12_behindOne_90 (by decide) (fun c_100 => ?_) (fun c_100 => ?_)
            · have tc_101 : (I 393 this).toInt ≠ 45 := fun q => c_100 (Int32.toInt_inj.mp q)
              refine lv_iload_n hx hb dX12_behindOne_97 rfl (lv_at hl 1 rfl) ?_
              refine lv_bipush (v := 42) hx hb dX12_behindOne_98 (by decide) ?_
              refine lv_icmp_ne (tgt := 107) hx hb dX12_behindOne_100 (by decide) (fun c_102 => ?_) (fun c_102 => ?_)
              · have tc_103 : (I 393 this).toInt ≠ 42 := fun q => c_102 (Int32.toInt_inj.mp q)
                refine lv_bipush (v := 6) hx hb dX12_behindOne_107 (by decide) ?_
                have hq3 := PSz_bd hp_87
                refine pk_v (va_runV (As := [.int 6]) (rest := []) ⟨hx, hb, hml, hown, hts⟩ (s_X12_push l D t σ I_82 J_5 ri_83 rj rq H.size tg hSH hG.1 this (6 : Int32) hL_this hK_this (rg_w (rg_k (6 : Int32) 6 rfl) (by decide)) this_pile hR_this_pile hL_this_pile hK_this_pile hN_this_pile hT_this_pile (by omega)) (cwV 1 hts (tw_V tw_913 tw_914 tw_915 tw_5 tw_916) rfl rfl rfl cv_yX12_push_1 ⟨Nat.le_of_ble_eq_true rfl, Nat.le_of_ble_eq_true rfl⟩) ⟨pq_blind, pq_recv hK hP hL_this hK_this (by decide) rfl, pq_pre hK hN hP hD⟩ rfl rfl hl.1 rfl (lv_room (Nat.le_of_ble_eq_true rfl)) dX12_behindOne_109 ⟨Nat.le_of_ble_eq_true rfl, Nat.le_of_ble_eq_true rfl⟩) hD hS hA (fun σ1 μ1 H locs hw_105 hP hD hS => ?_)
                obtain ⟨I_106, ri_107, hu_108, hg_109, hp_111, hp_112, hp_113⟩ := hw_105
                obtain ⟨hu_108a, hu_108b⟩ := Prod.mk.inj hu_108
                rw [hu_108a, hu_108b] at hP hD
                obtain ⟨v_114, ev_114, hv_114⟩ := hp_111
                have tt_115 : (I_106 401 this).toInt = (I_82 401 this).toInt + 1 := by rw [ev_114, pq_us]; exact hv_114
                have tt_116 : (I_106 403 this).toInt = (I_82 403 this).toInt := by rw [ev_114, pq_uf _ _ _ (by decide)]
                have hG := GM.tr hG hg_109 (by decide)
                have tt_117 : (I_106 396 this).toInt = (I_82 396 this).toInt := by rw [hg_109.2.1 396 (by decide) (by decide)]
                have tt_118 : (I_106 398 this).toInt = (I_82 398 this).toInt := by rw [hg_109.2.1 398 (by decide) (by decide)]
                have tt_119 : (I_106 402 this).toInt = (I_82 402 this).toInt := by rw [hg_109.2.1 402 (by decide) (by decide)]
                have tt_120 : (I_106 391 this).toInt = (I_82 391 this).toInt := by rw [hg_109.2.1 391 (by decide) (by decide)]
                have tt_121 : (I_106 393 this).toInt = (I_82 393 this).toInt := by rw [hg_109.2.1 393 (by decide) (by decide)]
                have tt_122 : (I_106 397 this).toInt = (I_82 397 this).toInt := by rw [hg_109.2.1 397 (by decide) (by decide)]
                refine lv_aload_n hx hb dX12_behindOne_112 rfl (lv_at hl 2 rfl) ?_
                refine lv_iconst (v := 0) hx hb dX12_behindOne_113 (by decide) ?_
                refine pp_i (v := 0) (ty := .boolean) (C := RX12) (T := TX12) (N := 31) hx hb hts (tw_i inlX12) tyX12 tyX12_ok nmX12 hown hK hP hD hS hL_this hK_this (by decide) rfl 19 403 (by decide) (hts _ (tw_c tw_888)) rfl (tyX12_ok 19 (by decide)) rfl (by decide) (Nat.le_of_ble_eq_true rfl) (ps_403 _ _ _ _ _) dX12_behindOne_114 (fun I_123 H locs eI_123 hP hD hS => ?_)
                have hG := GM.wI hG 403 rfl eI_123 (rg_w (rg_k (0 : Int32) 0 rfl) (by decide)) (by decide)
                have tt_124 : (I_123 396 this).toInt = (I_106 396 this).toInt := by rw [eI_123, pq_uf _ _ _ (by decide)]
                have tt_125 : (I_123 398 this).toInt = (I_106 398 this).toInt := by rw [eI_123, pq_uf _ _ _ (by decide)]
                have tt_126 : (I_123 401 this).toInt = (I_106 401 this).toInt := by rw [eI_123, pq_uf _ _ _ (by decide)]
                have tt_127 : (I_123 402 this).toInt = (I_106 402 this).toInt := by rw [eI_123, pq_uf _ _ _ (by decide)]
                have tt_128 : (I_123 391 this).toInt = (I_106 391 this).toInt := by rw [eI_123, pq_uf _ _ _ (by decide)]
                have tt_129 : (I_123 393 this).toInt = (I_106 393 this).toInt := by rw [eI_123, pq_uf _ _ _ (by decide)]
                have tt_130 : (I_123 403 this).toInt = 0 := by rw [eI_123, pq_us]; rfl
                have tt_131 : (I_123 397 this).toInt = (I_106 397 this).toInt := by rw [eI_123, pq_uf _ _ _ (by decide)]
                subst hQ
                exact W.vret hx hb hr (fun t1 ht hW => ⟨⟨(σ, I_123, J_5, ri_107, rj, rq), rfl, ⟨I_123, J_5, ri_107, rfl, hG, (by rw [show (I_123 403 this).toInt = 0 from by omega]; exact PSz_push hp_87 hK0 (x := (6 : Int32)) (by decide) (PSz_hl hp_87 hp_88 (by decide)) (by omega) (by omega) (by omega) (by omega) (by omega) (by omega) (hp_113 this_a (tg_ne hT_this_a hT_this_pile (by decide))) (by rw [show (I_82 401 this).toInt = (I_82 401 this).toInt from by omega]; exact hp_112)), (tm_cg htm (by omega) (by omega) rfl rfl)⟩, by rw [ht]; exact hP, va_K.moved hW.alike hK, hD⟩, hS.F ht⟩) hS.2.2 dX12_behindOne_117
              · have tc_132 : (I 393 this).toInt = 42 := congrArg Int32.toInt c_102
                have h_133 : rg (I 393 this) 42 42 := rg_and (rg_full _) (rg_of_eq c_102 (rg_k (42 : Int32) 42 rfl)) (by decide)
                have uh_133 := h_133.1
                have vh_133 := h_133.2
                refine lv_iconst (v := 5) hx hb dX12_behindOne_103 (by decide) ?_
                refine lv_goto (tgt := 109) hx hb dX12_behindOne_104 (by decide) ?_
                have hq3 := PSz_bd hp_87
                refine pk_v (va_runV (As := [.int 5]) (rest := []) ⟨hx, hb, hml, hown, hts⟩ (s_X12_push l D t σ I_82 J_5 ri_83 rj rq H.size tg hSH hG.1 this (5 : Int32) hL_this hK_this (rg_w (rg_k (5 : Int32) 5 rfl) (by decide)) this_pile hR_this_pile hL_this_pile hK_this_pile hN_this_pile hT_this_pile (by omega)) (cwV 1 hts (tw_V tw_913 tw_914 tw_915 tw_5 tw_916) rfl rfl rfl cv_yX12_push_1 ⟨Nat.le_of_ble_eq_true rfl, Nat.le_of_ble_eq_true rfl⟩) ⟨pq_blind, pq_recv hK hP hL_this hK_this (by decide) rfl, pq_pre hK hN hP hD⟩ rfl rfl hl.1 rfl (lv_room (Nat.le_of_ble_eq_true rfl)) dX12_behindOne_109 ⟨Nat.le_of_ble_eq_true rfl, Nat.le_of_ble_eq_true rfl⟩) hD hS hA (fun σ1 μ1 H locs hw_135 hP hD hS => ?_)
                obtain ⟨I_136, ri_137, hu_138, hg_139, hp_141, hp_142, hp_143⟩ := hw_135
                obtain ⟨hu_138a, hu_138b⟩ := Prod.mk.inj hu_138
                rw [hu_138a, hu_138b] at hP hD
                obtain ⟨v_144, ev_144, hv_144⟩ := hp_141
                have tt_145 : (I_136 401 this).toInt = (I_82 401 this).toInt + 1 := by rw [ev_144, pq_us]; exact hv_144
                have tt_146 : (I_136 403 this).toInt = (I_82 403 this).toInt := by rw [ev_144, pq_uf _ _ _ (by decide)]
                have hG := GM.tr hG hg_139 (by decide)
                have tt_147 : (I_136 396 this).toInt = (I_82 396 this).toInt := by rw [hg_139.2.1 396 (by decide) (by decide)]
                have tt_148 : (I_136 398 this).toInt = (I_82 398 this).toInt := by rw [hg_139.2.1 398 (by decide) (by decide)]
                have tt_149 : (I_136 402 this).toInt = (I_82 402 this).toInt := by rw [hg_139.2.1 402 (by decide) (by decide)]
                have tt_150 : (I_136 391 this).toInt = (I_82 391 this).toInt := by rw [hg_139.2.1 391 (by decide) (by decide)]
                have tt_151 : (I_136 393 this).toInt = (I_82 393 this).toInt := by rw [hg_139.2.1 393 (by decide) (by decide)]
                have tt_152 : (I_136 397 this).toInt = (I_82 397 this).toInt := by rw [hg_139.2.1 397 (by decide) (by decide)]
                refine lv_aload_n hx hb dX12_behindOne_112 rfl (lv_at hl 2 rfl) ?_
                refine lv_iconst (v := 0) hx hb dX12_behindOne_113 (by decide) ?_
                refine pp_i (v := 0) (ty := .boolean) (C := RX12) (T := TX12) (N := 31) hx hb hts (tw_i inlX12) tyX12 tyX12_ok nmX12 hown hK hP hD hS hL_this hK_this (by decide) rfl 19 403 (by decide) (hts _ (tw_c tw_888)) rfl (tyX12_ok 19 (by decide)) rfl (by decide) (Nat.le_of_ble_eq_true rfl) (ps_403 _ _ _ _ _) dX12_behindOne_114 (fun I_153 H locs eI_153 hP hD hS => ?_)
                have hG := GM.wI hG 403 rfl eI_153 (rg_w (rg_k (0 : Int32) 0 rfl) (by decide)) (by decide)
                have tt_154 : (I_153 396 this).toInt = (I_136 396 this).toInt := by rw [eI_153, pq_uf _ _ _ (by decide)]
                have tt_155 : (I_153 398 this).toInt = (I_136 398 this).toInt := by rw [eI_153, pq_uf _ _ _ (by decide)]
                have tt_156 : (I_153 401 this).toInt = (I_136 401 this).toInt := by rw [eI_153, pq_uf _ _ _ (by decide)]
                have tt_157 : (I_153 402 this).toInt = (I_136 402 this).toInt := by rw [eI_153, pq_uf _ _ _ (by decide)]
                have tt_158 : (I_153 391 this).toInt = (I_136 391 this).toInt := by rw [eI_153, pq_uf _ _ _ (by decide)]
                have tt_159 : (I_153 393 this).toInt = (I_136 393 this).toInt := by rw [eI_153, pq_uf _ _ _ (by decide)]
                have tt_160 : (I_153 403 this).toInt = 0 := by rw [eI_153, pq_us]; rfl
                have tt_161 : (I_153 397 this).toInt = (I_136 397 this).toInt := by rw [eI_153, pq_uf _ _ _ (by decide)]
                subst hQ
                exact W.vret hx hb hr (fun t1 ht hW => ⟨⟨(σ, I_153, J_5, ri_137, rj, rq), rfl, ⟨I_153, J_5, ri_137, rfl, hG, (by rw [show (I_153 403 this).toInt = 0 from by omega]; exact PSz_push hp_87 hK0 (x := (5 : Int32)) (by decide) (PSz_hl hp_87 hp_88 (by decide)) (by omega) (by omega) (by omega) (by omega) (by omega) (by omega) (hp_143 this_a (tg_ne hT_this_a hT_this_pile (by decide))) (by rw [show (I_82 401 this).toInt = (I_82 401 this).toInt from by omega]; exact hp_142)), (tm_cg htm (by omega) (by omega) rfl rfl)⟩, by rw [ht]; exact hP, va_K.moved hW.alike hK, hD⟩, hS.F ht⟩) hS.2.2 dX12_behindOne_117
            · have tc_162 : (I 393 this).toInt = 45 := congrArg Int32.toInt c_100
              have h_163 : rg (I 393 this) 45 45 := rg_and (rg_full _) (rg_of_eq c_100 (rg_k (45 : Int32) 45 rfl)) (by decide)
              have uh_163 := h_163.1
              have vh_163 := h_163.2
              refine lv_iconst (v := 4) hx hb dX12_behindOne_93 (by decide) ?_
              refine lv_goto (tgt := 109) hx hb dX12_behindOne_94 (by decide) ?_
              have hq3 := PSz_bd hp_87
              refine pk_v (va_runV (As := [.int 4]) (rest := []) ⟨hx, hb, hml, hown, hts⟩ (s_X12_push l D t σ I_82 J_5 ri_83 rj rq H.size tg hSH hG.1 this (4 : Int32) hL_this hK_this (rg_w (rg_k (4 : Int32) 4 rfl) (by decide)) this_pile hR_this_pile hL_this_pile hK_this_pile hN_this_pile hT_this_pile (by omega)) (cwV 1 hts (tw_V tw_913 tw_914 tw_915 tw_5 tw_916) rfl rfl rfl cv_yX12_push_1 ⟨Nat.le_of_ble_eq_true rfl, Nat.le_of_ble_eq_true rfl⟩) ⟨pq_blind, pq_recv hK hP hL_this hK_this (by decide) rfl, pq_pre hK hN hP hD⟩ rfl rfl hl.1 rfl (lv_room (Nat.le_of_ble_eq_true rfl)) dX12_behindOne_109 ⟨Nat.le_of_ble_eq_true rfl, Nat.le_of_ble_eq_true rfl⟩) hD hS hA (fun σ1 μ1 H locs hw_165 hP hD hS => ?_)
              obtain ⟨I_166, ri_167, hu_168, hg_169, hp_171, hp_172, hp_173⟩ := hw_165
              obtain ⟨hu_168a, hu_168b⟩ := Prod.mk.inj hu_168
              rw [hu_168a, hu_168b] at hP hD
              obtain ⟨v_174, ev_174, hv_174⟩ := hp_171
              have tt_175 : (I_166 401 this).toInt = (I_82 401 this).toInt + 1 := by rw [ev_174, pq_us]; exact hv_174
              have tt_176 : (I_166 403 this).toInt = (I_82 403 this).toInt := by rw [ev_174, pq_uf _ _ _ (by decide)]
              have hG := GM.tr hG hg_169 (by decide)
              have tt_177 : (I_166 396 this).toInt = (I_82 396 this).toInt := by rw [hg_169.2.1 396 (by decide) (by decide)]
              have tt_178 : (I_166 398 this).toInt = (I_82 398 this).toInt := by rw [hg_169.2.1 398 (by decide) (by decide)]
              have tt_179 : (I_166 402 this).toInt = (I_82 402 this).toInt := by rw [hg_169.2.1 402 (by decide) (by decide)]
              have tt_180 : (I_166 391 this).toInt = (I_82 391 this).toInt := by rw [hg_169.2.1 391 (by decide) (by decide)]
              have tt_181 : (I_166 393 this).toInt = (I_82 393 this).toInt := by rw [hg_169.2.1 393 (by decide) (by decide)]
              have tt_182 : (I_166 397 this).toInt = (I_82 397 this).toInt := by rw [hg_169.2.1 397 (by decide) (by decide)]
              refine lv_aload_n hx hb dX12_behindOne_112 rfl (lv_at hl 2 rfl) ?_
              refine lv_iconst (v := 0) hx hb dX12_behindOne_113 (by decide) ?_
              refine pp_i (v := 0) (ty := .boolean) (C := RX12) (T := TX12) (N := 31) hx hb hts (tw_i inlX12) tyX12 tyX12_ok nmX12 hown hK hP hD hS hL_this hK_this (by decide) rfl 19 403 (by decide) (hts _ (tw_c tw_888)) rfl (tyX12_ok 19 (by decide)) rfl (by decide) (Nat.le_of_ble_eq_true rfl) (ps_403 _ _ _ _ _) dX12_behindOne_114 (fun I_183 H locs eI_183 hP hD hS => ?_)
              have hG := GM.wI hG 403 rfl eI_183 (rg_w (rg_k (0 : Int32) 0 rfl) (by decide)) (by decide)
              have tt_184 : (I_183 396 this).toInt = (I_166 396 this).toInt := by rw [eI_183, pq_uf _ _ _ (by decide)]
              have tt_185 : (I_183 398 this).toInt = (I_166 398 this).toInt := by rw [eI_183, pq_uf _ _ _ (by decide)]
              have tt_186 : (I_183 401 this).toInt = (I_166 401 this).toInt := by rw [eI_183, pq_uf _ _ _ (by decide)]
              have tt_187 : (I_183 402 this).toInt = (I_166 402 this).toInt := by rw [eI_183, pq_uf _ _ _ (by decide)]
              have tt_188 : (I_183 391 this).toInt = (I_166 391 this).toInt := by rw [eI_183, pq_uf _ _ _ (by decide)]
              have tt_189 : (I_183 393 this).toInt = (I_166 393 this).toInt := by rw [eI_183, pq_uf _ _ _ (by decide)]
              have tt_190 : (I_183 403 this).toInt = 0 := by rw [eI_183, pq_us]; rfl
              have tt_191 : (I_183 397 this).toInt = (I_166 397 this).toInt := by rw [eI_183, pq_uf _ _ _ (by decide)]
              subst hQ
              exact W.vret hx hb hr (fun t1 ht hW => ⟨⟨(σ, I_183, J_5, ri_167, rj, rq), rfl, ⟨I_183, J_5, ri_167, rfl, hG, (by exfalso; omega), (tm_cg htm (by omega) (by omega) rfl rfl)⟩, by rw [ht]; exact hP, va_K.moved hW.alike hK, hD⟩, hS.F ht⟩) hS.2.2 dX12_behindOne_117
          · have tc_192 : (I 393 this).toInt = 43 := congrArg Int32.toInt c_98
            have h_193 : rg (I 393 this) 43 43 := rg_and (rg_full _) (rg_of_eq c_98 (rg_k (43 : Int32) 43 rfl)) (by decide)
            have uh_193 := h_193.1
            have vh_193 := h_193.2
            refine lv_iconst (v := 3) hx hb dX12_behindOne_83 (by decide) ?_
            refine lv_goto (tgt := 109) hx hb dX12_behindOne_84 (by decide) ?_
            have hq3 := PSz_bd hp_87
            refine pk_v (va_runV (As := [.int 3]) (rest := []) ⟨hx, hb, hml, hown, hts⟩ (s_X12_push l D t σ I_82 J_5 ri_83 rj rq H.size tg hSH hG.1 this (3 : Int32) hL_this hK_this (rg_w (rg_k (3 : Int32) 3 rfl) (by decide)) this_pile hR_this_pile hL_this_pile hK_this_pile hN_this_pile hT_this_pile (by omega)) (cwV 1 hts (tw_V tw_913 tw_914 tw_915 tw_5 tw_916) rfl rfl rfl cv_yX12_push_1 ⟨Nat.le_of_ble_eq_true rfl, Nat.le_of_ble_eq_true rfl⟩) ⟨pq_blind, pq_recv hK hP hL_this hK_this (by decide) rfl, pq_pre hK hN hP hD⟩ rfl rfl hl.1 rfl (lv_room (Nat.le_of_ble_eq_true rfl)) dX12_behindOne_109 ⟨Nat.le_of_ble_eq_true rfl, Nat.le_of_ble_eq_true rfl⟩) hD hS hA (fun σ1 μ1 H locs hw_195 hP hD hS => ?_)
            obtain ⟨I_196, ri_197, hu_198, hg_199, hp_201, hp_202, hp_203⟩ := hw_195
            obtain ⟨hu_198a, hu_198b⟩ := Prod.mk.inj hu_198
            rw [hu_198a, hu_198b] at hP hD
            obtain ⟨v_204, ev_204, hv_204⟩ := hp_201
            have tt_205 : (I_196 401 this).toInt = (I_82 401 this).toInt + 1 := by rw [ev_204, pq_us]; exact hv_204
            have tt_206 : (I_196 403 this).toInt = (I_82 403 this).toInt := by rw [ev_204, pq_uf _ _ _ (by decide)]
            have hG := GM.tr hG hg_199 (by decide)
            have tt_207 : (I_196 396 this).toInt = (I_82 396 this).toInt := by rw [hg_199.2.1 396 (by decide) (by decide)]
            have tt_208 : (I_196 398 this).toInt = (I_82 398 this).toInt := by rw [hg_199.2.1 398 (by decide) (by decide)]
            have tt_209 : (I_196 402 this).toInt = (I_82 402 this).toInt := by rw [hg_199.2.1 402 (by decide) (by decide)]
            have tt_210 : (I_196 391 this).toInt = (I_82 391 this).toInt := by rw [hg_199.2.1 391 (by decide) (by decide)]
            have tt_211 : (I_196 393 this).toInt = (I_82 393 this).toInt := by rw [hg_199.2.1 393 (by decide) (by decide)]
            have tt_212 : (I_196 397 this).toInt = (I_82 397 this).toInt := by rw [hg_199.2.1 397 (by decide) (by decide)]
            refine lv_aload_n hx hb dX12_behindOne_112 rfl (lv_at hl 2 rfl) ?_
            refine lv_iconst (v := 0) hx hb dX12_behindOne_113 (by decide) ?_
            refine pp_i (v := 0) (ty := .boolean) (C := RX12) (T := TX12) (N := 31) hx hb hts (tw_i inlX12) tyX12 tyX12_ok nmX12 hown hK hP hD hS hL_this hK_this (by decide) rfl 19 403 (by decide) (hts _ (tw_c tw_888)) rfl (tyX12_ok 19 (by decide)) rfl (by decide) (Nat.le_of_ble_eq_true rfl) (ps_403 _ _ _ _ _) dX12_behindOne_114 (fun I_213 H locs eI_213 hP hD hS => ?_)
            have hG := GM.wI hG 403 rfl eI_213 (rg_w (rg_k (0 : Int32) 0 rfl) (by decide)) (by decide)
            have tt_214 : (I_213 396 this).toInt = (I_196 396 this).toInt := by rw [eI_213, pq_uf _ _ _ (by decide)]
            have tt_215 : (I_213 398 this).toInt = (I_196 398 this).toInt := by rw [eI_213, pq_uf _ _ _ (by decide)]
            have tt_216 : (I_213 401 this).toInt = (I_196 401 this).toInt := by rw [eI_213, pq_uf _ _ _ (by decide)]
            have tt_217 : (I_213 402 this).toInt = (I_196 402 this).toInt := by rw [eI_213, pq_uf _ _ _ (by decide)]
            have tt_218 : (I_213 391 this).toInt = (I_196 391 this).toInt := by rw [eI_213, pq_uf _ _ _ (by decide)]
            have tt_219 : (I_213 393 this).toInt = (I_196 393 this).toInt := by rw [eI_213, pq_uf _ _ _ (by decide)]
            have tt_220 : (I_213 403 this).toInt = 0 := by rw [eI_213, pq_us]; rfl
            have tt_221 : (I_213 397 this).toInt = (I_196 397 this).toInt := by rw [eI_213, pq_uf _ _ _ (by decide)]
            subst hQ
            exact W.vret hx hb hr (fun t1 ht hW => ⟨⟨(σ, I_213, J_5, ri_197, rj, rq), rfl, ⟨I_213, J_5, ri_197, rfl, hG, (by exfalso; omega), (tm_cg htm (by omega) (by omega) rfl rfl)⟩, by rw [ht]; exact hP, va_K.moved hW.alike hK, hD⟩, hS.F ht⟩) hS.2.2 dX12_behindOne_117
        · have tc_222 : (I 393 this).toInt = 45 := congrArg Int32.toInt c_77
          have h_223 : rg (I 393 this) 45 45 := rg_and (rg_full _) (rg_of_eq c_77 (rg_k (45 : Int32) 45 rfl)) (by decide)
          have uh_223 := h_223.1
          have vh_223 := h_223.2
          refine lv_iconst (v := 1) hx hb dX12_behindOne_57 (by decide) ?_
          refine lv_goto (tgt := 62) hx hb dX12_behindOne_58 (by decide) ?_
          refine lv_istore_n (lv' := [(2, .int 1), (1, .int (I 393 this)), (0, .ref this)]) hx hb dX12_behindOne_62 rfl hl (by decide) rfl (fun ls hl => ?_)
          refine lv_aload_n hx hb dX12_behindOne_63 rfl (lv_at hl 2 rfl) ?_
          refine lv_iload_n hx hb dX12_behindOne_64 rfl (lv_at hl 0 rfl) ?_
          refine lv_if_eq (tgt := 72) hx hb dX12_behindOne_65 (by decide) (fun c_224 => absurd c_224 (by decide)) (fun c_224 => ?_)
          refine lv_iconst (v := 3) hx hb dX12_behindOne_68 (by decide) ?_
          refine lv_goto (tgt := 73) hx hb dX12_behindOne_69 (by decide) ?_
          refine pk_v (va_runV (As := [.int 3]) (rest := []) ⟨hx, hb, hml, hown, hts⟩ (s_X12_settle l D t σ I_4 J_5 ri rj rq H.size tg hSH hG.1 this (3 : Int32) hL_this hK_this (rg_w (rg_k (3 : Int32) 3 rfl) (by decide)) this_a hR_this_a hL_this_a hK_this_a hN_this_a hT_this_a this_pile hR_this_pile hL_this_pile hK_this_pile hN_this_pile hT_this_pile bb f0 fr ba tb nn (K + 1) (by assumption)) (cwV 1 hts (tw_V tw_901 tw_902 tw_903 tw_5 tw_904) rfl rfl rfl cv_yX12_settle_1 ⟨Nat.le_of_ble_eq_true rfl, Nat.le_of_ble_eq_true rfl⟩) ⟨pq_blind, pq_recv hK hP hL_this hK_this (by decide) rfl, pq_pre hK hN hP hD⟩ rfl rfl hl.1 rfl (lv_room (Nat.le_of_ble_eq_true rfl)) dX12_behindOne_73 ⟨Nat.le_of_ble_eq_true rfl, Nat.le_of_ble_eq_true rfl⟩) hD hS hA (fun σ1 μ1 H locs hw_226 hP hD hS => ?_)
          obtain ⟨I_227, ri_228, hu_229, hg_230, hp_232, hp_233, hp_234, hp_235, hp_236⟩ := hw_226
          obtain ⟨hu_229a, hu_229b⟩ := Prod.mk.inj hu_229
          rw [hu_229a, hu_229b] at hP hD
          have tt_237 := hp_236
          have hG := GM.tr hG hg_230 (by decide)
          have tt_238 : (I_227 396 this).toInt = (I_4 396 this).toInt := by rw [hg_230.2.1 396 (by decide) (by decide)]
          have tt_239 : (I_227 402 this).toInt = (I_4 402 this).toInt := by rw [hg_230.2.1 402 (by decide) (by decide)]
          have tt_240 : (I_227 391 this).toInt = (I_4 391 this).toInt := by rw [hg_230.2.1 391 (by decide) (by decide)]
          have tt_241 : (I_227 393 this).toInt = (I_4 393 this).toInt := by rw [hg_230.2.1 393 (by decide) (by decide)]
          have tt_242 : (I_227 397 this).toInt = (I_4 397 this).toInt := by rw [hg_230.2.1 397 (by decide) (by decide)]
          refine lv_aload_n hx hb dX12_behindOne_76 rfl (lv_at hl 2 rfl) ?_
          refine lv_iload_n hx hb dX12_behindOne_77 rfl (lv_at hl 1 rfl) ?_
          refine lv_bipush (v := 43) hx hb dX12_behindOne_78 (by decide) ?_
          refine lv_icmp_ne (tgt := 87) hx hb dX12_behindOne_80 (by decide) (fun c_243 => ?_) (fun c_243 => ?_)
          · have tc_244 : (I 393 this).toInt ≠ 43 := fun q => c_243 (Int32.toInt_inj.mp q)
            refine lv_iload_n hx hb dX12_behindOne_87 rfl (lv_at hl 1 rfl) ?_
            refine lv_bipush (v := 45) hx hb dX12_behindOne_88 (by decide) ?_
            refine lv_icmp_ne (tgt := 97) hx hb dX12_behindOne_90 (by decide) (fun c_245 => ?_) (fun c_245 => ?_)
            · have tc_246 : (I 393 this).toInt ≠ 45 := fun q => c_245 (Int32.toInt_inj.mp q)
              exact (rg_empty (rg_ne c_245 h_223 45 rfl (lo := 46) (hi := 44) (by decide)) (by decide)).elim
            · have tc_247 : (I 393 this).toInt = 45 := congrArg Int32.toInt c_245
              refine lv_iconst (v := 4) hx hb dX12_behindOne_93 (by decide) ?_
              refine lv_goto (tgt := 109) hx hb dX12_behindOne_94 (by decide) ?_
              have hq3 := PSz_bd hp_232
              refine pk_v (va_runV (As := [.int 4]) (rest := []) ⟨hx, hb, hml, hown, hts⟩ (s_X12_push l D t σ I_227 J_5 ri_228 rj rq H.size tg hSH hG.1 this (4 : Int32) hL_this hK_this (rg_w (rg_k (4 : Int32) 4 rfl) (by decide)) this_pile hR_this_pile hL_this_pile hK_this_pile hN_this_pile hT_this_pile (by omega)) (cwV 1 hts (tw_V tw_913 tw_914 tw_915 tw_5 tw_916) rfl rfl rfl cv_yX12_push_1 ⟨Nat.le_of_ble_eq_true rfl, Nat.le_of_ble_eq_true rfl⟩) ⟨pq_blind, pq_recv hK hP hL_this hK_this (by decide) rfl, pq_pre hK hN hP hD⟩ rfl rfl hl.1 rfl (lv_room (Nat.le_of_ble_eq_true rfl)) dX12_behindOne_109 ⟨Nat.le_of_ble_eq_true rfl, Nat.le_of_ble_eq_true rfl⟩) hD hS hA (fun σ1 μ1 H locs hw_249 hP hD hS => ?_)
              obtain ⟨I_250, ri_251, hu_252, hg_253, hp_255, hp_256, hp_257⟩ := hw_249
              obtain ⟨hu_252a, hu_252b⟩ := Prod.mk.inj hu_252
              rw [hu_252a, hu_252b] at hP hD
              obtain ⟨v_258, ev_258, hv_258⟩ := hp_255
              have tt_259 : (I_250 401 this).toInt = (I_227 401 this).toInt + 1 := by rw [ev_258, pq_us]; exact hv_258
              have tt_260 : (I_250 403 this).toInt = (I_227 403 this).toInt := by rw [ev_258, pq_uf _ _ _ (by decide)]
              have hG := GM.tr hG hg_253 (by decide)
              have tt_261 : (I_250 396 this).toInt = (I_227 396 this).toInt := by rw [hg_253.2.1 396 (by decide) (by decide)]
              have tt_262 : (I_250 398 this).toInt = (I_227 398 this).toInt := by rw [hg_253.2.1 398 (by decide) (by decide)]
              have tt_263 : (I_250 402 this).toInt = (I_227 402 this).toInt := by rw [hg_253.2.1 402 (by decide) (by decide)]
              have tt_264 : (I_250 391 this).toInt = (I_227 391 this).toInt := by rw [hg_253.2.1 391 (by decide) (by decide)]
              have tt_265 : (I_250 393 this).toInt = (I_227 393 this).toInt := by rw [hg_253.2.1 393 (by decide) (by decide)]
              have tt_266 : (I_250 397 this).toInt = (I_227 397 this).toInt := by rw [hg_253.2.1 397 (by decide) (by decide)]
              refine lv_aload_n hx hb dX12_behindOne_112 rfl (lv_at hl 2 rfl) ?_
              refine lv_iconst (v := 0) hx hb dX12_behindOne_113 (by decide) ?_
              refine pp_i (v := 0) (ty := .boolean) (C := RX12) (T := TX12) (N := 31) hx hb hts (tw_i inlX12) tyX12 tyX12_ok nmX12 hown hK hP hD hS hL_this hK_this (by decide) rfl 19 403 (by decide) (hts _ (tw_c tw_888)) rfl (tyX12_ok 19 (by decide)) rfl (by decide) (Nat.le_of_ble_eq_true rfl) (ps_403 _ _ _ _ _) dX12_behindOne_114 (fun I_267 H locs eI_267 hP hD hS => ?_)
              have hG := GM.wI hG 403 rfl eI_267 (rg_w (rg_k (0 : Int32) 0 rfl) (by decide)) (by decide)
              have tt_268 : (I_267 396 this).toInt = (I_250 396 this).toInt := by rw [eI_267, pq_uf _ _ _ (by decide)]
              have tt_269 : (I_267 398 this).toInt = (I_250 398 this).toInt := by rw [eI_267, pq_uf _ _ _ (by decide)]
              have tt_270 : (I_267 401 this).toInt = (I_250 401 this).toInt := by rw [eI_267, pq_uf _ _ _ (by decide)]
              have tt_271 : (I_267 402 this).toInt = (I_250 402 this).toInt := by rw [eI_267, pq_uf _ _ _ (by decide)]
              have tt_272 : (I_267 391 this).toInt = (I_250 391 this).toInt := by rw [eI_267, pq_uf _ _ _ (by decide)]
              have tt_273 : (I_267 393 this).toInt = (I_250 393 this).toInt := by rw [eI_267, pq_uf _ _ _ (by decide)]
              have tt_274 : (I_267 403 this).toInt = 0 := by rw [eI_267, pq_us]; rfl
              have tt_275 : (I_267 397 this).toInt = (I_250 397 this).toInt := by rw [eI_267, pq_uf _ _ _ (by decide)]
              subst hQ
              exact W.vret hx hb hr (fun t1 ht hW => ⟨⟨(σ, I_267, J_5, ri_251, rj, rq), rfl, ⟨I_267, J_5, ri_251, rfl, hG, (by rw [show (I_267 403 this).toInt = 0 from by omega]; exact PSz_push hp_232 hK0 (x := (4 : Int32)) (by decide) (PSz_hl hp_232 hp_233 (by decide)) (by omega) (by omega) (by omega) (by omega) (by omega) (by omega) (hp_257 this_a (tg_ne hT_this_a hT_this_pile (by decide))) (by rw [show (I_227 401 this).toInt = (I_227 401 this).toInt from by omega]; exact hp_256)), (tm_cg htm (by omega) (by omega) rfl rfl)⟩, by rw [ht]; exact hP, va_K.moved hW.alike hK, hD⟩, hS.F ht⟩) hS.2.2 dX12_behindOne_117
          · have tc_276 : (I 393 this).toInt = 43 := congrArg Int32.toInt c_243
            exact (rg_empty (rg_and h_223 (rg_of_eq c_243 (rg_k (43 : Int32) 43 rfl)) (lo := 45) (hi := 43) (by decide)) (by decide)).elim
    · have tc_277 : (I 393 this).toInt = 41 := congrArg Int32.toInt c_21
      have h_278 : rg (I 393 this) 41 41 := rg_and (rg_full _) (rg_of_eq c_21 (rg_k (41 : Int32) 41 rfl)) (by decide)
      have uh_278 := h_278.1
      have vh_278 := h_278.2
      refine lv_aload_n hx hb dX12_behindOne_15 rfl (lv_at hl 1 rfl) ?_
      refine lv_iconst (v := 3) hx hb dX12_behindOne_16 (by decide) ?_
      refine pk_v (va_runV (As := [.int 3]) (rest := []) ⟨hx, hb, hml, hown, hts⟩ (s_X12_settle l D t σ I_4 J_5 ri rj rq H.size tg hSH hG.1 this (3 : Int32) hL_this hK_this (rg_w (rg_k (3 : Int32) 3 rfl) (by decide)) this_a hR_this_a hL_this_a hK_this_a hN_this_a hT_this_a this_pile hR_this_pile hL_this_pile hK_this_pile hN_this_pile hT_this_pile bb f0 fr ba tb nn (K + 1) (by assumption)) (cwV 1 hts (tw_V tw_901 tw_902 tw_903 tw_5 tw_904) rfl rfl rfl cv_yX12_settle_1 ⟨Nat.le_of_ble_eq_true rfl, Nat.le_of_ble_eq_true rfl⟩) ⟨pq_blind, pq_recv hK hP hL_this hK_this (by decide) rfl, pq_pre hK hN hP hD⟩ rfl rfl hl.1 rfl (lv_room (Nat.le_of_ble_eq_true rfl)) dX12_behindOne_17 ⟨Nat.le_of_ble_eq_true rfl, Nat.le_of_ble_eq_true rfl⟩) hD hS hA (fun σ1 μ1 H locs hw_280 hP hD hS => ?_)
      obtain ⟨I_281, ri_282, hu_283, hg_284, hp_286, hp_287, hp_288, hp_289, hp_290⟩ := hw_280
      obtain ⟨hu_283a, hu_283b⟩ := Prod.mk.inj hu_283
      rw [hu_283a, hu_283b] at hP hD
      have tt_291 := hp_290
      have hG := GM.tr hG hg_284 (by decide)
      have tt_292 : (I_281 396 this).toInt = (I_4 396 this).toInt := by rw [hg_284.2.1 396 (by decide) (by decide)]
      have tt_293 : (I_281 402 this).toInt = (I_4 402 this).toInt := by rw [hg_284.2.1 402 (by decide) (by decide)]
      have tt_294 : (I_281 391 this).toInt = (I_4 391 this).toInt := by rw [hg_284.2.1 391 (by decide) (by decide)]
      have tt_295 : (I_281 393 this).toInt = (I_4 393 this).toInt := by rw [hg_284.2.1 393 (by decide) (by decide)]
      have tt_296 : (I_281 397 this).toInt = (I_4 397 this).toInt := by rw [hg_284.2.1 397 (by decide) (by decide)]
      have hpp : 0 < (I_281 401 this).toInt := by obtain ⟨k, hk1, hk2⟩ := hgo.2 (by omega); have q := hp_288 k (by omega) (Or.inr hk2); omega
      have htop : isO (ri_282 this_pile ((I_281 401 this).toInt.toNat - 1)) := by have q := (hp_286.2.1 ((I_281 401 this).toInt.toNat - 1) (by omega)).1; have q2 := hp_287; have z3 : (3 : Int32).toInt = 3 := rfl; unfold isO; omega
      refine lv_aload_n hx hb dX12_behindOne_20 rfl (lv_at hl 1 rfl) ?_
      refine lv_dup hx hb dX12_behindOne_21 rfl ?_
      refine pg_f (v := .int (I_281 401 this)) (C := RX12) (T := TX12) (N := 31) hx hb hts (tw_i inlX12) hown hK hP hL_this hK_this (by decide) rfl 17 (by decide) (hts _ (tw_c tw_887)) rfl dX12_behindOne_22 ?_
      have h_297 : rg (I_281 401 this) 0 160 := GM.rI hG 401 rfl
      have uh_297 := h_297.1
      have vh_297 := h_297.2
      refine lv_iconst (v := 1) hx hb dX12_behindOne_25 (by decide) ?_
      refine lv_isub hx hb dX12_behindOne_26 ?_
      refine lv_topi (fun x_298 ex_298 => ?_)
      have h_299 : rg x_298 (-1) 159 := rg_of_eq ex_298 (rg_sub h_297 (rg_k (1 : Int32) 1 rfl) (by decide))
      have uh_299 := h_299.1
      have vh_299 := h_299.2
      have tx_298 : (x_298).toInt = (I_281 401 this).toInt - 1 := by rw [ex_298]; exact i_sub_rg (a2 := (I_281 401 this).toInt) (b2 := 1) rfl rfl h_297 (rg_k (1 : Int32) 1 rfl) (by decide)
      refine pp_i (v := x_298) (ty := .int) (C := RX12) (T := TX12) (N := 31) hx hb hts (tw_i inlX12) tyX12 tyX12_ok nmX12 hown hK hP hD hS hL_this hK_this (by decide) rfl 17 401 (by decide) (hts _ (tw_c tw_887)) rfl (tyX12_ok 17 (by decide)) rfl rfl (Nat.le_of_ble_eq_true rfl) (ps_401 _ _ _ _ _) dX12_behindOne_27 (fun I_300 H locs eI_300 hP hD hS => ?_)
      have h_301 : rg x_298 0 159 := ⟨by omega, by omega⟩
      have uh_301 := h_301.1
      have vh_301 := h_301.2
      have hG := GM.wI hG 401 rfl eI_300 (rg_w h_301 (by decide)) (by decide)
      have tt_302 : (I_300 396 this).toInt = (I_281 396 this).toInt := by rw [eI_300, pq_uf _ _ _ (by decide)]
      have tt_303 : (I_300 398 this).toInt = (I_281 398 this).toInt := by rw [eI_300, pq_uf _ _ _ (by decide)]
      have tt_304 : (I_300 401 this).toInt = (x_298).toInt := by rw [eI_300, pq_us]
      have tt_305 : (I_300 402 this).toInt = (I_281 402 this).toInt := by rw [eI_300, pq_uf _ _ _ (by decide)]
      have tt_306 : (I_300 391 this).toInt = (I_281 391 this).toInt := by rw [eI_300, pq_uf _ _ _ (by decide)]
      have tt_307 : (I_300 393 this).toInt = (I_281 393 this).toInt := by rw [eI_300, pq_uf _ _ _ (by decide)]
      have tt_308 : (I_300 403 this).toInt = (I_281 403 this).toInt := by rw [eI_300, pq_uf _ _ _ (by decide)]
      have tt_309 : (I_300 397 this).toInt = (I_281 397 this).toInt := by rw [eI_300, pq_uf _ _ _ (by decide)]
      refine lv_aload_n hx hb dX12_behindOne_30 rfl (lv_at hl 1 rfl) ?_
      refine lv_dup hx hb dX12_behindOne_31 rfl ?_
      refine pg_f (v := .int (I_300 402 this)) (C := RX12) (T := TX12) (N := 31) hx hb hts (tw_i inlX12) hown hK hP hL_this hK_this (by decide) rfl 18 (by decide) (hts _ (tw_c tw_828)) rfl dX12_behindOne_32 ?_
      have hq0 := PSz_bd hp_286
      have h_310 : rg (I_300 402 this) 0 8 := ⟨by omega, by omega⟩
      have uh_310 := h_310.1
      have vh_310 := h_310.2
      refine lv_iconst (v := 1) hx hb dX12_behindOne_35 (by decide) ?_
      refine lv_isub hx hb dX12_behindOne_36 ?_
      refine lv_topi (fun x_311 ex_311 => ?_)
      have h_312 : rg x_311 (-1) 7 := rg_of_eq ex_311 (rg_sub h_310 (rg_k (1 : Int32) 1 rfl) (by decide))
      have uh_312 := h_312.1
      have vh_312 := h_312.2
      have tx_311 : (x_311).toInt = (I_300 402 this).toInt - 1 := by rw [ex_311]; exact i_sub_rg (a2 := (I_300 402 this).toInt) (b2 := 1) rfl rfl h_310 (rg_k (1 : Int32) 1 rfl) (by decide)
      refine pp_i (v := x_311) (ty := .int) (C := RX12) (T := TX12) (N := 31) hx hb hts (tw_i inlX12) tyX12 tyX12_ok nmX12 hown hK hP hD hS hL_this hK_this (by decide) rfl 18 402 (by decide) (hts _ (tw_c tw_828)) rfl (tyX12_ok 18 (by decide)) rfl rfl (Nat.le_of_ble_eq_true rfl) (ps_402 _ _ _ _ _) dX12_behindOne_37 (fun I_313 H locs eI_313 hP hD hS => ?_)
      have hG := GM.wI hG 402 rfl eI_313 (rg_w h_312 (by decide)) (by decide)
      have tt_314 : (I_313 396 this).toInt = (I_300 396 this).toInt := by rw [eI_313, pq_uf _ _ _ (by decide)]
      have tt_315 : (I_313 398 this).toInt = (I_300 398 this).toInt := by rw [eI_313, pq_uf _ _ _ (by decide)]
      have tt_316 : (I_313 401 this).toInt = (I_300 401 this).toInt := by rw [eI_313, pq_uf _ _ _ (by decide)]
      have tt_317 : (I_313 402 this).toInt = (x_311).toInt := by rw [eI_313, pq_us]
      have tt_318 : (I_313 391 this).toInt = (I_300 391 this).toInt := by rw [eI_313, pq_uf _ _ _ (by decide)]
      have tt_319 : (I_313 393 this).toInt = (I_300 393 this).toInt := by rw [eI_313, pq_uf _ _ _ (by decide)]
      have tt_320 : (I_313 403 this).toInt = (I_300 403 this).toInt := by rw [eI_313, pq_uf _ _ _ (by decide)]
      have tt_321 : (I_313 397 this).toInt = (I_300 397 this).toInt := by rw [eI_313, pq_uf _ _ _ (by decide)]
      refine lv_aload_n hx hb dX12_behindOne_40 rfl (lv_at hl 1 rfl) ?_
      have hpsW : PSz (I_313 396 this).toInt (I_313 398 this).toInt (I_313 401 this).toInt (I_313 402 this).toInt (I_313 391 this).toInt (I_313 393 this).toInt (ri_282 this_a) (ri_282 this_pile) bb f0 fr ba tb nn K 1 := PSz_close hp_286 hK0 (by omega) htop (by omega) (by omega) (by omega) (by omega) (by omega) (by omega) rfl rfl
      refine pk_v (va_runV (As := []) (rest := []) ⟨hx, hb, hml, hown, hts⟩ (s_X12_whole l D t σ I_313 J_5 ri_282 rj rq H.size tg hSH hG.1 this hL_this hK_this this_a hR_this_a hL_this_a hK_this_a hN_this_a hT_this_a this_pile hR_this_pile hL_this_pile hK_this_pile hN_this_pile hT_this_pile bb f0 fr ba tb nn K (by assumption)) (cwV 0 hts (tw_V tw_909 tw_910 tw_911 tw_5 tw_912) rfl rfl rfl cv_yX12_whole_0 ⟨Nat.le_of_ble_eq_true rfl, Nat.le_of_ble_eq_true rfl⟩) ⟨pq_blind, pq_recv hK hP hL_this hK_this (by decide) rfl, pq_pre hK hN hP hD⟩ rfl rfl hl.1 rfl (lv_room (Nat.le_of_ble_eq_true rfl)) dX12_behindOne_41 ⟨Nat.le_of_ble_eq_true rfl, Nat.le_of_ble_eq_true rfl⟩) hD hS hA (fun σ1 μ1 H locs hw_323 hP hD hS => ?_)
      obtain ⟨I_324, ri_325, hu_326, hg_327, hp_329, hp_330⟩ := hw_323
      obtain ⟨hu_326a, hu_326b⟩ := Prod.mk.inj hu_326
      rw [hu_326a, hu_326b] at hP hD
      have tt_331 := hp_330
      have hG := GM.tr hG hg_327 (by decide)
      have tt_332 : (I_324 396 this).toInt = (I_313 396 this).toInt := by rw [hg_327.2.1 396 (by decide) (by decide)]
      have tt_333 : (I_324 391 this).toInt = (I_313 391 this).toInt := by rw [hg_327.2.1 391 (by decide) (by decide)]
      have tt_334 : (I_324 393 this).toInt = (I_313 393 this).toInt := by rw [hg_327.2.1 393 (by decide) (by decide)]
      have tt_335 : (I_324 397 this).toInt = (I_313 397 this).toInt := by rw [hg_327.2.1 397 (by decide) (by decide)]
      subst hQ
      exact W.vret hx hb hr (fun t1 ht hW => ⟨⟨(σ, I_324, J_5, ri_325, rj, rq), rfl, ⟨I_324, J_5, ri_325, rfl, hG, (by rw [show (I_324 403 this).toInt = 1 from by omega]; exact hp_329), (tm_cg htm (by omega) (by omega) rfl rfl)⟩, by rw [ht]; exact hP, va_K.moved hW.alike hK, hD⟩, hS.F ht⟩) hS.2.2 dX12_behindOne_44
  exact go _ _ _ hP hD hS hl

set_option maxHeartbeats 4000000 in
set_option maxRecDepth 100000 in
theorem s_X12_sum (l : Launch) (D : va_G) (t : pq_T) (σ : pq_S) (I : Nat → Nat → Int32) (J : Nat → Nat → Int64) (ri : Nat → Nat → Int32) (rj : Nat → Nat → Int64) (rq : Nat → Nat → Option Nat) (sz : Nat) (tg : Nat → Nat) (hSH : SH σ tg) (hG0 : GT tg I ri) (this : Nat) (hL_this : this ∈ σ.1) (hK_this : σ.2.1 this = 12) (this_a : Nat) (hR_this_a : σ.2.2.1 384 this = some this_a) (hL_this_a : this_a ∈ σ.1) (hK_this_a : σ.2.1 this_a = 13) (hN_this_a : σ.2.2.2 this_a = 12720) (hT_this_a : tg this_a = 384) (this_pile : Nat) (hR_this_pile : σ.2.2.1 400 this = some this_pile) (hL_this_pile : this_pile ∈ σ.1) (hK_this_pile : σ.2.1 this_pile = 13) (hN_this_pile : σ.2.2.2 this_pile = 160) (hT_this_pile : tg this_pile = 400) (bb : Nat) (f0 : Nat → Int32) (fr : Int) (va : Int) (tb : Int) (nn : Int) (K : Int) (hpb : PBz (I 396 this).toInt (I 398 this).toInt (I 402 this).toInt (I 391 this).toInt (I 393 this).toInt (ri this_a) bb f0 fr va tb nn K) : MetI l yX12_sum (wa yX12_sum cX12_sum 2 (some .int)) ({ frames := 5, cells := 0, slots := 0, locals := 109 }) [.ref this] D t σ (I, J, ri, rj, rq) sz 0 0 (fun (r : Int32) (u : pq_S × pq_M) => ∃ I' : Nat → Nat → Int32, ∃ J' : Nat → Nat → Int64, ∃ ri' : Nat → Nat → Int32, u = (σ, I', J', ri', rj, rq) ∧ GM [401, 398, 391, 392, 393, 402] tg σ I ri I' ri' rq ∧ (r.toInt ≠ 0 ∨ (PBz (I' 396 this).toInt (I' 398 this).toInt (I' 402 this).toInt (I' 391 this).toInt (I' 393 this).toInt (ri' this_a) bb f0 fr (va + 1) tb nn K ∧ tmM (I' 391 this).toInt (I' 393 this).toInt ≤ tmM (I 391 this).toInt (I 393 this).toInt)) ∧ rg r 0 3) := by
  refine Met.ofW (cc := cX12_sum) (maxL := 2) (ret := (some .int)) (by decide) rfl ?_
  intro p e s m args below meth c s₁ B hml hv
  obtain ⟨rfl, hsz, hP, hK, hD0, hN⟩ := hv
  have hx := B.exec
  have hb := B.bytes
  have hr := B.returns
  have hts := atoms_spec (ws := (wa yX12_sum cX12_sum 2 (some .int))) B.pre
  have hown : s.vm.findClass RX12 = some m.cls := findClass_of_methodNamed B.named
  have hlocks := B.notSynchronized
  subst hsz
  have hD : va_D (pq_B t σ (I, J, ri, rj, rq) s.heap.size) (pq_P t σ (I, J, ri, rj, rq)) := hD0.self
  generalize hAe : pq_B t σ (I, J, ri, rj, rq) s.heap.size = A at hD ⊢
  have hA : ∀ q : Nat, s.heap.size ≤ q → A q := fun q h => by rw [← hAe]; exact Or.inr h
  have hS : va_S A s.heap s.heap [] := va_S.rf
  have hG : GM [401, 398, 391, 392, 393, 402] tg σ I ri I ri rq := ⟨hG0, fun _ _ _ => rfl, fun _ _ _ _ _ => rfl, fun _ _ _ _ _ _ => rfl⟩
  have hl := lv_entry ([.ref this]) (n := 2) (Nat.le_of_ble_eq_true rfl)
  rw [lg_entry_eq]
  generalize (lg_sl ([.ref this]) ++ List.replicate (2 - (lg_sl ([.ref this])).length) Slot.unset).toArray = ls at hl ⊢
  have hl : lv_has ls 2 [(0, .ref this)] := hl
  refine q_gen (fun Q hQ => ?_)
  have go : ∀ (H : Heap) (locs : List Loc) (ls : Array Slot), va_P D vwCl (pq_P t σ (I, J, ri, rj, rq)) H → va_D A (pq_P t σ (I, J, ri, rj, rq)) → va_S A s.heap H locs → lv_has ls 2 [(0, .ref this)] → W p l e ({ frames := 5, cells := 0, slots := 0, locals := 109 } : Room) s m (List.toArray ([.ref this] : List Value)) below meth c H locs 0 0 Q (F0 m 0 ls []) := by
    intro H locs ls hP hD hS hl
    have hv0 := (PBz_tv hpb).1
    refine lv_aload_n hx hb dX12_sum_0 rfl (lv_at hl 0 rfl) ?_
    refine lv_iconst (v := 0) hx hb dX12_sum_1 (by decide) ?_
    refine pp_i (v := 0) (ty := .int) (C := RX12) (T := TX12) (N := 31) hx hb hts (tw_i inlX12) tyX12 tyX12_ok nmX12 hown hK hP hD hS hL_this hK_this (by decide) rfl 17 401 (by decide) (hts _ (tw_c tw_887)) rfl (tyX12_ok 17 (by decide)) rfl rfl (Nat.le_of_ble_eq_true rfl) (ps_401 _ _ _ _ _) dX12_sum_2 (fun I_1 H locs eI_1 hP hD hS => ?_)
    have hG := GM.wI hG 401 rfl eI_1 (rg_w (rg_k (0 : Int32) 0 rfl) (by decide)) (by decide)
    have tt_2 : (I_1 396 this).toInt = (I 396 this).toInt := by rw [eI_1, pq_uf _ _ _ (by decide)]
    have tt_3 : (I_1 398 this).toInt = (I 398 this).toInt := by rw [eI_1, pq_uf _ _ _ (by decide)]
    have tt_4 : (I_1 401 this).toInt = 0 := by rw [eI_1, pq_us]; rfl
    have tt_5 : (I_1 402 this).toInt = (I 402 this).toInt := by rw [eI_1, pq_uf _ _ _ (by decide)]
    have tt_6 : (I_1 391 this).toInt = (I 391 this).toInt := by rw [eI_1, pq_uf _ _ _ (by decide)]
    have tt_7 : (I_1 393 this).toInt = (I 393 this).toInt := by rw [eI_1, pq_uf _ _ _ (by decide)]
    have tt_8 : (I_1 403 this).toInt = (I 403 this).toInt := by rw [eI_1, pq_uf _ _ _ (by decide)]
    have tt_9 : (I_1 397 this).toInt = (I 397 this).toInt := by rw [eI_1, pq_uf _ _ _ (by decide)]
    refine lv_aload_n hx hb dX12_sum_5 rfl (lv_at hl 0 rfl) ?_
    refine lv_iconst (v := 0) hx hb dX12_sum_6 (by decide) ?_
    refine pp_i (v := 0) (ty := .boolean) (C := RX12) (T := TX12) (N := 31) hx hb hts (tw_i inlX12) tyX12 tyX12_ok nmX12 hown hK hP hD hS hL_this hK_this (by decide) rfl 19 403 (by decide) (hts _ (tw_c tw_888)) rfl (tyX12_ok 19 (by decide)) rfl (by decide) (Nat.le_of_ble_eq_true rfl) (ps_403 _ _ _ _ _) dX12_sum_7 (fun I_10 H locs eI_10 hP hD hS => ?_)
    have hG := GM.wI hG 403 rfl eI_10 (rg_w (rg_k (0 : Int32) 0 rfl) (by decide)) (by decide)
    have tt_11 : (I_10 396 this).toInt = (I_1 396 this).toInt := by rw [eI_10, pq_uf _ _ _ (by decide)]
    have tt_12 : (I_10 398 this).toInt = (I_1 398 this).toInt := by rw [eI_10, pq_uf _ _ _ (by decide)]
    have tt_13 : (I_10 401 this).toInt = (I_1 401 this).toInt := by rw [eI_10, pq_uf _ _ _ (by decide)]
    have tt_14 : (I_10 402 this).toInt = (I_1 402 this).toInt := by rw [eI_10, pq_uf _ _ _ (by decide)]
    have tt_15 : (I_10 391 this).toInt = (I_1 391 this).toInt := by rw [eI_10, pq_uf _ _ _ (by decide)]
    have tt_16 : (I_10 393 this).toInt = (I_1 393 this).toInt := by rw [eI_10, pq_uf _ _ _ (by decide)]
    have tt_17 : (I_10 403 this).toInt = 0 := by rw [eI_10, pq_us]; rfl
    have tt_18 : (I_10 397 this).toInt = (I_1 397 this).toInt := by rw [eI_10, pq_uf _ _ _ (by decide)]
    have L_292 : ∀ (n_291 : Nat) (I_208 : Nat → Nat → Int32) (J_209 : Nat → Nat → Int64) (ri_210 : Nat → Nat → Int32) (H : Heap) (locs : List Loc) (ls : Array Slot), (PSz (I_208 396 this).toInt (I_208 398 this).toInt (I_208 401 this).toInt (I_208 402 this).toInt (I_208 391 this).toInt (I_208 393 this).toInt (ri_210 this_a) (ri_210 this_pile) bb f0 fr va tb nn K (I_208 403 this).toInt) → (tmM (I_208 391 this).toInt (I_208 393 this).toInt ≤ tmM (I 391 this).toInt (I 393 this).toInt) → (tmM (I_208 391 this).toInt (I_208 393 this).toInt).toNat < n_291 → GM [401, 398, 391, 392, 393, 402] tg σ I ri I_208 ri_210 rq → va_P D vwCl (pq_P t σ (I_208, J_209, ri_210, rj, rq)) H → va_D A (pq_P t σ (I_208, J_209, ri_210, rj, rq)) → va_S A s.heap H locs → lv_has ls 2 [(0, .ref this)] → W p l e ({ frames := 5, cells := 0, slots := 0, locals := 109 } : Room) s m (List.toArray ([.ref this] : List Value)) below meth c H locs 0 0 Q (F0 m 10 ls []) := by
      intro n_291
      induction n_291 with
      | zero => intro I_208 J_209 ri_210 H locs ls hrel_296 hrel_297 hm_290 hG hP hD hS hl; exact absurd hm_290 (Nat.not_lt_zero _)
      | succ n_291 ih_293 =>
        intro I_208 J_209 ri_210 H locs ls hrel_296 hrel_297 hm_290 hG hP hD hS hl
        refine lv_aload_n hx hb dX12_sum_10 rfl (lv_at hl 0 rfl) ?_
        refine pg_f (v := .int (I_208 403 this)) (C := RX12) (T := TX12) (N := 31) hx hb hts (tw_i inlX12) hown hK hP hL_this hK_this (by decide) rfl 19 (by decide) (hts _ (tw_c tw_888)) rfl dX12_sum_11 ?_
        have h_298 : rg (I_208 403 this) 0 1 := GM.rI hG 403 rfl
        have uh_298 := h_298.1
        have vh_298 := h_298.2
        refine lv_if_eq (tgt := 24) hx hb dX12_sum_14 (by decide) (fun c_299 => ?_) (fun c_299 => ?_)
        · have tc_300 : (I_208 403 this).toInt = 0 := congrArg Int32.toInt c_299
          have h_301 : rg (I_208 403 this) 0 0 := rg_and h_298 (rg_of_eq c_299 (rg_k (0 : Int32) 0 rfl)) (by decide)
          have uh_301 := h_301.1
          have vh_301 := h_301.2
          refine lv_aload_n hx hb dX12_sum_24 rfl (lv_at hl 0 rfl) ?_
          refine pg_f (v := .int (I_208 403 this)) (C := RX12) (T := TX12) (N := 31) hx hb hts (tw_i inlX12) hown hK hP hL_this hK_this (by decide) rfl 19 (by decide) (hts _ (tw_c tw_888)) rfl dX12_sum_25 ?_
          refine lv_if_eq (tgt := 38) hx hb dX12_sum_28 (by decide) (fun c_302 => ?_) (fun c_302 => ?_)
          · have tc_303 : (I_208 403 this).toInt = 0 := congrArg Int32.toInt c_302
            refine lv_aload_n hx hb dX12_sum_38 rfl (lv_at hl 0 rfl) ?_
            have hpsB : PSz (I_208 396 this).toInt (I_208 398 this).toInt (I_208 401 this).toInt (I_208 402 this).toInt (I_208 391 this).toInt (I_208 393 this).toInt (ri_210 this_a) (ri_210 this_pile) bb f0 fr va tb nn K 0 := by have q := hrel_296; rw [show (I_208 403 this).toInt = 0 from by omega] at q; exact q
            refine pk_i (va_runV (As := []) (rest := []) ⟨hx, hb, hml, hown, hts⟩ (s_X12_beginOne l D t σ I_208 J_209 ri_210 rj rq H.size tg hSH hG.1 this hL_this hK_this this_a hR_this_a hL_this_a hK_this_a hN_this_a hT_this_a this_pile hR_this_pile hL_this_pile hK_this_pile hN_this_pile hT_this_pile bb f0 fr va tb nn K (by assumption) (by omega)) (cwV 0 hts (tw_V tw_917 tw_918 tw_919 tw_5 tw_920) rfl rfl rfl cv_yX12_beginOne_0 ⟨Nat.le_of_ble_eq_true rfl, Nat.le_of_ble_eq_true rfl⟩) ⟨pq_blind, pq_recv hK hP hL_this hK_this (by decide) rfl, pq_pre hK hN hP hD⟩ rfl rfl hl.1 rfl (lv_room (Nat.le_of_ble_eq_true rfl)) dX12_sum_39 ⟨Nat.le_of_ble_eq_true rfl, Nat.le_of_ble_eq_true rfl⟩) hD hS hA (fun x_304 σ1 μ1 H locs hw_305 hP hD hS => ?_)
            obtain ⟨I_306, J_307, ri_308, hu_309, hg_310, hp_312, hr_311⟩ := hw_305
            obtain ⟨hu_309a, hu_309b⟩ := Prod.mk.inj hu_309
            rw [hu_309a, hu_309b] at hP hD
            have hG := GM.tr hG hg_310 (by decide)
            have tt_313 : (I_306 396 this).toInt = (I_208 396 this).toInt := by rw [hg_310.2.1 396 (by decide) (by decide)]
            have tt_314 : (I_306 397 this).toInt = (I_208 397 this).toInt := by rw [hg_310.2.1 397 (by decide) (by decide)]
            refine lv_istore_n (lv' := [(1, .int x_304), (0, .ref this)]) hx hb dX12_sum_42 rfl hl (by decide) rfl (fun ls hl => ?_)
            refine lv_iload_n hx hb dX12_sum_43 rfl (lv_at hl 0 rfl) ?_
            refine lv_if_eq (tgt := 49) hx hb dX12_sum_44 (by decide) (fun c_315 => ?_) (fun c_315 => ?_)
            · have tc_316 : (x_304).toInt = 0 := congrArg Int32.toInt c_315
              have h_317 : rg x_304 0 0 := rg_and hr_311 (rg_of_eq c_315 (rg_k (0 : Int32) 0 rfl)) (by decide)
              have uh_317 := h_317.1
              have vh_317 := h_317.2
              refine lv_goto (tgt := 10) hx hb dX12_sum_49 (by decide) ?_
              exact ih_293 I_306 J_307 ri_308 _ _ _ (hp_312.resolve_left (fun q => q (by omega))).1 (Int.le_of_lt (Int.lt_of_lt_of_le (hp_312.resolve_left (fun q => q (by omega))).2 hrel_297)) (tm_ms hm_290 (hp_312.resolve_left (fun q => q (by omega))).2 (tm_b ((hG.1.1 391 this).2))) hG hP hD hS (lv_sub hl [1] rfl)
            · have tc_318 : (x_304).toInt ≠ 0 := fun q => c_315 (Int32.toInt_inj.mp q)
              have h_319 : rg x_304 1 3 := rg_ne c_315 hr_311 0 rfl (by decide)
              have uh_319 := h_319.1
              have vh_319 := h_319.2
              refine lv_iload_n hx hb dX12_sum_47 rfl (lv_at hl 0 rfl) ?_
              subst hQ
              exact W.iret (v := x_304) hx hb hr (fun t1 ht hW => ⟨⟨x_304, (σ, I_306, J_307, ri_308, rj, rq), rfl, ⟨I_306, J_307, ri_308, rfl, hG, (Or.inl (by omega)), (rg_w h_319 (by decide))⟩, by rw [ht]; exact hP, va_K.moved hW.alike hK, hD⟩, hS.F ht⟩) hS.2.2 dX12_sum_48
          · have tc_320 : (I_208 403 this).toInt ≠ 0 := fun q => c_302 (Int32.toInt_inj.mp q)
            exact (rg_empty (rg_ne c_302 h_301 0 rfl (lo := 1) (hi := (-1)) (by decide)) (by decide)).elim
        · have tc_321 : (I_208 403 this).toInt ≠ 0 := fun q => c_299 (Int32.toInt_inj.mp q)
          have h_322 : rg (I_208 403 this) 1 1 := rg_ne c_299 h_298 0 rfl (by decide)
          have uh_322 := h_322.1
          have vh_322 := h_322.2
          refine lv_aload_n hx hb dX12_sum_17 rfl (lv_at hl 0 rfl) ?_
          refine pk_i (va_runV (As := []) (rest := []) ⟨hx, hb, hml, hown, hts⟩ (s_X12_goesOn l D t σ I_208 J_209 ri_210 rj rq H.size tg hSH hG.1 this hL_this hK_this this_pile hR_this_pile hL_this_pile hK_this_pile hN_this_pile hT_this_pile) (cwV 0 hts (tw_V tw_889 tw_890 tw_891 tw_5 tw_892) rfl rfl rfl cv_yX12_goesOn_0 ⟨Nat.le_of_ble_eq_true rfl, Nat.le_of_ble_eq_true rfl⟩) ⟨pq_blind, pq_recv hK hP hL_this hK_this (by decide) rfl, pq_pre hK hN hP hD⟩ rfl rfl hl.1 rfl (lv_room (Nat.le_of_ble_eq_true rfl)) dX12_sum_18 ⟨Nat.le_of_ble_eq_true rfl, Nat.le_of_ble_eq_true rfl⟩) hD hS hA (fun x_323 σ1 μ1 H locs hw_324 hP hD hS => ?_)
          obtain ⟨hu_325, hr_327⟩ := hw_324
          obtain ⟨hu_325a, hu_325b⟩ := Prod.mk.inj hu_325
          rw [hu_325a, hu_325b] at hP hD
          have h_328 : rg x_323 0 1 := by rcases hr_327 with ⟨q, -⟩ | ⟨q, -⟩ <;> rw [q] <;> exact ⟨by decide, by decide⟩
          have uh_328 := h_328.1
          have vh_328 := h_328.2
          refine lv_if_eq (tgt := 52) hx hb dX12_sum_21 (by decide) (fun c_329 => ?_) (fun c_329 => ?_)
          · have f_330 := (hr_327.resolve_left (fun q => absurd (q.1.symm.trans c_329) (by decide))).2
            have tc_331 : (x_323).toInt = 0 := congrArg Int32.toInt c_329
            have h_332 : rg x_323 0 0 := rg_and h_328 (rg_of_eq c_329 (rg_k (0 : Int32) 0 rfl)) (by decide)
            have uh_332 := h_332.1
            have vh_332 := h_332.2
            refine lv_aload_n hx hb dX12_sum_52 rfl (lv_at hl 0 rfl) ?_
            refine lv_iconst (v := 3) hx hb dX12_sum_53 (by decide) ?_
            have hpsB : PSz (I_208 396 this).toInt (I_208 398 this).toInt (I_208 401 this).toInt (I_208 402 this).toInt (I_208 391 this).toInt (I_208 393 this).toInt (ri_210 this_a) (ri_210 this_pile) bb f0 fr va tb nn K 1 := by have q := hrel_296; rw [show (I_208 403 this).toInt = 1 from by omega] at q; exact q
            refine pk_v (va_runV (As := [.int 3]) (rest := []) ⟨hx, hb, hml, hown, hts⟩ (s_X12_settle l D t σ I_208 J_209 ri_210 rj rq H.size tg hSH hG.1 this (3 : Int32) hL_this hK_this (rg_w (rg_k (3 : Int32) 3 rfl) (by decide)) this_a hR_this_a hL_this_a hK_this_a hN_this_a hT_this_a this_pile hR_this_pile hL_this_pile hK_this_pile hN_this_pile hT_this_pile bb f0 fr va tb nn K (by assumption)) (cwV 1 hts (tw_V tw_901 tw_902 tw_903 tw_5 tw_904) rfl rfl rfl cv_yX12_settle_1 ⟨Nat.le_of_ble_eq_true rfl, Nat.le_of_ble_eq_true rfl⟩) ⟨pq_blind, pq_recv hK hP hL_this hK_this (by decide) rfl, pq_pre hK hN hP hD⟩ rfl rfl hl.1 rfl (lv_room (Nat.le_of_ble_eq_true rfl)) dX12_sum_54 ⟨Nat.le_of_ble_eq_true rfl, Nat.le_of_ble_eq_true rfl⟩) hD hS hA (fun σ1 μ1 H locs hw_334 hP hD hS => ?_)
            obtain ⟨I_335, ri_336, hu_337, hg_338, hp_340, hp_341, hp_342, hp_343, hp_344⟩ := hw_334
            obtain ⟨hu_337a, hu_337b⟩ := Prod.mk.inj hu_337
            rw [hu_337a, hu_337b] at hP hD
            have tt_345 := hp_344
            have hG := GM.tr hG hg_338 (by decide)
            have tt_346 : (I_335 396 this).toInt = (I_208 396 this).toInt := by rw [hg_338.2.1 396 (by decide) (by decide)]
            have tt_347 : (I_335 402 this).toInt = (I_208 402 this).toInt := by rw [hg_338.2.1 402 (by decide) (by decide)]
            have tt_348 : (I_335 391 this).toInt = (I_208 391 this).toInt := by rw [hg_338.2.1 391 (by decide) (by decide)]
            have tt_349 : (I_335 393 this).toInt = (I_208 393 this).toInt := by rw [hg_338.2.1 393 (by decide) (by decide)]
            have tt_350 : (I_335 397 this).toInt = (I_208 397 this).toInt := by rw [hg_338.2.1 397 (by decide) (by decide)]
            refine lv_aload_n hx hb dX12_sum_57 rfl (lv_at hl 0 rfl) ?_
            refine pg_f (v := .int (I_335 401 this)) (C := RX12) (T := TX12) (N := 31) hx hb hts (tw_i inlX12) hown hK hP hL_this hK_this (by decide) rfl 17 (by decide) (hts _ (tw_c tw_887)) rfl dX12_sum_58 ?_
            have h_351 : rg (I_335 401 this) 0 160 := GM.rI hG 401 rfl
            have uh_351 := h_351.1
            have vh_351 := h_351.2
            refine lv_if_le (tgt := 68) hx hb dX12_sum_61 (by decide) (fun c_352 => ?_) (fun c_352 => ?_)
            · have tc_353 : (I_335 401 this).toInt ≤ 0 := Int32.le_iff_toInt_le.mp c_352
              have h_354 : rg (I_335 401 this) 0 0 := rg_le1 c_352 h_351 (rg_k (0 : Int32) 0 rfl) (by decide)
              have uh_354 := h_354.1
              have vh_354 := h_354.2
              refine lv_iconst (v := 0) hx hb dX12_sum_68 (by decide) ?_
              subst hQ
              exact W.iret (v := 0) hx hb hr (fun t1 ht hW => ⟨⟨0, (σ, I_335, J_209, ri_336, rj, rq), rfl, ⟨I_335, J_209, ri_336, rfl, hG, (Or.inr ⟨PSz_e hp_340 (by have z9 := (PSz_bd hp_340).2.1; omega), by rw [show (I_335 391 this).toInt = (I_208 391 this).toInt from by omega, show (I_335 393 this).toInt = (I_208 393 this).toInt from by omega]; exact hrel_297⟩), (rg_w (rg_k (0 : Int32) 0 rfl) (by decide))⟩, by rw [ht]; exact hP, va_K.moved hW.alike hK, hD⟩, hS.F ht⟩) hS.2.2 dX12_sum_69
            · have tc_355 : 0 < (I_335 401 this).toInt := Int32.lt_iff_toInt_lt.mp (nle c_352)
              have h_356 : rg (I_335 401 this) 1 160 := rg_lt2 (nle c_352) (rg_k (0 : Int32) 0 rfl) h_351 (by decide)
              have uh_356 := h_356.1
              have vh_356 := h_356.2
              refine lv_iconst (v := 1) hx hb dX12_sum_64 (by decide) ?_
              refine lv_goto (tgt := 69) hx hb dX12_sum_65 (by decide) ?_
              subst hQ
              exact W.iret (v := 1) hx hb hr (fun t1 ht hW => ⟨⟨1, (σ, I_335, J_209, ri_336, rj, rq), rfl, ⟨I_335, J_209, ri_336, rfl, hG, (Or.inl (by decide)), (rg_w (rg_k (1 : Int32) 1 rfl) (by decide))⟩, by rw [ht]; exact hP, va_K.moved hW.alike hK, hD⟩, hS.F ht⟩) hS.2.2 dX12_sum_69
          · have f_357 := (hr_327.resolve_right (fun q => c_329 q.1)).2
            have tc_358 : (x_323).toInt ≠ 0 := fun q => c_329 (Int32.toInt_inj.mp q)
            have h_359 : rg x_323 1 1 := rg_ne c_329 h_328 0 rfl (by decide)
            have uh_359 := h_359.1
            have vh_359 := h_359.2
            refine lv_aload_n hx hb dX12_sum_24 rfl (lv_at hl 0 rfl) ?_
            refine pg_f (v := .int (I_208 403 this)) (C := RX12) (T := TX12) (N := 31) hx hb hts (tw_i inlX12) hown hK hP hL_this hK_this (by decide) rfl 19 (by decide) (hts _ (tw_c tw_888)) rfl dX12_sum_25 ?_
            refine lv_if_eq (tgt := 38) hx hb dX12_sum_28 (by decide) (fun c_360 => ?_) (fun c_360 => ?_)
            · have tc_361 : (I_208 403 this).toInt = 0 := congrArg Int32.toInt c_360
              exact (rg_empty (rg_and h_322 (rg_of_eq c_360 (rg_k (0 : Int32) 0 rfl)) (lo := 1) (hi := 0) (by decide)) (by decide)).elim
            · have tc_362 : (I_208 403 this).toInt ≠ 0 := fun q => c_360 (Int32.toInt_inj.mp q)
              refine lv_aload_n hx hb dX12_sum_31 rfl (lv_at hl 0 rfl) ?_
              have hpsB : PSz (I_208 396 this).toInt (I_208 398 this).toInt (I_208 401 this).toInt (I_208 402 this).toInt (I_208 391 this).toInt (I_208 393 this).toInt (ri_210 this_a) (ri_210 this_pile) bb f0 fr va tb nn K 1 := by have q := hrel_296; rw [show (I_208 403 this).toInt = 1 from by omega] at q; exact q
              refine pk_v (va_runV (As := []) (rest := []) ⟨hx, hb, hml, hown, hts⟩ (s_X12_behindOne l D t σ I_208 J_209 ri_210 rj rq H.size tg hSH hG.1 this hL_this hK_this this_a hR_this_a hL_this_a hK_this_a hN_this_a hT_this_a this_pile hR_this_pile hL_this_pile hK_this_pile hN_this_pile hT_this_pile bb f0 fr va tb nn K (by assumption) (by assumption)) (cwV 0 hts (tw_V tw_897 tw_898 tw_899 tw_5 tw_900) rfl rfl rfl cv_yX12_behindOne_0 ⟨Nat.le_of_ble_eq_true rfl, Nat.le_of_ble_eq_true rfl⟩) ⟨pq_blind, pq_recv hK hP hL_this hK_this (by decide) rfl, pq_pre hK hN hP hD⟩ rfl rfl hl.1 rfl (lv_room (Nat.le_of_ble_eq_true rfl)) dX12_sum_32 ⟨Nat.le_of_ble_eq_true rfl, Nat.le_of_ble_eq_true rfl⟩) hD hS hA (fun σ1 μ1 H locs hw_364 hP hD hS => ?_)
              obtain ⟨I_365, J_366, ri_367, hu_368, hg_369, hp_371, hp_372⟩ := hw_364
              obtain ⟨hu_368a, hu_368b⟩ := Prod.mk.inj hu_368
              rw [hu_368a, hu_368b] at hP hD
              have hG := GM.tr hG hg_369 (by decide)
              have tt_373 : (I_365 396 this).toInt = (I_208 396 this).toInt := by rw [hg_369.2.1 396 (by decide) (by decide)]
              have tt_374 : (I_365 397 this).toInt = (I_208 397 this).toInt := by rw [hg_369.2.1 397 (by decide) (by decide)]
              refine lv_goto (tgt := 10) hx hb dX12_sum_35 (by decide) ?_
              exact ih_293 I_365 J_366 ri_367 _ _ _ hp_371 (Int.le_of_lt (Int.lt_of_lt_of_le hp_372 hrel_297)) (tm_ms hm_290 hp_372 (tm_b ((hG.1.1 391 this).2))) hG hP hD hS (lv_sub hl [0] rfl)
    exact L_292 _ I_10 J ri _ _ _ (by rw [show (I_10 403 this).toInt = 0 from by omega]; exact PSz_cg (PSz_0 hpb (ri this_pile) hv0 (p1 := 0) rfl) (by omega) (by omega) (by omega) (by omega) (by omega) (by omega) rfl rfl) (Int.le_of_eq (by rw [show (I_10 391 this).toInt = (I 391 this).toInt from by omega, show (I_10 393 this).toInt = (I 393 this).toInt from by omega])) (Nat.lt_succ_self _) hG hP hD hS (lv_sub hl [0] rfl)
  exact go _ _ _ hP hD hS hl

set_option maxHeartbeats 4000000 in
set_option maxRecDepth 100000 in
theorem s_X12_compareOf (l : Launch) (D : va_G) (t : pq_T) (σ : pq_S) (I : Nat → Nat → Int32) (J : Nat → Nat → Int64) (ri : Nat → Nat → Int32) (rj : Nat → Nat → Int64) (rq : Nat → Nat → Option Nat) (sz : Nat) (tg : Nat → Nat) (hSH : SH σ tg) (hG0 : GT tg I ri) (this : Nat) (hL_this : this ∈ σ.1) (hK_this : σ.2.1 this = 12) : MetI l yX12_compareOf (wa yX12_compareOf cX12_compareOf 1 (some .int)) ({ frames := 0, cells := 0, slots := 0, locals := 0 }) [.ref this] D t σ (I, J, ri, rj, rq) sz 0 0 (fun (r : Int32) (u : pq_S × pq_M) => u = (σ, I, J, ri, rj, rq) ∧ (r.toInt < 0 ∨ (10 ≤ r.toInt ∧ r.toInt ≤ 15 ∧ (I 393 this).toInt ≠ 0)) ∧ rg r (-1) 15) := by
  refine Met.ofW (cc := cX12_compareOf) (maxL := 1) (ret := (some .int)) (by decide) rfl ?_
  intro p e s m args below meth c s₁ B hml hv
  obtain ⟨rfl, hsz, hP, hK, hD0, hN⟩ := hv
  have hx := B.exec
  have hb := B.bytes
  have hr := B.returns
  have hts := atoms_spec (ws := (wa yX12_compareOf cX12_compareOf 1 (some .int))) B.pre
  have hown : s.vm.findClass RX12 = some m.cls := findClass_of_methodNamed B.named
  have hlocks := B.notSynchronized
  subst hsz
  have hD : va_D (pq_B t σ (I, J, ri, rj, rq) s.heap.size) (pq_P t σ (I, J, ri, rj, rq)) := hD0.self
  generalize hAe : pq_B t σ (I, J, ri, rj, rq) s.heap.size = A at hD ⊢
  have hA : ∀ q : Nat, s.heap.size ≤ q → A q := fun q h => by rw [← hAe]; exact Or.inr h
  have hS : va_S A s.heap s.heap [] := va_S.rf
  have hG : GM [] tg σ I ri I ri rq := ⟨hG0, fun _ _ _ => rfl, fun _ _ _ _ _ => rfl, fun _ _ _ _ _ _ => rfl⟩
  have hl := lv_entry ([.ref this]) (n := 1) (Nat.le_of_ble_eq_true rfl)
  rw [lg_entry_eq]
  generalize (lg_sl ([.ref this]) ++ List.replicate (1 - (lg_sl ([.ref this])).length) Slot.unset).toArray = ls at hl ⊢
  have hl : lv_has ls 1 [(0, .ref this)] := hl
  refine q_gen (fun Q hQ => ?_)
  have go : ∀ (H : Heap) (locs : List Loc) (ls : Array Slot), va_P D vwCl (pq_P t σ (I, J, ri, rj, rq)) H → va_D A (pq_P t σ (I, J, ri, rj, rq)) → va_S A s.heap H locs → lv_has ls 1 [(0, .ref this)] → W p l e ({ frames := 0, cells := 0, slots := 0, locals := 0 } : Room) s m (List.toArray ([.ref this] : List Value)) below meth c H locs 0 0 Q (F0 m 0 ls []) := by
    intro H locs ls hP hD hS hl
    refine lv_aload_n hx hb dX12_compareOf_0 rfl (lv_at hl 0 rfl) ?_
    refine pg_f (v := .int (I 393 this)) (C := RX12) (T := TX12) (N := 31) hx hb hts (tw_i inlX12) hown hK hP hL_this hK_this (by decide) rfl 9 (by decide) (hts _ (tw_c tw_831)) rfl dX12_compareOf_1 ?_
    refine lv_bipush (v := 60) hx hb dX12_compareOf_4 (by decide) ?_
    refine lv_icmp_ne (tgt := 14) hx hb dX12_compareOf_6 (by decide) (fun c_1 => ?_) (fun c_1 => ?_)
    · have tc_2 : (I 393 this).toInt ≠ 60 := fun q => c_1 (Int32.toInt_inj.mp q)
      refine lv_aload_n hx hb dX12_compareOf_14 rfl (lv_at hl 0 rfl) ?_
      refine pg_f (v := .int (I 393 this)) (C := RX12) (T := TX12) (N := 31) hx hb hts (tw_i inlX12) hown hK hP hL_this hK_this (by decide) rfl 9 (by decide) (hts _ (tw_c tw_831)) rfl dX12_compareOf_15 ?_
      refine lv_iconst (v := 4) hx hb dX12_compareOf_18 (by decide) ?_
      refine lv_icmp_ne (tgt := 27) hx hb dX12_compareOf_19 (by decide) (fun c_3 => ?_) (fun c_3 => ?_)
      · have tc_4 : (I 393 this).toInt ≠ 4 := fun q => c_3 (Int32.toInt_inj.mp q)
        refine lv_aload_n hx hb dX12_compareOf_27 rfl (lv_at hl 0 rfl) ?_
        refine pg_f (v := .int (I 393 this)) (C := RX12) (T := TX12) (N := 31) hx hb hts (tw_i inlX12) hown hK hP hL_this hK_this (by decide) rfl 9 (by decide) (hts _ (tw_c tw_831)) rfl dX12_compareOf_28 ?_
        refine lv_bipush (v := 62) hx hb dX12_compareOf_31 (by decide) ?_
        refine lv_icmp_ne (tgt := 41) hx hb dX12_compareOf_33 (by decide) (fun c_5 => ?_) (fun c_5 => ?_)
        · have tc_6 : (I 393 this).toInt ≠ 62 := fun q => c_5 (Int32.toInt_inj.mp q)
          refine lv_aload_n hx hb dX12_compareOf_41 rfl (lv_at hl 0 rfl) ?_
          refine pg_f (v := .int (I 393 this)) (C := RX12) (T := TX12) (N := 31) hx hb hts (tw_i inlX12) hown hK hP hL_this hK_this (by decide) rfl 9 (by decide) (hts _ (tw_c tw_831)) rfl dX12_compareOf_42 ?_
          refine lv_iconst (v := 5) hx hb dX12_compareOf_45 (by decide) ?_
          refine lv_icmp_ne (tgt := 54) hx hb dX12_compareOf_46 (by decide) (fun c_7 => ?_) (fun c_7 => ?_)
          · have tc_8 : (I 393 this).toInt ≠ 5 := fun q => c_7 (Int32.toInt_inj.mp q)
            refine lv_aload_n hx hb dX12_compareOf_54 rfl (lv_at hl 0 rfl) ?_
            refine pg_f (v := .int (I 393 this)) (C := RX12) (T := TX12) (N := 31) hx hb hts (tw_i inlX12) hown hK hP hL_this hK_this (by decide) rfl 9 (by decide) (hts _ (tw_c tw_831)) rfl dX12_compareOf_55 ?_
            refine lv_bipush (v := 61) hx hb dX12_compareOf_58 (by decide) ?_
            refine lv_icmp_ne (tgt := 68) hx hb dX12_compareOf_60 (by decide) (fun c_9 => ?_) (fun c_9 => ?_)
            · have tc_10 : (I 393 this).toInt ≠ 61 := fun q => c_9 (Int32.toInt_inj.mp q)
              refine lv_aload_n hx hb dX12_compareOf_68 rfl (lv_at hl 0 rfl) ?_
              refine pg_f (v := .int (I 393 this)) (C := RX12) (T := TX12) (N := 31) hx hb hts (tw_i inlX12) hown hK hP hL_this hK_this (by decide) rfl 9 (by decide) (hts _ (tw_c tw_831)) rfl dX12_compareOf_69 ?_
              refine lv_bipush (v := 35) hx hb dX12_compareOf_72 (by decide) ?_
              refine lv_icmp_ne (tgt := 82) hx hb dX12_compareOf_74 (by decide) (fun c_11 => ?_) (fun c_11 => ?_)
              · have tc_12 : (I 393 this).toInt ≠ 35 := fun q => c_11 (Int32.toInt_inj.mp q)
                refine lv_iconst (v := (-1)) hx hb dX12_compareOf_82 (by decide) ?_
                subst hQ
                exact W.iret (v := (-1)) hx hb hr (fun t1 ht hW => ⟨⟨(-1), (σ, I, J, ri, rj, rq), rfl, ⟨rfl, (by have z9 : ((-1) : Int32).toInt = (-1) := rfl; omega), (rg_w (rg_k (-1 : Int32) (-1) rfl) (by decide))⟩, by rw [ht]; exact hP, va_K.moved hW.alike hK, hD⟩, hS.F ht⟩) hS.2.2 dX12_compareOf_83
              · have tc_13 : (I 393 this).toInt = 35 := congrArg Int32.toInt c_11
                have h_14 : rg (I 393 this) 35 35 := rg_and (rg_full _) (rg_of_eq c_11 (rg_k (35 : Int32) 35 rfl)) (by decide)
                have uh_14 := h_14.1
                have vh_14 := h_14.2
                refine lv_bipush (v := 15) hx hb dX12_compareOf_77 (by decide) ?_
                refine lv_goto (tgt := 83) hx hb dX12_compareOf_79 (by decide) ?_
                subst hQ
                exact W.iret (v := 15) hx hb hr (fun t1 ht hW => ⟨⟨15, (σ, I, J, ri, rj, rq), rfl, ⟨rfl, (by have z9 : (15 : Int32).toInt = 15 := rfl; omega), (rg_w (rg_k (15 : Int32) 15 rfl) (by decide))⟩, by rw [ht]; exact hP, va_K.moved hW.alike hK, hD⟩, hS.F ht⟩) hS.2.2 dX12_compareOf_83
            · have tc_15 : (I 393 this).toInt = 61 := congrArg Int32.toInt c_9
              have h_16 : rg (I 393 this) 61 61 := rg_and (rg_full _) (rg_of_eq c_9 (rg_k (61 : Int32) 61 rfl)) (by decide)
              have uh_16 := h_16.1
              have vh_16 := h_16.2
              refine lv_bipush (v := 14) hx hb dX12_compareOf_63 (by decide) ?_
              refine lv_goto (tgt := 83) hx hb dX12_compareOf_65 (by decide) ?_
              subst hQ
              exact W.iret (v := 14) hx hb hr (fun t1 ht hW => ⟨⟨14, (σ, I, J, ri, rj, rq), rfl, ⟨rfl, (by have z9 : (14 : Int32).toInt = 14 := rfl; omega), (rg_w (rg_k (14 : Int32) 14 rfl) (by decide))⟩, by rw [ht]; exact hP, va_K.moved hW.alike hK, hD⟩, hS.F ht⟩) hS.2.2 dX12_compareOf_83
          · have tc_17 : (I 393 this).toInt = 5 := congrArg Int32.toInt c_7
            have h_18 : rg (I 393 this) 5 5 := rg_and (rg_full _) (rg_of_eq c_7 (rg_k (5 : Int32) 5 rfl)) (by decide)
            have uh_18 := h_18.1
            have vh_18 := h_18.2
            refine lv_bipush (v := 13) hx hb dX12_compareOf_49 (by decide) ?_
            refine lv_goto (tgt := 83) hx hb dX12_compareOf_51 (by decide) ?_
            subst hQ
            exact W.iret (v := 13) hx hb hr (fun t1 ht hW => ⟨⟨13, (σ, I, J, ri, rj, rq), rfl, ⟨rfl, (by have z9 : (13 : Int32).toInt = 13 := rfl; omega), (rg_w (rg_k (13 : Int32) 13 rfl) (by decide))⟩, by rw [ht]; exact hP, va_K.moved hW.alike hK, hD⟩, hS.F ht⟩) hS.2.2 dX12_compareOf_83
        · have tc_19 : (I 393 this).toInt = 62 := congrArg Int32.toInt c_5
          have h_20 : rg (I 393 this) 62 62 := rg_and (rg_full _) (rg_of_eq c_5 (rg_k (62 : Int32) 62 rfl)) (by decide)
          have uh_20 := h_20.1
          have vh_20 := h_20.2
          refine lv_bipush (v := 12) hx hb dX12_compareOf_36 (by decide) ?_
          refine lv_goto (tgt := 83) hx hb dX12_compareOf_38 (by decide) ?_
          subst hQ
          exact W.iret (v := 12) hx hb hr (fun t1 ht hW => ⟨⟨12, (σ, I, J, ri, rj, rq), rfl, ⟨rfl, (by have z9 : (12 : Int32).toInt = 12 := rfl; omega), (rg_w (rg_k (12 : Int32) 12 rfl) (by decide))⟩, by rw [ht]; exact hP, va_K.moved hW.alike hK, hD⟩, hS.F ht⟩) hS.2.2 dX12_compareOf_83
      · have tc_21 : (I 393 this).toInt = 4 := congrArg Int32.toInt c_3
        have h_22 : rg (I 393 this) 4 4 := rg_and (rg_full _) (rg_of_eq c_3 (rg_k (4 : Int32) 4 rfl)) (by decide)
        have uh_22 := h_22.1
        have vh_22 := h_22.2
        refine lv_bipush (v := 11) hx hb dX12_compareOf_22 (by decide) ?_
        refine lv_goto (tgt := 83) hx hb dX12_compareOf_24 (by decide) ?_
        subst hQ
        exact W.iret (v := 11) hx hb hr (fun t1 ht hW => ⟨⟨11, (σ, I, J, ri, rj, rq), rfl, ⟨rfl, (by have z9 : (11 : Int32).toInt = 11 := rfl; omega), (rg_w (rg_k (11 : Int32) 11 rfl) (by decide))⟩, by rw [ht]; exact hP, va_K.moved hW.alike hK, hD⟩, hS.F ht⟩) hS.2.2 dX12_compareOf_83
    · have tc_23 : (I 393 this).toInt = 60 := congrArg Int32.toInt c_1
      have h_24 : rg (I 393 this) 60 60 := rg_and (rg_full _) (rg_of_eq c_1 (rg_k (60 : Int32) 60 rfl)) (by decide)
      have uh_24 := h_24.1
      have vh_24 := h_24.2
      refine lv_bipush (v := 10) hx hb dX12_compareOf_9 (by decide) ?_
      refine lv_goto (tgt := 83) hx hb dX12_compareOf_11 (by decide) ?_
      subst hQ
      exact W.iret (v := 10) hx hb hr (fun t1 ht hW => ⟨⟨10, (σ, I, J, ri, rj, rq), rfl, ⟨rfl, (by have z9 : (10 : Int32).toInt = 10 := rfl; omega), (rg_w (rg_k (10 : Int32) 10 rfl) (by decide))⟩, by rw [ht]; exact hP, va_K.moved hW.alike hK, hD⟩, hS.F ht⟩) hS.2.2 dX12_compareOf_83
  exact go _ _ _ hP hD hS hl

set_option maxHeartbeats 4000000 in
set_option maxRecDepth 100000 in
theorem s_X12_ask (l : Launch) (D : va_G) (t : pq_T) (σ : pq_S) (I : Nat → Nat → Int32) (J : Nat → Nat → Int64) (ri : Nat → Nat → Int32) (rj : Nat → Nat → Int64) (rq : Nat → Nat → Option Nat) (sz : Nat) (tg : Nat → Nat) (hSH : SH σ tg) (hG0 : GT tg I ri) (this : Nat) (hL_this : this ∈ σ.1) (hK_this : σ.2.1 this = 12) (this_a : Nat) (hR_this_a : σ.2.2.1 384 this = some this_a) (hL_this_a : this_a ∈ σ.1) (hK_this_a : σ.2.1 this_a = 13) (hN_this_a : σ.2.2.2 this_a = 12720) (hT_this_a : tg this_a = 384) (this_pile : Nat) (hR_this_pile : σ.2.2.1 400 this = some this_pile) (hL_this_pile : this_pile ∈ σ.1) (hK_this_pile : σ.2.1 this_pile = 13) (hN_this_pile : σ.2.2.2 this_pile = 160) (hT_this_pile : tg this_pile = 400) (bb : Nat) (f0 : Nat → Int32) (fr : Int) (va : Int) (tb : Int) (nn : Int) (K : Int) (hpb : PBz (I 396 this).toInt (I 398 this).toInt (I 402 this).toInt (I 391 this).toInt (I 393 this).toInt (ri this_a) bb f0 fr va tb nn K) : MetI l yX12_ask (wa yX12_ask cX12_ask 5 (some .int)) ({ frames := 6, cells := 0, slots := 0, locals := 130 }) [.ref this] D t σ (I, J, ri, rj, rq) sz 0 0 (fun (r : Int32) (u : pq_S × pq_M) => ∃ I' : Nat → Nat → Int32, ∃ J' : Nat → Nat → Int64, ∃ ri' : Nat → Nat → Int32, u = (σ, I', J', ri', rj, rq) ∧ GM [401, 398, 391, 392, 393, 402] tg σ I ri I' ri' rq ∧ (r.toInt ≠ 0 ∨ (PBz (I' 396 this).toInt (I' 398 this).toInt (I' 402 this).toInt (I' 391 this).toInt (I' 393 this).toInt (ri' this_a) bb f0 fr va (tb + 1) nn K ∧ tmM (I' 391 this).toInt (I' 393 this).toInt ≤ tmM (I 391 this).toInt (I 393 this).toInt)) ∧ rg r 0 3) := by
  refine Met.ofW (cc := cX12_ask) (maxL := 5) (ret := (some .int)) (by decide) rfl ?_
  intro p e s m args below meth c s₁ B hml hv
  obtain ⟨rfl, hsz, hP, hK, hD0, hN⟩ := hv
  have hx := B.exec
  have hb := B.bytes
  have hr := B.returns
  have hts := atoms_spec (ws := (wa yX12_ask cX12_ask 5 (some .int))) B.pre
  have hown : s.vm.findClass RX12 = some m.cls := findClass_of_methodNamed B.named
  have hlocks := B.notSynchronized
  subst hsz
  have hD : va_D (pq_B t σ (I, J, ri, rj, rq) s.heap.size) (pq_P t σ (I, J, ri, rj, rq)) := hD0.self
  generalize hAe : pq_B t σ (I, J, ri, rj, rq) s.heap.size = A at hD ⊢
  have hA : ∀ q : Nat, s.heap.size ≤ q → A q := fun q h => by rw [← hAe]; exact Or.inr h
  have hS : va_S A s.heap s.heap [] := va_S.rf
  have hG : GM [401, 398, 391, 392, 393, 402] tg σ I ri I ri rq := ⟨hG0, fun _ _ _ => rfl, fun _ _ _ _ _ => rfl, fun _ _ _ _ _ _ => rfl⟩
  have hl := lv_entry ([.ref this]) (n := 5) (Nat.le_of_ble_eq_true rfl)
  rw [lg_entry_eq]
  generalize (lg_sl ([.ref this]) ++ List.replicate (5 - (lg_sl ([.ref this])).length) Slot.unset).toArray = ls at hl ⊢
  have hl : lv_has ls 5 [(0, .ref this)] := hl
  refine q_gen (fun Q hQ => ?_)
  have go : ∀ (H : Heap) (locs : List Loc) (ls : Array Slot), va_P D vwCl (pq_P t σ (I, J, ri, rj, rq)) H → va_D A (pq_P t σ (I, J, ri, rj, rq)) → va_S A s.heap H locs → lv_has ls 5 [(0, .ref this)] → W p l e ({ frames := 6, cells := 0, slots := 0, locals := 130 } : Room) s m (List.toArray ([.ref this] : List Value)) below meth c H locs 0 0 Q (F0 m 0 ls []) := by
    intro H locs ls hP hD hS hl
    have hv0 := PBz_tv hpb
    have ho0 := PBz_op hpb
    refine lv_iconst (v := 0) hx hb dX12_ask_0 (by decide) ?_
    refine lv_istore_n (lv' := [(1, .int 0), (0, .ref this)]) hx hb dX12_ask_1 rfl hl (by decide) rfl (fun ls hl => ?_)
    have L_2532 : ∀ (n_2531 : Nat) (x_2096 : Int32) (I_2097 : Nat → Nat → Int32) (J_2098 : Nat → Nat → Int64) (H : Heap) (locs : List Loc) (ls : Array Slot), rg x_2096 0 8 → ((I_2097 402 this).toInt = nn + (x_2096).toInt ∧ 0 ≤ nn ∧ (I_2097 402 this).toInt ≤ 8 ∧ 0 ≤ (x_2096).toInt) → (PBz (I_2097 396 this).toInt (I_2097 398 this).toInt (I_2097 402 this).toInt (I_2097 391 this).toInt (I_2097 393 this).toInt (ri this_a) bb f0 fr va tb (nn + (x_2096).toInt) (K + (x_2096).toInt)) → (tmM (I_2097 391 this).toInt (I_2097 393 this).toInt ≤ tmM (I 391 this).toInt (I 393 this).toInt) → (tmM (I_2097 391 this).toInt (I_2097 393 this).toInt).toNat < n_2531 → GM [401, 398, 391, 392, 393, 402] tg σ I ri I_2097 ri rq → va_P D vwCl (pq_P t σ (I_2097, J_2098, ri, rj, rq)) H → va_D A (pq_P t σ (I_2097, J_2098, ri, rj, rq)) → va_S A s.heap H locs → lv_has ls 5 [(0, .ref this), (1, .int x_2096)] → W p l e ({ frames := 6, cells := 0, slots := 0, locals := 130 } : Room) s m (List.toArray ([.ref this] : List Value)) below meth c H locs 0 0 Q (F0 m 2 ls []) := by
      intro n_2531
      induction n_2531 with
      | zero => intro x_2096 I_2097 J_2098 H locs ls h_2538 hrel_2539 hrel_2540 hrel_2541 hm_2530 hG hP hD hS hl; exact absurd hm_2530 (Nat.not_lt_zero _)
      | succ n_2531 ih_2533 =>
        intro x_2096 I_2097 J_2098 H locs ls h_2538 hrel_2539 hrel_2540 hrel_2541 hm_2530 hG hP hD hS hl
        have uh_2538 := h_2538.1
        have vh_2538 := h_2538.2
        refine lv_aload_n hx hb dX12_ask_2 rfl (lv_at hl 0 rfl) ?_
        refine lv_bipush (v := 110) hx hb dX12_ask_3 (by decide) ?_
        refine lv_bipush (v := 111) hx hb dX12_ask_5 (by decide) ?_
        refine lv_bipush (v := 116) hx hb dX12_ask_7 (by decide) ?_
        refine pk_l (va_runS (As := [.int 110, .int 111, .int 116]) (rest := [.ref this]) ⟨hx, hb, hml, hown, hts⟩ (s_X12_w3_x l D t σ I_2097 J_2098 ri rj rq H.size tg hSH hG.1 (110 : Int32) (111 : Int32) (116 : Int32)) (va_cwS 3 hts (tw_S tw_864 tw_865 tw_5 tw_866) rfl rfl rfl cd_yX12_w3_3 ⟨Nat.le_of_ble_eq_true rfl, Nat.le_of_ble_eq_true rfl⟩) ⟨pq_blind, pq_pre hK hN hP hD⟩ rfl rfl hl.1 rfl (lv_room (Nat.le_of_ble_eq_true rfl)) dX12_ask_9 ⟨Nat.le_of_ble_eq_true rfl, Nat.le_of_ble_eq_true rfl⟩) hD hS hA (fun x_2542 σ1 μ1 H locs hw_2543 hP hD hS => ?_)
        have hu_2544 := hw_2543
        obtain ⟨hu_2544a, hu_2544b⟩ := Prod.mk.inj hu_2544
        rw [hu_2544a, hu_2544b] at hP hD
        refine pk_i (va_runV (As := [.long x_2542]) (rest := []) ⟨hx, hb, hml, hown, hts⟩ (s_X12_isWord_x l D t σ I_2097 J_2098 ri rj rq H.size tg hSH hG.1 this x_2542 hL_this hK_this) (cwV 1 hts (tw_V tw_879 tw_880 tw_881 tw_5 tw_882) rfl rfl rfl cv_yX12_isWord_1 ⟨Nat.le_of_ble_eq_true rfl, Nat.le_of_ble_eq_true rfl⟩) ⟨pq_blind, pq_recv hK hP hL_this hK_this (by decide) rfl, pq_pre hK hN hP hD⟩ rfl rfl hl.1 rfl (lv_room (Nat.le_of_ble_eq_true rfl)) dX12_ask_12 ⟨Nat.le_of_ble_eq_true rfl, Nat.le_of_ble_eq_true rfl⟩) hD hS hA (fun x_2547 σ1 μ1 H locs hw_2548 hP hD hS => ?_)
        obtain ⟨hu_2549, hr_2551⟩ := hw_2548
        obtain ⟨hu_2549a, hu_2549b⟩ := Prod.mk.inj hu_2549
        rw [hu_2549a, hu_2549b] at hP hD
        have h_2552 : rg x_2547 0 1 := by rcases hr_2551 with ⟨q, -⟩ | ⟨q, -⟩ <;> rw [q] <;> exact ⟨by decide, by decide⟩
        have uh_2552 := h_2552.1
        have vh_2552 := h_2552.2
        refine lv_if_eq (tgt := 49) hx hb dX12_ask_15 (by decide) (fun c_2553 => ?_) (fun c_2553 => ?_)
        · have f_2554 := (hr_2551.resolve_left (fun q => absurd (q.1.symm.trans c_2553) (by decide))).2
          have tc_2555 : (x_2547).toInt = 0 := congrArg Int32.toInt c_2553
          have h_2556 : rg x_2547 0 0 := rg_and h_2552 (rg_of_eq c_2553 (rg_k (0 : Int32) 0 rfl)) (by decide)
          have uh_2556 := h_2556.1
          have vh_2556 := h_2556.2
          refine lv_aload_n hx hb dX12_ask_49 rfl (lv_at hl 0 rfl) ?_
          refine pk_i (va_runV (As := []) (rest := []) ⟨hx, hb, hml, hown, hts⟩ (s_X12_sum l D t σ I_2097 J_2098 ri rj rq H.size tg hSH hG.1 this hL_this hK_this this_a hR_this_a hL_this_a hK_this_a hN_this_a hT_this_a this_pile hR_this_pile hL_this_pile hK_this_pile hN_this_pile hT_this_pile bb f0 fr va tb (nn + (x_2096).toInt) (K + (x_2096).toInt) (by assumption)) (cwV 0 hts (tw_V tw_883 tw_884 tw_885 tw_5 tw_886) rfl rfl rfl cv_yX12_sum_0 ⟨Nat.le_of_ble_eq_true rfl, Nat.le_of_ble_eq_true rfl⟩) ⟨pq_blind, pq_recv hK hP hL_this hK_this (by decide) rfl, pq_pre hK hN hP hD⟩ rfl rfl hl.1 rfl (lv_room (Nat.le_of_ble_eq_true rfl)) dX12_ask_50 ⟨Nat.le_of_ble_eq_true rfl, Nat.le_of_ble_eq_true rfl⟩) hD hS hA (fun x_2557 σ1 μ1 H locs hw_2558 hP hD hS => ?_)
          obtain ⟨I_2559, J_2560, ri_2561, hu_2562, hg_2563, hp_2565, hr_2564⟩ := hw_2558
          obtain ⟨hu_2562a, hu_2562b⟩ := Prod.mk.inj hu_2562
          rw [hu_2562a, hu_2562b] at hP hD
          have hG := GM.tr hG hg_2563 (by decide)
          have tt_2566 : (I_2559 396 this).toInt = (I_2097 396 this).toInt := by rw [hg_2563.2.1 396 (by decide) (by decide)]
          have tt_2567 : (I_2559 397 this).toInt = (I_2097 397 this).toInt := by rw [hg_2563.2.1 397 (by decide) (by decide)]
          refine lv_istore_n (lv' := [(2, .int x_2557), (0, .ref this), (1, .int x_2096)]) hx hb dX12_ask_53 rfl hl (by decide) rfl (fun ls hl => ?_)
          refine lv_iload_n hx hb dX12_ask_54 rfl (lv_at hl 0 rfl) ?_
          refine lv_if_eq (tgt := 60) hx hb dX12_ask_55 (by decide) (fun c_2568 => ?_) (fun c_2568 => ?_)
          · have tc_2569 : (x_2557).toInt = 0 := congrArg Int32.toInt c_2568
            have h_2570 : rg x_2557 0 0 := rg_and hr_2564 (rg_of_eq c_2568 (rg_k (0 : Int32) 0 rfl)) (by decide)
            have uh_2570 := h_2570.1
            have vh_2570 := h_2570.2
            refine lv_aload_n hx hb dX12_ask_60 rfl (lv_at hl 1 rfl) ?_
            refine pk_i (va_runV (As := []) (rest := []) ⟨hx, hb, hml, hown, hts⟩ (s_X12_compareOf l D t σ I_2559 J_2560 ri_2561 rj rq H.size tg hSH hG.1 this hL_this hK_this) (cwV 0 hts (tw_V tw_925 tw_926 tw_927 tw_5 tw_928) rfl rfl rfl cv_yX12_compareOf_0 ⟨Nat.le_of_ble_eq_true rfl, Nat.le_of_ble_eq_true rfl⟩) ⟨pq_blind, pq_recv hK hP hL_this hK_this (by decide) rfl, pq_pre hK hN hP hD⟩ rfl rfl hl.1 rfl (lv_room (Nat.le_of_ble_eq_true rfl)) dX12_ask_61 ⟨Nat.le_of_ble_eq_true rfl, Nat.le_of_ble_eq_true rfl⟩) hD hS hA (fun x_2571 σ1 μ1 H locs hw_2572 hP hD hS => ?_)
            obtain ⟨hu_2573, hp_2576, hr_2575⟩ := hw_2572
            obtain ⟨hu_2573a, hu_2573b⟩ := Prod.mk.inj hu_2573
            rw [hu_2573a, hu_2573b] at hP hD
            have tt_2577 := hp_2576
            refine lv_istore_n (lv' := [(3, .int x_2571), (2, .int x_2557), (0, .ref this), (1, .int x_2096)]) hx hb dX12_ask_64 rfl hl (by decide) rfl (fun ls hl => ?_)
            refine lv_iload_n hx hb dX12_ask_65 rfl (lv_at hl 0 rfl) ?_
            refine lv_if_ge (tgt := 71) hx hb dX12_ask_66 (by decide) (fun c_2578 => ?_) (fun c_2578 => ?_)
            · have tc_2579 : 0 ≤ (x_2571).toInt := Int32.le_iff_toInt_le.mp c_2578
              have h_2580 : rg x_2571 0 15 := rg_le2 c_2578 (rg_k (0 : Int32) 0 rfl) hr_2575 (by decide)
              have uh_2580 := h_2580.1
              have vh_2580 := h_2580.2
              refine lv_aload_n hx hb dX12_ask_71 rfl (lv_at hl 2 rfl) ?_
              obtain ⟨w_2581, hR_w_2581, hL_w_2581, hK_w_2581, hN_w_2581, hT_w_2581⟩ := sh_a hSH 387 (ci := 12) (kd := 13) (len := 300) rfl (by decide) hL_this hK_this
              refine pk_v (va_runV (As := []) (rest := []) ⟨hx, hb, hml, hown, hts⟩ (s_X12_nextToken_x l D t σ I_2559 J_2560 ri_2561 rj rq H.size tg hSH hG.1 this hL_this hK_this w_2581 hR_w_2581 hL_w_2581 hK_w_2581 hN_w_2581 hT_w_2581) (cwV 0 hts (tw_V tw_832 tw_833 tw_834 tw_5 tw_835) rfl rfl rfl cv_yX12_nextToken_0 ⟨Nat.le_of_ble_eq_true rfl, Nat.le_of_ble_eq_true rfl⟩) ⟨pq_blind, pq_recv hK hP hL_this hK_this (by decide) rfl, pq_pre hK hN hP hD⟩ rfl rfl hl.1 rfl (lv_room (Nat.le_of_ble_eq_true rfl)) dX12_ask_72 ⟨Nat.le_of_ble_eq_true rfl, Nat.le_of_ble_eq_true rfl⟩) hD hS hA (fun σ1 μ1 H locs hw_2583 hP hD hS => ?_)
              obtain ⟨I_2584, J_2585, hu_2586, hg_2587, hp_2589, hp_2590, hp_2591⟩ := hw_2583
              obtain ⟨hu_2586a, hu_2586b⟩ := Prod.mk.inj hu_2586
              rw [hu_2586a, hu_2586b] at hP hD
              have tt_2592 := hp_2589
              have tt_2593 := hp_2590
              have tt_2594 := hp_2591
              have tt_2595 : (I_2584 391 this).toInt ≤ 300 := by have z := hg_2587.1.1 391 this; exact z.2
              have hG := GM.tr hG hg_2587 (by decide)
              have tt_2596 : (I_2584 396 this).toInt = (I_2559 396 this).toInt := by rw [hg_2587.2.1 396 (by decide) (by decide)]
              have tt_2597 : (I_2584 398 this).toInt = (I_2559 398 this).toInt := by rw [hg_2587.2.1 398 (by decide) (by decide)]
              have tt_2598 : (I_2584 401 this).toInt = (I_2559 401 this).toInt := by rw [hg_2587.2.1 401 (by decide) (by decide)]
              have tt_2599 : (I_2584 402 this).toInt = (I_2559 402 this).toInt := by rw [hg_2587.2.1 402 (by decide) (by decide)]
              have tt_2600 : (I_2584 397 this).toInt = (I_2559 397 this).toInt := by rw [hg_2587.2.1 397 (by decide) (by decide)]
              refine lv_aload_n hx hb dX12_ask_75 rfl (lv_at hl 2 rfl) ?_
              have hpb2 : PBz (I_2584 396 this).toInt (I_2584 398 this).toInt (I_2584 402 this).toInt (I_2584 391 this).toInt (I_2584 393 this).toInt (ri_2561 this_a) bb f0 fr (va + 1) tb (nn + (x_2096).toInt) (K + (x_2096).toInt + 1) := PBz_tok (hp_2565.resolve_left (fun q => q (by omega))).1 (by omega) (by omega) (by omega) (by omega) (by omega) (by omega) (by omega) rfl
              have htmA : tmM (I_2559 391 this).toInt (I_2559 393 this).toInt ≤ tmM (I 391 this).toInt (I 393 this).toInt := Int.le_trans (hp_2565.resolve_left (fun q => q (by omega))).2 hrel_2541
              have htmB : tmM (I_2584 391 this).toInt (I_2584 393 this).toInt ≤ tmM (I 391 this).toInt (I 393 this).toInt := Int.le_of_lt (Int.lt_of_lt_of_le (tm_lt (by omega) (by omega) (by omega)) htmA)
              refine pk_i (va_runV (As := []) (rest := []) ⟨hx, hb, hml, hown, hts⟩ (s_X12_sum l D t σ I_2584 J_2585 ri_2561 rj rq H.size tg hSH hG.1 this hL_this hK_this this_a hR_this_a hL_this_a hK_this_a hN_this_a hT_this_a this_pile hR_this_pile hL_this_pile hK_this_pile hN_this_pile hT_this_pile bb f0 fr (va + 1) tb (nn + (x_2096).toInt) (K + (x_2096).toInt + 1) (by assumption)) (cwV 0 hts (tw_V tw_883 tw_884 tw_885 tw_5 tw_886) rfl rfl rfl cv_yX12_sum_0 ⟨Nat.le_of_ble_eq_true rfl, Nat.le_of_ble_eq_true rfl⟩) ⟨pq_blind, pq_recv hK hP hL_this hK_this (by decide) rfl, pq_pre hK hN hP hD⟩ rfl rfl hl.1 rfl (lv_room (Nat.le_of_ble_eq_true rfl)) dX12_ask_76 ⟨Nat.le_of_ble_eq_true rfl, Nat.le_of_ble_eq_true rfl⟩) hD hS hA (fun x_2601 σ1 μ1 H locs hw_2602 hP hD hS => ?_)
              obtain ⟨I_2603, J_2604, ri_2605, hu_2606, hg_2607, hp_2609, hr_2608⟩ := hw_2602
              obtain ⟨hu_2606a, hu_2606b⟩ := Prod.mk.inj hu_2606
              rw [hu_2606a, hu_2606b] at hP hD
              have hG := GM.tr hG hg_2607 (by decide)
              have tt_2610 : (I_2603 396 this).toInt = (I_2584 396 this).toInt := by rw [hg_2607.2.1 396 (by decide) (by decide)]
              have tt_2611 : (I_2603 397 this).toInt = (I_2584 397 this).toInt := by rw [hg_2607.2.1 397 (by decide) (by decide)]
              refine lv_istore_n (lv' := [(2, .int x_2601), (3, .int x_2571), (0, .ref this), (1, .int x_2096)]) hx hb dX12_ask_79 rfl hl (by decide) rfl (fun ls hl => ?_)
              refine lv_iload_n hx hb dX12_ask_80 rfl (lv_at hl 0 rfl) ?_
              refine lv_if_eq (tgt := 86) hx hb dX12_ask_81 (by decide) (fun c_2612 => ?_) (fun c_2612 => ?_)
              · have tc_2613 : (x_2601).toInt = 0 := congrArg Int32.toInt c_2612
                have h_2614 : rg x_2601 0 0 := rg_and hr_2608 (rg_of_eq c_2612 (rg_k (0 : Int32) 0 rfl)) (by decide)
                have uh_2614 := h_2614.1
                have vh_2614 := h_2614.2
                refine lv_aload_n hx hb dX12_ask_86 rfl (lv_at hl 2 rfl) ?_
                refine lv_iload_n hx hb dX12_ask_87 rfl (lv_at hl 1 rfl) ?_
                refine lv_iconst (v := 0) hx hb dX12_ask_88 (by decide) ?_
                have hpb3 := (hp_2609.resolve_left (fun q => q (by omega))).1
                have htmC : tmM (I_2603 391 this).toInt (I_2603 393 this).toInt ≤ tmM (I 391 this).toInt (I 393 this).toInt := Int.le_trans (hp_2609.resolve_left (fun q => q (by omega))).2 htmB
                have hq1 := PBz_t hpb3
                have hq2 := PBz_w hpb3 (Or.inr (by omega))
                have hq3 := PBz_op hpb3
                refine pk_v (va_runV (As := [.int x_2571, .int 0]) (rest := []) ⟨hx, hb, hml, hown, hts⟩ (s_X12_emit l D t σ I_2603 J_2604 ri_2605 rj rq H.size tg hSH hG.1 this x_2571 (0 : Int32) hL_this hK_this this_a hR_this_a hL_this_a hK_this_a hN_this_a hT_this_a (by omega) (by omega)) (cwV 2 hts (tw_V tw_905 tw_906 tw_907 tw_5 tw_908) rfl rfl rfl cv_yX12_emit_2 ⟨Nat.le_of_ble_eq_true rfl, Nat.le_of_ble_eq_true rfl⟩) ⟨pq_blind, pq_recv hK hP hL_this hK_this (by decide) rfl, pq_pre hK hN hP hD⟩ rfl rfl hl.1 rfl (lv_room (Nat.le_of_ble_eq_true rfl)) dX12_ask_89 ⟨Nat.le_of_ble_eq_true rfl, Nat.le_of_ble_eq_true rfl⟩) hD hS hA (fun σ1 μ1 H locs hw_2616 hP hD hS => ?_)
                obtain ⟨I_2617, ri_2618, hu_2619, hg_2620, hp_2622, hp_2623, hp_2624, hp_2625⟩ := hw_2616
                obtain ⟨hu_2619a, hu_2619b⟩ := Prod.mk.inj hu_2619
                rw [hu_2619a, hu_2619b] at hP hD
                obtain ⟨v_2626, ev_2626, hv_2626⟩ := hp_2622
                have tt_2627 : (I_2617 398 this).toInt = (I_2603 398 this).toInt + 1 := by rw [ev_2626, pq_us]; exact hv_2626
                have tt_2628 : (I_2617 403 this).toInt = (I_2603 403 this).toInt := by rw [ev_2626, pq_uf _ _ _ (by decide)]
                have hG := GM.tr hG hg_2620 (by decide)
                have tt_2629 : (I_2617 396 this).toInt = (I_2603 396 this).toInt := by rw [hg_2620.2.1 396 (by decide) (by decide)]
                have tt_2630 : (I_2617 401 this).toInt = (I_2603 401 this).toInt := by rw [hg_2620.2.1 401 (by decide) (by decide)]
                have tt_2631 : (I_2617 402 this).toInt = (I_2603 402 this).toInt := by rw [hg_2620.2.1 402 (by decide) (by decide)]
                have tt_2632 : (I_2617 391 this).toInt = (I_2603 391 this).toInt := by rw [hg_2620.2.1 391 (by decide) (by decide)]
                have tt_2633 : (I_2617 393 this).toInt = (I_2603 393 this).toInt := by rw [hg_2620.2.1 393 (by decide) (by decide)]
                have tt_2634 : (I_2617 397 this).toInt = (I_2603 397 this).toInt := by rw [hg_2620.2.1 397 (by decide) (by decide)]
                refine lv_aload_n hx hb dX12_ask_92 rfl (lv_at hl 2 rfl) ?_
                refine lv_dup hx hb dX12_ask_93 rfl ?_
                refine pg_f (v := .int (I_2617 402 this)) (C := RX12) (T := TX12) (N := 31) hx hb hts (tw_i inlX12) hown hK hP hL_this hK_this (by decide) rfl 18 (by decide) (hts _ (tw_c tw_828)) rfl dX12_ask_94 ?_
                refine lv_iload_n hx hb dX12_ask_97 rfl (lv_at hl 3 rfl) ?_
                have h_2635 : rg (I_2617 402 this) 0 8 := ⟨by omega, by omega⟩
                have uh_2635 := h_2635.1
                have vh_2635 := h_2635.2
                refine lv_isub hx hb dX12_ask_98 ?_
                refine lv_topi (fun x_2636 ex_2636 => ?_)
                have h_2637 : rg x_2636 (-8) 8 := rg_of_eq ex_2636 (rg_sub h_2635 h_2538 (by decide))
                have uh_2637 := h_2637.1
                have vh_2637 := h_2637.2
                have tx_2636 : (x_2636).toInt = (I_2617 402 this).toInt - (x_2096).toInt := by rw [ex_2636]; exact i_sub_rg (a2 := (I_2617 402 this).toInt) (b2 := (x_2096).toInt) rfl rfl h_2635 h_2538 (by decide)
                refine pp_i (v := x_2636) (ty := .int) (C := RX12) (T := TX12) (N := 31) hx hb hts (tw_i inlX12) tyX12 tyX12_ok nmX12 hown hK hP hD hS hL_this hK_this (by decide) rfl 18 402 (by decide) (hts _ (tw_c tw_828)) rfl (tyX12_ok 18 (by decide)) rfl rfl (Nat.le_of_ble_eq_true rfl) (ps_402 _ _ _ _ _) dX12_ask_99 (fun I_2638 H locs eI_2638 hP hD hS => ?_)
                have hG := GM.wI hG 402 rfl eI_2638 (rg_w h_2637 (by decide)) (by decide)
                have tt_2639 : (I_2638 396 this).toInt = (I_2617 396 this).toInt := by rw [eI_2638, pq_uf _ _ _ (by decide)]
                have tt_2640 : (I_2638 398 this).toInt = (I_2617 398 this).toInt := by rw [eI_2638, pq_uf _ _ _ (by decide)]
                have tt_2641 : (I_2638 401 this).toInt = (I_2617 401 this).toInt := by rw [eI_2638, pq_uf _ _ _ (by decide)]
                have tt_2642 : (I_2638 402 this).toInt = (x_2636).toInt := by rw [eI_2638, pq_us]
                have tt_2643 : (I_2638 391 this).toInt = (I_2617 391 this).toInt := by rw [eI_2638, pq_uf _ _ _ (by decide)]
                have tt_2644 : (I_2638 393 this).toInt = (I_2617 393 this).toInt := by rw [eI_2638, pq_uf _ _ _ (by decide)]
                have tt_2645 : (I_2638 403 this).toInt = (I_2617 403 this).toInt := by rw [eI_2638, pq_uf _ _ _ (by decide)]
                have tt_2646 : (I_2638 397 this).toInt = (I_2617 397 this).toInt := by rw [eI_2638, pq_uf _ _ _ (by decide)]
                refine lv_iconst (v := 0) hx hb dX12_ask_102 (by decide) ?_
                refine lv_istore (lv' := [(4, .int 0), (2, .int x_2601), (3, .int x_2571), (0, .ref this), (1, .int x_2096)]) hx hb dX12_ask_103 hl (by decide) rfl (fun ls hl => ?_)
                have L_2889 : ∀ (n_2888 : Nat) (x_2852 : Int32) (I_2853 : Nat → Nat → Int32) (ri_2854 : Nat → Nat → Int32) (H : Heap) (locs : List Loc) (ls : Array Slot), rg x_2852 0 8 → (0 ≤ (x_2852).toInt ∧ (x_2852).toInt ≤ (x_2096).toInt) → (PBz (I_2853 396 this).toInt (I_2853 398 this).toInt (I_2853 402 this).toInt (I_2853 391 this).toInt (I_2853 393 this).toInt (ri_2854 this_a) bb f0 fr va (tb + 1) nn (K + (x_2096).toInt - (x_2852).toInt)) → (tmM (I_2853 391 this).toInt (I_2853 393 this).toInt ≤ tmM (I 391 this).toInt (I 393 this).toInt) → ((x_2096).toInt - (x_2852).toInt).toNat < n_2888 → GM [401, 398, 391, 392, 393, 402] tg σ I ri I_2853 ri_2854 rq → va_P D vwCl (pq_P t σ (I_2853, J_2604, ri_2854, rj, rq)) H → va_D A (pq_P t σ (I_2853, J_2604, ri_2854, rj, rq)) → va_S A s.heap H locs → lv_has ls 5 [(0, .ref this), (1, .int x_2096), (4, .int x_2852)] → W p l e ({ frames := 6, cells := 0, slots := 0, locals := 130 } : Room) s m (List.toArray ([.ref this] : List Value)) below meth c H locs 0 0 Q (F0 m 105 ls []) := by
                  intro n_2888
                  induction n_2888 with
                  | zero => intro x_2852 I_2853 ri_2854 H locs ls h_2895 hrel_2896 hrel_2897 hrel_2898 hm_2887 hG hP hD hS hl; exact absurd hm_2887 (Nat.not_lt_zero _)
                  | succ n_2888 ih_2890 =>
                    intro x_2852 I_2853 ri_2854 H locs ls h_2895 hrel_2896 hrel_2897 hrel_2898 hm_2887 hG hP hD hS hl
                    have uh_2895 := h_2895.1
                    have vh_2895 := h_2895.2
                    refine lv_iload hx hb dX12_ask_105 (lv_at hl 2 rfl) ?_
                    refine lv_iload_n hx hb dX12_ask_107 rfl (lv_at hl 1 rfl) ?_
                    refine lv_icmp_ge (tgt := 124) hx hb dX12_ask_108 (by decide) (fun c_2899 => ?_) (fun c_2899 => ?_)
                    · have tc_2900 : (x_2096).toInt ≤ (x_2852).toInt := Int32.le_iff_toInt_le.mp c_2899
                      refine lv_iconst (v := 0) hx hb dX12_ask_124 (by decide) ?_
                      subst hQ
                      exact W.iret (v := 0) hx hb hr (fun t1 ht hW => ⟨⟨0, (σ, I_2853, J_2604, ri_2854, rj, rq), rfl, ⟨I_2853, J_2604, ri_2854, rfl, hG, (Or.inr ⟨by have q := hrel_2897; rw [show K + (x_2096).toInt - (x_2852).toInt = K from by omega] at q; exact q, hrel_2898⟩), (rg_w (rg_k (0 : Int32) 0 rfl) (by decide))⟩, by rw [ht]; exact hP, va_K.moved hW.alike hK, hD⟩, hS.F ht⟩) hS.2.2 dX12_ask_125
                    · have tc_2901 : (x_2852).toInt < (x_2096).toInt := Int32.lt_iff_toInt_lt.mp (nle c_2899)
                      have h_2902 : rg x_2852 0 7 := rg_lt1 (nle c_2899) h_2895 h_2538 (by decide)
                      have uh_2902 := h_2902.1
                      have vh_2902 := h_2902.2
                      have h_2903 : rg x_2096 1 8 := rg_lt2 (nle c_2899) h_2895 h_2538 (by decide)
                      have uh_2903 := h_2903.1
                      have vh_2903 := h_2903.2
                      refine lv_aload_n hx hb dX12_ask_111 rfl (lv_at hl 0 rfl) ?_
                      refine lv_bipush (v := 20) hx hb dX12_ask_112 (by decide) ?_
                      refine lv_iconst (v := 0) hx hb dX12_ask_114 (by decide) ?_
                      have hq1 := PBz_t hrel_2897
                      have hq2 := PBz_w hrel_2897 (Or.inr (by omega))
                      have h_2904 : rg x_2852 0 7 := ⟨by omega, by omega⟩
                      have uh_2904 := h_2904.1
                      have vh_2904 := h_2904.2
                      refine pk_v (va_runV (As := [.int 20, .int 0]) (rest := []) ⟨hx, hb, hml, hown, hts⟩ (s_X12_emit l D t σ I_2853 J_2604 ri_2854 rj rq H.size tg hSH hG.1 this (20 : Int32) (0 : Int32) hL_this hK_this this_a hR_this_a hL_this_a hK_this_a hN_this_a hT_this_a (by omega) (by omega)) (cwV 2 hts (tw_V tw_905 tw_906 tw_907 tw_5 tw_908) rfl rfl rfl cv_yX12_emit_2 ⟨Nat.le_of_ble_eq_true rfl, Nat.le_of_ble_eq_true rfl⟩) ⟨pq_blind, pq_recv hK hP hL_this hK_this (by decide) rfl, pq_pre hK hN hP hD⟩ rfl rfl hl.1 rfl (lv_room (Nat.le_of_ble_eq_true rfl)) dX12_ask_115 ⟨Nat.le_of_ble_eq_true rfl, Nat.le_of_ble_eq_true rfl⟩) hD hS hA (fun σ1 μ1 H locs hw_2906 hP hD hS => ?_)
                      obtain ⟨I_2907, ri_2908, hu_2909, hg_2910, hp_2912, hp_2913, hp_2914, hp_2915⟩ := hw_2906
                      obtain ⟨hu_2909a, hu_2909b⟩ := Prod.mk.inj hu_2909
                      rw [hu_2909a, hu_2909b] at hP hD
                      obtain ⟨v_2916, ev_2916, hv_2916⟩ := hp_2912
                      have tt_2917 : (I_2907 398 this).toInt = (I_2853 398 this).toInt + 1 := by rw [ev_2916, pq_us]; exact hv_2916
                      have tt_2918 : (I_2907 403 this).toInt = (I_2853 403 this).toInt := by rw [ev_2916, pq_uf _ _ _ (by decide)]
                      have hG := GM.tr hG hg_2910 (by decide)
                      have tt_2919 : (I_2907 396 this).toInt = (I_2853 396 this).toInt := by rw [hg_2910.2.1 396 (by decide) (by decide)]
                      have tt_2920 : (I_2907 401 this).toInt = (I_2853 401 this).toInt := by rw [hg_2910.2.1 401 (by decide) (by decide)]
                      have tt_2921 : (I_2907 402 this).toInt = (I_2853 402 this).toInt := by rw [hg_2910.2.1 402 (by decide) (by decide)]
                      have tt_2922 : (I_2907 391 this).toInt = (I_2853 391 this).toInt := by rw [hg_2910.2.1 391 (by decide) (by decide)]
                      have tt_2923 : (I_2907 393 this).toInt = (I_2853 393 this).toInt := by rw [hg_2910.2.1 393 (by decide) (by decide)]
                      have tt_2924 : (I_2907 397 this).toInt = (I_2853 397 this).toInt := by rw [hg_2910.2.1 397 (by decide) (by decide)]
                      obtain ⟨x_2925, ex_2925⟩ : ∃ y : Int32, y = x_2852 + Int32.ofInt 1 := ⟨_, rfl⟩
                      have h_2926 : rg x_2925 1 8 := rg_of_eq ex_2925 (rg_add h_2904 (rg_k (Int32.ofInt 1) 1 rfl) (by decide))
                      have uh_2926 := h_2926.1
                      have vh_2926 := h_2926.2
                      have tx_2925 : (x_2925).toInt = (x_2852).toInt + 1 := by rw [ex_2925]; exact i_add_rg (a2 := (x_2852).toInt) (b2 := 1) rfl rfl h_2904 (rg_k (Int32.ofInt 1) 1 rfl) (by decide)
                      refine lv_iinc (v := x_2925) (lv' := [(4, .int x_2925), (0, .ref this), (1, .int x_2096)]) hx hb dX12_ask_118 hl (k := 2) rfl ex_2925.symm (by decide) rfl (fun ls hl => ?_)
                      refine lv_goto (tgt := 105) hx hb dX12_ask_121 (by decide) ?_
                      exact ih_2890 x_2925 I_2907 ri_2908 _ _ _ (rg_w h_2926 (by decide)) (by omega) (by have zo : (20 : Int32).toInt = 20 := rfl; rw [show K + (x_2096).toInt - (x_2925).toInt = K + (x_2096).toInt - (x_2852).toInt - 1 from by omega]; exact PBz_em (K := K + (x_2096).toInt - (x_2852).toInt - 1) (x := (20 : Int32)) (by rw [show K + (x_2096).toInt - (x_2852).toInt - 1 + 1 = K + (x_2096).toInt - (x_2852).toInt from by omega]; exact hrel_2897) (by omega) (fun j hj => hp_2913 j (by omega)) (by rw [show (I_2853 396 this).toInt + 250 + 2 * (I_2853 398 this).toInt = (I_2853 396 this).toInt + 250 + 2 * (I_2853 398 this).toInt from by omega]; exact hp_2914) (by omega) (by omega) (by omega) (by omega) (by omega) (by omega)) (tm_lec hrel_2898 (by omega) (by omega)) (by omega) hG hP hD hS (lv_sub hl [1, 2, 0] rfl)
                exact L_2889 _ (0 : Int32) I_2638 ri_2618 _ _ _ (rg_w (rg_k (0 : Int32) 0 rfl) (by decide)) (by have k0 : (0 : Int32).toInt = 0 := rfl; omega) (by have z0 : (0 : Int32).toInt = 0 := rfl; rw [z0, Int.sub_zero]; exact PBz_o (PBz_em (K := K + (x_2096).toInt) (va1 := va) (tb1 := tb + 1) (x := x_2571) hpb3 (by omega) (fun j hj => hp_2623 j (by omega)) (by rw [show (I_2603 396 this).toInt + 250 + 2 * (I_2603 398 this).toInt = (I_2603 396 this).toInt + 250 + 2 * (I_2603 398 this).toInt from by omega]; exact hp_2624) (by omega) (by omega) (by omega) rfl (by omega) (by omega)) (by omega) (by omega) (by omega)) (tm_lec htmC (by omega) (by omega)) (Nat.lt_succ_self _) hG hP hD hS (lv_sub hl [3, 4, 0] rfl)
              · have tc_2927 : (x_2601).toInt ≠ 0 := fun q => c_2612 (Int32.toInt_inj.mp q)
                have h_2928 : rg x_2601 1 3 := rg_ne c_2612 hr_2608 0 rfl (by decide)
                have uh_2928 := h_2928.1
                have vh_2928 := h_2928.2
                refine lv_iload_n hx hb dX12_ask_84 rfl (lv_at hl 0 rfl) ?_
                subst hQ
                exact W.iret (v := x_2601) hx hb hr (fun t1 ht hW => ⟨⟨x_2601, (σ, I_2603, J_2604, ri_2605, rj, rq), rfl, ⟨I_2603, J_2604, ri_2605, rfl, hG, (Or.inl (by omega)), (rg_w h_2928 (by decide))⟩, by rw [ht]; exact hP, va_K.moved hW.alike hK, hD⟩, hS.F ht⟩) hS.2.2 dX12_ask_85
            · have tc_2929 : (x_2571).toInt < 0 := Int32.lt_iff_toInt_lt.mp (nle c_2578)
              have h_2930 : rg x_2571 (-1) (-1) := rg_lt1 (nle c_2578) hr_2575 (rg_k (0 : Int32) 0 rfl) (by decide)
              have uh_2930 := h_2930.1
              have vh_2930 := h_2930.2
              refine lv_iconst (v := 1) hx hb dX12_ask_69 (by decide) ?_
              subst hQ
              exact W.iret (v := 1) hx hb hr (fun t1 ht hW => ⟨⟨1, (σ, I_2559, J_2560, ri_2561, rj, rq), rfl, ⟨I_2559, J_2560, ri_2561, rfl, hG, (Or.inl (by decide)), (rg_w (rg_k (1 : Int32) 1 rfl) (by decide))⟩, by rw [ht]; exact hP, va_K.moved hW.alike hK, hD⟩, hS.F ht⟩) hS.2.2 dX12_ask_70
          · have tc_2931 : (x_2557).toInt ≠ 0 := fun q => c_2568 (Int32.toInt_inj.mp q)
            have h_2932 : rg x_2557 1 3 := rg_ne c_2568 hr_2564 0 rfl (by decide)
            have uh_2932 := h_2932.1
            have vh_2932 := h_2932.2
            refine lv_iload_n hx hb dX12_ask_58 rfl (lv_at hl 0 rfl) ?_
            subst hQ
            exact W.iret (v := x_2557) hx hb hr (fun t1 ht hW => ⟨⟨x_2557, (σ, I_2559, J_2560, ri_2561, rj, rq), rfl, ⟨I_2559, J_2560, ri_2561, rfl, hG, (Or.inl (by omega)), (rg_w h_2932 (by decide))⟩, by rw [ht]; exact hP, va_K.moved hW.alike hK, hD⟩, hS.F ht⟩) hS.2.2 dX12_ask_59
        · have f_2933 := (hr_2551.resolve_right (fun q => c_2553 q.1)).2
          have tc_2934 : (x_2547).toInt ≠ 0 := fun q => c_2553 (Int32.toInt_inj.mp q)
          have h_2935 : rg x_2547 1 1 := rg_ne c_2553 h_2552 0 rfl (by decide)
          have uh_2935 := h_2935.1
          have vh_2935 := h_2935.2
          refine lv_aload_n hx hb dX12_ask_18 rfl (lv_at hl 0 rfl) ?_
          refine pg_f (v := .int (I_2097 402 this)) (C := RX12) (T := TX12) (N := 31) hx hb hts (tw_i inlX12) hown hK hP hL_this hK_this (by decide) rfl 18 (by decide) (hts _ (tw_c tw_828)) rfl dX12_ask_19 ?_
          refine lv_bipush (v := 8) hx hb dX12_ask_22 (by decide) ?_
          refine lv_icmp_ne (tgt := 29) hx hb dX12_ask_24 (by decide) (fun c_2936 => ?_) (fun c_2936 => ?_)
          · have tc_2937 : (I_2097 402 this).toInt ≠ 8 := fun q => c_2936 (Int32.toInt_inj.mp q)
            refine lv_aload_n hx hb dX12_ask_29 rfl (lv_at hl 0 rfl) ?_
            refine lv_dup hx hb dX12_ask_30 rfl ?_
            refine pg_f (v := .int (I_2097 402 this)) (C := RX12) (T := TX12) (N := 31) hx hb hts (tw_i inlX12) hown hK hP hL_this hK_this (by decide) rfl 18 (by decide) (hts _ (tw_c tw_828)) rfl dX12_ask_31 ?_
            have h_2938 : rg (I_2097 402 this) 0 8 := ⟨by omega, by omega⟩
            have uh_2938 := h_2938.1
            have vh_2938 := h_2938.2
            refine lv_iconst (v := 1) hx hb dX12_ask_34 (by decide) ?_
            refine lv_iadd hx hb dX12_ask_35 ?_
            refine lv_topi (fun x_2939 ex_2939 => ?_)
            have h_2940 : rg x_2939 1 9 := rg_of_eq ex_2939 (rg_add h_2938 (rg_k (1 : Int32) 1 rfl) (by decide))
            have uh_2940 := h_2940.1
            have vh_2940 := h_2940.2
            have tx_2939 : (x_2939).toInt = (I_2097 402 this).toInt + 1 := by rw [ex_2939]; exact i_add_rg (a2 := (I_2097 402 this).toInt) (b2 := 1) rfl rfl h_2938 (rg_k (1 : Int32) 1 rfl) (by decide)
            refine pp_i (v := x_2939) (ty := .int) (C := RX12) (T := TX12) (N := 31) hx hb hts (tw_i inlX12) tyX12 tyX12_ok nmX12 hown hK hP hD hS hL_this hK_this (by decide) rfl 18 402 (by decide) (hts _ (tw_c tw_828)) rfl (tyX12_ok 18 (by decide)) rfl rfl (Nat.le_of_ble_eq_true rfl) (ps_402 _ _ _ _ _) dX12_ask_36 (fun I_2941 H locs eI_2941 hP hD hS => ?_)
            have hG := GM.wI hG 402 rfl eI_2941 (rg_w h_2940 (by decide)) (by decide)
            have tt_2942 : (I_2941 396 this).toInt = (I_2097 396 this).toInt := by rw [eI_2941, pq_uf _ _ _ (by decide)]
            have tt_2943 : (I_2941 398 this).toInt = (I_2097 398 this).toInt := by rw [eI_2941, pq_uf _ _ _ (by decide)]
            have tt_2944 : (I_2941 401 this).toInt = (I_2097 401 this).toInt := by rw [eI_2941, pq_uf _ _ _ (by decide)]
            have tt_2945 : (I_2941 402 this).toInt = (x_2939).toInt := by rw [eI_2941, pq_us]
            have tt_2946 : (I_2941 391 this).toInt = (I_2097 391 this).toInt := by rw [eI_2941, pq_uf _ _ _ (by decide)]
            have tt_2947 : (I_2941 393 this).toInt = (I_2097 393 this).toInt := by rw [eI_2941, pq_uf _ _ _ (by decide)]
            have tt_2948 : (I_2941 403 this).toInt = (I_2097 403 this).toInt := by rw [eI_2941, pq_uf _ _ _ (by decide)]
            have tt_2949 : (I_2941 397 this).toInt = (I_2097 397 this).toInt := by rw [eI_2941, pq_uf _ _ _ (by decide)]
            have h_2950 : rg x_2096 0 7 := ⟨by omega, by omega⟩
            have uh_2950 := h_2950.1
            have vh_2950 := h_2950.2
            obtain ⟨x_2951, ex_2951⟩ : ∃ y : Int32, y = x_2096 + Int32.ofInt 1 := ⟨_, rfl⟩
            have h_2952 : rg x_2951 1 8 := rg_of_eq ex_2951 (rg_add h_2950 (rg_k (Int32.ofInt 1) 1 rfl) (by decide))
            have uh_2952 := h_2952.1
            have vh_2952 := h_2952.2
            have tx_2951 : (x_2951).toInt = (x_2096).toInt + 1 := by rw [ex_2951]; exact i_add_rg (a2 := (x_2096).toInt) (b2 := 1) rfl rfl h_2950 (rg_k (Int32.ofInt 1) 1 rfl) (by decide)
            refine lv_iinc (v := x_2951) (lv' := [(1, .int x_2951), (0, .ref this)]) hx hb dX12_ask_39 hl (k := 1) rfl ex_2951.symm (by decide) rfl (fun ls hl => ?_)
            refine lv_aload_n hx hb dX12_ask_42 rfl (lv_at hl 1 rfl) ?_
            obtain ⟨w_2953, hR_w_2953, hL_w_2953, hK_w_2953, hN_w_2953, hT_w_2953⟩ := sh_a hSH 387 (ci := 12) (kd := 13) (len := 300) rfl (by decide) hL_this hK_this
            refine pk_v (va_runV (As := []) (rest := []) ⟨hx, hb, hml, hown, hts⟩ (s_X12_nextToken_x l D t σ I_2941 J_2098 ri rj rq H.size tg hSH hG.1 this hL_this hK_this w_2953 hR_w_2953 hL_w_2953 hK_w_2953 hN_w_2953 hT_w_2953) (cwV 0 hts (tw_V tw_832 tw_833 tw_834 tw_5 tw_835) rfl rfl rfl cv_yX12_nextToken_0 ⟨Nat.le_of_ble_eq_true rfl, Nat.le_of_ble_eq_true rfl⟩) ⟨pq_blind, pq_recv hK hP hL_this hK_this (by decide) rfl, pq_pre hK hN hP hD⟩ rfl rfl hl.1 rfl (lv_room (Nat.le_of_ble_eq_true rfl)) dX12_ask_43 ⟨Nat.le_of_ble_eq_true rfl, Nat.le_of_ble_eq_true rfl⟩) hD hS hA (fun σ1 μ1 H locs hw_2955 hP hD hS => ?_)
            obtain ⟨I_2956, J_2957, hu_2958, hg_2959, hp_2961, hp_2962, hp_2963⟩ := hw_2955
            obtain ⟨hu_2958a, hu_2958b⟩ := Prod.mk.inj hu_2958
            rw [hu_2958a, hu_2958b] at hP hD
            have tt_2964 := hp_2961
            have tt_2965 := hp_2962
            have tt_2966 := hp_2963
            have tt_2967 : (I_2956 391 this).toInt ≤ 300 := by have z := hg_2959.1.1 391 this; exact z.2
            have hG := GM.tr hG hg_2959 (by decide)
            have tt_2968 : (I_2956 396 this).toInt = (I_2941 396 this).toInt := by rw [hg_2959.2.1 396 (by decide) (by decide)]
            have tt_2969 : (I_2956 398 this).toInt = (I_2941 398 this).toInt := by rw [hg_2959.2.1 398 (by decide) (by decide)]
            have tt_2970 : (I_2956 401 this).toInt = (I_2941 401 this).toInt := by rw [hg_2959.2.1 401 (by decide) (by decide)]
            have tt_2971 : (I_2956 402 this).toInt = (I_2941 402 this).toInt := by rw [hg_2959.2.1 402 (by decide) (by decide)]
            have tt_2972 : (I_2956 397 this).toInt = (I_2941 397 this).toInt := by rw [hg_2959.2.1 397 (by decide) (by decide)]
            refine lv_goto (tgt := 2) hx hb dX12_ask_46 (by decide) ?_
            exact ih_2533 x_2951 I_2956 J_2957 _ _ _ (rg_w h_2952 (by decide)) (by omega) (by rw [show K + (x_2951).toInt = K + (x_2096).toInt + 1 from by omega]; exact PBz_o (PBz_tok hrel_2540 (by omega) (by omega) (by omega) (by omega) (by omega) (by omega) rfl rfl) (by omega) (by omega) (by omega)) (Int.le_of_lt (Int.lt_of_lt_of_le (tm_lt (by omega) (by omega) (by omega)) hrel_2541)) (tm_ms hm_2530 (tm_lt (by omega) (by omega) (by omega)) (tm_b ((hG.1.1 391 this).2))) hG hP hD hS (lv_sub hl [1, 0] rfl)
          · have tc_2973 : (I_2097 402 this).toInt = 8 := congrArg Int32.toInt c_2936
            have h_2974 : rg (I_2097 402 this) 8 8 := rg_and (rg_full _) (rg_of_eq c_2936 (rg_k (8 : Int32) 8 rfl)) (by decide)
            have uh_2974 := h_2974.1
            have vh_2974 := h_2974.2
            refine lv_iconst (v := 3) hx hb dX12_ask_27 (by decide) ?_
            subst hQ
            exact W.iret (v := 3) hx hb hr (fun t1 ht hW => ⟨⟨3, (σ, I_2097, J_2098, ri, rj, rq), rfl, ⟨I_2097, J_2098, ri, rfl, hG, (Or.inl (by decide)), (rg_w (rg_k (3 : Int32) 3 rfl) (by decide))⟩, by rw [ht]; exact hP, va_K.moved hW.alike hK, hD⟩, hS.F ht⟩) hS.2.2 dX12_ask_28
    exact L_2532 _ (0 : Int32) I J _ _ _ (rg_w (rg_k (0 : Int32) 0 rfl) (by decide)) (by have k0 : (0 : Int32).toInt = 0 := rfl; omega) (by have z0 : (0 : Int32).toInt = 0 := rfl; rw [z0, Int.add_zero, Int.add_zero]; exact PBz_cg hpb (by omega) (by omega) (by omega) (by omega) (by omega) rfl) (Int.le_refl _) (Nat.lt_succ_self _) hG hP hD hS (lv_sub hl [1, 0] rfl)
  exact go _ _ _ hP hD hS hl
