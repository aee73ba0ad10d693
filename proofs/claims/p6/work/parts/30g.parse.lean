theorem dX12_behindOne_0 : decode cX12_behindOne 0 = .ok (.aload_n 0, 1) := oc_42 (by decide +kernel)
theorem dX12_behindOne_1 : decode cX12_behindOne 1 = .ok (.getfield 143, 3) := oc_180 (a := 0) (b := 143) (by decide +kernel)
theorem dX12_behindOne_4 : decode cX12_behindOne 4 = .ok (.istore_n 1, 1) := oc_60 (by decide +kernel)
theorem dX12_behindOne_5 : decode cX12_behindOne 5 = .ok (.aload_n 0, 1) := oc_42 (by decide +kernel)
theorem dX12_behindOne_6 : decode cX12_behindOne 6 = .ok (.invokevirtual 196, 3) := oc_182 (a := 0) (b := 196) (by decide +kernel)
theorem dX12_behindOne_9 : decode cX12_behindOne 9 = .ok (.iload_n 1, 1) := oc_27 (by decide +kernel)
theorem dX12_behindOne_10 : decode cX12_behindOne 10 = .ok (.bipush 41, 2) := oc_16 (a := 41) (by decide +kernel)
theorem dX12_behindOne_12 : decode cX12_behindOne 12 = .ok (.if_icmp .ne 33, 3) := oc_160 (a := 0) (b := 33) (by decide +kernel)
theorem dX12_behindOne_45 : decode cX12_behindOne 45 = .ok (.iload_n 1, 1) := oc_27 (by decide +kernel)
theorem dX12_behindOne_46 : decode cX12_behindOne 46 = .ok (.bipush 43, 2) := oc_16 (a := 43) (by decide +kernel)
theorem dX12_behindOne_48 : decode cX12_behindOne 48 = .ok (.if_icmp .eq 9, 3) := oc_159 (a := 0) (b := 9) (by decide +kernel)
theorem dX12_behindOne_57 : decode cX12_behindOne 57 = .ok (.iconst 1, 1) := oc_4 (by decide +kernel)
theorem dX12_behindOne_58 : decode cX12_behindOne 58 = .ok (.goto 4, 3) := oc_167 (a := 0) (b := 4) (by decide +kernel)
theorem dX12_behindOne_62 : decode cX12_behindOne 62 = .ok (.istore_n 2, 1) := oc_61 (by decide +kernel)
theorem dX12_behindOne_63 : decode cX12_behindOne 63 = .ok (.aload_n 0, 1) := oc_42 (by decide +kernel)
theorem dX12_behindOne_64 : decode cX12_behindOne 64 = .ok (.iload_n 2, 1) := oc_28 (by decide +kernel)
theorem dX12_behindOne_65 : decode cX12_behindOne 65 = .ok (.ifCond .eq 7, 3) := oc_153 (a := 0) (b := 7) (by decide +kernel)
theorem dX12_behindOne_68 : decode cX12_behindOne 68 = .ok (.iconst 3, 1) := oc_6 (by decide +kernel)
theorem dX12_behindOne_69 : decode cX12_behindOne 69 = .ok (.goto 4, 3) := oc_167 (a := 0) (b := 4) (by decide +kernel)
theorem tw_901 : Cond.methodLink RX12 209 yX12_settle ∈ wsL_law := sg_38 _ (List.mem_of_getElem? (i := 13) rfl)
theorem tw_902 : Cond.instanceMethod yX12_settle ∈ wsL_law := sg_38 _ (List.mem_of_getElem? (i := 14) rfl)
theorem tw_903 : Cond.selects RX12 yX12_settle yX12_settle ∈ wsL_law := sg_38 _ (List.mem_of_getElem? (i := 15) rfl)
theorem tw_904 : Cond.code yX12_settle cX12_settle 2 none ∈ wsL_law := sg_38 _ (List.mem_of_getElem? (i := 16) rfl)
theorem dX12_behindOne_73 : decode cX12_behindOne 73 = .ok (.invokevirtual 209, 3) := oc_182 (a := 0) (b := 209) (by decide +kernel)
theorem dX12_behindOne_76 : decode cX12_behindOne 76 = .ok (.aload_n 0, 1) := oc_42 (by decide +kernel)
theorem dX12_behindOne_77 : decode cX12_behindOne 77 = .ok (.iload_n 1, 1) := oc_27 (by decide +kernel)
theorem dX12_behindOne_78 : decode cX12_behindOne 78 = .ok (.bipush 43, 2) := oc_16 (a := 43) (by decide +kernel)
theorem dX12_behindOne_80 : decode cX12_behindOne 80 = .ok (.if_icmp .ne 7, 3) := oc_160 (a := 0) (b := 7) (by decide +kernel)
theorem dX12_behindOne_83 : decode cX12_behindOne 83 = .ok (.iconst 3, 1) := oc_6 (by decide +kernel)
theorem dX12_behindOne_84 : decode cX12_behindOne 84 = .ok (.goto 25, 3) := oc_167 (a := 0) (b := 25) (by decide +kernel)
theorem dX12_behindOne_109 : decode cX12_behindOne 109 = .ok (.invokevirtual 202, 3) := oc_182 (a := 0) (b := 202) (by decide +kernel)
theorem dX12_behindOne_112 : decode cX12_behindOne 112 = .ok (.aload_n 0, 1) := oc_42 (by decide +kernel)
theorem dX12_behindOne_113 : decode cX12_behindOne 113 = .ok (.iconst 0, 1) := oc_3 (by decide +kernel)
theorem dX12_behindOne_114 : decode cX12_behindOne 114 = .ok (.putfield 181, 3) := oc_181 (a := 0) (b := 181) (by decide +kernel)
theorem dX12_behindOne_117 : decode cX12_behindOne 117 = .ok (.return_, 1) := oc_177 (by decide +kernel)
theorem dX12_behindOne_51 : decode cX12_behindOne 51 = .ok (.iload_n 1, 1) := oc_27 (by decide +kernel)
theorem dX12_behindOne_52 : decode cX12_behindOne 52 = .ok (.bipush 45, 2) := oc_16 (a := 45) (by decide +kernel)
theorem dX12_behindOne_54 : decode cX12_behindOne 54 = .ok (.if_icmp .ne 7, 3) := oc_160 (a := 0) (b := 7) (by decide +kernel)
theorem dX12_behindOne_61 : decode cX12_behindOne 61 = .ok (.iconst 0, 1) := oc_3 (by decide +kernel)
theorem dX12_behindOne_72 : decode cX12_behindOne 72 = .ok (.iconst 5, 1) := oc_8 (by decide +kernel)
theorem dX12_behindOne_87 : decode cX12_behindOne 87 = .ok (.iload_n 1, 1) := oc_27 (by decide +kernel)
theorem dX12_behindOne_88 : decode cX12_behindOne 88 = .ok (.bipush 45, 2) := oc_16 (a := 45) (by decide +kernel)
theorem dX12_behindOne_90 : decode cX12_behindOne 90 = .ok (.if_icmp .ne 7, 3) := oc_160 (a := 0) (b := 7) (by decide +kernel)
theorem dX12_behindOne_97 : decode cX12_behindOne 97 = .ok (.iload_n 1, 1) := oc_27 (by decide +kernel)
theorem dX12_behindOne_98 : decode cX12_behindOne 98 = .ok (.bipush 42, 2) := oc_16 (a := 42) (by decide +kernel)
theorem dX12_behindOne_100 : decode cX12_behindOne 100 = .ok (.if_icmp .ne 7, 3) := oc_160 (a := 0) (b := 7) (by decide +kernel)
theorem dX12_behindOne_107 : decode cX12_behindOne 107 = .ok (.bipush 6, 2) := oc_16 (a := 6) (by decide +kernel)
theorem dX12_behindOne_103 : decode cX12_behindOne 103 = .ok (.iconst 5, 1) := oc_8 (by decide +kernel)
theorem dX12_behindOne_104 : decode cX12_behindOne 104 = .ok (.goto 5, 3) := oc_167 (a := 0) (b := 5) (by decide +kernel)
theorem dX12_behindOne_93 : decode cX12_behindOne 93 = .ok (.iconst 4, 1) := oc_7 (by decide +kernel)
theorem dX12_behindOne_94 : decode cX12_behindOne 94 = .ok (.goto 15, 3) := oc_167 (a := 0) (b := 15) (by decide +kernel)
theorem dX12_behindOne_15 : decode cX12_behindOne 15 = .ok (.aload_n 0, 1) := oc_42 (by decide +kernel)
theorem dX12_behindOne_16 : decode cX12_behindOne 16 = .ok (.iconst 3, 1) := oc_6 (by decide +kernel)
theorem dX12_behindOne_17 : decode cX12_behindOne 17 = .ok (.invokevirtual 209, 3) := oc_182 (a := 0) (b := 209) (by decide +kernel)
theorem dX12_behindOne_20 : decode cX12_behindOne 20 = .ok (.aload_n 0, 1) := oc_42 (by decide +kernel)
theorem dX12_behindOne_21 : decode cX12_behindOne 21 = .ok (.dup, 1) := oc_89 (by decide +kernel)
theorem dX12_behindOne_22 : decode cX12_behindOne 22 = .ok (.getfield 178, 3) := oc_180 (a := 0) (b := 178) (by decide +kernel)
theorem dX12_behindOne_25 : decode cX12_behindOne 25 = .ok (.iconst 1, 1) := oc_4 (by decide +kernel)
theorem dX12_behindOne_26 : decode cX12_behindOne 26 = .ok (.isub, 1) := oc_100 (by decide +kernel)
theorem dX12_behindOne_27 : decode cX12_behindOne 27 = .ok (.putfield 178, 3) := oc_181 (a := 0) (b := 178) (by decide +kernel)
theorem dX12_behindOne_30 : decode cX12_behindOne 30 = .ok (.aload_n 0, 1) := oc_42 (by decide +kernel)
theorem dX12_behindOne_31 : decode cX12_behindOne 31 = .ok (.dup, 1) := oc_89 (by decide +kernel)
theorem dX12_behindOne_32 : decode cX12_behindOne 32 = .ok (.getfield 185, 3) := oc_180 (a := 0) (b := 185) (by decide +kernel)
theorem dX12_behindOne_35 : decode cX12_behindOne 35 = .ok (.iconst 1, 1) := oc_4 (by decide +kernel)
theorem dX12_behindOne_36 : decode cX12_behindOne 36 = .ok (.isub, 1) := oc_100 (by decide +kernel)
theorem dX12_behindOne_37 : decode cX12_behindOne 37 = .ok (.putfield 185, 3) := oc_181 (a := 0) (b := 185) (by decide +kernel)
theorem dX12_behindOne_40 : decode cX12_behindOne 40 = .ok (.aload_n 0, 1) := oc_42 (by decide +kernel)
theorem dX12_behindOne_41 : decode cX12_behindOne 41 = .ok (.invokevirtual 199, 3) := oc_182 (a := 0) (b := 199) (by decide +kernel)
theorem dX12_behindOne_44 : decode cX12_behindOne 44 = .ok (.return_, 1) := oc_177 (by decide +kernel)
theorem dX12_sum_0 : decode cX12_sum 0 = .ok (.aload_n 0, 1) := oc_42 (by decide +kernel)
theorem dX12_sum_1 : decode cX12_sum 1 = .ok (.iconst 0, 1) := oc_3 (by decide +kernel)
theorem dX12_sum_2 : decode cX12_sum 2 = .ok (.putfield 178, 3) := oc_181 (a := 0) (b := 178) (by decide +kernel)
theorem dX12_sum_5 : decode cX12_sum 5 = .ok (.aload_n 0, 1) := oc_42 (by decide +kernel)
theorem dX12_sum_6 : decode cX12_sum 6 = .ok (.iconst 0, 1) := oc_3 (by decide +kernel)
theorem dX12_sum_7 : decode cX12_sum 7 = .ok (.putfield 181, 3) := oc_181 (a := 0) (b := 181) (by decide +kernel)
theorem dX12_sum_10 : decode cX12_sum 10 = .ok (.aload_n 0, 1) := oc_42 (by decide +kernel)
theorem dX12_sum_11 : decode cX12_sum 11 = .ok (.getfield 181, 3) := oc_180 (a := 0) (b := 181) (by decide +kernel)
theorem dX12_sum_14 : decode cX12_sum 14 = .ok (.ifCond .eq 10, 3) := oc_153 (a := 0) (b := 10) (by decide +kernel)
theorem dX12_sum_24 : decode cX12_sum 24 = .ok (.aload_n 0, 1) := oc_42 (by decide +kernel)
theorem dX12_sum_25 : decode cX12_sum 25 = .ok (.getfield 181, 3) := oc_180 (a := 0) (b := 181) (by decide +kernel)
theorem dX12_sum_28 : decode cX12_sum 28 = .ok (.ifCond .eq 10, 3) := oc_153 (a := 0) (b := 10) (by decide +kernel)
theorem dX12_sum_38 : decode cX12_sum 38 = .ok (.aload_n 0, 1) := oc_42 (by decide +kernel)
theorem tw_917 : Cond.methodLink RX12 218 yX12_beginOne ∈ wsL_law := sg_39 _ (List.mem_of_getElem? (i := 5) rfl)
theorem tw_918 : Cond.instanceMethod yX12_beginOne ∈ wsL_law := sg_39 _ (List.mem_of_getElem? (i := 6) rfl)
theorem tw_919 : Cond.selects RX12 yX12_beginOne yX12_beginOne ∈ wsL_law := sg_39 _ (List.mem_of_getElem? (i := 7) rfl)
theorem tw_920 : Cond.code yX12_beginOne cX12_beginOne 1 (some .int) ∈ wsL_law := sg_39 _ (List.mem_of_getElem? (i := 8) rfl)
theorem dX12_sum_39 : decode cX12_sum 39 = .ok (.invokevirtual 218, 3) := oc_182 (a := 0) (b := 218) (by decide +kernel)
theorem dX12_sum_42 : decode cX12_sum 42 = .ok (.istore_n 1, 1) := oc_60 (by decide +kernel)
theorem dX12_sum_43 : decode cX12_sum 43 = .ok (.iload_n 1, 1) := oc_27 (by decide +kernel)
theorem dX12_sum_44 : decode cX12_sum 44 = .ok (.ifCond .eq 5, 3) := oc_153 (a := 0) (b := 5) (by decide +kernel)
theorem dX12_sum_49 : decode cX12_sum 49 = .ok (.goto (-39), 3) := oc_167 (a := 255) (b := 217) (by decide +kernel)
theorem dX12_sum_47 : decode cX12_sum 47 = .ok (.iload_n 1, 1) := oc_27 (by decide +kernel)
theorem dX12_sum_48 : decode cX12_sum 48 = .ok (.ireturn, 1) := oc_172 (by decide +kernel)
theorem dX12_sum_17 : decode cX12_sum 17 = .ok (.aload_n 0, 1) := oc_42 (by decide +kernel)
theorem tw_889 : Cond.methodLink RX12 212 yX12_goesOn ∈ wsL_law := sg_38 _ (List.mem_of_getElem? (i := 1) rfl)
theorem tw_890 : Cond.instanceMethod yX12_goesOn ∈ wsL_law := sg_38 _ (List.mem_of_getElem? (i := 2) rfl)
theorem tw_891 : Cond.selects RX12 yX12_goesOn yX12_goesOn ∈ wsL_law := sg_38 _ (List.mem_of_getElem? (i := 3) rfl)
theorem tw_892 : Cond.code yX12_goesOn cX12_goesOn 1 (some .boolean) ∈ wsL_law := sg_38 _ (List.mem_of_getElem? (i := 4) rfl)
theorem dX12_sum_18 : decode cX12_sum 18 = .ok (.invokevirtual 212, 3) := oc_182 (a := 0) (b := 212) (by decide +kernel)
theorem dX12_sum_21 : decode cX12_sum 21 = .ok (.ifCond .eq 31, 3) := oc_153 (a := 0) (b := 31) (by decide +kernel)
theorem dX12_sum_52 : decode cX12_sum 52 = .ok (.aload_n 0, 1) := oc_42 (by decide +kernel)
theorem dX12_sum_53 : decode cX12_sum 53 = .ok (.iconst 3, 1) := oc_6 (by decide +kernel)
theorem dX12_sum_54 : decode cX12_sum 54 = .ok (.invokevirtual 209, 3) := oc_182 (a := 0) (b := 209) (by decide +kernel)
theorem dX12_sum_57 : decode cX12_sum 57 = .ok (.aload_n 0, 1) := oc_42 (by decide +kernel)
theorem dX12_sum_58 : decode cX12_sum 58 = .ok (.getfield 178, 3) := oc_180 (a := 0) (b := 178) (by decide +kernel)
theorem dX12_sum_61 : decode cX12_sum 61 = .ok (.ifCond .le 7, 3) := oc_158 (a := 0) (b := 7) (by decide +kernel)
theorem dX12_sum_68 : decode cX12_sum 68 = .ok (.iconst 0, 1) := oc_3 (by decide +kernel)
theorem dX12_sum_69 : decode cX12_sum 69 = .ok (.ireturn, 1) := oc_172 (by decide +kernel)
theorem dX12_sum_64 : decode cX12_sum 64 = .ok (.iconst 1, 1) := oc_4 (by decide +kernel)
theorem dX12_sum_65 : decode cX12_sum 65 = .ok (.goto 4, 3) := oc_167 (a := 0) (b := 4) (by decide +kernel)
theorem dX12_sum_31 : decode cX12_sum 31 = .ok (.aload_n 0, 1) := oc_42 (by decide +kernel)
theorem tw_897 : Cond.methodLink RX12 215 yX12_behindOne ∈ wsL_law := sg_38 _ (List.mem_of_getElem? (i := 9) rfl)
theorem tw_898 : Cond.instanceMethod yX12_behindOne ∈ wsL_law := sg_38 _ (List.mem_of_getElem? (i := 10) rfl)
theorem tw_899 : Cond.selects RX12 yX12_behindOne yX12_behindOne ∈ wsL_law := sg_38 _ (List.mem_of_getElem? (i := 11) rfl)
theorem tw_900 : Cond.code yX12_behindOne cX12_behindOne 3 none ∈ wsL_law := sg_38 _ (List.mem_of_getElem? (i := 12) rfl)
theorem dX12_sum_32 : decode cX12_sum 32 = .ok (.invokevirtual 215, 3) := oc_182 (a := 0) (b := 215) (by decide +kernel)
theorem dX12_sum_35 : decode cX12_sum 35 = .ok (.goto (-25), 3) := oc_167 (a := 255) (b := 231) (by decide +kernel)
theorem dX12_compareOf_0 : decode cX12_compareOf 0 = .ok (.aload_n 0, 1) := oc_42 (by decide +kernel)
theorem dX12_compareOf_1 : decode cX12_compareOf 1 = .ok (.getfield 143, 3) := oc_180 (a := 0) (b := 143) (by decide +kernel)
theorem dX12_compareOf_4 : decode cX12_compareOf 4 = .ok (.bipush 60, 2) := oc_16 (a := 60) (by decide +kernel)
theorem dX12_compareOf_6 : decode cX12_compareOf 6 = .ok (.if_icmp .ne 8, 3) := oc_160 (a := 0) (b := 8) (by decide +kernel)
theorem dX12_compareOf_14 : decode cX12_compareOf 14 = .ok (.aload_n 0, 1) := oc_42 (by decide +kernel)
theorem dX12_compareOf_15 : decode cX12_compareOf 15 = .ok (.getfield 143, 3) := oc_180 (a := 0) (b := 143) (by decide +kernel)
theorem dX12_compareOf_18 : decode cX12_compareOf 18 = .ok (.iconst 4, 1) := oc_7 (by decide +kernel)
theorem dX12_compareOf_19 : decode cX12_compareOf 19 = .ok (.if_icmp .ne 8, 3) := oc_160 (a := 0) (b := 8) (by decide +kernel)
theorem dX12_compareOf_27 : decode cX12_compareOf 27 = .ok (.aload_n 0, 1) := oc_42 (by decide +kernel)
theorem dX12_compareOf_28 : decode cX12_compareOf 28 = .ok (.getfield 143, 3) := oc_180 (a := 0) (b := 143) (by decide +kernel)
theorem dX12_compareOf_31 : decode cX12_compareOf 31 = .ok (.bipush 62, 2) := oc_16 (a := 62) (by decide +kernel)
theorem dX12_compareOf_33 : decode cX12_compareOf 33 = .ok (.if_icmp .ne 8, 3) := oc_160 (a := 0) (b := 8) (by decide +kernel)
theorem dX12_compareOf_41 : decode cX12_compareOf 41 = .ok (.aload_n 0, 1) := oc_42 (by decide +kernel)
theorem dX12_compareOf_42 : decode cX12_compareOf 42 = .ok (.getfield 143, 3) := oc_180 (a := 0) (b := 143) (by decide +kernel)
theorem dX12_compareOf_45 : decode cX12_compareOf 45 = .ok (.iconst 5, 1) := oc_8 (by decide +kernel)
theorem dX12_compareOf_46 : decode cX12_compareOf 46 = .ok (.if_icmp .ne 8, 3) := oc_160 (a := 0) (b := 8) (by decide +kernel)
theorem dX12_compareOf_54 : decode cX12_compareOf 54 = .ok (.aload_n 0, 1) := oc_42 (by decide +kernel)
theorem dX12_compareOf_55 : decode cX12_compareOf 55 = .ok (.getfield 143, 3) := oc_180 (a := 0) (b := 143) (by decide +kernel)
theorem dX12_compareOf_58 : decode cX12_compareOf 58 = .ok (.bipush 61, 2) := oc_16 (a := 61) (by decide +kernel)
theorem dX12_compareOf_60 : decode cX12_compareOf 60 = .ok (.if_icmp .ne 8, 3) := oc_160 (a := 0) (b := 8) (by decide +kernel)
theorem dX12_compareOf_68 : decode cX12_compareOf 68 = .ok (.aload_n 0, 1) := oc_42 (by decide +kernel)
theorem dX12_compareOf_69 : decode cX12_compareOf 69 = .ok (.getfield 143, 3) := oc_180 (a := 0) (b := 143) (by decide +kernel)
theorem dX12_compareOf_72 : decode cX12_compareOf 72 = .ok (.bipush 35, 2) := oc_16 (a := 35) (by decide +kernel)
theorem dX12_compareOf_74 : decode cX12_compareOf 74 = .ok (.if_icmp .ne 8, 3) := oc_160 (a := 0) (b := 8) (by decide +kernel)
theorem dX12_compareOf_82 : decode cX12_compareOf 82 = .ok (.iconst (-1), 1) := oc_2 (by decide +kernel)
theorem dX12_compareOf_83 : decode cX12_compareOf 83 = .ok (.ireturn, 1) := oc_172 (by decide +kernel)
theorem dX12_compareOf_77 : decode cX12_compareOf 77 = .ok (.bipush 15, 2) := oc_16 (a := 15) (by decide +kernel)
theorem dX12_compareOf_79 : decode cX12_compareOf 79 = .ok (.goto 4, 3) := oc_167 (a := 0) (b := 4) (by decide +kernel)
theorem dX12_compareOf_63 : decode cX12_compareOf 63 = .ok (.bipush 14, 2) := oc_16 (a := 14) (by decide +kernel)
theorem dX12_compareOf_65 : decode cX12_compareOf 65 = .ok (.goto 18, 3) := oc_167 (a := 0) (b := 18) (by decide +kernel)
theorem dX12_compareOf_49 : decode cX12_compareOf 49 = .ok (.bipush 13, 2) := oc_16 (a := 13) (by decide +kernel)
theorem dX12_compareOf_51 : decode cX12_compareOf 51 = .ok (.goto 32, 3) := oc_167 (a := 0) (b := 32) (by decide +kernel)
theorem dX12_compareOf_36 : decode cX12_compareOf 36 = .ok (.bipush 12, 2) := oc_16 (a := 12) (by decide +kernel)
theorem dX12_compareOf_38 : decode cX12_compareOf 38 = .ok (.goto 45, 3) := oc_167 (a := 0) (b := 45) (by decide +kernel)
theorem dX12_compareOf_22 : decode cX12_compareOf 22 = .ok (.bipush 11, 2) := oc_16 (a := 11) (by decide +kernel)
theorem dX12_compareOf_24 : decode cX12_compareOf 24 = .ok (.goto 59, 3) := oc_167 (a := 0) (b := 59) (by decide +kernel)
theorem dX12_compareOf_9 : decode cX12_compareOf 9 = .ok (.bipush 10, 2) := oc_16 (a := 10) (by decide +kernel)
theorem dX12_compareOf_11 : decode cX12_compareOf 11 = .ok (.goto 72, 3) := oc_167 (a := 0) (b := 72) (by decide +kernel)
theorem dX12_ask_0 : decode cX12_ask 0 = .ok (.iconst 0, 1) := oc_3 (by decide +kernel)
theorem dX12_ask_1 : decode cX12_ask 1 = .ok (.istore_n 1, 1) := oc_60 (by decide +kernel)
theorem dX12_ask_2 : decode cX12_ask 2 = .ok (.aload_n 0, 1) := oc_42 (by decide +kernel)
theorem dX12_ask_3 : decode cX12_ask 3 = .ok (.bipush 110, 2) := oc_16 (a := 110) (by decide +kernel)
theorem dX12_ask_5 : decode cX12_ask 5 = .ok (.bipush 111, 2) := oc_16 (a := 111) (by decide +kernel)
theorem dX12_ask_7 : decode cX12_ask 7 = .ok (.bipush 116, 2) := oc_16 (a := 116) (by decide +kernel)
theorem dX12_ask_9 : decode cX12_ask 9 = .ok (.invokestatic 160, 3) := oc_184 (a := 0) (b := 160) (by decide +kernel)
theorem tw_879 : Cond.methodLink RX12 221 yX12_isWord ∈ wsL_law := sg_37 _ (List.mem_of_getElem? (i := 15) rfl)
theorem tw_880 : Cond.instanceMethod yX12_isWord ∈ wsL_law := sg_37 _ (List.mem_of_getElem? (i := 16) rfl)
theorem tw_881 : Cond.selects RX12 yX12_isWord yX12_isWord ∈ wsL_law := sg_37 _ (List.mem_of_getElem? (i := 17) rfl)
theorem tw_882 : Cond.code yX12_isWord cX12_isWord 3 (some .boolean) ∈ wsL_law := sg_37 _ (List.mem_of_getElem? (i := 18) rfl)
theorem dX12_ask_12 : decode cX12_ask 12 = .ok (.invokevirtual 221, 3) := oc_182 (a := 0) (b := 221) (by decide +kernel)
theorem dX12_ask_15 : decode cX12_ask 15 = .ok (.ifCond .eq 34, 3) := oc_153 (a := 0) (b := 34) (by decide +kernel)
theorem dX12_ask_49 : decode cX12_ask 49 = .ok (.aload_n 0, 1) := oc_42 (by decide +kernel)
theorem tw_883 : Cond.methodLink RX12 225 yX12_sum ∈ wsL_law := sg_37 _ (List.mem_of_getElem? (i := 19) rfl)
theorem tw_884 : Cond.instanceMethod yX12_sum ∈ wsL_law := sg_37 _ (List.mem_of_getElem? (i := 20) rfl)
theorem tw_885 : Cond.selects RX12 yX12_sum yX12_sum ∈ wsL_law := sg_37 _ (List.mem_of_getElem? (i := 21) rfl)
theorem tw_886 : Cond.code yX12_sum cX12_sum 2 (some .int) ∈ wsL_law := sg_37 _ (List.mem_of_getElem? (i := 22) rfl)
theorem dX12_ask_50 : decode cX12_ask 50 = .ok (.invokevirtual 225, 3) := oc_182 (a := 0) (b := 225) (by decide +kernel)
theorem dX12_ask_53 : decode cX12_ask 53 = .ok (.istore_n 2, 1) := oc_61 (by decide +kernel)
theorem dX12_ask_54 : decode cX12_ask 54 = .ok (.iload_n 2, 1) := oc_28 (by decide +kernel)
theorem dX12_ask_55 : decode cX12_ask 55 = .ok (.ifCond .eq 5, 3) := oc_153 (a := 0) (b := 5) (by decide +kernel)
theorem dX12_ask_60 : decode cX12_ask 60 = .ok (.aload_n 0, 1) := oc_42 (by decide +kernel)
theorem tw_925 : Cond.methodLink RX12 228 yX12_compareOf ∈ wsL_law := sg_39 _ (List.mem_of_getElem? (i := 13) rfl)
theorem tw_926 : Cond.instanceMethod yX12_compareOf ∈ wsL_law := sg_39 _ (List.mem_of_getElem? (i := 14) rfl)
theorem tw_927 : Cond.selects RX12 yX12_compareOf yX12_compareOf ∈ wsL_law := sg_39 _ (List.mem_of_getElem? (i := 15) rfl)
theorem tw_928 : Cond.code yX12_compareOf cX12_compareOf 1 (some .int) ∈ wsL_law := sg_39 _ (List.mem_of_getElem? (i := 16) rfl)
theorem dX12_ask_61 : decode cX12_ask 61 = .ok (.invokevirtual 228, 3) := oc_182 (a := 0) (b := 228) (by decide +kernel)
theorem dX12_ask_64 : decode cX12_ask 64 = .ok (.istore_n 3, 1) := oc_62 (by decide +kernel)
theorem dX12_ask_65 : decode cX12_ask 65 = .ok (.iload_n 3, 1) := oc_29 (by decide +kernel)
theorem dX12_ask_66 : decode cX12_ask 66 = .ok (.ifCond .ge 5, 3) := oc_156 (a := 0) (b := 5) (by decide +kernel)
theorem dX12_ask_71 : decode cX12_ask 71 = .ok (.aload_n 0, 1) := oc_42 (by decide +kernel)
theorem dX12_ask_72 : decode cX12_ask 72 = .ok (.invokevirtual 196, 3) := oc_182 (a := 0) (b := 196) (by decide +kernel)
theorem dX12_ask_75 : decode cX12_ask 75 = .ok (.aload_n 0, 1) := oc_42 (by decide +kernel)
theorem dX12_ask_76 : decode cX12_ask 76 = .ok (.invokevirtual 225, 3) := oc_182 (a := 0) (b := 225) (by decide +kernel)
theorem dX12_ask_79 : decode cX12_ask 79 = .ok (.istore_n 2, 1) := oc_61 (by decide +kernel)
theorem dX12_ask_80 : decode cX12_ask 80 = .ok (.iload_n 2, 1) := oc_28 (by decide +kernel)
theorem dX12_ask_81 : decode cX12_ask 81 = .ok (.ifCond .eq 5, 3) := oc_153 (a := 0) (b := 5) (by decide +kernel)
theorem dX12_ask_86 : decode cX12_ask 86 = .ok (.aload_n 0, 1) := oc_42 (by decide +kernel)
theorem dX12_ask_87 : decode cX12_ask 87 = .ok (.iload_n 3, 1) := oc_29 (by decide +kernel)
theorem dX12_ask_88 : decode cX12_ask 88 = .ok (.iconst 0, 1) := oc_3 (by decide +kernel)
theorem dX12_ask_89 : decode cX12_ask 89 = .ok (.invokevirtual 188, 3) := oc_182 (a := 0) (b := 188) (by decide +kernel)
theorem dX12_ask_92 : decode cX12_ask 92 = .ok (.aload_n 0, 1) := oc_42 (by decide +kernel)
theorem dX12_ask_93 : decode cX12_ask 93 = .ok (.dup, 1) := oc_89 (by decide +kernel)
theorem dX12_ask_94 : decode cX12_ask 94 = .ok (.getfield 185, 3) := oc_180 (a := 0) (b := 185) (by decide +kernel)
theorem dX12_ask_97 : decode cX12_ask 97 = .ok (.iload_n 1, 1) := oc_27 (by decide +kernel)
theorem dX12_ask_98 : decode cX12_ask 98 = .ok (.isub, 1) := oc_100 (by decide +kernel)
theorem dX12_ask_99 : decode cX12_ask 99 = .ok (.putfield 185, 3) := oc_181 (a := 0) (b := 185) (by decide +kernel)
theorem dX12_ask_102 : decode cX12_ask 102 = .ok (.iconst 0, 1) := oc_3 (by decide +kernel)
theorem dX12_ask_103 : decode cX12_ask 103 = .ok (.istore 4, 2) := oc_54 (by decide +kernel)
theorem dX12_ask_105 : decode cX12_ask 105 = .ok (.iload 4, 2) := oc_21 (by decide +kernel)
theorem dX12_ask_107 : decode cX12_ask 107 = .ok (.iload_n 1, 1) := oc_27 (by decide +kernel)
theorem dX12_ask_108 : decode cX12_ask 108 = .ok (.if_icmp .ge 16, 3) := oc_162 (a := 0) (b := 16) (by decide +kernel)
theorem dX12_ask_124 : decode cX12_ask 124 = .ok (.iconst 0, 1) := oc_3 (by decide +kernel)
theorem dX12_ask_125 : decode cX12_ask 125 = .ok (.ireturn, 1) := oc_172 (by decide +kernel)
theorem dX12_ask_111 : decode cX12_ask 111 = .ok (.aload_n 0, 1) := oc_42 (by decide +kernel)
theorem dX12_ask_112 : decode cX12_ask 112 = .ok (.bipush 20, 2) := oc_16 (a := 20) (by decide +kernel)
theorem dX12_ask_114 : decode cX12_ask 114 = .ok (.iconst 0, 1) := oc_3 (by decide +kernel)
theorem dX12_ask_115 : decode cX12_ask 115 = .ok (.invokevirtual 188, 3) := oc_182 (a := 0) (b := 188) (by decide +kernel)
theorem dX12_ask_118 : decode cX12_ask 118 = .ok (.iinc 4 1, 3) := oc_132 (b := 1) (by decide +kernel)
theorem dX12_ask_121 : decode cX12_ask 121 = .ok (.goto (-16), 3) := oc_167 (a := 255) (b := 240) (by decide +kernel)
theorem dX12_ask_84 : decode cX12_ask 84 = .ok (.iload_n 2, 1) := oc_28 (by decide +kernel)
theorem dX12_ask_85 : decode cX12_ask 85 = .ok (.ireturn, 1) := oc_172 (by decide +kernel)
theorem dX12_ask_69 : decode cX12_ask 69 = .ok (.iconst 1, 1) := oc_4 (by decide +kernel)
theorem dX12_ask_70 : decode cX12_ask 70 = .ok (.ireturn, 1) := oc_172 (by decide +kernel)
theorem dX12_ask_58 : decode cX12_ask 58 = .ok (.iload_n 2, 1) := oc_28 (by decide +kernel)
theorem dX12_ask_59 : decode cX12_ask 59 = .ok (.ireturn, 1) := oc_172 (by decide +kernel)
theorem dX12_ask_18 : decode cX12_ask 18 = .ok (.aload_n 0, 1) := oc_42 (by decide +kernel)
theorem dX12_ask_19 : decode cX12_ask 19 = .ok (.getfield 185, 3) := oc_180 (a := 0) (b := 185) (by decide +kernel)
theorem dX12_ask_22 : decode cX12_ask 22 = .ok (.bipush 8, 2) := oc_16 (a := 8) (by decide +kernel)
theorem dX12_ask_24 : decode cX12_ask 24 = .ok (.if_icmp .ne 5, 3) := oc_160 (a := 0) (b := 5) (by decide +kernel)
theorem dX12_ask_29 : decode cX12_ask 29 = .ok (.aload_n 0, 1) := oc_42 (by decide +kernel)
theorem dX12_ask_30 : decode cX12_ask 30 = .ok (.dup, 1) := oc_89 (by decide +kernel)
theorem dX12_ask_31 : decode cX12_ask 31 = .ok (.getfield 185, 3) := oc_180 (a := 0) (b := 185) (by decide +kernel)
theorem dX12_ask_34 : decode cX12_ask 34 = .ok (.iconst 1, 1) := oc_4 (by decide +kernel)
theorem dX12_ask_35 : decode cX12_ask 35 = .ok (.iadd, 1) := oc_96 (by decide +kernel)
theorem dX12_ask_36 : decode cX12_ask 36 = .ok (.putfield 185, 3) := oc_181 (a := 0) (b := 185) (by decide +kernel)
theorem dX12_ask_39 : decode cX12_ask 39 = .ok (.iinc 1 1, 3) := oc_132 (b := 1) (by decide +kernel)
theorem dX12_ask_42 : decode cX12_ask 42 = .ok (.aload_n 0, 1) := oc_42 (by decide +kernel)
theorem dX12_ask_43 : decode cX12_ask 43 = .ok (.invokevirtual 196, 3) := oc_182 (a := 0) (b := 196) (by decide +kernel)
theorem dX12_ask_46 : decode cX12_ask 46 = .ok (.goto (-44), 3) := oc_167 (a := 255) (b := 212) (by decide +kernel)
theorem dX12_ask_27 : decode cX12_ask 27 = .ok (.iconst 3, 1) := oc_6 (by decide +kernel)
theorem dX12_ask_28 : decode cX12_ask 28 = .ok (.ireturn, 1) := oc_172 (by decide +kernel)
set_option maxRecDepth 100000 in
def g_X12_behindOne (I : Nat → Int32) (J : Nat → Int64) (ri : Nat → Nat → Int32) (rj : Nat → Nat → Int64) (rq : Nat → Nat → Option Nat) : vM := (ap1 (I 393) fun (y_1 : Int32) => (bnV (g_X12_nextToken_x I J ri rj rq) fun (I_5 : Nat → Int32) (J_6 : Nat → Int64) (_ : Nat → Nat → Int32) (_ : Nat → Nat → Int64) (_ : Nat → Nat → Option Nat) => (if (y_1) = (41 : Int32) then (bnV (g_X12_settle (3 : Int32) I_5 J_6 ri rj rq) fun (I_326 : Nat → Int32) (_ : Nat → Int64) (ri_327 : Nat → Nat → Int32) (_ : Nat → Nat → Int64) (_ : Nat → Nat → Option Nat) => (ap1 (I_326 401) fun (y_345 : Int32) => (ap1 ((y_345) - (1 : Int32)) fun (x_346 : Int32) => (ap1 (va_up I_326 401 x_346) fun (I_348 : Nat → Int32) => (ap1 (I_348 402) fun (y_358 : Int32) => (ap1 ((y_358) - (1 : Int32)) fun (x_360 : Int32) => (ap1 (va_up I_348 402 x_360) fun (I_362 : Nat → Int32) => (bnV (g_X12_whole I_362 J_6 ri_327 rj rq) fun (I_373 : Nat → Int32) (_ : Nat → Int64) (ri_374 : Nat → Nat → Int32) (_ : Nat → Nat → Int64) (_ : Nat → Nat → Option Nat) => (I_373, J_6, ri_374, rj, rq))))))))) else (if (y_1) = (43 : Int32) then (bnV (g_X12_settle (3 : Int32) I_5 J_6 ri rj rq) fun (I_38 : Nat → Int32) (_ : Nat → Int64) (ri_39 : Nat → Nat → Int32) (_ : Nat → Nat → Int64) (_ : Nat → Nat → Option Nat) => (bnV (g_X12_push (3 : Int32) I_38 J_6 ri_39 rj rq) fun (I_63 : Nat → Int32) (_ : Nat → Int64) (ri_64 : Nat → Nat → Int32) (_ : Nat → Nat → Int64) (_ : Nat → Nat → Option Nat) => (ap1 (va_up I_63 403 (0 : Int32)) fun (I_82 : Nat → Int32) => (I_82, J_6, ri_64, rj, rq)))) else (if (y_1) = (45 : Int32) then (bnV (g_X12_settle (3 : Int32) I_5 J_6 ri rj rq) fun (I_264 : Nat → Int32) (_ : Nat → Int64) (ri_265 : Nat → Nat → Int32) (_ : Nat → Nat → Int64) (_ : Nat → Nat → Option Nat) => (bnV (g_X12_push (4 : Int32) I_264 J_6 ri_265 rj rq) fun (I_293 : Nat → Int32) (_ : Nat → Int64) (ri_294 : Nat → Nat → Int32) (_ : Nat → Nat → Int64) (_ : Nat → Nat → Option Nat) => (ap1 (va_up I_293 403 (0 : Int32)) fun (I_312 : Nat → Int32) => (I_312, J_6, ri_294, rj, rq)))) else (bnV (g_X12_settle (5 : Int32) I_5 J_6 ri rj rq) fun (I_100 : Nat → Int32) (_ : Nat → Int64) (ri_101 : Nat → Nat → Int32) (_ : Nat → Nat → Int64) (_ : Nat → Nat → Option Nat) => (if (y_1) = (43 : Int32) then (bnV (g_X12_push (3 : Int32) I_100 J_6 ri_101 rj rq) fun (I_231 : Nat → Int32) (_ : Nat → Int64) (ri_232 : Nat → Nat → Int32) (_ : Nat → Nat → Int64) (_ : Nat → Nat → Option Nat) => (ap1 (va_up I_231 403 (0 : Int32)) fun (I_250 : Nat → Int32) => (I_250, J_6, ri_232, rj, rq))) else (if (y_1) = (45 : Int32) then (bnV (g_X12_push (4 : Int32) I_100 J_6 ri_101 rj rq) fun (I_199 : Nat → Int32) (_ : Nat → Int64) (ri_200 : Nat → Nat → Int32) (_ : Nat → Nat → Int64) (_ : Nat → Nat → Option Nat) => (ap1 (va_up I_199 403 (0 : Int32)) fun (I_218 : Nat → Int32) => (I_218, J_6, ri_200, rj, rq))) else (if (y_1) = (42 : Int32) then (bnV (g_X12_push (5 : Int32) I_100 J_6 ri_101 rj rq) fun (I_167 : Nat → Int32) (_ : Nat → Int64) (ri_168 : Nat → Nat → Int32) (_ : Nat → Nat → Int64) (_ : Nat → Nat → Option Nat) => (ap1 (va_up I_167 403 (0 : Int32)) fun (I_186 : Nat → Int32) => (I_186, J_6, ri_168, rj, rq))) else (bnV (g_X12_push (6 : Int32) I_100 J_6 ri_101 rj rq) fun (I_135 : Nat → Int32) (_ : Nat → Int64) (ri_136 : Nat → Nat → Int32) (_ : Nat → Nat → Int64) (_ : Nat → Nat → Option Nat) => (ap1 (va_up I_135 403 (0 : Int32)) fun (I_154 : Nat → Int32) => (I_154, J_6, ri_136, rj, rq))))))))))))
set_option maxRecDepth 100000 in
theorem g_X12_behindOne_e {I : Nat → Int32} {J : Nat → Int64} {ri : Nat → Nat → Int32} {rj : Nat → Nat → Int64} {rq : Nat → Nat → Option Nat} : g_X12_behindOne I J ri rj rq = (ap1 (I 393) fun (y_1 : Int32) => (bnV (g_X12_nextToken_x I J ri rj rq) fun (I_5 : Nat → Int32) (J_6 : Nat → Int64) (_ : Nat → Nat → Int32) (_ : Nat → Nat → Int64) (_ : Nat → Nat → Option Nat) => (if (y_1) = (41 : Int32) then (bnV (g_X12_settle (3 : Int32) I_5 J_6 ri rj rq) fun (I_326 : Nat → Int32) (_ : Nat → Int64) (ri_327 : Nat → Nat → Int32) (_ : Nat → Nat → Int64) (_ : Nat → Nat → Option Nat) => (ap1 (I_326 401) fun (y_345 : Int32) => (ap1 ((y_345) - (1 : Int32)) fun (x_346 : Int32) => (ap1 (va_up I_326 401 x_346) fun (I_348 : Nat → Int32) => (ap1 (I_348 402) fun (y_358 : Int32) => (ap1 ((y_358) - (1 : Int32)) fun (x_360 : Int32) => (ap1 (va_up I_348 402 x_360) fun (I_362 : Nat → Int32) => (bnV (g_X12_whole I_362 J_6 ri_327 rj rq) fun (I_373 : Nat → Int32) (_ : Nat → Int64) (ri_374 : Nat → Nat → Int32) (_ : Nat → Nat → Int64) (_ : Nat → Nat → Option Nat) => (I_373, J_6, ri_374, rj, rq))))))))) else (if (y_1) = (43 : Int32) then (bnV (g_X12_settle (3 : Int32) I_5 J_6 ri rj rq) fun (I_38 : Nat → Int32) (_ : Nat → Int64) (ri_39 : Nat → Nat → Int32) (_ : Nat → Nat → Int64) (_ : Nat → Nat → Option Nat) => (bnV (g_X12_push (3 : Int32) I_38 J_6 ri_39 rj rq) fun (I_63 : Nat → Int32) (_ : Nat → Int64) (ri_64 : Nat → Nat → Int32) (_ : Nat → Nat → Int64) (_ : Nat → Nat → Option Nat) => (ap1 (va_up I_63 403 (0 : Int32)) fun (I_82 : Nat → Int32) => (I_82, J_6, ri_64, rj, rq)))) else (if (y_1) = (45 : Int32) then (bnV (g_X12_settle (3 : Int32) I_5 J_6 ri rj rq) fun (I_264 : Nat → Int32) (_ : Nat → Int64) (ri_265 : Nat → Nat → Int32) (_ : Nat → Nat → Int64) (_ : Nat → Nat → Option Nat) => (bnV (g_X12_push (4 : Int32) I_264 J_6 ri_265 rj rq) fun (I_293 : Nat → Int32) (_ : Nat → Int64) (ri_294 : Nat → Nat → Int32) (_ : Nat → Nat → Int64) (_ : Nat → Nat → Option Nat) => (ap1 (va_up I_293 403 (0 : Int32)) fun (I_312 : Nat → Int32) => (I_312, J_6, ri_294, rj, rq)))) else (bnV (g_X12_settle (5 : Int32) I_5 J_6 ri rj rq) fun (I_100 : Nat → Int32) (_ : Nat → Int64) (ri_101 : Nat → Nat → Int32) (_ : Nat → Nat → Int64) (_ : Nat → Nat → Option Nat) => (if (y_1) = (43 : Int32) then (bnV (g_X12_push (3 : Int32) I_100 J_6 ri_101 rj rq) fun (I_231 : Nat → Int32) (_ : Nat → Int64) (ri_232 : Nat → Nat → Int32) (_ : Nat → Nat → Int64) (_ : Nat → Nat → Option Nat) => (ap1 (va_up I_231 403 (0 : Int32)) fun (I_250 : Nat → Int32) => (I_250, J_6, ri_232, rj, rq))) else (if (y_1) = (45 : Int32) then (bnV (g_X12_push (4 : Int32) I_100 J_6 ri_101 rj rq) fun (I_199 : Nat → Int32) (_ : Nat → Int64) (ri_200 : Nat → Nat → Int32) (_ : Nat → Nat → Int64) (_ : Nat → Nat → Option Nat) => (ap1 (va_up I_199 403 (0 : Int32)) fun (I_218 : Nat → Int32) => (I_218, J_6, ri_200, rj, rq))) else (if (y_1) = (42 : Int32) then (bnV (g_X12_push (5 : Int32) I_100 J_6 ri_101 rj rq) fun (I_167 : Nat → Int32) (_ : Nat → Int64) (ri_168 : Nat → Nat → Int32) (_ : Nat → Nat → Int64) (_ : Nat → Nat → Option Nat) => (ap1 (va_up I_167 403 (0 : Int32)) fun (I_186 : Nat → Int32) => (I_186, J_6, ri_168, rj, rq))) else (bnV (g_X12_push (6 : Int32) I_100 J_6 ri_101 rj rq) fun (I_135 : Nat → Int32) (_ : Nat → Int64) (ri_136 : Nat → Nat → Int32) (_ : Nat → Nat → Int64) (_ : Nat → Nat → Option Nat) => (ap1 (va_up I_135 403 (0 : Int32)) fun (I_154 : Nat → Int32) => (I_154, J_6, ri_136, rj, rq)))))))))))) := rfl
set_option maxHeartbeats 4000000 in
set_option maxRecDepth 100000 in
theorem s_X12_behindOne (l : Launch) (D : va_G) (t : pq_T) (σ : pq_S) (I : Nat → Nat → Int32) (J : Nat → Nat → Int64) (ri : Nat → Nat → Int32) (rj : Nat → Nat → Int64) (rq : Nat → Nat → Option Nat) (sz : Nat) (tg : Nat → Nat) (hSH : SH σ tg) (hG0 : GT tg I ri) (this : Nat) (hL_this : this ∈ σ.1) (hK_this : σ.2.1 this = 12) (this_a : Nat) (hR_this_a : σ.2.2.1 384 this = some this_a) (hL_this_a : this_a ∈ σ.1) (hK_this_a : σ.2.1 this_a = 13) (hN_this_a : σ.2.2.2 this_a = 12720) (hT_this_a : tg this_a = 384) (this_pile : Nat) (hR_this_pile : σ.2.2.1 400 this = some this_pile) (hL_this_pile : this_pile ∈ σ.1) (hK_this_pile : σ.2.1 this_pile = 13) (hN_this_pile : σ.2.2.2 this_pile = 160) (hT_this_pile : tg this_pile = 400) (bb : Nat) (f0 : Nat → Int32) (fr : Int) (ba : Int) (tb : Int) (nn : Int) (K : Int) (hps : PSz (I 396 this).toInt (I 398 this).toInt (I 401 this).toInt (I 402 this).toInt (I 391 this).toInt (I 393 this).toInt (ri this_a) (ri this_pile) bb f0 fr ba tb nn K 1) (hgo : ((I 393 this).toInt = 43 ∨ (I 393 this).toInt = 45 ∨ (I 393 this).toInt = 42 ∨ (I 393 this).toInt = 47 ∨ (I 393 this).toInt = 41) ∧ ((I 393 this).toInt = 41 → ∃ k : Nat, (k : Int) < (I 401 this).toInt ∧ (ri this_pile k).toInt = 40)) : MetV l yX12_behindOne (wa yX12_behindOne cX12_behindOne 3 none) ({ frames := 3, cells := 0, slots := 0, locals := 64 }) [.ref this] D t σ (I, J, ri, rj, rq) sz 0 0 (fun (u : pq_S × pq_M) => ∃ I' : Nat → Nat → Int32, ∃ J' : Nat → Nat → Int64, ∃ ri' : Nat → Nat → Int32, u = (σ, I', J', ri', rj, rq) ∧ GM [391, 392, 393, 401, 398, 402] tg σ I ri I' ri' rq ∧ (PSz (I' 396 this).toInt (I' 398 this).toInt (I' 401 this).toInt (I' 402 this).toInt (I' 391 this).toInt (I' 393 this).toInt (ri' this_a) (ri' this_pile) bb f0 fr ba tb nn K (I' 403 this).toInt) ∧ (tmM (I' 391 this).toInt (I' 393 this).toInt < tmM (I 391 this).toInt (I 393 this).toInt) ∧ g_X12_behindOne (vI 12 σ this I) (vJ 12 σ this J) (vR 12 σ this ri) (vL 12 σ this rj) (vQ 12 σ this rq) = ((vI 12 σ this I'), (vJ 12 σ this J'), (vR 12 σ this ri'), (vL 12 σ this rj), (vQ 12 σ this rq)) ∧ FR 12 tg σ this (I, J, ri, rj, rq) (I', J', ri', rj, rq)) := by
  refine Met.ofW (cc := cX12_behindOne) (maxL := 3) (ret := none) (by decide +kernel) rfl ?_
  intro p e s m args below meth c s₁ B hml hv
  obtain ⟨rfl, hsz, hP, hK, hD0, hN⟩ := hv
  have hx := B.exec
  have hb := B.bytes
  have hr := B.returns
  have hts := atoms_spec (ws := (wa yX12_behindOne cX12_behindOne 3 none)) B.pre
  have hown : s.vm.findClass RX12 = some m.cls := findClass_of_methodNamed B.named
  have hlocks := B.notSynchronized
  subst hsz
  have hD : va_D (pq_B t σ (I, J, ri, rj, rq) s.heap.size) (pq_P t σ (I, J, ri, rj, rq)) := hD0.self
  generalize hAe : pq_B t σ (I, J, ri, rj, rq) s.heap.size = A at hD ⊢
  have hA : ∀ q : Nat, s.heap.size ≤ q → A q := fun q h => by rw [← hAe]; exact Or.inr h
  have hS : va_S A s.heap s.heap [] := va_S.rf
  have hG : GM [391, 392, 393, 401, 398, 402] tg σ I ri I ri rq := ⟨hG0, fun _ _ _ => rfl, fun _ _ _ _ _ => rfl, fun _ _ _ _ _ _ => rfl⟩
  have hl := lv_entry ([.ref this]) (n := 3) (Nat.le_of_ble_eq_true rfl)
  rw [lg_entry_eq]
  generalize (lg_sl ([.ref this]) ++ List.replicate (3 - (lg_sl ([.ref this])).length) Slot.unset).toArray = ls at hl ⊢
  have hl : lv_has ls 3 [(0, .ref this)] := hl
  refine q_gen (fun Q hQ => ?_)
  have go : ∀ (H : Heap) (locs : List Loc) (ls : Array Slot), va_P D vwCl (pq_P t σ (I, J, ri, rj, rq)) H → va_D A (pq_P t σ (I, J, ri, rj, rq)) → va_S A s.heap H locs → lv_has ls 3 [(0, .ref this)] → W p l e ({ frames := 3, cells := 0, slots := 0, locals := 64 } : Room) s m (List.toArray ([.ref this] : List Value)) below meth c H locs 0 0 Q (F0 m 0 ls []) := by
    intro H locs ls hP hD hS hl
    have hO_this : this = vo σ 12 this := rfl
    have hVT : VT 12 σ tg this := vt_12 hSH hL_this hK_this
    have hFr : FR 12 tg σ this (I, J, ri, rj, rq) (I, J, ri, rj, rq) := fr_rf
    have hO_this_a : this_a = vrow σ 384 this := vo_k (c := 12) hO_this hR_this_a
    have hO_this_pile : this_pile = vrow σ 400 this := vo_k (c := 12) hO_this hR_this_pile
    obtain ⟨F, hF0⟩ : ∃ F, F = g_X12_behindOne (vI 12 σ this I) (vJ 12 σ this J) (vR 12 σ this ri) (vL 12 σ this rj) (vQ 12 σ this rq) := ⟨_, rfl⟩
    have hF := hF0.trans g_X12_behindOne_e
    refine lv_aload_n hx hb dX12_behindOne_0 rfl (lv_at hl 0 rfl) ?_
    refine pg_f (v := .int (I 393 this)) (C := RX12) (T := TX12) (N := 31) hx hb hts (tw_i inlX12) hown hK hP hL_this hK_this (by decide +kernel) rfl 9 (by decide +kernel) (hts _ (tw_c tw_831)) rfl dX12_behindOne_1 ?_
    replace hF := hF.trans (ap_n (vI_e (f := 393) hO_this (by decide +kernel)))
    refine lv_istore_n (lv' := [(1, .int (I 393 this)), (0, .ref this)]) hx hb dX12_behindOne_4 rfl hl (by decide +kernel) rfl (fun ls hl => ?_)
    refine lv_aload_n hx hb dX12_behindOne_5 rfl (lv_at hl 1 rfl) ?_
    obtain ⟨w_2, hR_w_2, hL_w_2, hK_w_2, hN_w_2, hT_w_2⟩ := sh_a hSH 387 (ci := 12) (kd := 13) (len := 300) rfl (by decide +kernel) hL_this hK_this
    have hO_w_2 : w_2 = vrow σ 387 this := vo_k (c := 12) hO_this hR_w_2
    refine pk_v (va_runV (As := []) (rest := []) ⟨hx, hb, hml, hown, hts⟩ (s_X12_nextToken_x l D t σ I J ri rj rq H.size tg hSH hG.1 this hL_this hK_this w_2 hR_w_2 hL_w_2 hK_w_2 hN_w_2 hT_w_2) (cwV 0 hts (tw_V tw_832 tw_833 tw_834 tw_5 tw_835) rfl rfl rfl cv_yX12_nextToken_0 ⟨Nat.le_of_ble_eq_true rfl, Nat.le_of_ble_eq_true rfl⟩) ⟨pq_blind, pq_recv hK hP hL_this hK_this (by decide +kernel) rfl, pq_pre hK hN hP hD⟩ rfl rfl hl.1 rfl (lv_room (Nat.le_of_ble_eq_true rfl)) dX12_behindOne_6 ⟨Nat.le_of_ble_eq_true rfl, Nat.le_of_ble_eq_true rfl⟩) hD hS hA (fun σ1 μ1 H locs hw_4 hP hD hS => ?_)
    obtain ⟨I_5, J_6, hu_7, hg_8, hp_10, hp_11, hp_12, hfn_13, hfr_14⟩ := hw_4
    obtain ⟨hu_7a, hu_7b⟩ := Prod.mk.inj hu_7
    rw [hu_7a, hu_7b] at hP hD
    replace hF := hF.trans (bv_n hfn_13)
    replace hFr := fr_tr hFr hfr_14
    have tt_15 := hp_10
    have tt_16 := hp_11
    have tt_17 := hp_12
    have tt_18 : (I_5 391 this).toInt ≤ 300 := by have z := hg_8.1.1 391 this; exact z.2
    have hG := GM.tr hG hg_8 (by decide +kernel)
    have tt_19 : (I_5 396 this).toInt = (I 396 this).toInt := by rw [hg_8.2.1 396 (by decide +kernel) (by decide +kernel)]
    have tt_20 : (I_5 398 this).toInt = (I 398 this).toInt := by rw [hg_8.2.1 398 (by decide +kernel) (by decide +kernel)]
    have tt_21 : (I_5 401 this).toInt = (I 401 this).toInt := by rw [hg_8.2.1 401 (by decide +kernel) (by decide +kernel)]
    have tt_22 : (I_5 402 this).toInt = (I 402 this).toInt := by rw [hg_8.2.1 402 (by decide +kernel) (by decide +kernel)]
    have tt_23 : (I_5 397 this).toInt = (I 397 this).toInt := by rw [hg_8.2.1 397 (by decide +kernel) (by decide +kernel)]
    have hgo1 := hgo.1
    have hK0 : 0 ≤ K := hps.2.2.2.2.1
    have hps1 : PSz (I_5 396 this).toInt (I_5 398 this).toInt (I_5 401 this).toInt (I_5 402 this).toInt (I_5 391 this).toInt (I_5 393 this).toInt (ri this_a) (ri this_pile) bb f0 fr ba tb nn (K + 1) 1 := PSz_tok hps (by omega) (by omega) (by omega) (by omega) (by omega) (by omega) (by omega) (by omega) rfl rfl
    have htm : tmM (I_5 391 this).toInt (I_5 393 this).toInt < tmM (I 391 this).toInt (I 393 this).toInt := tm_lt (by omega) (by omega) (by omega)
    refine lv_iload_n hx hb dX12_behindOne_9 rfl (lv_at hl 0 rfl) ?_
    refine lv_bipush (v := 41) hx hb dX12_behindOne_10 (by decide +kernel) ?_
    refine lv_icmp_ne (tgt := 45) hx hb dX12_behindOne_12 (by decide +kernel) (fun c_24 => ?_) (fun c_24 => ?_)
    · replace hF := hF.trans (if_neg c_24)
      have tc_28 : (I 393 this).toInt ≠ 41 := fun q => c_24 (Int32.toInt_inj.mp q)
      refine lv_iload_n hx hb dX12_behindOne_45 rfl (lv_at hl 0 rfl) ?_
      refine lv_bipush (v := 43) hx hb dX12_behindOne_46 (by decide +kernel) ?_
      refine lv_icmp_eq (tgt := 57) hx hb dX12_behindOne_48 (by decide +kernel) (fun c_29 => ?_) (fun c_29 => ?_)
      · replace hF := hF.trans (if_pos c_29)
        have tc_33 : (I 393 this).toInt = 43 := congrArg Int32.toInt c_29
        have h_34 : rg (I 393 this) 43 43 := rg_and (rg_full _) (rg_of_eq c_29 (rg_k (43 : Int32) 43 rfl)) (by decide +kernel)
        have uh_34 := h_34.1
        have vh_34 := h_34.2
        refine lv_iconst (v := 1) hx hb dX12_behindOne_57 (by decide +kernel) ?_
        refine lv_goto (tgt := 62) hx hb dX12_behindOne_58 (by decide +kernel) ?_
        refine lv_istore_n (lv' := [(2, .int 1), (1, .int (I 393 this)), (0, .ref this)]) hx hb dX12_behindOne_62 rfl hl (by decide +kernel) rfl (fun ls hl => ?_)
        refine lv_aload_n hx hb dX12_behindOne_63 rfl (lv_at hl 2 rfl) ?_
        refine lv_iload_n hx hb dX12_behindOne_64 rfl (lv_at hl 0 rfl) ?_
        refine lv_if_eq (tgt := 72) hx hb dX12_behindOne_65 (by decide +kernel) (fun c_35 => absurd c_35 (by decide +kernel)) (fun c_35 => ?_)
        refine lv_iconst (v := 3) hx hb dX12_behindOne_68 (by decide +kernel) ?_
        refine lv_goto (tgt := 73) hx hb dX12_behindOne_69 (by decide +kernel) ?_
        refine pk_v (va_runV (As := [.int 3]) (rest := []) ⟨hx, hb, hml, hown, hts⟩ (s_X12_settle l D t σ I_5 J_6 ri rj rq H.size tg hSH hG.1 this (3 : Int32) hL_this hK_this (rg_w (rg_k (3 : Int32) 3 rfl) (by decide +kernel)) this_a hR_this_a hL_this_a hK_this_a hN_this_a hT_this_a this_pile hR_this_pile hL_this_pile hK_this_pile hN_this_pile hT_this_pile bb f0 fr ba tb nn (K + 1) (by assumption)) (cwV 1 hts (tw_V tw_901 tw_902 tw_903 tw_5 tw_904) rfl rfl rfl cv_yX12_settle_1 ⟨Nat.le_of_ble_eq_true rfl, Nat.le_of_ble_eq_true rfl⟩) ⟨pq_blind, pq_recv hK hP hL_this hK_this (by decide +kernel) rfl, pq_pre hK hN hP hD⟩ rfl rfl hl.1 rfl (lv_room (Nat.le_of_ble_eq_true rfl)) dX12_behindOne_73 ⟨Nat.le_of_ble_eq_true rfl, Nat.le_of_ble_eq_true rfl⟩) hD hS hA (fun σ1 μ1 H locs hw_37 hP hD hS => ?_)
        obtain ⟨I_38, ri_39, hu_40, hg_41, hp_43, hp_44, hp_45, hp_46, hp_47, hfn_48, hfr_49⟩ := hw_37
        obtain ⟨hu_40a, hu_40b⟩ := Prod.mk.inj hu_40
        rw [hu_40a, hu_40b] at hP hD
        replace hF := hF.trans (bv_n hfn_48)
        replace hFr := fr_tr hFr hfr_49
        have tt_50 := hp_47
        have hG := GM.tr hG hg_41 (by decide +kernel)
        have tt_51 : (I_38 396 this).toInt = (I_5 396 this).toInt := by rw [hg_41.2.1 396 (by decide +kernel) (by decide +kernel)]
        have tt_52 : (I_38 402 this).toInt = (I_5 402 this).toInt := by rw [hg_41.2.1 402 (by decide +kernel) (by decide +kernel)]
        have tt_53 : (I_38 391 this).toInt = (I_5 391 this).toInt := by rw [hg_41.2.1 391 (by decide +kernel) (by decide +kernel)]
        have tt_54 : (I_38 393 this).toInt = (I_5 393 this).toInt := by rw [hg_41.2.1 393 (by decide +kernel) (by decide +kernel)]
        have tt_55 : (I_38 397 this).toInt = (I_5 397 this).toInt := by rw [hg_41.2.1 397 (by decide +kernel) (by decide +kernel)]
        refine lv_aload_n hx hb dX12_behindOne_76 rfl (lv_at hl 2 rfl) ?_
        refine lv_iload_n hx hb dX12_behindOne_77 rfl (lv_at hl 1 rfl) ?_
        refine lv_bipush (v := 43) hx hb dX12_behindOne_78 (by decide +kernel) ?_
        refine lv_icmp_ne (tgt := 87) hx hb dX12_behindOne_80 (by decide +kernel) (fun c_56 => ?_) (fun c_56 => ?_)
        · have tc_59 : (I 393 this).toInt ≠ 43 := fun q => c_56 (Int32.toInt_inj.mp q)
          exact (rg_empty (rg_ne c_56 h_34 43 rfl (lo := 44) (hi := 42) (by decide +kernel)) (by decide +kernel)).elim
        · have tc_60 : (I 393 this).toInt = 43 := congrArg Int32.toInt c_56
          refine lv_iconst (v := 3) hx hb dX12_behindOne_83 (by decide +kernel) ?_
          refine lv_goto (tgt := 109) hx hb dX12_behindOne_84 (by decide +kernel) ?_
          have hq3 := PSz_bd hp_43
          refine pk_v (va_runV (As := [.int 3]) (rest := []) ⟨hx, hb, hml, hown, hts⟩ (s_X12_push l D t σ I_38 J_6 ri_39 rj rq H.size tg hSH hG.1 this (3 : Int32) hL_this hK_this (rg_w (rg_k (3 : Int32) 3 rfl) (by decide +kernel)) this_pile hR_this_pile hL_this_pile hK_this_pile hN_this_pile hT_this_pile (by omega)) (cwV 1 hts (tw_V tw_913 tw_914 tw_915 tw_5 tw_916) rfl rfl rfl cv_yX12_push_1 ⟨Nat.le_of_ble_eq_true rfl, Nat.le_of_ble_eq_true rfl⟩) ⟨pq_blind, pq_recv hK hP hL_this hK_this (by decide +kernel) rfl, pq_pre hK hN hP hD⟩ rfl rfl hl.1 rfl (lv_room (Nat.le_of_ble_eq_true rfl)) dX12_behindOne_109 ⟨Nat.le_of_ble_eq_true rfl, Nat.le_of_ble_eq_true rfl⟩) hD hS hA (fun σ1 μ1 H locs hw_62 hP hD hS => ?_)
          obtain ⟨I_63, ri_64, hu_65, hg_66, hp_68, hp_69, hp_70, hfn_71, hfr_72⟩ := hw_62
          obtain ⟨hu_65a, hu_65b⟩ := Prod.mk.inj hu_65
          rw [hu_65a, hu_65b] at hP hD
          replace hF := hF.trans (bv_n hfn_71)
          replace hFr := fr_tr hFr hfr_72
          obtain ⟨v_73, ev_73, hv_73⟩ := hp_68
          have tt_74 : (I_63 401 this).toInt = (I_38 401 this).toInt + 1 := by rw [ev_73, pq_us]; exact hv_73
          have tt_75 : (I_63 403 this).toInt = (I_38 403 this).toInt := by rw [ev_73, pq_uf _ _ _ (by decide +kernel)]
          have hG := GM.tr hG hg_66 (by decide +kernel)
          have tt_76 : (I_63 396 this).toInt = (I_38 396 this).toInt := by rw [hg_66.2.1 396 (by decide +kernel) (by decide +kernel)]
          have tt_77 : (I_63 398 this).toInt = (I_38 398 this).toInt := by rw [hg_66.2.1 398 (by decide +kernel) (by decide +kernel)]
          have tt_78 : (I_63 402 this).toInt = (I_38 402 this).toInt := by rw [hg_66.2.1 402 (by decide +kernel) (by decide +kernel)]
          have tt_79 : (I_63 391 this).toInt = (I_38 391 this).toInt := by rw [hg_66.2.1 391 (by decide +kernel) (by decide +kernel)]
          have tt_80 : (I_63 393 this).toInt = (I_38 393 this).toInt := by rw [hg_66.2.1 393 (by decide +kernel) (by decide +kernel)]
          have tt_81 : (I_63 397 this).toInt = (I_38 397 this).toInt := by rw [hg_66.2.1 397 (by decide +kernel) (by decide +kernel)]
          refine lv_aload_n hx hb dX12_behindOne_112 rfl (lv_at hl 2 rfl) ?_
          refine lv_iconst (v := 0) hx hb dX12_behindOne_113 (by decide +kernel) ?_
          refine pp_i (v := 0) (ty := .boolean) (C := RX12) (T := TX12) (N := 31) hx hb hts (tw_i inlX12) tyX12 tyX12_ok nmX12 hown hK hP hD hS hL_this hK_this (by decide +kernel) rfl 19 403 (by decide +kernel) (hts _ (tw_c tw_888)) rfl (tyX12_ok 19 (by decide +kernel)) rfl (by decide +kernel) (Nat.le_of_ble_eq_true rfl) (ps_403 _ _ _ _ _) dX12_behindOne_114 (fun I_82 H locs eI_82 hP hD hS => ?_)
          replace hFr := fr_I (f := 403) hFr hO_this (by decide +kernel) eI_82
          replace hF := hF.trans (ap_n (vI_st (f := 403) hO_this (by decide +kernel) eI_82))
          have hG := GM.wI hG 403 rfl eI_82 (rg_w (rg_k (0 : Int32) 0 rfl) (by decide +kernel)) (by decide +kernel)
          have tt_83 : (I_82 396 this).toInt = (I_63 396 this).toInt := by rw [eI_82, pq_uf _ _ _ (by decide +kernel)]
          have tt_84 : (I_82 398 this).toInt = (I_63 398 this).toInt := by rw [eI_82, pq_uf _ _ _ (by decide +kernel)]
          have tt_85 : (I_82 401 this).toInt = (I_63 401 this).toInt := by rw [eI_82, pq_uf _ _ _ (by decide +kernel)]
          have tt_86 : (I_82 402 this).toInt = (I_63 402 this).toInt := by rw [eI_82, pq_uf _ _ _ (by decide +kernel)]
          have tt_87 : (I_82 391 this).toInt = (I_63 391 this).toInt := by rw [eI_82, pq_uf _ _ _ (by decide +kernel)]
          have tt_88 : (I_82 393 this).toInt = (I_63 393 this).toInt := by rw [eI_82, pq_uf _ _ _ (by decide +kernel)]
          have tt_89 : (I_82 403 this).toInt = 0 := by rw [eI_82, pq_us]; rfl
          have tt_90 : (I_82 397 this).toInt = (I_63 397 this).toInt := by rw [eI_82, pq_uf _ _ _ (by decide +kernel)]
          subst hQ
          exact W.vret hx hb hr (fun t1 ht hW => ⟨⟨(σ, I_82, J_6, ri_64, rj, rq), rfl, ⟨I_82, J_6, ri_64, rfl, hG, (by rw [show (I_82 403 this).toInt = 0 from by omega]; exact PSz_push hp_43 hK0 (x := (3 : Int32)) (by decide +kernel) (PSz_hl hp_43 hp_44 (by decide +kernel)) (by omega) (by omega) (by omega) (by omega) (by omega) (by omega) (hp_70 this_a (tg_ne hT_this_a hT_this_pile (by decide +kernel))) (by rw [show (I_38 401 this).toInt = (I_38 401 this).toInt from by omega]; exact hp_69)), (tm_cg htm (by omega) (by omega) rfl rfl), (hF0.symm.trans hF), hFr⟩, by rw [ht]; exact hP, va_K.moved hW.alike hK, hD⟩, hS.F ht⟩) hS.2.2 dX12_behindOne_117
      · replace hF := hF.trans (if_neg c_29)
        have tc_91 : (I 393 this).toInt ≠ 43 := fun q => c_29 (Int32.toInt_inj.mp q)
        refine lv_iload_n hx hb dX12_behindOne_51 rfl (lv_at hl 0 rfl) ?_
        refine lv_bipush (v := 45) hx hb dX12_behindOne_52 (by decide +kernel) ?_
        refine lv_icmp_ne (tgt := 61) hx hb dX12_behindOne_54 (by decide +kernel) (fun c_92 => ?_) (fun c_92 => ?_)
        · replace hF := hF.trans (if_neg c_92)
          have tc_96 : (I 393 this).toInt ≠ 45 := fun q => c_92 (Int32.toInt_inj.mp q)
          refine lv_iconst (v := 0) hx hb dX12_behindOne_61 (by decide +kernel) ?_
          refine lv_istore_n (lv' := [(2, .int 0), (1, .int (I 393 this)), (0, .ref this)]) hx hb dX12_behindOne_62 rfl hl (by decide +kernel) rfl (fun ls hl => ?_)
          refine lv_aload_n hx hb dX12_behindOne_63 rfl (lv_at hl 2 rfl) ?_
          refine lv_iload_n hx hb dX12_behindOne_64 rfl (lv_at hl 0 rfl) ?_
          refine lv_if_eq (tgt := 72) hx hb dX12_behindOne_65 (by decide +kernel) (fun c_97 => ?_) (fun c_97 => absurd c_97 (by decide +kernel))
          refine lv_iconst (v := 5) hx hb dX12_behindOne_72 (by decide +kernel) ?_
          refine pk_v (va_runV (As := [.int 5]) (rest := []) ⟨hx, hb, hml, hown, hts⟩ (s_X12_settle l D t σ I_5 J_6 ri rj rq H.size tg hSH hG.1 this (5 : Int32) hL_this hK_this (rg_w (rg_k (5 : Int32) 5 rfl) (by decide +kernel)) this_a hR_this_a hL_this_a hK_this_a hN_this_a hT_this_a this_pile hR_this_pile hL_this_pile hK_this_pile hN_this_pile hT_this_pile bb f0 fr ba tb nn (K + 1) (by assumption)) (cwV 1 hts (tw_V tw_901 tw_902 tw_903 tw_5 tw_904) rfl rfl rfl cv_yX12_settle_1 ⟨Nat.le_of_ble_eq_true rfl, Nat.le_of_ble_eq_true rfl⟩) ⟨pq_blind, pq_recv hK hP hL_this hK_this (by decide +kernel) rfl, pq_pre hK hN hP hD⟩ rfl rfl hl.1 rfl (lv_room (Nat.le_of_ble_eq_true rfl)) dX12_behindOne_73 ⟨Nat.le_of_ble_eq_true rfl, Nat.le_of_ble_eq_true rfl⟩) hD hS hA (fun σ1 μ1 H locs hw_99 hP hD hS => ?_)
          obtain ⟨I_100, ri_101, hu_102, hg_103, hp_105, hp_106, hp_107, hp_108, hp_109, hfn_110, hfr_111⟩ := hw_99
          obtain ⟨hu_102a, hu_102b⟩ := Prod.mk.inj hu_102
          rw [hu_102a, hu_102b] at hP hD
          replace hF := hF.trans (bv_n hfn_110)
          replace hFr := fr_tr hFr hfr_111
          have tt_112 := hp_109
          have hG := GM.tr hG hg_103 (by decide +kernel)
          have tt_113 : (I_100 396 this).toInt = (I_5 396 this).toInt := by rw [hg_103.2.1 396 (by decide +kernel) (by decide +kernel)]
          have tt_114 : (I_100 402 this).toInt = (I_5 402 this).toInt := by rw [hg_103.2.1 402 (by decide +kernel) (by decide +kernel)]
          have tt_115 : (I_100 391 this).toInt = (I_5 391 this).toInt := by rw [hg_103.2.1 391 (by decide +kernel) (by decide +kernel)]
          have tt_116 : (I_100 393 this).toInt = (I_5 393 this).toInt := by rw [hg_103.2.1 393 (by decide +kernel) (by decide +kernel)]
          have tt_117 : (I_100 397 this).toInt = (I_5 397 this).toInt := by rw [hg_103.2.1 397 (by decide +kernel) (by decide +kernel)]
          refine lv_aload_n hx hb dX12_behindOne_76 rfl (lv_at hl 2 rfl) ?_
          refine lv_iload_n hx hb dX12_behindOne_77 rfl (lv_at hl 1 rfl) ?_
          refine lv_bipush (v := 43) hx hb dX12_behindOne_78 (by decide +kernel) ?_
          refine lv_icmp_ne (tgt := 87) hx hb dX12_behindOne_80 (by decide +kernel) (fun c_118 => ?_) (fun c_118 => ?_)
          · replace hF := hF.trans (if_neg c_118)
            have tc_122 : (I 393 this).toInt ≠ 43 := fun q => c_118 (Int32.toInt_inj.mp q)
            refine lv_iload_n hx hb dX12_behindOne_87 rfl (lv_at hl 1 rfl) ?_
            refine lv_bipush (v := 45) hx hb dX12_behindOne_88 (by decide +kernel) ?_
            refine lv_icmp_ne (tgt := 97) hx hb dX12_behindOne_90 (by decide +kernel) (fun c_123 => ?_) (fun c_123 => ?_)
            · replace hF := hF.trans (if_neg c_123)
              have tc_127 : (I 393 this).toInt ≠ 45 := fun q => c_123 (Int32.toInt_inj.mp q)
              refine lv_iload_n hx hb dX12_behindOne_97 rfl (lv_at hl 1 rfl) ?_
              refine lv_bipush (v := 42) hx hb dX12_behindOne_98 (by decide +kernel) ?_
              refine lv_icmp_ne (tgt := 107) hx hb dX12_behindOne_100 (by decide +kernel) (fun c_128 => ?_) (fun c_128 => ?_)
              · replace hF := hF.trans (if_neg c_128)
                have tc_132 : (I 393 this).toInt ≠ 42 := fun q => c_128 (Int32.toInt_inj.mp q)
                refine lv_bipush (v := 6) hx hb dX12_behindOne_107 (by decide +kernel) ?_
                have hq3 := PSz_bd hp_105
                refine pk_v (va_runV (As := [.int 6]) (rest := []) ⟨hx, hb, hml, hown, hts⟩ (s_X12_push l D t σ I_100 J_6 ri_101 rj rq H.size tg hSH hG.1 this (6 : Int32) hL_this hK_this (rg_w (rg_k (6 : Int32) 6 rfl) (by decide +kernel)) this_pile hR_this_pile hL_this_pile hK_this_pile hN_this_pile hT_this_pile (by omega)) (cwV 1 hts (tw_V tw_913 tw_914 tw_915 tw_5 tw_916) rfl rfl rfl cv_yX12_push_1 ⟨Nat.le_of_ble_eq_true rfl, Nat.le_of_ble_eq_true rfl⟩) ⟨pq_blind, pq_recv hK hP hL_this hK_this (by decide +kernel) rfl, pq_pre hK hN hP hD⟩ rfl rfl hl.1 rfl (lv_room (Nat.le_of_ble_eq_true rfl)) dX12_behindOne_109 ⟨Nat.le_of_ble_eq_true rfl, Nat.le_of_ble_eq_true rfl⟩) hD hS hA (fun σ1 μ1 H locs hw_134 hP hD hS => ?_)
                obtain ⟨I_135, ri_136, hu_137, hg_138, hp_140, hp_141, hp_142, hfn_143, hfr_144⟩ := hw_134
                obtain ⟨hu_137a, hu_137b⟩ := Prod.mk.inj hu_137
                rw [hu_137a, hu_137b] at hP hD
                replace hF := hF.trans (bv_n hfn_143)
                replace hFr := fr_tr hFr hfr_144
                obtain ⟨v_145, ev_145, hv_145⟩ := hp_140
                have tt_146 : (I_135 401 this).toInt = (I_100 401 this).toInt + 1 := by rw [ev_145, pq_us]; exact hv_145
                have tt_147 : (I_135 403 this).toInt = (I_100 403 this).toInt := by rw [ev_145, pq_uf _ _ _ (by decide +kernel)]
                have hG := GM.tr hG hg_138 (by decide +kernel)
                have tt_148 : (I_135 396 this).toInt = (I_100 396 this).toInt := by rw [hg_138.2.1 396 (by decide +kernel) (by decide +kernel)]
                have tt_149 : (I_135 398 this).toInt = (I_100 398 this).toInt := by rw [hg_138.2.1 398 (by decide +kernel) (by decide +kernel)]
                have tt_150 : (I_135 402 this).toInt = (I_100 402 this).toInt := by rw [hg_138.2.1 402 (by decide +kernel) (by decide +kernel)]
                have tt_151 : (I_135 391 this).toInt = (I_100 391 this).toInt := by rw [hg_138.2.1 391 (by decide +kernel) (by decide +kernel)]
                have tt_152 : (I_135 393 this).toInt = (I_100 393 this).toInt := by rw [hg_138.2.1 393 (by decide +kernel) (by decide +kernel)]
                have tt_153 : (I_135 397 this).toInt = (I_100 397 this).toInt := by rw [hg_138.2.1 397 (by decide +kernel) (by decide +kernel)]
                refine lv_aload_n hx hb dX12_behindOne_112 rfl (lv_at hl 2 rfl) ?_
                refine lv_iconst (v := 0) hx hb dX12_behindOne_113 (by decide +kernel) ?_
                refine pp_i (v := 0) (ty := .boolean) (C := RX12) (T := TX12) (N := 31) hx hb hts (tw_i inlX12) tyX12 tyX12_ok nmX12 hown hK hP hD hS hL_this hK_this (by decide +kernel) rfl 19 403 (by decide +kernel) (hts _ (tw_c tw_888)) rfl (tyX12_ok 19 (by decide +kernel)) rfl (by decide +kernel) (Nat.le_of_ble_eq_true rfl) (ps_403 _ _ _ _ _) dX12_behindOne_114 (fun I_154 H locs eI_154 hP hD hS => ?_)
                replace hFr := fr_I (f := 403) hFr hO_this (by decide +kernel) eI_154
                replace hF := hF.trans (ap_n (vI_st (f := 403) hO_this (by decide +kernel) eI_154))
                have hG := GM.wI hG 403 rfl eI_154 (rg_w (rg_k (0 : Int32) 0 rfl) (by decide +kernel)) (by decide +kernel)
                have tt_155 : (I_154 396 this).toInt = (I_135 396 this).toInt := by rw [eI_154, pq_uf _ _ _ (by decide +kernel)]
                have tt_156 : (I_154 398 this).toInt = (I_135 398 this).toInt := by rw [eI_154, pq_uf _ _ _ (by decide +kernel)]
                have tt_157 : (I_154 401 this).toInt = (I_135 401 this).toInt := by rw [eI_154, pq_uf _ _ _ (by decide +kernel)]
                have tt_158 : (I_154 402 this).toInt = (I_135 402 this).toInt := by rw [eI_154, pq_uf _ _ _ (by decide +kernel)]
                have tt_159 : (I_154 391 this).toInt = (I_135 391 this).toInt := by rw [eI_154, pq_uf _ _ _ (by decide +kernel)]
                have tt_160 : (I_154 393 this).toInt = (I_135 393 this).toInt := by rw [eI_154, pq_uf _ _ _ (by decide +kernel)]
                have tt_161 : (I_154 403 this).toInt = 0 := by rw [eI_154, pq_us]; rfl
                have tt_162 : (I_154 397 this).toInt = (I_135 397 this).toInt := by rw [eI_154, pq_uf _ _ _ (by decide +kernel)]
                subst hQ
                exact W.vret hx hb hr (fun t1 ht hW => ⟨⟨(σ, I_154, J_6, ri_136, rj, rq), rfl, ⟨I_154, J_6, ri_136, rfl, hG, (by rw [show (I_154 403 this).toInt = 0 from by omega]; exact PSz_push hp_105 hK0 (x := (6 : Int32)) (by decide +kernel) (PSz_hl hp_105 hp_106 (by decide +kernel)) (by omega) (by omega) (by omega) (by omega) (by omega) (by omega) (hp_142 this_a (tg_ne hT_this_a hT_this_pile (by decide +kernel))) (by rw [show (I_100 401 this).toInt = (I_100 401 this).toInt from by omega]; exact hp_141)), (tm_cg htm (by omega) (by omega) rfl rfl), (hF0.symm.trans hF), hFr⟩, by rw [ht]; exact hP, va_K.moved hW.alike hK, hD⟩, hS.F ht⟩) hS.2.2 dX12_behindOne_117
              · replace hF := hF.trans (if_pos c_128)
                have tc_163 : (I 393 this).toInt = 42 := congrArg Int32.toInt c_128
                have h_164 : rg (I 393 this) 42 42 := rg_and (rg_full _) (rg_of_eq c_128 (rg_k (42 : Int32) 42 rfl)) (by decide +kernel)
                have uh_164 := h_164.1
                have vh_164 := h_164.2
                refine lv_iconst (v := 5) hx hb dX12_behindOne_103 (by decide +kernel) ?_
                refine lv_goto (tgt := 109) hx hb dX12_behindOne_104 (by decide +kernel) ?_
                have hq3 := PSz_bd hp_105
                refine pk_v (va_runV (As := [.int 5]) (rest := []) ⟨hx, hb, hml, hown, hts⟩ (s_X12_push l D t σ I_100 J_6 ri_101 rj rq H.size tg hSH hG.1 this (5 : Int32) hL_this hK_this (rg_w (rg_k (5 : Int32) 5 rfl) (by decide +kernel)) this_pile hR_this_pile hL_this_pile hK_this_pile hN_this_pile hT_this_pile (by omega)) (cwV 1 hts (tw_V tw_913 tw_914 tw_915 tw_5 tw_916) rfl rfl rfl cv_yX12_push_1 ⟨Nat.le_of_ble_eq_true rfl, Nat.le_of_ble_eq_true rfl⟩) ⟨pq_blind, pq_recv hK hP hL_this hK_this (by decide +kernel) rfl, pq_pre hK hN hP hD⟩ rfl rfl hl.1 rfl (lv_room (Nat.le_of_ble_eq_true rfl)) dX12_behindOne_109 ⟨Nat.le_of_ble_eq_true rfl, Nat.le_of_ble_eq_true rfl⟩) hD hS hA (fun σ1 μ1 H locs hw_166 hP hD hS => ?_)
                obtain ⟨I_167, ri_168, hu_169, hg_170, hp_172, hp_173, hp_174, hfn_175, hfr_176⟩ := hw_166
                obtain ⟨hu_169a, hu_169b⟩ := Prod.mk.inj hu_169
                rw [hu_169a, hu_169b] at hP hD
                replace hF := hF.trans (bv_n hfn_175)
                replace hFr := fr_tr hFr hfr_176
                obtain ⟨v_177, ev_177, hv_177⟩ := hp_172
                have tt_178 : (I_167 401 this).toInt = (I_100 401 this).toInt + 1 := by rw [ev_177, pq_us]; exact hv_177
                have tt_179 : (I_167 403 this).toInt = (I_100 403 this).toInt := by rw [ev_177, pq_uf _ _ _ (by decide +kernel)]
                have hG := GM.tr hG hg_170 (by decide +kernel)
                have tt_180 : (I_167 396 this).toInt = (I_100 396 this).toInt := by rw [hg_170.2.1 396 (by decide +kernel) (by decide +kernel)]
                have tt_181 : (I_167 398 this).toInt = (I_100 398 this).toInt := by rw [hg_170.2.1 398 (by decide +kernel) (by decide +kernel)]
                have tt_182 : (I_167 402 this).toInt = (I_100 402 this).toInt := by rw [hg_170.2.1 402 (by decide +kernel) (by decide +kernel)]
                have tt_183 : (I_167 391 this).toInt = (I_100 391 this).toInt := by rw [hg_170.2.1 391 (by decide +kernel) (by decide +kernel)]
                have tt_184 : (I_167 393 this).toInt = (I_100 393 this).toInt := by rw [hg_170.2.1 393 (by decide +kernel) (by decide +kernel)]
                have tt_185 : (I_167 397 this).toInt = (I_100 397 this).toInt := by rw [hg_170.2.1 397 (by decide +kernel) (by decide +kernel)]
                refine lv_aload_n hx hb dX12_behindOne_112 rfl (lv_at hl 2 rfl) ?_
                refine lv_iconst (v := 0) hx hb dX12_behindOne_113 (by decide +kernel) ?_
                refine pp_i (v := 0) (ty := .boolean) (C := RX12) (T := TX12) (N := 31) hx hb hts (tw_i inlX12) tyX12 tyX12_ok nmX12 hown hK hP hD hS hL_this hK_this (by decide +kernel) rfl 19 403 (by decide +kernel) (hts _ (tw_c tw_888)) rfl (tyX12_ok 19 (by decide +kernel)) rfl (by decide +kernel) (Nat.le_of_ble_eq_true rfl) (ps_403 _ _ _ _ _) dX12_behindOne_114 (fun I_186 H locs eI_186 hP hD hS => ?_)
                replace hFr := fr_I (f := 403) hFr hO_this (by decide +kernel) eI_186
                replace hF := hF.trans (ap_n (vI_st (f := 403) hO_this (by decide +kernel) eI_186))
                have hG := GM.wI hG 403 rfl eI_186 (rg_w (rg_k (0 : Int32) 0 rfl) (by decide +kernel)) (by decide +kernel)
                have tt_187 : (I_186 396 this).toInt = (I_167 396 this).toInt := by rw [eI_186, pq_uf _ _ _ (by decide +kernel)]
                have tt_188 : (I_186 398 this).toInt = (I_167 398 this).toInt := by rw [eI_186, pq_uf _ _ _ (by decide +kernel)]
                have tt_189 : (I_186 401 this).toInt = (I_167 401 this).toInt := by rw [eI_186, pq_uf _ _ _ (by decide +kernel)]
                have tt_190 : (I_186 402 this).toInt = (I_167 402 this).toInt := by rw [eI_186, pq_uf _ _ _ (by decide +kernel)]
                have tt_191 : (I_186 391 this).toInt = (I_167 391 this).toInt := by rw [eI_186, pq_uf _ _ _ (by decide +kernel)]
                have tt_192 : (I_186 393 this).toInt = (I_167 393 this).toInt := by rw [eI_186, pq_uf _ _ _ (by decide +kernel)]
                have tt_193 : (I_186 403 this).toInt = 0 := by rw [eI_186, pq_us]; rfl
                have tt_194 : (I_186 397 this).toInt = (I_167 397 this).toInt := by rw [eI_186, pq_uf _ _ _ (by decide +kernel)]
                subst hQ
                exact W.vret hx hb hr (fun t1 ht hW => ⟨⟨(σ, I_186, J_6, ri_168, rj, rq), rfl, ⟨I_186, J_6, ri_168, rfl, hG, (by rw [show (I_186 403 this).toInt = 0 from by omega]; exact PSz_push hp_105 hK0 (x := (5 : Int32)) (by decide +kernel) (PSz_hl hp_105 hp_106 (by decide +kernel)) (by omega) (by omega) (by omega) (by omega) (by omega) (by omega) (hp_174 this_a (tg_ne hT_this_a hT_this_pile (by decide +kernel))) (by rw [show (I_100 401 this).toInt = (I_100 401 this).toInt from by omega]; exact hp_173)), (tm_cg htm (by omega) (by omega) rfl rfl), (hF0.symm.trans hF), hFr⟩, by rw [ht]; exact hP, va_K.moved hW.alike hK, hD⟩, hS.F ht⟩) hS.2.2 dX12_behindOne_117
            · replace hF := hF.trans (if_pos c_123)
              have tc_195 : (I 393 this).toInt = 45 := congrArg Int32.toInt c_123
              have h_196 : rg (I 393 this) 45 45 := rg_and (rg_full _) (rg_of_eq c_123 (rg_k (45 : Int32) 45 rfl)) (by decide +kernel)
              have uh_196 := h_196.1
              have vh_196 := h_196.2
              refine lv_iconst (v := 4) hx hb dX12_behindOne_93 (by decide +kernel) ?_
              refine lv_goto (tgt := 109) hx hb dX12_behindOne_94 (by decide +kernel) ?_
              have hq3 := PSz_bd hp_105
              refine pk_v (va_runV (As := [.int 4]) (rest := []) ⟨hx, hb, hml, hown, hts⟩ (s_X12_push l D t σ I_100 J_6 ri_101 rj rq H.size tg hSH hG.1 this (4 : Int32) hL_this hK_this (rg_w (rg_k (4 : Int32) 4 rfl) (by decide +kernel)) this_pile hR_this_pile hL_this_pile hK_this_pile hN_this_pile hT_this_pile (by omega)) (cwV 1 hts (tw_V tw_913 tw_914 tw_915 tw_5 tw_916) rfl rfl rfl cv_yX12_push_1 ⟨Nat.le_of_ble_eq_true rfl, Nat.le_of_ble_eq_true rfl⟩) ⟨pq_blind, pq_recv hK hP hL_this hK_this (by decide +kernel) rfl, pq_pre hK hN hP hD⟩ rfl rfl hl.1 rfl (lv_room (Nat.le_of_ble_eq_true rfl)) dX12_behindOne_109 ⟨Nat.le_of_ble_eq_true rfl, Nat.le_of_ble_eq_true rfl⟩) hD hS hA (fun σ1 μ1 H locs hw_198 hP hD hS => ?_)
              obtain ⟨I_199, ri_200, hu_201, hg_202, hp_204, hp_205, hp_206, hfn_207, hfr_208⟩ := hw_198
              obtain ⟨hu_201a, hu_201b⟩ := Prod.mk.inj hu_201
              rw [hu_201a, hu_201b] at hP hD
              replace hF := hF.trans (bv_n hfn_207)
              replace hFr := fr_tr hFr hfr_208
              obtain ⟨v_209, ev_209, hv_209⟩ := hp_204
              have tt_210 : (I_199 401 this).toInt = (I_100 401 this).toInt + 1 := by rw [ev_209, pq_us]; exact hv_209
              have tt_211 : (I_199 403 this).toInt = (I_100 403 this).toInt := by rw [ev_209, pq_uf _ _ _ (by decide +kernel)]
              have hG := GM.tr hG hg_202 (by decide +kernel)
              have tt_212 : (I_199 396 this).toInt = (I_100 396 this).toInt := by rw [hg_202.2.1 396 (by decide +kernel) (by decide +kernel)]
              have tt_213 : (I_199 398 this).toInt = (I_100 398 this).toInt := by rw [hg_202.2.1 398 (by decide +kernel) (by decide +kernel)]
              have tt_214 : (I_199 402 this).toInt = (I_100 402 this).toInt := by rw [hg_202.2.1 402 (by decide +kernel) (by decide +kernel)]
              have tt_215 : (I_199 391 this).toInt = (I_100 391 this).toInt := by rw [hg_202.2.1 391 (by decide +kernel) (by decide +kernel)]
              have tt_216 : (I_199 393 this).toInt = (I_100 393 this).toInt := by rw [hg_202.2.1 393 (by decide +kernel) (by decide +kernel)]
              have tt_217 : (I_199 397 this).toInt = (I_100 397 this).toInt := by rw [hg_202.2.1 397 (by decide +kernel) (by decide +kernel)]
              refine lv_aload_n hx hb dX12_behindOne_112 rfl (lv_at hl 2 rfl) ?_
              refine lv_iconst (v := 0) hx hb dX12_behindOne_113 (by decide +kernel) ?_
              refine pp_i (v := 0) (ty := .boolean) (C := RX12) (T := TX12) (N := 31) hx hb hts (tw_i inlX12) tyX12 tyX12_ok nmX12 hown hK hP hD hS hL_this hK_this (by decide +kernel) rfl 19 403 (by decide +kernel) (hts _ (tw_c tw_888)) rfl (tyX12_ok 19 (by decide +kernel)) rfl (by decide +kernel) (Nat.le_of_ble_eq_true rfl) (ps_403 _ _ _ _ _) dX12_behindOne_114 (fun I_218 H locs eI_218 hP hD hS => ?_)
              replace hFr := fr_I (f := 403) hFr hO_this (by decide +kernel) eI_218
              replace hF := hF.trans (ap_n (vI_st (f := 403) hO_this (by decide +kernel) eI_218))
              have hG := GM.wI hG 403 rfl eI_218 (rg_w (rg_k (0 : Int32) 0 rfl) (by decide +kernel)) (by decide +kernel)
              have tt_219 : (I_218 396 this).toInt = (I_199 396 this).toInt := by rw [eI_218, pq_uf _ _ _ (by decide +kernel)]
              have tt_220 : (I_218 398 this).toInt = (I_199 398 this).toInt := by rw [eI_218, pq_uf _ _ _ (by decide +kernel)]
              have tt_221 : (I_218 401 this).toInt = (I_199 401 this).toInt := by rw [eI_218, pq_uf _ _ _ (by decide +kernel)]
              have tt_222 : (I_218 402 this).toInt = (I_199 402 this).toInt := by rw [eI_218, pq_uf _ _ _ (by decide +kernel)]
              have tt_223 : (I_218 391 this).toInt = (I_199 391 this).toInt := by rw [eI_218, pq_uf _ _ _ (by decide +kernel)]
              have tt_224 : (I_218 393 this).toInt = (I_199 393 this).toInt := by rw [eI_218, pq_uf _ _ _ (by decide +kernel)]
              have tt_225 : (I_218 403 this).toInt = 0 := by rw [eI_218, pq_us]; rfl
              have tt_226 : (I_218 397 this).toInt = (I_199 397 this).toInt := by rw [eI_218, pq_uf _ _ _ (by decide +kernel)]
              subst hQ
              exact W.vret hx hb hr (fun t1 ht hW => ⟨⟨(σ, I_218, J_6, ri_200, rj, rq), rfl, ⟨I_218, J_6, ri_200, rfl, hG, (by exfalso; omega), (tm_cg htm (by omega) (by omega) rfl rfl), (hF0.symm.trans hF), hFr⟩, by rw [ht]; exact hP, va_K.moved hW.alike hK, hD⟩, hS.F ht⟩) hS.2.2 dX12_behindOne_117
          · replace hF := hF.trans (if_pos c_118)
            have tc_227 : (I 393 this).toInt = 43 := congrArg Int32.toInt c_118
            have h_228 : rg (I 393 this) 43 43 := rg_and (rg_full _) (rg_of_eq c_118 (rg_k (43 : Int32) 43 rfl)) (by decide +kernel)
            have uh_228 := h_228.1
            have vh_228 := h_228.2
            refine lv_iconst (v := 3) hx hb dX12_behindOne_83 (by decide +kernel) ?_
            refine lv_goto (tgt := 109) hx hb dX12_behindOne_84 (by decide +kernel) ?_
            have hq3 := PSz_bd hp_105
            refine pk_v (va_runV (As := [.int 3]) (rest := []) ⟨hx, hb, hml, hown, hts⟩ (s_X12_push l D t σ I_100 J_6 ri_101 rj rq H.size tg hSH hG.1 this (3 : Int32) hL_this hK_this (rg_w (rg_k (3 : Int32) 3 rfl) (by decide +kernel)) this_pile hR_this_pile hL_this_pile hK_this_pile hN_this_pile hT_this_pile (by omega)) (cwV 1 hts (tw_V tw_913 tw_914 tw_915 tw_5 tw_916) rfl rfl rfl cv_yX12_push_1 ⟨Nat.le_of_ble_eq_true rfl, Nat.le_of_ble_eq_true rfl⟩) ⟨pq_blind, pq_recv hK hP hL_this hK_this (by decide +kernel) rfl, pq_pre hK hN hP hD⟩ rfl rfl hl.1 rfl (lv_room (Nat.le_of_ble_eq_true rfl)) dX12_behindOne_109 ⟨Nat.le_of_ble_eq_true rfl, Nat.le_of_ble_eq_true rfl⟩) hD hS hA (fun σ1 μ1 H locs hw_230 hP hD hS => ?_)
            obtain ⟨I_231, ri_232, hu_233, hg_234, hp_236, hp_237, hp_238, hfn_239, hfr_240⟩ := hw_230
            obtain ⟨hu_233a, hu_233b⟩ := Prod.mk.inj hu_233
            rw [hu_233a, hu_233b] at hP hD
            replace hF := hF.trans (bv_n hfn_239)
            replace hFr := fr_tr hFr hfr_240
            obtain ⟨v_241, ev_241, hv_241⟩ := hp_236
            have tt_242 : (I_231 401 this).toInt = (I_100 401 this).toInt + 1 := by rw [ev_241, pq_us]; exact hv_241
            have tt_243 : (I_231 403 this).toInt = (I_100 403 this).toInt := by rw [ev_241, pq_uf _ _ _ (by decide +kernel)]
            have hG := GM.tr hG hg_234 (by decide +kernel)
            have tt_244 : (I_231 396 this).toInt = (I_100 396 this).toInt := by rw [hg_234.2.1 396 (by decide +kernel) (by decide +kernel)]
            have tt_245 : (I_231 398 this).toInt = (I_100 398 this).toInt := by rw [hg_234.2.1 398 (by decide +kernel) (by decide +kernel)]
            have tt_246 : (I_231 402 this).toInt = (I_100 402 this).toInt := by rw [hg_234.2.1 402 (by decide +kernel) (by decide +kernel)]
            have tt_247 : (I_231 391 this).toInt = (I_100 391 this).toInt := by rw [hg_234.2.1 391 (by decide +kernel) (by decide +kernel)]
            have tt_248 : (I_231 393 this).toInt = (I_100 393 this).toInt := by rw [hg_234.2.1 393 (by decide +kernel) (by decide +kernel)]
            have tt_249 : (I_231 397 this).toInt = (I_100 397 this).toInt := by rw [hg_234.2.1 397 (by decide +kernel) (by decide +kernel)]
            refine lv_aload_n hx hb dX12_behindOne_112 rfl (lv_at hl 2 rfl) ?_
            refine lv_iconst (v := 0) hx hb dX12_behindOne_113 (by decide +kernel) ?_
            refine pp_i (v := 0) (ty := .boolean) (C := RX12) (T := TX12) (N := 31) hx hb hts (tw_i inlX12) tyX12 tyX12_ok nmX12 hown hK hP hD hS hL_this hK_this (by decide +kernel) rfl 19 403 (by decide +kernel) (hts _ (tw_c tw_888)) rfl (tyX12_ok 19 (by decide +kernel)) rfl (by decide +kernel) (Nat.le_of_ble_eq_true rfl) (ps_403 _ _ _ _ _) dX12_behindOne_114 (fun I_250 H locs eI_250 hP hD hS => ?_)
            replace hFr := fr_I (f := 403) hFr hO_this (by decide +kernel) eI_250
            replace hF := hF.trans (ap_n (vI_st (f := 403) hO_this (by decide +kernel) eI_250))
            have hG := GM.wI hG 403 rfl eI_250 (rg_w (rg_k (0 : Int32) 0 rfl) (by decide +kernel)) (by decide +kernel)
            have tt_251 : (I_250 396 this).toInt = (I_231 396 this).toInt := by rw [eI_250, pq_uf _ _ _ (by decide +kernel)]
            have tt_252 : (I_250 398 this).toInt = (I_231 398 this).toInt := by rw [eI_250, pq_uf _ _ _ (by decide +kernel)]
            have tt_253 : (I_250 401 this).toInt = (I_231 401 this).toInt := by rw [eI_250, pq_uf _ _ _ (by decide +kernel)]
            have tt_254 : (I_250 402 this).toInt = (I_231 402 this).toInt := by rw [eI_250, pq_uf _ _ _ (by decide +kernel)]
            have tt_255 : (I_250 391 this).toInt = (I_231 391 this).toInt := by rw [eI_250, pq_uf _ _ _ (by decide +kernel)]
            have tt_256 : (I_250 393 this).toInt = (I_231 393 this).toInt := by rw [eI_250, pq_uf _ _ _ (by decide +kernel)]
            have tt_257 : (I_250 403 this).toInt = 0 := by rw [eI_250, pq_us]; rfl
            have tt_258 : (I_250 397 this).toInt = (I_231 397 this).toInt := by rw [eI_250, pq_uf _ _ _ (by decide +kernel)]
            subst hQ
            exact W.vret hx hb hr (fun t1 ht hW => ⟨⟨(σ, I_250, J_6, ri_232, rj, rq), rfl, ⟨I_250, J_6, ri_232, rfl, hG, (by exfalso; omega), (tm_cg htm (by omega) (by omega) rfl rfl), (hF0.symm.trans hF), hFr⟩, by rw [ht]; exact hP, va_K.moved hW.alike hK, hD⟩, hS.F ht⟩) hS.2.2 dX12_behindOne_117
        · replace hF := hF.trans (if_pos c_92)
          have tc_259 : (I 393 this).toInt = 45 := congrArg Int32.toInt c_92
          have h_260 : rg (I 393 this) 45 45 := rg_and (rg_full _) (rg_of_eq c_92 (rg_k (45 : Int32) 45 rfl)) (by decide +kernel)
          have uh_260 := h_260.1
          have vh_260 := h_260.2
          refine lv_iconst (v := 1) hx hb dX12_behindOne_57 (by decide +kernel) ?_
          refine lv_goto (tgt := 62) hx hb dX12_behindOne_58 (by decide +kernel) ?_
          refine lv_istore_n (lv' := [(2, .int 1), (1, .int (I 393 this)), (0, .ref this)]) hx hb dX12_behindOne_62 rfl hl (by decide +kernel) rfl (fun ls hl => ?_)
          refine lv_aload_n hx hb dX12_behindOne_63 rfl (lv_at hl 2 rfl) ?_
          refine lv_iload_n hx hb dX12_behindOne_64 rfl (lv_at hl 0 rfl) ?_
          refine lv_if_eq (tgt := 72) hx hb dX12_behindOne_65 (by decide +kernel) (fun c_261 => absurd c_261 (by decide +kernel)) (fun c_261 => ?_)
          refine lv_iconst (v := 3) hx hb dX12_behindOne_68 (by decide +kernel) ?_
          refine lv_goto (tgt := 73) hx hb dX12_behindOne_69 (by decide +kernel) ?_
          refine pk_v (va_runV (As := [.int 3]) (rest := []) ⟨hx, hb, hml, hown, hts⟩ (s_X12_settle l D t σ I_5 J_6 ri rj rq H.size tg hSH hG.1 this (3 : Int32) hL_this hK_this (rg_w (rg_k (3 : Int32) 3 rfl) (by decide +kernel)) this_a hR_this_a hL_this_a hK_this_a hN_this_a hT_this_a this_pile hR_this_pile hL_this_pile hK_this_pile hN_this_pile hT_this_pile bb f0 fr ba tb nn (K + 1) (by assumption)) (cwV 1 hts (tw_V tw_901 tw_902 tw_903 tw_5 tw_904) rfl rfl rfl cv_yX12_settle_1 ⟨Nat.le_of_ble_eq_true rfl, Nat.le_of_ble_eq_true rfl⟩) ⟨pq_blind, pq_recv hK hP hL_this hK_this (by decide +kernel) rfl, pq_pre hK hN hP hD⟩ rfl rfl hl.1 rfl (lv_room (Nat.le_of_ble_eq_true rfl)) dX12_behindOne_73 ⟨Nat.le_of_ble_eq_true rfl, Nat.le_of_ble_eq_true rfl⟩) hD hS hA (fun σ1 μ1 H locs hw_263 hP hD hS => ?_)
          obtain ⟨I_264, ri_265, hu_266, hg_267, hp_269, hp_270, hp_271, hp_272, hp_273, hfn_274, hfr_275⟩ := hw_263
          obtain ⟨hu_266a, hu_266b⟩ := Prod.mk.inj hu_266
          rw [hu_266a, hu_266b] at hP hD
          replace hF := hF.trans (bv_n hfn_274)
          replace hFr := fr_tr hFr hfr_275
          have tt_276 := hp_273
          have hG := GM.tr hG hg_267 (by decide +kernel)
          have tt_277 : (I_264 396 this).toInt = (I_5 396 this).toInt := by rw [hg_267.2.1 396 (by decide +kernel) (by decide +kernel)]
          have tt_278 : (I_264 402 this).toInt = (I_5 402 this).toInt := by rw [hg_267.2.1 402 (by decide +kernel) (by decide +kernel)]
          have tt_279 : (I_264 391 this).toInt = (I_5 391 this).toInt := by rw [hg_267.2.1 391 (by decide +kernel) (by decide +kernel)]
          have tt_280 : (I_264 393 this).toInt = (I_5 393 this).toInt := by rw [hg_267.2.1 393 (by decide +kernel) (by decide +kernel)]
          have tt_281 : (I_264 397 this).toInt = (I_5 397 this).toInt := by rw [hg_267.2.1 397 (by decide +kernel) (by decide +kernel)]
          refine lv_aload_n hx hb dX12_behindOne_76 rfl (lv_at hl 2 rfl) ?_
          refine lv_iload_n hx hb dX12_behindOne_77 rfl (lv_at hl 1 rfl) ?_
          refine lv_bipush (v := 43) hx hb dX12_behindOne_78 (by decide +kernel) ?_
          refine lv_icmp_ne (tgt := 87) hx hb dX12_behindOne_80 (by decide +kernel) (fun c_282 => ?_) (fun c_282 => ?_)
          · have tc_285 : (I 393 this).toInt ≠ 43 := fun q => c_282 (Int32.toInt_inj.mp q)
            refine lv_iload_n hx hb dX12_behindOne_87 rfl (lv_at hl 1 rfl) ?_
            refine lv_bipush (v := 45) hx hb dX12_behindOne_88 (by decide +kernel) ?_
            refine lv_icmp_ne (tgt := 97) hx hb dX12_behindOne_90 (by decide +kernel) (fun c_286 => ?_) (fun c_286 => ?_)
            · have tc_289 : (I 393 this).toInt ≠ 45 := fun q => c_286 (Int32.toInt_inj.mp q)
              exact (rg_empty (rg_ne c_286 h_260 45 rfl (lo := 46) (hi := 44) (by decide +kernel)) (by decide +kernel)).elim
            · have tc_290 : (I 393 this).toInt = 45 := congrArg Int32.toInt c_286
              refine lv_iconst (v := 4) hx hb dX12_behindOne_93 (by decide +kernel) ?_
              refine lv_goto (tgt := 109) hx hb dX12_behindOne_94 (by decide +kernel) ?_
              have hq3 := PSz_bd hp_269
              refine pk_v (va_runV (As := [.int 4]) (rest := []) ⟨hx, hb, hml, hown, hts⟩ (s_X12_push l D t σ I_264 J_6 ri_265 rj rq H.size tg hSH hG.1 this (4 : Int32) hL_this hK_this (rg_w (rg_k (4 : Int32) 4 rfl) (by decide +kernel)) this_pile hR_this_pile hL_this_pile hK_this_pile hN_this_pile hT_this_pile (by omega)) (cwV 1 hts (tw_V tw_913 tw_914 tw_915 tw_5 tw_916) rfl rfl rfl cv_yX12_push_1 ⟨Nat.le_of_ble_eq_true rfl, Nat.le_of_ble_eq_true rfl⟩) ⟨pq_blind, pq_recv hK hP hL_this hK_this (by decide +kernel) rfl, pq_pre hK hN hP hD⟩ rfl rfl hl.1 rfl (lv_room (Nat.le_of_ble_eq_true rfl)) dX12_behindOne_109 ⟨Nat.le_of_ble_eq_true rfl, Nat.le_of_ble_eq_true rfl⟩) hD hS hA (fun σ1 μ1 H locs hw_292 hP hD hS => ?_)
              obtain ⟨I_293, ri_294, hu_295, hg_296, hp_298, hp_299, hp_300, hfn_301, hfr_302⟩ := hw_292
              obtain ⟨hu_295a, hu_295b⟩ := Prod.mk.inj hu_295
              rw [hu_295a, hu_295b] at hP hD
              replace hF := hF.trans (bv_n hfn_301)
              replace hFr := fr_tr hFr hfr_302
              obtain ⟨v_303, ev_303, hv_303⟩ := hp_298
              have tt_304 : (I_293 401 this).toInt = (I_264 401 this).toInt + 1 := by rw [ev_303, pq_us]; exact hv_303
              have tt_305 : (I_293 403 this).toInt = (I_264 403 this).toInt := by rw [ev_303, pq_uf _ _ _ (by decide +kernel)]
              have hG := GM.tr hG hg_296 (by decide +kernel)
              have tt_306 : (I_293 396 this).toInt = (I_264 396 this).toInt := by rw [hg_296.2.1 396 (by decide +kernel) (by decide +kernel)]
              have tt_307 : (I_293 398 this).toInt = (I_264 398 this).toInt := by rw [hg_296.2.1 398 (by decide +kernel) (by decide +kernel)]
              have tt_308 : (I_293 402 this).toInt = (I_264 402 this).toInt := by rw [hg_296.2.1 402 (by decide +kernel) (by decide +kernel)]
              have tt_309 : (I_293 391 this).toInt = (I_264 391 this).toInt := by rw [hg_296.2.1 391 (by decide +kernel) (by decide +kernel)]
              have tt_310 : (I_293 393 this).toInt = (I_264 393 this).toInt := by rw [hg_296.2.1 393 (by decide +kernel) (by decide +kernel)]
              have tt_311 : (I_293 397 this).toInt = (I_264 397 this).toInt := by rw [hg_296.2.1 397 (by decide +kernel) (by decide +kernel)]
              refine lv_aload_n hx hb dX12_behindOne_112 rfl (lv_at hl 2 rfl) ?_
              refine lv_iconst (v := 0) hx hb dX12_behindOne_113 (by decide +kernel) ?_
              refine pp_i (v := 0) (ty := .boolean) (C := RX12) (T := TX12) (N := 31) hx hb hts (tw_i inlX12) tyX12 tyX12_ok nmX12 hown hK hP hD hS hL_this hK_this (by decide +kernel) rfl 19 403 (by decide +kernel) (hts _ (tw_c tw_888)) rfl (tyX12_ok 19 (by decide +kernel)) rfl (by decide +kernel) (Nat.le_of_ble_eq_true rfl) (ps_403 _ _ _ _ _) dX12_behindOne_114 (fun I_312 H locs eI_312 hP hD hS => ?_)
              replace hFr := fr_I (f := 403) hFr hO_this (by decide +kernel) eI_312
              replace hF := hF.trans (ap_n (vI_st (f := 403) hO_this (by decide +kernel) eI_312))
              have hG := GM.wI hG 403 rfl eI_312 (rg_w (rg_k (0 : Int32) 0 rfl) (by decide +kernel)) (by decide +kernel)
              have tt_313 : (I_312 396 this).toInt = (I_293 396 this).toInt := by rw [eI_312, pq_uf _ _ _ (by decide +kernel)]
              have tt_314 : (I_312 398 this).toInt = (I_293 398 this).toInt := by rw [eI_312, pq_uf _ _ _ (by decide +kernel)]
              have tt_315 : (I_312 401 this).toInt = (I_293 401 this).toInt := by rw [eI_312, pq_uf _ _ _ (by decide +kernel)]
              have tt_316 : (I_312 402 this).toInt = (I_293 402 this).toInt := by rw [eI_312, pq_uf _ _ _ (by decide +kernel)]
              have tt_317 : (I_312 391 this).toInt = (I_293 391 this).toInt := by rw [eI_312, pq_uf _ _ _ (by decide +kernel)]
              have tt_318 : (I_312 393 this).toInt = (I_293 393 this).toInt := by rw [eI_312, pq_uf _ _ _ (by decide +kernel)]
              have tt_319 : (I_312 403 this).toInt = 0 := by rw [eI_312, pq_us]; rfl
              have tt_320 : (I_312 397 this).toInt = (I_293 397 this).toInt := by rw [eI_312, pq_uf _ _ _ (by decide +kernel)]
              subst hQ
              exact W.vret hx hb hr (fun t1 ht hW => ⟨⟨(σ, I_312, J_6, ri_294, rj, rq), rfl, ⟨I_312, J_6, ri_294, rfl, hG, (by rw [show (I_312 403 this).toInt = 0 from by omega]; exact PSz_push hp_269 hK0 (x := (4 : Int32)) (by decide +kernel) (PSz_hl hp_269 hp_270 (by decide +kernel)) (by omega) (by omega) (by omega) (by omega) (by omega) (by omega) (hp_300 this_a (tg_ne hT_this_a hT_this_pile (by decide +kernel))) (by rw [show (I_264 401 this).toInt = (I_264 401 this).toInt from by omega]; exact hp_299)), (tm_cg htm (by omega) (by omega) rfl rfl), (hF0.symm.trans hF), hFr⟩, by rw [ht]; exact hP, va_K.moved hW.alike hK, hD⟩, hS.F ht⟩) hS.2.2 dX12_behindOne_117
          · have tc_321 : (I 393 this).toInt = 43 := congrArg Int32.toInt c_282
            exact (rg_empty (rg_and h_260 (rg_of_eq c_282 (rg_k (43 : Int32) 43 rfl)) (lo := 45) (hi := 43) (by decide +kernel)) (by decide +kernel)).elim
    · replace hF := hF.trans (if_pos c_24)
      have tc_322 : (I 393 this).toInt = 41 := congrArg Int32.toInt c_24
      have h_323 : rg (I 393 this) 41 41 := rg_and (rg_full _) (rg_of_eq c_24 (rg_k (41 : Int32) 41 rfl)) (by decide +kernel)
      have uh_323 := h_323.1
      have vh_323 := h_323.2
      refine lv_aload_n hx hb dX12_behindOne_15 rfl (lv_at hl 1 rfl) ?_
      refine lv_iconst (v := 3) hx hb dX12_behindOne_16 (by decide +kernel) ?_
      refine pk_v (va_runV (As := [.int 3]) (rest := []) ⟨hx, hb, hml, hown, hts⟩ (s_X12_settle l D t σ I_5 J_6 ri rj rq H.size tg hSH hG.1 this (3 : Int32) hL_this hK_this (rg_w (rg_k (3 : Int32) 3 rfl) (by decide +kernel)) this_a hR_this_a hL_this_a hK_this_a hN_this_a hT_this_a this_pile hR_this_pile hL_this_pile hK_this_pile hN_this_pile hT_this_pile bb f0 fr ba tb nn (K + 1) (by assumption)) (cwV 1 hts (tw_V tw_901 tw_902 tw_903 tw_5 tw_904) rfl rfl rfl cv_yX12_settle_1 ⟨Nat.le_of_ble_eq_true rfl, Nat.le_of_ble_eq_true rfl⟩) ⟨pq_blind, pq_recv hK hP hL_this hK_this (by decide +kernel) rfl, pq_pre hK hN hP hD⟩ rfl rfl hl.1 rfl (lv_room (Nat.le_of_ble_eq_true rfl)) dX12_behindOne_17 ⟨Nat.le_of_ble_eq_true rfl, Nat.le_of_ble_eq_true rfl⟩) hD hS hA (fun σ1 μ1 H locs hw_325 hP hD hS => ?_)
      obtain ⟨I_326, ri_327, hu_328, hg_329, hp_331, hp_332, hp_333, hp_334, hp_335, hfn_336, hfr_337⟩ := hw_325
      obtain ⟨hu_328a, hu_328b⟩ := Prod.mk.inj hu_328
      rw [hu_328a, hu_328b] at hP hD
      replace hF := hF.trans (bv_n hfn_336)
      replace hFr := fr_tr hFr hfr_337
      have tt_338 := hp_335
      have hG := GM.tr hG hg_329 (by decide +kernel)
      have tt_339 : (I_326 396 this).toInt = (I_5 396 this).toInt := by rw [hg_329.2.1 396 (by decide +kernel) (by decide +kernel)]
      have tt_340 : (I_326 402 this).toInt = (I_5 402 this).toInt := by rw [hg_329.2.1 402 (by decide +kernel) (by decide +kernel)]
      have tt_341 : (I_326 391 this).toInt = (I_5 391 this).toInt := by rw [hg_329.2.1 391 (by decide +kernel) (by decide +kernel)]
      have tt_342 : (I_326 393 this).toInt = (I_5 393 this).toInt := by rw [hg_329.2.1 393 (by decide +kernel) (by decide +kernel)]
      have tt_343 : (I_326 397 this).toInt = (I_5 397 this).toInt := by rw [hg_329.2.1 397 (by decide +kernel) (by decide +kernel)]
      have hpp : 0 < (I_326 401 this).toInt := by obtain ⟨k, hk1, hk2⟩ := hgo.2 (by omega); have q := hp_333 k (by omega) (Or.inr hk2); omega
      have htop : isO (ri_327 this_pile ((I_326 401 this).toInt.toNat - 1)) := by have q := (hp_331.2.1 ((I_326 401 this).toInt.toNat - 1) (by omega)).1; have q2 := hp_332; have z3 : (3 : Int32).toInt = 3 := rfl; unfold isO; omega
      refine lv_aload_n hx hb dX12_behindOne_20 rfl (lv_at hl 1 rfl) ?_
      refine lv_dup hx hb dX12_behindOne_21 rfl ?_
      refine pg_f (v := .int (I_326 401 this)) (C := RX12) (T := TX12) (N := 31) hx hb hts (tw_i inlX12) hown hK hP hL_this hK_this (by decide +kernel) rfl 17 (by decide +kernel) (hts _ (tw_c tw_887)) rfl dX12_behindOne_22 ?_
      have h_344 : rg (I_326 401 this) 0 160 := GM.rI hG 401 rfl
      have uh_344 := h_344.1
      have vh_344 := h_344.2
      replace hF := hF.trans (ap_n (vI_e (f := 401) hO_this (by decide +kernel)))
      refine lv_iconst (v := 1) hx hb dX12_behindOne_25 (by decide +kernel) ?_
      refine lv_isub hx hb dX12_behindOne_26 ?_
      refine lv_topi (fun x_346 ex_346 => ?_)
      replace hF := hF.trans (ap_n ex_346)
      have h_347 : rg x_346 (-1) 159 := rg_of_eq ex_346 (rg_sub h_344 (rg_k (1 : Int32) 1 rfl) (by decide +kernel))
      have uh_347 := h_347.1
      have vh_347 := h_347.2
      have tx_346 : (x_346).toInt = (I_326 401 this).toInt - 1 := by rw [ex_346]; exact i_sub_rg (a2 := (I_326 401 this).toInt) (b2 := 1) rfl rfl h_344 (rg_k (1 : Int32) 1 rfl) (by decide +kernel)
      refine pp_i (v := x_346) (ty := .int) (C := RX12) (T := TX12) (N := 31) hx hb hts (tw_i inlX12) tyX12 tyX12_ok nmX12 hown hK hP hD hS hL_this hK_this (by decide +kernel) rfl 17 401 (by decide +kernel) (hts _ (tw_c tw_887)) rfl (tyX12_ok 17 (by decide +kernel)) rfl rfl (Nat.le_of_ble_eq_true rfl) (ps_401 _ _ _ _ _) dX12_behindOne_27 (fun I_348 H locs eI_348 hP hD hS => ?_)
      replace hFr := fr_I (f := 401) hFr hO_this (by decide +kernel) eI_348
      replace hF := hF.trans (ap_n (vI_st (f := 401) hO_this (by decide +kernel) eI_348))
      have h_349 : rg x_346 0 159 := ⟨by omega, by omega⟩
      have uh_349 := h_349.1
      have vh_349 := h_349.2
      have hG := GM.wI hG 401 rfl eI_348 (rg_w h_349 (by decide +kernel)) (by decide +kernel)
      have tt_350 : (I_348 396 this).toInt = (I_326 396 this).toInt := by rw [eI_348, pq_uf _ _ _ (by decide +kernel)]
      have tt_351 : (I_348 398 this).toInt = (I_326 398 this).toInt := by rw [eI_348, pq_uf _ _ _ (by decide +kernel)]
      have tt_352 : (I_348 401 this).toInt = (x_346).toInt := by rw [eI_348, pq_us]
      have tt_353 : (I_348 402 this).toInt = (I_326 402 this).toInt := by rw [eI_348, pq_uf _ _ _ (by decide +kernel)]
      have tt_354 : (I_348 391 this).toInt = (I_326 391 this).toInt := by rw [eI_348, pq_uf _ _ _ (by decide +kernel)]
      have tt_355 : (I_348 393 this).toInt = (I_326 393 this).toInt := by rw [eI_348, pq_uf _ _ _ (by decide +kernel)]
      have tt_356 : (I_348 403 this).toInt = (I_326 403 this).toInt := by rw [eI_348, pq_uf _ _ _ (by decide +kernel)]
      have tt_357 : (I_348 397 this).toInt = (I_326 397 this).toInt := by rw [eI_348, pq_uf _ _ _ (by decide +kernel)]
      refine lv_aload_n hx hb dX12_behindOne_30 rfl (lv_at hl 1 rfl) ?_
      refine lv_dup hx hb dX12_behindOne_31 rfl ?_
      refine pg_f (v := .int (I_348 402 this)) (C := RX12) (T := TX12) (N := 31) hx hb hts (tw_i inlX12) hown hK hP hL_this hK_this (by decide +kernel) rfl 18 (by decide +kernel) (hts _ (tw_c tw_828)) rfl dX12_behindOne_32 ?_
      replace hF := hF.trans (ap_n (vI_e (f := 402) hO_this (by decide +kernel)))
      have hq0 := PSz_bd hp_331
      have h_359 : rg (I_348 402 this) 0 8 := ⟨by omega, by omega⟩
      have uh_359 := h_359.1
      have vh_359 := h_359.2
      refine lv_iconst (v := 1) hx hb dX12_behindOne_35 (by decide +kernel) ?_
      refine lv_isub hx hb dX12_behindOne_36 ?_
      refine lv_topi (fun x_360 ex_360 => ?_)
      replace hF := hF.trans (ap_n ex_360)
      have h_361 : rg x_360 (-1) 7 := rg_of_eq ex_360 (rg_sub h_359 (rg_k (1 : Int32) 1 rfl) (by decide +kernel))
      have uh_361 := h_361.1
      have vh_361 := h_361.2
      have tx_360 : (x_360).toInt = (I_348 402 this).toInt - 1 := by rw [ex_360]; exact i_sub_rg (a2 := (I_348 402 this).toInt) (b2 := 1) rfl rfl h_359 (rg_k (1 : Int32) 1 rfl) (by decide +kernel)
      refine pp_i (v := x_360) (ty := .int) (C := RX12) (T := TX12) (N := 31) hx hb hts (tw_i inlX12) tyX12 tyX12_ok nmX12 hown hK hP hD hS hL_this hK_this (by decide +kernel) rfl 18 402 (by decide +kernel) (hts _ (tw_c tw_828)) rfl (tyX12_ok 18 (by decide +kernel)) rfl rfl (Nat.le_of_ble_eq_true rfl) (ps_402 _ _ _ _ _) dX12_behindOne_37 (fun I_362 H locs eI_362 hP hD hS => ?_)
      replace hFr := fr_I (f := 402) hFr hO_this (by decide +kernel) eI_362
      replace hF := hF.trans (ap_n (vI_st (f := 402) hO_this (by decide +kernel) eI_362))
      have hG := GM.wI hG 402 rfl eI_362 (rg_w h_361 (by decide +kernel)) (by decide +kernel)
      have tt_363 : (I_362 396 this).toInt = (I_348 396 this).toInt := by rw [eI_362, pq_uf _ _ _ (by decide +kernel)]
      have tt_364 : (I_362 398 this).toInt = (I_348 398 this).toInt := by rw [eI_362, pq_uf _ _ _ (by decide +kernel)]
      have tt_365 : (I_362 401 this).toInt = (I_348 401 this).toInt := by rw [eI_362, pq_uf _ _ _ (by decide +kernel)]
      have tt_366 : (I_362 402 this).toInt = (x_360).toInt := by rw [eI_362, pq_us]
      have tt_367 : (I_362 391 this).toInt = (I_348 391 this).toInt := by rw [eI_362, pq_uf _ _ _ (by decide +kernel)]
      have tt_368 : (I_362 393 this).toInt = (I_348 393 this).toInt := by rw [eI_362, pq_uf _ _ _ (by decide +kernel)]
      have tt_369 : (I_362 403 this).toInt = (I_348 403 this).toInt := by rw [eI_362, pq_uf _ _ _ (by decide +kernel)]
      have tt_370 : (I_362 397 this).toInt = (I_348 397 this).toInt := by rw [eI_362, pq_uf _ _ _ (by decide +kernel)]
      refine lv_aload_n hx hb dX12_behindOne_40 rfl (lv_at hl 1 rfl) ?_
      have hpsW : PSz (I_362 396 this).toInt (I_362 398 this).toInt (I_362 401 this).toInt (I_362 402 this).toInt (I_362 391 this).toInt (I_362 393 this).toInt (ri_327 this_a) (ri_327 this_pile) bb f0 fr ba tb nn K 1 := PSz_close hp_331 hK0 (by omega) htop (by omega) (by omega) (by omega) (by omega) (by omega) (by omega) rfl rfl
      refine pk_v (va_runV (As := []) (rest := []) ⟨hx, hb, hml, hown, hts⟩ (s_X12_whole l D t σ I_362 J_6 ri_327 rj rq H.size tg hSH hG.1 this hL_this hK_this this_a hR_this_a hL_this_a hK_this_a hN_this_a hT_this_a this_pile hR_this_pile hL_this_pile hK_this_pile hN_this_pile hT_this_pile bb f0 fr ba tb nn K (by assumption)) (cwV 0 hts (tw_V tw_909 tw_910 tw_911 tw_5 tw_912) rfl rfl rfl cv_yX12_whole_0 ⟨Nat.le_of_ble_eq_true rfl, Nat.le_of_ble_eq_true rfl⟩) ⟨pq_blind, pq_recv hK hP hL_this hK_this (by decide +kernel) rfl, pq_pre hK hN hP hD⟩ rfl rfl hl.1 rfl (lv_room (Nat.le_of_ble_eq_true rfl)) dX12_behindOne_41 ⟨Nat.le_of_ble_eq_true rfl, Nat.le_of_ble_eq_true rfl⟩) hD hS hA (fun σ1 μ1 H locs hw_372 hP hD hS => ?_)
      obtain ⟨I_373, ri_374, hu_375, hg_376, hp_378, hp_379, hfn_380, hfr_381⟩ := hw_372
      obtain ⟨hu_375a, hu_375b⟩ := Prod.mk.inj hu_375
      rw [hu_375a, hu_375b] at hP hD
      replace hF := hF.trans (bv_n hfn_380)
      replace hFr := fr_tr hFr hfr_381
      have tt_382 := hp_379
      have hG := GM.tr hG hg_376 (by decide +kernel)
      have tt_383 : (I_373 396 this).toInt = (I_362 396 this).toInt := by rw [hg_376.2.1 396 (by decide +kernel) (by decide +kernel)]
      have tt_384 : (I_373 391 this).toInt = (I_362 391 this).toInt := by rw [hg_376.2.1 391 (by decide +kernel) (by decide +kernel)]
      have tt_385 : (I_373 393 this).toInt = (I_362 393 this).toInt := by rw [hg_376.2.1 393 (by decide +kernel) (by decide +kernel)]
      have tt_386 : (I_373 397 this).toInt = (I_362 397 this).toInt := by rw [hg_376.2.1 397 (by decide +kernel) (by decide +kernel)]
      subst hQ
      exact W.vret hx hb hr (fun t1 ht hW => ⟨⟨(σ, I_373, J_6, ri_374, rj, rq), rfl, ⟨I_373, J_6, ri_374, rfl, hG, (by rw [show (I_373 403 this).toInt = 1 from by omega]; exact hp_378), (tm_cg htm (by omega) (by omega) rfl rfl), (hF0.symm.trans hF), hFr⟩, by rw [ht]; exact hP, va_K.moved hW.alike hK, hD⟩, hS.F ht⟩) hS.2.2 dX12_behindOne_44
  exact go _ _ _ hP hD hS hl

set_option maxRecDepth 100000 in
def g_X12_sum_L10 (rj : Nat → Nat → Int64) (rq : Nat → Nat → Option Nat) : Nat → (Nat → Int32) → (Nat → Int64) → (Nat → Nat → Int32) → Int32 × vM
  | 0, I_231, J_232, ri_233 => ((0 : Int32), I_231, J_232, ri_233, rj, rq)
  | n_324 + 1, I_231, J_232, ri_233 => (ap1 (I_231 403) fun (y_332 : Int32) => (if (y_332) = (0 : Int32) then (bnI (g_X12_beginOne I_231 J_232 ri_233 rj rq) fun (x_344 : Int32) (I_346 : Nat → Int32) (J_347 : Nat → Int64) (ri_348 : Nat → Nat → Int32) (_ : Nat → Nat → Int64) (_ : Nat → Nat → Option Nat) => (if x_344 = (0 : Int32) then ((g_X12_sum_L10 rj rq n_324) I_346 J_347 ri_348) else (x_344, I_346, J_347, ri_348, rj, rq))) else (bnI (g_X12_goesOn I_231 J_232 ri_233 rj rq) fun (x_369 : Int32) (_ : Nat → Int32) (_ : Nat → Int64) (_ : Nat → Nat → Int32) (_ : Nat → Nat → Int64) (_ : Nat → Nat → Option Nat) => (if x_369 = (0 : Int32) then (bnV (g_X12_settle (3 : Int32) I_231 J_232 ri_233 rj rq) fun (I_389 : Nat → Int32) (_ : Nat → Int64) (ri_390 : Nat → Nat → Int32) (_ : Nat → Nat → Int64) (_ : Nat → Nat → Option Nat) => (ap1 (I_389 401) fun (y_408 : Int32) => (if (y_408) ≤ (0 : Int32) then ((0 : Int32), I_389, J_232, ri_390, rj, rq) else ((1 : Int32), I_389, J_232, ri_390, rj, rq)))) else (bnV (g_X12_behindOne I_231 J_232 ri_233 rj rq) fun (I_428 : Nat → Int32) (J_429 : Nat → Int64) (ri_430 : Nat → Nat → Int32) (_ : Nat → Nat → Int64) (_ : Nat → Nat → Option Nat) => ((g_X12_sum_L10 rj rq n_324) I_428 J_429 ri_430))))))
set_option maxRecDepth 100000 in
theorem g_X12_sum_L10_e {rj : Nat → Nat → Int64} {rq : Nat → Nat → Option Nat} {n_324 : Nat} {I_231 : Nat → Int32} {J_232 : Nat → Int64} {ri_233 : Nat → Nat → Int32} : g_X12_sum_L10 rj rq (n_324 + 1) I_231 J_232 ri_233 = (ap1 (I_231 403) fun (y_332 : Int32) => (if (y_332) = (0 : Int32) then (bnI (g_X12_beginOne I_231 J_232 ri_233 rj rq) fun (x_344 : Int32) (I_346 : Nat → Int32) (J_347 : Nat → Int64) (ri_348 : Nat → Nat → Int32) (_ : Nat → Nat → Int64) (_ : Nat → Nat → Option Nat) => (if x_344 = (0 : Int32) then ((g_X12_sum_L10 rj rq n_324) I_346 J_347 ri_348) else (x_344, I_346, J_347, ri_348, rj, rq))) else (bnI (g_X12_goesOn I_231 J_232 ri_233 rj rq) fun (x_369 : Int32) (_ : Nat → Int32) (_ : Nat → Int64) (_ : Nat → Nat → Int32) (_ : Nat → Nat → Int64) (_ : Nat → Nat → Option Nat) => (if x_369 = (0 : Int32) then (bnV (g_X12_settle (3 : Int32) I_231 J_232 ri_233 rj rq) fun (I_389 : Nat → Int32) (_ : Nat → Int64) (ri_390 : Nat → Nat → Int32) (_ : Nat → Nat → Int64) (_ : Nat → Nat → Option Nat) => (ap1 (I_389 401) fun (y_408 : Int32) => (if (y_408) ≤ (0 : Int32) then ((0 : Int32), I_389, J_232, ri_390, rj, rq) else ((1 : Int32), I_389, J_232, ri_390, rj, rq)))) else (bnV (g_X12_behindOne I_231 J_232 ri_233 rj rq) fun (I_428 : Nat → Int32) (J_429 : Nat → Int64) (ri_430 : Nat → Nat → Int32) (_ : Nat → Nat → Int64) (_ : Nat → Nat → Option Nat) => ((g_X12_sum_L10 rj rq n_324) I_428 J_429 ri_430)))))) := rfl
set_option maxRecDepth 100000 in
def g_X12_sum (I : Nat → Int32) (J : Nat → Int64) (ri : Nat → Nat → Int32) (rj : Nat → Nat → Int64) (rq : Nat → Nat → Option Nat) : Int32 × vM := (ap1 (va_up I 401 (0 : Int32)) fun (I_1 : Nat → Int32) => (ap1 (va_up I_1 403 (0 : Int32)) fun (I_10 : Nat → Int32) => (ap1 (I_10 391) fun (y_440 : Int32) => (ap1 (I_10 393) fun (y_441 : Int32) => (g_X12_sum_L10 rj rq ((tmM (y_440).toInt (y_441).toInt).toNat + 1) I_10 J ri)))))
set_option maxRecDepth 100000 in
theorem g_X12_sum_e {I : Nat → Int32} {J : Nat → Int64} {ri : Nat → Nat → Int32} {rj : Nat → Nat → Int64} {rq : Nat → Nat → Option Nat} : g_X12_sum I J ri rj rq = (ap1 (va_up I 401 (0 : Int32)) fun (I_1 : Nat → Int32) => (ap1 (va_up I_1 403 (0 : Int32)) fun (I_10 : Nat → Int32) => (ap1 (I_10 391) fun (y_440 : Int32) => (ap1 (I_10 393) fun (y_441 : Int32) => (g_X12_sum_L10 rj rq ((tmM (y_440).toInt (y_441).toInt).toNat + 1) I_10 J ri))))) := rfl
set_option maxHeartbeats 4000000 in
set_option maxRecDepth 100000 in
theorem s_X12_sum (l : Launch) (D : va_G) (t : pq_T) (σ : pq_S) (I : Nat → Nat → Int32) (J : Nat → Nat → Int64) (ri : Nat → Nat → Int32) (rj : Nat → Nat → Int64) (rq : Nat → Nat → Option Nat) (sz : Nat) (tg : Nat → Nat) (hSH : SH σ tg) (hG0 : GT tg I ri) (this : Nat) (hL_this : this ∈ σ.1) (hK_this : σ.2.1 this = 12) (this_a : Nat) (hR_this_a : σ.2.2.1 384 this = some this_a) (hL_this_a : this_a ∈ σ.1) (hK_this_a : σ.2.1 this_a = 13) (hN_this_a : σ.2.2.2 this_a = 12720) (hT_this_a : tg this_a = 384) (this_pile : Nat) (hR_this_pile : σ.2.2.1 400 this = some this_pile) (hL_this_pile : this_pile ∈ σ.1) (hK_this_pile : σ.2.1 this_pile = 13) (hN_this_pile : σ.2.2.2 this_pile = 160) (hT_this_pile : tg this_pile = 400) (bb : Nat) (f0 : Nat → Int32) (fr : Int) (va : Int) (tb : Int) (nn : Int) (K : Int) (hpb : PBz (I 396 this).toInt (I 398 this).toInt (I 402 this).toInt (I 391 this).toInt (I 393 this).toInt (ri this_a) bb f0 fr va tb nn K) : MetI l yX12_sum (wa yX12_sum cX12_sum 2 (some .int)) ({ frames := 5, cells := 0, slots := 0, locals := 109 }) [.ref this] D t σ (I, J, ri, rj, rq) sz 0 0 (fun (r : Int32) (u : pq_S × pq_M) => ∃ I' : Nat → Nat → Int32, ∃ J' : Nat → Nat → Int64, ∃ ri' : Nat → Nat → Int32, u = (σ, I', J', ri', rj, rq) ∧ GM [401, 398, 391, 392, 393, 402] tg σ I ri I' ri' rq ∧ (r.toInt ≠ 0 ∨ (PBz (I' 396 this).toInt (I' 398 this).toInt (I' 402 this).toInt (I' 391 this).toInt (I' 393 this).toInt (ri' this_a) bb f0 fr (va + 1) tb nn K ∧ tmM (I' 391 this).toInt (I' 393 this).toInt ≤ tmM (I 391 this).toInt (I 393 this).toInt)) ∧ g_X12_sum (vI 12 σ this I) (vJ 12 σ this J) (vR 12 σ this ri) (vL 12 σ this rj) (vQ 12 σ this rq) = (r, (vI 12 σ this I'), (vJ 12 σ this J'), (vR 12 σ this ri'), (vL 12 σ this rj), (vQ 12 σ this rq)) ∧ FR 12 tg σ this (I, J, ri, rj, rq) (I', J', ri', rj, rq) ∧ rg r 0 3) := by
  refine Met.ofW (cc := cX12_sum) (maxL := 2) (ret := (some .int)) (by decide +kernel) rfl ?_
  intro p e s m args below meth c s₁ B hml hv
  obtain ⟨rfl, hsz, hP, hK, hD0, hN⟩ := hv
  have hx := B.exec
  have hb := B.bytes
  have hr := B.returns
  have hts := atoms_spec (ws := (wa yX12_sum cX12_sum 2 (some .int))) B.pre
  have hown : s.vm.findClass RX12 = some m.cls := findClass_of_methodNamed B.named
  have hlocks := B.notSynchronized
  subst hsz
  have hD : va_D (pq_B t σ (I, J, ri, rj, rq) s.heap.size) (pq_P t σ (I, J, ri, rj, rq)) := hD0.self
  generalize hAe : pq_B t σ (I, J, ri, rj, rq) s.heap.size = A at hD ⊢
  have hA : ∀ q : Nat, s.heap.size ≤ q → A q := fun q h => by rw [← hAe]; exact Or.inr h
  have hS : va_S A s.heap s.heap [] := va_S.rf
  have hG : GM [401, 398, 391, 392, 393, 402] tg σ I ri I ri rq := ⟨hG0, fun _ _ _ => rfl, fun _ _ _ _ _ => rfl, fun _ _ _ _ _ _ => rfl⟩
  have hl := lv_entry ([.ref this]) (n := 2) (Nat.le_of_ble_eq_true rfl)
  rw [lg_entry_eq]
  generalize (lg_sl ([.ref this]) ++ List.replicate (2 - (lg_sl ([.ref this])).length) Slot.unset).toArray = ls at hl ⊢
  have hl : lv_has ls 2 [(0, .ref this)] := hl
  refine q_gen (fun Q hQ => ?_)
  have go : ∀ (H : Heap) (locs : List Loc) (ls : Array Slot), va_P D vwCl (pq_P t σ (I, J, ri, rj, rq)) H → va_D A (pq_P t σ (I, J, ri, rj, rq)) → va_S A s.heap H locs → lv_has ls 2 [(0, .ref this)] → W p l e ({ frames := 5, cells := 0, slots := 0, locals := 109 } : Room) s m (List.toArray ([.ref this] : List Value)) below meth c H locs 0 0 Q (F0 m 0 ls []) := by
    intro H locs ls hP hD hS hl
    have hO_this : this = vo σ 12 this := rfl
    have hVT : VT 12 σ tg this := vt_12 hSH hL_this hK_this
    have hFr : FR 12 tg σ this (I, J, ri, rj, rq) (I, J, ri, rj, rq) := fr_rf
    have hO_this_a : this_a = vrow σ 384 this := vo_k (c := 12) hO_this hR_this_a
    have hO_this_pile : this_pile = vrow σ 400 this := vo_k (c := 12) hO_this hR_this_pile
    obtain ⟨F, hF0⟩ : ∃ F, F = g_X12_sum (vI 12 σ this I) (vJ 12 σ this J) (vR 12 σ this ri) (vL 12 σ this rj) (vQ 12 σ this rq) := ⟨_, rfl⟩
    have hF := hF0.trans g_X12_sum_e
    have hv0 := (PBz_tv hpb).1
    refine lv_aload_n hx hb dX12_sum_0 rfl (lv_at hl 0 rfl) ?_
    refine lv_iconst (v := 0) hx hb dX12_sum_1 (by decide +kernel) ?_
    refine pp_i (v := 0) (ty := .int) (C := RX12) (T := TX12) (N := 31) hx hb hts (tw_i inlX12) tyX12 tyX12_ok nmX12 hown hK hP hD hS hL_this hK_this (by decide +kernel) rfl 17 401 (by decide +kernel) (hts _ (tw_c tw_887)) rfl (tyX12_ok 17 (by decide +kernel)) rfl rfl (Nat.le_of_ble_eq_true rfl) (ps_401 _ _ _ _ _) dX12_sum_2 (fun I_1 H locs eI_1 hP hD hS => ?_)
    replace hFr := fr_I (f := 401) hFr hO_this (by decide +kernel) eI_1
    replace hF := hF.trans (ap_n (vI_st (f := 401) hO_this (by decide +kernel) eI_1))
    have hG := GM.wI hG 401 rfl eI_1 (rg_w (rg_k (0 : Int32) 0 rfl) (by decide +kernel)) (by decide +kernel)
    have tt_2 : (I_1 396 this).toInt = (I 396 this).toInt := by rw [eI_1, pq_uf _ _ _ (by decide +kernel)]
    have tt_3 : (I_1 398 this).toInt = (I 398 this).toInt := by rw [eI_1, pq_uf _ _ _ (by decide +kernel)]
    have tt_4 : (I_1 401 this).toInt = 0 := by rw [eI_1, pq_us]; rfl
    have tt_5 : (I_1 402 this).toInt = (I 402 this).toInt := by rw [eI_1, pq_uf _ _ _ (by decide +kernel)]
    have tt_6 : (I_1 391 this).toInt = (I 391 this).toInt := by rw [eI_1, pq_uf _ _ _ (by decide +kernel)]
    have tt_7 : (I_1 393 this).toInt = (I 393 this).toInt := by rw [eI_1, pq_uf _ _ _ (by decide +kernel)]
    have tt_8 : (I_1 403 this).toInt = (I 403 this).toInt := by rw [eI_1, pq_uf _ _ _ (by decide +kernel)]
    have tt_9 : (I_1 397 this).toInt = (I 397 this).toInt := by rw [eI_1, pq_uf _ _ _ (by decide +kernel)]
    refine lv_aload_n hx hb dX12_sum_5 rfl (lv_at hl 0 rfl) ?_
    refine lv_iconst (v := 0) hx hb dX12_sum_6 (by decide +kernel) ?_
    refine pp_i (v := 0) (ty := .boolean) (C := RX12) (T := TX12) (N := 31) hx hb hts (tw_i inlX12) tyX12 tyX12_ok nmX12 hown hK hP hD hS hL_this hK_this (by decide +kernel) rfl 19 403 (by decide +kernel) (hts _ (tw_c tw_888)) rfl (tyX12_ok 19 (by decide +kernel)) rfl (by decide +kernel) (Nat.le_of_ble_eq_true rfl) (ps_403 _ _ _ _ _) dX12_sum_7 (fun I_10 H locs eI_10 hP hD hS => ?_)
    replace hFr := fr_I (f := 403) hFr hO_this (by decide +kernel) eI_10
    replace hF := hF.trans (ap_n (vI_st (f := 403) hO_this (by decide +kernel) eI_10))
    have hG := GM.wI hG 403 rfl eI_10 (rg_w (rg_k (0 : Int32) 0 rfl) (by decide +kernel)) (by decide +kernel)
    have tt_11 : (I_10 396 this).toInt = (I_1 396 this).toInt := by rw [eI_10, pq_uf _ _ _ (by decide +kernel)]
    have tt_12 : (I_10 398 this).toInt = (I_1 398 this).toInt := by rw [eI_10, pq_uf _ _ _ (by decide +kernel)]
    have tt_13 : (I_10 401 this).toInt = (I_1 401 this).toInt := by rw [eI_10, pq_uf _ _ _ (by decide +kernel)]
    have tt_14 : (I_10 402 this).toInt = (I_1 402 this).toInt := by rw [eI_10, pq_uf _ _ _ (by decide +kernel)]
    have tt_15 : (I_10 391 this).toInt = (I_1 391 this).toInt := by rw [eI_10, pq_uf _ _ _ (by decide +kernel)]
    have tt_16 : (I_10 393 this).toInt = (I_1 393 this).toInt := by rw [eI_10, pq_uf _ _ _ (by decide +kernel)]
    have tt_17 : (I_10 403 this).toInt = 0 := by rw [eI_10, pq_us]; rfl
    have tt_18 : (I_10 397 this).toInt = (I_1 397 this).toInt := by rw [eI_10, pq_uf _ _ _ (by decide +kernel)]
    have L_325 : ∀ (n_324 : Nat) (I_231 : Nat → Nat → Int32) (J_232 : Nat → Nat → Int64) (ri_233 : Nat → Nat → Int32) (H : Heap) (locs : List Loc) (ls : Array Slot), (PSz (I_231 396 this).toInt (I_231 398 this).toInt (I_231 401 this).toInt (I_231 402 this).toInt (I_231 391 this).toInt (I_231 393 this).toInt (ri_233 this_a) (ri_233 this_pile) bb f0 fr va tb nn K (I_231 403 this).toInt) → (tmM (I_231 391 this).toInt (I_231 393 this).toInt ≤ tmM (I 391 this).toInt (I 393 this).toInt) → (tmM (I_231 391 this).toInt (I_231 393 this).toInt).toNat < n_324 → F = g_X12_sum_L10 (vL 12 σ this rj) (vQ 12 σ this rq) n_324 (vI 12 σ this I_231) (vJ 12 σ this J_232) (vR 12 σ this ri_233) → FR 12 tg σ this (I, J, ri, rj, rq) (I_231, J_232, ri_233, rj, rq) → GM [401, 398, 391, 392, 393, 402] tg σ I ri I_231 ri_233 rq → va_P D vwCl (pq_P t σ (I_231, J_232, ri_233, rj, rq)) H → va_D A (pq_P t σ (I_231, J_232, ri_233, rj, rq)) → va_S A s.heap H locs → lv_has ls 2 [(0, .ref this)] → W p l e ({ frames := 5, cells := 0, slots := 0, locals := 109 } : Room) s m (List.toArray ([.ref this] : List Value)) below meth c H locs 0 0 Q (F0 m 10 ls []) := by
      intro n_324
      induction n_324 with
      | zero => intro I_231 J_232 ri_233 H locs ls hrel_329 hrel_330 hm_323 hF hFr hG hP hD hS hl; exact absurd hm_323 (Nat.not_lt_zero _)
      | succ n_324 ih_326 =>
        intro I_231 J_232 ri_233 H locs ls hrel_329 hrel_330 hm_323 hF hFr hG hP hD hS hl
        replace hF := hF.trans g_X12_sum_L10_e
        refine lv_aload_n hx hb dX12_sum_10 rfl (lv_at hl 0 rfl) ?_
        refine pg_f (v := .int (I_231 403 this)) (C := RX12) (T := TX12) (N := 31) hx hb hts (tw_i inlX12) hown hK hP hL_this hK_this (by decide +kernel) rfl 19 (by decide +kernel) (hts _ (tw_c tw_888)) rfl dX12_sum_11 ?_
        have h_331 : rg (I_231 403 this) 0 1 := GM.rI hG 403 rfl
        have uh_331 := h_331.1
        have vh_331 := h_331.2
        replace hF := hF.trans (ap_n (vI_e (f := 403) hO_this (by decide +kernel)))
        refine lv_if_eq (tgt := 24) hx hb dX12_sum_14 (by decide +kernel) (fun c_333 => ?_) (fun c_333 => ?_)
        · replace hF := hF.trans (if_pos c_333)
          have tc_338 : (I_231 403 this).toInt = 0 := congrArg Int32.toInt c_333
          have h_339 : rg (I_231 403 this) 0 0 := rg_and h_331 (rg_of_eq c_333 (rg_k (0 : Int32) 0 rfl)) (by decide +kernel)
          have uh_339 := h_339.1
          have vh_339 := h_339.2
          refine lv_aload_n hx hb dX12_sum_24 rfl (lv_at hl 0 rfl) ?_
          refine pg_f (v := .int (I_231 403 this)) (C := RX12) (T := TX12) (N := 31) hx hb hts (tw_i inlX12) hown hK hP hL_this hK_this (by decide +kernel) rfl 19 (by decide +kernel) (hts _ (tw_c tw_888)) rfl dX12_sum_25 ?_
          refine lv_if_eq (tgt := 38) hx hb dX12_sum_28 (by decide +kernel) (fun c_340 => ?_) (fun c_340 => ?_)
          · have tc_343 : (I_231 403 this).toInt = 0 := congrArg Int32.toInt c_340
            refine lv_aload_n hx hb dX12_sum_38 rfl (lv_at hl 0 rfl) ?_
            have hpsB : PSz (I_231 396 this).toInt (I_231 398 this).toInt (I_231 401 this).toInt (I_231 402 this).toInt (I_231 391 this).toInt (I_231 393 this).toInt (ri_233 this_a) (ri_233 this_pile) bb f0 fr va tb nn K 0 := by have q := hrel_329; rw [show (I_231 403 this).toInt = 0 from by omega] at q; exact q
            refine pk_i (va_runV (As := []) (rest := []) ⟨hx, hb, hml, hown, hts⟩ (s_X12_beginOne l D t σ I_231 J_232 ri_233 rj rq H.size tg hSH hG.1 this hL_this hK_this this_a hR_this_a hL_this_a hK_this_a hN_this_a hT_this_a this_pile hR_this_pile hL_this_pile hK_this_pile hN_this_pile hT_this_pile bb f0 fr va tb nn K (by assumption) (by omega)) (cwV 0 hts (tw_V tw_917 tw_918 tw_919 tw_5 tw_920) rfl rfl rfl cv_yX12_beginOne_0 ⟨Nat.le_of_ble_eq_true rfl, Nat.le_of_ble_eq_true rfl⟩) ⟨pq_blind, pq_recv hK hP hL_this hK_this (by decide +kernel) rfl, pq_pre hK hN hP hD⟩ rfl rfl hl.1 rfl (lv_room (Nat.le_of_ble_eq_true rfl)) dX12_sum_39 ⟨Nat.le_of_ble_eq_true rfl, Nat.le_of_ble_eq_true rfl⟩) hD hS hA (fun x_344 σ1 μ1 H locs hw_345 hP hD hS => ?_)
            obtain ⟨I_346, J_347, ri_348, hu_349, hg_350, hp_352, hfn_353, hfr_354, hr_351⟩ := hw_345
            obtain ⟨hu_349a, hu_349b⟩ := Prod.mk.inj hu_349
            rw [hu_349a, hu_349b] at hP hD
            replace hF := hF.trans (bn_n hfn_353)
            replace hFr := fr_tr hFr hfr_354
            have hG := GM.tr hG hg_350 (by decide +kernel)
            have tt_355 : (I_346 396 this).toInt = (I_231 396 this).toInt := by rw [hg_350.2.1 396 (by decide +kernel) (by decide +kernel)]
            have tt_356 : (I_346 397 this).toInt = (I_231 397 this).toInt := by rw [hg_350.2.1 397 (by decide +kernel) (by decide +kernel)]
            refine lv_istore_n (lv' := [(1, .int x_344), (0, .ref this)]) hx hb dX12_sum_42 rfl hl (by decide +kernel) rfl (fun ls hl => ?_)
            refine lv_iload_n hx hb dX12_sum_43 rfl (lv_at hl 0 rfl) ?_
            refine lv_if_eq (tgt := 49) hx hb dX12_sum_44 (by decide +kernel) (fun c_357 => ?_) (fun c_357 => ?_)
            · replace hF := hF.trans (if_pos c_357)
              have tc_362 : (x_344).toInt = 0 := congrArg Int32.toInt c_357
              have h_363 : rg x_344 0 0 := rg_and hr_351 (rg_of_eq c_357 (rg_k (0 : Int32) 0 rfl)) (by decide +kernel)
              have uh_363 := h_363.1
              have vh_363 := h_363.2
              refine lv_goto (tgt := 10) hx hb dX12_sum_49 (by decide +kernel) ?_
              exact ih_326 I_346 J_347 ri_348 _ _ _ (hp_352.resolve_left (fun q => q (by omega))).1 (Int.le_of_lt (Int.lt_of_lt_of_le (hp_352.resolve_left (fun q => q (by omega))).2 hrel_330)) (tm_ms hm_323 (hp_352.resolve_left (fun q => q (by omega))).2 (tm_b ((hG.1.1 391 this).2))) hF hFr hG hP hD hS (lv_sub hl [1] rfl)
            · replace hF := hF.trans (if_neg c_357)
              have tc_364 : (x_344).toInt ≠ 0 := fun q => c_357 (Int32.toInt_inj.mp q)
              have h_365 : rg x_344 1 3 := rg_ne c_357 hr_351 0 rfl (by decide +kernel)
              have uh_365 := h_365.1
              have vh_365 := h_365.2
              refine lv_iload_n hx hb dX12_sum_47 rfl (lv_at hl 0 rfl) ?_
              subst hQ
              exact W.iret (v := x_344) hx hb hr (fun t1 ht hW => ⟨⟨x_344, (σ, I_346, J_347, ri_348, rj, rq), rfl, ⟨I_346, J_347, ri_348, rfl, hG, (Or.inl (by omega)), (hF0.symm.trans hF), hFr, (rg_w h_365 (by decide +kernel))⟩, by rw [ht]; exact hP, va_K.moved hW.alike hK, hD⟩, hS.F ht⟩) hS.2.2 dX12_sum_48
          · have tc_366 : (I_231 403 this).toInt ≠ 0 := fun q => c_340 (Int32.toInt_inj.mp q)
            exact (rg_empty (rg_ne c_340 h_339 0 rfl (lo := 1) (hi := (-1)) (by decide +kernel)) (by decide +kernel)).elim
        · replace hF := hF.trans (if_neg c_333)
          have tc_367 : (I_231 403 this).toInt ≠ 0 := fun q => c_333 (Int32.toInt_inj.mp q)
          have h_368 : rg (I_231 403 this) 1 1 := rg_ne c_333 h_331 0 rfl (by decide +kernel)
          have uh_368 := h_368.1
          have vh_368 := h_368.2
          refine lv_aload_n hx hb dX12_sum_17 rfl (lv_at hl 0 rfl) ?_
          refine pk_i (va_runV (As := []) (rest := []) ⟨hx, hb, hml, hown, hts⟩ (s_X12_goesOn l D t σ I_231 J_232 ri_233 rj rq H.size tg hSH hG.1 this hL_this hK_this this_pile hR_this_pile hL_this_pile hK_this_pile hN_this_pile hT_this_pile) (cwV 0 hts (tw_V tw_889 tw_890 tw_891 tw_5 tw_892) rfl rfl rfl cv_yX12_goesOn_0 ⟨Nat.le_of_ble_eq_true rfl, Nat.le_of_ble_eq_true rfl⟩) ⟨pq_blind, pq_recv hK hP hL_this hK_this (by decide +kernel) rfl, pq_pre hK hN hP hD⟩ rfl rfl hl.1 rfl (lv_room (Nat.le_of_ble_eq_true rfl)) dX12_sum_18 ⟨Nat.le_of_ble_eq_true rfl, Nat.le_of_ble_eq_true rfl⟩) hD hS hA (fun x_369 σ1 μ1 H locs hw_370 hP hD hS => ?_)
          obtain ⟨hu_371, hfn_374, hr_373⟩ := hw_370
          obtain ⟨hu_371a, hu_371b⟩ := Prod.mk.inj hu_371
          rw [hu_371a, hu_371b] at hP hD
          replace hF := hF.trans (bn_n hfn_374)
          have h_376 : rg x_369 0 1 := by rcases hr_373 with ⟨q, -⟩ | ⟨q, -⟩ <;> rw [q] <;> exact ⟨by decide +kernel, by decide +kernel⟩
          have uh_376 := h_376.1
          have vh_376 := h_376.2
          refine lv_if_eq (tgt := 52) hx hb dX12_sum_21 (by decide +kernel) (fun c_377 => ?_) (fun c_377 => ?_)
          · replace hF := hF.trans (if_pos c_377)
            have f_384 := (hr_373.resolve_left (fun q => absurd (q.1.symm.trans c_377) (by decide +kernel))).2
            have tc_385 : (x_369).toInt = 0 := congrArg Int32.toInt c_377
            have h_386 : rg x_369 0 0 := rg_and h_376 (rg_of_eq c_377 (rg_k (0 : Int32) 0 rfl)) (by decide +kernel)
            have uh_386 := h_386.1
            have vh_386 := h_386.2
            refine lv_aload_n hx hb dX12_sum_52 rfl (lv_at hl 0 rfl) ?_
            refine lv_iconst (v := 3) hx hb dX12_sum_53 (by decide +kernel) ?_
            have hpsB : PSz (I_231 396 this).toInt (I_231 398 this).toInt (I_231 401 this).toInt (I_231 402 this).toInt (I_231 391 this).toInt (I_231 393 this).toInt (ri_233 this_a) (ri_233 this_pile) bb f0 fr va tb nn K 1 := by have q := hrel_329; rw [show (I_231 403 this).toInt = 1 from by omega] at q; exact q
            refine pk_v (va_runV (As := [.int 3]) (rest := []) ⟨hx, hb, hml, hown, hts⟩ (s_X12_settle l D t σ I_231 J_232 ri_233 rj rq H.size tg hSH hG.1 this (3 : Int32) hL_this hK_this (rg_w (rg_k (3 : Int32) 3 rfl) (by decide +kernel)) this_a hR_this_a hL_this_a hK_this_a hN_this_a hT_this_a this_pile hR_this_pile hL_this_pile hK_this_pile hN_this_pile hT_this_pile bb f0 fr va tb nn K (by assumption)) (cwV 1 hts (tw_V tw_901 tw_902 tw_903 tw_5 tw_904) rfl rfl rfl cv_yX12_settle_1 ⟨Nat.le_of_ble_eq_true rfl, Nat.le_of_ble_eq_true rfl⟩) ⟨pq_blind, pq_recv hK hP hL_this hK_this (by decide +kernel) rfl, pq_pre hK hN hP hD⟩ rfl rfl hl.1 rfl (lv_room (Nat.le_of_ble_eq_true rfl)) dX12_sum_54 ⟨Nat.le_of_ble_eq_true rfl, Nat.le_of_ble_eq_true rfl⟩) hD hS hA (fun σ1 μ1 H locs hw_388 hP hD hS => ?_)
            obtain ⟨I_389, ri_390, hu_391, hg_392, hp_394, hp_395, hp_396, hp_397, hp_398, hfn_399, hfr_400⟩ := hw_388
            obtain ⟨hu_391a, hu_391b⟩ := Prod.mk.inj hu_391
            rw [hu_391a, hu_391b] at hP hD
            replace hF := hF.trans (bv_n hfn_399)
            replace hFr := fr_tr hFr hfr_400
            have tt_401 := hp_398
            have hG := GM.tr hG hg_392 (by decide +kernel)
            have tt_402 : (I_389 396 this).toInt = (I_231 396 this).toInt := by rw [hg_392.2.1 396 (by decide +kernel) (by decide +kernel)]
            have tt_403 : (I_389 402 this).toInt = (I_231 402 this).toInt := by rw [hg_392.2.1 402 (by decide +kernel) (by decide +kernel)]
            have tt_404 : (I_389 391 this).toInt = (I_231 391 this).toInt := by rw [hg_392.2.1 391 (by decide +kernel) (by decide +kernel)]
            have tt_405 : (I_389 393 this).toInt = (I_231 393 this).toInt := by rw [hg_392.2.1 393 (by decide +kernel) (by decide +kernel)]
            have tt_406 : (I_389 397 this).toInt = (I_231 397 this).toInt := by rw [hg_392.2.1 397 (by decide +kernel) (by decide +kernel)]
            refine lv_aload_n hx hb dX12_sum_57 rfl (lv_at hl 0 rfl) ?_
            refine pg_f (v := .int (I_389 401 this)) (C := RX12) (T := TX12) (N := 31) hx hb hts (tw_i inlX12) hown hK hP hL_this hK_this (by decide +kernel) rfl 17 (by decide +kernel) (hts _ (tw_c tw_887)) rfl dX12_sum_58 ?_
            have h_407 : rg (I_389 401 this) 0 160 := GM.rI hG 401 rfl
            have uh_407 := h_407.1
            have vh_407 := h_407.2
            replace hF := hF.trans (ap_n (vI_e (f := 401) hO_this (by decide +kernel)))
            refine lv_if_le (tgt := 68) hx hb dX12_sum_61 (by decide +kernel) (fun c_409 => ?_) (fun c_409 => ?_)
            · replace hF := hF.trans (if_pos c_409)
              have tc_414 : (I_389 401 this).toInt ≤ 0 := Int32.le_iff_toInt_le.mp c_409
              have h_415 : rg (I_389 401 this) 0 0 := rg_le1 c_409 h_407 (rg_k (0 : Int32) 0 rfl) (by decide +kernel)
              have uh_415 := h_415.1
              have vh_415 := h_415.2
              refine lv_iconst (v := 0) hx hb dX12_sum_68 (by decide +kernel) ?_
              subst hQ
              exact W.iret (v := 0) hx hb hr (fun t1 ht hW => ⟨⟨0, (σ, I_389, J_232, ri_390, rj, rq), rfl, ⟨I_389, J_232, ri_390, rfl, hG, (Or.inr ⟨PSz_e hp_394 (by have z9 := (PSz_bd hp_394).2.1; omega), by rw [show (I_389 391 this).toInt = (I_231 391 this).toInt from by omega, show (I_389 393 this).toInt = (I_231 393 this).toInt from by omega]; exact hrel_330⟩), (hF0.symm.trans hF), hFr, (rg_w (rg_k (0 : Int32) 0 rfl) (by decide +kernel))⟩, by rw [ht]; exact hP, va_K.moved hW.alike hK, hD⟩, hS.F ht⟩) hS.2.2 dX12_sum_69
            · replace hF := hF.trans (if_neg c_409)
              have tc_416 : 0 < (I_389 401 this).toInt := Int32.lt_iff_toInt_lt.mp (nle c_409)
              have h_417 : rg (I_389 401 this) 1 160 := rg_lt2 (nle c_409) (rg_k (0 : Int32) 0 rfl) h_407 (by decide +kernel)
              have uh_417 := h_417.1
              have vh_417 := h_417.2
              refine lv_iconst (v := 1) hx hb dX12_sum_64 (by decide +kernel) ?_
              refine lv_goto (tgt := 69) hx hb dX12_sum_65 (by decide +kernel) ?_
              subst hQ
              exact W.iret (v := 1) hx hb hr (fun t1 ht hW => ⟨⟨1, (σ, I_389, J_232, ri_390, rj, rq), rfl, ⟨I_389, J_232, ri_390, rfl, hG, (Or.inl (by decide +kernel)), (hF0.symm.trans hF), hFr, (rg_w (rg_k (1 : Int32) 1 rfl) (by decide +kernel))⟩, by rw [ht]; exact hP, va_K.moved hW.alike hK, hD⟩, hS.F ht⟩) hS.2.2 dX12_sum_69
          · replace hF := hF.trans (if_neg c_377)
            have f_418 := (hr_373.resolve_right (fun q => c_377 q.1)).2
            have tc_419 : (x_369).toInt ≠ 0 := fun q => c_377 (Int32.toInt_inj.mp q)
            have h_420 : rg x_369 1 1 := rg_ne c_377 h_376 0 rfl (by decide +kernel)
            have uh_420 := h_420.1
            have vh_420 := h_420.2
            refine lv_aload_n hx hb dX12_sum_24 rfl (lv_at hl 0 rfl) ?_
            refine pg_f (v := .int (I_231 403 this)) (C := RX12) (T := TX12) (N := 31) hx hb hts (tw_i inlX12) hown hK hP hL_this hK_this (by decide +kernel) rfl 19 (by decide +kernel) (hts _ (tw_c tw_888)) rfl dX12_sum_25 ?_
            refine lv_if_eq (tgt := 38) hx hb dX12_sum_28 (by decide +kernel) (fun c_421 => ?_) (fun c_421 => ?_)
            · have tc_424 : (I_231 403 this).toInt = 0 := congrArg Int32.toInt c_421
              exact (rg_empty (rg_and h_368 (rg_of_eq c_421 (rg_k (0 : Int32) 0 rfl)) (lo := 1) (hi := 0) (by decide +kernel)) (by decide +kernel)).elim
            · have tc_425 : (I_231 403 this).toInt ≠ 0 := fun q => c_421 (Int32.toInt_inj.mp q)
              refine lv_aload_n hx hb dX12_sum_31 rfl (lv_at hl 0 rfl) ?_
              have hpsB : PSz (I_231 396 this).toInt (I_231 398 this).toInt (I_231 401 this).toInt (I_231 402 this).toInt (I_231 391 this).toInt (I_231 393 this).toInt (ri_233 this_a) (ri_233 this_pile) bb f0 fr va tb nn K 1 := by have q := hrel_329; rw [show (I_231 403 this).toInt = 1 from by omega] at q; exact q
              refine pk_v (va_runV (As := []) (rest := []) ⟨hx, hb, hml, hown, hts⟩ (s_X12_behindOne l D t σ I_231 J_232 ri_233 rj rq H.size tg hSH hG.1 this hL_this hK_this this_a hR_this_a hL_this_a hK_this_a hN_this_a hT_this_a this_pile hR_this_pile hL_this_pile hK_this_pile hN_this_pile hT_this_pile bb f0 fr va tb nn K (by assumption) (by assumption)) (cwV 0 hts (tw_V tw_897 tw_898 tw_899 tw_5 tw_900) rfl rfl rfl cv_yX12_behindOne_0 ⟨Nat.le_of_ble_eq_true rfl, Nat.le_of_ble_eq_true rfl⟩) ⟨pq_blind, pq_recv hK hP hL_this hK_this (by decide +kernel) rfl, pq_pre hK hN hP hD⟩ rfl rfl hl.1 rfl (lv_room (Nat.le_of_ble_eq_true rfl)) dX12_sum_32 ⟨Nat.le_of_ble_eq_true rfl, Nat.le_of_ble_eq_true rfl⟩) hD hS hA (fun σ1 μ1 H locs hw_427 hP hD hS => ?_)
              obtain ⟨I_428, J_429, ri_430, hu_431, hg_432, hp_434, hp_435, hfn_436, hfr_437⟩ := hw_427
              obtain ⟨hu_431a, hu_431b⟩ := Prod.mk.inj hu_431
              rw [hu_431a, hu_431b] at hP hD
              replace hF := hF.trans (bv_n hfn_436)
              replace hFr := fr_tr hFr hfr_437
              have hG := GM.tr hG hg_432 (by decide +kernel)
              have tt_438 : (I_428 396 this).toInt = (I_231 396 this).toInt := by rw [hg_432.2.1 396 (by decide +kernel) (by decide +kernel)]
              have tt_439 : (I_428 397 this).toInt = (I_231 397 this).toInt := by rw [hg_432.2.1 397 (by decide +kernel) (by decide +kernel)]
              refine lv_goto (tgt := 10) hx hb dX12_sum_35 (by decide +kernel) ?_
              exact ih_326 I_428 J_429 ri_430 _ _ _ hp_434 (Int.le_of_lt (Int.lt_of_lt_of_le hp_435 hrel_330)) (tm_ms hm_323 hp_435 (tm_b ((hG.1.1 391 this).2))) hF hFr hG hP hD hS (lv_sub hl [0] rfl)
    replace hF := hF.trans (ap_n (vI_e (f := 391) hO_this (by decide +kernel)))
    replace hF := hF.trans (ap_n (vI_e (f := 393) hO_this (by decide +kernel)))
    exact L_325 _ I_10 J ri _ _ _ (by rw [show (I_10 403 this).toInt = 0 from by omega]; exact PSz_cg (PSz_0 hpb (ri this_pile) hv0 (p1 := 0) rfl) (by omega) (by omega) (by omega) (by omega) (by omega) (by omega) rfl rfl) (Int.le_of_eq (by rw [show (I_10 391 this).toInt = (I 391 this).toInt from by omega, show (I_10 393 this).toInt = (I 393 this).toInt from by omega])) (Nat.lt_succ_self _) hF hFr hG hP hD hS (lv_sub hl [0] rfl)
  exact go _ _ _ hP hD hS hl

set_option maxRecDepth 100000 in
def g_X12_compareOf (I : Nat → Int32) (J : Nat → Int64) (ri : Nat → Nat → Int32) (rj : Nat → Nat → Int64) (rq : Nat → Nat → Option Nat) : Int32 × vM := (ap1 (I 393) fun (y_1 : Int32) => (if (y_1) = (60 : Int32) then ((10 : Int32), I, J, ri, rj, rq) else (if (y_1) = (4 : Int32) then ((11 : Int32), I, J, ri, rj, rq) else (if (y_1) = (62 : Int32) then ((12 : Int32), I, J, ri, rj, rq) else (if (y_1) = (5 : Int32) then ((13 : Int32), I, J, ri, rj, rq) else (if (y_1) = (61 : Int32) then ((14 : Int32), I, J, ri, rj, rq) else (if (y_1) = (35 : Int32) then ((15 : Int32), I, J, ri, rj, rq) else ((-1 : Int32), I, J, ri, rj, rq))))))))
set_option maxRecDepth 100000 in
theorem g_X12_compareOf_e {I : Nat → Int32} {J : Nat → Int64} {ri : Nat → Nat → Int32} {rj : Nat → Nat → Int64} {rq : Nat → Nat → Option Nat} : g_X12_compareOf I J ri rj rq = (ap1 (I 393) fun (y_1 : Int32) => (if (y_1) = (60 : Int32) then ((10 : Int32), I, J, ri, rj, rq) else (if (y_1) = (4 : Int32) then ((11 : Int32), I, J, ri, rj, rq) else (if (y_1) = (62 : Int32) then ((12 : Int32), I, J, ri, rj, rq) else (if (y_1) = (5 : Int32) then ((13 : Int32), I, J, ri, rj, rq) else (if (y_1) = (61 : Int32) then ((14 : Int32), I, J, ri, rj, rq) else (if (y_1) = (35 : Int32) then ((15 : Int32), I, J, ri, rj, rq) else ((-1 : Int32), I, J, ri, rj, rq)))))))) := rfl
set_option maxHeartbeats 4000000 in
set_option maxRecDepth 100000 in
theorem s_X12_compareOf (l : Launch) (D : va_G) (t : pq_T) (σ : pq_S) (I : Nat → Nat → Int32) (J : Nat → Nat → Int64) (ri : Nat → Nat → Int32) (rj : Nat → Nat → Int64) (rq : Nat → Nat → Option Nat) (sz : Nat) (tg : Nat → Nat) (hSH : SH σ tg) (hG0 : GT tg I ri) (this : Nat) (hL_this : this ∈ σ.1) (hK_this : σ.2.1 this = 12) : MetI l yX12_compareOf (wa yX12_compareOf cX12_compareOf 1 (some .int)) ({ frames := 0, cells := 0, slots := 0, locals := 0 }) [.ref this] D t σ (I, J, ri, rj, rq) sz 0 0 (fun (r : Int32) (u : pq_S × pq_M) => u = (σ, I, J, ri, rj, rq) ∧ (r.toInt < 0 ∨ (10 ≤ r.toInt ∧ r.toInt ≤ 15 ∧ (I 393 this).toInt ≠ 0)) ∧ g_X12_compareOf (vI 12 σ this I) (vJ 12 σ this J) (vR 12 σ this ri) (vL 12 σ this rj) (vQ 12 σ this rq) = (r, (vI 12 σ this I), (vJ 12 σ this J), (vR 12 σ this ri), (vL 12 σ this rj), (vQ 12 σ this rq)) ∧ rg r (-1) 15) := by
  refine Met.ofW (cc := cX12_compareOf) (maxL := 1) (ret := (some .int)) (by decide +kernel) rfl ?_
  intro p e s m args below meth c s₁ B hml hv
  obtain ⟨rfl, hsz, hP, hK, hD0, hN⟩ := hv
  have hx := B.exec
  have hb := B.bytes
  have hr := B.returns
  have hts := atoms_spec (ws := (wa yX12_compareOf cX12_compareOf 1 (some .int))) B.pre
  have hown : s.vm.findClass RX12 = some m.cls := findClass_of_methodNamed B.named
  have hlocks := B.notSynchronized
  subst hsz
  have hD : va_D (pq_B t σ (I, J, ri, rj, rq) s.heap.size) (pq_P t σ (I, J, ri, rj, rq)) := hD0.self
  generalize hAe : pq_B t σ (I, J, ri, rj, rq) s.heap.size = A at hD ⊢
  have hA : ∀ q : Nat, s.heap.size ≤ q → A q := fun q h => by rw [← hAe]; exact Or.inr h
  have hS : va_S A s.heap s.heap [] := va_S.rf
  have hG : GM [] tg σ I ri I ri rq := ⟨hG0, fun _ _ _ => rfl, fun _ _ _ _ _ => rfl, fun _ _ _ _ _ _ => rfl⟩
  have hl := lv_entry ([.ref this]) (n := 1) (Nat.le_of_ble_eq_true rfl)
  rw [lg_entry_eq]
  generalize (lg_sl ([.ref this]) ++ List.replicate (1 - (lg_sl ([.ref this])).length) Slot.unset).toArray = ls at hl ⊢
  have hl : lv_has ls 1 [(0, .ref this)] := hl
  refine q_gen (fun Q hQ => ?_)
  have go : ∀ (H : Heap) (locs : List Loc) (ls : Array Slot), va_P D vwCl (pq_P t σ (I, J, ri, rj, rq)) H → va_D A (pq_P t σ (I, J, ri, rj, rq)) → va_S A s.heap H locs → lv_has ls 1 [(0, .ref this)] → W p l e ({ frames := 0, cells := 0, slots := 0, locals := 0 } : Room) s m (List.toArray ([.ref this] : List Value)) below meth c H locs 0 0 Q (F0 m 0 ls []) := by
    intro H locs ls hP hD hS hl
    have hO_this : this = vo σ 12 this := rfl
    have hVT : VT 12 σ tg this := vt_12 hSH hL_this hK_this
    have hFr : FR 12 tg σ this (I, J, ri, rj, rq) (I, J, ri, rj, rq) := fr_rf
    obtain ⟨F, hF0⟩ : ∃ F, F = g_X12_compareOf (vI 12 σ this I) (vJ 12 σ this J) (vR 12 σ this ri) (vL 12 σ this rj) (vQ 12 σ this rq) := ⟨_, rfl⟩
    have hF := hF0.trans g_X12_compareOf_e
    refine lv_aload_n hx hb dX12_compareOf_0 rfl (lv_at hl 0 rfl) ?_
    refine pg_f (v := .int (I 393 this)) (C := RX12) (T := TX12) (N := 31) hx hb hts (tw_i inlX12) hown hK hP hL_this hK_this (by decide +kernel) rfl 9 (by decide +kernel) (hts _ (tw_c tw_831)) rfl dX12_compareOf_1 ?_
    replace hF := hF.trans (ap_n (vI_e (f := 393) hO_this (by decide +kernel)))
    refine lv_bipush (v := 60) hx hb dX12_compareOf_4 (by decide +kernel) ?_
    refine lv_icmp_ne (tgt := 14) hx hb dX12_compareOf_6 (by decide +kernel) (fun c_2 => ?_) (fun c_2 => ?_)
    · replace hF := hF.trans (if_neg c_2)
      have tc_6 : (I 393 this).toInt ≠ 60 := fun q => c_2 (Int32.toInt_inj.mp q)
      refine lv_aload_n hx hb dX12_compareOf_14 rfl (lv_at hl 0 rfl) ?_
      refine pg_f (v := .int (I 393 this)) (C := RX12) (T := TX12) (N := 31) hx hb hts (tw_i inlX12) hown hK hP hL_this hK_this (by decide +kernel) rfl 9 (by decide +kernel) (hts _ (tw_c tw_831)) rfl dX12_compareOf_15 ?_
      refine lv_iconst (v := 4) hx hb dX12_compareOf_18 (by decide +kernel) ?_
      refine lv_icmp_ne (tgt := 27) hx hb dX12_compareOf_19 (by decide +kernel) (fun c_7 => ?_) (fun c_7 => ?_)
      · replace hF := hF.trans (if_neg c_7)
        have tc_11 : (I 393 this).toInt ≠ 4 := fun q => c_7 (Int32.toInt_inj.mp q)
        refine lv_aload_n hx hb dX12_compareOf_27 rfl (lv_at hl 0 rfl) ?_
        refine pg_f (v := .int (I 393 this)) (C := RX12) (T := TX12) (N := 31) hx hb hts (tw_i inlX12) hown hK hP hL_this hK_this (by decide +kernel) rfl 9 (by decide +kernel) (hts _ (tw_c tw_831)) rfl dX12_compareOf_28 ?_
        refine lv_bipush (v := 62) hx hb dX12_compareOf_31 (by decide +kernel) ?_
        refine lv_icmp_ne (tgt := 41) hx hb dX12_compareOf_33 (by decide +kernel) (fun c_12 => ?_) (fun c_12 => ?_)
        · replace hF := hF.trans (if_neg c_12)
          have tc_16 : (I 393 this).toInt ≠ 62 := fun q => c_12 (Int32.toInt_inj.mp q)
          refine lv_aload_n hx hb dX12_compareOf_41 rfl (lv_at hl 0 rfl) ?_
          refine pg_f (v := .int (I 393 this)) (C := RX12) (T := TX12) (N := 31) hx hb hts (tw_i inlX12) hown hK hP hL_this hK_this (by decide +kernel) rfl 9 (by decide +kernel) (hts _ (tw_c tw_831)) rfl dX12_compareOf_42 ?_
          refine lv_iconst (v := 5) hx hb dX12_compareOf_45 (by decide +kernel) ?_
          refine lv_icmp_ne (tgt := 54) hx hb dX12_compareOf_46 (by decide +kernel) (fun c_17 => ?_) (fun c_17 => ?_)
          · replace hF := hF.trans (if_neg c_17)
            have tc_21 : (I 393 this).toInt ≠ 5 := fun q => c_17 (Int32.toInt_inj.mp q)
            refine lv_aload_n hx hb dX12_compareOf_54 rfl (lv_at hl 0 rfl) ?_
            refine pg_f (v := .int (I 393 this)) (C := RX12) (T := TX12) (N := 31) hx hb hts (tw_i inlX12) hown hK hP hL_this hK_this (by decide +kernel) rfl 9 (by decide +kernel) (hts _ (tw_c tw_831)) rfl dX12_compareOf_55 ?_
            refine lv_bipush (v := 61) hx hb dX12_compareOf_58 (by decide +kernel) ?_
            refine lv_icmp_ne (tgt := 68) hx hb dX12_compareOf_60 (by decide +kernel) (fun c_22 => ?_) (fun c_22 => ?_)
            · replace hF := hF.trans (if_neg c_22)
              have tc_26 : (I 393 this).toInt ≠ 61 := fun q => c_22 (Int32.toInt_inj.mp q)
              refine lv_aload_n hx hb dX12_compareOf_68 rfl (lv_at hl 0 rfl) ?_
              refine pg_f (v := .int (I 393 this)) (C := RX12) (T := TX12) (N := 31) hx hb hts (tw_i inlX12) hown hK hP hL_this hK_this (by decide +kernel) rfl 9 (by decide +kernel) (hts _ (tw_c tw_831)) rfl dX12_compareOf_69 ?_
              refine lv_bipush (v := 35) hx hb dX12_compareOf_72 (by decide +kernel) ?_
              refine lv_icmp_ne (tgt := 82) hx hb dX12_compareOf_74 (by decide +kernel) (fun c_27 => ?_) (fun c_27 => ?_)
              · replace hF := hF.trans (if_neg c_27)
                have tc_31 : (I 393 this).toInt ≠ 35 := fun q => c_27 (Int32.toInt_inj.mp q)
                refine lv_iconst (v := (-1)) hx hb dX12_compareOf_82 (by decide +kernel) ?_
                subst hQ
                exact W.iret (v := (-1)) hx hb hr (fun t1 ht hW => ⟨⟨(-1), (σ, I, J, ri, rj, rq), rfl, ⟨rfl, (by have z9 : ((-1) : Int32).toInt = (-1) := rfl; omega), (hF0.symm.trans hF), (rg_w (rg_k (-1 : Int32) (-1) rfl) (by decide +kernel))⟩, by rw [ht]; exact hP, va_K.moved hW.alike hK, hD⟩, hS.F ht⟩) hS.2.2 dX12_compareOf_83
              · replace hF := hF.trans (if_pos c_27)
                have tc_32 : (I 393 this).toInt = 35 := congrArg Int32.toInt c_27
                have h_33 : rg (I 393 this) 35 35 := rg_and (rg_full _) (rg_of_eq c_27 (rg_k (35 : Int32) 35 rfl)) (by decide +kernel)
                have uh_33 := h_33.1
                have vh_33 := h_33.2
                refine lv_bipush (v := 15) hx hb dX12_compareOf_77 (by decide +kernel) ?_
                refine lv_goto (tgt := 83) hx hb dX12_compareOf_79 (by decide +kernel) ?_
                subst hQ
                exact W.iret (v := 15) hx hb hr (fun t1 ht hW => ⟨⟨15, (σ, I, J, ri, rj, rq), rfl, ⟨rfl, (by have z9 : (15 : Int32).toInt = 15 := rfl; omega), (hF0.symm.trans hF), (rg_w (rg_k (15 : Int32) 15 rfl) (by decide +kernel))⟩, by rw [ht]; exact hP, va_K.moved hW.alike hK, hD⟩, hS.F ht⟩) hS.2.2 dX12_compareOf_83
            · replace hF := hF.trans (if_pos c_22)
              have tc_34 : (I 393 this).toInt = 61 := congrArg Int32.toInt c_22
              have h_35 : rg (I 393 this) 61 61 := rg_and (rg_full _) (rg_of_eq c_22 (rg_k (61 : Int32) 61 rfl)) (by decide +kernel)
              have uh_35 := h_35.1
              have vh_35 := h_35.2
              refine lv_bipush (v := 14) hx hb dX12_compareOf_63 (by decide +kernel) ?_
              refine lv_goto (tgt := 83) hx hb dX12_compareOf_65 (by decide +kernel) ?_
              subst hQ
              exact W.iret (v := 14) hx hb hr (fun t1 ht hW => ⟨⟨14, (σ, I, J, ri, rj, rq), rfl, ⟨rfl, (by have z9 : (14 : Int32).toInt = 14 := rfl; omega), (hF0.symm.trans hF), (rg_w (rg_k (14 : Int32) 14 rfl) (by decide +kernel))⟩, by rw [ht]; exact hP, va_K.moved hW.alike hK, hD⟩, hS.F ht⟩) hS.2.2 dX12_compareOf_83
          · replace hF := hF.trans (if_pos c_17)
            have tc_36 : (I 393 this).toInt = 5 := congrArg Int32.toInt c_17
            have h_37 : rg (I 393 this) 5 5 := rg_and (rg_full _) (rg_of_eq c_17 (rg_k (5 : Int32) 5 rfl)) (by decide +kernel)
            have uh_37 := h_37.1
            have vh_37 := h_37.2
            refine lv_bipush (v := 13) hx hb dX12_compareOf_49 (by decide +kernel) ?_
            refine lv_goto (tgt := 83) hx hb dX12_compareOf_51 (by decide +kernel) ?_
            subst hQ
            exact W.iret (v := 13) hx hb hr (fun t1 ht hW => ⟨⟨13, (σ, I, J, ri, rj, rq), rfl, ⟨rfl, (by have z9 : (13 : Int32).toInt = 13 := rfl; omega), (hF0.symm.trans hF), (rg_w (rg_k (13 : Int32) 13 rfl) (by decide +kernel))⟩, by rw [ht]; exact hP, va_K.moved hW.alike hK, hD⟩, hS.F ht⟩) hS.2.2 dX12_compareOf_83
        · replace hF := hF.trans (if_pos c_12)
          have tc_38 : (I 393 this).toInt = 62 := congrArg Int32.toInt c_12
          have h_39 : rg (I 393 this) 62 62 := rg_and (rg_full _) (rg_of_eq c_12 (rg_k (62 : Int32) 62 rfl)) (by decide +kernel)
          have uh_39 := h_39.1
          have vh_39 := h_39.2
          refine lv_bipush (v := 12) hx hb dX12_compareOf_36 (by decide +kernel) ?_
          refine lv_goto (tgt := 83) hx hb dX12_compareOf_38 (by decide +kernel) ?_
          subst hQ
          exact W.iret (v := 12) hx hb hr (fun t1 ht hW => ⟨⟨12, (σ, I, J, ri, rj, rq), rfl, ⟨rfl, (by have z9 : (12 : Int32).toInt = 12 := rfl; omega), (hF0.symm.trans hF), (rg_w (rg_k (12 : Int32) 12 rfl) (by decide +kernel))⟩, by rw [ht]; exact hP, va_K.moved hW.alike hK, hD⟩, hS.F ht⟩) hS.2.2 dX12_compareOf_83
      · replace hF := hF.trans (if_pos c_7)
        have tc_40 : (I 393 this).toInt = 4 := congrArg Int32.toInt c_7
        have h_41 : rg (I 393 this) 4 4 := rg_and (rg_full _) (rg_of_eq c_7 (rg_k (4 : Int32) 4 rfl)) (by decide +kernel)
        have uh_41 := h_41.1
        have vh_41 := h_41.2
        refine lv_bipush (v := 11) hx hb dX12_compareOf_22 (by decide +kernel) ?_
        refine lv_goto (tgt := 83) hx hb dX12_compareOf_24 (by decide +kernel) ?_
        subst hQ
        exact W.iret (v := 11) hx hb hr (fun t1 ht hW => ⟨⟨11, (σ, I, J, ri, rj, rq), rfl, ⟨rfl, (by have z9 : (11 : Int32).toInt = 11 := rfl; omega), (hF0.symm.trans hF), (rg_w (rg_k (11 : Int32) 11 rfl) (by decide +kernel))⟩, by rw [ht]; exact hP, va_K.moved hW.alike hK, hD⟩, hS.F ht⟩) hS.2.2 dX12_compareOf_83
    · replace hF := hF.trans (if_pos c_2)
      have tc_42 : (I 393 this).toInt = 60 := congrArg Int32.toInt c_2
      have h_43 : rg (I 393 this) 60 60 := rg_and (rg_full _) (rg_of_eq c_2 (rg_k (60 : Int32) 60 rfl)) (by decide +kernel)
      have uh_43 := h_43.1
      have vh_43 := h_43.2
      refine lv_bipush (v := 10) hx hb dX12_compareOf_9 (by decide +kernel) ?_
      refine lv_goto (tgt := 83) hx hb dX12_compareOf_11 (by decide +kernel) ?_
      subst hQ
      exact W.iret (v := 10) hx hb hr (fun t1 ht hW => ⟨⟨10, (σ, I, J, ri, rj, rq), rfl, ⟨rfl, (by have z9 : (10 : Int32).toInt = 10 := rfl; omega), (hF0.symm.trans hF), (rg_w (rg_k (10 : Int32) 10 rfl) (by decide +kernel))⟩, by rw [ht]; exact hP, va_K.moved hW.alike hK, hD⟩, hS.F ht⟩) hS.2.2 dX12_compareOf_83
  exact go _ _ _ hP hD hS hl

set_option maxRecDepth 100000 in
def g_X12_ask_L105 (rj : Nat → Nat → Int64) (rq : Nat → Nat → Option Nat) (x_2268 : Int32) (J_2834 : Nat → Int64) : Nat → (Int32) → (Nat → Int32) → (Nat → Nat → Int32) → Int32 × vM
  | 0, x_3103, I_3104, ri_3105 => ((0 : Int32), I_3104, J_2834, ri_3105, rj, rq)
  | n_3141 + 1, x_3103, I_3104, ri_3105 => (if x_2268 ≤ x_3103 then ((0 : Int32), I_3104, J_2834, ri_3105, rj, rq) else (bnV (g_X12_emit (20 : Int32) (0 : Int32) I_3104 J_2834 ri_3105 rj rq) fun (I_3164 : Nat → Int32) (_ : Nat → Int64) (ri_3165 : Nat → Nat → Int32) (_ : Nat → Nat → Int64) (_ : Nat → Nat → Option Nat) => (ap1 (x_3103 + Int32.ofInt 1) fun (x_3184 : Int32) => ((g_X12_ask_L105 rj rq x_2268 J_2834 n_3141) x_3184 I_3164 ri_3165))))
set_option maxRecDepth 100000 in
theorem g_X12_ask_L105_e {rj : Nat → Nat → Int64} {rq : Nat → Nat → Option Nat} {x_2268 : Int32} {J_2834 : Nat → Int64} {n_3141 : Nat} {x_3103 : Int32} {I_3104 : Nat → Int32} {ri_3105 : Nat → Nat → Int32} : g_X12_ask_L105 rj rq x_2268 J_2834 (n_3141 + 1) x_3103 I_3104 ri_3105 = (if x_2268 ≤ x_3103 then ((0 : Int32), I_3104, J_2834, ri_3105, rj, rq) else (bnV (g_X12_emit (20 : Int32) (0 : Int32) I_3104 J_2834 ri_3105 rj rq) fun (I_3164 : Nat → Int32) (_ : Nat → Int64) (ri_3165 : Nat → Nat → Int32) (_ : Nat → Nat → Int64) (_ : Nat → Nat → Option Nat) => (ap1 (x_3103 + Int32.ofInt 1) fun (x_3184 : Int32) => ((g_X12_ask_L105 rj rq x_2268 J_2834 n_3141) x_3184 I_3164 ri_3165)))) := rfl
set_option maxRecDepth 100000 in
def g_X12_ask_L2 (ri : Nat → Nat → Int32) (rj : Nat → Nat → Int64) (rq : Nat → Nat → Option Nat) : Nat → (Int32) → (Nat → Int32) → (Nat → Int64) → Int32 × vM
  | 0, x_2268, I_2269, J_2270 => ((0 : Int32), I_2269, J_2270, ri, rj, rq)
  | n_2737 + 1, x_2268, I_2269, J_2270 => (ap1 (g_X12_w3_x (110 : Int32) (111 : Int32) (116 : Int32)) fun (x_2748 : Int64) => (bnI (g_X12_isWord_x x_2748 I_2269 J_2270 ri rj rq) fun (x_2755 : Int32) (_ : Nat → Int32) (_ : Nat → Int64) (_ : Nat → Nat → Int32) (_ : Nat → Nat → Int64) (_ : Nat → Nat → Option Nat) => (if x_2755 = (0 : Int32) then (bnI (g_X12_sum I_2269 J_2270 ri rj rq) fun (x_2773 : Int32) (I_2775 : Nat → Int32) (J_2776 : Nat → Int64) (ri_2777 : Nat → Nat → Int32) (_ : Nat → Nat → Int64) (_ : Nat → Nat → Option Nat) => (if x_2773 = (0 : Int32) then (bnI (g_X12_compareOf I_2775 J_2776 ri_2777 rj rq) fun (x_2793 : Int32) (_ : Nat → Int32) (_ : Nat → Int64) (_ : Nat → Nat → Int32) (_ : Nat → Nat → Int64) (_ : Nat → Nat → Option Nat) => (if (0 : Int32) ≤ x_2793 then (bnV (g_X12_nextToken_x I_2775 J_2776 ri_2777 rj rq) fun (I_2812 : Nat → Int32) (J_2813 : Nat → Int64) (_ : Nat → Nat → Int32) (_ : Nat → Nat → Int64) (_ : Nat → Nat → Option Nat) => (bnI (g_X12_sum I_2812 J_2813 ri_2777 rj rq) fun (x_2831 : Int32) (I_2833 : Nat → Int32) (J_2834 : Nat → Int64) (ri_2835 : Nat → Nat → Int32) (_ : Nat → Nat → Int64) (_ : Nat → Nat → Option Nat) => (if x_2831 = (0 : Int32) then (bnV (g_X12_emit x_2793 (0 : Int32) I_2833 J_2834 ri_2835 rj rq) fun (I_2853 : Nat → Int32) (_ : Nat → Int64) (ri_2854 : Nat → Nat → Int32) (_ : Nat → Nat → Int64) (_ : Nat → Nat → Option Nat) => (ap1 (I_2853 402) fun (y_2873 : Int32) => (ap1 ((y_2873) - x_2268) fun (x_2875 : Int32) => (ap1 (va_up I_2853 402 x_2875) fun (I_2877 : Nat → Int32) => (g_X12_ask_L105 rj rq x_2268 J_2834 (((x_2268).toInt - ((0 : Int32)).toInt).toNat + 1) (0 : Int32) I_2877 ri_2854))))) else (x_2831, I_2833, J_2834, ri_2835, rj, rq)))) else ((1 : Int32), I_2775, J_2776, ri_2777, rj, rq))) else (x_2773, I_2775, J_2776, ri_2777, rj, rq))) else (ap1 (I_2269 402) fun (y_3195 : Int32) => (if (y_3195) = (8 : Int32) then ((3 : Int32), I_2269, J_2270, ri, rj, rq) else (ap1 ((y_3195) + (1 : Int32)) fun (x_3202 : Int32) => (ap1 (va_up I_2269 402 x_3202) fun (I_3204 : Nat → Int32) => (ap1 (x_2268 + Int32.ofInt 1) fun (x_3214 : Int32) => (bnV (g_X12_nextToken_x I_3204 J_2270 ri rj rq) fun (I_3219 : Nat → Int32) (J_3220 : Nat → Int64) (_ : Nat → Nat → Int32) (_ : Nat → Nat → Int64) (_ : Nat → Nat → Option Nat) => ((g_X12_ask_L2 ri rj rq n_2737) x_3214 I_3219 J_3220))))))))))
set_option maxRecDepth 100000 in
theorem g_X12_ask_L2_e {ri : Nat → Nat → Int32} {rj : Nat → Nat → Int64} {rq : Nat → Nat → Option Nat} {n_2737 : Nat} {x_2268 : Int32} {I_2269 : Nat → Int32} {J_2270 : Nat → Int64} : g_X12_ask_L2 ri rj rq (n_2737 + 1) x_2268 I_2269 J_2270 = (ap1 (g_X12_w3_x (110 : Int32) (111 : Int32) (116 : Int32)) fun (x_2748 : Int64) => (bnI (g_X12_isWord_x x_2748 I_2269 J_2270 ri rj rq) fun (x_2755 : Int32) (_ : Nat → Int32) (_ : Nat → Int64) (_ : Nat → Nat → Int32) (_ : Nat → Nat → Int64) (_ : Nat → Nat → Option Nat) => (if x_2755 = (0 : Int32) then (bnI (g_X12_sum I_2269 J_2270 ri rj rq) fun (x_2773 : Int32) (I_2775 : Nat → Int32) (J_2776 : Nat → Int64) (ri_2777 : Nat → Nat → Int32) (_ : Nat → Nat → Int64) (_ : Nat → Nat → Option Nat) => (if x_2773 = (0 : Int32) then (bnI (g_X12_compareOf I_2775 J_2776 ri_2777 rj rq) fun (x_2793 : Int32) (_ : Nat → Int32) (_ : Nat → Int64) (_ : Nat → Nat → Int32) (_ : Nat → Nat → Int64) (_ : Nat → Nat → Option Nat) => (if (0 : Int32) ≤ x_2793 then (bnV (g_X12_nextToken_x I_2775 J_2776 ri_2777 rj rq) fun (I_2812 : Nat → Int32) (J_2813 : Nat → Int64) (_ : Nat → Nat → Int32) (_ : Nat → Nat → Int64) (_ : Nat → Nat → Option Nat) => (bnI (g_X12_sum I_2812 J_2813 ri_2777 rj rq) fun (x_2831 : Int32) (I_2833 : Nat → Int32) (J_2834 : Nat → Int64) (ri_2835 : Nat → Nat → Int32) (_ : Nat → Nat → Int64) (_ : Nat → Nat → Option Nat) => (if x_2831 = (0 : Int32) then (bnV (g_X12_emit x_2793 (0 : Int32) I_2833 J_2834 ri_2835 rj rq) fun (I_2853 : Nat → Int32) (_ : Nat → Int64) (ri_2854 : Nat → Nat → Int32) (_ : Nat → Nat → Int64) (_ : Nat → Nat → Option Nat) => (ap1 (I_2853 402) fun (y_2873 : Int32) => (ap1 ((y_2873) - x_2268) fun (x_2875 : Int32) => (ap1 (va_up I_2853 402 x_2875) fun (I_2877 : Nat → Int32) => (g_X12_ask_L105 rj rq x_2268 J_2834 (((x_2268).toInt - ((0 : Int32)).toInt).toNat + 1) (0 : Int32) I_2877 ri_2854))))) else (x_2831, I_2833, J_2834, ri_2835, rj, rq)))) else ((1 : Int32), I_2775, J_2776, ri_2777, rj, rq))) else (x_2773, I_2775, J_2776, ri_2777, rj, rq))) else (ap1 (I_2269 402) fun (y_3195 : Int32) => (if (y_3195) = (8 : Int32) then ((3 : Int32), I_2269, J_2270, ri, rj, rq) else (ap1 ((y_3195) + (1 : Int32)) fun (x_3202 : Int32) => (ap1 (va_up I_2269 402 x_3202) fun (I_3204 : Nat → Int32) => (ap1 (x_2268 + Int32.ofInt 1) fun (x_3214 : Int32) => (bnV (g_X12_nextToken_x I_3204 J_2270 ri rj rq) fun (I_3219 : Nat → Int32) (J_3220 : Nat → Int64) (_ : Nat → Nat → Int32) (_ : Nat → Nat → Int64) (_ : Nat → Nat → Option Nat) => ((g_X12_ask_L2 ri rj rq n_2737) x_3214 I_3219 J_3220)))))))))) := rfl
set_option maxRecDepth 100000 in
def g_X12_ask (I : Nat → Int32) (J : Nat → Int64) (ri : Nat → Nat → Int32) (rj : Nat → Nat → Int64) (rq : Nat → Nat → Option Nat) : Int32 × vM := (ap1 (I 391) fun (y_3240 : Int32) => (ap1 (I 393) fun (y_3241 : Int32) => (g_X12_ask_L2 ri rj rq ((tmM (y_3240).toInt (y_3241).toInt).toNat + 1) (0 : Int32) I J)))
set_option maxRecDepth 100000 in
theorem g_X12_ask_e {I : Nat → Int32} {J : Nat → Int64} {ri : Nat → Nat → Int32} {rj : Nat → Nat → Int64} {rq : Nat → Nat → Option Nat} : g_X12_ask I J ri rj rq = (ap1 (I 391) fun (y_3240 : Int32) => (ap1 (I 393) fun (y_3241 : Int32) => (g_X12_ask_L2 ri rj rq ((tmM (y_3240).toInt (y_3241).toInt).toNat + 1) (0 : Int32) I J))) := rfl
set_option maxHeartbeats 4000000 in
set_option maxRecDepth 100000 in
theorem s_X12_ask (l : Launch) (D : va_G) (t : pq_T) (σ : pq_S) (I : Nat → Nat → Int32) (J : Nat → Nat → Int64) (ri : Nat → Nat → Int32) (rj : Nat → Nat → Int64) (rq : Nat → Nat → Option Nat) (sz : Nat) (tg : Nat → Nat) (hSH : SH σ tg) (hG0 : GT tg I ri) (this : Nat) (hL_this : this ∈ σ.1) (hK_this : σ.2.1 this = 12) (this_a : Nat) (hR_this_a : σ.2.2.1 384 this = some this_a) (hL_this_a : this_a ∈ σ.1) (hK_this_a : σ.2.1 this_a = 13) (hN_this_a : σ.2.2.2 this_a = 12720) (hT_this_a : tg this_a = 384) (this_pile : Nat) (hR_this_pile : σ.2.2.1 400 this = some this_pile) (hL_this_pile : this_pile ∈ σ.1) (hK_this_pile : σ.2.1 this_pile = 13) (hN_this_pile : σ.2.2.2 this_pile = 160) (hT_this_pile : tg this_pile = 400) (bb : Nat) (f0 : Nat → Int32) (fr : Int) (va : Int) (tb : Int) (nn : Int) (K : Int) (hpb : PBz (I 396 this).toInt (I 398 this).toInt (I 402 this).toInt (I 391 this).toInt (I 393 this).toInt (ri this_a) bb f0 fr va tb nn K) : MetI l yX12_ask (wa yX12_ask cX12_ask 5 (some .int)) ({ frames := 6, cells := 0, slots := 0, locals := 130 }) [.ref this] D t σ (I, J, ri, rj, rq) sz 0 0 (fun (r : Int32) (u : pq_S × pq_M) => ∃ I' : Nat → Nat → Int32, ∃ J' : Nat → Nat → Int64, ∃ ri' : Nat → Nat → Int32, u = (σ, I', J', ri', rj, rq) ∧ GM [401, 398, 391, 392, 393, 402] tg σ I ri I' ri' rq ∧ (r.toInt ≠ 0 ∨ (PBz (I' 396 this).toInt (I' 398 this).toInt (I' 402 this).toInt (I' 391 this).toInt (I' 393 this).toInt (ri' this_a) bb f0 fr va (tb + 1) nn K ∧ tmM (I' 391 this).toInt (I' 393 this).toInt ≤ tmM (I 391 this).toInt (I 393 this).toInt)) ∧ g_X12_ask (vI 12 σ this I) (vJ 12 σ this J) (vR 12 σ this ri) (vL 12 σ this rj) (vQ 12 σ this rq) = (r, (vI 12 σ this I'), (vJ 12 σ this J'), (vR 12 σ this ri'), (vL 12 σ this rj), (vQ 12 σ this rq)) ∧ FR 12 tg σ this (I, J, ri, rj, rq) (I', J', ri', rj, rq) ∧ rg r 0 3) := by
  refine Met.ofW (cc := cX12_ask) (maxL := 5) (ret := (some .int)) (by decide +kernel) rfl ?_
  intro p e s m args below meth c s₁ B hml hv
  obtain ⟨rfl, hsz, hP, hK, hD0, hN⟩ := hv
  have hx := B.exec
  have hb := B.bytes
  have hr := B.returns
  have hts := atoms_spec (ws := (wa yX12_ask cX12_ask 5 (some .int))) B.pre
  have hown : s.vm.findClass RX12 = some m.cls := findClass_of_methodNamed B.named
  have hlocks := B.notSynchronized
  subst hsz
  have hD : va_D (pq_B t σ (I, J, ri, rj, rq) s.heap.size) (pq_P t σ (I, J, ri, rj, rq)) := hD0.self
  generalize hAe : pq_B t σ (I, J, ri, rj, rq) s.heap.size = A at hD ⊢
  have hA : ∀ q : Nat, s.heap.size ≤ q → A q := fun q h => by rw [← hAe]; exact Or.inr h
  have hS : va_S A s.heap s.heap [] := va_S.rf
  have hG : GM [401, 398, 391, 392, 393, 402] tg σ I ri I ri rq := ⟨hG0, fun _ _ _ => rfl, fun _ _ _ _ _ => rfl, fun _ _ _ _ _ _ => rfl⟩
  have hl := lv_entry ([.ref this]) (n := 5) (Nat.le_of_ble_eq_true rfl)
  rw [lg_entry_eq]
  generalize (lg_sl ([.ref this]) ++ List.replicate (5 - (lg_sl ([.ref this])).length) Slot.unset).toArray = ls at hl ⊢
  have hl : lv_has ls 5 [(0, .ref this)] := hl
  refine q_gen (fun Q hQ => ?_)
  have go : ∀ (H : Heap) (locs : List Loc) (ls : Array Slot), va_P D vwCl (pq_P t σ (I, J, ri, rj, rq)) H → va_D A (pq_P t σ (I, J, ri, rj, rq)) → va_S A s.heap H locs → lv_has ls 5 [(0, .ref this)] → W p l e ({ frames := 6, cells := 0, slots := 0, locals := 130 } : Room) s m (List.toArray ([.ref this] : List Value)) below meth c H locs 0 0 Q (F0 m 0 ls []) := by
    intro H locs ls hP hD hS hl
    have hO_this : this = vo σ 12 this := rfl
    have hVT : VT 12 σ tg this := vt_12 hSH hL_this hK_this
    have hFr : FR 12 tg σ this (I, J, ri, rj, rq) (I, J, ri, rj, rq) := fr_rf
    have hO_this_a : this_a = vrow σ 384 this := vo_k (c := 12) hO_this hR_this_a
    have hO_this_pile : this_pile = vrow σ 400 this := vo_k (c := 12) hO_this hR_this_pile
    obtain ⟨F, hF0⟩ : ∃ F, F = g_X12_ask (vI 12 σ this I) (vJ 12 σ this J) (vR 12 σ this ri) (vL 12 σ this rj) (vQ 12 σ this rq) := ⟨_, rfl⟩
    have hF := hF0.trans g_X12_ask_e
    have hv0 := PBz_tv hpb
    have ho0 := PBz_op hpb
    refine lv_iconst (v := 0) hx hb dX12_ask_0 (by decide +kernel) ?_
    refine lv_istore_n (lv' := [(1, .int 0), (0, .ref this)]) hx hb dX12_ask_1 rfl hl (by decide +kernel) rfl (fun ls hl => ?_)
    have L_2738 : ∀ (n_2737 : Nat) (x_2268 : Int32) (I_2269 : Nat → Nat → Int32) (J_2270 : Nat → Nat → Int64) (H : Heap) (locs : List Loc) (ls : Array Slot), rg x_2268 0 8 → ((I_2269 402 this).toInt = nn + (x_2268).toInt ∧ 0 ≤ nn ∧ (I_2269 402 this).toInt ≤ 8 ∧ 0 ≤ (x_2268).toInt) → (PBz (I_2269 396 this).toInt (I_2269 398 this).toInt (I_2269 402 this).toInt (I_2269 391 this).toInt (I_2269 393 this).toInt (ri this_a) bb f0 fr va tb (nn + (x_2268).toInt) (K + (x_2268).toInt)) → (tmM (I_2269 391 this).toInt (I_2269 393 this).toInt ≤ tmM (I 391 this).toInt (I 393 this).toInt) → (tmM (I_2269 391 this).toInt (I_2269 393 this).toInt).toNat < n_2737 → F = g_X12_ask_L2 (vR 12 σ this ri) (vL 12 σ this rj) (vQ 12 σ this rq) n_2737 x_2268 (vI 12 σ this I_2269) (vJ 12 σ this J_2270) → FR 12 tg σ this (I, J, ri, rj, rq) (I_2269, J_2270, ri, rj, rq) → GM [401, 398, 391, 392, 393, 402] tg σ I ri I_2269 ri rq → va_P D vwCl (pq_P t σ (I_2269, J_2270, ri, rj, rq)) H → va_D A (pq_P t σ (I_2269, J_2270, ri, rj, rq)) → va_S A s.heap H locs → lv_has ls 5 [(0, .ref this), (1, .int x_2268)] → W p l e ({ frames := 6, cells := 0, slots := 0, locals := 130 } : Room) s m (List.toArray ([.ref this] : List Value)) below meth c H locs 0 0 Q (F0 m 2 ls []) := by
      intro n_2737
      induction n_2737 with
      | zero => intro x_2268 I_2269 J_2270 H locs ls h_2744 hrel_2745 hrel_2746 hrel_2747 hm_2736 hF hFr hG hP hD hS hl; exact absurd hm_2736 (Nat.not_lt_zero _)
      | succ n_2737 ih_2739 =>
        intro x_2268 I_2269 J_2270 H locs ls h_2744 hrel_2745 hrel_2746 hrel_2747 hm_2736 hF hFr hG hP hD hS hl
        have uh_2744 := h_2744.1
        have vh_2744 := h_2744.2
        replace hF := hF.trans g_X12_ask_L2_e
        refine lv_aload_n hx hb dX12_ask_2 rfl (lv_at hl 0 rfl) ?_
        refine lv_bipush (v := 110) hx hb dX12_ask_3 (by decide +kernel) ?_
        refine lv_bipush (v := 111) hx hb dX12_ask_5 (by decide +kernel) ?_
        refine lv_bipush (v := 116) hx hb dX12_ask_7 (by decide +kernel) ?_
        refine pk_l (va_runS (As := [.int 110, .int 111, .int 116]) (rest := [.ref this]) ⟨hx, hb, hml, hown, hts⟩ (s_X12_w3_x l D t σ I_2269 J_2270 ri rj rq H.size tg hSH hG.1 (110 : Int32) (111 : Int32) (116 : Int32)) (va_cwS 3 hts (tw_S tw_864 tw_865 tw_5 tw_866) rfl rfl rfl cd_yX12_w3_3 ⟨Nat.le_of_ble_eq_true rfl, Nat.le_of_ble_eq_true rfl⟩) ⟨pq_blind, pq_pre hK hN hP hD⟩ rfl rfl hl.1 rfl (lv_room (Nat.le_of_ble_eq_true rfl)) dX12_ask_9 ⟨Nat.le_of_ble_eq_true rfl, Nat.le_of_ble_eq_true rfl⟩) hD hS hA (fun x_2748 σ1 μ1 H locs hw_2749 hP hD hS => ?_)
        obtain ⟨hu_2750, hfn_2753⟩ := hw_2749
        obtain ⟨hu_2750a, hu_2750b⟩ := Prod.mk.inj hu_2750
        rw [hu_2750a, hu_2750b] at hP hD
        replace hF := hF.trans (ap_n hfn_2753.symm)
        refine pk_i (va_runV (As := [.long x_2748]) (rest := []) ⟨hx, hb, hml, hown, hts⟩ (s_X12_isWord_x l D t σ I_2269 J_2270 ri rj rq H.size tg hSH hG.1 this x_2748 hL_this hK_this) (cwV 1 hts (tw_V tw_879 tw_880 tw_881 tw_5 tw_882) rfl rfl rfl cv_yX12_isWord_1 ⟨Nat.le_of_ble_eq_true rfl, Nat.le_of_ble_eq_true rfl⟩) ⟨pq_blind, pq_recv hK hP hL_this hK_this (by decide +kernel) rfl, pq_pre hK hN hP hD⟩ rfl rfl hl.1 rfl (lv_room (Nat.le_of_ble_eq_true rfl)) dX12_ask_12 ⟨Nat.le_of_ble_eq_true rfl, Nat.le_of_ble_eq_true rfl⟩) hD hS hA (fun x_2755 σ1 μ1 H locs hw_2756 hP hD hS => ?_)
        obtain ⟨hu_2757, hfn_2760, hr_2759⟩ := hw_2756
        obtain ⟨hu_2757a, hu_2757b⟩ := Prod.mk.inj hu_2757
        rw [hu_2757a, hu_2757b] at hP hD
        replace hF := hF.trans (bn_n hfn_2760)
        have h_2762 : rg x_2755 0 1 := by rcases hr_2759 with ⟨q, -⟩ | ⟨q, -⟩ <;> rw [q] <;> exact ⟨by decide +kernel, by decide +kernel⟩
        have uh_2762 := h_2762.1
        have vh_2762 := h_2762.2
        refine lv_if_eq (tgt := 49) hx hb dX12_ask_15 (by decide +kernel) (fun c_2763 => ?_) (fun c_2763 => ?_)
        · replace hF := hF.trans (if_pos c_2763)
          have f_2770 := (hr_2759.resolve_left (fun q => absurd (q.1.symm.trans c_2763) (by decide +kernel))).2
          have tc_2771 : (x_2755).toInt = 0 := congrArg Int32.toInt c_2763
          have h_2772 : rg x_2755 0 0 := rg_and h_2762 (rg_of_eq c_2763 (rg_k (0 : Int32) 0 rfl)) (by decide +kernel)
          have uh_2772 := h_2772.1
          have vh_2772 := h_2772.2
          refine lv_aload_n hx hb dX12_ask_49 rfl (lv_at hl 0 rfl) ?_
          refine pk_i (va_runV (As := []) (rest := []) ⟨hx, hb, hml, hown, hts⟩ (s_X12_sum l D t σ I_2269 J_2270 ri rj rq H.size tg hSH hG.1 this hL_this hK_this this_a hR_this_a hL_this_a hK_this_a hN_this_a hT_this_a this_pile hR_this_pile hL_this_pile hK_this_pile hN_this_pile hT_this_pile bb f0 fr va tb (nn + (x_2268).toInt) (K + (x_2268).toInt) (by assumption)) (cwV 0 hts (tw_V tw_883 tw_884 tw_885 tw_5 tw_886) rfl rfl rfl cv_yX12_sum_0 ⟨Nat.le_of_ble_eq_true rfl, Nat.le_of_ble_eq_true rfl⟩) ⟨pq_blind, pq_recv hK hP hL_this hK_this (by decide +kernel) rfl, pq_pre hK hN hP hD⟩ rfl rfl hl.1 rfl (lv_room (Nat.le_of_ble_eq_true rfl)) dX12_ask_50 ⟨Nat.le_of_ble_eq_true rfl, Nat.le_of_ble_eq_true rfl⟩) hD hS hA (fun x_2773 σ1 μ1 H locs hw_2774 hP hD hS => ?_)
          obtain ⟨I_2775, J_2776, ri_2777, hu_2778, hg_2779, hp_2781, hfn_2782, hfr_2783, hr_2780⟩ := hw_2774
          obtain ⟨hu_2778a, hu_2778b⟩ := Prod.mk.inj hu_2778
          rw [hu_2778a, hu_2778b] at hP hD
          replace hF := hF.trans (bn_n hfn_2782)
          replace hFr := fr_tr hFr hfr_2783
          have hG := GM.tr hG hg_2779 (by decide +kernel)
          have tt_2784 : (I_2775 396 this).toInt = (I_2269 396 this).toInt := by rw [hg_2779.2.1 396 (by decide +kernel) (by decide +kernel)]
          have tt_2785 : (I_2775 397 this).toInt = (I_2269 397 this).toInt := by rw [hg_2779.2.1 397 (by decide +kernel) (by decide +kernel)]
          refine lv_istore_n (lv' := [(2, .int x_2773), (0, .ref this), (1, .int x_2268)]) hx hb dX12_ask_53 rfl hl (by decide +kernel) rfl (fun ls hl => ?_)
          refine lv_iload_n hx hb dX12_ask_54 rfl (lv_at hl 0 rfl) ?_
          refine lv_if_eq (tgt := 60) hx hb dX12_ask_55 (by decide +kernel) (fun c_2786 => ?_) (fun c_2786 => ?_)
          · replace hF := hF.trans (if_pos c_2786)
            have tc_2791 : (x_2773).toInt = 0 := congrArg Int32.toInt c_2786
            have h_2792 : rg x_2773 0 0 := rg_and hr_2780 (rg_of_eq c_2786 (rg_k (0 : Int32) 0 rfl)) (by decide +kernel)
            have uh_2792 := h_2792.1
            have vh_2792 := h_2792.2
            refine lv_aload_n hx hb dX12_ask_60 rfl (lv_at hl 1 rfl) ?_
            refine pk_i (va_runV (As := []) (rest := []) ⟨hx, hb, hml, hown, hts⟩ (s_X12_compareOf l D t σ I_2775 J_2776 ri_2777 rj rq H.size tg hSH hG.1 this hL_this hK_this) (cwV 0 hts (tw_V tw_925 tw_926 tw_927 tw_5 tw_928) rfl rfl rfl cv_yX12_compareOf_0 ⟨Nat.le_of_ble_eq_true rfl, Nat.le_of_ble_eq_true rfl⟩) ⟨pq_blind, pq_recv hK hP hL_this hK_this (by decide +kernel) rfl, pq_pre hK hN hP hD⟩ rfl rfl hl.1 rfl (lv_room (Nat.le_of_ble_eq_true rfl)) dX12_ask_61 ⟨Nat.le_of_ble_eq_true rfl, Nat.le_of_ble_eq_true rfl⟩) hD hS hA (fun x_2793 σ1 μ1 H locs hw_2794 hP hD hS => ?_)
            obtain ⟨hu_2795, hp_2798, hfn_2799, hr_2797⟩ := hw_2794
            obtain ⟨hu_2795a, hu_2795b⟩ := Prod.mk.inj hu_2795
            rw [hu_2795a, hu_2795b] at hP hD
            replace hF := hF.trans (bn_n hfn_2799)
            have tt_2801 := hp_2798
            refine lv_istore_n (lv' := [(3, .int x_2793), (2, .int x_2773), (0, .ref this), (1, .int x_2268)]) hx hb dX12_ask_64 rfl hl (by decide +kernel) rfl (fun ls hl => ?_)
            refine lv_iload_n hx hb dX12_ask_65 rfl (lv_at hl 0 rfl) ?_
            refine lv_if_ge (tgt := 71) hx hb dX12_ask_66 (by decide +kernel) (fun c_2802 => ?_) (fun c_2802 => ?_)
            · replace hF := hF.trans (if_pos c_2802)
              have tc_2807 : 0 ≤ (x_2793).toInt := Int32.le_iff_toInt_le.mp c_2802
              have h_2808 : rg x_2793 0 15 := rg_le2 c_2802 (rg_k (0 : Int32) 0 rfl) hr_2797 (by decide +kernel)
              have uh_2808 := h_2808.1
              have vh_2808 := h_2808.2
              refine lv_aload_n hx hb dX12_ask_71 rfl (lv_at hl 2 rfl) ?_
              obtain ⟨w_2809, hR_w_2809, hL_w_2809, hK_w_2809, hN_w_2809, hT_w_2809⟩ := sh_a hSH 387 (ci := 12) (kd := 13) (len := 300) rfl (by decide +kernel) hL_this hK_this
              have hO_w_2809 : w_2809 = vrow σ 387 this := vo_k (c := 12) hO_this hR_w_2809
              refine pk_v (va_runV (As := []) (rest := []) ⟨hx, hb, hml, hown, hts⟩ (s_X12_nextToken_x l D t σ I_2775 J_2776 ri_2777 rj rq H.size tg hSH hG.1 this hL_this hK_this w_2809 hR_w_2809 hL_w_2809 hK_w_2809 hN_w_2809 hT_w_2809) (cwV 0 hts (tw_V tw_832 tw_833 tw_834 tw_5 tw_835) rfl rfl rfl cv_yX12_nextToken_0 ⟨Nat.le_of_ble_eq_true rfl, Nat.le_of_ble_eq_true rfl⟩) ⟨pq_blind, pq_recv hK hP hL_this hK_this (by decide +kernel) rfl, pq_pre hK hN hP hD⟩ rfl rfl hl.1 rfl (lv_room (Nat.le_of_ble_eq_true rfl)) dX12_ask_72 ⟨Nat.le_of_ble_eq_true rfl, Nat.le_of_ble_eq_true rfl⟩) hD hS hA (fun σ1 μ1 H locs hw_2811 hP hD hS => ?_)
              obtain ⟨I_2812, J_2813, hu_2814, hg_2815, hp_2817, hp_2818, hp_2819, hfn_2820, hfr_2821⟩ := hw_2811
              obtain ⟨hu_2814a, hu_2814b⟩ := Prod.mk.inj hu_2814
              rw [hu_2814a, hu_2814b] at hP hD
              replace hF := hF.trans (bv_n hfn_2820)
              replace hFr := fr_tr hFr hfr_2821
              have tt_2822 := hp_2817
              have tt_2823 := hp_2818
              have tt_2824 := hp_2819
              have tt_2825 : (I_2812 391 this).toInt ≤ 300 := by have z := hg_2815.1.1 391 this; exact z.2
              have hG := GM.tr hG hg_2815 (by decide +kernel)
              have tt_2826 : (I_2812 396 this).toInt = (I_2775 396 this).toInt := by rw [hg_2815.2.1 396 (by decide +kernel) (by decide +kernel)]
              have tt_2827 : (I_2812 398 this).toInt = (I_2775 398 this).toInt := by rw [hg_2815.2.1 398 (by decide +kernel) (by decide +kernel)]
              have tt_2828 : (I_2812 401 this).toInt = (I_2775 401 this).toInt := by rw [hg_2815.2.1 401 (by decide +kernel) (by decide +kernel)]
              have tt_2829 : (I_2812 402 this).toInt = (I_2775 402 this).toInt := by rw [hg_2815.2.1 402 (by decide +kernel) (by decide +kernel)]
              have tt_2830 : (I_2812 397 this).toInt = (I_2775 397 this).toInt := by rw [hg_2815.2.1 397 (by decide +kernel) (by decide +kernel)]
              refine lv_aload_n hx hb dX12_ask_75 rfl (lv_at hl 2 rfl) ?_
              have hpb2 : PBz (I_2812 396 this).toInt (I_2812 398 this).toInt (I_2812 402 this).toInt (I_2812 391 this).toInt (I_2812 393 this).toInt (ri_2777 this_a) bb f0 fr (va + 1) tb (nn + (x_2268).toInt) (K + (x_2268).toInt + 1) := PBz_tok (hp_2781.resolve_left (fun q => q (by omega))).1 (by omega) (by omega) (by omega) (by omega) (by omega) (by omega) (by omega) rfl
              have htmA : tmM (I_2775 391 this).toInt (I_2775 393 this).toInt ≤ tmM (I 391 this).toInt (I 393 this).toInt := Int.le_trans (hp_2781.resolve_left (fun q => q (by omega))).2 hrel_2747
              have htmB : tmM (I_2812 391 this).toInt (I_2812 393 this).toInt ≤ tmM (I 391 this).toInt (I 393 this).toInt := Int.le_of_lt (Int.lt_of_lt_of_le (tm_lt (by omega) (by omega) (by omega)) htmA)
              refine pk_i (va_runV (As := []) (rest := []) ⟨hx, hb, hml, hown, hts⟩ (s_X12_sum l D t σ I_2812 J_2813 ri_2777 rj rq H.size tg hSH hG.1 this hL_this hK_this this_a hR_this_a hL_this_a hK_this_a hN_this_a hT_this_a this_pile hR_this_pile hL_this_pile hK_this_pile hN_this_pile hT_this_pile bb f0 fr (va + 1) tb (nn + (x_2268).toInt) (K + (x_2268).toInt + 1) (by assumption)) (cwV 0 hts (tw_V tw_883 tw_884 tw_885 tw_5 tw_886) rfl rfl rfl cv_yX12_sum_0 ⟨Nat.le_of_ble_eq_true rfl, Nat.le_of_ble_eq_true rfl⟩) ⟨pq_blind, pq_recv hK hP hL_this hK_this (by decide +kernel) rfl, pq_pre hK hN hP hD⟩ rfl rfl hl.1 rfl (lv_room (Nat.le_of_ble_eq_true rfl)) dX12_ask_76 ⟨Nat.le_of_ble_eq_true rfl, Nat.le_of_ble_eq_true rfl⟩) hD hS hA (fun x_2831 σ1 μ1 H locs hw_2832 hP hD hS => ?_)
              obtain ⟨I_2833, J_2834, ri_2835, hu_2836, hg_2837, hp_2839, hfn_2840, hfr_2841, hr_2838⟩ := hw_2832
              obtain ⟨hu_2836a, hu_2836b⟩ := Prod.mk.inj hu_2836
              rw [hu_2836a, hu_2836b] at hP hD
              replace hF := hF.trans (bn_n hfn_2840)
              replace hFr := fr_tr hFr hfr_2841
              have hG := GM.tr hG hg_2837 (by decide +kernel)
              have tt_2842 : (I_2833 396 this).toInt = (I_2812 396 this).toInt := by rw [hg_2837.2.1 396 (by decide +kernel) (by decide +kernel)]
              have tt_2843 : (I_2833 397 this).toInt = (I_2812 397 this).toInt := by rw [hg_2837.2.1 397 (by decide +kernel) (by decide +kernel)]
              refine lv_istore_n (lv' := [(2, .int x_2831), (3, .int x_2793), (0, .ref this), (1, .int x_2268)]) hx hb dX12_ask_79 rfl hl (by decide +kernel) rfl (fun ls hl => ?_)
              refine lv_iload_n hx hb dX12_ask_80 rfl (lv_at hl 0 rfl) ?_
              refine lv_if_eq (tgt := 86) hx hb dX12_ask_81 (by decide +kernel) (fun c_2844 => ?_) (fun c_2844 => ?_)
              · replace hF := hF.trans (if_pos c_2844)
                have tc_2849 : (x_2831).toInt = 0 := congrArg Int32.toInt c_2844
                have h_2850 : rg x_2831 0 0 := rg_and hr_2838 (rg_of_eq c_2844 (rg_k (0 : Int32) 0 rfl)) (by decide +kernel)
                have uh_2850 := h_2850.1
                have vh_2850 := h_2850.2
                refine lv_aload_n hx hb dX12_ask_86 rfl (lv_at hl 2 rfl) ?_
                refine lv_iload_n hx hb dX12_ask_87 rfl (lv_at hl 1 rfl) ?_
                refine lv_iconst (v := 0) hx hb dX12_ask_88 (by decide +kernel) ?_
                have hpb3 := (hp_2839.resolve_left (fun q => q (by omega))).1
                have htmC : tmM (I_2833 391 this).toInt (I_2833 393 this).toInt ≤ tmM (I 391 this).toInt (I 393 this).toInt := Int.le_trans (hp_2839.resolve_left (fun q => q (by omega))).2 htmB
                have hq1 := PBz_t hpb3
                have hq2 := PBz_w hpb3 (Or.inr (by omega))
                have hq3 := PBz_op hpb3
                refine pk_v (va_runV (As := [.int x_2793, .int 0]) (rest := []) ⟨hx, hb, hml, hown, hts⟩ (s_X12_emit l D t σ I_2833 J_2834 ri_2835 rj rq H.size tg hSH hG.1 this x_2793 (0 : Int32) hL_this hK_this this_a hR_this_a hL_this_a hK_this_a hN_this_a hT_this_a (by omega) (by omega)) (cwV 2 hts (tw_V tw_905 tw_906 tw_907 tw_5 tw_908) rfl rfl rfl cv_yX12_emit_2 ⟨Nat.le_of_ble_eq_true rfl, Nat.le_of_ble_eq_true rfl⟩) ⟨pq_blind, pq_recv hK hP hL_this hK_this (by decide +kernel) rfl, pq_pre hK hN hP hD⟩ rfl rfl hl.1 rfl (lv_room (Nat.le_of_ble_eq_true rfl)) dX12_ask_89 ⟨Nat.le_of_ble_eq_true rfl, Nat.le_of_ble_eq_true rfl⟩) hD hS hA (fun σ1 μ1 H locs hw_2852 hP hD hS => ?_)
                obtain ⟨I_2853, ri_2854, hu_2855, hg_2856, hp_2858, hp_2859, hp_2860, hp_2861, hfn_2862, hfr_2863⟩ := hw_2852
                obtain ⟨hu_2855a, hu_2855b⟩ := Prod.mk.inj hu_2855
                rw [hu_2855a, hu_2855b] at hP hD
                replace hF := hF.trans (bv_n hfn_2862)
                replace hFr := fr_tr hFr hfr_2863
                obtain ⟨v_2864, ev_2864, hv_2864⟩ := hp_2858
                have tt_2865 : (I_2853 398 this).toInt = (I_2833 398 this).toInt + 1 := by rw [ev_2864, pq_us]; exact hv_2864
                have tt_2866 : (I_2853 403 this).toInt = (I_2833 403 this).toInt := by rw [ev_2864, pq_uf _ _ _ (by decide +kernel)]
                have hG := GM.tr hG hg_2856 (by decide +kernel)
                have tt_2867 : (I_2853 396 this).toInt = (I_2833 396 this).toInt := by rw [hg_2856.2.1 396 (by decide +kernel) (by decide +kernel)]
                have tt_2868 : (I_2853 401 this).toInt = (I_2833 401 this).toInt := by rw [hg_2856.2.1 401 (by decide +kernel) (by decide +kernel)]
                have tt_2869 : (I_2853 402 this).toInt = (I_2833 402 this).toInt := by rw [hg_2856.2.1 402 (by decide +kernel) (by decide +kernel)]
                have tt_2870 : (I_2853 391 this).toInt = (I_2833 391 this).toInt := by rw [hg_2856.2.1 391 (by decide +kernel) (by decide +kernel)]
                have tt_2871 : (I_2853 393 this).toInt = (I_2833 393 this).toInt := by rw [hg_2856.2.1 393 (by decide +kernel) (by decide +kernel)]
                have tt_2872 : (I_2853 397 this).toInt = (I_2833 397 this).toInt := by rw [hg_2856.2.1 397 (by decide +kernel) (by decide +kernel)]
                refine lv_aload_n hx hb dX12_ask_92 rfl (lv_at hl 2 rfl) ?_
                refine lv_dup hx hb dX12_ask_93 rfl ?_
                refine pg_f (v := .int (I_2853 402 this)) (C := RX12) (T := TX12) (N := 31) hx hb hts (tw_i inlX12) hown hK hP hL_this hK_this (by decide +kernel) rfl 18 (by decide +kernel) (hts _ (tw_c tw_828)) rfl dX12_ask_94 ?_
                replace hF := hF.trans (ap_n (vI_e (f := 402) hO_this (by decide +kernel)))
                refine lv_iload_n hx hb dX12_ask_97 rfl (lv_at hl 3 rfl) ?_
                have h_2874 : rg (I_2853 402 this) 0 8 := ⟨by omega, by omega⟩
                have uh_2874 := h_2874.1
                have vh_2874 := h_2874.2
                refine lv_isub hx hb dX12_ask_98 ?_
                refine lv_topi (fun x_2875 ex_2875 => ?_)
                replace hF := hF.trans (ap_n ex_2875)
                have h_2876 : rg x_2875 (-8) 8 := rg_of_eq ex_2875 (rg_sub h_2874 h_2744 (by decide +kernel))
                have uh_2876 := h_2876.1
                have vh_2876 := h_2876.2
                have tx_2875 : (x_2875).toInt = (I_2853 402 this).toInt - (x_2268).toInt := by rw [ex_2875]; exact i_sub_rg (a2 := (I_2853 402 this).toInt) (b2 := (x_2268).toInt) rfl rfl h_2874 h_2744 (by decide +kernel)
                refine pp_i (v := x_2875) (ty := .int) (C := RX12) (T := TX12) (N := 31) hx hb hts (tw_i inlX12) tyX12 tyX12_ok nmX12 hown hK hP hD hS hL_this hK_this (by decide +kernel) rfl 18 402 (by decide +kernel) (hts _ (tw_c tw_828)) rfl (tyX12_ok 18 (by decide +kernel)) rfl rfl (Nat.le_of_ble_eq_true rfl) (ps_402 _ _ _ _ _) dX12_ask_99 (fun I_2877 H locs eI_2877 hP hD hS => ?_)
                replace hFr := fr_I (f := 402) hFr hO_this (by decide +kernel) eI_2877
                replace hF := hF.trans (ap_n (vI_st (f := 402) hO_this (by decide +kernel) eI_2877))
                have hG := GM.wI hG 402 rfl eI_2877 (rg_w h_2876 (by decide +kernel)) (by decide +kernel)
                have tt_2878 : (I_2877 396 this).toInt = (I_2853 396 this).toInt := by rw [eI_2877, pq_uf _ _ _ (by decide +kernel)]
                have tt_2879 : (I_2877 398 this).toInt = (I_2853 398 this).toInt := by rw [eI_2877, pq_uf _ _ _ (by decide +kernel)]
                have tt_2880 : (I_2877 401 this).toInt = (I_2853 401 this).toInt := by rw [eI_2877, pq_uf _ _ _ (by decide +kernel)]
                have tt_2881 : (I_2877 402 this).toInt = (x_2875).toInt := by rw [eI_2877, pq_us]
                have tt_2882 : (I_2877 391 this).toInt = (I_2853 391 this).toInt := by rw [eI_2877, pq_uf _ _ _ (by decide +kernel)]
                have tt_2883 : (I_2877 393 this).toInt = (I_2853 393 this).toInt := by rw [eI_2877, pq_uf _ _ _ (by decide +kernel)]
                have tt_2884 : (I_2877 403 this).toInt = (I_2853 403 this).toInt := by rw [eI_2877, pq_uf _ _ _ (by decide +kernel)]
                have tt_2885 : (I_2877 397 this).toInt = (I_2853 397 this).toInt := by rw [eI_2877, pq_uf _ _ _ (by decide +kernel)]
                refine lv_iconst (v := 0) hx hb dX12_ask_102 (by decide +kernel) ?_
                refine lv_istore (lv' := [(4, .int 0), (2, .int x_2831), (3, .int x_2793), (0, .ref this), (1, .int x_2268)]) hx hb dX12_ask_103 hl (by decide +kernel) rfl (fun ls hl => ?_)
                have L_3142 : ∀ (n_3141 : Nat) (x_3103 : Int32) (I_3104 : Nat → Nat → Int32) (ri_3105 : Nat → Nat → Int32) (H : Heap) (locs : List Loc) (ls : Array Slot), rg x_3103 0 8 → (0 ≤ (x_3103).toInt ∧ (x_3103).toInt ≤ (x_2268).toInt) → (PBz (I_3104 396 this).toInt (I_3104 398 this).toInt (I_3104 402 this).toInt (I_3104 391 this).toInt (I_3104 393 this).toInt (ri_3105 this_a) bb f0 fr va (tb + 1) nn (K + (x_2268).toInt - (x_3103).toInt)) → (tmM (I_3104 391 this).toInt (I_3104 393 this).toInt ≤ tmM (I 391 this).toInt (I 393 this).toInt) → ((x_2268).toInt - (x_3103).toInt).toNat < n_3141 → F = g_X12_ask_L105 (vL 12 σ this rj) (vQ 12 σ this rq) x_2268 (vJ 12 σ this J_2834) n_3141 x_3103 (vI 12 σ this I_3104) (vR 12 σ this ri_3105) → FR 12 tg σ this (I, J, ri, rj, rq) (I_3104, J_2834, ri_3105, rj, rq) → GM [401, 398, 391, 392, 393, 402] tg σ I ri I_3104 ri_3105 rq → va_P D vwCl (pq_P t σ (I_3104, J_2834, ri_3105, rj, rq)) H → va_D A (pq_P t σ (I_3104, J_2834, ri_3105, rj, rq)) → va_S A s.heap H locs → lv_has ls 5 [(0, .ref this), (1, .int x_2268), (4, .int x_3103)] → W p l e ({ frames := 6, cells := 0, slots := 0, locals := 130 } : Room) s m (List.toArray ([.ref this] : List Value)) below meth c H locs 0 0 Q (F0 m 105 ls []) := by
                  intro n_3141
                  induction n_3141 with
                  | zero => intro x_3103 I_3104 ri_3105 H locs ls h_3148 hrel_3149 hrel_3150 hrel_3151 hm_3140 hF hFr hG hP hD hS hl; exact absurd hm_3140 (Nat.not_lt_zero _)
                  | succ n_3141 ih_3143 =>
                    intro x_3103 I_3104 ri_3105 H locs ls h_3148 hrel_3149 hrel_3150 hrel_3151 hm_3140 hF hFr hG hP hD hS hl
                    have uh_3148 := h_3148.1
                    have vh_3148 := h_3148.2
                    replace hF := hF.trans g_X12_ask_L105_e
                    refine lv_iload hx hb dX12_ask_105 (lv_at hl 2 rfl) ?_
                    refine lv_iload_n hx hb dX12_ask_107 rfl (lv_at hl 1 rfl) ?_
                    refine lv_icmp_ge (tgt := 124) hx hb dX12_ask_108 (by decide +kernel) (fun c_3152 => ?_) (fun c_3152 => ?_)
                    · replace hF := hF.trans (if_pos c_3152)
                      have tc_3157 : (x_2268).toInt ≤ (x_3103).toInt := Int32.le_iff_toInt_le.mp c_3152
                      refine lv_iconst (v := 0) hx hb dX12_ask_124 (by decide +kernel) ?_
                      subst hQ
                      exact W.iret (v := 0) hx hb hr (fun t1 ht hW => ⟨⟨0, (σ, I_3104, J_2834, ri_3105, rj, rq), rfl, ⟨I_3104, J_2834, ri_3105, rfl, hG, (Or.inr ⟨by have q := hrel_3150; rw [show K + (x_2268).toInt - (x_3103).toInt = K from by omega] at q; exact q, hrel_3151⟩), (hF0.symm.trans hF), hFr, (rg_w (rg_k (0 : Int32) 0 rfl) (by decide +kernel))⟩, by rw [ht]; exact hP, va_K.moved hW.alike hK, hD⟩, hS.F ht⟩) hS.2.2 dX12_ask_125
                    · replace hF := hF.trans (if_neg c_3152)
                      have tc_3158 : (x_3103).toInt < (x_2268).toInt := Int32.lt_iff_toInt_lt.mp (nle c_3152)
                      have h_3159 : rg x_3103 0 7 := rg_lt1 (nle c_3152) h_3148 h_2744 (by decide +kernel)
                      have uh_3159 := h_3159.1
                      have vh_3159 := h_3159.2
                      have h_3160 : rg x_2268 1 8 := rg_lt2 (nle c_3152) h_3148 h_2744 (by decide +kernel)
                      have uh_3160 := h_3160.1
                      have vh_3160 := h_3160.2
                      refine lv_aload_n hx hb dX12_ask_111 rfl (lv_at hl 0 rfl) ?_
                      refine lv_bipush (v := 20) hx hb dX12_ask_112 (by decide +kernel) ?_
                      refine lv_iconst (v := 0) hx hb dX12_ask_114 (by decide +kernel) ?_
                      have hq1 := PBz_t hrel_3150
                      have hq2 := PBz_w hrel_3150 (Or.inr (by omega))
                      have h_3161 : rg x_3103 0 7 := ⟨by omega, by omega⟩
                      have uh_3161 := h_3161.1
                      have vh_3161 := h_3161.2
                      refine pk_v (va_runV (As := [.int 20, .int 0]) (rest := []) ⟨hx, hb, hml, hown, hts⟩ (s_X12_emit l D t σ I_3104 J_2834 ri_3105 rj rq H.size tg hSH hG.1 this (20 : Int32) (0 : Int32) hL_this hK_this this_a hR_this_a hL_this_a hK_this_a hN_this_a hT_this_a (by omega) (by omega)) (cwV 2 hts (tw_V tw_905 tw_906 tw_907 tw_5 tw_908) rfl rfl rfl cv_yX12_emit_2 ⟨Nat.le_of_ble_eq_true rfl, Nat.le_of_ble_eq_true rfl⟩) ⟨pq_blind, pq_recv hK hP hL_this hK_this (by decide +kernel) rfl, pq_pre hK hN hP hD⟩ rfl rfl hl.1 rfl (lv_room (Nat.le_of_ble_eq_true rfl)) dX12_ask_115 ⟨Nat.le_of_ble_eq_true rfl, Nat.le_of_ble_eq_true rfl⟩) hD hS hA (fun σ1 μ1 H locs hw_3163 hP hD hS => ?_)
                      obtain ⟨I_3164, ri_3165, hu_3166, hg_3167, hp_3169, hp_3170, hp_3171, hp_3172, hfn_3173, hfr_3174⟩ := hw_3163
                      obtain ⟨hu_3166a, hu_3166b⟩ := Prod.mk.inj hu_3166
                      rw [hu_3166a, hu_3166b] at hP hD
                      replace hF := hF.trans (bv_n hfn_3173)
                      replace hFr := fr_tr hFr hfr_3174
                      obtain ⟨v_3175, ev_3175, hv_3175⟩ := hp_3169
                      have tt_3176 : (I_3164 398 this).toInt = (I_3104 398 this).toInt + 1 := by rw [ev_3175, pq_us]; exact hv_3175
                      have tt_3177 : (I_3164 403 this).toInt = (I_3104 403 this).toInt := by rw [ev_3175, pq_uf _ _ _ (by decide +kernel)]
                      have hG := GM.tr hG hg_3167 (by decide +kernel)
                      have tt_3178 : (I_3164 396 this).toInt = (I_3104 396 this).toInt := by rw [hg_3167.2.1 396 (by decide +kernel) (by decide +kernel)]
                      have tt_3179 : (I_3164 401 this).toInt = (I_3104 401 this).toInt := by rw [hg_3167.2.1 401 (by decide +kernel) (by decide +kernel)]
                      have tt_3180 : (I_3164 402 this).toInt = (I_3104 402 this).toInt := by rw [hg_3167.2.1 402 (by decide +kernel) (by decide +kernel)]
                      have tt_3181 : (I_3164 391 this).toInt = (I_3104 391 this).toInt := by rw [hg_3167.2.1 391 (by decide +kernel) (by decide +kernel)]
                      have tt_3182 : (I_3164 393 this).toInt = (I_3104 393 this).toInt := by rw [hg_3167.2.1 393 (by decide +kernel) (by decide +kernel)]
                      have tt_3183 : (I_3164 397 this).toInt = (I_3104 397 this).toInt := by rw [hg_3167.2.1 397 (by decide +kernel) (by decide +kernel)]
                      obtain ⟨x_3184, ex_3184⟩ : ∃ y : Int32, y = x_3103 + Int32.ofInt 1 := ⟨_, rfl⟩
                      replace hF := hF.trans (ap_n ex_3184)
                      have h_3185 : rg x_3184 1 8 := rg_of_eq ex_3184 (rg_add h_3161 (rg_k (Int32.ofInt 1) 1 rfl) (by decide +kernel))
                      have uh_3185 := h_3185.1
                      have vh_3185 := h_3185.2
                      have tx_3184 : (x_3184).toInt = (x_3103).toInt + 1 := by rw [ex_3184]; exact i_add_rg (a2 := (x_3103).toInt) (b2 := 1) rfl rfl h_3161 (rg_k (Int32.ofInt 1) 1 rfl) (by decide +kernel)
                      refine lv_iinc (v := x_3184) (lv' := [(4, .int x_3184), (0, .ref this), (1, .int x_2268)]) hx hb dX12_ask_118 hl (k := 2) rfl ex_3184.symm (by decide +kernel) rfl (fun ls hl => ?_)
                      refine lv_goto (tgt := 105) hx hb dX12_ask_121 (by decide +kernel) ?_
                      exact ih_3143 x_3184 I_3164 ri_3165 _ _ _ (rg_w h_3185 (by decide +kernel)) (by omega) (by have zo : (20 : Int32).toInt = 20 := rfl; rw [show K + (x_2268).toInt - (x_3184).toInt = K + (x_2268).toInt - (x_3103).toInt - 1 from by omega]; exact PBz_em (K := K + (x_2268).toInt - (x_3103).toInt - 1) (x := (20 : Int32)) (by rw [show K + (x_2268).toInt - (x_3103).toInt - 1 + 1 = K + (x_2268).toInt - (x_3103).toInt from by omega]; exact hrel_3150) (by omega) (fun j hj => hp_3170 j (by omega)) (by rw [show (I_3104 396 this).toInt + 250 + 2 * (I_3104 398 this).toInt = (I_3104 396 this).toInt + 250 + 2 * (I_3104 398 this).toInt from by omega]; exact hp_3171) (by omega) (by omega) (by omega) (by omega) (by omega) (by omega)) (tm_lec hrel_3151 (by omega) (by omega)) (by omega) hF hFr hG hP hD hS (lv_sub hl [1, 2, 0] rfl)
                exact L_3142 _ (0 : Int32) I_2877 ri_2854 _ _ _ (rg_w (rg_k (0 : Int32) 0 rfl) (by decide +kernel)) (by have k0 : (0 : Int32).toInt = 0 := rfl; omega) (by have z0 : (0 : Int32).toInt = 0 := rfl; rw [z0, Int.sub_zero]; exact PBz_o (PBz_em (K := K + (x_2268).toInt) (va1 := va) (tb1 := tb + 1) (x := x_2793) hpb3 (by omega) (fun j hj => hp_2859 j (by omega)) (by rw [show (I_2833 396 this).toInt + 250 + 2 * (I_2833 398 this).toInt = (I_2833 396 this).toInt + 250 + 2 * (I_2833 398 this).toInt from by omega]; exact hp_2860) (by omega) (by omega) (by omega) rfl (by omega) (by omega)) (by omega) (by omega) (by omega)) (tm_lec htmC (by omega) (by omega)) (Nat.lt_succ_self _) hF hFr hG hP hD hS (lv_sub hl [3, 4, 0] rfl)
              · replace hF := hF.trans (if_neg c_2844)
                have tc_3186 : (x_2831).toInt ≠ 0 := fun q => c_2844 (Int32.toInt_inj.mp q)
                have h_3187 : rg x_2831 1 3 := rg_ne c_2844 hr_2838 0 rfl (by decide +kernel)
                have uh_3187 := h_3187.1
                have vh_3187 := h_3187.2
                refine lv_iload_n hx hb dX12_ask_84 rfl (lv_at hl 0 rfl) ?_
                subst hQ
                exact W.iret (v := x_2831) hx hb hr (fun t1 ht hW => ⟨⟨x_2831, (σ, I_2833, J_2834, ri_2835, rj, rq), rfl, ⟨I_2833, J_2834, ri_2835, rfl, hG, (Or.inl (by omega)), (hF0.symm.trans hF), hFr, (rg_w h_3187 (by decide +kernel))⟩, by rw [ht]; exact hP, va_K.moved hW.alike hK, hD⟩, hS.F ht⟩) hS.2.2 dX12_ask_85
            · replace hF := hF.trans (if_neg c_2802)
              have tc_3188 : (x_2793).toInt < 0 := Int32.lt_iff_toInt_lt.mp (nle c_2802)
              have h_3189 : rg x_2793 (-1) (-1) := rg_lt1 (nle c_2802) hr_2797 (rg_k (0 : Int32) 0 rfl) (by decide +kernel)
              have uh_3189 := h_3189.1
              have vh_3189 := h_3189.2
              refine lv_iconst (v := 1) hx hb dX12_ask_69 (by decide +kernel) ?_
              subst hQ
              exact W.iret (v := 1) hx hb hr (fun t1 ht hW => ⟨⟨1, (σ, I_2775, J_2776, ri_2777, rj, rq), rfl, ⟨I_2775, J_2776, ri_2777, rfl, hG, (Or.inl (by decide +kernel)), (hF0.symm.trans hF), hFr, (rg_w (rg_k (1 : Int32) 1 rfl) (by decide +kernel))⟩, by rw [ht]; exact hP, va_K.moved hW.alike hK, hD⟩, hS.F ht⟩) hS.2.2 dX12_ask_70
          · replace hF := hF.trans (if_neg c_2786)
            have tc_3190 : (x_2773).toInt ≠ 0 := fun q => c_2786 (Int32.toInt_inj.mp q)
            have h_3191 : rg x_2773 1 3 := rg_ne c_2786 hr_2780 0 rfl (by decide +kernel)
            have uh_3191 := h_3191.1
            have vh_3191 := h_3191.2
            refine lv_iload_n hx hb dX12_ask_58 rfl (lv_at hl 0 rfl) ?_
            subst hQ
            exact W.iret (v := x_2773) hx hb hr (fun t1 ht hW => ⟨⟨x_2773, (σ, I_2775, J_2776, ri_2777, rj, rq), rfl, ⟨I_2775, J_2776, ri_2777, rfl, hG, (Or.inl (by omega)), (hF0.symm.trans hF), hFr, (rg_w h_3191 (by decide +kernel))⟩, by rw [ht]; exact hP, va_K.moved hW.alike hK, hD⟩, hS.F ht⟩) hS.2.2 dX12_ask_59
        · replace hF := hF.trans (if_neg c_2763)
          have f_3192 := (hr_2759.resolve_right (fun q => c_2763 q.1)).2
          have tc_3193 : (x_2755).toInt ≠ 0 := fun q => c_2763 (Int32.toInt_inj.mp q)
          have h_3194 : rg x_2755 1 1 := rg_ne c_2763 h_2762 0 rfl (by decide +kernel)
          have uh_3194 := h_3194.1
          have vh_3194 := h_3194.2
          refine lv_aload_n hx hb dX12_ask_18 rfl (lv_at hl 0 rfl) ?_
          refine pg_f (v := .int (I_2269 402 this)) (C := RX12) (T := TX12) (N := 31) hx hb hts (tw_i inlX12) hown hK hP hL_this hK_this (by decide +kernel) rfl 18 (by decide +kernel) (hts _ (tw_c tw_828)) rfl dX12_ask_19 ?_
          replace hF := hF.trans (ap_n (vI_e (f := 402) hO_this (by decide +kernel)))
          refine lv_bipush (v := 8) hx hb dX12_ask_22 (by decide +kernel) ?_
          refine lv_icmp_ne (tgt := 29) hx hb dX12_ask_24 (by decide +kernel) (fun c_3196 => ?_) (fun c_3196 => ?_)
          · replace hF := hF.trans (if_neg c_3196)
            have tc_3200 : (I_2269 402 this).toInt ≠ 8 := fun q => c_3196 (Int32.toInt_inj.mp q)
            refine lv_aload_n hx hb dX12_ask_29 rfl (lv_at hl 0 rfl) ?_
            refine lv_dup hx hb dX12_ask_30 rfl ?_
            refine pg_f (v := .int (I_2269 402 this)) (C := RX12) (T := TX12) (N := 31) hx hb hts (tw_i inlX12) hown hK hP hL_this hK_this (by decide +kernel) rfl 18 (by decide +kernel) (hts _ (tw_c tw_828)) rfl dX12_ask_31 ?_
            have h_3201 : rg (I_2269 402 this) 0 8 := ⟨by omega, by omega⟩
            have uh_3201 := h_3201.1
            have vh_3201 := h_3201.2
            refine lv_iconst (v := 1) hx hb dX12_ask_34 (by decide +kernel) ?_
            refine lv_iadd hx hb dX12_ask_35 ?_
            refine lv_topi (fun x_3202 ex_3202 => ?_)
            replace hF := hF.trans (ap_n ex_3202)
            have h_3203 : rg x_3202 1 9 := rg_of_eq ex_3202 (rg_add h_3201 (rg_k (1 : Int32) 1 rfl) (by decide +kernel))
            have uh_3203 := h_3203.1
            have vh_3203 := h_3203.2
            have tx_3202 : (x_3202).toInt = (I_2269 402 this).toInt + 1 := by rw [ex_3202]; exact i_add_rg (a2 := (I_2269 402 this).toInt) (b2 := 1) rfl rfl h_3201 (rg_k (1 : Int32) 1 rfl) (by decide +kernel)
            refine pp_i (v := x_3202) (ty := .int) (C := RX12) (T := TX12) (N := 31) hx hb hts (tw_i inlX12) tyX12 tyX12_ok nmX12 hown hK hP hD hS hL_this hK_this (by decide +kernel) rfl 18 402 (by decide +kernel) (hts _ (tw_c tw_828)) rfl (tyX12_ok 18 (by decide +kernel)) rfl rfl (Nat.le_of_ble_eq_true rfl) (ps_402 _ _ _ _ _) dX12_ask_36 (fun I_3204 H locs eI_3204 hP hD hS => ?_)
            replace hFr := fr_I (f := 402) hFr hO_this (by decide +kernel) eI_3204
            replace hF := hF.trans (ap_n (vI_st (f := 402) hO_this (by decide +kernel) eI_3204))
            have hG := GM.wI hG 402 rfl eI_3204 (rg_w h_3203 (by decide +kernel)) (by decide +kernel)
            have tt_3205 : (I_3204 396 this).toInt = (I_2269 396 this).toInt := by rw [eI_3204, pq_uf _ _ _ (by decide +kernel)]
            have tt_3206 : (I_3204 398 this).toInt = (I_2269 398 this).toInt := by rw [eI_3204, pq_uf _ _ _ (by decide +kernel)]
            have tt_3207 : (I_3204 401 this).toInt = (I_2269 401 this).toInt := by rw [eI_3204, pq_uf _ _ _ (by decide +kernel)]
            have tt_3208 : (I_3204 402 this).toInt = (x_3202).toInt := by rw [eI_3204, pq_us]
            have tt_3209 : (I_3204 391 this).toInt = (I_2269 391 this).toInt := by rw [eI_3204, pq_uf _ _ _ (by decide +kernel)]
            have tt_3210 : (I_3204 393 this).toInt = (I_2269 393 this).toInt := by rw [eI_3204, pq_uf _ _ _ (by decide +kernel)]
            have tt_3211 : (I_3204 403 this).toInt = (I_2269 403 this).toInt := by rw [eI_3204, pq_uf _ _ _ (by decide +kernel)]
            have tt_3212 : (I_3204 397 this).toInt = (I_2269 397 this).toInt := by rw [eI_3204, pq_uf _ _ _ (by decide +kernel)]
            have h_3213 : rg x_2268 0 7 := ⟨by omega, by omega⟩
            have uh_3213 := h_3213.1
            have vh_3213 := h_3213.2
            obtain ⟨x_3214, ex_3214⟩ : ∃ y : Int32, y = x_2268 + Int32.ofInt 1 := ⟨_, rfl⟩
            replace hF := hF.trans (ap_n ex_3214)
            have h_3215 : rg x_3214 1 8 := rg_of_eq ex_3214 (rg_add h_3213 (rg_k (Int32.ofInt 1) 1 rfl) (by decide +kernel))
            have uh_3215 := h_3215.1
            have vh_3215 := h_3215.2
            have tx_3214 : (x_3214).toInt = (x_2268).toInt + 1 := by rw [ex_3214]; exact i_add_rg (a2 := (x_2268).toInt) (b2 := 1) rfl rfl h_3213 (rg_k (Int32.ofInt 1) 1 rfl) (by decide +kernel)
            refine lv_iinc (v := x_3214) (lv' := [(1, .int x_3214), (0, .ref this)]) hx hb dX12_ask_39 hl (k := 1) rfl ex_3214.symm (by decide +kernel) rfl (fun ls hl => ?_)
            refine lv_aload_n hx hb dX12_ask_42 rfl (lv_at hl 1 rfl) ?_
            obtain ⟨w_3216, hR_w_3216, hL_w_3216, hK_w_3216, hN_w_3216, hT_w_3216⟩ := sh_a hSH 387 (ci := 12) (kd := 13) (len := 300) rfl (by decide +kernel) hL_this hK_this
            have hO_w_3216 : w_3216 = vrow σ 387 this := vo_k (c := 12) hO_this hR_w_3216
            refine pk_v (va_runV (As := []) (rest := []) ⟨hx, hb, hml, hown, hts⟩ (s_X12_nextToken_x l D t σ I_3204 J_2270 ri rj rq H.size tg hSH hG.1 this hL_this hK_this w_3216 hR_w_3216 hL_w_3216 hK_w_3216 hN_w_3216 hT_w_3216) (cwV 0 hts (tw_V tw_832 tw_833 tw_834 tw_5 tw_835) rfl rfl rfl cv_yX12_nextToken_0 ⟨Nat.le_of_ble_eq_true rfl, Nat.le_of_ble_eq_true rfl⟩) ⟨pq_blind, pq_recv hK hP hL_this hK_this (by decide +kernel) rfl, pq_pre hK hN hP hD⟩ rfl rfl hl.1 rfl (lv_room (Nat.le_of_ble_eq_true rfl)) dX12_ask_43 ⟨Nat.le_of_ble_eq_true rfl, Nat.le_of_ble_eq_true rfl⟩) hD hS hA (fun σ1 μ1 H locs hw_3218 hP hD hS => ?_)
            obtain ⟨I_3219, J_3220, hu_3221, hg_3222, hp_3224, hp_3225, hp_3226, hfn_3227, hfr_3228⟩ := hw_3218
            obtain ⟨hu_3221a, hu_3221b⟩ := Prod.mk.inj hu_3221
            rw [hu_3221a, hu_3221b] at hP hD
            replace hF := hF.trans (bv_n hfn_3227)
            replace hFr := fr_tr hFr hfr_3228
            have tt_3229 := hp_3224
            have tt_3230 := hp_3225
            have tt_3231 := hp_3226
            have tt_3232 : (I_3219 391 this).toInt ≤ 300 := by have z := hg_3222.1.1 391 this; exact z.2
            have hG := GM.tr hG hg_3222 (by decide +kernel)
            have tt_3233 : (I_3219 396 this).toInt = (I_3204 396 this).toInt := by rw [hg_3222.2.1 396 (by decide +kernel) (by decide +kernel)]
            have tt_3234 : (I_3219 398 this).toInt = (I_3204 398 this).toInt := by rw [hg_3222.2.1 398 (by decide +kernel) (by decide +kernel)]
            have tt_3235 : (I_3219 401 this).toInt = (I_3204 401 this).toInt := by rw [hg_3222.2.1 401 (by decide +kernel) (by decide +kernel)]
            have tt_3236 : (I_3219 402 this).toInt = (I_3204 402 this).toInt := by rw [hg_3222.2.1 402 (by decide +kernel) (by decide +kernel)]
            have tt_3237 : (I_3219 397 this).toInt = (I_3204 397 this).toInt := by rw [hg_3222.2.1 397 (by decide +kernel) (by decide +kernel)]
            refine lv_goto (tgt := 2) hx hb dX12_ask_46 (by decide +kernel) ?_
            exact ih_2739 x_3214 I_3219 J_3220 _ _ _ (rg_w h_3215 (by decide +kernel)) (by omega) (by rw [show K + (x_3214).toInt = K + (x_2268).toInt + 1 from by omega]; exact PBz_o (PBz_tok hrel_2746 (by omega) (by omega) (by omega) (by omega) (by omega) (by omega) rfl rfl) (by omega) (by omega) (by omega)) (Int.le_of_lt (Int.lt_of_lt_of_le (tm_lt (by omega) (by omega) (by omega)) hrel_2747)) (tm_ms hm_2736 (tm_lt (by omega) (by omega) (by omega)) (tm_b ((hG.1.1 391 this).2))) hF hFr hG hP hD hS (lv_sub hl [1, 0] rfl)
          · replace hF := hF.trans (if_pos c_3196)
            have tc_3238 : (I_2269 402 this).toInt = 8 := congrArg Int32.toInt c_3196
            have h_3239 : rg (I_2269 402 this) 8 8 := rg_and (rg_full _) (rg_of_eq c_3196 (rg_k (8 : Int32) 8 rfl)) (by decide +kernel)
            have uh_3239 := h_3239.1
            have vh_3239 := h_3239.2
            refine lv_iconst (v := 3) hx hb dX12_ask_27 (by decide +kernel) ?_
            subst hQ
            exact W.iret (v := 3) hx hb hr (fun t1 ht hW => ⟨⟨3, (σ, I_2269, J_2270, ri, rj, rq), rfl, ⟨I_2269, J_2270, ri, rfl, hG, (Or.inl (by decide +kernel)), (hF0.symm.trans hF), hFr, (rg_w (rg_k (3 : Int32) 3 rfl) (by decide +kernel))⟩, by rw [ht]; exact hP, va_K.moved hW.alike hK, hD⟩, hS.F ht⟩) hS.2.2 dX12_ask_28
    replace hF := hF.trans (ap_n (vI_e (f := 391) hO_this (by decide +kernel)))
    replace hF := hF.trans (ap_n (vI_e (f := 393) hO_this (by decide +kernel)))
    exact L_2738 _ (0 : Int32) I J _ _ _ (rg_w (rg_k (0 : Int32) 0 rfl) (by decide +kernel)) (by have k0 : (0 : Int32).toInt = 0 := rfl; omega) (by have z0 : (0 : Int32).toInt = 0 := rfl; rw [z0, Int.add_zero, Int.add_zero]; exact PBz_cg hpb (by omega) (by omega) (by omega) (by omega) (by omega) rfl) (Int.le_refl _) (Nat.lt_succ_self _) hF hFr hG hP hD hS (lv_sub hl [1, 0] rfl)
  exact go _ _ _ hP hD hS hl
