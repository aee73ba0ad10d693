theorem dX10_nature_0 : decode cX10_nature 0 = .ok (.aload_n 0, 1) := oc_42 (by decide +kernel)
theorem tw_457 : Cond.fieldLink RX10 67 "RingsUnder$World" "clock" "I" ∈ wsL_law := sg_20 _ (List.mem_of_getElem? (i := 1) rfl)
theorem dX10_nature_1 : decode cX10_nature 1 = .ok (.getfield 67, 3) := oc_180 (a := 0) (b := 67) (by decide +kernel)
theorem dX10_nature_4 : decode cX10_nature 4 = .ok (.sipush 600, 3) := oc_17 (a := 2) (b := 88) (by decide +kernel)
theorem dX10_nature_7 : decode cX10_nature 7 = .ok (.if_icmp .lt 4, 3) := oc_161 (a := 0) (b := 4) (by decide +kernel)
theorem dX10_nature_11 : decode cX10_nature 11 = .ok (.aload_n 0, 1) := oc_42 (by decide +kernel)
theorem dX10_nature_12 : decode cX10_nature 12 = .ok (.getfield 67, 3) := oc_180 (a := 0) (b := 67) (by decide +kernel)
theorem dX10_nature_15 : decode cX10_nature 15 = .ok (.bipush 12, 2) := oc_16 (a := 12) (by decide +kernel)
theorem dX10_nature_17 : decode cX10_nature 17 = .ok (.irem, 1) := oc_112 (by decide +kernel)
theorem dX10_nature_18 : decode cX10_nature 18 = .ok (.istore_n 2, 1) := oc_61 (by decide +kernel)
theorem dX10_nature_19 : decode cX10_nature 19 = .ok (.aload_n 0, 1) := oc_42 (by decide +kernel)
theorem tw_38 : Cond.fieldLink RX10 25 "RingsUnder$World" "seas" "LRingsUnder$Seas;" ∈ wsL_law := sg_2 _ (List.mem_of_getElem? (i := 14) rfl)
theorem dX10_nature_20 : decode cX10_nature 20 = .ok (.getfield 25, 3) := oc_180 (a := 0) (b := 25) (by decide +kernel)
theorem dX10_nature_23 : decode cX10_nature 23 = .ok (.iload_n 1, 1) := oc_27 (by decide +kernel)
theorem dX10_nature_24 : decode cX10_nature 24 = .ok (.aload_n 0, 1) := oc_42 (by decide +kernel)
theorem dX10_nature_25 : decode cX10_nature 25 = .ok (.getfield 67, 3) := oc_180 (a := 0) (b := 67) (by decide +kernel)
theorem dX10_nature_28 : decode cX10_nature 28 = .ok (.aload_n 0, 1) := oc_42 (by decide +kernel)
theorem dX10_nature_29 : decode cX10_nature 29 = .ok (.getfield 67, 3) := oc_180 (a := 0) (b := 67) (by decide +kernel)
theorem tw_1058 : Cond.methodLink RX10 153 yX7_known ∈ wsL_law := sg_45 _ (List.mem_of_getElem? (i := 2) rfl)
theorem tw_271 : Cond.instanceMethod yX7_known ∈ wsL_law := sg_12 _ (List.mem_of_getElem? (i := 7) rfl)
theorem tw_272 : Cond.selects RX7 yX7_known yX7_known ∈ wsL_law := sg_12 _ (List.mem_of_getElem? (i := 8) rfl)
theorem tw_273 : Cond.code yX7_known cX7_known 9 (some .int) ∈ wsL_law := sg_12 _ (List.mem_of_getElem? (i := 9) rfl)
theorem dX10_nature_32 : decode cX10_nature 32 = .ok (.invokevirtual 153, 3) := oc_182 (a := 0) (b := 153) (by decide +kernel)
theorem dX10_nature_35 : decode cX10_nature 35 = .ok (.istore_n 3, 1) := oc_62 (by decide +kernel)
theorem dX10_nature_36 : decode cX10_nature 36 = .ok (.aload_n 0, 1) := oc_42 (by decide +kernel)
theorem tw_42 : Cond.fieldLink RX10 32 "RingsUnder$World" "land" "LRingsUnder$Land;" ∈ wsL_law := sg_2 _ (List.mem_of_getElem? (i := 18) rfl)
theorem dX10_nature_37 : decode cX10_nature 37 = .ok (.getfield 32, 3) := oc_180 (a := 0) (b := 32) (by decide +kernel)
theorem dX10_nature_40 : decode cX10_nature 40 = .ok (.aload_n 0, 1) := oc_42 (by decide +kernel)
theorem dX10_nature_41 : decode cX10_nature 41 = .ok (.getfield 25, 3) := oc_180 (a := 0) (b := 25) (by decide +kernel)
theorem tw_1051 : Cond.fieldLink RX10 157 "RingsUnder$Seas" "warm" "[I" ∈ wsL_law := sg_44 _ (List.mem_of_getElem? (i := 19) rfl)
theorem dX10_nature_44 : decode cX10_nature 44 = .ok (.getfield 157, 3) := oc_180 (a := 0) (b := 157) (by decide +kernel)
theorem dX10_nature_47 : decode cX10_nature 47 = .ok (.iload_n 2, 1) := oc_28 (by decide +kernel)
theorem dX10_nature_48 : decode cX10_nature 48 = .ok (.iaload, 1) := oc_46 (by decide +kernel)
theorem dX10_nature_49 : decode cX10_nature 49 = .ok (.aload_n 0, 1) := oc_42 (by decide +kernel)
theorem dX10_nature_50 : decode cX10_nature 50 = .ok (.getfield 25, 3) := oc_180 (a := 0) (b := 25) (by decide +kernel)
theorem tw_1052 : Cond.fieldLink RX10 160 "RingsUnder$Seas" "bear" "I" ∈ wsL_law := sg_44 _ (List.mem_of_getElem? (i := 20) rfl)
theorem dX10_nature_53 : decode cX10_nature 53 = .ok (.getfield 160, 3) := oc_180 (a := 0) (b := 160) (by decide +kernel)
theorem tw_1059 : Cond.methodLink RX10 169 yX2_growReef ∈ wsL_law := sg_45 _ (List.mem_of_getElem? (i := 3) rfl)
theorem tw_1060 : Cond.instanceMethod yX2_growReef ∈ wsL_law := sg_45 _ (List.mem_of_getElem? (i := 4) rfl)
theorem tw_1061 : Cond.selects RX2 yX2_growReef yX2_growReef ∈ wsL_law := sg_45 _ (List.mem_of_getElem? (i := 5) rfl)
theorem tw_1062 : Cond.code yX2_growReef cX2_growReef 3 none ∈ wsL_law := sg_45 _ (List.mem_of_getElem? (i := 6) rfl)
theorem dX10_nature_77 : decode cX10_nature 77 = .ok (.invokevirtual 169, 3) := oc_182 (a := 0) (b := 169) (by decide +kernel)
theorem dX10_nature_80 : decode cX10_nature 80 = .ok (.aload_n 0, 1) := oc_42 (by decide +kernel)
theorem dX10_nature_81 : decode cX10_nature 81 = .ok (.getfield 32, 3) := oc_180 (a := 0) (b := 32) (by decide +kernel)
theorem dX10_nature_84 : decode cX10_nature 84 = .ok (.aload_n 0, 1) := oc_42 (by decide +kernel)
theorem dX10_nature_85 : decode cX10_nature 85 = .ok (.getfield 25, 3) := oc_180 (a := 0) (b := 25) (by decide +kernel)
theorem tw_1055 : Cond.fieldLink RX10 172 "RingsUnder$Seas" "drift" "[I" ∈ wsL_law := sg_44 _ (List.mem_of_getElem? (i := 23) rfl)
theorem dX10_nature_88 : decode cX10_nature 88 = .ok (.getfield 172, 3) := oc_180 (a := 0) (b := 172) (by decide +kernel)
theorem dX10_nature_91 : decode cX10_nature 91 = .ok (.iload_n 2, 1) := oc_28 (by decide +kernel)
theorem dX10_nature_92 : decode cX10_nature 92 = .ok (.iaload, 1) := oc_46 (by decide +kernel)
theorem tw_1065 : Cond.methodLink RX10 175 yX2_walk ∈ wsL_law := sg_45 _ (List.mem_of_getElem? (i := 9) rfl)
theorem tw_1066 : Cond.instanceMethod yX2_walk ∈ wsL_law := sg_45 _ (List.mem_of_getElem? (i := 10) rfl)
theorem tw_1067 : Cond.selects RX2 yX2_walk yX2_walk ∈ wsL_law := sg_45 _ (List.mem_of_getElem? (i := 11) rfl)
theorem tw_1068 : Cond.code yX2_walk cX2_walk 3 none ∈ wsL_law := sg_45 _ (List.mem_of_getElem? (i := 12) rfl)
theorem dX10_nature_93 : decode cX10_nature 93 = .ok (.invokevirtual 175, 3) := oc_182 (a := 0) (b := 175) (by decide +kernel)
theorem dX10_nature_96 : decode cX10_nature 96 = .ok (.aload_n 0, 1) := oc_42 (by decide +kernel)
theorem dX10_nature_97 : decode cX10_nature 97 = .ok (.getfield 32, 3) := oc_180 (a := 0) (b := 32) (by decide +kernel)
theorem dX10_nature_100 : decode cX10_nature 100 = .ok (.aload_n 0, 1) := oc_42 (by decide +kernel)
theorem dX10_nature_101 : decode cX10_nature 101 = .ok (.getfield 67, 3) := oc_180 (a := 0) (b := 67) (by decide +kernel)
theorem dX10_nature_104 : decode cX10_nature 104 = .ok (.iload_n 3, 1) := oc_29 (by decide +kernel)
theorem dX10_nature_105 : decode cX10_nature 105 = .ok (.aload_n 0, 1) := oc_42 (by decide +kernel)
theorem dX10_nature_106 : decode cX10_nature 106 = .ok (.getfield 25, 3) := oc_180 (a := 0) (b := 25) (by decide +kernel)
theorem tw_1056 : Cond.fieldLink RX10 178 "RingsUnder$Seas" "high" "[I" ∈ wsL_law := sg_45 _ (List.mem_of_getElem? (i := 0) rfl)
theorem dX10_nature_109 : decode cX10_nature 109 = .ok (.getfield 178, 3) := oc_180 (a := 0) (b := 178) (by decide +kernel)
theorem dX10_nature_112 : decode cX10_nature 112 = .ok (.iload_n 2, 1) := oc_28 (by decide +kernel)
theorem dX10_nature_113 : decode cX10_nature 113 = .ok (.iaload, 1) := oc_46 (by decide +kernel)
theorem dX10_nature_114 : decode cX10_nature 114 = .ok (.iadd, 1) := oc_96 (by decide +kernel)
theorem dX10_nature_115 : decode cX10_nature 115 = .ok (.iload_n 3, 1) := oc_29 (by decide +kernel)
theorem dX10_nature_116 : decode cX10_nature 116 = .ok (.aload_n 0, 1) := oc_42 (by decide +kernel)
theorem dX10_nature_117 : decode cX10_nature 117 = .ok (.getfield 25, 3) := oc_180 (a := 0) (b := 25) (by decide +kernel)
theorem tw_1057 : Cond.fieldLink RX10 181 "RingsUnder$Seas" "low" "[I" ∈ wsL_law := sg_45 _ (List.mem_of_getElem? (i := 1) rfl)
theorem dX10_nature_120 : decode cX10_nature 120 = .ok (.getfield 181, 3) := oc_180 (a := 0) (b := 181) (by decide +kernel)
theorem dX10_nature_123 : decode cX10_nature 123 = .ok (.iload_n 2, 1) := oc_28 (by decide +kernel)
theorem dX10_nature_124 : decode cX10_nature 124 = .ok (.iaload, 1) := oc_46 (by decide +kernel)
theorem dX10_nature_125 : decode cX10_nature 125 = .ok (.iadd, 1) := oc_96 (by decide +kernel)
theorem tw_1070 : Cond.methodLink RX10 184 yX2_tide ∈ wsL_law := sg_45 _ (List.mem_of_getElem? (i := 14) rfl)
theorem tw_1071 : Cond.instanceMethod yX2_tide ∈ wsL_law := sg_45 _ (List.mem_of_getElem? (i := 15) rfl)
theorem tw_1072 : Cond.selects RX2 yX2_tide yX2_tide ∈ wsL_law := sg_45 _ (List.mem_of_getElem? (i := 16) rfl)
theorem tw_1073 : Cond.code yX2_tide cX2_tide 8 none ∈ wsL_law := sg_45 _ (List.mem_of_getElem? (i := 17) rfl)
theorem dX10_nature_126 : decode cX10_nature 126 = .ok (.invokevirtual 184, 3) := oc_182 (a := 0) (b := 184) (by decide +kernel)
theorem dX10_nature_129 : decode cX10_nature 129 = .ok (.aload_n 0, 1) := oc_42 (by decide +kernel)
theorem dX10_nature_130 : decode cX10_nature 130 = .ok (.getfield 32, 3) := oc_180 (a := 0) (b := 32) (by decide +kernel)
theorem tw_1078 : Cond.methodLink RX10 188 yX2_giveUpBeds ∈ wsL_law := sg_45 _ (List.mem_of_getElem? (i := 22) rfl)
theorem tw_1079 : Cond.instanceMethod yX2_giveUpBeds ∈ wsL_law := sg_45 _ (List.mem_of_getElem? (i := 23) rfl)
theorem tw_1080 : Cond.selects RX2 yX2_giveUpBeds yX2_giveUpBeds ∈ wsL_law := sg_46 _ (List.mem_of_getElem? (i := 0) rfl)
theorem tw_1081 : Cond.code yX2_giveUpBeds cX2_giveUpBeds 2 none ∈ wsL_law := sg_46 _ (List.mem_of_getElem? (i := 1) rfl)
theorem dX10_nature_133 : decode cX10_nature 133 = .ok (.invokevirtual 188, 3) := oc_182 (a := 0) (b := 188) (by decide +kernel)
theorem dX10_nature_136 : decode cX10_nature 136 = .ok (.return_, 1) := oc_177 (by decide +kernel)
theorem dX10_nature_56 : decode cX10_nature 56 = .ok (.if_icmp .gt 13, 3) := oc_163 (a := 0) (b := 13) (by decide +kernel)
theorem dX10_nature_69 : decode cX10_nature 69 = .ok (.aload_n 0, 1) := oc_42 (by decide +kernel)
theorem dX10_nature_70 : decode cX10_nature 70 = .ok (.getfield 25, 3) := oc_180 (a := 0) (b := 25) (by decide +kernel)
theorem tw_1054 : Cond.fieldLink RX10 166 "RingsUnder$Seas" "die" "I" ∈ wsL_law := sg_44 _ (List.mem_of_getElem? (i := 22) rfl)
theorem dX10_nature_73 : decode cX10_nature 73 = .ok (.getfield 166, 3) := oc_180 (a := 0) (b := 166) (by decide +kernel)
theorem dX10_nature_76 : decode cX10_nature 76 = .ok (.ineg, 1) := oc_116 (by decide +kernel)
theorem dX10_nature_59 : decode cX10_nature 59 = .ok (.aload_n 0, 1) := oc_42 (by decide +kernel)
theorem dX10_nature_60 : decode cX10_nature 60 = .ok (.getfield 25, 3) := oc_180 (a := 0) (b := 25) (by decide +kernel)
theorem tw_1053 : Cond.fieldLink RX10 163 "RingsUnder$Seas" "grow" "I" ∈ wsL_law := sg_44 _ (List.mem_of_getElem? (i := 21) rfl)
theorem dX10_nature_63 : decode cX10_nature 63 = .ok (.getfield 163, 3) := oc_180 (a := 0) (b := 163) (by decide +kernel)
theorem dX10_nature_66 : decode cX10_nature 66 = .ok (.goto 11, 3) := oc_167 (a := 0) (b := 11) (by decide +kernel)
theorem dX10_nature_10 : decode cX10_nature 10 = .ok (.return_, 1) := oc_177 (by decide +kernel)
theorem dX2_countBeds_0 : decode cX2_countBeds 0 = .ok (.iload_n 2, 1) := oc_28 (by decide +kernel)
theorem dX2_countBeds_1 : decode cX2_countBeds 1 = .ok (.ifCond .lt 11, 3) := oc_155 (a := 0) (b := 11) (by decide +kernel)
theorem dX2_countBeds_4 : decode cX2_countBeds 4 = .ok (.iload_n 2, 1) := oc_28 (by decide +kernel)
theorem dX2_countBeds_5 : decode cX2_countBeds 5 = .ok (.iconst 5, 1) := oc_8 (by decide +kernel)
theorem dX2_countBeds_6 : decode cX2_countBeds 6 = .ok (.iadd, 1) := oc_96 (by decide +kernel)
theorem dX2_countBeds_7 : decode cX2_countBeds 7 = .ok (.aload_n 1, 1) := oc_43 (by decide +kernel)
theorem dX2_countBeds_8 : decode cX2_countBeds 8 = .ok (.arraylength, 1) := oc_190 (by decide +kernel)
theorem dX2_countBeds_9 : decode cX2_countBeds 9 = .ok (.if_icmp .le 4, 3) := oc_164 (a := 0) (b := 4) (by decide +kernel)
theorem dX2_countBeds_13 : decode cX2_countBeds 13 = .ok (.iconst 0, 1) := oc_3 (by decide +kernel)
theorem dX2_countBeds_14 : decode cX2_countBeds 14 = .ok (.istore_n 3, 1) := oc_62 (by decide +kernel)
theorem dX2_countBeds_15 : decode cX2_countBeds 15 = .ok (.iload_n 3, 1) := oc_29 (by decide +kernel)
theorem dX2_countBeds_16 : decode cX2_countBeds 16 = .ok (.iconst 5, 1) := oc_8 (by decide +kernel)
theorem dX2_countBeds_17 : decode cX2_countBeds 17 = .ok (.if_icmp .ge 15, 3) := oc_162 (a := 0) (b := 15) (by decide +kernel)
theorem dX2_countBeds_32 : decode cX2_countBeds 32 = .ok (.iconst 0, 1) := oc_3 (by decide +kernel)
theorem dX2_countBeds_33 : decode cX2_countBeds 33 = .ok (.istore_n 3, 1) := oc_62 (by decide +kernel)
theorem dX2_countBeds_34 : decode cX2_countBeds 34 = .ok (.iload_n 3, 1) := oc_29 (by decide +kernel)
theorem dX2_countBeds_35 : decode cX2_countBeds 35 = .ok (.aload_n 0, 1) := oc_42 (by decide +kernel)
theorem dX2_countBeds_36 : decode cX2_countBeds 36 = .ok (.getfield 73, 3) := oc_180 (a := 0) (b := 73) (by decide +kernel)
theorem dX2_countBeds_39 : decode cX2_countBeds 39 = .ok (.if_icmp .ge 28, 3) := oc_162 (a := 0) (b := 28) (by decide +kernel)
theorem dX2_countBeds_67 : decode cX2_countBeds 67 = .ok (.return_, 1) := oc_177 (by decide +kernel)
theorem dX2_countBeds_42 : decode cX2_countBeds 42 = .ok (.aload_n 1, 1) := oc_43 (by decide +kernel)
theorem dX2_countBeds_43 : decode cX2_countBeds 43 = .ok (.iload_n 2, 1) := oc_28 (by decide +kernel)
theorem dX2_countBeds_44 : decode cX2_countBeds 44 = .ok (.aload_n 0, 1) := oc_42 (by decide +kernel)
theorem dX2_countBeds_45 : decode cX2_countBeds 45 = .ok (.getfield 15, 3) := oc_180 (a := 0) (b := 15) (by decide +kernel)
theorem dX2_countBeds_48 : decode cX2_countBeds 48 = .ok (.iload_n 3, 1) := oc_29 (by decide +kernel)
theorem dX2_countBeds_49 : decode cX2_countBeds 49 = .ok (.iaload, 1) := oc_46 (by decide +kernel)
theorem dX2_countBeds_50 : decode cX2_countBeds 50 = .ok (.iadd, 1) := oc_96 (by decide +kernel)
theorem dX2_countBeds_51 : decode cX2_countBeds 51 = .ok (.dup2, 1) := oc_92 (by decide +kernel)
theorem dX2_countBeds_52 : decode cX2_countBeds 52 = .ok (.iaload, 1) := oc_46 (by decide +kernel)
theorem dX2_countBeds_53 : decode cX2_countBeds 53 = .ok (.aload_n 0, 1) := oc_42 (by decide +kernel)
theorem dX2_countBeds_54 : decode cX2_countBeds 54 = .ok (.getfield 37, 3) := oc_180 (a := 0) (b := 37) (by decide +kernel)
theorem dX2_countBeds_57 : decode cX2_countBeds 57 = .ok (.iload_n 3, 1) := oc_29 (by decide +kernel)
theorem dX2_countBeds_58 : decode cX2_countBeds 58 = .ok (.iaload, 1) := oc_46 (by decide +kernel)
theorem dX2_countBeds_59 : decode cX2_countBeds 59 = .ok (.iadd, 1) := oc_96 (by decide +kernel)
theorem dX2_countBeds_60 : decode cX2_countBeds 60 = .ok (.iastore, 1) := oc_79 (by decide +kernel)
theorem dX2_countBeds_61 : decode cX2_countBeds 61 = .ok (.iinc 3 1, 3) := oc_132 (b := 1) (by decide +kernel)
theorem dX2_countBeds_64 : decode cX2_countBeds 64 = .ok (.goto (-30), 3) := oc_167 (a := 255) (b := 226) (by decide +kernel)
theorem dX2_countBeds_20 : decode cX2_countBeds 20 = .ok (.aload_n 1, 1) := oc_43 (by decide +kernel)
theorem dX2_countBeds_21 : decode cX2_countBeds 21 = .ok (.iload_n 2, 1) := oc_28 (by decide +kernel)
theorem dX2_countBeds_22 : decode cX2_countBeds 22 = .ok (.iload_n 3, 1) := oc_29 (by decide +kernel)
theorem dX2_countBeds_23 : decode cX2_countBeds 23 = .ok (.iadd, 1) := oc_96 (by decide +kernel)
theorem dX2_countBeds_24 : decode cX2_countBeds 24 = .ok (.iconst 0, 1) := oc_3 (by decide +kernel)
theorem dX2_countBeds_25 : decode cX2_countBeds 25 = .ok (.iastore, 1) := oc_79 (by decide +kernel)
theorem dX2_countBeds_26 : decode cX2_countBeds 26 = .ok (.iinc 3 1, 3) := oc_132 (b := 1) (by decide +kernel)
theorem dX2_countBeds_29 : decode cX2_countBeds 29 = .ok (.goto (-14), 3) := oc_167 (a := 255) (b := 242) (by decide +kernel)
theorem dX5_foresee_0 : decode cX5_foresee 0 = .ok (.aload_n 1, 1) := oc_43 (by decide +kernel)
theorem tw_1446 : Cond.fieldLink RX5 68 "RingsUnder$World" "folk" "LRingsUnder$Folk;" ∈ wsL_law := sg_61 _ (List.mem_of_getElem? (i := 6) rfl)
theorem dX5_foresee_1 : decode cX5_foresee 1 = .ok (.getfield 68, 3) := oc_180 (a := 0) (b := 68) (by decide +kernel)
theorem tw_1450 : Cond.methodLink RX5 72 yX0_onRings ∈ wsL_law := sg_61 _ (List.mem_of_getElem? (i := 10) rfl)
theorem tw_1163 : Cond.instanceMethod yX0_onRings ∈ wsL_law := sg_49 _ (List.mem_of_getElem? (i := 11) rfl)
theorem tw_1164 : Cond.selects RX0 yX0_onRings yX0_onRings ∈ wsL_law := sg_49 _ (List.mem_of_getElem? (i := 12) rfl)
theorem tw_1165 : Cond.code yX0_onRings cX0_onRings 4 (some .long) ∈ wsL_law := sg_49 _ (List.mem_of_getElem? (i := 13) rfl)
theorem dX5_foresee_4 : decode cX5_foresee 4 = .ok (.invokevirtual 72, 3) := oc_182 (a := 0) (b := 72) (by decide +kernel)
theorem dX5_foresee_7 : decode cX5_foresee 7 = .ok (.lstore 4, 2) := oc_55 (by decide +kernel)
theorem dX5_foresee_9 : decode cX5_foresee 9 = .ok (.iconst 0, 1) := oc_3 (by decide +kernel)
theorem dX5_foresee_10 : decode cX5_foresee 10 = .ok (.istore 6, 2) := oc_54 (by decide +kernel)
theorem dX5_foresee_12 : decode cX5_foresee 12 = .ok (.iload 6, 2) := oc_21 (by decide +kernel)
theorem dX5_foresee_14 : decode cX5_foresee 14 = .ok (.iload_n 3, 1) := oc_29 (by decide +kernel)
theorem dX5_foresee_15 : decode cX5_foresee 15 = .ok (.if_icmp .ge 78, 3) := oc_162 (a := 0) (b := 78) (by decide +kernel)
theorem dX5_foresee_93 : decode cX5_foresee 93 = .ok (.return_, 1) := oc_177 (by decide +kernel)
theorem dX5_foresee_18 : decode cX5_foresee 18 = .ok (.aload_n 1, 1) := oc_43 (by decide +kernel)
theorem dX5_foresee_19 : decode cX5_foresee 19 = .ok (.iload_n 2, 1) := oc_28 (by decide +kernel)
theorem tw_1451 : Cond.methodLink RX5 78 yX10_nature ∈ wsL_law := sg_61 _ (List.mem_of_getElem? (i := 11) rfl)
theorem tw_1048 : Cond.instanceMethod yX10_nature ∈ wsL_law := sg_44 _ (List.mem_of_getElem? (i := 16) rfl)
theorem tw_1049 : Cond.selects RX10 yX10_nature yX10_nature ∈ wsL_law := sg_44 _ (List.mem_of_getElem? (i := 17) rfl)
theorem tw_15 : Cond.initialized RX10 ∈ wsL_law := sg_1 _ (List.mem_of_getElem? (i := 15) rfl)
theorem tw_1050 : Cond.code yX10_nature cX10_nature 4 none ∈ wsL_law := sg_44 _ (List.mem_of_getElem? (i := 18) rfl)
theorem dX5_foresee_20 : decode cX5_foresee 20 = .ok (.invokevirtual 78, 3) := oc_182 (a := 0) (b := 78) (by decide +kernel)
theorem dX5_foresee_23 : decode cX5_foresee 23 = .ok (.aload_n 0, 1) := oc_42 (by decide +kernel)
theorem tw_145 : Cond.fieldLink RX5 21 "RingsUnder$RingOrders" "dry" "[J" ∈ wsL_law := sg_7 _ (List.mem_of_getElem? (i := 1) rfl)
theorem dX5_foresee_24 : decode cX5_foresee 24 = .ok (.getfield 21, 3) := oc_180 (a := 0) (b := 21) (by decide +kernel)
theorem dX5_foresee_27 : decode cX5_foresee 27 = .ok (.iload 6, 2) := oc_21 (by decide +kernel)
theorem dX5_foresee_29 : decode cX5_foresee 29 = .ok (.aload_n 1, 1) := oc_43 (by decide +kernel)
theorem tw_1438 : Cond.fieldLink RX5 31 "RingsUnder$World" "land" "LRingsUnder$Land;" ∈ wsL_law := sg_60 _ (List.mem_of_getElem? (i := 22) rfl)
theorem dX5_foresee_30 : decode cX5_foresee 30 = .ok (.getfield 31, 3) := oc_180 (a := 0) (b := 31) (by decide +kernel)
theorem tw_1447 : Cond.fieldLink RX5 82 "RingsUnder$Land" "dry" "J" ∈ wsL_law := sg_61 _ (List.mem_of_getElem? (i := 7) rfl)
theorem dX5_foresee_33 : decode cX5_foresee 33 = .ok (.getfield 82, 3) := oc_180 (a := 0) (b := 82) (by decide +kernel)
theorem dX5_foresee_36 : decode cX5_foresee 36 = .ok (.lastore, 1) := oc_80 (by decide +kernel)
theorem dX5_foresee_37 : decode cX5_foresee 37 = .ok (.aload_n 1, 1) := oc_43 (by decide +kernel)
theorem dX5_foresee_38 : decode cX5_foresee 38 = .ok (.getfield 31, 3) := oc_180 (a := 0) (b := 31) (by decide +kernel)
theorem dX5_foresee_41 : decode cX5_foresee 41 = .ok (.aload_n 0, 1) := oc_42 (by decide +kernel)
theorem tw_146 : Cond.fieldLink RX5 25 "RingsUnder$RingOrders" "beds" "[I" ∈ wsL_law := sg_7 _ (List.mem_of_getElem? (i := 2) rfl)
theorem dX5_foresee_42 : decode cX5_foresee 42 = .ok (.getfield 25, 3) := oc_180 (a := 0) (b := 25) (by decide +kernel)
theorem dX5_foresee_45 : decode cX5_foresee 45 = .ok (.iload 6, 2) := oc_21 (by decide +kernel)
theorem dX5_foresee_47 : decode cX5_foresee 47 = .ok (.iconst 5, 1) := oc_8 (by decide +kernel)
theorem dX5_foresee_48 : decode cX5_foresee 48 = .ok (.imul, 1) := oc_104 (by decide +kernel)
theorem tw_1452 : Cond.methodLink RX5 85 yX2_countBeds ∈ wsL_law := sg_61 _ (List.mem_of_getElem? (i := 12) rfl)
theorem tw_1091 : Cond.instanceMethod yX2_countBeds ∈ wsL_law := sg_46 _ (List.mem_of_getElem? (i := 11) rfl)
theorem tw_1092 : Cond.selects RX2 yX2_countBeds yX2_countBeds ∈ wsL_law := sg_46 _ (List.mem_of_getElem? (i := 12) rfl)
theorem tw_1093 : Cond.code yX2_countBeds cX2_countBeds 4 none ∈ wsL_law := sg_46 _ (List.mem_of_getElem? (i := 13) rfl)
theorem dX5_foresee_49 : decode cX5_foresee 49 = .ok (.invokevirtual 85, 3) := oc_182 (a := 0) (b := 85) (by decide +kernel)
theorem dX5_foresee_52 : decode cX5_foresee 52 = .ok (.aload_n 0, 1) := oc_42 (by decide +kernel)
theorem tw_147 : Cond.fieldLink RX5 28 "RingsUnder$RingOrders" "may" "[J" ∈ wsL_law := sg_7 _ (List.mem_of_getElem? (i := 3) rfl)
theorem dX5_foresee_53 : decode cX5_foresee 53 = .ok (.getfield 28, 3) := oc_180 (a := 0) (b := 28) (by decide +kernel)
theorem dX5_foresee_56 : decode cX5_foresee 56 = .ok (.iload 6, 2) := oc_21 (by decide +kernel)
theorem dX5_foresee_58 : decode cX5_foresee 58 = .ok (.aload_n 1, 1) := oc_43 (by decide +kernel)
theorem tw_1448 : Cond.fieldLink RX5 89 "RingsUnder$World" "law" "LRingsUnder$Law;" ∈ wsL_law := sg_61 _ (List.mem_of_getElem? (i := 8) rfl)
theorem dX5_foresee_59 : decode cX5_foresee 59 = .ok (.getfield 89, 3) := oc_180 (a := 0) (b := 89) (by decide +kernel)
theorem dX5_foresee_62 : decode cX5_foresee 62 = .ok (.iconst 2, 1) := oc_5 (by decide +kernel)
theorem dX5_foresee_63 : decode cX5_foresee 63 = .ok (.aload_n 1, 1) := oc_43 (by decide +kernel)
theorem tw_1449 : Cond.fieldLink RX5 93 "RingsUnder$World" "clock" "I" ∈ wsL_law := sg_61 _ (List.mem_of_getElem? (i := 9) rfl)
theorem dX5_foresee_64 : decode cX5_foresee 64 = .ok (.getfield 93, 3) := oc_180 (a := 0) (b := 93) (by decide +kernel)
theorem dX5_foresee_67 : decode cX5_foresee 67 = .ok (.aload_n 1, 1) := oc_43 (by decide +kernel)
theorem dX5_foresee_68 : decode cX5_foresee 68 = .ok (.getfield 68, 3) := oc_180 (a := 0) (b := 68) (by decide +kernel)
theorem dX5_foresee_71 : decode cX5_foresee 71 = .ok (.lload 4, 2) := oc_22 (by decide +kernel)
theorem tw_1453 : Cond.methodLink RX5 96 yX3_whoIsSo ∈ wsL_law := sg_61 _ (List.mem_of_getElem? (i := 13) rfl)
theorem tw_964 : Cond.instanceMethod yX3_whoIsSo ∈ wsL_law := sg_41 _ (List.mem_of_getElem? (i := 4) rfl)
theorem tw_965 : Cond.selects RX3 yX3_whoIsSo yX3_whoIsSo ∈ wsL_law := sg_41 _ (List.mem_of_getElem? (i := 5) rfl)
theorem tw_966 : Cond.code yX3_whoIsSo cX3_whoIsSo 10 (some .long) ∈ wsL_law := sg_41 _ (List.mem_of_getElem? (i := 6) rfl)
theorem dX5_foresee_73 : decode cX5_foresee 73 = .ok (.invokevirtual 96, 3) := oc_182 (a := 0) (b := 96) (by decide +kernel)
theorem dX5_foresee_76 : decode cX5_foresee 76 = .ok (.lastore, 1) := oc_80 (by decide +kernel)
theorem dX5_foresee_77 : decode cX5_foresee 77 = .ok (.aload_n 1, 1) := oc_43 (by decide +kernel)
theorem dX5_foresee_78 : decode cX5_foresee 78 = .ok (.dup, 1) := oc_89 (by decide +kernel)
theorem dX5_foresee_79 : decode cX5_foresee 79 = .ok (.getfield 93, 3) := oc_180 (a := 0) (b := 93) (by decide +kernel)
theorem dX5_foresee_82 : decode cX5_foresee 82 = .ok (.iconst 1, 1) := oc_4 (by decide +kernel)
theorem dX5_foresee_83 : decode cX5_foresee 83 = .ok (.iadd, 1) := oc_96 (by decide +kernel)
theorem dX5_foresee_84 : decode cX5_foresee 84 = .ok (.putfield 93, 3) := oc_181 (a := 0) (b := 93) (by decide +kernel)
theorem dX5_foresee_87 : decode cX5_foresee 87 = .ok (.iinc 6 1, 3) := oc_132 (b := 1) (by decide +kernel)
theorem dX5_foresee_90 : decode cX5_foresee 90 = .ok (.goto (-78), 3) := oc_167 (a := 255) (b := 178) (by decide +kernel)
theorem dX5_lineUp_0 : decode cX5_lineUp 0 = .ok (.aload_n 0, 1) := oc_42 (by decide +kernel)
theorem dX5_lineUp_1 : decode cX5_lineUp 1 = .ok (.iconst 0, 1) := oc_3 (by decide +kernel)
theorem tw_1464 : Cond.fieldLink RX5 146 "RingsUnder$RingOrders" "queued" "I" ∈ wsL_law := sg_62 _ (List.mem_of_getElem? (i := 0) rfl)
theorem dX5_lineUp_2 : decode cX5_lineUp 2 = .ok (.putfield 146, 3) := oc_181 (a := 0) (b := 146) (by decide +kernel)
theorem dX5_lineUp_5 : decode cX5_lineUp 5 = .ok (.iconst 0, 1) := oc_3 (by decide +kernel)
theorem dX5_lineUp_6 : decode cX5_lineUp 6 = .ok (.istore_n 3, 1) := oc_62 (by decide +kernel)
theorem dX5_lineUp_7 : decode cX5_lineUp 7 = .ok (.iload_n 3, 1) := oc_29 (by decide +kernel)
theorem dX5_lineUp_8 : decode cX5_lineUp 8 = .ok (.iload_n 2, 1) := oc_28 (by decide +kernel)
theorem dX5_lineUp_9 : decode cX5_lineUp 9 = .ok (.if_icmp .ge 73, 3) := oc_162 (a := 0) (b := 73) (by decide +kernel)
theorem dX5_lineUp_82 : decode cX5_lineUp 82 = .ok (.return_, 1) := oc_177 (by decide +kernel)
theorem dX5_lineUp_12 : decode cX5_lineUp 12 = .ok (.iconst 0, 1) := oc_3 (by decide +kernel)
theorem dX5_lineUp_13 : decode cX5_lineUp 13 = .ok (.istore 4, 2) := oc_54 (by decide +kernel)
theorem dX5_lineUp_15 : decode cX5_lineUp 15 = .ok (.iload 4, 2) := oc_21 (by decide +kernel)
theorem dX5_lineUp_17 : decode cX5_lineUp 17 = .ok (.aload_n 1, 1) := oc_43 (by decide +kernel)
theorem tw_1470 : Cond.fieldLink RX5 153 "RingsUnder$Folk" "persons" "I" ∈ wsL_law := sg_62 _ (List.mem_of_getElem? (i := 6) rfl)
theorem dX5_lineUp_18 : decode cX5_lineUp 18 = .ok (.getfield 153, 3) := oc_180 (a := 0) (b := 153) (by decide +kernel)
theorem dX5_lineUp_76 : decode cX5_lineUp 76 = .ok (.iinc 3 1, 3) := oc_132 (b := 1) (by decide +kernel)
theorem dX5_lineUp_79 : decode cX5_lineUp 79 = .ok (.goto (-72), 3) := oc_167 (a := 255) (b := 184) (by decide +kernel)
theorem dX5_lineUp_21 : decode cX5_lineUp 21 = .ok (.if_icmp .ge 55, 3) := oc_162 (a := 0) (b := 55) (by decide +kernel)
theorem dX5_lineUp_24 : decode cX5_lineUp 24 = .ok (.aload_n 0, 1) := oc_42 (by decide +kernel)
theorem dX5_lineUp_25 : decode cX5_lineUp 25 = .ok (.getfield 146, 3) := oc_180 (a := 0) (b := 146) (by decide +kernel)
theorem dX5_lineUp_28 : decode cX5_lineUp 28 = .ok (.bipush 40, 2) := oc_16 (a := 40) (by decide +kernel)
theorem dX5_lineUp_30 : decode cX5_lineUp 30 = .ok (.if_icmp .ge 46, 3) := oc_162 (a := 0) (b := 46) (by decide +kernel)
theorem dX5_lineUp_33 : decode cX5_lineUp 33 = .ok (.aload_n 1, 1) := oc_43 (by decide +kernel)
theorem tw_1459 : Cond.fieldLink RX5 112 "RingsUnder$Folk" "place" "[I" ∈ wsL_law := sg_61 _ (List.mem_of_getElem? (i := 19) rfl)
theorem dX5_lineUp_34 : decode cX5_lineUp 34 = .ok (.getfield 112, 3) := oc_180 (a := 0) (b := 112) (by decide +kernel)
theorem dX5_lineUp_37 : decode cX5_lineUp 37 = .ok (.iload 4, 2) := oc_21 (by decide +kernel)
theorem dX5_lineUp_39 : decode cX5_lineUp 39 = .ok (.iaload, 1) := oc_46 (by decide +kernel)
theorem dX5_lineUp_40 : decode cX5_lineUp 40 = .ok (.aload_n 0, 1) := oc_42 (by decide +kernel)
theorem tw_143 : Cond.fieldLink RX5 15 "RingsUnder$RingOrders" "order" "[I" ∈ wsL_law := sg_6 _ (List.mem_of_getElem? (i := 23) rfl)
theorem dX5_lineUp_41 : decode cX5_lineUp 41 = .ok (.getfield 15, 3) := oc_180 (a := 0) (b := 15) (by decide +kernel)
theorem dX5_lineUp_44 : decode cX5_lineUp 44 = .ok (.iload_n 3, 1) := oc_29 (by decide +kernel)
theorem dX5_lineUp_45 : decode cX5_lineUp 45 = .ok (.iaload, 1) := oc_46 (by decide +kernel)
theorem dX5_lineUp_70 : decode cX5_lineUp 70 = .ok (.iinc 4 1, 3) := oc_132 (b := 1) (by decide +kernel)
theorem dX5_lineUp_73 : decode cX5_lineUp 73 = .ok (.goto (-58), 3) := oc_167 (a := 255) (b := 198) (by decide +kernel)
theorem dX5_lineUp_46 : decode cX5_lineUp 46 = .ok (.if_icmp .ne 24, 3) := oc_160 (a := 0) (b := 24) (by decide +kernel)
theorem dX5_lineUp_49 : decode cX5_lineUp 49 = .ok (.aload_n 0, 1) := oc_42 (by decide +kernel)
theorem tw_144 : Cond.fieldLink RX5 18 "RingsUnder$RingOrders" "queue" "[I" ∈ wsL_law := sg_7 _ (List.mem_of_getElem? (i := 0) rfl)
theorem dX5_lineUp_50 : decode cX5_lineUp 50 = .ok (.getfield 18, 3) := oc_180 (a := 0) (b := 18) (by decide +kernel)
theorem dX5_lineUp_53 : decode cX5_lineUp 53 = .ok (.aload_n 0, 1) := oc_42 (by decide +kernel)
theorem dX5_lineUp_54 : decode cX5_lineUp 54 = .ok (.getfield 146, 3) := oc_180 (a := 0) (b := 146) (by decide +kernel)
theorem dX5_lineUp_57 : decode cX5_lineUp 57 = .ok (.iload 4, 2) := oc_21 (by decide +kernel)
theorem dX5_lineUp_59 : decode cX5_lineUp 59 = .ok (.iastore, 1) := oc_79 (by decide +kernel)
theorem dX5_lineUp_60 : decode cX5_lineUp 60 = .ok (.aload_n 0, 1) := oc_42 (by decide +kernel)
theorem dX5_lineUp_61 : decode cX5_lineUp 61 = .ok (.dup, 1) := oc_89 (by decide +kernel)
theorem dX5_lineUp_62 : decode cX5_lineUp 62 = .ok (.getfield 146, 3) := oc_180 (a := 0) (b := 146) (by decide +kernel)
theorem dX5_lineUp_65 : decode cX5_lineUp 65 = .ok (.iconst 1, 1) := oc_4 (by decide +kernel)
theorem dX5_lineUp_66 : decode cX5_lineUp 66 = .ok (.iadd, 1) := oc_96 (by decide +kernel)
theorem dX5_lineUp_67 : decode cX5_lineUp 67 = .ok (.putfield 146, 3) := oc_181 (a := 0) (b := 146) (by decide +kernel)
theorem dX9_fillUp_0 : decode cX9_fillUp 0 = .ok (.iconst 0, 1) := oc_3 (by decide +kernel)
theorem dX9_fillUp_1 : decode cX9_fillUp 1 = .ok (.istore 5, 2) := oc_54 (by decide +kernel)
theorem dX9_fillUp_3 : decode cX9_fillUp 3 = .ok (.iload 5, 2) := oc_21 (by decide +kernel)
theorem dX9_fillUp_5 : decode cX9_fillUp 5 = .ok (.iload_n 1, 1) := oc_27 (by decide +kernel)
theorem dX9_fillUp_6 : decode cX9_fillUp 6 = .ok (.if_icmp .ge 106, 3) := oc_162 (a := 0) (b := 106) (by decide +kernel)
theorem dX9_fillUp_112 : decode cX9_fillUp 112 = .ok (.return_, 1) := oc_177 (by decide +kernel)
theorem dX9_fillUp_9 : decode cX9_fillUp 9 = .ok (.aload_n 0, 1) := oc_42 (by decide +kernel)
theorem dX9_fillUp_10 : decode cX9_fillUp 10 = .ok (.iload 5, 2) := oc_21 (by decide +kernel)
theorem dX9_fillUp_12 : decode cX9_fillUp 12 = .ok (.invokevirtual 25, 3) := oc_182 (a := 0) (b := 25) (by decide +kernel)
theorem dX9_fillUp_106 : decode cX9_fillUp 106 = .ok (.iinc 5 1, 3) := oc_132 (b := 1) (by decide +kernel)
theorem dX9_fillUp_109 : decode cX9_fillUp 109 = .ok (.goto (-106), 3) := oc_167 (a := 255) (b := 150) (by decide +kernel)
theorem dX9_fillUp_15 : decode cX9_fillUp 15 = .ok (.ifCond .ne 6, 3) := oc_154 (a := 0) (b := 6) (by decide +kernel)
theorem dX9_fillUp_21 : decode cX9_fillUp 21 = .ok (.lload_n 2, 1) := oc_32 (by decide +kernel)
theorem dX9_fillUp_22 : decode cX9_fillUp 22 = .ok (.iload 5, 2) := oc_21 (by decide +kernel)
theorem dX9_fillUp_24 : decode cX9_fillUp 24 = .ok (.invokestatic 29, 3) := oc_184 (a := 0) (b := 29) (by decide +kernel)
theorem dX9_fillUp_27 : decode cX9_fillUp 27 = .ok (.ifCond .eq 57, 3) := oc_153 (a := 0) (b := 57) (by decide +kernel)
theorem dX9_fillUp_84 : decode cX9_fillUp 84 = .ok (.aload_n 0, 1) := oc_42 (by decide +kernel)
theorem dX9_fillUp_85 : decode cX9_fillUp 85 = .ok (.getfield 18, 3) := oc_180 (a := 0) (b := 18) (by decide +kernel)
theorem dX9_fillUp_88 : decode cX9_fillUp 88 = .ok (.iload 5, 2) := oc_21 (by decide +kernel)
theorem dX9_fillUp_90 : decode cX9_fillUp 90 = .ok (.bipush 100, 2) := oc_16 (a := 100) (by decide +kernel)
theorem dX9_fillUp_92 : decode cX9_fillUp 92 = .ok (.aload_n 0, 1) := oc_42 (by decide +kernel)
theorem dX9_fillUp_93 : decode cX9_fillUp 93 = .ok (.getfield 18, 3) := oc_180 (a := 0) (b := 18) (by decide +kernel)
theorem dX9_fillUp_96 : decode cX9_fillUp 96 = .ok (.iload 5, 2) := oc_21 (by decide +kernel)
theorem dX9_fillUp_98 : decode cX9_fillUp 98 = .ok (.iaload, 1) := oc_46 (by decide +kernel)
theorem dX9_fillUp_99 : decode cX9_fillUp 99 = .ok (.bipush 10, 2) := oc_16 (a := 10) (by decide +kernel)
theorem dX9_fillUp_101 : decode cX9_fillUp 101 = .ok (.iadd, 1) := oc_96 (by decide +kernel)
theorem tw_1087 : Cond.methodLink RX9 33 Lib.Math.min.name ∈ wsL_law := sg_46 _ (List.mem_of_getElem? (i := 7) rfl)
theorem dX9_fillUp_102 : decode cX9_fillUp 102 = .ok (.invokestatic 33, 3) := oc_184 (a := 0) (b := 33) (by decide +kernel)
theorem dX9_fillUp_105 : decode cX9_fillUp 105 = .ok (.iastore, 1) := oc_79 (by decide +kernel)
theorem dX9_fillUp_30 : decode cX9_fillUp 30 = .ok (.aload_n 0, 1) := oc_42 (by decide +kernel)
theorem dX9_fillUp_31 : decode cX9_fillUp 31 = .ok (.getfield 15, 3) := oc_180 (a := 0) (b := 15) (by decide +kernel)
theorem dX9_fillUp_34 : decode cX9_fillUp 34 = .ok (.iload 5, 2) := oc_21 (by decide +kernel)
theorem dX9_fillUp_36 : decode cX9_fillUp 36 = .ok (.sipush 10000, 3) := oc_17 (a := 39) (b := 16) (by decide +kernel)
theorem dX9_fillUp_39 : decode cX9_fillUp 39 = .ok (.aload_n 0, 1) := oc_42 (by decide +kernel)
theorem dX9_fillUp_40 : decode cX9_fillUp 40 = .ok (.getfield 15, 3) := oc_180 (a := 0) (b := 15) (by decide +kernel)
theorem dX9_fillUp_43 : decode cX9_fillUp 43 = .ok (.iload 5, 2) := oc_21 (by decide +kernel)
theorem dX9_fillUp_45 : decode cX9_fillUp 45 = .ok (.iaload, 1) := oc_46 (by decide +kernel)
theorem dX9_fillUp_46 : decode cX9_fillUp 46 = .ok (.iload 4, 2) := oc_21 (by decide +kernel)
theorem dX9_fillUp_48 : decode cX9_fillUp 48 = .ok (.aload_n 0, 1) := oc_42 (by decide +kernel)
theorem dX9_fillUp_49 : decode cX9_fillUp 49 = .ok (.getfield 9, 3) := oc_180 (a := 0) (b := 9) (by decide +kernel)
theorem dX9_fillUp_52 : decode cX9_fillUp 52 = .ok (.iload 5, 2) := oc_21 (by decide +kernel)
theorem dX9_fillUp_54 : decode cX9_fillUp 54 = .ok (.iaload, 1) := oc_46 (by decide +kernel)
theorem dX9_fillUp_55 : decode cX9_fillUp 55 = .ok (.imul, 1) := oc_104 (by decide +kernel)
theorem dX9_fillUp_56 : decode cX9_fillUp 56 = .ok (.iadd, 1) := oc_96 (by decide +kernel)
theorem dX9_fillUp_57 : decode cX9_fillUp 57 = .ok (.invokestatic 33, 3) := oc_184 (a := 0) (b := 33) (by decide +kernel)
theorem dX9_fillUp_60 : decode cX9_fillUp 60 = .ok (.iastore, 1) := oc_79 (by decide +kernel)
theorem dX9_fillUp_61 : decode cX9_fillUp 61 = .ok (.aload_n 0, 1) := oc_42 (by decide +kernel)
theorem dX9_fillUp_62 : decode cX9_fillUp 62 = .ok (.getfield 18, 3) := oc_180 (a := 0) (b := 18) (by decide +kernel)
theorem dX9_fillUp_65 : decode cX9_fillUp 65 = .ok (.iload 5, 2) := oc_21 (by decide +kernel)
theorem dX9_fillUp_67 : decode cX9_fillUp 67 = .ok (.iconst 0, 1) := oc_3 (by decide +kernel)
theorem dX9_fillUp_68 : decode cX9_fillUp 68 = .ok (.aload_n 0, 1) := oc_42 (by decide +kernel)
theorem dX9_fillUp_69 : decode cX9_fillUp 69 = .ok (.getfield 18, 3) := oc_180 (a := 0) (b := 18) (by decide +kernel)
theorem dX9_fillUp_72 : decode cX9_fillUp 72 = .ok (.iload 5, 2) := oc_21 (by decide +kernel)
theorem dX9_fillUp_74 : decode cX9_fillUp 74 = .ok (.iaload, 1) := oc_46 (by decide +kernel)
theorem dX9_fillUp_75 : decode cX9_fillUp 75 = .ok (.iconst 1, 1) := oc_4 (by decide +kernel)
theorem dX9_fillUp_76 : decode cX9_fillUp 76 = .ok (.isub, 1) := oc_100 (by decide +kernel)
theorem tw_1088 : Cond.methodLink RX9 39 Lib.Math.max.name ∈ wsL_law := sg_46 _ (List.mem_of_getElem? (i := 8) rfl)
theorem dX9_fillUp_77 : decode cX9_fillUp 77 = .ok (.invokestatic 39, 3) := oc_184 (a := 0) (b := 39) (by decide +kernel)
theorem dX9_fillUp_80 : decode cX9_fillUp 80 = .ok (.iastore, 1) := oc_79 (by decide +kernel)
theorem dX9_fillUp_81 : decode cX9_fillUp 81 = .ok (.goto 25, 3) := oc_167 (a := 0) (b := 25) (by decide +kernel)
theorem dX9_fillUp_18 : decode cX9_fillUp 18 = .ok (.goto 88, 3) := oc_167 (a := 0) (b := 88) (by decide +kernel)
theorem dX0_sleep_0 : decode cX0_sleep 0 = .ok (.iload_n 2, 1) := oc_28 (by decide +kernel)
theorem dX0_sleep_1 : decode cX0_sleep 1 = .ok (.ifCond .lt 11, 3) := oc_155 (a := 0) (b := 11) (by decide +kernel)
theorem dX0_sleep_4 : decode cX0_sleep 4 = .ok (.iload_n 2, 1) := oc_28 (by decide +kernel)
theorem dX0_sleep_5 : decode cX0_sleep 5 = .ok (.iconst 5, 1) := oc_8 (by decide +kernel)
theorem dX0_sleep_6 : decode cX0_sleep 6 = .ok (.iadd, 1) := oc_96 (by decide +kernel)
theorem dX0_sleep_7 : decode cX0_sleep 7 = .ok (.aload_n 1, 1) := oc_43 (by decide +kernel)
theorem dX0_sleep_8 : decode cX0_sleep 8 = .ok (.arraylength, 1) := oc_190 (by decide +kernel)
theorem dX0_sleep_9 : decode cX0_sleep 9 = .ok (.if_icmp .le 5, 3) := oc_164 (a := 0) (b := 5) (by decide +kernel)
theorem dX0_sleep_14 : decode cX0_sleep 14 = .ok (.aload_n 1, 1) := oc_43 (by decide +kernel)
theorem dX0_sleep_15 : decode cX0_sleep 15 = .ok (.iload_n 2, 1) := oc_28 (by decide +kernel)
theorem dX0_sleep_16 : decode cX0_sleep 16 = .ok (.aload_n 0, 1) := oc_42 (by decide +kernel)
theorem dX0_sleep_17 : decode cX0_sleep 17 = .ok (.getfield 42, 3) := oc_180 (a := 0) (b := 42) (by decide +kernel)
theorem dX0_sleep_20 : decode cX0_sleep 20 = .ok (.iconst 0, 1) := oc_3 (by decide +kernel)
theorem dX0_sleep_21 : decode cX0_sleep 21 = .ok (.iconst 5, 1) := oc_8 (by decide +kernel)
theorem tw_1124 : Cond.methodLink RX0 94 arraycopyName ∈ wsL_law := sg_47 _ (List.mem_of_getElem? (i := 20) rfl)
theorem dX0_sleep_22 : decode cX0_sleep 22 = .ok (.invokestatic 94, 3) := oc_184 (a := 0) (b := 94) (by decide +kernel)
theorem dX0_sleep_25 : decode cX0_sleep 25 = .ok (.iconst 0, 1) := oc_3 (by decide +kernel)
theorem dX0_sleep_26 : decode cX0_sleep 26 = .ok (.istore_n 3, 1) := oc_62 (by decide +kernel)
theorem dX0_sleep_27 : decode cX0_sleep 27 = .ok (.iconst 0, 1) := oc_3 (by decide +kernel)
theorem dX0_sleep_28 : decode cX0_sleep 28 = .ok (.istore 4, 2) := oc_54 (by decide +kernel)
theorem dX0_sleep_30 : decode cX0_sleep 30 = .ok (.iload 4, 2) := oc_21 (by decide +kernel)
theorem dX0_sleep_32 : decode cX0_sleep 32 = .ok (.aload_n 0, 1) := oc_42 (by decide +kernel)
theorem dX0_sleep_33 : decode cX0_sleep 33 = .ok (.getfield 54, 3) := oc_180 (a := 0) (b := 54) (by decide +kernel)
theorem dX0_sleep_36 : decode cX0_sleep 36 = .ok (.if_icmp .ge 66, 3) := oc_162 (a := 0) (b := 66) (by decide +kernel)
theorem dX0_sleep_102 : decode cX0_sleep 102 = .ok (.iload_n 3, 1) := oc_29 (by decide +kernel)
theorem dX0_sleep_103 : decode cX0_sleep 103 = .ok (.ireturn, 1) := oc_172 (by decide +kernel)
theorem dX0_sleep_39 : decode cX0_sleep 39 = .ok (.aload_n 0, 1) := oc_42 (by decide +kernel)
theorem dX0_sleep_40 : decode cX0_sleep 40 = .ok (.iload 4, 2) := oc_21 (by decide +kernel)
theorem dX0_sleep_42 : decode cX0_sleep 42 = .ok (.invokevirtual 65, 3) := oc_182 (a := 0) (b := 65) (by decide +kernel)
theorem dX0_sleep_96 : decode cX0_sleep 96 = .ok (.iinc 4 1, 3) := oc_132 (b := 1) (by decide +kernel)
theorem dX0_sleep_99 : decode cX0_sleep 99 = .ok (.goto (-69), 3) := oc_167 (a := 255) (b := 187) (by decide +kernel)
theorem dX0_sleep_45 : decode cX0_sleep 45 = .ok (.ifCond .eq 51, 3) := oc_153 (a := 0) (b := 51) (by decide +kernel)
theorem dX0_sleep_48 : decode cX0_sleep 48 = .ok (.aload_n 0, 1) := oc_42 (by decide +kernel)
theorem dX0_sleep_49 : decode cX0_sleep 49 = .ok (.getfield 42, 3) := oc_180 (a := 0) (b := 42) (by decide +kernel)
theorem dX0_sleep_52 : decode cX0_sleep 52 = .ok (.aload_n 0, 1) := oc_42 (by decide +kernel)
theorem dX0_sleep_53 : decode cX0_sleep 53 = .ok (.getfield 24, 3) := oc_180 (a := 0) (b := 24) (by decide +kernel)
theorem dX0_sleep_56 : decode cX0_sleep 56 = .ok (.iload 4, 2) := oc_21 (by decide +kernel)
theorem dX0_sleep_58 : decode cX0_sleep 58 = .ok (.iaload, 1) := oc_46 (by decide +kernel)
theorem dX0_sleep_59 : decode cX0_sleep 59 = .ok (.iaload, 1) := oc_46 (by decide +kernel)
theorem dX0_sleep_60 : decode cX0_sleep 60 = .ok (.ifCond .le 22, 3) := oc_158 (a := 0) (b := 22) (by decide +kernel)
theorem dX0_sleep_82 : decode cX0_sleep 82 = .ok (.aload_n 0, 1) := oc_42 (by decide +kernel)
theorem dX0_sleep_83 : decode cX0_sleep 83 = .ok (.getfield 30, 3) := oc_180 (a := 0) (b := 30) (by decide +kernel)
theorem dX0_sleep_86 : decode cX0_sleep 86 = .ok (.iload 4, 2) := oc_21 (by decide +kernel)
theorem dX0_sleep_88 : decode cX0_sleep 88 = .ok (.dup2, 1) := oc_92 (by decide +kernel)
theorem dX0_sleep_89 : decode cX0_sleep 89 = .ok (.iaload, 1) := oc_46 (by decide +kernel)
theorem dX0_sleep_90 : decode cX0_sleep 90 = .ok (.iconst 1, 1) := oc_4 (by decide +kernel)
theorem dX0_sleep_91 : decode cX0_sleep 91 = .ok (.iadd, 1) := oc_96 (by decide +kernel)
theorem dX0_sleep_92 : decode cX0_sleep 92 = .ok (.iastore, 1) := oc_79 (by decide +kernel)
theorem dX0_sleep_93 : decode cX0_sleep 93 = .ok (.iinc 3 1, 3) := oc_132 (b := 1) (by decide +kernel)
theorem dX0_sleep_63 : decode cX0_sleep 63 = .ok (.aload_n 0, 1) := oc_42 (by decide +kernel)
theorem dX0_sleep_64 : decode cX0_sleep 64 = .ok (.getfield 42, 3) := oc_180 (a := 0) (b := 42) (by decide +kernel)
theorem dX0_sleep_67 : decode cX0_sleep 67 = .ok (.aload_n 0, 1) := oc_42 (by decide +kernel)
theorem dX0_sleep_68 : decode cX0_sleep 68 = .ok (.getfield 24, 3) := oc_180 (a := 0) (b := 24) (by decide +kernel)
theorem dX0_sleep_71 : decode cX0_sleep 71 = .ok (.iload 4, 2) := oc_21 (by decide +kernel)
theorem dX0_sleep_73 : decode cX0_sleep 73 = .ok (.iaload, 1) := oc_46 (by decide +kernel)
theorem dX0_sleep_74 : decode cX0_sleep 74 = .ok (.dup2, 1) := oc_92 (by decide +kernel)
theorem dX0_sleep_75 : decode cX0_sleep 75 = .ok (.iaload, 1) := oc_46 (by decide +kernel)
theorem dX0_sleep_76 : decode cX0_sleep 76 = .ok (.iconst 1, 1) := oc_4 (by decide +kernel)
theorem dX0_sleep_77 : decode cX0_sleep 77 = .ok (.isub, 1) := oc_100 (by decide +kernel)
theorem dX0_sleep_78 : decode cX0_sleep 78 = .ok (.iastore, 1) := oc_79 (by decide +kernel)
theorem dX0_sleep_79 : decode cX0_sleep 79 = .ok (.goto 17, 3) := oc_167 (a := 0) (b := 17) (by decide +kernel)
theorem dX0_board_0 : decode cX0_board 0 = .ok (.aload_n 0, 1) := oc_42 (by decide +kernel)
theorem dX0_board_1 : decode cX0_board 1 = .ok (.lload_n 1, 1) := oc_31 (by decide +kernel)
theorem tw_1172 : Cond.methodLink RX0 100 yX0_countGroups ∈ wsL_law := sg_49 _ (List.mem_of_getElem? (i := 20) rfl)
theorem tw_1173 : Cond.instanceMethod yX0_countGroups ∈ wsL_law := sg_49 _ (List.mem_of_getElem? (i := 21) rfl)
theorem tw_1174 : Cond.selects RX0 yX0_countGroups yX0_countGroups ∈ wsL_law := sg_49 _ (List.mem_of_getElem? (i := 22) rfl)
theorem tw_1175 : Cond.code yX0_countGroups cX0_countGroups 4 none ∈ wsL_law := sg_49 _ (List.mem_of_getElem? (i := 23) rfl)
theorem dX0_board_2 : decode cX0_board 2 = .ok (.invokevirtual 100, 3) := oc_182 (a := 0) (b := 100) (by decide +kernel)
theorem dX0_board_5 : decode cX0_board 5 = .ok (.iconst 0, 1) := oc_3 (by decide +kernel)
theorem dX0_board_6 : decode cX0_board 6 = .ok (.istore 7, 2) := oc_54 (by decide +kernel)
theorem dX0_board_8 : decode cX0_board 8 = .ok (.iload 7, 2) := oc_21 (by decide +kernel)
theorem dX0_board_10 : decode cX0_board 10 = .ok (.aload_n 0, 1) := oc_42 (by decide +kernel)
theorem dX0_board_11 : decode cX0_board 11 = .ok (.getfield 62, 3) := oc_180 (a := 0) (b := 62) (by decide +kernel)
theorem dX0_board_14 : decode cX0_board 14 = .ok (.if_icmp .ge 22, 3) := oc_162 (a := 0) (b := 22) (by decide +kernel)
theorem dX0_board_36 : decode cX0_board 36 = .ok (.iload 5, 2) := oc_21 (by decide +kernel)
theorem dX0_board_38 : decode cX0_board 38 = .ok (.istore 7, 2) := oc_54 (by decide +kernel)
theorem dX0_board_40 : decode cX0_board 40 = .ok (.iconst 0, 1) := oc_3 (by decide +kernel)
theorem dX0_board_41 : decode cX0_board 41 = .ok (.istore 8, 2) := oc_54 (by decide +kernel)
theorem dX0_board_43 : decode cX0_board 43 = .ok (.iload 8, 2) := oc_21 (by decide +kernel)
theorem dX0_board_45 : decode cX0_board 45 = .ok (.iload 4, 2) := oc_21 (by decide +kernel)
theorem dX0_board_47 : decode cX0_board 47 = .ok (.if_icmp .ge 161, 3) := oc_162 (a := 0) (b := 161) (by decide +kernel)
theorem dX0_board_208 : decode cX0_board 208 = .ok (.return_, 1) := oc_177 (by decide +kernel)
theorem dX0_board_50 : decode cX0_board 50 = .ok (.iload 8, 2) := oc_21 (by decide +kernel)
theorem dX0_board_52 : decode cX0_board 52 = .ok (.aload_n 3, 1) := oc_45 (by decide +kernel)
theorem dX0_board_53 : decode cX0_board 53 = .ok (.arraylength, 1) := oc_190 (by decide +kernel)
theorem dX0_board_54 : decode cX0_board 54 = .ok (.if_icmp .ge 154, 3) := oc_162 (a := 0) (b := 154) (by decide +kernel)
theorem dX0_board_57 : decode cX0_board 57 = .ok (.aload_n 3, 1) := oc_45 (by decide +kernel)
theorem dX0_board_58 : decode cX0_board 58 = .ok (.iload 8, 2) := oc_21 (by decide +kernel)
theorem dX0_board_60 : decode cX0_board 60 = .ok (.iaload, 1) := oc_46 (by decide +kernel)
theorem dX0_board_61 : decode cX0_board 61 = .ok (.istore 9, 2) := oc_54 (by decide +kernel)
theorem dX0_board_63 : decode cX0_board 63 = .ok (.lload_n 1, 1) := oc_31 (by decide +kernel)
theorem dX0_board_64 : decode cX0_board 64 = .ok (.iload 9, 2) := oc_21 (by decide +kernel)
theorem dX0_board_66 : decode cX0_board 66 = .ok (.invokestatic 73, 3) := oc_184 (a := 0) (b := 73) (by decide +kernel)
theorem dX0_board_202 : decode cX0_board 202 = .ok (.iinc 8 1, 3) := oc_132 (b := 1) (by decide +kernel)
theorem dX0_board_205 : decode cX0_board 205 = .ok (.goto (-162), 3) := oc_167 (a := 255) (b := 94) (by decide +kernel)
theorem dX0_board_69 : decode cX0_board 69 = .ok (.ifCond .eq 133, 3) := oc_153 (a := 0) (b := 133) (by decide +kernel)
theorem dX0_board_72 : decode cX0_board 72 = .ok (.aload_n 0, 1) := oc_42 (by decide +kernel)
theorem dX0_board_73 : decode cX0_board 73 = .ok (.iload 9, 2) := oc_21 (by decide +kernel)
theorem dX0_board_75 : decode cX0_board 75 = .ok (.invokevirtual 65, 3) := oc_182 (a := 0) (b := 65) (by decide +kernel)
theorem dX0_board_78 : decode cX0_board 78 = .ok (.ifCond .ne 6, 3) := oc_154 (a := 0) (b := 6) (by decide +kernel)
theorem dX0_board_84 : decode cX0_board 84 = .ok (.aload_n 0, 1) := oc_42 (by decide +kernel)
theorem dX0_board_85 : decode cX0_board 85 = .ok (.iload 9, 2) := oc_21 (by decide +kernel)
theorem dX0_board_87 : decode cX0_board 87 = .ok (.invokevirtual 107, 3) := oc_182 (a := 0) (b := 107) (by decide +kernel)
theorem dX0_board_90 : decode cX0_board 90 = .ok (.istore 10, 2) := oc_54 (by decide +kernel)
theorem dX0_board_92 : decode cX0_board 92 = .ok (.aload_n 0, 1) := oc_42 (by decide +kernel)
theorem dX0_board_93 : decode cX0_board 93 = .ok (.getfield 51, 3) := oc_180 (a := 0) (b := 51) (by decide +kernel)
theorem dX0_board_96 : decode cX0_board 96 = .ok (.iload 10, 2) := oc_21 (by decide +kernel)
theorem dX0_board_98 : decode cX0_board 98 = .ok (.iaload, 1) := oc_46 (by decide +kernel)
theorem dX0_board_99 : decode cX0_board 99 = .ok (.bipush (-2), 2) := oc_16 (a := 254) (by decide +kernel)
theorem dX0_board_165 : decode cX0_board 165 = .ok (.aload_n 0, 1) := oc_42 (by decide +kernel)
theorem dX0_board_166 : decode cX0_board 166 = .ok (.getfield 51, 3) := oc_180 (a := 0) (b := 51) (by decide +kernel)
theorem dX0_board_169 : decode cX0_board 169 = .ok (.iload 10, 2) := oc_21 (by decide +kernel)
theorem dX0_board_171 : decode cX0_board 171 = .ok (.iaload, 1) := oc_46 (by decide +kernel)
theorem dX0_board_172 : decode cX0_board 172 = .ok (.iconst (-1), 1) := oc_2 (by decide +kernel)
theorem dX0_board_173 : decode cX0_board 173 = .ok (.if_icmp .eq 29, 3) := oc_159 (a := 0) (b := 29) (by decide +kernel)
theorem dX0_board_176 : decode cX0_board 176 = .ok (.aload_n 0, 1) := oc_42 (by decide +kernel)
theorem dX0_board_177 : decode cX0_board 177 = .ok (.getfield 24, 3) := oc_180 (a := 0) (b := 24) (by decide +kernel)
theorem dX0_board_180 : decode cX0_board 180 = .ok (.iload 9, 2) := oc_21 (by decide +kernel)
theorem dX0_board_182 : decode cX0_board 182 = .ok (.bipush 100, 2) := oc_16 (a := 100) (by decide +kernel)
theorem dX0_board_184 : decode cX0_board 184 = .ok (.aload_n 0, 1) := oc_42 (by decide +kernel)
theorem dX0_board_185 : decode cX0_board 185 = .ok (.getfield 51, 3) := oc_180 (a := 0) (b := 51) (by decide +kernel)
theorem dX0_board_188 : decode cX0_board 188 = .ok (.iload 10, 2) := oc_21 (by decide +kernel)
theorem dX0_board_190 : decode cX0_board 190 = .ok (.iaload, 1) := oc_46 (by decide +kernel)
theorem dX0_board_191 : decode cX0_board 191 = .ok (.iadd, 1) := oc_96 (by decide +kernel)
theorem dX0_board_192 : decode cX0_board 192 = .ok (.iastore, 1) := oc_79 (by decide +kernel)
theorem dX0_board_193 : decode cX0_board 193 = .ok (.aload_n 0, 1) := oc_42 (by decide +kernel)
theorem dX0_board_194 : decode cX0_board 194 = .ok (.getfield 33, 3) := oc_180 (a := 0) (b := 33) (by decide +kernel)
theorem dX0_board_197 : decode cX0_board 197 = .ok (.iload 9, 2) := oc_21 (by decide +kernel)
theorem dX0_board_199 : decode cX0_board 199 = .ok (.iload 6, 2) := oc_21 (by decide +kernel)
theorem dX0_board_201 : decode cX0_board 201 = .ok (.iastore, 1) := oc_79 (by decide +kernel)
theorem dX0_board_101 : decode cX0_board 101 = .ok (.if_icmp .ne 64, 3) := oc_160 (a := 0) (b := 64) (by decide +kernel)
theorem dX0_board_104 : decode cX0_board 104 = .ok (.aload_n 0, 1) := oc_42 (by decide +kernel)
theorem dX0_board_105 : decode cX0_board 105 = .ok (.getfield 51, 3) := oc_180 (a := 0) (b := 51) (by decide +kernel)
theorem dX0_board_108 : decode cX0_board 108 = .ok (.iload 10, 2) := oc_21 (by decide +kernel)
theorem dX0_board_110 : decode cX0_board 110 = .ok (.aload_n 0, 1) := oc_42 (by decide +kernel)
theorem dX0_board_111 : decode cX0_board 111 = .ok (.getfield 48, 3) := oc_180 (a := 0) (b := 48) (by decide +kernel)
theorem dX0_board_114 : decode cX0_board 114 = .ok (.iload 10, 2) := oc_21 (by decide +kernel)
theorem dX0_board_116 : decode cX0_board 116 = .ok (.iaload, 1) := oc_46 (by decide +kernel)
theorem dX0_board_117 : decode cX0_board 117 = .ok (.iload 7, 2) := oc_21 (by decide +kernel)
theorem dX0_board_137 : decode cX0_board 137 = .ok (.iastore, 1) := oc_79 (by decide +kernel)
theorem dX0_board_138 : decode cX0_board 138 = .ok (.iload 7, 2) := oc_21 (by decide +kernel)
theorem dX0_board_140 : decode cX0_board 140 = .ok (.aload_n 0, 1) := oc_42 (by decide +kernel)
theorem dX0_board_141 : decode cX0_board 141 = .ok (.getfield 51, 3) := oc_180 (a := 0) (b := 51) (by decide +kernel)
theorem dX0_board_144 : decode cX0_board 144 = .ok (.iload 10, 2) := oc_21 (by decide +kernel)
theorem dX0_board_146 : decode cX0_board 146 = .ok (.iaload, 1) := oc_46 (by decide +kernel)
theorem dX0_board_147 : decode cX0_board 147 = .ok (.iconst (-1), 1) := oc_2 (by decide +kernel)
theorem dX0_board_162 : decode cX0_board 162 = .ok (.isub, 1) := oc_100 (by decide +kernel)
theorem dX0_board_163 : decode cX0_board 163 = .ok (.istore 7, 2) := oc_54 (by decide +kernel)
theorem dX0_board_148 : decode cX0_board 148 = .ok (.if_icmp .ne 7, 3) := oc_160 (a := 0) (b := 7) (by decide +kernel)
theorem dX0_board_155 : decode cX0_board 155 = .ok (.aload_n 0, 1) := oc_42 (by decide +kernel)
theorem dX0_board_156 : decode cX0_board 156 = .ok (.getfield 48, 3) := oc_180 (a := 0) (b := 48) (by decide +kernel)
theorem dX0_board_159 : decode cX0_board 159 = .ok (.iload 10, 2) := oc_21 (by decide +kernel)
theorem dX0_board_161 : decode cX0_board 161 = .ok (.iaload, 1) := oc_46 (by decide +kernel)
theorem dX0_board_151 : decode cX0_board 151 = .ok (.iconst 0, 1) := oc_3 (by decide +kernel)
theorem dX0_board_152 : decode cX0_board 152 = .ok (.goto 10, 3) := oc_167 (a := 0) (b := 10) (by decide +kernel)
theorem dX0_board_119 : decode cX0_board 119 = .ok (.if_icmp .gt 17, 3) := oc_163 (a := 0) (b := 17) (by decide +kernel)
theorem dX0_board_136 : decode cX0_board 136 = .ok (.iconst (-1), 1) := oc_2 (by decide +kernel)
theorem dX0_board_122 : decode cX0_board 122 = .ok (.aload_n 0, 1) := oc_42 (by decide +kernel)
theorem dX0_board_123 : decode cX0_board 123 = .ok (.aload_n 0, 1) := oc_42 (by decide +kernel)
theorem dX0_board_124 : decode cX0_board 124 = .ok (.getfield 48, 3) := oc_180 (a := 0) (b := 48) (by decide +kernel)
theorem dX0_board_127 : decode cX0_board 127 = .ok (.iload 10, 2) := oc_21 (by decide +kernel)
theorem dX0_board_129 : decode cX0_board 129 = .ok (.iaload, 1) := oc_46 (by decide +kernel)
theorem tw_1181 : Cond.methodLink RX0 110 yX0_takeLot ∈ wsL_law := sg_50 _ (List.mem_of_getElem? (i := 5) rfl)
theorem tw_1182 : Cond.instanceMethod yX0_takeLot ∈ wsL_law := sg_50 _ (List.mem_of_getElem? (i := 6) rfl)
theorem tw_1183 : Cond.selects RX0 yX0_takeLot yX0_takeLot ∈ wsL_law := sg_50 _ (List.mem_of_getElem? (i := 7) rfl)
theorem tw_1184 : Cond.code yX0_takeLot cX0_takeLot 3 (some .int) ∈ wsL_law := sg_50 _ (List.mem_of_getElem? (i := 8) rfl)
theorem dX0_board_130 : decode cX0_board 130 = .ok (.invokevirtual 110, 3) := oc_182 (a := 0) (b := 110) (by decide +kernel)
theorem dX0_board_133 : decode cX0_board 133 = .ok (.goto 4, 3) := oc_167 (a := 0) (b := 4) (by decide +kernel)
theorem dX0_board_81 : decode cX0_board 81 = .ok (.goto 121, 3) := oc_167 (a := 0) (b := 121) (by decide +kernel)
theorem dX0_board_17 : decode cX0_board 17 = .ok (.aload_n 0, 1) := oc_42 (by decide +kernel)
theorem dX0_board_18 : decode cX0_board 18 = .ok (.getfield 45, 3) := oc_180 (a := 0) (b := 45) (by decide +kernel)
theorem dX0_board_21 : decode cX0_board 21 = .ok (.iload 7, 2) := oc_21 (by decide +kernel)
theorem dX0_board_23 : decode cX0_board 23 = .ok (.aload_n 0, 1) := oc_42 (by decide +kernel)
theorem dX0_board_24 : decode cX0_board 24 = .ok (.iload 7, 2) := oc_21 (by decide +kernel)
theorem tw_1180 : Cond.methodLink RX0 104 yX0_freeBeds ∈ wsL_law := sg_50 _ (List.mem_of_getElem? (i := 4) rfl)
theorem tw_414 : Cond.instanceMethod yX0_freeBeds ∈ wsL_law := sg_18 _ (List.mem_of_getElem? (i := 6) rfl)
theorem tw_415 : Cond.selects RX0 yX0_freeBeds yX0_freeBeds ∈ wsL_law := sg_18 _ (List.mem_of_getElem? (i := 7) rfl)
theorem tw_416 : Cond.code yX0_freeBeds cX0_freeBeds 2 (some .int) ∈ wsL_law := sg_18 _ (List.mem_of_getElem? (i := 8) rfl)
theorem dX0_board_26 : decode cX0_board 26 = .ok (.invokevirtual 104, 3) := oc_182 (a := 0) (b := 104) (by decide +kernel)
theorem dX0_board_29 : decode cX0_board 29 = .ok (.iastore, 1) := oc_79 (by decide +kernel)
theorem dX0_board_30 : decode cX0_board 30 = .ok (.iinc 7 1, 3) := oc_132 (b := 1) (by decide +kernel)
theorem dX0_board_33 : decode cX0_board 33 = .ok (.goto (-25), 3) := oc_167 (a := 255) (b := 231) (by decide +kernel)
set_option maxRecDepth 100000 in
def g_X10_nature_K77 (I : Nat → Int32) (J : Nat → Int64) (ri : Nat → Nat → Int32) (rj : Nat → Nat → Int64) (rq : Nat → Nat → Option Nat) (x_7 : Int32) (x_10 : Int32) (x_27 : Int32) : vM := (bnV (g_X2_growReef x_27 I J ri rj rq) fun (_ : Nat → Int32) (_ : Nat → Int64) (ri_76 : Nat → Nat → Int32) (_ : Nat → Nat → Int64) (_ : Nat → Nat → Option Nat) => (ap1 (ri_76 232 (x_7).toNatClampNeg) fun (x_83 : Int32) => (bnV (g_X2_walk x_83 I J ri_76 rj rq) fun (I_86 : Nat → Int32) (_ : Nat → Int64) (ri_87 : Nat → Nat → Int32) (_ : Nat → Nat → Int64) (_ : Nat → Nat → Option Nat) => (ap1 (I_86 320) fun (y_94 : Int32) => (ap1 (ri_87 230 (x_7).toNatClampNeg) fun (x_96 : Int32) => (ap1 (x_10 + x_96) fun (x_97 : Int32) => (ap1 (ri_87 229 (x_7).toNatClampNeg) fun (x_99 : Int32) => (ap1 (x_10 + x_99) fun (x_100 : Int32) => (bnV (g_X2_tide (y_94) x_97 x_100 I_86 J ri_87 rj rq) fun (_ : Nat → Int32) (J_103 : Nat → Int64) (ri_104 : Nat → Nat → Int32) (rj_105 : Nat → Nat → Int64) (_ : Nat → Nat → Option Nat) => (bnV (g_X2_giveUpBeds I_86 J_103 ri_104 rj_105 rq) fun (_ : Nat → Int32) (_ : Nat → Int64) (ri_113 : Nat → Nat → Int32) (_ : Nat → Nat → Int64) (_ : Nat → Nat → Option Nat) => (I_86, J_103, ri_113, rj_105, rq)))))))))))
set_option maxRecDepth 100000 in
theorem g_X10_nature_K77_e {I : Nat → Int32} {J : Nat → Int64} {ri : Nat → Nat → Int32} {rj : Nat → Nat → Int64} {rq : Nat → Nat → Option Nat} {x_7 : Int32} {x_10 : Int32} {x_27 : Int32} : g_X10_nature_K77 I J ri rj rq x_7 x_10 x_27 = (bnV (g_X2_growReef x_27 I J ri rj rq) fun (_ : Nat → Int32) (_ : Nat → Int64) (ri_76 : Nat → Nat → Int32) (_ : Nat → Nat → Int64) (_ : Nat → Nat → Option Nat) => (ap1 (ri_76 232 (x_7).toNatClampNeg) fun (x_83 : Int32) => (bnV (g_X2_walk x_83 I J ri_76 rj rq) fun (I_86 : Nat → Int32) (_ : Nat → Int64) (ri_87 : Nat → Nat → Int32) (_ : Nat → Nat → Int64) (_ : Nat → Nat → Option Nat) => (ap1 (I_86 320) fun (y_94 : Int32) => (ap1 (ri_87 230 (x_7).toNatClampNeg) fun (x_96 : Int32) => (ap1 (x_10 + x_96) fun (x_97 : Int32) => (ap1 (ri_87 229 (x_7).toNatClampNeg) fun (x_99 : Int32) => (ap1 (x_10 + x_99) fun (x_100 : Int32) => (bnV (g_X2_tide (y_94) x_97 x_100 I_86 J ri_87 rj rq) fun (_ : Nat → Int32) (J_103 : Nat → Int64) (ri_104 : Nat → Nat → Int32) (rj_105 : Nat → Nat → Int64) (_ : Nat → Nat → Option Nat) => (bnV (g_X2_giveUpBeds I_86 J_103 ri_104 rj_105 rq) fun (_ : Nat → Int32) (_ : Nat → Int64) (ri_113 : Nat → Nat → Int32) (_ : Nat → Nat → Int64) (_ : Nat → Nat → Option Nat) => (I_86, J_103, ri_113, rj_105, rq))))))))))) := rfl
set_option maxRecDepth 100000 in
def g_X10_nature (a0 : Int32) (I : Nat → Int32) (J : Nat → Int64) (ri : Nat → Nat → Int32) (rj : Nat → Nat → Int64) (rq : Nat → Nat → Option Nat) : vM := (ap1 (I 320) fun (y_2 : Int32) => (if (y_2) < (600 : Int32) then (ap1 ((y_2) - (y_2) / (12 : Int32) * (12 : Int32)) fun (x_7 : Int32) => (bnI (g_X7_known a0 (y_2) (y_2) I J ri rj rq) fun (x_10 : Int32) (_ : Nat → Int32) (_ : Nat → Int64) (_ : Nat → Nat → Int32) (_ : Nat → Nat → Int64) (_ : Nat → Nat → Option Nat) => (ap1 (ri 231 (x_7).toNatClampNeg) fun (x_19 : Int32) => (ap1 (I 234) fun (y_20 : Int32) => (if (y_20) < x_19 then (ap1 (I 236) fun (y_124 : Int32) => (ap1 (-(y_124)) fun (x_125 : Int32) => (g_X10_nature_K77 I J ri rj rq x_7 x_10 x_125))) else (ap1 (I 235) fun (y_126 : Int32) => (g_X10_nature_K77 I J ri rj rq x_7 x_10 (y_126)))))))) else (I, J, ri, rj, rq)))
set_option maxRecDepth 100000 in
theorem g_X10_nature_e {a0 : Int32} {I : Nat → Int32} {J : Nat → Int64} {ri : Nat → Nat → Int32} {rj : Nat → Nat → Int64} {rq : Nat → Nat → Option Nat} : g_X10_nature a0 I J ri rj rq = (ap1 (I 320) fun (y_2 : Int32) => (if (y_2) < (600 : Int32) then (ap1 ((y_2) - (y_2) / (12 : Int32) * (12 : Int32)) fun (x_7 : Int32) => (bnI (g_X7_known a0 (y_2) (y_2) I J ri rj rq) fun (x_10 : Int32) (_ : Nat → Int32) (_ : Nat → Int64) (_ : Nat → Nat → Int32) (_ : Nat → Nat → Int64) (_ : Nat → Nat → Option Nat) => (ap1 (ri 231 (x_7).toNatClampNeg) fun (x_19 : Int32) => (ap1 (I 234) fun (y_20 : Int32) => (if (y_20) < x_19 then (ap1 (I 236) fun (y_124 : Int32) => (ap1 (-(y_124)) fun (x_125 : Int32) => (g_X10_nature_K77 I J ri rj rq x_7 x_10 x_125))) else (ap1 (I 235) fun (y_126 : Int32) => (g_X10_nature_K77 I J ri rj rq x_7 x_10 (y_126)))))))) else (I, J, ri, rj, rq))) := rfl
set_option maxHeartbeats 4000000 in
set_option maxRecDepth 100000 in
theorem s_X10_nature (l : Launch) (D : va_G) (t : pq_T) (σ : pq_S) (I : Nat → Nat → Int32) (J : Nat → Nat → Int64) (ri : Nat → Nat → Int32) (rj : Nat → Nat → Int64) (rq : Nat → Nat → Option Nat) (sz : Nat) (tg : Nat → Nat) (hSH : SH σ tg) (hG0 : GS tg σ I ri rq) (this : Nat) (a0 : Int32) (hL_this : this ∈ σ.1) (hK_this : σ.2.1 this = 10) : MetV l yX10_nature (wa yX10_nature cX10_nature 4 none) ({ frames := 3, cells := 0, slots := 0, locals := 69 }) [.ref this, .int a0] D t σ (I, J, ri, rj, rq) sz 0 0 (fun (u : pq_S × pq_M) => ∃ I' : Nat → Nat → Int32, ∃ J' : Nat → Nat → Int64, ∃ ri' : Nat → Nat → Int32, ∃ rj' : Nat → Nat → Int64, u = (σ, I', J', ri', rj', rq) ∧ GX [1074, 1073] tg σ I ri rj I' ri' rj' rq ∧ g_X10_nature a0 (vI 10 σ this I) (vJ 10 σ this J) (vR 10 σ this ri) (vL 10 σ this rj) (vQ 10 σ this rq) = ((vI 10 σ this I'), (vJ 10 σ this J'), (vR 10 σ this ri'), (vL 10 σ this rj'), (vQ 10 σ this rq)) ∧ FR 10 tg σ this (I, J, ri, rj, rq) (I', J', ri', rj', rq)) := by
  refine Met.ofW (cc := cX10_nature) (maxL := 4) (ret := none) (by decide +kernel) rfl ?_
  intro p e s m args below meth c s₁ B hml hv
  obtain ⟨rfl, hsz, hP, hK, hD0, hN⟩ := hv
  have hx := B.exec
  have hb := B.bytes
  have hr := B.returns
  have hts := atoms_spec (ws := (wa yX10_nature cX10_nature 4 none)) B.pre
  have hown : s.vm.findClass RX10 = some m.cls := findClass_of_methodNamed B.named
  have hlocks := B.notSynchronized
  subst hsz
  have hD : va_D (pq_B t σ (I, J, ri, rj, rq) s.heap.size) (pq_P t σ (I, J, ri, rj, rq)) := hD0.self
  generalize hAe : pq_B t σ (I, J, ri, rj, rq) s.heap.size = A at hD ⊢
  have hA : ∀ q : Nat, s.heap.size ≤ q → A q := fun q h => by rw [← hAe]; exact Or.inr h
  have hS : va_S A s.heap s.heap [] := va_S.rf
  have hG : GX [1074, 1073] tg σ I ri rj I ri rj rq := ⟨hG0, fun _ _ _ => rfl, fun _ _ _ _ _ => rfl, fun _ _ _ _ _ => rfl⟩
  have hl := lv_entry ([.ref this, .int a0]) (n := 4) (Nat.le_of_ble_eq_true rfl)
  rw [lg_entry_eq]
  generalize (lg_sl ([.ref this, .int a0]) ++ List.replicate (4 - (lg_sl ([.ref this, .int a0])).length) Slot.unset).toArray = ls at hl ⊢
  have hl : lv_has ls 4 [(0, .ref this), (1, .int a0)] := hl
  refine q_gen (fun Q hQ => ?_)
  have go : ∀ (H : Heap) (locs : List Loc) (ls : Array Slot), va_P D vwCl (pq_P t σ (I, J, ri, rj, rq)) H → va_D A (pq_P t σ (I, J, ri, rj, rq)) → va_S A s.heap H locs → lv_has ls 4 [(0, .ref this), (1, .int a0)] → W p l e ({ frames := 3, cells := 0, slots := 0, locals := 69 } : Room) s m (List.toArray ([.ref this, .int a0] : List Value)) below meth c H locs 0 0 Q (F0 m 0 ls []) := by
    intro H locs ls hP hD hS hl
    have hO_this : this = vo σ 10 this := rfl
    have hVT : VT 10 σ tg this := vt_10 hSH hL_this hK_this
    have hFr : FR 10 tg σ this (I, J, ri, rj, rq) (I, J, ri, rj, rq) := fr_rf
    obtain ⟨F, hF0⟩ : ∃ F, F = g_X10_nature a0 (vI 10 σ this I) (vJ 10 σ this J) (vR 10 σ this ri) (vL 10 σ this rj) (vQ 10 σ this rq) := ⟨_, rfl⟩
    have hF := hF0.trans g_X10_nature_e
    refine lv_aload_n hx hb dX10_nature_0 rfl (lv_at hl 0 rfl) ?_
    refine pg_f (v := .int (I 320 this)) (C := RX10) (T := TX10) (N := 13) hx hb hts (tw_i inlX10) hown hK hP hL_this hK_this (by decide +kernel) rfl 0 (by decide +kernel) (hts _ (tw_c tw_457)) rfl dX10_nature_1 ?_
    have h_1 : rg (I 320 this) 0 600 := GX.rI hG 320 rfl
    replace hF := hF.trans (ap_n (vI_e (f := 320) hO_this (by decide +kernel)))
    refine lv_sipush (v := 600) hx hb dX10_nature_4 (by decide +kernel) ?_
    refine lv_icmp_lt (tgt := 11) hx hb dX10_nature_7 (by decide +kernel) (fun c_3 => ?_) (fun c_3 => ?_)
    · replace hF := hF.trans (if_pos c_3)
      have h_6 : rg (I 320 this) 0 599 := rg_lt1 c_3 h_1 (rg_k (600 : Int32) 600 rfl) (by decide +kernel)
      refine lv_aload_n hx hb dX10_nature_11 rfl (lv_at hl 0 rfl) ?_
      refine pg_f (v := .int (I 320 this)) (C := RX10) (T := TX10) (N := 13) hx hb hts (tw_i inlX10) hown hK hP hL_this hK_this (by decide +kernel) rfl 0 (by decide +kernel) (hts _ (tw_c tw_457)) rfl dX10_nature_12 ?_
      refine lv_bipush (v := 12) hx hb dX10_nature_15 (by decide +kernel) ?_
      refine lv_irem hx hb dX10_nature_17 (by decide +kernel) ?_
      refine lv_topi (fun x_7 ex_7 => ?_)
      replace hF := hF.trans (ap_n ex_7)
      have h_8 : rg x_7 0 11 := rg_of_eq ex_7 (rg_rem h_6 rfl (by decide +kernel))
      refine lv_istore_n (lv' := [(2, .int x_7), (0, .ref this), (1, .int a0)]) hx hb dX10_nature_18 rfl hl (by decide +kernel) rfl (fun ls hl => ?_)
      refine lv_aload_n hx hb dX10_nature_19 rfl (lv_at hl 1 rfl) ?_
      obtain ⟨w_9, hR_w_9, hL_w_9, hK_w_9⟩ := sh_o hSH 326 (ci := 10) (kd := 7) rfl hL_this hK_this
      have hO_w_9 : w_9 = vo σ 7 this := vo_k (c := 10) hO_this hR_w_9
      refine pg_f (v := .ref w_9) (C := RX10) (T := TX10) (N := 13) hx hb hts (tw_i inlX10) hown hK hP hL_this hK_this (by decide +kernel) rfl 6 (by decide +kernel) (hts _ (tw_c tw_38)) (pq_hv rfl hR_w_9) dX10_nature_20 ?_
      refine lv_iload_n hx hb dX10_nature_23 rfl (lv_at hl 2 rfl) ?_
      refine lv_aload_n hx hb dX10_nature_24 rfl (lv_at hl 1 rfl) ?_
      refine pg_f (v := .int (I 320 this)) (C := RX10) (T := TX10) (N := 13) hx hb hts (tw_i inlX10) hown hK hP hL_this hK_this (by decide +kernel) rfl 0 (by decide +kernel) (hts _ (tw_c tw_457)) rfl dX10_nature_25 ?_
      refine lv_aload_n hx hb dX10_nature_28 rfl (lv_at hl 1 rfl) ?_
      refine pg_f (v := .int (I 320 this)) (C := RX10) (T := TX10) (N := 13) hx hb hts (tw_i inlX10) hown hK hP hL_this hK_this (by decide +kernel) rfl 0 (by decide +kernel) (hts _ (tw_c tw_457)) rfl dX10_nature_29 ?_
      refine pk_i (va_runV (As := [.int a0, .int (I 320 this), .int (I 320 this)]) (rest := []) ⟨hx, hb, hml, hown, hts⟩ (s_X7_known l D t σ I J ri rj rq H.size tg hSH hG.1 w_9 a0 (I 320 this) (I 320 this) hL_w_9 hK_w_9 this hL_this hK_this hO_w_9) (cwV 3 hts (tw_V tw_1058 tw_271 tw_272 tw_37 tw_273) rfl rfl rfl cv_yX7_known_3 ⟨Nat.le_of_ble_eq_true rfl, Nat.le_of_ble_eq_true rfl⟩) ⟨pq_blind, pq_recv hK hP hL_w_9 hK_w_9 (by decide +kernel) rfl, pq_pre hK hN hP hD⟩ rfl rfl hl.1 rfl (lv_room (Nat.le_of_ble_eq_true rfl)) dX10_nature_32 ⟨Nat.le_of_ble_eq_true rfl, Nat.le_of_ble_eq_true rfl⟩) hD hS hA (fun x_10 σ1 μ1 H locs hw_11 hP hD hS => ?_)
      obtain ⟨hu_12, hfn_15⟩ := hw_11
      obtain ⟨hu_12a, hu_12b⟩ := Prod.mk.inj hu_12
      rw [hu_12a, hu_12b] at hP hD
      replace hF := hF.trans (bn_n hfn_15)
      refine lv_istore_n (lv' := [(3, .int x_10), (2, .int x_7), (0, .ref this), (1, .int a0)]) hx hb dX10_nature_35 rfl hl (by decide +kernel) rfl (fun ls hl => ?_)
      refine lv_aload_n hx hb dX10_nature_36 rfl (lv_at hl 2 rfl) ?_
      obtain ⟨w_17, hR_w_17, hL_w_17, hK_w_17⟩ := sh_o hSH 327 (ci := 10) (kd := 2) rfl hL_this hK_this
      have hO_w_17 : w_17 = vo σ 2 this := vo_k (c := 10) hO_this hR_w_17
      refine pg_f (v := .ref w_17) (C := RX10) (T := TX10) (N := 13) hx hb hts (tw_i inlX10) hown hK hP hL_this hK_this (by decide +kernel) rfl 7 (by decide +kernel) (hts _ (tw_c tw_42)) (pq_hv rfl hR_w_17) dX10_nature_37 ?_
      refine lv_aload_n hx hb dX10_nature_40 rfl (lv_at hl 2 rfl) ?_
      refine pg_f (v := .ref w_9) (C := RX10) (T := TX10) (N := 13) hx hb hts (tw_i inlX10) hown hK hP hL_this hK_this (by decide +kernel) rfl 6 (by decide +kernel) (hts _ (tw_c tw_38)) (pq_hv rfl hR_w_9) dX10_nature_41 ?_
      obtain ⟨w_18, hR_w_18, hL_w_18, hK_w_18, hN_w_18, hT_w_18⟩ := sh_a hSH 231 (ci := 7) (kd := 13) (len := 12) rfl (by decide +kernel) hL_w_9 hK_w_9
      have hO_w_18 : w_18 = vrow σ 231 this := vo_k (c := 7) hO_w_9 hR_w_18
      refine pg_f (v := .ref w_18) (C := RX7) (T := TX7) (N := 15) hx hb hts (tw_i inlX7) hown hK hP hL_w_9 hK_w_9 (by decide +kernel) rfl 7 (by decide +kernel) (hts _ (tw_c tw_1051)) (pq_hv rfl hR_w_18) dX10_nature_44 ?_
      refine lv_iload_n hx hb dX10_nature_47 rfl (lv_at hl 1 rfl) ?_
      refine pl_i hx hb hK hP hL_w_18 hK_w_18 hN_w_18 (rg_in h_8 (by decide +kernel)) dX10_nature_48 ?_
      refine lv_topi (fun x_19 ex_19 => ?_)
      replace hF := hF.trans (ap_n (vR_r hO_w_18 (by decide +kernel) ex_19))
      refine lv_aload_n hx hb dX10_nature_49 rfl (lv_at hl 2 rfl) ?_
      refine pg_f (v := .ref w_9) (C := RX10) (T := TX10) (N := 13) hx hb hts (tw_i inlX10) hown hK hP hL_this hK_this (by decide +kernel) rfl 6 (by decide +kernel) (hts _ (tw_c tw_38)) (pq_hv rfl hR_w_9) dX10_nature_50 ?_
      refine pg_f (v := .int (I 234 w_9)) (C := RX7) (T := TX7) (N := 15) hx hb hts (tw_i inlX7) hown hK hP hL_w_9 hK_w_9 (by decide +kernel) rfl 10 (by decide +kernel) (hts _ (tw_c tw_1052)) rfl dX10_nature_53 ?_
      replace hF := hF.trans (ap_n (vI_e (f := 234) hO_w_9 (by decide +kernel)))
      have K_73 : ∀  (x_27 : Int32) (H : Heap) (locs : List Loc) (ls : Array Slot), F = g_X10_nature_K77 (vI 10 σ this I) (vJ 10 σ this J) (vR 10 σ this ri) (vL 10 σ this rj) (vQ 10 σ this rq) x_7 x_10 x_27 → FR 10 tg σ this (I, J, ri, rj, rq) (I, J, ri, rj, rq) → GX [1074, 1073] tg σ I ri rj I ri rj rq → va_P D vwCl (pq_P t σ (I, J, ri, rj, rq)) H → va_D A (pq_P t σ (I, J, ri, rj, rq)) → va_S A s.heap H locs → lv_has ls 4 [(0, .ref this), (2, .int x_7), (3, .int x_10)] → W p l e ({ frames := 3, cells := 0, slots := 0, locals := 69 } : Room) s m (List.toArray ([.ref this, .int a0] : List Value)) below meth c H locs 0 0 Q (F0 m 77 ls [.int x_27, .ref w_17]) := by
        intro x_27 H locs ls hF hFr hG hP hD hS hl
        replace hF := hF.trans g_X10_nature_K77_e
        refine pk_v (va_runV (As := [.int x_27]) (rest := []) ⟨hx, hb, hml, hown, hts⟩ (s_X2_growReef l D t σ I J ri rj rq H.size tg hSH hG.1 w_17 x_27 hL_w_17 hK_w_17 this hL_this hK_this hO_w_17) (cwV 1 hts (tw_V tw_1059 tw_1060 tw_1061 tw_41 tw_1062) rfl rfl rfl cv_yX2_growReef_1 ⟨Nat.le_of_ble_eq_true rfl, Nat.le_of_ble_eq_true rfl⟩) ⟨pq_blind, pq_recv hK hP hL_w_17 hK_w_17 (by decide +kernel) rfl, pq_pre hK hN hP hD⟩ rfl rfl hl.1 rfl (lv_room (Nat.le_of_ble_eq_true rfl)) dX10_nature_77 ⟨Nat.le_of_ble_eq_true rfl, Nat.le_of_ble_eq_true rfl⟩) hD hS hA (fun σ1 μ1 H locs hw_75 hP hD hS => ?_)
        obtain ⟨ri_76, hu_77, hg_78, hfn_80, hfr_81⟩ := hw_75
        obtain ⟨hu_77a, hu_77b⟩ := Prod.mk.inj hu_77
        rw [hu_77a, hu_77b] at hP hD
        replace hF := hF.trans (bv_n hfn_80)
        replace hFr := fr_tr hFr hfr_81
        have hG := GX.tr hG hg_78 (by decide +kernel)
        refine lv_aload_n hx hb dX10_nature_80 rfl (lv_at hl 0 rfl) ?_
        refine pg_f (v := .ref w_17) (C := RX10) (T := TX10) (N := 13) hx hb hts (tw_i inlX10) hown hK hP hL_this hK_this (by decide +kernel) rfl 7 (by decide +kernel) (hts _ (tw_c tw_42)) (pq_hv rfl hR_w_17) dX10_nature_81 ?_
        refine lv_aload_n hx hb dX10_nature_84 rfl (lv_at hl 0 rfl) ?_
        refine pg_f (v := .ref w_9) (C := RX10) (T := TX10) (N := 13) hx hb hts (tw_i inlX10) hown hK hP hL_this hK_this (by decide +kernel) rfl 6 (by decide +kernel) (hts _ (tw_c tw_38)) (pq_hv rfl hR_w_9) dX10_nature_85 ?_
        obtain ⟨w_82, hR_w_82, hL_w_82, hK_w_82, hN_w_82, hT_w_82⟩ := sh_a hSH 232 (ci := 7) (kd := 13) (len := 12) rfl (by decide +kernel) hL_w_9 hK_w_9
        have hO_w_82 : w_82 = vrow σ 232 this := vo_k (c := 7) hO_w_9 hR_w_82
        refine pg_f (v := .ref w_82) (C := RX7) (T := TX7) (N := 15) hx hb hts (tw_i inlX7) hown hK hP hL_w_9 hK_w_9 (by decide +kernel) rfl 8 (by decide +kernel) (hts _ (tw_c tw_1055)) (pq_hv rfl hR_w_82) dX10_nature_88 ?_
        refine lv_iload_n hx hb dX10_nature_91 rfl (lv_at hl 1 rfl) ?_
        refine pl_i hx hb hK hP hL_w_82 hK_w_82 hN_w_82 (rg_in h_8 (by decide +kernel)) dX10_nature_92 ?_
        refine lv_topi (fun x_83 ex_83 => ?_)
        replace hF := hF.trans (ap_n (vR_r hO_w_82 (by decide +kernel) ex_83))
        refine pk_v (va_runV (As := [.int x_83]) (rest := []) ⟨hx, hb, hml, hown, hts⟩ (s_X2_walk l D t σ I J ri_76 rj rq H.size tg hSH hG.1 w_17 x_83 hL_w_17 hK_w_17 this hL_this hK_this hO_w_17) (cwV 1 hts (tw_V tw_1065 tw_1066 tw_1067 tw_41 tw_1068) rfl rfl rfl cv_yX2_walk_1 ⟨Nat.le_of_ble_eq_true rfl, Nat.le_of_ble_eq_true rfl⟩) ⟨pq_blind, pq_recv hK hP hL_w_17 hK_w_17 (by decide +kernel) rfl, pq_pre hK hN hP hD⟩ rfl rfl hl.1 rfl (lv_room (Nat.le_of_ble_eq_true rfl)) dX10_nature_93 ⟨Nat.le_of_ble_eq_true rfl, Nat.le_of_ble_eq_true rfl⟩) hD hS hA (fun σ1 μ1 H locs hw_85 hP hD hS => ?_)
        obtain ⟨I_86, ri_87, hu_88, hg_89, hfn_91, hfr_92⟩ := hw_85
        obtain ⟨hu_88a, hu_88b⟩ := Prod.mk.inj hu_88
        rw [hu_88a, hu_88b] at hP hD
        replace hF := hF.trans (bv_n hfn_91)
        replace hFr := fr_tr hFr hfr_92
        have hG := GX.tr hG hg_89 (by decide +kernel)
        refine lv_aload_n hx hb dX10_nature_96 rfl (lv_at hl 0 rfl) ?_
        refine pg_f (v := .ref w_17) (C := RX10) (T := TX10) (N := 13) hx hb hts (tw_i inlX10) hown hK hP hL_this hK_this (by decide +kernel) rfl 7 (by decide +kernel) (hts _ (tw_c tw_42)) (pq_hv rfl hR_w_17) dX10_nature_97 ?_
        refine lv_aload_n hx hb dX10_nature_100 rfl (lv_at hl 0 rfl) ?_
        refine pg_f (v := .int (I_86 320 this)) (C := RX10) (T := TX10) (N := 13) hx hb hts (tw_i inlX10) hown hK hP hL_this hK_this (by decide +kernel) rfl 0 (by decide +kernel) (hts _ (tw_c tw_457)) rfl dX10_nature_101 ?_
        have h_93 : rg (I_86 320 this) 0 599 := (by rw [hG.2.1 320 (by decide +kernel) (by decide +kernel)]; exact h_6)
        replace hF := hF.trans (ap_n (vI_e (f := 320) hO_this (by decide +kernel)))
        refine lv_iload_n hx hb dX10_nature_104 rfl (lv_at hl 2 rfl) ?_
        refine lv_aload_n hx hb dX10_nature_105 rfl (lv_at hl 0 rfl) ?_
        refine pg_f (v := .ref w_9) (C := RX10) (T := TX10) (N := 13) hx hb hts (tw_i inlX10) hown hK hP hL_this hK_this (by decide +kernel) rfl 6 (by decide +kernel) (hts _ (tw_c tw_38)) (pq_hv rfl hR_w_9) dX10_nature_106 ?_
        obtain ⟨w_95, hR_w_95, hL_w_95, hK_w_95, hN_w_95, hT_w_95⟩ := sh_a hSH 230 (ci := 7) (kd := 13) (len := 12) rfl (by decide +kernel) hL_w_9 hK_w_9
        have hO_w_95 : w_95 = vrow σ 230 this := vo_k (c := 7) hO_w_9 hR_w_95
        refine pg_f (v := .ref w_95) (C := RX7) (T := TX7) (N := 15) hx hb hts (tw_i inlX7) hown hK hP hL_w_9 hK_w_9 (by decide +kernel) rfl 6 (by decide +kernel) (hts _ (tw_c tw_1056)) (pq_hv rfl hR_w_95) dX10_nature_109 ?_
        refine lv_iload_n hx hb dX10_nature_112 rfl (lv_at hl 1 rfl) ?_
        refine pl_i hx hb hK hP hL_w_95 hK_w_95 hN_w_95 (rg_in h_8 (by decide +kernel)) dX10_nature_113 ?_
        refine lv_topi (fun x_96 ex_96 => ?_)
        replace hF := hF.trans (ap_n (vR_r hO_w_95 (by decide +kernel) ex_96))
        refine lv_iadd hx hb dX10_nature_114 ?_
        refine lv_topi (fun x_97 ex_97 => ?_)
        replace hF := hF.trans (ap_n ex_97)
        refine lv_iload_n hx hb dX10_nature_115 rfl (lv_at hl 2 rfl) ?_
        refine lv_aload_n hx hb dX10_nature_116 rfl (lv_at hl 0 rfl) ?_
        refine pg_f (v := .ref w_9) (C := RX10) (T := TX10) (N := 13) hx hb hts (tw_i inlX10) hown hK hP hL_this hK_this (by decide +kernel) rfl 6 (by decide +kernel) (hts _ (tw_c tw_38)) (pq_hv rfl hR_w_9) dX10_nature_117 ?_
        obtain ⟨w_98, hR_w_98, hL_w_98, hK_w_98, hN_w_98, hT_w_98⟩ := sh_a hSH 229 (ci := 7) (kd := 13) (len := 12) rfl (by decide +kernel) hL_w_9 hK_w_9
        have hO_w_98 : w_98 = vrow σ 229 this := vo_k (c := 7) hO_w_9 hR_w_98
        refine pg_f (v := .ref w_98) (C := RX7) (T := TX7) (N := 15) hx hb hts (tw_i inlX7) hown hK hP hL_w_9 hK_w_9 (by decide +kernel) rfl 5 (by decide +kernel) (hts _ (tw_c tw_1057)) (pq_hv rfl hR_w_98) dX10_nature_120 ?_
        refine lv_iload_n hx hb dX10_nature_123 rfl (lv_at hl 1 rfl) ?_
        refine pl_i hx hb hK hP hL_w_98 hK_w_98 hN_w_98 (rg_in h_8 (by decide +kernel)) dX10_nature_124 ?_
        refine lv_topi (fun x_99 ex_99 => ?_)
        replace hF := hF.trans (ap_n (vR_r hO_w_98 (by decide +kernel) ex_99))
        refine lv_iadd hx hb dX10_nature_125 ?_
        refine lv_topi (fun x_100 ex_100 => ?_)
        replace hF := hF.trans (ap_n ex_100)
        refine pk_v (va_runV (As := [.int (I_86 320 this), .int x_97, .int x_100]) (rest := []) ⟨hx, hb, hml, hown, hts⟩ (s_X2_tide l D t σ I_86 J ri_87 rj rq H.size tg hSH hG.1 w_17 (I_86 320 this) x_97 x_100 hL_w_17 hK_w_17 this hL_this hK_this hO_w_17) (cwV 3 hts (tw_V tw_1070 tw_1071 tw_1072 tw_41 tw_1073) rfl rfl rfl cv_yX2_tide_3 ⟨Nat.le_of_ble_eq_true rfl, Nat.le_of_ble_eq_true rfl⟩) ⟨pq_blind, pq_recv hK hP hL_w_17 hK_w_17 (by decide +kernel) rfl, pq_pre hK hN hP hD⟩ rfl rfl hl.1 rfl (lv_room (Nat.le_of_ble_eq_true rfl)) dX10_nature_126 ⟨Nat.le_of_ble_eq_true rfl, Nat.le_of_ble_eq_true rfl⟩) hD hS hA (fun σ1 μ1 H locs hw_102 hP hD hS => ?_)
        obtain ⟨J_103, ri_104, rj_105, hu_106, hg_107, hfn_109, hfr_110⟩ := hw_102
        obtain ⟨hu_106a, hu_106b⟩ := Prod.mk.inj hu_106
        rw [hu_106a, hu_106b] at hP hD
        replace hF := hF.trans (bv_n hfn_109)
        replace hFr := fr_tr hFr hfr_110
        have hG := GX.tr hG hg_107 (by decide +kernel)
        refine lv_aload_n hx hb dX10_nature_129 rfl (lv_at hl 0 rfl) ?_
        refine pg_f (v := .ref w_17) (C := RX10) (T := TX10) (N := 13) hx hb hts (tw_i inlX10) hown hK hP hL_this hK_this (by decide +kernel) rfl 7 (by decide +kernel) (hts _ (tw_c tw_42)) (pq_hv rfl hR_w_17) dX10_nature_130 ?_
        refine pk_v (va_runV (As := []) (rest := []) ⟨hx, hb, hml, hown, hts⟩ (s_X2_giveUpBeds l D t σ I_86 J_103 ri_104 rj_105 rq H.size tg hSH hG.1 w_17 hL_w_17 hK_w_17 this hL_this hK_this hO_w_17) (cwV 0 hts (tw_V tw_1078 tw_1079 tw_1080 tw_41 tw_1081) rfl rfl rfl cv_yX2_giveUpBeds_0 ⟨Nat.le_of_ble_eq_true rfl, Nat.le_of_ble_eq_true rfl⟩) ⟨pq_blind, pq_recv hK hP hL_w_17 hK_w_17 (by decide +kernel) rfl, pq_pre hK hN hP hD⟩ rfl rfl hl.1 rfl (lv_room (Nat.le_of_ble_eq_true rfl)) dX10_nature_133 ⟨Nat.le_of_ble_eq_true rfl, Nat.le_of_ble_eq_true rfl⟩) hD hS hA (fun σ1 μ1 H locs hw_112 hP hD hS => ?_)
        obtain ⟨ri_113, hu_114, hg_115, hfn_117, hfr_118⟩ := hw_112
        obtain ⟨hu_114a, hu_114b⟩ := Prod.mk.inj hu_114
        rw [hu_114a, hu_114b] at hP hD
        replace hF := hF.trans (bv_n hfn_117)
        replace hFr := fr_tr hFr hfr_118
        have hG := GX.tr hG hg_115 (by decide +kernel)
        subst hQ
        exact W.vret hx hb hr (fun t1 ht hW => ⟨⟨(σ, I_86, J_103, ri_113, rj_105, rq), rfl, ⟨I_86, J_103, ri_113, rj_105, rfl, hG, (hF0.symm.trans hF), hFr⟩, by rw [ht]; exact hP, va_K.moved hW.alike hK, hD⟩, hS.F ht⟩) hS.2.2 dX10_nature_136
      refine lv_icmp_gt (tgt := 69) hx hb dX10_nature_56 (by decide +kernel) (fun c_119 => ?_) (fun c_119 => ?_)
      · replace hF := hF.trans (if_pos c_119)
        have h_122 : rg (I 234 w_9) (-2147483648) 2147483646 := rg_lt1 c_119 (rg_full _) (rg_full _) (by decide +kernel)
        have h_123 : rg x_19 (-2147483647) 2147483647 := rg_lt2 c_119 (rg_full _) (rg_full _) (by decide +kernel)
        refine lv_aload_n hx hb dX10_nature_69 rfl (lv_at hl 2 rfl) ?_
        refine pg_f (v := .ref w_9) (C := RX10) (T := TX10) (N := 13) hx hb hts (tw_i inlX10) hown hK hP hL_this hK_this (by decide +kernel) rfl 6 (by decide +kernel) (hts _ (tw_c tw_38)) (pq_hv rfl hR_w_9) dX10_nature_70 ?_
        refine pg_f (v := .int (I 236 w_9)) (C := RX7) (T := TX7) (N := 15) hx hb hts (tw_i inlX7) hown hK hP hL_w_9 hK_w_9 (by decide +kernel) rfl 12 (by decide +kernel) (hts _ (tw_c tw_1054)) rfl dX10_nature_73 ?_
        replace hF := hF.trans (ap_n (vI_e (f := 236) hO_w_9 (by decide +kernel)))
        refine lv_ineg hx hb dX10_nature_76 ?_
        refine lv_topi (fun x_125 ex_125 => ?_)
        replace hF := hF.trans (ap_n ex_125)
        exact K_73 x_125 _ _ _ hF hFr hG hP hD hS (lv_sub hl [2, 1, 0] rfl)
      · replace hF := hF.trans (if_neg c_119)
        refine lv_aload_n hx hb dX10_nature_59 rfl (lv_at hl 2 rfl) ?_
        refine pg_f (v := .ref w_9) (C := RX10) (T := TX10) (N := 13) hx hb hts (tw_i inlX10) hown hK hP hL_this hK_this (by decide +kernel) rfl 6 (by decide +kernel) (hts _ (tw_c tw_38)) (pq_hv rfl hR_w_9) dX10_nature_60 ?_
        refine pg_f (v := .int (I 235 w_9)) (C := RX7) (T := TX7) (N := 15) hx hb hts (tw_i inlX7) hown hK hP hL_w_9 hK_w_9 (by decide +kernel) rfl 11 (by decide +kernel) (hts _ (tw_c tw_1053)) rfl dX10_nature_63 ?_
        replace hF := hF.trans (ap_n (vI_e (f := 235) hO_w_9 (by decide +kernel)))
        refine lv_goto (tgt := 77) hx hb dX10_nature_66 (by decide +kernel) ?_
        exact K_73 (I 235 w_9) _ _ _ hF hFr hG hP hD hS (lv_sub hl [2, 1, 0] rfl)
    · replace hF := hF.trans (if_neg c_3)
      have h_127 : rg (I 320 this) 600 600 := rg_le2 (nlt c_3) (rg_k (600 : Int32) 600 rfl) h_1 (by decide +kernel)
      subst hQ
      exact W.vret hx hb hr (fun t1 ht hW => ⟨⟨(σ, I, J, ri, rj, rq), rfl, ⟨I, J, ri, rj, rfl, hG, (hF0.symm.trans hF), hFr⟩, by rw [ht]; exact hP, va_K.moved hW.alike hK, hD⟩, hS.F ht⟩) hS.2.2 dX10_nature_10
  exact go _ _ _ hP hD hS hl

set_option maxHeartbeats 4000000 in
set_option maxRecDepth 100000 in
theorem s_X2_countBeds_166 (l : Launch) (D : va_G) (t : pq_T) (σ : pq_S) (I : Nat → Nat → Int32) (J : Nat → Nat → Int64) (ri : Nat → Nat → Int32) (rj : Nat → Nat → Int64) (rq : Nat → Nat → Option Nat) (sz : Nat) (tg : Nat → Nat) (hSH : SH σ tg) (hG0 : GS tg σ I ri rq) (this : Nat) (a0 : Nat) (a1 : Int32) (hL_this : this ∈ σ.1) (hK_this : σ.2.1 this = 2) (hL_a0 : a0 ∈ σ.1) (hK_a0 : σ.2.1 a0 = 13) (hN_a0 : σ.2.2.2 a0 = 60) (hT_a0 : tg a0 = 166) (h_a1 : rg a1 0 55) (M : Nat) (hL_M : M ∈ σ.1) (hK_M : σ.2.1 M = 10) (hO_this : this = vo σ 2 M) : MetV l yX2_countBeds (wa yX2_countBeds cX2_countBeds 4 none) ({ frames := 0, cells := 0, slots := 0, locals := 0 }) [.ref this, .ref a0, .int a1] D t σ (I, J, ri, rj, rq) sz 0 0 (fun (u : pq_S × pq_M) => ∃ ri' : Nat → Nat → Int32, u = (σ, I, J, ri', rj, rq) ∧ GX [] tg σ I ri rj I ri' rj rq ∧ FR 10 tg σ M (I, J, ri, rj, rq) (I, J, ri', rj, rq)) := by
  refine Met.ofW (cc := cX2_countBeds) (maxL := 4) (ret := none) (by decide +kernel) rfl ?_
  intro p e s m args below meth c s₁ B hml hv
  obtain ⟨rfl, hsz, hP, hK, hD0, hN⟩ := hv
  have hx := B.exec
  have hb := B.bytes
  have hr := B.returns
  have hts := atoms_spec (ws := (wa yX2_countBeds cX2_countBeds 4 none)) B.pre
  have hown : s.vm.findClass RX2 = some m.cls := findClass_of_methodNamed B.named
  have hlocks := B.notSynchronized
  subst hsz
  have hD : va_D (pq_B t σ (I, J, ri, rj, rq) s.heap.size) (pq_P t σ (I, J, ri, rj, rq)) := hD0.self
  generalize hAe : pq_B t σ (I, J, ri, rj, rq) s.heap.size = A at hD ⊢
  have hA : ∀ q : Nat, s.heap.size ≤ q → A q := fun q h => by rw [← hAe]; exact Or.inr h
  have hS : va_S A s.heap s.heap [] := va_S.rf
  have hG : GX [] tg σ I ri rj I ri rj rq := ⟨hG0, fun _ _ _ => rfl, fun _ _ _ _ _ => rfl, fun _ _ _ _ _ => rfl⟩
  have hl := lv_entry ([.ref this, .ref a0, .int a1]) (n := 4) (Nat.le_of_ble_eq_true rfl)
  rw [lg_entry_eq]
  generalize (lg_sl ([.ref this, .ref a0, .int a1]) ++ List.replicate (4 - (lg_sl ([.ref this, .ref a0, .int a1])).length) Slot.unset).toArray = ls at hl ⊢
  have hl : lv_has ls 4 [(0, .ref this), (1, .ref a0), (2, .int a1)] := hl
  refine q_gen (fun Q hQ => ?_)
  have go : ∀ (H : Heap) (locs : List Loc) (ls : Array Slot), va_P D vwCl (pq_P t σ (I, J, ri, rj, rq)) H → va_D A (pq_P t σ (I, J, ri, rj, rq)) → va_S A s.heap H locs → lv_has ls 4 [(0, .ref this), (1, .ref a0), (2, .int a1)] → W p l e ({ frames := 0, cells := 0, slots := 0, locals := 0 } : Room) s m (List.toArray ([.ref this, .ref a0, .int a1] : List Value)) below meth c H locs 0 0 Q (F0 m 0 ls []) := by
    intro H locs ls hP hD hS hl
    have hVT : VT 10 σ tg M := vt_10 hSH hL_M hK_M
    have hFr : FR 10 tg σ M (I, J, ri, rj, rq) (I, J, ri, rj, rq) := fr_rf
    refine lv_iload_n hx hb dX2_countBeds_0 rfl (lv_at hl 2 rfl) ?_
    refine lv_if_lt (tgt := 12) hx hb dX2_countBeds_1 (by decide +kernel) (fun c_1 => ?_) (fun c_1 => ?_)
    · exact (rg_empty (rg_lt1 c_1 h_a1 (rg_k (0 : Int32) 0 rfl) (lo := 0) (hi := (-1)) (by decide +kernel)) (by decide +kernel)).elim
    · refine lv_iload_n hx hb dX2_countBeds_4 rfl (lv_at hl 2 rfl) ?_
      refine lv_iconst (v := 5) hx hb dX2_countBeds_5 (by decide +kernel) ?_
      refine lv_iadd hx hb dX2_countBeds_6 ?_
      refine lv_topi (fun x_2 ex_2 => ?_)
      have h_3 : rg x_2 5 60 := rg_of_eq ex_2 (rg_add h_a1 (rg_k (5 : Int32) 5 rfl) (by decide +kernel))
      refine lv_aload_n hx hb dX2_countBeds_7 rfl (lv_at hl 1 rfl) ?_
      refine pn_i (v := 60) hx hb hK hP hL_a0 hK_a0 hN_a0 (by decide +kernel) dX2_countBeds_8 ?_
      refine lv_icmp_le (tgt := 13) hx hb dX2_countBeds_9 (by decide +kernel) (fun c_4 => ?_) (fun c_4 => ?_)
      · refine lv_iconst (v := 0) hx hb dX2_countBeds_13 (by decide +kernel) ?_
        refine lv_istore_n (lv' := [(3, .int 0), (0, .ref this), (1, .ref a0), (2, .int a1)]) hx hb dX2_countBeds_14 rfl hl (by decide +kernel) rfl (fun ls hl => ?_)
        have L_870 : ∀ (n_869 : Nat) (x_594 : Int32) (ri_595 : Nat → Nat → Int32) (H : Heap) (locs : List Loc) (ls : Array Slot), rg x_594 0 5 → (5 - (x_594).toInt).toNat < n_869 → FR 10 tg σ M (I, J, ri, rj, rq) (I, J, ri_595, rj, rq) → GX [] tg σ I ri rj I ri_595 rj rq → va_P D vwCl (pq_P t σ (I, J, ri_595, rj, rq)) H → va_D A (pq_P t σ (I, J, ri_595, rj, rq)) → va_S A s.heap H locs → lv_has ls 4 [(0, .ref this), (1, .ref a0), (2, .int a1), (3, .int x_594)] → W p l e ({ frames := 0, cells := 0, slots := 0, locals := 0 } : Room) s m (List.toArray ([.ref this, .ref a0, .int a1] : List Value)) below meth c H locs 0 0 Q (F0 m 15 ls []) := by
          intro n_869
          induction n_869 with
          | zero => intro x_594 ri_595 H locs ls h_873 hm_868 hFr hG hP hD hS hl; exact absurd hm_868 (Nat.not_lt_zero _)
          | succ n_869 ih_871 =>
            intro x_594 ri_595 H locs ls h_873 hm_868 hFr hG hP hD hS hl
            refine lv_iload_n hx hb dX2_countBeds_15 rfl (lv_at hl 3 rfl) ?_
            refine lv_iconst (v := 5) hx hb dX2_countBeds_16 (by decide +kernel) ?_
            refine lv_icmp_ge (tgt := 32) hx hb dX2_countBeds_17 (by decide +kernel) (fun c_874 => ?_) (fun c_874 => ?_)
            · have h_875 : rg x_594 5 5 := rg_le2 c_874 (rg_k (5 : Int32) 5 rfl) h_873 (by decide +kernel)
              refine lv_iconst (v := 0) hx hb dX2_countBeds_32 (by decide +kernel) ?_
              refine lv_istore_n (lv' := [(3, .int 0), (0, .ref this), (1, .ref a0), (2, .int a1)]) hx hb dX2_countBeds_33 rfl hl (by decide +kernel) rfl (fun ls hl => ?_)
              have L_1122 : ∀ (n_1121 : Nat) (x_1101 : Int32) (ri_1102 : Nat → Nat → Int32) (H : Heap) (locs : List Loc) (ls : Array Slot), rg x_1101 0 40 → (40 - (x_1101).toInt).toNat < n_1121 → FR 10 tg σ M (I, J, ri, rj, rq) (I, J, ri_1102, rj, rq) → GX [] tg σ I ri rj I ri_1102 rj rq → va_P D vwCl (pq_P t σ (I, J, ri_1102, rj, rq)) H → va_D A (pq_P t σ (I, J, ri_1102, rj, rq)) → va_S A s.heap H locs → lv_has ls 4 [(0, .ref this), (1, .ref a0), (2, .int a1), (3, .int x_1101)] → W p l e ({ frames := 0, cells := 0, slots := 0, locals := 0 } : Room) s m (List.toArray ([.ref this, .ref a0, .int a1] : List Value)) below meth c H locs 0 0 Q (F0 m 34 ls []) := by
                intro n_1121
                induction n_1121 with
                | zero => intro x_1101 ri_1102 H locs ls h_1125 hm_1120 hFr hG hP hD hS hl; exact absurd hm_1120 (Nat.not_lt_zero _)
                | succ n_1121 ih_1123 =>
                  intro x_1101 ri_1102 H locs ls h_1125 hm_1120 hFr hG hP hD hS hl
                  refine lv_iload_n hx hb dX2_countBeds_34 rfl (lv_at hl 3 rfl) ?_
                  refine lv_aload_n hx hb dX2_countBeds_35 rfl (lv_at hl 0 rfl) ?_
                  refine pg_f (v := .int (I 65 this)) (C := RX2) (T := TX2) (N := 20) hx hb hts (tw_i inlX2) hown hK hP hL_this hK_this (by decide +kernel) rfl 1 (by decide +kernel) (hts _ (tw_c tw_222)) rfl dX2_countBeds_36 ?_
                  have h_1126 : rg (I 65 this) 0 40 := GX.rI hG 65 rfl
                  refine lv_icmp_ge (tgt := 67) hx hb dX2_countBeds_39 (by decide +kernel) (fun c_1127 => ?_) (fun c_1127 => ?_)
                  · subst hQ
                    exact W.vret hx hb hr (fun t1 ht hW => ⟨⟨(σ, I, J, ri_1102, rj, rq), rfl, ⟨ri_1102, rfl, hG, hFr⟩, by rw [ht]; exact hP, va_K.moved hW.alike hK, hD⟩, hS.F ht⟩) hS.2.2 dX2_countBeds_67
                  · have h_1128 : rg x_1101 0 39 := rg_lt1 (nle c_1127) h_1125 h_1126 (by decide +kernel)
                    have h_1129 : rg (I 65 this) 1 40 := rg_lt2 (nle c_1127) h_1125 h_1126 (by decide +kernel)
                    refine lv_aload_n hx hb dX2_countBeds_42 rfl (lv_at hl 1 rfl) ?_
                    refine lv_iload_n hx hb dX2_countBeds_43 rfl (lv_at hl 2 rfl) ?_
                    refine lv_aload_n hx hb dX2_countBeds_44 rfl (lv_at hl 0 rfl) ?_
                    obtain ⟨w_1130, hR_w_1130, hL_w_1130, hK_w_1130, hN_w_1130, hT_w_1130⟩ := sh_a hSH 69 (ci := 2) (kd := 13) (len := 40) rfl (by decide +kernel) hL_this hK_this
                    have hO_w_1130 : w_1130 = vrow σ 69 M := vo_k (c := 2) hO_this hR_w_1130
                    refine pg_f (v := .ref w_1130) (C := RX2) (T := TX2) (N := 20) hx hb hts (tw_i inlX2) hown hK hP hL_this hK_this (by decide +kernel) rfl 5 (by decide +kernel) (hts _ (tw_c tw_83)) (pq_hv rfl hR_w_1130) dX2_countBeds_45 ?_
                    refine lv_iload_n hx hb dX2_countBeds_48 rfl (lv_at hl 3 rfl) ?_
                    refine pl_i hx hb hK hP hL_w_1130 hK_w_1130 hN_w_1130 (rg_in h_1128 (by decide +kernel)) dX2_countBeds_49 ?_
                    refine lv_topi (fun x_1131 ex_1131 => ?_)
                    have h_1132 : rg x_1131 0 4 := rg_of_eq ex_1131 (GX.rR hG hT_w_1130 rfl)
                    refine lv_iadd hx hb dX2_countBeds_50 ?_
                    refine lv_topi (fun x_1133 ex_1133 => ?_)
                    have h_1134 : rg x_1133 0 59 := rg_of_eq ex_1133 (rg_add h_a1 h_1132 (by decide +kernel))
                    refine lv_dup2_11 hx hb dX2_countBeds_51 rfl rfl ?_
                    refine pl_i hx hb hK hP hL_a0 hK_a0 hN_a0 (rg_in h_1134 (by decide +kernel)) dX2_countBeds_52 ?_
                    refine lv_topi (fun x_1135 ex_1135 => ?_)
                    refine lv_aload_n hx hb dX2_countBeds_53 rfl (lv_at hl 0 rfl) ?_
                    obtain ⟨w_1136, hR_w_1136, hL_w_1136, hK_w_1136, hN_w_1136, hT_w_1136⟩ := sh_a hSH 76 (ci := 2) (kd := 13) (len := 40) rfl (by decide +kernel) hL_this hK_this
                    have hO_w_1136 : w_1136 = vrow σ 76 M := vo_k (c := 2) hO_this hR_w_1136
                    refine pg_f (v := .ref w_1136) (C := RX2) (T := TX2) (N := 20) hx hb hts (tw_i inlX2) hown hK hP hL_this hK_this (by decide +kernel) rfl 12 (by decide +kernel) (hts _ (tw_c tw_90)) (pq_hv rfl hR_w_1136) dX2_countBeds_54 ?_
                    refine lv_iload_n hx hb dX2_countBeds_57 rfl (lv_at hl 3 rfl) ?_
                    refine pl_i hx hb hK hP hL_w_1136 hK_w_1136 hN_w_1136 (rg_in h_1128 (by decide +kernel)) dX2_countBeds_58 ?_
                    refine lv_topi (fun x_1137 ex_1137 => ?_)
                    refine lv_iadd hx hb dX2_countBeds_59 ?_
                    refine lv_topi (fun x_1138 ex_1138 => ?_)
                    refine pt_i hx hb hK hP hD hS hL_a0 hK_a0 hN_a0 (rg_in h_1134 (by decide +kernel)) dX2_countBeds_60 (fun r_1139 H locs er_1139 hP hD hS => ?_)
                    replace hFr := fr_R5 hFr hT_a0 (by decide +kernel) er_1139
                    have hG := GX.wR hG hSH hT_a0 rfl er_1139 (rg_w (rg_full _) (by decide +kernel)) (by decide +kernel)
                    obtain ⟨x_1140, ex_1140⟩ : ∃ y : Int32, y = x_1101 + Int32.ofInt 1 := ⟨_, rfl⟩
                    have h_1141 : rg x_1140 1 40 := rg_of_eq ex_1140 (rg_add h_1128 (rg_k (Int32.ofInt 1) 1 rfl) (by decide +kernel))
                    refine lv_iinc (v := x_1140) (lv' := [(3, .int x_1140), (0, .ref this), (1, .ref a0), (2, .int a1)]) hx hb dX2_countBeds_61 hl (k := 3) rfl ex_1140.symm (by decide +kernel) rfl (fun ls hl => ?_)
                    refine lv_goto (tgt := 34) hx hb dX2_countBeds_64 (by decide +kernel) ?_
                    exact ih_1123 x_1140 r_1139 _ _ _ (rg_w h_1141 (by decide +kernel)) (ms_up 1 hm_1120 ex_1140 rfl (by decide +kernel) h_1128 (by decide +kernel) (by decide +kernel)) hFr hG hP hD hS (lv_sub hl [1, 2, 3, 0] rfl)
              exact L_1122 _ (0 : Int32) ri_595 _ _ _ (rg_w (rg_k (0 : Int32) 0 rfl) (by decide +kernel)) (Nat.lt_succ_self _) hFr hG hP hD hS (lv_sub hl [1, 2, 3, 0] rfl)
            · have h_1142 : rg x_594 0 4 := rg_lt1 (nle c_874) h_873 (rg_k (5 : Int32) 5 rfl) (by decide +kernel)
              refine lv_aload_n hx hb dX2_countBeds_20 rfl (lv_at hl 1 rfl) ?_
              refine lv_iload_n hx hb dX2_countBeds_21 rfl (lv_at hl 2 rfl) ?_
              refine lv_iload_n hx hb dX2_countBeds_22 rfl (lv_at hl 3 rfl) ?_
              refine lv_iadd hx hb dX2_countBeds_23 ?_
              refine lv_topi (fun x_1143 ex_1143 => ?_)
              have h_1144 : rg x_1143 0 59 := rg_of_eq ex_1143 (rg_add h_a1 h_1142 (by decide +kernel))
              refine lv_iconst (v := 0) hx hb dX2_countBeds_24 (by decide +kernel) ?_
              refine pt_i hx hb hK hP hD hS hL_a0 hK_a0 hN_a0 (rg_in h_1144 (by decide +kernel)) dX2_countBeds_25 (fun r_1145 H locs er_1145 hP hD hS => ?_)
              replace hFr := fr_R5 hFr hT_a0 (by decide +kernel) er_1145
              have hG := GX.wR hG hSH hT_a0 rfl er_1145 (rg_w (rg_k (0 : Int32) 0 rfl) (by decide +kernel)) (by decide +kernel)
              obtain ⟨x_1146, ex_1146⟩ : ∃ y : Int32, y = x_594 + Int32.ofInt 1 := ⟨_, rfl⟩
              have h_1147 : rg x_1146 1 5 := rg_of_eq ex_1146 (rg_add h_1142 (rg_k (Int32.ofInt 1) 1 rfl) (by decide +kernel))
              refine lv_iinc (v := x_1146) (lv' := [(3, .int x_1146), (0, .ref this), (1, .ref a0), (2, .int a1)]) hx hb dX2_countBeds_26 hl (k := 3) rfl ex_1146.symm (by decide +kernel) rfl (fun ls hl => ?_)
              refine lv_goto (tgt := 15) hx hb dX2_countBeds_29 (by decide +kernel) ?_
              exact ih_871 x_1146 r_1145 _ _ _ (rg_w h_1147 (by decide +kernel)) (ms_up 1 hm_868 ex_1146 rfl (by decide +kernel) h_1142 (by decide +kernel) (by decide +kernel)) hFr hG hP hD hS (lv_sub hl [1, 2, 3, 0] rfl)
        exact L_870 _ (0 : Int32) ri _ _ _ (rg_w (rg_k (0 : Int32) 0 rfl) (by decide +kernel)) (Nat.lt_succ_self _) hFr hG hP hD hS (lv_sub hl [1, 2, 3, 0] rfl)
      · exact (rg_empty (rg_lt2 (nle c_4) (rg_k (60 : Int32) 60 rfl) h_3 (lo := 61) (hi := 60) (by decide +kernel)) (by decide +kernel)).elim
  exact go _ _ _ hP hD hS hl

set_option maxHeartbeats 4000000 in
set_option maxRecDepth 100000 in
theorem s_X5_foresee (l : Launch) (D : va_G) (t : pq_T) (σ : pq_S) (I : Nat → Nat → Int32) (J : Nat → Nat → Int64) (ri : Nat → Nat → Int32) (rj : Nat → Nat → Int64) (rq : Nat → Nat → Option Nat) (sz : Nat) (tg : Nat → Nat) (hSH : SH σ tg) (hG0 : GS tg σ I ri rq) (this : Nat) (a0 : Nat) (a1 : Int32) (a2 : Int32) (hL_this : this ∈ σ.1) (hK_this : σ.2.1 this = 5) (hL_a0 : a0 ∈ σ.1) (hK_a0 : σ.2.1 a0 = 10) (h_a2 : rg a2 0 12) (hclk : (I 320 a0).toInt + a2.toInt ≤ 600) : MetV l yX5_foresee (wa yX5_foresee cX5_foresee 7 none) ({ frames := 5, cells := 0, slots := 0, locals := 143 }) [.ref this, .ref a0, .int a1, .int a2] D t σ (I, J, ri, rj, rq) sz 0 0 (fun (u : pq_S × pq_M) => ∃ I' : Nat → Nat → Int32, ∃ J' : Nat → Nat → Int64, ∃ ri' : Nat → Nat → Int32, ∃ rj' : Nat → Nat → Int64, u = (σ, I', J', ri', rj', rq) ∧ GX [1074, 1073, 320] tg σ I ri rj I' ri' rj' rq ∧ FR 10 tg σ a0 (I, J, ri, rj, rq) (I', J', ri', rj', rq)) := by
  refine Met.ofW (cc := cX5_foresee) (maxL := 7) (ret := none) (by decide +kernel) rfl ?_
  intro p e s m args below meth c s₁ B hml hv
  obtain ⟨rfl, hsz, hP, hK, hD0, hN⟩ := hv
  have hx := B.exec
  have hb := B.bytes
  have hr := B.returns
  have hts := atoms_spec (ws := (wa yX5_foresee cX5_foresee 7 none)) B.pre
  have hown : s.vm.findClass RX5 = some m.cls := findClass_of_methodNamed B.named
  have hlocks := B.notSynchronized
  subst hsz
  have hD : va_D (pq_B t σ (I, J, ri, rj, rq) s.heap.size) (pq_P t σ (I, J, ri, rj, rq)) := hD0.self
  generalize hAe : pq_B t σ (I, J, ri, rj, rq) s.heap.size = A at hD ⊢
  have hA : ∀ q : Nat, s.heap.size ≤ q → A q := fun q h => by rw [← hAe]; exact Or.inr h
  have hS : va_S A s.heap s.heap [] := va_S.rf
  have hG : GX [1074, 1073, 320] tg σ I ri rj I ri rj rq := ⟨hG0, fun _ _ _ => rfl, fun _ _ _ _ _ => rfl, fun _ _ _ _ _ => rfl⟩
  have hl := lv_entry ([.ref this, .ref a0, .int a1, .int a2]) (n := 7) (Nat.le_of_ble_eq_true rfl)
  rw [lg_entry_eq]
  generalize (lg_sl ([.ref this, .ref a0, .int a1, .int a2]) ++ List.replicate (7 - (lg_sl ([.ref this, .ref a0, .int a1, .int a2])).length) Slot.unset).toArray = ls at hl ⊢
  have hl : lv_has ls 7 [(0, .ref this), (1, .ref a0), (2, .int a1), (3, .int a2)] := hl
  refine q_gen (fun Q hQ => ?_)
  have go : ∀ (H : Heap) (locs : List Loc) (ls : Array Slot), va_P D vwCl (pq_P t σ (I, J, ri, rj, rq)) H → va_D A (pq_P t σ (I, J, ri, rj, rq)) → va_S A s.heap H locs → lv_has ls 7 [(0, .ref this), (1, .ref a0), (2, .int a1), (3, .int a2)] → W p l e ({ frames := 5, cells := 0, slots := 0, locals := 143 } : Room) s m (List.toArray ([.ref this, .ref a0, .int a1, .int a2] : List Value)) below meth c H locs 0 0 Q (F0 m 0 ls []) := by
    intro H locs ls hP hD hS hl
    have hO_a0 : a0 = vo σ 10 a0 := rfl
    have hVT : VT 10 σ tg a0 := vt_10 hSH hL_a0 hK_a0
    have hFr : FR 10 tg σ a0 (I, J, ri, rj, rq) (I, J, ri, rj, rq) := fr_rf
    refine lv_aload_n hx hb dX5_foresee_0 rfl (lv_at hl 1 rfl) ?_
    obtain ⟨w_1, hR_w_1, hL_w_1, hK_w_1⟩ := sh_o hSH 328 (ci := 10) (kd := 0) rfl hL_a0 hK_a0
    have hO_w_1 : w_1 = vo σ 0 a0 := vo_k (c := 10) hO_a0 hR_w_1
    refine pg_f (v := .ref w_1) (C := RX10) (T := TX10) (N := 13) hx hb hts (tw_i inlX10) hown hK hP hL_a0 hK_a0 (by decide +kernel) rfl 8 (by decide +kernel) (hts _ (tw_c tw_1446)) (pq_hv rfl hR_w_1) dX5_foresee_1 ?_
    refine pk_l (va_runV (As := []) (rest := []) ⟨hx, hb, hml, hown, hts⟩ (s_X0_onRings l D t σ I J ri rj rq H.size tg hSH hG.1 w_1 hL_w_1 hK_w_1 a0 hL_a0 hK_a0 hO_w_1) (cwV 0 hts (tw_V tw_1450 tw_1163 tw_1164 tw_45 tw_1165) rfl rfl rfl cv_yX0_onRings_0 ⟨Nat.le_of_ble_eq_true rfl, Nat.le_of_ble_eq_true rfl⟩) ⟨pq_blind, pq_recv hK hP hL_w_1 hK_w_1 (by decide +kernel) rfl, pq_pre hK hN hP hD⟩ rfl rfl hl.1 rfl (lv_room (Nat.le_of_ble_eq_true rfl)) dX5_foresee_4 ⟨Nat.le_of_ble_eq_true rfl, Nat.le_of_ble_eq_true rfl⟩) hD hS hA (fun x_2 σ1 μ1 H locs hw_3 hP hD hS => ?_)
    obtain ⟨hu_4, hfn_7⟩ := hw_3
    obtain ⟨hu_4a, hu_4b⟩ := Prod.mk.inj hu_4
    rw [hu_4a, hu_4b] at hP hD
    refine lv_lstore (lv' := [(4, .long x_2), (0, .ref this), (1, .ref a0), (2, .int a1), (3, .int a2)]) hx hb dX5_foresee_7 hl (by decide +kernel) rfl (fun ls hl => ?_)
    refine lv_iconst (v := 0) hx hb dX5_foresee_9 (by decide +kernel) ?_
    refine lv_istore (lv' := [(6, .int 0), (4, .long x_2), (0, .ref this), (1, .ref a0), (2, .int a1), (3, .int a2)]) hx hb dX5_foresee_10 hl (by decide +kernel) rfl (fun ls hl => ?_)
    have L_630 : ∀ (n_629 : Nat) (x_571 : Int32) (I_572 : Nat → Nat → Int32) (J_573 : Nat → Nat → Int64) (ri_574 : Nat → Nat → Int32) (rj_575 : Nat → Nat → Int64) (H : Heap) (locs : List Loc) (ls : Array Slot), rg x_571 0 12 → ((I_572 320 a0).toInt = (I 320 a0).toInt + (x_571).toInt) → (12 - (x_571).toInt).toNat < n_629 → FR 10 tg σ a0 (I, J, ri, rj, rq) (I_572, J_573, ri_574, rj_575, rq) → GX [1074, 1073, 320] tg σ I ri rj I_572 ri_574 rj_575 rq → va_P D vwCl (pq_P t σ (I_572, J_573, ri_574, rj_575, rq)) H → va_D A (pq_P t σ (I_572, J_573, ri_574, rj_575, rq)) → va_S A s.heap H locs → lv_has ls 7 [(0, .ref this), (1, .ref a0), (2, .int a1), (3, .int a2), (4, .long x_2), (6, .int x_571)] → W p l e ({ frames := 5, cells := 0, slots := 0, locals := 143 } : Room) s m (List.toArray ([.ref this, .ref a0, .int a1, .int a2] : List Value)) below meth c H locs 0 0 Q (F0 m 12 ls []) := by
      intro n_629
      induction n_629 with
      | zero => intro x_571 I_572 J_573 ri_574 rj_575 H locs ls h_634 hrel_635 hm_628 hFr hG hP hD hS hl; exact absurd hm_628 (Nat.not_lt_zero _)
      | succ n_629 ih_631 =>
        intro x_571 I_572 J_573 ri_574 rj_575 H locs ls h_634 hrel_635 hm_628 hFr hG hP hD hS hl
        have uh_634 := h_634.1
        have vh_634 := h_634.2
        refine lv_iload hx hb dX5_foresee_12 (lv_at hl 5 rfl) ?_
        refine lv_iload_n hx hb dX5_foresee_14 rfl (lv_at hl 3 rfl) ?_
        refine lv_icmp_ge (tgt := 93) hx hb dX5_foresee_15 (by decide +kernel) (fun c_636 => ?_) (fun c_636 => ?_)
        · have tc_637 : (a2).toInt ≤ (x_571).toInt := Int32.le_iff_toInt_le.mp c_636
          subst hQ
          exact W.vret hx hb hr (fun t1 ht hW => ⟨⟨(σ, I_572, J_573, ri_574, rj_575, rq), rfl, ⟨I_572, J_573, ri_574, rj_575, rfl, hG, hFr⟩, by rw [ht]; exact hP, va_K.moved hW.alike hK, hD⟩, hS.F ht⟩) hS.2.2 dX5_foresee_93
        · have tc_638 : (x_571).toInt < (a2).toInt := Int32.lt_iff_toInt_lt.mp (nle c_636)
          have h_639 : rg x_571 0 11 := rg_lt1 (nle c_636) h_634 h_a2 (by decide +kernel)
          have uh_639 := h_639.1
          have vh_639 := h_639.2
          have h_640 : rg a2 1 12 := rg_lt2 (nle c_636) h_634 h_a2 (by decide +kernel)
          have uh_640 := h_640.1
          have vh_640 := h_640.2
          refine lv_aload_n hx hb dX5_foresee_18 rfl (lv_at hl 1 rfl) ?_
          refine lv_iload_n hx hb dX5_foresee_19 rfl (lv_at hl 2 rfl) ?_
          refine pk_v (va_runV (As := [.int a1]) (rest := []) ⟨hx, hb, hml, hown, hts⟩ (s_X10_nature l D t σ I_572 J_573 ri_574 rj_575 rq H.size tg hSH hG.1 a0 a1 hL_a0 hK_a0) (cwV 1 hts (tw_V tw_1451 tw_1048 tw_1049 tw_15 tw_1050) rfl rfl rfl cv_yX10_nature_1 ⟨Nat.le_of_ble_eq_true rfl, Nat.le_of_ble_eq_true rfl⟩) ⟨pq_blind, pq_recv hK hP hL_a0 hK_a0 (by decide +kernel) rfl, pq_pre hK hN hP hD⟩ rfl rfl hl.1 rfl (lv_room (Nat.le_of_ble_eq_true rfl)) dX5_foresee_20 ⟨Nat.le_of_ble_eq_true rfl, Nat.le_of_ble_eq_true rfl⟩) hD hS hA (fun σ1 μ1 H locs hw_642 hP hD hS => ?_)
          obtain ⟨I_643, J_644, ri_645, rj_646, hu_647, hg_648, hfn_650, hfr_651⟩ := hw_642
          obtain ⟨hu_647a, hu_647b⟩ := Prod.mk.inj hu_647
          rw [hu_647a, hu_647b] at hP hD
          replace hFr := fr_tr hFr hfr_651
          have hG := GX.tr hG hg_648 (by decide +kernel)
          have tt_652 : (I_643 320 a0).toInt = (I_572 320 a0).toInt := by rw [hg_648.2.1 320 (by decide +kernel) (by decide +kernel)]
          refine lv_aload_n hx hb dX5_foresee_23 rfl (lv_at hl 0 rfl) ?_
          obtain ⟨w_653, hR_w_653, hL_w_653, hK_w_653, hN_w_653, hT_w_653⟩ := sh_a hSH 165 (ci := 5) (kd := 14) (len := 12) rfl (by decide +kernel) hL_this hK_this
          refine pg_f (v := .ref w_653) (C := RX5) (T := TX5) (N := 8) hx hb hts (tw_i inlX5) hown hK hP hL_this hK_this (by decide +kernel) rfl 5 (by decide +kernel) (hts _ (tw_c tw_145)) (pq_hv rfl hR_w_653) dX5_foresee_24 ?_
          refine lv_iload hx hb dX5_foresee_27 (lv_at hl 5 rfl) ?_
          refine lv_aload_n hx hb dX5_foresee_29 rfl (lv_at hl 1 rfl) ?_
          obtain ⟨w_654, hR_w_654, hL_w_654, hK_w_654⟩ := sh_o hSH 327 (ci := 10) (kd := 2) rfl hL_a0 hK_a0
          have hO_w_654 : w_654 = vo σ 2 a0 := vo_k (c := 10) hO_a0 hR_w_654
          refine pg_f (v := .ref w_654) (C := RX10) (T := TX10) (N := 13) hx hb hts (tw_i inlX10) hown hK hP hL_a0 hK_a0 (by decide +kernel) rfl 7 (by decide +kernel) (hts _ (tw_c tw_1438)) (pq_hv rfl hR_w_654) dX5_foresee_30 ?_
          refine pg_f (v := .long (J_644 67 w_654)) (C := RX2) (T := TX2) (N := 20) hx hb hts (tw_i inlX2) hown hK hP hL_w_654 hK_w_654 (by decide +kernel) rfl 3 (by decide +kernel) (hts _ (tw_c tw_1447)) rfl dX5_foresee_33 ?_
          refine pt_l hx hb hK hP hD hS hL_w_653 hK_w_653 hN_w_653 (rg_in h_639 (by decide +kernel)) dX5_foresee_36 (fun r_655 H locs er_655 hP hD hS => ?_)
          replace hFr := fr_L5 hFr hT_w_653 (by decide +kernel) er_655
          have hG := GX.wJ hG hT_w_653 er_655 (by decide +kernel)
          refine lv_aload_n hx hb dX5_foresee_37 rfl (lv_at hl 1 rfl) ?_
          refine pg_f (v := .ref w_654) (C := RX10) (T := TX10) (N := 13) hx hb hts (tw_i inlX10) hown hK hP hL_a0 hK_a0 (by decide +kernel) rfl 7 (by decide +kernel) (hts _ (tw_c tw_1438)) (pq_hv rfl hR_w_654) dX5_foresee_38 ?_
          refine lv_aload_n hx hb dX5_foresee_41 rfl (lv_at hl 0 rfl) ?_
          obtain ⟨w_656, hR_w_656, hL_w_656, hK_w_656, hN_w_656, hT_w_656⟩ := sh_a hSH 166 (ci := 5) (kd := 13) (len := 60) rfl (by decide +kernel) hL_this hK_this
          refine pg_f (v := .ref w_656) (C := RX5) (T := TX5) (N := 8) hx hb hts (tw_i inlX5) hown hK hP hL_this hK_this (by decide +kernel) rfl 6 (by decide +kernel) (hts _ (tw_c tw_146)) (pq_hv rfl hR_w_656) dX5_foresee_42 ?_
          refine lv_iload hx hb dX5_foresee_45 (lv_at hl 5 rfl) ?_
          refine lv_iconst (v := 5) hx hb dX5_foresee_47 (by decide +kernel) ?_
          refine lv_imul hx hb dX5_foresee_48 ?_
          refine lv_topi (fun x_657 ex_657 => ?_)
          have h_658 : rg x_657 0 55 := rg_of_eq ex_657 (rg_mul h_639 (rg_k (5 : Int32) 5 rfl) (by decide +kernel))
          have uh_658 := h_658.1
          have vh_658 := h_658.2
          refine pk_v (va_runV (As := [.ref w_656, .int x_657]) (rest := []) ⟨hx, hb, hml, hown, hts⟩ (s_X2_countBeds_166 l D t σ I_643 J_644 ri_645 r_655 rq H.size tg hSH hG.1 w_654 w_656 x_657 hL_w_654 hK_w_654 hL_w_656 hK_w_656 hN_w_656 hT_w_656 (rg_w h_658 (by decide +kernel)) a0 hL_a0 hK_a0 hO_w_654) (cwV 2 hts (tw_V tw_1452 tw_1091 tw_1092 tw_41 tw_1093) rfl rfl rfl cv_yX2_countBeds_2 ⟨Nat.le_of_ble_eq_true rfl, Nat.le_of_ble_eq_true rfl⟩) ⟨pq_blind, pq_recv hK hP hL_w_654 hK_w_654 (by decide +kernel) rfl, pq_pre hK hN hP hD⟩ rfl rfl hl.1 rfl (lv_room (Nat.le_of_ble_eq_true rfl)) dX5_foresee_49 ⟨Nat.le_of_ble_eq_true rfl, Nat.le_of_ble_eq_true rfl⟩) hD hS hA (fun σ1 μ1 H locs hw_660 hP hD hS => ?_)
          obtain ⟨ri_661, hu_662, hg_663, hfr_666⟩ := hw_660
          obtain ⟨hu_662a, hu_662b⟩ := Prod.mk.inj hu_662
          rw [hu_662a, hu_662b] at hP hD
          replace hFr := fr_tr hFr hfr_666
          have hG := GX.tr hG hg_663 (by decide +kernel)
          refine lv_aload_n hx hb dX5_foresee_52 rfl (lv_at hl 0 rfl) ?_
          obtain ⟨w_667, hR_w_667, hL_w_667, hK_w_667, hN_w_667, hT_w_667⟩ := sh_a hSH 167 (ci := 5) (kd := 14) (len := 12) rfl (by decide +kernel) hL_this hK_this
          refine pg_f (v := .ref w_667) (C := RX5) (T := TX5) (N := 8) hx hb hts (tw_i inlX5) hown hK hP hL_this hK_this (by decide +kernel) rfl 7 (by decide +kernel) (hts _ (tw_c tw_147)) (pq_hv rfl hR_w_667) dX5_foresee_53 ?_
          refine lv_iload hx hb dX5_foresee_56 (lv_at hl 5 rfl) ?_
          refine lv_aload_n hx hb dX5_foresee_58 rfl (lv_at hl 1 rfl) ?_
          obtain ⟨w_668, hR_w_668, hL_w_668, hK_w_668⟩ := sh_o hSH 329 (ci := 10) (kd := 3) rfl hL_a0 hK_a0
          have hO_w_668 : w_668 = vo σ 3 a0 := vo_k (c := 10) hO_a0 hR_w_668
          refine pg_f (v := .ref w_668) (C := RX10) (T := TX10) (N := 13) hx hb hts (tw_i inlX10) hown hK hP hL_a0 hK_a0 (by decide +kernel) rfl 9 (by decide +kernel) (hts _ (tw_c tw_1448)) (pq_hv rfl hR_w_668) dX5_foresee_59 ?_
          refine lv_iconst (v := 2) hx hb dX5_foresee_62 (by decide +kernel) ?_
          refine lv_aload_n hx hb dX5_foresee_63 rfl (lv_at hl 1 rfl) ?_
          refine pg_f (v := .int (I_643 320 a0)) (C := RX10) (T := TX10) (N := 13) hx hb hts (tw_i inlX10) hown hK hP hL_a0 hK_a0 (by decide +kernel) rfl 0 (by decide +kernel) (hts _ (tw_c tw_1449)) rfl dX5_foresee_64 ?_
          have h_669 : rg (I_643 320 a0) 0 600 := GX.rI hG 320 rfl
          have uh_669 := h_669.1
          have vh_669 := h_669.2
          refine lv_aload_n hx hb dX5_foresee_67 rfl (lv_at hl 1 rfl) ?_
          refine pg_f (v := .ref w_1) (C := RX10) (T := TX10) (N := 13) hx hb hts (tw_i inlX10) hown hK hP hL_a0 hK_a0 (by decide +kernel) rfl 8 (by decide +kernel) (hts _ (tw_c tw_1446)) (pq_hv rfl hR_w_1) dX5_foresee_68 ?_
          refine lv_lload hx hb dX5_foresee_71 (lv_at hl 4 rfl) ?_
          refine pk_l (va_runV (As := [.int 2, .int (I_643 320 a0), .ref w_1, .long x_2]) (rest := [.int x_571, .ref w_667]) ⟨hx, hb, hml, hown, hts⟩ (s_X3_whoIsSo l D t σ I_643 J_644 ri_661 r_655 rq H.size tg hSH hG.1 w_668 (2 : Int32) (I_643 320 a0) w_1 x_2 hL_w_668 hK_w_668 hL_w_1 hK_w_1 a0 hL_a0 hK_a0 hO_w_668 hO_w_1) (cwV 4 hts (tw_V tw_1453 tw_964 tw_965 tw_49 tw_966) rfl rfl rfl cv_yX3_whoIsSo_4 ⟨Nat.le_of_ble_eq_true rfl, Nat.le_of_ble_eq_true rfl⟩) ⟨pq_blind, pq_recv hK hP hL_w_668 hK_w_668 (by decide +kernel) rfl, pq_pre hK hN hP hD⟩ rfl rfl hl.1 rfl (lv_room (Nat.le_of_ble_eq_true rfl)) dX5_foresee_73 ⟨Nat.le_of_ble_eq_true rfl, Nat.le_of_ble_eq_true rfl⟩) hD hS hA (fun x_670 σ1 μ1 H locs hw_671 hP hD hS => ?_)
          obtain ⟨ri_672, hu_673, hg_674, hfn_676, hfr_677⟩ := hw_671
          obtain ⟨hu_673a, hu_673b⟩ := Prod.mk.inj hu_673
          rw [hu_673a, hu_673b] at hP hD
          replace hFr := fr_tr hFr hfr_677
          have hG := GX.tr hG hg_674 (by decide +kernel)
          refine pt_l hx hb hK hP hD hS hL_w_667 hK_w_667 hN_w_667 (rg_in h_639 (by decide +kernel)) dX5_foresee_76 (fun r_678 H locs er_678 hP hD hS => ?_)
          replace hFr := fr_L5 hFr hT_w_667 (by decide +kernel) er_678
          have hG := GX.wJ hG hT_w_667 er_678 (by decide +kernel)
          refine lv_aload_n hx hb dX5_foresee_77 rfl (lv_at hl 1 rfl) ?_
          refine lv_dup hx hb dX5_foresee_78 rfl ?_
          refine pg_f (v := .int (I_643 320 a0)) (C := RX10) (T := TX10) (N := 13) hx hb hts (tw_i inlX10) hown hK hP hL_a0 hK_a0 (by decide +kernel) rfl 0 (by decide +kernel) (hts _ (tw_c tw_1449)) rfl dX5_foresee_79 ?_
          refine lv_iconst (v := 1) hx hb dX5_foresee_82 (by decide +kernel) ?_
          refine lv_iadd hx hb dX5_foresee_83 ?_
          refine lv_topi (fun x_679 ex_679 => ?_)
          have h_680 : rg x_679 1 601 := rg_of_eq ex_679 (rg_add h_669 (rg_k (1 : Int32) 1 rfl) (by decide +kernel))
          have uh_680 := h_680.1
          have vh_680 := h_680.2
          have tx_679 : (x_679).toInt = (I_643 320 a0).toInt + 1 := by rw [ex_679]; exact i_add_rg (a2 := (I_643 320 a0).toInt) (b2 := 1) rfl rfl h_669 (rg_k (1 : Int32) 1 rfl) (by decide +kernel)
          refine pp_i (v := x_679) (ty := .int) (C := RX10) (T := TX10) (N := 13) hx hb hts (tw_i inlX10) tyX10 tyX10_ok nmX10 hown hK hP hD hS hL_a0 hK_a0 (by decide +kernel) rfl 0 320 (by decide +kernel) (hts _ (tw_c tw_1449)) rfl (tyX10_ok 0 (by decide +kernel)) rfl rfl (Nat.le_of_ble_eq_true rfl) (ps_320 _ _ _ _ _) dX5_foresee_84 (fun I_681 H locs eI_681 hP hD hS => ?_)
          replace hFr := fr_I (f := 320) hFr hO_a0 (by decide +kernel) eI_681
          have h_682 : rg x_679 1 600 := ⟨by omega, by omega⟩
          have uh_682 := h_682.1
          have vh_682 := h_682.2
          have hG := GX.wI hG 320 rfl eI_681 (rg_w h_682 (by decide +kernel)) (by decide +kernel)
          have tt_683 : (I_681 320 a0).toInt = (x_679).toInt := by rw [eI_681, pq_us]
          obtain ⟨x_684, ex_684⟩ : ∃ y : Int32, y = x_571 + Int32.ofInt 1 := ⟨_, rfl⟩
          have h_685 : rg x_684 1 12 := rg_of_eq ex_684 (rg_add h_639 (rg_k (Int32.ofInt 1) 1 rfl) (by decide +kernel))
          have uh_685 := h_685.1
          have vh_685 := h_685.2
          have tx_684 : (x_684).toInt = (x_571).toInt + 1 := by rw [ex_684]; exact i_add_rg (a2 := (x_571).toInt) (b2 := 1) rfl rfl h_639 (rg_k (Int32.ofInt 1) 1 rfl) (by decide +kernel)
          refine lv_iinc (v := x_684) (lv' := [(6, .int x_684), (0, .ref this), (1, .ref a0), (2, .int a1), (3, .int a2), (4, .long x_2)]) hx hb dX5_foresee_87 hl (k := 5) rfl ex_684.symm (by decide +kernel) rfl (fun ls hl => ?_)
          refine lv_goto (tgt := 12) hx hb dX5_foresee_90 (by decide +kernel) ?_
          exact ih_631 x_684 I_681 J_644 ri_672 r_678 _ _ _ (rg_w h_685 (by decide +kernel)) (by omega) (ms_up 1 hm_628 ex_684 rfl (by decide +kernel) h_639 (by decide +kernel) (by decide +kernel)) hFr hG hP hD hS (lv_sub hl [1, 2, 3, 4, 5, 0] rfl)
    exact L_630 _ (0 : Int32) I J ri rj _ _ _ (rg_w (rg_k (0 : Int32) 0 rfl) (by decide +kernel)) (by have k0 : (0 : Int32).toInt = 0 := rfl; omega) (Nat.lt_succ_self _) hFr hG hP hD hS (lv_sub hl [2, 3, 4, 5, 1, 0] rfl)
  exact go _ _ _ hP hD hS hl

set_option maxHeartbeats 4000000 in
set_option maxRecDepth 100000 in
theorem s_X5_lineUp (l : Launch) (D : va_G) (t : pq_T) (σ : pq_S) (I : Nat → Nat → Int32) (J : Nat → Nat → Int64) (ri : Nat → Nat → Int32) (rj : Nat → Nat → Int64) (rq : Nat → Nat → Option Nat) (sz : Nat) (tg : Nat → Nat) (hSH : SH σ tg) (hG0 : GS tg σ I ri rq) (this : Nat) (a0 : Nat) (a1 : Int32) (hL_this : this ∈ σ.1) (hK_this : σ.2.1 this = 5) (hL_a0 : a0 ∈ σ.1) (hK_a0 : σ.2.1 a0 = 0) (h_a1 : rg a1 0 5) (M : Nat) (hL_M : M ∈ σ.1) (hK_M : σ.2.1 M = 10) : MetV l yX5_lineUp (wa yX5_lineUp cX5_lineUp 5 none) ({ frames := 0, cells := 0, slots := 0, locals := 0 }) [.ref this, .ref a0, .int a1] D t σ (I, J, ri, rj, rq) sz 0 0 (fun (u : pq_S × pq_M) => ∃ I' : Nat → Nat → Int32, ∃ ri' : Nat → Nat → Int32, u = (σ, I', J, ri', rj, rq) ∧ GX [] tg σ I ri rj I' ri' rj rq ∧ FR 10 tg σ M (I, J, ri, rj, rq) (I', J, ri', rj, rq)) := by
  refine Met.ofW (cc := cX5_lineUp) (maxL := 5) (ret := none) (by decide +kernel) rfl ?_
  intro p e s m args below meth c s₁ B hml hv
  obtain ⟨rfl, hsz, hP, hK, hD0, hN⟩ := hv
  have hx := B.exec
  have hb := B.bytes
  have hr := B.returns
  have hts := atoms_spec (ws := (wa yX5_lineUp cX5_lineUp 5 none)) B.pre
  have hown : s.vm.findClass RX5 = some m.cls := findClass_of_methodNamed B.named
  have hlocks := B.notSynchronized
  subst hsz
  have hD : va_D (pq_B t σ (I, J, ri, rj, rq) s.heap.size) (pq_P t σ (I, J, ri, rj, rq)) := hD0.self
  generalize hAe : pq_B t σ (I, J, ri, rj, rq) s.heap.size = A at hD ⊢
  have hA : ∀ q : Nat, s.heap.size ≤ q → A q := fun q h => by rw [← hAe]; exact Or.inr h
  have hS : va_S A s.heap s.heap [] := va_S.rf
  have hG : GX [] tg σ I ri rj I ri rj rq := ⟨hG0, fun _ _ _ => rfl, fun _ _ _ _ _ => rfl, fun _ _ _ _ _ => rfl⟩
  have hl := lv_entry ([.ref this, .ref a0, .int a1]) (n := 5) (Nat.le_of_ble_eq_true rfl)
  rw [lg_entry_eq]
  generalize (lg_sl ([.ref this, .ref a0, .int a1]) ++ List.replicate (5 - (lg_sl ([.ref this, .ref a0, .int a1])).length) Slot.unset).toArray = ls at hl ⊢
  have hl : lv_has ls 5 [(0, .ref this), (1, .ref a0), (2, .int a1)] := hl
  refine q_gen (fun Q hQ => ?_)
  have go : ∀ (H : Heap) (locs : List Loc) (ls : Array Slot), va_P D vwCl (pq_P t σ (I, J, ri, rj, rq)) H → va_D A (pq_P t σ (I, J, ri, rj, rq)) → va_S A s.heap H locs → lv_has ls 5 [(0, .ref this), (1, .ref a0), (2, .int a1)] → W p l e ({ frames := 0, cells := 0, slots := 0, locals := 0 } : Room) s m (List.toArray ([.ref this, .ref a0, .int a1] : List Value)) below meth c H locs 0 0 Q (F0 m 0 ls []) := by
    intro H locs ls hP hD hS hl
    have hVT : VT 10 σ tg M := vt_10 hSH hL_M hK_M
    have hFr : FR 10 tg σ M (I, J, ri, rj, rq) (I, J, ri, rj, rq) := fr_rf
    refine lv_aload_n hx hb dX5_lineUp_0 rfl (lv_at hl 0 rfl) ?_
    refine lv_iconst (v := 0) hx hb dX5_lineUp_1 (by decide +kernel) ?_
    refine pp_i (v := 0) (ty := .int) (C := RX5) (T := TX5) (N := 8) hx hb hts (tw_i inlX5) tyX5 tyX5_ok nmX5 hown hK hP hD hS hL_this hK_this (by decide +kernel) rfl 4 164 (by decide +kernel) (hts _ (tw_c tw_1464)) rfl (tyX5_ok 4 (by decide +kernel)) rfl rfl (Nat.le_of_ble_eq_true rfl) (ps_164 _ _ _ _ _) dX5_lineUp_2 (fun I_1 H locs eI_1 hP hD hS => ?_)
    replace hFr := fr_I5 (f := 164) hFr (by decide +kernel) eI_1
    have hG := GX.wI hG 164 rfl eI_1 (rg_w (rg_k (0 : Int32) 0 rfl) (by decide +kernel)) (by decide +kernel)
    refine lv_iconst (v := 0) hx hb dX5_lineUp_5 (by decide +kernel) ?_
    refine lv_istore_n (lv' := [(3, .int 0), (0, .ref this), (1, .ref a0), (2, .int a1)]) hx hb dX5_lineUp_6 rfl hl (by decide +kernel) rfl (fun ls hl => ?_)
    have L_3150 : ∀ (n_3149 : Nat) (x_2698 : Int32) (I_2699 : Nat → Nat → Int32) (ri_2700 : Nat → Nat → Int32) (H : Heap) (locs : List Loc) (ls : Array Slot), rg x_2698 0 5 → (5 - (x_2698).toInt).toNat < n_3149 → FR 10 tg σ M (I, J, ri, rj, rq) (I_2699, J, ri_2700, rj, rq) → GX [] tg σ I ri rj I_2699 ri_2700 rj rq → va_P D vwCl (pq_P t σ (I_2699, J, ri_2700, rj, rq)) H → va_D A (pq_P t σ (I_2699, J, ri_2700, rj, rq)) → va_S A s.heap H locs → lv_has ls 5 [(0, .ref this), (1, .ref a0), (2, .int a1), (3, .int x_2698)] → W p l e ({ frames := 0, cells := 0, slots := 0, locals := 0 } : Room) s m (List.toArray ([.ref this, .ref a0, .int a1] : List Value)) below meth c H locs 0 0 Q (F0 m 7 ls []) := by
      intro n_3149
      induction n_3149 with
      | zero => intro x_2698 I_2699 ri_2700 H locs ls h_3153 hm_3148 hFr hG hP hD hS hl; exact absurd hm_3148 (Nat.not_lt_zero _)
      | succ n_3149 ih_3151 =>
        intro x_2698 I_2699 ri_2700 H locs ls h_3153 hm_3148 hFr hG hP hD hS hl
        refine lv_iload_n hx hb dX5_lineUp_7 rfl (lv_at hl 3 rfl) ?_
        refine lv_iload_n hx hb dX5_lineUp_8 rfl (lv_at hl 2 rfl) ?_
        refine lv_icmp_ge (tgt := 82) hx hb dX5_lineUp_9 (by decide +kernel) (fun c_3154 => ?_) (fun c_3154 => ?_)
        · subst hQ
          exact W.vret hx hb hr (fun t1 ht hW => ⟨⟨(σ, I_2699, J, ri_2700, rj, rq), rfl, ⟨I_2699, ri_2700, rfl, hG, hFr⟩, by rw [ht]; exact hP, va_K.moved hW.alike hK, hD⟩, hS.F ht⟩) hS.2.2 dX5_lineUp_82
        · have h_3155 : rg x_2698 0 4 := rg_lt1 (nle c_3154) h_3153 h_a1 (by decide +kernel)
          have h_3156 : rg a1 1 5 := rg_lt2 (nle c_3154) h_3153 h_a1 (by decide +kernel)
          refine lv_iconst (v := 0) hx hb dX5_lineUp_12 (by decide +kernel) ?_
          refine lv_istore (lv' := [(4, .int 0), (0, .ref this), (1, .ref a0), (2, .int a1), (3, .int x_2698)]) hx hb dX5_lineUp_13 hl (by decide +kernel) rfl (fun ls hl => ?_)
          have L_3571 : ∀ (n_3570 : Nat) (x_3537 : Int32) (I_3538 : Nat → Nat → Int32) (ri_3539 : Nat → Nat → Int32) (H : Heap) (locs : List Loc) (ls : Array Slot), rg x_3537 0 40 → (40 - (x_3537).toInt).toNat < n_3570 → FR 10 tg σ M (I, J, ri, rj, rq) (I_3538, J, ri_3539, rj, rq) → GX [] tg σ I ri rj I_3538 ri_3539 rj rq → va_P D vwCl (pq_P t σ (I_3538, J, ri_3539, rj, rq)) H → va_D A (pq_P t σ (I_3538, J, ri_3539, rj, rq)) → va_S A s.heap H locs → lv_has ls 5 [(0, .ref this), (1, .ref a0), (2, .int a1), (3, .int x_2698), (4, .int x_3537)] → W p l e ({ frames := 0, cells := 0, slots := 0, locals := 0 } : Room) s m (List.toArray ([.ref this, .ref a0, .int a1] : List Value)) below meth c H locs 0 0 Q (F0 m 15 ls []) := by
            intro n_3570
            induction n_3570 with
            | zero => intro x_3537 I_3538 ri_3539 H locs ls h_3574 hm_3569 hFr hG hP hD hS hl; exact absurd hm_3569 (Nat.not_lt_zero _)
            | succ n_3570 ih_3572 =>
              intro x_3537 I_3538 ri_3539 H locs ls h_3574 hm_3569 hFr hG hP hD hS hl
              refine lv_iload hx hb dX5_lineUp_15 (lv_at hl 4 rfl) ?_
              refine lv_aload_n hx hb dX5_lineUp_17 rfl (lv_at hl 1 rfl) ?_
              refine pg_f (v := .int (I_3538 0 a0)) (C := RX0) (T := TX0) (N := 16) hx hb hts (tw_i inlX0) hown hK hP hL_a0 hK_a0 (by decide +kernel) rfl 0 (by decide +kernel) (hts _ (tw_c tw_1470)) rfl dX5_lineUp_18 ?_
              have h_3575 : rg (I_3538 0 a0) 0 40 := GX.rI hG 0 rfl
              have K_3603 : ∀  (H : Heap) (locs : List Loc) (ls : Array Slot), FR 10 tg σ M (I, J, ri, rj, rq) (I_3538, J, ri_3539, rj, rq) → GX [] tg σ I ri rj I_3538 ri_3539 rj rq → va_P D vwCl (pq_P t σ (I_3538, J, ri_3539, rj, rq)) H → va_D A (pq_P t σ (I_3538, J, ri_3539, rj, rq)) → va_S A s.heap H locs → lv_has ls 5 [(0, .ref this), (1, .ref a0), (2, .int a1), (3, .int x_2698)] → W p l e ({ frames := 0, cells := 0, slots := 0, locals := 0 } : Room) s m (List.toArray ([.ref this, .ref a0, .int a1] : List Value)) below meth c H locs 0 0 Q (F0 m 76 ls []) := by
                intro H locs ls hFr hG hP hD hS hl
                obtain ⟨x_3604, ex_3604⟩ : ∃ y : Int32, y = x_2698 + Int32.ofInt 1 := ⟨_, rfl⟩
                have h_3605 : rg x_3604 1 5 := rg_of_eq ex_3604 (rg_add h_3155 (rg_k (Int32.ofInt 1) 1 rfl) (by decide +kernel))
                refine lv_iinc (v := x_3604) (lv' := [(3, .int x_3604), (0, .ref this), (1, .ref a0), (2, .int a1)]) hx hb dX5_lineUp_76 hl (k := 3) rfl ex_3604.symm (by decide +kernel) rfl (fun ls hl => ?_)
                refine lv_goto (tgt := 7) hx hb dX5_lineUp_79 (by decide +kernel) ?_
                exact ih_3151 x_3604 I_3538 ri_3539 _ _ _ (rg_w h_3605 (by decide +kernel)) (ms_up 1 hm_3148 ex_3604 rfl (by decide +kernel) h_3155 (by decide +kernel) (by decide +kernel)) hFr hG hP hD hS (lv_sub hl [1, 2, 3, 0] rfl)
              refine lv_icmp_ge (tgt := 76) hx hb dX5_lineUp_21 (by decide +kernel) (fun c_3606 => ?_) (fun c_3606 => ?_)
              · exact K_3603 _ _ _ hFr hG hP hD hS (lv_sub hl [0, 1, 2, 3] rfl)
              · have h_3607 : rg x_3537 0 39 := rg_lt1 (nle c_3606) h_3574 h_3575 (by decide +kernel)
                have h_3608 : rg (I_3538 0 a0) 1 40 := rg_lt2 (nle c_3606) h_3574 h_3575 (by decide +kernel)
                refine lv_aload_n hx hb dX5_lineUp_24 rfl (lv_at hl 0 rfl) ?_
                refine pg_f (v := .int (I_3538 164 this)) (C := RX5) (T := TX5) (N := 8) hx hb hts (tw_i inlX5) hown hK hP hL_this hK_this (by decide +kernel) rfl 4 (by decide +kernel) (hts _ (tw_c tw_1464)) rfl dX5_lineUp_25 ?_
                have h_3609 : rg (I_3538 164 this) 0 40 := GX.rI hG 164 rfl
                refine lv_bipush (v := 40) hx hb dX5_lineUp_28 (by decide +kernel) ?_
                refine lv_icmp_ge (tgt := 76) hx hb dX5_lineUp_30 (by decide +kernel) (fun c_3610 => ?_) (fun c_3610 => ?_)
                · have h_3611 : rg (I_3538 164 this) 40 40 := rg_le2 c_3610 (rg_k (40 : Int32) 40 rfl) h_3609 (by decide +kernel)
                  exact K_3603 _ _ _ hFr hG hP hD hS (lv_sub hl [0, 1, 2, 3] rfl)
                · have h_3612 : rg (I_3538 164 this) 0 39 := rg_lt1 (nle c_3610) h_3609 (rg_k (40 : Int32) 40 rfl) (by decide +kernel)
                  refine lv_aload_n hx hb dX5_lineUp_33 rfl (lv_at hl 1 rfl) ?_
                  obtain ⟨w_3613, hR_w_3613, hL_w_3613, hK_w_3613, hN_w_3613, hT_w_3613⟩ := sh_a hSH 5 (ci := 0) (kd := 13) (len := 40) rfl (by decide +kernel) hL_a0 hK_a0
                  refine pg_f (v := .ref w_3613) (C := RX0) (T := TX0) (N := 16) hx hb hts (tw_i inlX0) hown hK hP hL_a0 hK_a0 (by decide +kernel) rfl 5 (by decide +kernel) (hts _ (tw_c tw_1459)) (pq_hv rfl hR_w_3613) dX5_lineUp_34 ?_
                  refine lv_iload hx hb dX5_lineUp_37 (lv_at hl 4 rfl) ?_
                  refine pl_i hx hb hK hP hL_w_3613 hK_w_3613 hN_w_3613 (rg_in h_3607 (by decide +kernel)) dX5_lineUp_39 ?_
                  refine lv_topi (fun x_3614 ex_3614 => ?_)
                  have h_3615 : rg x_3614 0 300 := rg_of_eq ex_3614 (GX.rR hG hT_w_3613 rfl)
                  refine lv_aload_n hx hb dX5_lineUp_40 rfl (lv_at hl 0 rfl) ?_
                  obtain ⟨w_3616, hR_w_3616, hL_w_3616, hK_w_3616, hN_w_3616, hT_w_3616⟩ := sh_a hSH 162 (ci := 5) (kd := 13) (len := 5) rfl (by decide +kernel) hL_this hK_this
                  refine pg_f (v := .ref w_3616) (C := RX5) (T := TX5) (N := 8) hx hb hts (tw_i inlX5) hown hK hP hL_this hK_this (by decide +kernel) rfl 2 (by decide +kernel) (hts _ (tw_c tw_143)) (pq_hv rfl hR_w_3616) dX5_lineUp_41 ?_
                  refine lv_iload_n hx hb dX5_lineUp_44 rfl (lv_at hl 3 rfl) ?_
                  refine pl_i hx hb hK hP hL_w_3616 hK_w_3616 hN_w_3616 (rg_in h_3155 (by decide +kernel)) dX5_lineUp_45 ?_
                  refine lv_topi (fun x_3617 ex_3617 => ?_)
                  have h_3618 : rg x_3617 0 4 := rg_of_eq ex_3617 (GX.rR hG hT_w_3616 rfl)
                  have K_3631 : ∀  (I_3626 : Nat → Nat → Int32) (ri_3627 : Nat → Nat → Int32) (H : Heap) (locs : List Loc) (ls : Array Slot), rg (I_3626 0 a0) 1 40 → FR 10 tg σ M (I, J, ri, rj, rq) (I_3626, J, ri_3627, rj, rq) → GX [] tg σ I ri rj I_3626 ri_3627 rj rq → va_P D vwCl (pq_P t σ (I_3626, J, ri_3627, rj, rq)) H → va_D A (pq_P t σ (I_3626, J, ri_3627, rj, rq)) → va_S A s.heap H locs → lv_has ls 5 [(0, .ref this), (1, .ref a0), (2, .int a1), (3, .int x_2698), (4, .int x_3537)] → W p l e ({ frames := 0, cells := 0, slots := 0, locals := 0 } : Room) s m (List.toArray ([.ref this, .ref a0, .int a1] : List Value)) below meth c H locs 0 0 Q (F0 m 70 ls []) := by
                    intro I_3626 ri_3627 H locs ls h_3633 hFr hG hP hD hS hl
                    obtain ⟨x_3634, ex_3634⟩ : ∃ y : Int32, y = x_3537 + Int32.ofInt 1 := ⟨_, rfl⟩
                    have h_3635 : rg x_3634 1 40 := rg_of_eq ex_3634 (rg_add h_3607 (rg_k (Int32.ofInt 1) 1 rfl) (by decide +kernel))
                    refine lv_iinc (v := x_3634) (lv' := [(4, .int x_3634), (0, .ref this), (1, .ref a0), (2, .int a1), (3, .int x_2698)]) hx hb dX5_lineUp_70 hl (k := 4) rfl ex_3634.symm (by decide +kernel) rfl (fun ls hl => ?_)
                    refine lv_goto (tgt := 15) hx hb dX5_lineUp_73 (by decide +kernel) ?_
                    exact ih_3572 x_3634 I_3626 ri_3627 _ _ _ (rg_w h_3635 (by decide +kernel)) (ms_up 1 hm_3569 ex_3634 rfl (by decide +kernel) h_3607 (by decide +kernel) (by decide +kernel)) hFr hG hP hD hS (lv_sub hl [1, 2, 3, 4, 0] rfl)
                  refine lv_icmp_ne (tgt := 70) hx hb dX5_lineUp_46 (by decide +kernel) (fun c_3636 => ?_) (fun c_3636 => ?_)
                  · exact K_3631 I_3538 ri_3539 _ _ _ (rg_w h_3608 (by decide +kernel)) hFr hG hP hD hS (lv_sub hl [0, 1, 2, 3, 4] rfl)
                  · have h_3637 : rg x_3614 0 4 := rg_and h_3615 (rg_of_eq c_3636 h_3618) (by decide +kernel)
                    refine lv_aload_n hx hb dX5_lineUp_49 rfl (lv_at hl 0 rfl) ?_
                    obtain ⟨w_3638, hR_w_3638, hL_w_3638, hK_w_3638, hN_w_3638, hT_w_3638⟩ := sh_a hSH 163 (ci := 5) (kd := 13) (len := 40) rfl (by decide +kernel) hL_this hK_this
                    refine pg_f (v := .ref w_3638) (C := RX5) (T := TX5) (N := 8) hx hb hts (tw_i inlX5) hown hK hP hL_this hK_this (by decide +kernel) rfl 3 (by decide +kernel) (hts _ (tw_c tw_144)) (pq_hv rfl hR_w_3638) dX5_lineUp_50 ?_
                    refine lv_aload_n hx hb dX5_lineUp_53 rfl (lv_at hl 0 rfl) ?_
                    refine pg_f (v := .int (I_3538 164 this)) (C := RX5) (T := TX5) (N := 8) hx hb hts (tw_i inlX5) hown hK hP hL_this hK_this (by decide +kernel) rfl 4 (by decide +kernel) (hts _ (tw_c tw_1464)) rfl dX5_lineUp_54 ?_
                    refine lv_iload hx hb dX5_lineUp_57 (lv_at hl 4 rfl) ?_
                    refine pt_i hx hb hK hP hD hS hL_w_3638 hK_w_3638 hN_w_3638 (rg_in h_3612 (by decide +kernel)) dX5_lineUp_59 (fun r_3639 H locs er_3639 hP hD hS => ?_)
                    replace hFr := fr_R5 hFr hT_w_3638 (by decide +kernel) er_3639
                    have hG := GX.wR hG hSH hT_w_3638 rfl er_3639 (rg_w h_3607 (by decide +kernel)) (by decide +kernel)
                    refine lv_aload_n hx hb dX5_lineUp_60 rfl (lv_at hl 0 rfl) ?_
                    refine lv_dup hx hb dX5_lineUp_61 rfl ?_
                    refine pg_f (v := .int (I_3538 164 this)) (C := RX5) (T := TX5) (N := 8) hx hb hts (tw_i inlX5) hown hK hP hL_this hK_this (by decide +kernel) rfl 4 (by decide +kernel) (hts _ (tw_c tw_1464)) rfl dX5_lineUp_62 ?_
                    refine lv_iconst (v := 1) hx hb dX5_lineUp_65 (by decide +kernel) ?_
                    refine lv_iadd hx hb dX5_lineUp_66 ?_
                    refine lv_topi (fun x_3640 ex_3640 => ?_)
                    have h_3641 : rg x_3640 1 40 := rg_of_eq ex_3640 (rg_add h_3612 (rg_k (1 : Int32) 1 rfl) (by decide +kernel))
                    refine pp_i (v := x_3640) (ty := .int) (C := RX5) (T := TX5) (N := 8) hx hb hts (tw_i inlX5) tyX5 tyX5_ok nmX5 hown hK hP hD hS hL_this hK_this (by decide +kernel) rfl 4 164 (by decide +kernel) (hts _ (tw_c tw_1464)) rfl (tyX5_ok 4 (by decide +kernel)) rfl rfl (Nat.le_of_ble_eq_true rfl) (ps_164 _ _ _ _ _) dX5_lineUp_67 (fun I_3642 H locs eI_3642 hP hD hS => ?_)
                    replace hFr := fr_I5 (f := 164) hFr (by decide +kernel) eI_3642
                    have hG := GX.wI hG 164 rfl eI_3642 (rg_w h_3641 (by decide +kernel)) (by decide +kernel)
                    exact K_3631 I_3642 r_3639 _ _ _ (rg_w (by rw [eI_3642, pq_uf _ _ _ (by decide +kernel)]; exact h_3608) (by decide +kernel)) hFr hG hP hD hS (lv_sub hl [0, 1, 2, 3, 4] rfl)
          exact L_3571 _ (0 : Int32) I_2699 ri_2700 _ _ _ (rg_w (rg_k (0 : Int32) 0 rfl) (by decide +kernel)) (Nat.lt_succ_self _) hFr hG hP hD hS (lv_sub hl [1, 2, 3, 4, 0] rfl)
    exact L_3150 _ (0 : Int32) I_1 ri _ _ _ (rg_w (rg_k (0 : Int32) 0 rfl) (by decide +kernel)) (Nat.lt_succ_self _) hFr hG hP hD hS (lv_sub hl [1, 2, 3, 0] rfl)
  exact go _ _ _ hP hD hS hl

set_option maxRecDepth 100000 in
def g_X9_fillUp_K106 (x_622 : Int32) (k_g_X9_fillUp_L3 : (Int32) → (Nat → Nat → Int32) → vM) (ri_728 : Nat → Nat → Int32) : vM := (ap1 (x_622 + Int32.ofInt 1) fun (x_732 : Int32) => (k_g_X9_fillUp_L3 x_732 ri_728))
set_option maxRecDepth 100000 in
theorem g_X9_fillUp_K106_e {x_622 : Int32} {k_g_X9_fillUp_L3 : (Int32) → (Nat → Nat → Int32) → vM} {ri_728 : Nat → Nat → Int32} : g_X9_fillUp_K106 x_622 k_g_X9_fillUp_L3 ri_728 = (ap1 (x_622 + Int32.ofInt 1) fun (x_732 : Int32) => (k_g_X9_fillUp_L3 x_732 ri_728)) := rfl
set_option maxRecDepth 100000 in
def g_X9_fillUp_L3 (a0 : Int32) (a1 : Int64) (a2 : Int32) (I : Nat → Int32) (J : Nat → Int64) (rj : Nat → Nat → Int64) (rq : Nat → Nat → Option Nat) : Nat → (Int32) → (Nat → Nat → Int32) → vM
  | 0, x_622, ri_623 => (I, J, ri_623, rj, rq)
  | n_675 + 1, x_622, ri_623 => (if a0 ≤ x_622 then (I, J, ri_623, rj, rq) else (bnI (g_X9_isAt x_622 I J ri_623 rj rq) fun (x_685 : Int32) (_ : Nat → Int32) (_ : Nat → Int64) (_ : Nat → Nat → Int32) (_ : Nat → Nat → Int64) (_ : Nat → Nat → Option Nat) => (if x_685 = (0 : Int32) then (g_X9_fillUp_K106 x_622 (g_X9_fillUp_L3 a0 a1 a2 I J rj rq n_675) ri_623) else (ap1 (g_X11_hasBit a1 x_622) fun (x_738 : Int32) => (if x_738 = (0 : Int32) then (ap1 (ri_623 290 (x_622).toNatClampNeg) fun (x_751 : Int32) => (ap1 (x_751 + (10 : Int32)) fun (x_752 : Int32) => (ap1 (if x_752 < (100 : Int32) then x_752 else (100 : Int32)) fun (x_753 : Int32) => (ap1 (va_up ri_623 290 (upd (ri_623 290) (x_622).toNatClampNeg x_753)) fun (r_755 : Nat → Nat → Int32) => (g_X9_fillUp_K106 x_622 (g_X9_fillUp_L3 a0 a1 a2 I J rj rq n_675) r_755))))) else (ap1 (ri_623 289 (x_622).toNatClampNeg) fun (x_758 : Int32) => (ap1 (ri_623 288 (x_622).toNatClampNeg) fun (x_760 : Int32) => (ap1 (a2 * x_760) fun (x_761 : Int32) => (ap1 (x_758 + x_761) fun (x_762 : Int32) => (ap1 (if x_762 < (10000 : Int32) then x_762 else (10000 : Int32)) fun (x_763 : Int32) => (ap1 (va_up ri_623 289 (upd (ri_623 289) (x_622).toNatClampNeg x_763)) fun (r_765 : Nat → Nat → Int32) => (ap1 (r_765 290 (x_622).toNatClampNeg) fun (x_767 : Int32) => (ap1 (x_767 - (1 : Int32)) fun (x_768 : Int32) => (ap1 (if (0 : Int32) < x_768 then x_768 else (0 : Int32)) fun (x_769 : Int32) => (ap1 (va_up r_765 290 (upd (r_765 290) (x_622).toNatClampNeg x_769)) fun (r_771 : Nat → Nat → Int32) => (g_X9_fillUp_K106 x_622 (g_X9_fillUp_L3 a0 a1 a2 I J rj rq n_675) r_771))))))))))))))))
set_option maxRecDepth 100000 in
theorem g_X9_fillUp_L3_e {a0 : Int32} {a1 : Int64} {a2 : Int32} {I : Nat → Int32} {J : Nat → Int64} {rj : Nat → Nat → Int64} {rq : Nat → Nat → Option Nat} {n_675 : Nat} {x_622 : Int32} {ri_623 : Nat → Nat → Int32} : g_X9_fillUp_L3 a0 a1 a2 I J rj rq (n_675 + 1) x_622 ri_623 = (if a0 ≤ x_622 then (I, J, ri_623, rj, rq) else (bnI (g_X9_isAt x_622 I J ri_623 rj rq) fun (x_685 : Int32) (_ : Nat → Int32) (_ : Nat → Int64) (_ : Nat → Nat → Int32) (_ : Nat → Nat → Int64) (_ : Nat → Nat → Option Nat) => (if x_685 = (0 : Int32) then (g_X9_fillUp_K106 x_622 (g_X9_fillUp_L3 a0 a1 a2 I J rj rq n_675) ri_623) else (ap1 (g_X11_hasBit a1 x_622) fun (x_738 : Int32) => (if x_738 = (0 : Int32) then (ap1 (ri_623 290 (x_622).toNatClampNeg) fun (x_751 : Int32) => (ap1 (x_751 + (10 : Int32)) fun (x_752 : Int32) => (ap1 (if x_752 < (100 : Int32) then x_752 else (100 : Int32)) fun (x_753 : Int32) => (ap1 (va_up ri_623 290 (upd (ri_623 290) (x_622).toNatClampNeg x_753)) fun (r_755 : Nat → Nat → Int32) => (g_X9_fillUp_K106 x_622 (g_X9_fillUp_L3 a0 a1 a2 I J rj rq n_675) r_755))))) else (ap1 (ri_623 289 (x_622).toNatClampNeg) fun (x_758 : Int32) => (ap1 (ri_623 288 (x_622).toNatClampNeg) fun (x_760 : Int32) => (ap1 (a2 * x_760) fun (x_761 : Int32) => (ap1 (x_758 + x_761) fun (x_762 : Int32) => (ap1 (if x_762 < (10000 : Int32) then x_762 else (10000 : Int32)) fun (x_763 : Int32) => (ap1 (va_up ri_623 289 (upd (ri_623 289) (x_622).toNatClampNeg x_763)) fun (r_765 : Nat → Nat → Int32) => (ap1 (r_765 290 (x_622).toNatClampNeg) fun (x_767 : Int32) => (ap1 (x_767 - (1 : Int32)) fun (x_768 : Int32) => (ap1 (if (0 : Int32) < x_768 then x_768 else (0 : Int32)) fun (x_769 : Int32) => (ap1 (va_up r_765 290 (upd (r_765 290) (x_622).toNatClampNeg x_769)) fun (r_771 : Nat → Nat → Int32) => (g_X9_fillUp_K106 x_622 (g_X9_fillUp_L3 a0 a1 a2 I J rj rq n_675) r_771)))))))))))))))) := rfl
set_option maxRecDepth 100000 in
def g_X9_fillUp (a0 : Int32) (a1 : Int64) (a2 : Int32) (I : Nat → Int32) (J : Nat → Int64) (ri : Nat → Nat → Int32) (rj : Nat → Nat → Int64) (rq : Nat → Nat → Option Nat) : vM := (g_X9_fillUp_L3 a0 a1 a2 I J rj rq ((40 - ((0 : Int32)).toInt).toNat + 1) (0 : Int32) ri)
set_option maxRecDepth 100000 in
theorem g_X9_fillUp_e {a0 : Int32} {a1 : Int64} {a2 : Int32} {I : Nat → Int32} {J : Nat → Int64} {ri : Nat → Nat → Int32} {rj : Nat → Nat → Int64} {rq : Nat → Nat → Option Nat} : g_X9_fillUp a0 a1 a2 I J ri rj rq = (g_X9_fillUp_L3 a0 a1 a2 I J rj rq ((40 - ((0 : Int32)).toInt).toNat + 1) (0 : Int32) ri) := rfl
set_option maxHeartbeats 4000000 in
set_option maxRecDepth 100000 in
theorem s_X9_fillUp (l : Launch) (D : va_G) (t : pq_T) (σ : pq_S) (I : Nat → Nat → Int32) (J : Nat → Nat → Int64) (ri : Nat → Nat → Int32) (rj : Nat → Nat → Int64) (rq : Nat → Nat → Option Nat) (sz : Nat) (tg : Nat → Nat) (hSH : SH σ tg) (hG0 : GS tg σ I ri rq) (this : Nat) (a0 : Int32) (a1 : Int64) (a2 : Int32) (hL_this : this ∈ σ.1) (hK_this : σ.2.1 this = 9) (h_a0 : rg a0 0 40) (M : Nat) (hL_M : M ∈ σ.1) (hK_M : σ.2.1 M = 10) (hO_this : this = vo σ 9 M) : MetV l yX9_fillUp (wa yX9_fillUp cX9_fillUp 6 none) ({ frames := 1, cells := 0, slots := 0, locals := 40 }) [.ref this, .int a0, .long a1, .int a2] D t σ (I, J, ri, rj, rq) sz 0 0 (fun (u : pq_S × pq_M) => ∃ ri' : Nat → Nat → Int32, u = (σ, I, J, ri', rj, rq) ∧ GX [] tg σ I ri rj I ri' rj rq ∧ g_X9_fillUp a0 a1 a2 (vI 10 σ M I) (vJ 10 σ M J) (vR 10 σ M ri) (vL 10 σ M rj) (vQ 10 σ M rq) = ((vI 10 σ M I), (vJ 10 σ M J), (vR 10 σ M ri'), (vL 10 σ M rj), (vQ 10 σ M rq)) ∧ FR 10 tg σ M (I, J, ri, rj, rq) (I, J, ri', rj, rq)) := by
  refine Met.ofW (cc := cX9_fillUp) (maxL := 6) (ret := none) (by decide +kernel) rfl ?_
  intro p e s m args below meth c s₁ B hml hv
  obtain ⟨rfl, hsz, hP, hK, hD0, hN⟩ := hv
  have hx := B.exec
  have hb := B.bytes
  have hr := B.returns
  have hts := atoms_spec (ws := (wa yX9_fillUp cX9_fillUp 6 none)) B.pre
  have hown : s.vm.findClass RX9 = some m.cls := findClass_of_methodNamed B.named
  have hlocks := B.notSynchronized
  subst hsz
  have hD : va_D (pq_B t σ (I, J, ri, rj, rq) s.heap.size) (pq_P t σ (I, J, ri, rj, rq)) := hD0.self
  generalize hAe : pq_B t σ (I, J, ri, rj, rq) s.heap.size = A at hD ⊢
  have hA : ∀ q : Nat, s.heap.size ≤ q → A q := fun q h => by rw [← hAe]; exact Or.inr h
  have hS : va_S A s.heap s.heap [] := va_S.rf
  have hG : GX [] tg σ I ri rj I ri rj rq := ⟨hG0, fun _ _ _ => rfl, fun _ _ _ _ _ => rfl, fun _ _ _ _ _ => rfl⟩
  have hl := lv_entry ([.ref this, .int a0, .long a1, .int a2]) (n := 6) (Nat.le_of_ble_eq_true rfl)
  rw [lg_entry_eq]
  generalize (lg_sl ([.ref this, .int a0, .long a1, .int a2]) ++ List.replicate (6 - (lg_sl ([.ref this, .int a0, .long a1, .int a2])).length) Slot.unset).toArray = ls at hl ⊢
  have hl : lv_has ls 6 [(0, .ref this), (1, .int a0), (2, .long a1), (4, .int a2)] := hl
  refine q_gen (fun Q hQ => ?_)
  have go : ∀ (H : Heap) (locs : List Loc) (ls : Array Slot), va_P D vwCl (pq_P t σ (I, J, ri, rj, rq)) H → va_D A (pq_P t σ (I, J, ri, rj, rq)) → va_S A s.heap H locs → lv_has ls 6 [(0, .ref this), (1, .int a0), (2, .long a1), (4, .int a2)] → W p l e ({ frames := 1, cells := 0, slots := 0, locals := 40 } : Room) s m (List.toArray ([.ref this, .int a0, .long a1, .int a2] : List Value)) below meth c H locs 0 0 Q (F0 m 0 ls []) := by
    intro H locs ls hP hD hS hl
    have hVT : VT 10 σ tg M := vt_10 hSH hL_M hK_M
    have hFr : FR 10 tg σ M (I, J, ri, rj, rq) (I, J, ri, rj, rq) := fr_rf
    obtain ⟨F, hF0⟩ : ∃ F, F = g_X9_fillUp a0 a1 a2 (vI 10 σ M I) (vJ 10 σ M J) (vR 10 σ M ri) (vL 10 σ M rj) (vQ 10 σ M rq) := ⟨_, rfl⟩
    have hF := hF0.trans g_X9_fillUp_e
    refine lv_iconst (v := 0) hx hb dX9_fillUp_0 (by decide +kernel) ?_
    refine lv_istore (lv' := [(5, .int 0), (0, .ref this), (1, .int a0), (2, .long a1), (4, .int a2)]) hx hb dX9_fillUp_1 hl (by decide +kernel) rfl (fun ls hl => ?_)
    have L_676 : ∀ (n_675 : Nat) (x_622 : Int32) (ri_623 : Nat → Nat → Int32) (H : Heap) (locs : List Loc) (ls : Array Slot), rg x_622 0 40 → (40 - (x_622).toInt).toNat < n_675 → F = g_X9_fillUp_L3 a0 a1 a2 (vI 10 σ M I) (vJ 10 σ M J) (vL 10 σ M rj) (vQ 10 σ M rq) n_675 x_622 (vR 10 σ M ri_623) → FR 10 tg σ M (I, J, ri, rj, rq) (I, J, ri_623, rj, rq) → GX [] tg σ I ri rj I ri_623 rj rq → va_P D vwCl (pq_P t σ (I, J, ri_623, rj, rq)) H → va_D A (pq_P t σ (I, J, ri_623, rj, rq)) → va_S A s.heap H locs → lv_has ls 6 [(0, .ref this), (1, .int a0), (2, .long a1), (4, .int a2), (5, .int x_622)] → W p l e ({ frames := 1, cells := 0, slots := 0, locals := 40 } : Room) s m (List.toArray ([.ref this, .int a0, .long a1, .int a2] : List Value)) below meth c H locs 0 0 Q (F0 m 3 ls []) := by
      intro n_675
      induction n_675 with
      | zero => intro x_622 ri_623 H locs ls h_679 hm_674 hF hFr hG hP hD hS hl; exact absurd hm_674 (Nat.not_lt_zero _)
      | succ n_675 ih_677 =>
        intro x_622 ri_623 H locs ls h_679 hm_674 hF hFr hG hP hD hS hl
        replace hF := hF.trans g_X9_fillUp_L3_e
        refine lv_iload hx hb dX9_fillUp_3 (lv_at hl 4 rfl) ?_
        refine lv_iload_n hx hb dX9_fillUp_5 rfl (lv_at hl 1 rfl) ?_
        refine lv_icmp_ge (tgt := 112) hx hb dX9_fillUp_6 (by decide +kernel) (fun c_680 => ?_) (fun c_680 => ?_)
        · replace hF := hF.trans (if_pos c_680)
          subst hQ
          exact W.vret hx hb hr (fun t1 ht hW => ⟨⟨(σ, I, J, ri_623, rj, rq), rfl, ⟨ri_623, rfl, hG, (hF0.symm.trans hF), hFr⟩, by rw [ht]; exact hP, va_K.moved hW.alike hK, hD⟩, hS.F ht⟩) hS.2.2 dX9_fillUp_112
        · replace hF := hF.trans (if_neg c_680)
          have h_683 : rg x_622 0 39 := rg_lt1 (nle c_680) h_679 h_a0 (by decide +kernel)
          have h_684 : rg a0 1 40 := rg_lt2 (nle c_680) h_679 h_a0 (by decide +kernel)
          refine lv_aload_n hx hb dX9_fillUp_9 rfl (lv_at hl 0 rfl) ?_
          refine lv_iload hx hb dX9_fillUp_10 (lv_at hl 4 rfl) ?_
          refine pk_i (va_runV (As := [.int x_622]) (rest := []) ⟨hx, hb, hml, hown, hts⟩ (s_X9_isAt l D t σ I J ri_623 rj rq H.size tg hSH hG.1 this x_622 hL_this hK_this (rg_w h_683 (by decide +kernel)) M hL_M hK_M hO_this) (cwV 1 hts (tw_V tw_1089 tw_350 tw_351 tw_94 tw_352) rfl rfl rfl cv_yX9_isAt_1 ⟨Nat.le_of_ble_eq_true rfl, Nat.le_of_ble_eq_true rfl⟩) ⟨pq_blind, pq_recv hK hP hL_this hK_this (by decide +kernel) rfl, pq_pre hK hN hP hD⟩ rfl rfl hl.1 rfl (lv_room (Nat.le_of_ble_eq_true rfl)) dX9_fillUp_12 ⟨Nat.le_of_ble_eq_true rfl, Nat.le_of_ble_eq_true rfl⟩) hD hS hA (fun x_685 σ1 μ1 H locs hw_686 hP hD hS => ?_)
          obtain ⟨hu_687, hfn_690, hr_689⟩ := hw_686
          obtain ⟨hu_687a, hu_687b⟩ := Prod.mk.inj hu_687
          rw [hu_687a, hu_687b] at hP hD
          replace hF := hF.trans (bn_n hfn_690)
          have h_692 : rg x_685 0 1 := by rcases hr_689 with ⟨q, -⟩ | ⟨q, -⟩ <;> rw [q] <;> exact ⟨by decide +kernel, by decide +kernel⟩
          have K_731 : ∀  (ri_728 : Nat → Nat → Int32) (H : Heap) (locs : List Loc) (ls : Array Slot), F = g_X9_fillUp_K106 x_622 (g_X9_fillUp_L3 a0 a1 a2 (vI 10 σ M I) (vJ 10 σ M J) (vL 10 σ M rj) (vQ 10 σ M rq) n_675) (vR 10 σ M ri_728) → FR 10 tg σ M (I, J, ri, rj, rq) (I, J, ri_728, rj, rq) → GX [] tg σ I ri rj I ri_728 rj rq → va_P D vwCl (pq_P t σ (I, J, ri_728, rj, rq)) H → va_D A (pq_P t σ (I, J, ri_728, rj, rq)) → va_S A s.heap H locs → lv_has ls 6 [(0, .ref this), (1, .int a0), (2, .long a1), (4, .int a2), (5, .int x_622)] → W p l e ({ frames := 1, cells := 0, slots := 0, locals := 40 } : Room) s m (List.toArray ([.ref this, .int a0, .long a1, .int a2] : List Value)) below meth c H locs 0 0 Q (F0 m 106 ls []) := by
            intro ri_728 H locs ls hF hFr hG hP hD hS hl
            replace hF := hF.trans g_X9_fillUp_K106_e
            obtain ⟨x_732, ex_732⟩ : ∃ y : Int32, y = x_622 + Int32.ofInt 1 := ⟨_, rfl⟩
            replace hF := hF.trans (ap_n ex_732)
            have h_733 : rg x_732 1 40 := rg_of_eq ex_732 (rg_add h_683 (rg_k (Int32.ofInt 1) 1 rfl) (by decide +kernel))
            refine lv_iinc (v := x_732) (lv' := [(5, .int x_732), (0, .ref this), (1, .int a0), (2, .long a1), (4, .int a2)]) hx hb dX9_fillUp_106 hl (k := 4) rfl ex_732.symm (by decide +kernel) rfl (fun ls hl => ?_)
            refine lv_goto (tgt := 3) hx hb dX9_fillUp_109 (by decide +kernel) ?_
            exact ih_677 x_732 ri_728 _ _ _ (rg_w h_733 (by decide +kernel)) (ms_up 1 hm_674 ex_732 rfl (by decide +kernel) h_683 (by decide +kernel) (by decide +kernel)) hF hFr hG hP hD hS (lv_sub hl [1, 2, 3, 4, 0] rfl)
          refine lv_if_ne (tgt := 21) hx hb dX9_fillUp_15 (by decide +kernel) (fun c_734 => ?_) (fun c_734 => ?_)
          · replace hF := hF.trans (if_neg c_734)
            have h_737 : rg x_685 1 1 := rg_ne c_734 h_692 0 rfl (by decide +kernel)
            refine lv_lload_n hx hb dX9_fillUp_21 rfl (lv_at hl 2 rfl) ?_
            refine lv_iload hx hb dX9_fillUp_22 (lv_at hl 4 rfl) ?_
            refine pk_i (va_runSN (As := [.long a1, .int x_622]) (rest := []) ⟨hx, hb, hml, hown, hts⟩ (s_X11_hasBit l D t σ I J ri_623 rj rq H.size tg hSH hG.1 a1 x_622) ⟨va_cnB (host := "RingsUnder") 2 hts (tw_W tw_560) rfl rfl rfl (nl_14 hN) (hts _ (tw_c tw_2)) cd_yX11_hasBit_2 ⟨Nat.le_of_ble_eq_true rfl, Nat.le_of_ble_eq_true rfl⟩, hts (.static yX11_hasBit) (tw_c tq_static_yX11_hasBit), trivial⟩ ⟨pq_blind, pq_pre hK hN hP hD⟩ rfl rfl hl.1 rfl (lv_room (Nat.le_of_ble_eq_true rfl)) dX9_fillUp_24 ⟨Nat.le_of_ble_eq_true rfl, Nat.le_of_ble_eq_true rfl⟩) hD hS hA (fun x_738 σ1 μ1 H locs hw_739 hP hD hS => ?_)
            obtain ⟨hu_740, hfn_743, hr_742⟩ := hw_739
            obtain ⟨hu_740a, hu_740b⟩ := Prod.mk.inj hu_740
            rw [hu_740a, hu_740b] at hP hD
            replace hF := hF.trans (ap_n hfn_743.symm)
            have h_745 : rg x_738 0 1 := by rcases hr_742 with ⟨q, -⟩ | ⟨q, -⟩ <;> rw [q] <;> exact ⟨by decide +kernel, by decide +kernel⟩
            refine lv_if_eq (tgt := 84) hx hb dX9_fillUp_27 (by decide +kernel) (fun c_746 => ?_) (fun c_746 => ?_)
            · replace hF := hF.trans (if_pos c_746)
              have h_749 : rg x_738 0 0 := rg_and h_745 (rg_of_eq c_746 (rg_k (0 : Int32) 0 rfl)) (by decide +kernel)
              refine lv_aload_n hx hb dX9_fillUp_84 rfl (lv_at hl 0 rfl) ?_
              obtain ⟨w_750, hR_w_750, hL_w_750, hK_w_750, hN_w_750, hT_w_750⟩ := sh_a hSH 290 (ci := 9) (kd := 13) (len := 40) rfl (by decide +kernel) hL_this hK_this
              have hO_w_750 : w_750 = vrow σ 290 M := vo_k (c := 9) hO_this hR_w_750
              refine pg_f (v := .ref w_750) (C := RX9) (T := TX9) (N := 3) hx hb hts (tw_i inlX9) hown hK hP hL_this hK_this (by decide +kernel) rfl 2 (by decide +kernel) (hts _ (tw_c tw_106)) (pq_hv rfl hR_w_750) dX9_fillUp_85 ?_
              refine lv_iload hx hb dX9_fillUp_88 (lv_at hl 4 rfl) ?_
              refine lv_bipush (v := 100) hx hb dX9_fillUp_90 (by decide +kernel) ?_
              refine lv_aload_n hx hb dX9_fillUp_92 rfl (lv_at hl 0 rfl) ?_
              refine pg_f (v := .ref w_750) (C := RX9) (T := TX9) (N := 3) hx hb hts (tw_i inlX9) hown hK hP hL_this hK_this (by decide +kernel) rfl 2 (by decide +kernel) (hts _ (tw_c tw_106)) (pq_hv rfl hR_w_750) dX9_fillUp_93 ?_
              refine lv_iload hx hb dX9_fillUp_96 (lv_at hl 4 rfl) ?_
              refine pl_i hx hb hK hP hL_w_750 hK_w_750 hN_w_750 (rg_in h_683 (by decide +kernel)) dX9_fillUp_98 ?_
              refine lv_topi (fun x_751 ex_751 => ?_)
              replace hF := hF.trans (ap_n (vR_r hO_w_750 (by decide +kernel) ex_751))
              refine lv_bipush (v := 10) hx hb dX9_fillUp_99 (by decide +kernel) ?_
              refine lv_iadd hx hb dX9_fillUp_101 ?_
              refine lv_topi (fun x_752 ex_752 => ?_)
              replace hF := hF.trans (ap_n ex_752)
              refine va_mmin hx hb (hml.trans hl.1.symm) hown (hts _ (tw_c tw_1087)) (hts _ (tw_c tw_467)) (hts _ (tw_c tw_276)) (hts _ (tw_c tw_468)) (Nat.le_of_ble_eq_true rfl) (Nat.le_of_ble_eq_true rfl) (Nat.zero_le _) (Nat.zero_le _) dX9_fillUp_102 ?_
              refine lv_topi (fun x_753 ex_753 => ?_)
              replace hF := hF.trans (ap_n ex_753)
              have h_754 : rg x_753 (-2147483648) 100 := rg_of_eq ex_753 (rg_min2 (rg_k (100 : Int32) 100 rfl) (rg_full _) (by decide +kernel))
              refine pt_i hx hb hK hP hD hS hL_w_750 hK_w_750 hN_w_750 (rg_in h_683 (by decide +kernel)) dX9_fillUp_105 (fun r_755 H locs er_755 hP hD hS => ?_)
              replace hFr := fr_R hFr hO_w_750 (by decide +kernel) er_755
              replace hF := hF.trans (ap_n (vR_st hVT hO_w_750 (by decide +kernel) er_755))
              have hG := GX.wR hG hSH hT_w_750 rfl er_755 (rg_w h_754 (by decide +kernel)) (by decide +kernel)
              exact K_731 r_755 _ _ _ hF hFr hG hP hD hS (lv_sub hl [0, 1, 2, 3, 4] rfl)
            · replace hF := hF.trans (if_neg c_746)
              have h_756 : rg x_738 1 1 := rg_ne c_746 h_745 0 rfl (by decide +kernel)
              refine lv_aload_n hx hb dX9_fillUp_30 rfl (lv_at hl 0 rfl) ?_
              obtain ⟨w_757, hR_w_757, hL_w_757, hK_w_757, hN_w_757, hT_w_757⟩ := sh_a hSH 289 (ci := 9) (kd := 13) (len := 40) rfl (by decide +kernel) hL_this hK_this
              have hO_w_757 : w_757 = vrow σ 289 M := vo_k (c := 9) hO_this hR_w_757
              refine pg_f (v := .ref w_757) (C := RX9) (T := TX9) (N := 3) hx hb hts (tw_i inlX9) hown hK hP hL_this hK_this (by decide +kernel) rfl 1 (by decide +kernel) (hts _ (tw_c tw_105)) (pq_hv rfl hR_w_757) dX9_fillUp_31 ?_
              refine lv_iload hx hb dX9_fillUp_34 (lv_at hl 4 rfl) ?_
              refine lv_sipush (v := 10000) hx hb dX9_fillUp_36 (by decide +kernel) ?_
              refine lv_aload_n hx hb dX9_fillUp_39 rfl (lv_at hl 0 rfl) ?_
              refine pg_f (v := .ref w_757) (C := RX9) (T := TX9) (N := 3) hx hb hts (tw_i inlX9) hown hK hP hL_this hK_this (by decide +kernel) rfl 1 (by decide +kernel) (hts _ (tw_c tw_105)) (pq_hv rfl hR_w_757) dX9_fillUp_40 ?_
              refine lv_iload hx hb dX9_fillUp_43 (lv_at hl 4 rfl) ?_
              refine pl_i hx hb hK hP hL_w_757 hK_w_757 hN_w_757 (rg_in h_683 (by decide +kernel)) dX9_fillUp_45 ?_
              refine lv_topi (fun x_758 ex_758 => ?_)
              replace hF := hF.trans (ap_n (vR_r hO_w_757 (by decide +kernel) ex_758))
              refine lv_iload hx hb dX9_fillUp_46 (lv_at hl 3 rfl) ?_
              refine lv_aload_n hx hb dX9_fillUp_48 rfl (lv_at hl 0 rfl) ?_
              obtain ⟨w_759, hR_w_759, hL_w_759, hK_w_759, hN_w_759, hT_w_759⟩ := sh_a hSH 288 (ci := 9) (kd := 13) (len := 40) rfl (by decide +kernel) hL_this hK_this
              have hO_w_759 : w_759 = vrow σ 288 M := vo_k (c := 9) hO_this hR_w_759
              refine pg_f (v := .ref w_759) (C := RX9) (T := TX9) (N := 3) hx hb hts (tw_i inlX9) hown hK hP hL_this hK_this (by decide +kernel) rfl 0 (by decide +kernel) (hts _ (tw_c tw_104)) (pq_hv rfl hR_w_759) dX9_fillUp_49 ?_
              refine lv_iload hx hb dX9_fillUp_52 (lv_at hl 4 rfl) ?_
              refine pl_i hx hb hK hP hL_w_759 hK_w_759 hN_w_759 (rg_in h_683 (by decide +kernel)) dX9_fillUp_54 ?_
              refine lv_topi (fun x_760 ex_760 => ?_)
              replace hF := hF.trans (ap_n (vR_r hO_w_759 (by decide +kernel) ex_760))
              refine lv_imul hx hb dX9_fillUp_55 ?_
              refine lv_topi (fun x_761 ex_761 => ?_)
              replace hF := hF.trans (ap_n ex_761)
              refine lv_iadd hx hb dX9_fillUp_56 ?_
              refine lv_topi (fun x_762 ex_762 => ?_)
              replace hF := hF.trans (ap_n ex_762)
              refine va_mmin hx hb (hml.trans hl.1.symm) hown (hts _ (tw_c tw_1087)) (hts _ (tw_c tw_467)) (hts _ (tw_c tw_276)) (hts _ (tw_c tw_468)) (Nat.le_of_ble_eq_true rfl) (Nat.le_of_ble_eq_true rfl) (Nat.zero_le _) (Nat.zero_le _) dX9_fillUp_57 ?_
              refine lv_topi (fun x_763 ex_763 => ?_)
              replace hF := hF.trans (ap_n ex_763)
              have h_764 : rg x_763 (-2147483648) 10000 := rg_of_eq ex_763 (rg_min2 (rg_k (10000 : Int32) 10000 rfl) (rg_full _) (by decide +kernel))
              refine pt_i hx hb hK hP hD hS hL_w_757 hK_w_757 hN_w_757 (rg_in h_683 (by decide +kernel)) dX9_fillUp_60 (fun r_765 H locs er_765 hP hD hS => ?_)
              replace hFr := fr_R hFr hO_w_757 (by decide +kernel) er_765
              replace hF := hF.trans (ap_n (vR_st hVT hO_w_757 (by decide +kernel) er_765))
              have hG := GX.wR hG hSH hT_w_757 rfl er_765 (rg_w h_764 (by decide +kernel)) (by decide +kernel)
              refine lv_aload_n hx hb dX9_fillUp_61 rfl (lv_at hl 0 rfl) ?_
              obtain ⟨w_766, hR_w_766, hL_w_766, hK_w_766, hN_w_766, hT_w_766⟩ := sh_a hSH 290 (ci := 9) (kd := 13) (len := 40) rfl (by decide +kernel) hL_this hK_this
              have hO_w_766 : w_766 = vrow σ 290 M := vo_k (c := 9) hO_this hR_w_766
              refine pg_f (v := .ref w_766) (C := RX9) (T := TX9) (N := 3) hx hb hts (tw_i inlX9) hown hK hP hL_this hK_this (by decide +kernel) rfl 2 (by decide +kernel) (hts _ (tw_c tw_106)) (pq_hv rfl hR_w_766) dX9_fillUp_62 ?_
              refine lv_iload hx hb dX9_fillUp_65 (lv_at hl 4 rfl) ?_
              refine lv_iconst (v := 0) hx hb dX9_fillUp_67 (by decide +kernel) ?_
              refine lv_aload_n hx hb dX9_fillUp_68 rfl (lv_at hl 0 rfl) ?_
              refine pg_f (v := .ref w_766) (C := RX9) (T := TX9) (N := 3) hx hb hts (tw_i inlX9) hown hK hP hL_this hK_this (by decide +kernel) rfl 2 (by decide +kernel) (hts _ (tw_c tw_106)) (pq_hv rfl hR_w_766) dX9_fillUp_69 ?_
              refine lv_iload hx hb dX9_fillUp_72 (lv_at hl 4 rfl) ?_
              refine pl_i hx hb hK hP hL_w_766 hK_w_766 hN_w_766 (rg_in h_683 (by decide +kernel)) dX9_fillUp_74 ?_
              refine lv_topi (fun x_767 ex_767 => ?_)
              replace hF := hF.trans (ap_n (vR_r hO_w_766 (by decide +kernel) ex_767))
              refine lv_iconst (v := 1) hx hb dX9_fillUp_75 (by decide +kernel) ?_
              refine lv_isub hx hb dX9_fillUp_76 ?_
              refine lv_topi (fun x_768 ex_768 => ?_)
              replace hF := hF.trans (ap_n ex_768)
              refine va_mmax hx hb (hml.trans hl.1.symm) hown (hts _ (tw_c tw_1088)) (hts _ (tw_c tw_275)) (hts _ (tw_c tw_276)) (hts _ (tw_c tw_277)) (Nat.le_of_ble_eq_true rfl) (Nat.le_of_ble_eq_true rfl) (Nat.zero_le _) (Nat.zero_le _) dX9_fillUp_77 ?_
              refine lv_topi (fun x_769 ex_769 => ?_)
              replace hF := hF.trans (ap_n ex_769)
              have h_770 : rg x_769 0 2147483647 := rg_of_eq ex_769 (rg_max2 (rg_k (0 : Int32) 0 rfl) (rg_full _) (by decide +kernel))
              refine pt_i hx hb hK hP hD hS hL_w_766 hK_w_766 hN_w_766 (rg_in h_683 (by decide +kernel)) dX9_fillUp_80 (fun r_771 H locs er_771 hP hD hS => ?_)
              replace hFr := fr_R hFr hO_w_766 (by decide +kernel) er_771
              replace hF := hF.trans (ap_n (vR_st hVT hO_w_766 (by decide +kernel) er_771))
              have hG := GX.wR hG hSH hT_w_766 rfl er_771 (rg_w h_770 (by decide +kernel)) (by decide +kernel)
              refine lv_goto (tgt := 106) hx hb dX9_fillUp_81 (by decide +kernel) ?_
              exact K_731 r_771 _ _ _ hF hFr hG hP hD hS (lv_sub hl [0, 1, 2, 3, 4] rfl)
          · replace hF := hF.trans (if_pos c_734)
            have h_772 : rg x_685 0 0 := rg_and h_692 (rg_of_eq c_734 (rg_k (0 : Int32) 0 rfl)) (by decide +kernel)
            refine lv_goto (tgt := 106) hx hb dX9_fillUp_18 (by decide +kernel) ?_
            exact K_731 ri_623 _ _ _ hF hFr hG hP hD hS (lv_sub hl [0, 1, 2, 3, 4] rfl)
    exact L_676 _ (0 : Int32) ri _ _ _ (rg_w (rg_k (0 : Int32) 0 rfl) (by decide +kernel)) (Nat.lt_succ_self _) hF hFr hG hP hD hS (lv_sub hl [1, 2, 3, 4, 0] rfl)
  exact go _ _ _ hP hD hS hl

set_option maxHeartbeats 4000000 in
set_option maxRecDepth 100000 in
theorem s_X0_sleep_166 (l : Launch) (D : va_G) (t : pq_T) (σ : pq_S) (I : Nat → Nat → Int32) (J : Nat → Nat → Int64) (ri : Nat → Nat → Int32) (rj : Nat → Nat → Int64) (rq : Nat → Nat → Option Nat) (sz : Nat) (tg : Nat → Nat) (hSH : SH σ tg) (hG0 : GS tg σ I ri rq) (this : Nat) (a0 : Nat) (a1 : Int32) (hL_this : this ∈ σ.1) (hK_this : σ.2.1 this = 0) (hL_a0 : a0 ∈ σ.1) (hK_a0 : σ.2.1 a0 = 13) (hN_a0 : σ.2.2.2 a0 = 60) (hT_a0 : tg a0 = 166) (h_a1 : rg a1 0 55) (M : Nat) (hL_M : M ∈ σ.1) (hK_M : σ.2.1 M = 10) (hO_this : this = vo σ 0 M) : MetI l yX0_sleep (wa yX0_sleep cX0_sleep 5 (some .int)) ({ frames := 1, cells := 0, slots := 0, locals := 60 }) [.ref this, .ref a0, .int a1] D t σ (I, J, ri, rj, rq) sz 0 0 (fun (r : Int32) (u : pq_S × pq_M) => ∃ ri' : Nat → Nat → Int32, u = (σ, I, J, ri', rj, rq) ∧ GX [] tg σ I ri rj I ri' rj rq ∧ FR 10 tg σ M (I, J, ri, rj, rq) (I, J, ri', rj, rq)) := by
  refine Met.ofW (cc := cX0_sleep) (maxL := 5) (ret := (some .int)) (by decide +kernel) rfl ?_
  intro p e s m args below meth c s₁ B hml hv
  obtain ⟨rfl, hsz, hP, hK, hD0, hN⟩ := hv
  have hx := B.exec
  have hb := B.bytes
  have hr := B.returns
  have hts := atoms_spec (ws := (wa yX0_sleep cX0_sleep 5 (some .int))) B.pre
  have hown : s.vm.findClass RX0 = some m.cls := findClass_of_methodNamed B.named
  have hlocks := B.notSynchronized
  subst hsz
  have hD : va_D (pq_B t σ (I, J, ri, rj, rq) s.heap.size) (pq_P t σ (I, J, ri, rj, rq)) := hD0.self
  generalize hAe : pq_B t σ (I, J, ri, rj, rq) s.heap.size = A at hD ⊢
  have hA : ∀ q : Nat, s.heap.size ≤ q → A q := fun q h => by rw [← hAe]; exact Or.inr h
  have hS : va_S A s.heap s.heap [] := va_S.rf
  have hG : GX [] tg σ I ri rj I ri rj rq := ⟨hG0, fun _ _ _ => rfl, fun _ _ _ _ _ => rfl, fun _ _ _ _ _ => rfl⟩
  have hl := lv_entry ([.ref this, .ref a0, .int a1]) (n := 5) (Nat.le_of_ble_eq_true rfl)
  rw [lg_entry_eq]
  generalize (lg_sl ([.ref this, .ref a0, .int a1]) ++ List.replicate (5 - (lg_sl ([.ref this, .ref a0, .int a1])).length) Slot.unset).toArray = ls at hl ⊢
  have hl : lv_has ls 5 [(0, .ref this), (1, .ref a0), (2, .int a1)] := hl
  refine q_gen (fun Q hQ => ?_)
  have go : ∀ (H : Heap) (locs : List Loc) (ls : Array Slot), va_P D vwCl (pq_P t σ (I, J, ri, rj, rq)) H → va_D A (pq_P t σ (I, J, ri, rj, rq)) → va_S A s.heap H locs → lv_has ls 5 [(0, .ref this), (1, .ref a0), (2, .int a1)] → W p l e ({ frames := 1, cells := 0, slots := 0, locals := 60 } : Room) s m (List.toArray ([.ref this, .ref a0, .int a1] : List Value)) below meth c H locs 0 0 Q (F0 m 0 ls []) := by
    intro H locs ls hP hD hS hl
    have hVT : VT 10 σ tg M := vt_10 hSH hL_M hK_M
    have hFr : FR 10 tg σ M (I, J, ri, rj, rq) (I, J, ri, rj, rq) := fr_rf
    refine lv_iload_n hx hb dX0_sleep_0 rfl (lv_at hl 2 rfl) ?_
    refine lv_if_lt (tgt := 12) hx hb dX0_sleep_1 (by decide +kernel) (fun c_1105 => ?_) (fun c_1105 => ?_)
    · exact (rg_empty (rg_lt1 c_1105 h_a1 (rg_k (0 : Int32) 0 rfl) (lo := 0) (hi := (-1)) (by decide +kernel)) (by decide +kernel)).elim
    · refine lv_iload_n hx hb dX0_sleep_4 rfl (lv_at hl 2 rfl) ?_
      refine lv_iconst (v := 5) hx hb dX0_sleep_5 (by decide +kernel) ?_
      refine lv_iadd hx hb dX0_sleep_6 ?_
      refine lv_topi (fun x_1106 ex_1106 => ?_)
      have h_1107 : rg x_1106 5 60 := rg_of_eq ex_1106 (rg_add h_a1 (rg_k (5 : Int32) 5 rfl) (by decide +kernel))
      refine lv_aload_n hx hb dX0_sleep_7 rfl (lv_at hl 1 rfl) ?_
      refine pn_i (v := 60) hx hb hK hP hL_a0 hK_a0 hN_a0 (by decide +kernel) dX0_sleep_8 ?_
      refine lv_icmp_le (tgt := 14) hx hb dX0_sleep_9 (by decide +kernel) (fun c_1108 => ?_) (fun c_1108 => ?_)
      · refine lv_aload_n hx hb dX0_sleep_14 rfl (lv_at hl 1 rfl) ?_
        refine lv_iload_n hx hb dX0_sleep_15 rfl (lv_at hl 2 rfl) ?_
        refine lv_aload_n hx hb dX0_sleep_16 rfl (lv_at hl 0 rfl) ?_
        obtain ⟨w_1109, hR_w_1109, hL_w_1109, hK_w_1109, hN_w_1109, hT_w_1109⟩ := sh_a hSH 12 (ci := 0) (kd := 13) (len := 5) rfl (by decide +kernel) hL_this hK_this
        have hO_w_1109 : w_1109 = vrow σ 12 M := vo_k (c := 0) hO_this hR_w_1109
        refine pg_f (v := .ref w_1109) (C := RX0) (T := TX0) (N := 16) hx hb hts (tw_i inlX0) hown hK hP hL_this hK_this (by decide +kernel) rfl 12 (by decide +kernel) (hts _ (tw_c tw_120)) (pq_hv rfl hR_w_1109) dX0_sleep_17 ?_
        refine lv_iconst (v := 0) hx hb dX0_sleep_20 (by decide +kernel) ?_
        refine lv_iconst (v := 5) hx hb dX0_sleep_21 (by decide +kernel) ?_
        refine pc_i hx hb (hml.trans hl.1.symm) hown (hts _ (tw_c tw_1124)) (hts _ (tw_c tw_1105)) (hts _ (tw_c tw_1106)) (hts _ (tw_c tw_1107)) hK hP hD hS hL_a0 hK_a0 hN_a0 hL_w_1109 hK_w_1109 hN_w_1109 (rg_pos h_a1 (by decide +kernel)) (rg_pos (rg_k (5 : Int32) 5 rfl) (by decide +kernel)) (rg_cp h_a1 (rg_k (5 : Int32) 5 rfl) (by decide +kernel)) (rg_cl (rg_k (5 : Int32) 5 rfl) (by decide +kernel)) (Nat.le_of_ble_eq_true rfl) (Nat.le_of_ble_eq_true rfl) dX0_sleep_22 (fun r_1110 H locs er_1110 hP hD hS => ?_)
        replace hFr := fr_R hFr hO_w_1109 (by decide +kernel) er_1110
        have hG := GX.cR hG hSH hT_a0 rfl hT_w_1109 rfl er_1110 (by decide +kernel)
        refine lv_iconst (v := 0) hx hb dX0_sleep_25 (by decide +kernel) ?_
        refine lv_istore_n (lv' := [(3, .int 0), (0, .ref this), (1, .ref a0), (2, .int a1)]) hx hb dX0_sleep_26 rfl hl (by decide +kernel) rfl (fun ls hl => ?_)
        refine lv_iconst (v := 0) hx hb dX0_sleep_27 (by decide +kernel) ?_
        refine lv_istore (lv' := [(4, .int 0), (3, .int 0), (0, .ref this), (1, .ref a0), (2, .int a1)]) hx hb dX0_sleep_28 hl (by decide +kernel) rfl (fun ls hl => ?_)
        have L_2172 : ∀ (n_2171 : Nat) (x_2130 : Int32) (x_2131 : Int32) (ri_2132 : Nat → Nat → Int32) (H : Heap) (locs : List Loc) (ls : Array Slot), rg x_2131 0 40 → (40 - (x_2131).toInt).toNat < n_2171 → FR 10 tg σ M (I, J, ri, rj, rq) (I, J, ri_2132, rj, rq) → GX [] tg σ I ri rj I ri_2132 rj rq → va_P D vwCl (pq_P t σ (I, J, ri_2132, rj, rq)) H → va_D A (pq_P t σ (I, J, ri_2132, rj, rq)) → va_S A s.heap H locs → lv_has ls 5 [(0, .ref this), (3, .int x_2130), (4, .int x_2131)] → W p l e ({ frames := 1, cells := 0, slots := 0, locals := 60 } : Room) s m (List.toArray ([.ref this, .ref a0, .int a1] : List Value)) below meth c H locs 0 0 Q (F0 m 30 ls []) := by
          intro n_2171
          induction n_2171 with
          | zero => intro x_2130 x_2131 ri_2132 H locs ls h_2175 hm_2170 hFr hG hP hD hS hl; exact absurd hm_2170 (Nat.not_lt_zero _)
          | succ n_2171 ih_2173 =>
            intro x_2130 x_2131 ri_2132 H locs ls h_2175 hm_2170 hFr hG hP hD hS hl
            refine lv_iload hx hb dX0_sleep_30 (lv_at hl 2 rfl) ?_
            refine lv_aload_n hx hb dX0_sleep_32 rfl (lv_at hl 0 rfl) ?_
            refine pg_f (v := .int (I 0 this)) (C := RX0) (T := TX0) (N := 16) hx hb hts (tw_i inlX0) hown hK hP hL_this hK_this (by decide +kernel) rfl 0 (by decide +kernel) (hts _ (tw_c tw_395)) rfl dX0_sleep_33 ?_
            have h_2176 : rg (I 0 this) 0 40 := GX.rI hG 0 rfl
            refine lv_icmp_ge (tgt := 102) hx hb dX0_sleep_36 (by decide +kernel) (fun c_2177 => ?_) (fun c_2177 => ?_)
            · refine lv_iload_n hx hb dX0_sleep_102 rfl (lv_at hl 1 rfl) ?_
              subst hQ
              exact W.iret (v := x_2130) hx hb hr (fun t1 ht hW => ⟨⟨x_2130, (σ, I, J, ri_2132, rj, rq), rfl, ⟨ri_2132, rfl, hG, hFr⟩, by rw [ht]; exact hP, va_K.moved hW.alike hK, hD⟩, hS.F ht⟩) hS.2.2 dX0_sleep_103
            · have h_2178 : rg x_2131 0 39 := rg_lt1 (nle c_2177) h_2175 h_2176 (by decide +kernel)
              have h_2179 : rg (I 0 this) 1 40 := rg_lt2 (nle c_2177) h_2175 h_2176 (by decide +kernel)
              refine lv_aload_n hx hb dX0_sleep_39 rfl (lv_at hl 0 rfl) ?_
              refine lv_iload hx hb dX0_sleep_40 (lv_at hl 2 rfl) ?_
              obtain ⟨w_2180, hR_w_2180, hL_w_2180, hK_w_2180, hN_w_2180, hT_w_2180⟩ := sh_a hSH 5 (ci := 0) (kd := 13) (len := 40) rfl (by decide +kernel) hL_this hK_this
              have hO_w_2180 : w_2180 = vrow σ 5 M := vo_k (c := 0) hO_this hR_w_2180
              refine pk_i (va_runV (As := [.int x_2131]) (rest := []) ⟨hx, hb, hml, hown, hts⟩ (s_X0_isOnRing l D t σ I J ri_2132 rj rq H.size tg hSH hG.1 this x_2131 hL_this hK_this (rg_w h_2178 (by decide +kernel)) w_2180 hR_w_2180 hL_w_2180 hK_w_2180 hN_w_2180 hT_w_2180 M hL_M hK_M hO_this) (cwV 1 hts (tw_V tw_1108 tw_1109 tw_1110 tw_45 tw_1111) rfl rfl rfl cv_yX0_isOnRing_1 ⟨Nat.le_of_ble_eq_true rfl, Nat.le_of_ble_eq_true rfl⟩) ⟨pq_blind, pq_recv hK hP hL_this hK_this (by decide +kernel) rfl, pq_pre hK hN hP hD⟩ rfl rfl hl.1 rfl (lv_room (Nat.le_of_ble_eq_true rfl)) dX0_sleep_42 ⟨Nat.le_of_ble_eq_true rfl, Nat.le_of_ble_eq_true rfl⟩) hD hS hA (fun x_2181 σ1 μ1 H locs hw_2182 hP hD hS => ?_)
              obtain ⟨hu_2183, hfn_2186, hr_2185⟩ := hw_2182
              obtain ⟨hu_2183a, hu_2183b⟩ := Prod.mk.inj hu_2183
              rw [hu_2183a, hu_2183b] at hP hD
              have h_2188 : rg x_2181 0 1 := by rcases hr_2185 with ⟨q, -⟩ | ⟨q, -⟩ <;> rw [q] <;> exact ⟨by decide +kernel, by decide +kernel⟩
              have K_2212 : ∀  (x_2208 : Int32) (ri_2209 : Nat → Nat → Int32) (H : Heap) (locs : List Loc) (ls : Array Slot), FR 10 tg σ M (I, J, ri, rj, rq) (I, J, ri_2209, rj, rq) → GX [] tg σ I ri rj I ri_2209 rj rq → va_P D vwCl (pq_P t σ (I, J, ri_2209, rj, rq)) H → va_D A (pq_P t σ (I, J, ri_2209, rj, rq)) → va_S A s.heap H locs → lv_has ls 5 [(0, .ref this), (3, .int x_2208), (4, .int x_2131)] → W p l e ({ frames := 1, cells := 0, slots := 0, locals := 60 } : Room) s m (List.toArray ([.ref this, .ref a0, .int a1] : List Value)) below meth c H locs 0 0 Q (F0 m 96 ls []) := by
                intro x_2208 ri_2209 H locs ls hFr hG hP hD hS hl
                obtain ⟨x_2213, ex_2213⟩ : ∃ y : Int32, y = x_2131 + Int32.ofInt 1 := ⟨_, rfl⟩
                have h_2214 : rg x_2213 1 40 := rg_of_eq ex_2213 (rg_add h_2178 (rg_k (Int32.ofInt 1) 1 rfl) (by decide +kernel))
                refine lv_iinc (v := x_2213) (lv' := [(4, .int x_2213), (0, .ref this), (3, .int x_2208)]) hx hb dX0_sleep_96 hl (k := 2) rfl ex_2213.symm (by decide +kernel) rfl (fun ls hl => ?_)
                refine lv_goto (tgt := 30) hx hb dX0_sleep_99 (by decide +kernel) ?_
                exact ih_2173 x_2208 x_2213 ri_2209 _ _ _ (rg_w h_2214 (by decide +kernel)) (ms_up 1 hm_2170 ex_2213 rfl (by decide +kernel) h_2178 (by decide +kernel) (by decide +kernel)) hFr hG hP hD hS (lv_sub hl [1, 2, 0] rfl)
              refine lv_if_eq (tgt := 96) hx hb dX0_sleep_45 (by decide +kernel) (fun c_2215 => ?_) (fun c_2215 => ?_)
              · have f_2216 := (hr_2185.resolve_left (fun q => absurd (q.1.symm.trans c_2215) (by decide +kernel))).2
                have h_2217 : rg x_2181 0 0 := rg_and h_2188 (rg_of_eq c_2215 (rg_k (0 : Int32) 0 rfl)) (by decide +kernel)
                exact K_2212 x_2130 ri_2132 _ _ _ hFr hG hP hD hS (lv_sub hl [0, 1, 2] rfl)
              · have f_2218 := (hr_2185.resolve_right (fun q => c_2215 q.1)).2
                have h_2219 : rg x_2181 1 1 := rg_ne c_2215 h_2188 0 rfl (by decide +kernel)
                refine lv_aload_n hx hb dX0_sleep_48 rfl (lv_at hl 0 rfl) ?_
                refine pg_f (v := .ref w_1109) (C := RX0) (T := TX0) (N := 16) hx hb hts (tw_i inlX0) hown hK hP hL_this hK_this (by decide +kernel) rfl 12 (by decide +kernel) (hts _ (tw_c tw_120)) (pq_hv rfl hR_w_1109) dX0_sleep_49 ?_
                refine lv_aload_n hx hb dX0_sleep_52 rfl (lv_at hl 0 rfl) ?_
                refine pg_f (v := .ref w_2180) (C := RX0) (T := TX0) (N := 16) hx hb hts (tw_i inlX0) hown hK hP hL_this hK_this (by decide +kernel) rfl 5 (by decide +kernel) (hts _ (tw_c tw_114)) (pq_hv rfl hR_w_2180) dX0_sleep_53 ?_
                refine lv_iload hx hb dX0_sleep_56 (lv_at hl 2 rfl) ?_
                refine pl_i hx hb hK hP hL_w_2180 hK_w_2180 hN_w_2180 (rg_in h_2178 (by decide +kernel)) dX0_sleep_58 ?_
                refine lv_topi (fun x_2220 ex_2220 => ?_)
                have h_2221 : rg x_2220 0 4 := rg_of_eq ex_2220 (f_2218)
                refine pl_i hx hb hK hP hL_w_1109 hK_w_1109 hN_w_1109 (rg_in h_2221 (by decide +kernel)) dX0_sleep_59 ?_
                refine lv_topi (fun x_2222 ex_2222 => ?_)
                refine lv_if_le (tgt := 82) hx hb dX0_sleep_60 (by decide +kernel) (fun c_2223 => ?_) (fun c_2223 => ?_)
                · have h_2224 : rg x_2222 (-2147483648) 0 := rg_le1 c_2223 (rg_full _) (rg_k (0 : Int32) 0 rfl) (by decide +kernel)
                  refine lv_aload_n hx hb dX0_sleep_82 rfl (lv_at hl 0 rfl) ?_
                  obtain ⟨w_2225, hR_w_2225, hL_w_2225, hK_w_2225, hN_w_2225, hT_w_2225⟩ := sh_a hSH 7 (ci := 0) (kd := 13) (len := 40) rfl (by decide +kernel) hL_this hK_this
                  have hO_w_2225 : w_2225 = vrow σ 7 M := vo_k (c := 0) hO_this hR_w_2225
                  refine pg_f (v := .ref w_2225) (C := RX0) (T := TX0) (N := 16) hx hb hts (tw_i inlX0) hown hK hP hL_this hK_this (by decide +kernel) rfl 7 (by decide +kernel) (hts _ (tw_c tw_116)) (pq_hv rfl hR_w_2225) dX0_sleep_83 ?_
                  refine lv_iload hx hb dX0_sleep_86 (lv_at hl 2 rfl) ?_
                  refine lv_dup2_11 hx hb dX0_sleep_88 rfl rfl ?_
                  refine pl_i hx hb hK hP hL_w_2225 hK_w_2225 hN_w_2225 (rg_in h_2178 (by decide +kernel)) dX0_sleep_89 ?_
                  refine lv_topi (fun x_2226 ex_2226 => ?_)
                  refine lv_iconst (v := 1) hx hb dX0_sleep_90 (by decide +kernel) ?_
                  refine lv_iadd hx hb dX0_sleep_91 ?_
                  refine lv_topi (fun x_2227 ex_2227 => ?_)
                  refine pt_i hx hb hK hP hD hS hL_w_2225 hK_w_2225 hN_w_2225 (rg_in h_2178 (by decide +kernel)) dX0_sleep_92 (fun r_2228 H locs er_2228 hP hD hS => ?_)
                  replace hFr := fr_R hFr hO_w_2225 (by decide +kernel) er_2228
                  have hG := GX.wR hG hSH hT_w_2225 rfl er_2228 (rg_w (rg_full _) (by decide +kernel)) (by decide +kernel)
                  obtain ⟨x_2229, ex_2229⟩ : ∃ y : Int32, y = x_2130 + Int32.ofInt 1 := ⟨_, rfl⟩
                  refine lv_iinc (v := x_2229) (lv' := [(3, .int x_2229), (0, .ref this), (4, .int x_2131)]) hx hb dX0_sleep_93 hl (k := 1) rfl ex_2229.symm (by decide +kernel) rfl (fun ls hl => ?_)
                  exact K_2212 x_2229 r_2228 _ _ _ hFr hG hP hD hS (lv_sub hl [1, 0, 2] rfl)
                · have h_2230 : rg x_2222 1 2147483647 := rg_lt2 (nle c_2223) (rg_k (0 : Int32) 0 rfl) (rg_full _) (by decide +kernel)
                  refine lv_aload_n hx hb dX0_sleep_63 rfl (lv_at hl 0 rfl) ?_
                  refine pg_f (v := .ref w_1109) (C := RX0) (T := TX0) (N := 16) hx hb hts (tw_i inlX0) hown hK hP hL_this hK_this (by decide +kernel) rfl 12 (by decide +kernel) (hts _ (tw_c tw_120)) (pq_hv rfl hR_w_1109) dX0_sleep_64 ?_
                  refine lv_aload_n hx hb dX0_sleep_67 rfl (lv_at hl 0 rfl) ?_
                  refine pg_f (v := .ref w_2180) (C := RX0) (T := TX0) (N := 16) hx hb hts (tw_i inlX0) hown hK hP hL_this hK_this (by decide +kernel) rfl 5 (by decide +kernel) (hts _ (tw_c tw_114)) (pq_hv rfl hR_w_2180) dX0_sleep_68 ?_
                  refine lv_iload hx hb dX0_sleep_71 (lv_at hl 2 rfl) ?_
                  refine pl_i hx hb hK hP hL_w_2180 hK_w_2180 hN_w_2180 (rg_in h_2178 (by decide +kernel)) dX0_sleep_73 ?_
                  refine lv_tov x_2220 ex_2220.symm ?_
                  refine lv_dup2_11 hx hb dX0_sleep_74 rfl rfl ?_
                  refine pl_i hx hb hK hP hL_w_1109 hK_w_1109 hN_w_1109 (rg_in h_2221 (by decide +kernel)) dX0_sleep_75 ?_
                  refine lv_tov x_2222 ex_2222.symm ?_
                  refine lv_iconst (v := 1) hx hb dX0_sleep_76 (by decide +kernel) ?_
                  refine lv_isub hx hb dX0_sleep_77 ?_
                  refine lv_topi (fun x_2231 ex_2231 => ?_)
                  have h_2232 : rg x_2231 0 2147483646 := rg_of_eq ex_2231 (rg_sub h_2230 (rg_k (1 : Int32) 1 rfl) (by decide +kernel))
                  refine pt_i hx hb hK hP hD hS hL_w_1109 hK_w_1109 hN_w_1109 (rg_in h_2221 (by decide +kernel)) dX0_sleep_78 (fun r_2233 H locs er_2233 hP hD hS => ?_)
                  replace hFr := fr_R hFr hO_w_1109 (by decide +kernel) er_2233
                  have hG := GX.wR hG hSH hT_w_1109 rfl er_2233 (rg_w h_2232 (by decide +kernel)) (by decide +kernel)
                  refine lv_goto (tgt := 96) hx hb dX0_sleep_79 (by decide +kernel) ?_
                  exact K_2212 x_2130 r_2233 _ _ _ hFr hG hP hD hS (lv_sub hl [0, 1, 2] rfl)
        exact L_2172 _ (0 : Int32) (0 : Int32) r_1110 _ _ _ (rg_w (rg_k (0 : Int32) 0 rfl) (by decide +kernel)) (Nat.lt_succ_self _) hFr hG hP hD hS (lv_sub hl [2, 1, 0] rfl)
      · exact (rg_empty (rg_lt2 (nle c_1108) (rg_k (60 : Int32) 60 rfl) h_1107 (lo := 61) (hi := 60) (by decide +kernel)) (by decide +kernel)).elim
  exact go _ _ _ hP hD hS hl

set_option maxHeartbeats 4000000 in
set_option maxRecDepth 100000 in
theorem s_X0_board_163 (l : Launch) (D : va_G) (t : pq_T) (σ : pq_S) (I : Nat → Nat → Int32) (J : Nat → Nat → Int64) (ri : Nat → Nat → Int32) (rj : Nat → Nat → Int64) (rq : Nat → Nat → Option Nat) (sz : Nat) (tg : Nat → Nat) (hSH : SH σ tg) (hG0 : GS tg σ I ri rq) (this : Nat) (a0 : Int64) (a1 : Nat) (a2 : Int32) (a3 : Int32) (a4 : Int32) (hL_this : this ∈ σ.1) (hK_this : σ.2.1 this = 0) (hL_a1 : a1 ∈ σ.1) (hK_a1 : σ.2.1 a1 = 13) (hN_a1 : σ.2.2.2 a1 = 40) (hT_a1 : tg a1 = 163) (M : Nat) (hL_M : M ∈ σ.1) (hK_M : σ.2.1 M = 10) (hO_this : this = vo σ 0 M) : MetV l yX0_board (wa yX0_board cX0_board 11 none) ({ frames := 2, cells := 0, slots := 0, locals := 45 }) [.ref this, .long a0, .ref a1, .int a2, .int a3, .int a4] D t σ (I, J, ri, rj, rq) sz 0 0 (fun (u : pq_S × pq_M) => ∃ ri' : Nat → Nat → Int32, u = (σ, I, J, ri', rj, rq) ∧ GX [1005] tg σ I ri rj I ri' rj rq ∧ FR 10 tg σ M (I, J, ri, rj, rq) (I, J, ri', rj, rq)) := by
  refine Met.ofW (cc := cX0_board) (maxL := 11) (ret := none) (by decide +kernel) rfl ?_
  intro p e s m args below meth c s₁ B hml hv
  obtain ⟨rfl, hsz, hP, hK, hD0, hN⟩ := hv
  have hx := B.exec
  have hb := B.bytes
  have hr := B.returns
  have hts := atoms_spec (ws := (wa yX0_board cX0_board 11 none)) B.pre
  have hown : s.vm.findClass RX0 = some m.cls := findClass_of_methodNamed B.named
  have hlocks := B.notSynchronized
  subst hsz
  have hD : va_D (pq_B t σ (I, J, ri, rj, rq) s.heap.size) (pq_P t σ (I, J, ri, rj, rq)) := hD0.self
  generalize hAe : pq_B t σ (I, J, ri, rj, rq) s.heap.size = A at hD ⊢
  have hA : ∀ q : Nat, s.heap.size ≤ q → A q := fun q h => by rw [← hAe]; exact Or.inr h
  have hS : va_S A s.heap s.heap [] := va_S.rf
  have hG : GX [1005] tg σ I ri rj I ri rj rq := ⟨hG0, fun _ _ _ => rfl, fun _ _ _ _ _ => rfl, fun _ _ _ _ _ => rfl⟩
  have hl := lv_entry ([.ref this, .long a0, .ref a1, .int a2, .int a3, .int a4]) (n := 11) (Nat.le_of_ble_eq_true rfl)
  rw [lg_entry_eq]
  generalize (lg_sl ([.ref this, .long a0, .ref a1, .int a2, .int a3, .int a4]) ++ List.replicate (11 - (lg_sl ([.ref this, .long a0, .ref a1, .int a2, .int a3, .int a4])).length) Slot.unset).toArray = ls at hl ⊢
  have hl : lv_has ls 11 [(0, .ref this), (1, .long a0), (3, .ref a1), (4, .int a2), (5, .int a3), (6, .int a4)] := hl
  refine q_gen (fun Q hQ => ?_)
  have go : ∀ (H : Heap) (locs : List Loc) (ls : Array Slot), va_P D vwCl (pq_P t σ (I, J, ri, rj, rq)) H → va_D A (pq_P t σ (I, J, ri, rj, rq)) → va_S A s.heap H locs → lv_has ls 11 [(0, .ref this), (1, .long a0), (3, .ref a1), (4, .int a2), (5, .int a3), (6, .int a4)] → W p l e ({ frames := 2, cells := 0, slots := 0, locals := 45 } : Room) s m (List.toArray ([.ref this, .long a0, .ref a1, .int a2, .int a3, .int a4] : List Value)) below meth c H locs 0 0 Q (F0 m 0 ls []) := by
    intro H locs ls hP hD hS hl
    have hVT : VT 10 σ tg M := vt_10 hSH hL_M hK_M
    have hFr : FR 10 tg σ M (I, J, ri, rj, rq) (I, J, ri, rj, rq) := fr_rf
    refine lv_aload_n hx hb dX0_board_0 rfl (lv_at hl 0 rfl) ?_
    refine lv_lload_n hx hb dX0_board_1 rfl (lv_at hl 1 rfl) ?_
    refine pk_v (va_runV (As := [.long a0]) (rest := []) ⟨hx, hb, hml, hown, hts⟩ (s_X0_countGroups l D t σ I J ri rj rq H.size tg hSH hG.1 this a0 hL_this hK_this M hL_M hK_M hO_this) (cwV 1 hts (tw_V tw_1172 tw_1173 tw_1174 tw_45 tw_1175) rfl rfl rfl cv_yX0_countGroups_1 ⟨Nat.le_of_ble_eq_true rfl, Nat.le_of_ble_eq_true rfl⟩) ⟨pq_blind, pq_recv hK hP hL_this hK_this (by decide +kernel) rfl, pq_pre hK hN hP hD⟩ rfl rfl hl.1 rfl (lv_room (Nat.le_of_ble_eq_true rfl)) dX0_board_2 ⟨Nat.le_of_ble_eq_true rfl, Nat.le_of_ble_eq_true rfl⟩) hD hS hA (fun σ1 μ1 H locs hw_2 hP hD hS => ?_)
    obtain ⟨ri_3, hu_4, hg_5, hfn_7, hfr_8⟩ := hw_2
    obtain ⟨hu_4a, hu_4b⟩ := Prod.mk.inj hu_4
    rw [hu_4a, hu_4b] at hP hD
    replace hFr := fr_tr hFr hfr_8
    have hG := GX.tr hG hg_5 (by decide +kernel)
    refine lv_iconst (v := 0) hx hb dX0_board_5 (by decide +kernel) ?_
    refine lv_istore (lv' := [(7, .int 0), (0, .ref this), (1, .long a0), (3, .ref a1), (4, .int a2), (5, .int a3), (6, .int a4)]) hx hb dX0_board_6 hl (by decide +kernel) rfl (fun ls hl => ?_)
    have L_8681 : ∀ (n_8680 : Nat) (x_7440 : Int32) (ri_7441 : Nat → Nat → Int32) (H : Heap) (locs : List Loc) (ls : Array Slot), rg x_7440 0 5 → (5 - (x_7440).toInt).toNat < n_8680 → FR 10 tg σ M (I, J, ri, rj, rq) (I, J, ri_7441, rj, rq) → GX [1005] tg σ I ri rj I ri_7441 rj rq → va_P D vwCl (pq_P t σ (I, J, ri_7441, rj, rq)) H → va_D A (pq_P t σ (I, J, ri_7441, rj, rq)) → va_S A s.heap H locs → lv_has ls 11 [(0, .ref this), (1, .long a0), (3, .ref a1), (4, .int a2), (5, .int a3), (6, .int a4), (7, .int x_7440)] → W p l e ({ frames := 2, cells := 0, slots := 0, locals := 45 } : Room) s m (List.toArray ([.ref this, .long a0, .ref a1, .int a2, .int a3, .int a4] : List Value)) below meth c H locs 0 0 Q (F0 m 8 ls []) := by
      intro n_8680
      induction n_8680 with
      | zero => intro x_7440 ri_7441 H locs ls h_8684 hm_8679 hFr hG hP hD hS hl; exact absurd hm_8679 (Nat.not_lt_zero _)
      | succ n_8680 ih_8682 =>
        intro x_7440 ri_7441 H locs ls h_8684 hm_8679 hFr hG hP hD hS hl
        refine lv_iload hx hb dX0_board_8 (lv_at hl 6 rfl) ?_
        refine lv_aload_n hx hb dX0_board_10 rfl (lv_at hl 0 rfl) ?_
        refine pg_f (v := .int (I 10 this)) (C := RX0) (T := TX0) (N := 16) hx hb hts (tw_i inlX0) hown hK hP hL_this hK_this (by decide +kernel) rfl 10 (by decide +kernel) (hts _ (tw_c tw_1171)) rfl dX0_board_11 ?_
        have h_8685 : rg (I 10 this) 0 5 := GX.rI hG 10 rfl
        refine lv_icmp_ge (tgt := 36) hx hb dX0_board_14 (by decide +kernel) (fun c_8686 => ?_) (fun c_8686 => ?_)
        · refine lv_iload hx hb dX0_board_36 (lv_at hl 4 rfl) ?_
          refine lv_istore (lv' := [(7, .int a3), (0, .ref this), (1, .long a0), (3, .ref a1), (4, .int a2), (5, .int a3), (6, .int a4)]) hx hb dX0_board_38 hl (by decide +kernel) rfl (fun ls hl => ?_)
          refine lv_iconst (v := 0) hx hb dX0_board_40 (by decide +kernel) ?_
          refine lv_istore (lv' := [(8, .int 0), (7, .int a3), (0, .ref this), (1, .long a0), (3, .ref a1), (4, .int a2), (5, .int a3), (6, .int a4)]) hx hb dX0_board_41 hl (by decide +kernel) rfl (fun ls hl => ?_)
          have L_9822 : ∀ (n_9821 : Nat) (x_9731 : Int32) (x_9732 : Int32) (ri_9733 : Nat → Nat → Int32) (H : Heap) (locs : List Loc) (ls : Array Slot), rg x_9732 0 40 → (40 - (x_9732).toInt).toNat < n_9821 → FR 10 tg σ M (I, J, ri, rj, rq) (I, J, ri_9733, rj, rq) → GX [1005] tg σ I ri rj I ri_9733 rj rq → va_P D vwCl (pq_P t σ (I, J, ri_9733, rj, rq)) H → va_D A (pq_P t σ (I, J, ri_9733, rj, rq)) → va_S A s.heap H locs → lv_has ls 11 [(0, .ref this), (1, .long a0), (3, .ref a1), (4, .int a2), (6, .int a4), (7, .int x_9731), (8, .int x_9732)] → W p l e ({ frames := 2, cells := 0, slots := 0, locals := 45 } : Room) s m (List.toArray ([.ref this, .long a0, .ref a1, .int a2, .int a3, .int a4] : List Value)) below meth c H locs 0 0 Q (F0 m 43 ls []) := by
            intro n_9821
            induction n_9821 with
            | zero => intro x_9731 x_9732 ri_9733 H locs ls h_9825 hm_9820 hFr hG hP hD hS hl; exact absurd hm_9820 (Nat.not_lt_zero _)
            | succ n_9821 ih_9823 =>
              intro x_9731 x_9732 ri_9733 H locs ls h_9825 hm_9820 hFr hG hP hD hS hl
              refine lv_iload hx hb dX0_board_43 (lv_at hl 6 rfl) ?_
              refine lv_iload hx hb dX0_board_45 (lv_at hl 3 rfl) ?_
              refine lv_icmp_ge (tgt := 208) hx hb dX0_board_47 (by decide +kernel) (fun c_9826 => ?_) (fun c_9826 => ?_)
              · have h_9827 : rg a2 (-2147483648) 40 := rg_le1 c_9826 (rg_full _) h_9825 (by decide +kernel)
                subst hQ
                exact W.vret hx hb hr (fun t1 ht hW => ⟨⟨(σ, I, J, ri_9733, rj, rq), rfl, ⟨ri_9733, rfl, hG, hFr⟩, by rw [ht]; exact hP, va_K.moved hW.alike hK, hD⟩, hS.F ht⟩) hS.2.2 dX0_board_208
              · have h_9828 : rg a2 1 2147483647 := rg_lt2 (nle c_9826) h_9825 (rg_full _) (by decide +kernel)
                refine lv_iload hx hb dX0_board_50 (lv_at hl 6 rfl) ?_
                refine lv_aload_n hx hb dX0_board_52 rfl (lv_at hl 2 rfl) ?_
                refine pn_i (v := 40) hx hb hK hP hL_a1 hK_a1 hN_a1 (by decide +kernel) dX0_board_53 ?_
                refine lv_icmp_ge (tgt := 208) hx hb dX0_board_54 (by decide +kernel) (fun c_9829 => ?_) (fun c_9829 => ?_)
                · have h_9830 : rg x_9732 40 40 := rg_le2 c_9829 (rg_k (40 : Int32) 40 rfl) h_9825 (by decide +kernel)
                  subst hQ
                  exact W.vret hx hb hr (fun t1 ht hW => ⟨⟨(σ, I, J, ri_9733, rj, rq), rfl, ⟨ri_9733, rfl, hG, hFr⟩, by rw [ht]; exact hP, va_K.moved hW.alike hK, hD⟩, hS.F ht⟩) hS.2.2 dX0_board_208
                · have h_9831 : rg x_9732 0 39 := rg_lt1 (nle c_9829) h_9825 (rg_k (40 : Int32) 40 rfl) (by decide +kernel)
                  refine lv_aload_n hx hb dX0_board_57 rfl (lv_at hl 2 rfl) ?_
                  refine lv_iload hx hb dX0_board_58 (lv_at hl 6 rfl) ?_
                  refine pl_i hx hb hK hP hL_a1 hK_a1 hN_a1 (rg_in h_9831 (by decide +kernel)) dX0_board_60 ?_
                  refine lv_topi (fun x_9832 ex_9832 => ?_)
                  have h_9833 : rg x_9832 0 39 := rg_of_eq ex_9832 (GX.rR hG hT_a1 rfl)
                  refine lv_istore (lv' := [(9, .int x_9832), (0, .ref this), (1, .long a0), (3, .ref a1), (4, .int a2), (6, .int a4), (7, .int x_9731), (8, .int x_9732)]) hx hb dX0_board_61 hl (by decide +kernel) rfl (fun ls hl => ?_)
                  refine lv_lload_n hx hb dX0_board_63 rfl (lv_at hl 2 rfl) ?_
                  refine lv_iload hx hb dX0_board_64 (lv_at hl 0 rfl) ?_
                  refine pk_i (va_runSN (As := [.long a0, .int x_9832]) (rest := []) ⟨hx, hb, hml, hown, hts⟩ (s_X11_hasBit l D t σ I J ri_9733 rj rq H.size tg hSH hG.1 a0 x_9832) ⟨va_cnB (host := "RingsUnder") 2 hts (tw_W tw_560) rfl rfl rfl (nl_13 hN) (hts _ (tw_c tw_2)) cd_yX11_hasBit_2 ⟨Nat.le_of_ble_eq_true rfl, Nat.le_of_ble_eq_true rfl⟩, hts (.static yX11_hasBit) (tw_c tq_static_yX11_hasBit), trivial⟩ ⟨pq_blind, pq_pre hK hN hP hD⟩ rfl rfl hl.1 rfl (lv_room (Nat.le_of_ble_eq_true rfl)) dX0_board_66 ⟨Nat.le_of_ble_eq_true rfl, Nat.le_of_ble_eq_true rfl⟩) hD hS hA (fun x_9834 σ1 μ1 H locs hw_9835 hP hD hS => ?_)
                  obtain ⟨hu_9836, hfn_9839, hr_9838⟩ := hw_9835
                  obtain ⟨hu_9836a, hu_9836b⟩ := Prod.mk.inj hu_9836
                  rw [hu_9836a, hu_9836b] at hP hD
                  have h_9841 : rg x_9834 0 1 := by rcases hr_9838 with ⟨q, -⟩ | ⟨q, -⟩ <;> rw [q] <;> exact ⟨by decide +kernel, by decide +kernel⟩
                  have K_9911 : ∀  (x_9907 : Int32) (ri_9908 : Nat → Nat → Int32) (H : Heap) (locs : List Loc) (ls : Array Slot), FR 10 tg σ M (I, J, ri, rj, rq) (I, J, ri_9908, rj, rq) → GX [1005] tg σ I ri rj I ri_9908 rj rq → va_P D vwCl (pq_P t σ (I, J, ri_9908, rj, rq)) H → va_D A (pq_P t σ (I, J, ri_9908, rj, rq)) → va_S A s.heap H locs → lv_has ls 11 [(0, .ref this), (1, .long a0), (3, .ref a1), (4, .int a2), (6, .int a4), (7, .int x_9907), (8, .int x_9732)] → W p l e ({ frames := 2, cells := 0, slots := 0, locals := 45 } : Room) s m (List.toArray ([.ref this, .long a0, .ref a1, .int a2, .int a3, .int a4] : List Value)) below meth c H locs 0 0 Q (F0 m 202 ls []) := by
                    intro x_9907 ri_9908 H locs ls hFr hG hP hD hS hl
                    obtain ⟨x_9912, ex_9912⟩ : ∃ y : Int32, y = x_9732 + Int32.ofInt 1 := ⟨_, rfl⟩
                    have h_9913 : rg x_9912 1 40 := rg_of_eq ex_9912 (rg_add h_9831 (rg_k (Int32.ofInt 1) 1 rfl) (by decide +kernel))
                    refine lv_iinc (v := x_9912) (lv' := [(8, .int x_9912), (0, .ref this), (1, .long a0), (3, .ref a1), (4, .int a2), (6, .int a4), (7, .int x_9907)]) hx hb dX0_board_202 hl (k := 6) rfl ex_9912.symm (by decide +kernel) rfl (fun ls hl => ?_)
                    refine lv_goto (tgt := 43) hx hb dX0_board_205 (by decide +kernel) ?_
                    exact ih_9823 x_9907 x_9912 ri_9908 _ _ _ (rg_w h_9913 (by decide +kernel)) (ms_up 1 hm_9820 ex_9912 rfl (by decide +kernel) h_9831 (by decide +kernel) (by decide +kernel)) hFr hG hP hD hS (lv_sub hl [1, 2, 3, 4, 5, 6, 0] rfl)
                  refine lv_if_eq (tgt := 202) hx hb dX0_board_69 (by decide +kernel) (fun c_9914 => ?_) (fun c_9914 => ?_)
                  · have h_9915 : rg x_9834 0 0 := rg_and h_9841 (rg_of_eq c_9914 (rg_k (0 : Int32) 0 rfl)) (by decide +kernel)
                    exact K_9911 x_9731 ri_9733 _ _ _ hFr hG hP hD hS (lv_sub hl [1, 2, 3, 4, 5, 6, 7] rfl)
                  · have h_9916 : rg x_9834 1 1 := rg_ne c_9914 h_9841 0 rfl (by decide +kernel)
                    refine lv_aload_n hx hb dX0_board_72 rfl (lv_at hl 1 rfl) ?_
                    refine lv_iload hx hb dX0_board_73 (lv_at hl 0 rfl) ?_
                    obtain ⟨w_9917, hR_w_9917, hL_w_9917, hK_w_9917, hN_w_9917, hT_w_9917⟩ := sh_a hSH 5 (ci := 0) (kd := 13) (len := 40) rfl (by decide +kernel) hL_this hK_this
                    have hO_w_9917 : w_9917 = vrow σ 5 M := vo_k (c := 0) hO_this hR_w_9917
                    refine pk_i (va_runV (As := [.int x_9832]) (rest := []) ⟨hx, hb, hml, hown, hts⟩ (s_X0_isOnRing l D t σ I J ri_9733 rj rq H.size tg hSH hG.1 this x_9832 hL_this hK_this (rg_w h_9833 (by decide +kernel)) w_9917 hR_w_9917 hL_w_9917 hK_w_9917 hN_w_9917 hT_w_9917 M hL_M hK_M hO_this) (cwV 1 hts (tw_V tw_1108 tw_1109 tw_1110 tw_45 tw_1111) rfl rfl rfl cv_yX0_isOnRing_1 ⟨Nat.le_of_ble_eq_true rfl, Nat.le_of_ble_eq_true rfl⟩) ⟨pq_blind, pq_recv hK hP hL_this hK_this (by decide +kernel) rfl, pq_pre hK hN hP hD⟩ rfl rfl hl.1 rfl (lv_room (Nat.le_of_ble_eq_true rfl)) dX0_board_75 ⟨Nat.le_of_ble_eq_true rfl, Nat.le_of_ble_eq_true rfl⟩) hD hS hA (fun x_9918 σ1 μ1 H locs hw_9919 hP hD hS => ?_)
                    obtain ⟨hu_9920, hfn_9923, hr_9922⟩ := hw_9919
                    obtain ⟨hu_9920a, hu_9920b⟩ := Prod.mk.inj hu_9920
                    rw [hu_9920a, hu_9920b] at hP hD
                    have h_9925 : rg x_9918 0 1 := by rcases hr_9922 with ⟨q, -⟩ | ⟨q, -⟩ <;> rw [q] <;> exact ⟨by decide +kernel, by decide +kernel⟩
                    refine lv_if_ne (tgt := 84) hx hb dX0_board_78 (by decide +kernel) (fun c_9926 => ?_) (fun c_9926 => ?_)
                    · have f_9927 := (hr_9922.resolve_right (fun q => c_9926 q.1)).2
                      have h_9928 : rg x_9918 1 1 := rg_ne c_9926 h_9925 0 rfl (by decide +kernel)
                      refine lv_aload_n hx hb dX0_board_84 rfl (lv_at hl 1 rfl) ?_
                      refine lv_iload hx hb dX0_board_85 (lv_at hl 0 rfl) ?_
                      refine pk_i (va_runV (As := [.int x_9832]) (rest := []) ⟨hx, hb, hml, hown, hts⟩ (s_X0_groupOf l D t σ I J ri_9733 rj rq H.size tg hSH hG.1 this x_9832 hL_this hK_this (rg_w h_9833 (by decide +kernel)) w_9917 hR_w_9917 hL_w_9917 hK_w_9917 hN_w_9917 hT_w_9917 (rg_w f_9927 (by decide +kernel)) M hL_M hK_M hO_this) (cwV 1 hts (tw_V tw_1176 tw_1177 tw_1178 tw_45 tw_1179) rfl rfl rfl cv_yX0_groupOf_1 ⟨Nat.le_of_ble_eq_true rfl, Nat.le_of_ble_eq_true rfl⟩) ⟨pq_blind, pq_recv hK hP hL_this hK_this (by decide +kernel) rfl, pq_pre hK hN hP hD⟩ rfl rfl hl.1 rfl (lv_room (Nat.le_of_ble_eq_true rfl)) dX0_board_87 ⟨Nat.le_of_ble_eq_true rfl, Nat.le_of_ble_eq_true rfl⟩) hD hS hA (fun x_9929 σ1 μ1 H locs hw_9930 hP hD hS => ?_)
                      obtain ⟨hu_9931, hfn_9934, hr_9933⟩ := hw_9930
                      obtain ⟨hu_9931a, hu_9931b⟩ := Prod.mk.inj hu_9931
                      rw [hu_9931a, hu_9931b] at hP hD
                      refine lv_istore (lv' := [(10, .int x_9929), (9, .int x_9832), (0, .ref this), (1, .long a0), (3, .ref a1), (4, .int a2), (6, .int a4), (7, .int x_9731), (8, .int x_9732)]) hx hb dX0_board_90 hl (by decide +kernel) rfl (fun ls hl => ?_)
                      refine lv_aload_n hx hb dX0_board_92 rfl (lv_at hl 2 rfl) ?_
                      obtain ⟨w_9936, hR_w_9936, hL_w_9936, hK_w_9936, hN_w_9936, hT_w_9936⟩ := sh_a hSH 15 (ci := 0) (kd := 13) (len := 50) rfl (by decide +kernel) hL_this hK_this
                      have hO_w_9936 : w_9936 = vrow σ 15 M := vo_k (c := 0) hO_this hR_w_9936
                      refine pg_f (v := .ref w_9936) (C := RX0) (T := TX0) (N := 16) hx hb hts (tw_i inlX0) hown hK hP hL_this hK_this (by decide +kernel) rfl 15 (by decide +kernel) (hts _ (tw_c tw_123)) (pq_hv rfl hR_w_9936) dX0_board_93 ?_
                      refine lv_iload hx hb dX0_board_96 (lv_at hl 0 rfl) ?_
                      refine pl_i hx hb hK hP hL_w_9936 hK_w_9936 hN_w_9936 (rg_in hr_9933 (by decide +kernel)) dX0_board_98 ?_
                      refine lv_topi (fun x_9937 ex_9937 => ?_)
                      have h_9938 : rg x_9937 (-2) 4 := rg_of_eq ex_9937 (GX.rR hG hT_w_9936 rfl)
                      refine lv_bipush (v := (-2)) hx hb dX0_board_99 (by decide +kernel) ?_
                      have K_9977 : ∀  (x_9966 : Int32) (ri_9967 : Nat → Nat → Int32) (H : Heap) (locs : List Loc) (ls : Array Slot), FR 10 tg σ M (I, J, ri, rj, rq) (I, J, ri_9967, rj, rq) → GX [1005] tg σ I ri rj I ri_9967 rj rq → va_P D vwCl (pq_P t σ (I, J, ri_9967, rj, rq)) H → va_D A (pq_P t σ (I, J, ri_9967, rj, rq)) → va_S A s.heap H locs → lv_has ls 11 [(0, .ref this), (1, .long a0), (3, .ref a1), (4, .int a2), (6, .int a4), (7, .int x_9966), (8, .int x_9732), (9, .int x_9832), (10, .int x_9929)] → W p l e ({ frames := 2, cells := 0, slots := 0, locals := 45 } : Room) s m (List.toArray ([.ref this, .long a0, .ref a1, .int a2, .int a3, .int a4] : List Value)) below meth c H locs 0 0 Q (F0 m 165 ls []) := by
                        intro x_9966 ri_9967 H locs ls hFr hG hP hD hS hl
                        refine lv_aload_n hx hb dX0_board_165 rfl (lv_at hl 0 rfl) ?_
                        refine pg_f (v := .ref w_9936) (C := RX0) (T := TX0) (N := 16) hx hb hts (tw_i inlX0) hown hK hP hL_this hK_this (by decide +kernel) rfl 15 (by decide +kernel) (hts _ (tw_c tw_123)) (pq_hv rfl hR_w_9936) dX0_board_166 ?_
                        refine lv_iload hx hb dX0_board_169 (lv_at hl 8 rfl) ?_
                        refine pl_i hx hb hK hP hL_w_9936 hK_w_9936 hN_w_9936 (rg_in hr_9933 (by decide +kernel)) dX0_board_171 ?_
                        refine lv_topi (fun x_9978 ex_9978 => ?_)
                        have h_9979 : rg x_9978 (-2) 4 := rg_of_eq ex_9978 (GX.rR hG hT_w_9936 rfl)
                        refine lv_iconst (v := (-1)) hx hb dX0_board_172 (by decide +kernel) ?_
                        refine lv_icmp_eq (tgt := 202) hx hb dX0_board_173 (by decide +kernel) (fun c_9980 => ?_) (fun c_9980 => ?_)
                        · have h_9981 : rg x_9978 (-1) (-1) := rg_and h_9979 (rg_of_eq c_9980 (rg_k (-1 : Int32) (-1) rfl)) (by decide +kernel)
                          exact K_9911 x_9966 ri_9967 _ _ _ hFr hG hP hD hS (lv_sub hl [0, 1, 2, 3, 4, 5, 6] rfl)
                        · refine lv_aload_n hx hb dX0_board_176 rfl (lv_at hl 0 rfl) ?_
                          refine pg_f (v := .ref w_9917) (C := RX0) (T := TX0) (N := 16) hx hb hts (tw_i inlX0) hown hK hP hL_this hK_this (by decide +kernel) rfl 5 (by decide +kernel) (hts _ (tw_c tw_114)) (pq_hv rfl hR_w_9917) dX0_board_177 ?_
                          refine lv_iload hx hb dX0_board_180 (lv_at hl 7 rfl) ?_
                          refine lv_bipush (v := 100) hx hb dX0_board_182 (by decide +kernel) ?_
                          refine lv_aload_n hx hb dX0_board_184 rfl (lv_at hl 0 rfl) ?_
                          refine pg_f (v := .ref w_9936) (C := RX0) (T := TX0) (N := 16) hx hb hts (tw_i inlX0) hown hK hP hL_this hK_this (by decide +kernel) rfl 15 (by decide +kernel) (hts _ (tw_c tw_123)) (pq_hv rfl hR_w_9936) dX0_board_185 ?_
                          refine lv_iload hx hb dX0_board_188 (lv_at hl 8 rfl) ?_
                          refine pl_i hx hb hK hP hL_w_9936 hK_w_9936 hN_w_9936 (rg_in hr_9933 (by decide +kernel)) dX0_board_190 ?_
                          refine lv_tov x_9978 ex_9978.symm ?_
                          refine lv_iadd hx hb dX0_board_191 ?_
                          refine lv_topi (fun x_9982 ex_9982 => ?_)
                          have h_9983 : rg x_9982 98 104 := rg_of_eq ex_9982 (rg_add (rg_k (100 : Int32) 100 rfl) h_9979 (by decide +kernel))
                          refine pt_i hx hb hK hP hD hS hL_w_9917 hK_w_9917 hN_w_9917 (rg_in h_9833 (by decide +kernel)) dX0_board_192 (fun r_9984 H locs er_9984 hP hD hS => ?_)
                          replace hFr := fr_R hFr hO_w_9917 (by decide +kernel) er_9984
                          have hG := GX.wR hG hSH hT_w_9917 rfl er_9984 (rg_w h_9983 (by decide +kernel)) (by decide +kernel)
                          refine lv_aload_n hx hb dX0_board_193 rfl (lv_at hl 0 rfl) ?_
                          obtain ⟨w_9985, hR_w_9985, hL_w_9985, hK_w_9985, hN_w_9985, hT_w_9985⟩ := sh_a hSH 8 (ci := 0) (kd := 13) (len := 40) rfl (by decide +kernel) hL_this hK_this
                          have hO_w_9985 : w_9985 = vrow σ 8 M := vo_k (c := 0) hO_this hR_w_9985
                          refine pg_f (v := .ref w_9985) (C := RX0) (T := TX0) (N := 16) hx hb hts (tw_i inlX0) hown hK hP hL_this hK_this (by decide +kernel) rfl 8 (by decide +kernel) (hts _ (tw_c tw_117)) (pq_hv rfl hR_w_9985) dX0_board_194 ?_
                          refine lv_iload hx hb dX0_board_197 (lv_at hl 7 rfl) ?_
                          refine lv_iload hx hb dX0_board_199 (lv_at hl 4 rfl) ?_
                          refine pt_i hx hb hK hP hD hS hL_w_9985 hK_w_9985 hN_w_9985 (rg_in h_9833 (by decide +kernel)) dX0_board_201 (fun r_9986 H locs er_9986 hP hD hS => ?_)
                          replace hFr := fr_R hFr hO_w_9985 (by decide +kernel) er_9986
                          have hG := GX.wR hG hSH hT_w_9985 rfl er_9986 (rg_w (rg_full _) (by decide +kernel)) (by decide +kernel)
                          exact K_9911 x_9966 r_9986 _ _ _ hFr hG hP hD hS (lv_sub hl [0, 1, 2, 3, 4, 5, 6] rfl)
                      refine lv_icmp_ne (tgt := 165) hx hb dX0_board_101 (by decide +kernel) (fun c_9987 => ?_) (fun c_9987 => ?_)
                      · have h_9988 : rg x_9937 (-1) 4 := rg_ne c_9987 h_9938 (-2) rfl (by decide +kernel)
                        exact K_9977 x_9731 ri_9733 _ _ _ hFr hG hP hD hS (lv_sub hl [2, 3, 4, 5, 6, 7, 8, 1, 0] rfl)
                      · have h_9989 : rg x_9937 (-2) (-2) := rg_and h_9938 (rg_of_eq c_9987 (rg_k (-2 : Int32) (-2) rfl)) (by decide +kernel)
                        refine lv_aload_n hx hb dX0_board_104 rfl (lv_at hl 2 rfl) ?_
                        refine pg_f (v := .ref w_9936) (C := RX0) (T := TX0) (N := 16) hx hb hts (tw_i inlX0) hown hK hP hL_this hK_this (by decide +kernel) rfl 15 (by decide +kernel) (hts _ (tw_c tw_123)) (pq_hv rfl hR_w_9936) dX0_board_105 ?_
                        refine lv_iload hx hb dX0_board_108 (lv_at hl 0 rfl) ?_
                        refine lv_aload_n hx hb dX0_board_110 rfl (lv_at hl 2 rfl) ?_
                        obtain ⟨w_9990, hR_w_9990, hL_w_9990, hK_w_9990, hN_w_9990, hT_w_9990⟩ := sh_a hSH 14 (ci := 0) (kd := 13) (len := 50) rfl (by decide +kernel) hL_this hK_this
                        have hO_w_9990 : w_9990 = vrow σ 14 M := vo_k (c := 0) hO_this hR_w_9990
                        refine pg_f (v := .ref w_9990) (C := RX0) (T := TX0) (N := 16) hx hb hts (tw_i inlX0) hown hK hP hL_this hK_this (by decide +kernel) rfl 14 (by decide +kernel) (hts _ (tw_c tw_122)) (pq_hv rfl hR_w_9990) dX0_board_111 ?_
                        refine lv_iload hx hb dX0_board_114 (lv_at hl 0 rfl) ?_
                        refine pl_i hx hb hK hP hL_w_9990 hK_w_9990 hN_w_9990 (rg_in hr_9933 (by decide +kernel)) dX0_board_116 ?_
                        refine lv_topi (fun x_9991 ex_9991 => ?_)
                        refine lv_iload hx hb dX0_board_117 (lv_at hl 7 rfl) ?_
                        have K_10014 : ∀  (x_10003 : Int32) (ri_10004 : Nat → Nat → Int32) (H : Heap) (locs : List Loc) (ls : Array Slot), rg x_10003 (-1) 4 → FR 10 tg σ M (I, J, ri, rj, rq) (I, J, ri_10004, rj, rq) → GX [1005] tg σ I ri rj I ri_10004 rj rq → va_P D vwCl (pq_P t σ (I, J, ri_10004, rj, rq)) H → va_D A (pq_P t σ (I, J, ri_10004, rj, rq)) → va_S A s.heap H locs → lv_has ls 11 [(0, .ref this), (1, .long a0), (3, .ref a1), (4, .int a2), (6, .int a4), (7, .int x_9731), (8, .int x_9732), (9, .int x_9832), (10, .int x_9929)] → W p l e ({ frames := 2, cells := 0, slots := 0, locals := 45 } : Room) s m (List.toArray ([.ref this, .long a0, .ref a1, .int a2, .int a3, .int a4] : List Value)) below meth c H locs 0 0 Q (F0 m 137 ls [.int x_10003, .int x_9929, .ref w_9936]) := by
                          intro x_10003 ri_10004 H locs ls h_10016 hFr hG hP hD hS hl
                          refine pt_i hx hb hK hP hD hS hL_w_9936 hK_w_9936 hN_w_9936 (rg_in hr_9933 (by decide +kernel)) dX0_board_137 (fun r_10017 H locs er_10017 hP hD hS => ?_)
                          replace hFr := fr_R hFr hO_w_9936 (by decide +kernel) er_10017
                          have hG := GX.wR hG hSH hT_w_9936 rfl er_10017 (rg_w h_10016 (by decide +kernel)) (by decide +kernel)
                          refine lv_iload hx hb dX0_board_138 (lv_at hl 5 rfl) ?_
                          refine lv_aload_n hx hb dX0_board_140 rfl (lv_at hl 0 rfl) ?_
                          refine pg_f (v := .ref w_9936) (C := RX0) (T := TX0) (N := 16) hx hb hts (tw_i inlX0) hown hK hP hL_this hK_this (by decide +kernel) rfl 15 (by decide +kernel) (hts _ (tw_c tw_123)) (pq_hv rfl hR_w_9936) dX0_board_141 ?_
                          refine lv_iload hx hb dX0_board_144 (lv_at hl 8 rfl) ?_
                          refine pl_i hx hb hK hP hL_w_9936 hK_w_9936 hN_w_9936 (rg_in hr_9933 (by decide +kernel)) dX0_board_146 ?_
                          refine lv_topi (fun x_10018 ex_10018 => ?_)
                          have h_10019 : rg x_10018 (-2) 4 := rg_of_eq ex_10018 (GX.rR hG hT_w_9936 rfl)
                          refine lv_iconst (v := (-1)) hx hb dX0_board_147 (by decide +kernel) ?_
                          have K_10025 : ∀  (x_10023 : Int32) (H : Heap) (locs : List Loc) (ls : Array Slot), FR 10 tg σ M (I, J, ri, rj, rq) (I, J, r_10017, rj, rq) → GX [1005] tg σ I ri rj I r_10017 rj rq → va_P D vwCl (pq_P t σ (I, J, r_10017, rj, rq)) H → va_D A (pq_P t σ (I, J, r_10017, rj, rq)) → va_S A s.heap H locs → lv_has ls 11 [(0, .ref this), (1, .long a0), (3, .ref a1), (4, .int a2), (6, .int a4), (8, .int x_9732), (9, .int x_9832), (10, .int x_9929)] → W p l e ({ frames := 2, cells := 0, slots := 0, locals := 45 } : Room) s m (List.toArray ([.ref this, .long a0, .ref a1, .int a2, .int a3, .int a4] : List Value)) below meth c H locs 0 0 Q (F0 m 162 ls [.int x_10023, .int x_9731]) := by
                            intro x_10023 H locs ls hFr hG hP hD hS hl
                            refine lv_isub hx hb dX0_board_162 ?_
                            refine lv_topi (fun x_10026 ex_10026 => ?_)
                            refine lv_istore (lv' := [(7, .int x_10026), (0, .ref this), (1, .long a0), (3, .ref a1), (4, .int a2), (6, .int a4), (8, .int x_9732), (9, .int x_9832), (10, .int x_9929)]) hx hb dX0_board_163 hl (by decide +kernel) rfl (fun ls hl => ?_)
                            exact K_9977 x_10026 r_10017 _ _ _ hFr hG hP hD hS (lv_sub hl [1, 2, 3, 4, 5, 0, 6, 7, 8] rfl)
                          refine lv_icmp_ne (tgt := 155) hx hb dX0_board_148 (by decide +kernel) (fun c_10027 => ?_) (fun c_10027 => ?_)
                          · refine lv_aload_n hx hb dX0_board_155 rfl (lv_at hl 0 rfl) ?_
                            refine pg_f (v := .ref w_9990) (C := RX0) (T := TX0) (N := 16) hx hb hts (tw_i inlX0) hown hK hP hL_this hK_this (by decide +kernel) rfl 14 (by decide +kernel) (hts _ (tw_c tw_122)) (pq_hv rfl hR_w_9990) dX0_board_156 ?_
                            refine lv_iload hx hb dX0_board_159 (lv_at hl 8 rfl) ?_
                            refine pl_i hx hb hK hP hL_w_9990 hK_w_9990 hN_w_9990 (rg_in hr_9933 (by decide +kernel)) dX0_board_161 ?_
                            refine lv_topi (fun x_10028 ex_10028 => ?_)
                            exact K_10025 x_10028 _ _ _ hFr hG hP hD hS (lv_sub hl [0, 1, 2, 3, 4, 6, 7, 8] rfl)
                          · have h_10029 : rg x_10018 (-1) (-1) := rg_and h_10019 (rg_of_eq c_10027 (rg_k (-1 : Int32) (-1) rfl)) (by decide +kernel)
                            refine lv_iconst (v := 0) hx hb dX0_board_151 (by decide +kernel) ?_
                            refine lv_goto (tgt := 162) hx hb dX0_board_152 (by decide +kernel) ?_
                            exact K_10025 (0 : Int32) _ _ _ hFr hG hP hD hS (lv_sub hl [0, 1, 2, 3, 4, 6, 7, 8] rfl)
                        refine lv_icmp_gt (tgt := 136) hx hb dX0_board_119 (by decide +kernel) (fun c_10030 => ?_) (fun c_10030 => ?_)
                        · have h_10031 : rg x_9731 (-2147483648) 2147483646 := rg_lt1 c_10030 (rg_full _) (rg_full _) (by decide +kernel)
                          have h_10032 : rg x_9991 (-2147483647) 2147483647 := rg_lt2 c_10030 (rg_full _) (rg_full _) (by decide +kernel)
                          refine lv_iconst (v := (-1)) hx hb dX0_board_136 (by decide +kernel) ?_
                          exact K_10014 (-1 : Int32) ri_9733 _ _ _ (rg_w (rg_k (-1 : Int32) (-1) rfl) (by decide +kernel)) hFr hG hP hD hS (lv_sub hl [2, 3, 4, 5, 6, 7, 8, 1, 0] rfl)
                        · refine lv_aload_n hx hb dX0_board_122 rfl (lv_at hl 2 rfl) ?_
                          refine lv_aload_n hx hb dX0_board_123 rfl (lv_at hl 2 rfl) ?_
                          refine pg_f (v := .ref w_9990) (C := RX0) (T := TX0) (N := 16) hx hb hts (tw_i inlX0) hown hK hP hL_this hK_this (by decide +kernel) rfl 14 (by decide +kernel) (hts _ (tw_c tw_122)) (pq_hv rfl hR_w_9990) dX0_board_124 ?_
                          refine lv_iload hx hb dX0_board_127 (lv_at hl 0 rfl) ?_
                          refine pl_i hx hb hK hP hL_w_9990 hK_w_9990 hN_w_9990 (rg_in hr_9933 (by decide +kernel)) dX0_board_129 ?_
                          refine lv_tov x_9991 ex_9991.symm ?_
                          refine pk_i (va_runV (As := [.int x_9991]) (rest := [.int x_9929, .ref w_9936]) ⟨hx, hb, hml, hown, hts⟩ (s_X0_takeLot l D t σ I J ri_9733 rj rq H.size tg hSH hG.1 this x_9991 hL_this hK_this M hL_M hK_M hO_this) (cwV 1 hts (tw_V tw_1181 tw_1182 tw_1183 tw_45 tw_1184) rfl rfl rfl cv_yX0_takeLot_1 ⟨Nat.le_of_ble_eq_true rfl, Nat.le_of_ble_eq_true rfl⟩) ⟨pq_blind, pq_recv hK hP hL_this hK_this (by decide +kernel) rfl, pq_pre hK hN hP hD⟩ rfl rfl hl.1 rfl (lv_room (Nat.le_of_ble_eq_true rfl)) dX0_board_130 ⟨Nat.le_of_ble_eq_true rfl, Nat.le_of_ble_eq_true rfl⟩) hD hS hA (fun x_10033 σ1 μ1 H locs hw_10034 hP hD hS => ?_)
                          obtain ⟨ri_10035, hu_10036, hg_10037, hfn_10039, hfr_10040, hr_10038⟩ := hw_10034
                          obtain ⟨hu_10036a, hu_10036b⟩ := Prod.mk.inj hu_10036
                          rw [hu_10036a, hu_10036b] at hP hD
                          replace hFr := fr_tr hFr hfr_10040
                          have hG := GX.tr hG hg_10037 (by decide +kernel)
                          refine lv_goto (tgt := 137) hx hb dX0_board_133 (by decide +kernel) ?_
                          exact K_10014 x_10033 ri_10035 _ _ _ (rg_w hr_10038 (by decide +kernel)) hFr hG hP hD hS (lv_sub hl [2, 3, 4, 5, 6, 7, 8, 1, 0] rfl)
                    · have f_10041 := (hr_9922.resolve_left (fun q => absurd (q.1.symm.trans c_9926) (by decide +kernel))).2
                      have h_10042 : rg x_9918 0 0 := rg_and h_9925 (rg_of_eq c_9926 (rg_k (0 : Int32) 0 rfl)) (by decide +kernel)
                      refine lv_goto (tgt := 202) hx hb dX0_board_81 (by decide +kernel) ?_
                      exact K_9911 x_9731 ri_9733 _ _ _ hFr hG hP hD hS (lv_sub hl [1, 2, 3, 4, 5, 6, 7] rfl)
          exact L_9822 _ a3 (0 : Int32) ri_7441 _ _ _ (rg_w (rg_k (0 : Int32) 0 rfl) (by decide +kernel)) (Nat.lt_succ_self _) hFr hG hP hD hS (lv_sub hl [2, 3, 4, 5, 7, 1, 0] rfl)
        · have h_10043 : rg x_7440 0 4 := rg_lt1 (nle c_8686) h_8684 h_8685 (by decide +kernel)
          have h_10044 : rg (I 10 this) 1 5 := rg_lt2 (nle c_8686) h_8684 h_8685 (by decide +kernel)
          refine lv_aload_n hx hb dX0_board_17 rfl (lv_at hl 0 rfl) ?_
          obtain ⟨w_10045, hR_w_10045, hL_w_10045, hK_w_10045, hN_w_10045, hT_w_10045⟩ := sh_a hSH 13 (ci := 0) (kd := 13) (len := 5) rfl (by decide +kernel) hL_this hK_this
          have hO_w_10045 : w_10045 = vrow σ 13 M := vo_k (c := 0) hO_this hR_w_10045
          refine pg_f (v := .ref w_10045) (C := RX0) (T := TX0) (N := 16) hx hb hts (tw_i inlX0) hown hK hP hL_this hK_this (by decide +kernel) rfl 13 (by decide +kernel) (hts _ (tw_c tw_121)) (pq_hv rfl hR_w_10045) dX0_board_18 ?_
          refine lv_iload hx hb dX0_board_21 (lv_at hl 6 rfl) ?_
          refine lv_aload_n hx hb dX0_board_23 rfl (lv_at hl 0 rfl) ?_
          refine lv_iload hx hb dX0_board_24 (lv_at hl 6 rfl) ?_
          refine pk_i (va_runV (As := [.int x_7440]) (rest := [.int x_7440, .ref w_10045]) ⟨hx, hb, hml, hown, hts⟩ (s_X0_freeBeds l D t σ I J ri_7441 rj rq H.size tg hSH hG.1 this x_7440 hL_this hK_this (rg_w h_10043 (by decide +kernel)) M hL_M hK_M hO_this) (cwV 1 hts (tw_V tw_1180 tw_414 tw_415 tw_45 tw_416) rfl rfl rfl cv_yX0_freeBeds_1 ⟨Nat.le_of_ble_eq_true rfl, Nat.le_of_ble_eq_true rfl⟩) ⟨pq_blind, pq_recv hK hP hL_this hK_this (by decide +kernel) rfl, pq_pre hK hN hP hD⟩ rfl rfl hl.1 rfl (lv_room (Nat.le_of_ble_eq_true rfl)) dX0_board_26 ⟨Nat.le_of_ble_eq_true rfl, Nat.le_of_ble_eq_true rfl⟩) hD hS hA (fun x_10046 σ1 μ1 H locs hw_10047 hP hD hS => ?_)
          obtain ⟨hu_10048, hfn_10051⟩ := hw_10047
          obtain ⟨hu_10048a, hu_10048b⟩ := Prod.mk.inj hu_10048
          rw [hu_10048a, hu_10048b] at hP hD
          refine pt_i hx hb hK hP hD hS hL_w_10045 hK_w_10045 hN_w_10045 (rg_in h_10043 (by decide +kernel)) dX0_board_29 (fun r_10053 H locs er_10053 hP hD hS => ?_)
          replace hFr := fr_R hFr hO_w_10045 (by decide +kernel) er_10053
          have hG := GX.wR hG hSH hT_w_10045 rfl er_10053 (rg_w (rg_full _) (by decide +kernel)) (by decide +kernel)
          obtain ⟨x_10054, ex_10054⟩ : ∃ y : Int32, y = x_7440 + Int32.ofInt 1 := ⟨_, rfl⟩
          have h_10055 : rg x_10054 1 5 := rg_of_eq ex_10054 (rg_add h_10043 (rg_k (Int32.ofInt 1) 1 rfl) (by decide +kernel))
          refine lv_iinc (v := x_10054) (lv' := [(7, .int x_10054), (0, .ref this), (1, .long a0), (3, .ref a1), (4, .int a2), (5, .int a3), (6, .int a4)]) hx hb dX0_board_30 hl (k := 6) rfl ex_10054.symm (by decide +kernel) rfl (fun ls hl => ?_)
          refine lv_goto (tgt := 8) hx hb dX0_board_33 (by decide +kernel) ?_
          exact ih_8682 x_10054 r_10053 _ _ _ (rg_w h_10055 (by decide +kernel)) (ms_up 1 hm_8679 ex_10054 rfl (by decide +kernel) h_10043 (by decide +kernel) (by decide +kernel)) hFr hG hP hD hS (lv_sub hl [1, 2, 3, 4, 5, 6, 0] rfl)
    exact L_8681 _ (0 : Int32) ri_3 _ _ _ (rg_w (rg_k (0 : Int32) 0 rfl) (by decide +kernel)) (Nat.lt_succ_self _) hFr hG hP hD hS (lv_sub hl [1, 2, 3, 4, 5, 6, 0] rfl)
  exact go _ _ _ hP hD hS hl
