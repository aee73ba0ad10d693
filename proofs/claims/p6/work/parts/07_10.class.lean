theorem dX2_copyFrom_0 : decode cX2_copyFrom 0 = .ok (.aload_n 0, 1) := oc_42 (by decide +kernel)
theorem dX2_copyFrom_1 : decode cX2_copyFrom 1 = .ok (.aload_n 1, 1) := oc_43 (by decide +kernel)
theorem tw_1374 : Cond.fieldLink RX2 69 "RingsUnder$Land" "rings" "I" ∈ wsL_law := sg_58 _ (List.mem_of_getElem? (i := 6) rfl)
theorem dX2_copyFrom_2 : decode cX2_copyFrom 2 = .ok (.getfield 69, 3) := oc_180 (a := 0) (b := 69) (by decide +kernel)
theorem dX2_copyFrom_5 : decode cX2_copyFrom 5 = .ok (.putfield 69, 3) := oc_181 (a := 0) (b := 69) (by decide +kernel)
theorem dX2_copyFrom_8 : decode cX2_copyFrom 8 = .ok (.aload_n 0, 1) := oc_42 (by decide +kernel)
theorem dX2_copyFrom_9 : decode cX2_copyFrom 9 = .ok (.aload_n 1, 1) := oc_43 (by decide +kernel)
theorem dX2_copyFrom_10 : decode cX2_copyFrom 10 = .ok (.getfield 73, 3) := oc_180 (a := 0) (b := 73) (by decide +kernel)
theorem dX2_copyFrom_13 : decode cX2_copyFrom 13 = .ok (.putfield 73, 3) := oc_181 (a := 0) (b := 73) (by decide +kernel)
theorem dX2_copyFrom_16 : decode cX2_copyFrom 16 = .ok (.aload_n 0, 1) := oc_42 (by decide +kernel)
theorem dX2_copyFrom_17 : decode cX2_copyFrom 17 = .ok (.aload_n 1, 1) := oc_43 (by decide +kernel)
theorem tw_1069 : Cond.fieldLink RX2 76 "RingsUnder$Land" "deep" "I" ∈ wsL_law := sg_45 _ (List.mem_of_getElem? (i := 13) rfl)
theorem dX2_copyFrom_18 : decode cX2_copyFrom 18 = .ok (.getfield 76, 3) := oc_180 (a := 0) (b := 76) (by decide +kernel)
theorem dX2_copyFrom_21 : decode cX2_copyFrom 21 = .ok (.putfield 76, 3) := oc_181 (a := 0) (b := 76) (by decide +kernel)
theorem dX2_copyFrom_24 : decode cX2_copyFrom 24 = .ok (.aload_n 0, 1) := oc_42 (by decide +kernel)
theorem dX2_copyFrom_25 : decode cX2_copyFrom 25 = .ok (.aload_n 1, 1) := oc_43 (by decide +kernel)
theorem tw_558 : Cond.fieldLink RX2 79 "RingsUnder$Land" "dry" "J" ∈ wsL_law := sg_24 _ (List.mem_of_getElem? (i := 6) rfl)
theorem dX2_copyFrom_26 : decode cX2_copyFrom 26 = .ok (.getfield 79, 3) := oc_180 (a := 0) (b := 79) (by decide +kernel)
theorem dX2_copyFrom_29 : decode cX2_copyFrom 29 = .ok (.putfield 79, 3) := oc_181 (a := 0) (b := 79) (by decide +kernel)
theorem dX2_copyFrom_32 : decode cX2_copyFrom 32 = .ok (.aload_n 1, 1) := oc_43 (by decide +kernel)
theorem tw_82 : Cond.fieldLink RX2 9 "RingsUnder$Land" "rocks" "[J" ∈ wsL_law := sg_4 _ (List.mem_of_getElem? (i := 10) rfl)
theorem dX2_copyFrom_33 : decode cX2_copyFrom 33 = .ok (.getfield 9, 3) := oc_180 (a := 0) (b := 9) (by decide +kernel)
theorem dX2_copyFrom_36 : decode cX2_copyFrom 36 = .ok (.iconst 0, 1) := oc_3 (by decide +kernel)
theorem dX2_copyFrom_37 : decode cX2_copyFrom 37 = .ok (.aload_n 0, 1) := oc_42 (by decide +kernel)
theorem dX2_copyFrom_38 : decode cX2_copyFrom 38 = .ok (.getfield 9, 3) := oc_180 (a := 0) (b := 9) (by decide +kernel)
theorem dX2_copyFrom_41 : decode cX2_copyFrom 41 = .ok (.iconst 0, 1) := oc_3 (by decide +kernel)
theorem dX2_copyFrom_42 : decode cX2_copyFrom 42 = .ok (.sipush 600, 3) := oc_17 (a := 2) (b := 88) (by decide +kernel)
theorem tw_1375 : Cond.methodLink RX2 83 arraycopyName ∈ wsL_law := sg_58 _ (List.mem_of_getElem? (i := 7) rfl)
theorem dX2_copyFrom_45 : decode cX2_copyFrom 45 = .ok (.invokestatic 83, 3) := oc_184 (a := 0) (b := 83) (by decide +kernel)
theorem dX2_copyFrom_48 : decode cX2_copyFrom 48 = .ok (.aload_n 1, 1) := oc_43 (by decide +kernel)
theorem tw_83 : Cond.fieldLink RX2 15 "RingsUnder$Land" "ring" "[I" ∈ wsL_law := sg_4 _ (List.mem_of_getElem? (i := 11) rfl)
theorem dX2_copyFrom_49 : decode cX2_copyFrom 49 = .ok (.getfield 15, 3) := oc_180 (a := 0) (b := 15) (by decide +kernel)
theorem dX2_copyFrom_52 : decode cX2_copyFrom 52 = .ok (.aload_n 0, 1) := oc_42 (by decide +kernel)
theorem dX2_copyFrom_53 : decode cX2_copyFrom 53 = .ok (.getfield 15, 3) := oc_180 (a := 0) (b := 15) (by decide +kernel)
theorem dX2_copyFrom_56 : decode cX2_copyFrom 56 = .ok (.invokestatic 89, 3) := oc_184 (a := 0) (b := 89) (by decide +kernel)
theorem dX2_copyFrom_59 : decode cX2_copyFrom 59 = .ok (.aload_n 1, 1) := oc_43 (by decide +kernel)
theorem tw_84 : Cond.fieldLink RX2 19 "RingsUnder$Land" "height" "[I" ∈ wsL_law := sg_4 _ (List.mem_of_getElem? (i := 12) rfl)
theorem dX2_copyFrom_60 : decode cX2_copyFrom 60 = .ok (.getfield 19, 3) := oc_180 (a := 0) (b := 19) (by decide +kernel)
theorem dX2_copyFrom_63 : decode cX2_copyFrom 63 = .ok (.aload_n 0, 1) := oc_42 (by decide +kernel)
theorem dX2_copyFrom_64 : decode cX2_copyFrom 64 = .ok (.getfield 19, 3) := oc_180 (a := 0) (b := 19) (by decide +kernel)
theorem dX2_copyFrom_67 : decode cX2_copyFrom 67 = .ok (.invokestatic 89, 3) := oc_184 (a := 0) (b := 89) (by decide +kernel)
theorem dX2_copyFrom_70 : decode cX2_copyFrom 70 = .ok (.aload_n 1, 1) := oc_43 (by decide +kernel)
theorem tw_85 : Cond.fieldLink RX2 22 "RingsUnder$Land" "x" "[I" ∈ wsL_law := sg_4 _ (List.mem_of_getElem? (i := 13) rfl)
theorem dX2_copyFrom_71 : decode cX2_copyFrom 71 = .ok (.getfield 22, 3) := oc_180 (a := 0) (b := 22) (by decide +kernel)
theorem dX2_copyFrom_74 : decode cX2_copyFrom 74 = .ok (.aload_n 0, 1) := oc_42 (by decide +kernel)
theorem dX2_copyFrom_75 : decode cX2_copyFrom 75 = .ok (.getfield 22, 3) := oc_180 (a := 0) (b := 22) (by decide +kernel)
theorem dX2_copyFrom_78 : decode cX2_copyFrom 78 = .ok (.invokestatic 89, 3) := oc_184 (a := 0) (b := 89) (by decide +kernel)
theorem dX2_copyFrom_81 : decode cX2_copyFrom 81 = .ok (.aload_n 1, 1) := oc_43 (by decide +kernel)
theorem tw_86 : Cond.fieldLink RX2 25 "RingsUnder$Land" "y" "[I" ∈ wsL_law := sg_4 _ (List.mem_of_getElem? (i := 14) rfl)
theorem dX2_copyFrom_82 : decode cX2_copyFrom 82 = .ok (.getfield 25, 3) := oc_180 (a := 0) (b := 25) (by decide +kernel)
theorem dX2_copyFrom_85 : decode cX2_copyFrom 85 = .ok (.aload_n 0, 1) := oc_42 (by decide +kernel)
theorem dX2_copyFrom_86 : decode cX2_copyFrom 86 = .ok (.getfield 25, 3) := oc_180 (a := 0) (b := 25) (by decide +kernel)
theorem dX2_copyFrom_89 : decode cX2_copyFrom 89 = .ok (.invokestatic 89, 3) := oc_184 (a := 0) (b := 89) (by decide +kernel)
theorem dX2_copyFrom_92 : decode cX2_copyFrom 92 = .ok (.aload_n 1, 1) := oc_43 (by decide +kernel)
theorem tw_87 : Cond.fieldLink RX2 28 "RingsUnder$Land" "sand" "[I" ∈ wsL_law := sg_4 _ (List.mem_of_getElem? (i := 15) rfl)
theorem dX2_copyFrom_93 : decode cX2_copyFrom 93 = .ok (.getfield 28, 3) := oc_180 (a := 0) (b := 28) (by decide +kernel)
theorem dX2_copyFrom_96 : decode cX2_copyFrom 96 = .ok (.aload_n 0, 1) := oc_42 (by decide +kernel)
theorem dX2_copyFrom_97 : decode cX2_copyFrom 97 = .ok (.getfield 28, 3) := oc_180 (a := 0) (b := 28) (by decide +kernel)
theorem dX2_copyFrom_100 : decode cX2_copyFrom 100 = .ok (.invokestatic 89, 3) := oc_184 (a := 0) (b := 89) (by decide +kernel)
theorem dX2_copyFrom_103 : decode cX2_copyFrom 103 = .ok (.aload_n 1, 1) := oc_43 (by decide +kernel)
theorem tw_88 : Cond.fieldLink RX2 31 "RingsUnder$Land" "reef" "[I" ∈ wsL_law := sg_4 _ (List.mem_of_getElem? (i := 16) rfl)
theorem dX2_copyFrom_104 : decode cX2_copyFrom 104 = .ok (.getfield 31, 3) := oc_180 (a := 0) (b := 31) (by decide +kernel)
theorem dX2_copyFrom_107 : decode cX2_copyFrom 107 = .ok (.aload_n 0, 1) := oc_42 (by decide +kernel)
theorem dX2_copyFrom_108 : decode cX2_copyFrom 108 = .ok (.getfield 31, 3) := oc_180 (a := 0) (b := 31) (by decide +kernel)
theorem dX2_copyFrom_111 : decode cX2_copyFrom 111 = .ok (.invokestatic 89, 3) := oc_184 (a := 0) (b := 89) (by decide +kernel)
theorem dX2_copyFrom_114 : decode cX2_copyFrom 114 = .ok (.aload_n 1, 1) := oc_43 (by decide +kernel)
theorem tw_89 : Cond.fieldLink RX2 34 "RingsUnder$Land" "wall" "[I" ∈ wsL_law := sg_4 _ (List.mem_of_getElem? (i := 17) rfl)
theorem dX2_copyFrom_115 : decode cX2_copyFrom 115 = .ok (.getfield 34, 3) := oc_180 (a := 0) (b := 34) (by decide +kernel)
theorem dX2_copyFrom_118 : decode cX2_copyFrom 118 = .ok (.aload_n 0, 1) := oc_42 (by decide +kernel)
theorem dX2_copyFrom_119 : decode cX2_copyFrom 119 = .ok (.getfield 34, 3) := oc_180 (a := 0) (b := 34) (by decide +kernel)
theorem dX2_copyFrom_122 : decode cX2_copyFrom 122 = .ok (.invokestatic 89, 3) := oc_184 (a := 0) (b := 89) (by decide +kernel)
theorem dX2_copyFrom_125 : decode cX2_copyFrom 125 = .ok (.aload_n 1, 1) := oc_43 (by decide +kernel)
theorem tw_90 : Cond.fieldLink RX2 37 "RingsUnder$Land" "beds" "[I" ∈ wsL_law := sg_4 _ (List.mem_of_getElem? (i := 18) rfl)
theorem dX2_copyFrom_126 : decode cX2_copyFrom 126 = .ok (.getfield 37, 3) := oc_180 (a := 0) (b := 37) (by decide +kernel)
theorem dX2_copyFrom_129 : decode cX2_copyFrom 129 = .ok (.aload_n 0, 1) := oc_42 (by decide +kernel)
theorem dX2_copyFrom_130 : decode cX2_copyFrom 130 = .ok (.getfield 37, 3) := oc_180 (a := 0) (b := 37) (by decide +kernel)
theorem dX2_copyFrom_133 : decode cX2_copyFrom 133 = .ok (.invokestatic 89, 3) := oc_184 (a := 0) (b := 89) (by decide +kernel)
theorem dX2_copyFrom_136 : decode cX2_copyFrom 136 = .ok (.aload_n 1, 1) := oc_43 (by decide +kernel)
theorem tw_91 : Cond.fieldLink RX2 40 "RingsUnder$Land" "under" "[I" ∈ wsL_law := sg_4 _ (List.mem_of_getElem? (i := 19) rfl)
theorem dX2_copyFrom_137 : decode cX2_copyFrom 137 = .ok (.getfield 40, 3) := oc_180 (a := 0) (b := 40) (by decide +kernel)
theorem dX2_copyFrom_140 : decode cX2_copyFrom 140 = .ok (.aload_n 0, 1) := oc_42 (by decide +kernel)
theorem dX2_copyFrom_141 : decode cX2_copyFrom 141 = .ok (.getfield 40, 3) := oc_180 (a := 0) (b := 40) (by decide +kernel)
theorem dX2_copyFrom_144 : decode cX2_copyFrom 144 = .ok (.invokestatic 89, 3) := oc_184 (a := 0) (b := 89) (by decide +kernel)
theorem dX2_copyFrom_147 : decode cX2_copyFrom 147 = .ok (.aload_n 0, 1) := oc_42 (by decide +kernel)
theorem dX2_copyFrom_148 : decode cX2_copyFrom 148 = .ok (.getfield 46, 3) := oc_180 (a := 0) (b := 46) (by decide +kernel)
theorem dX2_copyFrom_151 : decode cX2_copyFrom 151 = .ok (.aload_n 1, 1) := oc_43 (by decide +kernel)
theorem dX2_copyFrom_152 : decode cX2_copyFrom 152 = .ok (.getfield 46, 3) := oc_180 (a := 0) (b := 46) (by decide +kernel)
theorem tw_1376 : Cond.methodLink RX2 93 yX9_copyFrom ∈ wsL_law := sg_58 _ (List.mem_of_getElem? (i := 8) rfl)
theorem tw_1377 : Cond.instanceMethod yX9_copyFrom ∈ wsL_law := sg_58 _ (List.mem_of_getElem? (i := 9) rfl)
theorem tw_1378 : Cond.selects RX9 yX9_copyFrom yX9_copyFrom ∈ wsL_law := sg_58 _ (List.mem_of_getElem? (i := 10) rfl)
theorem tw_1379 : Cond.code yX9_copyFrom cX9_copyFrom 2 none ∈ wsL_law := sg_58 _ (List.mem_of_getElem? (i := 11) rfl)
theorem dX2_copyFrom_155 : decode cX2_copyFrom 155 = .ok (.invokevirtual 93, 3) := oc_182 (a := 0) (b := 93) (by decide +kernel)
theorem dX2_copyFrom_158 : decode cX2_copyFrom 158 = .ok (.aload_n 1, 1) := oc_43 (by decide +kernel)
theorem dX2_copyFrom_159 : decode cX2_copyFrom 159 = .ok (.getfield 50, 3) := oc_180 (a := 0) (b := 50) (by decide +kernel)
theorem dX2_copyFrom_162 : decode cX2_copyFrom 162 = .ok (.aload_n 0, 1) := oc_42 (by decide +kernel)
theorem dX2_copyFrom_163 : decode cX2_copyFrom 163 = .ok (.getfield 50, 3) := oc_180 (a := 0) (b := 50) (by decide +kernel)
theorem dX2_copyFrom_166 : decode cX2_copyFrom 166 = .ok (.invokestatic 89, 3) := oc_184 (a := 0) (b := 89) (by decide +kernel)
theorem dX2_copyFrom_169 : decode cX2_copyFrom 169 = .ok (.aload_n 1, 1) := oc_43 (by decide +kernel)
theorem tw_97 : Cond.fieldLink RX2 53 "RingsUnder$Land" "first" "[I" ∈ wsL_law := sg_5 _ (List.mem_of_getElem? (i := 1) rfl)
theorem dX2_copyFrom_170 : decode cX2_copyFrom 170 = .ok (.getfield 53, 3) := oc_180 (a := 0) (b := 53) (by decide +kernel)
theorem dX2_copyFrom_173 : decode cX2_copyFrom 173 = .ok (.aload_n 0, 1) := oc_42 (by decide +kernel)
theorem dX2_copyFrom_174 : decode cX2_copyFrom 174 = .ok (.getfield 53, 3) := oc_180 (a := 0) (b := 53) (by decide +kernel)
theorem dX2_copyFrom_177 : decode cX2_copyFrom 177 = .ok (.invokestatic 89, 3) := oc_184 (a := 0) (b := 89) (by decide +kernel)
theorem dX2_copyFrom_180 : decode cX2_copyFrom 180 = .ok (.return_, 1) := oc_177 (by decide +kernel)
theorem dX2_joinRing_0 : decode cX2_joinRing 0 = .ok (.iconst (-1), 1) := oc_2 (by decide +kernel)
theorem dX2_joinRing_1 : decode cX2_joinRing 1 = .ok (.istore_n 3, 1) := oc_62 (by decide +kernel)
theorem dX2_joinRing_2 : decode cX2_joinRing 2 = .ok (.iconst 0, 1) := oc_3 (by decide +kernel)
theorem dX2_joinRing_3 : decode cX2_joinRing 3 = .ok (.istore 4, 2) := oc_54 (by decide +kernel)
theorem dX2_joinRing_5 : decode cX2_joinRing 5 = .ok (.iload 4, 2) := oc_21 (by decide +kernel)
theorem dX2_joinRing_7 : decode cX2_joinRing 7 = .ok (.iload_n 1, 1) := oc_27 (by decide +kernel)
theorem dX2_joinRing_8 : decode cX2_joinRing 8 = .ok (.if_icmp .ge 23, 3) := oc_162 (a := 0) (b := 23) (by decide +kernel)
theorem dX2_joinRing_31 : decode cX2_joinRing 31 = .ok (.iload_n 3, 1) := oc_29 (by decide +kernel)
theorem dX2_joinRing_32 : decode cX2_joinRing 32 = .ok (.iconst (-1), 1) := oc_2 (by decide +kernel)
theorem dX2_joinRing_33 : decode cX2_joinRing 33 = .ok (.if_icmp .ne 13, 3) := oc_160 (a := 0) (b := 13) (by decide +kernel)
theorem dX2_joinRing_46 : decode cX2_joinRing 46 = .ok (.aload_n 0, 1) := oc_42 (by decide +kernel)
theorem dX2_joinRing_47 : decode cX2_joinRing 47 = .ok (.getfield 50, 3) := oc_180 (a := 0) (b := 50) (by decide +kernel)
theorem dX2_joinRing_50 : decode cX2_joinRing 50 = .ok (.iload_n 3, 1) := oc_29 (by decide +kernel)
theorem dX2_joinRing_51 : decode cX2_joinRing 51 = .ok (.iload_n 1, 1) := oc_27 (by decide +kernel)
theorem dX2_joinRing_52 : decode cX2_joinRing 52 = .ok (.iastore, 1) := oc_79 (by decide +kernel)
theorem dX2_joinRing_53 : decode cX2_joinRing 53 = .ok (.return_, 1) := oc_177 (by decide +kernel)
theorem dX2_joinRing_36 : decode cX2_joinRing 36 = .ok (.aload_n 0, 1) := oc_42 (by decide +kernel)
theorem dX2_joinRing_37 : decode cX2_joinRing 37 = .ok (.getfield 53, 3) := oc_180 (a := 0) (b := 53) (by decide +kernel)
theorem dX2_joinRing_40 : decode cX2_joinRing 40 = .ok (.iload_n 2, 1) := oc_28 (by decide +kernel)
theorem dX2_joinRing_41 : decode cX2_joinRing 41 = .ok (.iload_n 1, 1) := oc_27 (by decide +kernel)
theorem dX2_joinRing_42 : decode cX2_joinRing 42 = .ok (.iastore, 1) := oc_79 (by decide +kernel)
theorem dX2_joinRing_43 : decode cX2_joinRing 43 = .ok (.goto 10, 3) := oc_167 (a := 0) (b := 10) (by decide +kernel)
theorem dX2_joinRing_11 : decode cX2_joinRing 11 = .ok (.aload_n 0, 1) := oc_42 (by decide +kernel)
theorem dX2_joinRing_12 : decode cX2_joinRing 12 = .ok (.getfield 15, 3) := oc_180 (a := 0) (b := 15) (by decide +kernel)
theorem dX2_joinRing_15 : decode cX2_joinRing 15 = .ok (.iload 4, 2) := oc_21 (by decide +kernel)
theorem dX2_joinRing_17 : decode cX2_joinRing 17 = .ok (.iaload, 1) := oc_46 (by decide +kernel)
theorem dX2_joinRing_18 : decode cX2_joinRing 18 = .ok (.iload_n 2, 1) := oc_28 (by decide +kernel)
theorem dX2_joinRing_25 : decode cX2_joinRing 25 = .ok (.iinc 4 1, 3) := oc_132 (b := 1) (by decide +kernel)
theorem dX2_joinRing_28 : decode cX2_joinRing 28 = .ok (.goto (-23), 3) := oc_167 (a := 255) (b := 233) (by decide +kernel)
theorem dX2_joinRing_19 : decode cX2_joinRing 19 = .ok (.if_icmp .ne 6, 3) := oc_160 (a := 0) (b := 6) (by decide +kernel)
theorem dX2_joinRing_22 : decode cX2_joinRing 22 = .ok (.iload 4, 2) := oc_21 (by decide +kernel)
theorem dX2_joinRing_24 : decode cX2_joinRing 24 = .ok (.istore_n 3, 1) := oc_62 (by decide +kernel)
theorem dX2_addCell_0 : decode cX2_addCell 0 = .ok (.aload_n 0, 1) := oc_42 (by decide +kernel)
theorem dX2_addCell_1 : decode cX2_addCell 1 = .ok (.getfield 73, 3) := oc_180 (a := 0) (b := 73) (by decide +kernel)
theorem dX2_addCell_4 : decode cX2_addCell 4 = .ok (.bipush 40, 2) := oc_16 (a := 40) (by decide +kernel)
theorem dX2_addCell_6 : decode cX2_addCell 6 = .ok (.if_icmp .lt 5, 3) := oc_161 (a := 0) (b := 5) (by decide +kernel)
theorem dX2_addCell_11 : decode cX2_addCell 11 = .ok (.aload_n 0, 1) := oc_42 (by decide +kernel)
theorem dX2_addCell_12 : decode cX2_addCell 12 = .ok (.getfield 73, 3) := oc_180 (a := 0) (b := 73) (by decide +kernel)
theorem dX2_addCell_15 : decode cX2_addCell 15 = .ok (.istore 7, 2) := oc_54 (by decide +kernel)
theorem dX2_addCell_17 : decode cX2_addCell 17 = .ok (.aload_n 0, 1) := oc_42 (by decide +kernel)
theorem dX2_addCell_18 : decode cX2_addCell 18 = .ok (.getfield 15, 3) := oc_180 (a := 0) (b := 15) (by decide +kernel)
theorem dX2_addCell_21 : decode cX2_addCell 21 = .ok (.iload 7, 2) := oc_21 (by decide +kernel)
theorem dX2_addCell_23 : decode cX2_addCell 23 = .ok (.iload_n 1, 1) := oc_27 (by decide +kernel)
theorem dX2_addCell_24 : decode cX2_addCell 24 = .ok (.iastore, 1) := oc_79 (by decide +kernel)
theorem dX2_addCell_25 : decode cX2_addCell 25 = .ok (.aload_n 0, 1) := oc_42 (by decide +kernel)
theorem dX2_addCell_26 : decode cX2_addCell 26 = .ok (.getfield 19, 3) := oc_180 (a := 0) (b := 19) (by decide +kernel)
theorem dX2_addCell_29 : decode cX2_addCell 29 = .ok (.iload 7, 2) := oc_21 (by decide +kernel)
theorem dX2_addCell_31 : decode cX2_addCell 31 = .ok (.iload_n 2, 1) := oc_28 (by decide +kernel)
theorem dX2_addCell_32 : decode cX2_addCell 32 = .ok (.iastore, 1) := oc_79 (by decide +kernel)
theorem dX2_addCell_33 : decode cX2_addCell 33 = .ok (.aload_n 0, 1) := oc_42 (by decide +kernel)
theorem dX2_addCell_34 : decode cX2_addCell 34 = .ok (.getfield 22, 3) := oc_180 (a := 0) (b := 22) (by decide +kernel)
theorem dX2_addCell_37 : decode cX2_addCell 37 = .ok (.iload 7, 2) := oc_21 (by decide +kernel)
theorem dX2_addCell_39 : decode cX2_addCell 39 = .ok (.iload_n 3, 1) := oc_29 (by decide +kernel)
theorem dX2_addCell_40 : decode cX2_addCell 40 = .ok (.iastore, 1) := oc_79 (by decide +kernel)
theorem dX2_addCell_41 : decode cX2_addCell 41 = .ok (.aload_n 0, 1) := oc_42 (by decide +kernel)
theorem dX2_addCell_42 : decode cX2_addCell 42 = .ok (.getfield 25, 3) := oc_180 (a := 0) (b := 25) (by decide +kernel)
theorem dX2_addCell_45 : decode cX2_addCell 45 = .ok (.iload 7, 2) := oc_21 (by decide +kernel)
theorem dX2_addCell_47 : decode cX2_addCell 47 = .ok (.iload 4, 2) := oc_21 (by decide +kernel)
theorem dX2_addCell_49 : decode cX2_addCell 49 = .ok (.iastore, 1) := oc_79 (by decide +kernel)
theorem dX2_addCell_50 : decode cX2_addCell 50 = .ok (.aload_n 0, 1) := oc_42 (by decide +kernel)
theorem dX2_addCell_51 : decode cX2_addCell 51 = .ok (.getfield 28, 3) := oc_180 (a := 0) (b := 28) (by decide +kernel)
theorem dX2_addCell_54 : decode cX2_addCell 54 = .ok (.iload 7, 2) := oc_21 (by decide +kernel)
theorem dX2_addCell_56 : decode cX2_addCell 56 = .ok (.iload 5, 2) := oc_21 (by decide +kernel)
theorem dX2_addCell_58 : decode cX2_addCell 58 = .ok (.iastore, 1) := oc_79 (by decide +kernel)
theorem dX2_addCell_59 : decode cX2_addCell 59 = .ok (.aload_n 0, 1) := oc_42 (by decide +kernel)
theorem dX2_addCell_60 : decode cX2_addCell 60 = .ok (.getfield 31, 3) := oc_180 (a := 0) (b := 31) (by decide +kernel)
theorem dX2_addCell_63 : decode cX2_addCell 63 = .ok (.iload 7, 2) := oc_21 (by decide +kernel)
theorem dX2_addCell_65 : decode cX2_addCell 65 = .ok (.iload 6, 2) := oc_21 (by decide +kernel)
theorem dX2_addCell_67 : decode cX2_addCell 67 = .ok (.iastore, 1) := oc_79 (by decide +kernel)
theorem dX2_addCell_68 : decode cX2_addCell 68 = .ok (.aload_n 0, 1) := oc_42 (by decide +kernel)
theorem dX2_addCell_69 : decode cX2_addCell 69 = .ok (.iload 7, 2) := oc_21 (by decide +kernel)
theorem dX2_addCell_71 : decode cX2_addCell 71 = .ok (.iload_n 1, 1) := oc_27 (by decide +kernel)
theorem tw_223 : Cond.methodLink RX2 97 yX2_joinRing ∈ wsL_law := sg_10 _ (List.mem_of_getElem? (i := 7) rfl)
theorem tw_224 : Cond.instanceMethod yX2_joinRing ∈ wsL_law := sg_10 _ (List.mem_of_getElem? (i := 8) rfl)
theorem tw_225 : Cond.selects RX2 yX2_joinRing yX2_joinRing ∈ wsL_law := sg_10 _ (List.mem_of_getElem? (i := 9) rfl)
theorem tw_226 : Cond.code yX2_joinRing cX2_joinRing 5 none ∈ wsL_law := sg_10 _ (List.mem_of_getElem? (i := 10) rfl)
theorem dX2_addCell_72 : decode cX2_addCell 72 = .ok (.invokevirtual 97, 3) := oc_182 (a := 0) (b := 97) (by decide +kernel)
theorem dX2_addCell_75 : decode cX2_addCell 75 = .ok (.aload_n 0, 1) := oc_42 (by decide +kernel)
theorem dX2_addCell_76 : decode cX2_addCell 76 = .ok (.dup, 1) := oc_89 (by decide +kernel)
theorem dX2_addCell_77 : decode cX2_addCell 77 = .ok (.getfield 73, 3) := oc_180 (a := 0) (b := 73) (by decide +kernel)
theorem dX2_addCell_80 : decode cX2_addCell 80 = .ok (.iconst 1, 1) := oc_4 (by decide +kernel)
theorem dX2_addCell_81 : decode cX2_addCell 81 = .ok (.iadd, 1) := oc_96 (by decide +kernel)
theorem dX2_addCell_82 : decode cX2_addCell 82 = .ok (.putfield 73, 3) := oc_181 (a := 0) (b := 73) (by decide +kernel)
theorem dX2_addCell_85 : decode cX2_addCell 85 = .ok (.iload 7, 2) := oc_21 (by decide +kernel)
theorem dX2_addCell_87 : decode cX2_addCell 87 = .ok (.ireturn, 1) := oc_172 (by decide +kernel)
theorem dX2_addCell_9 : decode cX2_addCell 9 = .ok (.iconst (-1), 1) := oc_2 (by decide +kernel)
theorem dX2_addCell_10 : decode cX2_addCell 10 = .ok (.ireturn, 1) := oc_172 (by decide +kernel)
theorem dX2_topOf_0 : decode cX2_topOf 0 = .ok (.aload_n 0, 1) := oc_42 (by decide +kernel)
theorem dX2_topOf_1 : decode cX2_topOf 1 = .ok (.getfield 19, 3) := oc_180 (a := 0) (b := 19) (by decide +kernel)
theorem dX2_topOf_4 : decode cX2_topOf 4 = .ok (.iload_n 1, 1) := oc_27 (by decide +kernel)
theorem dX2_topOf_5 : decode cX2_topOf 5 = .ok (.iaload, 1) := oc_46 (by decide +kernel)
theorem dX2_topOf_6 : decode cX2_topOf 6 = .ok (.aload_n 0, 1) := oc_42 (by decide +kernel)
theorem dX2_topOf_7 : decode cX2_topOf 7 = .ok (.getfield 28, 3) := oc_180 (a := 0) (b := 28) (by decide +kernel)
theorem dX2_topOf_10 : decode cX2_topOf 10 = .ok (.iload_n 1, 1) := oc_27 (by decide +kernel)
theorem dX2_topOf_11 : decode cX2_topOf 11 = .ok (.iaload, 1) := oc_46 (by decide +kernel)
theorem dX2_topOf_12 : decode cX2_topOf 12 = .ok (.iadd, 1) := oc_96 (by decide +kernel)
theorem dX2_topOf_13 : decode cX2_topOf 13 = .ok (.aload_n 0, 1) := oc_42 (by decide +kernel)
theorem dX2_topOf_14 : decode cX2_topOf 14 = .ok (.getfield 31, 3) := oc_180 (a := 0) (b := 31) (by decide +kernel)
theorem dX2_topOf_17 : decode cX2_topOf 17 = .ok (.iload_n 1, 1) := oc_27 (by decide +kernel)
theorem dX2_topOf_18 : decode cX2_topOf 18 = .ok (.iaload, 1) := oc_46 (by decide +kernel)
theorem dX2_topOf_19 : decode cX2_topOf 19 = .ok (.iconst 4, 1) := oc_7 (by decide +kernel)
theorem dX2_topOf_20 : decode cX2_topOf 20 = .ok (.idiv, 1) := oc_108 (by decide +kernel)
theorem dX2_topOf_21 : decode cX2_topOf 21 = .ok (.iadd, 1) := oc_96 (by decide +kernel)
theorem dX2_topOf_22 : decode cX2_topOf 22 = .ok (.aload_n 0, 1) := oc_42 (by decide +kernel)
theorem dX2_topOf_23 : decode cX2_topOf 23 = .ok (.getfield 34, 3) := oc_180 (a := 0) (b := 34) (by decide +kernel)
theorem dX2_topOf_26 : decode cX2_topOf 26 = .ok (.iload_n 1, 1) := oc_27 (by decide +kernel)
theorem dX2_topOf_27 : decode cX2_topOf 27 = .ok (.iaload, 1) := oc_46 (by decide +kernel)
theorem dX2_topOf_28 : decode cX2_topOf 28 = .ok (.iadd, 1) := oc_96 (by decide +kernel)
theorem dX2_topOf_29 : decode cX2_topOf 29 = .ok (.ireturn, 1) := oc_172 (by decide +kernel)
theorem dX2_isDry_0 : decode cX2_isDry 0 = .ok (.aload_n 0, 1) := oc_42 (by decide +kernel)
theorem dX2_isDry_1 : decode cX2_isDry 1 = .ok (.getfield 79, 3) := oc_180 (a := 0) (b := 79) (by decide +kernel)
theorem dX2_isDry_4 : decode cX2_isDry 4 = .ok (.iload_n 1, 1) := oc_27 (by decide +kernel)
theorem dX2_isDry_5 : decode cX2_isDry 5 = .ok (.invokestatic 101, 3) := oc_184 (a := 0) (b := 101) (by decide +kernel)
theorem dX2_isDry_8 : decode cX2_isDry 8 = .ok (.ireturn, 1) := oc_172 (by decide +kernel)
theorem dX2_growReef_0 : decode cX2_growReef 0 = .ok (.iconst 0, 1) := oc_3 (by decide +kernel)
theorem dX2_growReef_1 : decode cX2_growReef 1 = .ok (.istore_n 2, 1) := oc_61 (by decide +kernel)
theorem dX2_growReef_2 : decode cX2_growReef 2 = .ok (.iload_n 2, 1) := oc_28 (by decide +kernel)
theorem dX2_growReef_3 : decode cX2_growReef 3 = .ok (.aload_n 0, 1) := oc_42 (by decide +kernel)
theorem dX2_growReef_4 : decode cX2_growReef 4 = .ok (.getfield 73, 3) := oc_180 (a := 0) (b := 73) (by decide +kernel)
theorem dX2_growReef_7 : decode cX2_growReef 7 = .ok (.if_icmp .ge 33, 3) := oc_162 (a := 0) (b := 33) (by decide +kernel)
theorem dX2_growReef_40 : decode cX2_growReef 40 = .ok (.return_, 1) := oc_177 (by decide +kernel)
theorem dX2_growReef_10 : decode cX2_growReef 10 = .ok (.aload_n 0, 1) := oc_42 (by decide +kernel)
theorem dX2_growReef_11 : decode cX2_growReef 11 = .ok (.getfield 31, 3) := oc_180 (a := 0) (b := 31) (by decide +kernel)
theorem dX2_growReef_14 : decode cX2_growReef 14 = .ok (.iload_n 2, 1) := oc_28 (by decide +kernel)
theorem dX2_growReef_15 : decode cX2_growReef 15 = .ok (.iconst 0, 1) := oc_3 (by decide +kernel)
theorem dX2_growReef_16 : decode cX2_growReef 16 = .ok (.sipush 400, 3) := oc_17 (a := 1) (b := 144) (by decide +kernel)
theorem dX2_growReef_19 : decode cX2_growReef 19 = .ok (.aload_n 0, 1) := oc_42 (by decide +kernel)
theorem dX2_growReef_20 : decode cX2_growReef 20 = .ok (.getfield 31, 3) := oc_180 (a := 0) (b := 31) (by decide +kernel)
theorem dX2_growReef_23 : decode cX2_growReef 23 = .ok (.iload_n 2, 1) := oc_28 (by decide +kernel)
theorem dX2_growReef_24 : decode cX2_growReef 24 = .ok (.iaload, 1) := oc_46 (by decide +kernel)
theorem dX2_growReef_25 : decode cX2_growReef 25 = .ok (.iload_n 1, 1) := oc_27 (by decide +kernel)
theorem dX2_growReef_26 : decode cX2_growReef 26 = .ok (.iadd, 1) := oc_96 (by decide +kernel)
theorem tw_1063 : Cond.methodLink RX2 105 Lib.Math.min.name ∈ wsL_law := sg_45 _ (List.mem_of_getElem? (i := 7) rfl)
theorem dX2_growReef_27 : decode cX2_growReef 27 = .ok (.invokestatic 105, 3) := oc_184 (a := 0) (b := 105) (by decide +kernel)
theorem tw_1064 : Cond.methodLink RX2 111 Lib.Math.max.name ∈ wsL_law := sg_45 _ (List.mem_of_getElem? (i := 8) rfl)
theorem tw_275 : Cond.static Lib.Math.max.name ∈ wsL_law := sg_12 _ (List.mem_of_getElem? (i := 11) rfl)
theorem tw_277 : Cond.code Lib.Math.max.name Lib.Math.max.code 2 (some .int) ∈ wsL_law := sg_12 _ (List.mem_of_getElem? (i := 13) rfl)
theorem dX2_growReef_30 : decode cX2_growReef 30 = .ok (.invokestatic 111, 3) := oc_184 (a := 0) (b := 111) (by decide +kernel)
theorem dX2_growReef_33 : decode cX2_growReef 33 = .ok (.iastore, 1) := oc_79 (by decide +kernel)
theorem dX2_growReef_34 : decode cX2_growReef 34 = .ok (.iinc 2 1, 3) := oc_132 (b := 1) (by decide +kernel)
theorem dX2_growReef_37 : decode cX2_growReef 37 = .ok (.goto (-35), 3) := oc_167 (a := 255) (b := 221) (by decide +kernel)
theorem dX2_walk_0 : decode cX2_walk 0 = .ok (.iconst 0, 1) := oc_3 (by decide +kernel)
theorem dX2_walk_1 : decode cX2_walk 1 = .ok (.istore_n 2, 1) := oc_61 (by decide +kernel)
theorem dX2_walk_2 : decode cX2_walk 2 = .ok (.iload_n 2, 1) := oc_28 (by decide +kernel)
theorem dX2_walk_3 : decode cX2_walk 3 = .ok (.aload_n 0, 1) := oc_42 (by decide +kernel)
theorem dX2_walk_4 : decode cX2_walk 4 = .ok (.getfield 73, 3) := oc_180 (a := 0) (b := 73) (by decide +kernel)
theorem dX2_walk_7 : decode cX2_walk 7 = .ok (.if_icmp .ge 38, 3) := oc_162 (a := 0) (b := 38) (by decide +kernel)
theorem dX2_walk_45 : decode cX2_walk 45 = .ok (.iconst 0, 1) := oc_3 (by decide +kernel)
theorem dX2_walk_46 : decode cX2_walk 46 = .ok (.istore_n 2, 1) := oc_61 (by decide +kernel)
theorem dX2_walk_47 : decode cX2_walk 47 = .ok (.iload_n 2, 1) := oc_28 (by decide +kernel)
theorem dX2_walk_48 : decode cX2_walk 48 = .ok (.aload_n 0, 1) := oc_42 (by decide +kernel)
theorem dX2_walk_49 : decode cX2_walk 49 = .ok (.getfield 73, 3) := oc_180 (a := 0) (b := 73) (by decide +kernel)
theorem dX2_walk_52 : decode cX2_walk 52 = .ok (.if_icmp .ge 72, 3) := oc_162 (a := 0) (b := 72) (by decide +kernel)
theorem dX2_walk_124 : decode cX2_walk 124 = .ok (.return_, 1) := oc_177 (by decide +kernel)
theorem dX2_walk_55 : decode cX2_walk 55 = .ok (.aload_n 0, 1) := oc_42 (by decide +kernel)
theorem dX2_walk_56 : decode cX2_walk 56 = .ok (.getfield 28, 3) := oc_180 (a := 0) (b := 28) (by decide +kernel)
theorem dX2_walk_59 : decode cX2_walk 59 = .ok (.iload_n 2, 1) := oc_28 (by decide +kernel)
theorem dX2_walk_60 : decode cX2_walk 60 = .ok (.dup2, 1) := oc_92 (by decide +kernel)
theorem dX2_walk_61 : decode cX2_walk 61 = .ok (.iaload, 1) := oc_46 (by decide +kernel)
theorem dX2_walk_62 : decode cX2_walk 62 = .ok (.aload_n 0, 1) := oc_42 (by decide +kernel)
theorem tw_98 : Cond.fieldLink RX2 56 "RingsUnder$Land" "leaves" "[I" ∈ wsL_law := sg_5 _ (List.mem_of_getElem? (i := 2) rfl)
theorem dX2_walk_63 : decode cX2_walk 63 = .ok (.getfield 56, 3) := oc_180 (a := 0) (b := 56) (by decide +kernel)
theorem dX2_walk_66 : decode cX2_walk 66 = .ok (.iload_n 2, 1) := oc_28 (by decide +kernel)
theorem dX2_walk_67 : decode cX2_walk 67 = .ok (.iaload, 1) := oc_46 (by decide +kernel)
theorem dX2_walk_68 : decode cX2_walk 68 = .ok (.isub, 1) := oc_100 (by decide +kernel)
theorem dX2_walk_69 : decode cX2_walk 69 = .ok (.iastore, 1) := oc_79 (by decide +kernel)
theorem dX2_walk_70 : decode cX2_walk 70 = .ok (.aload_n 0, 1) := oc_42 (by decide +kernel)
theorem dX2_walk_71 : decode cX2_walk 71 = .ok (.getfield 50, 3) := oc_180 (a := 0) (b := 50) (by decide +kernel)
theorem dX2_walk_74 : decode cX2_walk 74 = .ok (.iload_n 2, 1) := oc_28 (by decide +kernel)
theorem dX2_walk_75 : decode cX2_walk 75 = .ok (.iaload, 1) := oc_46 (by decide +kernel)
theorem dX2_walk_76 : decode cX2_walk 76 = .ok (.iconst (-1), 1) := oc_2 (by decide +kernel)
theorem dX2_walk_118 : decode cX2_walk 118 = .ok (.iinc 2 1, 3) := oc_132 (b := 1) (by decide +kernel)
theorem dX2_walk_121 : decode cX2_walk 121 = .ok (.goto (-74), 3) := oc_167 (a := 255) (b := 182) (by decide +kernel)
theorem dX2_walk_77 : decode cX2_walk 77 = .ok (.if_icmp .ne 21, 3) := oc_160 (a := 0) (b := 21) (by decide +kernel)
theorem dX2_walk_98 : decode cX2_walk 98 = .ok (.aload_n 0, 1) := oc_42 (by decide +kernel)
theorem dX2_walk_99 : decode cX2_walk 99 = .ok (.getfield 28, 3) := oc_180 (a := 0) (b := 28) (by decide +kernel)
theorem dX2_walk_102 : decode cX2_walk 102 = .ok (.aload_n 0, 1) := oc_42 (by decide +kernel)
theorem dX2_walk_103 : decode cX2_walk 103 = .ok (.getfield 50, 3) := oc_180 (a := 0) (b := 50) (by decide +kernel)
theorem dX2_walk_106 : decode cX2_walk 106 = .ok (.iload_n 2, 1) := oc_28 (by decide +kernel)
theorem dX2_walk_107 : decode cX2_walk 107 = .ok (.iaload, 1) := oc_46 (by decide +kernel)
theorem dX2_walk_108 : decode cX2_walk 108 = .ok (.dup2, 1) := oc_92 (by decide +kernel)
theorem dX2_walk_109 : decode cX2_walk 109 = .ok (.iaload, 1) := oc_46 (by decide +kernel)
theorem dX2_walk_110 : decode cX2_walk 110 = .ok (.aload_n 0, 1) := oc_42 (by decide +kernel)
theorem dX2_walk_111 : decode cX2_walk 111 = .ok (.getfield 56, 3) := oc_180 (a := 0) (b := 56) (by decide +kernel)
theorem dX2_walk_114 : decode cX2_walk 114 = .ok (.iload_n 2, 1) := oc_28 (by decide +kernel)
theorem dX2_walk_115 : decode cX2_walk 115 = .ok (.iaload, 1) := oc_46 (by decide +kernel)
theorem dX2_walk_116 : decode cX2_walk 116 = .ok (.iadd, 1) := oc_96 (by decide +kernel)
theorem dX2_walk_117 : decode cX2_walk 117 = .ok (.iastore, 1) := oc_79 (by decide +kernel)
theorem dX2_walk_80 : decode cX2_walk 80 = .ok (.aload_n 0, 1) := oc_42 (by decide +kernel)
theorem dX2_walk_81 : decode cX2_walk 81 = .ok (.dup, 1) := oc_89 (by decide +kernel)
theorem dX2_walk_82 : decode cX2_walk 82 = .ok (.getfield 76, 3) := oc_180 (a := 0) (b := 76) (by decide +kernel)
theorem dX2_walk_85 : decode cX2_walk 85 = .ok (.aload_n 0, 1) := oc_42 (by decide +kernel)
theorem dX2_walk_86 : decode cX2_walk 86 = .ok (.getfield 56, 3) := oc_180 (a := 0) (b := 56) (by decide +kernel)
theorem dX2_walk_89 : decode cX2_walk 89 = .ok (.iload_n 2, 1) := oc_28 (by decide +kernel)
theorem dX2_walk_90 : decode cX2_walk 90 = .ok (.iaload, 1) := oc_46 (by decide +kernel)
theorem dX2_walk_91 : decode cX2_walk 91 = .ok (.iadd, 1) := oc_96 (by decide +kernel)
theorem dX2_walk_92 : decode cX2_walk 92 = .ok (.putfield 76, 3) := oc_181 (a := 0) (b := 76) (by decide +kernel)
theorem dX2_walk_95 : decode cX2_walk 95 = .ok (.goto 23, 3) := oc_167 (a := 0) (b := 23) (by decide +kernel)
theorem dX2_walk_10 : decode cX2_walk 10 = .ok (.aload_n 0, 1) := oc_42 (by decide +kernel)
theorem dX2_walk_11 : decode cX2_walk 11 = .ok (.getfield 56, 3) := oc_180 (a := 0) (b := 56) (by decide +kernel)
theorem dX2_walk_14 : decode cX2_walk 14 = .ok (.iload_n 2, 1) := oc_28 (by decide +kernel)
theorem dX2_walk_15 : decode cX2_walk 15 = .ok (.aload_n 0, 1) := oc_42 (by decide +kernel)
theorem dX2_walk_16 : decode cX2_walk 16 = .ok (.getfield 34, 3) := oc_180 (a := 0) (b := 34) (by decide +kernel)
theorem dX2_walk_19 : decode cX2_walk 19 = .ok (.iload_n 2, 1) := oc_28 (by decide +kernel)
theorem dX2_walk_20 : decode cX2_walk 20 = .ok (.iaload, 1) := oc_46 (by decide +kernel)
theorem dX2_walk_38 : decode cX2_walk 38 = .ok (.iastore, 1) := oc_79 (by decide +kernel)
theorem dX2_walk_39 : decode cX2_walk 39 = .ok (.iinc 2 1, 3) := oc_132 (b := 1) (by decide +kernel)
theorem dX2_walk_42 : decode cX2_walk 42 = .ok (.goto (-40), 3) := oc_167 (a := 255) (b := 216) (by decide +kernel)
theorem dX2_walk_21 : decode cX2_walk 21 = .ok (.ifCond .ne 16, 3) := oc_154 (a := 0) (b := 16) (by decide +kernel)
theorem dX2_walk_37 : decode cX2_walk 37 = .ok (.iconst 0, 1) := oc_3 (by decide +kernel)
theorem dX2_walk_24 : decode cX2_walk 24 = .ok (.aload_n 0, 1) := oc_42 (by decide +kernel)
theorem dX2_walk_25 : decode cX2_walk 25 = .ok (.getfield 28, 3) := oc_180 (a := 0) (b := 28) (by decide +kernel)
theorem dX2_walk_28 : decode cX2_walk 28 = .ok (.iload_n 2, 1) := oc_28 (by decide +kernel)
theorem dX2_walk_29 : decode cX2_walk 29 = .ok (.iaload, 1) := oc_46 (by decide +kernel)
theorem dX2_walk_30 : decode cX2_walk 30 = .ok (.iload_n 1, 1) := oc_27 (by decide +kernel)
theorem dX2_walk_31 : decode cX2_walk 31 = .ok (.invokestatic 105, 3) := oc_184 (a := 0) (b := 105) (by decide +kernel)
theorem dX2_walk_34 : decode cX2_walk 34 = .ok (.goto 4, 3) := oc_167 (a := 0) (b := 4) (by decide +kernel)
set_option maxHeartbeats 4000000 in
set_option maxRecDepth 100000 in
theorem s_X11_copy_80_80 (l : Launch) (D : va_G) (t : pq_T) (σ : pq_S) (I : Nat → Nat → Int32) (J : Nat → Nat → Int64) (ri : Nat → Nat → Int32) (rj : Nat → Nat → Int64) (rq : Nat → Nat → Option Nat) (sz : Nat) (tg : Nat → Nat) (hSH : SH σ tg) (hG0 : GS tg σ I ri rq) (a0 : Nat) (a1 : Nat) (hL_a0 : a0 ∈ σ.1) (hK_a0 : σ.2.1 a0 = 13) (hN_a0 : σ.2.2.2 a0 = 5) (hT_a0 : tg a0 = 80) (hL_a1 : a1 ∈ σ.1) (hK_a1 : σ.2.1 a1 = 13) (hN_a1 : σ.2.2.2 a1 = 5) (hT_a1 : tg a1 = 80) : MetV l yX11_copy (wa yX11_copy cX11_copy 2 none) ({ frames := 1, cells := 0, slots := 0, locals := 60 }) [.ref a0, .ref a1] D t σ (I, J, ri, rj, rq) sz 0 0 (fun (u : pq_S × pq_M) => ∃ ri' : Nat → Nat → Int32, u = (σ, I, J, ri', rj, rq) ∧ GX [] tg σ I ri rj I ri' rj rq ∧ (∀ j, j < 5 → ri' a1 j = ri a0 j) ∧ (∀ q, q ≠ a1 → ri' q = ri q) ∧ (ri' = va_up ri a1 (va_cpy (ri a0) (ri a1) 0 0 5))) := by
  refine Met.ofW (cc := cX11_copy) (maxL := 2) (ret := none) (by decide +kernel) rfl ?_
  intro p e s m args below meth c s₁ B hml hv
  obtain ⟨rfl, hsz, hP, hK, hD0, hN⟩ := hv
  have hx := B.exec
  have hb := B.bytes
  have hr := B.returns
  have hts := atoms_spec (ws := (wa yX11_copy cX11_copy 2 none)) B.pre
  have hown : s.vm.findClass RX11 = some m.cls := findClass_of_methodNamed B.named
  have hlocks := B.notSynchronized
  subst hsz
  have hD : va_D (pq_B t σ (I, J, ri, rj, rq) s.heap.size) (pq_P t σ (I, J, ri, rj, rq)) := hD0.self
  generalize hAe : pq_B t σ (I, J, ri, rj, rq) s.heap.size = A at hD ⊢
  have hA : ∀ q : Nat, s.heap.size ≤ q → A q := fun q h => by rw [← hAe]; exact Or.inr h
  have hS : va_S A s.heap s.heap [] := va_S.rf
  have hG : GX [] tg σ I ri rj I ri rj rq := ⟨hG0, fun _ _ _ => rfl, fun _ _ _ _ _ => rfl, fun _ _ _ _ _ => rfl⟩
  have hl := lv_entry ([.ref a0, .ref a1]) (n := 2) (Nat.le_of_ble_eq_true rfl)
  rw [lg_entry_eq]
  generalize (lg_sl ([.ref a0, .ref a1]) ++ List.replicate (2 - (lg_sl ([.ref a0, .ref a1])).length) Slot.unset).toArray = ls at hl ⊢
  have hl : lv_has ls 2 [(0, .ref a0), (1, .ref a1)] := hl
  refine q_gen (fun Q hQ => ?_)
  have go : ∀ (H : Heap) (locs : List Loc) (ls : Array Slot), va_P D vwCl (pq_P t σ (I, J, ri, rj, rq)) H → va_D A (pq_P t σ (I, J, ri, rj, rq)) → va_S A s.heap H locs → lv_has ls 2 [(0, .ref a0), (1, .ref a1)] → W p l e ({ frames := 1, cells := 0, slots := 0, locals := 60 } : Room) s m (List.toArray ([.ref a0, .ref a1] : List Value)) below meth c H locs 0 0 Q (F0 m 0 ls []) := by
    intro H locs ls hP hD hS hl
    refine lv_aload_n hx hb dX11_copy_0 rfl (lv_at hl 0 rfl) ?_
    refine lv_iconst (v := 0) hx hb dX11_copy_1 (by decide +kernel) ?_
    refine lv_aload_n hx hb dX11_copy_2 rfl (lv_at hl 1 rfl) ?_
    refine lv_iconst (v := 0) hx hb dX11_copy_3 (by decide +kernel) ?_
    refine lv_aload_n hx hb dX11_copy_4 rfl (lv_at hl 0 rfl) ?_
    refine pn_i (v := 5) hx hb hK hP hL_a0 hK_a0 hN_a0 (by decide +kernel) dX11_copy_5 ?_
    refine lv_aload_n hx hb dX11_copy_6 rfl (lv_at hl 1 rfl) ?_
    refine pn_i (v := 5) hx hb hK hP hL_a1 hK_a1 hN_a1 (by decide +kernel) dX11_copy_7 ?_
    refine va_mmin hx hb (hml.trans hl.1.symm) hown (hts _ (tw_c tw_1103)) (hts _ (tw_c tw_467)) (hts _ (tw_c tw_276)) (hts _ (tw_c tw_468)) (Nat.le_of_ble_eq_true rfl) (Nat.le_of_ble_eq_true rfl) (Nat.zero_le _) (Nat.zero_le _) dX11_copy_8 ?_
    refine lv_topi (fun x_1 ex_1 => ?_)
    have h_2 : rg x_1 5 5 := rg_of_eq ex_1 (rg_min2 (rg_k (5 : Int32) 5 rfl) (rg_k (5 : Int32) 5 rfl) (by decide +kernel))
    refine pc_i hx hb (hml.trans hl.1.symm) hown (hts _ (tw_c tw_1104)) (hts _ (tw_c tw_1105)) (hts _ (tw_c tw_1106)) (hts _ (tw_c tw_1107)) hK hP hD hS hL_a0 hK_a0 hN_a0 hL_a1 hK_a1 hN_a1 (rg_pos (rg_k (0 : Int32) 0 rfl) (by decide +kernel)) (rg_pos h_2 (by decide +kernel)) (rg_cp (rg_k (0 : Int32) 0 rfl) h_2 (by decide +kernel)) (rg_cl h_2 (by decide +kernel)) (Nat.le_of_ble_eq_true rfl) (Nat.le_of_ble_eq_true rfl) dX11_copy_11 (fun r_3 H locs er_3 hP hD hS => ?_)
    have hG := GX.cR hG hSH hT_a0 rfl hT_a1 rfl er_3 (by decide +kernel)
    subst hQ
    exact W.vret hx hb hr (fun t1 ht hW => ⟨⟨(σ, I, J, r_3, rj, rq), rfl, ⟨r_3, rfl, hG, (cpy_eq er_3 h_2 rfl), (fun q hq => by rw [er_3, va_up_ne _ _ hq]), (by rw [er_3, show (x_1).toNatClampNeg = 5 from by have z_i := clampE x_1; have z_r := h_2; have z_1 := z_r.1; have z_2 := z_r.2; omega]; rfl)⟩, by rw [ht]; exact hP, va_K.moved hW.alike hK, hD⟩, hS.F ht⟩) hS.2.2 dX11_copy_14
  exact go _ _ _ hP hD hS hl

set_option maxRecDepth 100000 in
def g_X2_copyFrom (nI : Nat → Int32) (nJ : Nat → Int64) (nR : Nat → Nat → Int32) (nL : Nat → Nat → Int64) (I : Nat → Int32) (J : Nat → Int64) (ri : Nat → Nat → Int32) (rj : Nat → Nat → Int64) (rq : Nat → Nat → Option Nat) : vM := (ap1 (nI 64) fun (y_2 : Int32) => (ap1 (va_up I 64 (y_2)) fun (I_3 : Nat → Int32) => (ap1 (nI 65) fun (y_5 : Int32) => (ap1 (va_up I_3 65 (y_5)) fun (I_6 : Nat → Int32) => (ap1 (nI 66) fun (y_7 : Int32) => (ap1 (va_up I_6 66 (y_7)) fun (I_8 : Nat → Int32) => (ap1 (nJ 67) fun (y_9 : Int64) => (ap1 (va_up J 67 (y_9)) fun (J_10 : Nat → Int64) => (ap1 (va_up rj 68 (va_cpy (nL 68) (rj 68) ((0 : Int32)).toNatClampNeg 0 ((600 : Int32)).toNatClampNeg)) fun (r_13 : Nat → Nat → Int64) => (ap1 (va_up ri 69 (va_cpy (nR 69) (ri 69) 0 0 40)) fun (ri_18 : Nat → Nat → Int32) => (ap1 (va_up ri_18 70 (va_cpy (nR 70) (ri_18 70) 0 0 40)) fun (ri_31 : Nat → Nat → Int32) => (ap1 (va_up ri_31 71 (va_cpy (nR 71) (ri_31 71) 0 0 40)) fun (ri_44 : Nat → Nat → Int32) => (ap1 (va_up ri_44 72 (va_cpy (nR 72) (ri_44 72) 0 0 40)) fun (ri_57 : Nat → Nat → Int32) => (ap1 (va_up ri_57 73 (va_cpy (nR 73) (ri_57 73) 0 0 40)) fun (ri_70 : Nat → Nat → Int32) => (ap1 (va_up ri_70 74 (va_cpy (nR 74) (ri_70 74) 0 0 40)) fun (ri_83 : Nat → Nat → Int32) => (ap1 (va_up ri_83 75 (va_cpy (nR 75) (ri_83 75) 0 0 40)) fun (ri_96 : Nat → Nat → Int32) => (ap1 (va_up ri_96 76 (va_cpy (nR 76) (ri_96 76) 0 0 40)) fun (ri_109 : Nat → Nat → Int32) => (ap1 (va_up ri_109 77 (va_cpy (nR 77) (ri_109 77) 0 0 40)) fun (ri_122 : Nat → Nat → Int32) => (bnV (g_X9_copyFrom nR I_8 J_10 ri_122 r_13 rq) fun (_ : Nat → Int32) (_ : Nat → Int64) (ri_135 : Nat → Nat → Int32) (_ : Nat → Nat → Int64) (_ : Nat → Nat → Option Nat) => (ap1 (va_up ri_135 79 (va_cpy (nR 79) (ri_135 79) 0 0 40)) fun (ri_145 : Nat → Nat → Int32) => (ap1 (va_up ri_145 80 (va_cpy (nR 80) (ri_145 80) 0 0 5)) fun (ri_158 : Nat → Nat → Int32) => (I_8, J_10, ri_158, r_13, rq))))))))))))))))))))))
set_option maxRecDepth 100000 in
theorem g_X2_copyFrom_e {nI : Nat → Int32} {nJ : Nat → Int64} {nR : Nat → Nat → Int32} {nL : Nat → Nat → Int64} {I : Nat → Int32} {J : Nat → Int64} {ri : Nat → Nat → Int32} {rj : Nat → Nat → Int64} {rq : Nat → Nat → Option Nat} : g_X2_copyFrom nI nJ nR nL I J ri rj rq = (ap1 (nI 64) fun (y_2 : Int32) => (ap1 (va_up I 64 (y_2)) fun (I_3 : Nat → Int32) => (ap1 (nI 65) fun (y_5 : Int32) => (ap1 (va_up I_3 65 (y_5)) fun (I_6 : Nat → Int32) => (ap1 (nI 66) fun (y_7 : Int32) => (ap1 (va_up I_6 66 (y_7)) fun (I_8 : Nat → Int32) => (ap1 (nJ 67) fun (y_9 : Int64) => (ap1 (va_up J 67 (y_9)) fun (J_10 : Nat → Int64) => (ap1 (va_up rj 68 (va_cpy (nL 68) (rj 68) ((0 : Int32)).toNatClampNeg 0 ((600 : Int32)).toNatClampNeg)) fun (r_13 : Nat → Nat → Int64) => (ap1 (va_up ri 69 (va_cpy (nR 69) (ri 69) 0 0 40)) fun (ri_18 : Nat → Nat → Int32) => (ap1 (va_up ri_18 70 (va_cpy (nR 70) (ri_18 70) 0 0 40)) fun (ri_31 : Nat → Nat → Int32) => (ap1 (va_up ri_31 71 (va_cpy (nR 71) (ri_31 71) 0 0 40)) fun (ri_44 : Nat → Nat → Int32) => (ap1 (va_up ri_44 72 (va_cpy (nR 72) (ri_44 72) 0 0 40)) fun (ri_57 : Nat → Nat → Int32) => (ap1 (va_up ri_57 73 (va_cpy (nR 73) (ri_57 73) 0 0 40)) fun (ri_70 : Nat → Nat → Int32) => (ap1 (va_up ri_70 74 (va_cpy (nR 74) (ri_70 74) 0 0 40)) fun (ri_83 : Nat → Nat → Int32) => (ap1 (va_up ri_83 75 (va_cpy (nR 75) (ri_83 75) 0 0 40)) fun (ri_96 : Nat → Nat → Int32) => (ap1 (va_up ri_96 76 (va_cpy (nR 76) (ri_96 76) 0 0 40)) fun (ri_109 : Nat → Nat → Int32) => (ap1 (va_up ri_109 77 (va_cpy (nR 77) (ri_109 77) 0 0 40)) fun (ri_122 : Nat → Nat → Int32) => (bnV (g_X9_copyFrom nR I_8 J_10 ri_122 r_13 rq) fun (_ : Nat → Int32) (_ : Nat → Int64) (ri_135 : Nat → Nat → Int32) (_ : Nat → Nat → Int64) (_ : Nat → Nat → Option Nat) => (ap1 (va_up ri_135 79 (va_cpy (nR 79) (ri_135 79) 0 0 40)) fun (ri_145 : Nat → Nat → Int32) => (ap1 (va_up ri_145 80 (va_cpy (nR 80) (ri_145 80) 0 0 5)) fun (ri_158 : Nat → Nat → Int32) => (I_8, J_10, ri_158, r_13, rq)))))))))))))))))))))) := rfl
set_option maxHeartbeats 4000000 in
set_option maxRecDepth 100000 in
theorem s_X2_copyFrom (l : Launch) (D : va_G) (t : pq_T) (σ : pq_S) (I : Nat → Nat → Int32) (J : Nat → Nat → Int64) (ri : Nat → Nat → Int32) (rj : Nat → Nat → Int64) (rq : Nat → Nat → Option Nat) (sz : Nat) (tg : Nat → Nat) (hSH : SH σ tg) (hG0 : GS tg σ I ri rq) (this : Nat) (a0 : Nat) (hL_this : this ∈ σ.1) (hK_this : σ.2.1 this = 2) (hL_a0 : a0 ∈ σ.1) (hK_a0 : σ.2.1 a0 = 2) (M : Nat) (hL_M : M ∈ σ.1) (hK_M : σ.2.1 M = 10) (N : Nat) (hL_N : N ∈ σ.1) (hK_N : σ.2.1 N = 10) (hO_this : this = vo σ 2 M) (hO_a0 : a0 = vo σ 2 N) (hap : AP 10 tg σ M N) : MetV l yX2_copyFrom (wa yX2_copyFrom cX2_copyFrom 2 none) ({ frames := 3, cells := 0, slots := 0, locals := 102 }) [.ref this, .ref a0] D t σ (I, J, ri, rj, rq) sz 0 0 (fun (u : pq_S × pq_M) => ∃ I' : Nat → Nat → Int32, ∃ J' : Nat → Nat → Int64, ∃ ri' : Nat → Nat → Int32, ∃ rj' : Nat → Nat → Int64, u = (σ, I', J', ri', rj', rq) ∧ GX [64, 65, 1069, 1070, 1073, 1074, 1075, 1288, 1079] tg σ I ri rj I' ri' rj' rq ∧ g_X2_copyFrom (vI 10 σ N I) (vJ 10 σ N J) (vR 10 σ N ri) (vL 10 σ N rj) (vI 10 σ M I) (vJ 10 σ M J) (vR 10 σ M ri) (vL 10 σ M rj) (vQ 10 σ M rq) = ((vI 10 σ M I'), (vJ 10 σ M J'), (vR 10 σ M ri'), (vL 10 σ M rj'), (vQ 10 σ M rq)) ∧ FR 10 tg σ M (I, J, ri, rj, rq) (I', J', ri', rj', rq)) := by
  refine Met.ofW (cc := cX2_copyFrom) (maxL := 2) (ret := none) (by decide +kernel) rfl ?_
  intro p e s m args below meth c s₁ B hml hv
  obtain ⟨rfl, hsz, hP, hK, hD0, hN⟩ := hv
  have hx := B.exec
  have hb := B.bytes
  have hr := B.returns
  have hts := atoms_spec (ws := (wa yX2_copyFrom cX2_copyFrom 2 none)) B.pre
  have hown : s.vm.findClass RX2 = some m.cls := findClass_of_methodNamed B.named
  have hlocks := B.notSynchronized
  subst hsz
  have hD : va_D (pq_B t σ (I, J, ri, rj, rq) s.heap.size) (pq_P t σ (I, J, ri, rj, rq)) := hD0.self
  generalize hAe : pq_B t σ (I, J, ri, rj, rq) s.heap.size = A at hD ⊢
  have hA : ∀ q : Nat, s.heap.size ≤ q → A q := fun q h => by rw [← hAe]; exact Or.inr h
  have hS : va_S A s.heap s.heap [] := va_S.rf
  have hG : GX [64, 65, 1069, 1070, 1073, 1074, 1075, 1288, 1079] tg σ I ri rj I ri rj rq := ⟨hG0, fun _ _ _ => rfl, fun _ _ _ _ _ => rfl, fun _ _ _ _ _ => rfl⟩
  have hl := lv_entry ([.ref this, .ref a0]) (n := 2) (Nat.le_of_ble_eq_true rfl)
  rw [lg_entry_eq]
  generalize (lg_sl ([.ref this, .ref a0]) ++ List.replicate (2 - (lg_sl ([.ref this, .ref a0])).length) Slot.unset).toArray = ls at hl ⊢
  have hl : lv_has ls 2 [(0, .ref this), (1, .ref a0)] := hl
  refine q_gen (fun Q hQ => ?_)
  have go : ∀ (H : Heap) (locs : List Loc) (ls : Array Slot), va_P D vwCl (pq_P t σ (I, J, ri, rj, rq)) H → va_D A (pq_P t σ (I, J, ri, rj, rq)) → va_S A s.heap H locs → lv_has ls 2 [(0, .ref this), (1, .ref a0)] → W p l e ({ frames := 3, cells := 0, slots := 0, locals := 102 } : Room) s m (List.toArray ([.ref this, .ref a0] : List Value)) below meth c H locs 0 0 Q (F0 m 0 ls []) := by
    intro H locs ls hP hD hS hl
    have hVT : VT 10 σ tg M := vt_10 hSH hL_M hK_M
    have hFr : FR 10 tg σ M (I, J, ri, rj, rq) (I, J, ri, rj, rq) := fr_rf
    obtain ⟨F, hF0⟩ : ∃ F, F = g_X2_copyFrom (vI 10 σ N I) (vJ 10 σ N J) (vR 10 σ N ri) (vL 10 σ N rj) (vI 10 σ M I) (vJ 10 σ M J) (vR 10 σ M ri) (vL 10 σ M rj) (vQ 10 σ M rq) := ⟨_, rfl⟩
    have hF := hF0.trans g_X2_copyFrom_e
    refine lv_aload_n hx hb dX2_copyFrom_0 rfl (lv_at hl 0 rfl) ?_
    refine lv_aload_n hx hb dX2_copyFrom_1 rfl (lv_at hl 1 rfl) ?_
    refine pg_f (v := .int (I 64 a0)) (C := RX2) (T := TX2) (N := 20) hx hb hts (tw_i inlX2) hown hK hP hL_a0 hK_a0 (by decide +kernel) rfl 0 (by decide +kernel) (hts _ (tw_c tw_1374)) rfl dX2_copyFrom_2 ?_
    have h_1 : rg (I 64 a0) 0 5 := GX.rI hG 64 rfl
    replace hF := hF.trans (ap_n (cI_e (f := 64) hFr hap hO_a0 (by decide +kernel)))
    refine pp_i (v := (I 64 a0)) (ty := .int) (C := RX2) (T := TX2) (N := 20) hx hb hts (tw_i inlX2) tyX2 tyX2_ok nmX2 hown hK hP hD hS hL_this hK_this (by decide +kernel) rfl 0 64 (by decide +kernel) (hts _ (tw_c tw_1374)) rfl (tyX2_ok 0 (by decide +kernel)) rfl rfl (Nat.le_of_ble_eq_true rfl) (ps_64 _ _ _ _ _) dX2_copyFrom_5 (fun I_3 H locs eI_3 hP hD hS => ?_)
    replace hFr := fr_I (f := 64) hFr hO_this (by decide +kernel) eI_3
    replace hF := hF.trans (ap_n (vI_st (f := 64) hO_this (by decide +kernel) eI_3))
    have hG := GX.wI hG 64 rfl eI_3 (rg_w h_1 (by decide +kernel)) (by decide +kernel)
    refine lv_aload_n hx hb dX2_copyFrom_8 rfl (lv_at hl 0 rfl) ?_
    refine lv_aload_n hx hb dX2_copyFrom_9 rfl (lv_at hl 1 rfl) ?_
    refine pg_f (v := .int (I_3 65 a0)) (C := RX2) (T := TX2) (N := 20) hx hb hts (tw_i inlX2) hown hK hP hL_a0 hK_a0 (by decide +kernel) rfl 1 (by decide +kernel) (hts _ (tw_c tw_222)) rfl dX2_copyFrom_10 ?_
    have h_4 : rg (I_3 65 a0) 0 40 := GX.rI hG 65 rfl
    replace hF := hF.trans (ap_n (cI_e (f := 65) hFr hap hO_a0 (by decide +kernel)))
    refine pp_i (v := (I_3 65 a0)) (ty := .int) (C := RX2) (T := TX2) (N := 20) hx hb hts (tw_i inlX2) tyX2 tyX2_ok nmX2 hown hK hP hD hS hL_this hK_this (by decide +kernel) rfl 1 65 (by decide +kernel) (hts _ (tw_c tw_222)) rfl (tyX2_ok 1 (by decide +kernel)) rfl rfl (Nat.le_of_ble_eq_true rfl) (ps_65 _ _ _ _ _) dX2_copyFrom_13 (fun I_6 H locs eI_6 hP hD hS => ?_)
    replace hFr := fr_I (f := 65) hFr hO_this (by decide +kernel) eI_6
    replace hF := hF.trans (ap_n (vI_st (f := 65) hO_this (by decide +kernel) eI_6))
    have hG := GX.wI hG 65 rfl eI_6 (rg_w h_4 (by decide +kernel)) (by decide +kernel)
    refine lv_aload_n hx hb dX2_copyFrom_16 rfl (lv_at hl 0 rfl) ?_
    refine lv_aload_n hx hb dX2_copyFrom_17 rfl (lv_at hl 1 rfl) ?_
    refine pg_f (v := .int (I_6 66 a0)) (C := RX2) (T := TX2) (N := 20) hx hb hts (tw_i inlX2) hown hK hP hL_a0 hK_a0 (by decide +kernel) rfl 2 (by decide +kernel) (hts _ (tw_c tw_1069)) rfl dX2_copyFrom_18 ?_
    replace hF := hF.trans (ap_n (cI_e (f := 66) hFr hap hO_a0 (by decide +kernel)))
    refine pp_i (v := (I_6 66 a0)) (ty := .int) (C := RX2) (T := TX2) (N := 20) hx hb hts (tw_i inlX2) tyX2 tyX2_ok nmX2 hown hK hP hD hS hL_this hK_this (by decide +kernel) rfl 2 66 (by decide +kernel) (hts _ (tw_c tw_1069)) rfl (tyX2_ok 2 (by decide +kernel)) rfl rfl (Nat.le_of_ble_eq_true rfl) (ps_66 _ _ _ _ _) dX2_copyFrom_21 (fun I_8 H locs eI_8 hP hD hS => ?_)
    replace hFr := fr_I (f := 66) hFr hO_this (by decide +kernel) eI_8
    replace hF := hF.trans (ap_n (vI_st (f := 66) hO_this (by decide +kernel) eI_8))
    have hG := GX.wI hG 66 rfl eI_8 (rg_w (rg_full _) (by decide +kernel)) (by decide +kernel)
    refine lv_aload_n hx hb dX2_copyFrom_24 rfl (lv_at hl 0 rfl) ?_
    refine lv_aload_n hx hb dX2_copyFrom_25 rfl (lv_at hl 1 rfl) ?_
    refine pg_f (v := .long (J 67 a0)) (C := RX2) (T := TX2) (N := 20) hx hb hts (tw_i inlX2) hown hK hP hL_a0 hK_a0 (by decide +kernel) rfl 3 (by decide +kernel) (hts _ (tw_c tw_558)) rfl dX2_copyFrom_26 ?_
    replace hF := hF.trans (ap_n (cJ_e (f := 67) hFr hap hO_a0 (by decide +kernel)))
    refine pp_l (v := (J 67 a0)) (C := RX2) (T := TX2) (N := 20) hx hb hts (tw_i inlX2) tyX2 tyX2_ok nmX2 hown hK hP hD hS hL_this hK_this (by decide +kernel) rfl 3 67 (by decide +kernel) (hts _ (tw_c tw_558)) rfl (tyX2_ok 3 (by decide +kernel)) (Nat.le_of_ble_eq_true rfl) (ps_67 _ _ _ _ _) dX2_copyFrom_29 (fun J_10 H locs eJ_10 hP hD hS => ?_)
    replace hFr := fr_J (f := 67) hFr hO_this (by decide +kernel) eJ_10
    replace hF := hF.trans (ap_n (vJ_st (f := 67) hO_this (by decide +kernel) eJ_10))
    refine lv_aload_n hx hb dX2_copyFrom_32 rfl (lv_at hl 1 rfl) ?_
    obtain ⟨w_11, hR_w_11, hL_w_11, hK_w_11, hN_w_11, hT_w_11⟩ := sh_a hSH 68 (ci := 2) (kd := 14) (len := 600) rfl (by decide +kernel) hL_a0 hK_a0
    have hO_w_11 : w_11 = vrow σ 68 N := vo_k (c := 2) hO_a0 hR_w_11
    refine pg_f (v := .ref w_11) (C := RX2) (T := TX2) (N := 20) hx hb hts (tw_i inlX2) hown hK hP hL_a0 hK_a0 (by decide +kernel) rfl 4 (by decide +kernel) (hts _ (tw_c tw_82)) (pq_hv rfl hR_w_11) dX2_copyFrom_33 ?_
    refine lv_iconst (v := 0) hx hb dX2_copyFrom_36 (by decide +kernel) ?_
    refine lv_aload_n hx hb dX2_copyFrom_37 rfl (lv_at hl 0 rfl) ?_
    obtain ⟨w_12, hR_w_12, hL_w_12, hK_w_12, hN_w_12, hT_w_12⟩ := sh_a hSH 68 (ci := 2) (kd := 14) (len := 600) rfl (by decide +kernel) hL_this hK_this
    have hO_w_12 : w_12 = vrow σ 68 M := vo_k (c := 2) hO_this hR_w_12
    refine pg_f (v := .ref w_12) (C := RX2) (T := TX2) (N := 20) hx hb hts (tw_i inlX2) hown hK hP hL_this hK_this (by decide +kernel) rfl 4 (by decide +kernel) (hts _ (tw_c tw_82)) (pq_hv rfl hR_w_12) dX2_copyFrom_38 ?_
    refine lv_iconst (v := 0) hx hb dX2_copyFrom_41 (by decide +kernel) ?_
    refine lv_sipush (v := 600) hx hb dX2_copyFrom_42 (by decide +kernel) ?_
    refine pc_l hx hb (hml.trans hl.1.symm) hown (hts _ (tw_c tw_1375)) (hts _ (tw_c tw_1105)) (hts _ (tw_c tw_1106)) (hts _ (tw_c tw_1107)) hK hP hD hS hL_w_11 hK_w_11 hN_w_11 hL_w_12 hK_w_12 hN_w_12 (rg_pos (rg_k (0 : Int32) 0 rfl) (by decide +kernel)) (rg_pos (rg_k (600 : Int32) 600 rfl) (by decide +kernel)) (rg_cp (rg_k (0 : Int32) 0 rfl) (rg_k (600 : Int32) 600 rfl) (by decide +kernel)) (rg_cl (rg_k (600 : Int32) 600 rfl) (by decide +kernel)) (Nat.le_of_ble_eq_true rfl) (Nat.le_of_ble_eq_true rfl) dX2_copyFrom_45 (fun r_13 H locs er_13 hP hD hS => ?_)
    replace hF := hF.trans (ap_n (vL_cp hVT hO_w_12 (by decide +kernel) (funext fun _ => (cL_r hFr hap hO_w_11 (by decide +kernel) rfl)) er_13))
    replace hFr := fr_L hFr hO_w_12 (by decide +kernel) er_13
    have hG := GX.wJ hG hT_w_12 er_13 (by decide +kernel)
    refine lv_aload_n hx hb dX2_copyFrom_48 rfl (lv_at hl 1 rfl) ?_
    obtain ⟨w_14, hR_w_14, hL_w_14, hK_w_14, hN_w_14, hT_w_14⟩ := sh_a hSH 69 (ci := 2) (kd := 13) (len := 40) rfl (by decide +kernel) hL_a0 hK_a0
    have hO_w_14 : w_14 = vrow σ 69 N := vo_k (c := 2) hO_a0 hR_w_14
    refine pg_f (v := .ref w_14) (C := RX2) (T := TX2) (N := 20) hx hb hts (tw_i inlX2) hown hK hP hL_a0 hK_a0 (by decide +kernel) rfl 5 (by decide +kernel) (hts _ (tw_c tw_83)) (pq_hv rfl hR_w_14) dX2_copyFrom_49 ?_
    refine lv_aload_n hx hb dX2_copyFrom_52 rfl (lv_at hl 0 rfl) ?_
    obtain ⟨w_15, hR_w_15, hL_w_15, hK_w_15, hN_w_15, hT_w_15⟩ := sh_a hSH 69 (ci := 2) (kd := 13) (len := 40) rfl (by decide +kernel) hL_this hK_this
    have hO_w_15 : w_15 = vrow σ 69 M := vo_k (c := 2) hO_this hR_w_15
    refine pg_f (v := .ref w_15) (C := RX2) (T := TX2) (N := 20) hx hb hts (tw_i inlX2) hown hK hP hL_this hK_this (by decide +kernel) rfl 5 (by decide +kernel) (hts _ (tw_c tw_83)) (pq_hv rfl hR_w_15) dX2_copyFrom_53 ?_
    refine pk_v (va_runSN (As := [.ref w_14, .ref w_15]) (rest := []) ⟨hx, hb, hml, hown, hts⟩ (s_X11_copy_69_69 l D t σ I_8 J_10 ri r_13 rq H.size tg hSH hG.1 w_14 w_15 hL_w_14 hK_w_14 hN_w_14 hT_w_14 hL_w_15 hK_w_15 hN_w_15 hT_w_15) ⟨va_cnB (host := "RingsUnder") 2 hts (tw_W tw_1102) rfl rfl rfl (nl_19 hN) (hts _ (tw_c tw_2)) cd_yX11_copy_2 ⟨Nat.le_of_ble_eq_true rfl, Nat.le_of_ble_eq_true rfl⟩, hts (.static yX11_copy) (tw_c tq_static_yX11_copy), trivial⟩ ⟨pq_blind, pq_pre hK hN hP hD⟩ rfl rfl hl.1 rfl (lv_room (Nat.le_of_ble_eq_true rfl)) dX2_copyFrom_56 ⟨Nat.le_of_ble_eq_true rfl, Nat.le_of_ble_eq_true rfl⟩) hD hS hA (fun σ1 μ1 H locs hw_17 hP hD hS => ?_)
    obtain ⟨ri_18, hu_19, hg_20, hp_22, hp_23, hp_24⟩ := hw_17
    obtain ⟨hu_19a, hu_19b⟩ := Prod.mk.inj hu_19
    rw [hu_19a, hu_19b] at hP hD
    replace hF := hF.trans (ap_n (vR_cp hVT hO_w_15 (by decide +kernel) (funext fun _ => (cR_r hFr hap hO_w_14 (by decide +kernel) rfl)) hp_24))
    replace hFr := fr_R hFr hO_w_15 (by decide +kernel) hp_24
    have hG := GX.tr hG hg_20 (by decide +kernel)
    refine lv_aload_n hx hb dX2_copyFrom_59 rfl (lv_at hl 1 rfl) ?_
    obtain ⟨w_27, hR_w_27, hL_w_27, hK_w_27, hN_w_27, hT_w_27⟩ := sh_a hSH 70 (ci := 2) (kd := 13) (len := 40) rfl (by decide +kernel) hL_a0 hK_a0
    have hO_w_27 : w_27 = vrow σ 70 N := vo_k (c := 2) hO_a0 hR_w_27
    refine pg_f (v := .ref w_27) (C := RX2) (T := TX2) (N := 20) hx hb hts (tw_i inlX2) hown hK hP hL_a0 hK_a0 (by decide +kernel) rfl 6 (by decide +kernel) (hts _ (tw_c tw_84)) (pq_hv rfl hR_w_27) dX2_copyFrom_60 ?_
    refine lv_aload_n hx hb dX2_copyFrom_63 rfl (lv_at hl 0 rfl) ?_
    obtain ⟨w_28, hR_w_28, hL_w_28, hK_w_28, hN_w_28, hT_w_28⟩ := sh_a hSH 70 (ci := 2) (kd := 13) (len := 40) rfl (by decide +kernel) hL_this hK_this
    have hO_w_28 : w_28 = vrow σ 70 M := vo_k (c := 2) hO_this hR_w_28
    refine pg_f (v := .ref w_28) (C := RX2) (T := TX2) (N := 20) hx hb hts (tw_i inlX2) hown hK hP hL_this hK_this (by decide +kernel) rfl 6 (by decide +kernel) (hts _ (tw_c tw_84)) (pq_hv rfl hR_w_28) dX2_copyFrom_64 ?_
    refine pk_v (va_runSN (As := [.ref w_27, .ref w_28]) (rest := []) ⟨hx, hb, hml, hown, hts⟩ (s_X11_copy_70_70 l D t σ I_8 J_10 ri_18 r_13 rq H.size tg hSH hG.1 w_27 w_28 hL_w_27 hK_w_27 hN_w_27 hT_w_27 hL_w_28 hK_w_28 hN_w_28 hT_w_28) ⟨va_cnB (host := "RingsUnder") 2 hts (tw_W tw_1102) rfl rfl rfl (nl_19 hN) (hts _ (tw_c tw_2)) cd_yX11_copy_2 ⟨Nat.le_of_ble_eq_true rfl, Nat.le_of_ble_eq_true rfl⟩, hts (.static yX11_copy) (tw_c tq_static_yX11_copy), trivial⟩ ⟨pq_blind, pq_pre hK hN hP hD⟩ rfl rfl hl.1 rfl (lv_room (Nat.le_of_ble_eq_true rfl)) dX2_copyFrom_67 ⟨Nat.le_of_ble_eq_true rfl, Nat.le_of_ble_eq_true rfl⟩) hD hS hA (fun σ1 μ1 H locs hw_30 hP hD hS => ?_)
    obtain ⟨ri_31, hu_32, hg_33, hp_35, hp_36, hp_37⟩ := hw_30
    obtain ⟨hu_32a, hu_32b⟩ := Prod.mk.inj hu_32
    rw [hu_32a, hu_32b] at hP hD
    replace hF := hF.trans (ap_n (vR_cp hVT hO_w_28 (by decide +kernel) (funext fun _ => (cR_r hFr hap hO_w_27 (by decide +kernel) rfl)) hp_37))
    replace hFr := fr_R hFr hO_w_28 (by decide +kernel) hp_37
    have hG := GX.tr hG hg_33 (by decide +kernel)
    refine lv_aload_n hx hb dX2_copyFrom_70 rfl (lv_at hl 1 rfl) ?_
    obtain ⟨w_40, hR_w_40, hL_w_40, hK_w_40, hN_w_40, hT_w_40⟩ := sh_a hSH 71 (ci := 2) (kd := 13) (len := 40) rfl (by decide +kernel) hL_a0 hK_a0
    have hO_w_40 : w_40 = vrow σ 71 N := vo_k (c := 2) hO_a0 hR_w_40
    refine pg_f (v := .ref w_40) (C := RX2) (T := TX2) (N := 20) hx hb hts (tw_i inlX2) hown hK hP hL_a0 hK_a0 (by decide +kernel) rfl 7 (by decide +kernel) (hts _ (tw_c tw_85)) (pq_hv rfl hR_w_40) dX2_copyFrom_71 ?_
    refine lv_aload_n hx hb dX2_copyFrom_74 rfl (lv_at hl 0 rfl) ?_
    obtain ⟨w_41, hR_w_41, hL_w_41, hK_w_41, hN_w_41, hT_w_41⟩ := sh_a hSH 71 (ci := 2) (kd := 13) (len := 40) rfl (by decide +kernel) hL_this hK_this
    have hO_w_41 : w_41 = vrow σ 71 M := vo_k (c := 2) hO_this hR_w_41
    refine pg_f (v := .ref w_41) (C := RX2) (T := TX2) (N := 20) hx hb hts (tw_i inlX2) hown hK hP hL_this hK_this (by decide +kernel) rfl 7 (by decide +kernel) (hts _ (tw_c tw_85)) (pq_hv rfl hR_w_41) dX2_copyFrom_75 ?_
    refine pk_v (va_runSN (As := [.ref w_40, .ref w_41]) (rest := []) ⟨hx, hb, hml, hown, hts⟩ (s_X11_copy_71_71 l D t σ I_8 J_10 ri_31 r_13 rq H.size tg hSH hG.1 w_40 w_41 hL_w_40 hK_w_40 hN_w_40 hT_w_40 hL_w_41 hK_w_41 hN_w_41 hT_w_41) ⟨va_cnB (host := "RingsUnder") 2 hts (tw_W tw_1102) rfl rfl rfl (nl_19 hN) (hts _ (tw_c tw_2)) cd_yX11_copy_2 ⟨Nat.le_of_ble_eq_true rfl, Nat.le_of_ble_eq_true rfl⟩, hts (.static yX11_copy) (tw_c tq_static_yX11_copy), trivial⟩ ⟨pq_blind, pq_pre hK hN hP hD⟩ rfl rfl hl.1 rfl (lv_room (Nat.le_of_ble_eq_true rfl)) dX2_copyFrom_78 ⟨Nat.le_of_ble_eq_true rfl, Nat.le_of_ble_eq_true rfl⟩) hD hS hA (fun σ1 μ1 H locs hw_43 hP hD hS => ?_)
    obtain ⟨ri_44, hu_45, hg_46, hp_48, hp_49, hp_50⟩ := hw_43
    obtain ⟨hu_45a, hu_45b⟩ := Prod.mk.inj hu_45
    rw [hu_45a, hu_45b] at hP hD
    replace hF := hF.trans (ap_n (vR_cp hVT hO_w_41 (by decide +kernel) (funext fun _ => (cR_r hFr hap hO_w_40 (by decide +kernel) rfl)) hp_50))
    replace hFr := fr_R hFr hO_w_41 (by decide +kernel) hp_50
    have hG := GX.tr hG hg_46 (by decide +kernel)
    refine lv_aload_n hx hb dX2_copyFrom_81 rfl (lv_at hl 1 rfl) ?_
    obtain ⟨w_53, hR_w_53, hL_w_53, hK_w_53, hN_w_53, hT_w_53⟩ := sh_a hSH 72 (ci := 2) (kd := 13) (len := 40) rfl (by decide +kernel) hL_a0 hK_a0
    have hO_w_53 : w_53 = vrow σ 72 N := vo_k (c := 2) hO_a0 hR_w_53
    refine pg_f (v := .ref w_53) (C := RX2) (T := TX2) (N := 20) hx hb hts (tw_i inlX2) hown hK hP hL_a0 hK_a0 (by decide +kernel) rfl 8 (by decide +kernel) (hts _ (tw_c tw_86)) (pq_hv rfl hR_w_53) dX2_copyFrom_82 ?_
    refine lv_aload_n hx hb dX2_copyFrom_85 rfl (lv_at hl 0 rfl) ?_
    obtain ⟨w_54, hR_w_54, hL_w_54, hK_w_54, hN_w_54, hT_w_54⟩ := sh_a hSH 72 (ci := 2) (kd := 13) (len := 40) rfl (by decide +kernel) hL_this hK_this
    have hO_w_54 : w_54 = vrow σ 72 M := vo_k (c := 2) hO_this hR_w_54
    refine pg_f (v := .ref w_54) (C := RX2) (T := TX2) (N := 20) hx hb hts (tw_i inlX2) hown hK hP hL_this hK_this (by decide +kernel) rfl 8 (by decide +kernel) (hts _ (tw_c tw_86)) (pq_hv rfl hR_w_54) dX2_copyFrom_86 ?_
    refine pk_v (va_runSN (As := [.ref w_53, .ref w_54]) (rest := []) ⟨hx, hb, hml, hown, hts⟩ (s_X11_copy_72_72 l D t σ I_8 J_10 ri_44 r_13 rq H.size tg hSH hG.1 w_53 w_54 hL_w_53 hK_w_53 hN_w_53 hT_w_53 hL_w_54 hK_w_54 hN_w_54 hT_w_54) ⟨va_cnB (host := "RingsUnder") 2 hts (tw_W tw_1102) rfl rfl rfl (nl_19 hN) (hts _ (tw_c tw_2)) cd_yX11_copy_2 ⟨Nat.le_of_ble_eq_true rfl, Nat.le_of_ble_eq_true rfl⟩, hts (.static yX11_copy) (tw_c tq_static_yX11_copy), trivial⟩ ⟨pq_blind, pq_pre hK hN hP hD⟩ rfl rfl hl.1 rfl (lv_room (Nat.le_of_ble_eq_true rfl)) dX2_copyFrom_89 ⟨Nat.le_of_ble_eq_true rfl, Nat.le_of_ble_eq_true rfl⟩) hD hS hA (fun σ1 μ1 H locs hw_56 hP hD hS => ?_)
    obtain ⟨ri_57, hu_58, hg_59, hp_61, hp_62, hp_63⟩ := hw_56
    obtain ⟨hu_58a, hu_58b⟩ := Prod.mk.inj hu_58
    rw [hu_58a, hu_58b] at hP hD
    replace hF := hF.trans (ap_n (vR_cp hVT hO_w_54 (by decide +kernel) (funext fun _ => (cR_r hFr hap hO_w_53 (by decide +kernel) rfl)) hp_63))
    replace hFr := fr_R hFr hO_w_54 (by decide +kernel) hp_63
    have hG := GX.tr hG hg_59 (by decide +kernel)
    refine lv_aload_n hx hb dX2_copyFrom_92 rfl (lv_at hl 1 rfl) ?_
    obtain ⟨w_66, hR_w_66, hL_w_66, hK_w_66, hN_w_66, hT_w_66⟩ := sh_a hSH 73 (ci := 2) (kd := 13) (len := 40) rfl (by decide +kernel) hL_a0 hK_a0
    have hO_w_66 : w_66 = vrow σ 73 N := vo_k (c := 2) hO_a0 hR_w_66
    refine pg_f (v := .ref w_66) (C := RX2) (T := TX2) (N := 20) hx hb hts (tw_i inlX2) hown hK hP hL_a0 hK_a0 (by decide +kernel) rfl 9 (by decide +kernel) (hts _ (tw_c tw_87)) (pq_hv rfl hR_w_66) dX2_copyFrom_93 ?_
    refine lv_aload_n hx hb dX2_copyFrom_96 rfl (lv_at hl 0 rfl) ?_
    obtain ⟨w_67, hR_w_67, hL_w_67, hK_w_67, hN_w_67, hT_w_67⟩ := sh_a hSH 73 (ci := 2) (kd := 13) (len := 40) rfl (by decide +kernel) hL_this hK_this
    have hO_w_67 : w_67 = vrow σ 73 M := vo_k (c := 2) hO_this hR_w_67
    refine pg_f (v := .ref w_67) (C := RX2) (T := TX2) (N := 20) hx hb hts (tw_i inlX2) hown hK hP hL_this hK_this (by decide +kernel) rfl 9 (by decide +kernel) (hts _ (tw_c tw_87)) (pq_hv rfl hR_w_67) dX2_copyFrom_97 ?_
    refine pk_v (va_runSN (As := [.ref w_66, .ref w_67]) (rest := []) ⟨hx, hb, hml, hown, hts⟩ (s_X11_copy_73_73 l D t σ I_8 J_10 ri_57 r_13 rq H.size tg hSH hG.1 w_66 w_67 hL_w_66 hK_w_66 hN_w_66 hT_w_66 hL_w_67 hK_w_67 hN_w_67 hT_w_67) ⟨va_cnB (host := "RingsUnder") 2 hts (tw_W tw_1102) rfl rfl rfl (nl_19 hN) (hts _ (tw_c tw_2)) cd_yX11_copy_2 ⟨Nat.le_of_ble_eq_true rfl, Nat.le_of_ble_eq_true rfl⟩, hts (.static yX11_copy) (tw_c tq_static_yX11_copy), trivial⟩ ⟨pq_blind, pq_pre hK hN hP hD⟩ rfl rfl hl.1 rfl (lv_room (Nat.le_of_ble_eq_true rfl)) dX2_copyFrom_100 ⟨Nat.le_of_ble_eq_true rfl, Nat.le_of_ble_eq_true rfl⟩) hD hS hA (fun σ1 μ1 H locs hw_69 hP hD hS => ?_)
    obtain ⟨ri_70, hu_71, hg_72, hp_74, hp_75, hp_76⟩ := hw_69
    obtain ⟨hu_71a, hu_71b⟩ := Prod.mk.inj hu_71
    rw [hu_71a, hu_71b] at hP hD
    replace hF := hF.trans (ap_n (vR_cp hVT hO_w_67 (by decide +kernel) (funext fun _ => (cR_r hFr hap hO_w_66 (by decide +kernel) rfl)) hp_76))
    replace hFr := fr_R hFr hO_w_67 (by decide +kernel) hp_76
    have hG := GX.tr hG hg_72 (by decide +kernel)
    refine lv_aload_n hx hb dX2_copyFrom_103 rfl (lv_at hl 1 rfl) ?_
    obtain ⟨w_79, hR_w_79, hL_w_79, hK_w_79, hN_w_79, hT_w_79⟩ := sh_a hSH 74 (ci := 2) (kd := 13) (len := 40) rfl (by decide +kernel) hL_a0 hK_a0
    have hO_w_79 : w_79 = vrow σ 74 N := vo_k (c := 2) hO_a0 hR_w_79
    refine pg_f (v := .ref w_79) (C := RX2) (T := TX2) (N := 20) hx hb hts (tw_i inlX2) hown hK hP hL_a0 hK_a0 (by decide +kernel) rfl 10 (by decide +kernel) (hts _ (tw_c tw_88)) (pq_hv rfl hR_w_79) dX2_copyFrom_104 ?_
    refine lv_aload_n hx hb dX2_copyFrom_107 rfl (lv_at hl 0 rfl) ?_
    obtain ⟨w_80, hR_w_80, hL_w_80, hK_w_80, hN_w_80, hT_w_80⟩ := sh_a hSH 74 (ci := 2) (kd := 13) (len := 40) rfl (by decide +kernel) hL_this hK_this
    have hO_w_80 : w_80 = vrow σ 74 M := vo_k (c := 2) hO_this hR_w_80
    refine pg_f (v := .ref w_80) (C := RX2) (T := TX2) (N := 20) hx hb hts (tw_i inlX2) hown hK hP hL_this hK_this (by decide +kernel) rfl 10 (by decide +kernel) (hts _ (tw_c tw_88)) (pq_hv rfl hR_w_80) dX2_copyFrom_108 ?_
    refine pk_v (va_runSN (As := [.ref w_79, .ref w_80]) (rest := []) ⟨hx, hb, hml, hown, hts⟩ (s_X11_copy_74_74 l D t σ I_8 J_10 ri_70 r_13 rq H.size tg hSH hG.1 w_79 w_80 hL_w_79 hK_w_79 hN_w_79 hT_w_79 hL_w_80 hK_w_80 hN_w_80 hT_w_80) ⟨va_cnB (host := "RingsUnder") 2 hts (tw_W tw_1102) rfl rfl rfl (nl_19 hN) (hts _ (tw_c tw_2)) cd_yX11_copy_2 ⟨Nat.le_of_ble_eq_true rfl, Nat.le_of_ble_eq_true rfl⟩, hts (.static yX11_copy) (tw_c tq_static_yX11_copy), trivial⟩ ⟨pq_blind, pq_pre hK hN hP hD⟩ rfl rfl hl.1 rfl (lv_room (Nat.le_of_ble_eq_true rfl)) dX2_copyFrom_111 ⟨Nat.le_of_ble_eq_true rfl, Nat.le_of_ble_eq_true rfl⟩) hD hS hA (fun σ1 μ1 H locs hw_82 hP hD hS => ?_)
    obtain ⟨ri_83, hu_84, hg_85, hp_87, hp_88, hp_89⟩ := hw_82
    obtain ⟨hu_84a, hu_84b⟩ := Prod.mk.inj hu_84
    rw [hu_84a, hu_84b] at hP hD
    replace hF := hF.trans (ap_n (vR_cp hVT hO_w_80 (by decide +kernel) (funext fun _ => (cR_r hFr hap hO_w_79 (by decide +kernel) rfl)) hp_89))
    replace hFr := fr_R hFr hO_w_80 (by decide +kernel) hp_89
    have hG := GX.tr hG hg_85 (by decide +kernel)
    refine lv_aload_n hx hb dX2_copyFrom_114 rfl (lv_at hl 1 rfl) ?_
    obtain ⟨w_92, hR_w_92, hL_w_92, hK_w_92, hN_w_92, hT_w_92⟩ := sh_a hSH 75 (ci := 2) (kd := 13) (len := 40) rfl (by decide +kernel) hL_a0 hK_a0
    have hO_w_92 : w_92 = vrow σ 75 N := vo_k (c := 2) hO_a0 hR_w_92
    refine pg_f (v := .ref w_92) (C := RX2) (T := TX2) (N := 20) hx hb hts (tw_i inlX2) hown hK hP hL_a0 hK_a0 (by decide +kernel) rfl 11 (by decide +kernel) (hts _ (tw_c tw_89)) (pq_hv rfl hR_w_92) dX2_copyFrom_115 ?_
    refine lv_aload_n hx hb dX2_copyFrom_118 rfl (lv_at hl 0 rfl) ?_
    obtain ⟨w_93, hR_w_93, hL_w_93, hK_w_93, hN_w_93, hT_w_93⟩ := sh_a hSH 75 (ci := 2) (kd := 13) (len := 40) rfl (by decide +kernel) hL_this hK_this
    have hO_w_93 : w_93 = vrow σ 75 M := vo_k (c := 2) hO_this hR_w_93
    refine pg_f (v := .ref w_93) (C := RX2) (T := TX2) (N := 20) hx hb hts (tw_i inlX2) hown hK hP hL_this hK_this (by decide +kernel) rfl 11 (by decide +kernel) (hts _ (tw_c tw_89)) (pq_hv rfl hR_w_93) dX2_copyFrom_119 ?_
    refine pk_v (va_runSN (As := [.ref w_92, .ref w_93]) (rest := []) ⟨hx, hb, hml, hown, hts⟩ (s_X11_copy_75_75 l D t σ I_8 J_10 ri_83 r_13 rq H.size tg hSH hG.1 w_92 w_93 hL_w_92 hK_w_92 hN_w_92 hT_w_92 hL_w_93 hK_w_93 hN_w_93 hT_w_93) ⟨va_cnB (host := "RingsUnder") 2 hts (tw_W tw_1102) rfl rfl rfl (nl_19 hN) (hts _ (tw_c tw_2)) cd_yX11_copy_2 ⟨Nat.le_of_ble_eq_true rfl, Nat.le_of_ble_eq_true rfl⟩, hts (.static yX11_copy) (tw_c tq_static_yX11_copy), trivial⟩ ⟨pq_blind, pq_pre hK hN hP hD⟩ rfl rfl hl.1 rfl (lv_room (Nat.le_of_ble_eq_true rfl)) dX2_copyFrom_122 ⟨Nat.le_of_ble_eq_true rfl, Nat.le_of_ble_eq_true rfl⟩) hD hS hA (fun σ1 μ1 H locs hw_95 hP hD hS => ?_)
    obtain ⟨ri_96, hu_97, hg_98, hp_100, hp_101, hp_102⟩ := hw_95
    obtain ⟨hu_97a, hu_97b⟩ := Prod.mk.inj hu_97
    rw [hu_97a, hu_97b] at hP hD
    replace hF := hF.trans (ap_n (vR_cp hVT hO_w_93 (by decide +kernel) (funext fun _ => (cR_r hFr hap hO_w_92 (by decide +kernel) rfl)) hp_102))
    replace hFr := fr_R hFr hO_w_93 (by decide +kernel) hp_102
    have hG := GX.tr hG hg_98 (by decide +kernel)
    refine lv_aload_n hx hb dX2_copyFrom_125 rfl (lv_at hl 1 rfl) ?_
    obtain ⟨w_105, hR_w_105, hL_w_105, hK_w_105, hN_w_105, hT_w_105⟩ := sh_a hSH 76 (ci := 2) (kd := 13) (len := 40) rfl (by decide +kernel) hL_a0 hK_a0
    have hO_w_105 : w_105 = vrow σ 76 N := vo_k (c := 2) hO_a0 hR_w_105
    refine pg_f (v := .ref w_105) (C := RX2) (T := TX2) (N := 20) hx hb hts (tw_i inlX2) hown hK hP hL_a0 hK_a0 (by decide +kernel) rfl 12 (by decide +kernel) (hts _ (tw_c tw_90)) (pq_hv rfl hR_w_105) dX2_copyFrom_126 ?_
    refine lv_aload_n hx hb dX2_copyFrom_129 rfl (lv_at hl 0 rfl) ?_
    obtain ⟨w_106, hR_w_106, hL_w_106, hK_w_106, hN_w_106, hT_w_106⟩ := sh_a hSH 76 (ci := 2) (kd := 13) (len := 40) rfl (by decide +kernel) hL_this hK_this
    have hO_w_106 : w_106 = vrow σ 76 M := vo_k (c := 2) hO_this hR_w_106
    refine pg_f (v := .ref w_106) (C := RX2) (T := TX2) (N := 20) hx hb hts (tw_i inlX2) hown hK hP hL_this hK_this (by decide +kernel) rfl 12 (by decide +kernel) (hts _ (tw_c tw_90)) (pq_hv rfl hR_w_106) dX2_copyFrom_130 ?_
    refine pk_v (va_runSN (As := [.ref w_105, .ref w_106]) (rest := []) ⟨hx, hb, hml, hown, hts⟩ (s_X11_copy_76_76 l D t σ I_8 J_10 ri_96 r_13 rq H.size tg hSH hG.1 w_105 w_106 hL_w_105 hK_w_105 hN_w_105 hT_w_105 hL_w_106 hK_w_106 hN_w_106 hT_w_106) ⟨va_cnB (host := "RingsUnder") 2 hts (tw_W tw_1102) rfl rfl rfl (nl_19 hN) (hts _ (tw_c tw_2)) cd_yX11_copy_2 ⟨Nat.le_of_ble_eq_true rfl, Nat.le_of_ble_eq_true rfl⟩, hts (.static yX11_copy) (tw_c tq_static_yX11_copy), trivial⟩ ⟨pq_blind, pq_pre hK hN hP hD⟩ rfl rfl hl.1 rfl (lv_room (Nat.le_of_ble_eq_true rfl)) dX2_copyFrom_133 ⟨Nat.le_of_ble_eq_true rfl, Nat.le_of_ble_eq_true rfl⟩) hD hS hA (fun σ1 μ1 H locs hw_108 hP hD hS => ?_)
    obtain ⟨ri_109, hu_110, hg_111, hp_113, hp_114, hp_115⟩ := hw_108
    obtain ⟨hu_110a, hu_110b⟩ := Prod.mk.inj hu_110
    rw [hu_110a, hu_110b] at hP hD
    replace hF := hF.trans (ap_n (vR_cp hVT hO_w_106 (by decide +kernel) (funext fun _ => (cR_r hFr hap hO_w_105 (by decide +kernel) rfl)) hp_115))
    replace hFr := fr_R hFr hO_w_106 (by decide +kernel) hp_115
    have hG := GX.tr hG hg_111 (by decide +kernel)
    refine lv_aload_n hx hb dX2_copyFrom_136 rfl (lv_at hl 1 rfl) ?_
    obtain ⟨w_118, hR_w_118, hL_w_118, hK_w_118, hN_w_118, hT_w_118⟩ := sh_a hSH 77 (ci := 2) (kd := 13) (len := 40) rfl (by decide +kernel) hL_a0 hK_a0
    have hO_w_118 : w_118 = vrow σ 77 N := vo_k (c := 2) hO_a0 hR_w_118
    refine pg_f (v := .ref w_118) (C := RX2) (T := TX2) (N := 20) hx hb hts (tw_i inlX2) hown hK hP hL_a0 hK_a0 (by decide +kernel) rfl 13 (by decide +kernel) (hts _ (tw_c tw_91)) (pq_hv rfl hR_w_118) dX2_copyFrom_137 ?_
    refine lv_aload_n hx hb dX2_copyFrom_140 rfl (lv_at hl 0 rfl) ?_
    obtain ⟨w_119, hR_w_119, hL_w_119, hK_w_119, hN_w_119, hT_w_119⟩ := sh_a hSH 77 (ci := 2) (kd := 13) (len := 40) rfl (by decide +kernel) hL_this hK_this
    have hO_w_119 : w_119 = vrow σ 77 M := vo_k (c := 2) hO_this hR_w_119
    refine pg_f (v := .ref w_119) (C := RX2) (T := TX2) (N := 20) hx hb hts (tw_i inlX2) hown hK hP hL_this hK_this (by decide +kernel) rfl 13 (by decide +kernel) (hts _ (tw_c tw_91)) (pq_hv rfl hR_w_119) dX2_copyFrom_141 ?_
    refine pk_v (va_runSN (As := [.ref w_118, .ref w_119]) (rest := []) ⟨hx, hb, hml, hown, hts⟩ (s_X11_copy_77_77 l D t σ I_8 J_10 ri_109 r_13 rq H.size tg hSH hG.1 w_118 w_119 hL_w_118 hK_w_118 hN_w_118 hT_w_118 hL_w_119 hK_w_119 hN_w_119 hT_w_119) ⟨va_cnB (host := "RingsUnder") 2 hts (tw_W tw_1102) rfl rfl rfl (nl_19 hN) (hts _ (tw_c tw_2)) cd_yX11_copy_2 ⟨Nat.le_of_ble_eq_true rfl, Nat.le_of_ble_eq_true rfl⟩, hts (.static yX11_copy) (tw_c tq_static_yX11_copy), trivial⟩ ⟨pq_blind, pq_pre hK hN hP hD⟩ rfl rfl hl.1 rfl (lv_room (Nat.le_of_ble_eq_true rfl)) dX2_copyFrom_144 ⟨Nat.le_of_ble_eq_true rfl, Nat.le_of_ble_eq_true rfl⟩) hD hS hA (fun σ1 μ1 H locs hw_121 hP hD hS => ?_)
    obtain ⟨ri_122, hu_123, hg_124, hp_126, hp_127, hp_128⟩ := hw_121
    obtain ⟨hu_123a, hu_123b⟩ := Prod.mk.inj hu_123
    rw [hu_123a, hu_123b] at hP hD
    replace hF := hF.trans (ap_n (vR_cp hVT hO_w_119 (by decide +kernel) (funext fun _ => (cR_r hFr hap hO_w_118 (by decide +kernel) rfl)) hp_128))
    replace hFr := fr_R hFr hO_w_119 (by decide +kernel) hp_128
    have hG := GX.tr hG hg_124 (by decide +kernel)
    refine lv_aload_n hx hb dX2_copyFrom_147 rfl (lv_at hl 0 rfl) ?_
    obtain ⟨w_131, hR_w_131, hL_w_131, hK_w_131⟩ := sh_o hSH 78 (ci := 2) (kd := 9) rfl hL_this hK_this
    have hO_w_131 : w_131 = vo σ 9 M := vo_k (c := 2) hO_this hR_w_131
    refine pg_f (v := .ref w_131) (C := RX2) (T := TX2) (N := 20) hx hb hts (tw_i inlX2) hown hK hP hL_this hK_this (by decide +kernel) rfl 14 (by decide +kernel) (hts _ (tw_c tw_95)) (pq_hv rfl hR_w_131) dX2_copyFrom_148 ?_
    refine lv_aload_n hx hb dX2_copyFrom_151 rfl (lv_at hl 1 rfl) ?_
    obtain ⟨w_132, hR_w_132, hL_w_132, hK_w_132⟩ := sh_o hSH 78 (ci := 2) (kd := 9) rfl hL_a0 hK_a0
    have hO_w_132 : w_132 = vo σ 9 N := vo_k (c := 2) hO_a0 hR_w_132
    refine pg_f (v := .ref w_132) (C := RX2) (T := TX2) (N := 20) hx hb hts (tw_i inlX2) hown hK hP hL_a0 hK_a0 (by decide +kernel) rfl 14 (by decide +kernel) (hts _ (tw_c tw_95)) (pq_hv rfl hR_w_132) dX2_copyFrom_152 ?_
    refine pk_v (va_runV (As := [.ref w_132]) (rest := []) ⟨hx, hb, hml, hown, hts⟩ (s_X9_copyFrom l D t σ I_8 J_10 ri_122 r_13 rq H.size tg hSH hG.1 w_131 w_132 hL_w_131 hK_w_131 hL_w_132 hK_w_132 M hL_M hK_M N hL_N hK_N hO_w_131 hO_w_132 hap) (cwV 1 hts (tw_V tw_1376 tw_1377 tw_1378 tw_94 tw_1379) rfl rfl rfl cv_yX9_copyFrom_1 ⟨Nat.le_of_ble_eq_true rfl, Nat.le_of_ble_eq_true rfl⟩) ⟨pq_blind, pq_recv hK hP hL_w_131 hK_w_131 (by decide +kernel) rfl, pq_pre hK hN hP hD⟩ rfl rfl hl.1 rfl (lv_room (Nat.le_of_ble_eq_true rfl)) dX2_copyFrom_155 ⟨Nat.le_of_ble_eq_true rfl, Nat.le_of_ble_eq_true rfl⟩) hD hS hA (fun σ1 μ1 H locs hw_134 hP hD hS => ?_)
    obtain ⟨ri_135, hu_136, hg_137, hfn_139, hfr_140⟩ := hw_134
    obtain ⟨hu_136a, hu_136b⟩ := Prod.mk.inj hu_136
    rw [hu_136a, hu_136b] at hP hD
    rw [fr_cR hFr hap] at hfn_139
    replace hF := hF.trans (bv_n hfn_139)
    replace hFr := fr_tr hFr hfr_140
    have hG := GX.tr hG hg_137 (by decide +kernel)
    refine lv_aload_n hx hb dX2_copyFrom_158 rfl (lv_at hl 1 rfl) ?_
    obtain ⟨w_141, hR_w_141, hL_w_141, hK_w_141, hN_w_141, hT_w_141⟩ := sh_a hSH 79 (ci := 2) (kd := 13) (len := 40) rfl (by decide +kernel) hL_a0 hK_a0
    have hO_w_141 : w_141 = vrow σ 79 N := vo_k (c := 2) hO_a0 hR_w_141
    refine pg_f (v := .ref w_141) (C := RX2) (T := TX2) (N := 20) hx hb hts (tw_i inlX2) hown hK hP hL_a0 hK_a0 (by decide +kernel) rfl 15 (by decide +kernel) (hts _ (tw_c tw_96)) (pq_hv rfl hR_w_141) dX2_copyFrom_159 ?_
    refine lv_aload_n hx hb dX2_copyFrom_162 rfl (lv_at hl 0 rfl) ?_
    obtain ⟨w_142, hR_w_142, hL_w_142, hK_w_142, hN_w_142, hT_w_142⟩ := sh_a hSH 79 (ci := 2) (kd := 13) (len := 40) rfl (by decide +kernel) hL_this hK_this
    have hO_w_142 : w_142 = vrow σ 79 M := vo_k (c := 2) hO_this hR_w_142
    refine pg_f (v := .ref w_142) (C := RX2) (T := TX2) (N := 20) hx hb hts (tw_i inlX2) hown hK hP hL_this hK_this (by decide +kernel) rfl 15 (by decide +kernel) (hts _ (tw_c tw_96)) (pq_hv rfl hR_w_142) dX2_copyFrom_163 ?_
    refine pk_v (va_runSN (As := [.ref w_141, .ref w_142]) (rest := []) ⟨hx, hb, hml, hown, hts⟩ (s_X11_copy_79_79 l D t σ I_8 J_10 ri_135 r_13 rq H.size tg hSH hG.1 w_141 w_142 hL_w_141 hK_w_141 hN_w_141 hT_w_141 hL_w_142 hK_w_142 hN_w_142 hT_w_142) ⟨va_cnB (host := "RingsUnder") 2 hts (tw_W tw_1102) rfl rfl rfl (nl_19 hN) (hts _ (tw_c tw_2)) cd_yX11_copy_2 ⟨Nat.le_of_ble_eq_true rfl, Nat.le_of_ble_eq_true rfl⟩, hts (.static yX11_copy) (tw_c tq_static_yX11_copy), trivial⟩ ⟨pq_blind, pq_pre hK hN hP hD⟩ rfl rfl hl.1 rfl (lv_room (Nat.le_of_ble_eq_true rfl)) dX2_copyFrom_166 ⟨Nat.le_of_ble_eq_true rfl, Nat.le_of_ble_eq_true rfl⟩) hD hS hA (fun σ1 μ1 H locs hw_144 hP hD hS => ?_)
    obtain ⟨ri_145, hu_146, hg_147, hp_149, hp_150, hp_151⟩ := hw_144
    obtain ⟨hu_146a, hu_146b⟩ := Prod.mk.inj hu_146
    rw [hu_146a, hu_146b] at hP hD
    replace hF := hF.trans (ap_n (vR_cp hVT hO_w_142 (by decide +kernel) (funext fun _ => (cR_r hFr hap hO_w_141 (by decide +kernel) rfl)) hp_151))
    replace hFr := fr_R hFr hO_w_142 (by decide +kernel) hp_151
    have hG := GX.tr hG hg_147 (by decide +kernel)
    refine lv_aload_n hx hb dX2_copyFrom_169 rfl (lv_at hl 1 rfl) ?_
    obtain ⟨w_154, hR_w_154, hL_w_154, hK_w_154, hN_w_154, hT_w_154⟩ := sh_a hSH 80 (ci := 2) (kd := 13) (len := 5) rfl (by decide +kernel) hL_a0 hK_a0
    have hO_w_154 : w_154 = vrow σ 80 N := vo_k (c := 2) hO_a0 hR_w_154
    refine pg_f (v := .ref w_154) (C := RX2) (T := TX2) (N := 20) hx hb hts (tw_i inlX2) hown hK hP hL_a0 hK_a0 (by decide +kernel) rfl 16 (by decide +kernel) (hts _ (tw_c tw_97)) (pq_hv rfl hR_w_154) dX2_copyFrom_170 ?_
    refine lv_aload_n hx hb dX2_copyFrom_173 rfl (lv_at hl 0 rfl) ?_
    obtain ⟨w_155, hR_w_155, hL_w_155, hK_w_155, hN_w_155, hT_w_155⟩ := sh_a hSH 80 (ci := 2) (kd := 13) (len := 5) rfl (by decide +kernel) hL_this hK_this
    have hO_w_155 : w_155 = vrow σ 80 M := vo_k (c := 2) hO_this hR_w_155
    refine pg_f (v := .ref w_155) (C := RX2) (T := TX2) (N := 20) hx hb hts (tw_i inlX2) hown hK hP hL_this hK_this (by decide +kernel) rfl 16 (by decide +kernel) (hts _ (tw_c tw_97)) (pq_hv rfl hR_w_155) dX2_copyFrom_174 ?_
    refine pk_v (va_runSN (As := [.ref w_154, .ref w_155]) (rest := []) ⟨hx, hb, hml, hown, hts⟩ (s_X11_copy_80_80 l D t σ I_8 J_10 ri_145 r_13 rq H.size tg hSH hG.1 w_154 w_155 hL_w_154 hK_w_154 hN_w_154 hT_w_154 hL_w_155 hK_w_155 hN_w_155 hT_w_155) ⟨va_cnB (host := "RingsUnder") 2 hts (tw_W tw_1102) rfl rfl rfl (nl_19 hN) (hts _ (tw_c tw_2)) cd_yX11_copy_2 ⟨Nat.le_of_ble_eq_true rfl, Nat.le_of_ble_eq_true rfl⟩, hts (.static yX11_copy) (tw_c tq_static_yX11_copy), trivial⟩ ⟨pq_blind, pq_pre hK hN hP hD⟩ rfl rfl hl.1 rfl (lv_room (Nat.le_of_ble_eq_true rfl)) dX2_copyFrom_177 ⟨Nat.le_of_ble_eq_true rfl, Nat.le_of_ble_eq_true rfl⟩) hD hS hA (fun σ1 μ1 H locs hw_157 hP hD hS => ?_)
    obtain ⟨ri_158, hu_159, hg_160, hp_162, hp_163, hp_164⟩ := hw_157
    obtain ⟨hu_159a, hu_159b⟩ := Prod.mk.inj hu_159
    rw [hu_159a, hu_159b] at hP hD
    replace hF := hF.trans (ap_n (vR_cp hVT hO_w_155 (by decide +kernel) (funext fun _ => (cR_r hFr hap hO_w_154 (by decide +kernel) rfl)) hp_164))
    replace hFr := fr_R hFr hO_w_155 (by decide +kernel) hp_164
    have hG := GX.tr hG hg_160 (by decide +kernel)
    subst hQ
    exact W.vret hx hb hr (fun t1 ht hW => ⟨⟨(σ, I_8, J_10, ri_158, r_13, rq), rfl, ⟨I_8, J_10, ri_158, r_13, rfl, hG, (hF0.symm.trans hF), hFr⟩, by rw [ht]; exact hP, va_K.moved hW.alike hK, hD⟩, hS.F ht⟩) hS.2.2 dX2_copyFrom_180
  exact go _ _ _ hP hD hS hl

set_option maxRecDepth 100000 in
def g_X2_joinRing_K25 (x_254 : Int32) (k_g_X2_joinRing_L5 : (Int32) → (Int32) → vM) (x_301 : Int32) : vM := (ap1 (x_254 + Int32.ofInt 1) fun (x_308 : Int32) => (k_g_X2_joinRing_L5 x_301 x_308))
set_option maxRecDepth 100000 in
theorem g_X2_joinRing_K25_e {x_254 : Int32} {k_g_X2_joinRing_L5 : (Int32) → (Int32) → vM} {x_301 : Int32} : g_X2_joinRing_K25 x_254 k_g_X2_joinRing_L5 x_301 = (ap1 (x_254 + Int32.ofInt 1) fun (x_308 : Int32) => (k_g_X2_joinRing_L5 x_301 x_308)) := rfl
set_option maxRecDepth 100000 in
def g_X2_joinRing_L5 (a0 : Int32) (a1 : Int32) (I : Nat → Int32) (J : Nat → Int64) (ri : Nat → Nat → Int32) (rj : Nat → Nat → Int64) (rq : Nat → Nat → Option Nat) : Nat → (Int32) → (Int32) → vM
  | 0, x_253, x_254 => (I, J, ri, rj, rq)
  | n_276 + 1, x_253, x_254 => (if a0 ≤ x_254 then (if x_253 = (-1 : Int32) then (ap1 (va_up ri 80 (upd (ri 80) (a1).toNatClampNeg a0)) fun (r_294 : Nat → Nat → Int32) => (I, J, r_294, rj, rq)) else (ap1 (va_up ri 79 (upd (ri 79) (x_253).toNatClampNeg a0)) fun (r_291 : Nat → Nat → Int32) => (I, J, r_291, rj, rq))) else (ap1 (ri 69 (x_254).toNatClampNeg) fun (x_298 : Int32) => (if x_298 = a1 then (g_X2_joinRing_K25 x_254 (g_X2_joinRing_L5 a0 a1 I J ri rj rq n_276) x_254) else (g_X2_joinRing_K25 x_254 (g_X2_joinRing_L5 a0 a1 I J ri rj rq n_276) x_253))))
set_option maxRecDepth 100000 in
theorem g_X2_joinRing_L5_e {a0 : Int32} {a1 : Int32} {I : Nat → Int32} {J : Nat → Int64} {ri : Nat → Nat → Int32} {rj : Nat → Nat → Int64} {rq : Nat → Nat → Option Nat} {n_276 : Nat} {x_253 : Int32} {x_254 : Int32} : g_X2_joinRing_L5 a0 a1 I J ri rj rq (n_276 + 1) x_253 x_254 = (if a0 ≤ x_254 then (if x_253 = (-1 : Int32) then (ap1 (va_up ri 80 (upd (ri 80) (a1).toNatClampNeg a0)) fun (r_294 : Nat → Nat → Int32) => (I, J, r_294, rj, rq)) else (ap1 (va_up ri 79 (upd (ri 79) (x_253).toNatClampNeg a0)) fun (r_291 : Nat → Nat → Int32) => (I, J, r_291, rj, rq))) else (ap1 (ri 69 (x_254).toNatClampNeg) fun (x_298 : Int32) => (if x_298 = a1 then (g_X2_joinRing_K25 x_254 (g_X2_joinRing_L5 a0 a1 I J ri rj rq n_276) x_254) else (g_X2_joinRing_K25 x_254 (g_X2_joinRing_L5 a0 a1 I J ri rj rq n_276) x_253)))) := rfl
set_option maxRecDepth 100000 in
def g_X2_joinRing (a0 : Int32) (a1 : Int32) (I : Nat → Int32) (J : Nat → Int64) (ri : Nat → Nat → Int32) (rj : Nat → Nat → Int64) (rq : Nat → Nat → Option Nat) : vM := (g_X2_joinRing_L5 a0 a1 I J ri rj rq ((39 - ((0 : Int32)).toInt).toNat + 1) (-1 : Int32) (0 : Int32))
set_option maxRecDepth 100000 in
theorem g_X2_joinRing_e {a0 : Int32} {a1 : Int32} {I : Nat → Int32} {J : Nat → Int64} {ri : Nat → Nat → Int32} {rj : Nat → Nat → Int64} {rq : Nat → Nat → Option Nat} : g_X2_joinRing a0 a1 I J ri rj rq = (g_X2_joinRing_L5 a0 a1 I J ri rj rq ((39 - ((0 : Int32)).toInt).toNat + 1) (-1 : Int32) (0 : Int32)) := rfl
set_option maxHeartbeats 4000000 in
set_option maxRecDepth 100000 in
theorem s_X2_joinRing (l : Launch) (D : va_G) (t : pq_T) (σ : pq_S) (I : Nat → Nat → Int32) (J : Nat → Nat → Int64) (ri : Nat → Nat → Int32) (rj : Nat → Nat → Int64) (rq : Nat → Nat → Option Nat) (sz : Nat) (tg : Nat → Nat) (hSH : SH σ tg) (hG0 : GS tg σ I ri rq) (this : Nat) (a0 : Int32) (a1 : Int32) (hL_this : this ∈ σ.1) (hK_this : σ.2.1 this = 2) (h_a0 : rg a0 0 39) (h_a1 : rg a1 0 4) (M : Nat) (hL_M : M ∈ σ.1) (hK_M : σ.2.1 M = 10) (hO_this : this = vo σ 2 M) : MetV l yX2_joinRing (wa yX2_joinRing cX2_joinRing 5 none) ({ frames := 0, cells := 0, slots := 0, locals := 0 }) [.ref this, .int a0, .int a1] D t σ (I, J, ri, rj, rq) sz 0 0 (fun (u : pq_S × pq_M) => ∃ ri' : Nat → Nat → Int32, u = (σ, I, J, ri', rj, rq) ∧ GX [1079] tg σ I ri rj I ri' rj rq ∧ g_X2_joinRing a0 a1 (vI 10 σ M I) (vJ 10 σ M J) (vR 10 σ M ri) (vL 10 σ M rj) (vQ 10 σ M rq) = ((vI 10 σ M I), (vJ 10 σ M J), (vR 10 σ M ri'), (vL 10 σ M rj), (vQ 10 σ M rq)) ∧ FR 10 tg σ M (I, J, ri, rj, rq) (I, J, ri', rj, rq)) := by
  refine Met.ofW (cc := cX2_joinRing) (maxL := 5) (ret := none) (by decide +kernel) rfl ?_
  intro p e s m args below meth c s₁ B hml hv
  obtain ⟨rfl, hsz, hP, hK, hD0, hN⟩ := hv
  have hx := B.exec
  have hb := B.bytes
  have hr := B.returns
  have hts := atoms_spec (ws := (wa yX2_joinRing cX2_joinRing 5 none)) B.pre
  have hown : s.vm.findClass RX2 = some m.cls := findClass_of_methodNamed B.named
  have hlocks := B.notSynchronized
  subst hsz
  have hD : va_D (pq_B t σ (I, J, ri, rj, rq) s.heap.size) (pq_P t σ (I, J, ri, rj, rq)) := hD0.self
  generalize hAe : pq_B t σ (I, J, ri, rj, rq) s.heap.size = A at hD ⊢
  have hA : ∀ q : Nat, s.heap.size ≤ q → A q := fun q h => by rw [← hAe]; exact Or.inr h
  have hS : va_S A s.heap s.heap [] := va_S.rf
  have hG : GX [1079] tg σ I ri rj I ri rj rq := ⟨hG0, fun _ _ _ => rfl, fun _ _ _ _ _ => rfl, fun _ _ _ _ _ => rfl⟩
  have hl := lv_entry ([.ref this, .int a0, .int a1]) (n := 5) (Nat.le_of_ble_eq_true rfl)
  rw [lg_entry_eq]
  generalize (lg_sl ([.ref this, .int a0, .int a1]) ++ List.replicate (5 - (lg_sl ([.ref this, .int a0, .int a1])).length) Slot.unset).toArray = ls at hl ⊢
  have hl : lv_has ls 5 [(0, .ref this), (1, .int a0), (2, .int a1)] := hl
  refine q_gen (fun Q hQ => ?_)
  have go : ∀ (H : Heap) (locs : List Loc) (ls : Array Slot), va_P D vwCl (pq_P t σ (I, J, ri, rj, rq)) H → va_D A (pq_P t σ (I, J, ri, rj, rq)) → va_S A s.heap H locs → lv_has ls 5 [(0, .ref this), (1, .int a0), (2, .int a1)] → W p l e ({ frames := 0, cells := 0, slots := 0, locals := 0 } : Room) s m (List.toArray ([.ref this, .int a0, .int a1] : List Value)) below meth c H locs 0 0 Q (F0 m 0 ls []) := by
    intro H locs ls hP hD hS hl
    have hVT : VT 10 σ tg M := vt_10 hSH hL_M hK_M
    have hFr : FR 10 tg σ M (I, J, ri, rj, rq) (I, J, ri, rj, rq) := fr_rf
    obtain ⟨F, hF0⟩ : ∃ F, F = g_X2_joinRing a0 a1 (vI 10 σ M I) (vJ 10 σ M J) (vR 10 σ M ri) (vL 10 σ M rj) (vQ 10 σ M rq) := ⟨_, rfl⟩
    have hF := hF0.trans g_X2_joinRing_e
    refine lv_iconst (v := (-1)) hx hb dX2_joinRing_0 (by decide +kernel) ?_
    refine lv_istore_n (lv' := [(3, .int (-1)), (0, .ref this), (1, .int a0), (2, .int a1)]) hx hb dX2_joinRing_1 rfl hl (by decide +kernel) rfl (fun ls hl => ?_)
    refine lv_iconst (v := 0) hx hb dX2_joinRing_2 (by decide +kernel) ?_
    refine lv_istore (lv' := [(4, .int 0), (3, .int (-1)), (0, .ref this), (1, .int a0), (2, .int a1)]) hx hb dX2_joinRing_3 hl (by decide +kernel) rfl (fun ls hl => ?_)
    have L_277 : ∀ (n_276 : Nat) (x_253 : Int32) (x_254 : Int32) (H : Heap) (locs : List Loc) (ls : Array Slot), rg x_253 (-1) 39 → rg x_254 0 39 → (39 - (x_254).toInt).toNat < n_276 → F = g_X2_joinRing_L5 a0 a1 (vI 10 σ M I) (vJ 10 σ M J) (vR 10 σ M ri) (vL 10 σ M rj) (vQ 10 σ M rq) n_276 x_253 x_254 → FR 10 tg σ M (I, J, ri, rj, rq) (I, J, ri, rj, rq) → GX [1079] tg σ I ri rj I ri rj rq → va_P D vwCl (pq_P t σ (I, J, ri, rj, rq)) H → va_D A (pq_P t σ (I, J, ri, rj, rq)) → va_S A s.heap H locs → lv_has ls 5 [(0, .ref this), (1, .int a0), (2, .int a1), (3, .int x_253), (4, .int x_254)] → W p l e ({ frames := 0, cells := 0, slots := 0, locals := 0 } : Room) s m (List.toArray ([.ref this, .int a0, .int a1] : List Value)) below meth c H locs 0 0 Q (F0 m 5 ls []) := by
      intro n_276
      induction n_276 with
      | zero => intro x_253 x_254 H locs ls h_281 h_282 hm_275 hF hFr hG hP hD hS hl; exact absurd hm_275 (Nat.not_lt_zero _)
      | succ n_276 ih_278 =>
        intro x_253 x_254 H locs ls h_281 h_282 hm_275 hF hFr hG hP hD hS hl
        replace hF := hF.trans g_X2_joinRing_L5_e
        refine lv_iload hx hb dX2_joinRing_5 (lv_at hl 4 rfl) ?_
        refine lv_iload_n hx hb dX2_joinRing_7 rfl (lv_at hl 1 rfl) ?_
        refine lv_icmp_ge (tgt := 31) hx hb dX2_joinRing_8 (by decide +kernel) (fun c_283 => ?_) (fun c_283 => ?_)
        · replace hF := hF.trans (if_pos c_283)
          refine lv_iload_n hx hb dX2_joinRing_31 rfl (lv_at hl 3 rfl) ?_
          refine lv_iconst (v := (-1)) hx hb dX2_joinRing_32 (by decide +kernel) ?_
          refine lv_icmp_ne (tgt := 46) hx hb dX2_joinRing_33 (by decide +kernel) (fun c_286 => ?_) (fun c_286 => ?_)
          · replace hF := hF.trans (if_neg c_286)
            have h_289 : rg x_253 0 39 := rg_ne c_286 h_281 (-1) rfl (by decide +kernel)
            refine lv_aload_n hx hb dX2_joinRing_46 rfl (lv_at hl 0 rfl) ?_
            obtain ⟨w_290, hR_w_290, hL_w_290, hK_w_290, hN_w_290, hT_w_290⟩ := sh_a hSH 79 (ci := 2) (kd := 13) (len := 40) rfl (by decide +kernel) hL_this hK_this
            have hO_w_290 : w_290 = vrow σ 79 M := vo_k (c := 2) hO_this hR_w_290
            refine pg_f (v := .ref w_290) (C := RX2) (T := TX2) (N := 20) hx hb hts (tw_i inlX2) hown hK hP hL_this hK_this (by decide +kernel) rfl 15 (by decide +kernel) (hts _ (tw_c tw_96)) (pq_hv rfl hR_w_290) dX2_joinRing_47 ?_
            refine lv_iload_n hx hb dX2_joinRing_50 rfl (lv_at hl 3 rfl) ?_
            refine lv_iload_n hx hb dX2_joinRing_51 rfl (lv_at hl 1 rfl) ?_
            refine pt_i hx hb hK hP hD hS hL_w_290 hK_w_290 hN_w_290 (rg_in h_289 (by decide +kernel)) dX2_joinRing_52 (fun r_291 H locs er_291 hP hD hS => ?_)
            replace hFr := fr_R hFr hO_w_290 (by decide +kernel) er_291
            replace hF := hF.trans (ap_n (vR_st hVT hO_w_290 (by decide +kernel) er_291))
            have hG := GX.wR hG hSH hT_w_290 rfl er_291 (rg_w h_a0 (by decide +kernel)) (by decide +kernel)
            subst hQ
            exact W.vret hx hb hr (fun t1 ht hW => ⟨⟨(σ, I, J, r_291, rj, rq), rfl, ⟨r_291, rfl, hG, (hF0.symm.trans hF), hFr⟩, by rw [ht]; exact hP, va_K.moved hW.alike hK, hD⟩, hS.F ht⟩) hS.2.2 dX2_joinRing_53
          · replace hF := hF.trans (if_pos c_286)
            have h_292 : rg x_253 (-1) (-1) := rg_and h_281 (rg_of_eq c_286 (rg_k (-1 : Int32) (-1) rfl)) (by decide +kernel)
            refine lv_aload_n hx hb dX2_joinRing_36 rfl (lv_at hl 0 rfl) ?_
            obtain ⟨w_293, hR_w_293, hL_w_293, hK_w_293, hN_w_293, hT_w_293⟩ := sh_a hSH 80 (ci := 2) (kd := 13) (len := 5) rfl (by decide +kernel) hL_this hK_this
            have hO_w_293 : w_293 = vrow σ 80 M := vo_k (c := 2) hO_this hR_w_293
            refine pg_f (v := .ref w_293) (C := RX2) (T := TX2) (N := 20) hx hb hts (tw_i inlX2) hown hK hP hL_this hK_this (by decide +kernel) rfl 16 (by decide +kernel) (hts _ (tw_c tw_97)) (pq_hv rfl hR_w_293) dX2_joinRing_37 ?_
            refine lv_iload_n hx hb dX2_joinRing_40 rfl (lv_at hl 2 rfl) ?_
            refine lv_iload_n hx hb dX2_joinRing_41 rfl (lv_at hl 1 rfl) ?_
            refine pt_i hx hb hK hP hD hS hL_w_293 hK_w_293 hN_w_293 (rg_in h_a1 (by decide +kernel)) dX2_joinRing_42 (fun r_294 H locs er_294 hP hD hS => ?_)
            replace hFr := fr_R hFr hO_w_293 (by decide +kernel) er_294
            replace hF := hF.trans (ap_n (vR_st hVT hO_w_293 (by decide +kernel) er_294))
            have hG := GX.wR hG hSH hT_w_293 rfl er_294 (rg_w h_a0 (by decide +kernel)) (by decide +kernel)
            refine lv_goto (tgt := 53) hx hb dX2_joinRing_43 (by decide +kernel) ?_
            subst hQ
            exact W.vret hx hb hr (fun t1 ht hW => ⟨⟨(σ, I, J, r_294, rj, rq), rfl, ⟨r_294, rfl, hG, (hF0.symm.trans hF), hFr⟩, by rw [ht]; exact hP, va_K.moved hW.alike hK, hD⟩, hS.F ht⟩) hS.2.2 dX2_joinRing_53
        · replace hF := hF.trans (if_neg c_283)
          have h_295 : rg x_254 0 38 := rg_lt1 (nle c_283) h_282 h_a0 (by decide +kernel)
          have h_296 : rg a0 1 39 := rg_lt2 (nle c_283) h_282 h_a0 (by decide +kernel)
          refine lv_aload_n hx hb dX2_joinRing_11 rfl (lv_at hl 0 rfl) ?_
          obtain ⟨w_297, hR_w_297, hL_w_297, hK_w_297, hN_w_297, hT_w_297⟩ := sh_a hSH 69 (ci := 2) (kd := 13) (len := 40) rfl (by decide +kernel) hL_this hK_this
          have hO_w_297 : w_297 = vrow σ 69 M := vo_k (c := 2) hO_this hR_w_297
          refine pg_f (v := .ref w_297) (C := RX2) (T := TX2) (N := 20) hx hb hts (tw_i inlX2) hown hK hP hL_this hK_this (by decide +kernel) rfl 5 (by decide +kernel) (hts _ (tw_c tw_83)) (pq_hv rfl hR_w_297) dX2_joinRing_12 ?_
          refine lv_iload hx hb dX2_joinRing_15 (lv_at hl 4 rfl) ?_
          refine pl_i hx hb hK hP hL_w_297 hK_w_297 hN_w_297 (rg_in h_295 (by decide +kernel)) dX2_joinRing_17 ?_
          refine lv_topi (fun x_298 ex_298 => ?_)
          replace hF := hF.trans (ap_n (vR_r hO_w_297 (by decide +kernel) ex_298))
          have h_299 : rg x_298 0 4 := rg_of_eq ex_298 (GX.rR hG hT_w_297 rfl)
          refine lv_iload_n hx hb dX2_joinRing_18 rfl (lv_at hl 2 rfl) ?_
          have K_305 : ∀  (x_301 : Int32) (H : Heap) (locs : List Loc) (ls : Array Slot), rg x_301 (-1) 39 → F = g_X2_joinRing_K25 x_254 (g_X2_joinRing_L5 a0 a1 (vI 10 σ M I) (vJ 10 σ M J) (vR 10 σ M ri) (vL 10 σ M rj) (vQ 10 σ M rq) n_276) x_301 → FR 10 tg σ M (I, J, ri, rj, rq) (I, J, ri, rj, rq) → GX [1079] tg σ I ri rj I ri rj rq → va_P D vwCl (pq_P t σ (I, J, ri, rj, rq)) H → va_D A (pq_P t σ (I, J, ri, rj, rq)) → va_S A s.heap H locs → lv_has ls 5 [(0, .ref this), (1, .int a0), (2, .int a1), (3, .int x_301), (4, .int x_254)] → W p l e ({ frames := 0, cells := 0, slots := 0, locals := 0 } : Room) s m (List.toArray ([.ref this, .int a0, .int a1] : List Value)) below meth c H locs 0 0 Q (F0 m 25 ls []) := by
            intro x_301 H locs ls h_307 hF hFr hG hP hD hS hl
            replace hF := hF.trans g_X2_joinRing_K25_e
            obtain ⟨x_308, ex_308⟩ : ∃ y : Int32, y = x_254 + Int32.ofInt 1 := ⟨_, rfl⟩
            replace hF := hF.trans (ap_n ex_308)
            have h_309 : rg x_308 1 39 := rg_of_eq ex_308 (rg_add h_295 (rg_k (Int32.ofInt 1) 1 rfl) (by decide +kernel))
            refine lv_iinc (v := x_308) (lv' := [(4, .int x_308), (0, .ref this), (1, .int a0), (2, .int a1), (3, .int x_301)]) hx hb dX2_joinRing_25 hl (k := 4) rfl ex_308.symm (by decide +kernel) rfl (fun ls hl => ?_)
            refine lv_goto (tgt := 5) hx hb dX2_joinRing_28 (by decide +kernel) ?_
            exact ih_278 x_301 x_308 _ _ _ (rg_w h_307 (by decide +kernel)) (rg_w h_309 (by decide +kernel)) (ms_up 1 hm_275 ex_308 rfl (by decide +kernel) h_295 (by decide +kernel) (by decide +kernel)) hF hFr hG hP hD hS (lv_sub hl [1, 2, 3, 4, 0] rfl)
          refine lv_icmp_ne (tgt := 25) hx hb dX2_joinRing_19 (by decide +kernel) (fun c_310 => ?_) (fun c_310 => ?_)
          · replace hF := hF.trans (if_neg c_310)
            exact K_305 x_253 _ _ _ (rg_w h_281 (by decide +kernel)) hF hFr hG hP hD hS (lv_sub hl [0, 1, 2, 3, 4] rfl)
          · replace hF := hF.trans (if_pos c_310)
            refine lv_iload hx hb dX2_joinRing_22 (lv_at hl 4 rfl) ?_
            refine lv_istore_n (lv' := [(3, .int x_254), (0, .ref this), (1, .int a0), (2, .int a1), (4, .int x_254)]) hx hb dX2_joinRing_24 rfl hl (by decide +kernel) rfl (fun ls hl => ?_)
            exact K_305 x_254 _ _ _ (rg_w h_295 (by decide +kernel)) hF hFr hG hP hD hS (lv_sub hl [1, 2, 3, 0, 4] rfl)
    exact L_277 _ (-1 : Int32) (0 : Int32) _ _ _ (rg_w (rg_k (-1 : Int32) (-1) rfl) (by decide +kernel)) (rg_w (rg_k (0 : Int32) 0 rfl) (by decide +kernel)) (Nat.lt_succ_self _) hF hFr hG hP hD hS (lv_sub hl [2, 3, 4, 1, 0] rfl)
  exact go _ _ _ hP hD hS hl

set_option maxRecDepth 100000 in
def g_X2_addCell (a0 : Int32) (a1 : Int32) (a2 : Int32) (a3 : Int32) (a4 : Int32) (a5 : Int32) (I : Nat → Int32) (J : Nat → Int64) (ri : Nat → Nat → Int32) (rj : Nat → Nat → Int64) (rq : Nat → Nat → Option Nat) : Int32 × vM := (ap1 (I 65) fun (y_2 : Int32) => (if (y_2) < (40 : Int32) then (ap1 (va_up ri 69 (upd (ri 69) ((y_2)).toNatClampNeg a0)) fun (r_8 : Nat → Nat → Int32) => (ap1 (va_up r_8 70 (upd (r_8 70) ((y_2)).toNatClampNeg a1)) fun (r_10 : Nat → Nat → Int32) => (ap1 (va_up r_10 71 (upd (r_10 71) ((y_2)).toNatClampNeg a2)) fun (r_12 : Nat → Nat → Int32) => (ap1 (va_up r_12 72 (upd (r_12 72) ((y_2)).toNatClampNeg a3)) fun (r_14 : Nat → Nat → Int32) => (ap1 (va_up r_14 73 (upd (r_14 73) ((y_2)).toNatClampNeg a4)) fun (r_16 : Nat → Nat → Int32) => (ap1 (va_up r_16 74 (upd (r_16 74) ((y_2)).toNatClampNeg a5)) fun (r_18 : Nat → Nat → Int32) => (bnV (g_X2_joinRing (y_2) a0 I J r_18 rj rq) fun (_ : Nat → Int32) (_ : Nat → Int64) (ri_21 : Nat → Nat → Int32) (_ : Nat → Nat → Int64) (_ : Nat → Nat → Option Nat) => (ap1 ((y_2) + (1 : Int32)) fun (x_27 : Int32) => (ap1 (va_up I 65 x_27) fun (I_29 : Nat → Int32) => ((y_2), I_29, J, ri_21, rj, rq)))))))))) else ((-1 : Int32), I, J, ri, rj, rq)))
set_option maxRecDepth 100000 in
theorem g_X2_addCell_e {a0 : Int32} {a1 : Int32} {a2 : Int32} {a3 : Int32} {a4 : Int32} {a5 : Int32} {I : Nat → Int32} {J : Nat → Int64} {ri : Nat → Nat → Int32} {rj : Nat → Nat → Int64} {rq : Nat → Nat → Option Nat} : g_X2_addCell a0 a1 a2 a3 a4 a5 I J ri rj rq = (ap1 (I 65) fun (y_2 : Int32) => (if (y_2) < (40 : Int32) then (ap1 (va_up ri 69 (upd (ri 69) ((y_2)).toNatClampNeg a0)) fun (r_8 : Nat → Nat → Int32) => (ap1 (va_up r_8 70 (upd (r_8 70) ((y_2)).toNatClampNeg a1)) fun (r_10 : Nat → Nat → Int32) => (ap1 (va_up r_10 71 (upd (r_10 71) ((y_2)).toNatClampNeg a2)) fun (r_12 : Nat → Nat → Int32) => (ap1 (va_up r_12 72 (upd (r_12 72) ((y_2)).toNatClampNeg a3)) fun (r_14 : Nat → Nat → Int32) => (ap1 (va_up r_14 73 (upd (r_14 73) ((y_2)).toNatClampNeg a4)) fun (r_16 : Nat → Nat → Int32) => (ap1 (va_up r_16 74 (upd (r_16 74) ((y_2)).toNatClampNeg a5)) fun (r_18 : Nat → Nat → Int32) => (bnV (g_X2_joinRing (y_2) a0 I J r_18 rj rq) fun (_ : Nat → Int32) (_ : Nat → Int64) (ri_21 : Nat → Nat → Int32) (_ : Nat → Nat → Int64) (_ : Nat → Nat → Option Nat) => (ap1 ((y_2) + (1 : Int32)) fun (x_27 : Int32) => (ap1 (va_up I 65 x_27) fun (I_29 : Nat → Int32) => ((y_2), I_29, J, ri_21, rj, rq)))))))))) else ((-1 : Int32), I, J, ri, rj, rq))) := rfl
set_option maxHeartbeats 4000000 in
set_option maxRecDepth 100000 in
theorem s_X2_addCell (l : Launch) (D : va_G) (t : pq_T) (σ : pq_S) (I : Nat → Nat → Int32) (J : Nat → Nat → Int64) (ri : Nat → Nat → Int32) (rj : Nat → Nat → Int64) (rq : Nat → Nat → Option Nat) (sz : Nat) (tg : Nat → Nat) (hSH : SH σ tg) (hG0 : GS tg σ I ri rq) (this : Nat) (a0 : Int32) (a1 : Int32) (a2 : Int32) (a3 : Int32) (a4 : Int32) (a5 : Int32) (hL_this : this ∈ σ.1) (hK_this : σ.2.1 this = 2) (h_a0 : rg a0 0 4) (h_a2 : rg a2 0 31) (h_a3 : rg a3 0 31) (M : Nat) (hL_M : M ∈ σ.1) (hK_M : σ.2.1 M = 10) (hO_this : this = vo σ 2 M) : MetI l yX2_addCell (wa yX2_addCell cX2_addCell 8 (some .int)) ({ frames := 1, cells := 0, slots := 0, locals := 24 }) [.ref this, .int a0, .int a1, .int a2, .int a3, .int a4, .int a5] D t σ (I, J, ri, rj, rq) sz 0 0 (fun (r : Int32) (u : pq_S × pq_M) => ∃ I' : Nat → Nat → Int32, ∃ ri' : Nat → Nat → Int32, u = (σ, I', J, ri', rj, rq) ∧ GX [1069, 1070, 1073, 1074, 1079, 65] tg σ I ri rj I' ri' rj rq ∧ g_X2_addCell a0 a1 a2 a3 a4 a5 (vI 10 σ M I) (vJ 10 σ M J) (vR 10 σ M ri) (vL 10 σ M rj) (vQ 10 σ M rq) = (r, (vI 10 σ M I'), (vJ 10 σ M J), (vR 10 σ M ri'), (vL 10 σ M rj), (vQ 10 σ M rq)) ∧ FR 10 tg σ M (I, J, ri, rj, rq) (I', J, ri', rj, rq) ∧ rg r (-1) 39) := by
  refine Met.ofW (cc := cX2_addCell) (maxL := 8) (ret := (some .int)) (by decide +kernel) rfl ?_
  intro p e s m args below meth c s₁ B hml hv
  obtain ⟨rfl, hsz, hP, hK, hD0, hN⟩ := hv
  have hx := B.exec
  have hb := B.bytes
  have hr := B.returns
  have hts := atoms_spec (ws := (wa yX2_addCell cX2_addCell 8 (some .int))) B.pre
  have hown : s.vm.findClass RX2 = some m.cls := findClass_of_methodNamed B.named
  have hlocks := B.notSynchronized
  subst hsz
  have hD : va_D (pq_B t σ (I, J, ri, rj, rq) s.heap.size) (pq_P t σ (I, J, ri, rj, rq)) := hD0.self
  generalize hAe : pq_B t σ (I, J, ri, rj, rq) s.heap.size = A at hD ⊢
  have hA : ∀ q : Nat, s.heap.size ≤ q → A q := fun q h => by rw [← hAe]; exact Or.inr h
  have hS : va_S A s.heap s.heap [] := va_S.rf
  have hG : GX [1069, 1070, 1073, 1074, 1079, 65] tg σ I ri rj I ri rj rq := ⟨hG0, fun _ _ _ => rfl, fun _ _ _ _ _ => rfl, fun _ _ _ _ _ => rfl⟩
  have hl := lv_entry ([.ref this, .int a0, .int a1, .int a2, .int a3, .int a4, .int a5]) (n := 8) (Nat.le_of_ble_eq_true rfl)
  rw [lg_entry_eq]
  generalize (lg_sl ([.ref this, .int a0, .int a1, .int a2, .int a3, .int a4, .int a5]) ++ List.replicate (8 - (lg_sl ([.ref this, .int a0, .int a1, .int a2, .int a3, .int a4, .int a5])).length) Slot.unset).toArray = ls at hl ⊢
  have hl : lv_has ls 8 [(0, .ref this), (1, .int a0), (2, .int a1), (3, .int a2), (4, .int a3), (5, .int a4), (6, .int a5)] := hl
  refine q_gen (fun Q hQ => ?_)
  have go : ∀ (H : Heap) (locs : List Loc) (ls : Array Slot), va_P D vwCl (pq_P t σ (I, J, ri, rj, rq)) H → va_D A (pq_P t σ (I, J, ri, rj, rq)) → va_S A s.heap H locs → lv_has ls 8 [(0, .ref this), (1, .int a0), (2, .int a1), (3, .int a2), (4, .int a3), (5, .int a4), (6, .int a5)] → W p l e ({ frames := 1, cells := 0, slots := 0, locals := 24 } : Room) s m (List.toArray ([.ref this, .int a0, .int a1, .int a2, .int a3, .int a4, .int a5] : List Value)) below meth c H locs 0 0 Q (F0 m 0 ls []) := by
    intro H locs ls hP hD hS hl
    have hVT : VT 10 σ tg M := vt_10 hSH hL_M hK_M
    have hFr : FR 10 tg σ M (I, J, ri, rj, rq) (I, J, ri, rj, rq) := fr_rf
    obtain ⟨F, hF0⟩ : ∃ F, F = g_X2_addCell a0 a1 a2 a3 a4 a5 (vI 10 σ M I) (vJ 10 σ M J) (vR 10 σ M ri) (vL 10 σ M rj) (vQ 10 σ M rq) := ⟨_, rfl⟩
    have hF := hF0.trans g_X2_addCell_e
    refine lv_aload_n hx hb dX2_addCell_0 rfl (lv_at hl 0 rfl) ?_
    refine pg_f (v := .int (I 65 this)) (C := RX2) (T := TX2) (N := 20) hx hb hts (tw_i inlX2) hown hK hP hL_this hK_this (by decide +kernel) rfl 1 (by decide +kernel) (hts _ (tw_c tw_222)) rfl dX2_addCell_1 ?_
    have h_1 : rg (I 65 this) 0 40 := GX.rI hG 65 rfl
    replace hF := hF.trans (ap_n (vI_e (f := 65) hO_this (by decide +kernel)))
    refine lv_bipush (v := 40) hx hb dX2_addCell_4 (by decide +kernel) ?_
    refine lv_icmp_lt (tgt := 11) hx hb dX2_addCell_6 (by decide +kernel) (fun c_3 => ?_) (fun c_3 => ?_)
    · replace hF := hF.trans (if_pos c_3)
      have h_6 : rg (I 65 this) 0 39 := rg_lt1 c_3 h_1 (rg_k (40 : Int32) 40 rfl) (by decide +kernel)
      refine lv_aload_n hx hb dX2_addCell_11 rfl (lv_at hl 0 rfl) ?_
      refine pg_f (v := .int (I 65 this)) (C := RX2) (T := TX2) (N := 20) hx hb hts (tw_i inlX2) hown hK hP hL_this hK_this (by decide +kernel) rfl 1 (by decide +kernel) (hts _ (tw_c tw_222)) rfl dX2_addCell_12 ?_
      refine lv_istore (lv' := [(7, .int (I 65 this)), (0, .ref this), (1, .int a0), (2, .int a1), (3, .int a2), (4, .int a3), (5, .int a4), (6, .int a5)]) hx hb dX2_addCell_15 hl (by decide +kernel) rfl (fun ls hl => ?_)
      refine lv_aload_n hx hb dX2_addCell_17 rfl (lv_at hl 1 rfl) ?_
      obtain ⟨w_7, hR_w_7, hL_w_7, hK_w_7, hN_w_7, hT_w_7⟩ := sh_a hSH 69 (ci := 2) (kd := 13) (len := 40) rfl (by decide +kernel) hL_this hK_this
      have hO_w_7 : w_7 = vrow σ 69 M := vo_k (c := 2) hO_this hR_w_7
      refine pg_f (v := .ref w_7) (C := RX2) (T := TX2) (N := 20) hx hb hts (tw_i inlX2) hown hK hP hL_this hK_this (by decide +kernel) rfl 5 (by decide +kernel) (hts _ (tw_c tw_83)) (pq_hv rfl hR_w_7) dX2_addCell_18 ?_
      refine lv_iload hx hb dX2_addCell_21 (lv_at hl 0 rfl) ?_
      refine lv_iload_n hx hb dX2_addCell_23 rfl (lv_at hl 2 rfl) ?_
      refine pt_i hx hb hK hP hD hS hL_w_7 hK_w_7 hN_w_7 (rg_in h_6 (by decide +kernel)) dX2_addCell_24 (fun r_8 H locs er_8 hP hD hS => ?_)
      replace hFr := fr_R hFr hO_w_7 (by decide +kernel) er_8
      replace hF := hF.trans (ap_n (vR_st hVT hO_w_7 (by decide +kernel) er_8))
      have hG := GX.wR hG hSH hT_w_7 rfl er_8 (rg_w h_a0 (by decide +kernel)) (by decide +kernel)
      refine lv_aload_n hx hb dX2_addCell_25 rfl (lv_at hl 1 rfl) ?_
      obtain ⟨w_9, hR_w_9, hL_w_9, hK_w_9, hN_w_9, hT_w_9⟩ := sh_a hSH 70 (ci := 2) (kd := 13) (len := 40) rfl (by decide +kernel) hL_this hK_this
      have hO_w_9 : w_9 = vrow σ 70 M := vo_k (c := 2) hO_this hR_w_9
      refine pg_f (v := .ref w_9) (C := RX2) (T := TX2) (N := 20) hx hb hts (tw_i inlX2) hown hK hP hL_this hK_this (by decide +kernel) rfl 6 (by decide +kernel) (hts _ (tw_c tw_84)) (pq_hv rfl hR_w_9) dX2_addCell_26 ?_
      refine lv_iload hx hb dX2_addCell_29 (lv_at hl 0 rfl) ?_
      refine lv_iload_n hx hb dX2_addCell_31 rfl (lv_at hl 3 rfl) ?_
      refine pt_i hx hb hK hP hD hS hL_w_9 hK_w_9 hN_w_9 (rg_in h_6 (by decide +kernel)) dX2_addCell_32 (fun r_10 H locs er_10 hP hD hS => ?_)
      replace hFr := fr_R hFr hO_w_9 (by decide +kernel) er_10
      replace hF := hF.trans (ap_n (vR_st hVT hO_w_9 (by decide +kernel) er_10))
      have hG := GX.wR hG hSH hT_w_9 rfl er_10 (rg_w (rg_full _) (by decide +kernel)) (by decide +kernel)
      refine lv_aload_n hx hb dX2_addCell_33 rfl (lv_at hl 1 rfl) ?_
      obtain ⟨w_11, hR_w_11, hL_w_11, hK_w_11, hN_w_11, hT_w_11⟩ := sh_a hSH 71 (ci := 2) (kd := 13) (len := 40) rfl (by decide +kernel) hL_this hK_this
      have hO_w_11 : w_11 = vrow σ 71 M := vo_k (c := 2) hO_this hR_w_11
      refine pg_f (v := .ref w_11) (C := RX2) (T := TX2) (N := 20) hx hb hts (tw_i inlX2) hown hK hP hL_this hK_this (by decide +kernel) rfl 7 (by decide +kernel) (hts _ (tw_c tw_85)) (pq_hv rfl hR_w_11) dX2_addCell_34 ?_
      refine lv_iload hx hb dX2_addCell_37 (lv_at hl 0 rfl) ?_
      refine lv_iload_n hx hb dX2_addCell_39 rfl (lv_at hl 4 rfl) ?_
      refine pt_i hx hb hK hP hD hS hL_w_11 hK_w_11 hN_w_11 (rg_in h_6 (by decide +kernel)) dX2_addCell_40 (fun r_12 H locs er_12 hP hD hS => ?_)
      replace hFr := fr_R hFr hO_w_11 (by decide +kernel) er_12
      replace hF := hF.trans (ap_n (vR_st hVT hO_w_11 (by decide +kernel) er_12))
      have hG := GX.wR hG hSH hT_w_11 rfl er_12 (rg_w h_a2 (by decide +kernel)) (by decide +kernel)
      refine lv_aload_n hx hb dX2_addCell_41 rfl (lv_at hl 1 rfl) ?_
      obtain ⟨w_13, hR_w_13, hL_w_13, hK_w_13, hN_w_13, hT_w_13⟩ := sh_a hSH 72 (ci := 2) (kd := 13) (len := 40) rfl (by decide +kernel) hL_this hK_this
      have hO_w_13 : w_13 = vrow σ 72 M := vo_k (c := 2) hO_this hR_w_13
      refine pg_f (v := .ref w_13) (C := RX2) (T := TX2) (N := 20) hx hb hts (tw_i inlX2) hown hK hP hL_this hK_this (by decide +kernel) rfl 8 (by decide +kernel) (hts _ (tw_c tw_86)) (pq_hv rfl hR_w_13) dX2_addCell_42 ?_
      refine lv_iload hx hb dX2_addCell_45 (lv_at hl 0 rfl) ?_
      refine lv_iload hx hb dX2_addCell_47 (lv_at hl 5 rfl) ?_
      refine pt_i hx hb hK hP hD hS hL_w_13 hK_w_13 hN_w_13 (rg_in h_6 (by decide +kernel)) dX2_addCell_49 (fun r_14 H locs er_14 hP hD hS => ?_)
      replace hFr := fr_R hFr hO_w_13 (by decide +kernel) er_14
      replace hF := hF.trans (ap_n (vR_st hVT hO_w_13 (by decide +kernel) er_14))
      have hG := GX.wR hG hSH hT_w_13 rfl er_14 (rg_w h_a3 (by decide +kernel)) (by decide +kernel)
      refine lv_aload_n hx hb dX2_addCell_50 rfl (lv_at hl 1 rfl) ?_
      obtain ⟨w_15, hR_w_15, hL_w_15, hK_w_15, hN_w_15, hT_w_15⟩ := sh_a hSH 73 (ci := 2) (kd := 13) (len := 40) rfl (by decide +kernel) hL_this hK_this
      have hO_w_15 : w_15 = vrow σ 73 M := vo_k (c := 2) hO_this hR_w_15
      refine pg_f (v := .ref w_15) (C := RX2) (T := TX2) (N := 20) hx hb hts (tw_i inlX2) hown hK hP hL_this hK_this (by decide +kernel) rfl 9 (by decide +kernel) (hts _ (tw_c tw_87)) (pq_hv rfl hR_w_15) dX2_addCell_51 ?_
      refine lv_iload hx hb dX2_addCell_54 (lv_at hl 0 rfl) ?_
      refine lv_iload hx hb dX2_addCell_56 (lv_at hl 6 rfl) ?_
      refine pt_i hx hb hK hP hD hS hL_w_15 hK_w_15 hN_w_15 (rg_in h_6 (by decide +kernel)) dX2_addCell_58 (fun r_16 H locs er_16 hP hD hS => ?_)
      replace hFr := fr_R hFr hO_w_15 (by decide +kernel) er_16
      replace hF := hF.trans (ap_n (vR_st hVT hO_w_15 (by decide +kernel) er_16))
      have hG := GX.wR hG hSH hT_w_15 rfl er_16 (rg_w (rg_full _) (by decide +kernel)) (by decide +kernel)
      refine lv_aload_n hx hb dX2_addCell_59 rfl (lv_at hl 1 rfl) ?_
      obtain ⟨w_17, hR_w_17, hL_w_17, hK_w_17, hN_w_17, hT_w_17⟩ := sh_a hSH 74 (ci := 2) (kd := 13) (len := 40) rfl (by decide +kernel) hL_this hK_this
      have hO_w_17 : w_17 = vrow σ 74 M := vo_k (c := 2) hO_this hR_w_17
      refine pg_f (v := .ref w_17) (C := RX2) (T := TX2) (N := 20) hx hb hts (tw_i inlX2) hown hK hP hL_this hK_this (by decide +kernel) rfl 10 (by decide +kernel) (hts _ (tw_c tw_88)) (pq_hv rfl hR_w_17) dX2_addCell_60 ?_
      refine lv_iload hx hb dX2_addCell_63 (lv_at hl 0 rfl) ?_
      refine lv_iload hx hb dX2_addCell_65 (lv_at hl 7 rfl) ?_
      refine pt_i hx hb hK hP hD hS hL_w_17 hK_w_17 hN_w_17 (rg_in h_6 (by decide +kernel)) dX2_addCell_67 (fun r_18 H locs er_18 hP hD hS => ?_)
      replace hFr := fr_R hFr hO_w_17 (by decide +kernel) er_18
      replace hF := hF.trans (ap_n (vR_st hVT hO_w_17 (by decide +kernel) er_18))
      have hG := GX.wR hG hSH hT_w_17 rfl er_18 (rg_w (rg_full _) (by decide +kernel)) (by decide +kernel)
      refine lv_aload_n hx hb dX2_addCell_68 rfl (lv_at hl 1 rfl) ?_
      refine lv_iload hx hb dX2_addCell_69 (lv_at hl 0 rfl) ?_
      refine lv_iload_n hx hb dX2_addCell_71 rfl (lv_at hl 2 rfl) ?_
      refine pk_v (va_runV (As := [.int (I 65 this), .int a0]) (rest := []) ⟨hx, hb, hml, hown, hts⟩ (s_X2_joinRing l D t σ I J r_18 rj rq H.size tg hSH hG.1 this (I 65 this) a0 hL_this hK_this (rg_w h_6 (by decide +kernel)) (rg_w h_a0 (by decide +kernel)) M hL_M hK_M hO_this) (cwV 2 hts (tw_V tw_223 tw_224 tw_225 tw_41 tw_226) rfl rfl rfl cv_yX2_joinRing_2 ⟨Nat.le_of_ble_eq_true rfl, Nat.le_of_ble_eq_true rfl⟩) ⟨pq_blind, pq_recv hK hP hL_this hK_this (by decide +kernel) rfl, pq_pre hK hN hP hD⟩ rfl rfl hl.1 rfl (lv_room (Nat.le_of_ble_eq_true rfl)) dX2_addCell_72 ⟨Nat.le_of_ble_eq_true rfl, Nat.le_of_ble_eq_true rfl⟩) hD hS hA (fun σ1 μ1 H locs hw_20 hP hD hS => ?_)
      obtain ⟨ri_21, hu_22, hg_23, hfn_25, hfr_26⟩ := hw_20
      obtain ⟨hu_22a, hu_22b⟩ := Prod.mk.inj hu_22
      rw [hu_22a, hu_22b] at hP hD
      replace hF := hF.trans (bv_n hfn_25)
      replace hFr := fr_tr hFr hfr_26
      have hG := GX.tr hG hg_23 (by decide +kernel)
      refine lv_aload_n hx hb dX2_addCell_75 rfl (lv_at hl 1 rfl) ?_
      refine lv_dup hx hb dX2_addCell_76 rfl ?_
      refine pg_f (v := .int (I 65 this)) (C := RX2) (T := TX2) (N := 20) hx hb hts (tw_i inlX2) hown hK hP hL_this hK_this (by decide +kernel) rfl 1 (by decide +kernel) (hts _ (tw_c tw_222)) rfl dX2_addCell_77 ?_
      refine lv_iconst (v := 1) hx hb dX2_addCell_80 (by decide +kernel) ?_
      refine lv_iadd hx hb dX2_addCell_81 ?_
      refine lv_topi (fun x_27 ex_27 => ?_)
      replace hF := hF.trans (ap_n ex_27)
      have h_28 : rg x_27 1 40 := rg_of_eq ex_27 (rg_add h_6 (rg_k (1 : Int32) 1 rfl) (by decide +kernel))
      refine pp_i (v := x_27) (ty := .int) (C := RX2) (T := TX2) (N := 20) hx hb hts (tw_i inlX2) tyX2 tyX2_ok nmX2 hown hK hP hD hS hL_this hK_this (by decide +kernel) rfl 1 65 (by decide +kernel) (hts _ (tw_c tw_222)) rfl (tyX2_ok 1 (by decide +kernel)) rfl rfl (Nat.le_of_ble_eq_true rfl) (ps_65 _ _ _ _ _) dX2_addCell_82 (fun I_29 H locs eI_29 hP hD hS => ?_)
      replace hFr := fr_I (f := 65) hFr hO_this (by decide +kernel) eI_29
      replace hF := hF.trans (ap_n (vI_st (f := 65) hO_this (by decide +kernel) eI_29))
      have hG := GX.wI hG 65 rfl eI_29 (rg_w h_28 (by decide +kernel)) (by decide +kernel)
      refine lv_iload hx hb dX2_addCell_85 (lv_at hl 0 rfl) ?_
      subst hQ
      exact W.iret (v := (I 65 this)) hx hb hr (fun t1 ht hW => ⟨⟨(I 65 this), (σ, I_29, J, ri_21, rj, rq), rfl, ⟨I_29, ri_21, rfl, hG, (hF0.symm.trans hF), hFr, (rg_w h_6 (by decide +kernel))⟩, by rw [ht]; exact hP, va_K.moved hW.alike hK, hD⟩, hS.F ht⟩) hS.2.2 dX2_addCell_87
    · replace hF := hF.trans (if_neg c_3)
      have h_30 : rg (I 65 this) 40 40 := rg_le2 (nlt c_3) (rg_k (40 : Int32) 40 rfl) h_1 (by decide +kernel)
      refine lv_iconst (v := (-1)) hx hb dX2_addCell_9 (by decide +kernel) ?_
      subst hQ
      exact W.iret (v := (-1)) hx hb hr (fun t1 ht hW => ⟨⟨(-1), (σ, I, J, ri, rj, rq), rfl, ⟨I, ri, rfl, hG, (hF0.symm.trans hF), hFr, (rg_w (rg_k (-1 : Int32) (-1) rfl) (by decide +kernel))⟩, by rw [ht]; exact hP, va_K.moved hW.alike hK, hD⟩, hS.F ht⟩) hS.2.2 dX2_addCell_10
  exact go _ _ _ hP hD hS hl

set_option maxRecDepth 100000 in
def g_X2_topOf (a0 : Int32) (I : Nat → Int32) (J : Nat → Int64) (ri : Nat → Nat → Int32) (rj : Nat → Nat → Int64) (rq : Nat → Nat → Option Nat) : Int32 × vM := (ap1 (ri 70 (a0).toNatClampNeg) fun (x_2 : Int32) => (ap1 (ri 73 (a0).toNatClampNeg) fun (x_4 : Int32) => (ap1 (x_2 + x_4) fun (x_5 : Int32) => (ap1 (ri 74 (a0).toNatClampNeg) fun (x_7 : Int32) => (ap1 (x_7 / (4 : Int32)) fun (x_8 : Int32) => (ap1 (x_5 + x_8) fun (x_9 : Int32) => (ap1 (ri 75 (a0).toNatClampNeg) fun (x_11 : Int32) => (ap1 (x_9 + x_11) fun (x_12 : Int32) => (x_12, I, J, ri, rj, rq)))))))))
set_option maxRecDepth 100000 in
theorem g_X2_topOf_e {a0 : Int32} {I : Nat → Int32} {J : Nat → Int64} {ri : Nat → Nat → Int32} {rj : Nat → Nat → Int64} {rq : Nat → Nat → Option Nat} : g_X2_topOf a0 I J ri rj rq = (ap1 (ri 70 (a0).toNatClampNeg) fun (x_2 : Int32) => (ap1 (ri 73 (a0).toNatClampNeg) fun (x_4 : Int32) => (ap1 (x_2 + x_4) fun (x_5 : Int32) => (ap1 (ri 74 (a0).toNatClampNeg) fun (x_7 : Int32) => (ap1 (x_7 / (4 : Int32)) fun (x_8 : Int32) => (ap1 (x_5 + x_8) fun (x_9 : Int32) => (ap1 (ri 75 (a0).toNatClampNeg) fun (x_11 : Int32) => (ap1 (x_9 + x_11) fun (x_12 : Int32) => (x_12, I, J, ri, rj, rq))))))))) := rfl
set_option maxHeartbeats 4000000 in
set_option maxRecDepth 100000 in
theorem s_X2_topOf (l : Launch) (D : va_G) (t : pq_T) (σ : pq_S) (I : Nat → Nat → Int32) (J : Nat → Nat → Int64) (ri : Nat → Nat → Int32) (rj : Nat → Nat → Int64) (rq : Nat → Nat → Option Nat) (sz : Nat) (tg : Nat → Nat) (hSH : SH σ tg) (hG0 : GS tg σ I ri rq) (this : Nat) (a0 : Int32) (hL_this : this ∈ σ.1) (hK_this : σ.2.1 this = 2) (h_a0 : rg a0 0 39) (M : Nat) (hL_M : M ∈ σ.1) (hK_M : σ.2.1 M = 10) (hO_this : this = vo σ 2 M) : MetI l yX2_topOf (wa yX2_topOf cX2_topOf 2 (some .int)) ({ frames := 0, cells := 0, slots := 0, locals := 0 }) [.ref this, .int a0] D t σ (I, J, ri, rj, rq) sz 0 0 (fun (r : Int32) (u : pq_S × pq_M) => u = (σ, I, J, ri, rj, rq) ∧ g_X2_topOf a0 (vI 10 σ M I) (vJ 10 σ M J) (vR 10 σ M ri) (vL 10 σ M rj) (vQ 10 σ M rq) = (r, (vI 10 σ M I), (vJ 10 σ M J), (vR 10 σ M ri), (vL 10 σ M rj), (vQ 10 σ M rq))) := by
  refine Met.ofW (cc := cX2_topOf) (maxL := 2) (ret := (some .int)) (by decide +kernel) rfl ?_
  intro p e s m args below meth c s₁ B hml hv
  obtain ⟨rfl, hsz, hP, hK, hD0, hN⟩ := hv
  have hx := B.exec
  have hb := B.bytes
  have hr := B.returns
  have hts := atoms_spec (ws := (wa yX2_topOf cX2_topOf 2 (some .int))) B.pre
  have hown : s.vm.findClass RX2 = some m.cls := findClass_of_methodNamed B.named
  have hlocks := B.notSynchronized
  subst hsz
  have hD : va_D (pq_B t σ (I, J, ri, rj, rq) s.heap.size) (pq_P t σ (I, J, ri, rj, rq)) := hD0.self
  generalize hAe : pq_B t σ (I, J, ri, rj, rq) s.heap.size = A at hD ⊢
  have hA : ∀ q : Nat, s.heap.size ≤ q → A q := fun q h => by rw [← hAe]; exact Or.inr h
  have hS : va_S A s.heap s.heap [] := va_S.rf
  have hG : GX [] tg σ I ri rj I ri rj rq := ⟨hG0, fun _ _ _ => rfl, fun _ _ _ _ _ => rfl, fun _ _ _ _ _ => rfl⟩
  have hl := lv_entry ([.ref this, .int a0]) (n := 2) (Nat.le_of_ble_eq_true rfl)
  rw [lg_entry_eq]
  generalize (lg_sl ([.ref this, .int a0]) ++ List.replicate (2 - (lg_sl ([.ref this, .int a0])).length) Slot.unset).toArray = ls at hl ⊢
  have hl : lv_has ls 2 [(0, .ref this), (1, .int a0)] := hl
  refine q_gen (fun Q hQ => ?_)
  have go : ∀ (H : Heap) (locs : List Loc) (ls : Array Slot), va_P D vwCl (pq_P t σ (I, J, ri, rj, rq)) H → va_D A (pq_P t σ (I, J, ri, rj, rq)) → va_S A s.heap H locs → lv_has ls 2 [(0, .ref this), (1, .int a0)] → W p l e ({ frames := 0, cells := 0, slots := 0, locals := 0 } : Room) s m (List.toArray ([.ref this, .int a0] : List Value)) below meth c H locs 0 0 Q (F0 m 0 ls []) := by
    intro H locs ls hP hD hS hl
    have hVT : VT 10 σ tg M := vt_10 hSH hL_M hK_M
    have hFr : FR 10 tg σ M (I, J, ri, rj, rq) (I, J, ri, rj, rq) := fr_rf
    obtain ⟨F, hF0⟩ : ∃ F, F = g_X2_topOf a0 (vI 10 σ M I) (vJ 10 σ M J) (vR 10 σ M ri) (vL 10 σ M rj) (vQ 10 σ M rq) := ⟨_, rfl⟩
    have hF := hF0.trans g_X2_topOf_e
    refine lv_aload_n hx hb dX2_topOf_0 rfl (lv_at hl 0 rfl) ?_
    obtain ⟨w_1, hR_w_1, hL_w_1, hK_w_1, hN_w_1, hT_w_1⟩ := sh_a hSH 70 (ci := 2) (kd := 13) (len := 40) rfl (by decide +kernel) hL_this hK_this
    have hO_w_1 : w_1 = vrow σ 70 M := vo_k (c := 2) hO_this hR_w_1
    refine pg_f (v := .ref w_1) (C := RX2) (T := TX2) (N := 20) hx hb hts (tw_i inlX2) hown hK hP hL_this hK_this (by decide +kernel) rfl 6 (by decide +kernel) (hts _ (tw_c tw_84)) (pq_hv rfl hR_w_1) dX2_topOf_1 ?_
    refine lv_iload_n hx hb dX2_topOf_4 rfl (lv_at hl 1 rfl) ?_
    refine pl_i hx hb hK hP hL_w_1 hK_w_1 hN_w_1 (rg_in h_a0 (by decide +kernel)) dX2_topOf_5 ?_
    refine lv_topi (fun x_2 ex_2 => ?_)
    replace hF := hF.trans (ap_n (vR_r hO_w_1 (by decide +kernel) ex_2))
    refine lv_aload_n hx hb dX2_topOf_6 rfl (lv_at hl 0 rfl) ?_
    obtain ⟨w_3, hR_w_3, hL_w_3, hK_w_3, hN_w_3, hT_w_3⟩ := sh_a hSH 73 (ci := 2) (kd := 13) (len := 40) rfl (by decide +kernel) hL_this hK_this
    have hO_w_3 : w_3 = vrow σ 73 M := vo_k (c := 2) hO_this hR_w_3
    refine pg_f (v := .ref w_3) (C := RX2) (T := TX2) (N := 20) hx hb hts (tw_i inlX2) hown hK hP hL_this hK_this (by decide +kernel) rfl 9 (by decide +kernel) (hts _ (tw_c tw_87)) (pq_hv rfl hR_w_3) dX2_topOf_7 ?_
    refine lv_iload_n hx hb dX2_topOf_10 rfl (lv_at hl 1 rfl) ?_
    refine pl_i hx hb hK hP hL_w_3 hK_w_3 hN_w_3 (rg_in h_a0 (by decide +kernel)) dX2_topOf_11 ?_
    refine lv_topi (fun x_4 ex_4 => ?_)
    replace hF := hF.trans (ap_n (vR_r hO_w_3 (by decide +kernel) ex_4))
    refine lv_iadd hx hb dX2_topOf_12 ?_
    refine lv_topi (fun x_5 ex_5 => ?_)
    replace hF := hF.trans (ap_n ex_5)
    refine lv_aload_n hx hb dX2_topOf_13 rfl (lv_at hl 0 rfl) ?_
    obtain ⟨w_6, hR_w_6, hL_w_6, hK_w_6, hN_w_6, hT_w_6⟩ := sh_a hSH 74 (ci := 2) (kd := 13) (len := 40) rfl (by decide +kernel) hL_this hK_this
    have hO_w_6 : w_6 = vrow σ 74 M := vo_k (c := 2) hO_this hR_w_6
    refine pg_f (v := .ref w_6) (C := RX2) (T := TX2) (N := 20) hx hb hts (tw_i inlX2) hown hK hP hL_this hK_this (by decide +kernel) rfl 10 (by decide +kernel) (hts _ (tw_c tw_88)) (pq_hv rfl hR_w_6) dX2_topOf_14 ?_
    refine lv_iload_n hx hb dX2_topOf_17 rfl (lv_at hl 1 rfl) ?_
    refine pl_i hx hb hK hP hL_w_6 hK_w_6 hN_w_6 (rg_in h_a0 (by decide +kernel)) dX2_topOf_18 ?_
    refine lv_topi (fun x_7 ex_7 => ?_)
    replace hF := hF.trans (ap_n (vR_r hO_w_6 (by decide +kernel) ex_7))
    refine lv_iconst (v := 4) hx hb dX2_topOf_19 (by decide +kernel) ?_
    refine lv_idiv hx hb dX2_topOf_20 (by decide +kernel) ?_
    refine lv_topi (fun x_8 ex_8 => ?_)
    replace hF := hF.trans (ap_n ex_8)
    refine lv_iadd hx hb dX2_topOf_21 ?_
    refine lv_topi (fun x_9 ex_9 => ?_)
    replace hF := hF.trans (ap_n ex_9)
    refine lv_aload_n hx hb dX2_topOf_22 rfl (lv_at hl 0 rfl) ?_
    obtain ⟨w_10, hR_w_10, hL_w_10, hK_w_10, hN_w_10, hT_w_10⟩ := sh_a hSH 75 (ci := 2) (kd := 13) (len := 40) rfl (by decide +kernel) hL_this hK_this
    have hO_w_10 : w_10 = vrow σ 75 M := vo_k (c := 2) hO_this hR_w_10
    refine pg_f (v := .ref w_10) (C := RX2) (T := TX2) (N := 20) hx hb hts (tw_i inlX2) hown hK hP hL_this hK_this (by decide +kernel) rfl 11 (by decide +kernel) (hts _ (tw_c tw_89)) (pq_hv rfl hR_w_10) dX2_topOf_23 ?_
    refine lv_iload_n hx hb dX2_topOf_26 rfl (lv_at hl 1 rfl) ?_
    refine pl_i hx hb hK hP hL_w_10 hK_w_10 hN_w_10 (rg_in h_a0 (by decide +kernel)) dX2_topOf_27 ?_
    refine lv_topi (fun x_11 ex_11 => ?_)
    replace hF := hF.trans (ap_n (vR_r hO_w_10 (by decide +kernel) ex_11))
    refine lv_iadd hx hb dX2_topOf_28 ?_
    refine lv_topi (fun x_12 ex_12 => ?_)
    replace hF := hF.trans (ap_n ex_12)
    subst hQ
    exact W.iret (v := x_12) hx hb hr (fun t1 ht hW => ⟨⟨x_12, (σ, I, J, ri, rj, rq), rfl, ⟨rfl, (hF0.symm.trans hF)⟩, by rw [ht]; exact hP, va_K.moved hW.alike hK, hD⟩, hS.F ht⟩) hS.2.2 dX2_topOf_29
  exact go _ _ _ hP hD hS hl

set_option maxRecDepth 100000 in
def g_X2_isDry (a0 : Int32) (I : Nat → Int32) (J : Nat → Int64) (ri : Nat → Nat → Int32) (rj : Nat → Nat → Int64) (rq : Nat → Nat → Option Nat) : Int32 × vM := (ap1 (J 67) fun (y_1 : Int64) => (ap1 (g_X11_hasBit (y_1) a0) fun (x_2 : Int32) => (x_2, I, J, ri, rj, rq)))
set_option maxRecDepth 100000 in
theorem g_X2_isDry_e {a0 : Int32} {I : Nat → Int32} {J : Nat → Int64} {ri : Nat → Nat → Int32} {rj : Nat → Nat → Int64} {rq : Nat → Nat → Option Nat} : g_X2_isDry a0 I J ri rj rq = (ap1 (J 67) fun (y_1 : Int64) => (ap1 (g_X11_hasBit (y_1) a0) fun (x_2 : Int32) => (x_2, I, J, ri, rj, rq))) := rfl
set_option maxHeartbeats 4000000 in
set_option maxRecDepth 100000 in
theorem s_X2_isDry (l : Launch) (D : va_G) (t : pq_T) (σ : pq_S) (I : Nat → Nat → Int32) (J : Nat → Nat → Int64) (ri : Nat → Nat → Int32) (rj : Nat → Nat → Int64) (rq : Nat → Nat → Option Nat) (sz : Nat) (tg : Nat → Nat) (hSH : SH σ tg) (hG0 : GS tg σ I ri rq) (this : Nat) (a0 : Int32) (hL_this : this ∈ σ.1) (hK_this : σ.2.1 this = 2) (M : Nat) (hL_M : M ∈ σ.1) (hK_M : σ.2.1 M = 10) (hO_this : this = vo σ 2 M) : MetI l yX2_isDry (wa yX2_isDry cX2_isDry 2 (some .boolean)) ({ frames := 1, cells := 0, slots := 0, locals := 22 }) [.ref this, .int a0] D t σ (I, J, ri, rj, rq) sz 0 0 (fun (r : Int32) (u : pq_S × pq_M) => u = (σ, I, J, ri, rj, rq) ∧ g_X2_isDry a0 (vI 10 σ M I) (vJ 10 σ M J) (vR 10 σ M ri) (vL 10 σ M rj) (vQ 10 σ M rq) = (r, (vI 10 σ M I), (vJ 10 σ M J), (vR 10 σ M ri), (vL 10 σ M rj), (vQ 10 σ M rq)) ∧ ((r = 1 ∧ True) ∨ (r = 0 ∧ True))) := by
  refine Met.ofW (cc := cX2_isDry) (maxL := 2) (ret := (some .boolean)) (by decide +kernel) rfl ?_
  intro p e s m args below meth c s₁ B hml hv
  obtain ⟨rfl, hsz, hP, hK, hD0, hN⟩ := hv
  have hx := B.exec
  have hb := B.bytes
  have hr := B.returns
  have hts := atoms_spec (ws := (wa yX2_isDry cX2_isDry 2 (some .boolean))) B.pre
  have hown : s.vm.findClass RX2 = some m.cls := findClass_of_methodNamed B.named
  have hlocks := B.notSynchronized
  subst hsz
  have hD : va_D (pq_B t σ (I, J, ri, rj, rq) s.heap.size) (pq_P t σ (I, J, ri, rj, rq)) := hD0.self
  generalize hAe : pq_B t σ (I, J, ri, rj, rq) s.heap.size = A at hD ⊢
  have hA : ∀ q : Nat, s.heap.size ≤ q → A q := fun q h => by rw [← hAe]; exact Or.inr h
  have hS : va_S A s.heap s.heap [] := va_S.rf
  have hG : GX [] tg σ I ri rj I ri rj rq := ⟨hG0, fun _ _ _ => rfl, fun _ _ _ _ _ => rfl, fun _ _ _ _ _ => rfl⟩
  have hl := lv_entry ([.ref this, .int a0]) (n := 2) (Nat.le_of_ble_eq_true rfl)
  rw [lg_entry_eq]
  generalize (lg_sl ([.ref this, .int a0]) ++ List.replicate (2 - (lg_sl ([.ref this, .int a0])).length) Slot.unset).toArray = ls at hl ⊢
  have hl : lv_has ls 2 [(0, .ref this), (1, .int a0)] := hl
  refine q_gen (fun Q hQ => ?_)
  have go : ∀ (H : Heap) (locs : List Loc) (ls : Array Slot), va_P D vwCl (pq_P t σ (I, J, ri, rj, rq)) H → va_D A (pq_P t σ (I, J, ri, rj, rq)) → va_S A s.heap H locs → lv_has ls 2 [(0, .ref this), (1, .int a0)] → W p l e ({ frames := 1, cells := 0, slots := 0, locals := 22 } : Room) s m (List.toArray ([.ref this, .int a0] : List Value)) below meth c H locs 0 0 Q (F0 m 0 ls []) := by
    intro H locs ls hP hD hS hl
    have hVT : VT 10 σ tg M := vt_10 hSH hL_M hK_M
    have hFr : FR 10 tg σ M (I, J, ri, rj, rq) (I, J, ri, rj, rq) := fr_rf
    obtain ⟨F, hF0⟩ : ∃ F, F = g_X2_isDry a0 (vI 10 σ M I) (vJ 10 σ M J) (vR 10 σ M ri) (vL 10 σ M rj) (vQ 10 σ M rq) := ⟨_, rfl⟩
    have hF := hF0.trans g_X2_isDry_e
    refine lv_aload_n hx hb dX2_isDry_0 rfl (lv_at hl 0 rfl) ?_
    refine pg_f (v := .long (J 67 this)) (C := RX2) (T := TX2) (N := 20) hx hb hts (tw_i inlX2) hown hK hP hL_this hK_this (by decide +kernel) rfl 3 (by decide +kernel) (hts _ (tw_c tw_558)) rfl dX2_isDry_1 ?_
    replace hF := hF.trans (ap_n (vJ_e (f := 67) hO_this (by decide +kernel)))
    refine lv_iload_n hx hb dX2_isDry_4 rfl (lv_at hl 1 rfl) ?_
    refine pk_i (va_runSN (As := [.long (J 67 this), .int a0]) (rest := []) ⟨hx, hb, hml, hown, hts⟩ (s_X11_hasBit l D t σ I J ri rj rq H.size tg hSH hG.1 (J 67 this) a0) ⟨va_cnB (host := "RingsUnder") 2 hts (tw_W tw_560) rfl rfl rfl (nl_11 hN) (hts _ (tw_c tw_2)) cd_yX11_hasBit_2 ⟨Nat.le_of_ble_eq_true rfl, Nat.le_of_ble_eq_true rfl⟩, hts (.static yX11_hasBit) (tw_c tq_static_yX11_hasBit), trivial⟩ ⟨pq_blind, pq_pre hK hN hP hD⟩ rfl rfl hl.1 rfl (lv_room (Nat.le_of_ble_eq_true rfl)) dX2_isDry_5 ⟨Nat.le_of_ble_eq_true rfl, Nat.le_of_ble_eq_true rfl⟩) hD hS hA (fun x_2 σ1 μ1 H locs hw_3 hP hD hS => ?_)
    obtain ⟨hu_4, hfn_7, hr_6⟩ := hw_3
    obtain ⟨hu_4a, hu_4b⟩ := Prod.mk.inj hu_4
    rw [hu_4a, hu_4b] at hP hD
    replace hF := hF.trans (ap_n hfn_7.symm)
    have h_9 : rg x_2 0 1 := by rcases hr_6 with ⟨q, -⟩ | ⟨q, -⟩ <;> rw [q] <;> exact ⟨by decide +kernel, by decide +kernel⟩
    rcases bool01 (rg_w h_9 (by decide +kernel)) with e_10 | e_10
    · refine lv_tov 0 e_10 ?_
      subst hQ
      exact W.zret (v := 0) hx hb hr (by decide +kernel) (fun t1 ht hW => ⟨⟨0, (σ, I, J, ri, rj, rq), rfl, ⟨rfl, (hF0.symm.trans (hF.trans (by rw [e_10]))), (Or.inr ⟨rfl, trivial⟩)⟩, by rw [ht]; exact hP, va_K.moved hW.alike hK, hD⟩, hS.F ht⟩) hS.2.2 dX2_isDry_8
    · refine lv_tov 1 e_10 ?_
      subst hQ
      exact W.zret (v := 1) hx hb hr (by decide +kernel) (fun t1 ht hW => ⟨⟨1, (σ, I, J, ri, rj, rq), rfl, ⟨rfl, (hF0.symm.trans (hF.trans (by rw [e_10]))), (Or.inl ⟨rfl, trivial⟩)⟩, by rw [ht]; exact hP, va_K.moved hW.alike hK, hD⟩, hS.F ht⟩) hS.2.2 dX2_isDry_8
  exact go _ _ _ hP hD hS hl

set_option maxRecDepth 100000 in
def g_X2_growReef_L2 (a0 : Int32) (I : Nat → Int32) (J : Nat → Int64) (rj : Nat → Nat → Int64) (rq : Nat → Nat → Option Nat) : Nat → (Int32) → (Nat → Nat → Int32) → vM
  | 0, x_214, ri_215 => (I, J, ri_215, rj, rq)
  | n_233 + 1, x_214, ri_215 => (ap1 (I 65) fun (y_239 : Int32) => (if (y_239) ≤ x_214 then (I, J, ri_215, rj, rq) else (ap1 (ri_215 74 (x_214).toNatClampNeg) fun (x_246 : Int32) => (ap1 (x_246 + a0) fun (x_247 : Int32) => (ap1 (if x_247 < (400 : Int32) then x_247 else (400 : Int32)) fun (x_248 : Int32) => (ap1 (if (0 : Int32) < x_248 then x_248 else (0 : Int32)) fun (x_250 : Int32) => (ap1 (va_up ri_215 74 (upd (ri_215 74) (x_214).toNatClampNeg x_250)) fun (r_252 : Nat → Nat → Int32) => (ap1 (x_214 + Int32.ofInt 1) fun (x_253 : Int32) => ((g_X2_growReef_L2 a0 I J rj rq n_233) x_253 r_252)))))))))
set_option maxRecDepth 100000 in
theorem g_X2_growReef_L2_e {a0 : Int32} {I : Nat → Int32} {J : Nat → Int64} {rj : Nat → Nat → Int64} {rq : Nat → Nat → Option Nat} {n_233 : Nat} {x_214 : Int32} {ri_215 : Nat → Nat → Int32} : g_X2_growReef_L2 a0 I J rj rq (n_233 + 1) x_214 ri_215 = (ap1 (I 65) fun (y_239 : Int32) => (if (y_239) ≤ x_214 then (I, J, ri_215, rj, rq) else (ap1 (ri_215 74 (x_214).toNatClampNeg) fun (x_246 : Int32) => (ap1 (x_246 + a0) fun (x_247 : Int32) => (ap1 (if x_247 < (400 : Int32) then x_247 else (400 : Int32)) fun (x_248 : Int32) => (ap1 (if (0 : Int32) < x_248 then x_248 else (0 : Int32)) fun (x_250 : Int32) => (ap1 (va_up ri_215 74 (upd (ri_215 74) (x_214).toNatClampNeg x_250)) fun (r_252 : Nat → Nat → Int32) => (ap1 (x_214 + Int32.ofInt 1) fun (x_253 : Int32) => ((g_X2_growReef_L2 a0 I J rj rq n_233) x_253 r_252))))))))) := rfl
set_option maxRecDepth 100000 in
def g_X2_growReef (a0 : Int32) (I : Nat → Int32) (J : Nat → Int64) (ri : Nat → Nat → Int32) (rj : Nat → Nat → Int64) (rq : Nat → Nat → Option Nat) : vM := (g_X2_growReef_L2 a0 I J rj rq ((40 - ((0 : Int32)).toInt).toNat + 1) (0 : Int32) ri)
set_option maxRecDepth 100000 in
theorem g_X2_growReef_e {a0 : Int32} {I : Nat → Int32} {J : Nat → Int64} {ri : Nat → Nat → Int32} {rj : Nat → Nat → Int64} {rq : Nat → Nat → Option Nat} : g_X2_growReef a0 I J ri rj rq = (g_X2_growReef_L2 a0 I J rj rq ((40 - ((0 : Int32)).toInt).toNat + 1) (0 : Int32) ri) := rfl
set_option maxHeartbeats 4000000 in
set_option maxRecDepth 100000 in
theorem s_X2_growReef (l : Launch) (D : va_G) (t : pq_T) (σ : pq_S) (I : Nat → Nat → Int32) (J : Nat → Nat → Int64) (ri : Nat → Nat → Int32) (rj : Nat → Nat → Int64) (rq : Nat → Nat → Option Nat) (sz : Nat) (tg : Nat → Nat) (hSH : SH σ tg) (hG0 : GS tg σ I ri rq) (this : Nat) (a0 : Int32) (hL_this : this ∈ σ.1) (hK_this : σ.2.1 this = 2) (M : Nat) (hL_M : M ∈ σ.1) (hK_M : σ.2.1 M = 10) (hO_this : this = vo σ 2 M) : MetV l yX2_growReef (wa yX2_growReef cX2_growReef 3 none) ({ frames := 1, cells := 0, slots := 0, locals := 40 }) [.ref this, .int a0] D t σ (I, J, ri, rj, rq) sz 0 0 (fun (u : pq_S × pq_M) => ∃ ri' : Nat → Nat → Int32, u = (σ, I, J, ri', rj, rq) ∧ GX [1074] tg σ I ri rj I ri' rj rq ∧ g_X2_growReef a0 (vI 10 σ M I) (vJ 10 σ M J) (vR 10 σ M ri) (vL 10 σ M rj) (vQ 10 σ M rq) = ((vI 10 σ M I), (vJ 10 σ M J), (vR 10 σ M ri'), (vL 10 σ M rj), (vQ 10 σ M rq)) ∧ FR 10 tg σ M (I, J, ri, rj, rq) (I, J, ri', rj, rq)) := by
  refine Met.ofW (cc := cX2_growReef) (maxL := 3) (ret := none) (by decide +kernel) rfl ?_
  intro p e s m args below meth c s₁ B hml hv
  obtain ⟨rfl, hsz, hP, hK, hD0, hN⟩ := hv
  have hx := B.exec
  have hb := B.bytes
  have hr := B.returns
  have hts := atoms_spec (ws := (wa yX2_growReef cX2_growReef 3 none)) B.pre
  have hown : s.vm.findClass RX2 = some m.cls := findClass_of_methodNamed B.named
  have hlocks := B.notSynchronized
  subst hsz
  have hD : va_D (pq_B t σ (I, J, ri, rj, rq) s.heap.size) (pq_P t σ (I, J, ri, rj, rq)) := hD0.self
  generalize hAe : pq_B t σ (I, J, ri, rj, rq) s.heap.size = A at hD ⊢
  have hA : ∀ q : Nat, s.heap.size ≤ q → A q := fun q h => by rw [← hAe]; exact Or.inr h
  have hS : va_S A s.heap s.heap [] := va_S.rf
  have hG : GX [1074] tg σ I ri rj I ri rj rq := ⟨hG0, fun _ _ _ => rfl, fun _ _ _ _ _ => rfl, fun _ _ _ _ _ => rfl⟩
  have hl := lv_entry ([.ref this, .int a0]) (n := 3) (Nat.le_of_ble_eq_true rfl)
  rw [lg_entry_eq]
  generalize (lg_sl ([.ref this, .int a0]) ++ List.replicate (3 - (lg_sl ([.ref this, .int a0])).length) Slot.unset).toArray = ls at hl ⊢
  have hl : lv_has ls 3 [(0, .ref this), (1, .int a0)] := hl
  refine q_gen (fun Q hQ => ?_)
  have go : ∀ (H : Heap) (locs : List Loc) (ls : Array Slot), va_P D vwCl (pq_P t σ (I, J, ri, rj, rq)) H → va_D A (pq_P t σ (I, J, ri, rj, rq)) → va_S A s.heap H locs → lv_has ls 3 [(0, .ref this), (1, .int a0)] → W p l e ({ frames := 1, cells := 0, slots := 0, locals := 40 } : Room) s m (List.toArray ([.ref this, .int a0] : List Value)) below meth c H locs 0 0 Q (F0 m 0 ls []) := by
    intro H locs ls hP hD hS hl
    have hVT : VT 10 σ tg M := vt_10 hSH hL_M hK_M
    have hFr : FR 10 tg σ M (I, J, ri, rj, rq) (I, J, ri, rj, rq) := fr_rf
    obtain ⟨F, hF0⟩ : ∃ F, F = g_X2_growReef a0 (vI 10 σ M I) (vJ 10 σ M J) (vR 10 σ M ri) (vL 10 σ M rj) (vQ 10 σ M rq) := ⟨_, rfl⟩
    have hF := hF0.trans g_X2_growReef_e
    refine lv_iconst (v := 0) hx hb dX2_growReef_0 (by decide +kernel) ?_
    refine lv_istore_n (lv' := [(2, .int 0), (0, .ref this), (1, .int a0)]) hx hb dX2_growReef_1 rfl hl (by decide +kernel) rfl (fun ls hl => ?_)
    have L_234 : ∀ (n_233 : Nat) (x_214 : Int32) (ri_215 : Nat → Nat → Int32) (H : Heap) (locs : List Loc) (ls : Array Slot), rg x_214 0 40 → (40 - (x_214).toInt).toNat < n_233 → F = g_X2_growReef_L2 a0 (vI 10 σ M I) (vJ 10 σ M J) (vL 10 σ M rj) (vQ 10 σ M rq) n_233 x_214 (vR 10 σ M ri_215) → FR 10 tg σ M (I, J, ri, rj, rq) (I, J, ri_215, rj, rq) → GX [1074] tg σ I ri rj I ri_215 rj rq → va_P D vwCl (pq_P t σ (I, J, ri_215, rj, rq)) H → va_D A (pq_P t σ (I, J, ri_215, rj, rq)) → va_S A s.heap H locs → lv_has ls 3 [(0, .ref this), (1, .int a0), (2, .int x_214)] → W p l e ({ frames := 1, cells := 0, slots := 0, locals := 40 } : Room) s m (List.toArray ([.ref this, .int a0] : List Value)) below meth c H locs 0 0 Q (F0 m 2 ls []) := by
      intro n_233
      induction n_233 with
      | zero => intro x_214 ri_215 H locs ls h_237 hm_232 hF hFr hG hP hD hS hl; exact absurd hm_232 (Nat.not_lt_zero _)
      | succ n_233 ih_235 =>
        intro x_214 ri_215 H locs ls h_237 hm_232 hF hFr hG hP hD hS hl
        replace hF := hF.trans g_X2_growReef_L2_e
        refine lv_iload_n hx hb dX2_growReef_2 rfl (lv_at hl 2 rfl) ?_
        refine lv_aload_n hx hb dX2_growReef_3 rfl (lv_at hl 0 rfl) ?_
        refine pg_f (v := .int (I 65 this)) (C := RX2) (T := TX2) (N := 20) hx hb hts (tw_i inlX2) hown hK hP hL_this hK_this (by decide +kernel) rfl 1 (by decide +kernel) (hts _ (tw_c tw_222)) rfl dX2_growReef_4 ?_
        have h_238 : rg (I 65 this) 0 40 := GX.rI hG 65 rfl
        replace hF := hF.trans (ap_n (vI_e (f := 65) hO_this (by decide +kernel)))
        refine lv_icmp_ge (tgt := 40) hx hb dX2_growReef_7 (by decide +kernel) (fun c_240 => ?_) (fun c_240 => ?_)
        · replace hF := hF.trans (if_pos c_240)
          subst hQ
          exact W.vret hx hb hr (fun t1 ht hW => ⟨⟨(σ, I, J, ri_215, rj, rq), rfl, ⟨ri_215, rfl, hG, (hF0.symm.trans hF), hFr⟩, by rw [ht]; exact hP, va_K.moved hW.alike hK, hD⟩, hS.F ht⟩) hS.2.2 dX2_growReef_40
        · replace hF := hF.trans (if_neg c_240)
          have h_243 : rg x_214 0 39 := rg_lt1 (nle c_240) h_237 h_238 (by decide +kernel)
          have h_244 : rg (I 65 this) 1 40 := rg_lt2 (nle c_240) h_237 h_238 (by decide +kernel)
          refine lv_aload_n hx hb dX2_growReef_10 rfl (lv_at hl 0 rfl) ?_
          obtain ⟨w_245, hR_w_245, hL_w_245, hK_w_245, hN_w_245, hT_w_245⟩ := sh_a hSH 74 (ci := 2) (kd := 13) (len := 40) rfl (by decide +kernel) hL_this hK_this
          have hO_w_245 : w_245 = vrow σ 74 M := vo_k (c := 2) hO_this hR_w_245
          refine pg_f (v := .ref w_245) (C := RX2) (T := TX2) (N := 20) hx hb hts (tw_i inlX2) hown hK hP hL_this hK_this (by decide +kernel) rfl 10 (by decide +kernel) (hts _ (tw_c tw_88)) (pq_hv rfl hR_w_245) dX2_growReef_11 ?_
          refine lv_iload_n hx hb dX2_growReef_14 rfl (lv_at hl 2 rfl) ?_
          refine lv_iconst (v := 0) hx hb dX2_growReef_15 (by decide +kernel) ?_
          refine lv_sipush (v := 400) hx hb dX2_growReef_16 (by decide +kernel) ?_
          refine lv_aload_n hx hb dX2_growReef_19 rfl (lv_at hl 0 rfl) ?_
          refine pg_f (v := .ref w_245) (C := RX2) (T := TX2) (N := 20) hx hb hts (tw_i inlX2) hown hK hP hL_this hK_this (by decide +kernel) rfl 10 (by decide +kernel) (hts _ (tw_c tw_88)) (pq_hv rfl hR_w_245) dX2_growReef_20 ?_
          refine lv_iload_n hx hb dX2_growReef_23 rfl (lv_at hl 2 rfl) ?_
          refine pl_i hx hb hK hP hL_w_245 hK_w_245 hN_w_245 (rg_in h_243 (by decide +kernel)) dX2_growReef_24 ?_
          refine lv_topi (fun x_246 ex_246 => ?_)
          replace hF := hF.trans (ap_n (vR_r hO_w_245 (by decide +kernel) ex_246))
          refine lv_iload_n hx hb dX2_growReef_25 rfl (lv_at hl 1 rfl) ?_
          refine lv_iadd hx hb dX2_growReef_26 ?_
          refine lv_topi (fun x_247 ex_247 => ?_)
          replace hF := hF.trans (ap_n ex_247)
          refine va_mmin hx hb (hml.trans hl.1.symm) hown (hts _ (tw_c tw_1063)) (hts _ (tw_c tw_467)) (hts _ (tw_c tw_276)) (hts _ (tw_c tw_468)) (Nat.le_of_ble_eq_true rfl) (Nat.le_of_ble_eq_true rfl) (Nat.zero_le _) (Nat.zero_le _) dX2_growReef_27 ?_
          refine lv_topi (fun x_248 ex_248 => ?_)
          replace hF := hF.trans (ap_n ex_248)
          have h_249 : rg x_248 (-2147483648) 400 := rg_of_eq ex_248 (rg_min2 (rg_k (400 : Int32) 400 rfl) (rg_full _) (by decide +kernel))
          refine va_mmax hx hb (hml.trans hl.1.symm) hown (hts _ (tw_c tw_1064)) (hts _ (tw_c tw_275)) (hts _ (tw_c tw_276)) (hts _ (tw_c tw_277)) (Nat.le_of_ble_eq_true rfl) (Nat.le_of_ble_eq_true rfl) (Nat.zero_le _) (Nat.zero_le _) dX2_growReef_30 ?_
          refine lv_topi (fun x_250 ex_250 => ?_)
          replace hF := hF.trans (ap_n ex_250)
          have h_251 : rg x_250 0 400 := rg_of_eq ex_250 (rg_max2 (rg_k (0 : Int32) 0 rfl) h_249 (by decide +kernel))
          refine pt_i hx hb hK hP hD hS hL_w_245 hK_w_245 hN_w_245 (rg_in h_243 (by decide +kernel)) dX2_growReef_33 (fun r_252 H locs er_252 hP hD hS => ?_)
          replace hFr := fr_R hFr hO_w_245 (by decide +kernel) er_252
          replace hF := hF.trans (ap_n (vR_st hVT hO_w_245 (by decide +kernel) er_252))
          have hG := GX.wR hG hSH hT_w_245 rfl er_252 (rg_w h_251 (by decide +kernel)) (by decide +kernel)
          obtain ⟨x_253, ex_253⟩ : ∃ y : Int32, y = x_214 + Int32.ofInt 1 := ⟨_, rfl⟩
          replace hF := hF.trans (ap_n ex_253)
          have h_254 : rg x_253 1 40 := rg_of_eq ex_253 (rg_add h_243 (rg_k (Int32.ofInt 1) 1 rfl) (by decide +kernel))
          refine lv_iinc (v := x_253) (lv' := [(2, .int x_253), (0, .ref this), (1, .int a0)]) hx hb dX2_growReef_34 hl (k := 2) rfl ex_253.symm (by decide +kernel) rfl (fun ls hl => ?_)
          refine lv_goto (tgt := 2) hx hb dX2_growReef_37 (by decide +kernel) ?_
          exact ih_235 x_253 r_252 _ _ _ (rg_w h_254 (by decide +kernel)) (ms_up 1 hm_232 ex_253 rfl (by decide +kernel) h_243 (by decide +kernel) (by decide +kernel)) hF hFr hG hP hD hS (lv_sub hl [1, 2, 0] rfl)
    exact L_234 _ (0 : Int32) ri _ _ _ (rg_w (rg_k (0 : Int32) 0 rfl) (by decide +kernel)) (Nat.lt_succ_self _) hF hFr hG hP hD hS (lv_sub hl [1, 2, 0] rfl)
  exact go _ _ _ hP hD hS hl

set_option maxRecDepth 100000 in
def g_X2_walk_K118 (x_4568 : Int32) (k_g_X2_walk_L47 : (Int32) → (Nat → Int32) → (Nat → Nat → Int32) → vM) (I_4634 : Nat → Int32) (ri_4635 : Nat → Nat → Int32) : vM := (ap1 (x_4568 + Int32.ofInt 1) fun (x_4639 : Int32) => (k_g_X2_walk_L47 x_4639 I_4634 ri_4635))
set_option maxRecDepth 100000 in
theorem g_X2_walk_K118_e {x_4568 : Int32} {k_g_X2_walk_L47 : (Int32) → (Nat → Int32) → (Nat → Nat → Int32) → vM} {I_4634 : Nat → Int32} {ri_4635 : Nat → Nat → Int32} : g_X2_walk_K118 x_4568 k_g_X2_walk_L47 I_4634 ri_4635 = (ap1 (x_4568 + Int32.ofInt 1) fun (x_4639 : Int32) => (k_g_X2_walk_L47 x_4639 I_4634 ri_4635)) := rfl
set_option maxRecDepth 100000 in
def g_X2_walk_L47 (J : Nat → Int64) (rj : Nat → Nat → Int64) (rq : Nat → Nat → Option Nat) : Nat → (Int32) → (Nat → Int32) → (Nat → Nat → Int32) → vM
  | 0, x_4568, I_4569, ri_4570 => (I_4569, J, ri_4570, rj, rq)
  | n_4602 + 1, x_4568, I_4569, ri_4570 => (ap1 (I_4569 65) fun (y_4608 : Int32) => (if (y_4608) ≤ x_4568 then (I_4569, J, ri_4570, rj, rq) else (ap1 (ri_4570 73 (x_4568).toNatClampNeg) fun (x_4615 : Int32) => (ap1 (ri_4570 81 (x_4568).toNatClampNeg) fun (x_4617 : Int32) => (ap1 (x_4615 - x_4617) fun (x_4618 : Int32) => (ap1 (va_up ri_4570 73 (upd (ri_4570 73) (x_4568).toNatClampNeg x_4618)) fun (r_4619 : Nat → Nat → Int32) => (ap1 (r_4619 79 (x_4568).toNatClampNeg) fun (x_4621 : Int32) => (if x_4621 = (-1 : Int32) then (ap1 (I_4569 66) fun (y_4650 : Int32) => (ap1 (r_4619 81 (x_4568).toNatClampNeg) fun (x_4651 : Int32) => (ap1 ((y_4650) + x_4651) fun (x_4652 : Int32) => (ap1 (va_up I_4569 66 x_4652) fun (I_4653 : Nat → Int32) => (g_X2_walk_K118 x_4568 (g_X2_walk_L47 J rj rq n_4602) I_4653 r_4619))))) else (ap1 (r_4619 73 (x_4621).toNatClampNeg) fun (x_4645 : Int32) => (ap1 (r_4619 81 (x_4568).toNatClampNeg) fun (x_4646 : Int32) => (ap1 (x_4645 + x_4646) fun (x_4647 : Int32) => (ap1 (va_up r_4619 73 (upd (r_4619 73) (x_4621).toNatClampNeg x_4647)) fun (r_4648 : Nat → Nat → Int32) => (g_X2_walk_K118 x_4568 (g_X2_walk_L47 J rj rq n_4602) I_4569 r_4648)))))))))))))
set_option maxRecDepth 100000 in
theorem g_X2_walk_L47_e {J : Nat → Int64} {rj : Nat → Nat → Int64} {rq : Nat → Nat → Option Nat} {n_4602 : Nat} {x_4568 : Int32} {I_4569 : Nat → Int32} {ri_4570 : Nat → Nat → Int32} : g_X2_walk_L47 J rj rq (n_4602 + 1) x_4568 I_4569 ri_4570 = (ap1 (I_4569 65) fun (y_4608 : Int32) => (if (y_4608) ≤ x_4568 then (I_4569, J, ri_4570, rj, rq) else (ap1 (ri_4570 73 (x_4568).toNatClampNeg) fun (x_4615 : Int32) => (ap1 (ri_4570 81 (x_4568).toNatClampNeg) fun (x_4617 : Int32) => (ap1 (x_4615 - x_4617) fun (x_4618 : Int32) => (ap1 (va_up ri_4570 73 (upd (ri_4570 73) (x_4568).toNatClampNeg x_4618)) fun (r_4619 : Nat → Nat → Int32) => (ap1 (r_4619 79 (x_4568).toNatClampNeg) fun (x_4621 : Int32) => (if x_4621 = (-1 : Int32) then (ap1 (I_4569 66) fun (y_4650 : Int32) => (ap1 (r_4619 81 (x_4568).toNatClampNeg) fun (x_4651 : Int32) => (ap1 ((y_4650) + x_4651) fun (x_4652 : Int32) => (ap1 (va_up I_4569 66 x_4652) fun (I_4653 : Nat → Int32) => (g_X2_walk_K118 x_4568 (g_X2_walk_L47 J rj rq n_4602) I_4653 r_4619))))) else (ap1 (r_4619 73 (x_4621).toNatClampNeg) fun (x_4645 : Int32) => (ap1 (r_4619 81 (x_4568).toNatClampNeg) fun (x_4646 : Int32) => (ap1 (x_4645 + x_4646) fun (x_4647 : Int32) => (ap1 (va_up r_4619 73 (upd (r_4619 73) (x_4621).toNatClampNeg x_4647)) fun (r_4648 : Nat → Nat → Int32) => (g_X2_walk_K118 x_4568 (g_X2_walk_L47 J rj rq n_4602) I_4569 r_4648))))))))))))) := rfl
set_option maxRecDepth 100000 in
def g_X2_walk_K38 (x_3690 : Int32) (ri_3691 : Nat → Nat → Int32) (k_g_X2_walk_L2 : (Int32) → (Nat → Nat → Int32) → vM) (x_4664 : Int32) : vM := (ap1 (va_up ri_3691 81 (upd (ri_3691 81) (x_3690).toNatClampNeg x_4664)) fun (r_4669 : Nat → Nat → Int32) => (ap1 (x_3690 + Int32.ofInt 1) fun (x_4670 : Int32) => (k_g_X2_walk_L2 x_4670 r_4669)))
set_option maxRecDepth 100000 in
theorem g_X2_walk_K38_e {x_3690 : Int32} {ri_3691 : Nat → Nat → Int32} {k_g_X2_walk_L2 : (Int32) → (Nat → Nat → Int32) → vM} {x_4664 : Int32} : g_X2_walk_K38 x_3690 ri_3691 k_g_X2_walk_L2 x_4664 = (ap1 (va_up ri_3691 81 (upd (ri_3691 81) (x_3690).toNatClampNeg x_4664)) fun (r_4669 : Nat → Nat → Int32) => (ap1 (x_3690 + Int32.ofInt 1) fun (x_4670 : Int32) => (k_g_X2_walk_L2 x_4670 r_4669))) := rfl
set_option maxRecDepth 100000 in
def g_X2_walk_L2 (a0 : Int32) (I : Nat → Int32) (J : Nat → Int64) (rj : Nat → Nat → Int64) (rq : Nat → Nat → Option Nat) : Nat → (Int32) → (Nat → Nat → Int32) → vM
  | 0, x_3690, ri_3691 => (I, J, ri_3691, rj, rq)
  | n_4167 + 1, x_3690, ri_3691 => (ap1 (I 65) fun (y_4173 : Int32) => (if (y_4173) ≤ x_3690 then (g_X2_walk_L47 J rj rq ((40 - ((0 : Int32)).toInt).toNat + 1) (0 : Int32) I ri_3691) else (ap1 (ri_3691 75 (x_3690).toNatClampNeg) fun (x_4658 : Int32) => (if x_4658 = (0 : Int32) then (ap1 (ri_3691 73 (x_3690).toNatClampNeg) fun (x_4676 : Int32) => (ap1 (if a0 < x_4676 then a0 else x_4676) fun (x_4677 : Int32) => (g_X2_walk_K38 x_3690 ri_3691 (g_X2_walk_L2 a0 I J rj rq n_4167) x_4677))) else (g_X2_walk_K38 x_3690 ri_3691 (g_X2_walk_L2 a0 I J rj rq n_4167) (0 : Int32))))))
set_option maxRecDepth 100000 in
theorem g_X2_walk_L2_e {a0 : Int32} {I : Nat → Int32} {J : Nat → Int64} {rj : Nat → Nat → Int64} {rq : Nat → Nat → Option Nat} {n_4167 : Nat} {x_3690 : Int32} {ri_3691 : Nat → Nat → Int32} : g_X2_walk_L2 a0 I J rj rq (n_4167 + 1) x_3690 ri_3691 = (ap1 (I 65) fun (y_4173 : Int32) => (if (y_4173) ≤ x_3690 then (g_X2_walk_L47 J rj rq ((40 - ((0 : Int32)).toInt).toNat + 1) (0 : Int32) I ri_3691) else (ap1 (ri_3691 75 (x_3690).toNatClampNeg) fun (x_4658 : Int32) => (if x_4658 = (0 : Int32) then (ap1 (ri_3691 73 (x_3690).toNatClampNeg) fun (x_4676 : Int32) => (ap1 (if a0 < x_4676 then a0 else x_4676) fun (x_4677 : Int32) => (g_X2_walk_K38 x_3690 ri_3691 (g_X2_walk_L2 a0 I J rj rq n_4167) x_4677))) else (g_X2_walk_K38 x_3690 ri_3691 (g_X2_walk_L2 a0 I J rj rq n_4167) (0 : Int32)))))) := rfl
set_option maxRecDepth 100000 in
def g_X2_walk (a0 : Int32) (I : Nat → Int32) (J : Nat → Int64) (ri : Nat → Nat → Int32) (rj : Nat → Nat → Int64) (rq : Nat → Nat → Option Nat) : vM := (g_X2_walk_L2 a0 I J rj rq ((40 - ((0 : Int32)).toInt).toNat + 1) (0 : Int32) ri)
set_option maxRecDepth 100000 in
theorem g_X2_walk_e {a0 : Int32} {I : Nat → Int32} {J : Nat → Int64} {ri : Nat → Nat → Int32} {rj : Nat → Nat → Int64} {rq : Nat → Nat → Option Nat} : g_X2_walk a0 I J ri rj rq = (g_X2_walk_L2 a0 I J rj rq ((40 - ((0 : Int32)).toInt).toNat + 1) (0 : Int32) ri) := rfl
set_option maxHeartbeats 4000000 in
set_option maxRecDepth 100000 in
theorem s_X2_walk (l : Launch) (D : va_G) (t : pq_T) (σ : pq_S) (I : Nat → Nat → Int32) (J : Nat → Nat → Int64) (ri : Nat → Nat → Int32) (rj : Nat → Nat → Int64) (rq : Nat → Nat → Option Nat) (sz : Nat) (tg : Nat → Nat) (hSH : SH σ tg) (hG0 : GS tg σ I ri rq) (this : Nat) (a0 : Int32) (hL_this : this ∈ σ.1) (hK_this : σ.2.1 this = 2) (M : Nat) (hL_M : M ∈ σ.1) (hK_M : σ.2.1 M = 10) (hO_this : this = vo σ 2 M) : MetV l yX2_walk (wa yX2_walk cX2_walk 3 none) ({ frames := 1, cells := 0, slots := 0, locals := 40 }) [.ref this, .int a0] D t σ (I, J, ri, rj, rq) sz 0 0 (fun (u : pq_S × pq_M) => ∃ I' : Nat → Nat → Int32, ∃ ri' : Nat → Nat → Int32, u = (σ, I', J, ri', rj, rq) ∧ GX [1073] tg σ I ri rj I' ri' rj rq ∧ g_X2_walk a0 (vI 10 σ M I) (vJ 10 σ M J) (vR 10 σ M ri) (vL 10 σ M rj) (vQ 10 σ M rq) = ((vI 10 σ M I'), (vJ 10 σ M J), (vR 10 σ M ri'), (vL 10 σ M rj), (vQ 10 σ M rq)) ∧ FR 10 tg σ M (I, J, ri, rj, rq) (I', J, ri', rj, rq)) := by
  refine Met.ofW (cc := cX2_walk) (maxL := 3) (ret := none) (by decide +kernel) rfl ?_
  intro p e s m args below meth c s₁ B hml hv
  obtain ⟨rfl, hsz, hP, hK, hD0, hN⟩ := hv
  have hx := B.exec
  have hb := B.bytes
  have hr := B.returns
  have hts := atoms_spec (ws := (wa yX2_walk cX2_walk 3 none)) B.pre
  have hown : s.vm.findClass RX2 = some m.cls := findClass_of_methodNamed B.named
  have hlocks := B.notSynchronized
  subst hsz
  have hD : va_D (pq_B t σ (I, J, ri, rj, rq) s.heap.size) (pq_P t σ (I, J, ri, rj, rq)) := hD0.self
  generalize hAe : pq_B t σ (I, J, ri, rj, rq) s.heap.size = A at hD ⊢
  have hA : ∀ q : Nat, s.heap.size ≤ q → A q := fun q h => by rw [← hAe]; exact Or.inr h
  have hS : va_S A s.heap s.heap [] := va_S.rf
  have hG : GX [1073] tg σ I ri rj I ri rj rq := ⟨hG0, fun _ _ _ => rfl, fun _ _ _ _ _ => rfl, fun _ _ _ _ _ => rfl⟩
  have hl := lv_entry ([.ref this, .int a0]) (n := 3) (Nat.le_of_ble_eq_true rfl)
  rw [lg_entry_eq]
  generalize (lg_sl ([.ref this, .int a0]) ++ List.replicate (3 - (lg_sl ([.ref this, .int a0])).length) Slot.unset).toArray = ls at hl ⊢
  have hl : lv_has ls 3 [(0, .ref this), (1, .int a0)] := hl
  refine q_gen (fun Q hQ => ?_)
  have go : ∀ (H : Heap) (locs : List Loc) (ls : Array Slot), va_P D vwCl (pq_P t σ (I, J, ri, rj, rq)) H → va_D A (pq_P t σ (I, J, ri, rj, rq)) → va_S A s.heap H locs → lv_has ls 3 [(0, .ref this), (1, .int a0)] → W p l e ({ frames := 1, cells := 0, slots := 0, locals := 40 } : Room) s m (List.toArray ([.ref this, .int a0] : List Value)) below meth c H locs 0 0 Q (F0 m 0 ls []) := by
    intro H locs ls hP hD hS hl
    have hVT : VT 10 σ tg M := vt_10 hSH hL_M hK_M
    have hFr : FR 10 tg σ M (I, J, ri, rj, rq) (I, J, ri, rj, rq) := fr_rf
    obtain ⟨F, hF0⟩ : ∃ F, F = g_X2_walk a0 (vI 10 σ M I) (vJ 10 σ M J) (vR 10 σ M ri) (vL 10 σ M rj) (vQ 10 σ M rq) := ⟨_, rfl⟩
    have hF := hF0.trans g_X2_walk_e
    refine lv_iconst (v := 0) hx hb dX2_walk_0 (by decide +kernel) ?_
    refine lv_istore_n (lv' := [(2, .int 0), (0, .ref this), (1, .int a0)]) hx hb dX2_walk_1 rfl hl (by decide +kernel) rfl (fun ls hl => ?_)
    have L_4168 : ∀ (n_4167 : Nat) (x_3690 : Int32) (ri_3691 : Nat → Nat → Int32) (H : Heap) (locs : List Loc) (ls : Array Slot), rg x_3690 0 40 → (40 - (x_3690).toInt).toNat < n_4167 → F = g_X2_walk_L2 a0 (vI 10 σ M I) (vJ 10 σ M J) (vL 10 σ M rj) (vQ 10 σ M rq) n_4167 x_3690 (vR 10 σ M ri_3691) → FR 10 tg σ M (I, J, ri, rj, rq) (I, J, ri_3691, rj, rq) → GX [1073] tg σ I ri rj I ri_3691 rj rq → va_P D vwCl (pq_P t σ (I, J, ri_3691, rj, rq)) H → va_D A (pq_P t σ (I, J, ri_3691, rj, rq)) → va_S A s.heap H locs → lv_has ls 3 [(0, .ref this), (1, .int a0), (2, .int x_3690)] → W p l e ({ frames := 1, cells := 0, slots := 0, locals := 40 } : Room) s m (List.toArray ([.ref this, .int a0] : List Value)) below meth c H locs 0 0 Q (F0 m 2 ls []) := by
      intro n_4167
      induction n_4167 with
      | zero => intro x_3690 ri_3691 H locs ls h_4171 hm_4166 hF hFr hG hP hD hS hl; exact absurd hm_4166 (Nat.not_lt_zero _)
      | succ n_4167 ih_4169 =>
        intro x_3690 ri_3691 H locs ls h_4171 hm_4166 hF hFr hG hP hD hS hl
        replace hF := hF.trans g_X2_walk_L2_e
        refine lv_iload_n hx hb dX2_walk_2 rfl (lv_at hl 2 rfl) ?_
        refine lv_aload_n hx hb dX2_walk_3 rfl (lv_at hl 0 rfl) ?_
        refine pg_f (v := .int (I 65 this)) (C := RX2) (T := TX2) (N := 20) hx hb hts (tw_i inlX2) hown hK hP hL_this hK_this (by decide +kernel) rfl 1 (by decide +kernel) (hts _ (tw_c tw_222)) rfl dX2_walk_4 ?_
        have h_4172 : rg (I 65 this) 0 40 := GX.rI hG 65 rfl
        replace hF := hF.trans (ap_n (vI_e (f := 65) hO_this (by decide +kernel)))
        refine lv_icmp_ge (tgt := 45) hx hb dX2_walk_7 (by decide +kernel) (fun c_4174 => ?_) (fun c_4174 => ?_)
        · replace hF := hF.trans (if_pos c_4174)
          refine lv_iconst (v := 0) hx hb dX2_walk_45 (by decide +kernel) ?_
          refine lv_istore_n (lv' := [(2, .int 0), (0, .ref this), (1, .int a0)]) hx hb dX2_walk_46 rfl hl (by decide +kernel) rfl (fun ls hl => ?_)
          have L_4603 : ∀ (n_4602 : Nat) (x_4568 : Int32) (I_4569 : Nat → Nat → Int32) (ri_4570 : Nat → Nat → Int32) (H : Heap) (locs : List Loc) (ls : Array Slot), rg x_4568 0 40 → (40 - (x_4568).toInt).toNat < n_4602 → F = g_X2_walk_L47 (vJ 10 σ M J) (vL 10 σ M rj) (vQ 10 σ M rq) n_4602 x_4568 (vI 10 σ M I_4569) (vR 10 σ M ri_4570) → FR 10 tg σ M (I, J, ri, rj, rq) (I_4569, J, ri_4570, rj, rq) → GX [1073] tg σ I ri rj I_4569 ri_4570 rj rq → va_P D vwCl (pq_P t σ (I_4569, J, ri_4570, rj, rq)) H → va_D A (pq_P t σ (I_4569, J, ri_4570, rj, rq)) → va_S A s.heap H locs → lv_has ls 3 [(0, .ref this), (2, .int x_4568)] → W p l e ({ frames := 1, cells := 0, slots := 0, locals := 40 } : Room) s m (List.toArray ([.ref this, .int a0] : List Value)) below meth c H locs 0 0 Q (F0 m 47 ls []) := by
            intro n_4602
            induction n_4602 with
            | zero => intro x_4568 I_4569 ri_4570 H locs ls h_4606 hm_4601 hF hFr hG hP hD hS hl; exact absurd hm_4601 (Nat.not_lt_zero _)
            | succ n_4602 ih_4604 =>
              intro x_4568 I_4569 ri_4570 H locs ls h_4606 hm_4601 hF hFr hG hP hD hS hl
              replace hF := hF.trans g_X2_walk_L47_e
              refine lv_iload_n hx hb dX2_walk_47 rfl (lv_at hl 1 rfl) ?_
              refine lv_aload_n hx hb dX2_walk_48 rfl (lv_at hl 0 rfl) ?_
              refine pg_f (v := .int (I_4569 65 this)) (C := RX2) (T := TX2) (N := 20) hx hb hts (tw_i inlX2) hown hK hP hL_this hK_this (by decide +kernel) rfl 1 (by decide +kernel) (hts _ (tw_c tw_222)) rfl dX2_walk_49 ?_
              have h_4607 : rg (I_4569 65 this) 0 40 := GX.rI hG 65 rfl
              replace hF := hF.trans (ap_n (vI_e (f := 65) hO_this (by decide +kernel)))
              refine lv_icmp_ge (tgt := 124) hx hb dX2_walk_52 (by decide +kernel) (fun c_4609 => ?_) (fun c_4609 => ?_)
              · replace hF := hF.trans (if_pos c_4609)
                subst hQ
                exact W.vret hx hb hr (fun t1 ht hW => ⟨⟨(σ, I_4569, J, ri_4570, rj, rq), rfl, ⟨I_4569, ri_4570, rfl, hG, (hF0.symm.trans hF), hFr⟩, by rw [ht]; exact hP, va_K.moved hW.alike hK, hD⟩, hS.F ht⟩) hS.2.2 dX2_walk_124
              · replace hF := hF.trans (if_neg c_4609)
                have h_4612 : rg x_4568 0 39 := rg_lt1 (nle c_4609) h_4606 h_4607 (by decide +kernel)
                have h_4613 : rg (I_4569 65 this) 1 40 := rg_lt2 (nle c_4609) h_4606 h_4607 (by decide +kernel)
                refine lv_aload_n hx hb dX2_walk_55 rfl (lv_at hl 0 rfl) ?_
                obtain ⟨w_4614, hR_w_4614, hL_w_4614, hK_w_4614, hN_w_4614, hT_w_4614⟩ := sh_a hSH 73 (ci := 2) (kd := 13) (len := 40) rfl (by decide +kernel) hL_this hK_this
                have hO_w_4614 : w_4614 = vrow σ 73 M := vo_k (c := 2) hO_this hR_w_4614
                refine pg_f (v := .ref w_4614) (C := RX2) (T := TX2) (N := 20) hx hb hts (tw_i inlX2) hown hK hP hL_this hK_this (by decide +kernel) rfl 9 (by decide +kernel) (hts _ (tw_c tw_87)) (pq_hv rfl hR_w_4614) dX2_walk_56 ?_
                refine lv_iload_n hx hb dX2_walk_59 rfl (lv_at hl 1 rfl) ?_
                refine lv_dup2_11 hx hb dX2_walk_60 rfl rfl ?_
                refine pl_i hx hb hK hP hL_w_4614 hK_w_4614 hN_w_4614 (rg_in h_4612 (by decide +kernel)) dX2_walk_61 ?_
                refine lv_topi (fun x_4615 ex_4615 => ?_)
                replace hF := hF.trans (ap_n (vR_r hO_w_4614 (by decide +kernel) ex_4615))
                refine lv_aload_n hx hb dX2_walk_62 rfl (lv_at hl 0 rfl) ?_
                obtain ⟨w_4616, hR_w_4616, hL_w_4616, hK_w_4616, hN_w_4616, hT_w_4616⟩ := sh_a hSH 81 (ci := 2) (kd := 13) (len := 40) rfl (by decide +kernel) hL_this hK_this
                have hO_w_4616 : w_4616 = vrow σ 81 M := vo_k (c := 2) hO_this hR_w_4616
                refine pg_f (v := .ref w_4616) (C := RX2) (T := TX2) (N := 20) hx hb hts (tw_i inlX2) hown hK hP hL_this hK_this (by decide +kernel) rfl 17 (by decide +kernel) (hts _ (tw_c tw_98)) (pq_hv rfl hR_w_4616) dX2_walk_63 ?_
                refine lv_iload_n hx hb dX2_walk_66 rfl (lv_at hl 1 rfl) ?_
                refine pl_i hx hb hK hP hL_w_4616 hK_w_4616 hN_w_4616 (rg_in h_4612 (by decide +kernel)) dX2_walk_67 ?_
                refine lv_topi (fun x_4617 ex_4617 => ?_)
                replace hF := hF.trans (ap_n (vR_r hO_w_4616 (by decide +kernel) ex_4617))
                refine lv_isub hx hb dX2_walk_68 ?_
                refine lv_topi (fun x_4618 ex_4618 => ?_)
                replace hF := hF.trans (ap_n ex_4618)
                refine pt_i hx hb hK hP hD hS hL_w_4614 hK_w_4614 hN_w_4614 (rg_in h_4612 (by decide +kernel)) dX2_walk_69 (fun r_4619 H locs er_4619 hP hD hS => ?_)
                replace hFr := fr_R hFr hO_w_4614 (by decide +kernel) er_4619
                replace hF := hF.trans (ap_n (vR_st hVT hO_w_4614 (by decide +kernel) er_4619))
                have hG := GX.wR hG hSH hT_w_4614 rfl er_4619 (rg_w (rg_full _) (by decide +kernel)) (by decide +kernel)
                refine lv_aload_n hx hb dX2_walk_70 rfl (lv_at hl 0 rfl) ?_
                obtain ⟨w_4620, hR_w_4620, hL_w_4620, hK_w_4620, hN_w_4620, hT_w_4620⟩ := sh_a hSH 79 (ci := 2) (kd := 13) (len := 40) rfl (by decide +kernel) hL_this hK_this
                have hO_w_4620 : w_4620 = vrow σ 79 M := vo_k (c := 2) hO_this hR_w_4620
                refine pg_f (v := .ref w_4620) (C := RX2) (T := TX2) (N := 20) hx hb hts (tw_i inlX2) hown hK hP hL_this hK_this (by decide +kernel) rfl 15 (by decide +kernel) (hts _ (tw_c tw_96)) (pq_hv rfl hR_w_4620) dX2_walk_71 ?_
                refine lv_iload_n hx hb dX2_walk_74 rfl (lv_at hl 1 rfl) ?_
                refine pl_i hx hb hK hP hL_w_4620 hK_w_4620 hN_w_4620 (rg_in h_4612 (by decide +kernel)) dX2_walk_75 ?_
                refine lv_topi (fun x_4621 ex_4621 => ?_)
                replace hF := hF.trans (ap_n (vR_r hO_w_4620 (by decide +kernel) ex_4621))
                have h_4622 : rg x_4621 (-1) 39 := rg_of_eq ex_4621 (GX.rR hG hT_w_4620 rfl)
                refine lv_iconst (v := (-1)) hx hb dX2_walk_76 (by decide +kernel) ?_
                have K_4638 : ∀  (I_4634 : Nat → Nat → Int32) (ri_4635 : Nat → Nat → Int32) (H : Heap) (locs : List Loc) (ls : Array Slot), F = g_X2_walk_K118 x_4568 (g_X2_walk_L47 (vJ 10 σ M J) (vL 10 σ M rj) (vQ 10 σ M rq) n_4602) (vI 10 σ M I_4634) (vR 10 σ M ri_4635) → FR 10 tg σ M (I, J, ri, rj, rq) (I_4634, J, ri_4635, rj, rq) → GX [1073] tg σ I ri rj I_4634 ri_4635 rj rq → va_P D vwCl (pq_P t σ (I_4634, J, ri_4635, rj, rq)) H → va_D A (pq_P t σ (I_4634, J, ri_4635, rj, rq)) → va_S A s.heap H locs → lv_has ls 3 [(0, .ref this), (2, .int x_4568)] → W p l e ({ frames := 1, cells := 0, slots := 0, locals := 40 } : Room) s m (List.toArray ([.ref this, .int a0] : List Value)) below meth c H locs 0 0 Q (F0 m 118 ls []) := by
                  intro I_4634 ri_4635 H locs ls hF hFr hG hP hD hS hl
                  replace hF := hF.trans g_X2_walk_K118_e
                  obtain ⟨x_4639, ex_4639⟩ : ∃ y : Int32, y = x_4568 + Int32.ofInt 1 := ⟨_, rfl⟩
                  replace hF := hF.trans (ap_n ex_4639)
                  have h_4640 : rg x_4639 1 40 := rg_of_eq ex_4639 (rg_add h_4612 (rg_k (Int32.ofInt 1) 1 rfl) (by decide +kernel))
                  refine lv_iinc (v := x_4639) (lv' := [(2, .int x_4639), (0, .ref this)]) hx hb dX2_walk_118 hl (k := 1) rfl ex_4639.symm (by decide +kernel) rfl (fun ls hl => ?_)
                  refine lv_goto (tgt := 47) hx hb dX2_walk_121 (by decide +kernel) ?_
                  exact ih_4604 x_4639 I_4634 ri_4635 _ _ _ (rg_w h_4640 (by decide +kernel)) (ms_up 1 hm_4601 ex_4639 rfl (by decide +kernel) h_4612 (by decide +kernel) (by decide +kernel)) hF hFr hG hP hD hS (lv_sub hl [1, 0] rfl)
                refine lv_icmp_ne (tgt := 98) hx hb dX2_walk_77 (by decide +kernel) (fun c_4641 => ?_) (fun c_4641 => ?_)
                · replace hF := hF.trans (if_neg c_4641)
                  have h_4644 : rg x_4621 0 39 := rg_ne c_4641 h_4622 (-1) rfl (by decide +kernel)
                  refine lv_aload_n hx hb dX2_walk_98 rfl (lv_at hl 0 rfl) ?_
                  refine pg_f (v := .ref w_4614) (C := RX2) (T := TX2) (N := 20) hx hb hts (tw_i inlX2) hown hK hP hL_this hK_this (by decide +kernel) rfl 9 (by decide +kernel) (hts _ (tw_c tw_87)) (pq_hv rfl hR_w_4614) dX2_walk_99 ?_
                  refine lv_aload_n hx hb dX2_walk_102 rfl (lv_at hl 0 rfl) ?_
                  refine pg_f (v := .ref w_4620) (C := RX2) (T := TX2) (N := 20) hx hb hts (tw_i inlX2) hown hK hP hL_this hK_this (by decide +kernel) rfl 15 (by decide +kernel) (hts _ (tw_c tw_96)) (pq_hv rfl hR_w_4620) dX2_walk_103 ?_
                  refine lv_iload_n hx hb dX2_walk_106 rfl (lv_at hl 1 rfl) ?_
                  refine pl_i hx hb hK hP hL_w_4620 hK_w_4620 hN_w_4620 (rg_in h_4612 (by decide +kernel)) dX2_walk_107 ?_
                  refine lv_tov x_4621 ex_4621.symm ?_
                  refine lv_dup2_11 hx hb dX2_walk_108 rfl rfl ?_
                  refine pl_i hx hb hK hP hL_w_4614 hK_w_4614 hN_w_4614 (rg_in h_4644 (by decide +kernel)) dX2_walk_109 ?_
                  refine lv_topi (fun x_4645 ex_4645 => ?_)
                  replace hF := hF.trans (ap_n (vR_r hO_w_4614 (by decide +kernel) ex_4645))
                  refine lv_aload_n hx hb dX2_walk_110 rfl (lv_at hl 0 rfl) ?_
                  refine pg_f (v := .ref w_4616) (C := RX2) (T := TX2) (N := 20) hx hb hts (tw_i inlX2) hown hK hP hL_this hK_this (by decide +kernel) rfl 17 (by decide +kernel) (hts _ (tw_c tw_98)) (pq_hv rfl hR_w_4616) dX2_walk_111 ?_
                  refine lv_iload_n hx hb dX2_walk_114 rfl (lv_at hl 1 rfl) ?_
                  refine pl_i hx hb hK hP hL_w_4616 hK_w_4616 hN_w_4616 (rg_in h_4612 (by decide +kernel)) dX2_walk_115 ?_
                  refine lv_topi (fun x_4646 ex_4646 => ?_)
                  replace hF := hF.trans (ap_n (vR_r hO_w_4616 (by decide +kernel) ex_4646))
                  refine lv_iadd hx hb dX2_walk_116 ?_
                  refine lv_topi (fun x_4647 ex_4647 => ?_)
                  replace hF := hF.trans (ap_n ex_4647)
                  refine pt_i hx hb hK hP hD hS hL_w_4614 hK_w_4614 hN_w_4614 (rg_in h_4644 (by decide +kernel)) dX2_walk_117 (fun r_4648 H locs er_4648 hP hD hS => ?_)
                  replace hFr := fr_R hFr hO_w_4614 (by decide +kernel) er_4648
                  replace hF := hF.trans (ap_n (vR_st hVT hO_w_4614 (by decide +kernel) er_4648))
                  have hG := GX.wR hG hSH hT_w_4614 rfl er_4648 (rg_w (rg_full _) (by decide +kernel)) (by decide +kernel)
                  exact K_4638 I_4569 r_4648 _ _ _ hF hFr hG hP hD hS (lv_sub hl [0, 1] rfl)
                · replace hF := hF.trans (if_pos c_4641)
                  have h_4649 : rg x_4621 (-1) (-1) := rg_and h_4622 (rg_of_eq c_4641 (rg_k (-1 : Int32) (-1) rfl)) (by decide +kernel)
                  refine lv_aload_n hx hb dX2_walk_80 rfl (lv_at hl 0 rfl) ?_
                  refine lv_dup hx hb dX2_walk_81 rfl ?_
                  refine pg_f (v := .int (I_4569 66 this)) (C := RX2) (T := TX2) (N := 20) hx hb hts (tw_i inlX2) hown hK hP hL_this hK_this (by decide +kernel) rfl 2 (by decide +kernel) (hts _ (tw_c tw_1069)) rfl dX2_walk_82 ?_
                  replace hF := hF.trans (ap_n (vI_e (f := 66) hO_this (by decide +kernel)))
                  refine lv_aload_n hx hb dX2_walk_85 rfl (lv_at hl 0 rfl) ?_
                  refine pg_f (v := .ref w_4616) (C := RX2) (T := TX2) (N := 20) hx hb hts (tw_i inlX2) hown hK hP hL_this hK_this (by decide +kernel) rfl 17 (by decide +kernel) (hts _ (tw_c tw_98)) (pq_hv rfl hR_w_4616) dX2_walk_86 ?_
                  refine lv_iload_n hx hb dX2_walk_89 rfl (lv_at hl 1 rfl) ?_
                  refine pl_i hx hb hK hP hL_w_4616 hK_w_4616 hN_w_4616 (rg_in h_4612 (by decide +kernel)) dX2_walk_90 ?_
                  refine lv_topi (fun x_4651 ex_4651 => ?_)
                  replace hF := hF.trans (ap_n (vR_r hO_w_4616 (by decide +kernel) ex_4651))
                  refine lv_iadd hx hb dX2_walk_91 ?_
                  refine lv_topi (fun x_4652 ex_4652 => ?_)
                  replace hF := hF.trans (ap_n ex_4652)
                  refine pp_i (v := x_4652) (ty := .int) (C := RX2) (T := TX2) (N := 20) hx hb hts (tw_i inlX2) tyX2 tyX2_ok nmX2 hown hK hP hD hS hL_this hK_this (by decide +kernel) rfl 2 66 (by decide +kernel) (hts _ (tw_c tw_1069)) rfl (tyX2_ok 2 (by decide +kernel)) rfl rfl (Nat.le_of_ble_eq_true rfl) (ps_66 _ _ _ _ _) dX2_walk_92 (fun I_4653 H locs eI_4653 hP hD hS => ?_)
                  replace hFr := fr_I (f := 66) hFr hO_this (by decide +kernel) eI_4653
                  replace hF := hF.trans (ap_n (vI_st (f := 66) hO_this (by decide +kernel) eI_4653))
                  have hG := GX.wI hG 66 rfl eI_4653 (rg_w (rg_full _) (by decide +kernel)) (by decide +kernel)
                  refine lv_goto (tgt := 118) hx hb dX2_walk_95 (by decide +kernel) ?_
                  exact K_4638 I_4653 r_4619 _ _ _ hF hFr hG hP hD hS (lv_sub hl [0, 1] rfl)
          exact L_4603 _ (0 : Int32) I ri_3691 _ _ _ (rg_w (rg_k (0 : Int32) 0 rfl) (by decide +kernel)) (Nat.lt_succ_self _) hF hFr hG hP hD hS (lv_sub hl [1, 0] rfl)
        · replace hF := hF.trans (if_neg c_4174)
          have h_4654 : rg x_3690 0 39 := rg_lt1 (nle c_4174) h_4171 h_4172 (by decide +kernel)
          have h_4655 : rg (I 65 this) 1 40 := rg_lt2 (nle c_4174) h_4171 h_4172 (by decide +kernel)
          refine lv_aload_n hx hb dX2_walk_10 rfl (lv_at hl 0 rfl) ?_
          obtain ⟨w_4656, hR_w_4656, hL_w_4656, hK_w_4656, hN_w_4656, hT_w_4656⟩ := sh_a hSH 81 (ci := 2) (kd := 13) (len := 40) rfl (by decide +kernel) hL_this hK_this
          have hO_w_4656 : w_4656 = vrow σ 81 M := vo_k (c := 2) hO_this hR_w_4656
          refine pg_f (v := .ref w_4656) (C := RX2) (T := TX2) (N := 20) hx hb hts (tw_i inlX2) hown hK hP hL_this hK_this (by decide +kernel) rfl 17 (by decide +kernel) (hts _ (tw_c tw_98)) (pq_hv rfl hR_w_4656) dX2_walk_11 ?_
          refine lv_iload_n hx hb dX2_walk_14 rfl (lv_at hl 2 rfl) ?_
          refine lv_aload_n hx hb dX2_walk_15 rfl (lv_at hl 0 rfl) ?_
          obtain ⟨w_4657, hR_w_4657, hL_w_4657, hK_w_4657, hN_w_4657, hT_w_4657⟩ := sh_a hSH 75 (ci := 2) (kd := 13) (len := 40) rfl (by decide +kernel) hL_this hK_this
          have hO_w_4657 : w_4657 = vrow σ 75 M := vo_k (c := 2) hO_this hR_w_4657
          refine pg_f (v := .ref w_4657) (C := RX2) (T := TX2) (N := 20) hx hb hts (tw_i inlX2) hown hK hP hL_this hK_this (by decide +kernel) rfl 11 (by decide +kernel) (hts _ (tw_c tw_89)) (pq_hv rfl hR_w_4657) dX2_walk_16 ?_
          refine lv_iload_n hx hb dX2_walk_19 rfl (lv_at hl 2 rfl) ?_
          refine pl_i hx hb hK hP hL_w_4657 hK_w_4657 hN_w_4657 (rg_in h_4654 (by decide +kernel)) dX2_walk_20 ?_
          refine lv_topi (fun x_4658 ex_4658 => ?_)
          replace hF := hF.trans (ap_n (vR_r hO_w_4657 (by decide +kernel) ex_4658))
          have K_4668 : ∀  (x_4664 : Int32) (H : Heap) (locs : List Loc) (ls : Array Slot), F = g_X2_walk_K38 x_3690 (vR 10 σ M ri_3691) (g_X2_walk_L2 a0 (vI 10 σ M I) (vJ 10 σ M J) (vL 10 σ M rj) (vQ 10 σ M rq) n_4167) x_4664 → FR 10 tg σ M (I, J, ri, rj, rq) (I, J, ri_3691, rj, rq) → GX [1073] tg σ I ri rj I ri_3691 rj rq → va_P D vwCl (pq_P t σ (I, J, ri_3691, rj, rq)) H → va_D A (pq_P t σ (I, J, ri_3691, rj, rq)) → va_S A s.heap H locs → lv_has ls 3 [(0, .ref this), (1, .int a0), (2, .int x_3690)] → W p l e ({ frames := 1, cells := 0, slots := 0, locals := 40 } : Room) s m (List.toArray ([.ref this, .int a0] : List Value)) below meth c H locs 0 0 Q (F0 m 38 ls [.int x_4664, .int x_3690, .ref w_4656]) := by
            intro x_4664 H locs ls hF hFr hG hP hD hS hl
            replace hF := hF.trans g_X2_walk_K38_e
            refine pt_i hx hb hK hP hD hS hL_w_4656 hK_w_4656 hN_w_4656 (rg_in h_4654 (by decide +kernel)) dX2_walk_38 (fun r_4669 H locs er_4669 hP hD hS => ?_)
            replace hFr := fr_R hFr hO_w_4656 (by decide +kernel) er_4669
            replace hF := hF.trans (ap_n (vR_st hVT hO_w_4656 (by decide +kernel) er_4669))
            have hG := GX.wR hG hSH hT_w_4656 rfl er_4669 (rg_w (rg_full _) (by decide +kernel)) (by decide +kernel)
            obtain ⟨x_4670, ex_4670⟩ : ∃ y : Int32, y = x_3690 + Int32.ofInt 1 := ⟨_, rfl⟩
            replace hF := hF.trans (ap_n ex_4670)
            have h_4671 : rg x_4670 1 40 := rg_of_eq ex_4670 (rg_add h_4654 (rg_k (Int32.ofInt 1) 1 rfl) (by decide +kernel))
            refine lv_iinc (v := x_4670) (lv' := [(2, .int x_4670), (0, .ref this), (1, .int a0)]) hx hb dX2_walk_39 hl (k := 2) rfl ex_4670.symm (by decide +kernel) rfl (fun ls hl => ?_)
            refine lv_goto (tgt := 2) hx hb dX2_walk_42 (by decide +kernel) ?_
            exact ih_4169 x_4670 r_4669 _ _ _ (rg_w h_4671 (by decide +kernel)) (ms_up 1 hm_4166 ex_4670 rfl (by decide +kernel) h_4654 (by decide +kernel) (by decide +kernel)) hF hFr hG hP hD hS (lv_sub hl [1, 2, 0] rfl)
          refine lv_if_ne (tgt := 37) hx hb dX2_walk_21 (by decide +kernel) (fun c_4672 => ?_) (fun c_4672 => ?_)
          · replace hF := hF.trans (if_neg c_4672)
            refine lv_iconst (v := 0) hx hb dX2_walk_37 (by decide +kernel) ?_
            exact K_4668 (0 : Int32) _ _ _ hF hFr hG hP hD hS (lv_sub hl [0, 1, 2] rfl)
          · replace hF := hF.trans (if_pos c_4672)
            have h_4674 : rg x_4658 0 0 := rg_and (rg_full _) (rg_of_eq c_4672 (rg_k (0 : Int32) 0 rfl)) (by decide +kernel)
            refine lv_aload_n hx hb dX2_walk_24 rfl (lv_at hl 0 rfl) ?_
            obtain ⟨w_4675, hR_w_4675, hL_w_4675, hK_w_4675, hN_w_4675, hT_w_4675⟩ := sh_a hSH 73 (ci := 2) (kd := 13) (len := 40) rfl (by decide +kernel) hL_this hK_this
            have hO_w_4675 : w_4675 = vrow σ 73 M := vo_k (c := 2) hO_this hR_w_4675
            refine pg_f (v := .ref w_4675) (C := RX2) (T := TX2) (N := 20) hx hb hts (tw_i inlX2) hown hK hP hL_this hK_this (by decide +kernel) rfl 9 (by decide +kernel) (hts _ (tw_c tw_87)) (pq_hv rfl hR_w_4675) dX2_walk_25 ?_
            refine lv_iload_n hx hb dX2_walk_28 rfl (lv_at hl 2 rfl) ?_
            refine pl_i hx hb hK hP hL_w_4675 hK_w_4675 hN_w_4675 (rg_in h_4654 (by decide +kernel)) dX2_walk_29 ?_
            refine lv_topi (fun x_4676 ex_4676 => ?_)
            replace hF := hF.trans (ap_n (vR_r hO_w_4675 (by decide +kernel) ex_4676))
            refine lv_iload_n hx hb dX2_walk_30 rfl (lv_at hl 1 rfl) ?_
            refine va_mmin hx hb (hml.trans hl.1.symm) hown (hts _ (tw_c tw_1063)) (hts _ (tw_c tw_467)) (hts _ (tw_c tw_276)) (hts _ (tw_c tw_468)) (Nat.le_of_ble_eq_true rfl) (Nat.le_of_ble_eq_true rfl) (Nat.zero_le _) (Nat.zero_le _) dX2_walk_31 ?_
            refine lv_topi (fun x_4677 ex_4677 => ?_)
            replace hF := hF.trans (ap_n ex_4677)
            refine lv_goto (tgt := 38) hx hb dX2_walk_34 (by decide +kernel) ?_
            exact K_4668 x_4677 _ _ _ hF hFr hG hP hD hS (lv_sub hl [0, 1, 2] rfl)
    exact L_4168 _ (0 : Int32) ri _ _ _ (rg_w (rg_k (0 : Int32) 0 rfl) (by decide +kernel)) (Nat.lt_succ_self _) hF hFr hG hP hD hS (lv_sub hl [1, 2, 0] rfl)
  exact go _ _ _ hP hD hS hl
theorem dX2_tide_0 : decode cX2_tide 0 = .ok (.aload_n 0, 1) := oc_42 (by decide +kernel)
theorem dX2_tide_1 : decode cX2_tide 1 = .ok (.lconst 0, 1) := oc_9 (by decide +kernel)
theorem dX2_tide_2 : decode cX2_tide 2 = .ok (.putfield 79, 3) := oc_181 (a := 0) (b := 79) (by decide +kernel)
theorem dX2_tide_5 : decode cX2_tide 5 = .ok (.lconst 0, 1) := oc_9 (by decide +kernel)
theorem dX2_tide_6 : decode cX2_tide 6 = .ok (.lstore 4, 2) := oc_55 (by decide +kernel)
theorem dX2_tide_8 : decode cX2_tide 8 = .ok (.iconst 0, 1) := oc_3 (by decide +kernel)
theorem dX2_tide_9 : decode cX2_tide 9 = .ok (.istore 6, 2) := oc_54 (by decide +kernel)
theorem dX2_tide_11 : decode cX2_tide 11 = .ok (.iload 6, 2) := oc_21 (by decide +kernel)
theorem dX2_tide_13 : decode cX2_tide 13 = .ok (.aload_n 0, 1) := oc_42 (by decide +kernel)
theorem dX2_tide_14 : decode cX2_tide 14 = .ok (.getfield 73, 3) := oc_180 (a := 0) (b := 73) (by decide +kernel)
theorem dX2_tide_17 : decode cX2_tide 17 = .ok (.if_icmp .ge 73, 3) := oc_162 (a := 0) (b := 73) (by decide +kernel)
theorem dX2_tide_90 : decode cX2_tide 90 = .ok (.iload_n 1, 1) := oc_27 (by decide +kernel)
theorem dX2_tide_91 : decode cX2_tide 91 = .ok (.ifCond .lt 18, 3) := oc_155 (a := 0) (b := 18) (by decide +kernel)
theorem dX2_tide_109 : decode cX2_tide 109 = .ok (.return_, 1) := oc_177 (by decide +kernel)
theorem dX2_tide_94 : decode cX2_tide 94 = .ok (.iload_n 1, 1) := oc_27 (by decide +kernel)
theorem dX2_tide_95 : decode cX2_tide 95 = .ok (.sipush 600, 3) := oc_17 (a := 2) (b := 88) (by decide +kernel)
theorem dX2_tide_98 : decode cX2_tide 98 = .ok (.if_icmp .ge 11, 3) := oc_162 (a := 0) (b := 11) (by decide +kernel)
theorem dX2_tide_101 : decode cX2_tide 101 = .ok (.aload_n 0, 1) := oc_42 (by decide +kernel)
theorem dX2_tide_102 : decode cX2_tide 102 = .ok (.getfield 9, 3) := oc_180 (a := 0) (b := 9) (by decide +kernel)
theorem dX2_tide_105 : decode cX2_tide 105 = .ok (.iload_n 1, 1) := oc_27 (by decide +kernel)
theorem dX2_tide_106 : decode cX2_tide 106 = .ok (.lload 4, 2) := oc_22 (by decide +kernel)
theorem dX2_tide_108 : decode cX2_tide 108 = .ok (.lastore, 1) := oc_80 (by decide +kernel)
theorem dX2_tide_20 : decode cX2_tide 20 = .ok (.aload_n 0, 1) := oc_42 (by decide +kernel)
theorem dX2_tide_21 : decode cX2_tide 21 = .ok (.iload 6, 2) := oc_21 (by decide +kernel)
theorem tw_1074 : Cond.methodLink RX2 114 yX2_topOf ∈ wsL_law := sg_45 _ (List.mem_of_getElem? (i := 18) rfl)
theorem tw_1075 : Cond.instanceMethod yX2_topOf ∈ wsL_law := sg_45 _ (List.mem_of_getElem? (i := 19) rfl)
theorem tw_1076 : Cond.selects RX2 yX2_topOf yX2_topOf ∈ wsL_law := sg_45 _ (List.mem_of_getElem? (i := 20) rfl)
theorem tw_1077 : Cond.code yX2_topOf cX2_topOf 2 (some .int) ∈ wsL_law := sg_45 _ (List.mem_of_getElem? (i := 21) rfl)
theorem dX2_tide_23 : decode cX2_tide 23 = .ok (.invokevirtual 114, 3) := oc_182 (a := 0) (b := 114) (by decide +kernel)
theorem dX2_tide_26 : decode cX2_tide 26 = .ok (.istore 7, 2) := oc_54 (by decide +kernel)
theorem dX2_tide_28 : decode cX2_tide 28 = .ok (.iload 7, 2) := oc_21 (by decide +kernel)
theorem dX2_tide_30 : decode cX2_tide 30 = .ok (.iload_n 3, 1) := oc_29 (by decide +kernel)
theorem dX2_tide_43 : decode cX2_tide 43 = .ok (.iload 7, 2) := oc_21 (by decide +kernel)
theorem dX2_tide_45 : decode cX2_tide 45 = .ok (.iload_n 2, 1) := oc_28 (by decide +kernel)
theorem dX2_tide_84 : decode cX2_tide 84 = .ok (.iinc 6 1, 3) := oc_132 (b := 1) (by decide +kernel)
theorem dX2_tide_87 : decode cX2_tide 87 = .ok (.goto (-76), 3) := oc_167 (a := 255) (b := 180) (by decide +kernel)
theorem dX2_tide_46 : decode cX2_tide 46 = .ok (.if_icmp .le 27, 3) := oc_164 (a := 0) (b := 27) (by decide +kernel)
theorem dX2_tide_73 : decode cX2_tide 73 = .ok (.aload_n 0, 1) := oc_42 (by decide +kernel)
theorem dX2_tide_74 : decode cX2_tide 74 = .ok (.getfield 40, 3) := oc_180 (a := 0) (b := 40) (by decide +kernel)
theorem dX2_tide_77 : decode cX2_tide 77 = .ok (.iload 6, 2) := oc_21 (by decide +kernel)
theorem dX2_tide_79 : decode cX2_tide 79 = .ok (.dup2, 1) := oc_92 (by decide +kernel)
theorem dX2_tide_80 : decode cX2_tide 80 = .ok (.iaload, 1) := oc_46 (by decide +kernel)
theorem dX2_tide_81 : decode cX2_tide 81 = .ok (.iconst 1, 1) := oc_4 (by decide +kernel)
theorem dX2_tide_82 : decode cX2_tide 82 = .ok (.iadd, 1) := oc_96 (by decide +kernel)
theorem dX2_tide_83 : decode cX2_tide 83 = .ok (.iastore, 1) := oc_79 (by decide +kernel)
theorem dX2_tide_49 : decode cX2_tide 49 = .ok (.aload_n 0, 1) := oc_42 (by decide +kernel)
theorem dX2_tide_50 : decode cX2_tide 50 = .ok (.dup, 1) := oc_89 (by decide +kernel)
theorem dX2_tide_51 : decode cX2_tide 51 = .ok (.getfield 79, 3) := oc_180 (a := 0) (b := 79) (by decide +kernel)
theorem dX2_tide_54 : decode cX2_tide 54 = .ok (.lconst 1, 1) := oc_10 (by decide +kernel)
theorem dX2_tide_55 : decode cX2_tide 55 = .ok (.iload 6, 2) := oc_21 (by decide +kernel)
theorem dX2_tide_57 : decode cX2_tide 57 = .ok (.lshl, 1) := oc_121 (by decide +kernel)
theorem dX2_tide_58 : decode cX2_tide 58 = .ok (.lor, 1) := oc_129 (by decide +kernel)
theorem dX2_tide_59 : decode cX2_tide 59 = .ok (.putfield 79, 3) := oc_181 (a := 0) (b := 79) (by decide +kernel)
theorem dX2_tide_62 : decode cX2_tide 62 = .ok (.aload_n 0, 1) := oc_42 (by decide +kernel)
theorem dX2_tide_63 : decode cX2_tide 63 = .ok (.getfield 40, 3) := oc_180 (a := 0) (b := 40) (by decide +kernel)
theorem dX2_tide_66 : decode cX2_tide 66 = .ok (.iload 6, 2) := oc_21 (by decide +kernel)
theorem dX2_tide_68 : decode cX2_tide 68 = .ok (.iconst 0, 1) := oc_3 (by decide +kernel)
theorem dX2_tide_69 : decode cX2_tide 69 = .ok (.iastore, 1) := oc_79 (by decide +kernel)
theorem dX2_tide_70 : decode cX2_tide 70 = .ok (.goto 14, 3) := oc_167 (a := 0) (b := 14) (by decide +kernel)
theorem dX2_tide_31 : decode cX2_tide 31 = .ok (.if_icmp .le 12, 3) := oc_164 (a := 0) (b := 12) (by decide +kernel)
theorem dX2_tide_34 : decode cX2_tide 34 = .ok (.lload 4, 2) := oc_22 (by decide +kernel)
theorem dX2_tide_36 : decode cX2_tide 36 = .ok (.lconst 1, 1) := oc_10 (by decide +kernel)
theorem dX2_tide_37 : decode cX2_tide 37 = .ok (.iload 6, 2) := oc_21 (by decide +kernel)
theorem dX2_tide_39 : decode cX2_tide 39 = .ok (.lshl, 1) := oc_121 (by decide +kernel)
theorem dX2_tide_40 : decode cX2_tide 40 = .ok (.lor, 1) := oc_129 (by decide +kernel)
theorem dX2_tide_41 : decode cX2_tide 41 = .ok (.lstore 4, 2) := oc_55 (by decide +kernel)
theorem dX2_giveUpBeds_0 : decode cX2_giveUpBeds 0 = .ok (.iconst 0, 1) := oc_3 (by decide +kernel)
theorem dX2_giveUpBeds_1 : decode cX2_giveUpBeds 1 = .ok (.istore_n 1, 1) := oc_60 (by decide +kernel)
theorem dX2_giveUpBeds_2 : decode cX2_giveUpBeds 2 = .ok (.iload_n 1, 1) := oc_27 (by decide +kernel)
theorem dX2_giveUpBeds_3 : decode cX2_giveUpBeds 3 = .ok (.aload_n 0, 1) := oc_42 (by decide +kernel)
theorem dX2_giveUpBeds_4 : decode cX2_giveUpBeds 4 = .ok (.getfield 73, 3) := oc_180 (a := 0) (b := 73) (by decide +kernel)
theorem dX2_giveUpBeds_7 : decode cX2_giveUpBeds 7 = .ok (.if_icmp .ge 24, 3) := oc_162 (a := 0) (b := 24) (by decide +kernel)
theorem dX2_giveUpBeds_31 : decode cX2_giveUpBeds 31 = .ok (.return_, 1) := oc_177 (by decide +kernel)
theorem dX2_giveUpBeds_10 : decode cX2_giveUpBeds 10 = .ok (.aload_n 0, 1) := oc_42 (by decide +kernel)
theorem dX2_giveUpBeds_11 : decode cX2_giveUpBeds 11 = .ok (.iload_n 1, 1) := oc_27 (by decide +kernel)
theorem tw_1082 : Cond.methodLink RX2 118 yX2_isDry ∈ wsL_law := sg_46 _ (List.mem_of_getElem? (i := 2) rfl)
theorem tw_555 : Cond.instanceMethod yX2_isDry ∈ wsL_law := sg_24 _ (List.mem_of_getElem? (i := 3) rfl)
theorem tw_556 : Cond.selects RX2 yX2_isDry yX2_isDry ∈ wsL_law := sg_24 _ (List.mem_of_getElem? (i := 4) rfl)
theorem tw_557 : Cond.code yX2_isDry cX2_isDry 2 (some .boolean) ∈ wsL_law := sg_24 _ (List.mem_of_getElem? (i := 5) rfl)
theorem dX2_giveUpBeds_12 : decode cX2_giveUpBeds 12 = .ok (.invokevirtual 118, 3) := oc_182 (a := 0) (b := 118) (by decide +kernel)
theorem dX2_giveUpBeds_25 : decode cX2_giveUpBeds 25 = .ok (.iinc 1 1, 3) := oc_132 (b := 1) (by decide +kernel)
theorem dX2_giveUpBeds_28 : decode cX2_giveUpBeds 28 = .ok (.goto (-26), 3) := oc_167 (a := 255) (b := 230) (by decide +kernel)
theorem dX2_giveUpBeds_15 : decode cX2_giveUpBeds 15 = .ok (.ifCond .ne 10, 3) := oc_154 (a := 0) (b := 10) (by decide +kernel)
theorem dX2_giveUpBeds_18 : decode cX2_giveUpBeds 18 = .ok (.aload_n 0, 1) := oc_42 (by decide +kernel)
theorem dX2_giveUpBeds_19 : decode cX2_giveUpBeds 19 = .ok (.getfield 37, 3) := oc_180 (a := 0) (b := 37) (by decide +kernel)
theorem dX2_giveUpBeds_22 : decode cX2_giveUpBeds 22 = .ok (.iload_n 1, 1) := oc_27 (by decide +kernel)
theorem dX2_giveUpBeds_23 : decode cX2_giveUpBeds 23 = .ok (.iconst 0, 1) := oc_3 (by decide +kernel)
theorem dX2_giveUpBeds_24 : decode cX2_giveUpBeds 24 = .ok (.iastore, 1) := oc_79 (by decide +kernel)
theorem dX2_countWalls_0 : decode cX2_countWalls 0 = .ok (.iconst 0, 1) := oc_3 (by decide +kernel)
theorem dX2_countWalls_1 : decode cX2_countWalls 1 = .ok (.istore_n 1, 1) := oc_60 (by decide +kernel)
theorem dX2_countWalls_2 : decode cX2_countWalls 2 = .ok (.iconst 0, 1) := oc_3 (by decide +kernel)
theorem dX2_countWalls_3 : decode cX2_countWalls 3 = .ok (.istore_n 2, 1) := oc_61 (by decide +kernel)
theorem dX2_countWalls_4 : decode cX2_countWalls 4 = .ok (.iload_n 2, 1) := oc_28 (by decide +kernel)
theorem dX2_countWalls_5 : decode cX2_countWalls 5 = .ok (.aload_n 0, 1) := oc_42 (by decide +kernel)
theorem dX2_countWalls_6 : decode cX2_countWalls 6 = .ok (.getfield 73, 3) := oc_180 (a := 0) (b := 73) (by decide +kernel)
theorem dX2_countWalls_9 : decode cX2_countWalls 9 = .ok (.if_icmp .ge 21, 3) := oc_162 (a := 0) (b := 21) (by decide +kernel)
theorem dX2_countWalls_30 : decode cX2_countWalls 30 = .ok (.iload_n 1, 1) := oc_27 (by decide +kernel)
theorem dX2_countWalls_31 : decode cX2_countWalls 31 = .ok (.ireturn, 1) := oc_172 (by decide +kernel)
theorem dX2_countWalls_12 : decode cX2_countWalls 12 = .ok (.aload_n 0, 1) := oc_42 (by decide +kernel)
theorem dX2_countWalls_13 : decode cX2_countWalls 13 = .ok (.getfield 34, 3) := oc_180 (a := 0) (b := 34) (by decide +kernel)
theorem dX2_countWalls_16 : decode cX2_countWalls 16 = .ok (.iload_n 2, 1) := oc_28 (by decide +kernel)
theorem dX2_countWalls_17 : decode cX2_countWalls 17 = .ok (.iaload, 1) := oc_46 (by decide +kernel)
theorem dX2_countWalls_24 : decode cX2_countWalls 24 = .ok (.iinc 2 1, 3) := oc_132 (b := 1) (by decide +kernel)
theorem dX2_countWalls_27 : decode cX2_countWalls 27 = .ok (.goto (-23), 3) := oc_167 (a := 255) (b := 233) (by decide +kernel)
theorem dX2_countWalls_18 : decode cX2_countWalls 18 = .ok (.ifCond .le 6, 3) := oc_158 (a := 0) (b := 6) (by decide +kernel)
theorem dX2_countWalls_21 : decode cX2_countWalls 21 = .ok (.iinc 1 1, 3) := oc_132 (b := 1) (by decide +kernel)
theorem dX2_measure_0 : decode cX2_measure 0 = .ok (.iload_n 1, 1) := oc_27 (by decide +kernel)
theorem dX2_measure_1 : decode cX2_measure 1 = .ok (.istore_n 2, 1) := oc_61 (by decide +kernel)
theorem dX2_measure_2 : decode cX2_measure 2 = .ok (.iconst 0, 1) := oc_3 (by decide +kernel)
theorem dX2_measure_3 : decode cX2_measure 3 = .ok (.istore_n 3, 1) := oc_62 (by decide +kernel)
theorem dX2_measure_4 : decode cX2_measure 4 = .ok (.iload_n 3, 1) := oc_29 (by decide +kernel)
theorem dX2_measure_5 : decode cX2_measure 5 = .ok (.iload_n 1, 1) := oc_27 (by decide +kernel)
theorem dX2_measure_6 : decode cX2_measure 6 = .ok (.if_icmp .gt 48, 3) := oc_163 (a := 0) (b := 48) (by decide +kernel)
theorem dX2_measure_54 : decode cX2_measure 54 = .ok (.return_, 1) := oc_177 (by decide +kernel)
theorem dX2_measure_9 : decode cX2_measure 9 = .ok (.iload_n 3, 1) := oc_29 (by decide +kernel)
theorem dX2_measure_10 : decode cX2_measure 10 = .ok (.aload_n 0, 1) := oc_42 (by decide +kernel)
theorem tw_100 : Cond.fieldLink RX2 62 "RingsUnder$Land" "widths" "[I" ∈ wsL_law := sg_5 _ (List.mem_of_getElem? (i := 4) rfl)
theorem dX2_measure_11 : decode cX2_measure 11 = .ok (.getfield 62, 3) := oc_180 (a := 0) (b := 62) (by decide +kernel)
theorem dX2_measure_14 : decode cX2_measure 14 = .ok (.arraylength, 1) := oc_190 (by decide +kernel)
theorem dX2_measure_15 : decode cX2_measure 15 = .ok (.if_icmp .ge 39, 3) := oc_162 (a := 0) (b := 39) (by decide +kernel)
theorem dX2_measure_18 : decode cX2_measure 18 = .ok (.iload_n 2, 1) := oc_28 (by decide +kernel)
theorem dX2_measure_41 : decode cX2_measure 41 = .ok (.aload_n 0, 1) := oc_42 (by decide +kernel)
theorem dX2_measure_42 : decode cX2_measure 42 = .ok (.getfield 62, 3) := oc_180 (a := 0) (b := 62) (by decide +kernel)
theorem dX2_measure_45 : decode cX2_measure 45 = .ok (.iload_n 3, 1) := oc_29 (by decide +kernel)
theorem dX2_measure_46 : decode cX2_measure 46 = .ok (.iload_n 2, 1) := oc_28 (by decide +kernel)
theorem dX2_measure_47 : decode cX2_measure 47 = .ok (.iastore, 1) := oc_79 (by decide +kernel)
theorem dX2_measure_48 : decode cX2_measure 48 = .ok (.iinc 3 1, 3) := oc_132 (b := 1) (by decide +kernel)
theorem dX2_measure_51 : decode cX2_measure 51 = .ok (.goto (-47), 3) := oc_167 (a := 255) (b := 209) (by decide +kernel)
theorem dX2_measure_19 : decode cX2_measure 19 = .ok (.ifCond .le 22, 3) := oc_158 (a := 0) (b := 22) (by decide +kernel)
theorem dX2_measure_22 : decode cX2_measure 22 = .ok (.iload_n 2, 1) := oc_28 (by decide +kernel)
theorem dX2_measure_23 : decode cX2_measure 23 = .ok (.iload_n 2, 1) := oc_28 (by decide +kernel)
theorem dX2_measure_24 : decode cX2_measure 24 = .ok (.imul, 1) := oc_104 (by decide +kernel)
theorem dX2_measure_25 : decode cX2_measure 25 = .ok (.iload_n 3, 1) := oc_29 (by decide +kernel)
theorem dX2_measure_26 : decode cX2_measure 26 = .ok (.iload_n 3, 1) := oc_29 (by decide +kernel)
theorem dX2_measure_27 : decode cX2_measure 27 = .ok (.imul, 1) := oc_104 (by decide +kernel)
theorem dX2_measure_28 : decode cX2_measure 28 = .ok (.iadd, 1) := oc_96 (by decide +kernel)
theorem dX2_measure_29 : decode cX2_measure 29 = .ok (.iload_n 1, 1) := oc_27 (by decide +kernel)
theorem dX2_measure_30 : decode cX2_measure 30 = .ok (.iload_n 1, 1) := oc_27 (by decide +kernel)
theorem dX2_measure_31 : decode cX2_measure 31 = .ok (.imul, 1) := oc_104 (by decide +kernel)
theorem dX2_measure_32 : decode cX2_measure 32 = .ok (.if_icmp .le 9, 3) := oc_164 (a := 0) (b := 9) (by decide +kernel)
theorem dX2_measure_35 : decode cX2_measure 35 = .ok (.iinc 2 (-1), 3) := oc_132 (b := 255) (by decide +kernel)
theorem dX2_measure_38 : decode cX2_measure 38 = .ok (.goto (-20), 3) := oc_167 (a := 255) (b := 236) (by decide +kernel)
theorem dJ6_bitCount_0f7a4_0 : decode cJ6_bitCount_0f7a4 0 = .ok (.iload_n 0, 1) := oc_26 (by decide +kernel)
theorem dJ6_bitCount_0f7a4_1 : decode cJ6_bitCount_0f7a4 1 = .ok (.iload_n 0, 1) := oc_26 (by decide +kernel)
theorem dJ6_bitCount_0f7a4_2 : decode cJ6_bitCount_0f7a4 2 = .ok (.iconst 1, 1) := oc_4 (by decide +kernel)
theorem dJ6_bitCount_0f7a4_3 : decode cJ6_bitCount_0f7a4 3 = .ok (.iushr, 1) := oc_124 (by decide +kernel)
theorem tw_1150 : Cond.constant RJ6 265 (1431655765) ∈ wsL_law := sg_48 _ (List.mem_of_getElem? (i := 22) rfl)
theorem dJ6_bitCount_0f7a4_4 : decode cJ6_bitCount_0f7a4 4 = .ok (.ldc_w 265, 3) := oc_19 (a := 1) (b := 9) (by decide +kernel)
theorem dJ6_bitCount_0f7a4_7 : decode cJ6_bitCount_0f7a4 7 = .ok (.iand, 1) := oc_126 (by decide +kernel)
theorem dJ6_bitCount_0f7a4_8 : decode cJ6_bitCount_0f7a4 8 = .ok (.isub, 1) := oc_100 (by decide +kernel)
theorem dJ6_bitCount_0f7a4_9 : decode cJ6_bitCount_0f7a4 9 = .ok (.istore_n 0, 1) := oc_59 (by decide +kernel)
theorem dJ6_bitCount_0f7a4_10 : decode cJ6_bitCount_0f7a4 10 = .ok (.iload_n 0, 1) := oc_26 (by decide +kernel)
theorem tw_1151 : Cond.constant RJ6 266 (858993459) ∈ wsL_law := sg_48 _ (List.mem_of_getElem? (i := 23) rfl)
theorem dJ6_bitCount_0f7a4_11 : decode cJ6_bitCount_0f7a4 11 = .ok (.ldc_w 266, 3) := oc_19 (a := 1) (b := 10) (by decide +kernel)
theorem dJ6_bitCount_0f7a4_14 : decode cJ6_bitCount_0f7a4 14 = .ok (.iand, 1) := oc_126 (by decide +kernel)
theorem dJ6_bitCount_0f7a4_15 : decode cJ6_bitCount_0f7a4 15 = .ok (.iload_n 0, 1) := oc_26 (by decide +kernel)
theorem dJ6_bitCount_0f7a4_16 : decode cJ6_bitCount_0f7a4 16 = .ok (.iconst 2, 1) := oc_5 (by decide +kernel)
theorem dJ6_bitCount_0f7a4_17 : decode cJ6_bitCount_0f7a4 17 = .ok (.iushr, 1) := oc_124 (by decide +kernel)
theorem dJ6_bitCount_0f7a4_18 : decode cJ6_bitCount_0f7a4 18 = .ok (.ldc_w 266, 3) := oc_19 (a := 1) (b := 10) (by decide +kernel)
theorem dJ6_bitCount_0f7a4_21 : decode cJ6_bitCount_0f7a4 21 = .ok (.iand, 1) := oc_126 (by decide +kernel)
theorem dJ6_bitCount_0f7a4_22 : decode cJ6_bitCount_0f7a4 22 = .ok (.iadd, 1) := oc_96 (by decide +kernel)
theorem dJ6_bitCount_0f7a4_23 : decode cJ6_bitCount_0f7a4 23 = .ok (.istore_n 0, 1) := oc_59 (by decide +kernel)
theorem dJ6_bitCount_0f7a4_24 : decode cJ6_bitCount_0f7a4 24 = .ok (.iload_n 0, 1) := oc_26 (by decide +kernel)
theorem dJ6_bitCount_0f7a4_25 : decode cJ6_bitCount_0f7a4 25 = .ok (.iload_n 0, 1) := oc_26 (by decide +kernel)
theorem dJ6_bitCount_0f7a4_26 : decode cJ6_bitCount_0f7a4 26 = .ok (.iconst 4, 1) := oc_7 (by decide +kernel)
theorem dJ6_bitCount_0f7a4_27 : decode cJ6_bitCount_0f7a4 27 = .ok (.iushr, 1) := oc_124 (by decide +kernel)
theorem dJ6_bitCount_0f7a4_28 : decode cJ6_bitCount_0f7a4 28 = .ok (.iadd, 1) := oc_96 (by decide +kernel)
theorem tw_1152 : Cond.constant RJ6 267 (252645135) ∈ wsL_law := sg_49 _ (List.mem_of_getElem? (i := 0) rfl)
theorem dJ6_bitCount_0f7a4_29 : decode cJ6_bitCount_0f7a4 29 = .ok (.ldc_w 267, 3) := oc_19 (a := 1) (b := 11) (by decide +kernel)
theorem dJ6_bitCount_0f7a4_32 : decode cJ6_bitCount_0f7a4 32 = .ok (.iand, 1) := oc_126 (by decide +kernel)
theorem dJ6_bitCount_0f7a4_33 : decode cJ6_bitCount_0f7a4 33 = .ok (.istore_n 0, 1) := oc_59 (by decide +kernel)
theorem dJ6_bitCount_0f7a4_34 : decode cJ6_bitCount_0f7a4 34 = .ok (.iload_n 0, 1) := oc_26 (by decide +kernel)
theorem dJ6_bitCount_0f7a4_35 : decode cJ6_bitCount_0f7a4 35 = .ok (.iload_n 0, 1) := oc_26 (by decide +kernel)
theorem dJ6_bitCount_0f7a4_36 : decode cJ6_bitCount_0f7a4 36 = .ok (.bipush 8, 2) := oc_16 (a := 8) (by decide +kernel)
theorem dJ6_bitCount_0f7a4_38 : decode cJ6_bitCount_0f7a4 38 = .ok (.iushr, 1) := oc_124 (by decide +kernel)
theorem dJ6_bitCount_0f7a4_39 : decode cJ6_bitCount_0f7a4 39 = .ok (.iadd, 1) := oc_96 (by decide +kernel)
theorem dJ6_bitCount_0f7a4_40 : decode cJ6_bitCount_0f7a4 40 = .ok (.istore_n 0, 1) := oc_59 (by decide +kernel)
theorem dJ6_bitCount_0f7a4_41 : decode cJ6_bitCount_0f7a4 41 = .ok (.iload_n 0, 1) := oc_26 (by decide +kernel)
theorem dJ6_bitCount_0f7a4_42 : decode cJ6_bitCount_0f7a4 42 = .ok (.iload_n 0, 1) := oc_26 (by decide +kernel)
theorem dJ6_bitCount_0f7a4_43 : decode cJ6_bitCount_0f7a4 43 = .ok (.bipush 16, 2) := oc_16 (a := 16) (by decide +kernel)
theorem dJ6_bitCount_0f7a4_45 : decode cJ6_bitCount_0f7a4 45 = .ok (.iushr, 1) := oc_124 (by decide +kernel)
theorem dJ6_bitCount_0f7a4_46 : decode cJ6_bitCount_0f7a4 46 = .ok (.iadd, 1) := oc_96 (by decide +kernel)
theorem dJ6_bitCount_0f7a4_47 : decode cJ6_bitCount_0f7a4 47 = .ok (.istore_n 0, 1) := oc_59 (by decide +kernel)
theorem dJ6_bitCount_0f7a4_48 : decode cJ6_bitCount_0f7a4 48 = .ok (.iload_n 0, 1) := oc_26 (by decide +kernel)
theorem dJ6_bitCount_0f7a4_49 : decode cJ6_bitCount_0f7a4 49 = .ok (.bipush 63, 2) := oc_16 (a := 63) (by decide +kernel)
theorem dJ6_bitCount_0f7a4_51 : decode cJ6_bitCount_0f7a4 51 = .ok (.iand, 1) := oc_126 (by decide +kernel)
theorem dJ6_bitCount_0f7a4_52 : decode cJ6_bitCount_0f7a4 52 = .ok (.ireturn, 1) := oc_172 (by decide +kernel)
theorem dX2_mark_0 : decode cX2_mark 0 = .ok (.iconst 0, 1) := oc_3 (by decide +kernel)
theorem dX2_mark_1 : decode cX2_mark 1 = .ok (.iload_n 2, 1) := oc_28 (by decide +kernel)
theorem dX2_mark_2 : decode cX2_mark 2 = .ok (.iload_n 3, 1) := oc_29 (by decide +kernel)
theorem dX2_mark_3 : decode cX2_mark 3 = .ok (.isub, 1) := oc_100 (by decide +kernel)
theorem dX2_mark_4 : decode cX2_mark 4 = .ok (.invokestatic 111, 3) := oc_184 (a := 0) (b := 111) (by decide +kernel)
theorem dX2_mark_7 : decode cX2_mark 7 = .ok (.istore 4, 2) := oc_54 (by decide +kernel)
theorem dX2_mark_9 : decode cX2_mark 9 = .ok (.bipush 31, 2) := oc_16 (a := 31) (by decide +kernel)
theorem dX2_mark_11 : decode cX2_mark 11 = .ok (.iload_n 2, 1) := oc_28 (by decide +kernel)
theorem dX2_mark_12 : decode cX2_mark 12 = .ok (.iload_n 3, 1) := oc_29 (by decide +kernel)
theorem dX2_mark_13 : decode cX2_mark 13 = .ok (.iadd, 1) := oc_96 (by decide +kernel)
theorem dX2_mark_14 : decode cX2_mark 14 = .ok (.invokestatic 105, 3) := oc_184 (a := 0) (b := 105) (by decide +kernel)
theorem dX2_mark_17 : decode cX2_mark 17 = .ok (.istore 5, 2) := oc_54 (by decide +kernel)
theorem dX2_mark_19 : decode cX2_mark 19 = .ok (.iload 4, 2) := oc_21 (by decide +kernel)
theorem dX2_mark_21 : decode cX2_mark 21 = .ok (.istore 6, 2) := oc_54 (by decide +kernel)
theorem dX2_mark_23 : decode cX2_mark 23 = .ok (.iload 6, 2) := oc_21 (by decide +kernel)
theorem dX2_mark_25 : decode cX2_mark 25 = .ok (.iload 5, 2) := oc_21 (by decide +kernel)
theorem dX2_mark_27 : decode cX2_mark 27 = .ok (.if_icmp .gt 81, 3) := oc_163 (a := 0) (b := 81) (by decide +kernel)
theorem dX2_mark_108 : decode cX2_mark 108 = .ok (.return_, 1) := oc_177 (by decide +kernel)
theorem dX2_mark_30 : decode cX2_mark 30 = .ok (.iload 6, 2) := oc_21 (by decide +kernel)
theorem dX2_mark_32 : decode cX2_mark 32 = .ok (.iload_n 2, 1) := oc_28 (by decide +kernel)
theorem dX2_mark_33 : decode cX2_mark 33 = .ok (.isub, 1) := oc_100 (by decide +kernel)
theorem tw_1146 : Cond.methodLink RX2 138 Lib.Math.abs.name ∈ wsL_law := sg_48 _ (List.mem_of_getElem? (i := 18) rfl)
theorem tw_484 : Cond.static Lib.Math.abs.name ∈ wsL_law := sg_21 _ (List.mem_of_getElem? (i := 4) rfl)
theorem tw_485 : Cond.code Lib.Math.abs.name Lib.Math.abs.code 1 (some .int) ∈ wsL_law := sg_21 _ (List.mem_of_getElem? (i := 5) rfl)
theorem dX2_mark_34 : decode cX2_mark 34 = .ok (.invokestatic 138, 3) := oc_184 (a := 0) (b := 138) (by decide +kernel)
theorem dX2_mark_37 : decode cX2_mark 37 = .ok (.istore 7, 2) := oc_54 (by decide +kernel)
theorem dX2_mark_39 : decode cX2_mark 39 = .ok (.iload 7, 2) := oc_21 (by decide +kernel)
theorem dX2_mark_41 : decode cX2_mark 41 = .ok (.aload_n 0, 1) := oc_42 (by decide +kernel)
theorem dX2_mark_42 : decode cX2_mark 42 = .ok (.getfield 62, 3) := oc_180 (a := 0) (b := 62) (by decide +kernel)
theorem dX2_mark_45 : decode cX2_mark 45 = .ok (.arraylength, 1) := oc_190 (by decide +kernel)
theorem dX2_mark_102 : decode cX2_mark 102 = .ok (.iinc 6 1, 3) := oc_132 (b := 1) (by decide +kernel)
theorem dX2_mark_105 : decode cX2_mark 105 = .ok (.goto (-82), 3) := oc_167 (a := 255) (b := 174) (by decide +kernel)
theorem dX2_mark_46 : decode cX2_mark 46 = .ok (.if_icmp .ge 56, 3) := oc_162 (a := 0) (b := 56) (by decide +kernel)
theorem dX2_mark_49 : decode cX2_mark 49 = .ok (.iconst 0, 1) := oc_3 (by decide +kernel)
theorem dX2_mark_50 : decode cX2_mark 50 = .ok (.iload_n 1, 1) := oc_27 (by decide +kernel)
theorem dX2_mark_51 : decode cX2_mark 51 = .ok (.aload_n 0, 1) := oc_42 (by decide +kernel)
theorem dX2_mark_52 : decode cX2_mark 52 = .ok (.getfield 62, 3) := oc_180 (a := 0) (b := 62) (by decide +kernel)
theorem dX2_mark_55 : decode cX2_mark 55 = .ok (.iload 7, 2) := oc_21 (by decide +kernel)
theorem dX2_mark_57 : decode cX2_mark 57 = .ok (.iaload, 1) := oc_46 (by decide +kernel)
theorem dX2_mark_58 : decode cX2_mark 58 = .ok (.isub, 1) := oc_100 (by decide +kernel)
theorem dX2_mark_59 : decode cX2_mark 59 = .ok (.invokestatic 111, 3) := oc_184 (a := 0) (b := 111) (by decide +kernel)
theorem dX2_mark_62 : decode cX2_mark 62 = .ok (.istore 8, 2) := oc_54 (by decide +kernel)
theorem dX2_mark_64 : decode cX2_mark 64 = .ok (.bipush 31, 2) := oc_16 (a := 31) (by decide +kernel)
theorem dX2_mark_66 : decode cX2_mark 66 = .ok (.iload_n 1, 1) := oc_27 (by decide +kernel)
theorem dX2_mark_67 : decode cX2_mark 67 = .ok (.aload_n 0, 1) := oc_42 (by decide +kernel)
theorem dX2_mark_68 : decode cX2_mark 68 = .ok (.getfield 62, 3) := oc_180 (a := 0) (b := 62) (by decide +kernel)
theorem dX2_mark_71 : decode cX2_mark 71 = .ok (.iload 7, 2) := oc_21 (by decide +kernel)
theorem dX2_mark_73 : decode cX2_mark 73 = .ok (.iaload, 1) := oc_46 (by decide +kernel)
theorem dX2_mark_74 : decode cX2_mark 74 = .ok (.iadd, 1) := oc_96 (by decide +kernel)
theorem dX2_mark_75 : decode cX2_mark 75 = .ok (.invokestatic 105, 3) := oc_184 (a := 0) (b := 105) (by decide +kernel)
theorem dX2_mark_78 : decode cX2_mark 78 = .ok (.istore 9, 2) := oc_54 (by decide +kernel)
theorem dX2_mark_80 : decode cX2_mark 80 = .ok (.aload_n 0, 1) := oc_42 (by decide +kernel)
theorem tw_99 : Cond.fieldLink RX2 59 "RingsUnder$Land" "rows" "[I" ∈ wsL_law := sg_5 _ (List.mem_of_getElem? (i := 3) rfl)
theorem dX2_mark_81 : decode cX2_mark 81 = .ok (.getfield 59, 3) := oc_180 (a := 0) (b := 59) (by decide +kernel)
theorem dX2_mark_84 : decode cX2_mark 84 = .ok (.iload 6, 2) := oc_21 (by decide +kernel)
theorem dX2_mark_86 : decode cX2_mark 86 = .ok (.dup2, 1) := oc_92 (by decide +kernel)
theorem dX2_mark_87 : decode cX2_mark 87 = .ok (.iaload, 1) := oc_46 (by decide +kernel)
theorem dX2_mark_88 : decode cX2_mark 88 = .ok (.iconst (-1), 1) := oc_2 (by decide +kernel)
theorem dX2_mark_89 : decode cX2_mark 89 = .ok (.iload 8, 2) := oc_21 (by decide +kernel)
theorem dX2_mark_91 : decode cX2_mark 91 = .ok (.ishl, 1) := oc_120 (by decide +kernel)
theorem dX2_mark_92 : decode cX2_mark 92 = .ok (.iconst (-1), 1) := oc_2 (by decide +kernel)
theorem dX2_mark_93 : decode cX2_mark 93 = .ok (.bipush 31, 2) := oc_16 (a := 31) (by decide +kernel)
theorem dX2_mark_95 : decode cX2_mark 95 = .ok (.iload 9, 2) := oc_21 (by decide +kernel)
theorem dX2_mark_97 : decode cX2_mark 97 = .ok (.isub, 1) := oc_100 (by decide +kernel)
theorem dX2_mark_98 : decode cX2_mark 98 = .ok (.iushr, 1) := oc_124 (by decide +kernel)
theorem dX2_mark_99 : decode cX2_mark 99 = .ok (.iand, 1) := oc_126 (by decide +kernel)
theorem dX2_mark_100 : decode cX2_mark 100 = .ok (.ior, 1) := oc_128 (by decide +kernel)
theorem dX2_mark_101 : decode cX2_mark 101 = .ok (.iastore, 1) := oc_79 (by decide +kernel)
theorem dX2_countArea_0 : decode cX2_countArea 0 = .ok (.aload_n 0, 1) := oc_42 (by decide +kernel)
theorem dX2_countArea_1 : decode cX2_countArea 1 = .ok (.getfield 59, 3) := oc_180 (a := 0) (b := 59) (by decide +kernel)
theorem dX2_countArea_4 : decode cX2_countArea 4 = .ok (.iconst 0, 1) := oc_3 (by decide +kernel)
theorem dX2_countArea_5 : decode cX2_countArea 5 = .ok (.invokestatic 65, 3) := oc_184 (a := 0) (b := 65) (by decide +kernel)
theorem dX2_countArea_8 : decode cX2_countArea 8 = .ok (.aload_n 0, 1) := oc_42 (by decide +kernel)
theorem dX2_countArea_9 : decode cX2_countArea 9 = .ok (.iload_n 3, 1) := oc_29 (by decide +kernel)
theorem tw_1138 : Cond.methodLink RX2 125 yX2_measure ∈ wsL_law := sg_48 _ (List.mem_of_getElem? (i := 10) rfl)
theorem tw_1139 : Cond.instanceMethod yX2_measure ∈ wsL_law := sg_48 _ (List.mem_of_getElem? (i := 11) rfl)
theorem tw_1140 : Cond.selects RX2 yX2_measure yX2_measure ∈ wsL_law := sg_48 _ (List.mem_of_getElem? (i := 12) rfl)
theorem tw_1141 : Cond.code yX2_measure cX2_measure 4 none ∈ wsL_law := sg_48 _ (List.mem_of_getElem? (i := 13) rfl)
theorem dX2_countArea_10 : decode cX2_countArea 10 = .ok (.invokevirtual 125, 3) := oc_182 (a := 0) (b := 125) (by decide +kernel)
theorem dX2_countArea_13 : decode cX2_countArea 13 = .ok (.iconst 0, 1) := oc_3 (by decide +kernel)
theorem dX2_countArea_14 : decode cX2_countArea 14 = .ok (.istore 4, 2) := oc_54 (by decide +kernel)
theorem dX2_countArea_16 : decode cX2_countArea 16 = .ok (.iload 4, 2) := oc_21 (by decide +kernel)
theorem dX2_countArea_18 : decode cX2_countArea 18 = .ok (.aload_n 0, 1) := oc_42 (by decide +kernel)
theorem dX2_countArea_19 : decode cX2_countArea 19 = .ok (.getfield 73, 3) := oc_180 (a := 0) (b := 73) (by decide +kernel)
theorem dX2_countArea_22 : decode cX2_countArea 22 = .ok (.if_icmp .ge 37, 3) := oc_162 (a := 0) (b := 37) (by decide +kernel)
theorem dX2_countArea_59 : decode cX2_countArea 59 = .ok (.iconst 0, 1) := oc_3 (by decide +kernel)
theorem dX2_countArea_60 : decode cX2_countArea 60 = .ok (.istore 4, 2) := oc_54 (by decide +kernel)
theorem dX2_countArea_62 : decode cX2_countArea 62 = .ok (.iconst 0, 1) := oc_3 (by decide +kernel)
theorem dX2_countArea_63 : decode cX2_countArea 63 = .ok (.istore 5, 2) := oc_54 (by decide +kernel)
theorem dX2_countArea_65 : decode cX2_countArea 65 = .ok (.iload 5, 2) := oc_21 (by decide +kernel)
theorem dX2_countArea_67 : decode cX2_countArea 67 = .ok (.bipush 32, 2) := oc_16 (a := 32) (by decide +kernel)
theorem dX2_countArea_69 : decode cX2_countArea 69 = .ok (.if_icmp .ge 24, 3) := oc_162 (a := 0) (b := 24) (by decide +kernel)
theorem dX2_countArea_93 : decode cX2_countArea 93 = .ok (.iload 4, 2) := oc_21 (by decide +kernel)
theorem dX2_countArea_95 : decode cX2_countArea 95 = .ok (.ireturn, 1) := oc_172 (by decide +kernel)
theorem dX2_countArea_72 : decode cX2_countArea 72 = .ok (.iload 4, 2) := oc_21 (by decide +kernel)
theorem dX2_countArea_74 : decode cX2_countArea 74 = .ok (.aload_n 0, 1) := oc_42 (by decide +kernel)
theorem dX2_countArea_75 : decode cX2_countArea 75 = .ok (.getfield 59, 3) := oc_180 (a := 0) (b := 59) (by decide +kernel)
theorem dX2_countArea_78 : decode cX2_countArea 78 = .ok (.iload 5, 2) := oc_21 (by decide +kernel)
theorem dX2_countArea_80 : decode cX2_countArea 80 = .ok (.iaload, 1) := oc_46 (by decide +kernel)
theorem tw_1147 : Cond.methodLink RX2 133 yJ6_bitCount_0f7a4 ∈ wsL_law := sg_48 _ (List.mem_of_getElem? (i := 19) rfl)
theorem tw_1148 : Cond.static yJ6_bitCount_0f7a4 ∈ wsL_law := sg_48 _ (List.mem_of_getElem? (i := 20) rfl)
theorem tw_492 : Cond.initialized RJ6 ∈ wsL_law := sg_21 _ (List.mem_of_getElem? (i := 12) rfl)
theorem tw_1149 : Cond.code yJ6_bitCount_0f7a4 cJ6_bitCount_0f7a4 1 (some .int) ∈ wsL_law := sg_48 _ (List.mem_of_getElem? (i := 21) rfl)
theorem dX2_countArea_81 : decode cX2_countArea 81 = .ok (.invokestatic 133, 3) := oc_184 (a := 0) (b := 133) (by decide +kernel)
theorem dX2_countArea_84 : decode cX2_countArea 84 = .ok (.iadd, 1) := oc_96 (by decide +kernel)
theorem dX2_countArea_85 : decode cX2_countArea 85 = .ok (.istore 4, 2) := oc_54 (by decide +kernel)
theorem dX2_countArea_87 : decode cX2_countArea 87 = .ok (.iinc 5 1, 3) := oc_132 (b := 1) (by decide +kernel)
theorem dX2_countArea_90 : decode cX2_countArea 90 = .ok (.goto (-25), 3) := oc_167 (a := 255) (b := 231) (by decide +kernel)
theorem dX2_countArea_25 : decode cX2_countArea 25 = .ok (.lload_n 1, 1) := oc_31 (by decide +kernel)
theorem dX2_countArea_26 : decode cX2_countArea 26 = .ok (.iload 4, 2) := oc_21 (by decide +kernel)
theorem dX2_countArea_28 : decode cX2_countArea 28 = .ok (.invokestatic 101, 3) := oc_184 (a := 0) (b := 101) (by decide +kernel)
theorem dX2_countArea_53 : decode cX2_countArea 53 = .ok (.iinc 4 1, 3) := oc_132 (b := 1) (by decide +kernel)
theorem dX2_countArea_56 : decode cX2_countArea 56 = .ok (.goto (-40), 3) := oc_167 (a := 255) (b := 216) (by decide +kernel)
theorem dX2_countArea_31 : decode cX2_countArea 31 = .ok (.ifCond .eq 22, 3) := oc_153 (a := 0) (b := 22) (by decide +kernel)
theorem dX2_countArea_34 : decode cX2_countArea 34 = .ok (.aload_n 0, 1) := oc_42 (by decide +kernel)
theorem dX2_countArea_35 : decode cX2_countArea 35 = .ok (.aload_n 0, 1) := oc_42 (by decide +kernel)
theorem dX2_countArea_36 : decode cX2_countArea 36 = .ok (.getfield 22, 3) := oc_180 (a := 0) (b := 22) (by decide +kernel)
theorem dX2_countArea_39 : decode cX2_countArea 39 = .ok (.iload 4, 2) := oc_21 (by decide +kernel)
theorem dX2_countArea_41 : decode cX2_countArea 41 = .ok (.iaload, 1) := oc_46 (by decide +kernel)
theorem dX2_countArea_42 : decode cX2_countArea 42 = .ok (.aload_n 0, 1) := oc_42 (by decide +kernel)
theorem dX2_countArea_43 : decode cX2_countArea 43 = .ok (.getfield 25, 3) := oc_180 (a := 0) (b := 25) (by decide +kernel)
theorem dX2_countArea_46 : decode cX2_countArea 46 = .ok (.iload 4, 2) := oc_21 (by decide +kernel)
theorem dX2_countArea_48 : decode cX2_countArea 48 = .ok (.iaload, 1) := oc_46 (by decide +kernel)
theorem dX2_countArea_49 : decode cX2_countArea 49 = .ok (.iload_n 3, 1) := oc_29 (by decide +kernel)
theorem tw_1142 : Cond.methodLink RX2 129 yX2_mark ∈ wsL_law := sg_48 _ (List.mem_of_getElem? (i := 14) rfl)
theorem tw_1143 : Cond.instanceMethod yX2_mark ∈ wsL_law := sg_48 _ (List.mem_of_getElem? (i := 15) rfl)
theorem tw_1144 : Cond.selects RX2 yX2_mark yX2_mark ∈ wsL_law := sg_48 _ (List.mem_of_getElem? (i := 16) rfl)
theorem tw_1145 : Cond.code yX2_mark cX2_mark 10 none ∈ wsL_law := sg_48 _ (List.mem_of_getElem? (i := 17) rfl)
theorem dX2_countArea_50 : decode cX2_countArea 50 = .ok (.invokevirtual 129, 3) := oc_182 (a := 0) (b := 129) (by decide +kernel)
set_option maxRecDepth 100000 in
def g_X2_tide_K84 (x_574 : Int32) (x_658 : Int64) (k_g_X2_tide_L11 : (Int64) → (Int32) → (Nat → Int64) → (Nat → Nat → Int32) → vM) (J_690 : Nat → Int64) (ri_691 : Nat → Nat → Int32) : vM := (ap1 (x_574 + Int32.ofInt 1) fun (x_695 : Int32) => (k_g_X2_tide_L11 x_658 x_695 J_690 ri_691))
set_option maxRecDepth 100000 in
theorem g_X2_tide_K84_e {x_574 : Int32} {x_658 : Int64} {k_g_X2_tide_L11 : (Int64) → (Int32) → (Nat → Int64) → (Nat → Nat → Int32) → vM} {J_690 : Nat → Int64} {ri_691 : Nat → Nat → Int32} : g_X2_tide_K84 x_574 x_658 k_g_X2_tide_L11 J_690 ri_691 = (ap1 (x_574 + Int32.ofInt 1) fun (x_695 : Int32) => (k_g_X2_tide_L11 x_658 x_695 J_690 ri_691)) := rfl
set_option maxRecDepth 100000 in
def g_X2_tide_K43 (a1 : Int32) (x_574 : Int32) (J_575 : Nat → Int64) (ri_576 : Nat → Nat → Int32) (k_g_X2_tide_L11 : (Int64) → (Int32) → (Nat → Int64) → (Nat → Nat → Int32) → vM) (x_646 : Int32) (x_658 : Int64) : vM := (if x_646 ≤ a1 then (ap1 (ri_576 77 (x_574).toNatClampNeg) fun (x_701 : Int32) => (ap1 (x_701 + (1 : Int32)) fun (x_702 : Int32) => (ap1 (va_up ri_576 77 (upd (ri_576 77) (x_574).toNatClampNeg x_702)) fun (r_703 : Nat → Nat → Int32) => (g_X2_tide_K84 x_574 x_658 k_g_X2_tide_L11 J_575 r_703)))) else (ap1 (J_575 67) fun (y_706 : Int64) => (ap1 ((1 : Int64) <<< (x_574.toInt64 &&& 63)) fun (x_707 : Int64) => (ap1 ((y_706) ||| x_707) fun (x_708 : Int64) => (ap1 (va_up J_575 67 x_708) fun (J_709 : Nat → Int64) => (ap1 (va_up ri_576 77 (upd (ri_576 77) (x_574).toNatClampNeg (0 : Int32))) fun (r_711 : Nat → Nat → Int32) => (g_X2_tide_K84 x_574 x_658 k_g_X2_tide_L11 J_709 r_711)))))))
set_option maxRecDepth 100000 in
theorem g_X2_tide_K43_e {a1 : Int32} {x_574 : Int32} {J_575 : Nat → Int64} {ri_576 : Nat → Nat → Int32} {k_g_X2_tide_L11 : (Int64) → (Int32) → (Nat → Int64) → (Nat → Nat → Int32) → vM} {x_646 : Int32} {x_658 : Int64} : g_X2_tide_K43 a1 x_574 J_575 ri_576 k_g_X2_tide_L11 x_646 x_658 = (if x_646 ≤ a1 then (ap1 (ri_576 77 (x_574).toNatClampNeg) fun (x_701 : Int32) => (ap1 (x_701 + (1 : Int32)) fun (x_702 : Int32) => (ap1 (va_up ri_576 77 (upd (ri_576 77) (x_574).toNatClampNeg x_702)) fun (r_703 : Nat → Nat → Int32) => (g_X2_tide_K84 x_574 x_658 k_g_X2_tide_L11 J_575 r_703)))) else (ap1 (J_575 67) fun (y_706 : Int64) => (ap1 ((1 : Int64) <<< (x_574.toInt64 &&& 63)) fun (x_707 : Int64) => (ap1 ((y_706) ||| x_707) fun (x_708 : Int64) => (ap1 (va_up J_575 67 x_708) fun (J_709 : Nat → Int64) => (ap1 (va_up ri_576 77 (upd (ri_576 77) (x_574).toNatClampNeg (0 : Int32))) fun (r_711 : Nat → Nat → Int32) => (g_X2_tide_K84 x_574 x_658 k_g_X2_tide_L11 J_709 r_711))))))) := rfl
set_option maxRecDepth 100000 in
def g_X2_tide_L11 (a0 : Int32) (a1 : Int32) (a2 : Int32) (I : Nat → Int32) (rj : Nat → Nat → Int64) (rq : Nat → Nat → Option Nat) : Nat → (Int64) → (Int32) → (Nat → Int64) → (Nat → Nat → Int32) → vM
  | 0, x_573, x_574, J_575, ri_576 => (I, J_575, ri_576, rj, rq)
  | n_622 + 1, x_573, x_574, J_575, ri_576 => (ap1 (I 65) fun (y_628 : Int32) => (if (y_628) ≤ x_574 then (if a0 < (0 : Int32) then (I, J_575, ri_576, rj, rq) else (if (600 : Int32) ≤ a0 then (I, J_575, ri_576, rj, rq) else (ap1 (va_up rj 68 (vp_updL (rj 68) (a0).toNatClampNeg x_573)) fun (r_643 : Nat → Nat → Int64) => (I, J_575, ri_576, r_643, rq)))) else (bnI (g_X2_topOf x_574 I J_575 ri_576 rj rq) fun (x_646 : Int32) (_ : Nat → Int32) (_ : Nat → Int64) (_ : Nat → Nat → Int32) (_ : Nat → Nat → Int64) (_ : Nat → Nat → Option Nat) => (if x_646 ≤ a2 then (g_X2_tide_K43 a1 x_574 J_575 ri_576 (g_X2_tide_L11 a0 a1 a2 I rj rq n_622) x_646 x_573) else (ap1 ((1 : Int64) <<< (x_574.toInt64 &&& 63)) fun (x_717 : Int64) => (ap1 (x_573 ||| x_717) fun (x_718 : Int64) => (g_X2_tide_K43 a1 x_574 J_575 ri_576 (g_X2_tide_L11 a0 a1 a2 I rj rq n_622) x_646 x_718)))))))
set_option maxRecDepth 100000 in
theorem g_X2_tide_L11_e {a0 : Int32} {a1 : Int32} {a2 : Int32} {I : Nat → Int32} {rj : Nat → Nat → Int64} {rq : Nat → Nat → Option Nat} {n_622 : Nat} {x_573 : Int64} {x_574 : Int32} {J_575 : Nat → Int64} {ri_576 : Nat → Nat → Int32} : g_X2_tide_L11 a0 a1 a2 I rj rq (n_622 + 1) x_573 x_574 J_575 ri_576 = (ap1 (I 65) fun (y_628 : Int32) => (if (y_628) ≤ x_574 then (if a0 < (0 : Int32) then (I, J_575, ri_576, rj, rq) else (if (600 : Int32) ≤ a0 then (I, J_575, ri_576, rj, rq) else (ap1 (va_up rj 68 (vp_updL (rj 68) (a0).toNatClampNeg x_573)) fun (r_643 : Nat → Nat → Int64) => (I, J_575, ri_576, r_643, rq)))) else (bnI (g_X2_topOf x_574 I J_575 ri_576 rj rq) fun (x_646 : Int32) (_ : Nat → Int32) (_ : Nat → Int64) (_ : Nat → Nat → Int32) (_ : Nat → Nat → Int64) (_ : Nat → Nat → Option Nat) => (if x_646 ≤ a2 then (g_X2_tide_K43 a1 x_574 J_575 ri_576 (g_X2_tide_L11 a0 a1 a2 I rj rq n_622) x_646 x_573) else (ap1 ((1 : Int64) <<< (x_574.toInt64 &&& 63)) fun (x_717 : Int64) => (ap1 (x_573 ||| x_717) fun (x_718 : Int64) => (g_X2_tide_K43 a1 x_574 J_575 ri_576 (g_X2_tide_L11 a0 a1 a2 I rj rq n_622) x_646 x_718))))))) := rfl
set_option maxRecDepth 100000 in
def g_X2_tide (a0 : Int32) (a1 : Int32) (a2 : Int32) (I : Nat → Int32) (J : Nat → Int64) (ri : Nat → Nat → Int32) (rj : Nat → Nat → Int64) (rq : Nat → Nat → Option Nat) : vM := (ap1 (va_up J 67 (0 : Int64)) fun (J_1 : Nat → Int64) => (g_X2_tide_L11 a0 a1 a2 I rj rq ((40 - ((0 : Int32)).toInt).toNat + 1) (0 : Int64) (0 : Int32) J_1 ri))
set_option maxRecDepth 100000 in
theorem g_X2_tide_e {a0 : Int32} {a1 : Int32} {a2 : Int32} {I : Nat → Int32} {J : Nat → Int64} {ri : Nat → Nat → Int32} {rj : Nat → Nat → Int64} {rq : Nat → Nat → Option Nat} : g_X2_tide a0 a1 a2 I J ri rj rq = (ap1 (va_up J 67 (0 : Int64)) fun (J_1 : Nat → Int64) => (g_X2_tide_L11 a0 a1 a2 I rj rq ((40 - ((0 : Int32)).toInt).toNat + 1) (0 : Int64) (0 : Int32) J_1 ri)) := rfl
set_option maxHeartbeats 4000000 in
set_option maxRecDepth 100000 in
theorem s_X2_tide (l : Launch) (D : va_G) (t : pq_T) (σ : pq_S) (I : Nat → Nat → Int32) (J : Nat → Nat → Int64) (ri : Nat → Nat → Int32) (rj : Nat → Nat → Int64) (rq : Nat → Nat → Option Nat) (sz : Nat) (tg : Nat → Nat) (hSH : SH σ tg) (hG0 : GS tg σ I ri rq) (this : Nat) (a0 : Int32) (a1 : Int32) (a2 : Int32) (hL_this : this ∈ σ.1) (hK_this : σ.2.1 this = 2) (M : Nat) (hL_M : M ∈ σ.1) (hK_M : σ.2.1 M = 10) (hO_this : this = vo σ 2 M) : MetV l yX2_tide (wa yX2_tide cX2_tide 8 none) ({ frames := 1, cells := 0, slots := 0, locals := 21 }) [.ref this, .int a0, .int a1, .int a2] D t σ (I, J, ri, rj, rq) sz 0 0 (fun (u : pq_S × pq_M) => ∃ J' : Nat → Nat → Int64, ∃ ri' : Nat → Nat → Int32, ∃ rj' : Nat → Nat → Int64, u = (σ, I, J', ri', rj', rq) ∧ GX [] tg σ I ri rj I ri' rj' rq ∧ g_X2_tide a0 a1 a2 (vI 10 σ M I) (vJ 10 σ M J) (vR 10 σ M ri) (vL 10 σ M rj) (vQ 10 σ M rq) = ((vI 10 σ M I), (vJ 10 σ M J'), (vR 10 σ M ri'), (vL 10 σ M rj'), (vQ 10 σ M rq)) ∧ FR 10 tg σ M (I, J, ri, rj, rq) (I, J', ri', rj', rq)) := by
  refine Met.ofW (cc := cX2_tide) (maxL := 8) (ret := none) (by decide +kernel) rfl ?_
  intro p e s m args below meth c s₁ B hml hv
  obtain ⟨rfl, hsz, hP, hK, hD0, hN⟩ := hv
  have hx := B.exec
  have hb := B.bytes
  have hr := B.returns
  have hts := atoms_spec (ws := (wa yX2_tide cX2_tide 8 none)) B.pre
  have hown : s.vm.findClass RX2 = some m.cls := findClass_of_methodNamed B.named
  have hlocks := B.notSynchronized
  subst hsz
  have hD : va_D (pq_B t σ (I, J, ri, rj, rq) s.heap.size) (pq_P t σ (I, J, ri, rj, rq)) := hD0.self
  generalize hAe : pq_B t σ (I, J, ri, rj, rq) s.heap.size = A at hD ⊢
  have hA : ∀ q : Nat, s.heap.size ≤ q → A q := fun q h => by rw [← hAe]; exact Or.inr h
  have hS : va_S A s.heap s.heap [] := va_S.rf
  have hG : GX [] tg σ I ri rj I ri rj rq := ⟨hG0, fun _ _ _ => rfl, fun _ _ _ _ _ => rfl, fun _ _ _ _ _ => rfl⟩
  have hl := lv_entry ([.ref this, .int a0, .int a1, .int a2]) (n := 8) (Nat.le_of_ble_eq_true rfl)
  rw [lg_entry_eq]
  generalize (lg_sl ([.ref this, .int a0, .int a1, .int a2]) ++ List.replicate (8 - (lg_sl ([.ref this, .int a0, .int a1, .int a2])).length) Slot.unset).toArray = ls at hl ⊢
  have hl : lv_has ls 8 [(0, .ref this), (1, .int a0), (2, .int a1), (3, .int a2)] := hl
  refine q_gen (fun Q hQ => ?_)
  have go : ∀ (H : Heap) (locs : List Loc) (ls : Array Slot), va_P D vwCl (pq_P t σ (I, J, ri, rj, rq)) H → va_D A (pq_P t σ (I, J, ri, rj, rq)) → va_S A s.heap H locs → lv_has ls 8 [(0, .ref this), (1, .int a0), (2, .int a1), (3, .int a2)] → W p l e ({ frames := 1, cells := 0, slots := 0, locals := 21 } : Room) s m (List.toArray ([.ref this, .int a0, .int a1, .int a2] : List Value)) below meth c H locs 0 0 Q (F0 m 0 ls []) := by
    intro H locs ls hP hD hS hl
    have hVT : VT 10 σ tg M := vt_10 hSH hL_M hK_M
    have hFr : FR 10 tg σ M (I, J, ri, rj, rq) (I, J, ri, rj, rq) := fr_rf
    obtain ⟨F, hF0⟩ : ∃ F, F = g_X2_tide a0 a1 a2 (vI 10 σ M I) (vJ 10 σ M J) (vR 10 σ M ri) (vL 10 σ M rj) (vQ 10 σ M rq) := ⟨_, rfl⟩
    have hF := hF0.trans g_X2_tide_e
    refine lv_aload_n hx hb dX2_tide_0 rfl (lv_at hl 0 rfl) ?_
    refine lv_lconst (v := 0) hx hb dX2_tide_1 (by decide +kernel) ?_
    refine pp_l (v := 0) (C := RX2) (T := TX2) (N := 20) hx hb hts (tw_i inlX2) tyX2 tyX2_ok nmX2 hown hK hP hD hS hL_this hK_this (by decide +kernel) rfl 3 67 (by decide +kernel) (hts _ (tw_c tw_558)) rfl (tyX2_ok 3 (by decide +kernel)) (Nat.le_of_ble_eq_true rfl) (ps_67 _ _ _ _ _) dX2_tide_2 (fun J_1 H locs eJ_1 hP hD hS => ?_)
    replace hFr := fr_J (f := 67) hFr hO_this (by decide +kernel) eJ_1
    replace hF := hF.trans (ap_n (vJ_st (f := 67) hO_this (by decide +kernel) eJ_1))
    refine lv_lconst (v := 0) hx hb dX2_tide_5 (by decide +kernel) ?_
    refine lv_lstore (lv' := [(4, .long 0), (0, .ref this), (1, .int a0), (2, .int a1), (3, .int a2)]) hx hb dX2_tide_6 hl (by decide +kernel) rfl (fun ls hl => ?_)
    refine lv_iconst (v := 0) hx hb dX2_tide_8 (by decide +kernel) ?_
    refine lv_istore (lv' := [(6, .int 0), (4, .long 0), (0, .ref this), (1, .int a0), (2, .int a1), (3, .int a2)]) hx hb dX2_tide_9 hl (by decide +kernel) rfl (fun ls hl => ?_)
    have L_623 : ∀ (n_622 : Nat) (x_573 : Int64) (x_574 : Int32) (J_575 : Nat → Nat → Int64) (ri_576 : Nat → Nat → Int32) (H : Heap) (locs : List Loc) (ls : Array Slot), rg x_574 0 40 → (40 - (x_574).toInt).toNat < n_622 → F = g_X2_tide_L11 a0 a1 a2 (vI 10 σ M I) (vL 10 σ M rj) (vQ 10 σ M rq) n_622 x_573 x_574 (vJ 10 σ M J_575) (vR 10 σ M ri_576) → FR 10 tg σ M (I, J, ri, rj, rq) (I, J_575, ri_576, rj, rq) → GX [] tg σ I ri rj I ri_576 rj rq → va_P D vwCl (pq_P t σ (I, J_575, ri_576, rj, rq)) H → va_D A (pq_P t σ (I, J_575, ri_576, rj, rq)) → va_S A s.heap H locs → lv_has ls 8 [(0, .ref this), (1, .int a0), (2, .int a1), (3, .int a2), (4, .long x_573), (6, .int x_574)] → W p l e ({ frames := 1, cells := 0, slots := 0, locals := 21 } : Room) s m (List.toArray ([.ref this, .int a0, .int a1, .int a2] : List Value)) below meth c H locs 0 0 Q (F0 m 11 ls []) := by
      intro n_622
      induction n_622 with
      | zero => intro x_573 x_574 J_575 ri_576 H locs ls h_626 hm_621 hF hFr hG hP hD hS hl; exact absurd hm_621 (Nat.not_lt_zero _)
      | succ n_622 ih_624 =>
        intro x_573 x_574 J_575 ri_576 H locs ls h_626 hm_621 hF hFr hG hP hD hS hl
        replace hF := hF.trans g_X2_tide_L11_e
        refine lv_iload hx hb dX2_tide_11 (lv_at hl 5 rfl) ?_
        refine lv_aload_n hx hb dX2_tide_13 rfl (lv_at hl 0 rfl) ?_
        refine pg_f (v := .int (I 65 this)) (C := RX2) (T := TX2) (N := 20) hx hb hts (tw_i inlX2) hown hK hP hL_this hK_this (by decide +kernel) rfl 1 (by decide +kernel) (hts _ (tw_c tw_222)) rfl dX2_tide_14 ?_
        have h_627 : rg (I 65 this) 0 40 := GX.rI hG 65 rfl
        replace hF := hF.trans (ap_n (vI_e (f := 65) hO_this (by decide +kernel)))
        refine lv_icmp_ge (tgt := 90) hx hb dX2_tide_17 (by decide +kernel) (fun c_629 => ?_) (fun c_629 => ?_)
        · replace hF := hF.trans (if_pos c_629)
          refine lv_iload_n hx hb dX2_tide_90 rfl (lv_at hl 1 rfl) ?_
          refine lv_if_lt (tgt := 109) hx hb dX2_tide_91 (by decide +kernel) (fun c_632 => ?_) (fun c_632 => ?_)
          · replace hF := hF.trans (if_pos c_632)
            have h_635 : rg a0 (-2147483648) (-1) := rg_lt1 c_632 (rg_full _) (rg_k (0 : Int32) 0 rfl) (by decide +kernel)
            subst hQ
            exact W.vret hx hb hr (fun t1 ht hW => ⟨⟨(σ, I, J_575, ri_576, rj, rq), rfl, ⟨J_575, ri_576, rj, rfl, hG, (hF0.symm.trans hF), hFr⟩, by rw [ht]; exact hP, va_K.moved hW.alike hK, hD⟩, hS.F ht⟩) hS.2.2 dX2_tide_109
          · replace hF := hF.trans (if_neg c_632)
            have h_636 : rg a0 0 2147483647 := rg_le2 (nlt c_632) (rg_k (0 : Int32) 0 rfl) (rg_full _) (by decide +kernel)
            refine lv_iload_n hx hb dX2_tide_94 rfl (lv_at hl 1 rfl) ?_
            refine lv_sipush (v := 600) hx hb dX2_tide_95 (by decide +kernel) ?_
            refine lv_icmp_ge (tgt := 109) hx hb dX2_tide_98 (by decide +kernel) (fun c_637 => ?_) (fun c_637 => ?_)
            · replace hF := hF.trans (if_pos c_637)
              have h_640 : rg a0 600 2147483647 := rg_le2 c_637 (rg_k (600 : Int32) 600 rfl) h_636 (by decide +kernel)
              subst hQ
              exact W.vret hx hb hr (fun t1 ht hW => ⟨⟨(σ, I, J_575, ri_576, rj, rq), rfl, ⟨J_575, ri_576, rj, rfl, hG, (hF0.symm.trans hF), hFr⟩, by rw [ht]; exact hP, va_K.moved hW.alike hK, hD⟩, hS.F ht⟩) hS.2.2 dX2_tide_109
            · replace hF := hF.trans (if_neg c_637)
              have h_641 : rg a0 0 599 := rg_lt1 (nle c_637) h_636 (rg_k (600 : Int32) 600 rfl) (by decide +kernel)
              refine lv_aload_n hx hb dX2_tide_101 rfl (lv_at hl 0 rfl) ?_
              obtain ⟨w_642, hR_w_642, hL_w_642, hK_w_642, hN_w_642, hT_w_642⟩ := sh_a hSH 68 (ci := 2) (kd := 14) (len := 600) rfl (by decide +kernel) hL_this hK_this
              have hO_w_642 : w_642 = vrow σ 68 M := vo_k (c := 2) hO_this hR_w_642
              refine pg_f (v := .ref w_642) (C := RX2) (T := TX2) (N := 20) hx hb hts (tw_i inlX2) hown hK hP hL_this hK_this (by decide +kernel) rfl 4 (by decide +kernel) (hts _ (tw_c tw_82)) (pq_hv rfl hR_w_642) dX2_tide_102 ?_
              refine lv_iload_n hx hb dX2_tide_105 rfl (lv_at hl 1 rfl) ?_
              refine lv_lload hx hb dX2_tide_106 (lv_at hl 4 rfl) ?_
              refine pt_l hx hb hK hP hD hS hL_w_642 hK_w_642 hN_w_642 (rg_in h_641 (by decide +kernel)) dX2_tide_108 (fun r_643 H locs er_643 hP hD hS => ?_)
              replace hFr := fr_L hFr hO_w_642 (by decide +kernel) er_643
              replace hF := hF.trans (ap_n (vL_st hVT hO_w_642 (by decide +kernel) er_643))
              have hG := GX.wJ hG hT_w_642 er_643 (by decide +kernel)
              subst hQ
              exact W.vret hx hb hr (fun t1 ht hW => ⟨⟨(σ, I, J_575, ri_576, r_643, rq), rfl, ⟨J_575, ri_576, r_643, rfl, hG, (hF0.symm.trans hF), hFr⟩, by rw [ht]; exact hP, va_K.moved hW.alike hK, hD⟩, hS.F ht⟩) hS.2.2 dX2_tide_109
        · replace hF := hF.trans (if_neg c_629)
          have h_644 : rg x_574 0 39 := rg_lt1 (nle c_629) h_626 h_627 (by decide +kernel)
          have h_645 : rg (I 65 this) 1 40 := rg_lt2 (nle c_629) h_626 h_627 (by decide +kernel)
          refine lv_aload_n hx hb dX2_tide_20 rfl (lv_at hl 0 rfl) ?_
          refine lv_iload hx hb dX2_tide_21 (lv_at hl 5 rfl) ?_
          refine pk_i (va_runV (As := [.int x_574]) (rest := []) ⟨hx, hb, hml, hown, hts⟩ (s_X2_topOf l D t σ I J_575 ri_576 rj rq H.size tg hSH hG.1 this x_574 hL_this hK_this (rg_w h_644 (by decide +kernel)) M hL_M hK_M hO_this) (cwV 1 hts (tw_V tw_1074 tw_1075 tw_1076 tw_41 tw_1077) rfl rfl rfl cv_yX2_topOf_1 ⟨Nat.le_of_ble_eq_true rfl, Nat.le_of_ble_eq_true rfl⟩) ⟨pq_blind, pq_recv hK hP hL_this hK_this (by decide +kernel) rfl, pq_pre hK hN hP hD⟩ rfl rfl hl.1 rfl (lv_room (Nat.le_of_ble_eq_true rfl)) dX2_tide_23 ⟨Nat.le_of_ble_eq_true rfl, Nat.le_of_ble_eq_true rfl⟩) hD hS hA (fun x_646 σ1 μ1 H locs hw_647 hP hD hS => ?_)
          obtain ⟨hu_648, hfn_651⟩ := hw_647
          obtain ⟨hu_648a, hu_648b⟩ := Prod.mk.inj hu_648
          rw [hu_648a, hu_648b] at hP hD
          replace hF := hF.trans (bn_n hfn_651)
          refine lv_istore (lv' := [(7, .int x_646), (0, .ref this), (1, .int a0), (2, .int a1), (3, .int a2), (4, .long x_573), (6, .int x_574)]) hx hb dX2_tide_26 hl (by decide +kernel) rfl (fun ls hl => ?_)
          refine lv_iload hx hb dX2_tide_28 (lv_at hl 0 rfl) ?_
          refine lv_iload_n hx hb dX2_tide_30 rfl (lv_at hl 4 rfl) ?_
          have K_676 : ∀  (x_658 : Int64) (H : Heap) (locs : List Loc) (ls : Array Slot), F = g_X2_tide_K43 a1 x_574 (vJ 10 σ M J_575) (vR 10 σ M ri_576) (g_X2_tide_L11 a0 a1 a2 (vI 10 σ M I) (vL 10 σ M rj) (vQ 10 σ M rq) n_622) x_646 x_658 → FR 10 tg σ M (I, J, ri, rj, rq) (I, J_575, ri_576, rj, rq) → GX [] tg σ I ri rj I ri_576 rj rq → va_P D vwCl (pq_P t σ (I, J_575, ri_576, rj, rq)) H → va_D A (pq_P t σ (I, J_575, ri_576, rj, rq)) → va_S A s.heap H locs → lv_has ls 8 [(0, .ref this), (1, .int a0), (2, .int a1), (3, .int a2), (4, .long x_658), (6, .int x_574), (7, .int x_646)] → W p l e ({ frames := 1, cells := 0, slots := 0, locals := 21 } : Room) s m (List.toArray ([.ref this, .int a0, .int a1, .int a2] : List Value)) below meth c H locs 0 0 Q (F0 m 43 ls []) := by
            intro x_658 H locs ls hF hFr hG hP hD hS hl
            replace hF := hF.trans g_X2_tide_K43_e
            refine lv_iload hx hb dX2_tide_43 (lv_at hl 6 rfl) ?_
            refine lv_iload_n hx hb dX2_tide_45 rfl (lv_at hl 2 rfl) ?_
            have K_694 : ∀  (J_690 : Nat → Nat → Int64) (ri_691 : Nat → Nat → Int32) (H : Heap) (locs : List Loc) (ls : Array Slot), F = g_X2_tide_K84 x_574 x_658 (g_X2_tide_L11 a0 a1 a2 (vI 10 σ M I) (vL 10 σ M rj) (vQ 10 σ M rq) n_622) (vJ 10 σ M J_690) (vR 10 σ M ri_691) → FR 10 tg σ M (I, J, ri, rj, rq) (I, J_690, ri_691, rj, rq) → GX [] tg σ I ri rj I ri_691 rj rq → va_P D vwCl (pq_P t σ (I, J_690, ri_691, rj, rq)) H → va_D A (pq_P t σ (I, J_690, ri_691, rj, rq)) → va_S A s.heap H locs → lv_has ls 8 [(0, .ref this), (1, .int a0), (2, .int a1), (3, .int a2), (4, .long x_658), (6, .int x_574)] → W p l e ({ frames := 1, cells := 0, slots := 0, locals := 21 } : Room) s m (List.toArray ([.ref this, .int a0, .int a1, .int a2] : List Value)) below meth c H locs 0 0 Q (F0 m 84 ls []) := by
              intro J_690 ri_691 H locs ls hF hFr hG hP hD hS hl
              replace hF := hF.trans g_X2_tide_K84_e
              obtain ⟨x_695, ex_695⟩ : ∃ y : Int32, y = x_574 + Int32.ofInt 1 := ⟨_, rfl⟩
              replace hF := hF.trans (ap_n ex_695)
              have h_696 : rg x_695 1 40 := rg_of_eq ex_695 (rg_add h_644 (rg_k (Int32.ofInt 1) 1 rfl) (by decide +kernel))
              refine lv_iinc (v := x_695) (lv' := [(6, .int x_695), (0, .ref this), (1, .int a0), (2, .int a1), (3, .int a2), (4, .long x_658)]) hx hb dX2_tide_84 hl (k := 5) rfl ex_695.symm (by decide +kernel) rfl (fun ls hl => ?_)
              refine lv_goto (tgt := 11) hx hb dX2_tide_87 (by decide +kernel) ?_
              exact ih_624 x_658 x_695 J_690 ri_691 _ _ _ (rg_w h_696 (by decide +kernel)) (ms_up 1 hm_621 ex_695 rfl (by decide +kernel) h_644 (by decide +kernel) (by decide +kernel)) hF hFr hG hP hD hS (lv_sub hl [1, 2, 3, 4, 5, 0] rfl)
            refine lv_icmp_le (tgt := 73) hx hb dX2_tide_46 (by decide +kernel) (fun c_697 => ?_) (fun c_697 => ?_)
            · replace hF := hF.trans (if_pos c_697)
              refine lv_aload_n hx hb dX2_tide_73 rfl (lv_at hl 0 rfl) ?_
              obtain ⟨w_700, hR_w_700, hL_w_700, hK_w_700, hN_w_700, hT_w_700⟩ := sh_a hSH 77 (ci := 2) (kd := 13) (len := 40) rfl (by decide +kernel) hL_this hK_this
              have hO_w_700 : w_700 = vrow σ 77 M := vo_k (c := 2) hO_this hR_w_700
              refine pg_f (v := .ref w_700) (C := RX2) (T := TX2) (N := 20) hx hb hts (tw_i inlX2) hown hK hP hL_this hK_this (by decide +kernel) rfl 13 (by decide +kernel) (hts _ (tw_c tw_91)) (pq_hv rfl hR_w_700) dX2_tide_74 ?_
              refine lv_iload hx hb dX2_tide_77 (lv_at hl 5 rfl) ?_
              refine lv_dup2_11 hx hb dX2_tide_79 rfl rfl ?_
              refine pl_i hx hb hK hP hL_w_700 hK_w_700 hN_w_700 (rg_in h_644 (by decide +kernel)) dX2_tide_80 ?_
              refine lv_topi (fun x_701 ex_701 => ?_)
              replace hF := hF.trans (ap_n (vR_r hO_w_700 (by decide +kernel) ex_701))
              refine lv_iconst (v := 1) hx hb dX2_tide_81 (by decide +kernel) ?_
              refine lv_iadd hx hb dX2_tide_82 ?_
              refine lv_topi (fun x_702 ex_702 => ?_)
              replace hF := hF.trans (ap_n ex_702)
              refine pt_i hx hb hK hP hD hS hL_w_700 hK_w_700 hN_w_700 (rg_in h_644 (by decide +kernel)) dX2_tide_83 (fun r_703 H locs er_703 hP hD hS => ?_)
              replace hFr := fr_R hFr hO_w_700 (by decide +kernel) er_703
              replace hF := hF.trans (ap_n (vR_st hVT hO_w_700 (by decide +kernel) er_703))
              have hG := GX.wR hG hSH hT_w_700 rfl er_703 (rg_w (rg_full _) (by decide +kernel)) (by decide +kernel)
              exact K_694 J_575 r_703 _ _ _ hF hFr hG hP hD hS (lv_sub hl [0, 1, 2, 3, 4, 5] rfl)
            · replace hF := hF.trans (if_neg c_697)
              have h_704 : rg a1 (-2147483648) 2147483646 := rg_lt1 (nle c_697) (rg_full _) (rg_full _) (by decide +kernel)
              have h_705 : rg x_646 (-2147483647) 2147483647 := rg_lt2 (nle c_697) (rg_full _) (rg_full _) (by decide +kernel)
              refine lv_aload_n hx hb dX2_tide_49 rfl (lv_at hl 0 rfl) ?_
              refine lv_dup hx hb dX2_tide_50 rfl ?_
              refine pg_f (v := .long (J_575 67 this)) (C := RX2) (T := TX2) (N := 20) hx hb hts (tw_i inlX2) hown hK hP hL_this hK_this (by decide +kernel) rfl 3 (by decide +kernel) (hts _ (tw_c tw_558)) rfl dX2_tide_51 ?_
              replace hF := hF.trans (ap_n (vJ_e (f := 67) hO_this (by decide +kernel)))
              refine lv_lconst (v := 1) hx hb dX2_tide_54 (by decide +kernel) ?_
              refine lv_iload hx hb dX2_tide_55 (lv_at hl 5 rfl) ?_
              refine lv_lshl hx hb dX2_tide_57 rfl ?_
              refine lv_topl (fun x_707 ex_707 => ?_)
              replace hF := hF.trans (ap_n ex_707)
              refine lv_lor hx hb dX2_tide_58 ?_
              refine lv_topl (fun x_708 ex_708 => ?_)
              replace hF := hF.trans (ap_n ex_708)
              refine pp_l (v := x_708) (C := RX2) (T := TX2) (N := 20) hx hb hts (tw_i inlX2) tyX2 tyX2_ok nmX2 hown hK hP hD hS hL_this hK_this (by decide +kernel) rfl 3 67 (by decide +kernel) (hts _ (tw_c tw_558)) rfl (tyX2_ok 3 (by decide +kernel)) (Nat.le_of_ble_eq_true rfl) (ps_67 _ _ _ _ _) dX2_tide_59 (fun J_709 H locs eJ_709 hP hD hS => ?_)
              replace hFr := fr_J (f := 67) hFr hO_this (by decide +kernel) eJ_709
              replace hF := hF.trans (ap_n (vJ_st (f := 67) hO_this (by decide +kernel) eJ_709))
              refine lv_aload_n hx hb dX2_tide_62 rfl (lv_at hl 0 rfl) ?_
              obtain ⟨w_710, hR_w_710, hL_w_710, hK_w_710, hN_w_710, hT_w_710⟩ := sh_a hSH 77 (ci := 2) (kd := 13) (len := 40) rfl (by decide +kernel) hL_this hK_this
              have hO_w_710 : w_710 = vrow σ 77 M := vo_k (c := 2) hO_this hR_w_710
              refine pg_f (v := .ref w_710) (C := RX2) (T := TX2) (N := 20) hx hb hts (tw_i inlX2) hown hK hP hL_this hK_this (by decide +kernel) rfl 13 (by decide +kernel) (hts _ (tw_c tw_91)) (pq_hv rfl hR_w_710) dX2_tide_63 ?_
              refine lv_iload hx hb dX2_tide_66 (lv_at hl 5 rfl) ?_
              refine lv_iconst (v := 0) hx hb dX2_tide_68 (by decide +kernel) ?_
              refine pt_i hx hb hK hP hD hS hL_w_710 hK_w_710 hN_w_710 (rg_in h_644 (by decide +kernel)) dX2_tide_69 (fun r_711 H locs er_711 hP hD hS => ?_)
              replace hFr := fr_R hFr hO_w_710 (by decide +kernel) er_711
              replace hF := hF.trans (ap_n (vR_st hVT hO_w_710 (by decide +kernel) er_711))
              have hG := GX.wR hG hSH hT_w_710 rfl er_711 (rg_w (rg_k (0 : Int32) 0 rfl) (by decide +kernel)) (by decide +kernel)
              refine lv_goto (tgt := 84) hx hb dX2_tide_70 (by decide +kernel) ?_
              exact K_694 J_709 r_711 _ _ _ hF hFr hG hP hD hS (lv_sub hl [0, 1, 2, 3, 4, 5] rfl)
          refine lv_icmp_le (tgt := 43) hx hb dX2_tide_31 (by decide +kernel) (fun c_712 => ?_) (fun c_712 => ?_)
          · replace hF := hF.trans (if_pos c_712)
            exact K_676 x_573 _ _ _ hF hFr hG hP hD hS (lv_sub hl [1, 2, 3, 4, 5, 6, 0] rfl)
          · replace hF := hF.trans (if_neg c_712)
            have h_715 : rg a2 (-2147483648) 2147483646 := rg_lt1 (nle c_712) (rg_full _) (rg_full _) (by decide +kernel)
            have h_716 : rg x_646 (-2147483647) 2147483647 := rg_lt2 (nle c_712) (rg_full _) (rg_full _) (by decide +kernel)
            refine lv_lload hx hb dX2_tide_34 (lv_at hl 5 rfl) ?_
            refine lv_lconst (v := 1) hx hb dX2_tide_36 (by decide +kernel) ?_
            refine lv_iload hx hb dX2_tide_37 (lv_at hl 6 rfl) ?_
            refine lv_lshl hx hb dX2_tide_39 rfl ?_
            refine lv_topl (fun x_717 ex_717 => ?_)
            replace hF := hF.trans (ap_n ex_717)
            refine lv_lor hx hb dX2_tide_40 ?_
            refine lv_topl (fun x_718 ex_718 => ?_)
            replace hF := hF.trans (ap_n ex_718)
            refine lv_lstore (lv' := [(4, .long x_718), (7, .int x_646), (0, .ref this), (1, .int a0), (2, .int a1), (3, .int a2), (6, .int x_574)]) hx hb dX2_tide_41 hl (by decide +kernel) rfl (fun ls hl => ?_)
            exact K_676 x_718 _ _ _ hF hFr hG hP hD hS (lv_sub hl [2, 3, 4, 5, 0, 6, 1] rfl)
    exact L_623 _ (0 : Int64) (0 : Int32) J_1 ri _ _ _ (rg_w (rg_k (0 : Int32) 0 rfl) (by decide +kernel)) (Nat.lt_succ_self _) hF hFr hG hP hD hS (lv_sub hl [2, 3, 4, 5, 1, 0] rfl)
  exact go _ _ _ hP hD hS hl

set_option maxRecDepth 100000 in
def g_X2_giveUpBeds_K25 (x_286 : Int32) (k_g_X2_giveUpBeds_L2 : (Int32) → (Nat → Nat → Int32) → vM) (ri_336 : Nat → Nat → Int32) : vM := (ap1 (x_286 + Int32.ofInt 1) fun (x_340 : Int32) => (k_g_X2_giveUpBeds_L2 x_340 ri_336))
set_option maxRecDepth 100000 in
theorem g_X2_giveUpBeds_K25_e {x_286 : Int32} {k_g_X2_giveUpBeds_L2 : (Int32) → (Nat → Nat → Int32) → vM} {ri_336 : Nat → Nat → Int32} : g_X2_giveUpBeds_K25 x_286 k_g_X2_giveUpBeds_L2 ri_336 = (ap1 (x_286 + Int32.ofInt 1) fun (x_340 : Int32) => (k_g_X2_giveUpBeds_L2 x_340 ri_336)) := rfl
set_option maxRecDepth 100000 in
def g_X2_giveUpBeds_L2 (I : Nat → Int32) (J : Nat → Int64) (rj : Nat → Nat → Int64) (rq : Nat → Nat → Option Nat) : Nat → (Int32) → (Nat → Nat → Int32) → vM
  | 0, x_286, ri_287 => (I, J, ri_287, rj, rq)
  | n_311 + 1, x_286, ri_287 => (ap1 (I 65) fun (y_317 : Int32) => (if (y_317) ≤ x_286 then (I, J, ri_287, rj, rq) else (bnI (g_X2_isDry x_286 I J ri_287 rj rq) fun (x_323 : Int32) (_ : Nat → Int32) (_ : Nat → Int64) (_ : Nat → Nat → Int32) (_ : Nat → Nat → Int64) (_ : Nat → Nat → Option Nat) => (if x_323 = (0 : Int32) then (ap1 (va_up ri_287 76 (upd (ri_287 76) (x_286).toNatClampNeg (0 : Int32))) fun (r_348 : Nat → Nat → Int32) => (g_X2_giveUpBeds_K25 x_286 (g_X2_giveUpBeds_L2 I J rj rq n_311) r_348)) else (g_X2_giveUpBeds_K25 x_286 (g_X2_giveUpBeds_L2 I J rj rq n_311) ri_287)))))
set_option maxRecDepth 100000 in
theorem g_X2_giveUpBeds_L2_e {I : Nat → Int32} {J : Nat → Int64} {rj : Nat → Nat → Int64} {rq : Nat → Nat → Option Nat} {n_311 : Nat} {x_286 : Int32} {ri_287 : Nat → Nat → Int32} : g_X2_giveUpBeds_L2 I J rj rq (n_311 + 1) x_286 ri_287 = (ap1 (I 65) fun (y_317 : Int32) => (if (y_317) ≤ x_286 then (I, J, ri_287, rj, rq) else (bnI (g_X2_isDry x_286 I J ri_287 rj rq) fun (x_323 : Int32) (_ : Nat → Int32) (_ : Nat → Int64) (_ : Nat → Nat → Int32) (_ : Nat → Nat → Int64) (_ : Nat → Nat → Option Nat) => (if x_323 = (0 : Int32) then (ap1 (va_up ri_287 76 (upd (ri_287 76) (x_286).toNatClampNeg (0 : Int32))) fun (r_348 : Nat → Nat → Int32) => (g_X2_giveUpBeds_K25 x_286 (g_X2_giveUpBeds_L2 I J rj rq n_311) r_348)) else (g_X2_giveUpBeds_K25 x_286 (g_X2_giveUpBeds_L2 I J rj rq n_311) ri_287))))) := rfl
set_option maxRecDepth 100000 in
def g_X2_giveUpBeds (I : Nat → Int32) (J : Nat → Int64) (ri : Nat → Nat → Int32) (rj : Nat → Nat → Int64) (rq : Nat → Nat → Option Nat) : vM := (g_X2_giveUpBeds_L2 I J rj rq ((40 - ((0 : Int32)).toInt).toNat + 1) (0 : Int32) ri)
set_option maxRecDepth 100000 in
theorem g_X2_giveUpBeds_e {I : Nat → Int32} {J : Nat → Int64} {ri : Nat → Nat → Int32} {rj : Nat → Nat → Int64} {rq : Nat → Nat → Option Nat} : g_X2_giveUpBeds I J ri rj rq = (g_X2_giveUpBeds_L2 I J rj rq ((40 - ((0 : Int32)).toInt).toNat + 1) (0 : Int32) ri) := rfl
set_option maxHeartbeats 4000000 in
set_option maxRecDepth 100000 in
theorem s_X2_giveUpBeds (l : Launch) (D : va_G) (t : pq_T) (σ : pq_S) (I : Nat → Nat → Int32) (J : Nat → Nat → Int64) (ri : Nat → Nat → Int32) (rj : Nat → Nat → Int64) (rq : Nat → Nat → Option Nat) (sz : Nat) (tg : Nat → Nat) (hSH : SH σ tg) (hG0 : GS tg σ I ri rq) (this : Nat) (hL_this : this ∈ σ.1) (hK_this : σ.2.1 this = 2) (M : Nat) (hL_M : M ∈ σ.1) (hK_M : σ.2.1 M = 10) (hO_this : this = vo σ 2 M) : MetV l yX2_giveUpBeds (wa yX2_giveUpBeds cX2_giveUpBeds 2 none) ({ frames := 2, cells := 0, slots := 0, locals := 43 }) [.ref this] D t σ (I, J, ri, rj, rq) sz 0 0 (fun (u : pq_S × pq_M) => ∃ ri' : Nat → Nat → Int32, u = (σ, I, J, ri', rj, rq) ∧ GX [] tg σ I ri rj I ri' rj rq ∧ g_X2_giveUpBeds (vI 10 σ M I) (vJ 10 σ M J) (vR 10 σ M ri) (vL 10 σ M rj) (vQ 10 σ M rq) = ((vI 10 σ M I), (vJ 10 σ M J), (vR 10 σ M ri'), (vL 10 σ M rj), (vQ 10 σ M rq)) ∧ FR 10 tg σ M (I, J, ri, rj, rq) (I, J, ri', rj, rq)) := by
  refine Met.ofW (cc := cX2_giveUpBeds) (maxL := 2) (ret := none) (by decide +kernel) rfl ?_
  intro p e s m args below meth c s₁ B hml hv
  obtain ⟨rfl, hsz, hP, hK, hD0, hN⟩ := hv
  have hx := B.exec
  have hb := B.bytes
  have hr := B.returns
  have hts := atoms_spec (ws := (wa yX2_giveUpBeds cX2_giveUpBeds 2 none)) B.pre
  have hown : s.vm.findClass RX2 = some m.cls := findClass_of_methodNamed B.named
  have hlocks := B.notSynchronized
  subst hsz
  have hD : va_D (pq_B t σ (I, J, ri, rj, rq) s.heap.size) (pq_P t σ (I, J, ri, rj, rq)) := hD0.self
  generalize hAe : pq_B t σ (I, J, ri, rj, rq) s.heap.size = A at hD ⊢
  have hA : ∀ q : Nat, s.heap.size ≤ q → A q := fun q h => by rw [← hAe]; exact Or.inr h
  have hS : va_S A s.heap s.heap [] := va_S.rf
  have hG : GX [] tg σ I ri rj I ri rj rq := ⟨hG0, fun _ _ _ => rfl, fun _ _ _ _ _ => rfl, fun _ _ _ _ _ => rfl⟩
  have hl := lv_entry ([.ref this]) (n := 2) (Nat.le_of_ble_eq_true rfl)
  rw [lg_entry_eq]
  generalize (lg_sl ([.ref this]) ++ List.replicate (2 - (lg_sl ([.ref this])).length) Slot.unset).toArray = ls at hl ⊢
  have hl : lv_has ls 2 [(0, .ref this)] := hl
  refine q_gen (fun Q hQ => ?_)
  have go : ∀ (H : Heap) (locs : List Loc) (ls : Array Slot), va_P D vwCl (pq_P t σ (I, J, ri, rj, rq)) H → va_D A (pq_P t σ (I, J, ri, rj, rq)) → va_S A s.heap H locs → lv_has ls 2 [(0, .ref this)] → W p l e ({ frames := 2, cells := 0, slots := 0, locals := 43 } : Room) s m (List.toArray ([.ref this] : List Value)) below meth c H locs 0 0 Q (F0 m 0 ls []) := by
    intro H locs ls hP hD hS hl
    have hVT : VT 10 σ tg M := vt_10 hSH hL_M hK_M
    have hFr : FR 10 tg σ M (I, J, ri, rj, rq) (I, J, ri, rj, rq) := fr_rf
    obtain ⟨F, hF0⟩ : ∃ F, F = g_X2_giveUpBeds (vI 10 σ M I) (vJ 10 σ M J) (vR 10 σ M ri) (vL 10 σ M rj) (vQ 10 σ M rq) := ⟨_, rfl⟩
    have hF := hF0.trans g_X2_giveUpBeds_e
    refine lv_iconst (v := 0) hx hb dX2_giveUpBeds_0 (by decide +kernel) ?_
    refine lv_istore_n (lv' := [(1, .int 0), (0, .ref this)]) hx hb dX2_giveUpBeds_1 rfl hl (by decide +kernel) rfl (fun ls hl => ?_)
    have L_312 : ∀ (n_311 : Nat) (x_286 : Int32) (ri_287 : Nat → Nat → Int32) (H : Heap) (locs : List Loc) (ls : Array Slot), rg x_286 0 40 → (40 - (x_286).toInt).toNat < n_311 → F = g_X2_giveUpBeds_L2 (vI 10 σ M I) (vJ 10 σ M J) (vL 10 σ M rj) (vQ 10 σ M rq) n_311 x_286 (vR 10 σ M ri_287) → FR 10 tg σ M (I, J, ri, rj, rq) (I, J, ri_287, rj, rq) → GX [] tg σ I ri rj I ri_287 rj rq → va_P D vwCl (pq_P t σ (I, J, ri_287, rj, rq)) H → va_D A (pq_P t σ (I, J, ri_287, rj, rq)) → va_S A s.heap H locs → lv_has ls 2 [(0, .ref this), (1, .int x_286)] → W p l e ({ frames := 2, cells := 0, slots := 0, locals := 43 } : Room) s m (List.toArray ([.ref this] : List Value)) below meth c H locs 0 0 Q (F0 m 2 ls []) := by
      intro n_311
      induction n_311 with
      | zero => intro x_286 ri_287 H locs ls h_315 hm_310 hF hFr hG hP hD hS hl; exact absurd hm_310 (Nat.not_lt_zero _)
      | succ n_311 ih_313 =>
        intro x_286 ri_287 H locs ls h_315 hm_310 hF hFr hG hP hD hS hl
        replace hF := hF.trans g_X2_giveUpBeds_L2_e
        refine lv_iload_n hx hb dX2_giveUpBeds_2 rfl (lv_at hl 1 rfl) ?_
        refine lv_aload_n hx hb dX2_giveUpBeds_3 rfl (lv_at hl 0 rfl) ?_
        refine pg_f (v := .int (I 65 this)) (C := RX2) (T := TX2) (N := 20) hx hb hts (tw_i inlX2) hown hK hP hL_this hK_this (by decide +kernel) rfl 1 (by decide +kernel) (hts _ (tw_c tw_222)) rfl dX2_giveUpBeds_4 ?_
        have h_316 : rg (I 65 this) 0 40 := GX.rI hG 65 rfl
        replace hF := hF.trans (ap_n (vI_e (f := 65) hO_this (by decide +kernel)))
        refine lv_icmp_ge (tgt := 31) hx hb dX2_giveUpBeds_7 (by decide +kernel) (fun c_318 => ?_) (fun c_318 => ?_)
        · replace hF := hF.trans (if_pos c_318)
          subst hQ
          exact W.vret hx hb hr (fun t1 ht hW => ⟨⟨(σ, I, J, ri_287, rj, rq), rfl, ⟨ri_287, rfl, hG, (hF0.symm.trans hF), hFr⟩, by rw [ht]; exact hP, va_K.moved hW.alike hK, hD⟩, hS.F ht⟩) hS.2.2 dX2_giveUpBeds_31
        · replace hF := hF.trans (if_neg c_318)
          have h_321 : rg x_286 0 39 := rg_lt1 (nle c_318) h_315 h_316 (by decide +kernel)
          have h_322 : rg (I 65 this) 1 40 := rg_lt2 (nle c_318) h_315 h_316 (by decide +kernel)
          refine lv_aload_n hx hb dX2_giveUpBeds_10 rfl (lv_at hl 0 rfl) ?_
          refine lv_iload_n hx hb dX2_giveUpBeds_11 rfl (lv_at hl 1 rfl) ?_
          refine pk_i (va_runV (As := [.int x_286]) (rest := []) ⟨hx, hb, hml, hown, hts⟩ (s_X2_isDry l D t σ I J ri_287 rj rq H.size tg hSH hG.1 this x_286 hL_this hK_this M hL_M hK_M hO_this) (cwV 1 hts (tw_V tw_1082 tw_555 tw_556 tw_41 tw_557) rfl rfl rfl cv_yX2_isDry_1 ⟨Nat.le_of_ble_eq_true rfl, Nat.le_of_ble_eq_true rfl⟩) ⟨pq_blind, pq_recv hK hP hL_this hK_this (by decide +kernel) rfl, pq_pre hK hN hP hD⟩ rfl rfl hl.1 rfl (lv_room (Nat.le_of_ble_eq_true rfl)) dX2_giveUpBeds_12 ⟨Nat.le_of_ble_eq_true rfl, Nat.le_of_ble_eq_true rfl⟩) hD hS hA (fun x_323 σ1 μ1 H locs hw_324 hP hD hS => ?_)
          obtain ⟨hu_325, hfn_328, hr_327⟩ := hw_324
          obtain ⟨hu_325a, hu_325b⟩ := Prod.mk.inj hu_325
          rw [hu_325a, hu_325b] at hP hD
          replace hF := hF.trans (bn_n hfn_328)
          have h_330 : rg x_323 0 1 := by rcases hr_327 with ⟨q, -⟩ | ⟨q, -⟩ <;> rw [q] <;> exact ⟨by decide +kernel, by decide +kernel⟩
          have K_339 : ∀  (ri_336 : Nat → Nat → Int32) (H : Heap) (locs : List Loc) (ls : Array Slot), F = g_X2_giveUpBeds_K25 x_286 (g_X2_giveUpBeds_L2 (vI 10 σ M I) (vJ 10 σ M J) (vL 10 σ M rj) (vQ 10 σ M rq) n_311) (vR 10 σ M ri_336) → FR 10 tg σ M (I, J, ri, rj, rq) (I, J, ri_336, rj, rq) → GX [] tg σ I ri rj I ri_336 rj rq → va_P D vwCl (pq_P t σ (I, J, ri_336, rj, rq)) H → va_D A (pq_P t σ (I, J, ri_336, rj, rq)) → va_S A s.heap H locs → lv_has ls 2 [(0, .ref this), (1, .int x_286)] → W p l e ({ frames := 2, cells := 0, slots := 0, locals := 43 } : Room) s m (List.toArray ([.ref this] : List Value)) below meth c H locs 0 0 Q (F0 m 25 ls []) := by
            intro ri_336 H locs ls hF hFr hG hP hD hS hl
            replace hF := hF.trans g_X2_giveUpBeds_K25_e
            obtain ⟨x_340, ex_340⟩ : ∃ y : Int32, y = x_286 + Int32.ofInt 1 := ⟨_, rfl⟩
            replace hF := hF.trans (ap_n ex_340)
            have h_341 : rg x_340 1 40 := rg_of_eq ex_340 (rg_add h_321 (rg_k (Int32.ofInt 1) 1 rfl) (by decide +kernel))
            refine lv_iinc (v := x_340) (lv' := [(1, .int x_340), (0, .ref this)]) hx hb dX2_giveUpBeds_25 hl (k := 1) rfl ex_340.symm (by decide +kernel) rfl (fun ls hl => ?_)
            refine lv_goto (tgt := 2) hx hb dX2_giveUpBeds_28 (by decide +kernel) ?_
            exact ih_313 x_340 ri_336 _ _ _ (rg_w h_341 (by decide +kernel)) (ms_up 1 hm_310 ex_340 rfl (by decide +kernel) h_321 (by decide +kernel) (by decide +kernel)) hF hFr hG hP hD hS (lv_sub hl [1, 0] rfl)
          refine lv_if_ne (tgt := 25) hx hb dX2_giveUpBeds_15 (by decide +kernel) (fun c_342 => ?_) (fun c_342 => ?_)
          · replace hF := hF.trans (if_neg c_342)
            have h_345 : rg x_323 1 1 := rg_ne c_342 h_330 0 rfl (by decide +kernel)
            exact K_339 ri_287 _ _ _ hF hFr hG hP hD hS (lv_sub hl [0, 1] rfl)
          · replace hF := hF.trans (if_pos c_342)
            have h_346 : rg x_323 0 0 := rg_and h_330 (rg_of_eq c_342 (rg_k (0 : Int32) 0 rfl)) (by decide +kernel)
            refine lv_aload_n hx hb dX2_giveUpBeds_18 rfl (lv_at hl 0 rfl) ?_
            obtain ⟨w_347, hR_w_347, hL_w_347, hK_w_347, hN_w_347, hT_w_347⟩ := sh_a hSH 76 (ci := 2) (kd := 13) (len := 40) rfl (by decide +kernel) hL_this hK_this
            have hO_w_347 : w_347 = vrow σ 76 M := vo_k (c := 2) hO_this hR_w_347
            refine pg_f (v := .ref w_347) (C := RX2) (T := TX2) (N := 20) hx hb hts (tw_i inlX2) hown hK hP hL_this hK_this (by decide +kernel) rfl 12 (by decide +kernel) (hts _ (tw_c tw_90)) (pq_hv rfl hR_w_347) dX2_giveUpBeds_19 ?_
            refine lv_iload_n hx hb dX2_giveUpBeds_22 rfl (lv_at hl 1 rfl) ?_
            refine lv_iconst (v := 0) hx hb dX2_giveUpBeds_23 (by decide +kernel) ?_
            refine pt_i hx hb hK hP hD hS hL_w_347 hK_w_347 hN_w_347 (rg_in h_321 (by decide +kernel)) dX2_giveUpBeds_24 (fun r_348 H locs er_348 hP hD hS => ?_)
            replace hFr := fr_R hFr hO_w_347 (by decide +kernel) er_348
            replace hF := hF.trans (ap_n (vR_st hVT hO_w_347 (by decide +kernel) er_348))
            have hG := GX.wR hG hSH hT_w_347 rfl er_348 (rg_w (rg_k (0 : Int32) 0 rfl) (by decide +kernel)) (by decide +kernel)
            exact K_339 r_348 _ _ _ hF hFr hG hP hD hS (lv_sub hl [0, 1] rfl)
    exact L_312 _ (0 : Int32) ri _ _ _ (rg_w (rg_k (0 : Int32) 0 rfl) (by decide +kernel)) (Nat.lt_succ_self _) hF hFr hG hP hD hS (lv_sub hl [1, 0] rfl)
  exact go _ _ _ hP hD hS hl

set_option maxRecDepth 100000 in
def g_X2_countWalls_K24 (x_470 : Int32) (k_g_X2_countWalls_L4 : (Int32) → (Int32) → Int32 × vM) (x_505 : Int32) : Int32 × vM := (ap1 (x_470 + Int32.ofInt 1) fun (x_509 : Int32) => (k_g_X2_countWalls_L4 x_505 x_509))
set_option maxRecDepth 100000 in
theorem g_X2_countWalls_K24_e {x_470 : Int32} {k_g_X2_countWalls_L4 : (Int32) → (Int32) → Int32 × vM} {x_505 : Int32} : g_X2_countWalls_K24 x_470 k_g_X2_countWalls_L4 x_505 = (ap1 (x_470 + Int32.ofInt 1) fun (x_509 : Int32) => (k_g_X2_countWalls_L4 x_505 x_509)) := rfl
set_option maxRecDepth 100000 in
def g_X2_countWalls_L4 (I : Nat → Int32) (J : Nat → Int64) (ri : Nat → Nat → Int32) (rj : Nat → Nat → Int64) (rq : Nat → Nat → Option Nat) : Nat → (Int32) → (Int32) → Int32 × vM
  | 0, x_469, x_470 => ((0 : Int32), I, J, ri, rj, rq)
  | n_487 + 1, x_469, x_470 => (ap1 (I 65) fun (y_493 : Int32) => (if (y_493) ≤ x_470 then (x_469, I, J, ri, rj, rq) else (ap1 (ri 75 (x_470).toNatClampNeg) fun (x_500 : Int32) => (if x_500 ≤ (0 : Int32) then (g_X2_countWalls_K24 x_470 (g_X2_countWalls_L4 I J ri rj rq n_487) x_469) else (ap1 (x_469 + Int32.ofInt 1) fun (x_516 : Int32) => (g_X2_countWalls_K24 x_470 (g_X2_countWalls_L4 I J ri rj rq n_487) x_516))))))
set_option maxRecDepth 100000 in
theorem g_X2_countWalls_L4_e {I : Nat → Int32} {J : Nat → Int64} {ri : Nat → Nat → Int32} {rj : Nat → Nat → Int64} {rq : Nat → Nat → Option Nat} {n_487 : Nat} {x_469 : Int32} {x_470 : Int32} : g_X2_countWalls_L4 I J ri rj rq (n_487 + 1) x_469 x_470 = (ap1 (I 65) fun (y_493 : Int32) => (if (y_493) ≤ x_470 then (x_469, I, J, ri, rj, rq) else (ap1 (ri 75 (x_470).toNatClampNeg) fun (x_500 : Int32) => (if x_500 ≤ (0 : Int32) then (g_X2_countWalls_K24 x_470 (g_X2_countWalls_L4 I J ri rj rq n_487) x_469) else (ap1 (x_469 + Int32.ofInt 1) fun (x_516 : Int32) => (g_X2_countWalls_K24 x_470 (g_X2_countWalls_L4 I J ri rj rq n_487) x_516)))))) := rfl
set_option maxRecDepth 100000 in
def g_X2_countWalls (I : Nat → Int32) (J : Nat → Int64) (ri : Nat → Nat → Int32) (rj : Nat → Nat → Int64) (rq : Nat → Nat → Option Nat) : Int32 × vM := (g_X2_countWalls_L4 I J ri rj rq ((40 - ((0 : Int32)).toInt).toNat + 1) (0 : Int32) (0 : Int32))
set_option maxRecDepth 100000 in
theorem g_X2_countWalls_e {I : Nat → Int32} {J : Nat → Int64} {ri : Nat → Nat → Int32} {rj : Nat → Nat → Int64} {rq : Nat → Nat → Option Nat} : g_X2_countWalls I J ri rj rq = (g_X2_countWalls_L4 I J ri rj rq ((40 - ((0 : Int32)).toInt).toNat + 1) (0 : Int32) (0 : Int32)) := rfl
set_option maxHeartbeats 4000000 in
set_option maxRecDepth 100000 in
theorem s_X2_countWalls (l : Launch) (D : va_G) (t : pq_T) (σ : pq_S) (I : Nat → Nat → Int32) (J : Nat → Nat → Int64) (ri : Nat → Nat → Int32) (rj : Nat → Nat → Int64) (rq : Nat → Nat → Option Nat) (sz : Nat) (tg : Nat → Nat) (hSH : SH σ tg) (hG0 : GS tg σ I ri rq) (this : Nat) (hL_this : this ∈ σ.1) (hK_this : σ.2.1 this = 2) (M : Nat) (hL_M : M ∈ σ.1) (hK_M : σ.2.1 M = 10) (hO_this : this = vo σ 2 M) : MetI l yX2_countWalls (wa yX2_countWalls cX2_countWalls 3 (some .int)) ({ frames := 0, cells := 0, slots := 0, locals := 0 }) [.ref this] D t σ (I, J, ri, rj, rq) sz 0 0 (fun (r : Int32) (u : pq_S × pq_M) => u = (σ, I, J, ri, rj, rq) ∧ g_X2_countWalls (vI 10 σ M I) (vJ 10 σ M J) (vR 10 σ M ri) (vL 10 σ M rj) (vQ 10 σ M rq) = (r, (vI 10 σ M I), (vJ 10 σ M J), (vR 10 σ M ri), (vL 10 σ M rj), (vQ 10 σ M rq))) := by
  refine Met.ofW (cc := cX2_countWalls) (maxL := 3) (ret := (some .int)) (by decide +kernel) rfl ?_
  intro p e s m args below meth c s₁ B hml hv
  obtain ⟨rfl, hsz, hP, hK, hD0, hN⟩ := hv
  have hx := B.exec
  have hb := B.bytes
  have hr := B.returns
  have hts := atoms_spec (ws := (wa yX2_countWalls cX2_countWalls 3 (some .int))) B.pre
  have hown : s.vm.findClass RX2 = some m.cls := findClass_of_methodNamed B.named
  have hlocks := B.notSynchronized
  subst hsz
  have hD : va_D (pq_B t σ (I, J, ri, rj, rq) s.heap.size) (pq_P t σ (I, J, ri, rj, rq)) := hD0.self
  generalize hAe : pq_B t σ (I, J, ri, rj, rq) s.heap.size = A at hD ⊢
  have hA : ∀ q : Nat, s.heap.size ≤ q → A q := fun q h => by rw [← hAe]; exact Or.inr h
  have hS : va_S A s.heap s.heap [] := va_S.rf
  have hG : GX [] tg σ I ri rj I ri rj rq := ⟨hG0, fun _ _ _ => rfl, fun _ _ _ _ _ => rfl, fun _ _ _ _ _ => rfl⟩
  have hl := lv_entry ([.ref this]) (n := 3) (Nat.le_of_ble_eq_true rfl)
  rw [lg_entry_eq]
  generalize (lg_sl ([.ref this]) ++ List.replicate (3 - (lg_sl ([.ref this])).length) Slot.unset).toArray = ls at hl ⊢
  have hl : lv_has ls 3 [(0, .ref this)] := hl
  refine q_gen (fun Q hQ => ?_)
  have go : ∀ (H : Heap) (locs : List Loc) (ls : Array Slot), va_P D vwCl (pq_P t σ (I, J, ri, rj, rq)) H → va_D A (pq_P t σ (I, J, ri, rj, rq)) → va_S A s.heap H locs → lv_has ls 3 [(0, .ref this)] → W p l e ({ frames := 0, cells := 0, slots := 0, locals := 0 } : Room) s m (List.toArray ([.ref this] : List Value)) below meth c H locs 0 0 Q (F0 m 0 ls []) := by
    intro H locs ls hP hD hS hl
    have hVT : VT 10 σ tg M := vt_10 hSH hL_M hK_M
    have hFr : FR 10 tg σ M (I, J, ri, rj, rq) (I, J, ri, rj, rq) := fr_rf
    obtain ⟨F, hF0⟩ : ∃ F, F = g_X2_countWalls (vI 10 σ M I) (vJ 10 σ M J) (vR 10 σ M ri) (vL 10 σ M rj) (vQ 10 σ M rq) := ⟨_, rfl⟩
    have hF := hF0.trans g_X2_countWalls_e
    refine lv_iconst (v := 0) hx hb dX2_countWalls_0 (by decide +kernel) ?_
    refine lv_istore_n (lv' := [(1, .int 0), (0, .ref this)]) hx hb dX2_countWalls_1 rfl hl (by decide +kernel) rfl (fun ls hl => ?_)
    refine lv_iconst (v := 0) hx hb dX2_countWalls_2 (by decide +kernel) ?_
    refine lv_istore_n (lv' := [(2, .int 0), (1, .int 0), (0, .ref this)]) hx hb dX2_countWalls_3 rfl hl (by decide +kernel) rfl (fun ls hl => ?_)
    have L_488 : ∀ (n_487 : Nat) (x_469 : Int32) (x_470 : Int32) (H : Heap) (locs : List Loc) (ls : Array Slot), rg x_470 0 40 → (40 - (x_470).toInt).toNat < n_487 → F = g_X2_countWalls_L4 (vI 10 σ M I) (vJ 10 σ M J) (vR 10 σ M ri) (vL 10 σ M rj) (vQ 10 σ M rq) n_487 x_469 x_470 → FR 10 tg σ M (I, J, ri, rj, rq) (I, J, ri, rj, rq) → GX [] tg σ I ri rj I ri rj rq → va_P D vwCl (pq_P t σ (I, J, ri, rj, rq)) H → va_D A (pq_P t σ (I, J, ri, rj, rq)) → va_S A s.heap H locs → lv_has ls 3 [(0, .ref this), (1, .int x_469), (2, .int x_470)] → W p l e ({ frames := 0, cells := 0, slots := 0, locals := 0 } : Room) s m (List.toArray ([.ref this] : List Value)) below meth c H locs 0 0 Q (F0 m 4 ls []) := by
      intro n_487
      induction n_487 with
      | zero => intro x_469 x_470 H locs ls h_491 hm_486 hF hFr hG hP hD hS hl; exact absurd hm_486 (Nat.not_lt_zero _)
      | succ n_487 ih_489 =>
        intro x_469 x_470 H locs ls h_491 hm_486 hF hFr hG hP hD hS hl
        replace hF := hF.trans g_X2_countWalls_L4_e
        refine lv_iload_n hx hb dX2_countWalls_4 rfl (lv_at hl 2 rfl) ?_
        refine lv_aload_n hx hb dX2_countWalls_5 rfl (lv_at hl 0 rfl) ?_
        refine pg_f (v := .int (I 65 this)) (C := RX2) (T := TX2) (N := 20) hx hb hts (tw_i inlX2) hown hK hP hL_this hK_this (by decide +kernel) rfl 1 (by decide +kernel) (hts _ (tw_c tw_222)) rfl dX2_countWalls_6 ?_
        have h_492 : rg (I 65 this) 0 40 := GX.rI hG 65 rfl
        replace hF := hF.trans (ap_n (vI_e (f := 65) hO_this (by decide +kernel)))
        refine lv_icmp_ge (tgt := 30) hx hb dX2_countWalls_9 (by decide +kernel) (fun c_494 => ?_) (fun c_494 => ?_)
        · replace hF := hF.trans (if_pos c_494)
          refine lv_iload_n hx hb dX2_countWalls_30 rfl (lv_at hl 1 rfl) ?_
          subst hQ
          exact W.iret (v := x_469) hx hb hr (fun t1 ht hW => ⟨⟨x_469, (σ, I, J, ri, rj, rq), rfl, ⟨rfl, (hF0.symm.trans hF)⟩, by rw [ht]; exact hP, va_K.moved hW.alike hK, hD⟩, hS.F ht⟩) hS.2.2 dX2_countWalls_31
        · replace hF := hF.trans (if_neg c_494)
          have h_497 : rg x_470 0 39 := rg_lt1 (nle c_494) h_491 h_492 (by decide +kernel)
          have h_498 : rg (I 65 this) 1 40 := rg_lt2 (nle c_494) h_491 h_492 (by decide +kernel)
          refine lv_aload_n hx hb dX2_countWalls_12 rfl (lv_at hl 0 rfl) ?_
          obtain ⟨w_499, hR_w_499, hL_w_499, hK_w_499, hN_w_499, hT_w_499⟩ := sh_a hSH 75 (ci := 2) (kd := 13) (len := 40) rfl (by decide +kernel) hL_this hK_this
          have hO_w_499 : w_499 = vrow σ 75 M := vo_k (c := 2) hO_this hR_w_499
          refine pg_f (v := .ref w_499) (C := RX2) (T := TX2) (N := 20) hx hb hts (tw_i inlX2) hown hK hP hL_this hK_this (by decide +kernel) rfl 11 (by decide +kernel) (hts _ (tw_c tw_89)) (pq_hv rfl hR_w_499) dX2_countWalls_13 ?_
          refine lv_iload_n hx hb dX2_countWalls_16 rfl (lv_at hl 2 rfl) ?_
          refine pl_i hx hb hK hP hL_w_499 hK_w_499 hN_w_499 (rg_in h_497 (by decide +kernel)) dX2_countWalls_17 ?_
          refine lv_topi (fun x_500 ex_500 => ?_)
          replace hF := hF.trans (ap_n (vR_r hO_w_499 (by decide +kernel) ex_500))
          have K_508 : ∀  (x_505 : Int32) (H : Heap) (locs : List Loc) (ls : Array Slot), F = g_X2_countWalls_K24 x_470 (g_X2_countWalls_L4 (vI 10 σ M I) (vJ 10 σ M J) (vR 10 σ M ri) (vL 10 σ M rj) (vQ 10 σ M rq) n_487) x_505 → FR 10 tg σ M (I, J, ri, rj, rq) (I, J, ri, rj, rq) → GX [] tg σ I ri rj I ri rj rq → va_P D vwCl (pq_P t σ (I, J, ri, rj, rq)) H → va_D A (pq_P t σ (I, J, ri, rj, rq)) → va_S A s.heap H locs → lv_has ls 3 [(0, .ref this), (1, .int x_505), (2, .int x_470)] → W p l e ({ frames := 0, cells := 0, slots := 0, locals := 0 } : Room) s m (List.toArray ([.ref this] : List Value)) below meth c H locs 0 0 Q (F0 m 24 ls []) := by
            intro x_505 H locs ls hF hFr hG hP hD hS hl
            replace hF := hF.trans g_X2_countWalls_K24_e
            obtain ⟨x_509, ex_509⟩ : ∃ y : Int32, y = x_470 + Int32.ofInt 1 := ⟨_, rfl⟩
            replace hF := hF.trans (ap_n ex_509)
            have h_510 : rg x_509 1 40 := rg_of_eq ex_509 (rg_add h_497 (rg_k (Int32.ofInt 1) 1 rfl) (by decide +kernel))
            refine lv_iinc (v := x_509) (lv' := [(2, .int x_509), (0, .ref this), (1, .int x_505)]) hx hb dX2_countWalls_24 hl (k := 2) rfl ex_509.symm (by decide +kernel) rfl (fun ls hl => ?_)
            refine lv_goto (tgt := 4) hx hb dX2_countWalls_27 (by decide +kernel) ?_
            exact ih_489 x_505 x_509 _ _ _ (rg_w h_510 (by decide +kernel)) (ms_up 1 hm_486 ex_509 rfl (by decide +kernel) h_497 (by decide +kernel) (by decide +kernel)) hF hFr hG hP hD hS (lv_sub hl [1, 2, 0] rfl)
          refine lv_if_le (tgt := 24) hx hb dX2_countWalls_18 (by decide +kernel) (fun c_511 => ?_) (fun c_511 => ?_)
          · replace hF := hF.trans (if_pos c_511)
            have h_514 : rg x_500 (-2147483648) 0 := rg_le1 c_511 (rg_full _) (rg_k (0 : Int32) 0 rfl) (by decide +kernel)
            exact K_508 x_469 _ _ _ hF hFr hG hP hD hS (lv_sub hl [0, 1, 2] rfl)
          · replace hF := hF.trans (if_neg c_511)
            have h_515 : rg x_500 1 2147483647 := rg_lt2 (nle c_511) (rg_k (0 : Int32) 0 rfl) (rg_full _) (by decide +kernel)
            obtain ⟨x_516, ex_516⟩ : ∃ y : Int32, y = x_469 + Int32.ofInt 1 := ⟨_, rfl⟩
            replace hF := hF.trans (ap_n ex_516)
            refine lv_iinc (v := x_516) (lv' := [(1, .int x_516), (0, .ref this), (2, .int x_470)]) hx hb dX2_countWalls_21 hl (k := 1) rfl ex_516.symm (by decide +kernel) rfl (fun ls hl => ?_)
            exact K_508 x_516 _ _ _ hF hFr hG hP hD hS (lv_sub hl [1, 0, 2] rfl)
    exact L_488 _ (0 : Int32) (0 : Int32) _ _ _ (rg_w (rg_k (0 : Int32) 0 rfl) (by decide +kernel)) (Nat.lt_succ_self _) hF hFr hG hP hD hS (lv_sub hl [2, 1, 0] rfl)
  exact go _ _ _ hP hD hS hl

set_option maxHeartbeats 4000000 in
set_option maxRecDepth 100000 in
theorem s_X11_fill_82 (l : Launch) (D : va_G) (t : pq_T) (σ : pq_S) (I : Nat → Nat → Int32) (J : Nat → Nat → Int64) (ri : Nat → Nat → Int32) (rj : Nat → Nat → Int64) (rq : Nat → Nat → Option Nat) (sz : Nat) (tg : Nat → Nat) (hSH : SH σ tg) (hG0 : GS tg σ I ri rq) (a0 : Nat) (a1 : Int32) (hL_a0 : a0 ∈ σ.1) (hK_a0 : σ.2.1 a0 = 13) (hN_a0 : σ.2.2.2 a0 = 32) (hT_a0 : tg a0 = 82) : MetV l yX11_fill (wa yX11_fill cX11_fill 3 none) ({ frames := 0, cells := 0, slots := 0, locals := 0 }) [.ref a0, .int a1] D t σ (I, J, ri, rj, rq) sz 0 0 (fun (u : pq_S × pq_M) => ∃ ri' : Nat → Nat → Int32, u = (σ, I, J, ri', rj, rq) ∧ GX [] tg σ I ri rj I ri' rj rq ∧ (ri' = va_up ri a0 (fil a1 32 (ri a0)))) := by
  refine Met.ofW (cc := cX11_fill) (maxL := 3) (ret := none) (by decide +kernel) rfl ?_
  intro p e s m args below meth c s₁ B hml hv
  obtain ⟨rfl, hsz, hP, hK, hD0, hN⟩ := hv
  have hx := B.exec
  have hb := B.bytes
  have hr := B.returns
  have hts := atoms_spec (ws := (wa yX11_fill cX11_fill 3 none)) B.pre
  have hown : s.vm.findClass RX11 = some m.cls := findClass_of_methodNamed B.named
  have hlocks := B.notSynchronized
  subst hsz
  have hD : va_D (pq_B t σ (I, J, ri, rj, rq) s.heap.size) (pq_P t σ (I, J, ri, rj, rq)) := hD0.self
  generalize hAe : pq_B t σ (I, J, ri, rj, rq) s.heap.size = A at hD ⊢
  have hA : ∀ q : Nat, s.heap.size ≤ q → A q := fun q h => by rw [← hAe]; exact Or.inr h
  have hS : va_S A s.heap s.heap [] := va_S.rf
  have hG : GX [] tg σ I ri rj I ri rj rq := ⟨hG0, fun _ _ _ => rfl, fun _ _ _ _ _ => rfl, fun _ _ _ _ _ => rfl⟩
  have hl := lv_entry ([.ref a0, .int a1]) (n := 3) (Nat.le_of_ble_eq_true rfl)
  rw [lg_entry_eq]
  generalize (lg_sl ([.ref a0, .int a1]) ++ List.replicate (3 - (lg_sl ([.ref a0, .int a1])).length) Slot.unset).toArray = ls at hl ⊢
  have hl : lv_has ls 3 [(0, .ref a0), (1, .int a1)] := hl
  refine q_gen (fun Q hQ => ?_)
  have go : ∀ (H : Heap) (locs : List Loc) (ls : Array Slot), va_P D vwCl (pq_P t σ (I, J, ri, rj, rq)) H → va_D A (pq_P t σ (I, J, ri, rj, rq)) → va_S A s.heap H locs → lv_has ls 3 [(0, .ref a0), (1, .int a1)] → W p l e ({ frames := 0, cells := 0, slots := 0, locals := 0 } : Room) s m (List.toArray ([.ref a0, .int a1] : List Value)) below meth c H locs 0 0 Q (F0 m 0 ls []) := by
    intro H locs ls hP hD hS hl
    refine lv_iconst (v := 0) hx hb dX11_fill_0 (by decide +kernel) ?_
    refine lv_istore_n (lv' := [(2, .int 0), (0, .ref a0), (1, .int a1)]) hx hb dX11_fill_1 rfl hl (by decide +kernel) rfl (fun ls hl => ?_)
    have L_172 : ∀ (n_171 : Nat) (x_157 : Int32) (ri_158 : Nat → Nat → Int32) (H : Heap) (locs : List Loc) (ls : Array Slot), rg x_157 0 32 → (0 ≤ (x_157).toInt) → (ri_158 = va_up ri a0 (fil a1 (x_157).toNatClampNeg (ri a0))) → (32 - (x_157).toInt).toNat < n_171 → GX [] tg σ I ri rj I ri_158 rj rq → va_P D vwCl (pq_P t σ (I, J, ri_158, rj, rq)) H → va_D A (pq_P t σ (I, J, ri_158, rj, rq)) → va_S A s.heap H locs → lv_has ls 3 [(0, .ref a0), (1, .int a1), (2, .int x_157)] → W p l e ({ frames := 0, cells := 0, slots := 0, locals := 0 } : Room) s m (List.toArray ([.ref a0, .int a1] : List Value)) below meth c H locs 0 0 Q (F0 m 2 ls []) := by
      intro n_171
      induction n_171 with
      | zero => intro x_157 ri_158 H locs ls h_177 hrel_178 hrel_179 hm_170 hG hP hD hS hl; exact absurd hm_170 (Nat.not_lt_zero _)
      | succ n_171 ih_173 =>
        intro x_157 ri_158 H locs ls h_177 hrel_178 hrel_179 hm_170 hG hP hD hS hl
        have uh_177 := h_177.1
        have vh_177 := h_177.2
        refine lv_iload_n hx hb dX11_fill_2 rfl (lv_at hl 2 rfl) ?_
        refine lv_aload_n hx hb dX11_fill_3 rfl (lv_at hl 0 rfl) ?_
        refine pn_i (v := 32) hx hb hK hP hL_a0 hK_a0 hN_a0 (by decide +kernel) dX11_fill_4 ?_
        refine lv_icmp_ge (tgt := 18) hx hb dX11_fill_5 (by decide +kernel) (fun c_180 => ?_) (fun c_180 => ?_)
        · have tc_181 : 32 ≤ (x_157).toInt := Int32.le_iff_toInt_le.mp c_180
          have h_182 : rg x_157 32 32 := rg_le2 c_180 (rg_k (32 : Int32) 32 rfl) h_177 (by decide +kernel)
          have uh_182 := h_182.1
          have vh_182 := h_182.2
          subst hQ
          exact W.vret hx hb hr (fun t1 ht hW => ⟨⟨(σ, I, J, ri_158, rj, rq), rfl, ⟨ri_158, rfl, hG, (by rw [hrel_179, show (x_157).toNatClampNeg = 32 from by have z_i := clampE x_157; omega])⟩, by rw [ht]; exact hP, va_K.moved hW.alike hK, hD⟩, hS.F ht⟩) hS.2.2 dX11_fill_18
        · have tc_183 : (x_157).toInt < 32 := Int32.lt_iff_toInt_lt.mp (nle c_180)
          have h_184 : rg x_157 0 31 := rg_lt1 (nle c_180) h_177 (rg_k (32 : Int32) 32 rfl) (by decide +kernel)
          have uh_184 := h_184.1
          have vh_184 := h_184.2
          refine lv_aload_n hx hb dX11_fill_8 rfl (lv_at hl 0 rfl) ?_
          refine lv_iload_n hx hb dX11_fill_9 rfl (lv_at hl 2 rfl) ?_
          refine lv_iload_n hx hb dX11_fill_10 rfl (lv_at hl 1 rfl) ?_
          refine pt_i hx hb hK hP hD hS hL_a0 hK_a0 hN_a0 (rg_in h_184 (by decide +kernel)) dX11_fill_11 (fun r_185 H locs er_185 hP hD hS => ?_)
          have hG := GX.wR hG hSH hT_a0 rfl er_185 (rg_w (rg_full _) (by decide +kernel)) (by decide +kernel)
          obtain ⟨x_186, ex_186⟩ : ∃ y : Int32, y = x_157 + Int32.ofInt 1 := ⟨_, rfl⟩
          have h_187 : rg x_186 1 32 := rg_of_eq ex_186 (rg_add h_184 (rg_k (Int32.ofInt 1) 1 rfl) (by decide +kernel))
          have uh_187 := h_187.1
          have vh_187 := h_187.2
          have tx_186 : (x_186).toInt = (x_157).toInt + 1 := by rw [ex_186]; exact i_add_rg (a2 := (x_157).toInt) (b2 := 1) rfl rfl h_184 (rg_k (Int32.ofInt 1) 1 rfl) (by decide +kernel)
          refine lv_iinc (v := x_186) (lv' := [(2, .int x_186), (0, .ref a0), (1, .int a1)]) hx hb dX11_fill_12 hl (k := 2) rfl ex_186.symm (by decide +kernel) rfl (fun ls hl => ?_)
          refine lv_goto (tgt := 2) hx hb dX11_fill_15 (by decide +kernel) ?_
          exact ih_173 x_186 r_185 _ _ _ (rg_w h_187 (by decide +kernel)) (by omega) (fil_s hrel_179 er_185 (by have z_i := clampE x_157; have z_n := clampE x_186; omega)) (ms_up 1 hm_170 ex_186 rfl (by decide +kernel) h_184 (by decide +kernel) (by decide +kernel)) hG hP hD hS (lv_sub hl [1, 2, 0] rfl)
    exact L_172 _ (0 : Int32) ri _ _ _ (rg_w (rg_k (0 : Int32) 0 rfl) (by decide +kernel)) (by have k0 : (0 : Int32).toInt = 0 := rfl; omega) fil_0 (Nat.lt_succ_self _) hG hP hD hS (lv_sub hl [1, 2, 0] rfl)
  exact go _ _ _ hP hD hS hl

set_option maxRecDepth 100000 in
def g_X2_measure_K41 (x_1237 : Int32) (ri_1238 : Nat → Nat → Int32) (k_g_X2_measure_L4 : (Int32) → (Int32) → (Nat → Nat → Int32) → vM) (x_1426 : Int32) : vM := (ap1 (va_up ri_1238 83 (upd (ri_1238 83) (x_1237).toNatClampNeg x_1426)) fun (r_1473 : Nat → Nat → Int32) => (ap1 (x_1237 + Int32.ofInt 1) fun (x_1474 : Int32) => (k_g_X2_measure_L4 x_1426 x_1474 r_1473)))
set_option maxRecDepth 100000 in
theorem g_X2_measure_K41_e {x_1237 : Int32} {ri_1238 : Nat → Nat → Int32} {k_g_X2_measure_L4 : (Int32) → (Int32) → (Nat → Nat → Int32) → vM} {x_1426 : Int32} : g_X2_measure_K41 x_1237 ri_1238 k_g_X2_measure_L4 x_1426  = (ap1 (va_up ri_1238 83 (upd (ri_1238 83) (x_1237).toNatClampNeg x_1426)) fun (r_1473 : Nat → Nat → Int32) => (ap1 (x_1237 + Int32.ofInt 1) fun (x_1474 : Int32) => (k_g_X2_measure_L4 x_1426 x_1474 r_1473))) := rfl
set_option maxRecDepth 100000 in
def g_X2_measure_L18 (a0 : Int32) (I : Nat → Int32) (J : Nat → Int64) (rj : Nat → Nat → Int64) (rq : Nat → Nat → Option Nat) (x_1237 : Int32) (ri_1238 : Nat → Nat → Int32) (k_g_X2_measure_L4 : (Int32) → (Int32) → (Nat → Nat → Int32) → vM) : Nat → (Int32) → vM
  | 0, x_1426 => (I, J, ri_1238, rj, rq)
  | n_1448 + 1, x_1426 => (if x_1426 ≤ (0 : Int32) then (g_X2_measure_K41 x_1237 ri_1238 k_g_X2_measure_L4 x_1426 ) else (ap1 (x_1426 * x_1426) fun (x_1481 : Int32) => (ap1 (x_1237 * x_1237) fun (x_1483 : Int32) => (ap1 (x_1481 + x_1483) fun (x_1485 : Int32) => (ap1 (a0 * a0) fun (x_1487 : Int32) => (if x_1485 ≤ x_1487 then (g_X2_measure_K41 x_1237 ri_1238 k_g_X2_measure_L4 x_1426 ) else (ap1 (x_1426 + Int32.ofInt (-1)) fun (x_1494 : Int32) => ((g_X2_measure_L18 a0 I J rj rq x_1237 ri_1238 k_g_X2_measure_L4 n_1448) x_1494))))))))
set_option maxRecDepth 100000 in
theorem g_X2_measure_L18_e {a0 : Int32} {I : Nat → Int32} {J : Nat → Int64} {rj : Nat → Nat → Int64} {rq : Nat → Nat → Option Nat} {x_1237 : Int32} {ri_1238 : Nat → Nat → Int32} {k_g_X2_measure_L4 : (Int32) → (Int32) → (Nat → Nat → Int32) → vM} {n_1448 : Nat} {x_1426 : Int32} : g_X2_measure_L18 a0 I J rj rq x_1237 ri_1238 k_g_X2_measure_L4 (n_1448 + 1) x_1426 = (if x_1426 ≤ (0 : Int32) then (g_X2_measure_K41 x_1237 ri_1238 k_g_X2_measure_L4 x_1426 ) else (ap1 (x_1426 * x_1426) fun (x_1481 : Int32) => (ap1 (x_1237 * x_1237) fun (x_1483 : Int32) => (ap1 (x_1481 + x_1483) fun (x_1485 : Int32) => (ap1 (a0 * a0) fun (x_1487 : Int32) => (if x_1485 ≤ x_1487 then (g_X2_measure_K41 x_1237 ri_1238 k_g_X2_measure_L4 x_1426 ) else (ap1 (x_1426 + Int32.ofInt (-1)) fun (x_1494 : Int32) => ((g_X2_measure_L18 a0 I J rj rq x_1237 ri_1238 k_g_X2_measure_L4 n_1448) x_1494)))))))) := rfl
set_option maxRecDepth 100000 in
def g_X2_measure_L4 (a0 : Int32) (I : Nat → Int32) (J : Nat → Int64) (rj : Nat → Nat → Int64) (rq : Nat → Nat → Option Nat) : Nat → (Int32) → (Int32) → (Nat → Nat → Int32) → vM
  | 0, x_1236, x_1237, ri_1238 => (I, J, ri_1238, rj, rq)
  | n_1351 + 1, x_1236, x_1237, ri_1238 => (if a0 < x_1237 then (I, J, ri_1238, rj, rq) else (g_X2_measure_L18 a0 I J rj rq x_1237 ri_1238 (g_X2_measure_L4 a0 I J rj rq n_1351) (((x_1236).toInt - 0).toNat + 1) x_1236))
set_option maxRecDepth 100000 in
theorem g_X2_measure_L4_e {a0 : Int32} {I : Nat → Int32} {J : Nat → Int64} {rj : Nat → Nat → Int64} {rq : Nat → Nat → Option Nat} {n_1351 : Nat} {x_1236 : Int32} {x_1237 : Int32} {ri_1238 : Nat → Nat → Int32} : g_X2_measure_L4 a0 I J rj rq (n_1351 + 1) x_1236 x_1237 ri_1238 = (if a0 < x_1237 then (I, J, ri_1238, rj, rq) else (g_X2_measure_L18 a0 I J rj rq x_1237 ri_1238 (g_X2_measure_L4 a0 I J rj rq n_1351) (((x_1236).toInt - 0).toNat + 1) x_1236)) := rfl
set_option maxRecDepth 100000 in
def g_X2_measure (a0 : Int32) (I : Nat → Int32) (J : Nat → Int64) (ri : Nat → Nat → Int32) (rj : Nat → Nat → Int64) (rq : Nat → Nat → Option Nat) : vM := (g_X2_measure_L4 a0 I J rj rq ((21 - ((0 : Int32)).toInt).toNat + 1) a0 (0 : Int32) ri)
set_option maxRecDepth 100000 in
theorem g_X2_measure_e {a0 : Int32} {I : Nat → Int32} {J : Nat → Int64} {ri : Nat → Nat → Int32} {rj : Nat → Nat → Int64} {rq : Nat → Nat → Option Nat} : g_X2_measure a0 I J ri rj rq = (g_X2_measure_L4 a0 I J rj rq ((21 - ((0 : Int32)).toInt).toNat + 1) a0 (0 : Int32) ri) := rfl
set_option maxHeartbeats 4000000 in
set_option maxRecDepth 100000 in
theorem s_X2_measure (l : Launch) (D : va_G) (t : pq_T) (σ : pq_S) (I : Nat → Nat → Int32) (J : Nat → Nat → Int64) (ri : Nat → Nat → Int32) (rj : Nat → Nat → Int64) (rq : Nat → Nat → Option Nat) (sz : Nat) (tg : Nat → Nat) (hSH : SH σ tg) (hG0 : GS tg σ I ri rq) (this : Nat) (a0 : Int32) (hL_this : this ∈ σ.1) (hK_this : σ.2.1 this = 2) (h_a0 : rg a0 0 20) (M : Nat) (hL_M : M ∈ σ.1) (hK_M : σ.2.1 M = 10) (hO_this : this = vo σ 2 M) : MetV l yX2_measure (wa yX2_measure cX2_measure 4 none) ({ frames := 0, cells := 0, slots := 0, locals := 0 }) [.ref this, .int a0] D t σ (I, J, ri, rj, rq) sz 0 0 (fun (u : pq_S × pq_M) => ∃ ri' : Nat → Nat → Int32, u = (σ, I, J, ri', rj, rq) ∧ GX [] tg σ I ri rj I ri' rj rq ∧ g_X2_measure a0 (vI 10 σ M I) (vJ 10 σ M J) (vR 10 σ M ri) (vL 10 σ M rj) (vQ 10 σ M rq) = ((vI 10 σ M I), (vJ 10 σ M J), (vR 10 σ M ri'), (vL 10 σ M rj), (vQ 10 σ M rq)) ∧ FR 10 tg σ M (I, J, ri, rj, rq) (I, J, ri', rj, rq)) := by
  refine Met.ofW (cc := cX2_measure) (maxL := 4) (ret := none) (by decide +kernel) rfl ?_
  intro p e s m args below meth c s₁ B hml hv
  obtain ⟨rfl, hsz, hP, hK, hD0, hN⟩ := hv
  have hx := B.exec
  have hb := B.bytes
  have hr := B.returns
  have hts := atoms_spec (ws := (wa yX2_measure cX2_measure 4 none)) B.pre
  have hown : s.vm.findClass RX2 = some m.cls := findClass_of_methodNamed B.named
  have hlocks := B.notSynchronized
  subst hsz
  have hD : va_D (pq_B t σ (I, J, ri, rj, rq) s.heap.size) (pq_P t σ (I, J, ri, rj, rq)) := hD0.self
  generalize hAe : pq_B t σ (I, J, ri, rj, rq) s.heap.size = A at hD ⊢
  have hA : ∀ q : Nat, s.heap.size ≤ q → A q := fun q h => by rw [← hAe]; exact Or.inr h
  have hS : va_S A s.heap s.heap [] := va_S.rf
  have hG : GX [] tg σ I ri rj I ri rj rq := ⟨hG0, fun _ _ _ => rfl, fun _ _ _ _ _ => rfl, fun _ _ _ _ _ => rfl⟩
  have hl := lv_entry ([.ref this, .int a0]) (n := 4) (Nat.le_of_ble_eq_true rfl)
  rw [lg_entry_eq]
  generalize (lg_sl ([.ref this, .int a0]) ++ List.replicate (4 - (lg_sl ([.ref this, .int a0])).length) Slot.unset).toArray = ls at hl ⊢
  have hl : lv_has ls 4 [(0, .ref this), (1, .int a0)] := hl
  refine q_gen (fun Q hQ => ?_)
  have go : ∀ (H : Heap) (locs : List Loc) (ls : Array Slot), va_P D vwCl (pq_P t σ (I, J, ri, rj, rq)) H → va_D A (pq_P t σ (I, J, ri, rj, rq)) → va_S A s.heap H locs → lv_has ls 4 [(0, .ref this), (1, .int a0)] → W p l e ({ frames := 0, cells := 0, slots := 0, locals := 0 } : Room) s m (List.toArray ([.ref this, .int a0] : List Value)) below meth c H locs 0 0 Q (F0 m 0 ls []) := by
    intro H locs ls hP hD hS hl
    have hVT : VT 10 σ tg M := vt_10 hSH hL_M hK_M
    have hFr : FR 10 tg σ M (I, J, ri, rj, rq) (I, J, ri, rj, rq) := fr_rf
    obtain ⟨F, hF0⟩ : ∃ F, F = g_X2_measure a0 (vI 10 σ M I) (vJ 10 σ M J) (vR 10 σ M ri) (vL 10 σ M rj) (vQ 10 σ M rq) := ⟨_, rfl⟩
    have hF := hF0.trans g_X2_measure_e
    refine lv_iload_n hx hb dX2_measure_0 rfl (lv_at hl 1 rfl) ?_
    refine lv_istore_n (lv' := [(2, .int a0), (0, .ref this), (1, .int a0)]) hx hb dX2_measure_1 rfl hl (by decide +kernel) rfl (fun ls hl => ?_)
    refine lv_iconst (v := 0) hx hb dX2_measure_2 (by decide +kernel) ?_
    refine lv_istore_n (lv' := [(3, .int 0), (2, .int a0), (0, .ref this), (1, .int a0)]) hx hb dX2_measure_3 rfl hl (by decide +kernel) rfl (fun ls hl => ?_)
    have L_1352 : ∀ (n_1351 : Nat) (x_1236 : Int32) (x_1237 : Int32) (ri_1238 : Nat → Nat → Int32) (H : Heap) (locs : List Loc) (ls : Array Slot), rg x_1236 0 20 → rg x_1237 0 21 → (21 - (x_1237).toInt).toNat < n_1351 → F = g_X2_measure_L4 a0 (vI 10 σ M I) (vJ 10 σ M J) (vL 10 σ M rj) (vQ 10 σ M rq) n_1351 x_1236 x_1237 (vR 10 σ M ri_1238) → FR 10 tg σ M (I, J, ri, rj, rq) (I, J, ri_1238, rj, rq) → GX [] tg σ I ri rj I ri_1238 rj rq → va_P D vwCl (pq_P t σ (I, J, ri_1238, rj, rq)) H → va_D A (pq_P t σ (I, J, ri_1238, rj, rq)) → va_S A s.heap H locs → lv_has ls 4 [(0, .ref this), (1, .int a0), (2, .int x_1236), (3, .int x_1237)] → W p l e ({ frames := 0, cells := 0, slots := 0, locals := 0 } : Room) s m (List.toArray ([.ref this, .int a0] : List Value)) below meth c H locs 0 0 Q (F0 m 4 ls []) := by
      intro n_1351
      induction n_1351 with
      | zero => intro x_1236 x_1237 ri_1238 H locs ls h_1356 h_1357 hm_1350 hF hFr hG hP hD hS hl; exact absurd hm_1350 (Nat.not_lt_zero _)
      | succ n_1351 ih_1353 =>
        intro x_1236 x_1237 ri_1238 H locs ls h_1356 h_1357 hm_1350 hF hFr hG hP hD hS hl
        replace hF := hF.trans g_X2_measure_L4_e
        refine lv_iload_n hx hb dX2_measure_4 rfl (lv_at hl 3 rfl) ?_
        refine lv_iload_n hx hb dX2_measure_5 rfl (lv_at hl 1 rfl) ?_
        refine lv_icmp_gt (tgt := 54) hx hb dX2_measure_6 (by decide +kernel) (fun c_1358 => ?_) (fun c_1358 => ?_)
        · replace hF := hF.trans (if_pos c_1358)
          have h_1361 : rg x_1237 1 21 := rg_lt2 c_1358 h_a0 h_1357 (by decide +kernel)
          subst hQ
          exact W.vret hx hb hr (fun t1 ht hW => ⟨⟨(σ, I, J, ri_1238, rj, rq), rfl, ⟨ri_1238, rfl, hG, (hF0.symm.trans hF), hFr⟩, by rw [ht]; exact hP, va_K.moved hW.alike hK, hD⟩, hS.F ht⟩) hS.2.2 dX2_measure_54
        · replace hF := hF.trans (if_neg c_1358)
          have h_1362 : rg x_1237 0 20 := rg_le1 (nlt c_1358) h_1357 h_a0 (by decide +kernel)
          refine lv_iload_n hx hb dX2_measure_9 rfl (lv_at hl 3 rfl) ?_
          refine lv_aload_n hx hb dX2_measure_10 rfl (lv_at hl 0 rfl) ?_
          obtain ⟨w_1363, hR_w_1363, hL_w_1363, hK_w_1363, hN_w_1363, hT_w_1363⟩ := sh_a hSH 83 (ci := 2) (kd := 13) (len := 21) rfl (by decide +kernel) hL_this hK_this
          have hO_w_1363 : w_1363 = vrow σ 83 M := vo_k (c := 2) hO_this hR_w_1363
          refine pg_f (v := .ref w_1363) (C := RX2) (T := TX2) (N := 20) hx hb hts (tw_i inlX2) hown hK hP hL_this hK_this (by decide +kernel) rfl 19 (by decide +kernel) (hts _ (tw_c tw_100)) (pq_hv rfl hR_w_1363) dX2_measure_11 ?_
          refine pn_i (v := 21) hx hb hK hP hL_w_1363 hK_w_1363 hN_w_1363 (by decide +kernel) dX2_measure_14 ?_
          refine lv_icmp_ge (tgt := 54) hx hb dX2_measure_15 (by decide +kernel) (fun c_1364 => ?_) (fun c_1364 => ?_)
          · exact (rg_empty (rg_le2 c_1364 (rg_k (21 : Int32) 21 rfl) h_1362 (lo := 21) (hi := 20) (by decide +kernel)) (by decide +kernel)).elim
          · have L_1449 : ∀ (n_1448 : Nat) (x_1426 : Int32) (H : Heap) (locs : List Loc) (ls : Array Slot), rg x_1426 0 20 → ((x_1426).toInt - 0).toNat < n_1448 → F = g_X2_measure_L18 a0 (vI 10 σ M I) (vJ 10 σ M J) (vL 10 σ M rj) (vQ 10 σ M rq) x_1237 (vR 10 σ M ri_1238) (g_X2_measure_L4 a0 (vI 10 σ M I) (vJ 10 σ M J) (vL 10 σ M rj) (vQ 10 σ M rq) n_1351) n_1448 x_1426 → FR 10 tg σ M (I, J, ri, rj, rq) (I, J, ri_1238, rj, rq) → GX [] tg σ I ri rj I ri_1238 rj rq → va_P D vwCl (pq_P t σ (I, J, ri_1238, rj, rq)) H → va_D A (pq_P t σ (I, J, ri_1238, rj, rq)) → va_S A s.heap H locs → lv_has ls 4 [(0, .ref this), (1, .int a0), (2, .int x_1426), (3, .int x_1237)] → W p l e ({ frames := 0, cells := 0, slots := 0, locals := 0 } : Room) s m (List.toArray ([.ref this, .int a0] : List Value)) below meth c H locs 0 0 Q (F0 m 18 ls []) := by
              intro n_1448
              induction n_1448 with
              | zero => intro x_1426 H locs ls h_1452 hm_1447 hF hFr hG hP hD hS hl; exact absurd hm_1447 (Nat.not_lt_zero _)
              | succ n_1448 ih_1450 =>
                intro x_1426 H locs ls h_1452 hm_1447 hF hFr hG hP hD hS hl
                replace hF := hF.trans g_X2_measure_L18_e
                refine lv_iload_n hx hb dX2_measure_18 rfl (lv_at hl 2 rfl) ?_
                have K_1472 : ∀  (H : Heap) (locs : List Loc) (ls : Array Slot), F = g_X2_measure_K41 x_1237 (vR 10 σ M ri_1238) (g_X2_measure_L4 a0 (vI 10 σ M I) (vJ 10 σ M J) (vL 10 σ M rj) (vQ 10 σ M rq) n_1351) x_1426  → FR 10 tg σ M (I, J, ri, rj, rq) (I, J, ri_1238, rj, rq) → GX [] tg σ I ri rj I ri_1238 rj rq → va_P D vwCl (pq_P t σ (I, J, ri_1238, rj, rq)) H → va_D A (pq_P t σ (I, J, ri_1238, rj, rq)) → va_S A s.heap H locs → lv_has ls 4 [(0, .ref this), (1, .int a0), (2, .int x_1426), (3, .int x_1237)] → W p l e ({ frames := 0, cells := 0, slots := 0, locals := 0 } : Room) s m (List.toArray ([.ref this, .int a0] : List Value)) below meth c H locs 0 0 Q (F0 m 41 ls []) := by
                  intro H locs ls hF hFr hG hP hD hS hl
                  replace hF := hF.trans g_X2_measure_K41_e
                  refine lv_aload_n hx hb dX2_measure_41 rfl (lv_at hl 0 rfl) ?_
                  refine pg_f (v := .ref w_1363) (C := RX2) (T := TX2) (N := 20) hx hb hts (tw_i inlX2) hown hK hP hL_this hK_this (by decide +kernel) rfl 19 (by decide +kernel) (hts _ (tw_c tw_100)) (pq_hv rfl hR_w_1363) dX2_measure_42 ?_
                  refine lv_iload_n hx hb dX2_measure_45 rfl (lv_at hl 3 rfl) ?_
                  refine lv_iload_n hx hb dX2_measure_46 rfl (lv_at hl 2 rfl) ?_
                  refine pt_i hx hb hK hP hD hS hL_w_1363 hK_w_1363 hN_w_1363 (rg_in h_1362 (by decide +kernel)) dX2_measure_47 (fun r_1473 H locs er_1473 hP hD hS => ?_)
                  replace hFr := fr_R hFr hO_w_1363 (by decide +kernel) er_1473
                  replace hF := hF.trans (ap_n (vR_st hVT hO_w_1363 (by decide +kernel) er_1473))
                  have hG := GX.wR hG hSH hT_w_1363 rfl er_1473 (rg_w h_1452 (by decide +kernel)) (by decide +kernel)
                  obtain ⟨x_1474, ex_1474⟩ : ∃ y : Int32, y = x_1237 + Int32.ofInt 1 := ⟨_, rfl⟩
                  replace hF := hF.trans (ap_n ex_1474)
                  have h_1475 : rg x_1474 1 21 := rg_of_eq ex_1474 (rg_add h_1362 (rg_k (Int32.ofInt 1) 1 rfl) (by decide +kernel))
                  refine lv_iinc (v := x_1474) (lv' := [(3, .int x_1474), (0, .ref this), (1, .int a0), (2, .int x_1426)]) hx hb dX2_measure_48 hl (k := 3) rfl ex_1474.symm (by decide +kernel) rfl (fun ls hl => ?_)
                  refine lv_goto (tgt := 4) hx hb dX2_measure_51 (by decide +kernel) ?_
                  exact ih_1353 x_1426 x_1474 r_1473 _ _ _ (rg_w h_1452 (by decide +kernel)) (rg_w h_1475 (by decide +kernel)) (ms_up 1 hm_1350 ex_1474 rfl (by decide +kernel) h_1362 (by decide +kernel) (by decide +kernel)) hF hFr hG hP hD hS (lv_sub hl [1, 2, 3, 0] rfl)
                refine lv_if_le (tgt := 41) hx hb dX2_measure_19 (by decide +kernel) (fun c_1476 => ?_) (fun c_1476 => ?_)
                · replace hF := hF.trans (if_pos c_1476)
                  have h_1479 : rg x_1426 0 0 := rg_le1 c_1476 h_1452 (rg_k (0 : Int32) 0 rfl) (by decide +kernel)
                  exact K_1472 _ _ _ hF hFr hG hP hD hS (lv_sub hl [0, 1, 2, 3] rfl)
                · replace hF := hF.trans (if_neg c_1476)
                  have h_1480 : rg x_1426 1 20 := rg_lt2 (nle c_1476) (rg_k (0 : Int32) 0 rfl) h_1452 (by decide +kernel)
                  refine lv_iload_n hx hb dX2_measure_22 rfl (lv_at hl 2 rfl) ?_
                  refine lv_iload_n hx hb dX2_measure_23 rfl (lv_at hl 2 rfl) ?_
                  refine lv_imul hx hb dX2_measure_24 ?_
                  refine lv_topi (fun x_1481 ex_1481 => ?_)
                  replace hF := hF.trans (ap_n ex_1481)
                  have h_1482 : rg x_1481 1 400 := rg_of_eq ex_1481 (rg_mul h_1480 h_1480 (by decide +kernel))
                  refine lv_iload_n hx hb dX2_measure_25 rfl (lv_at hl 3 rfl) ?_
                  refine lv_iload_n hx hb dX2_measure_26 rfl (lv_at hl 3 rfl) ?_
                  refine lv_imul hx hb dX2_measure_27 ?_
                  refine lv_topi (fun x_1483 ex_1483 => ?_)
                  replace hF := hF.trans (ap_n ex_1483)
                  have h_1484 : rg x_1483 0 400 := rg_of_eq ex_1483 (rg_mul h_1362 h_1362 (by decide +kernel))
                  refine lv_iadd hx hb dX2_measure_28 ?_
                  refine lv_topi (fun x_1485 ex_1485 => ?_)
                  replace hF := hF.trans (ap_n ex_1485)
                  have h_1486 : rg x_1485 1 800 := rg_of_eq ex_1485 (rg_add h_1482 h_1484 (by decide +kernel))
                  refine lv_iload_n hx hb dX2_measure_29 rfl (lv_at hl 1 rfl) ?_
                  refine lv_iload_n hx hb dX2_measure_30 rfl (lv_at hl 1 rfl) ?_
                  refine lv_imul hx hb dX2_measure_31 ?_
                  refine lv_topi (fun x_1487 ex_1487 => ?_)
                  replace hF := hF.trans (ap_n ex_1487)
                  have h_1488 : rg x_1487 0 400 := rg_of_eq ex_1487 (rg_mul h_a0 h_a0 (by decide +kernel))
                  refine lv_icmp_le (tgt := 41) hx hb dX2_measure_32 (by decide +kernel) (fun c_1489 => ?_) (fun c_1489 => ?_)
                  · replace hF := hF.trans (if_pos c_1489)
                    have h_1492 : rg x_1485 1 400 := rg_le1 c_1489 h_1486 h_1488 (by decide +kernel)
                    have h_1493 : rg x_1487 1 400 := rg_le2 c_1489 h_1486 h_1488 (by decide +kernel)
                    exact K_1472 _ _ _ hF hFr hG hP hD hS (lv_sub hl [0, 1, 2, 3] rfl)
                  · replace hF := hF.trans (if_neg c_1489)
                    obtain ⟨x_1494, ex_1494⟩ : ∃ y : Int32, y = x_1426 + Int32.ofInt (-1) := ⟨_, rfl⟩
                    replace hF := hF.trans (ap_n ex_1494)
                    have h_1495 : rg x_1494 0 19 := rg_of_eq ex_1494 (rg_add h_1480 (rg_k (Int32.ofInt (-1)) (-1) rfl) (by decide +kernel))
                    refine lv_iinc (v := x_1494) (lv' := [(2, .int x_1494), (0, .ref this), (1, .int a0), (3, .int x_1237)]) hx hb dX2_measure_35 hl (k := 2) rfl ex_1494.symm (by decide +kernel) rfl (fun ls hl => ?_)
                    refine lv_goto (tgt := 18) hx hb dX2_measure_38 (by decide +kernel) ?_
                    exact ih_1450 x_1494 _ _ _ (rg_w h_1495 (by decide +kernel)) (ms_dn 1 hm_1447 ex_1494 rfl (by decide +kernel) h_1480 (by decide +kernel) (by decide +kernel)) hF hFr hG hP hD hS (lv_sub hl [1, 2, 0, 3] rfl)
            exact L_1449 _ x_1236 _ _ _ (rg_w h_1356 (by decide +kernel)) (Nat.lt_succ_self _) hF hFr hG hP hD hS (lv_sub hl [0, 1, 2, 3] rfl)
    exact L_1352 _ a0 (0 : Int32) ri _ _ _ (rg_w h_a0 (by decide +kernel)) (rg_w (rg_k (0 : Int32) 0 rfl) (by decide +kernel)) (Nat.lt_succ_self _) hF hFr hG hP hD hS (lv_sub hl [2, 3, 1, 0] rfl)
  exact go _ _ _ hP hD hS hl

set_option maxRecDepth 100000 in
def g_J6_bitCount_0f7a4 (a0 : Int32) : Int32 := (ap1 ((a0.toUInt32 >>> ((1 : Int32).toUInt32 &&& Int32.toUInt32 31)).toInt32) fun (x_1 : Int32) => (ap1 (x_1 &&& (1431655765 : Int32)) fun (x_2 : Int32) => (ap1 (a0 - x_2) fun (x_3 : Int32) => (ap1 (x_3 &&& (858993459 : Int32)) fun (x_4 : Int32) => (ap1 ((x_3.toUInt32 >>> ((2 : Int32).toUInt32 &&& Int32.toUInt32 31)).toInt32) fun (x_5 : Int32) => (ap1 (x_5 &&& (858993459 : Int32)) fun (x_6 : Int32) => (ap1 (x_4 + x_6) fun (x_7 : Int32) => (ap1 ((x_7.toUInt32 >>> ((4 : Int32).toUInt32 &&& Int32.toUInt32 31)).toInt32) fun (x_8 : Int32) => (ap1 (x_7 + x_8) fun (x_9 : Int32) => (ap1 (x_9 &&& (252645135 : Int32)) fun (x_10 : Int32) => (ap1 ((x_10.toUInt32 >>> ((8 : Int32).toUInt32 &&& Int32.toUInt32 31)).toInt32) fun (x_11 : Int32) => (ap1 (x_10 + x_11) fun (x_12 : Int32) => (ap1 ((x_12.toUInt32 >>> ((16 : Int32).toUInt32 &&& Int32.toUInt32 31)).toInt32) fun (x_13 : Int32) => (ap1 (x_12 + x_13) fun (x_14 : Int32) => (ap1 (x_14 &&& (63 : Int32)) fun (x_15 : Int32) => x_15)))))))))))))))
set_option maxRecDepth 100000 in
theorem g_J6_bitCount_0f7a4_e {a0 : Int32} : g_J6_bitCount_0f7a4 a0 = (ap1 ((a0.toUInt32 >>> ((1 : Int32).toUInt32 &&& Int32.toUInt32 31)).toInt32) fun (x_1 : Int32) => (ap1 (x_1 &&& (1431655765 : Int32)) fun (x_2 : Int32) => (ap1 (a0 - x_2) fun (x_3 : Int32) => (ap1 (x_3 &&& (858993459 : Int32)) fun (x_4 : Int32) => (ap1 ((x_3.toUInt32 >>> ((2 : Int32).toUInt32 &&& Int32.toUInt32 31)).toInt32) fun (x_5 : Int32) => (ap1 (x_5 &&& (858993459 : Int32)) fun (x_6 : Int32) => (ap1 (x_4 + x_6) fun (x_7 : Int32) => (ap1 ((x_7.toUInt32 >>> ((4 : Int32).toUInt32 &&& Int32.toUInt32 31)).toInt32) fun (x_8 : Int32) => (ap1 (x_7 + x_8) fun (x_9 : Int32) => (ap1 (x_9 &&& (252645135 : Int32)) fun (x_10 : Int32) => (ap1 ((x_10.toUInt32 >>> ((8 : Int32).toUInt32 &&& Int32.toUInt32 31)).toInt32) fun (x_11 : Int32) => (ap1 (x_10 + x_11) fun (x_12 : Int32) => (ap1 ((x_12.toUInt32 >>> ((16 : Int32).toUInt32 &&& Int32.toUInt32 31)).toInt32) fun (x_13 : Int32) => (ap1 (x_12 + x_13) fun (x_14 : Int32) => (ap1 (x_14 &&& (63 : Int32)) fun (x_15 : Int32) => x_15))))))))))))))) := rfl
set_option maxHeartbeats 4000000 in
set_option maxRecDepth 100000 in
theorem s_J6_bitCount_0f7a4 (l : Launch) (D : va_G) (t : pq_T) (σ : pq_S) (I : Nat → Nat → Int32) (J : Nat → Nat → Int64) (ri : Nat → Nat → Int32) (rj : Nat → Nat → Int64) (rq : Nat → Nat → Option Nat) (sz : Nat) (tg : Nat → Nat) (hSH : SH σ tg) (hG0 : GS tg σ I ri rq) (a0 : Int32) : MetI l yJ6_bitCount_0f7a4 (wa yJ6_bitCount_0f7a4 cJ6_bitCount_0f7a4 1 (some .int)) ({ frames := 0, cells := 0, slots := 0, locals := 0 }) [.int a0] D t σ (I, J, ri, rj, rq) sz 0 0 (fun (r : Int32) (u : pq_S × pq_M) => u = (σ, I, J, ri, rj, rq) ∧ g_J6_bitCount_0f7a4 a0 = r) := by
  refine Met.ofW (cc := cJ6_bitCount_0f7a4) (maxL := 1) (ret := (some .int)) (by decide +kernel) rfl ?_
  intro p e s m args below meth c s₁ B hml hv
  obtain ⟨rfl, hsz, hP, hK, hD0, hN⟩ := hv
  have hx := B.exec
  have hb := B.bytes
  have hr := B.returns
  have hts := atoms_spec (ws := (wa yJ6_bitCount_0f7a4 cJ6_bitCount_0f7a4 1 (some .int))) B.pre
  have hown : s.vm.findClass RJ6 = some m.cls := findClass_of_methodNamed B.named
  have hlocks := B.notSynchronized
  subst hsz
  have hD : va_D (pq_B t σ (I, J, ri, rj, rq) s.heap.size) (pq_P t σ (I, J, ri, rj, rq)) := hD0.self
  generalize hAe : pq_B t σ (I, J, ri, rj, rq) s.heap.size = A at hD ⊢
  have hA : ∀ q : Nat, s.heap.size ≤ q → A q := fun q h => by rw [← hAe]; exact Or.inr h
  have hS : va_S A s.heap s.heap [] := va_S.rf
  have hG : GX [] tg σ I ri rj I ri rj rq := ⟨hG0, fun _ _ _ => rfl, fun _ _ _ _ _ => rfl, fun _ _ _ _ _ => rfl⟩
  have hl := lv_entry ([.int a0]) (n := 1) (Nat.le_of_ble_eq_true rfl)
  rw [lg_entry_eq]
  generalize (lg_sl ([.int a0]) ++ List.replicate (1 - (lg_sl ([.int a0])).length) Slot.unset).toArray = ls at hl ⊢
  have hl : lv_has ls 1 [(0, .int a0)] := hl
  refine q_gen (fun Q hQ => ?_)
  have go : ∀ (H : Heap) (locs : List Loc) (ls : Array Slot), va_P D vwCl (pq_P t σ (I, J, ri, rj, rq)) H → va_D A (pq_P t σ (I, J, ri, rj, rq)) → va_S A s.heap H locs → lv_has ls 1 [(0, .int a0)] → W p l e ({ frames := 0, cells := 0, slots := 0, locals := 0 } : Room) s m (List.toArray ([.int a0] : List Value)) below meth c H locs 0 0 Q (F0 m 0 ls []) := by
    intro H locs ls hP hD hS hl
    obtain ⟨F, hF0⟩ : ∃ F, F = g_J6_bitCount_0f7a4 a0 := ⟨_, rfl⟩
    have hF := hF0.trans g_J6_bitCount_0f7a4_e
    refine lv_iload_n hx hb dJ6_bitCount_0f7a4_0 rfl (lv_at hl 0 rfl) ?_
    refine lv_iload_n hx hb dJ6_bitCount_0f7a4_1 rfl (lv_at hl 0 rfl) ?_
    refine lv_iconst (v := 1) hx hb dJ6_bitCount_0f7a4_2 (by decide +kernel) ?_
    refine lv_iushr hx hb dJ6_bitCount_0f7a4_3 rfl ?_
    refine lv_topi (fun x_1 ex_1 => ?_)
    replace hF := hF.trans (ap_n ex_1)
    refine lv_ldcw hx hb hown (hts _ (tw_c tw_1150)) dJ6_bitCount_0f7a4_4 ?_
    refine lv_iand hx hb dJ6_bitCount_0f7a4_7 ?_
    refine lv_topi (fun x_2 ex_2 => ?_)
    replace hF := hF.trans (ap_n ex_2)
    refine lv_isub hx hb dJ6_bitCount_0f7a4_8 ?_
    refine lv_topi (fun x_3 ex_3 => ?_)
    replace hF := hF.trans (ap_n ex_3)
    refine lv_istore_n (lv' := [(0, .int x_3)]) hx hb dJ6_bitCount_0f7a4_9 rfl hl (by decide +kernel) rfl (fun ls hl => ?_)
    refine lv_iload_n hx hb dJ6_bitCount_0f7a4_10 rfl (lv_at hl 0 rfl) ?_
    refine lv_ldcw hx hb hown (hts _ (tw_c tw_1151)) dJ6_bitCount_0f7a4_11 ?_
    refine lv_iand hx hb dJ6_bitCount_0f7a4_14 ?_
    refine lv_topi (fun x_4 ex_4 => ?_)
    replace hF := hF.trans (ap_n ex_4)
    refine lv_iload_n hx hb dJ6_bitCount_0f7a4_15 rfl (lv_at hl 0 rfl) ?_
    refine lv_iconst (v := 2) hx hb dJ6_bitCount_0f7a4_16 (by decide +kernel) ?_
    refine lv_iushr hx hb dJ6_bitCount_0f7a4_17 rfl ?_
    refine lv_topi (fun x_5 ex_5 => ?_)
    replace hF := hF.trans (ap_n ex_5)
    refine lv_ldcw hx hb hown (hts _ (tw_c tw_1151)) dJ6_bitCount_0f7a4_18 ?_
    refine lv_iand hx hb dJ6_bitCount_0f7a4_21 ?_
    refine lv_topi (fun x_6 ex_6 => ?_)
    replace hF := hF.trans (ap_n ex_6)
    refine lv_iadd hx hb dJ6_bitCount_0f7a4_22 ?_
    refine lv_topi (fun x_7 ex_7 => ?_)
    replace hF := hF.trans (ap_n ex_7)
    refine lv_istore_n (lv' := [(0, .int x_7)]) hx hb dJ6_bitCount_0f7a4_23 rfl hl (by decide +kernel) rfl (fun ls hl => ?_)
    refine lv_iload_n hx hb dJ6_bitCount_0f7a4_24 rfl (lv_at hl 0 rfl) ?_
    refine lv_iload_n hx hb dJ6_bitCount_0f7a4_25 rfl (lv_at hl 0 rfl) ?_
    refine lv_iconst (v := 4) hx hb dJ6_bitCount_0f7a4_26 (by decide +kernel) ?_
    refine lv_iushr hx hb dJ6_bitCount_0f7a4_27 rfl ?_
    refine lv_topi (fun x_8 ex_8 => ?_)
    replace hF := hF.trans (ap_n ex_8)
    refine lv_iadd hx hb dJ6_bitCount_0f7a4_28 ?_
    refine lv_topi (fun x_9 ex_9 => ?_)
    replace hF := hF.trans (ap_n ex_9)
    refine lv_ldcw hx hb hown (hts _ (tw_c tw_1152)) dJ6_bitCount_0f7a4_29 ?_
    refine lv_iand hx hb dJ6_bitCount_0f7a4_32 ?_
    refine lv_topi (fun x_10 ex_10 => ?_)
    replace hF := hF.trans (ap_n ex_10)
    refine lv_istore_n (lv' := [(0, .int x_10)]) hx hb dJ6_bitCount_0f7a4_33 rfl hl (by decide +kernel) rfl (fun ls hl => ?_)
    refine lv_iload_n hx hb dJ6_bitCount_0f7a4_34 rfl (lv_at hl 0 rfl) ?_
    refine lv_iload_n hx hb dJ6_bitCount_0f7a4_35 rfl (lv_at hl 0 rfl) ?_
    refine lv_bipush (v := 8) hx hb dJ6_bitCount_0f7a4_36 (by decide +kernel) ?_
    refine lv_iushr hx hb dJ6_bitCount_0f7a4_38 rfl ?_
    refine lv_topi (fun x_11 ex_11 => ?_)
    replace hF := hF.trans (ap_n ex_11)
    refine lv_iadd hx hb dJ6_bitCount_0f7a4_39 ?_
    refine lv_topi (fun x_12 ex_12 => ?_)
    replace hF := hF.trans (ap_n ex_12)
    refine lv_istore_n (lv' := [(0, .int x_12)]) hx hb dJ6_bitCount_0f7a4_40 rfl hl (by decide +kernel) rfl (fun ls hl => ?_)
    refine lv_iload_n hx hb dJ6_bitCount_0f7a4_41 rfl (lv_at hl 0 rfl) ?_
    refine lv_iload_n hx hb dJ6_bitCount_0f7a4_42 rfl (lv_at hl 0 rfl) ?_
    refine lv_bipush (v := 16) hx hb dJ6_bitCount_0f7a4_43 (by decide +kernel) ?_
    refine lv_iushr hx hb dJ6_bitCount_0f7a4_45 rfl ?_
    refine lv_topi (fun x_13 ex_13 => ?_)
    replace hF := hF.trans (ap_n ex_13)
    refine lv_iadd hx hb dJ6_bitCount_0f7a4_46 ?_
    refine lv_topi (fun x_14 ex_14 => ?_)
    replace hF := hF.trans (ap_n ex_14)
    refine lv_istore_n (lv' := [(0, .int x_14)]) hx hb dJ6_bitCount_0f7a4_47 rfl hl (by decide +kernel) rfl (fun ls hl => ?_)
    refine lv_iload_n hx hb dJ6_bitCount_0f7a4_48 rfl (lv_at hl 0 rfl) ?_
    refine lv_bipush (v := 63) hx hb dJ6_bitCount_0f7a4_49 (by decide +kernel) ?_
    refine lv_iand hx hb dJ6_bitCount_0f7a4_51 ?_
    refine lv_topi (fun x_15 ex_15 => ?_)
    replace hF := hF.trans (ap_n ex_15)
    subst hQ
    exact W.iret (v := x_15) hx hb hr (fun t1 ht hW => ⟨⟨x_15, (σ, I, J, ri, rj, rq), rfl, ⟨rfl, (hF0.symm.trans hF)⟩, by rw [ht]; exact hP, va_K.moved hW.alike hK, hD⟩, hS.F ht⟩) hS.2.2 dJ6_bitCount_0f7a4_52
  exact go _ _ _ hP hD hS hl

set_option maxRecDepth 100000 in
def g_X2_mark_K102 (x_222 : Int32) (k_g_X2_mark_L23 : (Int32) → (Nat → Nat → Int32) → vM) (ri_296 : Nat → Nat → Int32) : vM := (ap1 (x_222 + Int32.ofInt 1) fun (x_300 : Int32) => (k_g_X2_mark_L23 x_300 ri_296))
set_option maxRecDepth 100000 in
theorem g_X2_mark_K102_e {x_222 : Int32} {k_g_X2_mark_L23 : (Int32) → (Nat → Nat → Int32) → vM} {ri_296 : Nat → Nat → Int32} : g_X2_mark_K102 x_222 k_g_X2_mark_L23 ri_296 = (ap1 (x_222 + Int32.ofInt 1) fun (x_300 : Int32) => (k_g_X2_mark_L23 x_300 ri_296)) := rfl
set_option maxRecDepth 100000 in
def g_X2_mark_L23 (a0 : Int32) (a1 : Int32) (I : Nat → Int32) (J : Nat → Int64) (rj : Nat → Nat → Int64) (rq : Nat → Nat → Option Nat) (x_7 : Int32) : Nat → (Int32) → (Nat → Nat → Int32) → vM
  | 0, x_222, ri_223 => (I, J, ri_223, rj, rq)
  | n_259 + 1, x_222, ri_223 => (if x_7 < x_222 then (I, J, ri_223, rj, rq) else (ap1 (x_222 - a1) fun (x_269 : Int32) => (ap1 (if (0 : Int32) ≤ x_269 then x_269 else 0 - x_269) fun (x_271 : Int32) => (if (21 : Int32) ≤ x_271 then (g_X2_mark_K102 x_222 (g_X2_mark_L23 a0 a1 I J rj rq x_7 n_259) ri_223) else (ap1 (ri_223 83 (x_271).toNatClampNeg) fun (x_307 : Int32) => (ap1 (a0 - x_307) fun (x_309 : Int32) => (ap1 (if (0 : Int32) < x_309 then x_309 else (0 : Int32)) fun (x_311 : Int32) => (ap1 (a0 + x_307) fun (x_313 : Int32) => (ap1 (if x_313 < (31 : Int32) then x_313 else (31 : Int32)) fun (x_315 : Int32) => (ap1 (ri_223 82 (x_222).toNatClampNeg) fun (x_318 : Int32) => (ap1 ((-1 : Int32) <<< (x_311 &&& 31)) fun (x_319 : Int32) => (ap1 ((31 : Int32) - x_315) fun (x_320 : Int32) => (ap1 (((-1 : Int32).toUInt32 >>> (x_320.toUInt32 &&& Int32.toUInt32 31)).toInt32) fun (x_322 : Int32) => (ap1 (x_319 &&& x_322) fun (x_323 : Int32) => (ap1 (x_318 ||| x_323) fun (x_324 : Int32) => (ap1 (va_up ri_223 82 (upd (ri_223 82) (x_222).toNatClampNeg x_324)) fun (r_325 : Nat → Nat → Int32) => (g_X2_mark_K102 x_222 (g_X2_mark_L23 a0 a1 I J rj rq x_7 n_259) r_325)))))))))))))))))
set_option maxRecDepth 100000 in
theorem g_X2_mark_L23_e {a0 : Int32} {a1 : Int32} {I : Nat → Int32} {J : Nat → Int64} {rj : Nat → Nat → Int64} {rq : Nat → Nat → Option Nat} {x_7 : Int32} {n_259 : Nat} {x_222 : Int32} {ri_223 : Nat → Nat → Int32} : g_X2_mark_L23 a0 a1 I J rj rq x_7 (n_259 + 1) x_222 ri_223 = (if x_7 < x_222 then (I, J, ri_223, rj, rq) else (ap1 (x_222 - a1) fun (x_269 : Int32) => (ap1 (if (0 : Int32) ≤ x_269 then x_269 else 0 - x_269) fun (x_271 : Int32) => (if (21 : Int32) ≤ x_271 then (g_X2_mark_K102 x_222 (g_X2_mark_L23 a0 a1 I J rj rq x_7 n_259) ri_223) else (ap1 (ri_223 83 (x_271).toNatClampNeg) fun (x_307 : Int32) => (ap1 (a0 - x_307) fun (x_309 : Int32) => (ap1 (if (0 : Int32) < x_309 then x_309 else (0 : Int32)) fun (x_311 : Int32) => (ap1 (a0 + x_307) fun (x_313 : Int32) => (ap1 (if x_313 < (31 : Int32) then x_313 else (31 : Int32)) fun (x_315 : Int32) => (ap1 (ri_223 82 (x_222).toNatClampNeg) fun (x_318 : Int32) => (ap1 ((-1 : Int32) <<< (x_311 &&& 31)) fun (x_319 : Int32) => (ap1 ((31 : Int32) - x_315) fun (x_320 : Int32) => (ap1 (((-1 : Int32).toUInt32 >>> (x_320.toUInt32 &&& Int32.toUInt32 31)).toInt32) fun (x_322 : Int32) => (ap1 (x_319 &&& x_322) fun (x_323 : Int32) => (ap1 (x_318 ||| x_323) fun (x_324 : Int32) => (ap1 (va_up ri_223 82 (upd (ri_223 82) (x_222).toNatClampNeg x_324)) fun (r_325 : Nat → Nat → Int32) => (g_X2_mark_K102 x_222 (g_X2_mark_L23 a0 a1 I J rj rq x_7 n_259) r_325))))))))))))))))) := rfl
set_option maxRecDepth 100000 in
def g_X2_mark (a0 : Int32) (a1 : Int32) (a2 : Int32) (I : Nat → Int32) (J : Nat → Int64) (ri : Nat → Nat → Int32) (rj : Nat → Nat → Int64) (rq : Nat → Nat → Option Nat) : vM := (ap1 (a1 - a2) fun (x_1 : Int32) => (ap1 (if (0 : Int32) < x_1 then x_1 else (0 : Int32)) fun (x_3 : Int32) => (ap1 (a1 + a2) fun (x_5 : Int32) => (ap1 (if x_5 < (31 : Int32) then x_5 else (31 : Int32)) fun (x_7 : Int32) => (g_X2_mark_L23 a0 a1 I J rj rq x_7 ((32 - (x_3).toInt).toNat + 1) x_3 ri)))))
set_option maxRecDepth 100000 in
theorem g_X2_mark_e {a0 : Int32} {a1 : Int32} {a2 : Int32} {I : Nat → Int32} {J : Nat → Int64} {ri : Nat → Nat → Int32} {rj : Nat → Nat → Int64} {rq : Nat → Nat → Option Nat} : g_X2_mark a0 a1 a2 I J ri rj rq = (ap1 (a1 - a2) fun (x_1 : Int32) => (ap1 (if (0 : Int32) < x_1 then x_1 else (0 : Int32)) fun (x_3 : Int32) => (ap1 (a1 + a2) fun (x_5 : Int32) => (ap1 (if x_5 < (31 : Int32) then x_5 else (31 : Int32)) fun (x_7 : Int32) => (g_X2_mark_L23 a0 a1 I J rj rq x_7 ((32 - (x_3).toInt).toNat + 1) x_3 ri))))) := rfl
set_option maxHeartbeats 4000000 in
set_option maxRecDepth 100000 in
theorem s_X2_mark (l : Launch) (D : va_G) (t : pq_T) (σ : pq_S) (I : Nat → Nat → Int32) (J : Nat → Nat → Int64) (ri : Nat → Nat → Int32) (rj : Nat → Nat → Int64) (rq : Nat → Nat → Option Nat) (sz : Nat) (tg : Nat → Nat) (hSH : SH σ tg) (hG0 : GS tg σ I ri rq) (this : Nat) (a0 : Int32) (a1 : Int32) (a2 : Int32) (hL_this : this ∈ σ.1) (hK_this : σ.2.1 this = 2) (h_a0 : rg a0 0 31) (h_a1 : rg a1 0 31) (h_a2 : rg a2 0 20) (M : Nat) (hL_M : M ∈ σ.1) (hK_M : σ.2.1 M = 10) (hO_this : this = vo σ 2 M) : MetV l yX2_mark (wa yX2_mark cX2_mark 10 none) ({ frames := 1, cells := 0, slots := 0, locals := 40 }) [.ref this, .int a0, .int a1, .int a2] D t σ (I, J, ri, rj, rq) sz 0 0 (fun (u : pq_S × pq_M) => ∃ ri' : Nat → Nat → Int32, u = (σ, I, J, ri', rj, rq) ∧ GX [] tg σ I ri rj I ri' rj rq ∧ g_X2_mark a0 a1 a2 (vI 10 σ M I) (vJ 10 σ M J) (vR 10 σ M ri) (vL 10 σ M rj) (vQ 10 σ M rq) = ((vI 10 σ M I), (vJ 10 σ M J), (vR 10 σ M ri'), (vL 10 σ M rj), (vQ 10 σ M rq)) ∧ FR 10 tg σ M (I, J, ri, rj, rq) (I, J, ri', rj, rq)) := by
  refine Met.ofW (cc := cX2_mark) (maxL := 10) (ret := none) (by decide +kernel) rfl ?_
  intro p e s m args below meth c s₁ B hml hv
  obtain ⟨rfl, hsz, hP, hK, hD0, hN⟩ := hv
  have hx := B.exec
  have hb := B.bytes
  have hr := B.returns
  have hts := atoms_spec (ws := (wa yX2_mark cX2_mark 10 none)) B.pre
  have hown : s.vm.findClass RX2 = some m.cls := findClass_of_methodNamed B.named
  have hlocks := B.notSynchronized
  subst hsz
  have hD : va_D (pq_B t σ (I, J, ri, rj, rq) s.heap.size) (pq_P t σ (I, J, ri, rj, rq)) := hD0.self
  generalize hAe : pq_B t σ (I, J, ri, rj, rq) s.heap.size = A at hD ⊢
  have hA : ∀ q : Nat, s.heap.size ≤ q → A q := fun q h => by rw [← hAe]; exact Or.inr h
  have hS : va_S A s.heap s.heap [] := va_S.rf
  have hG : GX [] tg σ I ri rj I ri rj rq := ⟨hG0, fun _ _ _ => rfl, fun _ _ _ _ _ => rfl, fun _ _ _ _ _ => rfl⟩
  have hl := lv_entry ([.ref this, .int a0, .int a1, .int a2]) (n := 10) (Nat.le_of_ble_eq_true rfl)
  rw [lg_entry_eq]
  generalize (lg_sl ([.ref this, .int a0, .int a1, .int a2]) ++ List.replicate (10 - (lg_sl ([.ref this, .int a0, .int a1, .int a2])).length) Slot.unset).toArray = ls at hl ⊢
  have hl : lv_has ls 10 [(0, .ref this), (1, .int a0), (2, .int a1), (3, .int a2)] := hl
  refine q_gen (fun Q hQ => ?_)
  have go : ∀ (H : Heap) (locs : List Loc) (ls : Array Slot), va_P D vwCl (pq_P t σ (I, J, ri, rj, rq)) H → va_D A (pq_P t σ (I, J, ri, rj, rq)) → va_S A s.heap H locs → lv_has ls 10 [(0, .ref this), (1, .int a0), (2, .int a1), (3, .int a2)] → W p l e ({ frames := 1, cells := 0, slots := 0, locals := 40 } : Room) s m (List.toArray ([.ref this, .int a0, .int a1, .int a2] : List Value)) below meth c H locs 0 0 Q (F0 m 0 ls []) := by
    intro H locs ls hP hD hS hl
    have hVT : VT 10 σ tg M := vt_10 hSH hL_M hK_M
    have hFr : FR 10 tg σ M (I, J, ri, rj, rq) (I, J, ri, rj, rq) := fr_rf
    obtain ⟨F, hF0⟩ : ∃ F, F = g_X2_mark a0 a1 a2 (vI 10 σ M I) (vJ 10 σ M J) (vR 10 σ M ri) (vL 10 σ M rj) (vQ 10 σ M rq) := ⟨_, rfl⟩
    have hF := hF0.trans g_X2_mark_e
    refine lv_iconst (v := 0) hx hb dX2_mark_0 (by decide +kernel) ?_
    refine lv_iload_n hx hb dX2_mark_1 rfl (lv_at hl 2 rfl) ?_
    refine lv_iload_n hx hb dX2_mark_2 rfl (lv_at hl 3 rfl) ?_
    refine lv_isub hx hb dX2_mark_3 ?_
    refine lv_topi (fun x_1 ex_1 => ?_)
    replace hF := hF.trans (ap_n ex_1)
    have h_2 : rg x_1 (-20) 31 := rg_of_eq ex_1 (rg_sub h_a1 h_a2 (by decide +kernel))
    refine va_mmax hx hb (hml.trans hl.1.symm) hown (hts _ (tw_c tw_1064)) (hts _ (tw_c tw_275)) (hts _ (tw_c tw_276)) (hts _ (tw_c tw_277)) (Nat.le_of_ble_eq_true rfl) (Nat.le_of_ble_eq_true rfl) (Nat.zero_le _) (Nat.zero_le _) dX2_mark_4 ?_
    refine lv_topi (fun x_3 ex_3 => ?_)
    replace hF := hF.trans (ap_n ex_3)
    have h_4 : rg x_3 0 31 := rg_of_eq ex_3 (rg_max2 (rg_k (0 : Int32) 0 rfl) h_2 (by decide +kernel))
    refine lv_istore (lv' := [(4, .int x_3), (0, .ref this), (1, .int a0), (2, .int a1), (3, .int a2)]) hx hb dX2_mark_7 hl (by decide +kernel) rfl (fun ls hl => ?_)
    refine lv_bipush (v := 31) hx hb dX2_mark_9 (by decide +kernel) ?_
    refine lv_iload_n hx hb dX2_mark_11 rfl (lv_at hl 3 rfl) ?_
    refine lv_iload_n hx hb dX2_mark_12 rfl (lv_at hl 4 rfl) ?_
    refine lv_iadd hx hb dX2_mark_13 ?_
    refine lv_topi (fun x_5 ex_5 => ?_)
    replace hF := hF.trans (ap_n ex_5)
    have h_6 : rg x_5 0 51 := rg_of_eq ex_5 (rg_add h_a1 h_a2 (by decide +kernel))
    refine va_mmin hx hb (hml.trans hl.1.symm) hown (hts _ (tw_c tw_1063)) (hts _ (tw_c tw_467)) (hts _ (tw_c tw_276)) (hts _ (tw_c tw_468)) (Nat.le_of_ble_eq_true rfl) (Nat.le_of_ble_eq_true rfl) (Nat.zero_le _) (Nat.zero_le _) dX2_mark_14 ?_
    refine lv_topi (fun x_7 ex_7 => ?_)
    replace hF := hF.trans (ap_n ex_7)
    have h_8 : rg x_7 0 31 := rg_of_eq ex_7 (rg_min2 (rg_k (31 : Int32) 31 rfl) h_6 (by decide +kernel))
    refine lv_istore (lv' := [(5, .int x_7), (4, .int x_3), (0, .ref this), (1, .int a0), (2, .int a1), (3, .int a2)]) hx hb dX2_mark_17 hl (by decide +kernel) rfl (fun ls hl => ?_)
    refine lv_iload hx hb dX2_mark_19 (lv_at hl 1 rfl) ?_
    refine lv_istore (lv' := [(6, .int x_3), (5, .int x_7), (4, .int x_3), (0, .ref this), (1, .int a0), (2, .int a1), (3, .int a2)]) hx hb dX2_mark_21 hl (by decide +kernel) rfl (fun ls hl => ?_)
    have L_260 : ∀ (n_259 : Nat) (x_222 : Int32) (ri_223 : Nat → Nat → Int32) (H : Heap) (locs : List Loc) (ls : Array Slot), rg x_222 0 32 → (32 - (x_222).toInt).toNat < n_259 → F = g_X2_mark_L23 a0 a1 (vI 10 σ M I) (vJ 10 σ M J) (vL 10 σ M rj) (vQ 10 σ M rq) x_7 n_259 x_222 (vR 10 σ M ri_223) → FR 10 tg σ M (I, J, ri, rj, rq) (I, J, ri_223, rj, rq) → GX [] tg σ I ri rj I ri_223 rj rq → va_P D vwCl (pq_P t σ (I, J, ri_223, rj, rq)) H → va_D A (pq_P t σ (I, J, ri_223, rj, rq)) → va_S A s.heap H locs → lv_has ls 10 [(0, .ref this), (1, .int a0), (2, .int a1), (5, .int x_7), (6, .int x_222)] → W p l e ({ frames := 1, cells := 0, slots := 0, locals := 40 } : Room) s m (List.toArray ([.ref this, .int a0, .int a1, .int a2] : List Value)) below meth c H locs 0 0 Q (F0 m 23 ls []) := by
      intro n_259
      induction n_259 with
      | zero => intro x_222 ri_223 H locs ls h_263 hm_258 hF hFr hG hP hD hS hl; exact absurd hm_258 (Nat.not_lt_zero _)
      | succ n_259 ih_261 =>
        intro x_222 ri_223 H locs ls h_263 hm_258 hF hFr hG hP hD hS hl
        replace hF := hF.trans g_X2_mark_L23_e
        refine lv_iload hx hb dX2_mark_23 (lv_at hl 4 rfl) ?_
        refine lv_iload hx hb dX2_mark_25 (lv_at hl 3 rfl) ?_
        refine lv_icmp_gt (tgt := 108) hx hb dX2_mark_27 (by decide +kernel) (fun c_264 => ?_) (fun c_264 => ?_)
        · replace hF := hF.trans (if_pos c_264)
          have h_267 : rg x_222 1 32 := rg_lt2 c_264 h_8 h_263 (by decide +kernel)
          subst hQ
          exact W.vret hx hb hr (fun t1 ht hW => ⟨⟨(σ, I, J, ri_223, rj, rq), rfl, ⟨ri_223, rfl, hG, (hF0.symm.trans hF), hFr⟩, by rw [ht]; exact hP, va_K.moved hW.alike hK, hD⟩, hS.F ht⟩) hS.2.2 dX2_mark_108
        · replace hF := hF.trans (if_neg c_264)
          have h_268 : rg x_222 0 31 := rg_le1 (nlt c_264) h_263 h_8 (by decide +kernel)
          refine lv_iload hx hb dX2_mark_30 (lv_at hl 4 rfl) ?_
          refine lv_iload_n hx hb dX2_mark_32 rfl (lv_at hl 2 rfl) ?_
          refine lv_isub hx hb dX2_mark_33 ?_
          refine lv_topi (fun x_269 ex_269 => ?_)
          replace hF := hF.trans (ap_n ex_269)
          have h_270 : rg x_269 (-31) 31 := rg_of_eq ex_269 (rg_sub h_268 h_a1 (by decide +kernel))
          refine va_mabs hx hb (hml.trans hl.1.symm) hown (hts _ (tw_c tw_1146)) (hts _ (tw_c tw_484)) (hts _ (tw_c tw_276)) (hts _ (tw_c tw_485)) (Nat.le_of_ble_eq_true rfl) (Nat.le_of_ble_eq_true rfl) (Nat.zero_le _) (Nat.zero_le _) dX2_mark_34 ?_
          refine lv_topi (fun x_271 ex_271 => ?_)
          replace hF := hF.trans (ap_n ex_271)
          have h_272 : rg x_271 0 31 := rg_of_eq ex_271 (rg_abs h_270 (by decide +kernel))
          refine lv_istore (lv' := [(7, .int x_271), (0, .ref this), (1, .int a0), (2, .int a1), (5, .int x_7), (6, .int x_222)]) hx hb dX2_mark_37 hl (by decide +kernel) rfl (fun ls hl => ?_)
          refine lv_iload hx hb dX2_mark_39 (lv_at hl 0 rfl) ?_
          refine lv_aload_n hx hb dX2_mark_41 rfl (lv_at hl 1 rfl) ?_
          obtain ⟨w_273, hR_w_273, hL_w_273, hK_w_273, hN_w_273, hT_w_273⟩ := sh_a hSH 83 (ci := 2) (kd := 13) (len := 21) rfl (by decide +kernel) hL_this hK_this
          have hO_w_273 : w_273 = vrow σ 83 M := vo_k (c := 2) hO_this hR_w_273
          refine pg_f (v := .ref w_273) (C := RX2) (T := TX2) (N := 20) hx hb hts (tw_i inlX2) hown hK hP hL_this hK_this (by decide +kernel) rfl 19 (by decide +kernel) (hts _ (tw_c tw_100)) (pq_hv rfl hR_w_273) dX2_mark_42 ?_
          refine pn_i (v := 21) hx hb hK hP hL_w_273 hK_w_273 hN_w_273 (by decide +kernel) dX2_mark_45 ?_
          have K_299 : ∀  (ri_296 : Nat → Nat → Int32) (H : Heap) (locs : List Loc) (ls : Array Slot), F = g_X2_mark_K102 x_222 (g_X2_mark_L23 a0 a1 (vI 10 σ M I) (vJ 10 σ M J) (vL 10 σ M rj) (vQ 10 σ M rq) x_7 n_259) (vR 10 σ M ri_296) → FR 10 tg σ M (I, J, ri, rj, rq) (I, J, ri_296, rj, rq) → GX [] tg σ I ri rj I ri_296 rj rq → va_P D vwCl (pq_P t σ (I, J, ri_296, rj, rq)) H → va_D A (pq_P t σ (I, J, ri_296, rj, rq)) → va_S A s.heap H locs → lv_has ls 10 [(0, .ref this), (1, .int a0), (2, .int a1), (5, .int x_7), (6, .int x_222)] → W p l e ({ frames := 1, cells := 0, slots := 0, locals := 40 } : Room) s m (List.toArray ([.ref this, .int a0, .int a1, .int a2] : List Value)) below meth c H locs 0 0 Q (F0 m 102 ls []) := by
            intro ri_296 H locs ls hF hFr hG hP hD hS hl
            replace hF := hF.trans g_X2_mark_K102_e
            obtain ⟨x_300, ex_300⟩ : ∃ y : Int32, y = x_222 + Int32.ofInt 1 := ⟨_, rfl⟩
            replace hF := hF.trans (ap_n ex_300)
            have h_301 : rg x_300 1 32 := rg_of_eq ex_300 (rg_add h_268 (rg_k (Int32.ofInt 1) 1 rfl) (by decide +kernel))
            refine lv_iinc (v := x_300) (lv' := [(6, .int x_300), (0, .ref this), (1, .int a0), (2, .int a1), (5, .int x_7)]) hx hb dX2_mark_102 hl (k := 4) rfl ex_300.symm (by decide +kernel) rfl (fun ls hl => ?_)
            refine lv_goto (tgt := 23) hx hb dX2_mark_105 (by decide +kernel) ?_
            exact ih_261 x_300 ri_296 _ _ _ (rg_w h_301 (by decide +kernel)) (ms_up 1 hm_258 ex_300 rfl (by decide +kernel) h_268 (by decide +kernel) (by decide +kernel)) hF hFr hG hP hD hS (lv_sub hl [1, 2, 3, 4, 0] rfl)
          refine lv_icmp_ge (tgt := 102) hx hb dX2_mark_46 (by decide +kernel) (fun c_302 => ?_) (fun c_302 => ?_)
          · replace hF := hF.trans (if_pos c_302)
            have h_305 : rg x_271 21 31 := rg_le2 c_302 (rg_k (21 : Int32) 21 rfl) h_272 (by decide +kernel)
            exact K_299 ri_223 _ _ _ hF hFr hG hP hD hS (lv_sub hl [1, 2, 3, 4, 5] rfl)
          · replace hF := hF.trans (if_neg c_302)
            have h_306 : rg x_271 0 20 := rg_lt1 (nle c_302) h_272 (rg_k (21 : Int32) 21 rfl) (by decide +kernel)
            refine lv_iconst (v := 0) hx hb dX2_mark_49 (by decide +kernel) ?_
            refine lv_iload_n hx hb dX2_mark_50 rfl (lv_at hl 2 rfl) ?_
            refine lv_aload_n hx hb dX2_mark_51 rfl (lv_at hl 1 rfl) ?_
            refine pg_f (v := .ref w_273) (C := RX2) (T := TX2) (N := 20) hx hb hts (tw_i inlX2) hown hK hP hL_this hK_this (by decide +kernel) rfl 19 (by decide +kernel) (hts _ (tw_c tw_100)) (pq_hv rfl hR_w_273) dX2_mark_52 ?_
            refine lv_iload hx hb dX2_mark_55 (lv_at hl 0 rfl) ?_
            refine pl_i hx hb hK hP hL_w_273 hK_w_273 hN_w_273 (rg_in h_306 (by decide +kernel)) dX2_mark_57 ?_
            refine lv_topi (fun x_307 ex_307 => ?_)
            replace hF := hF.trans (ap_n (vR_r hO_w_273 (by decide +kernel) ex_307))
            have h_308 : rg x_307 0 20 := rg_of_eq ex_307 (GX.rR hG hT_w_273 rfl)
            refine lv_isub hx hb dX2_mark_58 ?_
            refine lv_topi (fun x_309 ex_309 => ?_)
            replace hF := hF.trans (ap_n ex_309)
            have h_310 : rg x_309 (-20) 31 := rg_of_eq ex_309 (rg_sub h_a0 h_308 (by decide +kernel))
            refine va_mmax hx hb (hml.trans hl.1.symm) hown (hts _ (tw_c tw_1064)) (hts _ (tw_c tw_275)) (hts _ (tw_c tw_276)) (hts _ (tw_c tw_277)) (Nat.le_of_ble_eq_true rfl) (Nat.le_of_ble_eq_true rfl) (Nat.zero_le _) (Nat.zero_le _) dX2_mark_59 ?_
            refine lv_topi (fun x_311 ex_311 => ?_)
            replace hF := hF.trans (ap_n ex_311)
            have h_312 : rg x_311 0 31 := rg_of_eq ex_311 (rg_max2 (rg_k (0 : Int32) 0 rfl) h_310 (by decide +kernel))
            refine lv_istore (lv' := [(8, .int x_311), (7, .int x_271), (0, .ref this), (1, .int a0), (2, .int a1), (5, .int x_7), (6, .int x_222)]) hx hb dX2_mark_62 hl (by decide +kernel) rfl (fun ls hl => ?_)
            refine lv_bipush (v := 31) hx hb dX2_mark_64 (by decide +kernel) ?_
            refine lv_iload_n hx hb dX2_mark_66 rfl (lv_at hl 3 rfl) ?_
            refine lv_aload_n hx hb dX2_mark_67 rfl (lv_at hl 2 rfl) ?_
            refine pg_f (v := .ref w_273) (C := RX2) (T := TX2) (N := 20) hx hb hts (tw_i inlX2) hown hK hP hL_this hK_this (by decide +kernel) rfl 19 (by decide +kernel) (hts _ (tw_c tw_100)) (pq_hv rfl hR_w_273) dX2_mark_68 ?_
            refine lv_iload hx hb dX2_mark_71 (lv_at hl 1 rfl) ?_
            refine pl_i hx hb hK hP hL_w_273 hK_w_273 hN_w_273 (rg_in h_306 (by decide +kernel)) dX2_mark_73 ?_
            refine lv_tov x_307 ex_307.symm ?_
            refine lv_iadd hx hb dX2_mark_74 ?_
            refine lv_topi (fun x_313 ex_313 => ?_)
            replace hF := hF.trans (ap_n ex_313)
            have h_314 : rg x_313 0 51 := rg_of_eq ex_313 (rg_add h_a0 h_308 (by decide +kernel))
            refine va_mmin hx hb (hml.trans hl.1.symm) hown (hts _ (tw_c tw_1063)) (hts _ (tw_c tw_467)) (hts _ (tw_c tw_276)) (hts _ (tw_c tw_468)) (Nat.le_of_ble_eq_true rfl) (Nat.le_of_ble_eq_true rfl) (Nat.zero_le _) (Nat.zero_le _) dX2_mark_75 ?_
            refine lv_topi (fun x_315 ex_315 => ?_)
            replace hF := hF.trans (ap_n ex_315)
            have h_316 : rg x_315 0 31 := rg_of_eq ex_315 (rg_min2 (rg_k (31 : Int32) 31 rfl) h_314 (by decide +kernel))
            refine lv_istore (lv' := [(9, .int x_315), (8, .int x_311), (7, .int x_271), (0, .ref this), (1, .int a0), (2, .int a1), (5, .int x_7), (6, .int x_222)]) hx hb dX2_mark_78 hl (by decide +kernel) rfl (fun ls hl => ?_)
            refine lv_aload_n hx hb dX2_mark_80 rfl (lv_at hl 3 rfl) ?_
            obtain ⟨w_317, hR_w_317, hL_w_317, hK_w_317, hN_w_317, hT_w_317⟩ := sh_a hSH 82 (ci := 2) (kd := 13) (len := 32) rfl (by decide +kernel) hL_this hK_this
            have hO_w_317 : w_317 = vrow σ 82 M := vo_k (c := 2) hO_this hR_w_317
            refine pg_f (v := .ref w_317) (C := RX2) (T := TX2) (N := 20) hx hb hts (tw_i inlX2) hown hK hP hL_this hK_this (by decide +kernel) rfl 18 (by decide +kernel) (hts _ (tw_c tw_99)) (pq_hv rfl hR_w_317) dX2_mark_81 ?_
            refine lv_iload hx hb dX2_mark_84 (lv_at hl 7 rfl) ?_
            refine lv_dup2_11 hx hb dX2_mark_86 rfl rfl ?_
            refine pl_i hx hb hK hP hL_w_317 hK_w_317 hN_w_317 (rg_in h_268 (by decide +kernel)) dX2_mark_87 ?_
            refine lv_topi (fun x_318 ex_318 => ?_)
            replace hF := hF.trans (ap_n (vR_r hO_w_317 (by decide +kernel) ex_318))
            refine lv_iconst (v := (-1)) hx hb dX2_mark_88 (by decide +kernel) ?_
            refine lv_iload hx hb dX2_mark_89 (lv_at hl 1 rfl) ?_
            refine lv_ishl hx hb dX2_mark_91 ?_
            refine lv_topi (fun x_319 ex_319 => ?_)
            replace hF := hF.trans (ap_n ex_319)
            refine lv_iconst (v := (-1)) hx hb dX2_mark_92 (by decide +kernel) ?_
            refine lv_bipush (v := 31) hx hb dX2_mark_93 (by decide +kernel) ?_
            refine lv_iload hx hb dX2_mark_95 (lv_at hl 0 rfl) ?_
            refine lv_isub hx hb dX2_mark_97 ?_
            refine lv_topi (fun x_320 ex_320 => ?_)
            replace hF := hF.trans (ap_n ex_320)
            have h_321 : rg x_320 0 31 := rg_of_eq ex_320 (rg_sub (rg_k (31 : Int32) 31 rfl) h_316 (by decide +kernel))
            refine lv_iushr hx hb dX2_mark_98 rfl ?_
            refine lv_topi (fun x_322 ex_322 => ?_)
            replace hF := hF.trans (ap_n ex_322)
            refine lv_iand hx hb dX2_mark_99 ?_
            refine lv_topi (fun x_323 ex_323 => ?_)
            replace hF := hF.trans (ap_n ex_323)
            refine lv_ior hx hb dX2_mark_100 ?_
            refine lv_topi (fun x_324 ex_324 => ?_)
            replace hF := hF.trans (ap_n ex_324)
            refine pt_i hx hb hK hP hD hS hL_w_317 hK_w_317 hN_w_317 (rg_in h_268 (by decide +kernel)) dX2_mark_101 (fun r_325 H locs er_325 hP hD hS => ?_)
            replace hFr := fr_R hFr hO_w_317 (by decide +kernel) er_325
            replace hF := hF.trans (ap_n (vR_st hVT hO_w_317 (by decide +kernel) er_325))
            have hG := GX.wR hG hSH hT_w_317 rfl er_325 (rg_w (rg_full _) (by decide +kernel)) (by decide +kernel)
            exact K_299 r_325 _ _ _ hF hFr hG hP hD hS (lv_sub hl [3, 4, 5, 6, 7] rfl)
    exact L_260 _ x_3 ri _ _ _ (rg_w h_4 (by decide +kernel)) (Nat.lt_succ_self _) hF hFr hG hP hD hS (lv_sub hl [3, 4, 5, 1, 0] rfl)
  exact go _ _ _ hP hD hS hl

set_option maxRecDepth 100000 in
def g_X2_countArea_L65 (I : Nat → Int32) (J : Nat → Int64) (rj : Nat → Nat → Int64) (rq : Nat → Nat → Option Nat) (ri_3293 : Nat → Nat → Int32) : Nat → (Int32) → (Int32) → Int32 × vM
  | 0, x_3779, x_3780 => ((0 : Int32), I, J, ri_3293, rj, rq)
  | n_3797 + 1, x_3779, x_3780 => (if (32 : Int32) ≤ x_3780 then (x_3779, I, J, ri_3293, rj, rq) else (ap1 (ri_3293 82 (x_3780).toNatClampNeg) fun (x_3807 : Int32) => (ap1 (g_J6_bitCount_0f7a4 x_3807) fun (x_3808 : Int32) => (ap1 (x_3779 + x_3808) fun (x_3815 : Int32) => (ap1 (x_3780 + Int32.ofInt 1) fun (x_3816 : Int32) => ((g_X2_countArea_L65 I J rj rq ri_3293 n_3797) x_3815 x_3816))))))
set_option maxRecDepth 100000 in
theorem g_X2_countArea_L65_e {I : Nat → Int32} {J : Nat → Int64} {rj : Nat → Nat → Int64} {rq : Nat → Nat → Option Nat} {ri_3293 : Nat → Nat → Int32} {n_3797 : Nat} {x_3779 : Int32} {x_3780 : Int32} : g_X2_countArea_L65 I J rj rq ri_3293 (n_3797 + 1) x_3779 x_3780 = (if (32 : Int32) ≤ x_3780 then (x_3779, I, J, ri_3293, rj, rq) else (ap1 (ri_3293 82 (x_3780).toNatClampNeg) fun (x_3807 : Int32) => (ap1 (g_J6_bitCount_0f7a4 x_3807) fun (x_3808 : Int32) => (ap1 (x_3779 + x_3808) fun (x_3815 : Int32) => (ap1 (x_3780 + Int32.ofInt 1) fun (x_3816 : Int32) => ((g_X2_countArea_L65 I J rj rq ri_3293 n_3797) x_3815 x_3816)))))) := rfl
set_option maxRecDepth 100000 in
def g_X2_countArea_K53 (x_3292 : Int32) (k_g_X2_countArea_L16 : (Int32) → (Nat → Nat → Int32) → Int32 × vM) (ri_3845 : Nat → Nat → Int32) : Int32 × vM := (ap1 (x_3292 + Int32.ofInt 1) fun (x_3849 : Int32) => (k_g_X2_countArea_L16 x_3849 ri_3845))
set_option maxRecDepth 100000 in
theorem g_X2_countArea_K53_e {x_3292 : Int32} {k_g_X2_countArea_L16 : (Int32) → (Nat → Nat → Int32) → Int32 × vM} {ri_3845 : Nat → Nat → Int32} : g_X2_countArea_K53 x_3292 k_g_X2_countArea_L16 ri_3845 = (ap1 (x_3292 + Int32.ofInt 1) fun (x_3849 : Int32) => (k_g_X2_countArea_L16 x_3849 ri_3845)) := rfl
set_option maxRecDepth 100000 in
def g_X2_countArea_L16 (a0 : Int64) (a1 : Int32) (I : Nat → Int32) (J : Nat → Int64) (rj : Nat → Nat → Int64) (rq : Nat → Nat → Option Nat) : Nat → (Int32) → (Nat → Nat → Int32) → Int32 × vM
  | 0, x_3292, ri_3293 => ((0 : Int32), I, J, ri_3293, rj, rq)
  | n_3566 + 1, x_3292, ri_3293 => (ap1 (I 65) fun (y_3572 : Int32) => (if (y_3572) ≤ x_3292 then (g_X2_countArea_L65 I J rj rq ri_3293 ((32 - ((0 : Int32)).toInt).toNat + 1) (0 : Int32) (0 : Int32)) else (ap1 (g_X11_hasBit a0 x_3292) fun (x_3820 : Int32) => (if x_3820 = (0 : Int32) then (g_X2_countArea_K53 x_3292 (g_X2_countArea_L16 a0 a1 I J rj rq n_3566) ri_3293) else (ap1 (ri_3293 71 (x_3292).toNatClampNeg) fun (x_3857 : Int32) => (ap1 (ri_3293 72 (x_3292).toNatClampNeg) fun (x_3860 : Int32) => (bnV (g_X2_mark x_3857 x_3860 a1 I J ri_3293 rj rq) fun (_ : Nat → Int32) (_ : Nat → Int64) (ri_3864 : Nat → Nat → Int32) (_ : Nat → Nat → Int64) (_ : Nat → Nat → Option Nat) => (g_X2_countArea_K53 x_3292 (g_X2_countArea_L16 a0 a1 I J rj rq n_3566) ri_3864))))))))
set_option maxRecDepth 100000 in
theorem g_X2_countArea_L16_e {a0 : Int64} {a1 : Int32} {I : Nat → Int32} {J : Nat → Int64} {rj : Nat → Nat → Int64} {rq : Nat → Nat → Option Nat} {n_3566 : Nat} {x_3292 : Int32} {ri_3293 : Nat → Nat → Int32} : g_X2_countArea_L16 a0 a1 I J rj rq (n_3566 + 1) x_3292 ri_3293 = (ap1 (I 65) fun (y_3572 : Int32) => (if (y_3572) ≤ x_3292 then (g_X2_countArea_L65 I J rj rq ri_3293 ((32 - ((0 : Int32)).toInt).toNat + 1) (0 : Int32) (0 : Int32)) else (ap1 (g_X11_hasBit a0 x_3292) fun (x_3820 : Int32) => (if x_3820 = (0 : Int32) then (g_X2_countArea_K53 x_3292 (g_X2_countArea_L16 a0 a1 I J rj rq n_3566) ri_3293) else (ap1 (ri_3293 71 (x_3292).toNatClampNeg) fun (x_3857 : Int32) => (ap1 (ri_3293 72 (x_3292).toNatClampNeg) fun (x_3860 : Int32) => (bnV (g_X2_mark x_3857 x_3860 a1 I J ri_3293 rj rq) fun (_ : Nat → Int32) (_ : Nat → Int64) (ri_3864 : Nat → Nat → Int32) (_ : Nat → Nat → Int64) (_ : Nat → Nat → Option Nat) => (g_X2_countArea_K53 x_3292 (g_X2_countArea_L16 a0 a1 I J rj rq n_3566) ri_3864)))))))) := rfl
set_option maxRecDepth 100000 in
def g_X2_countArea (a0 : Int64) (a1 : Int32) (I : Nat → Int32) (J : Nat → Int64) (ri : Nat → Nat → Int32) (rj : Nat → Nat → Int64) (rq : Nat → Nat → Option Nat) : Int32 × vM := (ap1 (va_up ri 82 (fil (0 : Int32) 32 (ri 82))) fun (ri_4 : Nat → Nat → Int32) => (bnV (g_X2_measure a1 I J ri_4 rj rq) fun (_ : Nat → Int32) (_ : Nat → Int64) (ri_13 : Nat → Nat → Int32) (_ : Nat → Nat → Int64) (_ : Nat → Nat → Option Nat) => (g_X2_countArea_L16 a0 a1 I J rj rq ((40 - ((0 : Int32)).toInt).toNat + 1) (0 : Int32) ri_13)))
set_option maxRecDepth 100000 in
theorem g_X2_countArea_e {a0 : Int64} {a1 : Int32} {I : Nat → Int32} {J : Nat → Int64} {ri : Nat → Nat → Int32} {rj : Nat → Nat → Int64} {rq : Nat → Nat → Option Nat} : g_X2_countArea a0 a1 I J ri rj rq = (ap1 (va_up ri 82 (fil (0 : Int32) 32 (ri 82))) fun (ri_4 : Nat → Nat → Int32) => (bnV (g_X2_measure a1 I J ri_4 rj rq) fun (_ : Nat → Int32) (_ : Nat → Int64) (ri_13 : Nat → Nat → Int32) (_ : Nat → Nat → Int64) (_ : Nat → Nat → Option Nat) => (g_X2_countArea_L16 a0 a1 I J rj rq ((40 - ((0 : Int32)).toInt).toNat + 1) (0 : Int32) ri_13))) := rfl
set_option maxHeartbeats 4000000 in
set_option maxRecDepth 100000 in
theorem s_X2_countArea (l : Launch) (D : va_G) (t : pq_T) (σ : pq_S) (I : Nat → Nat → Int32) (J : Nat → Nat → Int64) (ri : Nat → Nat → Int32) (rj : Nat → Nat → Int64) (rq : Nat → Nat → Option Nat) (sz : Nat) (tg : Nat → Nat) (hSH : SH σ tg) (hG0 : GS tg σ I ri rq) (this : Nat) (a0 : Int64) (a1 : Int32) (hL_this : this ∈ σ.1) (hK_this : σ.2.1 this = 2) (h_a1 : rg a1 0 20) (M : Nat) (hL_M : M ∈ σ.1) (hK_M : σ.2.1 M = 10) (hO_this : this = vo σ 2 M) : MetI l yX2_countArea (wa yX2_countArea cX2_countArea 6 (some .int)) ({ frames := 2, cells := 0, slots := 0, locals := 69 }) [.ref this, .long a0, .int a1] D t σ (I, J, ri, rj, rq) sz 0 0 (fun (r : Int32) (u : pq_S × pq_M) => ∃ ri' : Nat → Nat → Int32, u = (σ, I, J, ri', rj, rq) ∧ GX [] tg σ I ri rj I ri' rj rq ∧ g_X2_countArea a0 a1 (vI 10 σ M I) (vJ 10 σ M J) (vR 10 σ M ri) (vL 10 σ M rj) (vQ 10 σ M rq) = (r, (vI 10 σ M I), (vJ 10 σ M J), (vR 10 σ M ri'), (vL 10 σ M rj), (vQ 10 σ M rq)) ∧ FR 10 tg σ M (I, J, ri, rj, rq) (I, J, ri', rj, rq)) := by
  refine Met.ofW (cc := cX2_countArea) (maxL := 6) (ret := (some .int)) (by decide +kernel) rfl ?_
  intro p e s m args below meth c s₁ B hml hv
  obtain ⟨rfl, hsz, hP, hK, hD0, hN⟩ := hv
  have hx := B.exec
  have hb := B.bytes
  have hr := B.returns
  have hts := atoms_spec (ws := (wa yX2_countArea cX2_countArea 6 (some .int))) B.pre
  have hown : s.vm.findClass RX2 = some m.cls := findClass_of_methodNamed B.named
  have hlocks := B.notSynchronized
  subst hsz
  have hD : va_D (pq_B t σ (I, J, ri, rj, rq) s.heap.size) (pq_P t σ (I, J, ri, rj, rq)) := hD0.self
  generalize hAe : pq_B t σ (I, J, ri, rj, rq) s.heap.size = A at hD ⊢
  have hA : ∀ q : Nat, s.heap.size ≤ q → A q := fun q h => by rw [← hAe]; exact Or.inr h
  have hS : va_S A s.heap s.heap [] := va_S.rf
  have hG : GX [] tg σ I ri rj I ri rj rq := ⟨hG0, fun _ _ _ => rfl, fun _ _ _ _ _ => rfl, fun _ _ _ _ _ => rfl⟩
  have hl := lv_entry ([.ref this, .long a0, .int a1]) (n := 6) (Nat.le_of_ble_eq_true rfl)
  rw [lg_entry_eq]
  generalize (lg_sl ([.ref this, .long a0, .int a1]) ++ List.replicate (6 - (lg_sl ([.ref this, .long a0, .int a1])).length) Slot.unset).toArray = ls at hl ⊢
  have hl : lv_has ls 6 [(0, .ref this), (1, .long a0), (3, .int a1)] := hl
  refine q_gen (fun Q hQ => ?_)
  have go : ∀ (H : Heap) (locs : List Loc) (ls : Array Slot), va_P D vwCl (pq_P t σ (I, J, ri, rj, rq)) H → va_D A (pq_P t σ (I, J, ri, rj, rq)) → va_S A s.heap H locs → lv_has ls 6 [(0, .ref this), (1, .long a0), (3, .int a1)] → W p l e ({ frames := 2, cells := 0, slots := 0, locals := 69 } : Room) s m (List.toArray ([.ref this, .long a0, .int a1] : List Value)) below meth c H locs 0 0 Q (F0 m 0 ls []) := by
    intro H locs ls hP hD hS hl
    have hVT : VT 10 σ tg M := vt_10 hSH hL_M hK_M
    have hFr : FR 10 tg σ M (I, J, ri, rj, rq) (I, J, ri, rj, rq) := fr_rf
    obtain ⟨F, hF0⟩ : ∃ F, F = g_X2_countArea a0 a1 (vI 10 σ M I) (vJ 10 σ M J) (vR 10 σ M ri) (vL 10 σ M rj) (vQ 10 σ M rq) := ⟨_, rfl⟩
    have hF := hF0.trans g_X2_countArea_e
    refine lv_aload_n hx hb dX2_countArea_0 rfl (lv_at hl 0 rfl) ?_
    obtain ⟨w_1, hR_w_1, hL_w_1, hK_w_1, hN_w_1, hT_w_1⟩ := sh_a hSH 82 (ci := 2) (kd := 13) (len := 32) rfl (by decide +kernel) hL_this hK_this
    have hO_w_1 : w_1 = vrow σ 82 M := vo_k (c := 2) hO_this hR_w_1
    refine pg_f (v := .ref w_1) (C := RX2) (T := TX2) (N := 20) hx hb hts (tw_i inlX2) hown hK hP hL_this hK_this (by decide +kernel) rfl 18 (by decide +kernel) (hts _ (tw_c tw_99)) (pq_hv rfl hR_w_1) dX2_countArea_1 ?_
    refine lv_iconst (v := 0) hx hb dX2_countArea_4 (by decide +kernel) ?_
    refine pk_v (va_runSN (As := [.ref w_1, .int 0]) (rest := []) ⟨hx, hb, hml, hown, hts⟩ (s_X11_fill_82 l D t σ I J ri rj rq H.size tg hSH hG.1 w_1 (0 : Int32) hL_w_1 hK_w_1 hN_w_1 hT_w_1) ⟨va_cnB (host := "RingsUnder") 2 hts (tw_W tw_76) rfl rfl rfl (nl_2 hN) (hts _ (tw_c tw_2)) cd_yX11_fill_2 ⟨Nat.le_of_ble_eq_true rfl, Nat.le_of_ble_eq_true rfl⟩, hts (.static yX11_fill) (tw_c tq_static_yX11_fill), trivial⟩ ⟨pq_blind, pq_pre hK hN hP hD⟩ rfl rfl hl.1 rfl (lv_room (Nat.le_of_ble_eq_true rfl)) dX2_countArea_5 ⟨Nat.le_of_ble_eq_true rfl, Nat.le_of_ble_eq_true rfl⟩) hD hS hA (fun σ1 μ1 H locs hw_3 hP hD hS => ?_)
    obtain ⟨ri_4, hu_5, hg_6, hp_8⟩ := hw_3
    obtain ⟨hu_5a, hu_5b⟩ := Prod.mk.inj hu_5
    rw [hu_5a, hu_5b] at hP hD
    replace hFr := fr_R hFr hO_w_1 (by decide +kernel) hp_8
    replace hF := hF.trans (ap_n (vR_fl hVT hO_w_1 (by decide +kernel) hp_8))
    have hG := GX.tr hG hg_6 (by decide +kernel)
    refine lv_aload_n hx hb dX2_countArea_8 rfl (lv_at hl 0 rfl) ?_
    refine lv_iload_n hx hb dX2_countArea_9 rfl (lv_at hl 2 rfl) ?_
    refine pk_v (va_runV (As := [.int a1]) (rest := []) ⟨hx, hb, hml, hown, hts⟩ (s_X2_measure l D t σ I J ri_4 rj rq H.size tg hSH hG.1 this a1 hL_this hK_this (rg_w h_a1 (by decide +kernel)) M hL_M hK_M hO_this) (cwV 1 hts (tw_V tw_1138 tw_1139 tw_1140 tw_41 tw_1141) rfl rfl rfl cv_yX2_measure_1 ⟨Nat.le_of_ble_eq_true rfl, Nat.le_of_ble_eq_true rfl⟩) ⟨pq_blind, pq_recv hK hP hL_this hK_this (by decide +kernel) rfl, pq_pre hK hN hP hD⟩ rfl rfl hl.1 rfl (lv_room (Nat.le_of_ble_eq_true rfl)) dX2_countArea_10 ⟨Nat.le_of_ble_eq_true rfl, Nat.le_of_ble_eq_true rfl⟩) hD hS hA (fun σ1 μ1 H locs hw_12 hP hD hS => ?_)
    obtain ⟨ri_13, hu_14, hg_15, hfn_17, hfr_18⟩ := hw_12
    obtain ⟨hu_14a, hu_14b⟩ := Prod.mk.inj hu_14
    rw [hu_14a, hu_14b] at hP hD
    replace hF := hF.trans (bv_n hfn_17)
    replace hFr := fr_tr hFr hfr_18
    have hG := GX.tr hG hg_15 (by decide +kernel)
    refine lv_iconst (v := 0) hx hb dX2_countArea_13 (by decide +kernel) ?_
    refine lv_istore (lv' := [(4, .int 0), (0, .ref this), (1, .long a0), (3, .int a1)]) hx hb dX2_countArea_14 hl (by decide +kernel) rfl (fun ls hl => ?_)
    have L_3567 : ∀ (n_3566 : Nat) (x_3292 : Int32) (ri_3293 : Nat → Nat → Int32) (H : Heap) (locs : List Loc) (ls : Array Slot), rg x_3292 0 40 → (40 - (x_3292).toInt).toNat < n_3566 → F = g_X2_countArea_L16 a0 a1 (vI 10 σ M I) (vJ 10 σ M J) (vL 10 σ M rj) (vQ 10 σ M rq) n_3566 x_3292 (vR 10 σ M ri_3293) → FR 10 tg σ M (I, J, ri, rj, rq) (I, J, ri_3293, rj, rq) → GX [] tg σ I ri rj I ri_3293 rj rq → va_P D vwCl (pq_P t σ (I, J, ri_3293, rj, rq)) H → va_D A (pq_P t σ (I, J, ri_3293, rj, rq)) → va_S A s.heap H locs → lv_has ls 6 [(0, .ref this), (1, .long a0), (3, .int a1), (4, .int x_3292)] → W p l e ({ frames := 2, cells := 0, slots := 0, locals := 69 } : Room) s m (List.toArray ([.ref this, .long a0, .int a1] : List Value)) below meth c H locs 0 0 Q (F0 m 16 ls []) := by
      intro n_3566
      induction n_3566 with
      | zero => intro x_3292 ri_3293 H locs ls h_3570 hm_3565 hF hFr hG hP hD hS hl; exact absurd hm_3565 (Nat.not_lt_zero _)
      | succ n_3566 ih_3568 =>
        intro x_3292 ri_3293 H locs ls h_3570 hm_3565 hF hFr hG hP hD hS hl
        replace hF := hF.trans g_X2_countArea_L16_e
        refine lv_iload hx hb dX2_countArea_16 (lv_at hl 3 rfl) ?_
        refine lv_aload_n hx hb dX2_countArea_18 rfl (lv_at hl 0 rfl) ?_
        refine pg_f (v := .int (I 65 this)) (C := RX2) (T := TX2) (N := 20) hx hb hts (tw_i inlX2) hown hK hP hL_this hK_this (by decide +kernel) rfl 1 (by decide +kernel) (hts _ (tw_c tw_222)) rfl dX2_countArea_19 ?_
        have h_3571 : rg (I 65 this) 0 40 := GX.rI hG 65 rfl
        replace hF := hF.trans (ap_n (vI_e (f := 65) hO_this (by decide +kernel)))
        refine lv_icmp_ge (tgt := 59) hx hb dX2_countArea_22 (by decide +kernel) (fun c_3573 => ?_) (fun c_3573 => ?_)
        · replace hF := hF.trans (if_pos c_3573)
          refine lv_iconst (v := 0) hx hb dX2_countArea_59 (by decide +kernel) ?_
          refine lv_istore (lv' := [(4, .int 0), (0, .ref this), (1, .long a0), (3, .int a1)]) hx hb dX2_countArea_60 hl (by decide +kernel) rfl (fun ls hl => ?_)
          refine lv_iconst (v := 0) hx hb dX2_countArea_62 (by decide +kernel) ?_
          refine lv_istore (lv' := [(5, .int 0), (4, .int 0), (0, .ref this), (1, .long a0), (3, .int a1)]) hx hb dX2_countArea_63 hl (by decide +kernel) rfl (fun ls hl => ?_)
          have L_3798 : ∀ (n_3797 : Nat) (x_3779 : Int32) (x_3780 : Int32) (H : Heap) (locs : List Loc) (ls : Array Slot), rg x_3780 0 32 → (32 - (x_3780).toInt).toNat < n_3797 → F = g_X2_countArea_L65 (vI 10 σ M I) (vJ 10 σ M J) (vL 10 σ M rj) (vQ 10 σ M rq) (vR 10 σ M ri_3293) n_3797 x_3779 x_3780 → FR 10 tg σ M (I, J, ri, rj, rq) (I, J, ri_3293, rj, rq) → GX [] tg σ I ri rj I ri_3293 rj rq → va_P D vwCl (pq_P t σ (I, J, ri_3293, rj, rq)) H → va_D A (pq_P t σ (I, J, ri_3293, rj, rq)) → va_S A s.heap H locs → lv_has ls 6 [(0, .ref this), (4, .int x_3779), (5, .int x_3780)] → W p l e ({ frames := 2, cells := 0, slots := 0, locals := 69 } : Room) s m (List.toArray ([.ref this, .long a0, .int a1] : List Value)) below meth c H locs 0 0 Q (F0 m 65 ls []) := by
            intro n_3797
            induction n_3797 with
            | zero => intro x_3779 x_3780 H locs ls h_3801 hm_3796 hF hFr hG hP hD hS hl; exact absurd hm_3796 (Nat.not_lt_zero _)
            | succ n_3797 ih_3799 =>
              intro x_3779 x_3780 H locs ls h_3801 hm_3796 hF hFr hG hP hD hS hl
              replace hF := hF.trans g_X2_countArea_L65_e
              refine lv_iload hx hb dX2_countArea_65 (lv_at hl 2 rfl) ?_
              refine lv_bipush (v := 32) hx hb dX2_countArea_67 (by decide +kernel) ?_
              refine lv_icmp_ge (tgt := 93) hx hb dX2_countArea_69 (by decide +kernel) (fun c_3802 => ?_) (fun c_3802 => ?_)
              · replace hF := hF.trans (if_pos c_3802)
                have h_3805 : rg x_3780 32 32 := rg_le2 c_3802 (rg_k (32 : Int32) 32 rfl) h_3801 (by decide +kernel)
                refine lv_iload hx hb dX2_countArea_93 (lv_at hl 1 rfl) ?_
                subst hQ
                exact W.iret (v := x_3779) hx hb hr (fun t1 ht hW => ⟨⟨x_3779, (σ, I, J, ri_3293, rj, rq), rfl, ⟨ri_3293, rfl, hG, (hF0.symm.trans hF), hFr⟩, by rw [ht]; exact hP, va_K.moved hW.alike hK, hD⟩, hS.F ht⟩) hS.2.2 dX2_countArea_95
              · replace hF := hF.trans (if_neg c_3802)
                have h_3806 : rg x_3780 0 31 := rg_lt1 (nle c_3802) h_3801 (rg_k (32 : Int32) 32 rfl) (by decide +kernel)
                refine lv_iload hx hb dX2_countArea_72 (lv_at hl 1 rfl) ?_
                refine lv_aload_n hx hb dX2_countArea_74 rfl (lv_at hl 0 rfl) ?_
                refine pg_f (v := .ref w_1) (C := RX2) (T := TX2) (N := 20) hx hb hts (tw_i inlX2) hown hK hP hL_this hK_this (by decide +kernel) rfl 18 (by decide +kernel) (hts _ (tw_c tw_99)) (pq_hv rfl hR_w_1) dX2_countArea_75 ?_
                refine lv_iload hx hb dX2_countArea_78 (lv_at hl 2 rfl) ?_
                refine pl_i hx hb hK hP hL_w_1 hK_w_1 hN_w_1 (rg_in h_3806 (by decide +kernel)) dX2_countArea_80 ?_
                refine lv_topi (fun x_3807 ex_3807 => ?_)
                replace hF := hF.trans (ap_n (vR_r hO_w_1 (by decide +kernel) ex_3807))
                refine pk_i (va_runS (As := [.int x_3807]) (rest := [.int x_3779]) ⟨hx, hb, hml, hown, hts⟩ (s_J6_bitCount_0f7a4 l D t σ I J ri_3293 rj rq H.size tg hSH hG.1 x_3807) (va_cwS 1 hts (tw_S tw_1147 tw_1148 tw_492 tw_1149) rfl rfl rfl cd_yJ6_bitCount_0f7a4_1 ⟨Nat.le_of_ble_eq_true rfl, Nat.le_of_ble_eq_true rfl⟩) ⟨pq_blind, pq_pre hK hN hP hD⟩ rfl rfl hl.1 rfl (lv_room (Nat.le_of_ble_eq_true rfl)) dX2_countArea_81 ⟨Nat.le_of_ble_eq_true rfl, Nat.le_of_ble_eq_true rfl⟩) hD hS hA (fun x_3808 σ1 μ1 H locs hw_3809 hP hD hS => ?_)
                obtain ⟨hu_3810, hfn_3813⟩ := hw_3809
                obtain ⟨hu_3810a, hu_3810b⟩ := Prod.mk.inj hu_3810
                rw [hu_3810a, hu_3810b] at hP hD
                replace hF := hF.trans (ap_n hfn_3813.symm)
                refine lv_iadd hx hb dX2_countArea_84 ?_
                refine lv_topi (fun x_3815 ex_3815 => ?_)
                replace hF := hF.trans (ap_n ex_3815)
                refine lv_istore (lv' := [(4, .int x_3815), (0, .ref this), (5, .int x_3780)]) hx hb dX2_countArea_85 hl (by decide +kernel) rfl (fun ls hl => ?_)
                obtain ⟨x_3816, ex_3816⟩ : ∃ y : Int32, y = x_3780 + Int32.ofInt 1 := ⟨_, rfl⟩
                replace hF := hF.trans (ap_n ex_3816)
                have h_3817 : rg x_3816 1 32 := rg_of_eq ex_3816 (rg_add h_3806 (rg_k (Int32.ofInt 1) 1 rfl) (by decide +kernel))
                refine lv_iinc (v := x_3816) (lv' := [(5, .int x_3816), (4, .int x_3815), (0, .ref this)]) hx hb dX2_countArea_87 hl (k := 2) rfl ex_3816.symm (by decide +kernel) rfl (fun ls hl => ?_)
                refine lv_goto (tgt := 65) hx hb dX2_countArea_90 (by decide +kernel) ?_
                exact ih_3799 x_3815 x_3816 _ _ _ (rg_w h_3817 (by decide +kernel)) (ms_up 1 hm_3796 ex_3816 rfl (by decide +kernel) h_3806 (by decide +kernel) (by decide +kernel)) hF hFr hG hP hD hS (lv_sub hl [2, 1, 0] rfl)
          exact L_3798 _ (0 : Int32) (0 : Int32) _ _ _ (rg_w (rg_k (0 : Int32) 0 rfl) (by decide +kernel)) (Nat.lt_succ_self _) hF hFr hG hP hD hS (lv_sub hl [2, 1, 0] rfl)
        · replace hF := hF.trans (if_neg c_3573)
          have h_3818 : rg x_3292 0 39 := rg_lt1 (nle c_3573) h_3570 h_3571 (by decide +kernel)
          have h_3819 : rg (I 65 this) 1 40 := rg_lt2 (nle c_3573) h_3570 h_3571 (by decide +kernel)
          refine lv_lload_n hx hb dX2_countArea_25 rfl (lv_at hl 1 rfl) ?_
          refine lv_iload hx hb dX2_countArea_26 (lv_at hl 3 rfl) ?_
          refine pk_i (va_runSN (As := [.long a0, .int x_3292]) (rest := []) ⟨hx, hb, hml, hown, hts⟩ (s_X11_hasBit l D t σ I J ri_3293 rj rq H.size tg hSH hG.1 a0 x_3292) ⟨va_cnB (host := "RingsUnder") 2 hts (tw_W tw_560) rfl rfl rfl (nl_11 hN) (hts _ (tw_c tw_2)) cd_yX11_hasBit_2 ⟨Nat.le_of_ble_eq_true rfl, Nat.le_of_ble_eq_true rfl⟩, hts (.static yX11_hasBit) (tw_c tq_static_yX11_hasBit), trivial⟩ ⟨pq_blind, pq_pre hK hN hP hD⟩ rfl rfl hl.1 rfl (lv_room (Nat.le_of_ble_eq_true rfl)) dX2_countArea_28 ⟨Nat.le_of_ble_eq_true rfl, Nat.le_of_ble_eq_true rfl⟩) hD hS hA (fun x_3820 σ1 μ1 H locs hw_3821 hP hD hS => ?_)
          obtain ⟨hu_3822, hfn_3825, hr_3824⟩ := hw_3821
          obtain ⟨hu_3822a, hu_3822b⟩ := Prod.mk.inj hu_3822
          rw [hu_3822a, hu_3822b] at hP hD
          replace hF := hF.trans (ap_n hfn_3825.symm)
          have h_3827 : rg x_3820 0 1 := by rcases hr_3824 with ⟨q, -⟩ | ⟨q, -⟩ <;> rw [q] <;> exact ⟨by decide +kernel, by decide +kernel⟩
          have K_3848 : ∀  (ri_3845 : Nat → Nat → Int32) (H : Heap) (locs : List Loc) (ls : Array Slot), F = g_X2_countArea_K53 x_3292 (g_X2_countArea_L16 a0 a1 (vI 10 σ M I) (vJ 10 σ M J) (vL 10 σ M rj) (vQ 10 σ M rq) n_3566) (vR 10 σ M ri_3845) → FR 10 tg σ M (I, J, ri, rj, rq) (I, J, ri_3845, rj, rq) → GX [] tg σ I ri rj I ri_3845 rj rq → va_P D vwCl (pq_P t σ (I, J, ri_3845, rj, rq)) H → va_D A (pq_P t σ (I, J, ri_3845, rj, rq)) → va_S A s.heap H locs → lv_has ls 6 [(0, .ref this), (1, .long a0), (3, .int a1), (4, .int x_3292)] → W p l e ({ frames := 2, cells := 0, slots := 0, locals := 69 } : Room) s m (List.toArray ([.ref this, .long a0, .int a1] : List Value)) below meth c H locs 0 0 Q (F0 m 53 ls []) := by
            intro ri_3845 H locs ls hF hFr hG hP hD hS hl
            replace hF := hF.trans g_X2_countArea_K53_e
            obtain ⟨x_3849, ex_3849⟩ : ∃ y : Int32, y = x_3292 + Int32.ofInt 1 := ⟨_, rfl⟩
            replace hF := hF.trans (ap_n ex_3849)
            have h_3850 : rg x_3849 1 40 := rg_of_eq ex_3849 (rg_add h_3818 (rg_k (Int32.ofInt 1) 1 rfl) (by decide +kernel))
            refine lv_iinc (v := x_3849) (lv' := [(4, .int x_3849), (0, .ref this), (1, .long a0), (3, .int a1)]) hx hb dX2_countArea_53 hl (k := 3) rfl ex_3849.symm (by decide +kernel) rfl (fun ls hl => ?_)
            refine lv_goto (tgt := 16) hx hb dX2_countArea_56 (by decide +kernel) ?_
            exact ih_3568 x_3849 ri_3845 _ _ _ (rg_w h_3850 (by decide +kernel)) (ms_up 1 hm_3565 ex_3849 rfl (by decide +kernel) h_3818 (by decide +kernel) (by decide +kernel)) hF hFr hG hP hD hS (lv_sub hl [1, 2, 3, 0] rfl)
          refine lv_if_eq (tgt := 53) hx hb dX2_countArea_31 (by decide +kernel) (fun c_3851 => ?_) (fun c_3851 => ?_)
          · replace hF := hF.trans (if_pos c_3851)
            have h_3854 : rg x_3820 0 0 := rg_and h_3827 (rg_of_eq c_3851 (rg_k (0 : Int32) 0 rfl)) (by decide +kernel)
            exact K_3848 ri_3293 _ _ _ hF hFr hG hP hD hS (lv_sub hl [0, 1, 2, 3] rfl)
          · replace hF := hF.trans (if_neg c_3851)
            have h_3855 : rg x_3820 1 1 := rg_ne c_3851 h_3827 0 rfl (by decide +kernel)
            refine lv_aload_n hx hb dX2_countArea_34 rfl (lv_at hl 0 rfl) ?_
            refine lv_aload_n hx hb dX2_countArea_35 rfl (lv_at hl 0 rfl) ?_
            obtain ⟨w_3856, hR_w_3856, hL_w_3856, hK_w_3856, hN_w_3856, hT_w_3856⟩ := sh_a hSH 71 (ci := 2) (kd := 13) (len := 40) rfl (by decide +kernel) hL_this hK_this
            have hO_w_3856 : w_3856 = vrow σ 71 M := vo_k (c := 2) hO_this hR_w_3856
            refine pg_f (v := .ref w_3856) (C := RX2) (T := TX2) (N := 20) hx hb hts (tw_i inlX2) hown hK hP hL_this hK_this (by decide +kernel) rfl 7 (by decide +kernel) (hts _ (tw_c tw_85)) (pq_hv rfl hR_w_3856) dX2_countArea_36 ?_
            refine lv_iload hx hb dX2_countArea_39 (lv_at hl 3 rfl) ?_
            refine pl_i hx hb hK hP hL_w_3856 hK_w_3856 hN_w_3856 (rg_in h_3818 (by decide +kernel)) dX2_countArea_41 ?_
            refine lv_topi (fun x_3857 ex_3857 => ?_)
            replace hF := hF.trans (ap_n (vR_r hO_w_3856 (by decide +kernel) ex_3857))
            have h_3858 : rg x_3857 0 31 := rg_of_eq ex_3857 (GX.rR hG hT_w_3856 rfl)
            refine lv_aload_n hx hb dX2_countArea_42 rfl (lv_at hl 0 rfl) ?_
            obtain ⟨w_3859, hR_w_3859, hL_w_3859, hK_w_3859, hN_w_3859, hT_w_3859⟩ := sh_a hSH 72 (ci := 2) (kd := 13) (len := 40) rfl (by decide +kernel) hL_this hK_this
            have hO_w_3859 : w_3859 = vrow σ 72 M := vo_k (c := 2) hO_this hR_w_3859
            refine pg_f (v := .ref w_3859) (C := RX2) (T := TX2) (N := 20) hx hb hts (tw_i inlX2) hown hK hP hL_this hK_this (by decide +kernel) rfl 8 (by decide +kernel) (hts _ (tw_c tw_86)) (pq_hv rfl hR_w_3859) dX2_countArea_43 ?_
            refine lv_iload hx hb dX2_countArea_46 (lv_at hl 3 rfl) ?_
            refine pl_i hx hb hK hP hL_w_3859 hK_w_3859 hN_w_3859 (rg_in h_3818 (by decide +kernel)) dX2_countArea_48 ?_
            refine lv_topi (fun x_3860 ex_3860 => ?_)
            replace hF := hF.trans (ap_n (vR_r hO_w_3859 (by decide +kernel) ex_3860))
            have h_3861 : rg x_3860 0 31 := rg_of_eq ex_3860 (GX.rR hG hT_w_3859 rfl)
            refine lv_iload_n hx hb dX2_countArea_49 rfl (lv_at hl 2 rfl) ?_
            refine pk_v (va_runV (As := [.int x_3857, .int x_3860, .int a1]) (rest := []) ⟨hx, hb, hml, hown, hts⟩ (s_X2_mark l D t σ I J ri_3293 rj rq H.size tg hSH hG.1 this x_3857 x_3860 a1 hL_this hK_this (rg_w h_3858 (by decide +kernel)) (rg_w h_3861 (by decide +kernel)) (rg_w h_a1 (by decide +kernel)) M hL_M hK_M hO_this) (cwV 3 hts (tw_V tw_1142 tw_1143 tw_1144 tw_41 tw_1145) rfl rfl rfl cv_yX2_mark_3 ⟨Nat.le_of_ble_eq_true rfl, Nat.le_of_ble_eq_true rfl⟩) ⟨pq_blind, pq_recv hK hP hL_this hK_this (by decide +kernel) rfl, pq_pre hK hN hP hD⟩ rfl rfl hl.1 rfl (lv_room (Nat.le_of_ble_eq_true rfl)) dX2_countArea_50 ⟨Nat.le_of_ble_eq_true rfl, Nat.le_of_ble_eq_true rfl⟩) hD hS hA (fun σ1 μ1 H locs hw_3863 hP hD hS => ?_)
            obtain ⟨ri_3864, hu_3865, hg_3866, hfn_3868, hfr_3869⟩ := hw_3863
            obtain ⟨hu_3865a, hu_3865b⟩ := Prod.mk.inj hu_3865
            rw [hu_3865a, hu_3865b] at hP hD
            replace hF := hF.trans (bv_n hfn_3868)
            replace hFr := fr_tr hFr hfr_3869
            have hG := GX.tr hG hg_3866 (by decide +kernel)
            exact K_3848 ri_3864 _ _ _ hF hFr hG hP hD hS (lv_sub hl [0, 1, 2, 3] rfl)
    exact L_3567 _ (0 : Int32) ri_13 _ _ _ (rg_w (rg_k (0 : Int32) 0 rfl) (by decide +kernel)) (Nat.lt_succ_self _) hF hFr hG hP hD hS (lv_sub hl [1, 2, 3, 0] rfl)
  exact go _ _ _ hP hD hS hl
