theorem dX9_copyFrom_0 : decode cX9_copyFrom 0 = .ok (.aload_n 1, 1) := oc_43 (by decide +kernel)
theorem dX9_copyFrom_1 : decode cX9_copyFrom 1 = .ok (.getfield 9, 3) := oc_180 (a := 0) (b := 9) (by decide +kernel)
theorem dX9_copyFrom_4 : decode cX9_copyFrom 4 = .ok (.aload_n 0, 1) := oc_42 (by decide +kernel)
theorem dX9_copyFrom_5 : decode cX9_copyFrom 5 = .ok (.getfield 9, 3) := oc_180 (a := 0) (b := 9) (by decide +kernel)
theorem dX9_copyFrom_8 : decode cX9_copyFrom 8 = .ok (.invokestatic 21, 3) := oc_184 (a := 0) (b := 21) (by decide +kernel)
theorem dX9_copyFrom_11 : decode cX9_copyFrom 11 = .ok (.aload_n 1, 1) := oc_43 (by decide +kernel)
theorem dX9_copyFrom_12 : decode cX9_copyFrom 12 = .ok (.getfield 15, 3) := oc_180 (a := 0) (b := 15) (by decide +kernel)
theorem dX9_copyFrom_15 : decode cX9_copyFrom 15 = .ok (.aload_n 0, 1) := oc_42 (by decide +kernel)
theorem dX9_copyFrom_16 : decode cX9_copyFrom 16 = .ok (.getfield 15, 3) := oc_180 (a := 0) (b := 15) (by decide +kernel)
theorem dX9_copyFrom_19 : decode cX9_copyFrom 19 = .ok (.invokestatic 21, 3) := oc_184 (a := 0) (b := 21) (by decide +kernel)
theorem dX9_copyFrom_22 : decode cX9_copyFrom 22 = .ok (.aload_n 1, 1) := oc_43 (by decide +kernel)
theorem dX9_copyFrom_23 : decode cX9_copyFrom 23 = .ok (.getfield 18, 3) := oc_180 (a := 0) (b := 18) (by decide +kernel)
theorem dX9_copyFrom_26 : decode cX9_copyFrom 26 = .ok (.aload_n 0, 1) := oc_42 (by decide +kernel)
theorem dX9_copyFrom_27 : decode cX9_copyFrom 27 = .ok (.getfield 18, 3) := oc_180 (a := 0) (b := 18) (by decide +kernel)
theorem dX9_copyFrom_30 : decode cX9_copyFrom 30 = .ok (.invokestatic 21, 3) := oc_184 (a := 0) (b := 21) (by decide +kernel)
theorem dX9_copyFrom_33 : decode cX9_copyFrom 33 = .ok (.return_, 1) := oc_177 (by decide +kernel)
theorem dX2_copyFrom_0 : decode cX2_copyFrom 0 = .ok (.aload_n 0, 1) := oc_42 (by decide +kernel)
theorem dX2_copyFrom_1 : decode cX2_copyFrom 1 = .ok (.aload_n 1, 1) := oc_43 (by decide +kernel)
theorem tw_1374 : Cond.fieldLink RX2 69 "RingsUnder$Land" "rings" "I" ∈ wsL_law := sg_58 _ (List.mem_of_getElem? (i := 6) rfl)
theorem dX2_copyFrom_2 : decode cX2_copyFrom 2 = .ok (.getfield 69, 3) := oc_180 (a := 0) (b := 69) (by decide +kernel)
theorem dX2_copyFrom_5 : decode cX2_copyFrom 5 = .ok (.putfield 69, 3) := oc_181 (a := 0) (b := 69) (by decide +kernel)
theorem dX2_copyFrom_8 : decode cX2_copyFrom 8 = .ok (.aload_n 0, 1) := oc_42 (by decide +kernel)
theorem dX2_copyFrom_9 : decode cX2_copyFrom 9 = .ok (.aload_n 1, 1) := oc_43 (by decide +kernel)
theorem dX2_copyFrom_10 : decode cX2_copyFrom 10 = .ok (.getfield 73, 3) := oc_180 (a := 0) (b := 73) (by decide +kernel)
theorem dX2_copyFrom_13 : decode cX2_copyFrom 13 = .ok (.putfield 73, 3) := oc_181 (a := 0) (b := 73) (by decide +kernel)
theorem dX2_copyFrom_16 : decode cX2_copyFrom 16 = .ok (.aload_n 0, 1) := oc_42 (by decide +kernel)
theorem dX2_copyFrom_17 : decode cX2_copyFrom 17 = .ok (.aload_n 1, 1) := oc_43 (by decide +kernel)
theorem tw_1069 : Cond.fieldLink RX2 76 "RingsUnder$Land" "deep" "I" ∈ wsL_law := sg_45 _ (List.mem_of_getElem? (i := 13) rfl)
theorem dX2_copyFrom_18 : decode cX2_copyFrom 18 = .ok (.getfield 76, 3) := oc_180 (a := 0) (b := 76) (by decide +kernel)
theorem dX2_copyFrom_21 : decode cX2_copyFrom 21 = .ok (.putfield 76, 3) := oc_181 (a := 0) (b := 76) (by decide +kernel)
theorem dX2_copyFrom_24 : decode cX2_copyFrom 24 = .ok (.aload_n 0, 1) := oc_42 (by decide +kernel)
theorem dX2_copyFrom_25 : decode cX2_copyFrom 25 = .ok (.aload_n 1, 1) := oc_43 (by decide +kernel)
theorem tw_558 : Cond.fieldLink RX2 79 "RingsUnder$Land" "dry" "J" ∈ wsL_law := sg_24 _ (List.mem_of_getElem? (i := 6) rfl)
theorem dX2_copyFrom_26 : decode cX2_copyFrom 26 = .ok (.getfield 79, 3) := oc_180 (a := 0) (b := 79) (by decide +kernel)
theorem dX2_copyFrom_29 : decode cX2_copyFrom 29 = .ok (.putfield 79, 3) := oc_181 (a := 0) (b := 79) (by decide +kernel)
theorem dX2_copyFrom_32 : decode cX2_copyFrom 32 = .ok (.aload_n 1, 1) := oc_43 (by decide +kernel)
theorem tw_82 : Cond.fieldLink RX2 9 "RingsUnder$Land" "rocks" "[J" ∈ wsL_law := sg_4 _ (List.mem_of_getElem? (i := 10) rfl)
theorem dX2_copyFrom_33 : decode cX2_copyFrom 33 = .ok (.getfield 9, 3) := oc_180 (a := 0) (b := 9) (by decide +kernel)
theorem dX2_copyFrom_36 : decode cX2_copyFrom 36 = .ok (.iconst 0, 1) := oc_3 (by decide +kernel)
theorem dX2_copyFrom_37 : decode cX2_copyFrom 37 = .ok (.aload_n 0, 1) := oc_42 (by decide +kernel)
theorem dX2_copyFrom_38 : decode cX2_copyFrom 38 = .ok (.getfield 9, 3) := oc_180 (a := 0) (b := 9) (by decide +kernel)
theorem dX2_copyFrom_41 : decode cX2_copyFrom 41 = .ok (.iconst 0, 1) := oc_3 (by decide +kernel)
theorem dX2_copyFrom_42 : decode cX2_copyFrom 42 = .ok (.sipush 600, 3) := oc_17 (a := 2) (b := 88) (by decide +kernel)
theorem tw_1375 : Cond.methodLink RX2 83 arraycopyName ∈ wsL_law := sg_58 _ (List.mem_of_getElem? (i := 7) rfl)
theorem dX2_copyFrom_45 : decode cX2_copyFrom 45 = .ok (.invokestatic 83, 3) := oc_184 (a := 0) (b := 83) (by decide +kernel)
theorem dX2_copyFrom_48 : decode cX2_copyFrom 48 = .ok (.aload_n 1, 1) := oc_43 (by decide +kernel)
theorem tw_83 : Cond.fieldLink RX2 15 "RingsUnder$Land" "ring" "[I" ∈ wsL_law := sg_4 _ (List.mem_of_getElem? (i := 11) rfl)
theorem dX2_copyFrom_49 : decode cX2_copyFrom 49 = .ok (.getfield 15, 3) := oc_180 (a := 0) (b := 15) (by decide +kernel)
theorem dX2_copyFrom_52 : decode cX2_copyFrom 52 = .ok (.aload_n 0, 1) := oc_42 (by decide +kernel)
theorem dX2_copyFrom_53 : decode cX2_copyFrom 53 = .ok (.getfield 15, 3) := oc_180 (a := 0) (b := 15) (by decide +kernel)
theorem dX2_copyFrom_56 : decode cX2_copyFrom 56 = .ok (.invokestatic 89, 3) := oc_184 (a := 0) (b := 89) (by decide +kernel)
theorem dX2_copyFrom_59 : decode cX2_copyFrom 59 = .ok (.aload_n 1, 1) := oc_43 (by decide +kernel)
theorem tw_84 : Cond.fieldLink RX2 19 "RingsUnder$Land" "height" "[I" ∈ wsL_law := sg_4 _ (List.mem_of_getElem? (i := 12) rfl)
theorem dX2_copyFrom_60 : decode cX2_copyFrom 60 = .ok (.getfield 19, 3) := oc_180 (a := 0) (b := 19) (by decide +kernel)
theorem dX2_copyFrom_63 : decode cX2_copyFrom 63 = .ok (.aload_n 0, 1) := oc_42 (by decide +kernel)
theorem dX2_copyFrom_64 : decode cX2_copyFrom 64 = .ok (.getfield 19, 3) := oc_180 (a := 0) (b := 19) (by decide +kernel)
theorem dX2_copyFrom_67 : decode cX2_copyFrom 67 = .ok (.invokestatic 89, 3) := oc_184 (a := 0) (b := 89) (by decide +kernel)
theorem dX2_copyFrom_70 : decode cX2_copyFrom 70 = .ok (.aload_n 1, 1) := oc_43 (by decide +kernel)
theorem tw_85 : Cond.fieldLink RX2 22 "RingsUnder$Land" "x" "[I" ∈ wsL_law := sg_4 _ (List.mem_of_getElem? (i := 13) rfl)
theorem dX2_copyFrom_71 : decode cX2_copyFrom 71 = .ok (.getfield 22, 3) := oc_180 (a := 0) (b := 22) (by decide +kernel)
theorem dX2_copyFrom_74 : decode cX2_copyFrom 74 = .ok (.aload_n 0, 1) := oc_42 (by decide +kernel)
theorem dX2_copyFrom_75 : decode cX2_copyFrom 75 = .ok (.getfield 22, 3) := oc_180 (a := 0) (b := 22) (by decide +kernel)
theorem dX2_copyFrom_78 : decode cX2_copyFrom 78 = .ok (.invokestatic 89, 3) := oc_184 (a := 0) (b := 89) (by decide +kernel)
theorem dX2_copyFrom_81 : decode cX2_copyFrom 81 = .ok (.aload_n 1, 1) := oc_43 (by decide +kernel)
theorem tw_86 : Cond.fieldLink RX2 25 "RingsUnder$Land" "y" "[I" ∈ wsL_law := sg_4 _ (List.mem_of_getElem? (i := 14) rfl)
theorem dX2_copyFrom_82 : decode cX2_copyFrom 82 = .ok (.getfield 25, 3) := oc_180 (a := 0) (b := 25) (by decide +kernel)
theorem dX2_copyFrom_85 : decode cX2_copyFrom 85 = .ok (.aload_n 0, 1) := oc_42 (by decide +kernel)
theorem dX2_copyFrom_86 : decode cX2_copyFrom 86 = .ok (.getfield 25, 3) := oc_180 (a := 0) (b := 25) (by decide +kernel)
theorem dX2_copyFrom_89 : decode cX2_copyFrom 89 = .ok (.invokestatic 89, 3) := oc_184 (a := 0) (b := 89) (by decide +kernel)
theorem dX2_copyFrom_92 : decode cX2_copyFrom 92 = .ok (.aload_n 1, 1) := oc_43 (by decide +kernel)
theorem tw_87 : Cond.fieldLink RX2 28 "RingsUnder$Land" "sand" "[I" ∈ wsL_law := sg_4 _ (List.mem_of_getElem? (i := 15) rfl)
theorem dX2_copyFrom_93 : decode cX2_copyFrom 93 = .ok (.getfield 28, 3) := oc_180 (a := 0) (b := 28) (by decide +kernel)
theorem dX2_copyFrom_96 : decode cX2_copyFrom 96 = .ok (.aload_n 0, 1) := oc_42 (by decide +kernel)
theorem dX2_copyFrom_97 : decode cX2_copyFrom 97 = .ok (.getfield 28, 3) := oc_180 (a := 0) (b := 28) (by decide +kernel)
theorem dX2_copyFrom_100 : decode cX2_copyFrom 100 = .ok (.invokestatic 89, 3) := oc_184 (a := 0) (b := 89) (by decide +kernel)
theorem dX2_copyFrom_103 : decode cX2_copyFrom 103 = .ok (.aload_n 1, 1) := oc_43 (by decide +kernel)
theorem tw_88 : Cond.fieldLink RX2 31 "RingsUnder$Land" "reef" "[I" ∈ wsL_law := sg_4 _ (List.mem_of_getElem? (i := 16) rfl)
theorem dX2_copyFrom_104 : decode cX2_copyFrom 104 = .ok (.getfield 31, 3) := oc_180 (a := 0) (b := 31) (by decide +kernel)
theorem dX2_copyFrom_107 : decode cX2_copyFrom 107 = .ok (.aload_n 0, 1) := oc_42 (by decide +kernel)
theorem dX2_copyFrom_108 : decode cX2_copyFrom 108 = .ok (.getfield 31, 3) := oc_180 (a := 0) (b := 31) (by decide +kernel)
theorem dX2_copyFrom_111 : decode cX2_copyFrom 111 = .ok (.invokestatic 89, 3) := oc_184 (a := 0) (b := 89) (by decide +kernel)
theorem dX2_copyFrom_114 : decode cX2_copyFrom 114 = .ok (.aload_n 1, 1) := oc_43 (by decide +kernel)
theorem tw_89 : Cond.fieldLink RX2 34 "RingsUnder$Land" "wall" "[I" ∈ wsL_law := sg_4 _ (List.mem_of_getElem? (i := 17) rfl)
theorem dX2_copyFrom_115 : decode cX2_copyFrom 115 = .ok (.getfield 34, 3) := oc_180 (a := 0) (b := 34) (by decide +kernel)
theorem dX2_copyFrom_118 : decode cX2_copyFrom 118 = .ok (.aload_n 0, 1) := oc_42 (by decide +kernel)
theorem dX2_copyFrom_119 : decode cX2_copyFrom 119 = .ok (.getfield 34, 3) := oc_180 (a := 0) (b := 34) (by decide +kernel)
theorem dX2_copyFrom_122 : decode cX2_copyFrom 122 = .ok (.invokestatic 89, 3) := oc_184 (a := 0) (b := 89) (by decide +kernel)
theorem dX2_copyFrom_125 : decode cX2_copyFrom 125 = .ok (.aload_n 1, 1) := oc_43 (by decide +kernel)
theorem tw_90 : Cond.fieldLink RX2 37 "RingsUnder$Land" "beds" "[I" ∈ wsL_law := sg_4 _ (List.mem_of_getElem? (i := 18) rfl)
theorem dX2_copyFrom_126 : decode cX2_copyFrom 126 = .ok (.getfield 37, 3) := oc_180 (a := 0) (b := 37) (by decide +kernel)
theorem dX2_copyFrom_129 : decode cX2_copyFrom 129 = .ok (.aload_n 0, 1) := oc_42 (by decide +kernel)
theorem dX2_copyFrom_130 : decode cX2_copyFrom 130 = .ok (.getfield 37, 3) := oc_180 (a := 0) (b := 37) (by decide +kernel)
theorem dX2_copyFrom_133 : decode cX2_copyFrom 133 = .ok (.invokestatic 89, 3) := oc_184 (a := 0) (b := 89) (by decide +kernel)
theorem dX2_copyFrom_136 : decode cX2_copyFrom 136 = .ok (.aload_n 1, 1) := oc_43 (by decide +kernel)
theorem tw_91 : Cond.fieldLink RX2 40 "RingsUnder$Land" "under" "[I" ∈ wsL_law := sg_4 _ (List.mem_of_getElem? (i := 19) rfl)
theorem dX2_copyFrom_137 : decode cX2_copyFrom 137 = .ok (.getfield 40, 3) := oc_180 (a := 0) (b := 40) (by decide +kernel)
theorem dX2_copyFrom_140 : decode cX2_copyFrom 140 = .ok (.aload_n 0, 1) := oc_42 (by decide +kernel)
theorem dX2_copyFrom_141 : decode cX2_copyFrom 141 = .ok (.getfield 40, 3) := oc_180 (a := 0) (b := 40) (by decide +kernel)
theorem dX2_copyFrom_144 : decode cX2_copyFrom 144 = .ok (.invokestatic 89, 3) := oc_184 (a := 0) (b := 89) (by decide +kernel)
theorem dX2_copyFrom_147 : decode cX2_copyFrom 147 = .ok (.aload_n 0, 1) := oc_42 (by decide +kernel)
theorem dX2_copyFrom_148 : decode cX2_copyFrom 148 = .ok (.getfield 46, 3) := oc_180 (a := 0) (b := 46) (by decide +kernel)
theorem dX2_copyFrom_151 : decode cX2_copyFrom 151 = .ok (.aload_n 1, 1) := oc_43 (by decide +kernel)
theorem dX2_copyFrom_152 : decode cX2_copyFrom 152 = .ok (.getfield 46, 3) := oc_180 (a := 0) (b := 46) (by decide +kernel)
theorem tw_1376 : Cond.methodLink RX2 93 yX9_copyFrom ∈ wsL_law := sg_58 _ (List.mem_of_getElem? (i := 8) rfl)
theorem tw_1377 : Cond.instanceMethod yX9_copyFrom ∈ wsL_law := sg_58 _ (List.mem_of_getElem? (i := 9) rfl)
theorem tw_1378 : Cond.selects RX9 yX9_copyFrom yX9_copyFrom ∈ wsL_law := sg_58 _ (List.mem_of_getElem? (i := 10) rfl)
theorem tw_1379 : Cond.code yX9_copyFrom cX9_copyFrom 2 none ∈ wsL_law := sg_58 _ (List.mem_of_getElem? (i := 11) rfl)
theorem dX2_copyFrom_155 : decode cX2_copyFrom 155 = .ok (.invokevirtual 93, 3) := oc_182 (a := 0) (b := 93) (by decide +kernel)
theorem dX2_copyFrom_158 : decode cX2_copyFrom 158 = .ok (.aload_n 1, 1) := oc_43 (by decide +kernel)
theorem dX2_copyFrom_159 : decode cX2_copyFrom 159 = .ok (.getfield 50, 3) := oc_180 (a := 0) (b := 50) (by decide +kernel)
theorem dX2_copyFrom_162 : decode cX2_copyFrom 162 = .ok (.aload_n 0, 1) := oc_42 (by decide +kernel)
theorem dX2_copyFrom_163 : decode cX2_copyFrom 163 = .ok (.getfield 50, 3) := oc_180 (a := 0) (b := 50) (by decide +kernel)
theorem dX2_copyFrom_166 : decode cX2_copyFrom 166 = .ok (.invokestatic 89, 3) := oc_184 (a := 0) (b := 89) (by decide +kernel)
theorem dX2_copyFrom_169 : decode cX2_copyFrom 169 = .ok (.aload_n 1, 1) := oc_43 (by decide +kernel)
theorem tw_97 : Cond.fieldLink RX2 53 "RingsUnder$Land" "first" "[I" ∈ wsL_law := sg_5 _ (List.mem_of_getElem? (i := 1) rfl)
theorem dX2_copyFrom_170 : decode cX2_copyFrom 170 = .ok (.getfield 53, 3) := oc_180 (a := 0) (b := 53) (by decide +kernel)
theorem dX2_copyFrom_173 : decode cX2_copyFrom 173 = .ok (.aload_n 0, 1) := oc_42 (by decide +kernel)
theorem dX2_copyFrom_174 : decode cX2_copyFrom 174 = .ok (.getfield 53, 3) := oc_180 (a := 0) (b := 53) (by decide +kernel)
theorem dX2_copyFrom_177 : decode cX2_copyFrom 177 = .ok (.invokestatic 89, 3) := oc_184 (a := 0) (b := 89) (by decide +kernel)
theorem dX2_copyFrom_180 : decode cX2_copyFrom 180 = .ok (.return_, 1) := oc_177 (by decide +kernel)
theorem dX2_joinRing_0 : decode cX2_joinRing 0 = .ok (.iconst (-1), 1) := oc_2 (by decide +kernel)
theorem dX2_joinRing_1 : decode cX2_joinRing 1 = .ok (.istore_n 3, 1) := oc_62 (by decide +kernel)
theorem dX2_joinRing_2 : decode cX2_joinRing 2 = .ok (.iconst 0, 1) := oc_3 (by decide +kernel)
theorem dX2_joinRing_3 : decode cX2_joinRing 3 = .ok (.istore 4, 2) := oc_54 (by decide +kernel)
theorem dX2_joinRing_5 : decode cX2_joinRing 5 = .ok (.iload 4, 2) := oc_21 (by decide +kernel)
theorem dX2_joinRing_7 : decode cX2_joinRing 7 = .ok (.iload_n 1, 1) := oc_27 (by decide +kernel)
theorem dX2_joinRing_8 : decode cX2_joinRing 8 = .ok (.if_icmp .ge 23, 3) := oc_162 (a := 0) (b := 23) (by decide +kernel)
theorem dX2_joinRing_31 : decode cX2_joinRing 31 = .ok (.iload_n 3, 1) := oc_29 (by decide +kernel)
theorem dX2_joinRing_32 : decode cX2_joinRing 32 = .ok (.iconst (-1), 1) := oc_2 (by decide +kernel)
theorem dX2_joinRing_33 : decode cX2_joinRing 33 = .ok (.if_icmp .ne 13, 3) := oc_160 (a := 0) (b := 13) (by decide +kernel)
theorem dX2_joinRing_46 : decode cX2_joinRing 46 = .ok (.aload_n 0, 1) := oc_42 (by decide +kernel)
theorem dX2_joinRing_47 : decode cX2_joinRing 47 = .ok (.getfield 50, 3) := oc_180 (a := 0) (b := 50) (by decide +kernel)
theorem dX2_joinRing_50 : decode cX2_joinRing 50 = .ok (.iload_n 3, 1) := oc_29 (by decide +kernel)
theorem dX2_joinRing_51 : decode cX2_joinRing 51 = .ok (.iload_n 1, 1) := oc_27 (by decide +kernel)
theorem dX2_joinRing_52 : decode cX2_joinRing 52 = .ok (.iastore, 1) := oc_79 (by decide +kernel)
theorem dX2_joinRing_53 : decode cX2_joinRing 53 = .ok (.return_, 1) := oc_177 (by decide +kernel)
theorem dX2_joinRing_36 : decode cX2_joinRing 36 = .ok (.aload_n 0, 1) := oc_42 (by decide +kernel)
theorem dX2_joinRing_37 : decode cX2_joinRing 37 = .ok (.getfield 53, 3) := oc_180 (a := 0) (b := 53) (by decide +kernel)
theorem dX2_joinRing_40 : decode cX2_joinRing 40 = .ok (.iload_n 2, 1) := oc_28 (by decide +kernel)
theorem dX2_joinRing_41 : decode cX2_joinRing 41 = .ok (.iload_n 1, 1) := oc_27 (by decide +kernel)
theorem dX2_joinRing_42 : decode cX2_joinRing 42 = .ok (.iastore, 1) := oc_79 (by decide +kernel)
theorem dX2_joinRing_43 : decode cX2_joinRing 43 = .ok (.goto 10, 3) := oc_167 (a := 0) (b := 10) (by decide +kernel)
theorem dX2_joinRing_11 : decode cX2_joinRing 11 = .ok (.aload_n 0, 1) := oc_42 (by decide +kernel)
theorem dX2_joinRing_12 : decode cX2_joinRing 12 = .ok (.getfield 15, 3) := oc_180 (a := 0) (b := 15) (by decide +kernel)
theorem dX2_joinRing_15 : decode cX2_joinRing 15 = .ok (.iload 4, 2) := oc_21 (by decide +kernel)
theorem dX2_joinRing_17 : decode cX2_joinRing 17 = .ok (.iaload, 1) := oc_46 (by decide +kernel)
theorem dX2_joinRing_18 : decode cX2_joinRing 18 = .ok (.iload_n 2, 1) := oc_28 (by decide +kernel)
theorem dX2_joinRing_25 : decode cX2_joinRing 25 = .ok (.iinc 4 1, 3) := oc_132 (b := 1) (by decide +kernel)
theorem dX2_joinRing_28 : decode cX2_joinRing 28 = .ok (.goto (-23), 3) := oc_167 (a := 255) (b := 233) (by decide +kernel)
theorem dX2_joinRing_19 : decode cX2_joinRing 19 = .ok (.if_icmp .ne 6, 3) := oc_160 (a := 0) (b := 6) (by decide +kernel)
theorem dX2_joinRing_22 : decode cX2_joinRing 22 = .ok (.iload 4, 2) := oc_21 (by decide +kernel)
theorem dX2_joinRing_24 : decode cX2_joinRing 24 = .ok (.istore_n 3, 1) := oc_62 (by decide +kernel)
theorem dX2_addCell_0 : decode cX2_addCell 0 = .ok (.aload_n 0, 1) := oc_42 (by decide +kernel)
theorem dX2_addCell_1 : decode cX2_addCell 1 = .ok (.getfield 73, 3) := oc_180 (a := 0) (b := 73) (by decide +kernel)
theorem dX2_addCell_4 : decode cX2_addCell 4 = .ok (.bipush 40, 2) := oc_16 (a := 40) (by decide +kernel)
theorem dX2_addCell_6 : decode cX2_addCell 6 = .ok (.if_icmp .lt 5, 3) := oc_161 (a := 0) (b := 5) (by decide +kernel)
theorem dX2_addCell_11 : decode cX2_addCell 11 = .ok (.aload_n 0, 1) := oc_42 (by decide +kernel)
theorem dX2_addCell_12 : decode cX2_addCell 12 = .ok (.getfield 73, 3) := oc_180 (a := 0) (b := 73) (by decide +kernel)
theorem dX2_addCell_15 : decode cX2_addCell 15 = .ok (.istore 7, 2) := oc_54 (by decide +kernel)
theorem dX2_addCell_17 : decode cX2_addCell 17 = .ok (.aload_n 0, 1) := oc_42 (by decide +kernel)
theorem dX2_addCell_18 : decode cX2_addCell 18 = .ok (.getfield 15, 3) := oc_180 (a := 0) (b := 15) (by decide +kernel)
theorem dX2_addCell_21 : decode cX2_addCell 21 = .ok (.iload 7, 2) := oc_21 (by decide +kernel)
theorem dX2_addCell_23 : decode cX2_addCell 23 = .ok (.iload_n 1, 1) := oc_27 (by decide +kernel)
theorem dX2_addCell_24 : decode cX2_addCell 24 = .ok (.iastore, 1) := oc_79 (by decide +kernel)
theorem dX2_addCell_25 : decode cX2_addCell 25 = .ok (.aload_n 0, 1) := oc_42 (by decide +kernel)
theorem dX2_addCell_26 : decode cX2_addCell 26 = .ok (.getfield 19, 3) := oc_180 (a := 0) (b := 19) (by decide +kernel)
theorem dX2_addCell_29 : decode cX2_addCell 29 = .ok (.iload 7, 2) := oc_21 (by decide +kernel)
theorem dX2_addCell_31 : decode cX2_addCell 31 = .ok (.iload_n 2, 1) := oc_28 (by decide +kernel)
theorem dX2_addCell_32 : decode cX2_addCell 32 = .ok (.iastore, 1) := oc_79 (by decide +kernel)
theorem dX2_addCell_33 : decode cX2_addCell 33 = .ok (.aload_n 0, 1) := oc_42 (by decide +kernel)
theorem dX2_addCell_34 : decode cX2_addCell 34 = .ok (.getfield 22, 3) := oc_180 (a := 0) (b := 22) (by decide +kernel)
theorem dX2_addCell_37 : decode cX2_addCell 37 = .ok (.iload 7, 2) := oc_21 (by decide +kernel)
theorem dX2_addCell_39 : decode cX2_addCell 39 = .ok (.iload_n 3, 1) := oc_29 (by decide +kernel)
theorem dX2_addCell_40 : decode cX2_addCell 40 = .ok (.iastore, 1) := oc_79 (by decide +kernel)
theorem dX2_addCell_41 : decode cX2_addCell 41 = .ok (.aload_n 0, 1) := oc_42 (by decide +kernel)
theorem dX2_addCell_42 : decode cX2_addCell 42 = .ok (.getfield 25, 3) := oc_180 (a := 0) (b := 25) (by decide +kernel)
theorem dX2_addCell_45 : decode cX2_addCell 45 = .ok (.iload 7, 2) := oc_21 (by decide +kernel)
theorem dX2_addCell_47 : decode cX2_addCell 47 = .ok (.iload 4, 2) := oc_21 (by decide +kernel)
theorem dX2_addCell_49 : decode cX2_addCell 49 = .ok (.iastore, 1) := oc_79 (by decide +kernel)
theorem dX2_addCell_50 : decode cX2_addCell 50 = .ok (.aload_n 0, 1) := oc_42 (by decide +kernel)
theorem dX2_addCell_51 : decode cX2_addCell 51 = .ok (.getfield 28, 3) := oc_180 (a := 0) (b := 28) (by decide +kernel)
theorem dX2_addCell_54 : decode cX2_addCell 54 = .ok (.iload 7, 2) := oc_21 (by decide +kernel)
theorem dX2_addCell_56 : decode cX2_addCell 56 = .ok (.iload 5, 2) := oc_21 (by decide +kernel)
theorem dX2_addCell_58 : decode cX2_addCell 58 = .ok (.iastore, 1) := oc_79 (by decide +kernel)
theorem dX2_addCell_59 : decode cX2_addCell 59 = .ok (.aload_n 0, 1) := oc_42 (by decide +kernel)
theorem dX2_addCell_60 : decode cX2_addCell 60 = .ok (.getfield 31, 3) := oc_180 (a := 0) (b := 31) (by decide +kernel)
theorem dX2_addCell_63 : decode cX2_addCell 63 = .ok (.iload 7, 2) := oc_21 (by decide +kernel)
theorem dX2_addCell_65 : decode cX2_addCell 65 = .ok (.iload 6, 2) := oc_21 (by decide +kernel)
theorem dX2_addCell_67 : decode cX2_addCell 67 = .ok (.iastore, 1) := oc_79 (by decide +kernel)
theorem dX2_addCell_68 : decode cX2_addCell 68 = .ok (.aload_n 0, 1) := oc_42 (by decide +kernel)
theorem dX2_addCell_69 : decode cX2_addCell 69 = .ok (.iload 7, 2) := oc_21 (by decide +kernel)
theorem dX2_addCell_71 : decode cX2_addCell 71 = .ok (.iload_n 1, 1) := oc_27 (by decide +kernel)
theorem tw_223 : Cond.methodLink RX2 97 yX2_joinRing ∈ wsL_law := sg_10 _ (List.mem_of_getElem? (i := 7) rfl)
theorem tw_224 : Cond.instanceMethod yX2_joinRing ∈ wsL_law := sg_10 _ (List.mem_of_getElem? (i := 8) rfl)
theorem tw_225 : Cond.selects RX2 yX2_joinRing yX2_joinRing ∈ wsL_law := sg_10 _ (List.mem_of_getElem? (i := 9) rfl)
theorem tw_226 : Cond.code yX2_joinRing cX2_joinRing 5 none ∈ wsL_law := sg_10 _ (List.mem_of_getElem? (i := 10) rfl)
theorem dX2_addCell_72 : decode cX2_addCell 72 = .ok (.invokevirtual 97, 3) := oc_182 (a := 0) (b := 97) (by decide +kernel)
theorem dX2_addCell_75 : decode cX2_addCell 75 = .ok (.aload_n 0, 1) := oc_42 (by decide +kernel)
theorem dX2_addCell_76 : decode cX2_addCell 76 = .ok (.dup, 1) := oc_89 (by decide +kernel)
theorem dX2_addCell_77 : decode cX2_addCell 77 = .ok (.getfield 73, 3) := oc_180 (a := 0) (b := 73) (by decide +kernel)
theorem dX2_addCell_80 : decode cX2_addCell 80 = .ok (.iconst 1, 1) := oc_4 (by decide +kernel)
theorem dX2_addCell_81 : decode cX2_addCell 81 = .ok (.iadd, 1) := oc_96 (by decide +kernel)
theorem dX2_addCell_82 : decode cX2_addCell 82 = .ok (.putfield 73, 3) := oc_181 (a := 0) (b := 73) (by decide +kernel)
theorem dX2_addCell_85 : decode cX2_addCell 85 = .ok (.iload 7, 2) := oc_21 (by decide +kernel)
theorem dX2_addCell_87 : decode cX2_addCell 87 = .ok (.ireturn, 1) := oc_172 (by decide +kernel)
theorem dX2_addCell_9 : decode cX2_addCell 9 = .ok (.iconst (-1), 1) := oc_2 (by decide +kernel)
theorem dX2_addCell_10 : decode cX2_addCell 10 = .ok (.ireturn, 1) := oc_172 (by decide +kernel)
theorem dX2_topOf_0 : decode cX2_topOf 0 = .ok (.aload_n 0, 1) := oc_42 (by decide +kernel)
theorem dX2_topOf_1 : decode cX2_topOf 1 = .ok (.getfield 19, 3) := oc_180 (a := 0) (b := 19) (by decide +kernel)
theorem dX2_topOf_4 : decode cX2_topOf 4 = .ok (.iload_n 1, 1) := oc_27 (by decide +kernel)
theorem dX2_topOf_5 : decode cX2_topOf 5 = .ok (.iaload, 1) := oc_46 (by decide +kernel)
theorem dX2_topOf_6 : decode cX2_topOf 6 = .ok (.aload_n 0, 1) := oc_42 (by decide +kernel)
theorem dX2_topOf_7 : decode cX2_topOf 7 = .ok (.getfield 28, 3) := oc_180 (a := 0) (b := 28) (by decide +kernel)
theorem dX2_topOf_10 : decode cX2_topOf 10 = .ok (.iload_n 1, 1) := oc_27 (by decide +kernel)
theorem dX2_topOf_11 : decode cX2_topOf 11 = .ok (.iaload, 1) := oc_46 (by decide +kernel)
theorem dX2_topOf_12 : decode cX2_topOf 12 = .ok (.iadd, 1) := oc_96 (by decide +kernel)
theorem dX2_topOf_13 : decode cX2_topOf 13 = .ok (.aload_n 0, 1) := oc_42 (by decide +kernel)
theorem dX2_topOf_14 : decode cX2_topOf 14 = .ok (.getfield 31, 3) := oc_180 (a := 0) (b := 31) (by decide +kernel)
theorem dX2_topOf_17 : decode cX2_topOf 17 = .ok (.iload_n 1, 1) := oc_27 (by decide +kernel)
theorem dX2_topOf_18 : decode cX2_topOf 18 = .ok (.iaload, 1) := oc_46 (by decide +kernel)
theorem dX2_topOf_19 : decode cX2_topOf 19 = .ok (.iconst 4, 1) := oc_7 (by decide +kernel)
theorem dX2_topOf_20 : decode cX2_topOf 20 = .ok (.idiv, 1) := oc_108 (by decide +kernel)
theorem dX2_topOf_21 : decode cX2_topOf 21 = .ok (.iadd, 1) := oc_96 (by decide +kernel)
theorem dX2_topOf_22 : decode cX2_topOf 22 = .ok (.aload_n 0, 1) := oc_42 (by decide +kernel)
theorem dX2_topOf_23 : decode cX2_topOf 23 = .ok (.getfield 34, 3) := oc_180 (a := 0) (b := 34) (by decide +kernel)
theorem dX2_topOf_26 : decode cX2_topOf 26 = .ok (.iload_n 1, 1) := oc_27 (by decide +kernel)
theorem dX2_topOf_27 : decode cX2_topOf 27 = .ok (.iaload, 1) := oc_46 (by decide +kernel)
theorem dX2_topOf_28 : decode cX2_topOf 28 = .ok (.iadd, 1) := oc_96 (by decide +kernel)
theorem dX2_topOf_29 : decode cX2_topOf 29 = .ok (.ireturn, 1) := oc_172 (by decide +kernel)
theorem dX2_isDry_0 : decode cX2_isDry 0 = .ok (.aload_n 0, 1) := oc_42 (by decide +kernel)
theorem dX2_isDry_1 : decode cX2_isDry 1 = .ok (.getfield 79, 3) := oc_180 (a := 0) (b := 79) (by decide +kernel)
theorem dX2_isDry_4 : decode cX2_isDry 4 = .ok (.iload_n 1, 1) := oc_27 (by decide +kernel)
theorem dX2_isDry_5 : decode cX2_isDry 5 = .ok (.invokestatic 101, 3) := oc_184 (a := 0) (b := 101) (by decide +kernel)
theorem dX2_isDry_8 : decode cX2_isDry 8 = .ok (.ireturn, 1) := oc_172 (by decide +kernel)
theorem dX2_growReef_0 : decode cX2_growReef 0 = .ok (.iconst 0, 1) := oc_3 (by decide +kernel)
theorem dX2_growReef_1 : decode cX2_growReef 1 = .ok (.istore_n 2, 1) := oc_61 (by decide +kernel)
theorem dX2_growReef_2 : decode cX2_growReef 2 = .ok (.iload_n 2, 1) := oc_28 (by decide +kernel)
theorem dX2_growReef_3 : decode cX2_growReef 3 = .ok (.aload_n 0, 1) := oc_42 (by decide +kernel)
theorem dX2_growReef_4 : decode cX2_growReef 4 = .ok (.getfield 73, 3) := oc_180 (a := 0) (b := 73) (by decide +kernel)
theorem dX2_growReef_7 : decode cX2_growReef 7 = .ok (.if_icmp .ge 33, 3) := oc_162 (a := 0) (b := 33) (by decide +kernel)
theorem dX2_growReef_40 : decode cX2_growReef 40 = .ok (.return_, 1) := oc_177 (by decide +kernel)
theorem dX2_growReef_10 : decode cX2_growReef 10 = .ok (.aload_n 0, 1) := oc_42 (by decide +kernel)
theorem dX2_growReef_11 : decode cX2_growReef 11 = .ok (.getfield 31, 3) := oc_180 (a := 0) (b := 31) (by decide +kernel)
theorem dX2_growReef_14 : decode cX2_growReef 14 = .ok (.iload_n 2, 1) := oc_28 (by decide +kernel)
theorem dX2_growReef_15 : decode cX2_growReef 15 = .ok (.iconst 0, 1) := oc_3 (by decide +kernel)
theorem dX2_growReef_16 : decode cX2_growReef 16 = .ok (.sipush 400, 3) := oc_17 (a := 1) (b := 144) (by decide +kernel)
theorem dX2_growReef_19 : decode cX2_growReef 19 = .ok (.aload_n 0, 1) := oc_42 (by decide +kernel)
theorem dX2_growReef_20 : decode cX2_growReef 20 = .ok (.getfield 31, 3) := oc_180 (a := 0) (b := 31) (by decide +kernel)
theorem dX2_growReef_23 : decode cX2_growReef 23 = .ok (.iload_n 2, 1) := oc_28 (by decide +kernel)
theorem dX2_growReef_24 : decode cX2_growReef 24 = .ok (.iaload, 1) := oc_46 (by decide +kernel)
theorem dX2_growReef_25 : decode cX2_growReef 25 = .ok (.iload_n 1, 1) := oc_27 (by decide +kernel)
theorem dX2_growReef_26 : decode cX2_growReef 26 = .ok (.iadd, 1) := oc_96 (by decide +kernel)
theorem tw_1063 : Cond.methodLink RX2 105 Lib.Math.min.name ∈ wsL_law := sg_45 _ (List.mem_of_getElem? (i := 7) rfl)
theorem dX2_growReef_27 : decode cX2_growReef 27 = .ok (.invokestatic 105, 3) := oc_184 (a := 0) (b := 105) (by decide +kernel)
theorem tw_1064 : Cond.methodLink RX2 111 Lib.Math.max.name ∈ wsL_law := sg_45 _ (List.mem_of_getElem? (i := 8) rfl)
theorem tw_275 : Cond.static Lib.Math.max.name ∈ wsL_law := sg_12 _ (List.mem_of_getElem? (i := 11) rfl)
theorem tw_277 : Cond.code Lib.Math.max.name Lib.Math.max.code 2 (some .int) ∈ wsL_law := sg_12 _ (List.mem_of_getElem? (i := 13) rfl)
theorem dX2_growReef_30 : decode cX2_growReef 30 = .ok (.invokestatic 111, 3) := oc_184 (a := 0) (b := 111) (by decide +kernel)
theorem dX2_growReef_33 : decode cX2_growReef 33 = .ok (.iastore, 1) := oc_79 (by decide +kernel)
theorem dX2_growReef_34 : decode cX2_growReef 34 = .ok (.iinc 2 1, 3) := oc_132 (b := 1) (by decide +kernel)
theorem dX2_growReef_37 : decode cX2_growReef 37 = .ok (.goto (-35), 3) := oc_167 (a := 255) (b := 221) (by decide +kernel)
set_option maxHeartbeats 4000000 in
set_option maxRecDepth 100000 in
theorem s_X11_copy_71_71 (l : Launch) (D : va_G) (t : pq_T) (σ : pq_S) (I : Nat → Nat → Int32) (J : Nat → Nat → Int64) (ri : Nat → Nat → Int32) (rj : Nat → Nat → Int64) (rq : Nat → Nat → Option Nat) (sz : Nat) (tg : Nat → Nat) (hSH : SH σ tg) (hG0 : GS tg σ I ri rq) (a0 : Nat) (a1 : Nat) (hL_a0 : a0 ∈ σ.1) (hK_a0 : σ.2.1 a0 = 13) (hN_a0 : σ.2.2.2 a0 = 40) (hT_a0 : tg a0 = 71) (hL_a1 : a1 ∈ σ.1) (hK_a1 : σ.2.1 a1 = 13) (hN_a1 : σ.2.2.2 a1 = 40) (hT_a1 : tg a1 = 71) : MetV l yX11_copy (wa yX11_copy cX11_copy 2 none) ({ frames := 1, cells := 0, slots := 0, locals := 60 }) [.ref a0, .ref a1] D t σ (I, J, ri, rj, rq) sz 0 0 (fun (u : pq_S × pq_M) => ∃ ri' : Nat → Nat → Int32, u = (σ, I, J, ri', rj, rq) ∧ GX [] tg σ I ri rj I ri' rj rq ∧ (∀ j, j < 40 → ri' a1 j = ri a0 j) ∧ (∀ q, q ≠ a1 → ri' q = ri q)) := by
  refine Met.ofW (cc := cX11_copy) (maxL := 2) (ret := none) (by decide) rfl ?_
  intro p e s m args below meth c s₁ B hml hv
  obtain ⟨rfl, hsz, hP, hK, hD0, hN⟩ := hv
  have hx := B.exec
  have hb := B.bytes
  have hr := B.returns
  have hts := atoms_spec (ws := (wa yX11_copy cX11_copy 2 none)) B.pre
  have hown : s.vm.findClass RX11 = some m.cls := findClass_of_methodNamed B.named
  have hlocks := B.notSynchronized
  subst hsz
  have hD : va_D (pq_B t σ (I, J, ri, rj, rq) s.heap.size) (pq_P t σ (I, J, ri, rj, rq)) := hD0.self
  generalize hAe : pq_B t σ (I, J, ri, rj, rq) s.heap.size = A at hD ⊢
  have hA : ∀ q : Nat, s.heap.size ≤ q → A q := fun q h => by rw [← hAe]; exact Or.inr h
  have hS : va_S A s.heap s.heap [] := va_S.rf
  have hG : GX [] tg σ I ri rj I ri rj rq := ⟨hG0, fun _ _ _ => rfl, fun _ _ _ _ _ => rfl, fun _ _ _ _ _ => rfl⟩
  have hl := lv_entry ([.ref a0, .ref a1]) (n := 2) (Nat.le_of_ble_eq_true rfl)
  rw [lg_entry_eq]
  generalize (lg_sl ([.ref a0, .ref a1]) ++ List.replicate (2 - (lg_sl ([.ref a0, .ref a1])).length) Slot.unset).toArray = ls at hl ⊢
  have hl : lv_has ls 2 [(0, .ref a0), (1, .ref a1)] := hl
  refine q_gen (fun Q hQ => ?_)
  have go : ∀ (H : Heap) (locs : List Loc) (ls : Array Slot), va_P D vwCl (pq_P t σ (I, J, ri, rj, rq)) H → va_D A (pq_P t σ (I, J, ri, rj, rq)) → va_S A s.heap H locs → lv_has ls 2 [(0, .ref a0), (1, .ref a1)] → W p l e ({ frames := 1, cells := 0, slots := 0, locals := 60 } : Room) s m (List.toArray ([.ref a0, .ref a1] : List Value)) below meth c H locs 0 0 Q (F0 m 0 ls []) := by
    intro H locs ls hP hD hS hl
    refine lv_aload_n hx hb dX11_copy_0 rfl (lv_at hl 0 rfl) ?_
    refine lv_iconst (v := 0) hx hb dX11_copy_1 (by decide) ?_
    refine lv_aload_n hx hb dX11_copy_2 rfl (lv_at hl 1 rfl) ?_
    refine lv_iconst (v := 0) hx hb dX11_copy_3 (by decide) ?_
    refine lv_aload_n hx hb dX11_copy_4 rfl (lv_at hl 0 rfl) ?_
    refine pn_i (v := 40) hx hb hK hP hL_a0 hK_a0 hN_a0 (by decide) dX11_copy_5 ?_
    refine lv_aload_n hx hb dX11_copy_6 rfl (lv_at hl 1 rfl) ?_
    refine pn_i (v := 40) hx hb hK hP hL_a1 hK_a1 hN_a1 (by decide) dX11_copy_7 ?_
    refine va_mmin hx hb (hml.trans hl.1.symm) hown (hts _ (tw_c tw_1103)) (hts _ (tw_c tw_467)) (hts _ (tw_c tw_276)) (hts _ (tw_c tw_468)) (Nat.le_of_ble_eq_true rfl) (Nat.le_of_ble_eq_true rfl) (Nat.zero_le _) (Nat.zero_le _) dX11_copy_8 ?_
    refine lv_topi (fun x_1 ex_1 => ?_)
    have h_2 : rg x_1 40 40 := rg_of_eq ex_1 (rg_min2 (rg_k (40 : Int32) 40 rfl) (rg_k (40 : Int32) 40 rfl) (by decide))
    refine pc_i hx hb (hml.trans hl.1.symm) hown (hts _ (tw_c tw_1104)) (hts _ (tw_c tw_1105)) (hts _ (tw_c tw_1106)) (hts _ (tw_c tw_1107)) hK hP hD hS hL_a0 hK_a0 hN_a0 hL_a1 hK_a1 hN_a1 (rg_pos (rg_k (0 : Int32) 0 rfl) (by decide)) (rg_pos h_2 (by decide)) (rg_cp (rg_k (0 : Int32) 0 rfl) h_2 (by decide)) (rg_cl h_2 (by decide)) (Nat.le_of_ble_eq_true rfl) (Nat.le_of_ble_eq_true rfl) dX11_copy_11 (fun r_3 H locs er_3 hP hD hS => ?_)
    have hG := GX.cR hG hSH hT_a0 rfl hT_a1 rfl er_3 (by decide)
    subst hQ
    exact W.vret hx hb hr (fun t1 ht hW => ⟨⟨(σ, I, J, r_3, rj, rq), rfl, ⟨r_3, rfl, hG, (cpy_eq er_3 h_2 rfl), (fun q hq => by rw [er_3, va_up_ne _ _ hq])⟩, by rw [ht]; exact hP, va_K.moved hW.alike hK, hD⟩, hS.F ht⟩) hS.2.2 dX11_copy_14
  exact go _ _ _ hP hD hS hl

set_option maxHeartbeats 4000000 in
set_option maxRecDepth 100000 in
theorem s_X11_copy_72_72 (l : Launch) (D : va_G) (t : pq_T) (σ : pq_S) (I : Nat → Nat → Int32) (J : Nat → Nat → Int64) (ri : Nat → Nat → Int32) (rj : Nat → Nat → Int64) (rq : Nat → Nat → Option Nat) (sz : Nat) (tg : Nat → Nat) (hSH : SH σ tg) (hG0 : GS tg σ I ri rq) (a0 : Nat) (a1 : Nat) (hL_a0 : a0 ∈ σ.1) (hK_a0 : σ.2.1 a0 = 13) (hN_a0 : σ.2.2.2 a0 = 40) (hT_a0 : tg a0 = 72) (hL_a1 : a1 ∈ σ.1) (hK_a1 : σ.2.1 a1 = 13) (hN_a1 : σ.2.2.2 a1 = 40) (hT_a1 : tg a1 = 72) : MetV l yX11_copy (wa yX11_copy cX11_copy 2 none) ({ frames := 1, cells := 0, slots := 0, locals := 60 }) [.ref a0, .ref a1] D t σ (I, J, ri, rj, rq) sz 0 0 (fun (u : pq_S × pq_M) => ∃ ri' : Nat → Nat → Int32, u = (σ, I, J, ri', rj, rq) ∧ GX [] tg σ I ri rj I ri' rj rq ∧ (∀ j, j < 40 → ri' a1 j = ri a0 j) ∧ (∀ q, q ≠ a1 → ri' q = ri q)) := by
  refine Met.ofW (cc := cX11_copy) (maxL := 2) (ret := none) (by decide) rfl ?_
  intro p e s m args below meth c s₁ B hml hv
  obtain ⟨rfl, hsz, hP, hK, hD0, hN⟩ := hv
  have hx := B.exec
  have hb := B.bytes
  have hr := B.returns
  have hts := atoms_spec (ws := (wa yX11_copy cX11_copy 2 none)) B.pre
  have hown : s.vm.findClass RX11 = some m.cls := findClass_of_methodNamed B.named
  have hlocks := B.notSynchronized
  subst hsz
  have hD : va_D (pq_B t σ (I, J, ri, rj, rq) s.heap.size) (pq_P t σ (I, J, ri, rj, rq)) := hD0.self
  generalize hAe : pq_B t σ (I, J, ri, rj, rq) s.heap.size = A at hD ⊢
  have hA : ∀ q : Nat, s.heap.size ≤ q → A q := fun q h => by rw [← hAe]; exact Or.inr h
  have hS : va_S A s.heap s.heap [] := va_S.rf
  have hG : GX [] tg σ I ri rj I ri rj rq := ⟨hG0, fun _ _ _ => rfl, fun _ _ _ _ _ => rfl, fun _ _ _ _ _ => rfl⟩
  have hl := lv_entry ([.ref a0, .ref a1]) (n := 2) (Nat.le_of_ble_eq_true rfl)
  rw [lg_entry_eq]
  generalize (lg_sl ([.ref a0, .ref a1]) ++ List.replicate (2 - (lg_sl ([.ref a0, .ref a1])).length) Slot.unset).toArray = ls at hl ⊢
  have hl : lv_has ls 2 [(0, .ref a0), (1, .ref a1)] := hl
  refine q_gen (fun Q hQ => ?_)
  have go : ∀ (H : Heap) (locs : List Loc) (ls : Array Slot), va_P D vwCl (pq_P t σ (I, J, ri, rj, rq)) H → va_D A (pq_P t σ (I, J, ri, rj, rq)) → va_S A s.heap H locs → lv_has ls 2 [(0, .ref a0), (1, .ref a1)] → W p l e ({ frames := 1, cells := 0, slots := 0, locals := 60 } : Room) s m (List.toArray ([.ref a0, .ref a1] : List Value)) below meth c H locs 0 0 Q (F0 m 0 ls []) := by
    intro H locs ls hP hD hS hl
    refine lv_aload_n hx hb dX11_copy_0 rfl (lv_at hl 0 rfl) ?_
    refine lv_iconst (v := 0) hx hb dX11_copy_1 (by decide) ?_
    refine lv_aload_n hx hb dX11_copy_2 rfl (lv_at hl 1 rfl) ?_
    refine lv_iconst (v := 0) hx hb dX11_copy_3 (by decide) ?_
    refine lv_aload_n hx hb dX11_copy_4 rfl (lv_at hl 0 rfl) ?_
    refine pn_i (v := 40) hx hb hK hP hL_a0 hK_a0 hN_a0 (by decide) dX11_copy_5 ?_
    refine lv_aload_n hx hb dX11_copy_6 rfl (lv_at hl 1 rfl) ?_
    refine pn_i (v := 40) hx hb hK hP hL_a1 hK_a1 hN_a1 (by decide) dX11_copy_7 ?_
    refine va_mmin hx hb (hml.trans hl.1.symm) hown (hts _ (tw_c tw_1103)) (hts _ (tw_c tw_467)) (hts _ (tw_c tw_276)) (hts _ (tw_c tw_468)) (Nat.le_of_ble_eq_true rfl) (Nat.le_of_ble_eq_true rfl) (Nat.zero_le _) (Nat.zero_le _) dX11_copy_8 ?_
    refine lv_topi (fun x_1 ex_1 => ?_)
    have h_2 : rg x_1 40 40 := rg_of_eq ex_1 (rg_min2 (rg_k (40 : Int32) 40 rfl) (rg_k (40 : Int32) 40 rfl) (by decide))
    refine pc_i hx hb (hml.trans hl.1.symm) hown (hts _ (tw_c tw_1104)) (hts _ (tw_c tw_1105)) (hts _ (tw_c tw_1106)) (hts _ (tw_c tw_1107)) hK hP hD hS hL_a0 hK_a0 hN_a0 hL_a1 hK_a1 hN_a1 (rg_pos (rg_k (0 : Int32) 0 rfl) (by decide)) (rg_pos h_2 (by decide)) (rg_cp (rg_k (0 : Int32) 0 rfl) h_2 (by decide)) (rg_cl h_2 (by decide)) (Nat.le_of_ble_eq_true rfl) (Nat.le_of_ble_eq_true rfl) dX11_copy_11 (fun r_3 H locs er_3 hP hD hS => ?_)
    have hG := GX.cR hG hSH hT_a0 rfl hT_a1 rfl er_3 (by decide)
    subst hQ
    exact W.vret hx hb hr (fun t1 ht hW => ⟨⟨(σ, I, J, r_3, rj, rq), rfl, ⟨r_3, rfl, hG, (cpy_eq er_3 h_2 rfl), (fun q hq => by rw [er_3, va_up_ne _ _ hq])⟩, by rw [ht]; exact hP, va_K.moved hW.alike hK, hD⟩, hS.F ht⟩) hS.2.2 dX11_copy_14
  exact go _ _ _ hP hD hS hl

set_option maxHeartbeats 4000000 in
set_option maxRecDepth 100000 in
theorem s_X11_copy_73_73 (l : Launch) (D : va_G) (t : pq_T) (σ : pq_S) (I : Nat → Nat → Int32) (J : Nat → Nat → Int64) (ri : Nat → Nat → Int32) (rj : Nat → Nat → Int64) (rq : Nat → Nat → Option Nat) (sz : Nat) (tg : Nat → Nat) (hSH : SH σ tg) (hG0 : GS tg σ I ri rq) (a0 : Nat) (a1 : Nat) (hL_a0 : a0 ∈ σ.1) (hK_a0 : σ.2.1 a0 = 13) (hN_a0 : σ.2.2.2 a0 = 40) (hT_a0 : tg a0 = 73) (hL_a1 : a1 ∈ σ.1) (hK_a1 : σ.2.1 a1 = 13) (hN_a1 : σ.2.2.2 a1 = 40) (hT_a1 : tg a1 = 73) : MetV l yX11_copy (wa yX11_copy cX11_copy 2 none) ({ frames := 1, cells := 0, slots := 0, locals := 60 }) [.ref a0, .ref a1] D t σ (I, J, ri, rj, rq) sz 0 0 (fun (u : pq_S × pq_M) => ∃ ri' : Nat → Nat → Int32, u = (σ, I, J, ri', rj, rq) ∧ GX [1073] tg σ I ri rj I ri' rj rq ∧ (∀ j, j < 40 → ri' a1 j = ri a0 j) ∧ (∀ q, q ≠ a1 → ri' q = ri q)) := by
  refine Met.ofW (cc := cX11_copy) (maxL := 2) (ret := none) (by decide) rfl ?_
  intro p e s m args below meth c s₁ B hml hv
  obtain ⟨rfl, hsz, hP, hK, hD0, hN⟩ := hv
  have hx := B.exec
  have hb := B.bytes
  have hr := B.returns
  have hts := atoms_spec (ws := (wa yX11_copy cX11_copy 2 none)) B.pre
  have hown : s.vm.findClass RX11 = some m.cls := findClass_of_methodNamed B.named
  have hlocks := B.notSynchronized
  subst hsz
  have hD : va_D (pq_B t σ (I, J, ri, rj, rq) s.heap.size) (pq_P t σ (I, J, ri, rj, rq)) := hD0.self
  generalize hAe : pq_B t σ (I, J, ri, rj, rq) s.heap.size = A at hD ⊢
  have hA : ∀ q : Nat, s.heap.size ≤ q → A q := fun q h => by rw [← hAe]; exact Or.inr h
  have hS : va_S A s.heap s.heap [] := va_S.rf
  have hG : GX [1073] tg σ I ri rj I ri rj rq := ⟨hG0, fun _ _ _ => rfl, fun _ _ _ _ _ => rfl, fun _ _ _ _ _ => rfl⟩
  have hl := lv_entry ([.ref a0, .ref a1]) (n := 2) (Nat.le_of_ble_eq_true rfl)
  rw [lg_entry_eq]
  generalize (lg_sl ([.ref a0, .ref a1]) ++ List.replicate (2 - (lg_sl ([.ref a0, .ref a1])).length) Slot.unset).toArray = ls at hl ⊢
  have hl : lv_has ls 2 [(0, .ref a0), (1, .ref a1)] := hl
  refine q_gen (fun Q hQ => ?_)
  have go : ∀ (H : Heap) (locs : List Loc) (ls : Array Slot), va_P D vwCl (pq_P t σ (I, J, ri, rj, rq)) H → va_D A (pq_P t σ (I, J, ri, rj, rq)) → va_S A s.heap H locs → lv_has ls 2 [(0, .ref a0), (1, .ref a1)] → W p l e ({ frames := 1, cells := 0, slots := 0, locals := 60 } : Room) s m (List.toArray ([.ref a0, .ref a1] : List Value)) below meth c H locs 0 0 Q (F0 m 0 ls []) := by
    intro H locs ls hP hD hS hl
    refine lv_aload_n hx hb dX11_copy_0 rfl (lv_at hl 0 rfl) ?_
    refine lv_iconst (v := 0) hx hb dX11_copy_1 (by decide) ?_
    refine lv_aload_n hx hb dX11_copy_2 rfl (lv_at hl 1 rfl) ?_
    refine lv_iconst (v := 0) hx hb dX11_copy_3 (by decide) ?_
    refine lv_aload_n hx hb dX11_copy_4 rfl (lv_at hl 0 rfl) ?_
    refine pn_i (v := 40) hx hb hK hP hL_a0 hK_a0 hN_a0 (by decide) dX11_copy_5 ?_
    refine lv_aload_n hx hb dX11_copy_6 rfl (lv_at hl 1 rfl) ?_
    refine pn_i (v := 40) hx hb hK hP hL_a1 hK_a1 hN_a1 (by decide) dX11_copy_7 ?_
    refine va_mmin hx hb (hml.trans hl.1.symm) hown (hts _ (tw_c tw_1103)) (hts _ (tw_c tw_467)) (hts _ (tw_c tw_276)) (hts _ (tw_c tw_468)) (Nat.le_of_ble_eq_true rfl) (Nat.le_of_ble_eq_true rfl) (Nat.zero_le _) (Nat.zero_le _) dX11_copy_8 ?_
    refine lv_topi (fun x_1 ex_1 => ?_)
    have h_2 : rg x_1 40 40 := rg_of_eq ex_1 (rg_min2 (rg_k (40 : Int32) 40 rfl) (rg_k (40 : Int32) 40 rfl) (by decide))
    refine pc_i hx hb (hml.trans hl.1.symm) hown (hts _ (tw_c tw_1104)) (hts _ (tw_c tw_1105)) (hts _ (tw_c tw_1106)) (hts _ (tw_c tw_1107)) hK hP hD hS hL_a0 hK_a0 hN_a0 hL_a1 hK_a1 hN_a1 (rg_pos (rg_k (0 : Int32) 0 rfl) (by decide)) (rg_pos h_2 (by decide)) (rg_cp (rg_k (0 : Int32) 0 rfl) h_2 (by decide)) (rg_cl h_2 (by decide)) (Nat.le_of_ble_eq_true rfl) (Nat.le_of_ble_eq_true rfl) dX11_copy_11 (fun r_3 H locs er_3 hP hD hS => ?_)
    have hG := GX.cR hG hSH hT_a0 rfl hT_a1 rfl er_3 (by decide)
    subst hQ
    exact W.vret hx hb hr (fun t1 ht hW => ⟨⟨(σ, I, J, r_3, rj, rq), rfl, ⟨r_3, rfl, hG, (cpy_eq er_3 h_2 rfl), (fun q hq => by rw [er_3, va_up_ne _ _ hq])⟩, by rw [ht]; exact hP, va_K.moved hW.alike hK, hD⟩, hS.F ht⟩) hS.2.2 dX11_copy_14
  exact go _ _ _ hP hD hS hl

set_option maxHeartbeats 4000000 in
set_option maxRecDepth 100000 in
theorem s_X11_copy_74_74 (l : Launch) (D : va_G) (t : pq_T) (σ : pq_S) (I : Nat → Nat → Int32) (J : Nat → Nat → Int64) (ri : Nat → Nat → Int32) (rj : Nat → Nat → Int64) (rq : Nat → Nat → Option Nat) (sz : Nat) (tg : Nat → Nat) (hSH : SH σ tg) (hG0 : GS tg σ I ri rq) (a0 : Nat) (a1 : Nat) (hL_a0 : a0 ∈ σ.1) (hK_a0 : σ.2.1 a0 = 13) (hN_a0 : σ.2.2.2 a0 = 40) (hT_a0 : tg a0 = 74) (hL_a1 : a1 ∈ σ.1) (hK_a1 : σ.2.1 a1 = 13) (hN_a1 : σ.2.2.2 a1 = 40) (hT_a1 : tg a1 = 74) : MetV l yX11_copy (wa yX11_copy cX11_copy 2 none) ({ frames := 1, cells := 0, slots := 0, locals := 60 }) [.ref a0, .ref a1] D t σ (I, J, ri, rj, rq) sz 0 0 (fun (u : pq_S × pq_M) => ∃ ri' : Nat → Nat → Int32, u = (σ, I, J, ri', rj, rq) ∧ GX [1074] tg σ I ri rj I ri' rj rq ∧ (∀ j, j < 40 → ri' a1 j = ri a0 j) ∧ (∀ q, q ≠ a1 → ri' q = ri q)) := by
  refine Met.ofW (cc := cX11_copy) (maxL := 2) (ret := none) (by decide) rfl ?_
  intro p e s m args below meth c s₁ B hml hv
  obtain ⟨rfl, hsz, hP, hK, hD0, hN⟩ := hv
  have hx := B.exec
  have hb := B.bytes
  have hr := B.returns
  have hts := atoms_spec (ws := (wa yX11_copy cX11_copy 2 none)) B.pre
  have hown : s.vm.findClass RX11 = some m.cls := findClass_of_methodNamed B.named
  have hlocks := B.notSynchronized
  subst hsz
  have hD : va_D (pq_B t σ (I, J, ri, rj, rq) s.heap.size) (pq_P t σ (I, J, ri, rj, rq)) := hD0.self
  generalize hAe : pq_B t σ (I, J, ri, rj, rq) s.heap.size = A at hD ⊢
  have hA : ∀ q : Nat, s.heap.size ≤ q → A q := fun q h => by rw [← hAe]; exact Or.inr h
  have hS : va_S A s.heap s.heap [] := va_S.rf
  have hG : GX [1074] tg σ I ri rj I ri rj rq := ⟨hG0, fun _ _ _ => rfl, fun _ _ _ _ _ => rfl, fun _ _ _ _ _ => rfl⟩
  have hl := lv_entry ([.ref a0, .ref a1]) (n := 2) (Nat.le_of_ble_eq_true rfl)
  rw [lg_entry_eq]
  generalize (lg_sl ([.ref a0, .ref a1]) ++ List.replicate (2 - (lg_sl ([.ref a0, .ref a1])).length) Slot.unset).toArray = ls at hl ⊢
  have hl : lv_has ls 2 [(0, .ref a0), (1, .ref a1)] := hl
  refine q_gen (fun Q hQ => ?_)
  have go : ∀ (H : Heap) (locs : List Loc) (ls : Array Slot), va_P D vwCl (pq_P t σ (I, J, ri, rj, rq)) H → va_D A (pq_P t σ (I, J, ri, rj, rq)) → va_S A s.heap H locs → lv_has ls 2 [(0, .ref a0), (1, .ref a1)] → W p l e ({ frames := 1, cells := 0, slots := 0, locals := 60 } : Room) s m (List.toArray ([.ref a0, .ref a1] : List Value)) below meth c H locs 0 0 Q (F0 m 0 ls []) := by
    intro H locs ls hP hD hS hl
    refine lv_aload_n hx hb dX11_copy_0 rfl (lv_at hl 0 rfl) ?_
    refine lv_iconst (v := 0) hx hb dX11_copy_1 (by decide) ?_
    refine lv_aload_n hx hb dX11_copy_2 rfl (lv_at hl 1 rfl) ?_
    refine lv_iconst (v := 0) hx hb dX11_copy_3 (by decide) ?_
    refine lv_aload_n hx hb dX11_copy_4 rfl (lv_at hl 0 rfl) ?_
    refine pn_i (v := 40) hx hb hK hP hL_a0 hK_a0 hN_a0 (by decide) dX11_copy_5 ?_
    refine lv_aload_n hx hb dX11_copy_6 rfl (lv_at hl 1 rfl) ?_
    refine pn_i (v := 40) hx hb hK hP hL_a1 hK_a1 hN_a1 (by decide) dX11_copy_7 ?_
    refine va_mmin hx hb (hml.trans hl.1.symm) hown (hts _ (tw_c tw_1103)) (hts _ (tw_c tw_467)) (hts _ (tw_c tw_276)) (hts _ (tw_c tw_468)) (Nat.le_of_ble_eq_true rfl) (Nat.le_of_ble_eq_true rfl) (Nat.zero_le _) (Nat.zero_le _) dX11_copy_8 ?_
    refine lv_topi (fun x_1 ex_1 => ?_)
    have h_2 : rg x_1 40 40 := rg_of_eq ex_1 (rg_min2 (rg_k (40 : Int32) 40 rfl) (rg_k (40 : Int32) 40 rfl) (by decide))
    refine pc_i hx hb (hml.trans hl.1.symm) hown (hts _ (tw_c tw_1104)) (hts _ (tw_c tw_1105)) (hts _ (tw_c tw_1106)) (hts _ (tw_c tw_1107)) hK hP hD hS hL_a0 hK_a0 hN_a0 hL_a1 hK_a1 hN_a1 (rg_pos (rg_k (0 : Int32) 0 rfl) (by decide)) (rg_pos h_2 (by decide)) (rg_cp (rg_k (0 : Int32) 0 rfl) h_2 (by decide)) (rg_cl h_2 (by decide)) (Nat.le_of_ble_eq_true rfl) (Nat.le_of_ble_eq_true rfl) dX11_copy_11 (fun r_3 H locs er_3 hP hD hS => ?_)
    have hG := GX.cR hG hSH hT_a0 rfl hT_a1 rfl er_3 (by decide)
    subst hQ
    exact W.vret hx hb hr (fun t1 ht hW => ⟨⟨(σ, I, J, r_3, rj, rq), rfl, ⟨r_3, rfl, hG, (cpy_eq er_3 h_2 rfl), (fun q hq => by rw [er_3, va_up_ne _ _ hq])⟩, by rw [ht]; exact hP, va_K.moved hW.alike hK, hD⟩, hS.F ht⟩) hS.2.2 dX11_copy_14
  exact go _ _ _ hP hD hS hl

set_option maxHeartbeats 4000000 in
set_option maxRecDepth 100000 in
theorem s_X11_copy_75_75 (l : Launch) (D : va_G) (t : pq_T) (σ : pq_S) (I : Nat → Nat → Int32) (J : Nat → Nat → Int64) (ri : Nat → Nat → Int32) (rj : Nat → Nat → Int64) (rq : Nat → Nat → Option Nat) (sz : Nat) (tg : Nat → Nat) (hSH : SH σ tg) (hG0 : GS tg σ I ri rq) (a0 : Nat) (a1 : Nat) (hL_a0 : a0 ∈ σ.1) (hK_a0 : σ.2.1 a0 = 13) (hN_a0 : σ.2.2.2 a0 = 40) (hT_a0 : tg a0 = 75) (hL_a1 : a1 ∈ σ.1) (hK_a1 : σ.2.1 a1 = 13) (hN_a1 : σ.2.2.2 a1 = 40) (hT_a1 : tg a1 = 75) : MetV l yX11_copy (wa yX11_copy cX11_copy 2 none) ({ frames := 1, cells := 0, slots := 0, locals := 60 }) [.ref a0, .ref a1] D t σ (I, J, ri, rj, rq) sz 0 0 (fun (u : pq_S × pq_M) => ∃ ri' : Nat → Nat → Int32, u = (σ, I, J, ri', rj, rq) ∧ GX [1075] tg σ I ri rj I ri' rj rq ∧ (∀ j, j < 40 → ri' a1 j = ri a0 j) ∧ (∀ q, q ≠ a1 → ri' q = ri q)) := by
  refine Met.ofW (cc := cX11_copy) (maxL := 2) (ret := none) (by decide) rfl ?_
  intro p e s m args below meth c s₁ B hml hv
  obtain ⟨rfl, hsz, hP, hK, hD0, hN⟩ := hv
  have hx := B.exec
  have hb := B.bytes
  have hr := B.returns
  have hts := atoms_spec (ws := (wa yX11_copy cX11_copy 2 none)) B.pre
  have hown : s.vm.findClass RX11 = some m.cls := findClass_of_methodNamed B.named
  have hlocks := B.notSynchronized
  subst hsz
  have hD : va_D (pq_B t σ (I, J, ri, rj, rq) s.heap.size) (pq_P t σ (I, J, ri, rj, rq)) := hD0.self
  generalize hAe : pq_B t σ (I, J, ri, rj, rq) s.heap.size = A at hD ⊢
  have hA : ∀ q : Nat, s.heap.size ≤ q → A q := fun q h => by rw [← hAe]; exact Or.inr h
  have hS : va_S A s.heap s.heap [] := va_S.rf
  have hG : GX [1075] tg σ I ri rj I ri rj rq := ⟨hG0, fun _ _ _ => rfl, fun _ _ _ _ _ => rfl, fun _ _ _ _ _ => rfl⟩
  have hl := lv_entry ([.ref a0, .ref a1]) (n := 2) (Nat.le_of_ble_eq_true rfl)
  rw [lg_entry_eq]
  generalize (lg_sl ([.ref a0, .ref a1]) ++ List.replicate (2 - (lg_sl ([.ref a0, .ref a1])).length) Slot.unset).toArray = ls at hl ⊢
  have hl : lv_has ls 2 [(0, .ref a0), (1, .ref a1)] := hl
  refine q_gen (fun Q hQ => ?_)
  have go : ∀ (H : Heap) (locs : List Loc) (ls : Array Slot), va_P D vwCl (pq_P t σ (I, J, ri, rj, rq)) H → va_D A (pq_P t σ (I, J, ri, rj, rq)) → va_S A s.heap H locs → lv_has ls 2 [(0, .ref a0), (1, .ref a1)] → W p l e ({ frames := 1, cells := 0, slots := 0, locals := 60 } : Room) s m (List.toArray ([.ref a0, .ref a1] : List Value)) below meth c H locs 0 0 Q (F0 m 0 ls []) := by
    intro H locs ls hP hD hS hl
    refine lv_aload_n hx hb dX11_copy_0 rfl (lv_at hl 0 rfl) ?_
    refine lv_iconst (v := 0) hx hb dX11_copy_1 (by decide) ?_
    refine lv_aload_n hx hb dX11_copy_2 rfl (lv_at hl 1 rfl) ?_
    refine lv_iconst (v := 0) hx hb dX11_copy_3 (by decide) ?_
    refine lv_aload_n hx hb dX11_copy_4 rfl (lv_at hl 0 rfl) ?_
    refine pn_i (v := 40) hx hb hK hP hL_a0 hK_a0 hN_a0 (by decide) dX11_copy_5 ?_
    refine lv_aload_n hx hb dX11_copy_6 rfl (lv_at hl 1 rfl) ?_
    refine pn_i (v := 40) hx hb hK hP hL_a1 hK_a1 hN_a1 (by decide) dX11_copy_7 ?_
    refine va_mmin hx hb (hml.trans hl.1.symm) hown (hts _ (tw_c tw_1103)) (hts _ (tw_c tw_467)) (hts _ (tw_c tw_276)) (hts _ (tw_c tw_468)) (Nat.le_of_ble_eq_true rfl) (Nat.le_of_ble_eq_true rfl) (Nat.zero_le _) (Nat.zero_le _) dX11_copy_8 ?_
    refine lv_topi (fun x_1 ex_1 => ?_)
    have h_2 : rg x_1 40 40 := rg_of_eq ex_1 (rg_min2 (rg_k (40 : Int32) 40 rfl) (rg_k (40 : Int32) 40 rfl) (by decide))
    refine pc_i hx hb (hml.trans hl.1.symm) hown (hts _ (tw_c tw_1104)) (hts _ (tw_c tw_1105)) (hts _ (tw_c tw_1106)) (hts _ (tw_c tw_1107)) hK hP hD hS hL_a0 hK_a0 hN_a0 hL_a1 hK_a1 hN_a1 (rg_pos (rg_k (0 : Int32) 0 rfl) (by decide)) (rg_pos h_2 (by decide)) (rg_cp (rg_k (0 : Int32) 0 rfl) h_2 (by decide)) (rg_cl h_2 (by decide)) (Nat.le_of_ble_eq_true rfl) (Nat.le_of_ble_eq_true rfl) dX11_copy_11 (fun r_3 H locs er_3 hP hD hS => ?_)
    have hG := GX.cR hG hSH hT_a0 rfl hT_a1 rfl er_3 (by decide)
    subst hQ
    exact W.vret hx hb hr (fun t1 ht hW => ⟨⟨(σ, I, J, r_3, rj, rq), rfl, ⟨r_3, rfl, hG, (cpy_eq er_3 h_2 rfl), (fun q hq => by rw [er_3, va_up_ne _ _ hq])⟩, by rw [ht]; exact hP, va_K.moved hW.alike hK, hD⟩, hS.F ht⟩) hS.2.2 dX11_copy_14
  exact go _ _ _ hP hD hS hl

set_option maxHeartbeats 4000000 in
set_option maxRecDepth 100000 in
theorem s_X11_copy_76_76 (l : Launch) (D : va_G) (t : pq_T) (σ : pq_S) (I : Nat → Nat → Int32) (J : Nat → Nat → Int64) (ri : Nat → Nat → Int32) (rj : Nat → Nat → Int64) (rq : Nat → Nat → Option Nat) (sz : Nat) (tg : Nat → Nat) (hSH : SH σ tg) (hG0 : GS tg σ I ri rq) (a0 : Nat) (a1 : Nat) (hL_a0 : a0 ∈ σ.1) (hK_a0 : σ.2.1 a0 = 13) (hN_a0 : σ.2.2.2 a0 = 40) (hT_a0 : tg a0 = 76) (hL_a1 : a1 ∈ σ.1) (hK_a1 : σ.2.1 a1 = 13) (hN_a1 : σ.2.2.2 a1 = 40) (hT_a1 : tg a1 = 76) : MetV l yX11_copy (wa yX11_copy cX11_copy 2 none) ({ frames := 1, cells := 0, slots := 0, locals := 60 }) [.ref a0, .ref a1] D t σ (I, J, ri, rj, rq) sz 0 0 (fun (u : pq_S × pq_M) => ∃ ri' : Nat → Nat → Int32, u = (σ, I, J, ri', rj, rq) ∧ GX [] tg σ I ri rj I ri' rj rq ∧ (∀ j, j < 40 → ri' a1 j = ri a0 j) ∧ (∀ q, q ≠ a1 → ri' q = ri q)) := by
  refine Met.ofW (cc := cX11_copy) (maxL := 2) (ret := none) (by decide) rfl ?_
  intro p e s m args below meth c s₁ B hml hv
  obtain ⟨rfl, hsz, hP, hK, hD0, hN⟩ := hv
  have hx := B.exec
  have hb := B.bytes
  have hr := B.returns
  have hts := atoms_spec (ws := (wa yX11_copy cX11_copy 2 none)) B.pre
  have hown : s.vm.findClass RX11 = some m.cls := findClass_of_methodNamed B.named
  have hlocks := B.notSynchronized
  subst hsz
  have hD : va_D (pq_B t σ (I, J, ri, rj, rq) s.heap.size) (pq_P t σ (I, J, ri, rj, rq)) := hD0.self
  generalize hAe : pq_B t σ (I, J, ri, rj, rq) s.heap.size = A at hD ⊢
  have hA : ∀ q : Nat, s.heap.size ≤ q → A q := fun q h => by rw [← hAe]; exact Or.inr h
  have hS : va_S A s.heap s.heap [] := va_S.rf
  have hG : GX [] tg σ I ri rj I ri rj rq := ⟨hG0, fun _ _ _ => rfl, fun _ _ _ _ _ => rfl, fun _ _ _ _ _ => rfl⟩
  have hl := lv_entry ([.ref a0, .ref a1]) (n := 2) (Nat.le_of_ble_eq_true rfl)
  rw [lg_entry_eq]
  generalize (lg_sl ([.ref a0, .ref a1]) ++ List.replicate (2 - (lg_sl ([.ref a0, .ref a1])).length) Slot.unset).toArray = ls at hl ⊢
  have hl : lv_has ls 2 [(0, .ref a0), (1, .ref a1)] := hl
  refine q_gen (fun Q hQ => ?_)
  have go : ∀ (H : Heap) (locs : List Loc) (ls : Array Slot), va_P D vwCl (pq_P t σ (I, J, ri, rj, rq)) H → va_D A (pq_P t σ (I, J, ri, rj, rq)) → va_S A s.heap H locs → lv_has ls 2 [(0, .ref a0), (1, .ref a1)] → W p l e ({ frames := 1, cells := 0, slots := 0, locals := 60 } : Room) s m (List.toArray ([.ref a0, .ref a1] : List Value)) below meth c H locs 0 0 Q (F0 m 0 ls []) := by
    intro H locs ls hP hD hS hl
    refine lv_aload_n hx hb dX11_copy_0 rfl (lv_at hl 0 rfl) ?_
    refine lv_iconst (v := 0) hx hb dX11_copy_1 (by decide) ?_
    refine lv_aload_n hx hb dX11_copy_2 rfl (lv_at hl 1 rfl) ?_
    refine lv_iconst (v := 0) hx hb dX11_copy_3 (by decide) ?_
    refine lv_aload_n hx hb dX11_copy_4 rfl (lv_at hl 0 rfl) ?_
    refine pn_i (v := 40) hx hb hK hP hL_a0 hK_a0 hN_a0 (by decide) dX11_copy_5 ?_
    refine lv_aload_n hx hb dX11_copy_6 rfl (lv_at hl 1 rfl) ?_
    refine pn_i (v := 40) hx hb hK hP hL_a1 hK_a1 hN_a1 (by decide) dX11_copy_7 ?_
    refine va_mmin hx hb (hml.trans hl.1.symm) hown (hts _ (tw_c tw_1103)) (hts _ (tw_c tw_467)) (hts _ (tw_c tw_276)) (hts _ (tw_c tw_468)) (Nat.le_of_ble_eq_true rfl) (Nat.le_of_ble_eq_true rfl) (Nat.zero_le _) (Nat.zero_le _) dX11_copy_8 ?_
    refine lv_topi (fun x_1 ex_1 => ?_)
    have h_2 : rg x_1 40 40 := rg_of_eq ex_1 (rg_min2 (rg_k (40 : Int32) 40 rfl) (rg_k (40 : Int32) 40 rfl) (by decide))
    refine pc_i hx hb (hml.trans hl.1.symm) hown (hts _ (tw_c tw_1104)) (hts _ (tw_c tw_1105)) (hts _ (tw_c tw_1106)) (hts _ (tw_c tw_1107)) hK hP hD hS hL_a0 hK_a0 hN_a0 hL_a1 hK_a1 hN_a1 (rg_pos (rg_k (0 : Int32) 0 rfl) (by decide)) (rg_pos h_2 (by decide)) (rg_cp (rg_k (0 : Int32) 0 rfl) h_2 (by decide)) (rg_cl h_2 (by decide)) (Nat.le_of_ble_eq_true rfl) (Nat.le_of_ble_eq_true rfl) dX11_copy_11 (fun r_3 H locs er_3 hP hD hS => ?_)
    have hG := GX.cR hG hSH hT_a0 rfl hT_a1 rfl er_3 (by decide)
    subst hQ
    exact W.vret hx hb hr (fun t1 ht hW => ⟨⟨(σ, I, J, r_3, rj, rq), rfl, ⟨r_3, rfl, hG, (cpy_eq er_3 h_2 rfl), (fun q hq => by rw [er_3, va_up_ne _ _ hq])⟩, by rw [ht]; exact hP, va_K.moved hW.alike hK, hD⟩, hS.F ht⟩) hS.2.2 dX11_copy_14
  exact go _ _ _ hP hD hS hl

set_option maxHeartbeats 4000000 in
set_option maxRecDepth 100000 in
theorem s_X11_copy_77_77 (l : Launch) (D : va_G) (t : pq_T) (σ : pq_S) (I : Nat → Nat → Int32) (J : Nat → Nat → Int64) (ri : Nat → Nat → Int32) (rj : Nat → Nat → Int64) (rq : Nat → Nat → Option Nat) (sz : Nat) (tg : Nat → Nat) (hSH : SH σ tg) (hG0 : GS tg σ I ri rq) (a0 : Nat) (a1 : Nat) (hL_a0 : a0 ∈ σ.1) (hK_a0 : σ.2.1 a0 = 13) (hN_a0 : σ.2.2.2 a0 = 40) (hT_a0 : tg a0 = 77) (hL_a1 : a1 ∈ σ.1) (hK_a1 : σ.2.1 a1 = 13) (hN_a1 : σ.2.2.2 a1 = 40) (hT_a1 : tg a1 = 77) : MetV l yX11_copy (wa yX11_copy cX11_copy 2 none) ({ frames := 1, cells := 0, slots := 0, locals := 60 }) [.ref a0, .ref a1] D t σ (I, J, ri, rj, rq) sz 0 0 (fun (u : pq_S × pq_M) => ∃ ri' : Nat → Nat → Int32, u = (σ, I, J, ri', rj, rq) ∧ GX [] tg σ I ri rj I ri' rj rq ∧ (∀ j, j < 40 → ri' a1 j = ri a0 j) ∧ (∀ q, q ≠ a1 → ri' q = ri q)) := by
  refine Met.ofW (cc := cX11_copy) (maxL := 2) (ret := none) (by decide) rfl ?_
  intro p e s m args below meth c s₁ B hml hv
  obtain ⟨rfl, hsz, hP, hK, hD0, hN⟩ := hv
  have hx := B.exec
  have hb := B.bytes
  have hr := B.returns
  have hts := atoms_spec (ws := (wa yX11_copy cX11_copy 2 none)) B.pre
  have hown : s.vm.findClass RX11 = some m.cls := findClass_of_methodNamed B.named
  have hlocks := B.notSynchronized
  subst hsz
  have hD : va_D (pq_B t σ (I, J, ri, rj, rq) s.heap.size) (pq_P t σ (I, J, ri, rj, rq)) := hD0.self
  generalize hAe : pq_B t σ (I, J, ri, rj, rq) s.heap.size = A at hD ⊢
  have hA : ∀ q : Nat, s.heap.size ≤ q → A q := fun q h => by rw [← hAe]; exact Or.inr h
  have hS : va_S A s.heap s.heap [] := va_S.rf
  have hG : GX [] tg σ I ri rj I ri rj rq := ⟨hG0, fun _ _ _ => rfl, fun _ _ _ _ _ => rfl, fun _ _ _ _ _ => rfl⟩
  have hl := lv_entry ([.ref a0, .ref a1]) (n := 2) (Nat.le_of_ble_eq_true rfl)
  rw [lg_entry_eq]
  generalize (lg_sl ([.ref a0, .ref a1]) ++ List.replicate (2 - (lg_sl ([.ref a0, .ref a1])).length) Slot.unset).toArray = ls at hl ⊢
  have hl : lv_has ls 2 [(0, .ref a0), (1, .ref a1)] := hl
  refine q_gen (fun Q hQ => ?_)
  have go : ∀ (H : Heap) (locs : List Loc) (ls : Array Slot), va_P D vwCl (pq_P t σ (I, J, ri, rj, rq)) H → va_D A (pq_P t σ (I, J, ri, rj, rq)) → va_S A s.heap H locs → lv_has ls 2 [(0, .ref a0), (1, .ref a1)] → W p l e ({ frames := 1, cells := 0, slots := 0, locals := 60 } : Room) s m (List.toArray ([.ref a0, .ref a1] : List Value)) below meth c H locs 0 0 Q (F0 m 0 ls []) := by
    intro H locs ls hP hD hS hl
    refine lv_aload_n hx hb dX11_copy_0 rfl (lv_at hl 0 rfl) ?_
    refine lv_iconst (v := 0) hx hb dX11_copy_1 (by decide) ?_
    refine lv_aload_n hx hb dX11_copy_2 rfl (lv_at hl 1 rfl) ?_
    refine lv_iconst (v := 0) hx hb dX11_copy_3 (by decide) ?_
    refine lv_aload_n hx hb dX11_copy_4 rfl (lv_at hl 0 rfl) ?_
    refine pn_i (v := 40) hx hb hK hP hL_a0 hK_a0 hN_a0 (by decide) dX11_copy_5 ?_
    refine lv_aload_n hx hb dX11_copy_6 rfl (lv_at hl 1 rfl) ?_
    refine pn_i (v := 40) hx hb hK hP hL_a1 hK_a1 hN_a1 (by decide) dX11_copy_7 ?_
    refine va_mmin hx hb (hml.trans hl.1.symm) hown (hts _ (tw_c tw_1103)) (hts _ (tw_c tw_467)) (hts _ (tw_c tw_276)) (hts _ (tw_c tw_468)) (Nat.le_of_ble_eq_true rfl) (Nat.le_of_ble_eq_true rfl) (Nat.zero_le _) (Nat.zero_le _) dX11_copy_8 ?_
    refine lv_topi (fun x_1 ex_1 => ?_)
    have h_2 : rg x_1 40 40 := rg_of_eq ex_1 (rg_min2 (rg_k (40 : Int32) 40 rfl) (rg_k (40 : Int32) 40 rfl) (by decide))
    refine pc_i hx hb (hml.trans hl.1.symm) hown (hts _ (tw_c tw_1104)) (hts _ (tw_c tw_1105)) (hts _ (tw_c tw_1106)) (hts _ (tw_c tw_1107)) hK hP hD hS hL_a0 hK_a0 hN_a0 hL_a1 hK_a1 hN_a1 (rg_pos (rg_k (0 : Int32) 0 rfl) (by decide)) (rg_pos h_2 (by decide)) (rg_cp (rg_k (0 : Int32) 0 rfl) h_2 (by decide)) (rg_cl h_2 (by decide)) (Nat.le_of_ble_eq_true rfl) (Nat.le_of_ble_eq_true rfl) dX11_copy_11 (fun r_3 H locs er_3 hP hD hS => ?_)
    have hG := GX.cR hG hSH hT_a0 rfl hT_a1 rfl er_3 (by decide)
    subst hQ
    exact W.vret hx hb hr (fun t1 ht hW => ⟨⟨(σ, I, J, r_3, rj, rq), rfl, ⟨r_3, rfl, hG, (cpy_eq er_3 h_2 rfl), (fun q hq => by rw [er_3, va_up_ne _ _ hq])⟩, by rw [ht]; exact hP, va_K.moved hW.alike hK, hD⟩, hS.F ht⟩) hS.2.2 dX11_copy_14
  exact go _ _ _ hP hD hS hl

set_option maxHeartbeats 4000000 in
set_option maxRecDepth 100000 in
theorem s_X11_copy_288_288 (l : Launch) (D : va_G) (t : pq_T) (σ : pq_S) (I : Nat → Nat → Int32) (J : Nat → Nat → Int64) (ri : Nat → Nat → Int32) (rj : Nat → Nat → Int64) (rq : Nat → Nat → Option Nat) (sz : Nat) (tg : Nat → Nat) (hSH : SH σ tg) (hG0 : GS tg σ I ri rq) (a0 : Nat) (a1 : Nat) (hL_a0 : a0 ∈ σ.1) (hK_a0 : σ.2.1 a0 = 13) (hN_a0 : σ.2.2.2 a0 = 40) (hT_a0 : tg a0 = 288) (hL_a1 : a1 ∈ σ.1) (hK_a1 : σ.2.1 a1 = 13) (hN_a1 : σ.2.2.2 a1 = 40) (hT_a1 : tg a1 = 288) : MetV l yX11_copy (wa yX11_copy cX11_copy 2 none) ({ frames := 1, cells := 0, slots := 0, locals := 60 }) [.ref a0, .ref a1] D t σ (I, J, ri, rj, rq) sz 0 0 (fun (u : pq_S × pq_M) => ∃ ri' : Nat → Nat → Int32, u = (σ, I, J, ri', rj, rq) ∧ GX [1288] tg σ I ri rj I ri' rj rq ∧ (∀ j, j < 40 → ri' a1 j = ri a0 j) ∧ (∀ q, q ≠ a1 → ri' q = ri q)) := by
  refine Met.ofW (cc := cX11_copy) (maxL := 2) (ret := none) (by decide) rfl ?_
  intro p e s m args below meth c s₁ B hml hv
  obtain ⟨rfl, hsz, hP, hK, hD0, hN⟩ := hv
  have hx := B.exec
  have hb := B.bytes
  have hr := B.returns
  have hts := atoms_spec (ws := (wa yX11_copy cX11_copy 2 none)) B.pre
  have hown : s.vm.findClass RX11 = some m.cls := findClass_of_methodNamed B.named
  have hlocks := B.notSynchronized
  subst hsz
  have hD : va_D (pq_B t σ (I, J, ri, rj, rq) s.heap.size) (pq_P t σ (I, J, ri, rj, rq)) := hD0.self
  generalize hAe : pq_B t σ (I, J, ri, rj, rq) s.heap.size = A at hD ⊢
  have hA : ∀ q : Nat, s.heap.size ≤ q → A q := fun q h => by rw [← hAe]; exact Or.inr h
  have hS : va_S A s.heap s.heap [] := va_S.rf
  have hG : GX [1288] tg σ I ri rj I ri rj rq := ⟨hG0, fun _ _ _ => rfl, fun _ _ _ _ _ => rfl, fun _ _ _ _ _ => rfl⟩
  have hl := lv_entry ([.ref a0, .ref a1]) (n := 2) (Nat.le_of_ble_eq_true rfl)
  rw [lg_entry_eq]
  generalize (lg_sl ([.ref a0, .ref a1]) ++ List.replicate (2 - (lg_sl ([.ref a0, .ref a1])).length) Slot.unset).toArray = ls at hl ⊢
  have hl : lv_has ls 2 [(0, .ref a0), (1, .ref a1)] := hl
  refine q_gen (fun Q hQ => ?_)
  have go : ∀ (H : Heap) (locs : List Loc) (ls : Array Slot), va_P D vwCl (pq_P t σ (I, J, ri, rj, rq)) H → va_D A (pq_P t σ (I, J, ri, rj, rq)) → va_S A s.heap H locs → lv_has ls 2 [(0, .ref a0), (1, .ref a1)] → W p l e ({ frames := 1, cells := 0, slots := 0, locals := 60 } : Room) s m (List.toArray ([.ref a0, .ref a1] : List Value)) below meth c H locs 0 0 Q (F0 m 0 ls []) := by
    intro H locs ls hP hD hS hl
    refine lv_aload_n hx hb dX11_copy_0 rfl (lv_at hl 0 rfl) ?_
    refine lv_iconst (v := 0) hx hb dX11_copy_1 (by decide) ?_
    refine lv_aload_n hx hb dX11_copy_2 rfl (lv_at hl 1 rfl) ?_
    refine lv_iconst (v := 0) hx hb dX11_copy_3 (by decide) ?_
    refine lv_aload_n hx hb dX11_copy_4 rfl (lv_at hl 0 rfl) ?_
    refine pn_i (v := 40) hx hb hK hP hL_a0 hK_a0 hN_a0 (by decide) dX11_copy_5 ?_
    refine lv_aload_n hx hb dX11_copy_6 rfl (lv_at hl 1 rfl) ?_
    refine pn_i (v := 40) hx hb hK hP hL_a1 hK_a1 hN_a1 (by decide) dX11_copy_7 ?_
    refine va_mmin hx hb (hml.trans hl.1.symm) hown (hts _ (tw_c tw_1103)) (hts _ (tw_c tw_467)) (hts _ (tw_c tw_276)) (hts _ (tw_c tw_468)) (Nat.le_of_ble_eq_true rfl) (Nat.le_of_ble_eq_true rfl) (Nat.zero_le _) (Nat.zero_le _) dX11_copy_8 ?_
    refine lv_topi (fun x_1 ex_1 => ?_)
    have h_2 : rg x_1 40 40 := rg_of_eq ex_1 (rg_min2 (rg_k (40 : Int32) 40 rfl) (rg_k (40 : Int32) 40 rfl) (by decide))
    refine pc_i hx hb (hml.trans hl.1.symm) hown (hts _ (tw_c tw_1104)) (hts _ (tw_c tw_1105)) (hts _ (tw_c tw_1106)) (hts _ (tw_c tw_1107)) hK hP hD hS hL_a0 hK_a0 hN_a0 hL_a1 hK_a1 hN_a1 (rg_pos (rg_k (0 : Int32) 0 rfl) (by decide)) (rg_pos h_2 (by decide)) (rg_cp (rg_k (0 : Int32) 0 rfl) h_2 (by decide)) (rg_cl h_2 (by decide)) (Nat.le_of_ble_eq_true rfl) (Nat.le_of_ble_eq_true rfl) dX11_copy_11 (fun r_3 H locs er_3 hP hD hS => ?_)
    have hG := GX.cR hG hSH hT_a0 rfl hT_a1 rfl er_3 (by decide)
    subst hQ
    exact W.vret hx hb hr (fun t1 ht hW => ⟨⟨(σ, I, J, r_3, rj, rq), rfl, ⟨r_3, rfl, hG, (cpy_eq er_3 h_2 rfl), (fun q hq => by rw [er_3, va_up_ne _ _ hq])⟩, by rw [ht]; exact hP, va_K.moved hW.alike hK, hD⟩, hS.F ht⟩) hS.2.2 dX11_copy_14
  exact go _ _ _ hP hD hS hl

set_option maxHeartbeats 4000000 in
set_option maxRecDepth 100000 in
theorem s_X11_copy_289_289 (l : Launch) (D : va_G) (t : pq_T) (σ : pq_S) (I : Nat → Nat → Int32) (J : Nat → Nat → Int64) (ri : Nat → Nat → Int32) (rj : Nat → Nat → Int64) (rq : Nat → Nat → Option Nat) (sz : Nat) (tg : Nat → Nat) (hSH : SH σ tg) (hG0 : GS tg σ I ri rq) (a0 : Nat) (a1 : Nat) (hL_a0 : a0 ∈ σ.1) (hK_a0 : σ.2.1 a0 = 13) (hN_a0 : σ.2.2.2 a0 = 40) (hT_a0 : tg a0 = 289) (hL_a1 : a1 ∈ σ.1) (hK_a1 : σ.2.1 a1 = 13) (hN_a1 : σ.2.2.2 a1 = 40) (hT_a1 : tg a1 = 289) : MetV l yX11_copy (wa yX11_copy cX11_copy 2 none) ({ frames := 1, cells := 0, slots := 0, locals := 60 }) [.ref a0, .ref a1] D t σ (I, J, ri, rj, rq) sz 0 0 (fun (u : pq_S × pq_M) => ∃ ri' : Nat → Nat → Int32, u = (σ, I, J, ri', rj, rq) ∧ GX [] tg σ I ri rj I ri' rj rq ∧ (∀ j, j < 40 → ri' a1 j = ri a0 j) ∧ (∀ q, q ≠ a1 → ri' q = ri q)) := by
  refine Met.ofW (cc := cX11_copy) (maxL := 2) (ret := none) (by decide) rfl ?_
  intro p e s m args below meth c s₁ B hml hv
  obtain ⟨rfl, hsz, hP, hK, hD0, hN⟩ := hv
  have hx := B.exec
  have hb := B.bytes
  have hr := B.returns
  have hts := atoms_spec (ws := (wa yX11_copy cX11_copy 2 none)) B.pre
  have hown : s.vm.findClass RX11 = some m.cls := findClass_of_methodNamed B.named
  have hlocks := B.notSynchronized
  subst hsz
  have hD : va_D (pq_B t σ (I, J, ri, rj, rq) s.heap.size) (pq_P t σ (I, J, ri, rj, rq)) := hD0.self
  generalize hAe : pq_B t σ (I, J, ri, rj, rq) s.heap.size = A at hD ⊢
  have hA : ∀ q : Nat, s.heap.size ≤ q → A q := fun q h => by rw [← hAe]; exact Or.inr h
  have hS : va_S A s.heap s.heap [] := va_S.rf
  have hG : GX [] tg σ I ri rj I ri rj rq := ⟨hG0, fun _ _ _ => rfl, fun _ _ _ _ _ => rfl, fun _ _ _ _ _ => rfl⟩
  have hl := lv_entry ([.ref a0, .ref a1]) (n := 2) (Nat.le_of_ble_eq_true rfl)
  rw [lg_entry_eq]
  generalize (lg_sl ([.ref a0, .ref a1]) ++ List.replicate (2 - (lg_sl ([.ref a0, .ref a1])).length) Slot.unset).toArray = ls at hl ⊢
  have hl : lv_has ls 2 [(0, .ref a0), (1, .ref a1)] := hl
  refine q_gen (fun Q hQ => ?_)
  have go : ∀ (H : Heap) (locs : List Loc) (ls : Array Slot), va_P D vwCl (pq_P t σ (I, J, ri, rj, rq)) H → va_D A (pq_P t σ (I, J, ri, rj, rq)) → va_S A s.heap H locs → lv_has ls 2 [(0, .ref a0), (1, .ref a1)] → W p l e ({ frames := 1, cells := 0, slots := 0, locals := 60 } : Room) s m (List.toArray ([.ref a0, .ref a1] : List Value)) below meth c H locs 0 0 Q (F0 m 0 ls []) := by
    intro H locs ls hP hD hS hl
    refine lv_aload_n hx hb dX11_copy_0 rfl (lv_at hl 0 rfl) ?_
    refine lv_iconst (v := 0) hx hb dX11_copy_1 (by decide) ?_
    refine lv_aload_n hx hb dX11_copy_2 rfl (lv_at hl 1 rfl) ?_
    refine lv_iconst (v := 0) hx hb dX11_copy_3 (by decide) ?_
    refine lv_aload_n hx hb dX11_copy_4 rfl (lv_at hl 0 rfl) ?_
    refine pn_i (v := 40) hx hb hK hP hL_a0 hK_a0 hN_a0 (by decide) dX11_copy_5 ?_
    refine lv_aload_n hx hb dX11_copy_6 rfl (lv_at hl 1 rfl) ?_
    refine pn_i (v := 40) hx hb hK hP hL_a1 hK_a1 hN_a1 (by decide) dX11_copy_7 ?_
    refine va_mmin hx hb (hml.trans hl.1.symm) hown (hts _ (tw_c tw_1103)) (hts _ (tw_c tw_467)) (hts _ (tw_c tw_276)) (hts _ (tw_c tw_468)) (Nat.le_of_ble_eq_true rfl) (Nat.le_of_ble_eq_true rfl) (Nat.zero_le _) (Nat.zero_le _) dX11_copy_8 ?_
    refine lv_topi (fun x_1 ex_1 => ?_)
    have h_2 : rg x_1 40 40 := rg_of_eq ex_1 (rg_min2 (rg_k (40 : Int32) 40 rfl) (rg_k (40 : Int32) 40 rfl) (by decide))
    refine pc_i hx hb (hml.trans hl.1.symm) hown (hts _ (tw_c tw_1104)) (hts _ (tw_c tw_1105)) (hts _ (tw_c tw_1106)) (hts _ (tw_c tw_1107)) hK hP hD hS hL_a0 hK_a0 hN_a0 hL_a1 hK_a1 hN_a1 (rg_pos (rg_k (0 : Int32) 0 rfl) (by decide)) (rg_pos h_2 (by decide)) (rg_cp (rg_k (0 : Int32) 0 rfl) h_2 (by decide)) (rg_cl h_2 (by decide)) (Nat.le_of_ble_eq_true rfl) (Nat.le_of_ble_eq_true rfl) dX11_copy_11 (fun r_3 H locs er_3 hP hD hS => ?_)
    have hG := GX.cR hG hSH hT_a0 rfl hT_a1 rfl er_3 (by decide)
    subst hQ
    exact W.vret hx hb hr (fun t1 ht hW => ⟨⟨(σ, I, J, r_3, rj, rq), rfl, ⟨r_3, rfl, hG, (cpy_eq er_3 h_2 rfl), (fun q hq => by rw [er_3, va_up_ne _ _ hq])⟩, by rw [ht]; exact hP, va_K.moved hW.alike hK, hD⟩, hS.F ht⟩) hS.2.2 dX11_copy_14
  exact go _ _ _ hP hD hS hl

set_option maxHeartbeats 4000000 in
set_option maxRecDepth 100000 in
theorem s_X11_copy_290_290 (l : Launch) (D : va_G) (t : pq_T) (σ : pq_S) (I : Nat → Nat → Int32) (J : Nat → Nat → Int64) (ri : Nat → Nat → Int32) (rj : Nat → Nat → Int64) (rq : Nat → Nat → Option Nat) (sz : Nat) (tg : Nat → Nat) (hSH : SH σ tg) (hG0 : GS tg σ I ri rq) (a0 : Nat) (a1 : Nat) (hL_a0 : a0 ∈ σ.1) (hK_a0 : σ.2.1 a0 = 13) (hN_a0 : σ.2.2.2 a0 = 40) (hT_a0 : tg a0 = 290) (hL_a1 : a1 ∈ σ.1) (hK_a1 : σ.2.1 a1 = 13) (hN_a1 : σ.2.2.2 a1 = 40) (hT_a1 : tg a1 = 290) : MetV l yX11_copy (wa yX11_copy cX11_copy 2 none) ({ frames := 1, cells := 0, slots := 0, locals := 60 }) [.ref a0, .ref a1] D t σ (I, J, ri, rj, rq) sz 0 0 (fun (u : pq_S × pq_M) => ∃ ri' : Nat → Nat → Int32, u = (σ, I, J, ri', rj, rq) ∧ GX [] tg σ I ri rj I ri' rj rq ∧ (∀ j, j < 40 → ri' a1 j = ri a0 j) ∧ (∀ q, q ≠ a1 → ri' q = ri q)) := by
  refine Met.ofW (cc := cX11_copy) (maxL := 2) (ret := none) (by decide) rfl ?_
  intro p e s m args below meth c s₁ B hml hv
  obtain ⟨rfl, hsz, hP, hK, hD0, hN⟩ := hv
  have hx := B.exec
  have hb := B.bytes
  have hr := B.returns
  have hts := atoms_spec (ws := (wa yX11_copy cX11_copy 2 none)) B.pre
  have hown : s.vm.findClass RX11 = some m.cls := findClass_of_methodNamed B.named
  have hlocks := B.notSynchronized
  subst hsz
  have hD : va_D (pq_B t σ (I, J, ri, rj, rq) s.heap.size) (pq_P t σ (I, J, ri, rj, rq)) := hD0.self
  generalize hAe : pq_B t σ (I, J, ri, rj, rq) s.heap.size = A at hD ⊢
  have hA : ∀ q : Nat, s.heap.size ≤ q → A q := fun q h => by rw [← hAe]; exact Or.inr h
  have hS : va_S A s.heap s.heap [] := va_S.rf
  have hG : GX [] tg σ I ri rj I ri rj rq := ⟨hG0, fun _ _ _ => rfl, fun _ _ _ _ _ => rfl, fun _ _ _ _ _ => rfl⟩
  have hl := lv_entry ([.ref a0, .ref a1]) (n := 2) (Nat.le_of_ble_eq_true rfl)
  rw [lg_entry_eq]
  generalize (lg_sl ([.ref a0, .ref a1]) ++ List.replicate (2 - (lg_sl ([.ref a0, .ref a1])).length) Slot.unset).toArray = ls at hl ⊢
  have hl : lv_has ls 2 [(0, .ref a0), (1, .ref a1)] := hl
  refine q_gen (fun Q hQ => ?_)
  have go : ∀ (H : Heap) (locs : List Loc) (ls : Array Slot), va_P D vwCl (pq_P t σ (I, J, ri, rj, rq)) H → va_D A (pq_P t σ (I, J, ri, rj, rq)) → va_S A s.heap H locs → lv_has ls 2 [(0, .ref a0), (1, .ref a1)] → W p l e ({ frames := 1, cells := 0, slots := 0, locals := 60 } : Room) s m (List.toArray ([.ref a0, .ref a1] : List Value)) below meth c H locs 0 0 Q (F0 m 0 ls []) := by
    intro H locs ls hP hD hS hl
    refine lv_aload_n hx hb dX11_copy_0 rfl (lv_at hl 0 rfl) ?_
    refine lv_iconst (v := 0) hx hb dX11_copy_1 (by decide) ?_
    refine lv_aload_n hx hb dX11_copy_2 rfl (lv_at hl 1 rfl) ?_
    refine lv_iconst (v := 0) hx hb dX11_copy_3 (by decide) ?_
    refine lv_aload_n hx hb dX11_copy_4 rfl (lv_at hl 0 rfl) ?_
    refine pn_i (v := 40) hx hb hK hP hL_a0 hK_a0 hN_a0 (by decide) dX11_copy_5 ?_
    refine lv_aload_n hx hb dX11_copy_6 rfl (lv_at hl 1 rfl) ?_
    refine pn_i (v := 40) hx hb hK hP hL_a1 hK_a1 hN_a1 (by decide) dX11_copy_7 ?_
    refine va_mmin hx hb (hml.trans hl.1.symm) hown (hts _ (tw_c tw_1103)) (hts _ (tw_c tw_467)) (hts _ (tw_c tw_276)) (hts _ (tw_c tw_468)) (Nat.le_of_ble_eq_true rfl) (Nat.le_of_ble_eq_true rfl) (Nat.zero_le _) (Nat.zero_le _) dX11_copy_8 ?_
    refine lv_topi (fun x_1 ex_1 => ?_)
    have h_2 : rg x_1 40 40 := rg_of_eq ex_1 (rg_min2 (rg_k (40 : Int32) 40 rfl) (rg_k (40 : Int32) 40 rfl) (by decide))
    refine pc_i hx hb (hml.trans hl.1.symm) hown (hts _ (tw_c tw_1104)) (hts _ (tw_c tw_1105)) (hts _ (tw_c tw_1106)) (hts _ (tw_c tw_1107)) hK hP hD hS hL_a0 hK_a0 hN_a0 hL_a1 hK_a1 hN_a1 (rg_pos (rg_k (0 : Int32) 0 rfl) (by decide)) (rg_pos h_2 (by decide)) (rg_cp (rg_k (0 : Int32) 0 rfl) h_2 (by decide)) (rg_cl h_2 (by decide)) (Nat.le_of_ble_eq_true rfl) (Nat.le_of_ble_eq_true rfl) dX11_copy_11 (fun r_3 H locs er_3 hP hD hS => ?_)
    have hG := GX.cR hG hSH hT_a0 rfl hT_a1 rfl er_3 (by decide)
    subst hQ
    exact W.vret hx hb hr (fun t1 ht hW => ⟨⟨(σ, I, J, r_3, rj, rq), rfl, ⟨r_3, rfl, hG, (cpy_eq er_3 h_2 rfl), (fun q hq => by rw [er_3, va_up_ne _ _ hq])⟩, by rw [ht]; exact hP, va_K.moved hW.alike hK, hD⟩, hS.F ht⟩) hS.2.2 dX11_copy_14
  exact go _ _ _ hP hD hS hl

set_option maxHeartbeats 4000000 in
set_option maxRecDepth 100000 in
theorem s_X11_copy_79_79 (l : Launch) (D : va_G) (t : pq_T) (σ : pq_S) (I : Nat → Nat → Int32) (J : Nat → Nat → Int64) (ri : Nat → Nat → Int32) (rj : Nat → Nat → Int64) (rq : Nat → Nat → Option Nat) (sz : Nat) (tg : Nat → Nat) (hSH : SH σ tg) (hG0 : GS tg σ I ri rq) (a0 : Nat) (a1 : Nat) (hL_a0 : a0 ∈ σ.1) (hK_a0 : σ.2.1 a0 = 13) (hN_a0 : σ.2.2.2 a0 = 40) (hT_a0 : tg a0 = 79) (hL_a1 : a1 ∈ σ.1) (hK_a1 : σ.2.1 a1 = 13) (hN_a1 : σ.2.2.2 a1 = 40) (hT_a1 : tg a1 = 79) : MetV l yX11_copy (wa yX11_copy cX11_copy 2 none) ({ frames := 1, cells := 0, slots := 0, locals := 60 }) [.ref a0, .ref a1] D t σ (I, J, ri, rj, rq) sz 0 0 (fun (u : pq_S × pq_M) => ∃ ri' : Nat → Nat → Int32, u = (σ, I, J, ri', rj, rq) ∧ GX [1079] tg σ I ri rj I ri' rj rq ∧ (∀ j, j < 40 → ri' a1 j = ri a0 j) ∧ (∀ q, q ≠ a1 → ri' q = ri q)) := by
  refine Met.ofW (cc := cX11_copy) (maxL := 2) (ret := none) (by decide) rfl ?_
  intro p e s m args below meth c s₁ B hml hv
  obtain ⟨rfl, hsz, hP, hK, hD0, hN⟩ := hv
  have hx := B.exec
  have hb := B.bytes
  have hr := B.returns
  have hts := atoms_spec (ws := (wa yX11_copy cX11_copy 2 none)) B.pre
  have hown : s.vm.findClass RX11 = some m.cls := findClass_of_methodNamed B.named
  have hlocks := B.notSynchronized
  subst hsz
  have hD : va_D (pq_B t σ (I, J, ri, rj, rq) s.heap.size) (pq_P t σ (I, J, ri, rj, rq)) := hD0.self
  generalize hAe : pq_B t σ (I, J, ri, rj, rq) s.heap.size = A at hD ⊢
  have hA : ∀ q : Nat, s.heap.size ≤ q → A q := fun q h => by rw [← hAe]; exact Or.inr h
  have hS : va_S A s.heap s.heap [] := va_S.rf
  have hG : GX [1079] tg σ I ri rj I ri rj rq := ⟨hG0, fun _ _ _ => rfl, fun _ _ _ _ _ => rfl, fun _ _ _ _ _ => rfl⟩
  have hl := lv_entry ([.ref a0, .ref a1]) (n := 2) (Nat.le_of_ble_eq_true rfl)
  rw [lg_entry_eq]
  generalize (lg_sl ([.ref a0, .ref a1]) ++ List.replicate (2 - (lg_sl ([.ref a0, .ref a1])).length) Slot.unset).toArray = ls at hl ⊢
  have hl : lv_has ls 2 [(0, .ref a0), (1, .ref a1)] := hl
  refine q_gen (fun Q hQ => ?_)
  have go : ∀ (H : Heap) (locs : List Loc) (ls : Array Slot), va_P D vwCl (pq_P t σ (I, J, ri, rj, rq)) H → va_D A (pq_P t σ (I, J, ri, rj, rq)) → va_S A s.heap H locs → lv_has ls 2 [(0, .ref a0), (1, .ref a1)] → W p l e ({ frames := 1, cells := 0, slots := 0, locals := 60 } : Room) s m (List.toArray ([.ref a0, .ref a1] : List Value)) below meth c H locs 0 0 Q (F0 m 0 ls []) := by
    intro H locs ls hP hD hS hl
    refine lv_aload_n hx hb dX11_copy_0 rfl (lv_at hl 0 rfl) ?_
    refine lv_iconst (v := 0) hx hb dX11_copy_1 (by decide) ?_
    refine lv_aload_n hx hb dX11_copy_2 rfl (lv_at hl 1 rfl) ?_
    refine lv_iconst (v := 0) hx hb dX11_copy_3 (by decide) ?_
    refine lv_aload_n hx hb dX11_copy_4 rfl (lv_at hl 0 rfl) ?_
    refine pn_i (v := 40) hx hb hK hP hL_a0 hK_a0 hN_a0 (by decide) dX11_copy_5 ?_
    refine lv_aload_n hx hb dX11_copy_6 rfl (lv_at hl 1 rfl) ?_
    refine pn_i (v := 40) hx hb hK hP hL_a1 hK_a1 hN_a1 (by decide) dX11_copy_7 ?_
    refine va_mmin hx hb (hml.trans hl.1.symm) hown (hts _ (tw_c tw_1103)) (hts _ (tw_c tw_467)) (hts _ (tw_c tw_276)) (hts _ (tw_c tw_468)) (Nat.le_of_ble_eq_true rfl) (Nat.le_of_ble_eq_true rfl) (Nat.zero_le _) (Nat.zero_le _) dX11_copy_8 ?_
    refine lv_topi (fun x_1 ex_1 => ?_)
    have h_2 : rg x_1 40 40 := rg_of_eq ex_1 (rg_min2 (rg_k (40 : Int32) 40 rfl) (rg_k (40 : Int32) 40 rfl) (by decide))
    refine pc_i hx hb (hml.trans hl.1.symm) hown (hts _ (tw_c tw_1104)) (hts _ (tw_c tw_1105)) (hts _ (tw_c tw_1106)) (hts _ (tw_c tw_1107)) hK hP hD hS hL_a0 hK_a0 hN_a0 hL_a1 hK_a1 hN_a1 (rg_pos (rg_k (0 : Int32) 0 rfl) (by decide)) (rg_pos h_2 (by decide)) (rg_cp (rg_k (0 : Int32) 0 rfl) h_2 (by decide)) (rg_cl h_2 (by decide)) (Nat.le_of_ble_eq_true rfl) (Nat.le_of_ble_eq_true rfl) dX11_copy_11 (fun r_3 H locs er_3 hP hD hS => ?_)
    have hG := GX.cR hG hSH hT_a0 rfl hT_a1 rfl er_3 (by decide)
    subst hQ
    exact W.vret hx hb hr (fun t1 ht hW => ⟨⟨(σ, I, J, r_3, rj, rq), rfl, ⟨r_3, rfl, hG, (cpy_eq er_3 h_2 rfl), (fun q hq => by rw [er_3, va_up_ne _ _ hq])⟩, by rw [ht]; exact hP, va_K.moved hW.alike hK, hD⟩, hS.F ht⟩) hS.2.2 dX11_copy_14
  exact go _ _ _ hP hD hS hl

set_option maxHeartbeats 4000000 in
set_option maxRecDepth 100000 in
theorem s_X11_copy_80_80 (l : Launch) (D : va_G) (t : pq_T) (σ : pq_S) (I : Nat → Nat → Int32) (J : Nat → Nat → Int64) (ri : Nat → Nat → Int32) (rj : Nat → Nat → Int64) (rq : Nat → Nat → Option Nat) (sz : Nat) (tg : Nat → Nat) (hSH : SH σ tg) (hG0 : GS tg σ I ri rq) (a0 : Nat) (a1 : Nat) (hL_a0 : a0 ∈ σ.1) (hK_a0 : σ.2.1 a0 = 13) (hN_a0 : σ.2.2.2 a0 = 5) (hT_a0 : tg a0 = 80) (hL_a1 : a1 ∈ σ.1) (hK_a1 : σ.2.1 a1 = 13) (hN_a1 : σ.2.2.2 a1 = 5) (hT_a1 : tg a1 = 80) : MetV l yX11_copy (wa yX11_copy cX11_copy 2 none) ({ frames := 1, cells := 0, slots := 0, locals := 60 }) [.ref a0, .ref a1] D t σ (I, J, ri, rj, rq) sz 0 0 (fun (u : pq_S × pq_M) => ∃ ri' : Nat → Nat → Int32, u = (σ, I, J, ri', rj, rq) ∧ GX [] tg σ I ri rj I ri' rj rq ∧ (∀ j, j < 5 → ri' a1 j = ri a0 j) ∧ (∀ q, q ≠ a1 → ri' q = ri q)) := by
  refine Met.ofW (cc := cX11_copy) (maxL := 2) (ret := none) (by decide) rfl ?_
  intro p e s m args below meth c s₁ B hml hv
  obtain ⟨rfl, hsz, hP, hK, hD0, hN⟩ := hv
  have hx := B.exec
  have hb := B.bytes
  have hr := B.returns
  have hts := atoms_spec (ws := (wa yX11_copy cX11_copy 2 none)) B.pre
  have hown : s.vm.findClass RX11 = some m.cls := findClass_of_methodNamed B.named
  have hlocks := B.notSynchronized
  subst hsz
  have hD : va_D (pq_B t σ (I, J, ri, rj, rq) s.heap.size) (pq_P t σ (I, J, ri, rj, rq)) := hD0.self
  generalize hAe : pq_B t σ (I, J, ri, rj, rq) s.heap.size = A at hD ⊢
  have hA : ∀ q : Nat, s.heap.size ≤ q → A q := fun q h => by rw [← hAe]; exact Or.inr h
  have hS : va_S A s.heap s.heap [] := va_S.rf
  have hG : GX [] tg σ I ri rj I ri rj rq := ⟨hG0, fun _ _ _ => rfl, fun _ _ _ _ _ => rfl, fun _ _ _ _ _ => rfl⟩
  have hl := lv_entry ([.ref a0, .ref a1]) (n := 2) (Nat.le_of_ble_eq_true rfl)
  rw [lg_entry_eq]
  generalize (lg_sl ([.ref a0, .ref a1]) ++ List.replicate (2 - (lg_sl ([.ref a0, .ref a1])).length) Slot.unset).toArray = ls at hl ⊢
  have hl : lv_has ls 2 [(0, .ref a0), (1, .ref a1)] := hl
  refine q_gen (fun Q hQ => ?_)
  have go : ∀ (H : Heap) (locs : List Loc) (ls : Array Slot), va_P D vwCl (pq_P t σ (I, J, ri, rj, rq)) H → va_D A (pq_P t σ (I, J, ri, rj, rq)) → va_S A s.heap H locs → lv_has ls 2 [(0, .ref a0), (1, .ref a1)] → W p l e ({ frames := 1, cells := 0, slots := 0, locals := 60 } : Room) s m (List.toArray ([.ref a0, .ref a1] : List Value)) below meth c H locs 0 0 Q (F0 m 0 ls []) := by
    intro H locs ls hP hD hS hl
    refine lv_aload_n hx hb dX11_copy_0 rfl (lv_at hl 0 rfl) ?_
    refine lv_iconst (v := 0) hx hb dX11_copy_1 (by decide) ?_
    refine lv_aload_n hx hb dX11_copy_2 rfl (lv_at hl 1 rfl) ?_
    refine lv_iconst (v := 0) hx hb dX11_copy_3 (by decide) ?_
    refine lv_aload_n hx hb dX11_copy_4 rfl (lv_at hl 0 rfl) ?_
    refine pn_i (v := 5) hx hb hK hP hL_a0 hK_a0 hN_a0 (by decide) dX11_copy_5 ?_
    refine lv_aload_n hx hb dX11_copy_6 rfl (lv_at hl 1 rfl) ?_
    refine pn_i (v := 5) hx hb hK hP hL_a1 hK_a1 hN_a1 (by decide) dX11_copy_7 ?_
    refine va_mmin hx hb (hml.trans hl.1.symm) hown (hts _ (tw_c tw_1103)) (hts _ (tw_c tw_467)) (hts _ (tw_c tw_276)) (hts _ (tw_c tw_468)) (Nat.le_of_ble_eq_true rfl) (Nat.le_of_ble_eq_true rfl) (Nat.zero_le _) (Nat.zero_le _) dX11_copy_8 ?_
    refine lv_topi (fun x_1 ex_1 => ?_)
    have h_2 : rg x_1 5 5 := rg_of_eq ex_1 (rg_min2 (rg_k (5 : Int32) 5 rfl) (rg_k (5 : Int32) 5 rfl) (by decide))
    refine pc_i hx hb (hml.trans hl.1.symm) hown (hts _ (tw_c tw_1104)) (hts _ (tw_c tw_1105)) (hts _ (tw_c tw_1106)) (hts _ (tw_c tw_1107)) hK hP hD hS hL_a0 hK_a0 hN_a0 hL_a1 hK_a1 hN_a1 (rg_pos (rg_k (0 : Int32) 0 rfl) (by decide)) (rg_pos h_2 (by decide)) (rg_cp (rg_k (0 : Int32) 0 rfl) h_2 (by decide)) (rg_cl h_2 (by decide)) (Nat.le_of_ble_eq_true rfl) (Nat.le_of_ble_eq_true rfl) dX11_copy_11 (fun r_3 H locs er_3 hP hD hS => ?_)
    have hG := GX.cR hG hSH hT_a0 rfl hT_a1 rfl er_3 (by decide)
    subst hQ
    exact W.vret hx hb hr (fun t1 ht hW => ⟨⟨(σ, I, J, r_3, rj, rq), rfl, ⟨r_3, rfl, hG, (cpy_eq er_3 h_2 rfl), (fun q hq => by rw [er_3, va_up_ne _ _ hq])⟩, by rw [ht]; exact hP, va_K.moved hW.alike hK, hD⟩, hS.F ht⟩) hS.2.2 dX11_copy_14
  exact go _ _ _ hP hD hS hl

set_option maxHeartbeats 4000000 in
set_option maxRecDepth 100000 in
theorem s_X2_joinRing (l : Launch) (D : va_G) (t : pq_T) (σ : pq_S) (I : Nat → Nat → Int32) (J : Nat → Nat → Int64) (ri : Nat → Nat → Int32) (rj : Nat → Nat → Int64) (rq : Nat → Nat → Option Nat) (sz : Nat) (tg : Nat → Nat) (hSH : SH σ tg) (hG0 : GS tg σ I ri rq) (this : Nat) (a0 : Int32) (a1 : Int32) (hL_this : this ∈ σ.1) (hK_this : σ.2.1 this = 2) (h_a0 : rg a0 0 39) (h_a1 : rg a1 0 4) : MetV l yX2_joinRing (wa yX2_joinRing cX2_joinRing 5 none) ({ frames := 0, cells := 0, slots := 0, locals := 0 }) [.ref this, .int a0, .int a1] D t σ (I, J, ri, rj, rq) sz 0 0 (fun (u : pq_S × pq_M) => ∃ ri' : Nat → Nat → Int32, u = (σ, I, J, ri', rj, rq) ∧ GX [1079] tg σ I ri rj I ri' rj rq) := by
  refine Met.ofW (cc := cX2_joinRing) (maxL := 5) (ret := none) (by decide) rfl ?_
  intro p e s m args below meth c s₁ B hml hv
  obtain ⟨rfl, hsz, hP, hK, hD0, hN⟩ := hv
  have hx := B.exec
  have hb := B.bytes
  have hr := B.returns
  have hts := atoms_spec (ws := (wa yX2_joinRing cX2_joinRing 5 none)) B.pre
  have hown : s.vm.findClass RX2 = some m.cls := findClass_of_methodNamed B.named
  have hlocks := B.notSynchronized
  subst hsz
  have hD : va_D (pq_B t σ (I, J, ri, rj, rq) s.heap.size) (pq_P t σ (I, J, ri, rj, rq)) := hD0.self
  generalize hAe : pq_B t σ (I, J, ri, rj, rq) s.heap.size = A at hD ⊢
  have hA : ∀ q : Nat, s.heap.size ≤ q → A q := fun q h => by rw [← hAe]; exact Or.inr h
  have hS : va_S A s.heap s.heap [] := va_S.rf
  have hG : GX [1079] tg σ I ri rj I ri rj rq := ⟨hG0, fun _ _ _ => rfl, fun _ _ _ _ _ => rfl, fun _ _ _ _ _ => rfl⟩
  have hl := lv_entry ([.ref this, .int a0, .int a1]) (n := 5) (Nat.le_of_ble_eq_true rfl)
  rw [lg_entry_eq]
  generalize (lg_sl ([.ref this, .int a0, .int a1]) ++ List.replicate (5 - (lg_sl ([.ref this, .int a0, .int a1])).length) Slot.unset).toArray = ls at hl ⊢
  have hl : lv_has ls 5 [(0, .ref this), (1, .int a0), (2, .int a1)] := hl
  refine q_gen (fun Q hQ => ?_)
  have go : ∀ (H : Heap) (locs : List Loc) (ls : Array Slot), va_P D vwCl (pq_P t σ (I, J, ri, rj, rq)) H → va_D A (pq_P t σ (I, J, ri, rj, rq)) → va_S A s.heap H locs → lv_has ls 5 [(0, .ref this), (1, .int a0), (2, .int a1)] → W p l e ({ frames := 0, cells := 0, slots := 0, locals := 0 } : Room) s m (List.toArray ([.ref this, .int a0, .int a1] : List Value)) below meth c H locs 0 0 Q (F0 m 0 ls []) := by
    intro H locs ls hP hD hS hl
    refine lv_iconst (v := (-1)) hx hb dX2_joinRing_0 (by decide) ?_
    refine lv_istore_n (lv' := [(3, .int (-1)), (0, .ref this), (1, .int a0), (2, .int a1)]) hx hb dX2_joinRing_1 rfl hl (by decide) rfl (fun ls hl => ?_)
    refine lv_iconst (v := 0) hx hb dX2_joinRing_2 (by decide) ?_
    refine lv_istore (lv' := [(4, .int 0), (3, .int (-1)), (0, .ref this), (1, .int a0), (2, .int a1)]) hx hb dX2_joinRing_3 hl (by decide) rfl (fun ls hl => ?_)
    have L_277 : ∀ (n_276 : Nat) (x_253 : Int32) (x_254 : Int32) (H : Heap) (locs : List Loc) (ls : Array Slot), rg x_253 (-1) 39 → rg x_254 0 39 → (39 - (x_254).toInt).toNat < n_276 → GX [1079] tg σ I ri rj I ri rj rq → va_P D vwCl (pq_P t σ (I, J, ri, rj, rq)) H → va_D A (pq_P t σ (I, J, ri, rj, rq)) → va_S A s.heap H locs → lv_has ls 5 [(0, .ref this), (1, .int a0), (2, .int a1), (3, .int x_253), (4, .int x_254)] → W p l e ({ frames := 0, cells := 0, slots := 0, locals := 0 } : Room) s m (List.toArray ([.ref this, .int a0, .int a1] : List Value)) below meth c H locs 0 0 Q (F0 m 5 ls []) := by
      intro n_276
      induction n_276 with
      | zero => intro x_253 x_254 H locs ls h_281 h_282 hm_275 hG hP hD hS hl; exact absurd hm_275 (Nat.not_lt_zero _)
      | succ n_276 ih_278 =>
        intro x_253 x_254 H locs ls h_281 h_282 hm_275 hG hP hD hS hl
        refine lv_iload hx hb dX2_joinRing_5 (lv_at hl 4 rfl) ?_
        refine lv_iload_n hx hb dX2_joinRing_7 rfl (lv_at hl 1 rfl) ?_
        refine lv_icmp_ge (tgt := 31) hx hb dX2_joinRing_8 (by decide) (fun c_283 => ?_) (fun c_283 => ?_)
        · refine lv_iload_n hx hb dX2_joinRing_31 rfl (lv_at hl 3 rfl) ?_
          refine lv_iconst (v := (-1)) hx hb dX2_joinRing_32 (by decide) ?_
          refine lv_icmp_ne (tgt := 46) hx hb dX2_joinRing_33 (by decide) (fun c_284 => ?_) (fun c_284 => ?_)
          · have h_285 : rg x_253 0 39 := rg_ne c_284 h_281 (-1) rfl (by decide)
            refine lv_aload_n hx hb dX2_joinRing_46 rfl (lv_at hl 0 rfl) ?_
            obtain ⟨w_286, hR_w_286, hL_w_286, hK_w_286, hN_w_286, hT_w_286⟩ := sh_a hSH 79 (ci := 2) (kd := 13) (len := 40) rfl (by decide) hL_this hK_this
            refine pg_f (v := .ref w_286) (C := RX2) (T := TX2) (N := 20) hx hb hts (tw_i inlX2) hown hK hP hL_this hK_this (by decide) rfl 15 (by decide) (hts _ (tw_c tw_96)) (pq_hv rfl hR_w_286) dX2_joinRing_47 ?_
            refine lv_iload_n hx hb dX2_joinRing_50 rfl (lv_at hl 3 rfl) ?_
            refine lv_iload_n hx hb dX2_joinRing_51 rfl (lv_at hl 1 rfl) ?_
            refine pt_i hx hb hK hP hD hS hL_w_286 hK_w_286 hN_w_286 (rg_in h_285 (by decide)) dX2_joinRing_52 (fun r_287 H locs er_287 hP hD hS => ?_)
            have hG := GX.wR hG hSH hT_w_286 rfl er_287 (rg_w h_a0 (by decide)) (by decide)
            subst hQ
            exact W.vret hx hb hr (fun t1 ht hW => ⟨⟨(σ, I, J, r_287, rj, rq), rfl, ⟨r_287, rfl, hG⟩, by rw [ht]; exact hP, va_K.moved hW.alike hK, hD⟩, hS.F ht⟩) hS.2.2 dX2_joinRing_53
          · have h_288 : rg x_253 (-1) (-1) := rg_and h_281 (rg_of_eq c_284 (rg_k (-1 : Int32) (-1) rfl)) (by decide)
            refine lv_aload_n hx hb dX2_joinRing_36 rfl (lv_at hl 0 rfl) ?_
            obtain ⟨w_289, hR_w_289, hL_w_289, hK_w_289, hN_w_289, hT_w_289⟩ := sh_a hSH 80 (ci := 2) (kd := 13) (len := 5) rfl (by decide) hL_this hK_this
            refine pg_f (v := .ref w_289) (C := RX2) (T := TX2) (N := 20) hx hb hts (tw_i inlX2) hown hK hP hL_this hK_this (by decide) rfl 16 (by decide) (hts _ (tw_c tw_97)) (pq_hv rfl hR_w_289) dX2_joinRing_37 ?_
            refine lv_iload_n hx hb dX2_joinRing_40 rfl (lv_at hl 2 rfl) ?_
            refine lv_iload_n hx hb dX2_joinRing_41 rfl (lv_at hl 1 rfl) ?_
            refine pt_i hx hb hK hP hD hS hL_w_289 hK_w_289 hN_w_289 (rg_in h_a1 (by decide)) dX2_joinRing_42 (fun r_290 H locs er_290 hP hD hS => ?_)
            have hG := GX.wR hG hSH hT_w_289 rfl er_290 (rg_w h_a0 (by decide)) (by decide)
            refine lv_goto (tgt := 53) hx hb dX2_joinRing_43 (by decide) ?_
            subst hQ
            exact W.vret hx hb hr (fun t1 ht hW => ⟨⟨(σ, I, J, r_290, rj, rq), rfl, ⟨r_290, rfl, hG⟩, by rw [ht]; exact hP, va_K.moved hW.alike hK, hD⟩, hS.F ht⟩) hS.2.2 dX2_joinRing_53
        · have h_291 : rg x_254 0 38 := rg_lt1 (nle c_283) h_282 h_a0 (by decide)
          have h_292 : rg a0 1 39 := rg_lt2 (nle c_283) h_282 h_a0 (by decide)
          refine lv_aload_n hx hb dX2_joinRing_11 rfl (lv_at hl 0 rfl) ?_
          obtain ⟨w_293, hR_w_293, hL_w_293, hK_w_293, hN_w_293, hT_w_293⟩ := sh_a hSH 69 (ci := 2) (kd := 13) (len := 40) rfl (by decide) hL_this hK_this
          refine pg_f (v := .ref w_293) (C := RX2) (T := TX2) (N := 20) hx hb hts (tw_i inlX2) hown hK hP hL_this hK_this (by decide) rfl 5 (by decide) (hts _ (tw_c tw_83)) (pq_hv rfl hR_w_293) dX2_joinRing_12 ?_
          refine lv_iload hx hb dX2_joinRing_15 (lv_at hl 4 rfl) ?_
          refine pl_i hx hb hK hP hL_w_293 hK_w_293 hN_w_293 (rg_in h_291 (by decide)) dX2_joinRing_17 ?_
          refine lv_topi (fun x_294 ex_294 => ?_)
          have h_295 : rg x_294 0 4 := rg_of_eq ex_294 (GX.rR hG hT_w_293 rfl)
          refine lv_iload_n hx hb dX2_joinRing_18 rfl (lv_at hl 2 rfl) ?_
          have K_301 : ∀  (x_297 : Int32) (H : Heap) (locs : List Loc) (ls : Array Slot), rg x_297 (-1) 39 → GX [1079] tg σ I ri rj I ri rj rq → va_P D vwCl (pq_P t σ (I, J, ri, rj, rq)) H → va_D A (pq_P t σ (I, J, ri, rj, rq)) → va_S A s.heap H locs → lv_has ls 5 [(0, .ref this), (1, .int a0), (2, .int a1), (3, .int x_297), (4, .int x_254)] → W p l e ({ frames := 0, cells := 0, slots := 0, locals := 0 } : Room) s m (List.toArray ([.ref this, .int a0, .int a1] : List Value)) below meth c H locs 0 0 Q (F0 m 25 ls []) := by
            intro x_297 H locs ls h_303 hG hP hD hS hl
            obtain ⟨x_304, ex_304⟩ : ∃ y : Int32, y = x_254 + Int32.ofInt 1 := ⟨_, rfl⟩
            have h_305 : rg x_304 1 39 := rg_of_eq ex_304 (rg_add h_291 (rg_k (Int32.ofInt 1) 1 rfl) (by decide))
            refine lv_iinc (v := x_304) (lv' := [(4, .int x_304), (0, .ref this), (1, .int a0), (2, .int a1), (3, .int x_297)]) hx hb dX2_joinRing_25 hl (k := 4) rfl ex_304.symm (by decide) rfl (fun ls hl => ?_)
            refine lv_goto (tgt := 5) hx hb dX2_joinRing_28 (by decide) ?_
            exact ih_278 x_297 x_304 _ _ _ (rg_w h_303 (by decide)) (rg_w h_305 (by decide)) (ms_up 1 hm_275 ex_304 rfl (by decide) h_291 (by decide) (by decide)) hG hP hD hS (lv_sub hl [1, 2, 3, 4, 0] rfl)
          refine lv_icmp_ne (tgt := 25) hx hb dX2_joinRing_19 (by decide) (fun c_306 => ?_) (fun c_306 => ?_)
          · exact K_301 x_253 _ _ _ (rg_w h_281 (by decide)) hG hP hD hS (lv_sub hl [0, 1, 2, 3, 4] rfl)
          · refine lv_iload hx hb dX2_joinRing_22 (lv_at hl 4 rfl) ?_
            refine lv_istore_n (lv' := [(3, .int x_254), (0, .ref this), (1, .int a0), (2, .int a1), (4, .int x_254)]) hx hb dX2_joinRing_24 rfl hl (by decide) rfl (fun ls hl => ?_)
            exact K_301 x_254 _ _ _ (rg_w h_291 (by decide)) hG hP hD hS (lv_sub hl [1, 2, 3, 0, 4] rfl)
    exact L_277 _ (-1 : Int32) (0 : Int32) _ _ _ (rg_w (rg_k (-1 : Int32) (-1) rfl) (by decide)) (rg_w (rg_k (0 : Int32) 0 rfl) (by decide)) (Nat.lt_succ_self _) hG hP hD hS (lv_sub hl [2, 3, 4, 1, 0] rfl)
  exact go _ _ _ hP hD hS hl

set_option maxHeartbeats 4000000 in
set_option maxRecDepth 100000 in
theorem s_X2_topOf (l : Launch) (D : va_G) (t : pq_T) (σ : pq_S) (I : Nat → Nat → Int32) (J : Nat → Nat → Int64) (ri : Nat → Nat → Int32) (rj : Nat → Nat → Int64) (rq : Nat → Nat → Option Nat) (sz : Nat) (tg : Nat → Nat) (hSH : SH σ tg) (hG0 : GS tg σ I ri rq) (this : Nat) (a0 : Int32) (hL_this : this ∈ σ.1) (hK_this : σ.2.1 this = 2) (h_a0 : rg a0 0 39) : MetI l yX2_topOf (wa yX2_topOf cX2_topOf 2 (some .int)) ({ frames := 0, cells := 0, slots := 0, locals := 0 }) [.ref this, .int a0] D t σ (I, J, ri, rj, rq) sz 0 0 (fun (r : Int32) (u : pq_S × pq_M) => u = (σ, I, J, ri, rj, rq)) := by
  refine Met.ofW (cc := cX2_topOf) (maxL := 2) (ret := (some .int)) (by decide) rfl ?_
  intro p e s m args below meth c s₁ B hml hv
  obtain ⟨rfl, hsz, hP, hK, hD0, hN⟩ := hv
  have hx := B.exec
  have hb := B.bytes
  have hr := B.returns
  have hts := atoms_spec (ws := (wa yX2_topOf cX2_topOf 2 (some .int))) B.pre
  have hown : s.vm.findClass RX2 = some m.cls := findClass_of_methodNamed B.named
  have hlocks := B.notSynchronized
  subst hsz
  have hD : va_D (pq_B t σ (I, J, ri, rj, rq) s.heap.size) (pq_P t σ (I, J, ri, rj, rq)) := hD0.self
  generalize hAe : pq_B t σ (I, J, ri, rj, rq) s.heap.size = A at hD ⊢
  have hA : ∀ q : Nat, s.heap.size ≤ q → A q := fun q h => by rw [← hAe]; exact Or.inr h
  have hS : va_S A s.heap s.heap [] := va_S.rf
  have hG : GX [] tg σ I ri rj I ri rj rq := ⟨hG0, fun _ _ _ => rfl, fun _ _ _ _ _ => rfl, fun _ _ _ _ _ => rfl⟩
  have hl := lv_entry ([.ref this, .int a0]) (n := 2) (Nat.le_of_ble_eq_true rfl)
  rw [lg_entry_eq]
  generalize (lg_sl ([.ref this, .int a0]) ++ List.replicate (2 - (lg_sl ([.ref this, .int a0])).length) Slot.unset).toArray = ls at hl ⊢
  have hl : lv_has ls 2 [(0, .ref this), (1, .int a0)] := hl
  refine q_gen (fun Q hQ => ?_)
  have go : ∀ (H : Heap) (locs : List Loc) (ls : Array Slot), va_P D vwCl (pq_P t σ (I, J, ri, rj, rq)) H → va_D A (pq_P t σ (I, J, ri, rj, rq)) → va_S A s.heap H locs → lv_has ls 2 [(0, .ref this), (1, .int a0)] → W p l e ({ frames := 0, cells := 0, slots := 0, locals := 0 } : Room) s m (List.toArray ([.ref this, .int a0] : List Value)) below meth c H locs 0 0 Q (F0 m 0 ls []) := by
    intro H locs ls hP hD hS hl
    refine lv_aload_n hx hb dX2_topOf_0 rfl (lv_at hl 0 rfl) ?_
    obtain ⟨w_1, hR_w_1, hL_w_1, hK_w_1, hN_w_1, hT_w_1⟩ := sh_a hSH 70 (ci := 2) (kd := 13) (len := 40) rfl (by decide) hL_this hK_this
    refine pg_f (v := .ref w_1) (C := RX2) (T := TX2) (N := 20) hx hb hts (tw_i inlX2) hown hK hP hL_this hK_this (by decide) rfl 6 (by decide) (hts _ (tw_c tw_84)) (pq_hv rfl hR_w_1) dX2_topOf_1 ?_
    refine lv_iload_n hx hb dX2_topOf_4 rfl (lv_at hl 1 rfl) ?_
    refine pl_i hx hb hK hP hL_w_1 hK_w_1 hN_w_1 (rg_in h_a0 (by decide)) dX2_topOf_5 ?_
    refine lv_topi (fun x_2 ex_2 => ?_)
    refine lv_aload_n hx hb dX2_topOf_6 rfl (lv_at hl 0 rfl) ?_
    obtain ⟨w_3, hR_w_3, hL_w_3, hK_w_3, hN_w_3, hT_w_3⟩ := sh_a hSH 73 (ci := 2) (kd := 13) (len := 40) rfl (by decide) hL_this hK_this
    refine pg_f (v := .ref w_3) (C := RX2) (T := TX2) (N := 20) hx hb hts (tw_i inlX2) hown hK hP hL_this hK_this (by decide) rfl 9 (by decide) (hts _ (tw_c tw_87)) (pq_hv rfl hR_w_3) dX2_topOf_7 ?_
    refine lv_iload_n hx hb dX2_topOf_10 rfl (lv_at hl 1 rfl) ?_
    refine pl_i hx hb hK hP hL_w_3 hK_w_3 hN_w_3 (rg_in h_a0 (by decide)) dX2_topOf_11 ?_
    refine lv_topi (fun x_4 ex_4 => ?_)
    refine lv_iadd hx hb dX2_topOf_12 ?_
    refine lv_topi (fun x_5 ex_5 => ?_)
    refine lv_aload_n hx hb dX2_topOf_13 rfl (lv_at hl 0 rfl) ?_
    obtain ⟨w_6, hR_w_6, hL_w_6, hK_w_6, hN_w_6, hT_w_6⟩ := sh_a hSH 74 (ci := 2) (kd := 13) (len := 40) rfl (by decide) hL_this hK_this
    refine pg_f (v := .ref w_6) (C := RX2) (T := TX2) (N := 20) hx hb hts (tw_i inlX2) hown hK hP hL_this hK_this (by decide) rfl 10 (by decide) (hts _ (tw_c tw_88)) (pq_hv rfl hR_w_6) dX2_topOf_14 ?_
    refine lv_iload_n hx hb dX2_topOf_17 rfl (lv_at hl 1 rfl) ?_
    refine pl_i hx hb hK hP hL_w_6 hK_w_6 hN_w_6 (rg_in h_a0 (by decide)) dX2_topOf_18 ?_
    refine lv_topi (fun x_7 ex_7 => ?_)
    refine lv_iconst (v := 4) hx hb dX2_topOf_19 (by decide) ?_
    refine lv_idiv hx hb dX2_topOf_20 (by decide) ?_
    refine lv_topi (fun x_8 ex_8 => ?_)
    refine lv_iadd hx hb dX2_topOf_21 ?_
    refine lv_topi (fun x_9 ex_9 => ?_)
    refine lv_aload_n hx hb dX2_topOf_22 rfl (lv_at hl 0 rfl) ?_
    obtain ⟨w_10, hR_w_10, hL_w_10, hK_w_10, hN_w_10, hT_w_10⟩ := sh_a hSH 75 (ci := 2) (kd := 13) (len := 40) rfl (by decide) hL_this hK_this
    refine pg_f (v := .ref w_10) (C := RX2) (T := TX2) (N := 20) hx hb hts (tw_i inlX2) hown hK hP hL_this hK_this (by decide) rfl 11 (by decide) (hts _ (tw_c tw_89)) (pq_hv rfl hR_w_10) dX2_topOf_23 ?_
    refine lv_iload_n hx hb dX2_topOf_26 rfl (lv_at hl 1 rfl) ?_
    refine pl_i hx hb hK hP hL_w_10 hK_w_10 hN_w_10 (rg_in h_a0 (by decide)) dX2_topOf_27 ?_
    refine lv_topi (fun x_11 ex_11 => ?_)
    refine lv_iadd hx hb dX2_topOf_28 ?_
    refine lv_topi (fun x_12 ex_12 => ?_)
    subst hQ
    exact W.iret (v := x_12) hx hb hr (fun t1 ht hW => ⟨⟨x_12, (σ, I, J, ri, rj, rq), rfl, rfl, by rw [ht]; exact hP, va_K.moved hW.alike hK, hD⟩, hS.F ht⟩) hS.2.2 dX2_topOf_29
  exact go _ _ _ hP hD hS hl

set_option maxHeartbeats 4000000 in
set_option maxRecDepth 100000 in
theorem s_X2_isDry (l : Launch) (D : va_G) (t : pq_T) (σ : pq_S) (I : Nat → Nat → Int32) (J : Nat → Nat → Int64) (ri : Nat → Nat → Int32) (rj : Nat → Nat → Int64) (rq : Nat → Nat → Option Nat) (sz : Nat) (tg : Nat → Nat) (hSH : SH σ tg) (hG0 : GS tg σ I ri rq) (this : Nat) (a0 : Int32) (hL_this : this ∈ σ.1) (hK_this : σ.2.1 this = 2) : MetI l yX2_isDry (wa yX2_isDry cX2_isDry 2 (some .boolean)) ({ frames := 1, cells := 0, slots := 0, locals := 22 }) [.ref this, .int a0] D t σ (I, J, ri, rj, rq) sz 0 0 (fun (r : Int32) (u : pq_S × pq_M) => u = (σ, I, J, ri, rj, rq) ∧ ((r = 1 ∧ True) ∨ (r = 0 ∧ True))) := by
  refine Met.ofW (cc := cX2_isDry) (maxL := 2) (ret := (some .boolean)) (by decide) rfl ?_
  intro p e s m args below meth c s₁ B hml hv
  obtain ⟨rfl, hsz, hP, hK, hD0, hN⟩ := hv
  have hx := B.exec
  have hb := B.bytes
  have hr := B.returns
  have hts := atoms_spec (ws := (wa yX2_isDry cX2_isDry 2 (some .boolean))) B.pre
  have hown : s.vm.findClass RX2 = some m.cls := findClass_of_methodNamed B.named
  have hlocks := B.notSynchronized
  subst hsz
  have hD : va_D (pq_B t σ (I, J, ri, rj, rq) s.heap.size) (pq_P t σ (I, J, ri, rj, rq)) := hD0.self
  generalize hAe : pq_B t σ (I, J, ri, rj, rq) s.heap.size = A at hD ⊢
  have hA : ∀ q : Nat, s.heap.size ≤ q → A q := fun q h => by rw [← hAe]; exact Or.inr h
  have hS : va_S A s.heap s.heap [] := va_S.rf
  have hG : GX [] tg σ I ri rj I ri rj rq := ⟨hG0, fun _ _ _ => rfl, fun _ _ _ _ _ => rfl, fun _ _ _ _ _ => rfl⟩
  have hl := lv_entry ([.ref this, .int a0]) (n := 2) (Nat.le_of_ble_eq_true rfl)
  rw [lg_entry_eq]
  generalize (lg_sl ([.ref this, .int a0]) ++ List.replicate (2 - (lg_sl ([.ref this, .int a0])).length) Slot.unset).toArray = ls at hl ⊢
  have hl : lv_has ls 2 [(0, .ref this), (1, .int a0)] := hl
  refine q_gen (fun Q hQ => ?_)
  have go : ∀ (H : Heap) (locs : List Loc) (ls : Array Slot), va_P D vwCl (pq_P t σ (I, J, ri, rj, rq)) H → va_D A (pq_P t σ (I, J, ri, rj, rq)) → va_S A s.heap H locs → lv_has ls 2 [(0, .ref this), (1, .int a0)] → W p l e ({ frames := 1, cells := 0, slots := 0, locals := 22 } : Room) s m (List.toArray ([.ref this, .int a0] : List Value)) below meth c H locs 0 0 Q (F0 m 0 ls []) := by
    intro H locs ls hP hD hS hl
    refine lv_aload_n hx hb dX2_isDry_0 rfl (lv_at hl 0 rfl) ?_
    refine pg_f (v := .long (J 67 this)) (C := RX2) (T := TX2) (N := 20) hx hb hts (tw_i inlX2) hown hK hP hL_this hK_this (by decide) rfl 3 (by decide) (hts _ (tw_c tw_558)) rfl dX2_isDry_1 ?_
    refine lv_iload_n hx hb dX2_isDry_4 rfl (lv_at hl 1 rfl) ?_
    refine pk_i (va_runSN (As := [.long (J 67 this), .int a0]) (rest := []) ⟨hx, hb, hml, hown, hts⟩ (s_X11_hasBit l D t σ I J ri rj rq H.size tg hSH hG.1 (J 67 this) a0) ⟨va_cnB (host := "RingsUnder") 2 hts (tw_W tw_560) rfl rfl rfl (nl_11 hN) (hts _ (tw_c tw_2)) cd_yX11_hasBit_2 ⟨Nat.le_of_ble_eq_true rfl, Nat.le_of_ble_eq_true rfl⟩, hts (.static yX11_hasBit) (tw_c tq_static_yX11_hasBit), trivial⟩ ⟨pq_blind, pq_pre hK hN hP hD⟩ rfl rfl hl.1 rfl (lv_room (Nat.le_of_ble_eq_true rfl)) dX2_isDry_5 ⟨Nat.le_of_ble_eq_true rfl, Nat.le_of_ble_eq_true rfl⟩) hD hS hA (fun x_1 σ1 μ1 H locs hw_2 hP hD hS => ?_)
    obtain ⟨hu_3, hr_5⟩ := hw_2
    obtain ⟨hu_3a, hu_3b⟩ := Prod.mk.inj hu_3
    rw [hu_3a, hu_3b] at hP hD
    have h_6 : rg x_1 0 1 := by rcases hr_5 with ⟨q, -⟩ | ⟨q, -⟩ <;> rw [q] <;> exact ⟨by decide, by decide⟩
    rcases bool01 (rg_w h_6 (by decide)) with e_7 | e_7
    · refine lv_tov 0 e_7 ?_
      subst hQ
      exact W.zret (v := 0) hx hb hr (by decide) (fun t1 ht hW => ⟨⟨0, (σ, I, J, ri, rj, rq), rfl, ⟨rfl, (Or.inr ⟨rfl, trivial⟩)⟩, by rw [ht]; exact hP, va_K.moved hW.alike hK, hD⟩, hS.F ht⟩) hS.2.2 dX2_isDry_8
    · refine lv_tov 1 e_7 ?_
      subst hQ
      exact W.zret (v := 1) hx hb hr (by decide) (fun t1 ht hW => ⟨⟨1, (σ, I, J, ri, rj, rq), rfl, ⟨rfl, (Or.inl ⟨rfl, trivial⟩)⟩, by rw [ht]; exact hP, va_K.moved hW.alike hK, hD⟩, hS.F ht⟩) hS.2.2 dX2_isDry_8
  exact go _ _ _ hP hD hS hl

set_option maxHeartbeats 4000000 in
set_option maxRecDepth 100000 in
theorem s_X2_growReef (l : Launch) (D : va_G) (t : pq_T) (σ : pq_S) (I : Nat → Nat → Int32) (J : Nat → Nat → Int64) (ri : Nat → Nat → Int32) (rj : Nat → Nat → Int64) (rq : Nat → Nat → Option Nat) (sz : Nat) (tg : Nat → Nat) (hSH : SH σ tg) (hG0 : GS tg σ I ri rq) (this : Nat) (a0 : Int32) (hL_this : this ∈ σ.1) (hK_this : σ.2.1 this = 2) : MetV l yX2_growReef (wa yX2_growReef cX2_growReef 3 none) ({ frames := 1, cells := 0, slots := 0, locals := 40 }) [.ref this, .int a0] D t σ (I, J, ri, rj, rq) sz 0 0 (fun (u : pq_S × pq_M) => ∃ ri' : Nat → Nat → Int32, u = (σ, I, J, ri', rj, rq) ∧ GX [1074] tg σ I ri rj I ri' rj rq) := by
  refine Met.ofW (cc := cX2_growReef) (maxL := 3) (ret := none) (by decide) rfl ?_
  intro p e s m args below meth c s₁ B hml hv
  obtain ⟨rfl, hsz, hP, hK, hD0, hN⟩ := hv
  have hx := B.exec
  have hb := B.bytes
  have hr := B.returns
  have hts := atoms_spec (ws := (wa yX2_growReef cX2_growReef 3 none)) B.pre
  have hown : s.vm.findClass RX2 = some m.cls := findClass_of_methodNamed B.named
  have hlocks := B.notSynchronized
  subst hsz
  have hD : va_D (pq_B t σ (I, J, ri, rj, rq) s.heap.size) (pq_P t σ (I, J, ri, rj, rq)) := hD0.self
  generalize hAe : pq_B t σ (I, J, ri, rj, rq) s.heap.size = A at hD ⊢
  have hA : ∀ q : Nat, s.heap.size ≤ q → A q := fun q h => by rw [← hAe]; exact Or.inr h
  have hS : va_S A s.heap s.heap [] := va_S.rf
  have hG : GX [1074] tg σ I ri rj I ri rj rq := ⟨hG0, fun _ _ _ => rfl, fun _ _ _ _ _ => rfl, fun _ _ _ _ _ => rfl⟩
  have hl := lv_entry ([.ref this, .int a0]) (n := 3) (Nat.le_of_ble_eq_true rfl)
  rw [lg_entry_eq]
  generalize (lg_sl ([.ref this, .int a0]) ++ List.replicate (3 - (lg_sl ([.ref this, .int a0])).length) Slot.unset).toArray = ls at hl ⊢
  have hl : lv_has ls 3 [(0, .ref this), (1, .int a0)] := hl
  refine q_gen (fun Q hQ => ?_)
  have go : ∀ (H : Heap) (locs : List Loc) (ls : Array Slot), va_P D vwCl (pq_P t σ (I, J, ri, rj, rq)) H → va_D A (pq_P t σ (I, J, ri, rj, rq)) → va_S A s.heap H locs → lv_has ls 3 [(0, .ref this), (1, .int a0)] → W p l e ({ frames := 1, cells := 0, slots := 0, locals := 40 } : Room) s m (List.toArray ([.ref this, .int a0] : List Value)) below meth c H locs 0 0 Q (F0 m 0 ls []) := by
    intro H locs ls hP hD hS hl
    refine lv_iconst (v := 0) hx hb dX2_growReef_0 (by decide) ?_
    refine lv_istore_n (lv' := [(2, .int 0), (0, .ref this), (1, .int a0)]) hx hb dX2_growReef_1 rfl hl (by decide) rfl (fun ls hl => ?_)
    have L_221 : ∀ (n_220 : Nat) (x_202 : Int32) (ri_203 : Nat → Nat → Int32) (H : Heap) (locs : List Loc) (ls : Array Slot), rg x_202 0 40 → (40 - (x_202).toInt).toNat < n_220 → GX [1074] tg σ I ri rj I ri_203 rj rq → va_P D vwCl (pq_P t σ (I, J, ri_203, rj, rq)) H → va_D A (pq_P t σ (I, J, ri_203, rj, rq)) → va_S A s.heap H locs → lv_has ls 3 [(0, .ref this), (1, .int a0), (2, .int x_202)] → W p l e ({ frames := 1, cells := 0, slots := 0, locals := 40 } : Room) s m (List.toArray ([.ref this, .int a0] : List Value)) below meth c H locs 0 0 Q (F0 m 2 ls []) := by
      intro n_220
      induction n_220 with
      | zero => intro x_202 ri_203 H locs ls h_224 hm_219 hG hP hD hS hl; exact absurd hm_219 (Nat.not_lt_zero _)
      | succ n_220 ih_222 =>
        intro x_202 ri_203 H locs ls h_224 hm_219 hG hP hD hS hl
        refine lv_iload_n hx hb dX2_growReef_2 rfl (lv_at hl 2 rfl) ?_
        refine lv_aload_n hx hb dX2_growReef_3 rfl (lv_at hl 0 rfl) ?_
        refine pg_f (v := .int (I 65 this)) (C := RX2) (T := TX2) (N := 20) hx hb hts (tw_i inlX2) hown hK hP hL_this hK_this (by decide) rfl 1 (by decide) (hts _ (tw_c tw_222)) rfl dX2_growReef_4 ?_
        have h_225 : rg (I 65 this) 0 40 := GX.rI hG 65 rfl
        refine lv_icmp_ge (tgt := 40) hx hb dX2_growReef_7 (by decide) (fun c_226 => ?_) (fun c_226 => ?_)
        · subst hQ
          exact W.vret hx hb hr (fun t1 ht hW => ⟨⟨(σ, I, J, ri_203, rj, rq), rfl, ⟨ri_203, rfl, hG⟩, by rw [ht]; exact hP, va_K.moved hW.alike hK, hD⟩, hS.F ht⟩) hS.2.2 dX2_growReef_40
        · have h_227 : rg x_202 0 39 := rg_lt1 (nle c_226) h_224 h_225 (by decide)
          have h_228 : rg (I 65 this) 1 40 := rg_lt2 (nle c_226) h_224 h_225 (by decide)
          refine lv_aload_n hx hb dX2_growReef_10 rfl (lv_at hl 0 rfl) ?_
          obtain ⟨w_229, hR_w_229, hL_w_229, hK_w_229, hN_w_229, hT_w_229⟩ := sh_a hSH 74 (ci := 2) (kd := 13) (len := 40) rfl (by decide) hL_this hK_this
          refine pg_f (v := .ref w_229) (C := RX2) (T := TX2) (N := 20) hx hb hts (tw_i inlX2) hown hK hP hL_this hK_this (by decide) rfl 10 (by decide) (hts _ (tw_c tw_88)) (pq_hv rfl hR_w_229) dX2_growReef_11 ?_
          refine lv_iload_n hx hb dX2_growReef_14 rfl (lv_at hl 2 rfl) ?_
          refine lv_iconst (v := 0) hx hb dX2_growReef_15 (by decide) ?_
          refine lv_sipush (v := 400) hx hb dX2_growReef_16 (by decide) ?_
          refine lv_aload_n hx hb dX2_growReef_19 rfl (lv_at hl 0 rfl) ?_
          refine pg_f (v := .ref w_229) (C := RX2) (T := TX2) (N := 20) hx hb hts (tw_i inlX2) hown hK hP hL_this hK_this (by decide) rfl 10 (by decide) (hts _ (tw_c tw_88)) (pq_hv rfl hR_w_229) dX2_growReef_20 ?_
          refine lv_iload_n hx hb dX2_growReef_23 rfl (lv_at hl 2 rfl) ?_
          refine pl_i hx hb hK hP hL_w_229 hK_w_229 hN_w_229 (rg_in h_227 (by decide)) dX2_growReef_24 ?_
          refine lv_topi (fun x_230 ex_230 => ?_)
          refine lv_iload_n hx hb dX2_growReef_25 rfl (lv_at hl 1 rfl) ?_
          refine lv_iadd hx hb dX2_growReef_26 ?_
          refine lv_topi (fun x_231 ex_231 => ?_)
          refine va_mmin hx hb (hml.trans hl.1.symm) hown (hts _ (tw_c tw_1063)) (hts _ (tw_c tw_467)) (hts _ (tw_c tw_276)) (hts _ (tw_c tw_468)) (Nat.le_of_ble_eq_true rfl) (Nat.le_of_ble_eq_true rfl) (Nat.zero_le _) (Nat.zero_le _) dX2_growReef_27 ?_
          refine lv_topi (fun x_232 ex_232 => ?_)
          have h_233 : rg x_232 (-2147483648) 400 := rg_of_eq ex_232 (rg_min2 (rg_k (400 : Int32) 400 rfl) (rg_full _) (by decide))
          refine va_mmax hx hb (hml.trans hl.1.symm) hown (hts _ (tw_c tw_1064)) (hts _ (tw_c tw_275)) (hts _ (tw_c tw_276)) (hts _ (tw_c tw_277)) (Nat.le_of_ble_eq_true rfl) (Nat.le_of_ble_eq_true rfl) (Nat.zero_le _) (Nat.zero_le _) dX2_growReef_30 ?_
          refine lv_topi (fun x_234 ex_234 => ?_)
          have h_235 : rg x_234 0 400 := rg_of_eq ex_234 (rg_max2 (rg_k (0 : Int32) 0 rfl) h_233 (by decide))
          refine pt_i hx hb hK hP hD hS hL_w_229 hK_w_229 hN_w_229 (rg_in h_227 (by decide)) dX2_growReef_33 (fun r_236 H locs er_236 hP hD hS => ?_)
          have hG := GX.wR hG hSH hT_w_229 rfl er_236 (rg_w h_235 (by decide)) (by decide)
          obtain ⟨x_237, ex_237⟩ : ∃ y : Int32, y = x_202 + Int32.ofInt 1 := ⟨_, rfl⟩
          have h_238 : rg x_237 1 40 := rg_of_eq ex_237 (rg_add h_227 (rg_k (Int32.ofInt 1) 1 rfl) (by decide))
          refine lv_iinc (v := x_237) (lv' := [(2, .int x_237), (0, .ref this), (1, .int a0)]) hx hb dX2_growReef_34 hl (k := 2) rfl ex_237.symm (by decide) rfl (fun ls hl => ?_)
          refine lv_goto (tgt := 2) hx hb dX2_growReef_37 (by decide) ?_
          exact ih_222 x_237 r_236 _ _ _ (rg_w h_238 (by decide)) (ms_up 1 hm_219 ex_237 rfl (by decide) h_227 (by decide) (by decide)) hG hP hD hS (lv_sub hl [1, 2, 0] rfl)
    exact L_221 _ (0 : Int32) ri _ _ _ (rg_w (rg_k (0 : Int32) 0 rfl) (by decide)) (Nat.lt_succ_self _) hG hP hD hS (lv_sub hl [1, 2, 0] rfl)
  exact go _ _ _ hP hD hS hl
