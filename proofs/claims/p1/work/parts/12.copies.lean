theorem dX9_copyFrom_0 : decode cX9_copyFrom 0 = .ok (.aload_n 1, 1) := by decide +kernel
theorem tw_104 : Cond.fieldLink RX9 9 "RingsUnder$Wells" "gathers" "[I" ∈ wsL_law := List.mem_of_getElem? (i := 104) (by decide +kernel)
theorem dX9_copyFrom_1 : decode cX9_copyFrom 1 = .ok (.getfield 9, 3) := by decide +kernel
theorem dX9_copyFrom_4 : decode cX9_copyFrom 4 = .ok (.aload_n 0, 1) := by decide +kernel
theorem dX9_copyFrom_5 : decode cX9_copyFrom 5 = .ok (.getfield 9, 3) := by decide +kernel
theorem dX9_copyFrom_8 : decode cX9_copyFrom 8 = .ok (.invokestatic 21, 3) := by decide +kernel
theorem dX9_copyFrom_11 : decode cX9_copyFrom 11 = .ok (.aload_n 1, 1) := by decide +kernel
theorem tw_105 : Cond.fieldLink RX9 15 "RingsUnder$Wells" "lens" "[I" ∈ wsL_law := List.mem_of_getElem? (i := 105) (by decide +kernel)
theorem dX9_copyFrom_12 : decode cX9_copyFrom 12 = .ok (.getfield 15, 3) := by decide +kernel
theorem dX9_copyFrom_15 : decode cX9_copyFrom 15 = .ok (.aload_n 0, 1) := by decide +kernel
theorem dX9_copyFrom_16 : decode cX9_copyFrom 16 = .ok (.getfield 15, 3) := by decide +kernel
theorem dX9_copyFrom_19 : decode cX9_copyFrom 19 = .ok (.invokestatic 21, 3) := by decide +kernel
theorem dX9_copyFrom_22 : decode cX9_copyFrom 22 = .ok (.aload_n 1, 1) := by decide +kernel
theorem tw_106 : Cond.fieldLink RX9 18 "RingsUnder$Wells" "salt" "[I" ∈ wsL_law := List.mem_of_getElem? (i := 106) (by decide +kernel)
theorem dX9_copyFrom_23 : decode cX9_copyFrom 23 = .ok (.getfield 18, 3) := by decide +kernel
theorem dX9_copyFrom_26 : decode cX9_copyFrom 26 = .ok (.aload_n 0, 1) := by decide +kernel
theorem dX9_copyFrom_27 : decode cX9_copyFrom 27 = .ok (.getfield 18, 3) := by decide +kernel
theorem dX9_copyFrom_30 : decode cX9_copyFrom 30 = .ok (.invokestatic 21, 3) := by decide +kernel
theorem dX9_copyFrom_33 : decode cX9_copyFrom 33 = .ok (.return_, 1) := by decide +kernel
theorem dX1_copyFrom_0 : decode cX1_copyFrom 0 = .ok (.aload_n 0, 1) := by decide +kernel
theorem dX1_copyFrom_1 : decode cX1_copyFrom 1 = .ok (.aload_n 1, 1) := by decide +kernel
theorem tw_1393 : Cond.fieldLink RX1 19 "RingsUnder$Graves" "count" "I" ∈ wsL_law := List.mem_of_getElem? (i := 1393) (by decide +kernel)
theorem dX1_copyFrom_2 : decode cX1_copyFrom 2 = .ok (.getfield 19, 3) := by decide +kernel
theorem dX1_copyFrom_5 : decode cX1_copyFrom 5 = .ok (.putfield 19, 3) := by decide +kernel
theorem dX1_copyFrom_8 : decode cX1_copyFrom 8 = .ok (.aload_n 1, 1) := by decide +kernel
theorem tw_137 : Cond.fieldLink RX1 9 "RingsUnder$Graves" "cell" "[I" ∈ wsL_law := List.mem_of_getElem? (i := 137) (by decide +kernel)
theorem dX1_copyFrom_9 : decode cX1_copyFrom 9 = .ok (.getfield 9, 3) := by decide +kernel
theorem dX1_copyFrom_12 : decode cX1_copyFrom 12 = .ok (.aload_n 0, 1) := by decide +kernel
theorem dX1_copyFrom_13 : decode cX1_copyFrom 13 = .ok (.getfield 9, 3) := by decide +kernel
theorem dX1_copyFrom_16 : decode cX1_copyFrom 16 = .ok (.invokestatic 23, 3) := by decide +kernel
theorem dX1_copyFrom_19 : decode cX1_copyFrom 19 = .ok (.aload_n 1, 1) := by decide +kernel
theorem tw_138 : Cond.fieldLink RX1 15 "RingsUnder$Graves" "lay" "[J" ∈ wsL_law := List.mem_of_getElem? (i := 138) (by decide +kernel)
theorem dX1_copyFrom_20 : decode cX1_copyFrom 20 = .ok (.getfield 15, 3) := by decide +kernel
theorem dX1_copyFrom_23 : decode cX1_copyFrom 23 = .ok (.iconst 0, 1) := by decide +kernel
theorem dX1_copyFrom_24 : decode cX1_copyFrom 24 = .ok (.aload_n 0, 1) := by decide +kernel
theorem dX1_copyFrom_25 : decode cX1_copyFrom 25 = .ok (.getfield 15, 3) := by decide +kernel
theorem dX1_copyFrom_28 : decode cX1_copyFrom 28 = .ok (.iconst 0, 1) := by decide +kernel
theorem dX1_copyFrom_29 : decode cX1_copyFrom 29 = .ok (.bipush 30, 2) := by decide +kernel
theorem tw_1394 : Cond.methodLink RX1 27 arraycopyName ∈ wsL_law := List.mem_of_getElem? (i := 1394) (by decide +kernel)
theorem dX1_copyFrom_31 : decode cX1_copyFrom 31 = .ok (.invokestatic 27, 3) := by decide +kernel
theorem dX1_copyFrom_34 : decode cX1_copyFrom 34 = .ok (.return_, 1) := by decide +kernel
theorem dX0_copyFrom_0 : decode cX0_copyFrom 0 = .ok (.aload_n 0, 1) := by decide +kernel
theorem dX0_copyFrom_1 : decode cX0_copyFrom 1 = .ok (.aload_n 1, 1) := by decide +kernel
theorem dX0_copyFrom_2 : decode cX0_copyFrom 2 = .ok (.getfield 54, 3) := by decide +kernel
theorem dX0_copyFrom_5 : decode cX0_copyFrom 5 = .ok (.putfield 54, 3) := by decide +kernel
theorem dX0_copyFrom_8 : decode cX0_copyFrom 8 = .ok (.aload_n 1, 1) := by decide +kernel
theorem tw_110 : Cond.fieldLink RX0 9 "RingsUnder$Folk" "kin" "[I" ∈ wsL_law := List.mem_of_getElem? (i := 110) (by decide +kernel)
theorem dX0_copyFrom_9 : decode cX0_copyFrom 9 = .ok (.getfield 9, 3) := by decide +kernel
theorem dX0_copyFrom_12 : decode cX0_copyFrom 12 = .ok (.aload_n 0, 1) := by decide +kernel
theorem dX0_copyFrom_13 : decode cX0_copyFrom 13 = .ok (.getfield 9, 3) := by decide +kernel
theorem dX0_copyFrom_16 : decode cX0_copyFrom 16 = .ok (.invokestatic 58, 3) := by decide +kernel
theorem dX0_copyFrom_19 : decode cX0_copyFrom 19 = .ok (.aload_n 1, 1) := by decide +kernel
theorem tw_111 : Cond.fieldLink RX0 15 "RingsUnder$Folk" "age" "[I" ∈ wsL_law := List.mem_of_getElem? (i := 111) (by decide +kernel)
theorem dX0_copyFrom_20 : decode cX0_copyFrom 20 = .ok (.getfield 15, 3) := by decide +kernel
theorem dX0_copyFrom_23 : decode cX0_copyFrom 23 = .ok (.aload_n 0, 1) := by decide +kernel
theorem dX0_copyFrom_24 : decode cX0_copyFrom 24 = .ok (.getfield 15, 3) := by decide +kernel
theorem dX0_copyFrom_27 : decode cX0_copyFrom 27 = .ok (.invokestatic 58, 3) := by decide +kernel
theorem dX0_copyFrom_30 : decode cX0_copyFrom 30 = .ok (.aload_n 1, 1) := by decide +kernel
theorem tw_112 : Cond.fieldLink RX0 18 "RingsUnder$Folk" "craft" "[I" ∈ wsL_law := List.mem_of_getElem? (i := 112) (by decide +kernel)
theorem dX0_copyFrom_31 : decode cX0_copyFrom 31 = .ok (.getfield 18, 3) := by decide +kernel
theorem dX0_copyFrom_34 : decode cX0_copyFrom 34 = .ok (.aload_n 0, 1) := by decide +kernel
theorem dX0_copyFrom_35 : decode cX0_copyFrom 35 = .ok (.getfield 18, 3) := by decide +kernel
theorem dX0_copyFrom_38 : decode cX0_copyFrom 38 = .ok (.invokestatic 58, 3) := by decide +kernel
theorem dX0_copyFrom_41 : decode cX0_copyFrom 41 = .ok (.aload_n 1, 1) := by decide +kernel
theorem tw_113 : Cond.fieldLink RX0 21 "RingsUnder$Folk" "send" "[I" ∈ wsL_law := List.mem_of_getElem? (i := 113) (by decide +kernel)
theorem dX0_copyFrom_42 : decode cX0_copyFrom 42 = .ok (.getfield 21, 3) := by decide +kernel
theorem dX0_copyFrom_45 : decode cX0_copyFrom 45 = .ok (.aload_n 0, 1) := by decide +kernel
theorem dX0_copyFrom_46 : decode cX0_copyFrom 46 = .ok (.getfield 21, 3) := by decide +kernel
theorem dX0_copyFrom_49 : decode cX0_copyFrom 49 = .ok (.invokestatic 58, 3) := by decide +kernel
theorem dX0_copyFrom_52 : decode cX0_copyFrom 52 = .ok (.aload_n 1, 1) := by decide +kernel
theorem tw_114 : Cond.fieldLink RX0 24 "RingsUnder$Folk" "place" "[I" ∈ wsL_law := List.mem_of_getElem? (i := 114) (by decide +kernel)
theorem dX0_copyFrom_53 : decode cX0_copyFrom 53 = .ok (.getfield 24, 3) := by decide +kernel
theorem dX0_copyFrom_56 : decode cX0_copyFrom 56 = .ok (.aload_n 0, 1) := by decide +kernel
theorem dX0_copyFrom_57 : decode cX0_copyFrom 57 = .ok (.getfield 24, 3) := by decide +kernel
theorem dX0_copyFrom_60 : decode cX0_copyFrom 60 = .ok (.invokestatic 58, 3) := by decide +kernel
theorem dX0_copyFrom_63 : decode cX0_copyFrom 63 = .ok (.aload_n 1, 1) := by decide +kernel
theorem tw_115 : Cond.fieldLink RX0 27 "RingsUnder$Folk" "thirst" "[I" ∈ wsL_law := List.mem_of_getElem? (i := 115) (by decide +kernel)
theorem dX0_copyFrom_64 : decode cX0_copyFrom 64 = .ok (.getfield 27, 3) := by decide +kernel
theorem dX0_copyFrom_67 : decode cX0_copyFrom 67 = .ok (.aload_n 0, 1) := by decide +kernel
theorem dX0_copyFrom_68 : decode cX0_copyFrom 68 = .ok (.getfield 27, 3) := by decide +kernel
theorem dX0_copyFrom_71 : decode cX0_copyFrom 71 = .ok (.invokestatic 58, 3) := by decide +kernel
theorem dX0_copyFrom_74 : decode cX0_copyFrom 74 = .ok (.aload_n 1, 1) := by decide +kernel
theorem tw_116 : Cond.fieldLink RX0 30 "RingsUnder$Folk" "noBed" "[I" ∈ wsL_law := List.mem_of_getElem? (i := 116) (by decide +kernel)
theorem dX0_copyFrom_75 : decode cX0_copyFrom 75 = .ok (.getfield 30, 3) := by decide +kernel
theorem dX0_copyFrom_78 : decode cX0_copyFrom 78 = .ok (.aload_n 0, 1) := by decide +kernel
theorem dX0_copyFrom_79 : decode cX0_copyFrom 79 = .ok (.getfield 30, 3) := by decide +kernel
theorem dX0_copyFrom_82 : decode cX0_copyFrom 82 = .ok (.invokestatic 58, 3) := by decide +kernel
theorem dX0_copyFrom_85 : decode cX0_copyFrom 85 = .ok (.aload_n 1, 1) := by decide +kernel
theorem tw_117 : Cond.fieldLink RX0 33 "RingsUnder$Folk" "went" "[I" ∈ wsL_law := List.mem_of_getElem? (i := 117) (by decide +kernel)
theorem dX0_copyFrom_86 : decode cX0_copyFrom 86 = .ok (.getfield 33, 3) := by decide +kernel
theorem dX0_copyFrom_89 : decode cX0_copyFrom 89 = .ok (.aload_n 0, 1) := by decide +kernel
theorem dX0_copyFrom_90 : decode cX0_copyFrom 90 = .ok (.getfield 33, 3) := by decide +kernel
theorem dX0_copyFrom_93 : decode cX0_copyFrom 93 = .ok (.invokestatic 58, 3) := by decide +kernel
theorem dX0_copyFrom_96 : decode cX0_copyFrom 96 = .ok (.aload_n 1, 1) := by decide +kernel
theorem tw_118 : Cond.fieldLink RX0 36 "RingsUnder$Folk" "vote" "[I" ∈ wsL_law := List.mem_of_getElem? (i := 118) (by decide +kernel)
theorem dX0_copyFrom_97 : decode cX0_copyFrom 97 = .ok (.getfield 36, 3) := by decide +kernel
theorem dX0_copyFrom_100 : decode cX0_copyFrom 100 = .ok (.aload_n 0, 1) := by decide +kernel
theorem dX0_copyFrom_101 : decode cX0_copyFrom 101 = .ok (.getfield 36, 3) := by decide +kernel
theorem dX0_copyFrom_104 : decode cX0_copyFrom 104 = .ok (.invokestatic 58, 3) := by decide +kernel
theorem dX0_copyFrom_107 : decode cX0_copyFrom 107 = .ok (.aload_n 0, 1) := by decide +kernel
theorem dX0_copyFrom_108 : decode cX0_copyFrom 108 = .ok (.aload_n 1, 1) := by decide +kernel
theorem tw_1171 : Cond.fieldLink RX0 62 "RingsUnder$Folk" "lots" "I" ∈ wsL_law := List.mem_of_getElem? (i := 1171) (by decide +kernel)
theorem dX0_copyFrom_109 : decode cX0_copyFrom 109 = .ok (.getfield 62, 3) := by decide +kernel
theorem dX0_copyFrom_112 : decode cX0_copyFrom 112 = .ok (.putfield 62, 3) := by decide +kernel
theorem dX0_copyFrom_115 : decode cX0_copyFrom 115 = .ok (.aload_n 1, 1) := by decide +kernel
theorem tw_119 : Cond.fieldLink RX0 39 "RingsUnder$Folk" "lotBeds" "[I" ∈ wsL_law := List.mem_of_getElem? (i := 119) (by decide +kernel)
theorem dX0_copyFrom_116 : decode cX0_copyFrom 116 = .ok (.getfield 39, 3) := by decide +kernel
theorem dX0_copyFrom_119 : decode cX0_copyFrom 119 = .ok (.aload_n 0, 1) := by decide +kernel
theorem dX0_copyFrom_120 : decode cX0_copyFrom 120 = .ok (.getfield 39, 3) := by decide +kernel
theorem dX0_copyFrom_123 : decode cX0_copyFrom 123 = .ok (.invokestatic 58, 3) := by decide +kernel
theorem dX0_copyFrom_126 : decode cX0_copyFrom 126 = .ok (.return_, 1) := by decide +kernel
theorem dX2_copyFrom_0 : decode cX2_copyFrom 0 = .ok (.aload_n 0, 1) := by decide +kernel
theorem dX2_copyFrom_1 : decode cX2_copyFrom 1 = .ok (.aload_n 1, 1) := by decide +kernel
theorem tw_1374 : Cond.fieldLink RX2 69 "RingsUnder$Land" "rings" "I" ∈ wsL_law := List.mem_of_getElem? (i := 1374) (by decide +kernel)
theorem dX2_copyFrom_2 : decode cX2_copyFrom 2 = .ok (.getfield 69, 3) := by decide +kernel
theorem dX2_copyFrom_5 : decode cX2_copyFrom 5 = .ok (.putfield 69, 3) := by decide +kernel
theorem dX2_copyFrom_8 : decode cX2_copyFrom 8 = .ok (.aload_n 0, 1) := by decide +kernel
theorem dX2_copyFrom_9 : decode cX2_copyFrom 9 = .ok (.aload_n 1, 1) := by decide +kernel
theorem dX2_copyFrom_10 : decode cX2_copyFrom 10 = .ok (.getfield 73, 3) := by decide +kernel
theorem dX2_copyFrom_13 : decode cX2_copyFrom 13 = .ok (.putfield 73, 3) := by decide +kernel
theorem dX2_copyFrom_16 : decode cX2_copyFrom 16 = .ok (.aload_n 0, 1) := by decide +kernel
theorem dX2_copyFrom_17 : decode cX2_copyFrom 17 = .ok (.aload_n 1, 1) := by decide +kernel
theorem tw_1069 : Cond.fieldLink RX2 76 "RingsUnder$Land" "deep" "I" ∈ wsL_law := List.mem_of_getElem? (i := 1069) (by decide +kernel)
theorem dX2_copyFrom_18 : decode cX2_copyFrom 18 = .ok (.getfield 76, 3) := by decide +kernel
theorem dX2_copyFrom_21 : decode cX2_copyFrom 21 = .ok (.putfield 76, 3) := by decide +kernel
theorem dX2_copyFrom_24 : decode cX2_copyFrom 24 = .ok (.aload_n 0, 1) := by decide +kernel
theorem dX2_copyFrom_25 : decode cX2_copyFrom 25 = .ok (.aload_n 1, 1) := by decide +kernel
theorem dX2_copyFrom_26 : decode cX2_copyFrom 26 = .ok (.getfield 79, 3) := by decide +kernel
theorem dX2_copyFrom_29 : decode cX2_copyFrom 29 = .ok (.putfield 79, 3) := by decide +kernel
theorem dX2_copyFrom_32 : decode cX2_copyFrom 32 = .ok (.aload_n 1, 1) := by decide +kernel
theorem dX2_copyFrom_33 : decode cX2_copyFrom 33 = .ok (.getfield 9, 3) := by decide +kernel
theorem dX2_copyFrom_36 : decode cX2_copyFrom 36 = .ok (.iconst 0, 1) := by decide +kernel
theorem dX2_copyFrom_37 : decode cX2_copyFrom 37 = .ok (.aload_n 0, 1) := by decide +kernel
theorem dX2_copyFrom_38 : decode cX2_copyFrom 38 = .ok (.getfield 9, 3) := by decide +kernel
theorem dX2_copyFrom_41 : decode cX2_copyFrom 41 = .ok (.iconst 0, 1) := by decide +kernel
theorem dX2_copyFrom_42 : decode cX2_copyFrom 42 = .ok (.sipush 600, 3) := by decide +kernel
theorem tw_1375 : Cond.methodLink RX2 83 arraycopyName ∈ wsL_law := List.mem_of_getElem? (i := 1375) (by decide +kernel)
theorem dX2_copyFrom_45 : decode cX2_copyFrom 45 = .ok (.invokestatic 83, 3) := by decide +kernel
theorem dX2_copyFrom_48 : decode cX2_copyFrom 48 = .ok (.aload_n 1, 1) := by decide +kernel
theorem tw_83 : Cond.fieldLink RX2 15 "RingsUnder$Land" "ring" "[I" ∈ wsL_law := List.mem_of_getElem? (i := 83) (by decide +kernel)
theorem dX2_copyFrom_49 : decode cX2_copyFrom 49 = .ok (.getfield 15, 3) := by decide +kernel
theorem dX2_copyFrom_52 : decode cX2_copyFrom 52 = .ok (.aload_n 0, 1) := by decide +kernel
theorem dX2_copyFrom_53 : decode cX2_copyFrom 53 = .ok (.getfield 15, 3) := by decide +kernel
theorem dX2_copyFrom_56 : decode cX2_copyFrom 56 = .ok (.invokestatic 89, 3) := by decide +kernel
theorem dX2_copyFrom_59 : decode cX2_copyFrom 59 = .ok (.aload_n 1, 1) := by decide +kernel
theorem tw_84 : Cond.fieldLink RX2 19 "RingsUnder$Land" "height" "[I" ∈ wsL_law := List.mem_of_getElem? (i := 84) (by decide +kernel)
theorem dX2_copyFrom_60 : decode cX2_copyFrom 60 = .ok (.getfield 19, 3) := by decide +kernel
theorem dX2_copyFrom_63 : decode cX2_copyFrom 63 = .ok (.aload_n 0, 1) := by decide +kernel
theorem dX2_copyFrom_64 : decode cX2_copyFrom 64 = .ok (.getfield 19, 3) := by decide +kernel
theorem dX2_copyFrom_67 : decode cX2_copyFrom 67 = .ok (.invokestatic 89, 3) := by decide +kernel
theorem dX2_copyFrom_70 : decode cX2_copyFrom 70 = .ok (.aload_n 1, 1) := by decide +kernel
theorem tw_85 : Cond.fieldLink RX2 22 "RingsUnder$Land" "x" "[I" ∈ wsL_law := List.mem_of_getElem? (i := 85) (by decide +kernel)
theorem dX2_copyFrom_71 : decode cX2_copyFrom 71 = .ok (.getfield 22, 3) := by decide +kernel
theorem dX2_copyFrom_74 : decode cX2_copyFrom 74 = .ok (.aload_n 0, 1) := by decide +kernel
theorem dX2_copyFrom_75 : decode cX2_copyFrom 75 = .ok (.getfield 22, 3) := by decide +kernel
theorem dX2_copyFrom_78 : decode cX2_copyFrom 78 = .ok (.invokestatic 89, 3) := by decide +kernel
theorem dX2_copyFrom_81 : decode cX2_copyFrom 81 = .ok (.aload_n 1, 1) := by decide +kernel
theorem tw_86 : Cond.fieldLink RX2 25 "RingsUnder$Land" "y" "[I" ∈ wsL_law := List.mem_of_getElem? (i := 86) (by decide +kernel)
theorem dX2_copyFrom_82 : decode cX2_copyFrom 82 = .ok (.getfield 25, 3) := by decide +kernel
theorem dX2_copyFrom_85 : decode cX2_copyFrom 85 = .ok (.aload_n 0, 1) := by decide +kernel
theorem dX2_copyFrom_86 : decode cX2_copyFrom 86 = .ok (.getfield 25, 3) := by decide +kernel
theorem dX2_copyFrom_89 : decode cX2_copyFrom 89 = .ok (.invokestatic 89, 3) := by decide +kernel
theorem dX2_copyFrom_92 : decode cX2_copyFrom 92 = .ok (.aload_n 1, 1) := by decide +kernel
theorem tw_87 : Cond.fieldLink RX2 28 "RingsUnder$Land" "sand" "[I" ∈ wsL_law := List.mem_of_getElem? (i := 87) (by decide +kernel)
theorem dX2_copyFrom_93 : decode cX2_copyFrom 93 = .ok (.getfield 28, 3) := by decide +kernel
theorem dX2_copyFrom_96 : decode cX2_copyFrom 96 = .ok (.aload_n 0, 1) := by decide +kernel
theorem dX2_copyFrom_97 : decode cX2_copyFrom 97 = .ok (.getfield 28, 3) := by decide +kernel
theorem dX2_copyFrom_100 : decode cX2_copyFrom 100 = .ok (.invokestatic 89, 3) := by decide +kernel
theorem dX2_copyFrom_103 : decode cX2_copyFrom 103 = .ok (.aload_n 1, 1) := by decide +kernel
theorem tw_88 : Cond.fieldLink RX2 31 "RingsUnder$Land" "reef" "[I" ∈ wsL_law := List.mem_of_getElem? (i := 88) (by decide +kernel)
theorem dX2_copyFrom_104 : decode cX2_copyFrom 104 = .ok (.getfield 31, 3) := by decide +kernel
theorem dX2_copyFrom_107 : decode cX2_copyFrom 107 = .ok (.aload_n 0, 1) := by decide +kernel
theorem dX2_copyFrom_108 : decode cX2_copyFrom 108 = .ok (.getfield 31, 3) := by decide +kernel
theorem dX2_copyFrom_111 : decode cX2_copyFrom 111 = .ok (.invokestatic 89, 3) := by decide +kernel
theorem dX2_copyFrom_114 : decode cX2_copyFrom 114 = .ok (.aload_n 1, 1) := by decide +kernel
theorem tw_89 : Cond.fieldLink RX2 34 "RingsUnder$Land" "wall" "[I" ∈ wsL_law := List.mem_of_getElem? (i := 89) (by decide +kernel)
theorem dX2_copyFrom_115 : decode cX2_copyFrom 115 = .ok (.getfield 34, 3) := by decide +kernel
theorem dX2_copyFrom_118 : decode cX2_copyFrom 118 = .ok (.aload_n 0, 1) := by decide +kernel
theorem dX2_copyFrom_119 : decode cX2_copyFrom 119 = .ok (.getfield 34, 3) := by decide +kernel
theorem dX2_copyFrom_122 : decode cX2_copyFrom 122 = .ok (.invokestatic 89, 3) := by decide +kernel
theorem dX2_copyFrom_125 : decode cX2_copyFrom 125 = .ok (.aload_n 1, 1) := by decide +kernel
theorem tw_90 : Cond.fieldLink RX2 37 "RingsUnder$Land" "beds" "[I" ∈ wsL_law := List.mem_of_getElem? (i := 90) (by decide +kernel)
theorem dX2_copyFrom_126 : decode cX2_copyFrom 126 = .ok (.getfield 37, 3) := by decide +kernel
theorem dX2_copyFrom_129 : decode cX2_copyFrom 129 = .ok (.aload_n 0, 1) := by decide +kernel
theorem dX2_copyFrom_130 : decode cX2_copyFrom 130 = .ok (.getfield 37, 3) := by decide +kernel
theorem dX2_copyFrom_133 : decode cX2_copyFrom 133 = .ok (.invokestatic 89, 3) := by decide +kernel
theorem dX2_copyFrom_136 : decode cX2_copyFrom 136 = .ok (.aload_n 1, 1) := by decide +kernel
theorem tw_91 : Cond.fieldLink RX2 40 "RingsUnder$Land" "under" "[I" ∈ wsL_law := List.mem_of_getElem? (i := 91) (by decide +kernel)
theorem dX2_copyFrom_137 : decode cX2_copyFrom 137 = .ok (.getfield 40, 3) := by decide +kernel
theorem dX2_copyFrom_140 : decode cX2_copyFrom 140 = .ok (.aload_n 0, 1) := by decide +kernel
theorem dX2_copyFrom_141 : decode cX2_copyFrom 141 = .ok (.getfield 40, 3) := by decide +kernel
theorem dX2_copyFrom_144 : decode cX2_copyFrom 144 = .ok (.invokestatic 89, 3) := by decide +kernel
theorem dX2_copyFrom_147 : decode cX2_copyFrom 147 = .ok (.aload_n 0, 1) := by decide +kernel
theorem tw_95 : Cond.fieldLink RX2 46 "RingsUnder$Land" "wells" "LRingsUnder$Wells;" ∈ wsL_law := List.mem_of_getElem? (i := 95) (by decide +kernel)
theorem dX2_copyFrom_148 : decode cX2_copyFrom 148 = .ok (.getfield 46, 3) := by decide +kernel
theorem dX2_copyFrom_151 : decode cX2_copyFrom 151 = .ok (.aload_n 1, 1) := by decide +kernel
theorem dX2_copyFrom_152 : decode cX2_copyFrom 152 = .ok (.getfield 46, 3) := by decide +kernel
theorem tw_1376 : Cond.methodLink RX2 93 yX9_copyFrom ∈ wsL_law := List.mem_of_getElem? (i := 1376) (by decide +kernel)
theorem tw_1377 : Cond.instanceMethod yX9_copyFrom ∈ wsL_law := List.mem_of_getElem? (i := 1377) (by decide +kernel)
theorem tw_1378 : Cond.selects RX9 yX9_copyFrom yX9_copyFrom ∈ wsL_law := List.mem_of_getElem? (i := 1378) (by decide +kernel)
theorem tw_1379 : Cond.code yX9_copyFrom cX9_copyFrom 2 none ∈ wsL_law := List.mem_of_getElem? (i := 1379) (by decide +kernel)
theorem dX2_copyFrom_155 : decode cX2_copyFrom 155 = .ok (.invokevirtual 93, 3) := by decide +kernel
theorem dX2_copyFrom_158 : decode cX2_copyFrom 158 = .ok (.aload_n 1, 1) := by decide +kernel
theorem tw_96 : Cond.fieldLink RX2 50 "RingsUnder$Land" "next" "[I" ∈ wsL_law := List.mem_of_getElem? (i := 96) (by decide +kernel)
theorem dX2_copyFrom_159 : decode cX2_copyFrom 159 = .ok (.getfield 50, 3) := by decide +kernel
theorem dX2_copyFrom_162 : decode cX2_copyFrom 162 = .ok (.aload_n 0, 1) := by decide +kernel
theorem dX2_copyFrom_163 : decode cX2_copyFrom 163 = .ok (.getfield 50, 3) := by decide +kernel
theorem dX2_copyFrom_166 : decode cX2_copyFrom 166 = .ok (.invokestatic 89, 3) := by decide +kernel
theorem dX2_copyFrom_169 : decode cX2_copyFrom 169 = .ok (.aload_n 1, 1) := by decide +kernel
theorem tw_97 : Cond.fieldLink RX2 53 "RingsUnder$Land" "first" "[I" ∈ wsL_law := List.mem_of_getElem? (i := 97) (by decide +kernel)
theorem dX2_copyFrom_170 : decode cX2_copyFrom 170 = .ok (.getfield 53, 3) := by decide +kernel
theorem dX2_copyFrom_173 : decode cX2_copyFrom 173 = .ok (.aload_n 0, 1) := by decide +kernel
theorem dX2_copyFrom_174 : decode cX2_copyFrom 174 = .ok (.getfield 53, 3) := by decide +kernel
theorem dX2_copyFrom_177 : decode cX2_copyFrom 177 = .ok (.invokestatic 89, 3) := by decide +kernel
theorem dX2_copyFrom_180 : decode cX2_copyFrom 180 = .ok (.return_, 1) := by decide +kernel
theorem dX7_copyFrom_0 : decode cX7_copyFrom 0 = .ok (.aload_n 0, 1) := by decide +kernel
theorem dX7_copyFrom_1 : decode cX7_copyFrom 1 = .ok (.aload_n 1, 1) := by decide +kernel
theorem dX7_copyFrom_2 : decode cX7_copyFrom 2 = .ok (.getfield 59, 3) := by decide +kernel
theorem dX7_copyFrom_5 : decode cX7_copyFrom 5 = .ok (.putfield 59, 3) := by decide +kernel
theorem dX7_copyFrom_8 : decode cX7_copyFrom 8 = .ok (.aload_n 1, 1) := by decide +kernel
theorem tw_61 : Cond.fieldLink RX7 9 "RingsUnder$Seas" "rise" "[I" ∈ wsL_law := List.mem_of_getElem? (i := 61) (by decide +kernel)
theorem dX7_copyFrom_9 : decode cX7_copyFrom 9 = .ok (.getfield 9, 3) := by decide +kernel
theorem dX7_copyFrom_12 : decode cX7_copyFrom 12 = .ok (.aload_n 0, 1) := by decide +kernel
theorem dX7_copyFrom_13 : decode cX7_copyFrom 13 = .ok (.getfield 9, 3) := by decide +kernel
theorem dX7_copyFrom_16 : decode cX7_copyFrom 16 = .ok (.invokestatic 62, 3) := by decide +kernel
theorem dX7_copyFrom_19 : decode cX7_copyFrom 19 = .ok (.aload_n 1, 1) := by decide +kernel
theorem tw_62 : Cond.fieldLink RX7 15 "RingsUnder$Seas" "month" "[I" ∈ wsL_law := List.mem_of_getElem? (i := 62) (by decide +kernel)
theorem dX7_copyFrom_20 : decode cX7_copyFrom 20 = .ok (.getfield 15, 3) := by decide +kernel
theorem dX7_copyFrom_23 : decode cX7_copyFrom 23 = .ok (.aload_n 0, 1) := by decide +kernel
theorem dX7_copyFrom_24 : decode cX7_copyFrom 24 = .ok (.getfield 15, 3) := by decide +kernel
theorem dX7_copyFrom_27 : decode cX7_copyFrom 27 = .ok (.invokestatic 62, 3) := by decide +kernel
theorem dX7_copyFrom_30 : decode cX7_copyFrom 30 = .ok (.aload_n 1, 1) := by decide +kernel
theorem tw_63 : Cond.fieldLink RX7 18 "RingsUnder$Seas" "value" "[I" ∈ wsL_law := List.mem_of_getElem? (i := 63) (by decide +kernel)
theorem dX7_copyFrom_31 : decode cX7_copyFrom 31 = .ok (.getfield 18, 3) := by decide +kernel
theorem dX7_copyFrom_34 : decode cX7_copyFrom 34 = .ok (.aload_n 0, 1) := by decide +kernel
theorem dX7_copyFrom_35 : decode cX7_copyFrom 35 = .ok (.getfield 18, 3) := by decide +kernel
theorem dX7_copyFrom_38 : decode cX7_copyFrom 38 = .ok (.invokestatic 62, 3) := by decide +kernel
theorem dX7_copyFrom_41 : decode cX7_copyFrom 41 = .ok (.aload_n 1, 1) := by decide +kernel
theorem tw_64 : Cond.fieldLink RX7 21 "RingsUnder$Seas" "told" "[I" ∈ wsL_law := List.mem_of_getElem? (i := 64) (by decide +kernel)
theorem dX7_copyFrom_42 : decode cX7_copyFrom 42 = .ok (.getfield 21, 3) := by decide +kernel
theorem dX7_copyFrom_45 : decode cX7_copyFrom 45 = .ok (.aload_n 0, 1) := by decide +kernel
theorem dX7_copyFrom_46 : decode cX7_copyFrom 46 = .ok (.getfield 21, 3) := by decide +kernel
theorem dX7_copyFrom_49 : decode cX7_copyFrom 49 = .ok (.invokestatic 62, 3) := by decide +kernel
theorem dX7_copyFrom_52 : decode cX7_copyFrom 52 = .ok (.aload_n 1, 1) := by decide +kernel
theorem tw_65 : Cond.fieldLink RX7 24 "RingsUnder$Seas" "low" "[I" ∈ wsL_law := List.mem_of_getElem? (i := 65) (by decide +kernel)
theorem dX7_copyFrom_53 : decode cX7_copyFrom 53 = .ok (.getfield 24, 3) := by decide +kernel
theorem dX7_copyFrom_56 : decode cX7_copyFrom 56 = .ok (.aload_n 0, 1) := by decide +kernel
theorem dX7_copyFrom_57 : decode cX7_copyFrom 57 = .ok (.getfield 24, 3) := by decide +kernel
theorem dX7_copyFrom_60 : decode cX7_copyFrom 60 = .ok (.invokestatic 62, 3) := by decide +kernel
theorem dX7_copyFrom_63 : decode cX7_copyFrom 63 = .ok (.aload_n 1, 1) := by decide +kernel
theorem tw_66 : Cond.fieldLink RX7 27 "RingsUnder$Seas" "high" "[I" ∈ wsL_law := List.mem_of_getElem? (i := 66) (by decide +kernel)
theorem dX7_copyFrom_64 : decode cX7_copyFrom 64 = .ok (.getfield 27, 3) := by decide +kernel
theorem dX7_copyFrom_67 : decode cX7_copyFrom 67 = .ok (.aload_n 0, 1) := by decide +kernel
theorem dX7_copyFrom_68 : decode cX7_copyFrom 68 = .ok (.getfield 27, 3) := by decide +kernel
theorem dX7_copyFrom_71 : decode cX7_copyFrom 71 = .ok (.invokestatic 62, 3) := by decide +kernel
theorem dX7_copyFrom_74 : decode cX7_copyFrom 74 = .ok (.aload_n 1, 1) := by decide +kernel
theorem tw_67 : Cond.fieldLink RX7 30 "RingsUnder$Seas" "warm" "[I" ∈ wsL_law := List.mem_of_getElem? (i := 67) (by decide +kernel)
theorem dX7_copyFrom_75 : decode cX7_copyFrom 75 = .ok (.getfield 30, 3) := by decide +kernel
theorem dX7_copyFrom_78 : decode cX7_copyFrom 78 = .ok (.aload_n 0, 1) := by decide +kernel
theorem dX7_copyFrom_79 : decode cX7_copyFrom 79 = .ok (.getfield 30, 3) := by decide +kernel
theorem dX7_copyFrom_82 : decode cX7_copyFrom 82 = .ok (.invokestatic 62, 3) := by decide +kernel
theorem dX7_copyFrom_85 : decode cX7_copyFrom 85 = .ok (.aload_n 1, 1) := by decide +kernel
theorem tw_68 : Cond.fieldLink RX7 33 "RingsUnder$Seas" "drift" "[I" ∈ wsL_law := List.mem_of_getElem? (i := 68) (by decide +kernel)
theorem dX7_copyFrom_86 : decode cX7_copyFrom 86 = .ok (.getfield 33, 3) := by decide +kernel
theorem dX7_copyFrom_89 : decode cX7_copyFrom 89 = .ok (.aload_n 0, 1) := by decide +kernel
theorem dX7_copyFrom_90 : decode cX7_copyFrom 90 = .ok (.getfield 33, 3) := by decide +kernel
theorem dX7_copyFrom_93 : decode cX7_copyFrom 93 = .ok (.invokestatic 62, 3) := by decide +kernel
theorem dX7_copyFrom_96 : decode cX7_copyFrom 96 = .ok (.aload_n 1, 1) := by decide +kernel
theorem tw_69 : Cond.fieldLink RX7 36 "RingsUnder$Seas" "rain" "[I" ∈ wsL_law := List.mem_of_getElem? (i := 69) (by decide +kernel)
theorem dX7_copyFrom_97 : decode cX7_copyFrom 97 = .ok (.getfield 36, 3) := by decide +kernel
theorem dX7_copyFrom_100 : decode cX7_copyFrom 100 = .ok (.aload_n 0, 1) := by decide +kernel
theorem dX7_copyFrom_101 : decode cX7_copyFrom 101 = .ok (.getfield 36, 3) := by decide +kernel
theorem dX7_copyFrom_104 : decode cX7_copyFrom 104 = .ok (.invokestatic 62, 3) := by decide +kernel
theorem dX7_copyFrom_107 : decode cX7_copyFrom 107 = .ok (.aload_n 0, 1) := by decide +kernel
theorem dX7_copyFrom_108 : decode cX7_copyFrom 108 = .ok (.aload_n 1, 1) := by decide +kernel
theorem tw_70 : Cond.fieldLink RX7 39 "RingsUnder$Seas" "bear" "I" ∈ wsL_law := List.mem_of_getElem? (i := 70) (by decide +kernel)
theorem dX7_copyFrom_109 : decode cX7_copyFrom 109 = .ok (.getfield 39, 3) := by decide +kernel
theorem dX7_copyFrom_112 : decode cX7_copyFrom 112 = .ok (.putfield 39, 3) := by decide +kernel
theorem dX7_copyFrom_115 : decode cX7_copyFrom 115 = .ok (.aload_n 0, 1) := by decide +kernel
theorem dX7_copyFrom_116 : decode cX7_copyFrom 116 = .ok (.aload_n 1, 1) := by decide +kernel
theorem tw_71 : Cond.fieldLink RX7 43 "RingsUnder$Seas" "grow" "I" ∈ wsL_law := List.mem_of_getElem? (i := 71) (by decide +kernel)
theorem dX7_copyFrom_117 : decode cX7_copyFrom 117 = .ok (.getfield 43, 3) := by decide +kernel
theorem dX7_copyFrom_120 : decode cX7_copyFrom 120 = .ok (.putfield 43, 3) := by decide +kernel
theorem dX7_copyFrom_123 : decode cX7_copyFrom 123 = .ok (.aload_n 0, 1) := by decide +kernel
theorem dX7_copyFrom_124 : decode cX7_copyFrom 124 = .ok (.aload_n 1, 1) := by decide +kernel
theorem tw_72 : Cond.fieldLink RX7 46 "RingsUnder$Seas" "die" "I" ∈ wsL_law := List.mem_of_getElem? (i := 72) (by decide +kernel)
theorem dX7_copyFrom_125 : decode cX7_copyFrom 125 = .ok (.getfield 46, 3) := by decide +kernel
theorem dX7_copyFrom_128 : decode cX7_copyFrom 128 = .ok (.putfield 46, 3) := by decide +kernel
theorem dX7_copyFrom_131 : decode cX7_copyFrom 131 = .ok (.aload_n 0, 1) := by decide +kernel
theorem dX7_copyFrom_132 : decode cX7_copyFrom 132 = .ok (.aload_n 1, 1) := by decide +kernel
theorem tw_73 : Cond.fieldLink RX7 49 "RingsUnder$Seas" "reach" "I" ∈ wsL_law := List.mem_of_getElem? (i := 73) (by decide +kernel)
theorem dX7_copyFrom_133 : decode cX7_copyFrom 133 = .ok (.getfield 49, 3) := by decide +kernel
theorem dX7_copyFrom_136 : decode cX7_copyFrom 136 = .ok (.putfield 49, 3) := by decide +kernel
theorem dX7_copyFrom_139 : decode cX7_copyFrom 139 = .ok (.aload_n 0, 1) := by decide +kernel
theorem dX7_copyFrom_140 : decode cX7_copyFrom 140 = .ok (.aload_n 1, 1) := by decide +kernel
theorem tw_74 : Cond.fieldLink RX7 52 "RingsUnder$Seas" "cost" "I" ∈ wsL_law := List.mem_of_getElem? (i := 74) (by decide +kernel)
theorem dX7_copyFrom_141 : decode cX7_copyFrom 141 = .ok (.getfield 52, 3) := by decide +kernel
theorem dX7_copyFrom_144 : decode cX7_copyFrom 144 = .ok (.putfield 52, 3) := by decide +kernel
theorem dX7_copyFrom_147 : decode cX7_copyFrom 147 = .ok (.return_, 1) := by decide +kernel
theorem dX3_copyFrom_0 : decode cX3_copyFrom 0 = .ok (.aload_n 0, 1) := by decide +kernel
theorem dX3_copyFrom_1 : decode cX3_copyFrom 1 = .ok (.aload_n 1, 1) := by decide +kernel
theorem tw_1388 : Cond.fieldLink RX3 33 "RingsUnder$Law" "textCount" "I" ∈ wsL_law := List.mem_of_getElem? (i := 1388) (by decide +kernel)
theorem dX3_copyFrom_2 : decode cX3_copyFrom 2 = .ok (.getfield 33, 3) := by decide +kernel
theorem dX3_copyFrom_5 : decode cX3_copyFrom 5 = .ok (.putfield 33, 3) := by decide +kernel
theorem dX3_copyFrom_8 : decode cX3_copyFrom 8 = .ok (.iconst 0, 1) := by decide +kernel
theorem dX3_copyFrom_9 : decode cX3_copyFrom 9 = .ok (.istore_n 2, 1) := by decide +kernel
theorem dX3_copyFrom_10 : decode cX3_copyFrom 10 = .ok (.iload_n 2, 1) := by decide +kernel
theorem dX3_copyFrom_11 : decode cX3_copyFrom 11 = .ok (.bipush 10, 2) := by decide +kernel
theorem dX3_copyFrom_13 : decode cX3_copyFrom 13 = .ok (.if_icmp .ge 21, 3) := by decide +kernel
theorem dX3_copyFrom_16 : decode cX3_copyFrom 16 = .ok (.aload_n 0, 1) := by decide +kernel
theorem tw_128 : Cond.fieldLink RX3 11 "RingsUnder$Law" "texts" "[LRingsUnder$Text;" ∈ wsL_law := List.mem_of_getElem? (i := 128) (by decide +kernel)
theorem dX3_copyFrom_17 : decode cX3_copyFrom 17 = .ok (.getfield 11, 3) := by decide +kernel
theorem dX3_copyFrom_20 : decode cX3_copyFrom 20 = .ok (.iload_n 2, 1) := by decide +kernel
theorem dX3_copyFrom_21 : decode cX3_copyFrom 21 = .ok (.aload_n 1, 1) := by decide +kernel
theorem dX3_copyFrom_22 : decode cX3_copyFrom 22 = .ok (.getfield 11, 3) := by decide +kernel
theorem dX3_copyFrom_25 : decode cX3_copyFrom 25 = .ok (.iload_n 2, 1) := by decide +kernel
theorem dX3_copyFrom_26 : decode cX3_copyFrom 26 = .ok (.aaload, 1) := by decide +kernel
theorem dX3_copyFrom_27 : decode cX3_copyFrom 27 = .ok (.aastore, 1) := by decide +kernel
theorem dX3_copyFrom_28 : decode cX3_copyFrom 28 = .ok (.iinc 2 1, 3) := by decide +kernel
theorem dX3_copyFrom_31 : decode cX3_copyFrom 31 = .ok (.goto (-21), 3) := by decide +kernel
theorem dX3_copyFrom_34 : decode cX3_copyFrom 34 = .ok (.aload_n 0, 1) := by decide +kernel
theorem dX3_copyFrom_35 : decode cX3_copyFrom 35 = .ok (.aload_n 1, 1) := by decide +kernel
theorem dX3_copyFrom_36 : decode cX3_copyFrom 36 = .ok (.getfield 37, 3) := by decide +kernel
theorem dX3_copyFrom_39 : decode cX3_copyFrom 39 = .ok (.putfield 37, 3) := by decide +kernel
theorem dX3_copyFrom_42 : decode cX3_copyFrom 42 = .ok (.aload_n 1, 1) := by decide +kernel
theorem tw_129 : Cond.fieldLink RX3 17 "RingsUnder$Law" "forceText" "[I" ∈ wsL_law := List.mem_of_getElem? (i := 129) (by decide +kernel)
theorem dX3_copyFrom_43 : decode cX3_copyFrom 43 = .ok (.getfield 17, 3) := by decide +kernel
theorem dX3_copyFrom_46 : decode cX3_copyFrom 46 = .ok (.aload_n 0, 1) := by decide +kernel
theorem dX3_copyFrom_47 : decode cX3_copyFrom 47 = .ok (.getfield 17, 3) := by decide +kernel
theorem dX3_copyFrom_50 : decode cX3_copyFrom 50 = .ok (.invokestatic 40, 3) := by decide +kernel
theorem dX3_copyFrom_53 : decode cX3_copyFrom 53 = .ok (.aload_n 1, 1) := by decide +kernel
theorem tw_130 : Cond.fieldLink RX3 21 "RingsUnder$Law" "forceFrom" "[I" ∈ wsL_law := List.mem_of_getElem? (i := 130) (by decide +kernel)
theorem dX3_copyFrom_54 : decode cX3_copyFrom 54 = .ok (.getfield 21, 3) := by decide +kernel
theorem dX3_copyFrom_57 : decode cX3_copyFrom 57 = .ok (.aload_n 0, 1) := by decide +kernel
theorem dX3_copyFrom_58 : decode cX3_copyFrom 58 = .ok (.getfield 21, 3) := by decide +kernel
theorem dX3_copyFrom_61 : decode cX3_copyFrom 61 = .ok (.invokestatic 40, 3) := by decide +kernel
theorem dX3_copyFrom_64 : decode cX3_copyFrom 64 = .ok (.aload_n 1, 1) := by decide +kernel
theorem tw_131 : Cond.fieldLink RX3 24 "RingsUnder$Law" "forceTo" "[I" ∈ wsL_law := List.mem_of_getElem? (i := 131) (by decide +kernel)
theorem dX3_copyFrom_65 : decode cX3_copyFrom 65 = .ok (.getfield 24, 3) := by decide +kernel
theorem dX3_copyFrom_68 : decode cX3_copyFrom 68 = .ok (.aload_n 0, 1) := by decide +kernel
theorem dX3_copyFrom_69 : decode cX3_copyFrom 69 = .ok (.getfield 24, 3) := by decide +kernel
theorem dX3_copyFrom_72 : decode cX3_copyFrom 72 = .ok (.invokestatic 40, 3) := by decide +kernel
theorem dX3_copyFrom_75 : decode cX3_copyFrom 75 = .ok (.return_, 1) := by decide +kernel
theorem dX10_copyFrom_0 : decode cX10_copyFrom 0 = .ok (.aload_n 0, 1) := by decide +kernel
theorem dX10_copyFrom_1 : decode cX10_copyFrom 1 = .ok (.aload_n 1, 1) := by decide +kernel
theorem dX10_copyFrom_2 : decode cX10_copyFrom 2 = .ok (.getfield 67, 3) := by decide +kernel
theorem dX10_copyFrom_5 : decode cX10_copyFrom 5 = .ok (.putfield 67, 3) := by decide +kernel
theorem dX10_copyFrom_8 : decode cX10_copyFrom 8 = .ok (.aload_n 0, 1) := by decide +kernel
theorem dX10_copyFrom_9 : decode cX10_copyFrom 9 = .ok (.aload_n 1, 1) := by decide +kernel
theorem dX10_copyFrom_10 : decode cX10_copyFrom 10 = .ok (.getfield 70, 3) := by decide +kernel
theorem dX10_copyFrom_13 : decode cX10_copyFrom 13 = .ok (.putfield 70, 3) := by decide +kernel
theorem dX10_copyFrom_16 : decode cX10_copyFrom 16 = .ok (.aload_n 0, 1) := by decide +kernel
theorem dX10_copyFrom_17 : decode cX10_copyFrom 17 = .ok (.aload_n 1, 1) := by decide +kernel
theorem dX10_copyFrom_18 : decode cX10_copyFrom 18 = .ok (.getfield 73, 3) := by decide +kernel
theorem dX10_copyFrom_21 : decode cX10_copyFrom 21 = .ok (.putfield 73, 3) := by decide +kernel
theorem dX10_copyFrom_24 : decode cX10_copyFrom 24 = .ok (.aload_n 0, 1) := by decide +kernel
theorem dX10_copyFrom_25 : decode cX10_copyFrom 25 = .ok (.aload_n 1, 1) := by decide +kernel
theorem tw_31 : Cond.fieldLink RX10 9 "RingsUnder$World" "cantMonth" "I" ∈ wsL_law := List.mem_of_getElem? (i := 31) (by decide +kernel)
theorem dX10_copyFrom_26 : decode cX10_copyFrom 26 = .ok (.getfield 9, 3) := by decide +kernel
theorem dX10_copyFrom_29 : decode cX10_copyFrom 29 = .ok (.putfield 9, 3) := by decide +kernel
theorem dX10_copyFrom_32 : decode cX10_copyFrom 32 = .ok (.aload_n 0, 1) := by decide +kernel
theorem dX10_copyFrom_33 : decode cX10_copyFrom 33 = .ok (.aload_n 1, 1) := by decide +kernel
theorem dX10_copyFrom_34 : decode cX10_copyFrom 34 = .ok (.getfield 15, 3) := by decide +kernel
theorem dX10_copyFrom_37 : decode cX10_copyFrom 37 = .ok (.putfield 15, 3) := by decide +kernel
theorem dX10_copyFrom_40 : decode cX10_copyFrom 40 = .ok (.aload_n 1, 1) := by decide +kernel
theorem tw_34 : Cond.fieldLink RX10 18 "RingsUnder$World" "holder" "[I" ∈ wsL_law := List.mem_of_getElem? (i := 34) (by decide +kernel)
theorem dX10_copyFrom_41 : decode cX10_copyFrom 41 = .ok (.getfield 18, 3) := by decide +kernel
theorem dX10_copyFrom_44 : decode cX10_copyFrom 44 = .ok (.aload_n 0, 1) := by decide +kernel
theorem dX10_copyFrom_45 : decode cX10_copyFrom 45 = .ok (.getfield 18, 3) := by decide +kernel
theorem dX10_copyFrom_48 : decode cX10_copyFrom 48 = .ok (.invokestatic 76, 3) := by decide +kernel
theorem dX10_copyFrom_51 : decode cX10_copyFrom 51 = .ok (.aload_n 0, 1) := by decide +kernel
theorem dX10_copyFrom_52 : decode cX10_copyFrom 52 = .ok (.getfield 25, 3) := by decide +kernel
theorem dX10_copyFrom_55 : decode cX10_copyFrom 55 = .ok (.aload_n 1, 1) := by decide +kernel
theorem dX10_copyFrom_56 : decode cX10_copyFrom 56 = .ok (.getfield 25, 3) := by decide +kernel
theorem tw_1366 : Cond.methodLink RX10 80 yX7_copyFrom ∈ wsL_law := List.mem_of_getElem? (i := 1366) (by decide +kernel)
theorem tw_1367 : Cond.instanceMethod yX7_copyFrom ∈ wsL_law := List.mem_of_getElem? (i := 1367) (by decide +kernel)
theorem tw_1368 : Cond.selects RX7 yX7_copyFrom yX7_copyFrom ∈ wsL_law := List.mem_of_getElem? (i := 1368) (by decide +kernel)
theorem tw_1369 : Cond.code yX7_copyFrom cX7_copyFrom 2 none ∈ wsL_law := List.mem_of_getElem? (i := 1369) (by decide +kernel)
theorem dX10_copyFrom_59 : decode cX10_copyFrom 59 = .ok (.invokevirtual 80, 3) := by decide +kernel
theorem dX10_copyFrom_62 : decode cX10_copyFrom 62 = .ok (.aload_n 0, 1) := by decide +kernel
theorem dX10_copyFrom_63 : decode cX10_copyFrom 63 = .ok (.getfield 32, 3) := by decide +kernel
theorem dX10_copyFrom_66 : decode cX10_copyFrom 66 = .ok (.aload_n 1, 1) := by decide +kernel
theorem dX10_copyFrom_67 : decode cX10_copyFrom 67 = .ok (.getfield 32, 3) := by decide +kernel
theorem tw_1370 : Cond.methodLink RX10 84 yX2_copyFrom ∈ wsL_law := List.mem_of_getElem? (i := 1370) (by decide +kernel)
theorem tw_1371 : Cond.instanceMethod yX2_copyFrom ∈ wsL_law := List.mem_of_getElem? (i := 1371) (by decide +kernel)
theorem tw_1372 : Cond.selects RX2 yX2_copyFrom yX2_copyFrom ∈ wsL_law := List.mem_of_getElem? (i := 1372) (by decide +kernel)
theorem tw_1373 : Cond.code yX2_copyFrom cX2_copyFrom 2 none ∈ wsL_law := List.mem_of_getElem? (i := 1373) (by decide +kernel)
theorem dX10_copyFrom_70 : decode cX10_copyFrom 70 = .ok (.invokevirtual 84, 3) := by decide +kernel
theorem dX10_copyFrom_73 : decode cX10_copyFrom 73 = .ok (.aload_n 0, 1) := by decide +kernel
theorem dX10_copyFrom_74 : decode cX10_copyFrom 74 = .ok (.getfield 39, 3) := by decide +kernel
theorem dX10_copyFrom_77 : decode cX10_copyFrom 77 = .ok (.aload_n 1, 1) := by decide +kernel
theorem dX10_copyFrom_78 : decode cX10_copyFrom 78 = .ok (.getfield 39, 3) := by decide +kernel
theorem tw_1380 : Cond.methodLink RX10 87 yX0_copyFrom ∈ wsL_law := List.mem_of_getElem? (i := 1380) (by decide +kernel)
theorem tw_1381 : Cond.instanceMethod yX0_copyFrom ∈ wsL_law := List.mem_of_getElem? (i := 1381) (by decide +kernel)
theorem tw_1382 : Cond.selects RX0 yX0_copyFrom yX0_copyFrom ∈ wsL_law := List.mem_of_getElem? (i := 1382) (by decide +kernel)
theorem tw_1383 : Cond.code yX0_copyFrom cX0_copyFrom 2 none ∈ wsL_law := List.mem_of_getElem? (i := 1383) (by decide +kernel)
theorem dX10_copyFrom_81 : decode cX10_copyFrom 81 = .ok (.invokevirtual 87, 3) := by decide +kernel
theorem dX10_copyFrom_84 : decode cX10_copyFrom 84 = .ok (.aload_n 0, 1) := by decide +kernel
theorem dX10_copyFrom_85 : decode cX10_copyFrom 85 = .ok (.getfield 46, 3) := by decide +kernel
theorem dX10_copyFrom_88 : decode cX10_copyFrom 88 = .ok (.aload_n 1, 1) := by decide +kernel
theorem dX10_copyFrom_89 : decode cX10_copyFrom 89 = .ok (.getfield 46, 3) := by decide +kernel
theorem tw_1384 : Cond.methodLink RX10 90 yX3_copyFrom ∈ wsL_law := List.mem_of_getElem? (i := 1384) (by decide +kernel)
theorem tw_1385 : Cond.instanceMethod yX3_copyFrom ∈ wsL_law := List.mem_of_getElem? (i := 1385) (by decide +kernel)
theorem tw_1386 : Cond.selects RX3 yX3_copyFrom yX3_copyFrom ∈ wsL_law := List.mem_of_getElem? (i := 1386) (by decide +kernel)
theorem tw_1387 : Cond.code yX3_copyFrom cX3_copyFrom 3 none ∈ wsL_law := List.mem_of_getElem? (i := 1387) (by decide +kernel)
theorem dX10_copyFrom_92 : decode cX10_copyFrom 92 = .ok (.invokevirtual 90, 3) := by decide +kernel
theorem dX10_copyFrom_95 : decode cX10_copyFrom 95 = .ok (.aload_n 0, 1) := by decide +kernel
theorem tw_54 : Cond.fieldLink RX10 53 "RingsUnder$World" "graves" "LRingsUnder$Graves;" ∈ wsL_law := List.mem_of_getElem? (i := 54) (by decide +kernel)
theorem dX10_copyFrom_96 : decode cX10_copyFrom 96 = .ok (.getfield 53, 3) := by decide +kernel
theorem dX10_copyFrom_99 : decode cX10_copyFrom 99 = .ok (.aload_n 1, 1) := by decide +kernel
theorem dX10_copyFrom_100 : decode cX10_copyFrom 100 = .ok (.getfield 53, 3) := by decide +kernel
theorem tw_1389 : Cond.methodLink RX10 93 yX1_copyFrom ∈ wsL_law := List.mem_of_getElem? (i := 1389) (by decide +kernel)
theorem tw_1390 : Cond.instanceMethod yX1_copyFrom ∈ wsL_law := List.mem_of_getElem? (i := 1390) (by decide +kernel)
theorem tw_1391 : Cond.selects RX1 yX1_copyFrom yX1_copyFrom ∈ wsL_law := List.mem_of_getElem? (i := 1391) (by decide +kernel)
theorem tw_53 : Cond.initialized RX1 ∈ wsL_law := List.mem_of_getElem? (i := 53) (by decide +kernel)
theorem tw_1392 : Cond.code yX1_copyFrom cX1_copyFrom 2 none ∈ wsL_law := List.mem_of_getElem? (i := 1392) (by decide +kernel)
theorem dX10_copyFrom_103 : decode cX10_copyFrom 103 = .ok (.invokevirtual 93, 3) := by decide +kernel
theorem dX10_copyFrom_106 : decode cX10_copyFrom 106 = .ok (.return_, 1) := by decide +kernel
theorem nl_0 {s : State} (h : pq_N s) : va_Nw (.methodLinkNest RX7 55 yX11_fill "RingsUnder") s := h.1 (RX7, 55, yX11_fill) (List.mem_of_getElem? (i := 0) rfl)
theorem nl_1 {s : State} (h : pq_N s) : va_Nw (.methodLinkNest RX2 45 yX9_init "RingsUnder") s := h.1 (RX2, 45, yX9_init) (List.mem_of_getElem? (i := 1) rfl)
theorem nl_2 {s : State} (h : pq_N s) : va_Nw (.methodLinkNest RX2 65 yX11_fill "RingsUnder") s := h.1 (RX2, 65, yX11_fill) (List.mem_of_getElem? (i := 2) rfl)
theorem nl_3 {s : State} (h : pq_N s) : va_Nw (.methodLinkNest RX10 38 yX0_init "RingsUnder") s := h.1 (RX10, 38, yX0_init) (List.mem_of_getElem? (i := 3) rfl)
theorem nl_4 {s : State} (h : pq_N s) : va_Nw (.methodLinkNest RX10 45 yX3_init "RingsUnder") s := h.1 (RX10, 45, yX3_init) (List.mem_of_getElem? (i := 4) rfl)
theorem nl_5 {s : State} (h : pq_N s) : va_Nw (.methodLinkNest RX10 52 yX1_init "RingsUnder") s := h.1 (RX10, 52, yX1_init) (List.mem_of_getElem? (i := 5) rfl)
theorem nl_6 {s : State} (h : pq_N s) : va_Nw (.methodLinkNest RX10 63 yX11_fill "RingsUnder") s := h.1 (RX10, 63, yX11_fill) (List.mem_of_getElem? (i := 6) rfl)
theorem nl_7 {s : State} (h : pq_N s) : va_Nw (.methodLinkNest RX11 24 yX5_init "RingsUnder") s := h.1 (RX11, 24, yX5_init) (List.mem_of_getElem? (i := 7) rfl)
theorem nl_8 {s : State} (h : pq_N s) : va_Nw (.methodLinkNest RX11 31 yX4_init "RingsUnder") s := h.1 (RX11, 31, yX4_init) (List.mem_of_getElem? (i := 8) rfl)
theorem nl_9 {s : State} (h : pq_N s) : va_Nw (.methodLinkNest RX4 11 yX6_init "RingsUnder") s := h.1 (RX4, 11, yX6_init) (List.mem_of_getElem? (i := 9) rfl)
theorem nl_10 {s : State} (h : pq_N s) : va_Nw (.methodLinkNest RX4 27 yX8_init "RingsUnder") s := h.1 (RX4, 27, yX8_init) (List.mem_of_getElem? (i := 10) rfl)
theorem nl_11 {s : State} (h : pq_N s) : va_Nw (.methodLinkNest RX2 101 yX11_hasBit "RingsUnder") s := h.1 (RX2, 101, yX11_hasBit) (List.mem_of_getElem? (i := 11) rfl)
theorem nl_12 {s : State} (h : pq_N s) : va_Nw (.methodLinkNest RX3 65 yX11_hasBit "RingsUnder") s := h.1 (RX3, 65, yX11_hasBit) (List.mem_of_getElem? (i := 12) rfl)
theorem nl_13 {s : State} (h : pq_N s) : va_Nw (.methodLinkNest RX0 73 yX11_hasBit "RingsUnder") s := h.1 (RX0, 73, yX11_hasBit) (List.mem_of_getElem? (i := 13) rfl)
theorem nl_14 {s : State} (h : pq_N s) : va_Nw (.methodLinkNest RX9 29 yX11_hasBit "RingsUnder") s := h.1 (RX9, 29, yX11_hasBit) (List.mem_of_getElem? (i := 14) rfl)
theorem nl_15 {s : State} (h : pq_N s) : va_Nw (.methodLinkNest RX0 58 yX11_copy "RingsUnder") s := h.1 (RX0, 58, yX11_copy) (List.mem_of_getElem? (i := 15) rfl)
theorem nl_16 {s : State} (h : pq_N s) : va_Nw (.methodLinkNest RX0 113 yX11_fill "RingsUnder") s := h.1 (RX0, 113, yX11_fill) (List.mem_of_getElem? (i := 16) rfl)
theorem nl_17 {s : State} (h : pq_N s) : va_Nw (.methodLinkNest RX10 76 yX11_copy "RingsUnder") s := h.1 (RX10, 76, yX11_copy) (List.mem_of_getElem? (i := 17) rfl)
theorem nl_18 {s : State} (h : pq_N s) : va_Nw (.methodLinkNest RX7 62 yX11_copy "RingsUnder") s := h.1 (RX7, 62, yX11_copy) (List.mem_of_getElem? (i := 18) rfl)
theorem nl_19 {s : State} (h : pq_N s) : va_Nw (.methodLinkNest RX2 89 yX11_copy "RingsUnder") s := h.1 (RX2, 89, yX11_copy) (List.mem_of_getElem? (i := 19) rfl)
theorem nl_20 {s : State} (h : pq_N s) : va_Nw (.methodLinkNest RX9 21 yX11_copy "RingsUnder") s := h.1 (RX9, 21, yX11_copy) (List.mem_of_getElem? (i := 20) rfl)
theorem nl_21 {s : State} (h : pq_N s) : va_Nw (.methodLinkNest RX3 40 yX11_copy "RingsUnder") s := h.1 (RX3, 40, yX11_copy) (List.mem_of_getElem? (i := 21) rfl)
theorem nl_22 {s : State} (h : pq_N s) : va_Nw (.methodLinkNest RX1 23 yX11_copy "RingsUnder") s := h.1 (RX1, 23, yX11_copy) (List.mem_of_getElem? (i := 22) rfl)
theorem nl_23 {s : State} (h : pq_N s) : va_Nw (.methodLinkNest RX5 60 yX11_copy "RingsUnder") s := h.1 (RX5, 60, yX11_copy) (List.mem_of_getElem? (i := 23) rfl)
theorem nl_24 {s : State} (h : pq_N s) : va_Nw (.methodLinkNest RX10 226 yX11_hasBit "RingsUnder") s := h.1 (RX10, 226, yX11_hasBit) (List.mem_of_getElem? (i := 24) rfl)
theorem nl_25 {s : State} (h : pq_N s) : va_Nw (.methodLinkNest RX1 33 yX11_hasBit "RingsUnder") s := h.1 (RX1, 33, yX11_hasBit) (List.mem_of_getElem? (i := 25) rfl)

set_option maxHeartbeats 4000000 in
set_option maxRecDepth 100000 in
theorem c_X9_copyFrom (l : Launch) (D : va_G) (t : pq_T) (σ : pq_S) (I : Nat → Nat → Int32) (J : Nat → Nat → Int64) (ri : Nat → Nat → Int32) (rj : Nat → Nat → Int64) (rq : Nat → Nat → Option Nat) (sz : Nat) (this : Nat) (o : Nat) (hL_this : this ∈ σ.1) (hK_this : σ.2.1 this = 9) (hL_o : o ∈ σ.1) (hK_o : σ.2.1 o = 9) (o_gathers : Nat) (hR_o_gathers : σ.2.2.1 288 o = some o_gathers) (hL_o_gathers : o_gathers ∈ σ.1) (hK_o_gathers : σ.2.1 o_gathers = 13) (hN_o_gathers : σ.2.2.2 o_gathers = 40) (this_gathers : Nat) (hR_this_gathers : σ.2.2.1 288 this = some this_gathers) (hL_this_gathers : this_gathers ∈ σ.1) (hK_this_gathers : σ.2.1 this_gathers = 13) (hN_this_gathers : σ.2.2.2 this_gathers = 40) (o_lens : Nat) (hR_o_lens : σ.2.2.1 289 o = some o_lens) (hL_o_lens : o_lens ∈ σ.1) (hK_o_lens : σ.2.1 o_lens = 13) (hN_o_lens : σ.2.2.2 o_lens = 40) (this_lens : Nat) (hR_this_lens : σ.2.2.1 289 this = some this_lens) (hL_this_lens : this_lens ∈ σ.1) (hK_this_lens : σ.2.1 this_lens = 13) (hN_this_lens : σ.2.2.2 this_lens = 40) (o_salt : Nat) (hR_o_salt : σ.2.2.1 290 o = some o_salt) (hL_o_salt : o_salt ∈ σ.1) (hK_o_salt : σ.2.1 o_salt = 13) (hN_o_salt : σ.2.2.2 o_salt = 40) (this_salt : Nat) (hR_this_salt : σ.2.2.1 290 this = some this_salt) (hL_this_salt : this_salt ∈ σ.1) (hK_this_salt : σ.2.1 this_salt = 13) (hN_this_salt : σ.2.2.2 this_salt = 40) : MetV l yX9_copyFrom (wa yX9_copyFrom cX9_copyFrom 2 none) ({ frames := 2, cells := 0, slots := 0, locals := 81 }) [.ref this, .ref o] D t σ (I, J, ri, rj, rq) sz 0 0 (fun (u : pq_S × pq_M) => ∃ ri' : Nat → Nat → Int32, u = (σ, I, J, ri', rj, rq)) := by
  refine Met.ofW (cc := cX9_copyFrom) (maxL := 2) (ret := none) (by decide) rfl ?_
  intro p e s m args below meth c s₁ B hml hv
  obtain ⟨rfl, hsz, hP, hK, hD0, hN⟩ := hv
  have hx := B.exec
  have hb := B.bytes
  have hr := B.returns
  have hts := atoms_spec (ws := (wa yX9_copyFrom cX9_copyFrom 2 none)) B.pre
  have hown : s.vm.findClass RX9 = some m.cls := findClass_of_methodNamed B.named
  have hlocks := B.notSynchronized
  subst hsz
  have hD : va_D (pq_B t σ (I, J, ri, rj, rq) s.heap.size) (pq_P t σ (I, J, ri, rj, rq)) := hD0.self
  generalize hAe : pq_B t σ (I, J, ri, rj, rq) s.heap.size = A at hD ⊢
  have hA : ∀ q : Nat, s.heap.size ≤ q → A q := fun q h => by rw [← hAe]; exact Or.inr h
  have hS : va_S A s.heap s.heap [] := va_S.rf
  have hl := lv_entry ([.ref this, .ref o]) (n := 2) (Nat.le_of_ble_eq_true rfl)
  rw [lg_entry_eq]
  generalize (lg_sl ([.ref this, .ref o]) ++ List.replicate (2 - (lg_sl ([.ref this, .ref o])).length) Slot.unset).toArray = ls at hl ⊢
  have hl : lv_has ls 2 [(0, .ref this), (1, .ref o)] := hl
  refine lv_aload_n hx hb dX9_copyFrom_0 rfl (lv_at hl 1 rfl) ?_
  refine pg_f (v := .ref o_gathers) (C := RX9) (T := TX9) (N := 3) hx hb hts (tw_i inlX9) hown hK hP hL_o hK_o (by decide) rfl 0 (by decide) (hts _ (tw_c tw_104)) (pq_hv rfl hR_o_gathers) dX9_copyFrom_1 ?_
  refine lv_aload_n hx hb dX9_copyFrom_4 rfl (lv_at hl 0 rfl) ?_
  refine pg_f (v := .ref this_gathers) (C := RX9) (T := TX9) (N := 3) hx hb hts (tw_i inlX9) hown hK hP hL_this hK_this (by decide) rfl 0 (by decide) (hts _ (tw_c tw_104)) (pq_hv rfl hR_this_gathers) dX9_copyFrom_5 ?_
  refine pk_v (va_runSN (As := [.ref o_gathers, .ref this_gathers]) (rest := []) ⟨hx, hb, hml, hown, hts⟩ (c_X11_copy l D t σ I J ri rj rq (Array.size s.heap) o_gathers this_gathers 40 hL_o_gathers hK_o_gathers hN_o_gathers hL_this_gathers hK_this_gathers hN_this_gathers (by omega)) ⟨va_cnB (host := "RingsUnder") 2 hts (tw_W tw_1102) rfl rfl rfl (nl_20 hN) (hts _ (tw_c tw_2)) (by decide +kernel) ⟨Nat.le_of_ble_eq_true rfl, Nat.le_of_ble_eq_true rfl⟩, hts (.static yX11_copy) (by decide +kernel), trivial⟩ ⟨pq_blind, pq_pre hK hN hP hD⟩ rfl rfl hl.1 rfl (lv_room (Nat.le_of_ble_eq_true rfl)) dX9_copyFrom_8 ⟨Nat.le_of_ble_eq_true rfl, Nat.le_of_ble_eq_true rfl⟩) hD hS hA (fun σ1 μ1 H locs hw_2 hP hD hS => ?_)
  obtain ⟨ri_3, hu_4⟩ := hw_2
  obtain ⟨hu_4a, hu_4b⟩ := Prod.mk.inj hu_4
  rw [hu_4a, hu_4b] at hP hD
  refine lv_aload_n hx hb dX9_copyFrom_11 rfl (lv_at hl 1 rfl) ?_
  refine pg_f (v := .ref o_lens) (C := RX9) (T := TX9) (N := 3) hx hb hts (tw_i inlX9) hown hK hP hL_o hK_o (by decide) rfl 1 (by decide) (hts _ (tw_c tw_105)) (pq_hv rfl hR_o_lens) dX9_copyFrom_12 ?_
  refine lv_aload_n hx hb dX9_copyFrom_15 rfl (lv_at hl 0 rfl) ?_
  refine pg_f (v := .ref this_lens) (C := RX9) (T := TX9) (N := 3) hx hb hts (tw_i inlX9) hown hK hP hL_this hK_this (by decide) rfl 1 (by decide) (hts _ (tw_c tw_105)) (pq_hv rfl hR_this_lens) dX9_copyFrom_16 ?_
  refine pk_v (va_runSN (As := [.ref o_lens, .ref this_lens]) (rest := []) ⟨hx, hb, hml, hown, hts⟩ (c_X11_copy l D t σ I J ri_3 rj rq H.size o_lens this_lens 40 hL_o_lens hK_o_lens hN_o_lens hL_this_lens hK_this_lens hN_this_lens (by omega)) ⟨va_cnB (host := "RingsUnder") 2 hts (tw_W tw_1102) rfl rfl rfl (nl_20 hN) (hts _ (tw_c tw_2)) (by decide +kernel) ⟨Nat.le_of_ble_eq_true rfl, Nat.le_of_ble_eq_true rfl⟩, hts (.static yX11_copy) (by decide +kernel), trivial⟩ ⟨pq_blind, pq_pre hK hN hP hD⟩ rfl rfl hl.1 rfl (lv_room (Nat.le_of_ble_eq_true rfl)) dX9_copyFrom_19 ⟨Nat.le_of_ble_eq_true rfl, Nat.le_of_ble_eq_true rfl⟩) hD hS hA (fun σ1 μ1 H locs hw_7 hP hD hS => ?_)
  obtain ⟨ri_8, hu_9⟩ := hw_7
  obtain ⟨hu_9a, hu_9b⟩ := Prod.mk.inj hu_9
  rw [hu_9a, hu_9b] at hP hD
  refine lv_aload_n hx hb dX9_copyFrom_22 rfl (lv_at hl 1 rfl) ?_
  refine pg_f (v := .ref o_salt) (C := RX9) (T := TX9) (N := 3) hx hb hts (tw_i inlX9) hown hK hP hL_o hK_o (by decide) rfl 2 (by decide) (hts _ (tw_c tw_106)) (pq_hv rfl hR_o_salt) dX9_copyFrom_23 ?_
  refine lv_aload_n hx hb dX9_copyFrom_26 rfl (lv_at hl 0 rfl) ?_
  refine pg_f (v := .ref this_salt) (C := RX9) (T := TX9) (N := 3) hx hb hts (tw_i inlX9) hown hK hP hL_this hK_this (by decide) rfl 2 (by decide) (hts _ (tw_c tw_106)) (pq_hv rfl hR_this_salt) dX9_copyFrom_27 ?_
  refine pk_v (va_runSN (As := [.ref o_salt, .ref this_salt]) (rest := []) ⟨hx, hb, hml, hown, hts⟩ (c_X11_copy l D t σ I J ri_8 rj rq H.size o_salt this_salt 40 hL_o_salt hK_o_salt hN_o_salt hL_this_salt hK_this_salt hN_this_salt (by omega)) ⟨va_cnB (host := "RingsUnder") 2 hts (tw_W tw_1102) rfl rfl rfl (nl_20 hN) (hts _ (tw_c tw_2)) (by decide +kernel) ⟨Nat.le_of_ble_eq_true rfl, Nat.le_of_ble_eq_true rfl⟩, hts (.static yX11_copy) (by decide +kernel), trivial⟩ ⟨pq_blind, pq_pre hK hN hP hD⟩ rfl rfl hl.1 rfl (lv_room (Nat.le_of_ble_eq_true rfl)) dX9_copyFrom_30 ⟨Nat.le_of_ble_eq_true rfl, Nat.le_of_ble_eq_true rfl⟩) hD hS hA (fun σ1 μ1 H locs hw_12 hP hD hS => ?_)
  obtain ⟨ri_13, hu_14⟩ := hw_12
  obtain ⟨hu_14a, hu_14b⟩ := Prod.mk.inj hu_14
  rw [hu_14a, hu_14b] at hP hD
  exact W.vret hx hb hr (fun t1 ht hW => ⟨⟨(σ, I, J, ri_13, rj, rq), rfl, ⟨ri_13, rfl⟩, by rw [ht]; exact hP, va_K.moved hW.alike hK, hD⟩, hS.F ht⟩) hS.2.2 dX9_copyFrom_33

set_option maxHeartbeats 4000000 in
set_option maxRecDepth 100000 in
theorem c_X1_copyFrom (l : Launch) (D : va_G) (t : pq_T) (σ : pq_S) (I : Nat → Nat → Int32) (J : Nat → Nat → Int64) (ri : Nat → Nat → Int32) (rj : Nat → Nat → Int64) (rq : Nat → Nat → Option Nat) (sz : Nat) (this : Nat) (o : Nat) (hL_this : this ∈ σ.1) (hK_this : σ.2.1 this = 1) (hL_o : o ∈ σ.1) (hK_o : σ.2.1 o = 1) (o_cell : Nat) (hR_o_cell : σ.2.2.1 33 o = some o_cell) (hL_o_cell : o_cell ∈ σ.1) (hK_o_cell : σ.2.1 o_cell = 13) (hN_o_cell : σ.2.2.2 o_cell = 30) (this_cell : Nat) (hR_this_cell : σ.2.2.1 33 this = some this_cell) (hL_this_cell : this_cell ∈ σ.1) (hK_this_cell : σ.2.1 this_cell = 13) (hN_this_cell : σ.2.2.2 this_cell = 30) (o_lay : Nat) (hR_o_lay : σ.2.2.1 34 o = some o_lay) (hL_o_lay : o_lay ∈ σ.1) (hK_o_lay : σ.2.1 o_lay = 14) (hN_o_lay : σ.2.2.2 o_lay = 30) (this_lay : Nat) (hR_this_lay : σ.2.2.1 34 this = some this_lay) (hL_this_lay : this_lay ∈ σ.1) (hK_this_lay : σ.2.1 this_lay = 14) (hN_this_lay : σ.2.2.2 this_lay = 30) (hZ : pq_Z I) : MetV l yX1_copyFrom (wa yX1_copyFrom cX1_copyFrom 2 none) ({ frames := 2, cells := 0, slots := 0, locals := 81 }) [.ref this, .ref o] D t σ (I, J, ri, rj, rq) sz 0 0 (fun (u : pq_S × pq_M) => ∃ ri' : Nat → Nat → Int32, ∃ rj' : Nat → Nat → Int64, u = (σ, I, J, ri', rj', rq)) := by
  refine Met.ofW (cc := cX1_copyFrom) (maxL := 2) (ret := none) (by decide) rfl ?_
  intro p e s m args below meth c s₁ B hml hv
  obtain ⟨rfl, hsz, hP, hK, hD0, hN⟩ := hv
  have hx := B.exec
  have hb := B.bytes
  have hr := B.returns
  have hts := atoms_spec (ws := (wa yX1_copyFrom cX1_copyFrom 2 none)) B.pre
  have hown : s.vm.findClass RX1 = some m.cls := findClass_of_methodNamed B.named
  have hlocks := B.notSynchronized
  subst hsz
  have hD : va_D (pq_B t σ (I, J, ri, rj, rq) s.heap.size) (pq_P t σ (I, J, ri, rj, rq)) := hD0.self
  generalize hAe : pq_B t σ (I, J, ri, rj, rq) s.heap.size = A at hD ⊢
  have hA : ∀ q : Nat, s.heap.size ≤ q → A q := fun q h => by rw [← hAe]; exact Or.inr h
  have hS : va_S A s.heap s.heap [] := va_S.rf
  have hl := lv_entry ([.ref this, .ref o]) (n := 2) (Nat.le_of_ble_eq_true rfl)
  rw [lg_entry_eq]
  generalize (lg_sl ([.ref this, .ref o]) ++ List.replicate (2 - (lg_sl ([.ref this, .ref o])).length) Slot.unset).toArray = ls at hl ⊢
  have hl : lv_has ls 2 [(0, .ref this), (1, .ref o)] := hl
  refine lv_aload_n hx hb dX1_copyFrom_0 rfl (lv_at hl 0 rfl) ?_
  refine lv_aload_n hx hb dX1_copyFrom_1 rfl (lv_at hl 1 rfl) ?_
  refine pg_f (v := .int (I 32 o)) (C := RX1) (T := TX1) (N := 3) hx hb hts (tw_i inlX1) hown hK hP hL_o hK_o (by decide) rfl 0 (by decide) (hts _ (tw_c tw_1393)) rfl dX1_copyFrom_2 ?_
  refine lv_tov 0 (congrFun (hZ 32 (by decide)) o) ?_
  refine pp_i (v := 0) (ty := .int) (C := RX1) (T := TX1) (N := 3) hx hb hts (tw_i inlX1) tyX1 tyX1_ok nmX1 hown hK hP hD hS hL_this hK_this (by decide) rfl 0 32 (by decide) (hts _ (tw_c tw_1393)) rfl (by decide +kernel) rfl rfl (Nat.le_of_ble_eq_true rfl) (ps_32 _ _ _ _ _) dX1_copyFrom_5 (fun I_1 H locs eI_1 hP hD hS => ?_)
  have eI_1 : I_1 = I := by rw [eI_1]; exact pq_uc _ _ _ _ (hZ 32 (by decide))
  rw [eI_1] at hP hD
  refine lv_aload_n hx hb dX1_copyFrom_8 rfl (lv_at hl 1 rfl) ?_
  refine pg_f (v := .ref o_cell) (C := RX1) (T := TX1) (N := 3) hx hb hts (tw_i inlX1) hown hK hP hL_o hK_o (by decide) rfl 1 (by decide) (hts _ (tw_c tw_137)) (pq_hv rfl hR_o_cell) dX1_copyFrom_9 ?_
  refine lv_aload_n hx hb dX1_copyFrom_12 rfl (lv_at hl 0 rfl) ?_
  refine pg_f (v := .ref this_cell) (C := RX1) (T := TX1) (N := 3) hx hb hts (tw_i inlX1) hown hK hP hL_this hK_this (by decide) rfl 1 (by decide) (hts _ (tw_c tw_137)) (pq_hv rfl hR_this_cell) dX1_copyFrom_13 ?_
  refine pk_v (va_runSN (As := [.ref o_cell, .ref this_cell]) (rest := []) ⟨hx, hb, hml, hown, hts⟩ (c_X11_copy l D t σ I J ri rj rq H.size o_cell this_cell 30 hL_o_cell hK_o_cell hN_o_cell hL_this_cell hK_this_cell hN_this_cell (by omega)) ⟨va_cnB (host := "RingsUnder") 2 hts (tw_W tw_1102) rfl rfl rfl (nl_22 hN) (hts _ (tw_c tw_2)) (by decide +kernel) ⟨Nat.le_of_ble_eq_true rfl, Nat.le_of_ble_eq_true rfl⟩, hts (.static yX11_copy) (by decide +kernel), trivial⟩ ⟨pq_blind, pq_pre hK hN hP hD⟩ rfl rfl hl.1 rfl (lv_room (Nat.le_of_ble_eq_true rfl)) dX1_copyFrom_16 ⟨Nat.le_of_ble_eq_true rfl, Nat.le_of_ble_eq_true rfl⟩) hD hS hA (fun σ1 μ1 H locs hw_3 hP hD hS => ?_)
  obtain ⟨ri_4, hu_5⟩ := hw_3
  obtain ⟨hu_5a, hu_5b⟩ := Prod.mk.inj hu_5
  rw [hu_5a, hu_5b] at hP hD
  refine lv_aload_n hx hb dX1_copyFrom_19 rfl (lv_at hl 1 rfl) ?_
  refine pg_f (v := .ref o_lay) (C := RX1) (T := TX1) (N := 3) hx hb hts (tw_i inlX1) hown hK hP hL_o hK_o (by decide) rfl 2 (by decide) (hts _ (tw_c tw_138)) (pq_hv rfl hR_o_lay) dX1_copyFrom_20 ?_
  refine lv_iconst (v := 0) hx hb dX1_copyFrom_23 (by decide) ?_
  refine lv_aload_n hx hb dX1_copyFrom_24 rfl (lv_at hl 0 rfl) ?_
  refine pg_f (v := .ref this_lay) (C := RX1) (T := TX1) (N := 3) hx hb hts (tw_i inlX1) hown hK hP hL_this hK_this (by decide) rfl 2 (by decide) (hts _ (tw_c tw_138)) (pq_hv rfl hR_this_lay) dX1_copyFrom_25 ?_
  refine lv_iconst (v := 0) hx hb dX1_copyFrom_28 (by decide) ?_
  refine lv_bipush (v := 30) hx hb dX1_copyFrom_29 (by decide) ?_
  refine pc_l hx hb (hml.trans hl.1.symm) hown (hts _ (tw_c tw_1394)) (hts _ (tw_c tw_1105)) (hts _ (tw_c tw_1106)) (hts _ (tw_c tw_1107)) hK hP hD hS hL_o_lay hK_o_lay hN_o_lay hL_this_lay hK_this_lay hN_this_lay (by decide) (by decide) (by decide) (by decide) (Nat.le_of_ble_eq_true rfl) (Nat.le_of_ble_eq_true rfl) dX1_copyFrom_31 (fun r_7 H locs er_7 hP hD hS => ?_)
  exact W.vret hx hb hr (fun t1 ht hW => ⟨⟨(σ, I, J, ri_4, r_7, rq), rfl, ⟨ri_4, r_7, rfl⟩, by rw [ht]; exact hP, va_K.moved hW.alike hK, hD⟩, hS.F ht⟩) hS.2.2 dX1_copyFrom_34

set_option maxHeartbeats 4000000 in
set_option maxRecDepth 100000 in
theorem c_X0_copyFrom (l : Launch) (D : va_G) (t : pq_T) (σ : pq_S) (I : Nat → Nat → Int32) (J : Nat → Nat → Int64) (ri : Nat → Nat → Int32) (rj : Nat → Nat → Int64) (rq : Nat → Nat → Option Nat) (sz : Nat) (this : Nat) (o : Nat) (hL_this : this ∈ σ.1) (hK_this : σ.2.1 this = 0) (hL_o : o ∈ σ.1) (hK_o : σ.2.1 o = 0) (o_kin : Nat) (hR_o_kin : σ.2.2.1 1 o = some o_kin) (hL_o_kin : o_kin ∈ σ.1) (hK_o_kin : σ.2.1 o_kin = 13) (hN_o_kin : σ.2.2.2 o_kin = 40) (this_kin : Nat) (hR_this_kin : σ.2.2.1 1 this = some this_kin) (hL_this_kin : this_kin ∈ σ.1) (hK_this_kin : σ.2.1 this_kin = 13) (hN_this_kin : σ.2.2.2 this_kin = 40) (o_age : Nat) (hR_o_age : σ.2.2.1 2 o = some o_age) (hL_o_age : o_age ∈ σ.1) (hK_o_age : σ.2.1 o_age = 13) (hN_o_age : σ.2.2.2 o_age = 40) (this_age : Nat) (hR_this_age : σ.2.2.1 2 this = some this_age) (hL_this_age : this_age ∈ σ.1) (hK_this_age : σ.2.1 this_age = 13) (hN_this_age : σ.2.2.2 this_age = 40) (o_craft : Nat) (hR_o_craft : σ.2.2.1 3 o = some o_craft) (hL_o_craft : o_craft ∈ σ.1) (hK_o_craft : σ.2.1 o_craft = 13) (hN_o_craft : σ.2.2.2 o_craft = 40) (this_craft : Nat) (hR_this_craft : σ.2.2.1 3 this = some this_craft) (hL_this_craft : this_craft ∈ σ.1) (hK_this_craft : σ.2.1 this_craft = 13) (hN_this_craft : σ.2.2.2 this_craft = 40) (o_send : Nat) (hR_o_send : σ.2.2.1 4 o = some o_send) (hL_o_send : o_send ∈ σ.1) (hK_o_send : σ.2.1 o_send = 13) (hN_o_send : σ.2.2.2 o_send = 40) (this_send : Nat) (hR_this_send : σ.2.2.1 4 this = some this_send) (hL_this_send : this_send ∈ σ.1) (hK_this_send : σ.2.1 this_send = 13) (hN_this_send : σ.2.2.2 this_send = 40) (o_place : Nat) (hR_o_place : σ.2.2.1 5 o = some o_place) (hL_o_place : o_place ∈ σ.1) (hK_o_place : σ.2.1 o_place = 13) (hN_o_place : σ.2.2.2 o_place = 40) (this_place : Nat) (hR_this_place : σ.2.2.1 5 this = some this_place) (hL_this_place : this_place ∈ σ.1) (hK_this_place : σ.2.1 this_place = 13) (hN_this_place : σ.2.2.2 this_place = 40) (o_thirst : Nat) (hR_o_thirst : σ.2.2.1 6 o = some o_thirst) (hL_o_thirst : o_thirst ∈ σ.1) (hK_o_thirst : σ.2.1 o_thirst = 13) (hN_o_thirst : σ.2.2.2 o_thirst = 40) (this_thirst : Nat) (hR_this_thirst : σ.2.2.1 6 this = some this_thirst) (hL_this_thirst : this_thirst ∈ σ.1) (hK_this_thirst : σ.2.1 this_thirst = 13) (hN_this_thirst : σ.2.2.2 this_thirst = 40) (o_noBed : Nat) (hR_o_noBed : σ.2.2.1 7 o = some o_noBed) (hL_o_noBed : o_noBed ∈ σ.1) (hK_o_noBed : σ.2.1 o_noBed = 13) (hN_o_noBed : σ.2.2.2 o_noBed = 40) (this_noBed : Nat) (hR_this_noBed : σ.2.2.1 7 this = some this_noBed) (hL_this_noBed : this_noBed ∈ σ.1) (hK_this_noBed : σ.2.1 this_noBed = 13) (hN_this_noBed : σ.2.2.2 this_noBed = 40) (o_went : Nat) (hR_o_went : σ.2.2.1 8 o = some o_went) (hL_o_went : o_went ∈ σ.1) (hK_o_went : σ.2.1 o_went = 13) (hN_o_went : σ.2.2.2 o_went = 40) (this_went : Nat) (hR_this_went : σ.2.2.1 8 this = some this_went) (hL_this_went : this_went ∈ σ.1) (hK_this_went : σ.2.1 this_went = 13) (hN_this_went : σ.2.2.2 this_went = 40) (o_vote : Nat) (hR_o_vote : σ.2.2.1 9 o = some o_vote) (hL_o_vote : o_vote ∈ σ.1) (hK_o_vote : σ.2.1 o_vote = 13) (hN_o_vote : σ.2.2.2 o_vote = 40) (this_vote : Nat) (hR_this_vote : σ.2.2.1 9 this = some this_vote) (hL_this_vote : this_vote ∈ σ.1) (hK_this_vote : σ.2.1 this_vote = 13) (hN_this_vote : σ.2.2.2 this_vote = 40) (o_lotBeds : Nat) (hR_o_lotBeds : σ.2.2.1 11 o = some o_lotBeds) (hL_o_lotBeds : o_lotBeds ∈ σ.1) (hK_o_lotBeds : σ.2.1 o_lotBeds = 13) (hN_o_lotBeds : σ.2.2.2 o_lotBeds = 5) (this_lotBeds : Nat) (hR_this_lotBeds : σ.2.2.1 11 this = some this_lotBeds) (hL_this_lotBeds : this_lotBeds ∈ σ.1) (hK_this_lotBeds : σ.2.1 this_lotBeds = 13) (hN_this_lotBeds : σ.2.2.2 this_lotBeds = 5) (hZ : pq_Z I) : MetV l yX0_copyFrom (wa yX0_copyFrom cX0_copyFrom 2 none) ({ frames := 2, cells := 0, slots := 0, locals := 81 }) [.ref this, .ref o] D t σ (I, J, ri, rj, rq) sz 0 0 (fun (u : pq_S × pq_M) => ∃ ri' : Nat → Nat → Int32, u = (σ, I, J, ri', rj, rq)) := by
  refine Met.ofW (cc := cX0_copyFrom) (maxL := 2) (ret := none) (by decide) rfl ?_
  intro p e s m args below meth c s₁ B hml hv
  obtain ⟨rfl, hsz, hP, hK, hD0, hN⟩ := hv
  have hx := B.exec
  have hb := B.bytes
  have hr := B.returns
  have hts := atoms_spec (ws := (wa yX0_copyFrom cX0_copyFrom 2 none)) B.pre
  have hown : s.vm.findClass RX0 = some m.cls := findClass_of_methodNamed B.named
  have hlocks := B.notSynchronized
  subst hsz
  have hD : va_D (pq_B t σ (I, J, ri, rj, rq) s.heap.size) (pq_P t σ (I, J, ri, rj, rq)) := hD0.self
  generalize hAe : pq_B t σ (I, J, ri, rj, rq) s.heap.size = A at hD ⊢
  have hA : ∀ q : Nat, s.heap.size ≤ q → A q := fun q h => by rw [← hAe]; exact Or.inr h
  have hS : va_S A s.heap s.heap [] := va_S.rf
  have hl := lv_entry ([.ref this, .ref o]) (n := 2) (Nat.le_of_ble_eq_true rfl)
  rw [lg_entry_eq]
  generalize (lg_sl ([.ref this, .ref o]) ++ List.replicate (2 - (lg_sl ([.ref this, .ref o])).length) Slot.unset).toArray = ls at hl ⊢
  have hl : lv_has ls 2 [(0, .ref this), (1, .ref o)] := hl
  refine lv_aload_n hx hb dX0_copyFrom_0 rfl (lv_at hl 0 rfl) ?_
  refine lv_aload_n hx hb dX0_copyFrom_1 rfl (lv_at hl 1 rfl) ?_
  refine pg_f (v := .int (I 0 o)) (C := RX0) (T := TX0) (N := 16) hx hb hts (tw_i inlX0) hown hK hP hL_o hK_o (by decide) rfl 0 (by decide) (hts _ (tw_c tw_395)) rfl dX0_copyFrom_2 ?_
  refine lv_tov 0 (congrFun (hZ 0 (by decide)) o) ?_
  refine pp_i (v := 0) (ty := .int) (C := RX0) (T := TX0) (N := 16) hx hb hts (tw_i inlX0) tyX0 tyX0_ok nmX0 hown hK hP hD hS hL_this hK_this (by decide) rfl 0 0 (by decide) (hts _ (tw_c tw_395)) rfl (by decide +kernel) rfl rfl (Nat.le_of_ble_eq_true rfl) (ps_0 _ _ _ _ _) dX0_copyFrom_5 (fun I_1 H locs eI_1 hP hD hS => ?_)
  have eI_1 : I_1 = I := by rw [eI_1]; exact pq_uc _ _ _ _ (hZ 0 (by decide))
  rw [eI_1] at hP hD
  refine lv_aload_n hx hb dX0_copyFrom_8 rfl (lv_at hl 1 rfl) ?_
  refine pg_f (v := .ref o_kin) (C := RX0) (T := TX0) (N := 16) hx hb hts (tw_i inlX0) hown hK hP hL_o hK_o (by decide) rfl 1 (by decide) (hts _ (tw_c tw_110)) (pq_hv rfl hR_o_kin) dX0_copyFrom_9 ?_
  refine lv_aload_n hx hb dX0_copyFrom_12 rfl (lv_at hl 0 rfl) ?_
  refine pg_f (v := .ref this_kin) (C := RX0) (T := TX0) (N := 16) hx hb hts (tw_i inlX0) hown hK hP hL_this hK_this (by decide) rfl 1 (by decide) (hts _ (tw_c tw_110)) (pq_hv rfl hR_this_kin) dX0_copyFrom_13 ?_
  refine pk_v (va_runSN (As := [.ref o_kin, .ref this_kin]) (rest := []) ⟨hx, hb, hml, hown, hts⟩ (c_X11_copy l D t σ I J ri rj rq H.size o_kin this_kin 40 hL_o_kin hK_o_kin hN_o_kin hL_this_kin hK_this_kin hN_this_kin (by omega)) ⟨va_cnB (host := "RingsUnder") 2 hts (tw_W tw_1102) rfl rfl rfl (nl_15 hN) (hts _ (tw_c tw_2)) (by decide +kernel) ⟨Nat.le_of_ble_eq_true rfl, Nat.le_of_ble_eq_true rfl⟩, hts (.static yX11_copy) (by decide +kernel), trivial⟩ ⟨pq_blind, pq_pre hK hN hP hD⟩ rfl rfl hl.1 rfl (lv_room (Nat.le_of_ble_eq_true rfl)) dX0_copyFrom_16 ⟨Nat.le_of_ble_eq_true rfl, Nat.le_of_ble_eq_true rfl⟩) hD hS hA (fun σ1 μ1 H locs hw_3 hP hD hS => ?_)
  obtain ⟨ri_4, hu_5⟩ := hw_3
  obtain ⟨hu_5a, hu_5b⟩ := Prod.mk.inj hu_5
  rw [hu_5a, hu_5b] at hP hD
  refine lv_aload_n hx hb dX0_copyFrom_19 rfl (lv_at hl 1 rfl) ?_
  refine pg_f (v := .ref o_age) (C := RX0) (T := TX0) (N := 16) hx hb hts (tw_i inlX0) hown hK hP hL_o hK_o (by decide) rfl 2 (by decide) (hts _ (tw_c tw_111)) (pq_hv rfl hR_o_age) dX0_copyFrom_20 ?_
  refine lv_aload_n hx hb dX0_copyFrom_23 rfl (lv_at hl 0 rfl) ?_
  refine pg_f (v := .ref this_age) (C := RX0) (T := TX0) (N := 16) hx hb hts (tw_i inlX0) hown hK hP hL_this hK_this (by decide) rfl 2 (by decide) (hts _ (tw_c tw_111)) (pq_hv rfl hR_this_age) dX0_copyFrom_24 ?_
  refine pk_v (va_runSN (As := [.ref o_age, .ref this_age]) (rest := []) ⟨hx, hb, hml, hown, hts⟩ (c_X11_copy l D t σ I J ri_4 rj rq H.size o_age this_age 40 hL_o_age hK_o_age hN_o_age hL_this_age hK_this_age hN_this_age (by omega)) ⟨va_cnB (host := "RingsUnder") 2 hts (tw_W tw_1102) rfl rfl rfl (nl_15 hN) (hts _ (tw_c tw_2)) (by decide +kernel) ⟨Nat.le_of_ble_eq_true rfl, Nat.le_of_ble_eq_true rfl⟩, hts (.static yX11_copy) (by decide +kernel), trivial⟩ ⟨pq_blind, pq_pre hK hN hP hD⟩ rfl rfl hl.1 rfl (lv_room (Nat.le_of_ble_eq_true rfl)) dX0_copyFrom_27 ⟨Nat.le_of_ble_eq_true rfl, Nat.le_of_ble_eq_true rfl⟩) hD hS hA (fun σ1 μ1 H locs hw_8 hP hD hS => ?_)
  obtain ⟨ri_9, hu_10⟩ := hw_8
  obtain ⟨hu_10a, hu_10b⟩ := Prod.mk.inj hu_10
  rw [hu_10a, hu_10b] at hP hD
  refine lv_aload_n hx hb dX0_copyFrom_30 rfl (lv_at hl 1 rfl) ?_
  refine pg_f (v := .ref o_craft) (C := RX0) (T := TX0) (N := 16) hx hb hts (tw_i inlX0) hown hK hP hL_o hK_o (by decide) rfl 3 (by decide) (hts _ (tw_c tw_112)) (pq_hv rfl hR_o_craft) dX0_copyFrom_31 ?_
  refine lv_aload_n hx hb dX0_copyFrom_34 rfl (lv_at hl 0 rfl) ?_
  refine pg_f (v := .ref this_craft) (C := RX0) (T := TX0) (N := 16) hx hb hts (tw_i inlX0) hown hK hP hL_this hK_this (by decide) rfl 3 (by decide) (hts _ (tw_c tw_112)) (pq_hv rfl hR_this_craft) dX0_copyFrom_35 ?_
  refine pk_v (va_runSN (As := [.ref o_craft, .ref this_craft]) (rest := []) ⟨hx, hb, hml, hown, hts⟩ (c_X11_copy l D t σ I J ri_9 rj rq H.size o_craft this_craft 40 hL_o_craft hK_o_craft hN_o_craft hL_this_craft hK_this_craft hN_this_craft (by omega)) ⟨va_cnB (host := "RingsUnder") 2 hts (tw_W tw_1102) rfl rfl rfl (nl_15 hN) (hts _ (tw_c tw_2)) (by decide +kernel) ⟨Nat.le_of_ble_eq_true rfl, Nat.le_of_ble_eq_true rfl⟩, hts (.static yX11_copy) (by decide +kernel), trivial⟩ ⟨pq_blind, pq_pre hK hN hP hD⟩ rfl rfl hl.1 rfl (lv_room (Nat.le_of_ble_eq_true rfl)) dX0_copyFrom_38 ⟨Nat.le_of_ble_eq_true rfl, Nat.le_of_ble_eq_true rfl⟩) hD hS hA (fun σ1 μ1 H locs hw_13 hP hD hS => ?_)
  obtain ⟨ri_14, hu_15⟩ := hw_13
  obtain ⟨hu_15a, hu_15b⟩ := Prod.mk.inj hu_15
  rw [hu_15a, hu_15b] at hP hD
  refine lv_aload_n hx hb dX0_copyFrom_41 rfl (lv_at hl 1 rfl) ?_
  refine pg_f (v := .ref o_send) (C := RX0) (T := TX0) (N := 16) hx hb hts (tw_i inlX0) hown hK hP hL_o hK_o (by decide) rfl 4 (by decide) (hts _ (tw_c tw_113)) (pq_hv rfl hR_o_send) dX0_copyFrom_42 ?_
  refine lv_aload_n hx hb dX0_copyFrom_45 rfl (lv_at hl 0 rfl) ?_
  refine pg_f (v := .ref this_send) (C := RX0) (T := TX0) (N := 16) hx hb hts (tw_i inlX0) hown hK hP hL_this hK_this (by decide) rfl 4 (by decide) (hts _ (tw_c tw_113)) (pq_hv rfl hR_this_send) dX0_copyFrom_46 ?_
  refine pk_v (va_runSN (As := [.ref o_send, .ref this_send]) (rest := []) ⟨hx, hb, hml, hown, hts⟩ (c_X11_copy l D t σ I J ri_14 rj rq H.size o_send this_send 40 hL_o_send hK_o_send hN_o_send hL_this_send hK_this_send hN_this_send (by omega)) ⟨va_cnB (host := "RingsUnder") 2 hts (tw_W tw_1102) rfl rfl rfl (nl_15 hN) (hts _ (tw_c tw_2)) (by decide +kernel) ⟨Nat.le_of_ble_eq_true rfl, Nat.le_of_ble_eq_true rfl⟩, hts (.static yX11_copy) (by decide +kernel), trivial⟩ ⟨pq_blind, pq_pre hK hN hP hD⟩ rfl rfl hl.1 rfl (lv_room (Nat.le_of_ble_eq_true rfl)) dX0_copyFrom_49 ⟨Nat.le_of_ble_eq_true rfl, Nat.le_of_ble_eq_true rfl⟩) hD hS hA (fun σ1 μ1 H locs hw_18 hP hD hS => ?_)
  obtain ⟨ri_19, hu_20⟩ := hw_18
  obtain ⟨hu_20a, hu_20b⟩ := Prod.mk.inj hu_20
  rw [hu_20a, hu_20b] at hP hD
  refine lv_aload_n hx hb dX0_copyFrom_52 rfl (lv_at hl 1 rfl) ?_
  refine pg_f (v := .ref o_place) (C := RX0) (T := TX0) (N := 16) hx hb hts (tw_i inlX0) hown hK hP hL_o hK_o (by decide) rfl 5 (by decide) (hts _ (tw_c tw_114)) (pq_hv rfl hR_o_place) dX0_copyFrom_53 ?_
  refine lv_aload_n hx hb dX0_copyFrom_56 rfl (lv_at hl 0 rfl) ?_
  refine pg_f (v := .ref this_place) (C := RX0) (T := TX0) (N := 16) hx hb hts (tw_i inlX0) hown hK hP hL_this hK_this (by decide) rfl 5 (by decide) (hts _ (tw_c tw_114)) (pq_hv rfl hR_this_place) dX0_copyFrom_57 ?_
  refine pk_v (va_runSN (As := [.ref o_place, .ref this_place]) (rest := []) ⟨hx, hb, hml, hown, hts⟩ (c_X11_copy l D t σ I J ri_19 rj rq H.size o_place this_place 40 hL_o_place hK_o_place hN_o_place hL_this_place hK_this_place hN_this_place (by omega)) ⟨va_cnB (host := "RingsUnder") 2 hts (tw_W tw_1102) rfl rfl rfl (nl_15 hN) (hts _ (tw_c tw_2)) (by decide +kernel) ⟨Nat.le_of_ble_eq_true rfl, Nat.le_of_ble_eq_true rfl⟩, hts (.static yX11_copy) (by decide +kernel), trivial⟩ ⟨pq_blind, pq_pre hK hN hP hD⟩ rfl rfl hl.1 rfl (lv_room (Nat.le_of_ble_eq_true rfl)) dX0_copyFrom_60 ⟨Nat.le_of_ble_eq_true rfl, Nat.le_of_ble_eq_true rfl⟩) hD hS hA (fun σ1 μ1 H locs hw_23 hP hD hS => ?_)
  obtain ⟨ri_24, hu_25⟩ := hw_23
  obtain ⟨hu_25a, hu_25b⟩ := Prod.mk.inj hu_25
  rw [hu_25a, hu_25b] at hP hD
  refine lv_aload_n hx hb dX0_copyFrom_63 rfl (lv_at hl 1 rfl) ?_
  refine pg_f (v := .ref o_thirst) (C := RX0) (T := TX0) (N := 16) hx hb hts (tw_i inlX0) hown hK hP hL_o hK_o (by decide) rfl 6 (by decide) (hts _ (tw_c tw_115)) (pq_hv rfl hR_o_thirst) dX0_copyFrom_64 ?_
  refine lv_aload_n hx hb dX0_copyFrom_67 rfl (lv_at hl 0 rfl) ?_
  refine pg_f (v := .ref this_thirst) (C := RX0) (T := TX0) (N := 16) hx hb hts (tw_i inlX0) hown hK hP hL_this hK_this (by decide) rfl 6 (by decide) (hts _ (tw_c tw_115)) (pq_hv rfl hR_this_thirst) dX0_copyFrom_68 ?_
  refine pk_v (va_runSN (As := [.ref o_thirst, .ref this_thirst]) (rest := []) ⟨hx, hb, hml, hown, hts⟩ (c_X11_copy l D t σ I J ri_24 rj rq H.size o_thirst this_thirst 40 hL_o_thirst hK_o_thirst hN_o_thirst hL_this_thirst hK_this_thirst hN_this_thirst (by omega)) ⟨va_cnB (host := "RingsUnder") 2 hts (tw_W tw_1102) rfl rfl rfl (nl_15 hN) (hts _ (tw_c tw_2)) (by decide +kernel) ⟨Nat.le_of_ble_eq_true rfl, Nat.le_of_ble_eq_true rfl⟩, hts (.static yX11_copy) (by decide +kernel), trivial⟩ ⟨pq_blind, pq_pre hK hN hP hD⟩ rfl rfl hl.1 rfl (lv_room (Nat.le_of_ble_eq_true rfl)) dX0_copyFrom_71 ⟨Nat.le_of_ble_eq_true rfl, Nat.le_of_ble_eq_true rfl⟩) hD hS hA (fun σ1 μ1 H locs hw_28 hP hD hS => ?_)
  obtain ⟨ri_29, hu_30⟩ := hw_28
  obtain ⟨hu_30a, hu_30b⟩ := Prod.mk.inj hu_30
  rw [hu_30a, hu_30b] at hP hD
  refine lv_aload_n hx hb dX0_copyFrom_74 rfl (lv_at hl 1 rfl) ?_
  refine pg_f (v := .ref o_noBed) (C := RX0) (T := TX0) (N := 16) hx hb hts (tw_i inlX0) hown hK hP hL_o hK_o (by decide) rfl 7 (by decide) (hts _ (tw_c tw_116)) (pq_hv rfl hR_o_noBed) dX0_copyFrom_75 ?_
  refine lv_aload_n hx hb dX0_copyFrom_78 rfl (lv_at hl 0 rfl) ?_
  refine pg_f (v := .ref this_noBed) (C := RX0) (T := TX0) (N := 16) hx hb hts (tw_i inlX0) hown hK hP hL_this hK_this (by decide) rfl 7 (by decide) (hts _ (tw_c tw_116)) (pq_hv rfl hR_this_noBed) dX0_copyFrom_79 ?_
  refine pk_v (va_runSN (As := [.ref o_noBed, .ref this_noBed]) (rest := []) ⟨hx, hb, hml, hown, hts⟩ (c_X11_copy l D t σ I J ri_29 rj rq H.size o_noBed this_noBed 40 hL_o_noBed hK_o_noBed hN_o_noBed hL_this_noBed hK_this_noBed hN_this_noBed (by omega)) ⟨va_cnB (host := "RingsUnder") 2 hts (tw_W tw_1102) rfl rfl rfl (nl_15 hN) (hts _ (tw_c tw_2)) (by decide +kernel) ⟨Nat.le_of_ble_eq_true rfl, Nat.le_of_ble_eq_true rfl⟩, hts (.static yX11_copy) (by decide +kernel), trivial⟩ ⟨pq_blind, pq_pre hK hN hP hD⟩ rfl rfl hl.1 rfl (lv_room (Nat.le_of_ble_eq_true rfl)) dX0_copyFrom_82 ⟨Nat.le_of_ble_eq_true rfl, Nat.le_of_ble_eq_true rfl⟩) hD hS hA (fun σ1 μ1 H locs hw_33 hP hD hS => ?_)
  obtain ⟨ri_34, hu_35⟩ := hw_33
  obtain ⟨hu_35a, hu_35b⟩ := Prod.mk.inj hu_35
  rw [hu_35a, hu_35b] at hP hD
  refine lv_aload_n hx hb dX0_copyFrom_85 rfl (lv_at hl 1 rfl) ?_
  refine pg_f (v := .ref o_went) (C := RX0) (T := TX0) (N := 16) hx hb hts (tw_i inlX0) hown hK hP hL_o hK_o (by decide) rfl 8 (by decide) (hts _ (tw_c tw_117)) (pq_hv rfl hR_o_went) dX0_copyFrom_86 ?_
  refine lv_aload_n hx hb dX0_copyFrom_89 rfl (lv_at hl 0 rfl) ?_
  refine pg_f (v := .ref this_went) (C := RX0) (T := TX0) (N := 16) hx hb hts (tw_i inlX0) hown hK hP hL_this hK_this (by decide) rfl 8 (by decide) (hts _ (tw_c tw_117)) (pq_hv rfl hR_this_went) dX0_copyFrom_90 ?_
  refine pk_v (va_runSN (As := [.ref o_went, .ref this_went]) (rest := []) ⟨hx, hb, hml, hown, hts⟩ (c_X11_copy l D t σ I J ri_34 rj rq H.size o_went this_went 40 hL_o_went hK_o_went hN_o_went hL_this_went hK_this_went hN_this_went (by omega)) ⟨va_cnB (host := "RingsUnder") 2 hts (tw_W tw_1102) rfl rfl rfl (nl_15 hN) (hts _ (tw_c tw_2)) (by decide +kernel) ⟨Nat.le_of_ble_eq_true rfl, Nat.le_of_ble_eq_true rfl⟩, hts (.static yX11_copy) (by decide +kernel), trivial⟩ ⟨pq_blind, pq_pre hK hN hP hD⟩ rfl rfl hl.1 rfl (lv_room (Nat.le_of_ble_eq_true rfl)) dX0_copyFrom_93 ⟨Nat.le_of_ble_eq_true rfl, Nat.le_of_ble_eq_true rfl⟩) hD hS hA (fun σ1 μ1 H locs hw_38 hP hD hS => ?_)
  obtain ⟨ri_39, hu_40⟩ := hw_38
  obtain ⟨hu_40a, hu_40b⟩ := Prod.mk.inj hu_40
  rw [hu_40a, hu_40b] at hP hD
  refine lv_aload_n hx hb dX0_copyFrom_96 rfl (lv_at hl 1 rfl) ?_
  refine pg_f (v := .ref o_vote) (C := RX0) (T := TX0) (N := 16) hx hb hts (tw_i inlX0) hown hK hP hL_o hK_o (by decide) rfl 9 (by decide) (hts _ (tw_c tw_118)) (pq_hv rfl hR_o_vote) dX0_copyFrom_97 ?_
  refine lv_aload_n hx hb dX0_copyFrom_100 rfl (lv_at hl 0 rfl) ?_
  refine pg_f (v := .ref this_vote) (C := RX0) (T := TX0) (N := 16) hx hb hts (tw_i inlX0) hown hK hP hL_this hK_this (by decide) rfl 9 (by decide) (hts _ (tw_c tw_118)) (pq_hv rfl hR_this_vote) dX0_copyFrom_101 ?_
  refine pk_v (va_runSN (As := [.ref o_vote, .ref this_vote]) (rest := []) ⟨hx, hb, hml, hown, hts⟩ (c_X11_copy l D t σ I J ri_39 rj rq H.size o_vote this_vote 40 hL_o_vote hK_o_vote hN_o_vote hL_this_vote hK_this_vote hN_this_vote (by omega)) ⟨va_cnB (host := "RingsUnder") 2 hts (tw_W tw_1102) rfl rfl rfl (nl_15 hN) (hts _ (tw_c tw_2)) (by decide +kernel) ⟨Nat.le_of_ble_eq_true rfl, Nat.le_of_ble_eq_true rfl⟩, hts (.static yX11_copy) (by decide +kernel), trivial⟩ ⟨pq_blind, pq_pre hK hN hP hD⟩ rfl rfl hl.1 rfl (lv_room (Nat.le_of_ble_eq_true rfl)) dX0_copyFrom_104 ⟨Nat.le_of_ble_eq_true rfl, Nat.le_of_ble_eq_true rfl⟩) hD hS hA (fun σ1 μ1 H locs hw_43 hP hD hS => ?_)
  obtain ⟨ri_44, hu_45⟩ := hw_43
  obtain ⟨hu_45a, hu_45b⟩ := Prod.mk.inj hu_45
  rw [hu_45a, hu_45b] at hP hD
  refine lv_aload_n hx hb dX0_copyFrom_107 rfl (lv_at hl 0 rfl) ?_
  refine lv_aload_n hx hb dX0_copyFrom_108 rfl (lv_at hl 1 rfl) ?_
  refine pg_f (v := .int (I 10 o)) (C := RX0) (T := TX0) (N := 16) hx hb hts (tw_i inlX0) hown hK hP hL_o hK_o (by decide) rfl 10 (by decide) (hts _ (tw_c tw_1171)) rfl dX0_copyFrom_109 ?_
  refine lv_tov 0 (congrFun (hZ 10 (by decide)) o) ?_
  refine pp_i (v := 0) (ty := .int) (C := RX0) (T := TX0) (N := 16) hx hb hts (tw_i inlX0) tyX0 tyX0_ok nmX0 hown hK hP hD hS hL_this hK_this (by decide) rfl 10 10 (by decide) (hts _ (tw_c tw_1171)) rfl (by decide +kernel) rfl rfl (Nat.le_of_ble_eq_true rfl) (ps_10 _ _ _ _ _) dX0_copyFrom_112 (fun I_47 H locs eI_47 hP hD hS => ?_)
  have eI_47 : I_47 = I := by rw [eI_47]; exact pq_uc _ _ _ _ (hZ 10 (by decide))
  rw [eI_47] at hP hD
  refine lv_aload_n hx hb dX0_copyFrom_115 rfl (lv_at hl 1 rfl) ?_
  refine pg_f (v := .ref o_lotBeds) (C := RX0) (T := TX0) (N := 16) hx hb hts (tw_i inlX0) hown hK hP hL_o hK_o (by decide) rfl 11 (by decide) (hts _ (tw_c tw_119)) (pq_hv rfl hR_o_lotBeds) dX0_copyFrom_116 ?_
  refine lv_aload_n hx hb dX0_copyFrom_119 rfl (lv_at hl 0 rfl) ?_
  refine pg_f (v := .ref this_lotBeds) (C := RX0) (T := TX0) (N := 16) hx hb hts (tw_i inlX0) hown hK hP hL_this hK_this (by decide) rfl 11 (by decide) (hts _ (tw_c tw_119)) (pq_hv rfl hR_this_lotBeds) dX0_copyFrom_120 ?_
  refine pk_v (va_runSN (As := [.ref o_lotBeds, .ref this_lotBeds]) (rest := []) ⟨hx, hb, hml, hown, hts⟩ (c_X11_copy l D t σ I J ri_44 rj rq H.size o_lotBeds this_lotBeds 5 hL_o_lotBeds hK_o_lotBeds hN_o_lotBeds hL_this_lotBeds hK_this_lotBeds hN_this_lotBeds (by omega)) ⟨va_cnB (host := "RingsUnder") 2 hts (tw_W tw_1102) rfl rfl rfl (nl_15 hN) (hts _ (tw_c tw_2)) (by decide +kernel) ⟨Nat.le_of_ble_eq_true rfl, Nat.le_of_ble_eq_true rfl⟩, hts (.static yX11_copy) (by decide +kernel), trivial⟩ ⟨pq_blind, pq_pre hK hN hP hD⟩ rfl rfl hl.1 rfl (lv_room (Nat.le_of_ble_eq_true rfl)) dX0_copyFrom_123 ⟨Nat.le_of_ble_eq_true rfl, Nat.le_of_ble_eq_true rfl⟩) hD hS hA (fun σ1 μ1 H locs hw_49 hP hD hS => ?_)
  obtain ⟨ri_50, hu_51⟩ := hw_49
  obtain ⟨hu_51a, hu_51b⟩ := Prod.mk.inj hu_51
  rw [hu_51a, hu_51b] at hP hD
  exact W.vret hx hb hr (fun t1 ht hW => ⟨⟨(σ, I, J, ri_50, rj, rq), rfl, ⟨ri_50, rfl⟩, by rw [ht]; exact hP, va_K.moved hW.alike hK, hD⟩, hS.F ht⟩) hS.2.2 dX0_copyFrom_126

set_option maxHeartbeats 4000000 in
set_option maxRecDepth 100000 in
theorem c_X2_copyFrom (l : Launch) (D : va_G) (t : pq_T) (σ : pq_S) (I : Nat → Nat → Int32) (J : Nat → Nat → Int64) (ri : Nat → Nat → Int32) (rj : Nat → Nat → Int64) (rq : Nat → Nat → Option Nat) (sz : Nat) (this : Nat) (o : Nat) (hL_this : this ∈ σ.1) (hK_this : σ.2.1 this = 2) (hL_o : o ∈ σ.1) (hK_o : σ.2.1 o = 2) (o_rocks : Nat) (hR_o_rocks : σ.2.2.1 68 o = some o_rocks) (hL_o_rocks : o_rocks ∈ σ.1) (hK_o_rocks : σ.2.1 o_rocks = 14) (hN_o_rocks : σ.2.2.2 o_rocks = 600) (this_rocks : Nat) (hR_this_rocks : σ.2.2.1 68 this = some this_rocks) (hL_this_rocks : this_rocks ∈ σ.1) (hK_this_rocks : σ.2.1 this_rocks = 14) (hN_this_rocks : σ.2.2.2 this_rocks = 600) (o_ring : Nat) (hR_o_ring : σ.2.2.1 69 o = some o_ring) (hL_o_ring : o_ring ∈ σ.1) (hK_o_ring : σ.2.1 o_ring = 13) (hN_o_ring : σ.2.2.2 o_ring = 40) (this_ring : Nat) (hR_this_ring : σ.2.2.1 69 this = some this_ring) (hL_this_ring : this_ring ∈ σ.1) (hK_this_ring : σ.2.1 this_ring = 13) (hN_this_ring : σ.2.2.2 this_ring = 40) (o_height : Nat) (hR_o_height : σ.2.2.1 70 o = some o_height) (hL_o_height : o_height ∈ σ.1) (hK_o_height : σ.2.1 o_height = 13) (hN_o_height : σ.2.2.2 o_height = 40) (this_height : Nat) (hR_this_height : σ.2.2.1 70 this = some this_height) (hL_this_height : this_height ∈ σ.1) (hK_this_height : σ.2.1 this_height = 13) (hN_this_height : σ.2.2.2 this_height = 40) (o_x : Nat) (hR_o_x : σ.2.2.1 71 o = some o_x) (hL_o_x : o_x ∈ σ.1) (hK_o_x : σ.2.1 o_x = 13) (hN_o_x : σ.2.2.2 o_x = 40) (this_x : Nat) (hR_this_x : σ.2.2.1 71 this = some this_x) (hL_this_x : this_x ∈ σ.1) (hK_this_x : σ.2.1 this_x = 13) (hN_this_x : σ.2.2.2 this_x = 40) (o_y : Nat) (hR_o_y : σ.2.2.1 72 o = some o_y) (hL_o_y : o_y ∈ σ.1) (hK_o_y : σ.2.1 o_y = 13) (hN_o_y : σ.2.2.2 o_y = 40) (this_y : Nat) (hR_this_y : σ.2.2.1 72 this = some this_y) (hL_this_y : this_y ∈ σ.1) (hK_this_y : σ.2.1 this_y = 13) (hN_this_y : σ.2.2.2 this_y = 40) (o_sand : Nat) (hR_o_sand : σ.2.2.1 73 o = some o_sand) (hL_o_sand : o_sand ∈ σ.1) (hK_o_sand : σ.2.1 o_sand = 13) (hN_o_sand : σ.2.2.2 o_sand = 40) (this_sand : Nat) (hR_this_sand : σ.2.2.1 73 this = some this_sand) (hL_this_sand : this_sand ∈ σ.1) (hK_this_sand : σ.2.1 this_sand = 13) (hN_this_sand : σ.2.2.2 this_sand = 40) (o_reef : Nat) (hR_o_reef : σ.2.2.1 74 o = some o_reef) (hL_o_reef : o_reef ∈ σ.1) (hK_o_reef : σ.2.1 o_reef = 13) (hN_o_reef : σ.2.2.2 o_reef = 40) (this_reef : Nat) (hR_this_reef : σ.2.2.1 74 this = some this_reef) (hL_this_reef : this_reef ∈ σ.1) (hK_this_reef : σ.2.1 this_reef = 13) (hN_this_reef : σ.2.2.2 this_reef = 40) (o_wall : Nat) (hR_o_wall : σ.2.2.1 75 o = some o_wall) (hL_o_wall : o_wall ∈ σ.1) (hK_o_wall : σ.2.1 o_wall = 13) (hN_o_wall : σ.2.2.2 o_wall = 40) (this_wall : Nat) (hR_this_wall : σ.2.2.1 75 this = some this_wall) (hL_this_wall : this_wall ∈ σ.1) (hK_this_wall : σ.2.1 this_wall = 13) (hN_this_wall : σ.2.2.2 this_wall = 40) (o_beds : Nat) (hR_o_beds : σ.2.2.1 76 o = some o_beds) (hL_o_beds : o_beds ∈ σ.1) (hK_o_beds : σ.2.1 o_beds = 13) (hN_o_beds : σ.2.2.2 o_beds = 40) (this_beds : Nat) (hR_this_beds : σ.2.2.1 76 this = some this_beds) (hL_this_beds : this_beds ∈ σ.1) (hK_this_beds : σ.2.1 this_beds = 13) (hN_this_beds : σ.2.2.2 this_beds = 40) (o_under : Nat) (hR_o_under : σ.2.2.1 77 o = some o_under) (hL_o_under : o_under ∈ σ.1) (hK_o_under : σ.2.1 o_under = 13) (hN_o_under : σ.2.2.2 o_under = 40) (this_under : Nat) (hR_this_under : σ.2.2.1 77 this = some this_under) (hL_this_under : this_under ∈ σ.1) (hK_this_under : σ.2.1 this_under = 13) (hN_this_under : σ.2.2.2 this_under = 40) (this_wells : Nat) (hR_this_wells : σ.2.2.1 78 this = some this_wells) (hL_this_wells : this_wells ∈ σ.1) (hK_this_wells : σ.2.1 this_wells = 9) (o_wells : Nat) (hR_o_wells : σ.2.2.1 78 o = some o_wells) (hL_o_wells : o_wells ∈ σ.1) (hK_o_wells : σ.2.1 o_wells = 9) (o_wells_gathers : Nat) (hR_o_wells_gathers : σ.2.2.1 288 o_wells = some o_wells_gathers) (hL_o_wells_gathers : o_wells_gathers ∈ σ.1) (hK_o_wells_gathers : σ.2.1 o_wells_gathers = 13) (hN_o_wells_gathers : σ.2.2.2 o_wells_gathers = 40) (this_wells_gathers : Nat) (hR_this_wells_gathers : σ.2.2.1 288 this_wells = some this_wells_gathers) (hL_this_wells_gathers : this_wells_gathers ∈ σ.1) (hK_this_wells_gathers : σ.2.1 this_wells_gathers = 13) (hN_this_wells_gathers : σ.2.2.2 this_wells_gathers = 40) (o_wells_lens : Nat) (hR_o_wells_lens : σ.2.2.1 289 o_wells = some o_wells_lens) (hL_o_wells_lens : o_wells_lens ∈ σ.1) (hK_o_wells_lens : σ.2.1 o_wells_lens = 13) (hN_o_wells_lens : σ.2.2.2 o_wells_lens = 40) (this_wells_lens : Nat) (hR_this_wells_lens : σ.2.2.1 289 this_wells = some this_wells_lens) (hL_this_wells_lens : this_wells_lens ∈ σ.1) (hK_this_wells_lens : σ.2.1 this_wells_lens = 13) (hN_this_wells_lens : σ.2.2.2 this_wells_lens = 40) (o_wells_salt : Nat) (hR_o_wells_salt : σ.2.2.1 290 o_wells = some o_wells_salt) (hL_o_wells_salt : o_wells_salt ∈ σ.1) (hK_o_wells_salt : σ.2.1 o_wells_salt = 13) (hN_o_wells_salt : σ.2.2.2 o_wells_salt = 40) (this_wells_salt : Nat) (hR_this_wells_salt : σ.2.2.1 290 this_wells = some this_wells_salt) (hL_this_wells_salt : this_wells_salt ∈ σ.1) (hK_this_wells_salt : σ.2.1 this_wells_salt = 13) (hN_this_wells_salt : σ.2.2.2 this_wells_salt = 40) (o_next : Nat) (hR_o_next : σ.2.2.1 79 o = some o_next) (hL_o_next : o_next ∈ σ.1) (hK_o_next : σ.2.1 o_next = 13) (hN_o_next : σ.2.2.2 o_next = 40) (this_next : Nat) (hR_this_next : σ.2.2.1 79 this = some this_next) (hL_this_next : this_next ∈ σ.1) (hK_this_next : σ.2.1 this_next = 13) (hN_this_next : σ.2.2.2 this_next = 40) (o_first : Nat) (hR_o_first : σ.2.2.1 80 o = some o_first) (hL_o_first : o_first ∈ σ.1) (hK_o_first : σ.2.1 o_first = 13) (hN_o_first : σ.2.2.2 o_first = 5) (this_first : Nat) (hR_this_first : σ.2.2.1 80 this = some this_first) (hL_this_first : this_first ∈ σ.1) (hK_this_first : σ.2.1 this_first = 13) (hN_this_first : σ.2.2.2 this_first = 5) (hZ : pq_Z I) : MetV l yX2_copyFrom (wa yX2_copyFrom cX2_copyFrom 2 none) ({ frames := 3, cells := 0, slots := 0, locals := 102 }) [.ref this, .ref o] D t σ (I, J, ri, rj, rq) sz 0 0 (fun (u : pq_S × pq_M) => ∃ J' : Nat → Nat → Int64, ∃ ri' : Nat → Nat → Int32, ∃ rj' : Nat → Nat → Int64, u = (σ, I, J', ri', rj', rq)) := by
  refine Met.ofW (cc := cX2_copyFrom) (maxL := 2) (ret := none) (by decide) rfl ?_
  intro p e s m args below meth c s₁ B hml hv
  obtain ⟨rfl, hsz, hP, hK, hD0, hN⟩ := hv
  have hx := B.exec
  have hb := B.bytes
  have hr := B.returns
  have hts := atoms_spec (ws := (wa yX2_copyFrom cX2_copyFrom 2 none)) B.pre
  have hown : s.vm.findClass RX2 = some m.cls := findClass_of_methodNamed B.named
  have hlocks := B.notSynchronized
  subst hsz
  have hD : va_D (pq_B t σ (I, J, ri, rj, rq) s.heap.size) (pq_P t σ (I, J, ri, rj, rq)) := hD0.self
  generalize hAe : pq_B t σ (I, J, ri, rj, rq) s.heap.size = A at hD ⊢
  have hA : ∀ q : Nat, s.heap.size ≤ q → A q := fun q h => by rw [← hAe]; exact Or.inr h
  have hS : va_S A s.heap s.heap [] := va_S.rf
  have hl := lv_entry ([.ref this, .ref o]) (n := 2) (Nat.le_of_ble_eq_true rfl)
  rw [lg_entry_eq]
  generalize (lg_sl ([.ref this, .ref o]) ++ List.replicate (2 - (lg_sl ([.ref this, .ref o])).length) Slot.unset).toArray = ls at hl ⊢
  have hl : lv_has ls 2 [(0, .ref this), (1, .ref o)] := hl
  refine lv_aload_n hx hb dX2_copyFrom_0 rfl (lv_at hl 0 rfl) ?_
  refine lv_aload_n hx hb dX2_copyFrom_1 rfl (lv_at hl 1 rfl) ?_
  refine pg_f (v := .int (I 64 o)) (C := RX2) (T := TX2) (N := 20) hx hb hts (tw_i inlX2) hown hK hP hL_o hK_o (by decide) rfl 0 (by decide) (hts _ (tw_c tw_1374)) rfl dX2_copyFrom_2 ?_
  refine lv_tov 0 (congrFun (hZ 64 (by decide)) o) ?_
  refine pp_i (v := 0) (ty := .int) (C := RX2) (T := TX2) (N := 20) hx hb hts (tw_i inlX2) tyX2 tyX2_ok nmX2 hown hK hP hD hS hL_this hK_this (by decide) rfl 0 64 (by decide) (hts _ (tw_c tw_1374)) rfl (by decide +kernel) rfl rfl (Nat.le_of_ble_eq_true rfl) (ps_64 _ _ _ _ _) dX2_copyFrom_5 (fun I_1 H locs eI_1 hP hD hS => ?_)
  have eI_1 : I_1 = I := by rw [eI_1]; exact pq_uc _ _ _ _ (hZ 64 (by decide))
  rw [eI_1] at hP hD
  refine lv_aload_n hx hb dX2_copyFrom_8 rfl (lv_at hl 0 rfl) ?_
  refine lv_aload_n hx hb dX2_copyFrom_9 rfl (lv_at hl 1 rfl) ?_
  refine pg_f (v := .int (I 65 o)) (C := RX2) (T := TX2) (N := 20) hx hb hts (tw_i inlX2) hown hK hP hL_o hK_o (by decide) rfl 1 (by decide) (hts _ (tw_c tw_222)) rfl dX2_copyFrom_10 ?_
  refine lv_tov 0 (congrFun (hZ 65 (by decide)) o) ?_
  refine pp_i (v := 0) (ty := .int) (C := RX2) (T := TX2) (N := 20) hx hb hts (tw_i inlX2) tyX2 tyX2_ok nmX2 hown hK hP hD hS hL_this hK_this (by decide) rfl 1 65 (by decide) (hts _ (tw_c tw_222)) rfl (by decide +kernel) rfl rfl (Nat.le_of_ble_eq_true rfl) (ps_65 _ _ _ _ _) dX2_copyFrom_13 (fun I_2 H locs eI_2 hP hD hS => ?_)
  have eI_2 : I_2 = I := by rw [eI_2]; exact pq_uc _ _ _ _ (hZ 65 (by decide))
  rw [eI_2] at hP hD
  refine lv_aload_n hx hb dX2_copyFrom_16 rfl (lv_at hl 0 rfl) ?_
  refine lv_aload_n hx hb dX2_copyFrom_17 rfl (lv_at hl 1 rfl) ?_
  refine pg_f (v := .int (I 66 o)) (C := RX2) (T := TX2) (N := 20) hx hb hts (tw_i inlX2) hown hK hP hL_o hK_o (by decide) rfl 2 (by decide) (hts _ (tw_c tw_1069)) rfl dX2_copyFrom_18 ?_
  refine lv_tov 0 (congrFun (hZ 66 (by decide)) o) ?_
  refine pp_i (v := 0) (ty := .int) (C := RX2) (T := TX2) (N := 20) hx hb hts (tw_i inlX2) tyX2 tyX2_ok nmX2 hown hK hP hD hS hL_this hK_this (by decide) rfl 2 66 (by decide) (hts _ (tw_c tw_1069)) rfl (by decide +kernel) rfl rfl (Nat.le_of_ble_eq_true rfl) (ps_66 _ _ _ _ _) dX2_copyFrom_21 (fun I_3 H locs eI_3 hP hD hS => ?_)
  have eI_3 : I_3 = I := by rw [eI_3]; exact pq_uc _ _ _ _ (hZ 66 (by decide))
  rw [eI_3] at hP hD
  refine lv_aload_n hx hb dX2_copyFrom_24 rfl (lv_at hl 0 rfl) ?_
  refine lv_aload_n hx hb dX2_copyFrom_25 rfl (lv_at hl 1 rfl) ?_
  refine pg_f (v := .long (J 67 o)) (C := RX2) (T := TX2) (N := 20) hx hb hts (tw_i inlX2) hown hK hP hL_o hK_o (by decide) rfl 3 (by decide) (hts _ (tw_c tw_558)) rfl dX2_copyFrom_26 ?_
  refine pp_l (v := (J 67 o)) (C := RX2) (T := TX2) (N := 20) hx hb hts (tw_i inlX2) tyX2 tyX2_ok nmX2 hown hK hP hD hS hL_this hK_this (by decide) rfl 3 67 (by decide) (hts _ (tw_c tw_558)) rfl (by decide +kernel) (Nat.le_of_ble_eq_true rfl) (ps_67 _ _ _ _ _) dX2_copyFrom_29 (fun J_4 H locs eJ_4 hP hD hS => ?_)
  refine lv_aload_n hx hb dX2_copyFrom_32 rfl (lv_at hl 1 rfl) ?_
  refine pg_f (v := .ref o_rocks) (C := RX2) (T := TX2) (N := 20) hx hb hts (tw_i inlX2) hown hK hP hL_o hK_o (by decide) rfl 4 (by decide) (hts _ (tw_c tw_82)) (pq_hv rfl hR_o_rocks) dX2_copyFrom_33 ?_
  refine lv_iconst (v := 0) hx hb dX2_copyFrom_36 (by decide) ?_
  refine lv_aload_n hx hb dX2_copyFrom_37 rfl (lv_at hl 0 rfl) ?_
  refine pg_f (v := .ref this_rocks) (C := RX2) (T := TX2) (N := 20) hx hb hts (tw_i inlX2) hown hK hP hL_this hK_this (by decide) rfl 4 (by decide) (hts _ (tw_c tw_82)) (pq_hv rfl hR_this_rocks) dX2_copyFrom_38 ?_
  refine lv_iconst (v := 0) hx hb dX2_copyFrom_41 (by decide) ?_
  refine lv_sipush (v := 600) hx hb dX2_copyFrom_42 (by decide) ?_
  refine pc_l hx hb (hml.trans hl.1.symm) hown (hts _ (tw_c tw_1375)) (hts _ (tw_c tw_1105)) (hts _ (tw_c tw_1106)) (hts _ (tw_c tw_1107)) hK hP hD hS hL_o_rocks hK_o_rocks hN_o_rocks hL_this_rocks hK_this_rocks hN_this_rocks (by decide) (by decide) (by decide) (by decide) (Nat.le_of_ble_eq_true rfl) (Nat.le_of_ble_eq_true rfl) dX2_copyFrom_45 (fun r_5 H locs er_5 hP hD hS => ?_)
  refine lv_aload_n hx hb dX2_copyFrom_48 rfl (lv_at hl 1 rfl) ?_
  refine pg_f (v := .ref o_ring) (C := RX2) (T := TX2) (N := 20) hx hb hts (tw_i inlX2) hown hK hP hL_o hK_o (by decide) rfl 5 (by decide) (hts _ (tw_c tw_83)) (pq_hv rfl hR_o_ring) dX2_copyFrom_49 ?_
  refine lv_aload_n hx hb dX2_copyFrom_52 rfl (lv_at hl 0 rfl) ?_
  refine pg_f (v := .ref this_ring) (C := RX2) (T := TX2) (N := 20) hx hb hts (tw_i inlX2) hown hK hP hL_this hK_this (by decide) rfl 5 (by decide) (hts _ (tw_c tw_83)) (pq_hv rfl hR_this_ring) dX2_copyFrom_53 ?_
  refine pk_v (va_runSN (As := [.ref o_ring, .ref this_ring]) (rest := []) ⟨hx, hb, hml, hown, hts⟩ (c_X11_copy l D t σ I J_4 ri r_5 rq H.size o_ring this_ring 40 hL_o_ring hK_o_ring hN_o_ring hL_this_ring hK_this_ring hN_this_ring (by omega)) ⟨va_cnB (host := "RingsUnder") 2 hts (tw_W tw_1102) rfl rfl rfl (nl_19 hN) (hts _ (tw_c tw_2)) (by decide +kernel) ⟨Nat.le_of_ble_eq_true rfl, Nat.le_of_ble_eq_true rfl⟩, hts (.static yX11_copy) (by decide +kernel), trivial⟩ ⟨pq_blind, pq_pre hK hN hP hD⟩ rfl rfl hl.1 rfl (lv_room (Nat.le_of_ble_eq_true rfl)) dX2_copyFrom_56 ⟨Nat.le_of_ble_eq_true rfl, Nat.le_of_ble_eq_true rfl⟩) hD hS hA (fun σ1 μ1 H locs hw_7 hP hD hS => ?_)
  obtain ⟨ri_8, hu_9⟩ := hw_7
  obtain ⟨hu_9a, hu_9b⟩ := Prod.mk.inj hu_9
  rw [hu_9a, hu_9b] at hP hD
  refine lv_aload_n hx hb dX2_copyFrom_59 rfl (lv_at hl 1 rfl) ?_
  refine pg_f (v := .ref o_height) (C := RX2) (T := TX2) (N := 20) hx hb hts (tw_i inlX2) hown hK hP hL_o hK_o (by decide) rfl 6 (by decide) (hts _ (tw_c tw_84)) (pq_hv rfl hR_o_height) dX2_copyFrom_60 ?_
  refine lv_aload_n hx hb dX2_copyFrom_63 rfl (lv_at hl 0 rfl) ?_
  refine pg_f (v := .ref this_height) (C := RX2) (T := TX2) (N := 20) hx hb hts (tw_i inlX2) hown hK hP hL_this hK_this (by decide) rfl 6 (by decide) (hts _ (tw_c tw_84)) (pq_hv rfl hR_this_height) dX2_copyFrom_64 ?_
  refine pk_v (va_runSN (As := [.ref o_height, .ref this_height]) (rest := []) ⟨hx, hb, hml, hown, hts⟩ (c_X11_copy l D t σ I J_4 ri_8 r_5 rq H.size o_height this_height 40 hL_o_height hK_o_height hN_o_height hL_this_height hK_this_height hN_this_height (by omega)) ⟨va_cnB (host := "RingsUnder") 2 hts (tw_W tw_1102) rfl rfl rfl (nl_19 hN) (hts _ (tw_c tw_2)) (by decide +kernel) ⟨Nat.le_of_ble_eq_true rfl, Nat.le_of_ble_eq_true rfl⟩, hts (.static yX11_copy) (by decide +kernel), trivial⟩ ⟨pq_blind, pq_pre hK hN hP hD⟩ rfl rfl hl.1 rfl (lv_room (Nat.le_of_ble_eq_true rfl)) dX2_copyFrom_67 ⟨Nat.le_of_ble_eq_true rfl, Nat.le_of_ble_eq_true rfl⟩) hD hS hA (fun σ1 μ1 H locs hw_12 hP hD hS => ?_)
  obtain ⟨ri_13, hu_14⟩ := hw_12
  obtain ⟨hu_14a, hu_14b⟩ := Prod.mk.inj hu_14
  rw [hu_14a, hu_14b] at hP hD
  refine lv_aload_n hx hb dX2_copyFrom_70 rfl (lv_at hl 1 rfl) ?_
  refine pg_f (v := .ref o_x) (C := RX2) (T := TX2) (N := 20) hx hb hts (tw_i inlX2) hown hK hP hL_o hK_o (by decide) rfl 7 (by decide) (hts _ (tw_c tw_85)) (pq_hv rfl hR_o_x) dX2_copyFrom_71 ?_
  refine lv_aload_n hx hb dX2_copyFrom_74 rfl (lv_at hl 0 rfl) ?_
  refine pg_f (v := .ref this_x) (C := RX2) (T := TX2) (N := 20) hx hb hts (tw_i inlX2) hown hK hP hL_this hK_this (by decide) rfl 7 (by decide) (hts _ (tw_c tw_85)) (pq_hv rfl hR_this_x) dX2_copyFrom_75 ?_
  refine pk_v (va_runSN (As := [.ref o_x, .ref this_x]) (rest := []) ⟨hx, hb, hml, hown, hts⟩ (c_X11_copy l D t σ I J_4 ri_13 r_5 rq H.size o_x this_x 40 hL_o_x hK_o_x hN_o_x hL_this_x hK_this_x hN_this_x (by omega)) ⟨va_cnB (host := "RingsUnder") 2 hts (tw_W tw_1102) rfl rfl rfl (nl_19 hN) (hts _ (tw_c tw_2)) (by decide +kernel) ⟨Nat.le_of_ble_eq_true rfl, Nat.le_of_ble_eq_true rfl⟩, hts (.static yX11_copy) (by decide +kernel), trivial⟩ ⟨pq_blind, pq_pre hK hN hP hD⟩ rfl rfl hl.1 rfl (lv_room (Nat.le_of_ble_eq_true rfl)) dX2_copyFrom_78 ⟨Nat.le_of_ble_eq_true rfl, Nat.le_of_ble_eq_true rfl⟩) hD hS hA (fun σ1 μ1 H locs hw_17 hP hD hS => ?_)
  obtain ⟨ri_18, hu_19⟩ := hw_17
  obtain ⟨hu_19a, hu_19b⟩ := Prod.mk.inj hu_19
  rw [hu_19a, hu_19b] at hP hD
  refine lv_aload_n hx hb dX2_copyFrom_81 rfl (lv_at hl 1 rfl) ?_
  refine pg_f (v := .ref o_y) (C := RX2) (T := TX2) (N := 20) hx hb hts (tw_i inlX2) hown hK hP hL_o hK_o (by decide) rfl 8 (by decide) (hts _ (tw_c tw_86)) (pq_hv rfl hR_o_y) dX2_copyFrom_82 ?_
  refine lv_aload_n hx hb dX2_copyFrom_85 rfl (lv_at hl 0 rfl) ?_
  refine pg_f (v := .ref this_y) (C := RX2) (T := TX2) (N := 20) hx hb hts (tw_i inlX2) hown hK hP hL_this hK_this (by decide) rfl 8 (by decide) (hts _ (tw_c tw_86)) (pq_hv rfl hR_this_y) dX2_copyFrom_86 ?_
  refine pk_v (va_runSN (As := [.ref o_y, .ref this_y]) (rest := []) ⟨hx, hb, hml, hown, hts⟩ (c_X11_copy l D t σ I J_4 ri_18 r_5 rq H.size o_y this_y 40 hL_o_y hK_o_y hN_o_y hL_this_y hK_this_y hN_this_y (by omega)) ⟨va_cnB (host := "RingsUnder") 2 hts (tw_W tw_1102) rfl rfl rfl (nl_19 hN) (hts _ (tw_c tw_2)) (by decide +kernel) ⟨Nat.le_of_ble_eq_true rfl, Nat.le_of_ble_eq_true rfl⟩, hts (.static yX11_copy) (by decide +kernel), trivial⟩ ⟨pq_blind, pq_pre hK hN hP hD⟩ rfl rfl hl.1 rfl (lv_room (Nat.le_of_ble_eq_true rfl)) dX2_copyFrom_89 ⟨Nat.le_of_ble_eq_true rfl, Nat.le_of_ble_eq_true rfl⟩) hD hS hA (fun σ1 μ1 H locs hw_22 hP hD hS => ?_)
  obtain ⟨ri_23, hu_24⟩ := hw_22
  obtain ⟨hu_24a, hu_24b⟩ := Prod.mk.inj hu_24
  rw [hu_24a, hu_24b] at hP hD
  refine lv_aload_n hx hb dX2_copyFrom_92 rfl (lv_at hl 1 rfl) ?_
  refine pg_f (v := .ref o_sand) (C := RX2) (T := TX2) (N := 20) hx hb hts (tw_i inlX2) hown hK hP hL_o hK_o (by decide) rfl 9 (by decide) (hts _ (tw_c tw_87)) (pq_hv rfl hR_o_sand) dX2_copyFrom_93 ?_
  refine lv_aload_n hx hb dX2_copyFrom_96 rfl (lv_at hl 0 rfl) ?_
  refine pg_f (v := .ref this_sand) (C := RX2) (T := TX2) (N := 20) hx hb hts (tw_i inlX2) hown hK hP hL_this hK_this (by decide) rfl 9 (by decide) (hts _ (tw_c tw_87)) (pq_hv rfl hR_this_sand) dX2_copyFrom_97 ?_
  refine pk_v (va_runSN (As := [.ref o_sand, .ref this_sand]) (rest := []) ⟨hx, hb, hml, hown, hts⟩ (c_X11_copy l D t σ I J_4 ri_23 r_5 rq H.size o_sand this_sand 40 hL_o_sand hK_o_sand hN_o_sand hL_this_sand hK_this_sand hN_this_sand (by omega)) ⟨va_cnB (host := "RingsUnder") 2 hts (tw_W tw_1102) rfl rfl rfl (nl_19 hN) (hts _ (tw_c tw_2)) (by decide +kernel) ⟨Nat.le_of_ble_eq_true rfl, Nat.le_of_ble_eq_true rfl⟩, hts (.static yX11_copy) (by decide +kernel), trivial⟩ ⟨pq_blind, pq_pre hK hN hP hD⟩ rfl rfl hl.1 rfl (lv_room (Nat.le_of_ble_eq_true rfl)) dX2_copyFrom_100 ⟨Nat.le_of_ble_eq_true rfl, Nat.le_of_ble_eq_true rfl⟩) hD hS hA (fun σ1 μ1 H locs hw_27 hP hD hS => ?_)
  obtain ⟨ri_28, hu_29⟩ := hw_27
  obtain ⟨hu_29a, hu_29b⟩ := Prod.mk.inj hu_29
  rw [hu_29a, hu_29b] at hP hD
  refine lv_aload_n hx hb dX2_copyFrom_103 rfl (lv_at hl 1 rfl) ?_
  refine pg_f (v := .ref o_reef) (C := RX2) (T := TX2) (N := 20) hx hb hts (tw_i inlX2) hown hK hP hL_o hK_o (by decide) rfl 10 (by decide) (hts _ (tw_c tw_88)) (pq_hv rfl hR_o_reef) dX2_copyFrom_104 ?_
  refine lv_aload_n hx hb dX2_copyFrom_107 rfl (lv_at hl 0 rfl) ?_
  refine pg_f (v := .ref this_reef) (C := RX2) (T := TX2) (N := 20) hx hb hts (tw_i inlX2) hown hK hP hL_this hK_this (by decide) rfl 10 (by decide) (hts _ (tw_c tw_88)) (pq_hv rfl hR_this_reef) dX2_copyFrom_108 ?_
  refine pk_v (va_runSN (As := [.ref o_reef, .ref this_reef]) (rest := []) ⟨hx, hb, hml, hown, hts⟩ (c_X11_copy l D t σ I J_4 ri_28 r_5 rq H.size o_reef this_reef 40 hL_o_reef hK_o_reef hN_o_reef hL_this_reef hK_this_reef hN_this_reef (by omega)) ⟨va_cnB (host := "RingsUnder") 2 hts (tw_W tw_1102) rfl rfl rfl (nl_19 hN) (hts _ (tw_c tw_2)) (by decide +kernel) ⟨Nat.le_of_ble_eq_true rfl, Nat.le_of_ble_eq_true rfl⟩, hts (.static yX11_copy) (by decide +kernel), trivial⟩ ⟨pq_blind, pq_pre hK hN hP hD⟩ rfl rfl hl.1 rfl (lv_room (Nat.le_of_ble_eq_true rfl)) dX2_copyFrom_111 ⟨Nat.le_of_ble_eq_true rfl, Nat.le_of_ble_eq_true rfl⟩) hD hS hA (fun σ1 μ1 H locs hw_32 hP hD hS => ?_)
  obtain ⟨ri_33, hu_34⟩ := hw_32
  obtain ⟨hu_34a, hu_34b⟩ := Prod.mk.inj hu_34
  rw [hu_34a, hu_34b] at hP hD
  refine lv_aload_n hx hb dX2_copyFrom_114 rfl (lv_at hl 1 rfl) ?_
  refine pg_f (v := .ref o_wall) (C := RX2) (T := TX2) (N := 20) hx hb hts (tw_i inlX2) hown hK hP hL_o hK_o (by decide) rfl 11 (by decide) (hts _ (tw_c tw_89)) (pq_hv rfl hR_o_wall) dX2_copyFrom_115 ?_
  refine lv_aload_n hx hb dX2_copyFrom_118 rfl (lv_at hl 0 rfl) ?_
  refine pg_f (v := .ref this_wall) (C := RX2) (T := TX2) (N := 20) hx hb hts (tw_i inlX2) hown hK hP hL_this hK_this (by decide) rfl 11 (by decide) (hts _ (tw_c tw_89)) (pq_hv rfl hR_this_wall) dX2_copyFrom_119 ?_
  refine pk_v (va_runSN (As := [.ref o_wall, .ref this_wall]) (rest := []) ⟨hx, hb, hml, hown, hts⟩ (c_X11_copy l D t σ I J_4 ri_33 r_5 rq H.size o_wall this_wall 40 hL_o_wall hK_o_wall hN_o_wall hL_this_wall hK_this_wall hN_this_wall (by omega)) ⟨va_cnB (host := "RingsUnder") 2 hts (tw_W tw_1102) rfl rfl rfl (nl_19 hN) (hts _ (tw_c tw_2)) (by decide +kernel) ⟨Nat.le_of_ble_eq_true rfl, Nat.le_of_ble_eq_true rfl⟩, hts (.static yX11_copy) (by decide +kernel), trivial⟩ ⟨pq_blind, pq_pre hK hN hP hD⟩ rfl rfl hl.1 rfl (lv_room (Nat.le_of_ble_eq_true rfl)) dX2_copyFrom_122 ⟨Nat.le_of_ble_eq_true rfl, Nat.le_of_ble_eq_true rfl⟩) hD hS hA (fun σ1 μ1 H locs hw_37 hP hD hS => ?_)
  obtain ⟨ri_38, hu_39⟩ := hw_37
  obtain ⟨hu_39a, hu_39b⟩ := Prod.mk.inj hu_39
  rw [hu_39a, hu_39b] at hP hD
  refine lv_aload_n hx hb dX2_copyFrom_125 rfl (lv_at hl 1 rfl) ?_
  refine pg_f (v := .ref o_beds) (C := RX2) (T := TX2) (N := 20) hx hb hts (tw_i inlX2) hown hK hP hL_o hK_o (by decide) rfl 12 (by decide) (hts _ (tw_c tw_90)) (pq_hv rfl hR_o_beds) dX2_copyFrom_126 ?_
  refine lv_aload_n hx hb dX2_copyFrom_129 rfl (lv_at hl 0 rfl) ?_
  refine pg_f (v := .ref this_beds) (C := RX2) (T := TX2) (N := 20) hx hb hts (tw_i inlX2) hown hK hP hL_this hK_this (by decide) rfl 12 (by decide) (hts _ (tw_c tw_90)) (pq_hv rfl hR_this_beds) dX2_copyFrom_130 ?_
  refine pk_v (va_runSN (As := [.ref o_beds, .ref this_beds]) (rest := []) ⟨hx, hb, hml, hown, hts⟩ (c_X11_copy l D t σ I J_4 ri_38 r_5 rq H.size o_beds this_beds 40 hL_o_beds hK_o_beds hN_o_beds hL_this_beds hK_this_beds hN_this_beds (by omega)) ⟨va_cnB (host := "RingsUnder") 2 hts (tw_W tw_1102) rfl rfl rfl (nl_19 hN) (hts _ (tw_c tw_2)) (by decide +kernel) ⟨Nat.le_of_ble_eq_true rfl, Nat.le_of_ble_eq_true rfl⟩, hts (.static yX11_copy) (by decide +kernel), trivial⟩ ⟨pq_blind, pq_pre hK hN hP hD⟩ rfl rfl hl.1 rfl (lv_room (Nat.le_of_ble_eq_true rfl)) dX2_copyFrom_133 ⟨Nat.le_of_ble_eq_true rfl, Nat.le_of_ble_eq_true rfl⟩) hD hS hA (fun σ1 μ1 H locs hw_42 hP hD hS => ?_)
  obtain ⟨ri_43, hu_44⟩ := hw_42
  obtain ⟨hu_44a, hu_44b⟩ := Prod.mk.inj hu_44
  rw [hu_44a, hu_44b] at hP hD
  refine lv_aload_n hx hb dX2_copyFrom_136 rfl (lv_at hl 1 rfl) ?_
  refine pg_f (v := .ref o_under) (C := RX2) (T := TX2) (N := 20) hx hb hts (tw_i inlX2) hown hK hP hL_o hK_o (by decide) rfl 13 (by decide) (hts _ (tw_c tw_91)) (pq_hv rfl hR_o_under) dX2_copyFrom_137 ?_
  refine lv_aload_n hx hb dX2_copyFrom_140 rfl (lv_at hl 0 rfl) ?_
  refine pg_f (v := .ref this_under) (C := RX2) (T := TX2) (N := 20) hx hb hts (tw_i inlX2) hown hK hP hL_this hK_this (by decide) rfl 13 (by decide) (hts _ (tw_c tw_91)) (pq_hv rfl hR_this_under) dX2_copyFrom_141 ?_
  refine pk_v (va_runSN (As := [.ref o_under, .ref this_under]) (rest := []) ⟨hx, hb, hml, hown, hts⟩ (c_X11_copy l D t σ I J_4 ri_43 r_5 rq H.size o_under this_under 40 hL_o_under hK_o_under hN_o_under hL_this_under hK_this_under hN_this_under (by omega)) ⟨va_cnB (host := "RingsUnder") 2 hts (tw_W tw_1102) rfl rfl rfl (nl_19 hN) (hts _ (tw_c tw_2)) (by decide +kernel) ⟨Nat.le_of_ble_eq_true rfl, Nat.le_of_ble_eq_true rfl⟩, hts (.static yX11_copy) (by decide +kernel), trivial⟩ ⟨pq_blind, pq_pre hK hN hP hD⟩ rfl rfl hl.1 rfl (lv_room (Nat.le_of_ble_eq_true rfl)) dX2_copyFrom_144 ⟨Nat.le_of_ble_eq_true rfl, Nat.le_of_ble_eq_true rfl⟩) hD hS hA (fun σ1 μ1 H locs hw_47 hP hD hS => ?_)
  obtain ⟨ri_48, hu_49⟩ := hw_47
  obtain ⟨hu_49a, hu_49b⟩ := Prod.mk.inj hu_49
  rw [hu_49a, hu_49b] at hP hD
  refine lv_aload_n hx hb dX2_copyFrom_147 rfl (lv_at hl 0 rfl) ?_
  refine pg_f (v := .ref this_wells) (C := RX2) (T := TX2) (N := 20) hx hb hts (tw_i inlX2) hown hK hP hL_this hK_this (by decide) rfl 14 (by decide) (hts _ (tw_c tw_95)) (pq_hv rfl hR_this_wells) dX2_copyFrom_148 ?_
  refine lv_aload_n hx hb dX2_copyFrom_151 rfl (lv_at hl 1 rfl) ?_
  refine pg_f (v := .ref o_wells) (C := RX2) (T := TX2) (N := 20) hx hb hts (tw_i inlX2) hown hK hP hL_o hK_o (by decide) rfl 14 (by decide) (hts _ (tw_c tw_95)) (pq_hv rfl hR_o_wells) dX2_copyFrom_152 ?_
  refine pk_v (va_runV (As := [.ref o_wells]) (rest := []) ⟨hx, hb, hml, hown, hts⟩ (c_X9_copyFrom l D t σ I J_4 ri_48 r_5 rq H.size this_wells o_wells hL_this_wells hK_this_wells hL_o_wells hK_o_wells o_wells_gathers hR_o_wells_gathers hL_o_wells_gathers hK_o_wells_gathers hN_o_wells_gathers this_wells_gathers hR_this_wells_gathers hL_this_wells_gathers hK_this_wells_gathers hN_this_wells_gathers o_wells_lens hR_o_wells_lens hL_o_wells_lens hK_o_wells_lens hN_o_wells_lens this_wells_lens hR_this_wells_lens hL_this_wells_lens hK_this_wells_lens hN_this_wells_lens o_wells_salt hR_o_wells_salt hL_o_wells_salt hK_o_wells_salt hN_o_wells_salt this_wells_salt hR_this_wells_salt hL_this_wells_salt hK_this_wells_salt hN_this_wells_salt) (cwV 1 hts (tw_V tw_1376 tw_1377 tw_1378 tw_94 tw_1379) rfl rfl rfl (by decide +kernel) ⟨Nat.le_of_ble_eq_true rfl, Nat.le_of_ble_eq_true rfl⟩) ⟨pq_blind, pq_recv hK hP hL_this_wells hK_this_wells (by decide) rfl, pq_pre hK hN hP hD⟩ rfl rfl hl.1 rfl (lv_room (Nat.le_of_ble_eq_true rfl)) dX2_copyFrom_155 ⟨Nat.le_of_ble_eq_true rfl, Nat.le_of_ble_eq_true rfl⟩) hD hS hA (fun σ1 μ1 H locs hw_52 hP hD hS => ?_)
  obtain ⟨ri_53, hu_54⟩ := hw_52
  obtain ⟨hu_54a, hu_54b⟩ := Prod.mk.inj hu_54
  rw [hu_54a, hu_54b] at hP hD
  refine lv_aload_n hx hb dX2_copyFrom_158 rfl (lv_at hl 1 rfl) ?_
  refine pg_f (v := .ref o_next) (C := RX2) (T := TX2) (N := 20) hx hb hts (tw_i inlX2) hown hK hP hL_o hK_o (by decide) rfl 15 (by decide) (hts _ (tw_c tw_96)) (pq_hv rfl hR_o_next) dX2_copyFrom_159 ?_
  refine lv_aload_n hx hb dX2_copyFrom_162 rfl (lv_at hl 0 rfl) ?_
  refine pg_f (v := .ref this_next) (C := RX2) (T := TX2) (N := 20) hx hb hts (tw_i inlX2) hown hK hP hL_this hK_this (by decide) rfl 15 (by decide) (hts _ (tw_c tw_96)) (pq_hv rfl hR_this_next) dX2_copyFrom_163 ?_
  refine pk_v (va_runSN (As := [.ref o_next, .ref this_next]) (rest := []) ⟨hx, hb, hml, hown, hts⟩ (c_X11_copy l D t σ I J_4 ri_53 r_5 rq H.size o_next this_next 40 hL_o_next hK_o_next hN_o_next hL_this_next hK_this_next hN_this_next (by omega)) ⟨va_cnB (host := "RingsUnder") 2 hts (tw_W tw_1102) rfl rfl rfl (nl_19 hN) (hts _ (tw_c tw_2)) (by decide +kernel) ⟨Nat.le_of_ble_eq_true rfl, Nat.le_of_ble_eq_true rfl⟩, hts (.static yX11_copy) (by decide +kernel), trivial⟩ ⟨pq_blind, pq_pre hK hN hP hD⟩ rfl rfl hl.1 rfl (lv_room (Nat.le_of_ble_eq_true rfl)) dX2_copyFrom_166 ⟨Nat.le_of_ble_eq_true rfl, Nat.le_of_ble_eq_true rfl⟩) hD hS hA (fun σ1 μ1 H locs hw_57 hP hD hS => ?_)
  obtain ⟨ri_58, hu_59⟩ := hw_57
  obtain ⟨hu_59a, hu_59b⟩ := Prod.mk.inj hu_59
  rw [hu_59a, hu_59b] at hP hD
  refine lv_aload_n hx hb dX2_copyFrom_169 rfl (lv_at hl 1 rfl) ?_
  refine pg_f (v := .ref o_first) (C := RX2) (T := TX2) (N := 20) hx hb hts (tw_i inlX2) hown hK hP hL_o hK_o (by decide) rfl 16 (by decide) (hts _ (tw_c tw_97)) (pq_hv rfl hR_o_first) dX2_copyFrom_170 ?_
  refine lv_aload_n hx hb dX2_copyFrom_173 rfl (lv_at hl 0 rfl) ?_
  refine pg_f (v := .ref this_first) (C := RX2) (T := TX2) (N := 20) hx hb hts (tw_i inlX2) hown hK hP hL_this hK_this (by decide) rfl 16 (by decide) (hts _ (tw_c tw_97)) (pq_hv rfl hR_this_first) dX2_copyFrom_174 ?_
  refine pk_v (va_runSN (As := [.ref o_first, .ref this_first]) (rest := []) ⟨hx, hb, hml, hown, hts⟩ (c_X11_copy l D t σ I J_4 ri_58 r_5 rq H.size o_first this_first 5 hL_o_first hK_o_first hN_o_first hL_this_first hK_this_first hN_this_first (by omega)) ⟨va_cnB (host := "RingsUnder") 2 hts (tw_W tw_1102) rfl rfl rfl (nl_19 hN) (hts _ (tw_c tw_2)) (by decide +kernel) ⟨Nat.le_of_ble_eq_true rfl, Nat.le_of_ble_eq_true rfl⟩, hts (.static yX11_copy) (by decide +kernel), trivial⟩ ⟨pq_blind, pq_pre hK hN hP hD⟩ rfl rfl hl.1 rfl (lv_room (Nat.le_of_ble_eq_true rfl)) dX2_copyFrom_177 ⟨Nat.le_of_ble_eq_true rfl, Nat.le_of_ble_eq_true rfl⟩) hD hS hA (fun σ1 μ1 H locs hw_62 hP hD hS => ?_)
  obtain ⟨ri_63, hu_64⟩ := hw_62
  obtain ⟨hu_64a, hu_64b⟩ := Prod.mk.inj hu_64
  rw [hu_64a, hu_64b] at hP hD
  exact W.vret hx hb hr (fun t1 ht hW => ⟨⟨(σ, I, J_4, ri_63, r_5, rq), rfl, ⟨J_4, ri_63, r_5, rfl⟩, by rw [ht]; exact hP, va_K.moved hW.alike hK, hD⟩, hS.F ht⟩) hS.2.2 dX2_copyFrom_180

set_option maxHeartbeats 4000000 in
set_option maxRecDepth 100000 in
theorem c_X7_copyFrom (l : Launch) (D : va_G) (t : pq_T) (σ : pq_S) (I : Nat → Nat → Int32) (J : Nat → Nat → Int64) (ri : Nat → Nat → Int32) (rj : Nat → Nat → Int64) (rq : Nat → Nat → Option Nat) (sz : Nat) (this : Nat) (o : Nat) (hL_this : this ∈ σ.1) (hK_this : σ.2.1 this = 7) (hL_o : o ∈ σ.1) (hK_o : σ.2.1 o = 7) (o_rise : Nat) (hR_o_rise : σ.2.2.1 225 o = some o_rise) (hL_o_rise : o_rise ∈ σ.1) (hK_o_rise : σ.2.1 o_rise = 13) (hN_o_rise : σ.2.2.2 o_rise = 200) (this_rise : Nat) (hR_this_rise : σ.2.2.1 225 this = some this_rise) (hL_this_rise : this_rise ∈ σ.1) (hK_this_rise : σ.2.1 this_rise = 13) (hN_this_rise : σ.2.2.2 this_rise = 200) (o_month : Nat) (hR_o_month : σ.2.2.1 226 o = some o_month) (hL_o_month : o_month ∈ σ.1) (hK_o_month : σ.2.1 o_month = 13) (hN_o_month : σ.2.2.2 o_month = 200) (this_month : Nat) (hR_this_month : σ.2.2.1 226 this = some this_month) (hL_this_month : this_month ∈ σ.1) (hK_this_month : σ.2.1 this_month = 13) (hN_this_month : σ.2.2.2 this_month = 200) (o_value : Nat) (hR_o_value : σ.2.2.1 227 o = some o_value) (hL_o_value : o_value ∈ σ.1) (hK_o_value : σ.2.1 o_value = 13) (hN_o_value : σ.2.2.2 o_value = 200) (this_value : Nat) (hR_this_value : σ.2.2.1 227 this = some this_value) (hL_this_value : this_value ∈ σ.1) (hK_this_value : σ.2.1 this_value = 13) (hN_this_value : σ.2.2.2 this_value = 200) (o_told : Nat) (hR_o_told : σ.2.2.1 228 o = some o_told) (hL_o_told : o_told ∈ σ.1) (hK_o_told : σ.2.1 o_told = 13) (hN_o_told : σ.2.2.2 o_told = 200) (this_told : Nat) (hR_this_told : σ.2.2.1 228 this = some this_told) (hL_this_told : this_told ∈ σ.1) (hK_this_told : σ.2.1 this_told = 13) (hN_this_told : σ.2.2.2 this_told = 200) (o_low : Nat) (hR_o_low : σ.2.2.1 229 o = some o_low) (hL_o_low : o_low ∈ σ.1) (hK_o_low : σ.2.1 o_low = 13) (hN_o_low : σ.2.2.2 o_low = 12) (this_low : Nat) (hR_this_low : σ.2.2.1 229 this = some this_low) (hL_this_low : this_low ∈ σ.1) (hK_this_low : σ.2.1 this_low = 13) (hN_this_low : σ.2.2.2 this_low = 12) (o_high : Nat) (hR_o_high : σ.2.2.1 230 o = some o_high) (hL_o_high : o_high ∈ σ.1) (hK_o_high : σ.2.1 o_high = 13) (hN_o_high : σ.2.2.2 o_high = 12) (this_high : Nat) (hR_this_high : σ.2.2.1 230 this = some this_high) (hL_this_high : this_high ∈ σ.1) (hK_this_high : σ.2.1 this_high = 13) (hN_this_high : σ.2.2.2 this_high = 12) (o_warm : Nat) (hR_o_warm : σ.2.2.1 231 o = some o_warm) (hL_o_warm : o_warm ∈ σ.1) (hK_o_warm : σ.2.1 o_warm = 13) (hN_o_warm : σ.2.2.2 o_warm = 12) (this_warm : Nat) (hR_this_warm : σ.2.2.1 231 this = some this_warm) (hL_this_warm : this_warm ∈ σ.1) (hK_this_warm : σ.2.1 this_warm = 13) (hN_this_warm : σ.2.2.2 this_warm = 12) (o_drift : Nat) (hR_o_drift : σ.2.2.1 232 o = some o_drift) (hL_o_drift : o_drift ∈ σ.1) (hK_o_drift : σ.2.1 o_drift = 13) (hN_o_drift : σ.2.2.2 o_drift = 12) (this_drift : Nat) (hR_this_drift : σ.2.2.1 232 this = some this_drift) (hL_this_drift : this_drift ∈ σ.1) (hK_this_drift : σ.2.1 this_drift = 13) (hN_this_drift : σ.2.2.2 this_drift = 12) (o_rain : Nat) (hR_o_rain : σ.2.2.1 233 o = some o_rain) (hL_o_rain : o_rain ∈ σ.1) (hK_o_rain : σ.2.1 o_rain = 13) (hN_o_rain : σ.2.2.2 o_rain = 12) (this_rain : Nat) (hR_this_rain : σ.2.2.1 233 this = some this_rain) (hL_this_rain : this_rain ∈ σ.1) (hK_this_rain : σ.2.1 this_rain = 13) (hN_this_rain : σ.2.2.2 this_rain = 12) (hZ : pq_Z I) (hRo : I 237 o = 3) : MetV l yX7_copyFrom (wa yX7_copyFrom cX7_copyFrom 2 none) ({ frames := 2, cells := 0, slots := 0, locals := 81 }) [.ref this, .ref o] D t σ (I, J, ri, rj, rq) sz 0 0 (fun (u : pq_S × pq_M) => ∃ I' : Nat → Nat → Int32, ∃ ri' : Nat → Nat → Int32, u = (σ, I', J, ri', rj, rq) ∧ (∀ f, f ∉ ([234, 235, 236, 237, 238] : List Nat) → I' f = I f) ∧ (I' 237 this = 3)) := by
  refine Met.ofW (cc := cX7_copyFrom) (maxL := 2) (ret := none) (by decide) rfl ?_
  intro p e s m args below meth c s₁ B hml hv
  obtain ⟨rfl, hsz, hP, hK, hD0, hN⟩ := hv
  have hx := B.exec
  have hb := B.bytes
  have hr := B.returns
  have hts := atoms_spec (ws := (wa yX7_copyFrom cX7_copyFrom 2 none)) B.pre
  have hown : s.vm.findClass RX7 = some m.cls := findClass_of_methodNamed B.named
  have hlocks := B.notSynchronized
  subst hsz
  have hD : va_D (pq_B t σ (I, J, ri, rj, rq) s.heap.size) (pq_P t σ (I, J, ri, rj, rq)) := hD0.self
  generalize hAe : pq_B t σ (I, J, ri, rj, rq) s.heap.size = A at hD ⊢
  have hA : ∀ q : Nat, s.heap.size ≤ q → A q := fun q h => by rw [← hAe]; exact Or.inr h
  have hS : va_S A s.heap s.heap [] := va_S.rf
  have hl := lv_entry ([.ref this, .ref o]) (n := 2) (Nat.le_of_ble_eq_true rfl)
  rw [lg_entry_eq]
  generalize (lg_sl ([.ref this, .ref o]) ++ List.replicate (2 - (lg_sl ([.ref this, .ref o])).length) Slot.unset).toArray = ls at hl ⊢
  have hl : lv_has ls 2 [(0, .ref this), (1, .ref o)] := hl
  refine lv_aload_n hx hb dX7_copyFrom_0 rfl (lv_at hl 0 rfl) ?_
  refine lv_aload_n hx hb dX7_copyFrom_1 rfl (lv_at hl 1 rfl) ?_
  refine pg_f (v := .int (I 224 o)) (C := RX7) (T := TX7) (N := 15) hx hb hts (tw_i inlX7) hown hK hP hL_o hK_o (by decide) rfl 0 (by decide) (hts _ (tw_c tw_254)) rfl dX7_copyFrom_2 ?_
  refine lv_tov 0 (congrFun (hZ 224 (by decide)) o) ?_
  refine pp_i (v := 0) (ty := .int) (C := RX7) (T := TX7) (N := 15) hx hb hts (tw_i inlX7) tyX7 tyX7_ok nmX7 hown hK hP hD hS hL_this hK_this (by decide) rfl 0 224 (by decide) (hts _ (tw_c tw_254)) rfl (by decide +kernel) rfl rfl (Nat.le_of_ble_eq_true rfl) (ps_224 _ _ _ _ _) dX7_copyFrom_5 (fun I_1 H locs eI_1 hP hD hS => ?_)
  have eI_1 : I_1 = I := by rw [eI_1]; exact pq_uc _ _ _ _ (hZ 224 (by decide))
  rw [eI_1] at hP hD
  refine lv_aload_n hx hb dX7_copyFrom_8 rfl (lv_at hl 1 rfl) ?_
  refine pg_f (v := .ref o_rise) (C := RX7) (T := TX7) (N := 15) hx hb hts (tw_i inlX7) hown hK hP hL_o hK_o (by decide) rfl 1 (by decide) (hts _ (tw_c tw_61)) (pq_hv rfl hR_o_rise) dX7_copyFrom_9 ?_
  refine lv_aload_n hx hb dX7_copyFrom_12 rfl (lv_at hl 0 rfl) ?_
  refine pg_f (v := .ref this_rise) (C := RX7) (T := TX7) (N := 15) hx hb hts (tw_i inlX7) hown hK hP hL_this hK_this (by decide) rfl 1 (by decide) (hts _ (tw_c tw_61)) (pq_hv rfl hR_this_rise) dX7_copyFrom_13 ?_
  refine pk_v (va_runSN (As := [.ref o_rise, .ref this_rise]) (rest := []) ⟨hx, hb, hml, hown, hts⟩ (c_X11_copy l D t σ I J ri rj rq H.size o_rise this_rise 200 hL_o_rise hK_o_rise hN_o_rise hL_this_rise hK_this_rise hN_this_rise (by omega)) ⟨va_cnB (host := "RingsUnder") 2 hts (tw_W tw_1102) rfl rfl rfl (nl_18 hN) (hts _ (tw_c tw_2)) (by decide +kernel) ⟨Nat.le_of_ble_eq_true rfl, Nat.le_of_ble_eq_true rfl⟩, hts (.static yX11_copy) (by decide +kernel), trivial⟩ ⟨pq_blind, pq_pre hK hN hP hD⟩ rfl rfl hl.1 rfl (lv_room (Nat.le_of_ble_eq_true rfl)) dX7_copyFrom_16 ⟨Nat.le_of_ble_eq_true rfl, Nat.le_of_ble_eq_true rfl⟩) hD hS hA (fun σ1 μ1 H locs hw_3 hP hD hS => ?_)
  obtain ⟨ri_4, hu_5⟩ := hw_3
  obtain ⟨hu_5a, hu_5b⟩ := Prod.mk.inj hu_5
  rw [hu_5a, hu_5b] at hP hD
  refine lv_aload_n hx hb dX7_copyFrom_19 rfl (lv_at hl 1 rfl) ?_
  refine pg_f (v := .ref o_month) (C := RX7) (T := TX7) (N := 15) hx hb hts (tw_i inlX7) hown hK hP hL_o hK_o (by decide) rfl 2 (by decide) (hts _ (tw_c tw_62)) (pq_hv rfl hR_o_month) dX7_copyFrom_20 ?_
  refine lv_aload_n hx hb dX7_copyFrom_23 rfl (lv_at hl 0 rfl) ?_
  refine pg_f (v := .ref this_month) (C := RX7) (T := TX7) (N := 15) hx hb hts (tw_i inlX7) hown hK hP hL_this hK_this (by decide) rfl 2 (by decide) (hts _ (tw_c tw_62)) (pq_hv rfl hR_this_month) dX7_copyFrom_24 ?_
  refine pk_v (va_runSN (As := [.ref o_month, .ref this_month]) (rest := []) ⟨hx, hb, hml, hown, hts⟩ (c_X11_copy l D t σ I J ri_4 rj rq H.size o_month this_month 200 hL_o_month hK_o_month hN_o_month hL_this_month hK_this_month hN_this_month (by omega)) ⟨va_cnB (host := "RingsUnder") 2 hts (tw_W tw_1102) rfl rfl rfl (nl_18 hN) (hts _ (tw_c tw_2)) (by decide +kernel) ⟨Nat.le_of_ble_eq_true rfl, Nat.le_of_ble_eq_true rfl⟩, hts (.static yX11_copy) (by decide +kernel), trivial⟩ ⟨pq_blind, pq_pre hK hN hP hD⟩ rfl rfl hl.1 rfl (lv_room (Nat.le_of_ble_eq_true rfl)) dX7_copyFrom_27 ⟨Nat.le_of_ble_eq_true rfl, Nat.le_of_ble_eq_true rfl⟩) hD hS hA (fun σ1 μ1 H locs hw_8 hP hD hS => ?_)
  obtain ⟨ri_9, hu_10⟩ := hw_8
  obtain ⟨hu_10a, hu_10b⟩ := Prod.mk.inj hu_10
  rw [hu_10a, hu_10b] at hP hD
  refine lv_aload_n hx hb dX7_copyFrom_30 rfl (lv_at hl 1 rfl) ?_
  refine pg_f (v := .ref o_value) (C := RX7) (T := TX7) (N := 15) hx hb hts (tw_i inlX7) hown hK hP hL_o hK_o (by decide) rfl 3 (by decide) (hts _ (tw_c tw_63)) (pq_hv rfl hR_o_value) dX7_copyFrom_31 ?_
  refine lv_aload_n hx hb dX7_copyFrom_34 rfl (lv_at hl 0 rfl) ?_
  refine pg_f (v := .ref this_value) (C := RX7) (T := TX7) (N := 15) hx hb hts (tw_i inlX7) hown hK hP hL_this hK_this (by decide) rfl 3 (by decide) (hts _ (tw_c tw_63)) (pq_hv rfl hR_this_value) dX7_copyFrom_35 ?_
  refine pk_v (va_runSN (As := [.ref o_value, .ref this_value]) (rest := []) ⟨hx, hb, hml, hown, hts⟩ (c_X11_copy l D t σ I J ri_9 rj rq H.size o_value this_value 200 hL_o_value hK_o_value hN_o_value hL_this_value hK_this_value hN_this_value (by omega)) ⟨va_cnB (host := "RingsUnder") 2 hts (tw_W tw_1102) rfl rfl rfl (nl_18 hN) (hts _ (tw_c tw_2)) (by decide +kernel) ⟨Nat.le_of_ble_eq_true rfl, Nat.le_of_ble_eq_true rfl⟩, hts (.static yX11_copy) (by decide +kernel), trivial⟩ ⟨pq_blind, pq_pre hK hN hP hD⟩ rfl rfl hl.1 rfl (lv_room (Nat.le_of_ble_eq_true rfl)) dX7_copyFrom_38 ⟨Nat.le_of_ble_eq_true rfl, Nat.le_of_ble_eq_true rfl⟩) hD hS hA (fun σ1 μ1 H locs hw_13 hP hD hS => ?_)
  obtain ⟨ri_14, hu_15⟩ := hw_13
  obtain ⟨hu_15a, hu_15b⟩ := Prod.mk.inj hu_15
  rw [hu_15a, hu_15b] at hP hD
  refine lv_aload_n hx hb dX7_copyFrom_41 rfl (lv_at hl 1 rfl) ?_
  refine pg_f (v := .ref o_told) (C := RX7) (T := TX7) (N := 15) hx hb hts (tw_i inlX7) hown hK hP hL_o hK_o (by decide) rfl 4 (by decide) (hts _ (tw_c tw_64)) (pq_hv rfl hR_o_told) dX7_copyFrom_42 ?_
  refine lv_aload_n hx hb dX7_copyFrom_45 rfl (lv_at hl 0 rfl) ?_
  refine pg_f (v := .ref this_told) (C := RX7) (T := TX7) (N := 15) hx hb hts (tw_i inlX7) hown hK hP hL_this hK_this (by decide) rfl 4 (by decide) (hts _ (tw_c tw_64)) (pq_hv rfl hR_this_told) dX7_copyFrom_46 ?_
  refine pk_v (va_runSN (As := [.ref o_told, .ref this_told]) (rest := []) ⟨hx, hb, hml, hown, hts⟩ (c_X11_copy l D t σ I J ri_14 rj rq H.size o_told this_told 200 hL_o_told hK_o_told hN_o_told hL_this_told hK_this_told hN_this_told (by omega)) ⟨va_cnB (host := "RingsUnder") 2 hts (tw_W tw_1102) rfl rfl rfl (nl_18 hN) (hts _ (tw_c tw_2)) (by decide +kernel) ⟨Nat.le_of_ble_eq_true rfl, Nat.le_of_ble_eq_true rfl⟩, hts (.static yX11_copy) (by decide +kernel), trivial⟩ ⟨pq_blind, pq_pre hK hN hP hD⟩ rfl rfl hl.1 rfl (lv_room (Nat.le_of_ble_eq_true rfl)) dX7_copyFrom_49 ⟨Nat.le_of_ble_eq_true rfl, Nat.le_of_ble_eq_true rfl⟩) hD hS hA (fun σ1 μ1 H locs hw_18 hP hD hS => ?_)
  obtain ⟨ri_19, hu_20⟩ := hw_18
  obtain ⟨hu_20a, hu_20b⟩ := Prod.mk.inj hu_20
  rw [hu_20a, hu_20b] at hP hD
  refine lv_aload_n hx hb dX7_copyFrom_52 rfl (lv_at hl 1 rfl) ?_
  refine pg_f (v := .ref o_low) (C := RX7) (T := TX7) (N := 15) hx hb hts (tw_i inlX7) hown hK hP hL_o hK_o (by decide) rfl 5 (by decide) (hts _ (tw_c tw_65)) (pq_hv rfl hR_o_low) dX7_copyFrom_53 ?_
  refine lv_aload_n hx hb dX7_copyFrom_56 rfl (lv_at hl 0 rfl) ?_
  refine pg_f (v := .ref this_low) (C := RX7) (T := TX7) (N := 15) hx hb hts (tw_i inlX7) hown hK hP hL_this hK_this (by decide) rfl 5 (by decide) (hts _ (tw_c tw_65)) (pq_hv rfl hR_this_low) dX7_copyFrom_57 ?_
  refine pk_v (va_runSN (As := [.ref o_low, .ref this_low]) (rest := []) ⟨hx, hb, hml, hown, hts⟩ (c_X11_copy l D t σ I J ri_19 rj rq H.size o_low this_low 12 hL_o_low hK_o_low hN_o_low hL_this_low hK_this_low hN_this_low (by omega)) ⟨va_cnB (host := "RingsUnder") 2 hts (tw_W tw_1102) rfl rfl rfl (nl_18 hN) (hts _ (tw_c tw_2)) (by decide +kernel) ⟨Nat.le_of_ble_eq_true rfl, Nat.le_of_ble_eq_true rfl⟩, hts (.static yX11_copy) (by decide +kernel), trivial⟩ ⟨pq_blind, pq_pre hK hN hP hD⟩ rfl rfl hl.1 rfl (lv_room (Nat.le_of_ble_eq_true rfl)) dX7_copyFrom_60 ⟨Nat.le_of_ble_eq_true rfl, Nat.le_of_ble_eq_true rfl⟩) hD hS hA (fun σ1 μ1 H locs hw_23 hP hD hS => ?_)
  obtain ⟨ri_24, hu_25⟩ := hw_23
  obtain ⟨hu_25a, hu_25b⟩ := Prod.mk.inj hu_25
  rw [hu_25a, hu_25b] at hP hD
  refine lv_aload_n hx hb dX7_copyFrom_63 rfl (lv_at hl 1 rfl) ?_
  refine pg_f (v := .ref o_high) (C := RX7) (T := TX7) (N := 15) hx hb hts (tw_i inlX7) hown hK hP hL_o hK_o (by decide) rfl 6 (by decide) (hts _ (tw_c tw_66)) (pq_hv rfl hR_o_high) dX7_copyFrom_64 ?_
  refine lv_aload_n hx hb dX7_copyFrom_67 rfl (lv_at hl 0 rfl) ?_
  refine pg_f (v := .ref this_high) (C := RX7) (T := TX7) (N := 15) hx hb hts (tw_i inlX7) hown hK hP hL_this hK_this (by decide) rfl 6 (by decide) (hts _ (tw_c tw_66)) (pq_hv rfl hR_this_high) dX7_copyFrom_68 ?_
  refine pk_v (va_runSN (As := [.ref o_high, .ref this_high]) (rest := []) ⟨hx, hb, hml, hown, hts⟩ (c_X11_copy l D t σ I J ri_24 rj rq H.size o_high this_high 12 hL_o_high hK_o_high hN_o_high hL_this_high hK_this_high hN_this_high (by omega)) ⟨va_cnB (host := "RingsUnder") 2 hts (tw_W tw_1102) rfl rfl rfl (nl_18 hN) (hts _ (tw_c tw_2)) (by decide +kernel) ⟨Nat.le_of_ble_eq_true rfl, Nat.le_of_ble_eq_true rfl⟩, hts (.static yX11_copy) (by decide +kernel), trivial⟩ ⟨pq_blind, pq_pre hK hN hP hD⟩ rfl rfl hl.1 rfl (lv_room (Nat.le_of_ble_eq_true rfl)) dX7_copyFrom_71 ⟨Nat.le_of_ble_eq_true rfl, Nat.le_of_ble_eq_true rfl⟩) hD hS hA (fun σ1 μ1 H locs hw_28 hP hD hS => ?_)
  obtain ⟨ri_29, hu_30⟩ := hw_28
  obtain ⟨hu_30a, hu_30b⟩ := Prod.mk.inj hu_30
  rw [hu_30a, hu_30b] at hP hD
  refine lv_aload_n hx hb dX7_copyFrom_74 rfl (lv_at hl 1 rfl) ?_
  refine pg_f (v := .ref o_warm) (C := RX7) (T := TX7) (N := 15) hx hb hts (tw_i inlX7) hown hK hP hL_o hK_o (by decide) rfl 7 (by decide) (hts _ (tw_c tw_67)) (pq_hv rfl hR_o_warm) dX7_copyFrom_75 ?_
  refine lv_aload_n hx hb dX7_copyFrom_78 rfl (lv_at hl 0 rfl) ?_
  refine pg_f (v := .ref this_warm) (C := RX7) (T := TX7) (N := 15) hx hb hts (tw_i inlX7) hown hK hP hL_this hK_this (by decide) rfl 7 (by decide) (hts _ (tw_c tw_67)) (pq_hv rfl hR_this_warm) dX7_copyFrom_79 ?_
  refine pk_v (va_runSN (As := [.ref o_warm, .ref this_warm]) (rest := []) ⟨hx, hb, hml, hown, hts⟩ (c_X11_copy l D t σ I J ri_29 rj rq H.size o_warm this_warm 12 hL_o_warm hK_o_warm hN_o_warm hL_this_warm hK_this_warm hN_this_warm (by omega)) ⟨va_cnB (host := "RingsUnder") 2 hts (tw_W tw_1102) rfl rfl rfl (nl_18 hN) (hts _ (tw_c tw_2)) (by decide +kernel) ⟨Nat.le_of_ble_eq_true rfl, Nat.le_of_ble_eq_true rfl⟩, hts (.static yX11_copy) (by decide +kernel), trivial⟩ ⟨pq_blind, pq_pre hK hN hP hD⟩ rfl rfl hl.1 rfl (lv_room (Nat.le_of_ble_eq_true rfl)) dX7_copyFrom_82 ⟨Nat.le_of_ble_eq_true rfl, Nat.le_of_ble_eq_true rfl⟩) hD hS hA (fun σ1 μ1 H locs hw_33 hP hD hS => ?_)
  obtain ⟨ri_34, hu_35⟩ := hw_33
  obtain ⟨hu_35a, hu_35b⟩ := Prod.mk.inj hu_35
  rw [hu_35a, hu_35b] at hP hD
  refine lv_aload_n hx hb dX7_copyFrom_85 rfl (lv_at hl 1 rfl) ?_
  refine pg_f (v := .ref o_drift) (C := RX7) (T := TX7) (N := 15) hx hb hts (tw_i inlX7) hown hK hP hL_o hK_o (by decide) rfl 8 (by decide) (hts _ (tw_c tw_68)) (pq_hv rfl hR_o_drift) dX7_copyFrom_86 ?_
  refine lv_aload_n hx hb dX7_copyFrom_89 rfl (lv_at hl 0 rfl) ?_
  refine pg_f (v := .ref this_drift) (C := RX7) (T := TX7) (N := 15) hx hb hts (tw_i inlX7) hown hK hP hL_this hK_this (by decide) rfl 8 (by decide) (hts _ (tw_c tw_68)) (pq_hv rfl hR_this_drift) dX7_copyFrom_90 ?_
  refine pk_v (va_runSN (As := [.ref o_drift, .ref this_drift]) (rest := []) ⟨hx, hb, hml, hown, hts⟩ (c_X11_copy l D t σ I J ri_34 rj rq H.size o_drift this_drift 12 hL_o_drift hK_o_drift hN_o_drift hL_this_drift hK_this_drift hN_this_drift (by omega)) ⟨va_cnB (host := "RingsUnder") 2 hts (tw_W tw_1102) rfl rfl rfl (nl_18 hN) (hts _ (tw_c tw_2)) (by decide +kernel) ⟨Nat.le_of_ble_eq_true rfl, Nat.le_of_ble_eq_true rfl⟩, hts (.static yX11_copy) (by decide +kernel), trivial⟩ ⟨pq_blind, pq_pre hK hN hP hD⟩ rfl rfl hl.1 rfl (lv_room (Nat.le_of_ble_eq_true rfl)) dX7_copyFrom_93 ⟨Nat.le_of_ble_eq_true rfl, Nat.le_of_ble_eq_true rfl⟩) hD hS hA (fun σ1 μ1 H locs hw_38 hP hD hS => ?_)
  obtain ⟨ri_39, hu_40⟩ := hw_38
  obtain ⟨hu_40a, hu_40b⟩ := Prod.mk.inj hu_40
  rw [hu_40a, hu_40b] at hP hD
  refine lv_aload_n hx hb dX7_copyFrom_96 rfl (lv_at hl 1 rfl) ?_
  refine pg_f (v := .ref o_rain) (C := RX7) (T := TX7) (N := 15) hx hb hts (tw_i inlX7) hown hK hP hL_o hK_o (by decide) rfl 9 (by decide) (hts _ (tw_c tw_69)) (pq_hv rfl hR_o_rain) dX7_copyFrom_97 ?_
  refine lv_aload_n hx hb dX7_copyFrom_100 rfl (lv_at hl 0 rfl) ?_
  refine pg_f (v := .ref this_rain) (C := RX7) (T := TX7) (N := 15) hx hb hts (tw_i inlX7) hown hK hP hL_this hK_this (by decide) rfl 9 (by decide) (hts _ (tw_c tw_69)) (pq_hv rfl hR_this_rain) dX7_copyFrom_101 ?_
  refine pk_v (va_runSN (As := [.ref o_rain, .ref this_rain]) (rest := []) ⟨hx, hb, hml, hown, hts⟩ (c_X11_copy l D t σ I J ri_39 rj rq H.size o_rain this_rain 12 hL_o_rain hK_o_rain hN_o_rain hL_this_rain hK_this_rain hN_this_rain (by omega)) ⟨va_cnB (host := "RingsUnder") 2 hts (tw_W tw_1102) rfl rfl rfl (nl_18 hN) (hts _ (tw_c tw_2)) (by decide +kernel) ⟨Nat.le_of_ble_eq_true rfl, Nat.le_of_ble_eq_true rfl⟩, hts (.static yX11_copy) (by decide +kernel), trivial⟩ ⟨pq_blind, pq_pre hK hN hP hD⟩ rfl rfl hl.1 rfl (lv_room (Nat.le_of_ble_eq_true rfl)) dX7_copyFrom_104 ⟨Nat.le_of_ble_eq_true rfl, Nat.le_of_ble_eq_true rfl⟩) hD hS hA (fun σ1 μ1 H locs hw_43 hP hD hS => ?_)
  obtain ⟨ri_44, hu_45⟩ := hw_43
  obtain ⟨hu_45a, hu_45b⟩ := Prod.mk.inj hu_45
  rw [hu_45a, hu_45b] at hP hD
  refine lv_aload_n hx hb dX7_copyFrom_107 rfl (lv_at hl 0 rfl) ?_
  refine lv_aload_n hx hb dX7_copyFrom_108 rfl (lv_at hl 1 rfl) ?_
  refine pg_f (v := .int (I 234 o)) (C := RX7) (T := TX7) (N := 15) hx hb hts (tw_i inlX7) hown hK hP hL_o hK_o (by decide) rfl 10 (by decide) (hts _ (tw_c tw_70)) rfl dX7_copyFrom_109 ?_
  refine pp_i (v := (I 234 o)) (ty := .int) (C := RX7) (T := TX7) (N := 15) hx hb hts (tw_i inlX7) tyX7 tyX7_ok nmX7 hown hK hP hD hS hL_this hK_this (by decide) rfl 10 234 (by decide) (hts _ (tw_c tw_70)) rfl (by decide +kernel) rfl rfl (Nat.le_of_ble_eq_true rfl) (ps_234 _ _ _ _ _) dX7_copyFrom_112 (fun I_47 H locs eI_47 hP hD hS => ?_)
  refine lv_aload_n hx hb dX7_copyFrom_115 rfl (lv_at hl 0 rfl) ?_
  refine lv_aload_n hx hb dX7_copyFrom_116 rfl (lv_at hl 1 rfl) ?_
  refine pg_f (v := .int (I_47 235 o)) (C := RX7) (T := TX7) (N := 15) hx hb hts (tw_i inlX7) hown hK hP hL_o hK_o (by decide) rfl 11 (by decide) (hts _ (tw_c tw_71)) rfl dX7_copyFrom_117 ?_
  refine pp_i (v := (I_47 235 o)) (ty := .int) (C := RX7) (T := TX7) (N := 15) hx hb hts (tw_i inlX7) tyX7 tyX7_ok nmX7 hown hK hP hD hS hL_this hK_this (by decide) rfl 11 235 (by decide) (hts _ (tw_c tw_71)) rfl (by decide +kernel) rfl rfl (Nat.le_of_ble_eq_true rfl) (ps_235 _ _ _ _ _) dX7_copyFrom_120 (fun I_48 H locs eI_48 hP hD hS => ?_)
  refine lv_aload_n hx hb dX7_copyFrom_123 rfl (lv_at hl 0 rfl) ?_
  refine lv_aload_n hx hb dX7_copyFrom_124 rfl (lv_at hl 1 rfl) ?_
  refine pg_f (v := .int (I_48 236 o)) (C := RX7) (T := TX7) (N := 15) hx hb hts (tw_i inlX7) hown hK hP hL_o hK_o (by decide) rfl 12 (by decide) (hts _ (tw_c tw_72)) rfl dX7_copyFrom_125 ?_
  refine pp_i (v := (I_48 236 o)) (ty := .int) (C := RX7) (T := TX7) (N := 15) hx hb hts (tw_i inlX7) tyX7 tyX7_ok nmX7 hown hK hP hD hS hL_this hK_this (by decide) rfl 12 236 (by decide) (hts _ (tw_c tw_72)) rfl (by decide +kernel) rfl rfl (Nat.le_of_ble_eq_true rfl) (ps_236 _ _ _ _ _) dX7_copyFrom_128 (fun I_49 H locs eI_49 hP hD hS => ?_)
  refine lv_aload_n hx hb dX7_copyFrom_131 rfl (lv_at hl 0 rfl) ?_
  refine lv_aload_n hx hb dX7_copyFrom_132 rfl (lv_at hl 1 rfl) ?_
  refine pg_f (v := .int (I_49 237 o)) (C := RX7) (T := TX7) (N := 15) hx hb hts (tw_i inlX7) hown hK hP hL_o hK_o (by decide) rfl 13 (by decide) (hts _ (tw_c tw_73)) rfl dX7_copyFrom_133 ?_
  refine lv_tov 3 (by rw [eI_49, pq_uf _ _ _ (by decide)]; exact (by rw [eI_48, pq_uf _ _ _ (by decide)]; exact (by rw [eI_47, pq_uf _ _ _ (by decide)]; exact hRo))) ?_
  refine pp_i (v := 3) (ty := .int) (C := RX7) (T := TX7) (N := 15) hx hb hts (tw_i inlX7) tyX7 tyX7_ok nmX7 hown hK hP hD hS hL_this hK_this (by decide) rfl 13 237 (by decide) (hts _ (tw_c tw_73)) rfl (by decide +kernel) rfl rfl (Nat.le_of_ble_eq_true rfl) (ps_237 _ _ _ _ _) dX7_copyFrom_136 (fun I_50 H locs eI_50 hP hD hS => ?_)
  refine lv_aload_n hx hb dX7_copyFrom_139 rfl (lv_at hl 0 rfl) ?_
  refine lv_aload_n hx hb dX7_copyFrom_140 rfl (lv_at hl 1 rfl) ?_
  refine pg_f (v := .int (I_50 238 o)) (C := RX7) (T := TX7) (N := 15) hx hb hts (tw_i inlX7) hown hK hP hL_o hK_o (by decide) rfl 14 (by decide) (hts _ (tw_c tw_74)) rfl dX7_copyFrom_141 ?_
  refine pp_i (v := (I_50 238 o)) (ty := .int) (C := RX7) (T := TX7) (N := 15) hx hb hts (tw_i inlX7) tyX7 tyX7_ok nmX7 hown hK hP hD hS hL_this hK_this (by decide) rfl 14 238 (by decide) (hts _ (tw_c tw_74)) rfl (by decide +kernel) rfl rfl (Nat.le_of_ble_eq_true rfl) (ps_238 _ _ _ _ _) dX7_copyFrom_144 (fun I_51 H locs eI_51 hP hD hS => ?_)
  exact W.vret hx hb hr (fun t1 ht hW => ⟨⟨(σ, I_51, J, ri_44, rj, rq), rfl, ⟨I_51, ri_44, rfl, (fun f hg => by rw [eI_51, pq_uf _ _ _ (by intro q; subst q; exact hg (by decide)), eI_50, pq_uf _ _ _ (by intro q; subst q; exact hg (by decide)), eI_49, pq_uf _ _ _ (by intro q; subst q; exact hg (by decide)), eI_48, pq_uf _ _ _ (by intro q; subst q; exact hg (by decide)), eI_47, pq_uf _ _ _ (by intro q; subst q; exact hg (by decide))]), (by rw [eI_51, pq_uf _ _ _ (by decide)]; exact (by rw [eI_50]; exact pq_us _ _ _ _))⟩, by rw [ht]; exact hP, va_K.moved hW.alike hK, hD⟩, hS.F ht⟩) hS.2.2 dX7_copyFrom_147

set_option maxHeartbeats 4000000 in
set_option maxRecDepth 100000 in
theorem c_X3_copyFrom (l : Launch) (D : va_G) (t : pq_T) (σ : pq_S) (I : Nat → Nat → Int32) (J : Nat → Nat → Int64) (ri : Nat → Nat → Int32) (rj : Nat → Nat → Int64) (rq : Nat → Nat → Option Nat) (sz : Nat) (this : Nat) (o : Nat) (hL_this : this ∈ σ.1) (hK_this : σ.2.1 this = 3) (hL_o : o ∈ σ.1) (hK_o : σ.2.1 o = 3) (this_texts : Nat) (hR_this_texts : σ.2.2.1 97 this = some this_texts) (hL_this_texts : this_texts ∈ σ.1) (hK_this_texts : σ.2.1 this_texts = 16) (hN_this_texts : σ.2.2.2 this_texts = 10) (o_texts : Nat) (hR_o_texts : σ.2.2.1 97 o = some o_texts) (hL_o_texts : o_texts ∈ σ.1) (hK_o_texts : σ.2.1 o_texts = 16) (hN_o_texts : σ.2.2.2 o_texts = 10) (o_forceText : Nat) (hR_o_forceText : σ.2.2.1 99 o = some o_forceText) (hL_o_forceText : o_forceText ∈ σ.1) (hK_o_forceText : σ.2.1 o_forceText = 13) (hN_o_forceText : σ.2.2.2 o_forceText = 30) (this_forceText : Nat) (hR_this_forceText : σ.2.2.1 99 this = some this_forceText) (hL_this_forceText : this_forceText ∈ σ.1) (hK_this_forceText : σ.2.1 this_forceText = 13) (hN_this_forceText : σ.2.2.2 this_forceText = 30) (o_forceFrom : Nat) (hR_o_forceFrom : σ.2.2.1 100 o = some o_forceFrom) (hL_o_forceFrom : o_forceFrom ∈ σ.1) (hK_o_forceFrom : σ.2.1 o_forceFrom = 13) (hN_o_forceFrom : σ.2.2.2 o_forceFrom = 30) (this_forceFrom : Nat) (hR_this_forceFrom : σ.2.2.1 100 this = some this_forceFrom) (hL_this_forceFrom : this_forceFrom ∈ σ.1) (hK_this_forceFrom : σ.2.1 this_forceFrom = 13) (hN_this_forceFrom : σ.2.2.2 this_forceFrom = 30) (o_forceTo : Nat) (hR_o_forceTo : σ.2.2.1 101 o = some o_forceTo) (hL_o_forceTo : o_forceTo ∈ σ.1) (hK_o_forceTo : σ.2.1 o_forceTo = 13) (hN_o_forceTo : σ.2.2.2 o_forceTo = 30) (this_forceTo : Nat) (hR_this_forceTo : σ.2.2.1 101 this = some this_forceTo) (hL_this_forceTo : this_forceTo ∈ σ.1) (hK_this_forceTo : σ.2.1 this_forceTo = 13) (hN_this_forceTo : σ.2.2.2 this_forceTo = 30) (hZ : pq_Z I) (hq0 : rq = fun _ _ => none) : MetV l yX3_copyFrom (wa yX3_copyFrom cX3_copyFrom 3 none) ({ frames := 2, cells := 0, slots := 0, locals := 81 }) [.ref this, .ref o] D t σ (I, J, ri, rj, rq) sz 0 0 (fun (u : pq_S × pq_M) => ∃ ri' : Nat → Nat → Int32, u = (σ, I, J, ri', rj, rq)) := by
  refine Met.ofW (cc := cX3_copyFrom) (maxL := 3) (ret := none) (by decide) rfl ?_
  intro p e s m args below meth c s₁ B hml hv
  obtain ⟨rfl, hsz, hP, hK, hD0, hN⟩ := hv
  have hx := B.exec
  have hb := B.bytes
  have hr := B.returns
  have hts := atoms_spec (ws := (wa yX3_copyFrom cX3_copyFrom 3 none)) B.pre
  have hown : s.vm.findClass RX3 = some m.cls := findClass_of_methodNamed B.named
  have hlocks := B.notSynchronized
  subst hsz
  have hD : va_D (pq_B t σ (I, J, ri, rj, rq) s.heap.size) (pq_P t σ (I, J, ri, rj, rq)) := hD0.self
  generalize hAe : pq_B t σ (I, J, ri, rj, rq) s.heap.size = A at hD ⊢
  have hA : ∀ q : Nat, s.heap.size ≤ q → A q := fun q h => by rw [← hAe]; exact Or.inr h
  have hS : va_S A s.heap s.heap [] := va_S.rf
  have hl := lv_entry ([.ref this, .ref o]) (n := 3) (Nat.le_of_ble_eq_true rfl)
  rw [lg_entry_eq]
  generalize (lg_sl ([.ref this, .ref o]) ++ List.replicate (3 - (lg_sl ([.ref this, .ref o])).length) Slot.unset).toArray = ls at hl ⊢
  have hl : lv_has ls 3 [(0, .ref this), (1, .ref o)] := hl
  refine lv_aload_n hx hb dX3_copyFrom_0 rfl (lv_at hl 0 rfl) ?_
  refine lv_aload_n hx hb dX3_copyFrom_1 rfl (lv_at hl 1 rfl) ?_
  refine pg_f (v := .int (I 96 o)) (C := RX3) (T := TX3) (N := 8) hx hb hts (tw_i inlX3) hown hK hP hL_o hK_o (by decide) rfl 0 (by decide) (hts _ (tw_c tw_1388)) rfl dX3_copyFrom_2 ?_
  refine lv_tov 0 (congrFun (hZ 96 (by decide)) o) ?_
  refine pp_i (v := 0) (ty := .int) (C := RX3) (T := TX3) (N := 8) hx hb hts (tw_i inlX3) tyX3 tyX3_ok nmX3 hown hK hP hD hS hL_this hK_this (by decide) rfl 0 96 (by decide) (hts _ (tw_c tw_1388)) rfl (by decide +kernel) rfl rfl (Nat.le_of_ble_eq_true rfl) (ps_96 _ _ _ _ _) dX3_copyFrom_5 (fun I_1 H locs eI_1 hP hD hS => ?_)
  have eI_1 : I_1 = I := by rw [eI_1]; exact pq_uc _ _ _ _ (hZ 96 (by decide))
  rw [eI_1] at hP hD
  refine lv_iconst (v := 0) hx hb dX3_copyFrom_8 (by decide) ?_
  refine lv_istore_n (lv' := [(2, .int 0), (0, .ref this), (1, .ref o)]) hx hb dX3_copyFrom_9 rfl hl (by decide) rfl (fun ls hl => ?_)
  refine lv_iload_n hx hb dX3_copyFrom_10 rfl (lv_at hl 0 rfl) ?_
  refine lv_bipush (v := 10) hx hb dX3_copyFrom_11 (by decide) ?_
  refine lv_icmp_ge (tgt := 34) hx hb dX3_copyFrom_13 (by decide) (fun c_2 => absurd c_2 (by decide)) (fun c_2 => ?_)
  refine lv_aload_n hx hb dX3_copyFrom_16 rfl (lv_at hl 1 rfl) ?_
  refine pg_f (v := .ref this_texts) (C := RX3) (T := TX3) (N := 8) hx hb hts (tw_i inlX3) hown hK hP hL_this hK_this (by decide) rfl 1 (by decide) (hts _ (tw_c tw_128)) (pq_hv rfl hR_this_texts) dX3_copyFrom_17 ?_
  refine lv_iload_n hx hb dX3_copyFrom_20 rfl (lv_at hl 0 rfl) ?_
  refine lv_aload_n hx hb dX3_copyFrom_21 rfl (lv_at hl 2 rfl) ?_
  refine pg_f (v := .ref o_texts) (C := RX3) (T := TX3) (N := 8) hx hb hts (tw_i inlX3) hown hK hP hL_o hK_o (by decide) rfl 1 (by decide) (hts _ (tw_c tw_128)) (pq_hv rfl hR_o_texts) dX3_copyFrom_22 ?_
  refine lv_iload_n hx hb dX3_copyFrom_25 rfl (lv_at hl 0 rfl) ?_
  refine pl_qn hx hb hK hP hq0 hL_o_texts hK_o_texts hN_o_texts (vp_in_iff.mpr (by decide)) dX3_copyFrom_26 ?_
  refine pt_n hx hb hK hP hD hS hq0 hL_this_texts hK_this_texts hN_this_texts (vp_in_iff.mpr (by decide)) dX3_copyFrom_27 (fun H locs hP hD hS => ?_)
  refine lv_iinc (v := 1) (lv' := [(2, .int 1), (0, .ref this), (1, .ref o)]) hx hb dX3_copyFrom_28 hl (k := 0) rfl (by decide) (by decide) rfl (fun ls hl => ?_)
  refine lv_goto (tgt := 10) hx hb dX3_copyFrom_31 (by decide) ?_
  refine lv_iload_n hx hb dX3_copyFrom_10 rfl (lv_at hl 0 rfl) ?_
  refine lv_bipush (v := 10) hx hb dX3_copyFrom_11 (by decide) ?_
  refine lv_icmp_ge (tgt := 34) hx hb dX3_copyFrom_13 (by decide) (fun c_3 => absurd c_3 (by decide)) (fun c_3 => ?_)
  refine lv_aload_n hx hb dX3_copyFrom_16 rfl (lv_at hl 1 rfl) ?_
  refine pg_f (v := .ref this_texts) (C := RX3) (T := TX3) (N := 8) hx hb hts (tw_i inlX3) hown hK hP hL_this hK_this (by decide) rfl 1 (by decide) (hts _ (tw_c tw_128)) (pq_hv rfl hR_this_texts) dX3_copyFrom_17 ?_
  refine lv_iload_n hx hb dX3_copyFrom_20 rfl (lv_at hl 0 rfl) ?_
  refine lv_aload_n hx hb dX3_copyFrom_21 rfl (lv_at hl 2 rfl) ?_
  refine pg_f (v := .ref o_texts) (C := RX3) (T := TX3) (N := 8) hx hb hts (tw_i inlX3) hown hK hP hL_o hK_o (by decide) rfl 1 (by decide) (hts _ (tw_c tw_128)) (pq_hv rfl hR_o_texts) dX3_copyFrom_22 ?_
  refine lv_iload_n hx hb dX3_copyFrom_25 rfl (lv_at hl 0 rfl) ?_
  refine pl_qn hx hb hK hP hq0 hL_o_texts hK_o_texts hN_o_texts (vp_in_iff.mpr (by decide)) dX3_copyFrom_26 ?_
  refine pt_n hx hb hK hP hD hS hq0 hL_this_texts hK_this_texts hN_this_texts (vp_in_iff.mpr (by decide)) dX3_copyFrom_27 (fun H locs hP hD hS => ?_)
  refine lv_iinc (v := 2) (lv' := [(2, .int 2), (0, .ref this), (1, .ref o)]) hx hb dX3_copyFrom_28 hl (k := 0) rfl (by decide) (by decide) rfl (fun ls hl => ?_)
  refine lv_goto (tgt := 10) hx hb dX3_copyFrom_31 (by decide) ?_
  refine lv_iload_n hx hb dX3_copyFrom_10 rfl (lv_at hl 0 rfl) ?_
  refine lv_bipush (v := 10) hx hb dX3_copyFrom_11 (by decide) ?_
  refine lv_icmp_ge (tgt := 34) hx hb dX3_copyFrom_13 (by decide) (fun c_4 => absurd c_4 (by decide)) (fun c_4 => ?_)
  refine lv_aload_n hx hb dX3_copyFrom_16 rfl (lv_at hl 1 rfl) ?_
  refine pg_f (v := .ref this_texts) (C := RX3) (T := TX3) (N := 8) hx hb hts (tw_i inlX3) hown hK hP hL_this hK_this (by decide) rfl 1 (by decide) (hts _ (tw_c tw_128)) (pq_hv rfl hR_this_texts) dX3_copyFrom_17 ?_
  refine lv_iload_n hx hb dX3_copyFrom_20 rfl (lv_at hl 0 rfl) ?_
  refine lv_aload_n hx hb dX3_copyFrom_21 rfl (lv_at hl 2 rfl) ?_
  refine pg_f (v := .ref o_texts) (C := RX3) (T := TX3) (N := 8) hx hb hts (tw_i inlX3) hown hK hP hL_o hK_o (by decide) rfl 1 (by decide) (hts _ (tw_c tw_128)) (pq_hv rfl hR_o_texts) dX3_copyFrom_22 ?_
  refine lv_iload_n hx hb dX3_copyFrom_25 rfl (lv_at hl 0 rfl) ?_
  refine pl_qn hx hb hK hP hq0 hL_o_texts hK_o_texts hN_o_texts (vp_in_iff.mpr (by decide)) dX3_copyFrom_26 ?_
  refine pt_n hx hb hK hP hD hS hq0 hL_this_texts hK_this_texts hN_this_texts (vp_in_iff.mpr (by decide)) dX3_copyFrom_27 (fun H locs hP hD hS => ?_)
  refine lv_iinc (v := 3) (lv' := [(2, .int 3), (0, .ref this), (1, .ref o)]) hx hb dX3_copyFrom_28 hl (k := 0) rfl (by decide) (by decide) rfl (fun ls hl => ?_)
  refine lv_goto (tgt := 10) hx hb dX3_copyFrom_31 (by decide) ?_
  refine lv_iload_n hx hb dX3_copyFrom_10 rfl (lv_at hl 0 rfl) ?_
  refine lv_bipush (v := 10) hx hb dX3_copyFrom_11 (by decide) ?_
  refine lv_icmp_ge (tgt := 34) hx hb dX3_copyFrom_13 (by decide) (fun c_5 => absurd c_5 (by decide)) (fun c_5 => ?_)
  refine lv_aload_n hx hb dX3_copyFrom_16 rfl (lv_at hl 1 rfl) ?_
  refine pg_f (v := .ref this_texts) (C := RX3) (T := TX3) (N := 8) hx hb hts (tw_i inlX3) hown hK hP hL_this hK_this (by decide) rfl 1 (by decide) (hts _ (tw_c tw_128)) (pq_hv rfl hR_this_texts) dX3_copyFrom_17 ?_
  refine lv_iload_n hx hb dX3_copyFrom_20 rfl (lv_at hl 0 rfl) ?_
  refine lv_aload_n hx hb dX3_copyFrom_21 rfl (lv_at hl 2 rfl) ?_
  refine pg_f (v := .ref o_texts) (C := RX3) (T := TX3) (N := 8) hx hb hts (tw_i inlX3) hown hK hP hL_o hK_o (by decide) rfl 1 (by decide) (hts _ (tw_c tw_128)) (pq_hv rfl hR_o_texts) dX3_copyFrom_22 ?_
  refine lv_iload_n hx hb dX3_copyFrom_25 rfl (lv_at hl 0 rfl) ?_
  refine pl_qn hx hb hK hP hq0 hL_o_texts hK_o_texts hN_o_texts (vp_in_iff.mpr (by decide)) dX3_copyFrom_26 ?_
  refine pt_n hx hb hK hP hD hS hq0 hL_this_texts hK_this_texts hN_this_texts (vp_in_iff.mpr (by decide)) dX3_copyFrom_27 (fun H locs hP hD hS => ?_)
  refine lv_iinc (v := 4) (lv' := [(2, .int 4), (0, .ref this), (1, .ref o)]) hx hb dX3_copyFrom_28 hl (k := 0) rfl (by decide) (by decide) rfl (fun ls hl => ?_)
  refine lv_goto (tgt := 10) hx hb dX3_copyFrom_31 (by decide) ?_
  refine lv_iload_n hx hb dX3_copyFrom_10 rfl (lv_at hl 0 rfl) ?_
  refine lv_bipush (v := 10) hx hb dX3_copyFrom_11 (by decide) ?_
  refine lv_icmp_ge (tgt := 34) hx hb dX3_copyFrom_13 (by decide) (fun c_6 => absurd c_6 (by decide)) (fun c_6 => ?_)
  refine lv_aload_n hx hb dX3_copyFrom_16 rfl (lv_at hl 1 rfl) ?_
  refine pg_f (v := .ref this_texts) (C := RX3) (T := TX3) (N := 8) hx hb hts (tw_i inlX3) hown hK hP hL_this hK_this (by decide) rfl 1 (by decide) (hts _ (tw_c tw_128)) (pq_hv rfl hR_this_texts) dX3_copyFrom_17 ?_
  refine lv_iload_n hx hb dX3_copyFrom_20 rfl (lv_at hl 0 rfl) ?_
  refine lv_aload_n hx hb dX3_copyFrom_21 rfl (lv_at hl 2 rfl) ?_
  refine pg_f (v := .ref o_texts) (C := RX3) (T := TX3) (N := 8) hx hb hts (tw_i inlX3) hown hK hP hL_o hK_o (by decide) rfl 1 (by decide) (hts _ (tw_c tw_128)) (pq_hv rfl hR_o_texts) dX3_copyFrom_22 ?_
  refine lv_iload_n hx hb dX3_copyFrom_25 rfl (lv_at hl 0 rfl) ?_
  refine pl_qn hx hb hK hP hq0 hL_o_texts hK_o_texts hN_o_texts (vp_in_iff.mpr (by decide)) dX3_copyFrom_26 ?_
  refine pt_n hx hb hK hP hD hS hq0 hL_this_texts hK_this_texts hN_this_texts (vp_in_iff.mpr (by decide)) dX3_copyFrom_27 (fun H locs hP hD hS => ?_)
  refine lv_iinc (v := 5) (lv' := [(2, .int 5), (0, .ref this), (1, .ref o)]) hx hb dX3_copyFrom_28 hl (k := 0) rfl (by decide) (by decide) rfl (fun ls hl => ?_)
  refine lv_goto (tgt := 10) hx hb dX3_copyFrom_31 (by decide) ?_
  refine lv_iload_n hx hb dX3_copyFrom_10 rfl (lv_at hl 0 rfl) ?_
  refine lv_bipush (v := 10) hx hb dX3_copyFrom_11 (by decide) ?_
  refine lv_icmp_ge (tgt := 34) hx hb dX3_copyFrom_13 (by decide) (fun c_7 => absurd c_7 (by decide)) (fun c_7 => ?_)
  refine lv_aload_n hx hb dX3_copyFrom_16 rfl (lv_at hl 1 rfl) ?_
  refine pg_f (v := .ref this_texts) (C := RX3) (T := TX3) (N := 8) hx hb hts (tw_i inlX3) hown hK hP hL_this hK_this (by decide) rfl 1 (by decide) (hts _ (tw_c tw_128)) (pq_hv rfl hR_this_texts) dX3_copyFrom_17 ?_
  refine lv_iload_n hx hb dX3_copyFrom_20 rfl (lv_at hl 0 rfl) ?_
  refine lv_aload_n hx hb dX3_copyFrom_21 rfl (lv_at hl 2 rfl) ?_
  refine pg_f (v := .ref o_texts) (C := RX3) (T := TX3) (N := 8) hx hb hts (tw_i inlX3) hown hK hP hL_o hK_o (by decide) rfl 1 (by decide) (hts _ (tw_c tw_128)) (pq_hv rfl hR_o_texts) dX3_copyFrom_22 ?_
  refine lv_iload_n hx hb dX3_copyFrom_25 rfl (lv_at hl 0 rfl) ?_
  refine pl_qn hx hb hK hP hq0 hL_o_texts hK_o_texts hN_o_texts (vp_in_iff.mpr (by decide)) dX3_copyFrom_26 ?_
  refine pt_n hx hb hK hP hD hS hq0 hL_this_texts hK_this_texts hN_this_texts (vp_in_iff.mpr (by decide)) dX3_copyFrom_27 (fun H locs hP hD hS => ?_)
  refine lv_iinc (v := 6) (lv' := [(2, .int 6), (0, .ref this), (1, .ref o)]) hx hb dX3_copyFrom_28 hl (k := 0) rfl (by decide) (by decide) rfl (fun ls hl => ?_)
  refine lv_goto (tgt := 10) hx hb dX3_copyFrom_31 (by decide) ?_
  refine lv_iload_n hx hb dX3_copyFrom_10 rfl (lv_at hl 0 rfl) ?_
  refine lv_bipush (v := 10) hx hb dX3_copyFrom_11 (by decide) ?_
  refine lv_icmp_ge (tgt := 34) hx hb dX3_copyFrom_13 (by decide) (fun c_8 => absurd c_8 (by decide)) (fun c_8 => ?_)
  refine lv_aload_n hx hb dX3_copyFrom_16 rfl (lv_at hl 1 rfl) ?_
  refine pg_f (v := .ref this_texts) (C := RX3) (T := TX3) (N := 8) hx hb hts (tw_i inlX3) hown hK hP hL_this hK_this (by decide) rfl 1 (by decide) (hts _ (tw_c tw_128)) (pq_hv rfl hR_this_texts) dX3_copyFrom_17 ?_
  refine lv_iload_n hx hb dX3_copyFrom_20 rfl (lv_at hl 0 rfl) ?_
  refine lv_aload_n hx hb dX3_copyFrom_21 rfl (lv_at hl 2 rfl) ?_
  refine pg_f (v := .ref o_texts) (C := RX3) (T := TX3) (N := 8) hx hb hts (tw_i inlX3) hown hK hP hL_o hK_o (by decide) rfl 1 (by decide) (hts _ (tw_c tw_128)) (pq_hv rfl hR_o_texts) dX3_copyFrom_22 ?_
  refine lv_iload_n hx hb dX3_copyFrom_25 rfl (lv_at hl 0 rfl) ?_
  refine pl_qn hx hb hK hP hq0 hL_o_texts hK_o_texts hN_o_texts (vp_in_iff.mpr (by decide)) dX3_copyFrom_26 ?_
  refine pt_n hx hb hK hP hD hS hq0 hL_this_texts hK_this_texts hN_this_texts (vp_in_iff.mpr (by decide)) dX3_copyFrom_27 (fun H locs hP hD hS => ?_)
  refine lv_iinc (v := 7) (lv' := [(2, .int 7), (0, .ref this), (1, .ref o)]) hx hb dX3_copyFrom_28 hl (k := 0) rfl (by decide) (by decide) rfl (fun ls hl => ?_)
  refine lv_goto (tgt := 10) hx hb dX3_copyFrom_31 (by decide) ?_
  refine lv_iload_n hx hb dX3_copyFrom_10 rfl (lv_at hl 0 rfl) ?_
  refine lv_bipush (v := 10) hx hb dX3_copyFrom_11 (by decide) ?_
  refine lv_icmp_ge (tgt := 34) hx hb dX3_copyFrom_13 (by decide) (fun c_9 => absurd c_9 (by decide)) (fun c_9 => ?_)
  refine lv_aload_n hx hb dX3_copyFrom_16 rfl (lv_at hl 1 rfl) ?_
  refine pg_f (v := .ref this_texts) (C := RX3) (T := TX3) (N := 8) hx hb hts (tw_i inlX3) hown hK hP hL_this hK_this (by decide) rfl 1 (by decide) (hts _ (tw_c tw_128)) (pq_hv rfl hR_this_texts) dX3_copyFrom_17 ?_
  refine lv_iload_n hx hb dX3_copyFrom_20 rfl (lv_at hl 0 rfl) ?_
  refine lv_aload_n hx hb dX3_copyFrom_21 rfl (lv_at hl 2 rfl) ?_
  refine pg_f (v := .ref o_texts) (C := RX3) (T := TX3) (N := 8) hx hb hts (tw_i inlX3) hown hK hP hL_o hK_o (by decide) rfl 1 (by decide) (hts _ (tw_c tw_128)) (pq_hv rfl hR_o_texts) dX3_copyFrom_22 ?_
  refine lv_iload_n hx hb dX3_copyFrom_25 rfl (lv_at hl 0 rfl) ?_
  refine pl_qn hx hb hK hP hq0 hL_o_texts hK_o_texts hN_o_texts (vp_in_iff.mpr (by decide)) dX3_copyFrom_26 ?_
  refine pt_n hx hb hK hP hD hS hq0 hL_this_texts hK_this_texts hN_this_texts (vp_in_iff.mpr (by decide)) dX3_copyFrom_27 (fun H locs hP hD hS => ?_)
  refine lv_iinc (v := 8) (lv' := [(2, .int 8), (0, .ref this), (1, .ref o)]) hx hb dX3_copyFrom_28 hl (k := 0) rfl (by decide) (by decide) rfl (fun ls hl => ?_)
  refine lv_goto (tgt := 10) hx hb dX3_copyFrom_31 (by decide) ?_
  refine lv_iload_n hx hb dX3_copyFrom_10 rfl (lv_at hl 0 rfl) ?_
  refine lv_bipush (v := 10) hx hb dX3_copyFrom_11 (by decide) ?_
  refine lv_icmp_ge (tgt := 34) hx hb dX3_copyFrom_13 (by decide) (fun c_10 => absurd c_10 (by decide)) (fun c_10 => ?_)
  refine lv_aload_n hx hb dX3_copyFrom_16 rfl (lv_at hl 1 rfl) ?_
  refine pg_f (v := .ref this_texts) (C := RX3) (T := TX3) (N := 8) hx hb hts (tw_i inlX3) hown hK hP hL_this hK_this (by decide) rfl 1 (by decide) (hts _ (tw_c tw_128)) (pq_hv rfl hR_this_texts) dX3_copyFrom_17 ?_
  refine lv_iload_n hx hb dX3_copyFrom_20 rfl (lv_at hl 0 rfl) ?_
  refine lv_aload_n hx hb dX3_copyFrom_21 rfl (lv_at hl 2 rfl) ?_
  refine pg_f (v := .ref o_texts) (C := RX3) (T := TX3) (N := 8) hx hb hts (tw_i inlX3) hown hK hP hL_o hK_o (by decide) rfl 1 (by decide) (hts _ (tw_c tw_128)) (pq_hv rfl hR_o_texts) dX3_copyFrom_22 ?_
  refine lv_iload_n hx hb dX3_copyFrom_25 rfl (lv_at hl 0 rfl) ?_
  refine pl_qn hx hb hK hP hq0 hL_o_texts hK_o_texts hN_o_texts (vp_in_iff.mpr (by decide)) dX3_copyFrom_26 ?_
  refine pt_n hx hb hK hP hD hS hq0 hL_this_texts hK_this_texts hN_this_texts (vp_in_iff.mpr (by decide)) dX3_copyFrom_27 (fun H locs hP hD hS => ?_)
  refine lv_iinc (v := 9) (lv' := [(2, .int 9), (0, .ref this), (1, .ref o)]) hx hb dX3_copyFrom_28 hl (k := 0) rfl (by decide) (by decide) rfl (fun ls hl => ?_)
  refine lv_goto (tgt := 10) hx hb dX3_copyFrom_31 (by decide) ?_
  refine lv_iload_n hx hb dX3_copyFrom_10 rfl (lv_at hl 0 rfl) ?_
  refine lv_bipush (v := 10) hx hb dX3_copyFrom_11 (by decide) ?_
  refine lv_icmp_ge (tgt := 34) hx hb dX3_copyFrom_13 (by decide) (fun c_11 => absurd c_11 (by decide)) (fun c_11 => ?_)
  refine lv_aload_n hx hb dX3_copyFrom_16 rfl (lv_at hl 1 rfl) ?_
  refine pg_f (v := .ref this_texts) (C := RX3) (T := TX3) (N := 8) hx hb hts (tw_i inlX3) hown hK hP hL_this hK_this (by decide) rfl 1 (by decide) (hts _ (tw_c tw_128)) (pq_hv rfl hR_this_texts) dX3_copyFrom_17 ?_
  refine lv_iload_n hx hb dX3_copyFrom_20 rfl (lv_at hl 0 rfl) ?_
  refine lv_aload_n hx hb dX3_copyFrom_21 rfl (lv_at hl 2 rfl) ?_
  refine pg_f (v := .ref o_texts) (C := RX3) (T := TX3) (N := 8) hx hb hts (tw_i inlX3) hown hK hP hL_o hK_o (by decide) rfl 1 (by decide) (hts _ (tw_c tw_128)) (pq_hv rfl hR_o_texts) dX3_copyFrom_22 ?_
  refine lv_iload_n hx hb dX3_copyFrom_25 rfl (lv_at hl 0 rfl) ?_
  refine pl_qn hx hb hK hP hq0 hL_o_texts hK_o_texts hN_o_texts (vp_in_iff.mpr (by decide)) dX3_copyFrom_26 ?_
  refine pt_n hx hb hK hP hD hS hq0 hL_this_texts hK_this_texts hN_this_texts (vp_in_iff.mpr (by decide)) dX3_copyFrom_27 (fun H locs hP hD hS => ?_)
  refine lv_iinc (v := 10) (lv' := [(2, .int 10), (0, .ref this), (1, .ref o)]) hx hb dX3_copyFrom_28 hl (k := 0) rfl (by decide) (by decide) rfl (fun ls hl => ?_)
  refine lv_goto (tgt := 10) hx hb dX3_copyFrom_31 (by decide) ?_
  refine lv_iload_n hx hb dX3_copyFrom_10 rfl (lv_at hl 0 rfl) ?_
  refine lv_bipush (v := 10) hx hb dX3_copyFrom_11 (by decide) ?_
  refine lv_icmp_ge (tgt := 34) hx hb dX3_copyFrom_13 (by decide) (fun c_12 => ?_) (fun c_12 => absurd c_12 (by decide))
  refine lv_aload_n hx hb dX3_copyFrom_34 rfl (lv_at hl 1 rfl) ?_
  refine lv_aload_n hx hb dX3_copyFrom_35 rfl (lv_at hl 2 rfl) ?_
  refine pg_f (v := .int (I 98 o)) (C := RX3) (T := TX3) (N := 8) hx hb hts (tw_i inlX3) hown hK hP hL_o hK_o (by decide) rfl 2 (by decide) (hts _ (tw_c tw_473)) rfl dX3_copyFrom_36 ?_
  refine lv_tov 0 (congrFun (hZ 98 (by decide)) o) ?_
  refine pp_i (v := 0) (ty := .int) (C := RX3) (T := TX3) (N := 8) hx hb hts (tw_i inlX3) tyX3 tyX3_ok nmX3 hown hK hP hD hS hL_this hK_this (by decide) rfl 2 98 (by decide) (hts _ (tw_c tw_473)) rfl (by decide +kernel) rfl rfl (Nat.le_of_ble_eq_true rfl) (ps_98 _ _ _ _ _) dX3_copyFrom_39 (fun I_13 H locs eI_13 hP hD hS => ?_)
  have eI_13 : I_13 = I := by rw [eI_13]; exact pq_uc _ _ _ _ (hZ 98 (by decide))
  rw [eI_13] at hP hD
  refine lv_aload_n hx hb dX3_copyFrom_42 rfl (lv_at hl 2 rfl) ?_
  refine pg_f (v := .ref o_forceText) (C := RX3) (T := TX3) (N := 8) hx hb hts (tw_i inlX3) hown hK hP hL_o hK_o (by decide) rfl 3 (by decide) (hts _ (tw_c tw_129)) (pq_hv rfl hR_o_forceText) dX3_copyFrom_43 ?_
  refine lv_aload_n hx hb dX3_copyFrom_46 rfl (lv_at hl 1 rfl) ?_
  refine pg_f (v := .ref this_forceText) (C := RX3) (T := TX3) (N := 8) hx hb hts (tw_i inlX3) hown hK hP hL_this hK_this (by decide) rfl 3 (by decide) (hts _ (tw_c tw_129)) (pq_hv rfl hR_this_forceText) dX3_copyFrom_47 ?_
  refine pk_v (va_runSN (As := [.ref o_forceText, .ref this_forceText]) (rest := []) ⟨hx, hb, hml, hown, hts⟩ (c_X11_copy l D t σ I J ri rj rq H.size o_forceText this_forceText 30 hL_o_forceText hK_o_forceText hN_o_forceText hL_this_forceText hK_this_forceText hN_this_forceText (by omega)) ⟨va_cnB (host := "RingsUnder") 2 hts (tw_W tw_1102) rfl rfl rfl (nl_21 hN) (hts _ (tw_c tw_2)) (by decide +kernel) ⟨Nat.le_of_ble_eq_true rfl, Nat.le_of_ble_eq_true rfl⟩, hts (.static yX11_copy) (by decide +kernel), trivial⟩ ⟨pq_blind, pq_pre hK hN hP hD⟩ rfl rfl hl.1 rfl (lv_room (Nat.le_of_ble_eq_true rfl)) dX3_copyFrom_50 ⟨Nat.le_of_ble_eq_true rfl, Nat.le_of_ble_eq_true rfl⟩) hD hS hA (fun σ1 μ1 H locs hw_15 hP hD hS => ?_)
  obtain ⟨ri_16, hu_17⟩ := hw_15
  obtain ⟨hu_17a, hu_17b⟩ := Prod.mk.inj hu_17
  rw [hu_17a, hu_17b] at hP hD
  refine lv_aload_n hx hb dX3_copyFrom_53 rfl (lv_at hl 2 rfl) ?_
  refine pg_f (v := .ref o_forceFrom) (C := RX3) (T := TX3) (N := 8) hx hb hts (tw_i inlX3) hown hK hP hL_o hK_o (by decide) rfl 4 (by decide) (hts _ (tw_c tw_130)) (pq_hv rfl hR_o_forceFrom) dX3_copyFrom_54 ?_
  refine lv_aload_n hx hb dX3_copyFrom_57 rfl (lv_at hl 1 rfl) ?_
  refine pg_f (v := .ref this_forceFrom) (C := RX3) (T := TX3) (N := 8) hx hb hts (tw_i inlX3) hown hK hP hL_this hK_this (by decide) rfl 4 (by decide) (hts _ (tw_c tw_130)) (pq_hv rfl hR_this_forceFrom) dX3_copyFrom_58 ?_
  refine pk_v (va_runSN (As := [.ref o_forceFrom, .ref this_forceFrom]) (rest := []) ⟨hx, hb, hml, hown, hts⟩ (c_X11_copy l D t σ I J ri_16 rj rq H.size o_forceFrom this_forceFrom 30 hL_o_forceFrom hK_o_forceFrom hN_o_forceFrom hL_this_forceFrom hK_this_forceFrom hN_this_forceFrom (by omega)) ⟨va_cnB (host := "RingsUnder") 2 hts (tw_W tw_1102) rfl rfl rfl (nl_21 hN) (hts _ (tw_c tw_2)) (by decide +kernel) ⟨Nat.le_of_ble_eq_true rfl, Nat.le_of_ble_eq_true rfl⟩, hts (.static yX11_copy) (by decide +kernel), trivial⟩ ⟨pq_blind, pq_pre hK hN hP hD⟩ rfl rfl hl.1 rfl (lv_room (Nat.le_of_ble_eq_true rfl)) dX3_copyFrom_61 ⟨Nat.le_of_ble_eq_true rfl, Nat.le_of_ble_eq_true rfl⟩) hD hS hA (fun σ1 μ1 H locs hw_20 hP hD hS => ?_)
  obtain ⟨ri_21, hu_22⟩ := hw_20
  obtain ⟨hu_22a, hu_22b⟩ := Prod.mk.inj hu_22
  rw [hu_22a, hu_22b] at hP hD
  refine lv_aload_n hx hb dX3_copyFrom_64 rfl (lv_at hl 2 rfl) ?_
  refine pg_f (v := .ref o_forceTo) (C := RX3) (T := TX3) (N := 8) hx hb hts (tw_i inlX3) hown hK hP hL_o hK_o (by decide) rfl 5 (by decide) (hts _ (tw_c tw_131)) (pq_hv rfl hR_o_forceTo) dX3_copyFrom_65 ?_
  refine lv_aload_n hx hb dX3_copyFrom_68 rfl (lv_at hl 1 rfl) ?_
  refine pg_f (v := .ref this_forceTo) (C := RX3) (T := TX3) (N := 8) hx hb hts (tw_i inlX3) hown hK hP hL_this hK_this (by decide) rfl 5 (by decide) (hts _ (tw_c tw_131)) (pq_hv rfl hR_this_forceTo) dX3_copyFrom_69 ?_
  refine pk_v (va_runSN (As := [.ref o_forceTo, .ref this_forceTo]) (rest := []) ⟨hx, hb, hml, hown, hts⟩ (c_X11_copy l D t σ I J ri_21 rj rq H.size o_forceTo this_forceTo 30 hL_o_forceTo hK_o_forceTo hN_o_forceTo hL_this_forceTo hK_this_forceTo hN_this_forceTo (by omega)) ⟨va_cnB (host := "RingsUnder") 2 hts (tw_W tw_1102) rfl rfl rfl (nl_21 hN) (hts _ (tw_c tw_2)) (by decide +kernel) ⟨Nat.le_of_ble_eq_true rfl, Nat.le_of_ble_eq_true rfl⟩, hts (.static yX11_copy) (by decide +kernel), trivial⟩ ⟨pq_blind, pq_pre hK hN hP hD⟩ rfl rfl hl.1 rfl (lv_room (Nat.le_of_ble_eq_true rfl)) dX3_copyFrom_72 ⟨Nat.le_of_ble_eq_true rfl, Nat.le_of_ble_eq_true rfl⟩) hD hS hA (fun σ1 μ1 H locs hw_25 hP hD hS => ?_)
  obtain ⟨ri_26, hu_27⟩ := hw_25
  obtain ⟨hu_27a, hu_27b⟩ := Prod.mk.inj hu_27
  rw [hu_27a, hu_27b] at hP hD
  exact W.vret hx hb hr (fun t1 ht hW => ⟨⟨(σ, I, J, ri_26, rj, rq), rfl, ⟨ri_26, rfl⟩, by rw [ht]; exact hP, va_K.moved hW.alike hK, hD⟩, hS.F ht⟩) hS.2.2 dX3_copyFrom_75

set_option maxHeartbeats 4000000 in
set_option maxRecDepth 100000 in
theorem c_X10_copyFrom (l : Launch) (D : va_G) (t : pq_T) (σ : pq_S) (I : Nat → Nat → Int32) (J : Nat → Nat → Int64) (ri : Nat → Nat → Int32) (rj : Nat → Nat → Int64) (rq : Nat → Nat → Option Nat) (sz : Nat) (this : Nat) (o : Nat) (hL_this : this ∈ σ.1) (hK_this : σ.2.1 this = 10) (hL_o : o ∈ σ.1) (hK_o : σ.2.1 o = 10) (o_seas : Nat) (hR_o_seas : σ.2.2.1 326 o = some o_seas) (hL_o_seas : o_seas ∈ σ.1) (hK_o_seas : σ.2.1 o_seas = 7) (o_holder : Nat) (hR_o_holder : σ.2.2.1 325 o = some o_holder) (hL_o_holder : o_holder ∈ σ.1) (hK_o_holder : σ.2.1 o_holder = 13) (hN_o_holder : σ.2.2.2 o_holder = 40) (this_holder : Nat) (hR_this_holder : σ.2.2.1 325 this = some this_holder) (hL_this_holder : this_holder ∈ σ.1) (hK_this_holder : σ.2.1 this_holder = 13) (hN_this_holder : σ.2.2.2 this_holder = 40) (this_seas : Nat) (hR_this_seas : σ.2.2.1 326 this = some this_seas) (hL_this_seas : this_seas ∈ σ.1) (hK_this_seas : σ.2.1 this_seas = 7) (o_seas_rise : Nat) (hR_o_seas_rise : σ.2.2.1 225 o_seas = some o_seas_rise) (hL_o_seas_rise : o_seas_rise ∈ σ.1) (hK_o_seas_rise : σ.2.1 o_seas_rise = 13) (hN_o_seas_rise : σ.2.2.2 o_seas_rise = 200) (this_seas_rise : Nat) (hR_this_seas_rise : σ.2.2.1 225 this_seas = some this_seas_rise) (hL_this_seas_rise : this_seas_rise ∈ σ.1) (hK_this_seas_rise : σ.2.1 this_seas_rise = 13) (hN_this_seas_rise : σ.2.2.2 this_seas_rise = 200) (o_seas_month : Nat) (hR_o_seas_month : σ.2.2.1 226 o_seas = some o_seas_month) (hL_o_seas_month : o_seas_month ∈ σ.1) (hK_o_seas_month : σ.2.1 o_seas_month = 13) (hN_o_seas_month : σ.2.2.2 o_seas_month = 200) (this_seas_month : Nat) (hR_this_seas_month : σ.2.2.1 226 this_seas = some this_seas_month) (hL_this_seas_month : this_seas_month ∈ σ.1) (hK_this_seas_month : σ.2.1 this_seas_month = 13) (hN_this_seas_month : σ.2.2.2 this_seas_month = 200) (o_seas_value : Nat) (hR_o_seas_value : σ.2.2.1 227 o_seas = some o_seas_value) (hL_o_seas_value : o_seas_value ∈ σ.1) (hK_o_seas_value : σ.2.1 o_seas_value = 13) (hN_o_seas_value : σ.2.2.2 o_seas_value = 200) (this_seas_value : Nat) (hR_this_seas_value : σ.2.2.1 227 this_seas = some this_seas_value) (hL_this_seas_value : this_seas_value ∈ σ.1) (hK_this_seas_value : σ.2.1 this_seas_value = 13) (hN_this_seas_value : σ.2.2.2 this_seas_value = 200) (o_seas_told : Nat) (hR_o_seas_told : σ.2.2.1 228 o_seas = some o_seas_told) (hL_o_seas_told : o_seas_told ∈ σ.1) (hK_o_seas_told : σ.2.1 o_seas_told = 13) (hN_o_seas_told : σ.2.2.2 o_seas_told = 200) (this_seas_told : Nat) (hR_this_seas_told : σ.2.2.1 228 this_seas = some this_seas_told) (hL_this_seas_told : this_seas_told ∈ σ.1) (hK_this_seas_told : σ.2.1 this_seas_told = 13) (hN_this_seas_told : σ.2.2.2 this_seas_told = 200) (o_seas_low : Nat) (hR_o_seas_low : σ.2.2.1 229 o_seas = some o_seas_low) (hL_o_seas_low : o_seas_low ∈ σ.1) (hK_o_seas_low : σ.2.1 o_seas_low = 13) (hN_o_seas_low : σ.2.2.2 o_seas_low = 12) (this_seas_low : Nat) (hR_this_seas_low : σ.2.2.1 229 this_seas = some this_seas_low) (hL_this_seas_low : this_seas_low ∈ σ.1) (hK_this_seas_low : σ.2.1 this_seas_low = 13) (hN_this_seas_low : σ.2.2.2 this_seas_low = 12) (o_seas_high : Nat) (hR_o_seas_high : σ.2.2.1 230 o_seas = some o_seas_high) (hL_o_seas_high : o_seas_high ∈ σ.1) (hK_o_seas_high : σ.2.1 o_seas_high = 13) (hN_o_seas_high : σ.2.2.2 o_seas_high = 12) (this_seas_high : Nat) (hR_this_seas_high : σ.2.2.1 230 this_seas = some this_seas_high) (hL_this_seas_high : this_seas_high ∈ σ.1) (hK_this_seas_high : σ.2.1 this_seas_high = 13) (hN_this_seas_high : σ.2.2.2 this_seas_high = 12) (o_seas_warm : Nat) (hR_o_seas_warm : σ.2.2.1 231 o_seas = some o_seas_warm) (hL_o_seas_warm : o_seas_warm ∈ σ.1) (hK_o_seas_warm : σ.2.1 o_seas_warm = 13) (hN_o_seas_warm : σ.2.2.2 o_seas_warm = 12) (this_seas_warm : Nat) (hR_this_seas_warm : σ.2.2.1 231 this_seas = some this_seas_warm) (hL_this_seas_warm : this_seas_warm ∈ σ.1) (hK_this_seas_warm : σ.2.1 this_seas_warm = 13) (hN_this_seas_warm : σ.2.2.2 this_seas_warm = 12) (o_seas_drift : Nat) (hR_o_seas_drift : σ.2.2.1 232 o_seas = some o_seas_drift) (hL_o_seas_drift : o_seas_drift ∈ σ.1) (hK_o_seas_drift : σ.2.1 o_seas_drift = 13) (hN_o_seas_drift : σ.2.2.2 o_seas_drift = 12) (this_seas_drift : Nat) (hR_this_seas_drift : σ.2.2.1 232 this_seas = some this_seas_drift) (hL_this_seas_drift : this_seas_drift ∈ σ.1) (hK_this_seas_drift : σ.2.1 this_seas_drift = 13) (hN_this_seas_drift : σ.2.2.2 this_seas_drift = 12) (o_seas_rain : Nat) (hR_o_seas_rain : σ.2.2.1 233 o_seas = some o_seas_rain) (hL_o_seas_rain : o_seas_rain ∈ σ.1) (hK_o_seas_rain : σ.2.1 o_seas_rain = 13) (hN_o_seas_rain : σ.2.2.2 o_seas_rain = 12) (this_seas_rain : Nat) (hR_this_seas_rain : σ.2.2.1 233 this_seas = some this_seas_rain) (hL_this_seas_rain : this_seas_rain ∈ σ.1) (hK_this_seas_rain : σ.2.1 this_seas_rain = 13) (hN_this_seas_rain : σ.2.2.2 this_seas_rain = 12) (this_land : Nat) (hR_this_land : σ.2.2.1 327 this = some this_land) (hL_this_land : this_land ∈ σ.1) (hK_this_land : σ.2.1 this_land = 2) (o_land : Nat) (hR_o_land : σ.2.2.1 327 o = some o_land) (hL_o_land : o_land ∈ σ.1) (hK_o_land : σ.2.1 o_land = 2) (o_land_rocks : Nat) (hR_o_land_rocks : σ.2.2.1 68 o_land = some o_land_rocks) (hL_o_land_rocks : o_land_rocks ∈ σ.1) (hK_o_land_rocks : σ.2.1 o_land_rocks = 14) (hN_o_land_rocks : σ.2.2.2 o_land_rocks = 600) (this_land_rocks : Nat) (hR_this_land_rocks : σ.2.2.1 68 this_land = some this_land_rocks) (hL_this_land_rocks : this_land_rocks ∈ σ.1) (hK_this_land_rocks : σ.2.1 this_land_rocks = 14) (hN_this_land_rocks : σ.2.2.2 this_land_rocks = 600) (o_land_ring : Nat) (hR_o_land_ring : σ.2.2.1 69 o_land = some o_land_ring) (hL_o_land_ring : o_land_ring ∈ σ.1) (hK_o_land_ring : σ.2.1 o_land_ring = 13) (hN_o_land_ring : σ.2.2.2 o_land_ring = 40) (this_land_ring : Nat) (hR_this_land_ring : σ.2.2.1 69 this_land = some this_land_ring) (hL_this_land_ring : this_land_ring ∈ σ.1) (hK_this_land_ring : σ.2.1 this_land_ring = 13) (hN_this_land_ring : σ.2.2.2 this_land_ring = 40) (o_land_height : Nat) (hR_o_land_height : σ.2.2.1 70 o_land = some o_land_height) (hL_o_land_height : o_land_height ∈ σ.1) (hK_o_land_height : σ.2.1 o_land_height = 13) (hN_o_land_height : σ.2.2.2 o_land_height = 40) (this_land_height : Nat) (hR_this_land_height : σ.2.2.1 70 this_land = some this_land_height) (hL_this_land_height : this_land_height ∈ σ.1) (hK_this_land_height : σ.2.1 this_land_height = 13) (hN_this_land_height : σ.2.2.2 this_land_height = 40) (o_land_x : Nat) (hR_o_land_x : σ.2.2.1 71 o_land = some o_land_x) (hL_o_land_x : o_land_x ∈ σ.1) (hK_o_land_x : σ.2.1 o_land_x = 13) (hN_o_land_x : σ.2.2.2 o_land_x = 40) (this_land_x : Nat) (hR_this_land_x : σ.2.2.1 71 this_land = some this_land_x) (hL_this_land_x : this_land_x ∈ σ.1) (hK_this_land_x : σ.2.1 this_land_x = 13) (hN_this_land_x : σ.2.2.2 this_land_x = 40) (o_land_y : Nat) (hR_o_land_y : σ.2.2.1 72 o_land = some o_land_y) (hL_o_land_y : o_land_y ∈ σ.1) (hK_o_land_y : σ.2.1 o_land_y = 13) (hN_o_land_y : σ.2.2.2 o_land_y = 40) (this_land_y : Nat) (hR_this_land_y : σ.2.2.1 72 this_land = some this_land_y) (hL_this_land_y : this_land_y ∈ σ.1) (hK_this_land_y : σ.2.1 this_land_y = 13) (hN_this_land_y : σ.2.2.2 this_land_y = 40) (o_land_sand : Nat) (hR_o_land_sand : σ.2.2.1 73 o_land = some o_land_sand) (hL_o_land_sand : o_land_sand ∈ σ.1) (hK_o_land_sand : σ.2.1 o_land_sand = 13) (hN_o_land_sand : σ.2.2.2 o_land_sand = 40) (this_land_sand : Nat) (hR_this_land_sand : σ.2.2.1 73 this_land = some this_land_sand) (hL_this_land_sand : this_land_sand ∈ σ.1) (hK_this_land_sand : σ.2.1 this_land_sand = 13) (hN_this_land_sand : σ.2.2.2 this_land_sand = 40) (o_land_reef : Nat) (hR_o_land_reef : σ.2.2.1 74 o_land = some o_land_reef) (hL_o_land_reef : o_land_reef ∈ σ.1) (hK_o_land_reef : σ.2.1 o_land_reef = 13) (hN_o_land_reef : σ.2.2.2 o_land_reef = 40) (this_land_reef : Nat) (hR_this_land_reef : σ.2.2.1 74 this_land = some this_land_reef) (hL_this_land_reef : this_land_reef ∈ σ.1) (hK_this_land_reef : σ.2.1 this_land_reef = 13) (hN_this_land_reef : σ.2.2.2 this_land_reef = 40) (o_land_wall : Nat) (hR_o_land_wall : σ.2.2.1 75 o_land = some o_land_wall) (hL_o_land_wall : o_land_wall ∈ σ.1) (hK_o_land_wall : σ.2.1 o_land_wall = 13) (hN_o_land_wall : σ.2.2.2 o_land_wall = 40) (this_land_wall : Nat) (hR_this_land_wall : σ.2.2.1 75 this_land = some this_land_wall) (hL_this_land_wall : this_land_wall ∈ σ.1) (hK_this_land_wall : σ.2.1 this_land_wall = 13) (hN_this_land_wall : σ.2.2.2 this_land_wall = 40) (o_land_beds : Nat) (hR_o_land_beds : σ.2.2.1 76 o_land = some o_land_beds) (hL_o_land_beds : o_land_beds ∈ σ.1) (hK_o_land_beds : σ.2.1 o_land_beds = 13) (hN_o_land_beds : σ.2.2.2 o_land_beds = 40) (this_land_beds : Nat) (hR_this_land_beds : σ.2.2.1 76 this_land = some this_land_beds) (hL_this_land_beds : this_land_beds ∈ σ.1) (hK_this_land_beds : σ.2.1 this_land_beds = 13) (hN_this_land_beds : σ.2.2.2 this_land_beds = 40) (o_land_under : Nat) (hR_o_land_under : σ.2.2.1 77 o_land = some o_land_under) (hL_o_land_under : o_land_under ∈ σ.1) (hK_o_land_under : σ.2.1 o_land_under = 13) (hN_o_land_under : σ.2.2.2 o_land_under = 40) (this_land_under : Nat) (hR_this_land_under : σ.2.2.1 77 this_land = some this_land_under) (hL_this_land_under : this_land_under ∈ σ.1) (hK_this_land_under : σ.2.1 this_land_under = 13) (hN_this_land_under : σ.2.2.2 this_land_under = 40) (this_land_wells : Nat) (hR_this_land_wells : σ.2.2.1 78 this_land = some this_land_wells) (hL_this_land_wells : this_land_wells ∈ σ.1) (hK_this_land_wells : σ.2.1 this_land_wells = 9) (o_land_wells : Nat) (hR_o_land_wells : σ.2.2.1 78 o_land = some o_land_wells) (hL_o_land_wells : o_land_wells ∈ σ.1) (hK_o_land_wells : σ.2.1 o_land_wells = 9) (o_land_wells_gathers : Nat) (hR_o_land_wells_gathers : σ.2.2.1 288 o_land_wells = some o_land_wells_gathers) (hL_o_land_wells_gathers : o_land_wells_gathers ∈ σ.1) (hK_o_land_wells_gathers : σ.2.1 o_land_wells_gathers = 13) (hN_o_land_wells_gathers : σ.2.2.2 o_land_wells_gathers = 40) (this_land_wells_gathers : Nat) (hR_this_land_wells_gathers : σ.2.2.1 288 this_land_wells = some this_land_wells_gathers) (hL_this_land_wells_gathers : this_land_wells_gathers ∈ σ.1) (hK_this_land_wells_gathers : σ.2.1 this_land_wells_gathers = 13) (hN_this_land_wells_gathers : σ.2.2.2 this_land_wells_gathers = 40) (o_land_wells_lens : Nat) (hR_o_land_wells_lens : σ.2.2.1 289 o_land_wells = some o_land_wells_lens) (hL_o_land_wells_lens : o_land_wells_lens ∈ σ.1) (hK_o_land_wells_lens : σ.2.1 o_land_wells_lens = 13) (hN_o_land_wells_lens : σ.2.2.2 o_land_wells_lens = 40) (this_land_wells_lens : Nat) (hR_this_land_wells_lens : σ.2.2.1 289 this_land_wells = some this_land_wells_lens) (hL_this_land_wells_lens : this_land_wells_lens ∈ σ.1) (hK_this_land_wells_lens : σ.2.1 this_land_wells_lens = 13) (hN_this_land_wells_lens : σ.2.2.2 this_land_wells_lens = 40) (o_land_wells_salt : Nat) (hR_o_land_wells_salt : σ.2.2.1 290 o_land_wells = some o_land_wells_salt) (hL_o_land_wells_salt : o_land_wells_salt ∈ σ.1) (hK_o_land_wells_salt : σ.2.1 o_land_wells_salt = 13) (hN_o_land_wells_salt : σ.2.2.2 o_land_wells_salt = 40) (this_land_wells_salt : Nat) (hR_this_land_wells_salt : σ.2.2.1 290 this_land_wells = some this_land_wells_salt) (hL_this_land_wells_salt : this_land_wells_salt ∈ σ.1) (hK_this_land_wells_salt : σ.2.1 this_land_wells_salt = 13) (hN_this_land_wells_salt : σ.2.2.2 this_land_wells_salt = 40) (o_land_next : Nat) (hR_o_land_next : σ.2.2.1 79 o_land = some o_land_next) (hL_o_land_next : o_land_next ∈ σ.1) (hK_o_land_next : σ.2.1 o_land_next = 13) (hN_o_land_next : σ.2.2.2 o_land_next = 40) (this_land_next : Nat) (hR_this_land_next : σ.2.2.1 79 this_land = some this_land_next) (hL_this_land_next : this_land_next ∈ σ.1) (hK_this_land_next : σ.2.1 this_land_next = 13) (hN_this_land_next : σ.2.2.2 this_land_next = 40) (o_land_first : Nat) (hR_o_land_first : σ.2.2.1 80 o_land = some o_land_first) (hL_o_land_first : o_land_first ∈ σ.1) (hK_o_land_first : σ.2.1 o_land_first = 13) (hN_o_land_first : σ.2.2.2 o_land_first = 5) (this_land_first : Nat) (hR_this_land_first : σ.2.2.1 80 this_land = some this_land_first) (hL_this_land_first : this_land_first ∈ σ.1) (hK_this_land_first : σ.2.1 this_land_first = 13) (hN_this_land_first : σ.2.2.2 this_land_first = 5) (this_folk : Nat) (hR_this_folk : σ.2.2.1 328 this = some this_folk) (hL_this_folk : this_folk ∈ σ.1) (hK_this_folk : σ.2.1 this_folk = 0) (o_folk : Nat) (hR_o_folk : σ.2.2.1 328 o = some o_folk) (hL_o_folk : o_folk ∈ σ.1) (hK_o_folk : σ.2.1 o_folk = 0) (o_folk_kin : Nat) (hR_o_folk_kin : σ.2.2.1 1 o_folk = some o_folk_kin) (hL_o_folk_kin : o_folk_kin ∈ σ.1) (hK_o_folk_kin : σ.2.1 o_folk_kin = 13) (hN_o_folk_kin : σ.2.2.2 o_folk_kin = 40) (this_folk_kin : Nat) (hR_this_folk_kin : σ.2.2.1 1 this_folk = some this_folk_kin) (hL_this_folk_kin : this_folk_kin ∈ σ.1) (hK_this_folk_kin : σ.2.1 this_folk_kin = 13) (hN_this_folk_kin : σ.2.2.2 this_folk_kin = 40) (o_folk_age : Nat) (hR_o_folk_age : σ.2.2.1 2 o_folk = some o_folk_age) (hL_o_folk_age : o_folk_age ∈ σ.1) (hK_o_folk_age : σ.2.1 o_folk_age = 13) (hN_o_folk_age : σ.2.2.2 o_folk_age = 40) (this_folk_age : Nat) (hR_this_folk_age : σ.2.2.1 2 this_folk = some this_folk_age) (hL_this_folk_age : this_folk_age ∈ σ.1) (hK_this_folk_age : σ.2.1 this_folk_age = 13) (hN_this_folk_age : σ.2.2.2 this_folk_age = 40) (o_folk_craft : Nat) (hR_o_folk_craft : σ.2.2.1 3 o_folk = some o_folk_craft) (hL_o_folk_craft : o_folk_craft ∈ σ.1) (hK_o_folk_craft : σ.2.1 o_folk_craft = 13) (hN_o_folk_craft : σ.2.2.2 o_folk_craft = 40) (this_folk_craft : Nat) (hR_this_folk_craft : σ.2.2.1 3 this_folk = some this_folk_craft) (hL_this_folk_craft : this_folk_craft ∈ σ.1) (hK_this_folk_craft : σ.2.1 this_folk_craft = 13) (hN_this_folk_craft : σ.2.2.2 this_folk_craft = 40) (o_folk_send : Nat) (hR_o_folk_send : σ.2.2.1 4 o_folk = some o_folk_send) (hL_o_folk_send : o_folk_send ∈ σ.1) (hK_o_folk_send : σ.2.1 o_folk_send = 13) (hN_o_folk_send : σ.2.2.2 o_folk_send = 40) (this_folk_send : Nat) (hR_this_folk_send : σ.2.2.1 4 this_folk = some this_folk_send) (hL_this_folk_send : this_folk_send ∈ σ.1) (hK_this_folk_send : σ.2.1 this_folk_send = 13) (hN_this_folk_send : σ.2.2.2 this_folk_send = 40) (o_folk_place : Nat) (hR_o_folk_place : σ.2.2.1 5 o_folk = some o_folk_place) (hL_o_folk_place : o_folk_place ∈ σ.1) (hK_o_folk_place : σ.2.1 o_folk_place = 13) (hN_o_folk_place : σ.2.2.2 o_folk_place = 40) (this_folk_place : Nat) (hR_this_folk_place : σ.2.2.1 5 this_folk = some this_folk_place) (hL_this_folk_place : this_folk_place ∈ σ.1) (hK_this_folk_place : σ.2.1 this_folk_place = 13) (hN_this_folk_place : σ.2.2.2 this_folk_place = 40) (o_folk_thirst : Nat) (hR_o_folk_thirst : σ.2.2.1 6 o_folk = some o_folk_thirst) (hL_o_folk_thirst : o_folk_thirst ∈ σ.1) (hK_o_folk_thirst : σ.2.1 o_folk_thirst = 13) (hN_o_folk_thirst : σ.2.2.2 o_folk_thirst = 40) (this_folk_thirst : Nat) (hR_this_folk_thirst : σ.2.2.1 6 this_folk = some this_folk_thirst) (hL_this_folk_thirst : this_folk_thirst ∈ σ.1) (hK_this_folk_thirst : σ.2.1 this_folk_thirst = 13) (hN_this_folk_thirst : σ.2.2.2 this_folk_thirst = 40) (o_folk_noBed : Nat) (hR_o_folk_noBed : σ.2.2.1 7 o_folk = some o_folk_noBed) (hL_o_folk_noBed : o_folk_noBed ∈ σ.1) (hK_o_folk_noBed : σ.2.1 o_folk_noBed = 13) (hN_o_folk_noBed : σ.2.2.2 o_folk_noBed = 40) (this_folk_noBed : Nat) (hR_this_folk_noBed : σ.2.2.1 7 this_folk = some this_folk_noBed) (hL_this_folk_noBed : this_folk_noBed ∈ σ.1) (hK_this_folk_noBed : σ.2.1 this_folk_noBed = 13) (hN_this_folk_noBed : σ.2.2.2 this_folk_noBed = 40) (o_folk_went : Nat) (hR_o_folk_went : σ.2.2.1 8 o_folk = some o_folk_went) (hL_o_folk_went : o_folk_went ∈ σ.1) (hK_o_folk_went : σ.2.1 o_folk_went = 13) (hN_o_folk_went : σ.2.2.2 o_folk_went = 40) (this_folk_went : Nat) (hR_this_folk_went : σ.2.2.1 8 this_folk = some this_folk_went) (hL_this_folk_went : this_folk_went ∈ σ.1) (hK_this_folk_went : σ.2.1 this_folk_went = 13) (hN_this_folk_went : σ.2.2.2 this_folk_went = 40) (o_folk_vote : Nat) (hR_o_folk_vote : σ.2.2.1 9 o_folk = some o_folk_vote) (hL_o_folk_vote : o_folk_vote ∈ σ.1) (hK_o_folk_vote : σ.2.1 o_folk_vote = 13) (hN_o_folk_vote : σ.2.2.2 o_folk_vote = 40) (this_folk_vote : Nat) (hR_this_folk_vote : σ.2.2.1 9 this_folk = some this_folk_vote) (hL_this_folk_vote : this_folk_vote ∈ σ.1) (hK_this_folk_vote : σ.2.1 this_folk_vote = 13) (hN_this_folk_vote : σ.2.2.2 this_folk_vote = 40) (o_folk_lotBeds : Nat) (hR_o_folk_lotBeds : σ.2.2.1 11 o_folk = some o_folk_lotBeds) (hL_o_folk_lotBeds : o_folk_lotBeds ∈ σ.1) (hK_o_folk_lotBeds : σ.2.1 o_folk_lotBeds = 13) (hN_o_folk_lotBeds : σ.2.2.2 o_folk_lotBeds = 5) (this_folk_lotBeds : Nat) (hR_this_folk_lotBeds : σ.2.2.1 11 this_folk = some this_folk_lotBeds) (hL_this_folk_lotBeds : this_folk_lotBeds ∈ σ.1) (hK_this_folk_lotBeds : σ.2.1 this_folk_lotBeds = 13) (hN_this_folk_lotBeds : σ.2.2.2 this_folk_lotBeds = 5) (this_law : Nat) (hR_this_law : σ.2.2.1 329 this = some this_law) (hL_this_law : this_law ∈ σ.1) (hK_this_law : σ.2.1 this_law = 3) (o_law : Nat) (hR_o_law : σ.2.2.1 329 o = some o_law) (hL_o_law : o_law ∈ σ.1) (hK_o_law : σ.2.1 o_law = 3) (this_law_texts : Nat) (hR_this_law_texts : σ.2.2.1 97 this_law = some this_law_texts) (hL_this_law_texts : this_law_texts ∈ σ.1) (hK_this_law_texts : σ.2.1 this_law_texts = 16) (hN_this_law_texts : σ.2.2.2 this_law_texts = 10) (o_law_texts : Nat) (hR_o_law_texts : σ.2.2.1 97 o_law = some o_law_texts) (hL_o_law_texts : o_law_texts ∈ σ.1) (hK_o_law_texts : σ.2.1 o_law_texts = 16) (hN_o_law_texts : σ.2.2.2 o_law_texts = 10) (o_law_forceText : Nat) (hR_o_law_forceText : σ.2.2.1 99 o_law = some o_law_forceText) (hL_o_law_forceText : o_law_forceText ∈ σ.1) (hK_o_law_forceText : σ.2.1 o_law_forceText = 13) (hN_o_law_forceText : σ.2.2.2 o_law_forceText = 30) (this_law_forceText : Nat) (hR_this_law_forceText : σ.2.2.1 99 this_law = some this_law_forceText) (hL_this_law_forceText : this_law_forceText ∈ σ.1) (hK_this_law_forceText : σ.2.1 this_law_forceText = 13) (hN_this_law_forceText : σ.2.2.2 this_law_forceText = 30) (o_law_forceFrom : Nat) (hR_o_law_forceFrom : σ.2.2.1 100 o_law = some o_law_forceFrom) (hL_o_law_forceFrom : o_law_forceFrom ∈ σ.1) (hK_o_law_forceFrom : σ.2.1 o_law_forceFrom = 13) (hN_o_law_forceFrom : σ.2.2.2 o_law_forceFrom = 30) (this_law_forceFrom : Nat) (hR_this_law_forceFrom : σ.2.2.1 100 this_law = some this_law_forceFrom) (hL_this_law_forceFrom : this_law_forceFrom ∈ σ.1) (hK_this_law_forceFrom : σ.2.1 this_law_forceFrom = 13) (hN_this_law_forceFrom : σ.2.2.2 this_law_forceFrom = 30) (o_law_forceTo : Nat) (hR_o_law_forceTo : σ.2.2.1 101 o_law = some o_law_forceTo) (hL_o_law_forceTo : o_law_forceTo ∈ σ.1) (hK_o_law_forceTo : σ.2.1 o_law_forceTo = 13) (hN_o_law_forceTo : σ.2.2.2 o_law_forceTo = 30) (this_law_forceTo : Nat) (hR_this_law_forceTo : σ.2.2.1 101 this_law = some this_law_forceTo) (hL_this_law_forceTo : this_law_forceTo ∈ σ.1) (hK_this_law_forceTo : σ.2.1 this_law_forceTo = 13) (hN_this_law_forceTo : σ.2.2.2 this_law_forceTo = 30) (this_graves : Nat) (hR_this_graves : σ.2.2.1 330 this = some this_graves) (hL_this_graves : this_graves ∈ σ.1) (hK_this_graves : σ.2.1 this_graves = 1) (o_graves : Nat) (hR_o_graves : σ.2.2.1 330 o = some o_graves) (hL_o_graves : o_graves ∈ σ.1) (hK_o_graves : σ.2.1 o_graves = 1) (o_graves_cell : Nat) (hR_o_graves_cell : σ.2.2.1 33 o_graves = some o_graves_cell) (hL_o_graves_cell : o_graves_cell ∈ σ.1) (hK_o_graves_cell : σ.2.1 o_graves_cell = 13) (hN_o_graves_cell : σ.2.2.2 o_graves_cell = 30) (this_graves_cell : Nat) (hR_this_graves_cell : σ.2.2.1 33 this_graves = some this_graves_cell) (hL_this_graves_cell : this_graves_cell ∈ σ.1) (hK_this_graves_cell : σ.2.1 this_graves_cell = 13) (hN_this_graves_cell : σ.2.2.2 this_graves_cell = 30) (o_graves_lay : Nat) (hR_o_graves_lay : σ.2.2.1 34 o_graves = some o_graves_lay) (hL_o_graves_lay : o_graves_lay ∈ σ.1) (hK_o_graves_lay : σ.2.1 o_graves_lay = 14) (hN_o_graves_lay : σ.2.2.2 o_graves_lay = 30) (this_graves_lay : Nat) (hR_this_graves_lay : σ.2.2.1 34 this_graves = some this_graves_lay) (hL_this_graves_lay : this_graves_lay ∈ σ.1) (hK_this_graves_lay : σ.2.1 this_graves_lay = 14) (hN_this_graves_lay : σ.2.2.2 this_graves_lay = 30) (hZ : pq_Z I) (hC0 : I 320 o = 0) (hRo : I 237 o_seas = 3) (hq0 : rq = fun _ _ => none) : MetV l yX10_copyFrom (wa yX10_copyFrom cX10_copyFrom 2 none) ({ frames := 4, cells := 0, slots := 0, locals := 123 }) [.ref this, .ref o] D t σ (I, J, ri, rj, rq) sz 0 0 (fun (u : pq_S × pq_M) => ∃ I' : Nat → Nat → Int32, ∃ J' : Nat → Nat → Int64, ∃ ri' : Nat → Nat → Int32, ∃ rj' : Nat → Nat → Int64, u = (σ, I', J', ri', rj', rq) ∧ (∀ f, f ∉ ([234, 235, 236, 237, 238, 320, 323, 324] : List Nat) → I' f = I f) ∧ (I' 320 this = 0 ∧ I' 237 this_seas = 3) ∧ (∀ b, b ≠ this → I' 320 b = I 320 b)) := by
  refine Met.ofW (cc := cX10_copyFrom) (maxL := 2) (ret := none) (by decide) rfl ?_
  intro p e s m args below meth c s₁ B hml hv
  obtain ⟨rfl, hsz, hP, hK, hD0, hN⟩ := hv
  have hx := B.exec
  have hb := B.bytes
  have hr := B.returns
  have hts := atoms_spec (ws := (wa yX10_copyFrom cX10_copyFrom 2 none)) B.pre
  have hown : s.vm.findClass RX10 = some m.cls := findClass_of_methodNamed B.named
  have hlocks := B.notSynchronized
  subst hsz
  have hD : va_D (pq_B t σ (I, J, ri, rj, rq) s.heap.size) (pq_P t σ (I, J, ri, rj, rq)) := hD0.self
  generalize hAe : pq_B t σ (I, J, ri, rj, rq) s.heap.size = A at hD ⊢
  have hA : ∀ q : Nat, s.heap.size ≤ q → A q := fun q h => by rw [← hAe]; exact Or.inr h
  have hS : va_S A s.heap s.heap [] := va_S.rf
  have hl := lv_entry ([.ref this, .ref o]) (n := 2) (Nat.le_of_ble_eq_true rfl)
  rw [lg_entry_eq]
  generalize (lg_sl ([.ref this, .ref o]) ++ List.replicate (2 - (lg_sl ([.ref this, .ref o])).length) Slot.unset).toArray = ls at hl ⊢
  have hl : lv_has ls 2 [(0, .ref this), (1, .ref o)] := hl
  refine lv_aload_n hx hb dX10_copyFrom_0 rfl (lv_at hl 0 rfl) ?_
  refine lv_aload_n hx hb dX10_copyFrom_1 rfl (lv_at hl 1 rfl) ?_
  refine pg_f (v := .int (I 320 o)) (C := RX10) (T := TX10) (N := 13) hx hb hts (tw_i inlX10) hown hK hP hL_o hK_o (by decide) rfl 0 (by decide) (hts _ (tw_c tw_457)) rfl dX10_copyFrom_2 ?_
  refine lv_tov 0 hC0 ?_
  refine pp_i (v := 0) (ty := .int) (C := RX10) (T := TX10) (N := 13) hx hb hts (tw_i inlX10) tyX10 tyX10_ok nmX10 hown hK hP hD hS hL_this hK_this (by decide) rfl 0 320 (by decide) (hts _ (tw_c tw_457)) rfl (by decide +kernel) rfl rfl (Nat.le_of_ble_eq_true rfl) (ps_320 _ _ _ _ _) dX10_copyFrom_5 (fun I_1 H locs eI_1 hP hD hS => ?_)
  refine lv_aload_n hx hb dX10_copyFrom_8 rfl (lv_at hl 0 rfl) ?_
  refine lv_aload_n hx hb dX10_copyFrom_9 rfl (lv_at hl 1 rfl) ?_
  refine pg_f (v := .int (I_1 321 o)) (C := RX10) (T := TX10) (N := 13) hx hb hts (tw_i inlX10) hown hK hP hL_o hK_o (by decide) rfl 1 (by decide) (hts _ (tw_c tw_1131)) rfl dX10_copyFrom_10 ?_
  refine lv_tov 0 (by rw [eI_1, pq_uf _ _ _ (by decide)]; exact (congrFun (hZ 321 (by decide)) o)) ?_
  refine pp_i (v := 0) (ty := .int) (C := RX10) (T := TX10) (N := 13) hx hb hts (tw_i inlX10) tyX10 tyX10_ok nmX10 hown hK hP hD hS hL_this hK_this (by decide) rfl 1 321 (by decide) (hts _ (tw_c tw_1131)) rfl (by decide +kernel) rfl rfl (Nat.le_of_ble_eq_true rfl) (ps_321 _ _ _ _ _) dX10_copyFrom_13 (fun I_2 H locs eI_2 hP hD hS => ?_)
  have eI_2 : I_2 = I_1 := by rw [eI_2]; exact pq_uc _ _ _ _ ((pq_Zp hZ eI_1 (by decide)) 321 (by decide))
  rw [eI_2] at hP hD
  refine lv_aload_n hx hb dX10_copyFrom_16 rfl (lv_at hl 0 rfl) ?_
  refine lv_aload_n hx hb dX10_copyFrom_17 rfl (lv_at hl 1 rfl) ?_
  refine pg_f (v := .int (I_1 322 o)) (C := RX10) (T := TX10) (N := 13) hx hb hts (tw_i inlX10) hown hK hP hL_o hK_o (by decide) rfl 2 (by decide) (hts _ (tw_c tw_1046)) rfl dX10_copyFrom_18 ?_
  refine lv_tov 0 (by rw [eI_1, pq_uf _ _ _ (by decide)]; exact (congrFun (hZ 322 (by decide)) o)) ?_
  refine pp_i (v := 0) (ty := .int) (C := RX10) (T := TX10) (N := 13) hx hb hts (tw_i inlX10) tyX10 tyX10_ok nmX10 hown hK hP hD hS hL_this hK_this (by decide) rfl 2 322 (by decide) (hts _ (tw_c tw_1046)) rfl (by decide +kernel) rfl rfl (Nat.le_of_ble_eq_true rfl) (ps_322 _ _ _ _ _) dX10_copyFrom_21 (fun I_3 H locs eI_3 hP hD hS => ?_)
  have eI_3 : I_3 = I_1 := by rw [eI_3]; exact pq_uc _ _ _ _ ((pq_Zp hZ eI_1 (by decide)) 322 (by decide))
  rw [eI_3] at hP hD
  refine lv_aload_n hx hb dX10_copyFrom_24 rfl (lv_at hl 0 rfl) ?_
  refine lv_aload_n hx hb dX10_copyFrom_25 rfl (lv_at hl 1 rfl) ?_
  refine pg_f (v := .int (I_1 323 o)) (C := RX10) (T := TX10) (N := 13) hx hb hts (tw_i inlX10) hown hK hP hL_o hK_o (by decide) rfl 3 (by decide) (hts _ (tw_c tw_31)) rfl dX10_copyFrom_26 ?_
  refine pp_i (v := (I_1 323 o)) (ty := .int) (C := RX10) (T := TX10) (N := 13) hx hb hts (tw_i inlX10) tyX10 tyX10_ok nmX10 hown hK hP hD hS hL_this hK_this (by decide) rfl 3 323 (by decide) (hts _ (tw_c tw_31)) rfl (by decide +kernel) rfl rfl (Nat.le_of_ble_eq_true rfl) (ps_323 _ _ _ _ _) dX10_copyFrom_29 (fun I_4 H locs eI_4 hP hD hS => ?_)
  refine lv_aload_n hx hb dX10_copyFrom_32 rfl (lv_at hl 0 rfl) ?_
  refine lv_aload_n hx hb dX10_copyFrom_33 rfl (lv_at hl 1 rfl) ?_
  refine pg_f (v := .int (I_4 324 o)) (C := RX10) (T := TX10) (N := 13) hx hb hts (tw_i inlX10) hown hK hP hL_o hK_o (by decide) rfl 4 (by decide) (hts _ (tw_c tw_32)) rfl dX10_copyFrom_34 ?_
  refine pp_i (v := (I_4 324 o)) (ty := .int) (C := RX10) (T := TX10) (N := 13) hx hb hts (tw_i inlX10) tyX10 tyX10_ok nmX10 hown hK hP hD hS hL_this hK_this (by decide) rfl 4 324 (by decide) (hts _ (tw_c tw_32)) rfl (by decide +kernel) rfl rfl (Nat.le_of_ble_eq_true rfl) (ps_324 _ _ _ _ _) dX10_copyFrom_37 (fun I_5 H locs eI_5 hP hD hS => ?_)
  refine lv_aload_n hx hb dX10_copyFrom_40 rfl (lv_at hl 1 rfl) ?_
  refine pg_f (v := .ref o_holder) (C := RX10) (T := TX10) (N := 13) hx hb hts (tw_i inlX10) hown hK hP hL_o hK_o (by decide) rfl 5 (by decide) (hts _ (tw_c tw_34)) (pq_hv rfl hR_o_holder) dX10_copyFrom_41 ?_
  refine lv_aload_n hx hb dX10_copyFrom_44 rfl (lv_at hl 0 rfl) ?_
  refine pg_f (v := .ref this_holder) (C := RX10) (T := TX10) (N := 13) hx hb hts (tw_i inlX10) hown hK hP hL_this hK_this (by decide) rfl 5 (by decide) (hts _ (tw_c tw_34)) (pq_hv rfl hR_this_holder) dX10_copyFrom_45 ?_
  refine pk_v (va_runSN (As := [.ref o_holder, .ref this_holder]) (rest := []) ⟨hx, hb, hml, hown, hts⟩ (c_X11_copy l D t σ I_5 J ri rj rq H.size o_holder this_holder 40 hL_o_holder hK_o_holder hN_o_holder hL_this_holder hK_this_holder hN_this_holder (by omega)) ⟨va_cnB (host := "RingsUnder") 2 hts (tw_W tw_1102) rfl rfl rfl (nl_17 hN) (hts _ (tw_c tw_2)) (by decide +kernel) ⟨Nat.le_of_ble_eq_true rfl, Nat.le_of_ble_eq_true rfl⟩, hts (.static yX11_copy) (by decide +kernel), trivial⟩ ⟨pq_blind, pq_pre hK hN hP hD⟩ rfl rfl hl.1 rfl (lv_room (Nat.le_of_ble_eq_true rfl)) dX10_copyFrom_48 ⟨Nat.le_of_ble_eq_true rfl, Nat.le_of_ble_eq_true rfl⟩) hD hS hA (fun σ1 μ1 H locs hw_7 hP hD hS => ?_)
  obtain ⟨ri_8, hu_9⟩ := hw_7
  obtain ⟨hu_9a, hu_9b⟩ := Prod.mk.inj hu_9
  rw [hu_9a, hu_9b] at hP hD
  refine lv_aload_n hx hb dX10_copyFrom_51 rfl (lv_at hl 0 rfl) ?_
  refine pg_f (v := .ref this_seas) (C := RX10) (T := TX10) (N := 13) hx hb hts (tw_i inlX10) hown hK hP hL_this hK_this (by decide) rfl 6 (by decide) (hts _ (tw_c tw_38)) (pq_hv rfl hR_this_seas) dX10_copyFrom_52 ?_
  refine lv_aload_n hx hb dX10_copyFrom_55 rfl (lv_at hl 1 rfl) ?_
  refine pg_f (v := .ref o_seas) (C := RX10) (T := TX10) (N := 13) hx hb hts (tw_i inlX10) hown hK hP hL_o hK_o (by decide) rfl 6 (by decide) (hts _ (tw_c tw_38)) (pq_hv rfl hR_o_seas) dX10_copyFrom_56 ?_
  refine pk_v (va_runV (As := [.ref o_seas]) (rest := []) ⟨hx, hb, hml, hown, hts⟩ (c_X7_copyFrom l D t σ I_5 J ri_8 rj rq H.size this_seas o_seas hL_this_seas hK_this_seas hL_o_seas hK_o_seas o_seas_rise hR_o_seas_rise hL_o_seas_rise hK_o_seas_rise hN_o_seas_rise this_seas_rise hR_this_seas_rise hL_this_seas_rise hK_this_seas_rise hN_this_seas_rise o_seas_month hR_o_seas_month hL_o_seas_month hK_o_seas_month hN_o_seas_month this_seas_month hR_this_seas_month hL_this_seas_month hK_this_seas_month hN_this_seas_month o_seas_value hR_o_seas_value hL_o_seas_value hK_o_seas_value hN_o_seas_value this_seas_value hR_this_seas_value hL_this_seas_value hK_this_seas_value hN_this_seas_value o_seas_told hR_o_seas_told hL_o_seas_told hK_o_seas_told hN_o_seas_told this_seas_told hR_this_seas_told hL_this_seas_told hK_this_seas_told hN_this_seas_told o_seas_low hR_o_seas_low hL_o_seas_low hK_o_seas_low hN_o_seas_low this_seas_low hR_this_seas_low hL_this_seas_low hK_this_seas_low hN_this_seas_low o_seas_high hR_o_seas_high hL_o_seas_high hK_o_seas_high hN_o_seas_high this_seas_high hR_this_seas_high hL_this_seas_high hK_this_seas_high hN_this_seas_high o_seas_warm hR_o_seas_warm hL_o_seas_warm hK_o_seas_warm hN_o_seas_warm this_seas_warm hR_this_seas_warm hL_this_seas_warm hK_this_seas_warm hN_this_seas_warm o_seas_drift hR_o_seas_drift hL_o_seas_drift hK_o_seas_drift hN_o_seas_drift this_seas_drift hR_this_seas_drift hL_this_seas_drift hK_this_seas_drift hN_this_seas_drift o_seas_rain hR_o_seas_rain hL_o_seas_rain hK_o_seas_rain hN_o_seas_rain this_seas_rain hR_this_seas_rain hL_this_seas_rain hK_this_seas_rain hN_this_seas_rain (pq_Zp (pq_Zp (pq_Zp hZ eI_1 (by decide)) eI_4 (by decide)) eI_5 (by decide)) (by rw [eI_5, pq_uf _ _ _ (by decide)]; exact (by rw [eI_4, pq_uf _ _ _ (by decide)]; exact (by rw [eI_1, pq_uf _ _ _ (by decide)]; exact hRo)))) (cwV 1 hts (tw_V tw_1366 tw_1367 tw_1368 tw_37 tw_1369) rfl rfl rfl (by decide +kernel) ⟨Nat.le_of_ble_eq_true rfl, Nat.le_of_ble_eq_true rfl⟩) ⟨pq_blind, pq_recv hK hP hL_this_seas hK_this_seas (by decide) rfl, pq_pre hK hN hP hD⟩ rfl rfl hl.1 rfl (lv_room (Nat.le_of_ble_eq_true rfl)) dX10_copyFrom_59 ⟨Nat.le_of_ble_eq_true rfl, Nat.le_of_ble_eq_true rfl⟩) hD hS hA (fun σ1 μ1 H locs hw_12 hP hD hS => ?_)
  obtain ⟨I_13, ri_14, hu_15, hu_15f, hu_15p0⟩ := hw_12
  obtain ⟨hu_15a, hu_15b⟩ := Prod.mk.inj hu_15
  rw [hu_15a, hu_15b] at hP hD
  refine lv_aload_n hx hb dX10_copyFrom_62 rfl (lv_at hl 0 rfl) ?_
  refine pg_f (v := .ref this_land) (C := RX10) (T := TX10) (N := 13) hx hb hts (tw_i inlX10) hown hK hP hL_this hK_this (by decide) rfl 7 (by decide) (hts _ (tw_c tw_42)) (pq_hv rfl hR_this_land) dX10_copyFrom_63 ?_
  refine lv_aload_n hx hb dX10_copyFrom_66 rfl (lv_at hl 1 rfl) ?_
  refine pg_f (v := .ref o_land) (C := RX10) (T := TX10) (N := 13) hx hb hts (tw_i inlX10) hown hK hP hL_o hK_o (by decide) rfl 7 (by decide) (hts _ (tw_c tw_42)) (pq_hv rfl hR_o_land) dX10_copyFrom_67 ?_
  refine pk_v (va_runV (As := [.ref o_land]) (rest := []) ⟨hx, hb, hml, hown, hts⟩ (c_X2_copyFrom l D t σ I_13 J ri_14 rj rq H.size this_land o_land hL_this_land hK_this_land hL_o_land hK_o_land o_land_rocks hR_o_land_rocks hL_o_land_rocks hK_o_land_rocks hN_o_land_rocks this_land_rocks hR_this_land_rocks hL_this_land_rocks hK_this_land_rocks hN_this_land_rocks o_land_ring hR_o_land_ring hL_o_land_ring hK_o_land_ring hN_o_land_ring this_land_ring hR_this_land_ring hL_this_land_ring hK_this_land_ring hN_this_land_ring o_land_height hR_o_land_height hL_o_land_height hK_o_land_height hN_o_land_height this_land_height hR_this_land_height hL_this_land_height hK_this_land_height hN_this_land_height o_land_x hR_o_land_x hL_o_land_x hK_o_land_x hN_o_land_x this_land_x hR_this_land_x hL_this_land_x hK_this_land_x hN_this_land_x o_land_y hR_o_land_y hL_o_land_y hK_o_land_y hN_o_land_y this_land_y hR_this_land_y hL_this_land_y hK_this_land_y hN_this_land_y o_land_sand hR_o_land_sand hL_o_land_sand hK_o_land_sand hN_o_land_sand this_land_sand hR_this_land_sand hL_this_land_sand hK_this_land_sand hN_this_land_sand o_land_reef hR_o_land_reef hL_o_land_reef hK_o_land_reef hN_o_land_reef this_land_reef hR_this_land_reef hL_this_land_reef hK_this_land_reef hN_this_land_reef o_land_wall hR_o_land_wall hL_o_land_wall hK_o_land_wall hN_o_land_wall this_land_wall hR_this_land_wall hL_this_land_wall hK_this_land_wall hN_this_land_wall o_land_beds hR_o_land_beds hL_o_land_beds hK_o_land_beds hN_o_land_beds this_land_beds hR_this_land_beds hL_this_land_beds hK_this_land_beds hN_this_land_beds o_land_under hR_o_land_under hL_o_land_under hK_o_land_under hN_o_land_under this_land_under hR_this_land_under hL_this_land_under hK_this_land_under hN_this_land_under this_land_wells hR_this_land_wells hL_this_land_wells hK_this_land_wells o_land_wells hR_o_land_wells hL_o_land_wells hK_o_land_wells o_land_wells_gathers hR_o_land_wells_gathers hL_o_land_wells_gathers hK_o_land_wells_gathers hN_o_land_wells_gathers this_land_wells_gathers hR_this_land_wells_gathers hL_this_land_wells_gathers hK_this_land_wells_gathers hN_this_land_wells_gathers o_land_wells_lens hR_o_land_wells_lens hL_o_land_wells_lens hK_o_land_wells_lens hN_o_land_wells_lens this_land_wells_lens hR_this_land_wells_lens hL_this_land_wells_lens hK_this_land_wells_lens hN_this_land_wells_lens o_land_wells_salt hR_o_land_wells_salt hL_o_land_wells_salt hK_o_land_wells_salt hN_o_land_wells_salt this_land_wells_salt hR_this_land_wells_salt hL_this_land_wells_salt hK_this_land_wells_salt hN_this_land_wells_salt o_land_next hR_o_land_next hL_o_land_next hK_o_land_next hN_o_land_next this_land_next hR_this_land_next hL_this_land_next hK_this_land_next hN_this_land_next o_land_first hR_o_land_first hL_o_land_first hK_o_land_first hN_o_land_first this_land_first hR_this_land_first hL_this_land_first hK_this_land_first hN_this_land_first (pq_Zf (pq_Zp (pq_Zp (pq_Zp hZ eI_1 (by decide)) eI_4 (by decide)) eI_5 (by decide)) hu_15f (by decide))) (cwV 1 hts (tw_V tw_1370 tw_1371 tw_1372 tw_41 tw_1373) rfl rfl rfl (by decide +kernel) ⟨Nat.le_of_ble_eq_true rfl, Nat.le_of_ble_eq_true rfl⟩) ⟨pq_blind, pq_recv hK hP hL_this_land hK_this_land (by decide) rfl, pq_pre hK hN hP hD⟩ rfl rfl hl.1 rfl (lv_room (Nat.le_of_ble_eq_true rfl)) dX10_copyFrom_70 ⟨Nat.le_of_ble_eq_true rfl, Nat.le_of_ble_eq_true rfl⟩) hD hS hA (fun σ1 μ1 H locs hw_18 hP hD hS => ?_)
  obtain ⟨J_19, ri_20, rj_21, hu_22⟩ := hw_18
  obtain ⟨hu_22a, hu_22b⟩ := Prod.mk.inj hu_22
  rw [hu_22a, hu_22b] at hP hD
  refine lv_aload_n hx hb dX10_copyFrom_73 rfl (lv_at hl 0 rfl) ?_
  refine pg_f (v := .ref this_folk) (C := RX10) (T := TX10) (N := 13) hx hb hts (tw_i inlX10) hown hK hP hL_this hK_this (by decide) rfl 8 (by decide) (hts _ (tw_c tw_46)) (pq_hv rfl hR_this_folk) dX10_copyFrom_74 ?_
  refine lv_aload_n hx hb dX10_copyFrom_77 rfl (lv_at hl 1 rfl) ?_
  refine pg_f (v := .ref o_folk) (C := RX10) (T := TX10) (N := 13) hx hb hts (tw_i inlX10) hown hK hP hL_o hK_o (by decide) rfl 8 (by decide) (hts _ (tw_c tw_46)) (pq_hv rfl hR_o_folk) dX10_copyFrom_78 ?_
  refine pk_v (va_runV (As := [.ref o_folk]) (rest := []) ⟨hx, hb, hml, hown, hts⟩ (c_X0_copyFrom l D t σ I_13 J_19 ri_20 rj_21 rq H.size this_folk o_folk hL_this_folk hK_this_folk hL_o_folk hK_o_folk o_folk_kin hR_o_folk_kin hL_o_folk_kin hK_o_folk_kin hN_o_folk_kin this_folk_kin hR_this_folk_kin hL_this_folk_kin hK_this_folk_kin hN_this_folk_kin o_folk_age hR_o_folk_age hL_o_folk_age hK_o_folk_age hN_o_folk_age this_folk_age hR_this_folk_age hL_this_folk_age hK_this_folk_age hN_this_folk_age o_folk_craft hR_o_folk_craft hL_o_folk_craft hK_o_folk_craft hN_o_folk_craft this_folk_craft hR_this_folk_craft hL_this_folk_craft hK_this_folk_craft hN_this_folk_craft o_folk_send hR_o_folk_send hL_o_folk_send hK_o_folk_send hN_o_folk_send this_folk_send hR_this_folk_send hL_this_folk_send hK_this_folk_send hN_this_folk_send o_folk_place hR_o_folk_place hL_o_folk_place hK_o_folk_place hN_o_folk_place this_folk_place hR_this_folk_place hL_this_folk_place hK_this_folk_place hN_this_folk_place o_folk_thirst hR_o_folk_thirst hL_o_folk_thirst hK_o_folk_thirst hN_o_folk_thirst this_folk_thirst hR_this_folk_thirst hL_this_folk_thirst hK_this_folk_thirst hN_this_folk_thirst o_folk_noBed hR_o_folk_noBed hL_o_folk_noBed hK_o_folk_noBed hN_o_folk_noBed this_folk_noBed hR_this_folk_noBed hL_this_folk_noBed hK_this_folk_noBed hN_this_folk_noBed o_folk_went hR_o_folk_went hL_o_folk_went hK_o_folk_went hN_o_folk_went this_folk_went hR_this_folk_went hL_this_folk_went hK_this_folk_went hN_this_folk_went o_folk_vote hR_o_folk_vote hL_o_folk_vote hK_o_folk_vote hN_o_folk_vote this_folk_vote hR_this_folk_vote hL_this_folk_vote hK_this_folk_vote hN_this_folk_vote o_folk_lotBeds hR_o_folk_lotBeds hL_o_folk_lotBeds hK_o_folk_lotBeds hN_o_folk_lotBeds this_folk_lotBeds hR_this_folk_lotBeds hL_this_folk_lotBeds hK_this_folk_lotBeds hN_this_folk_lotBeds (pq_Zf (pq_Zp (pq_Zp (pq_Zp hZ eI_1 (by decide)) eI_4 (by decide)) eI_5 (by decide)) hu_15f (by decide))) (cwV 1 hts (tw_V tw_1380 tw_1381 tw_1382 tw_45 tw_1383) rfl rfl rfl (by decide +kernel) ⟨Nat.le_of_ble_eq_true rfl, Nat.le_of_ble_eq_true rfl⟩) ⟨pq_blind, pq_recv hK hP hL_this_folk hK_this_folk (by decide) rfl, pq_pre hK hN hP hD⟩ rfl rfl hl.1 rfl (lv_room (Nat.le_of_ble_eq_true rfl)) dX10_copyFrom_81 ⟨Nat.le_of_ble_eq_true rfl, Nat.le_of_ble_eq_true rfl⟩) hD hS hA (fun σ1 μ1 H locs hw_25 hP hD hS => ?_)
  obtain ⟨ri_26, hu_27⟩ := hw_25
  obtain ⟨hu_27a, hu_27b⟩ := Prod.mk.inj hu_27
  rw [hu_27a, hu_27b] at hP hD
  refine lv_aload_n hx hb dX10_copyFrom_84 rfl (lv_at hl 0 rfl) ?_
  refine pg_f (v := .ref this_law) (C := RX10) (T := TX10) (N := 13) hx hb hts (tw_i inlX10) hown hK hP hL_this hK_this (by decide) rfl 9 (by decide) (hts _ (tw_c tw_50)) (pq_hv rfl hR_this_law) dX10_copyFrom_85 ?_
  refine lv_aload_n hx hb dX10_copyFrom_88 rfl (lv_at hl 1 rfl) ?_
  refine pg_f (v := .ref o_law) (C := RX10) (T := TX10) (N := 13) hx hb hts (tw_i inlX10) hown hK hP hL_o hK_o (by decide) rfl 9 (by decide) (hts _ (tw_c tw_50)) (pq_hv rfl hR_o_law) dX10_copyFrom_89 ?_
  refine pk_v (va_runV (As := [.ref o_law]) (rest := []) ⟨hx, hb, hml, hown, hts⟩ (c_X3_copyFrom l D t σ I_13 J_19 ri_26 rj_21 rq H.size this_law o_law hL_this_law hK_this_law hL_o_law hK_o_law this_law_texts hR_this_law_texts hL_this_law_texts hK_this_law_texts hN_this_law_texts o_law_texts hR_o_law_texts hL_o_law_texts hK_o_law_texts hN_o_law_texts o_law_forceText hR_o_law_forceText hL_o_law_forceText hK_o_law_forceText hN_o_law_forceText this_law_forceText hR_this_law_forceText hL_this_law_forceText hK_this_law_forceText hN_this_law_forceText o_law_forceFrom hR_o_law_forceFrom hL_o_law_forceFrom hK_o_law_forceFrom hN_o_law_forceFrom this_law_forceFrom hR_this_law_forceFrom hL_this_law_forceFrom hK_this_law_forceFrom hN_this_law_forceFrom o_law_forceTo hR_o_law_forceTo hL_o_law_forceTo hK_o_law_forceTo hN_o_law_forceTo this_law_forceTo hR_this_law_forceTo hL_this_law_forceTo hK_this_law_forceTo hN_this_law_forceTo (pq_Zf (pq_Zp (pq_Zp (pq_Zp hZ eI_1 (by decide)) eI_4 (by decide)) eI_5 (by decide)) hu_15f (by decide)) hq0) (cwV 1 hts (tw_V tw_1384 tw_1385 tw_1386 tw_49 tw_1387) rfl rfl rfl (by decide +kernel) ⟨Nat.le_of_ble_eq_true rfl, Nat.le_of_ble_eq_true rfl⟩) ⟨pq_blind, pq_recv hK hP hL_this_law hK_this_law (by decide) rfl, pq_pre hK hN hP hD⟩ rfl rfl hl.1 rfl (lv_room (Nat.le_of_ble_eq_true rfl)) dX10_copyFrom_92 ⟨Nat.le_of_ble_eq_true rfl, Nat.le_of_ble_eq_true rfl⟩) hD hS hA (fun σ1 μ1 H locs hw_30 hP hD hS => ?_)
  obtain ⟨ri_31, hu_32⟩ := hw_30
  obtain ⟨hu_32a, hu_32b⟩ := Prod.mk.inj hu_32
  rw [hu_32a, hu_32b] at hP hD
  refine lv_aload_n hx hb dX10_copyFrom_95 rfl (lv_at hl 0 rfl) ?_
  refine pg_f (v := .ref this_graves) (C := RX10) (T := TX10) (N := 13) hx hb hts (tw_i inlX10) hown hK hP hL_this hK_this (by decide) rfl 10 (by decide) (hts _ (tw_c tw_54)) (pq_hv rfl hR_this_graves) dX10_copyFrom_96 ?_
  refine lv_aload_n hx hb dX10_copyFrom_99 rfl (lv_at hl 1 rfl) ?_
  refine pg_f (v := .ref o_graves) (C := RX10) (T := TX10) (N := 13) hx hb hts (tw_i inlX10) hown hK hP hL_o hK_o (by decide) rfl 10 (by decide) (hts _ (tw_c tw_54)) (pq_hv rfl hR_o_graves) dX10_copyFrom_100 ?_
  refine pk_v (va_runV (As := [.ref o_graves]) (rest := []) ⟨hx, hb, hml, hown, hts⟩ (c_X1_copyFrom l D t σ I_13 J_19 ri_31 rj_21 rq H.size this_graves o_graves hL_this_graves hK_this_graves hL_o_graves hK_o_graves o_graves_cell hR_o_graves_cell hL_o_graves_cell hK_o_graves_cell hN_o_graves_cell this_graves_cell hR_this_graves_cell hL_this_graves_cell hK_this_graves_cell hN_this_graves_cell o_graves_lay hR_o_graves_lay hL_o_graves_lay hK_o_graves_lay hN_o_graves_lay this_graves_lay hR_this_graves_lay hL_this_graves_lay hK_this_graves_lay hN_this_graves_lay (pq_Zf (pq_Zp (pq_Zp (pq_Zp hZ eI_1 (by decide)) eI_4 (by decide)) eI_5 (by decide)) hu_15f (by decide))) (cwV 1 hts (tw_V tw_1389 tw_1390 tw_1391 tw_53 tw_1392) rfl rfl rfl (by decide +kernel) ⟨Nat.le_of_ble_eq_true rfl, Nat.le_of_ble_eq_true rfl⟩) ⟨pq_blind, pq_recv hK hP hL_this_graves hK_this_graves (by decide) rfl, pq_pre hK hN hP hD⟩ rfl rfl hl.1 rfl (lv_room (Nat.le_of_ble_eq_true rfl)) dX10_copyFrom_103 ⟨Nat.le_of_ble_eq_true rfl, Nat.le_of_ble_eq_true rfl⟩) hD hS hA (fun σ1 μ1 H locs hw_35 hP hD hS => ?_)
  obtain ⟨ri_36, rj_37, hu_38⟩ := hw_35
  obtain ⟨hu_38a, hu_38b⟩ := Prod.mk.inj hu_38
  rw [hu_38a, hu_38b] at hP hD
  exact W.vret hx hb hr (fun t1 ht hW => ⟨⟨(σ, I_13, J_19, ri_36, rj_37, rq), rfl, ⟨I_13, J_19, ri_36, rj_37, rfl, (fun f hg => by rw [hu_15f f (fun q => hg (by revert q; simp only [List.mem_cons, List.not_mem_nil, or_false]; omega)), eI_5, pq_uf _ _ _ (by intro q; subst q; exact hg (by decide)), eI_4, pq_uf _ _ _ (by intro q; subst q; exact hg (by decide)), eI_1, pq_uf _ _ _ (by intro q; subst q; exact hg (by decide))]), ⟨(by rw [hu_15f 320 (by decide)]; exact (by rw [eI_5, pq_uf _ _ _ (by decide)]; exact (by rw [eI_4, pq_uf _ _ _ (by decide)]; exact (by rw [eI_1]; exact pq_us _ _ _ _)))), hu_15p0⟩, (fun b hb => by rw [hu_15f 320 (by decide), eI_5, pq_uf _ _ _ (by decide), eI_4, pq_uf _ _ _ (by decide), eI_1, pq_ua _ _ _ _ hb])⟩, by rw [ht]; exact hP, va_K.moved hW.alike hK, hD⟩, hS.F ht⟩) hS.2.2 dX10_copyFrom_106
