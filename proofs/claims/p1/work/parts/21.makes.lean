theorem dX3_init_0 : decode cX3_init 0 = .ok (.aload_n 0, 1) := by decide +kernel
theorem tw_126 : Cond.methodLink RX3 3 objectInit ∈ wsL_law := List.mem_of_getElem? (i := 126) (by decide +kernel)
theorem dX3_init_1 : decode cX3_init 1 = .ok (.invokespecial 3, 3) := by decide +kernel
theorem dX3_init_4 : decode cX3_init 4 = .ok (.aload_n 0, 1) := by decide +kernel
theorem dX3_init_5 : decode cX3_init 5 = .ok (.bipush 10, 2) := by decide +kernel
theorem tw_127 : Cond.classLink RX3 9 RX8 ∈ wsL_law := List.mem_of_getElem? (i := 127) (by decide +kernel)
theorem dX3_init_7 : decode cX3_init 7 = .ok (.anewarray 9, 3) := by decide +kernel
theorem dX3_init_10 : decode cX3_init 10 = .ok (.putfield 11, 3) := by decide +kernel
theorem dX3_init_13 : decode cX3_init 13 = .ok (.aload_n 0, 1) := by decide +kernel
theorem dX3_init_14 : decode cX3_init 14 = .ok (.bipush 30, 2) := by decide +kernel
theorem dX3_init_16 : decode cX3_init 16 = .ok (.newarray .int, 2) := by decide +kernel
theorem dX3_init_18 : decode cX3_init 18 = .ok (.putfield 17, 3) := by decide +kernel
theorem dX3_init_21 : decode cX3_init 21 = .ok (.aload_n 0, 1) := by decide +kernel
theorem dX3_init_22 : decode cX3_init 22 = .ok (.bipush 30, 2) := by decide +kernel
theorem dX3_init_24 : decode cX3_init 24 = .ok (.newarray .int, 2) := by decide +kernel
theorem dX3_init_26 : decode cX3_init 26 = .ok (.putfield 21, 3) := by decide +kernel
theorem dX3_init_29 : decode cX3_init 29 = .ok (.aload_n 0, 1) := by decide +kernel
theorem dX3_init_30 : decode cX3_init 30 = .ok (.bipush 30, 2) := by decide +kernel
theorem dX3_init_32 : decode cX3_init 32 = .ok (.newarray .int, 2) := by decide +kernel
theorem dX3_init_34 : decode cX3_init 34 = .ok (.putfield 24, 3) := by decide +kernel
theorem dX3_init_37 : decode cX3_init 37 = .ok (.aload_n 0, 1) := by decide +kernel
theorem dX3_init_38 : decode cX3_init 38 = .ok (.bipush 6, 2) := by decide +kernel
theorem dX3_init_40 : decode cX3_init 40 = .ok (.newarray .int, 2) := by decide +kernel
theorem tw_132 : Cond.fieldLink RX3 27 "RingsUnder$Law" "names" "[I" ∈ wsL_law := List.mem_of_getElem? (i := 132) (by decide +kernel)
theorem dX3_init_42 : decode cX3_init 42 = .ok (.putfield 27, 3) := by decide +kernel
theorem dX3_init_45 : decode cX3_init 45 = .ok (.aload_n 0, 1) := by decide +kernel
theorem dX3_init_46 : decode cX3_init 46 = .ok (.bipush 40, 2) := by decide +kernel
theorem dX3_init_48 : decode cX3_init 48 = .ok (.newarray .int, 2) := by decide +kernel
theorem tw_133 : Cond.fieldLink RX3 30 "RingsUnder$Law" "stack" "[I" ∈ wsL_law := List.mem_of_getElem? (i := 133) (by decide +kernel)
theorem dX3_init_50 : decode cX3_init 50 = .ok (.putfield 30, 3) := by decide +kernel
theorem dX3_init_53 : decode cX3_init 53 = .ok (.return_, 1) := by decide +kernel
theorem dX10_init_0 : decode cX10_init 0 = .ok (.aload_n 0, 1) := by decide +kernel
theorem tw_30 : Cond.methodLink RX10 3 objectInit ∈ wsL_law := List.mem_of_getElem? (i := 30) (by decide +kernel)
theorem dX10_init_1 : decode cX10_init 1 = .ok (.invokespecial 3, 3) := by decide +kernel
theorem dX10_init_4 : decode cX10_init 4 = .ok (.aload_n 0, 1) := by decide +kernel
theorem dX10_init_5 : decode cX10_init 5 = .ok (.iconst (-1), 1) := by decide +kernel
theorem dX10_init_6 : decode cX10_init 6 = .ok (.putfield 9, 3) := by decide +kernel
theorem dX10_init_9 : decode cX10_init 9 = .ok (.aload_n 0, 1) := by decide +kernel
theorem dX10_init_10 : decode cX10_init 10 = .ok (.iconst (-1), 1) := by decide +kernel
theorem dX10_init_11 : decode cX10_init 11 = .ok (.putfield 15, 3) := by decide +kernel
theorem dX10_init_14 : decode cX10_init 14 = .ok (.aload_n 0, 1) := by decide +kernel
theorem dX10_init_15 : decode cX10_init 15 = .ok (.bipush 40, 2) := by decide +kernel
theorem dX10_init_17 : decode cX10_init 17 = .ok (.newarray .int, 2) := by decide +kernel
theorem dX10_init_19 : decode cX10_init 19 = .ok (.putfield 18, 3) := by decide +kernel
theorem dX10_init_22 : decode cX10_init 22 = .ok (.aload_n 0, 1) := by decide +kernel
theorem tw_35 : Cond.classLink RX10 22 RX7 ∈ wsL_law := List.mem_of_getElem? (i := 35) (by decide +kernel)
theorem tw_36 : Cond.instantiable RX7 15 ∈ wsL_law := List.mem_of_getElem? (i := 36) (by decide +kernel)
theorem dX10_init_23 : decode cX10_init 23 = .ok (.new 22, 3) := by decide +kernel
theorem dX10_init_26 : decode cX10_init 26 = .ok (.dup, 1) := by decide +kernel
theorem tw_59 : Cond.code yX7_init cX7_init 1 none ∈ wsL_law := List.mem_of_getElem? (i := 59) (by decide +kernel)
theorem tw_57 : Cond.methodLink RX10 24 yX7_init ∈ wsL_law := List.mem_of_getElem? (i := 57) (by decide +kernel)
theorem tw_58 : Cond.instanceMethod yX7_init ∈ wsL_law := List.mem_of_getElem? (i := 58) (by decide +kernel)
theorem dX10_init_27 : decode cX10_init 27 = .ok (.invokespecial 24, 3) := by decide +kernel
theorem dX10_init_30 : decode cX10_init 30 = .ok (.putfield 25, 3) := by decide +kernel
theorem dX10_init_33 : decode cX10_init 33 = .ok (.aload_n 0, 1) := by decide +kernel
theorem tw_39 : Cond.classLink RX10 29 RX2 ∈ wsL_law := List.mem_of_getElem? (i := 39) (by decide +kernel)
theorem tw_40 : Cond.instantiable RX2 20 ∈ wsL_law := List.mem_of_getElem? (i := 40) (by decide +kernel)
theorem dX10_init_34 : decode cX10_init 34 = .ok (.new 29, 3) := by decide +kernel
theorem dX10_init_37 : decode cX10_init 37 = .ok (.dup, 1) := by decide +kernel
theorem tw_79 : Cond.code yX2_init cX2_init 1 none ∈ wsL_law := List.mem_of_getElem? (i := 79) (by decide +kernel)
theorem tw_77 : Cond.methodLink RX10 31 yX2_init ∈ wsL_law := List.mem_of_getElem? (i := 77) (by decide +kernel)
theorem tw_78 : Cond.instanceMethod yX2_init ∈ wsL_law := List.mem_of_getElem? (i := 78) (by decide +kernel)
theorem dX10_init_38 : decode cX10_init 38 = .ok (.invokespecial 31, 3) := by decide +kernel
theorem dX10_init_41 : decode cX10_init 41 = .ok (.putfield 32, 3) := by decide +kernel
theorem dX10_init_44 : decode cX10_init 44 = .ok (.aload_n 0, 1) := by decide +kernel
theorem tw_43 : Cond.classLink RX10 36 RX0 ∈ wsL_law := List.mem_of_getElem? (i := 43) (by decide +kernel)
theorem tw_44 : Cond.instantiable RX0 16 ∈ wsL_law := List.mem_of_getElem? (i := 44) (by decide +kernel)
theorem dX10_init_45 : decode cX10_init 45 = .ok (.new 36, 3) := by decide +kernel
theorem dX10_init_48 : decode cX10_init 48 = .ok (.dup, 1) := by decide +kernel
theorem tw_108 : Cond.code yX0_init cX0_init 1 none ∈ wsL_law := List.mem_of_getElem? (i := 108) (by decide +kernel)
theorem dX10_init_49 : decode cX10_init 49 = .ok (.invokespecial 38, 3) := by decide +kernel
theorem dX10_init_52 : decode cX10_init 52 = .ok (.putfield 39, 3) := by decide +kernel
theorem dX10_init_55 : decode cX10_init 55 = .ok (.aload_n 0, 1) := by decide +kernel
theorem tw_47 : Cond.classLink RX10 43 RX3 ∈ wsL_law := List.mem_of_getElem? (i := 47) (by decide +kernel)
theorem tw_48 : Cond.instantiable RX3 8 ∈ wsL_law := List.mem_of_getElem? (i := 48) (by decide +kernel)
theorem dX10_init_56 : decode cX10_init 56 = .ok (.new 43, 3) := by decide +kernel
theorem dX10_init_59 : decode cX10_init 59 = .ok (.dup, 1) := by decide +kernel
theorem tw_125 : Cond.code yX3_init cX3_init 1 none ∈ wsL_law := List.mem_of_getElem? (i := 125) (by decide +kernel)
theorem dX10_init_60 : decode cX10_init 60 = .ok (.invokespecial 45, 3) := by decide +kernel
theorem dX10_init_63 : decode cX10_init 63 = .ok (.putfield 46, 3) := by decide +kernel
theorem dX10_init_66 : decode cX10_init 66 = .ok (.aload_n 0, 1) := by decide +kernel
theorem tw_51 : Cond.classLink RX10 50 RX1 ∈ wsL_law := List.mem_of_getElem? (i := 51) (by decide +kernel)
theorem tw_52 : Cond.instantiable RX1 3 ∈ wsL_law := List.mem_of_getElem? (i := 52) (by decide +kernel)
theorem dX10_init_67 : decode cX10_init 67 = .ok (.new 50, 3) := by decide +kernel
theorem dX10_init_70 : decode cX10_init 70 = .ok (.dup, 1) := by decide +kernel
theorem tw_135 : Cond.code yX1_init cX1_init 1 none ∈ wsL_law := List.mem_of_getElem? (i := 135) (by decide +kernel)
theorem dX10_init_71 : decode cX10_init 71 = .ok (.invokespecial 52, 3) := by decide +kernel
theorem dX10_init_74 : decode cX10_init 74 = .ok (.putfield 53, 3) := by decide +kernel
theorem dX10_init_77 : decode cX10_init 77 = .ok (.aload_n 0, 1) := by decide +kernel
theorem dX10_init_78 : decode cX10_init 78 = .ok (.bipush 40, 2) := by decide +kernel
theorem dX10_init_80 : decode cX10_init 80 = .ok (.newarray .int, 2) := by decide +kernel
theorem tw_55 : Cond.fieldLink RX10 57 "RingsUnder$World" "queue" "[I" ∈ wsL_law := List.mem_of_getElem? (i := 55) (by decide +kernel)
theorem dX10_init_82 : decode cX10_init 82 = .ok (.putfield 57, 3) := by decide +kernel
theorem dX10_init_85 : decode cX10_init 85 = .ok (.aload_n 0, 1) := by decide +kernel
theorem dX10_init_86 : decode cX10_init 86 = .ok (.iconst 5, 1) := by decide +kernel
theorem dX10_init_87 : decode cX10_init 87 = .ok (.newarray .int, 2) := by decide +kernel
theorem dX10_init_89 : decode cX10_init 89 = .ok (.putfield 60, 3) := by decide +kernel
theorem dX10_init_92 : decode cX10_init 92 = .ok (.aload_n 0, 1) := by decide +kernel
theorem dX10_init_93 : decode cX10_init 93 = .ok (.getfield 18, 3) := by decide +kernel
theorem dX10_init_96 : decode cX10_init 96 = .ok (.iconst (-1), 1) := by decide +kernel
theorem dX10_init_97 : decode cX10_init 97 = .ok (.invokestatic 63, 3) := by decide +kernel
theorem dX10_init_100 : decode cX10_init 100 = .ok (.return_, 1) := by decide +kernel
theorem dX5_init_0 : decode cX5_init 0 = .ok (.aload_n 0, 1) := by decide +kernel
theorem tw_141 : Cond.methodLink RX5 3 objectInit ∈ wsL_law := List.mem_of_getElem? (i := 141) (by decide +kernel)
theorem dX5_init_1 : decode cX5_init 1 = .ok (.invokespecial 3, 3) := by decide +kernel
theorem dX5_init_4 : decode cX5_init 4 = .ok (.aload_n 0, 1) := by decide +kernel
theorem dX5_init_5 : decode cX5_init 5 = .ok (.iconst 5, 1) := by decide +kernel
theorem dX5_init_6 : decode cX5_init 6 = .ok (.newarray .int, 2) := by decide +kernel
theorem dX5_init_8 : decode cX5_init 8 = .ok (.putfield 9, 3) := by decide +kernel
theorem dX5_init_11 : decode cX5_init 11 = .ok (.aload_n 0, 1) := by decide +kernel
theorem dX5_init_12 : decode cX5_init 12 = .ok (.iconst 5, 1) := by decide +kernel
theorem dX5_init_13 : decode cX5_init 13 = .ok (.newarray .int, 2) := by decide +kernel
theorem dX5_init_15 : decode cX5_init 15 = .ok (.putfield 15, 3) := by decide +kernel
theorem dX5_init_18 : decode cX5_init 18 = .ok (.aload_n 0, 1) := by decide +kernel
theorem dX5_init_19 : decode cX5_init 19 = .ok (.bipush 40, 2) := by decide +kernel
theorem dX5_init_21 : decode cX5_init 21 = .ok (.newarray .int, 2) := by decide +kernel
theorem tw_144 : Cond.fieldLink RX5 18 "RingsUnder$RingOrders" "queue" "[I" ∈ wsL_law := List.mem_of_getElem? (i := 144) (by decide +kernel)
theorem dX5_init_23 : decode cX5_init 23 = .ok (.putfield 18, 3) := by decide +kernel
theorem dX5_init_26 : decode cX5_init 26 = .ok (.aload_n 0, 1) := by decide +kernel
theorem dX5_init_27 : decode cX5_init 27 = .ok (.bipush 12, 2) := by decide +kernel
theorem dX5_init_29 : decode cX5_init 29 = .ok (.newarray .long, 2) := by decide +kernel
theorem dX5_init_31 : decode cX5_init 31 = .ok (.putfield 21, 3) := by decide +kernel
theorem dX5_init_34 : decode cX5_init 34 = .ok (.aload_n 0, 1) := by decide +kernel
theorem dX5_init_35 : decode cX5_init 35 = .ok (.bipush 60, 2) := by decide +kernel
theorem dX5_init_37 : decode cX5_init 37 = .ok (.newarray .int, 2) := by decide +kernel
theorem dX5_init_39 : decode cX5_init 39 = .ok (.putfield 25, 3) := by decide +kernel
theorem dX5_init_42 : decode cX5_init 42 = .ok (.aload_n 0, 1) := by decide +kernel
theorem dX5_init_43 : decode cX5_init 43 = .ok (.bipush 12, 2) := by decide +kernel
theorem dX5_init_45 : decode cX5_init 45 = .ok (.newarray .long, 2) := by decide +kernel
theorem dX5_init_47 : decode cX5_init 47 = .ok (.putfield 28, 3) := by decide +kernel
theorem dX5_init_50 : decode cX5_init 50 = .ok (.return_, 1) := by decide +kernel
theorem dX6_init_0 : decode cX6_init 0 = .ok (.aload_n 0, 1) := by decide +kernel
theorem tw_164 : Cond.methodLink RX6 3 objectInit ∈ wsL_law := List.mem_of_getElem? (i := 164) (by decide +kernel)
theorem dX6_init_1 : decode cX6_init 1 = .ok (.invokespecial 3, 3) := by decide +kernel
theorem dX6_init_4 : decode cX6_init 4 = .ok (.aload_n 0, 1) := by decide +kernel
theorem dX6_init_5 : decode cX6_init 5 = .ok (.sipush 300, 3) := by decide +kernel
theorem dX6_init_8 : decode cX6_init 8 = .ok (.newarray .int, 2) := by decide +kernel
theorem dX6_init_10 : decode cX6_init 10 = .ok (.putfield 9, 3) := by decide +kernel
theorem dX6_init_13 : decode cX6_init 13 = .ok (.return_, 1) := by decide +kernel
theorem dX8_init_0 : decode cX8_init 0 = .ok (.aload_n 0, 1) := by decide +kernel
theorem tw_168 : Cond.methodLink RX8 3 objectInit ∈ wsL_law := List.mem_of_getElem? (i := 168) (by decide +kernel)
theorem dX8_init_1 : decode cX8_init 1 = .ok (.invokespecial 3, 3) := by decide +kernel
theorem dX8_init_4 : decode cX8_init 4 = .ok (.aload_n 0, 1) := by decide +kernel
theorem dX8_init_5 : decode cX8_init 5 = .ok (.bipush 20, 2) := by decide +kernel
theorem dX8_init_7 : decode cX8_init 7 = .ok (.newarray .int, 2) := by decide +kernel
theorem tw_169 : Cond.fieldLink RX8 9 "RingsUnder$Text" "sorts" "[I" ∈ wsL_law := List.mem_of_getElem? (i := 169) (by decide +kernel)
theorem dX8_init_9 : decode cX8_init 9 = .ok (.putfield 9, 3) := by decide +kernel
theorem dX8_init_12 : decode cX8_init 12 = .ok (.aload_n 0, 1) := by decide +kernel
theorem dX8_init_13 : decode cX8_init 13 = .ok (.bipush 21, 2) := by decide +kernel
theorem dX8_init_15 : decode cX8_init 15 = .ok (.newarray .int, 2) := by decide +kernel
theorem tw_170 : Cond.fieldLink RX8 15 "RingsUnder$Text" "from" "[I" ∈ wsL_law := List.mem_of_getElem? (i := 170) (by decide +kernel)
theorem dX8_init_17 : decode cX8_init 17 = .ok (.putfield 15, 3) := by decide +kernel
theorem dX8_init_20 : decode cX8_init 20 = .ok (.aload_n 0, 1) := by decide +kernel
theorem dX8_init_21 : decode cX8_init 21 = .ok (.sipush 300, 3) := by decide +kernel
theorem dX8_init_24 : decode cX8_init 24 = .ok (.newarray .int, 2) := by decide +kernel
theorem tw_171 : Cond.fieldLink RX8 18 "RingsUnder$Text" "code" "[I" ∈ wsL_law := List.mem_of_getElem? (i := 171) (by decide +kernel)
theorem dX8_init_26 : decode cX8_init 26 = .ok (.putfield 18, 3) := by decide +kernel
theorem dX8_init_29 : decode cX8_init 29 = .ok (.return_, 1) := by decide +kernel
theorem dX4_init_0 : decode cX4_init 0 = .ok (.aload_n 0, 1) := by decide +kernel
theorem tw_150 : Cond.methodLink RX4 3 objectInit ∈ wsL_law := List.mem_of_getElem? (i := 150) (by decide +kernel)
theorem dX4_init_1 : decode cX4_init 1 = .ok (.invokespecial 3, 3) := by decide +kernel
theorem dX4_init_4 : decode cX4_init 4 = .ok (.aload_n 0, 1) := by decide +kernel
theorem tw_151 : Cond.classLink RX4 9 RX6 ∈ wsL_law := List.mem_of_getElem? (i := 151) (by decide +kernel)
theorem tw_152 : Cond.instantiable RX6 6 ∈ wsL_law := List.mem_of_getElem? (i := 152) (by decide +kernel)
theorem dX4_init_5 : decode cX4_init 5 = .ok (.new 9, 3) := by decide +kernel
theorem dX4_init_8 : decode cX4_init 8 = .ok (.dup, 1) := by decide +kernel
theorem tw_163 : Cond.code yX6_init cX6_init 1 none ∈ wsL_law := List.mem_of_getElem? (i := 163) (by decide +kernel)
theorem dX4_init_9 : decode cX4_init 9 = .ok (.invokespecial 11, 3) := by decide +kernel
theorem tw_154 : Cond.fieldLink RX4 12 "RingsUnder$Reader" "scanner" "LRingsUnder$Scanner;" ∈ wsL_law := List.mem_of_getElem? (i := 154) (by decide +kernel)
theorem dX4_init_12 : decode cX4_init 12 = .ok (.putfield 12, 3) := by decide +kernel
theorem dX4_init_15 : decode cX4_init 15 = .ok (.aload_n 0, 1) := by decide +kernel
theorem dX4_init_16 : decode cX4_init 16 = .ok (.iconst (-1), 1) := by decide +kernel
theorem tw_155 : Cond.fieldLink RX4 18 "RingsUnder$Reader" "fault" "I" ∈ wsL_law := List.mem_of_getElem? (i := 155) (by decide +kernel)
theorem dX4_init_17 : decode cX4_init 17 = .ok (.putfield 18, 3) := by decide +kernel
theorem dX4_init_20 : decode cX4_init 20 = .ok (.aload_n 0, 1) := by decide +kernel
theorem dX4_init_21 : decode cX4_init 21 = .ok (.iconst (-1), 1) := by decide +kernel
theorem tw_156 : Cond.fieldLink RX4 22 "RingsUnder$Reader" "place" "I" ∈ wsL_law := List.mem_of_getElem? (i := 156) (by decide +kernel)
theorem dX4_init_22 : decode cX4_init 22 = .ok (.putfield 22, 3) := by decide +kernel
theorem dX4_init_25 : decode cX4_init 25 = .ok (.aload_n 0, 1) := by decide +kernel
theorem tw_157 : Cond.classLink RX4 25 RX8 ∈ wsL_law := List.mem_of_getElem? (i := 157) (by decide +kernel)
theorem tw_158 : Cond.instantiable RX8 4 ∈ wsL_law := List.mem_of_getElem? (i := 158) (by decide +kernel)
theorem tw_159 : Cond.initialized RX8 ∈ wsL_law := List.mem_of_getElem? (i := 159) (by decide +kernel)
theorem dX4_init_26 : decode cX4_init 26 = .ok (.new 25, 3) := by decide +kernel
theorem dX4_init_29 : decode cX4_init 29 = .ok (.dup, 1) := by decide +kernel
theorem tw_167 : Cond.code yX8_init cX8_init 1 none ∈ wsL_law := List.mem_of_getElem? (i := 167) (by decide +kernel)
theorem dX4_init_30 : decode cX4_init 30 = .ok (.invokespecial 27, 3) := by decide +kernel
theorem tw_160 : Cond.fieldLink RX4 28 "RingsUnder$Reader" "draft" "LRingsUnder$Text;" ∈ wsL_law := List.mem_of_getElem? (i := 160) (by decide +kernel)
theorem dX4_init_33 : decode cX4_init 33 = .ok (.putfield 28, 3) := by decide +kernel
theorem dX4_init_36 : decode cX4_init 36 = .ok (.aload_n 0, 1) := by decide +kernel
theorem dX4_init_37 : decode cX4_init 37 = .ok (.bipush 40, 2) := by decide +kernel
theorem dX4_init_39 : decode cX4_init 39 = .ok (.newarray .int, 2) := by decide +kernel
theorem tw_161 : Cond.fieldLink RX4 32 "RingsUnder$Reader" "waiting" "[I" ∈ wsL_law := List.mem_of_getElem? (i := 161) (by decide +kernel)
theorem dX4_init_41 : decode cX4_init 41 = .ok (.putfield 32, 3) := by decide +kernel
theorem dX4_init_44 : decode cX4_init 44 = .ok (.return_, 1) := by decide +kernel
theorem dX11_init_0 : decode cX11_init 0 = .ok (.aload_n 0, 1) := by decide +kernel
theorem tw_10 : Cond.methodLink RX11 1 objectInit ∈ wsL_law := List.mem_of_getElem? (i := 10) (by decide +kernel)
theorem dX11_init_1 : decode cX11_init 1 = .ok (.invokespecial 1, 3) := by decide +kernel
theorem dX11_init_4 : decode cX11_init 4 = .ok (.aload_n 0, 1) := by decide +kernel
theorem tw_13 : Cond.classLink RX11 7 RX10 ∈ wsL_law := List.mem_of_getElem? (i := 13) (by decide +kernel)
theorem tw_14 : Cond.instantiable RX10 13 ∈ wsL_law := List.mem_of_getElem? (i := 14) (by decide +kernel)
theorem dX11_init_5 : decode cX11_init 5 = .ok (.new 7, 3) := by decide +kernel
theorem dX11_init_8 : decode cX11_init 8 = .ok (.dup, 1) := by decide +kernel
theorem tw_29 : Cond.code yX10_init cX10_init 1 none ∈ wsL_law := List.mem_of_getElem? (i := 29) (by decide +kernel)
theorem tw_27 : Cond.methodLink RX11 9 yX10_init ∈ wsL_law := List.mem_of_getElem? (i := 27) (by decide +kernel)
theorem tw_28 : Cond.instanceMethod yX10_init ∈ wsL_law := List.mem_of_getElem? (i := 28) (by decide +kernel)
theorem dX11_init_9 : decode cX11_init 9 = .ok (.invokespecial 9, 3) := by decide +kernel
theorem dX11_init_12 : decode cX11_init 12 = .ok (.putfield 10, 3) := by decide +kernel
theorem dX11_init_15 : decode cX11_init 15 = .ok (.aload_n 0, 1) := by decide +kernel
theorem dX11_init_16 : decode cX11_init 16 = .ok (.new 7, 3) := by decide +kernel
theorem dX11_init_19 : decode cX11_init 19 = .ok (.dup, 1) := by decide +kernel
theorem dX11_init_20 : decode cX11_init 20 = .ok (.invokespecial 9, 3) := by decide +kernel
theorem dX11_init_23 : decode cX11_init 23 = .ok (.putfield 16, 3) := by decide +kernel
theorem dX11_init_26 : decode cX11_init 26 = .ok (.aload_n 0, 1) := by decide +kernel
theorem dX11_init_27 : decode cX11_init 27 = .ok (.new 7, 3) := by decide +kernel
theorem dX11_init_30 : decode cX11_init 30 = .ok (.dup, 1) := by decide +kernel
theorem dX11_init_31 : decode cX11_init 31 = .ok (.invokespecial 9, 3) := by decide +kernel
theorem dX11_init_34 : decode cX11_init 34 = .ok (.putfield 19, 3) := by decide +kernel
theorem dX11_init_37 : decode cX11_init 37 = .ok (.aload_n 0, 1) := by decide +kernel
theorem tw_19 : Cond.classLink RX11 22 RX5 ∈ wsL_law := List.mem_of_getElem? (i := 19) (by decide +kernel)
theorem tw_20 : Cond.instantiable RX5 8 ∈ wsL_law := List.mem_of_getElem? (i := 20) (by decide +kernel)
theorem dX11_init_38 : decode cX11_init 38 = .ok (.new 22, 3) := by decide +kernel
theorem dX11_init_41 : decode cX11_init 41 = .ok (.dup, 1) := by decide +kernel
theorem tw_140 : Cond.code yX5_init cX5_init 1 none ∈ wsL_law := List.mem_of_getElem? (i := 140) (by decide +kernel)
theorem dX11_init_42 : decode cX11_init 42 = .ok (.invokespecial 24, 3) := by decide +kernel
theorem dX11_init_45 : decode cX11_init 45 = .ok (.putfield 25, 3) := by decide +kernel
theorem dX11_init_48 : decode cX11_init 48 = .ok (.aload_n 0, 1) := by decide +kernel
theorem tw_23 : Cond.classLink RX11 29 RX4 ∈ wsL_law := List.mem_of_getElem? (i := 23) (by decide +kernel)
theorem tw_24 : Cond.instantiable RX4 12 ∈ wsL_law := List.mem_of_getElem? (i := 24) (by decide +kernel)
theorem tw_25 : Cond.initialized RX4 ∈ wsL_law := List.mem_of_getElem? (i := 25) (by decide +kernel)
theorem dX11_init_49 : decode cX11_init 49 = .ok (.new 29, 3) := by decide +kernel
theorem dX11_init_52 : decode cX11_init 52 = .ok (.dup, 1) := by decide +kernel
theorem tw_149 : Cond.code yX4_init cX4_init 1 none ∈ wsL_law := List.mem_of_getElem? (i := 149) (by decide +kernel)
theorem dX11_init_53 : decode cX11_init 53 = .ok (.invokespecial 31, 3) := by decide +kernel
theorem dX11_init_56 : decode cX11_init 56 = .ok (.putfield 32, 3) := by decide +kernel
theorem dX11_init_59 : decode cX11_init 59 = .ok (.return_, 1) := by decide +kernel
set_option maxHeartbeats 8000000 in
set_option maxRecDepth 100000 in
theorem c_X3_init (l : Launch) (D : va_G) (t : pq_T) (σ : pq_S) (I : Nat → Nat → Int32) (J : Nat → Nat → Int64) (ri : Nat → Nat → Int32) (rj : Nat → Nat → Int64) (rq : Nat → Nat → Option Nat) (sz : Nat) (this : Nat) (hL_this : this ∈ σ.1) (hK_this : σ.2.1 this = 3) (hZ : pq_Z I) (hq0 : rq = fun _ _ => none) : MetV l yX3_init (wa yX3_init cX3_init 1 none) ({ frames := 1, cells := 6, slots := 146, locals := 20 }) [.ref this] D t σ (I, J, ri, rj, rq) sz 6 146 (fun (u : pq_S × pq_M) => ∃ (σ' : pq_S) (I' : Nat → Nat → Int32) (J' : Nat → Nat → Int64) (ri' : Nat → Nat → Int32) (rj' : Nat → Nat → Int64) (rq' : Nat → Nat → Option Nat), u = (σ', I', J', ri', rj', rq') ∧ Et this σ σ' I I' ∧ okLaw σ' I' this ∧ pq_Z I' ∧ rq' = fun _ _ => none) := by
  refine Met.ofW (cc := cX3_init) (maxL := 1) (ret := none) (by decide) rfl ?_
  intro p e s m args below meth c s₁ B hml hv
  obtain ⟨rfl, hsz, hP, hK, hD0, hN⟩ := hv
  have hx := B.exec
  have hb := B.bytes
  have hr := B.returns
  have hts := atoms_spec (ws := (wa yX3_init cX3_init 1 none)) B.pre
  have hown : s.vm.findClass RX3 = some m.cls := findClass_of_methodNamed B.named
  have hlocks := B.notSynchronized
  have hin : meth.name = "<init>" := (name_of_methodNamed B.named B.method).1
  subst hsz
  have hD : va_D (pq_B t σ (I, J, ri, rj, rq) s.heap.size) (pq_P t σ (I, J, ri, rj, rq)) := hD0.self
  generalize hAe : pq_B t σ (I, J, ri, rj, rq) s.heap.size = A at hD ⊢
  have hA : ∀ q : Nat, s.heap.size ≤ q → A q := fun q h => by rw [← hAe]; exact Or.inr h
  have hS : va_S A s.heap s.heap [] := va_S.rf
  have hl := lv_entry ([.ref this]) (n := 1) (Nat.le_of_ble_eq_true rfl)
  rw [lg_entry_eq]
  generalize (lg_sl ([.ref this]) ++ List.replicate (1 - (lg_sl ([.ref this])).length) Slot.unset).toArray = ls at hl ⊢
  have hl : lv_has ls 1 [(0, .ref this)] := hl
  refine lv_aload_n hx hb dX3_init_0 rfl (lv_at hl 0 rfl) ?_
  refine W.objInit hx hb hown (hts _ (tw_c tw_126)) (hts _ (tw_c tw_11)) (hts _ (tw_c tw_12)) rfl (by rw [hml]; exact hl.1) rfl dX3_init_1 (Nat.le_of_ble_eq_true rfl) (Nat.le_of_ble_eq_true rfl) ?_
  refine W.eq (g2 := F0 m 4 ls []) rfl ?_
  refine lv_aload_n hx hb dX3_init_4 rfl (lv_at hl 0 rfl) ?_
  refine lv_bipush (v := 10) hx hb dX3_init_5 (by decide) ?_
  refine nw_q (N' := 10) hx hb hown (hts _ (tw_c tw_127)) hN.2 hK hP hD hS hA (by decide) (by decide) (Nat.le_of_ble_eq_true rfl) (Nat.le_of_ble_eq_true rfl) (Nat.le_of_ble_eq_true rfl) dX3_init_7 (fun q_1 r_3 H hq_2 er_3 hP hD hS => ?_)
  have hqq_4 : r_3 = fun _ _ => none := by rw [er_3, hq0]; exact va_upc rfl
  refine pr_F (q := q_1) (C := RX3) (T := TX3) (N := 8) hx hb hts (tw_i inlX3) tyX3 tyX3_ok nmX3 hown hK hP hD hS (As_in hL_this) (As_kk hq_2 hL_this hK_this) (by decide) rfl 1 97 (by decide) (hts _ (tw_c tw_128)) rfl hin rfl (tyX3_ok 1 (by decide)) rfl rfl (Nat.le_of_ble_eq_true rfl) (pr_97 _ _ _ _ _) dX3_init_10 (fun σ_5 H locs hp_6 hP hD hS => ?_)
  have hs_7 := As_of hq_2 hp_6
  have hz_8 := As_es (I := I) hs_7
  have hE := Et_es Et_rf hz_8
  have hA_97 := As_ok hs_7 hL_this
  have hK_this := Es_k hz_8 hL_this hK_this
  have hL_this := Es_at hz_8 hL_this
  refine lv_aload_n hx hb dX3_init_13 rfl (lv_at hl 0 rfl) ?_
  refine lv_bipush (v := 30) hx hb dX3_init_14 (by decide) ?_
  refine nw_i (N' := 30) hx hb (hts _ (tw_c tw_33)) hK hP hD hS hA (by decide) (by decide) (Nat.le_of_ble_eq_true rfl) (Nat.le_of_ble_eq_true rfl) (Nat.le_of_ble_eq_true rfl) dX3_init_16 (fun q_9 r_11 H hq_10 er_11 hP hD hS => ?_)
  refine pr_F (q := q_9) (C := RX3) (T := TX3) (N := 8) hx hb hts (tw_i inlX3) tyX3 tyX3_ok nmX3 hown hK hP hD hS (As_in hL_this) (As_kk hq_10 hL_this hK_this) (by decide) rfl 3 99 (by decide) (hts _ (tw_c tw_129)) rfl hin rfl (tyX3_ok 3 (by decide)) rfl rfl (Nat.le_of_ble_eq_true rfl) (pr_99 _ _ _ _ _) dX3_init_18 (fun σ_12 H locs hp_13 hP hD hS => ?_)
  have hs_14 := As_of hq_10 hp_13
  have hz_15 := As_es (I := I) hs_14
  have hE := Et_es hE hz_15
  have hA_97 := okA_es hz_15 (by decide) hA_97
  have hA_99 := As_ok hs_14 hL_this
  have hK_this := Es_k hz_15 hL_this hK_this
  have hL_this := Es_at hz_15 hL_this
  refine lv_aload_n hx hb dX3_init_21 rfl (lv_at hl 0 rfl) ?_
  refine lv_bipush (v := 30) hx hb dX3_init_22 (by decide) ?_
  refine nw_i (N' := 30) hx hb (hts _ (tw_c tw_33)) hK hP hD hS hA (by decide) (by decide) (Nat.le_of_ble_eq_true rfl) (Nat.le_of_ble_eq_true rfl) (Nat.le_of_ble_eq_true rfl) dX3_init_24 (fun q_16 r_18 H hq_17 er_18 hP hD hS => ?_)
  refine pr_F (q := q_16) (C := RX3) (T := TX3) (N := 8) hx hb hts (tw_i inlX3) tyX3 tyX3_ok nmX3 hown hK hP hD hS (As_in hL_this) (As_kk hq_17 hL_this hK_this) (by decide) rfl 4 100 (by decide) (hts _ (tw_c tw_130)) rfl hin rfl (tyX3_ok 4 (by decide)) rfl rfl (Nat.le_of_ble_eq_true rfl) (pr_100 _ _ _ _ _) dX3_init_26 (fun σ_19 H locs hp_20 hP hD hS => ?_)
  have hs_21 := As_of hq_17 hp_20
  have hz_22 := As_es (I := I) hs_21
  have hE := Et_es hE hz_22
  have hA_97 := okA_es hz_22 (by decide) hA_97
  have hA_99 := okA_es hz_22 (by decide) hA_99
  have hA_100 := As_ok hs_21 hL_this
  have hK_this := Es_k hz_22 hL_this hK_this
  have hL_this := Es_at hz_22 hL_this
  refine lv_aload_n hx hb dX3_init_29 rfl (lv_at hl 0 rfl) ?_
  refine lv_bipush (v := 30) hx hb dX3_init_30 (by decide) ?_
  refine nw_i (N' := 30) hx hb (hts _ (tw_c tw_33)) hK hP hD hS hA (by decide) (by decide) (Nat.le_of_ble_eq_true rfl) (Nat.le_of_ble_eq_true rfl) (Nat.le_of_ble_eq_true rfl) dX3_init_32 (fun q_23 r_25 H hq_24 er_25 hP hD hS => ?_)
  refine pr_F (q := q_23) (C := RX3) (T := TX3) (N := 8) hx hb hts (tw_i inlX3) tyX3 tyX3_ok nmX3 hown hK hP hD hS (As_in hL_this) (As_kk hq_24 hL_this hK_this) (by decide) rfl 5 101 (by decide) (hts _ (tw_c tw_131)) rfl hin rfl (tyX3_ok 5 (by decide)) rfl rfl (Nat.le_of_ble_eq_true rfl) (pr_101 _ _ _ _ _) dX3_init_34 (fun σ_26 H locs hp_27 hP hD hS => ?_)
  have hs_28 := As_of hq_24 hp_27
  have hz_29 := As_es (I := I) hs_28
  have hE := Et_es hE hz_29
  have hA_97 := okA_es hz_29 (by decide) hA_97
  have hA_99 := okA_es hz_29 (by decide) hA_99
  have hA_100 := okA_es hz_29 (by decide) hA_100
  have hA_101 := As_ok hs_28 hL_this
  have hK_this := Es_k hz_29 hL_this hK_this
  have hL_this := Es_at hz_29 hL_this
  refine lv_aload_n hx hb dX3_init_37 rfl (lv_at hl 0 rfl) ?_
  refine lv_bipush (v := 6) hx hb dX3_init_38 (by decide) ?_
  refine nw_i (N' := 6) hx hb (hts _ (tw_c tw_33)) hK hP hD hS hA (by decide) (by decide) (Nat.le_of_ble_eq_true rfl) (Nat.le_of_ble_eq_true rfl) (Nat.le_of_ble_eq_true rfl) dX3_init_40 (fun q_30 r_32 H hq_31 er_32 hP hD hS => ?_)
  refine pr_F (q := q_30) (C := RX3) (T := TX3) (N := 8) hx hb hts (tw_i inlX3) tyX3 tyX3_ok nmX3 hown hK hP hD hS (As_in hL_this) (As_kk hq_31 hL_this hK_this) (by decide) rfl 6 102 (by decide) (hts _ (tw_c tw_132)) rfl hin rfl (tyX3_ok 6 (by decide)) rfl rfl (Nat.le_of_ble_eq_true rfl) (pr_102 _ _ _ _ _) dX3_init_42 (fun σ_33 H locs hp_34 hP hD hS => ?_)
  have hs_35 := As_of hq_31 hp_34
  have hz_36 := As_es (I := I) hs_35
  have hE := Et_es hE hz_36
  have hA_97 := okA_es hz_36 (by decide) hA_97
  have hA_99 := okA_es hz_36 (by decide) hA_99
  have hA_100 := okA_es hz_36 (by decide) hA_100
  have hA_101 := okA_es hz_36 (by decide) hA_101
  have hA_102 := As_ok hs_35 hL_this
  have hK_this := Es_k hz_36 hL_this hK_this
  have hL_this := Es_at hz_36 hL_this
  refine lv_aload_n hx hb dX3_init_45 rfl (lv_at hl 0 rfl) ?_
  refine lv_bipush (v := 40) hx hb dX3_init_46 (by decide) ?_
  refine nw_i (N' := 40) hx hb (hts _ (tw_c tw_33)) hK hP hD hS hA (by decide) (by decide) (Nat.le_of_ble_eq_true rfl) (Nat.le_of_ble_eq_true rfl) (Nat.le_of_ble_eq_true rfl) dX3_init_48 (fun q_37 r_39 H hq_38 er_39 hP hD hS => ?_)
  refine pr_F (q := q_37) (C := RX3) (T := TX3) (N := 8) hx hb hts (tw_i inlX3) tyX3 tyX3_ok nmX3 hown hK hP hD hS (As_in hL_this) (As_kk hq_38 hL_this hK_this) (by decide) rfl 7 103 (by decide) (hts _ (tw_c tw_133)) rfl hin rfl (tyX3_ok 7 (by decide)) rfl rfl (Nat.le_of_ble_eq_true rfl) (pr_103 _ _ _ _ _) dX3_init_50 (fun σ_40 H locs hp_41 hP hD hS => ?_)
  have hs_42 := As_of hq_38 hp_41
  have hz_43 := As_es (I := I) hs_42
  have hE := Et_es hE hz_43
  have hA_97 := okA_es hz_43 (by decide) hA_97
  have hA_99 := okA_es hz_43 (by decide) hA_99
  have hA_100 := okA_es hz_43 (by decide) hA_100
  have hA_101 := okA_es hz_43 (by decide) hA_101
  have hA_102 := okA_es hz_43 (by decide) hA_102
  have hA_103 := As_ok hs_42 hL_this
  have hK_this := Es_k hz_43 hL_this hK_this
  have hL_this := Es_at hz_43 hL_this
  exact W.vret hx hb hr (fun t1 ht hW => ⟨⟨(σ_40, I, J, r_39, rj, r_3), rfl, ⟨σ_40, I, J, r_39, rj, r_3, rfl, hE, ⟨hA_97, hA_99, hA_100, hA_101, hA_102, hA_103⟩, hZ, hqq_4⟩, by rw [ht]; exact hP, va_K.moved hW.alike hK, hD⟩, hS.F ht⟩) hS.2.2 dX3_init_53

set_option maxHeartbeats 8000000 in
set_option maxRecDepth 100000 in
theorem c_X10_init (l : Launch) (D : va_G) (t : pq_T) (σ : pq_S) (I : Nat → Nat → Int32) (J : Nat → Nat → Int64) (ri : Nat → Nat → Int32) (rj : Nat → Nat → Int64) (rq : Nat → Nat → Option Nat) (sz : Nat) (this : Nat) (hL_this : this ∈ σ.1) (hK_this : σ.2.1 this = 10) (hZ : pq_Z I) (hq0 : rq = fun _ _ => none) (hI_320 : I 320 this = 0) : MetV l yX10_init (wa yX10_init cX10_init 1 none) ({ frames := 3, cells := 58, slots := 2909, locals := 60 }) [.ref this] D t σ (I, J, ri, rj, rq) sz 58 2909 (fun (u : pq_S × pq_M) => ∃ (σ' : pq_S) (I' : Nat → Nat → Int32) (J' : Nat → Nat → Int64) (ri' : Nat → Nat → Int32) (rj' : Nat → Nat → Int64) (rq' : Nat → Nat → Option Nat), u = (σ', I', J', ri', rj', rq') ∧ Et this σ σ' I I' ∧ okWorld σ' I' this ∧ pq_Z I' ∧ rq' = fun _ _ => none) := by
  refine Met.ofW (cc := cX10_init) (maxL := 1) (ret := none) (by decide) rfl ?_
  intro p e s m args below meth c s₁ B hml hv
  obtain ⟨rfl, hsz, hP, hK, hD0, hN⟩ := hv
  have hx := B.exec
  have hb := B.bytes
  have hr := B.returns
  have hts := atoms_spec (ws := (wa yX10_init cX10_init 1 none)) B.pre
  have hown : s.vm.findClass RX10 = some m.cls := findClass_of_methodNamed B.named
  have hlocks := B.notSynchronized
  have hin : meth.name = "<init>" := (name_of_methodNamed B.named B.method).1
  subst hsz
  have hD : va_D (pq_B t σ (I, J, ri, rj, rq) s.heap.size) (pq_P t σ (I, J, ri, rj, rq)) := hD0.self
  generalize hAe : pq_B t σ (I, J, ri, rj, rq) s.heap.size = A at hD ⊢
  have hA : ∀ q : Nat, s.heap.size ≤ q → A q := fun q h => by rw [← hAe]; exact Or.inr h
  have hS : va_S A s.heap s.heap [] := va_S.rf
  have hl := lv_entry ([.ref this]) (n := 1) (Nat.le_of_ble_eq_true rfl)
  rw [lg_entry_eq]
  generalize (lg_sl ([.ref this]) ++ List.replicate (1 - (lg_sl ([.ref this])).length) Slot.unset).toArray = ls at hl ⊢
  have hl : lv_has ls 1 [(0, .ref this)] := hl
  refine lv_aload_n hx hb dX10_init_0 rfl (lv_at hl 0 rfl) ?_
  refine W.objInit hx hb hown (hts _ (tw_c tw_30)) (hts _ (tw_c tw_11)) (hts _ (tw_c tw_12)) rfl (by rw [hml]; exact hl.1) rfl dX10_init_1 (Nat.le_of_ble_eq_true rfl) (Nat.le_of_ble_eq_true rfl) ?_
  refine W.eq (g2 := F0 m 4 ls []) rfl ?_
  refine lv_aload_n hx hb dX10_init_4 rfl (lv_at hl 0 rfl) ?_
  refine lv_iconst (v := (-1)) hx hb dX10_init_5 (by decide) ?_
  refine pp_i (v := (-1)) (ty := .int) (C := RX10) (T := TX10) (N := 13) hx hb hts (tw_i inlX10) tyX10 tyX10_ok nmX10 hown hK hP hD hS hL_this hK_this (by decide) rfl 3 323 (by decide) (hts _ (tw_c tw_31)) rfl (by decide +kernel) rfl rfl (Nat.le_of_ble_eq_true rfl) (ps_323 _ _ _ _ _) dX10_init_6 (fun I_1 H locs eI_1 hP hD hS => ?_)
  have hE := Et_put (σ := σ) (σ1 := σ) Et_rf eI_1
  have hI_320 := (by rw [eI_1, pq_uf _ _ _ (by decide)]; exact hI_320 : I_1 320 this = 0)
  have hI_323 := (by rw [eI_1]; exact pq_us _ _ _ _ : I_1 323 this = (-1))
  have hZ := pq_Zp hZ eI_1 (by decide)
  refine lv_aload_n hx hb dX10_init_9 rfl (lv_at hl 0 rfl) ?_
  refine lv_iconst (v := (-1)) hx hb dX10_init_10 (by decide) ?_
  refine pp_i (v := (-1)) (ty := .int) (C := RX10) (T := TX10) (N := 13) hx hb hts (tw_i inlX10) tyX10 tyX10_ok nmX10 hown hK hP hD hS hL_this hK_this (by decide) rfl 4 324 (by decide) (hts _ (tw_c tw_32)) rfl (by decide +kernel) rfl rfl (Nat.le_of_ble_eq_true rfl) (ps_324 _ _ _ _ _) dX10_init_11 (fun I_2 H locs eI_2 hP hD hS => ?_)
  have hE := Et_put (σ := σ) (σ1 := σ) hE eI_2
  have hI_320 := (by rw [eI_2, pq_uf _ _ _ (by decide)]; exact hI_320 : I_2 320 this = 0)
  have hI_323 := (by rw [eI_2, pq_uf _ _ _ (by decide)]; exact hI_323 : I_2 323 this = (-1))
  have hI_324 := (by rw [eI_2]; exact pq_us _ _ _ _ : I_2 324 this = (-1))
  have hZ := pq_Zp hZ eI_2 (by decide)
  refine lv_aload_n hx hb dX10_init_14 rfl (lv_at hl 0 rfl) ?_
  refine lv_bipush (v := 40) hx hb dX10_init_15 (by decide) ?_
  refine nw_i (N' := 40) hx hb (hts _ (tw_c tw_33)) hK hP hD hS hA (by decide) (by decide) (Nat.le_of_ble_eq_true rfl) (Nat.le_of_ble_eq_true rfl) (Nat.le_of_ble_eq_true rfl) dX10_init_17 (fun q_3 r_5 H hq_4 er_5 hP hD hS => ?_)
  refine pr_F (q := q_3) (C := RX10) (T := TX10) (N := 13) hx hb hts (tw_i inlX10) tyX10 tyX10_ok nmX10 hown hK hP hD hS (As_in hL_this) (As_kk hq_4 hL_this hK_this) (by decide) rfl 5 325 (by decide) (hts _ (tw_c tw_34)) rfl hin rfl (tyX10_ok 5 (by decide)) rfl rfl (Nat.le_of_ble_eq_true rfl) (pr_325 _ _ _ _ _) dX10_init_19 (fun σ_6 H locs hp_7 hP hD hS => ?_)
  have hs_8 := As_of hq_4 hp_7
  have hz_9 := As_es (I := I_2) hs_8
  have hE := Et_es hE hz_9
  have hI_320 := Es_i hz_9 hL_this hI_320
  have hI_323 := Es_i hz_9 hL_this hI_323
  have hI_324 := Es_i hz_9 hL_this hI_324
  have hA_325 := As_ok hs_8 hL_this
  have hK_this := Es_k hz_9 hL_this hK_this
  have hL_this := Es_at hz_9 hL_this
  refine lv_aload_n hx hb dX10_init_22 rfl (lv_at hl 0 rfl) ?_
  refine nw_o (C := RX7) (T := TX7) (N := 15) hx hb hts (tw_i inlX7) tyX7 tyX7_ok hown (hts _ (tw_c tw_35)) (hts _ (tw_c tw_36)) (hts _ (tw_c tw_37)) hK hP hD hS hA (by decide) rfl nf_7 (Nat.le_of_ble_eq_true rfl) (Nat.le_of_ble_eq_true rfl) dX10_init_23 (fun q_10 σ_11 I_12 J_13 H locs hn_14 hP hD hS => ?_)
  refine lv_dup hx hb dX10_init_26 rfl ?_
  refine pk_v (va_runI (As := []) (rest := [.ref q_10, .ref this]) ⟨hx, hb, hml, hown, hts⟩ (c_X7_init l D t σ_11 I_12 J_13 r_5 rj rq H.size q_10 (Ns_in hn_14) (Ns_k hn_14) (Ns_Z hn_14 hZ) hq0) (cwI 0 hts (tw_W tw_59) rfl rfl rfl (hts _ (tw_c tw_37)) (hts _ (tw_c tw_57)) (hts _ (tw_c tw_58)) rfl (by decide +kernel) ⟨Nat.le_of_ble_eq_true rfl, Nat.le_of_ble_eq_true rfl⟩) ⟨pq_blind, pq_pre hK hN hP hD⟩ rfl rfl hl.1 rfl (lv_room (Nat.le_of_ble_eq_true rfl)) dX10_init_27 ⟨Nat.le_of_ble_eq_true rfl, Nat.le_of_ble_eq_true rfl⟩) hD hS hA (fun σ1 μ1 H locs hw_16 hP hD hS => ?_)
  obtain ⟨σ_17, I_18, J_19, ri_20, rj_21, rq_22, hu_23, hE2_24, hOK_25, hZ, hqq_26⟩ := hw_16
  obtain ⟨hu_23a, hu_23b⟩ := Prod.mk.inj hu_23
  rw [hu_23a, hu_23b] at hP hD
  refine pr_F (q := q_10) (C := RX10) (T := TX10) (N := 13) hx hb hts (tw_i inlX10) tyX10 tyX10_ok nmX10 hown hK hP hD hS (hE2_24 this (Ns_at hn_14 hL_this)).1 (Et_k hE2_24 (Ns_at hn_14 hL_this) (Ns_kk hn_14 hL_this hK_this)) (by decide) rfl 6 326 (by decide) (hts _ (tw_c tw_38)) rfl hin rfl (tyX10_ok 6 (by decide)) rfl rfl (Nat.le_of_ble_eq_true rfl) (pr_326 _ _ _ _ _) dX10_init_30 (fun σ_27 H locs hp_28 hP hD hS => ?_)
  have hz_29 := Os_es hn_14 hE2_24 hp_28
  have hE := Et_es hE hz_29
  have hA_325 := okA_es hz_29 (by decide) hA_325
  have hI_320 := Es_i hz_29 hL_this hI_320
  have hI_323 := Es_i hz_29 hL_this hI_323
  have hI_324 := Es_i hz_29 hL_this hI_324
  have hO_326 := Os_ok hn_14 hE2_24 hp_28 hL_this hOK_25 (fun h => okSeas_es (Ps_es hp_28) (by decide) h)
  have hK_this := Es_k hz_29 hL_this hK_this
  have hL_this := Es_at hz_29 hL_this
  refine lv_aload_n hx hb dX10_init_33 rfl (lv_at hl 0 rfl) ?_
  refine nw_o (C := RX2) (T := TX2) (N := 20) hx hb hts (tw_i inlX2) tyX2 tyX2_ok hown (hts _ (tw_c tw_39)) (hts _ (tw_c tw_40)) (hts _ (tw_c tw_41)) hK hP hD hS hA (by decide) rfl nf_2 (Nat.le_of_ble_eq_true rfl) (Nat.le_of_ble_eq_true rfl) dX10_init_34 (fun q_30 σ_31 I_32 J_33 H locs hn_34 hP hD hS => ?_)
  refine lv_dup hx hb dX10_init_37 rfl ?_
  refine pk_v (va_runI (As := []) (rest := [.ref q_30, .ref this]) ⟨hx, hb, hml, hown, hts⟩ (c_X2_init l D t σ_31 I_32 J_33 ri_20 rj_21 rq_22 H.size q_30 (Ns_in hn_34) (Ns_k hn_34) (Ns_Z hn_34 hZ) hqq_26) (cwI 0 hts (tw_W tw_79) rfl rfl rfl (hts _ (tw_c tw_41)) (hts _ (tw_c tw_77)) (hts _ (tw_c tw_78)) rfl (by decide +kernel) ⟨Nat.le_of_ble_eq_true rfl, Nat.le_of_ble_eq_true rfl⟩) ⟨pq_blind, pq_pre hK hN hP hD⟩ rfl rfl hl.1 rfl (lv_room (Nat.le_of_ble_eq_true rfl)) dX10_init_38 ⟨Nat.le_of_ble_eq_true rfl, Nat.le_of_ble_eq_true rfl⟩) hD hS hA (fun σ1 μ1 H locs hw_36 hP hD hS => ?_)
  obtain ⟨σ_37, I_38, J_39, ri_40, rj_41, rq_42, hu_43, hE2_44, hOK_45, hZ, hqq_46⟩ := hw_36
  obtain ⟨hu_43a, hu_43b⟩ := Prod.mk.inj hu_43
  rw [hu_43a, hu_43b] at hP hD
  refine pr_F (q := q_30) (C := RX10) (T := TX10) (N := 13) hx hb hts (tw_i inlX10) tyX10 tyX10_ok nmX10 hown hK hP hD hS (hE2_44 this (Ns_at hn_34 hL_this)).1 (Et_k hE2_44 (Ns_at hn_34 hL_this) (Ns_kk hn_34 hL_this hK_this)) (by decide) rfl 7 327 (by decide) (hts _ (tw_c tw_42)) rfl hin rfl (tyX10_ok 7 (by decide)) rfl rfl (Nat.le_of_ble_eq_true rfl) (pr_327 _ _ _ _ _) dX10_init_41 (fun σ_47 H locs hp_48 hP hD hS => ?_)
  have hz_49 := Os_es hn_34 hE2_44 hp_48
  have hE := Et_es hE hz_49
  have hA_325 := okA_es hz_49 (by decide) hA_325
  have hO_326 := okO_es hz_49 (by decide) (fun q h => okSeas_es hz_49 (by decide) h) hO_326
  have hI_320 := Es_i hz_49 hL_this hI_320
  have hI_323 := Es_i hz_49 hL_this hI_323
  have hI_324 := Es_i hz_49 hL_this hI_324
  have hO_327 := Os_ok hn_34 hE2_44 hp_48 hL_this hOK_45 (fun h => okLand_es (Ps_es hp_48) (by decide) h)
  have hK_this := Es_k hz_49 hL_this hK_this
  have hL_this := Es_at hz_49 hL_this
  refine lv_aload_n hx hb dX10_init_44 rfl (lv_at hl 0 rfl) ?_
  refine nw_o (C := RX0) (T := TX0) (N := 16) hx hb hts (tw_i inlX0) tyX0 tyX0_ok hown (hts _ (tw_c tw_43)) (hts _ (tw_c tw_44)) (hts _ (tw_c tw_45)) hK hP hD hS hA (by decide) rfl nf_0 (Nat.le_of_ble_eq_true rfl) (Nat.le_of_ble_eq_true rfl) dX10_init_45 (fun q_50 σ_51 I_52 J_53 H locs hn_54 hP hD hS => ?_)
  refine lv_dup hx hb dX10_init_48 rfl ?_
  refine pk_v (va_runIN (As := []) (rest := [.ref q_50, .ref this]) ⟨hx, hb, hml, hown, hts⟩ (c_X0_init l D t σ_51 I_52 J_53 ri_40 rj_41 rq_42 H.size q_50 (Ns_in hn_54) (Ns_k hn_54) (Ns_Z hn_54 hZ) hqq_46) ⟨va_cnB (host := "RingsUnder") 0 hts (tw_W tw_108) rfl rfl rfl (nl_3 hN) (hts _ (tw_c tw_45)) (by decide +kernel) ⟨Nat.le_of_ble_eq_true rfl, Nat.le_of_ble_eq_true rfl⟩, rfl, hts (.instanceMethod yX0_init) (by decide +kernel)⟩ ⟨pq_blind, pq_pre hK hN hP hD⟩ rfl rfl hl.1 rfl (lv_room (Nat.le_of_ble_eq_true rfl)) dX10_init_49 ⟨Nat.le_of_ble_eq_true rfl, Nat.le_of_ble_eq_true rfl⟩) hD hS hA (fun σ1 μ1 H locs hw_56 hP hD hS => ?_)
  obtain ⟨σ_57, I_58, J_59, ri_60, rj_61, rq_62, hu_63, hE2_64, hOK_65, hZ, hqq_66⟩ := hw_56
  obtain ⟨hu_63a, hu_63b⟩ := Prod.mk.inj hu_63
  rw [hu_63a, hu_63b] at hP hD
  refine pr_F (q := q_50) (C := RX10) (T := TX10) (N := 13) hx hb hts (tw_i inlX10) tyX10 tyX10_ok nmX10 hown hK hP hD hS (hE2_64 this (Ns_at hn_54 hL_this)).1 (Et_k hE2_64 (Ns_at hn_54 hL_this) (Ns_kk hn_54 hL_this hK_this)) (by decide) rfl 8 328 (by decide) (hts _ (tw_c tw_46)) rfl hin rfl (tyX10_ok 8 (by decide)) rfl rfl (Nat.le_of_ble_eq_true rfl) (pr_328 _ _ _ _ _) dX10_init_52 (fun σ_67 H locs hp_68 hP hD hS => ?_)
  have hz_69 := Os_es hn_54 hE2_64 hp_68
  have hE := Et_es hE hz_69
  have hA_325 := okA_es hz_69 (by decide) hA_325
  have hO_326 := okO_es hz_69 (by decide) (fun q h => okSeas_es hz_69 (by decide) h) hO_326
  have hO_327 := okO_es hz_69 (by decide) (fun q h => okLand_es hz_69 (by decide) h) hO_327
  have hI_320 := Es_i hz_69 hL_this hI_320
  have hI_323 := Es_i hz_69 hL_this hI_323
  have hI_324 := Es_i hz_69 hL_this hI_324
  have hO_328 := Os_ok hn_54 hE2_64 hp_68 hL_this hOK_65 (fun h => okFolk_es (Ps_es hp_68) (by decide) h)
  have hK_this := Es_k hz_69 hL_this hK_this
  have hL_this := Es_at hz_69 hL_this
  refine lv_aload_n hx hb dX10_init_55 rfl (lv_at hl 0 rfl) ?_
  refine nw_o (C := RX3) (T := TX3) (N := 8) hx hb hts (tw_i inlX3) tyX3 tyX3_ok hown (hts _ (tw_c tw_47)) (hts _ (tw_c tw_48)) (hts _ (tw_c tw_49)) hK hP hD hS hA (by decide) rfl nf_3 (Nat.le_of_ble_eq_true rfl) (Nat.le_of_ble_eq_true rfl) dX10_init_56 (fun q_70 σ_71 I_72 J_73 H locs hn_74 hP hD hS => ?_)
  refine lv_dup hx hb dX10_init_59 rfl ?_
  refine pk_v (va_runIN (As := []) (rest := [.ref q_70, .ref this]) ⟨hx, hb, hml, hown, hts⟩ (c_X3_init l D t σ_71 I_72 J_73 ri_60 rj_61 rq_62 H.size q_70 (Ns_in hn_74) (Ns_k hn_74) (Ns_Z hn_74 hZ) hqq_66) ⟨va_cnB (host := "RingsUnder") 0 hts (tw_W tw_125) rfl rfl rfl (nl_4 hN) (hts _ (tw_c tw_49)) (by decide +kernel) ⟨Nat.le_of_ble_eq_true rfl, Nat.le_of_ble_eq_true rfl⟩, rfl, hts (.instanceMethod yX3_init) (by decide +kernel)⟩ ⟨pq_blind, pq_pre hK hN hP hD⟩ rfl rfl hl.1 rfl (lv_room (Nat.le_of_ble_eq_true rfl)) dX10_init_60 ⟨Nat.le_of_ble_eq_true rfl, Nat.le_of_ble_eq_true rfl⟩) hD hS hA (fun σ1 μ1 H locs hw_76 hP hD hS => ?_)
  obtain ⟨σ_77, I_78, J_79, ri_80, rj_81, rq_82, hu_83, hE2_84, hOK_85, hZ, hqq_86⟩ := hw_76
  obtain ⟨hu_83a, hu_83b⟩ := Prod.mk.inj hu_83
  rw [hu_83a, hu_83b] at hP hD
  refine pr_F (q := q_70) (C := RX10) (T := TX10) (N := 13) hx hb hts (tw_i inlX10) tyX10 tyX10_ok nmX10 hown hK hP hD hS (hE2_84 this (Ns_at hn_74 hL_this)).1 (Et_k hE2_84 (Ns_at hn_74 hL_this) (Ns_kk hn_74 hL_this hK_this)) (by decide) rfl 9 329 (by decide) (hts _ (tw_c tw_50)) rfl hin rfl (tyX10_ok 9 (by decide)) rfl rfl (Nat.le_of_ble_eq_true rfl) (pr_329 _ _ _ _ _) dX10_init_63 (fun σ_87 H locs hp_88 hP hD hS => ?_)
  have hz_89 := Os_es hn_74 hE2_84 hp_88
  have hE := Et_es hE hz_89
  have hA_325 := okA_es hz_89 (by decide) hA_325
  have hO_326 := okO_es hz_89 (by decide) (fun q h => okSeas_es hz_89 (by decide) h) hO_326
  have hO_327 := okO_es hz_89 (by decide) (fun q h => okLand_es hz_89 (by decide) h) hO_327
  have hO_328 := okO_es hz_89 (by decide) (fun q h => okFolk_es hz_89 (by decide) h) hO_328
  have hI_320 := Es_i hz_89 hL_this hI_320
  have hI_323 := Es_i hz_89 hL_this hI_323
  have hI_324 := Es_i hz_89 hL_this hI_324
  have hO_329 := Os_ok hn_74 hE2_84 hp_88 hL_this hOK_85 (fun h => okLaw_es (Ps_es hp_88) (by decide) h)
  have hK_this := Es_k hz_89 hL_this hK_this
  have hL_this := Es_at hz_89 hL_this
  refine lv_aload_n hx hb dX10_init_66 rfl (lv_at hl 0 rfl) ?_
  refine nw_o (C := RX1) (T := TX1) (N := 3) hx hb hts (tw_i inlX1) tyX1 tyX1_ok hown (hts _ (tw_c tw_51)) (hts _ (tw_c tw_52)) (hts _ (tw_c tw_53)) hK hP hD hS hA (by decide) rfl nf_1 (Nat.le_of_ble_eq_true rfl) (Nat.le_of_ble_eq_true rfl) dX10_init_67 (fun q_90 σ_91 I_92 J_93 H locs hn_94 hP hD hS => ?_)
  refine lv_dup hx hb dX10_init_70 rfl ?_
  refine pk_v (va_runIN (As := []) (rest := [.ref q_90, .ref this]) ⟨hx, hb, hml, hown, hts⟩ (c_X1_init l D t σ_91 I_92 J_93 ri_80 rj_81 rq_82 H.size q_90 (Ns_in hn_94) (Ns_k hn_94) (Ns_Z hn_94 hZ) hqq_86) ⟨va_cnB (host := "RingsUnder") 0 hts (tw_W tw_135) rfl rfl rfl (nl_5 hN) (hts _ (tw_c tw_53)) (by decide +kernel) ⟨Nat.le_of_ble_eq_true rfl, Nat.le_of_ble_eq_true rfl⟩, rfl, hts (.instanceMethod yX1_init) (by decide +kernel)⟩ ⟨pq_blind, pq_pre hK hN hP hD⟩ rfl rfl hl.1 rfl (lv_room (Nat.le_of_ble_eq_true rfl)) dX10_init_71 ⟨Nat.le_of_ble_eq_true rfl, Nat.le_of_ble_eq_true rfl⟩) hD hS hA (fun σ1 μ1 H locs hw_96 hP hD hS => ?_)
  obtain ⟨σ_97, I_98, J_99, ri_100, rj_101, rq_102, hu_103, hE2_104, hOK_105, hZ, hqq_106⟩ := hw_96
  obtain ⟨hu_103a, hu_103b⟩ := Prod.mk.inj hu_103
  rw [hu_103a, hu_103b] at hP hD
  refine pr_F (q := q_90) (C := RX10) (T := TX10) (N := 13) hx hb hts (tw_i inlX10) tyX10 tyX10_ok nmX10 hown hK hP hD hS (hE2_104 this (Ns_at hn_94 hL_this)).1 (Et_k hE2_104 (Ns_at hn_94 hL_this) (Ns_kk hn_94 hL_this hK_this)) (by decide) rfl 10 330 (by decide) (hts _ (tw_c tw_54)) rfl hin rfl (tyX10_ok 10 (by decide)) rfl rfl (Nat.le_of_ble_eq_true rfl) (pr_330 _ _ _ _ _) dX10_init_74 (fun σ_107 H locs hp_108 hP hD hS => ?_)
  have hz_109 := Os_es hn_94 hE2_104 hp_108
  have hE := Et_es hE hz_109
  have hA_325 := okA_es hz_109 (by decide) hA_325
  have hO_326 := okO_es hz_109 (by decide) (fun q h => okSeas_es hz_109 (by decide) h) hO_326
  have hO_327 := okO_es hz_109 (by decide) (fun q h => okLand_es hz_109 (by decide) h) hO_327
  have hO_328 := okO_es hz_109 (by decide) (fun q h => okFolk_es hz_109 (by decide) h) hO_328
  have hO_329 := okO_es hz_109 (by decide) (fun q h => okLaw_es hz_109 (by decide) h) hO_329
  have hI_320 := Es_i hz_109 hL_this hI_320
  have hI_323 := Es_i hz_109 hL_this hI_323
  have hI_324 := Es_i hz_109 hL_this hI_324
  have hO_330 := Os_ok hn_94 hE2_104 hp_108 hL_this hOK_105 (fun h => okGraves_es (Ps_es hp_108) (by decide) h)
  have hK_this := Es_k hz_109 hL_this hK_this
  have hL_this := Es_at hz_109 hL_this
  refine lv_aload_n hx hb dX10_init_77 rfl (lv_at hl 0 rfl) ?_
  refine lv_bipush (v := 40) hx hb dX10_init_78 (by decide) ?_
  refine nw_i (N' := 40) hx hb (hts _ (tw_c tw_33)) hK hP hD hS hA (by decide) (by decide) (Nat.le_of_ble_eq_true rfl) (Nat.le_of_ble_eq_true rfl) (Nat.le_of_ble_eq_true rfl) dX10_init_80 (fun q_110 r_112 H hq_111 er_112 hP hD hS => ?_)
  refine pr_F (q := q_110) (C := RX10) (T := TX10) (N := 13) hx hb hts (tw_i inlX10) tyX10 tyX10_ok nmX10 hown hK hP hD hS (As_in hL_this) (As_kk hq_111 hL_this hK_this) (by decide) rfl 11 331 (by decide) (hts _ (tw_c tw_55)) rfl hin rfl (tyX10_ok 11 (by decide)) rfl rfl (Nat.le_of_ble_eq_true rfl) (pr_331 _ _ _ _ _) dX10_init_82 (fun σ_113 H locs hp_114 hP hD hS => ?_)
  have hs_115 := As_of hq_111 hp_114
  have hz_116 := As_es (I := I_98) hs_115
  have hE := Et_es hE hz_116
  have hA_325 := okA_es hz_116 (by decide) hA_325
  have hO_326 := okO_es hz_116 (by decide) (fun q h => okSeas_es hz_116 (by decide) h) hO_326
  have hO_327 := okO_es hz_116 (by decide) (fun q h => okLand_es hz_116 (by decide) h) hO_327
  have hO_328 := okO_es hz_116 (by decide) (fun q h => okFolk_es hz_116 (by decide) h) hO_328
  have hO_329 := okO_es hz_116 (by decide) (fun q h => okLaw_es hz_116 (by decide) h) hO_329
  have hO_330 := okO_es hz_116 (by decide) (fun q h => okGraves_es hz_116 (by decide) h) hO_330
  have hI_320 := Es_i hz_116 hL_this hI_320
  have hI_323 := Es_i hz_116 hL_this hI_323
  have hI_324 := Es_i hz_116 hL_this hI_324
  have hA_331 := As_ok hs_115 hL_this
  have hK_this := Es_k hz_116 hL_this hK_this
  have hL_this := Es_at hz_116 hL_this
  refine lv_aload_n hx hb dX10_init_85 rfl (lv_at hl 0 rfl) ?_
  refine lv_iconst (v := 5) hx hb dX10_init_86 (by decide) ?_
  refine nw_i (N' := 5) hx hb (hts _ (tw_c tw_33)) hK hP hD hS hA (by decide) (by decide) (Nat.le_of_ble_eq_true rfl) (Nat.le_of_ble_eq_true rfl) (Nat.le_of_ble_eq_true rfl) dX10_init_87 (fun q_117 r_119 H hq_118 er_119 hP hD hS => ?_)
  refine pr_F (q := q_117) (C := RX10) (T := TX10) (N := 13) hx hb hts (tw_i inlX10) tyX10 tyX10_ok nmX10 hown hK hP hD hS (As_in hL_this) (As_kk hq_118 hL_this hK_this) (by decide) rfl 12 332 (by decide) (hts _ (tw_c tw_56)) rfl hin rfl (tyX10_ok 12 (by decide)) rfl rfl (Nat.le_of_ble_eq_true rfl) (pr_332 _ _ _ _ _) dX10_init_89 (fun σ_120 H locs hp_121 hP hD hS => ?_)
  have hs_122 := As_of hq_118 hp_121
  have hz_123 := As_es (I := I_98) hs_122
  have hE := Et_es hE hz_123
  have hA_325 := okA_es hz_123 (by decide) hA_325
  have hA_331 := okA_es hz_123 (by decide) hA_331
  have hO_326 := okO_es hz_123 (by decide) (fun q h => okSeas_es hz_123 (by decide) h) hO_326
  have hO_327 := okO_es hz_123 (by decide) (fun q h => okLand_es hz_123 (by decide) h) hO_327
  have hO_328 := okO_es hz_123 (by decide) (fun q h => okFolk_es hz_123 (by decide) h) hO_328
  have hO_329 := okO_es hz_123 (by decide) (fun q h => okLaw_es hz_123 (by decide) h) hO_329
  have hO_330 := okO_es hz_123 (by decide) (fun q h => okGraves_es hz_123 (by decide) h) hO_330
  have hI_320 := Es_i hz_123 hL_this hI_320
  have hI_323 := Es_i hz_123 hL_this hI_323
  have hI_324 := Es_i hz_123 hL_this hI_324
  have hA_332 := As_ok hs_122 hL_this
  have hK_this := Es_k hz_123 hL_this hK_this
  have hL_this := Es_at hz_123 hL_this
  refine lv_aload_n hx hb dX10_init_92 rfl (lv_at hl 0 rfl) ?_
  obtain ⟨-, w_124, hR_w_124, hL_w_124, hK_w_124, hN_w_124⟩ := id hA_325
  refine pg_f (v := .ref w_124) (C := RX10) (T := TX10) (N := 13) hx hb hts (tw_i inlX10) hown hK hP hL_this hK_this (by decide) rfl 5 (by decide) (hts _ (tw_c tw_34)) (pq_hv rfl hR_w_124) dX10_init_93 ?_
  refine lv_iconst (v := (-1)) hx hb dX10_init_96 (by decide) ?_
  refine pk_v (va_runSN (As := [.ref w_124, .int (-1)]) (rest := []) ⟨hx, hb, hml, hown, hts⟩ (c_X11_fill l D t σ_120 I_98 J_99 r_119 rj_101 rq_102 H.size w_124 (-1 : Int32) 40 hL_w_124 hK_w_124 hN_w_124 (by omega)) ⟨va_cnB (host := "RingsUnder") 2 hts (tw_W tw_76) rfl rfl rfl (nl_6 hN) (hts _ (tw_c tw_2)) (by decide +kernel) ⟨Nat.le_of_ble_eq_true rfl, Nat.le_of_ble_eq_true rfl⟩, hts (.static yX11_fill) (by decide +kernel), trivial⟩ ⟨pq_blind, pq_pre hK hN hP hD⟩ rfl rfl hl.1 rfl (lv_room (Nat.le_of_ble_eq_true rfl)) dX10_init_97 ⟨Nat.le_of_ble_eq_true rfl, Nat.le_of_ble_eq_true rfl⟩) hD hS hA (fun σ1 μ1 H locs hw_126 hP hD hS => ?_)
  obtain ⟨ri_127, hu_128, hu_128p0⟩ := hw_126
  obtain ⟨hu_128a, hu_128b⟩ := Prod.mk.inj hu_128
  rw [hu_128a, hu_128b] at hP hD
  exact W.vret hx hb hr (fun t1 ht hW => ⟨⟨(σ_120, I_98, J_99, ri_127, rj_101, rq_102), rfl, ⟨σ_120, I_98, J_99, ri_127, rj_101, rq_102, rfl, hE, ⟨hA_325, hO_326, hO_327, hO_328, hO_329, hO_330, hA_331, hA_332, hI_320, hI_323, hI_324⟩, hZ, hqq_106⟩, by rw [ht]; exact hP, va_K.moved hW.alike hK, hD⟩, hS.F ht⟩) hS.2.2 dX10_init_100

set_option maxHeartbeats 8000000 in
set_option maxRecDepth 100000 in
theorem c_X5_init (l : Launch) (D : va_G) (t : pq_T) (σ : pq_S) (I : Nat → Nat → Int32) (J : Nat → Nat → Int64) (ri : Nat → Nat → Int32) (rj : Nat → Nat → Int64) (rq : Nat → Nat → Option Nat) (sz : Nat) (this : Nat) (hL_this : this ∈ σ.1) (hK_this : σ.2.1 this = 5) (hZ : pq_Z I) (hq0 : rq = fun _ _ => none) : MetV l yX5_init (wa yX5_init cX5_init 1 none) ({ frames := 1, cells := 6, slots := 134, locals := 20 }) [.ref this] D t σ (I, J, ri, rj, rq) sz 6 134 (fun (u : pq_S × pq_M) => ∃ (σ' : pq_S) (I' : Nat → Nat → Int32) (J' : Nat → Nat → Int64) (ri' : Nat → Nat → Int32) (rj' : Nat → Nat → Int64) (rq' : Nat → Nat → Option Nat), u = (σ', I', J', ri', rj', rq') ∧ Et this σ σ' I I' ∧ okRingOrders σ' I' this ∧ pq_Z I' ∧ rq' = fun _ _ => none) := by
  refine Met.ofW (cc := cX5_init) (maxL := 1) (ret := none) (by decide) rfl ?_
  intro p e s m args below meth c s₁ B hml hv
  obtain ⟨rfl, hsz, hP, hK, hD0, hN⟩ := hv
  have hx := B.exec
  have hb := B.bytes
  have hr := B.returns
  have hts := atoms_spec (ws := (wa yX5_init cX5_init 1 none)) B.pre
  have hown : s.vm.findClass RX5 = some m.cls := findClass_of_methodNamed B.named
  have hlocks := B.notSynchronized
  have hin : meth.name = "<init>" := (name_of_methodNamed B.named B.method).1
  subst hsz
  have hD : va_D (pq_B t σ (I, J, ri, rj, rq) s.heap.size) (pq_P t σ (I, J, ri, rj, rq)) := hD0.self
  generalize hAe : pq_B t σ (I, J, ri, rj, rq) s.heap.size = A at hD ⊢
  have hA : ∀ q : Nat, s.heap.size ≤ q → A q := fun q h => by rw [← hAe]; exact Or.inr h
  have hS : va_S A s.heap s.heap [] := va_S.rf
  have hl := lv_entry ([.ref this]) (n := 1) (Nat.le_of_ble_eq_true rfl)
  rw [lg_entry_eq]
  generalize (lg_sl ([.ref this]) ++ List.replicate (1 - (lg_sl ([.ref this])).length) Slot.unset).toArray = ls at hl ⊢
  have hl : lv_has ls 1 [(0, .ref this)] := hl
  refine lv_aload_n hx hb dX5_init_0 rfl (lv_at hl 0 rfl) ?_
  refine W.objInit hx hb hown (hts _ (tw_c tw_141)) (hts _ (tw_c tw_11)) (hts _ (tw_c tw_12)) rfl (by rw [hml]; exact hl.1) rfl dX5_init_1 (Nat.le_of_ble_eq_true rfl) (Nat.le_of_ble_eq_true rfl) ?_
  refine W.eq (g2 := F0 m 4 ls []) rfl ?_
  refine lv_aload_n hx hb dX5_init_4 rfl (lv_at hl 0 rfl) ?_
  refine lv_iconst (v := 5) hx hb dX5_init_5 (by decide) ?_
  refine nw_i (N' := 5) hx hb (hts _ (tw_c tw_33)) hK hP hD hS hA (by decide) (by decide) (Nat.le_of_ble_eq_true rfl) (Nat.le_of_ble_eq_true rfl) (Nat.le_of_ble_eq_true rfl) dX5_init_6 (fun q_1 r_3 H hq_2 er_3 hP hD hS => ?_)
  refine pr_F (q := q_1) (C := RX5) (T := TX5) (N := 8) hx hb hts (tw_i inlX5) tyX5 tyX5_ok nmX5 hown hK hP hD hS (As_in hL_this) (As_kk hq_2 hL_this hK_this) (by decide) rfl 1 161 (by decide) (hts _ (tw_c tw_142)) rfl hin rfl (tyX5_ok 1 (by decide)) rfl rfl (Nat.le_of_ble_eq_true rfl) (pr_161 _ _ _ _ _) dX5_init_8 (fun σ_4 H locs hp_5 hP hD hS => ?_)
  have hs_6 := As_of hq_2 hp_5
  have hz_7 := As_es (I := I) hs_6
  have hE := Et_es Et_rf hz_7
  have hA_161 := As_ok hs_6 hL_this
  have hK_this := Es_k hz_7 hL_this hK_this
  have hL_this := Es_at hz_7 hL_this
  refine lv_aload_n hx hb dX5_init_11 rfl (lv_at hl 0 rfl) ?_
  refine lv_iconst (v := 5) hx hb dX5_init_12 (by decide) ?_
  refine nw_i (N' := 5) hx hb (hts _ (tw_c tw_33)) hK hP hD hS hA (by decide) (by decide) (Nat.le_of_ble_eq_true rfl) (Nat.le_of_ble_eq_true rfl) (Nat.le_of_ble_eq_true rfl) dX5_init_13 (fun q_8 r_10 H hq_9 er_10 hP hD hS => ?_)
  refine pr_F (q := q_8) (C := RX5) (T := TX5) (N := 8) hx hb hts (tw_i inlX5) tyX5 tyX5_ok nmX5 hown hK hP hD hS (As_in hL_this) (As_kk hq_9 hL_this hK_this) (by decide) rfl 2 162 (by decide) (hts _ (tw_c tw_143)) rfl hin rfl (tyX5_ok 2 (by decide)) rfl rfl (Nat.le_of_ble_eq_true rfl) (pr_162 _ _ _ _ _) dX5_init_15 (fun σ_11 H locs hp_12 hP hD hS => ?_)
  have hs_13 := As_of hq_9 hp_12
  have hz_14 := As_es (I := I) hs_13
  have hE := Et_es hE hz_14
  have hA_161 := okA_es hz_14 (by decide) hA_161
  have hA_162 := As_ok hs_13 hL_this
  have hK_this := Es_k hz_14 hL_this hK_this
  have hL_this := Es_at hz_14 hL_this
  refine lv_aload_n hx hb dX5_init_18 rfl (lv_at hl 0 rfl) ?_
  refine lv_bipush (v := 40) hx hb dX5_init_19 (by decide) ?_
  refine nw_i (N' := 40) hx hb (hts _ (tw_c tw_33)) hK hP hD hS hA (by decide) (by decide) (Nat.le_of_ble_eq_true rfl) (Nat.le_of_ble_eq_true rfl) (Nat.le_of_ble_eq_true rfl) dX5_init_21 (fun q_15 r_17 H hq_16 er_17 hP hD hS => ?_)
  refine pr_F (q := q_15) (C := RX5) (T := TX5) (N := 8) hx hb hts (tw_i inlX5) tyX5 tyX5_ok nmX5 hown hK hP hD hS (As_in hL_this) (As_kk hq_16 hL_this hK_this) (by decide) rfl 3 163 (by decide) (hts _ (tw_c tw_144)) rfl hin rfl (tyX5_ok 3 (by decide)) rfl rfl (Nat.le_of_ble_eq_true rfl) (pr_163 _ _ _ _ _) dX5_init_23 (fun σ_18 H locs hp_19 hP hD hS => ?_)
  have hs_20 := As_of hq_16 hp_19
  have hz_21 := As_es (I := I) hs_20
  have hE := Et_es hE hz_21
  have hA_161 := okA_es hz_21 (by decide) hA_161
  have hA_162 := okA_es hz_21 (by decide) hA_162
  have hA_163 := As_ok hs_20 hL_this
  have hK_this := Es_k hz_21 hL_this hK_this
  have hL_this := Es_at hz_21 hL_this
  refine lv_aload_n hx hb dX5_init_26 rfl (lv_at hl 0 rfl) ?_
  refine lv_bipush (v := 12) hx hb dX5_init_27 (by decide) ?_
  refine nw_l (N' := 12) hx hb (hts _ (tw_c tw_81)) hK hP hD hS hA (by decide) (by decide) (Nat.le_of_ble_eq_true rfl) (Nat.le_of_ble_eq_true rfl) (Nat.le_of_ble_eq_true rfl) dX5_init_29 (fun q_22 r_24 H hq_23 er_24 hP hD hS => ?_)
  refine pr_F (q := q_22) (C := RX5) (T := TX5) (N := 8) hx hb hts (tw_i inlX5) tyX5 tyX5_ok nmX5 hown hK hP hD hS (As_in hL_this) (As_kk hq_23 hL_this hK_this) (by decide) rfl 5 165 (by decide) (hts _ (tw_c tw_145)) rfl hin rfl (tyX5_ok 5 (by decide)) rfl rfl (Nat.le_of_ble_eq_true rfl) (pr_165 _ _ _ _ _) dX5_init_31 (fun σ_25 H locs hp_26 hP hD hS => ?_)
  have hs_27 := As_of hq_23 hp_26
  have hz_28 := As_es (I := I) hs_27
  have hE := Et_es hE hz_28
  have hA_161 := okA_es hz_28 (by decide) hA_161
  have hA_162 := okA_es hz_28 (by decide) hA_162
  have hA_163 := okA_es hz_28 (by decide) hA_163
  have hA_165 := As_ok hs_27 hL_this
  have hK_this := Es_k hz_28 hL_this hK_this
  have hL_this := Es_at hz_28 hL_this
  refine lv_aload_n hx hb dX5_init_34 rfl (lv_at hl 0 rfl) ?_
  refine lv_bipush (v := 60) hx hb dX5_init_35 (by decide) ?_
  refine nw_i (N' := 60) hx hb (hts _ (tw_c tw_33)) hK hP hD hS hA (by decide) (by decide) (Nat.le_of_ble_eq_true rfl) (Nat.le_of_ble_eq_true rfl) (Nat.le_of_ble_eq_true rfl) dX5_init_37 (fun q_29 r_31 H hq_30 er_31 hP hD hS => ?_)
  refine pr_F (q := q_29) (C := RX5) (T := TX5) (N := 8) hx hb hts (tw_i inlX5) tyX5 tyX5_ok nmX5 hown hK hP hD hS (As_in hL_this) (As_kk hq_30 hL_this hK_this) (by decide) rfl 6 166 (by decide) (hts _ (tw_c tw_146)) rfl hin rfl (tyX5_ok 6 (by decide)) rfl rfl (Nat.le_of_ble_eq_true rfl) (pr_166 _ _ _ _ _) dX5_init_39 (fun σ_32 H locs hp_33 hP hD hS => ?_)
  have hs_34 := As_of hq_30 hp_33
  have hz_35 := As_es (I := I) hs_34
  have hE := Et_es hE hz_35
  have hA_161 := okA_es hz_35 (by decide) hA_161
  have hA_162 := okA_es hz_35 (by decide) hA_162
  have hA_163 := okA_es hz_35 (by decide) hA_163
  have hA_165 := okA_es hz_35 (by decide) hA_165
  have hA_166 := As_ok hs_34 hL_this
  have hK_this := Es_k hz_35 hL_this hK_this
  have hL_this := Es_at hz_35 hL_this
  refine lv_aload_n hx hb dX5_init_42 rfl (lv_at hl 0 rfl) ?_
  refine lv_bipush (v := 12) hx hb dX5_init_43 (by decide) ?_
  refine nw_l (N' := 12) hx hb (hts _ (tw_c tw_81)) hK hP hD hS hA (by decide) (by decide) (Nat.le_of_ble_eq_true rfl) (Nat.le_of_ble_eq_true rfl) (Nat.le_of_ble_eq_true rfl) dX5_init_45 (fun q_36 r_38 H hq_37 er_38 hP hD hS => ?_)
  refine pr_F (q := q_36) (C := RX5) (T := TX5) (N := 8) hx hb hts (tw_i inlX5) tyX5 tyX5_ok nmX5 hown hK hP hD hS (As_in hL_this) (As_kk hq_37 hL_this hK_this) (by decide) rfl 7 167 (by decide) (hts _ (tw_c tw_147)) rfl hin rfl (tyX5_ok 7 (by decide)) rfl rfl (Nat.le_of_ble_eq_true rfl) (pr_167 _ _ _ _ _) dX5_init_47 (fun σ_39 H locs hp_40 hP hD hS => ?_)
  have hs_41 := As_of hq_37 hp_40
  have hz_42 := As_es (I := I) hs_41
  have hE := Et_es hE hz_42
  have hA_161 := okA_es hz_42 (by decide) hA_161
  have hA_162 := okA_es hz_42 (by decide) hA_162
  have hA_163 := okA_es hz_42 (by decide) hA_163
  have hA_165 := okA_es hz_42 (by decide) hA_165
  have hA_166 := okA_es hz_42 (by decide) hA_166
  have hA_167 := As_ok hs_41 hL_this
  have hK_this := Es_k hz_42 hL_this hK_this
  have hL_this := Es_at hz_42 hL_this
  exact W.vret hx hb hr (fun t1 ht hW => ⟨⟨(σ_39, I, J, r_31, r_38, rq), rfl, ⟨σ_39, I, J, r_31, r_38, rq, rfl, hE, ⟨hA_161, hA_162, hA_163, hA_165, hA_166, hA_167⟩, hZ, hq0⟩, by rw [ht]; exact hP, va_K.moved hW.alike hK, hD⟩, hS.F ht⟩) hS.2.2 dX5_init_50

set_option maxHeartbeats 8000000 in
set_option maxRecDepth 100000 in
theorem c_X6_init (l : Launch) (D : va_G) (t : pq_T) (σ : pq_S) (I : Nat → Nat → Int32) (J : Nat → Nat → Int64) (ri : Nat → Nat → Int32) (rj : Nat → Nat → Int64) (rq : Nat → Nat → Option Nat) (sz : Nat) (this : Nat) (hL_this : this ∈ σ.1) (hK_this : σ.2.1 this = 6) (hZ : pq_Z I) (hq0 : rq = fun _ _ => none) : MetV l yX6_init (wa yX6_init cX6_init 1 none) ({ frames := 1, cells := 1, slots := 300, locals := 20 }) [.ref this] D t σ (I, J, ri, rj, rq) sz 1 300 (fun (u : pq_S × pq_M) => ∃ (σ' : pq_S) (I' : Nat → Nat → Int32) (J' : Nat → Nat → Int64) (ri' : Nat → Nat → Int32) (rj' : Nat → Nat → Int64) (rq' : Nat → Nat → Option Nat), u = (σ', I', J', ri', rj', rq') ∧ Et this σ σ' I I' ∧ okScanner σ' I' this ∧ pq_Z I' ∧ rq' = fun _ _ => none) := by
  refine Met.ofW (cc := cX6_init) (maxL := 1) (ret := none) (by decide) rfl ?_
  intro p e s m args below meth c s₁ B hml hv
  obtain ⟨rfl, hsz, hP, hK, hD0, hN⟩ := hv
  have hx := B.exec
  have hb := B.bytes
  have hr := B.returns
  have hts := atoms_spec (ws := (wa yX6_init cX6_init 1 none)) B.pre
  have hown : s.vm.findClass RX6 = some m.cls := findClass_of_methodNamed B.named
  have hlocks := B.notSynchronized
  have hin : meth.name = "<init>" := (name_of_methodNamed B.named B.method).1
  subst hsz
  have hD : va_D (pq_B t σ (I, J, ri, rj, rq) s.heap.size) (pq_P t σ (I, J, ri, rj, rq)) := hD0.self
  generalize hAe : pq_B t σ (I, J, ri, rj, rq) s.heap.size = A at hD ⊢
  have hA : ∀ q : Nat, s.heap.size ≤ q → A q := fun q h => by rw [← hAe]; exact Or.inr h
  have hS : va_S A s.heap s.heap [] := va_S.rf
  have hl := lv_entry ([.ref this]) (n := 1) (Nat.le_of_ble_eq_true rfl)
  rw [lg_entry_eq]
  generalize (lg_sl ([.ref this]) ++ List.replicate (1 - (lg_sl ([.ref this])).length) Slot.unset).toArray = ls at hl ⊢
  have hl : lv_has ls 1 [(0, .ref this)] := hl
  refine lv_aload_n hx hb dX6_init_0 rfl (lv_at hl 0 rfl) ?_
  refine W.objInit hx hb hown (hts _ (tw_c tw_164)) (hts _ (tw_c tw_11)) (hts _ (tw_c tw_12)) rfl (by rw [hml]; exact hl.1) rfl dX6_init_1 (Nat.le_of_ble_eq_true rfl) (Nat.le_of_ble_eq_true rfl) ?_
  refine W.eq (g2 := F0 m 4 ls []) rfl ?_
  refine lv_aload_n hx hb dX6_init_4 rfl (lv_at hl 0 rfl) ?_
  refine lv_sipush (v := 300) hx hb dX6_init_5 (by decide) ?_
  refine nw_i (N' := 300) hx hb (hts _ (tw_c tw_33)) hK hP hD hS hA (by decide) (by decide) (Nat.le_of_ble_eq_true rfl) (Nat.le_of_ble_eq_true rfl) (Nat.le_of_ble_eq_true rfl) dX6_init_8 (fun q_1 r_3 H hq_2 er_3 hP hD hS => ?_)
  refine pr_F (q := q_1) (C := RX6) (T := TX6) (N := 6) hx hb hts (tw_i inlX6) tyX6 tyX6_ok nmX6 hown hK hP hD hS (As_in hL_this) (As_kk hq_2 hL_this hK_this) (by decide) rfl 0 192 (by decide) (hts _ (tw_c tw_165)) rfl hin rfl (tyX6_ok 0 (by decide)) rfl rfl (Nat.le_of_ble_eq_true rfl) (pr_192 _ _ _ _ _) dX6_init_10 (fun σ_4 H locs hp_5 hP hD hS => ?_)
  have hs_6 := As_of hq_2 hp_5
  have hz_7 := As_es (I := I) hs_6
  have hE := Et_es Et_rf hz_7
  have hA_192 := As_ok hs_6 hL_this
  have hK_this := Es_k hz_7 hL_this hK_this
  have hL_this := Es_at hz_7 hL_this
  exact W.vret hx hb hr (fun t1 ht hW => ⟨⟨(σ_4, I, J, r_3, rj, rq), rfl, ⟨σ_4, I, J, r_3, rj, rq, rfl, hE, hA_192, hZ, hq0⟩, by rw [ht]; exact hP, va_K.moved hW.alike hK, hD⟩, hS.F ht⟩) hS.2.2 dX6_init_13

set_option maxHeartbeats 8000000 in
set_option maxRecDepth 100000 in
theorem c_X8_init (l : Launch) (D : va_G) (t : pq_T) (σ : pq_S) (I : Nat → Nat → Int32) (J : Nat → Nat → Int64) (ri : Nat → Nat → Int32) (rj : Nat → Nat → Int64) (rq : Nat → Nat → Option Nat) (sz : Nat) (this : Nat) (hL_this : this ∈ σ.1) (hK_this : σ.2.1 this = 8) (hZ : pq_Z I) (hq0 : rq = fun _ _ => none) : MetV l yX8_init (wa yX8_init cX8_init 1 none) ({ frames := 1, cells := 3, slots := 341, locals := 20 }) [.ref this] D t σ (I, J, ri, rj, rq) sz 3 341 (fun (u : pq_S × pq_M) => ∃ (σ' : pq_S) (I' : Nat → Nat → Int32) (J' : Nat → Nat → Int64) (ri' : Nat → Nat → Int32) (rj' : Nat → Nat → Int64) (rq' : Nat → Nat → Option Nat), u = (σ', I', J', ri', rj', rq') ∧ Et this σ σ' I I' ∧ okText σ' I' this ∧ pq_Z I' ∧ rq' = fun _ _ => none) := by
  refine Met.ofW (cc := cX8_init) (maxL := 1) (ret := none) (by decide) rfl ?_
  intro p e s m args below meth c s₁ B hml hv
  obtain ⟨rfl, hsz, hP, hK, hD0, hN⟩ := hv
  have hx := B.exec
  have hb := B.bytes
  have hr := B.returns
  have hts := atoms_spec (ws := (wa yX8_init cX8_init 1 none)) B.pre
  have hown : s.vm.findClass RX8 = some m.cls := findClass_of_methodNamed B.named
  have hlocks := B.notSynchronized
  have hin : meth.name = "<init>" := (name_of_methodNamed B.named B.method).1
  subst hsz
  have hD : va_D (pq_B t σ (I, J, ri, rj, rq) s.heap.size) (pq_P t σ (I, J, ri, rj, rq)) := hD0.self
  generalize hAe : pq_B t σ (I, J, ri, rj, rq) s.heap.size = A at hD ⊢
  have hA : ∀ q : Nat, s.heap.size ≤ q → A q := fun q h => by rw [← hAe]; exact Or.inr h
  have hS : va_S A s.heap s.heap [] := va_S.rf
  have hl := lv_entry ([.ref this]) (n := 1) (Nat.le_of_ble_eq_true rfl)
  rw [lg_entry_eq]
  generalize (lg_sl ([.ref this]) ++ List.replicate (1 - (lg_sl ([.ref this])).length) Slot.unset).toArray = ls at hl ⊢
  have hl : lv_has ls 1 [(0, .ref this)] := hl
  refine lv_aload_n hx hb dX8_init_0 rfl (lv_at hl 0 rfl) ?_
  refine W.objInit hx hb hown (hts _ (tw_c tw_168)) (hts _ (tw_c tw_11)) (hts _ (tw_c tw_12)) rfl (by rw [hml]; exact hl.1) rfl dX8_init_1 (Nat.le_of_ble_eq_true rfl) (Nat.le_of_ble_eq_true rfl) ?_
  refine W.eq (g2 := F0 m 4 ls []) rfl ?_
  refine lv_aload_n hx hb dX8_init_4 rfl (lv_at hl 0 rfl) ?_
  refine lv_bipush (v := 20) hx hb dX8_init_5 (by decide) ?_
  refine nw_i (N' := 20) hx hb (hts _ (tw_c tw_33)) hK hP hD hS hA (by decide) (by decide) (Nat.le_of_ble_eq_true rfl) (Nat.le_of_ble_eq_true rfl) (Nat.le_of_ble_eq_true rfl) dX8_init_7 (fun q_1 r_3 H hq_2 er_3 hP hD hS => ?_)
  refine pr_F (q := q_1) (C := RX8) (T := TX8) (N := 4) hx hb hts (tw_i inlX8) tyX8 tyX8_ok nmX8 hown hK hP hD hS (As_in hL_this) (As_kk hq_2 hL_this hK_this) (by decide) rfl 1 257 (by decide) (hts _ (tw_c tw_169)) rfl hin rfl (tyX8_ok 1 (by decide)) rfl rfl (Nat.le_of_ble_eq_true rfl) (pr_257 _ _ _ _ _) dX8_init_9 (fun σ_4 H locs hp_5 hP hD hS => ?_)
  have hs_6 := As_of hq_2 hp_5
  have hz_7 := As_es (I := I) hs_6
  have hE := Et_es Et_rf hz_7
  have hA_257 := As_ok hs_6 hL_this
  have hK_this := Es_k hz_7 hL_this hK_this
  have hL_this := Es_at hz_7 hL_this
  refine lv_aload_n hx hb dX8_init_12 rfl (lv_at hl 0 rfl) ?_
  refine lv_bipush (v := 21) hx hb dX8_init_13 (by decide) ?_
  refine nw_i (N' := 21) hx hb (hts _ (tw_c tw_33)) hK hP hD hS hA (by decide) (by decide) (Nat.le_of_ble_eq_true rfl) (Nat.le_of_ble_eq_true rfl) (Nat.le_of_ble_eq_true rfl) dX8_init_15 (fun q_8 r_10 H hq_9 er_10 hP hD hS => ?_)
  refine pr_F (q := q_8) (C := RX8) (T := TX8) (N := 4) hx hb hts (tw_i inlX8) tyX8 tyX8_ok nmX8 hown hK hP hD hS (As_in hL_this) (As_kk hq_9 hL_this hK_this) (by decide) rfl 2 258 (by decide) (hts _ (tw_c tw_170)) rfl hin rfl (tyX8_ok 2 (by decide)) rfl rfl (Nat.le_of_ble_eq_true rfl) (pr_258 _ _ _ _ _) dX8_init_17 (fun σ_11 H locs hp_12 hP hD hS => ?_)
  have hs_13 := As_of hq_9 hp_12
  have hz_14 := As_es (I := I) hs_13
  have hE := Et_es hE hz_14
  have hA_257 := okA_es hz_14 (by decide) hA_257
  have hA_258 := As_ok hs_13 hL_this
  have hK_this := Es_k hz_14 hL_this hK_this
  have hL_this := Es_at hz_14 hL_this
  refine lv_aload_n hx hb dX8_init_20 rfl (lv_at hl 0 rfl) ?_
  refine lv_sipush (v := 300) hx hb dX8_init_21 (by decide) ?_
  refine nw_i (N' := 300) hx hb (hts _ (tw_c tw_33)) hK hP hD hS hA (by decide) (by decide) (Nat.le_of_ble_eq_true rfl) (Nat.le_of_ble_eq_true rfl) (Nat.le_of_ble_eq_true rfl) dX8_init_24 (fun q_15 r_17 H hq_16 er_17 hP hD hS => ?_)
  refine pr_F (q := q_15) (C := RX8) (T := TX8) (N := 4) hx hb hts (tw_i inlX8) tyX8 tyX8_ok nmX8 hown hK hP hD hS (As_in hL_this) (As_kk hq_16 hL_this hK_this) (by decide) rfl 3 259 (by decide) (hts _ (tw_c tw_171)) rfl hin rfl (tyX8_ok 3 (by decide)) rfl rfl (Nat.le_of_ble_eq_true rfl) (pr_259 _ _ _ _ _) dX8_init_26 (fun σ_18 H locs hp_19 hP hD hS => ?_)
  have hs_20 := As_of hq_16 hp_19
  have hz_21 := As_es (I := I) hs_20
  have hE := Et_es hE hz_21
  have hA_257 := okA_es hz_21 (by decide) hA_257
  have hA_258 := okA_es hz_21 (by decide) hA_258
  have hA_259 := As_ok hs_20 hL_this
  have hK_this := Es_k hz_21 hL_this hK_this
  have hL_this := Es_at hz_21 hL_this
  exact W.vret hx hb hr (fun t1 ht hW => ⟨⟨(σ_18, I, J, r_17, rj, rq), rfl, ⟨σ_18, I, J, r_17, rj, rq, rfl, hE, ⟨hA_257, hA_258, hA_259⟩, hZ, hq0⟩, by rw [ht]; exact hP, va_K.moved hW.alike hK, hD⟩, hS.F ht⟩) hS.2.2 dX8_init_29

set_option maxHeartbeats 8000000 in
set_option maxRecDepth 100000 in
theorem c_X4_init (l : Launch) (D : va_G) (t : pq_T) (σ : pq_S) (I : Nat → Nat → Int32) (J : Nat → Nat → Int64) (ri : Nat → Nat → Int32) (rj : Nat → Nat → Int64) (rq : Nat → Nat → Option Nat) (sz : Nat) (this : Nat) (hL_this : this ∈ σ.1) (hK_this : σ.2.1 this = 4) (hZ : pq_Z I) (hq0 : rq = fun _ _ => none) : MetV l yX4_init (wa yX4_init cX4_init 1 none) ({ frames := 2, cells := 7, slots := 691, locals := 40 }) [.ref this] D t σ (I, J, ri, rj, rq) sz 7 691 (fun (u : pq_S × pq_M) => ∃ (σ' : pq_S) (I' : Nat → Nat → Int32) (J' : Nat → Nat → Int64) (ri' : Nat → Nat → Int32) (rj' : Nat → Nat → Int64) (rq' : Nat → Nat → Option Nat), u = (σ', I', J', ri', rj', rq') ∧ Et this σ σ' I I' ∧ okReader σ' I' this ∧ pq_Z I' ∧ rq' = fun _ _ => none) := by
  refine Met.ofW (cc := cX4_init) (maxL := 1) (ret := none) (by decide) rfl ?_
  intro p e s m args below meth c s₁ B hml hv
  obtain ⟨rfl, hsz, hP, hK, hD0, hN⟩ := hv
  have hx := B.exec
  have hb := B.bytes
  have hr := B.returns
  have hts := atoms_spec (ws := (wa yX4_init cX4_init 1 none)) B.pre
  have hown : s.vm.findClass RX4 = some m.cls := findClass_of_methodNamed B.named
  have hlocks := B.notSynchronized
  have hin : meth.name = "<init>" := (name_of_methodNamed B.named B.method).1
  subst hsz
  have hD : va_D (pq_B t σ (I, J, ri, rj, rq) s.heap.size) (pq_P t σ (I, J, ri, rj, rq)) := hD0.self
  generalize hAe : pq_B t σ (I, J, ri, rj, rq) s.heap.size = A at hD ⊢
  have hA : ∀ q : Nat, s.heap.size ≤ q → A q := fun q h => by rw [← hAe]; exact Or.inr h
  have hS : va_S A s.heap s.heap [] := va_S.rf
  have hl := lv_entry ([.ref this]) (n := 1) (Nat.le_of_ble_eq_true rfl)
  rw [lg_entry_eq]
  generalize (lg_sl ([.ref this]) ++ List.replicate (1 - (lg_sl ([.ref this])).length) Slot.unset).toArray = ls at hl ⊢
  have hl : lv_has ls 1 [(0, .ref this)] := hl
  refine lv_aload_n hx hb dX4_init_0 rfl (lv_at hl 0 rfl) ?_
  refine W.objInit hx hb hown (hts _ (tw_c tw_150)) (hts _ (tw_c tw_11)) (hts _ (tw_c tw_12)) rfl (by rw [hml]; exact hl.1) rfl dX4_init_1 (Nat.le_of_ble_eq_true rfl) (Nat.le_of_ble_eq_true rfl) ?_
  refine W.eq (g2 := F0 m 4 ls []) rfl ?_
  refine lv_aload_n hx hb dX4_init_4 rfl (lv_at hl 0 rfl) ?_
  refine nw_o (C := RX6) (T := TX6) (N := 6) hx hb hts (tw_i inlX6) tyX6 tyX6_ok hown (hts _ (tw_c tw_151)) (hts _ (tw_c tw_152)) (hts _ (tw_c tw_153)) hK hP hD hS hA (by decide) rfl nf_6 (Nat.le_of_ble_eq_true rfl) (Nat.le_of_ble_eq_true rfl) dX4_init_5 (fun q_1 σ_2 I_3 J_4 H locs hn_5 hP hD hS => ?_)
  refine lv_dup hx hb dX4_init_8 rfl ?_
  refine pk_v (va_runIN (As := []) (rest := [.ref q_1, .ref this]) ⟨hx, hb, hml, hown, hts⟩ (c_X6_init l D t σ_2 I_3 J_4 ri rj rq H.size q_1 (Ns_in hn_5) (Ns_k hn_5) (Ns_Z hn_5 hZ) hq0) ⟨va_cnB (host := "RingsUnder") 0 hts (tw_W tw_163) rfl rfl rfl (nl_9 hN) (hts _ (tw_c tw_153)) (by decide +kernel) ⟨Nat.le_of_ble_eq_true rfl, Nat.le_of_ble_eq_true rfl⟩, rfl, hts (.instanceMethod yX6_init) (by decide +kernel)⟩ ⟨pq_blind, pq_pre hK hN hP hD⟩ rfl rfl hl.1 rfl (lv_room (Nat.le_of_ble_eq_true rfl)) dX4_init_9 ⟨Nat.le_of_ble_eq_true rfl, Nat.le_of_ble_eq_true rfl⟩) hD hS hA (fun σ1 μ1 H locs hw_7 hP hD hS => ?_)
  obtain ⟨σ_8, I_9, J_10, ri_11, rj_12, rq_13, hu_14, hE2_15, hOK_16, hZ, hqq_17⟩ := hw_7
  obtain ⟨hu_14a, hu_14b⟩ := Prod.mk.inj hu_14
  rw [hu_14a, hu_14b] at hP hD
  refine pr_F (q := q_1) (C := RX4) (T := TX4) (N := 12) hx hb hts (tw_i inlX4) tyX4 tyX4_ok nmX4 hown hK hP hD hS (hE2_15 this (Ns_at hn_5 hL_this)).1 (Et_k hE2_15 (Ns_at hn_5 hL_this) (Ns_kk hn_5 hL_this hK_this)) (by decide) rfl 0 128 (by decide) (hts _ (tw_c tw_154)) rfl hin rfl (tyX4_ok 0 (by decide)) rfl rfl (Nat.le_of_ble_eq_true rfl) (pr_128 _ _ _ _ _) dX4_init_12 (fun σ_18 H locs hp_19 hP hD hS => ?_)
  have hz_20 := Os_es hn_5 hE2_15 hp_19
  have hE := Et_es Et_rf hz_20
  have hO_128 := Os_ok hn_5 hE2_15 hp_19 hL_this hOK_16 (fun h => okScanner_es (Ps_es hp_19) (by decide) h)
  have hK_this := Es_k hz_20 hL_this hK_this
  have hL_this := Es_at hz_20 hL_this
  refine lv_aload_n hx hb dX4_init_15 rfl (lv_at hl 0 rfl) ?_
  refine lv_iconst (v := (-1)) hx hb dX4_init_16 (by decide) ?_
  refine pp_i (v := (-1)) (ty := .int) (C := RX4) (T := TX4) (N := 12) hx hb hts (tw_i inlX4) tyX4 tyX4_ok nmX4 hown hK hP hD hS hL_this hK_this (by decide) rfl 1 129 (by decide) (hts _ (tw_c tw_155)) rfl (by decide +kernel) rfl rfl (Nat.le_of_ble_eq_true rfl) (ps_129 _ _ _ _ _) dX4_init_17 (fun I_21 H locs eI_21 hP hD hS => ?_)
  have hE := Et_put (σ := σ) (σ1 := σ_18) hE eI_21
  have hI_129 := (by rw [eI_21]; exact pq_us _ _ _ _ : I_21 129 this = (-1))
  have hZ := pq_Zp hZ eI_21 (by decide)
  refine lv_aload_n hx hb dX4_init_20 rfl (lv_at hl 0 rfl) ?_
  refine lv_iconst (v := (-1)) hx hb dX4_init_21 (by decide) ?_
  refine pp_i (v := (-1)) (ty := .int) (C := RX4) (T := TX4) (N := 12) hx hb hts (tw_i inlX4) tyX4 tyX4_ok nmX4 hown hK hP hD hS hL_this hK_this (by decide) rfl 2 130 (by decide) (hts _ (tw_c tw_156)) rfl (by decide +kernel) rfl rfl (Nat.le_of_ble_eq_true rfl) (ps_130 _ _ _ _ _) dX4_init_22 (fun I_22 H locs eI_22 hP hD hS => ?_)
  have hE := Et_put (σ := σ) (σ1 := σ_18) hE eI_22
  have hI_129 := (by rw [eI_22, pq_uf _ _ _ (by decide)]; exact hI_129 : I_22 129 this = (-1))
  have hI_130 := (by rw [eI_22]; exact pq_us _ _ _ _ : I_22 130 this = (-1))
  have hZ := pq_Zp hZ eI_22 (by decide)
  refine lv_aload_n hx hb dX4_init_25 rfl (lv_at hl 0 rfl) ?_
  refine nw_o (C := RX8) (T := TX8) (N := 4) hx hb hts (tw_i inlX8) tyX8 tyX8_ok hown (hts _ (tw_c tw_157)) (hts _ (tw_c tw_158)) (hts _ (tw_c tw_159)) hK hP hD hS hA (by decide) rfl nf_8 (Nat.le_of_ble_eq_true rfl) (Nat.le_of_ble_eq_true rfl) dX4_init_26 (fun q_23 σ_24 I_25 J_26 H locs hn_27 hP hD hS => ?_)
  refine lv_dup hx hb dX4_init_29 rfl ?_
  refine pk_v (va_runIN (As := []) (rest := [.ref q_23, .ref this]) ⟨hx, hb, hml, hown, hts⟩ (c_X8_init l D t σ_24 I_25 J_26 ri_11 rj_12 rq_13 H.size q_23 (Ns_in hn_27) (Ns_k hn_27) (Ns_Z hn_27 hZ) hqq_17) ⟨va_cnB (host := "RingsUnder") 0 hts (tw_W tw_167) rfl rfl rfl (nl_10 hN) (hts _ (tw_c tw_159)) (by decide +kernel) ⟨Nat.le_of_ble_eq_true rfl, Nat.le_of_ble_eq_true rfl⟩, rfl, hts (.instanceMethod yX8_init) (by decide +kernel)⟩ ⟨pq_blind, pq_pre hK hN hP hD⟩ rfl rfl hl.1 rfl (lv_room (Nat.le_of_ble_eq_true rfl)) dX4_init_30 ⟨Nat.le_of_ble_eq_true rfl, Nat.le_of_ble_eq_true rfl⟩) hD hS hA (fun σ1 μ1 H locs hw_29 hP hD hS => ?_)
  obtain ⟨σ_30, I_31, J_32, ri_33, rj_34, rq_35, hu_36, hE2_37, hOK_38, hZ, hqq_39⟩ := hw_29
  obtain ⟨hu_36a, hu_36b⟩ := Prod.mk.inj hu_36
  rw [hu_36a, hu_36b] at hP hD
  refine pr_N (q := q_23) (C := RX4) (T := TX4) (N := 12) hx hb hts (tw_i inlX4) tyX4 tyX4_ok nmX4 hown hK hP hD hS (hE2_37 this (Ns_at hn_27 hL_this)).1 (Et_k hE2_37 (Ns_at hn_27 hL_this) (Ns_kk hn_27 hL_this hK_this)) (by decide) rfl 3 131 (by decide) (hts _ (tw_c tw_160)) rfl (tyX4_ok 3 (by decide)) rfl rfl (Nat.le_of_ble_eq_true rfl) (pr_131 _ _ _ _ _) dX4_init_33 (fun σ_40 H locs hp_41 hP hD hS => ?_)
  have hz_42 := Os_es hn_27 hE2_37 hp_41
  have hE := Et_es hE hz_42
  have hO_128 := okO_es hz_42 (by decide) (fun q h => okScanner_es hz_42 (by decide) h) hO_128
  have hI_129 := Es_i hz_42 hL_this hI_129
  have hI_130 := Es_i hz_42 hL_this hI_130
  have hO_131 := Os_ok hn_27 hE2_37 hp_41 hL_this hOK_38 (fun h => okText_es (Ps_es hp_41) (by decide) h)
  have hK_this := Es_k hz_42 hL_this hK_this
  have hL_this := Es_at hz_42 hL_this
  refine lv_aload_n hx hb dX4_init_36 rfl (lv_at hl 0 rfl) ?_
  refine lv_bipush (v := 40) hx hb dX4_init_37 (by decide) ?_
  refine nw_i (N' := 40) hx hb (hts _ (tw_c tw_33)) hK hP hD hS hA (by decide) (by decide) (Nat.le_of_ble_eq_true rfl) (Nat.le_of_ble_eq_true rfl) (Nat.le_of_ble_eq_true rfl) dX4_init_39 (fun q_43 r_45 H hq_44 er_45 hP hD hS => ?_)
  refine pr_F (q := q_43) (C := RX4) (T := TX4) (N := 12) hx hb hts (tw_i inlX4) tyX4 tyX4_ok nmX4 hown hK hP hD hS (As_in hL_this) (As_kk hq_44 hL_this hK_this) (by decide) rfl 5 133 (by decide) (hts _ (tw_c tw_161)) rfl hin rfl (tyX4_ok 5 (by decide)) rfl rfl (Nat.le_of_ble_eq_true rfl) (pr_133 _ _ _ _ _) dX4_init_41 (fun σ_46 H locs hp_47 hP hD hS => ?_)
  have hs_48 := As_of hq_44 hp_47
  have hz_49 := As_es (I := I_31) hs_48
  have hE := Et_es hE hz_49
  have hO_128 := okO_es hz_49 (by decide) (fun q h => okScanner_es hz_49 (by decide) h) hO_128
  have hO_131 := okO_es hz_49 (by decide) (fun q h => okText_es hz_49 (by decide) h) hO_131
  have hI_129 := Es_i hz_49 hL_this hI_129
  have hI_130 := Es_i hz_49 hL_this hI_130
  have hA_133 := As_ok hs_48 hL_this
  have hK_this := Es_k hz_49 hL_this hK_this
  have hL_this := Es_at hz_49 hL_this
  exact W.vret hx hb hr (fun t1 ht hW => ⟨⟨(σ_46, I_31, J_32, r_45, rj_34, rq_35), rfl, ⟨σ_46, I_31, J_32, r_45, rj_34, rq_35, rfl, hE, ⟨hO_128, hO_131, hA_133, hI_129, hI_130⟩, hZ, hqq_39⟩, by rw [ht]; exact hP, va_K.moved hW.alike hK, hD⟩, hS.F ht⟩) hS.2.2 dX4_init_44

set_option maxHeartbeats 8000000 in
set_option maxRecDepth 100000 in
theorem c_X11_init (l : Launch) (D : va_G) (t : pq_T) (σ : pq_S) (I : Nat → Nat → Int32) (J : Nat → Nat → Int64) (ri : Nat → Nat → Int32) (rj : Nat → Nat → Int64) (rq : Nat → Nat → Option Nat) (sz : Nat) (this : Nat) (hL_this : this ∈ σ.1) (hK_this : σ.2.1 this = 11) (hZ : pq_Z I) (hq0 : rq = fun _ _ => none) : MetV l yX11_init (wa yX11_init cX11_init 1 none) ({ frames := 4, cells := 192, slots := 9611, locals := 80 }) [.ref this] D t σ (I, J, ri, rj, rq) sz 192 9611 (fun (u : pq_S × pq_M) => ∃ (σ' : pq_S) (I' : Nat → Nat → Int32) (J' : Nat → Nat → Int64) (ri' : Nat → Nat → Int32) (rj' : Nat → Nat → Int64) (rq' : Nat → Nat → Option Nat), u = (σ', I', J', ri', rj', rq') ∧ Et this σ σ' I I' ∧ okRingsUnder σ' I' this ∧ pq_Z I' ∧ rq' = fun _ _ => none) := by
  refine Met.ofW (cc := cX11_init) (maxL := 1) (ret := none) (by decide) rfl ?_
  intro p e s m args below meth c s₁ B hml hv
  obtain ⟨rfl, hsz, hP, hK, hD0, hN⟩ := hv
  have hx := B.exec
  have hb := B.bytes
  have hr := B.returns
  have hts := atoms_spec (ws := (wa yX11_init cX11_init 1 none)) B.pre
  have hown : s.vm.findClass RX11 = some m.cls := findClass_of_methodNamed B.named
  have hlocks := B.notSynchronized
  have hin : meth.name = "<init>" := (name_of_methodNamed B.named B.method).1
  subst hsz
  have hD : va_D (pq_B t σ (I, J, ri, rj, rq) s.heap.size) (pq_P t σ (I, J, ri, rj, rq)) := hD0.self
  generalize hAe : pq_B t σ (I, J, ri, rj, rq) s.heap.size = A at hD ⊢
  have hA : ∀ q : Nat, s.heap.size ≤ q → A q := fun q h => by rw [← hAe]; exact Or.inr h
  have hS : va_S A s.heap s.heap [] := va_S.rf
  have hl := lv_entry ([.ref this]) (n := 1) (Nat.le_of_ble_eq_true rfl)
  rw [lg_entry_eq]
  generalize (lg_sl ([.ref this]) ++ List.replicate (1 - (lg_sl ([.ref this])).length) Slot.unset).toArray = ls at hl ⊢
  have hl : lv_has ls 1 [(0, .ref this)] := hl
  refine lv_aload_n hx hb dX11_init_0 rfl (lv_at hl 0 rfl) ?_
  refine W.objInit hx hb hown (hts _ (tw_c tw_10)) (hts _ (tw_c tw_11)) (hts _ (tw_c tw_12)) rfl (by rw [hml]; exact hl.1) rfl dX11_init_1 (Nat.le_of_ble_eq_true rfl) (Nat.le_of_ble_eq_true rfl) ?_
  refine W.eq (g2 := F0 m 4 ls []) rfl ?_
  refine lv_aload_n hx hb dX11_init_4 rfl (lv_at hl 0 rfl) ?_
  refine nw_o (C := RX10) (T := TX10) (N := 13) hx hb hts (tw_i inlX10) tyX10 tyX10_ok hown (hts _ (tw_c tw_13)) (hts _ (tw_c tw_14)) (hts _ (tw_c tw_15)) hK hP hD hS hA (by decide) rfl nf_10 (Nat.le_of_ble_eq_true rfl) (Nat.le_of_ble_eq_true rfl) dX11_init_5 (fun q_1 σ_2 I_3 J_4 H locs hn_5 hP hD hS => ?_)
  refine lv_dup hx hb dX11_init_8 rfl ?_
  refine pk_v (va_runI (As := []) (rest := [.ref q_1, .ref this]) ⟨hx, hb, hml, hown, hts⟩ (c_X10_init l D t σ_2 I_3 J_4 ri rj rq H.size q_1 (Ns_in hn_5) (Ns_k hn_5) (Ns_Z hn_5 hZ) hq0 (Ns_i hn_5)) (cwI 0 hts (tw_W tw_29) rfl rfl rfl (hts _ (tw_c tw_15)) (hts _ (tw_c tw_27)) (hts _ (tw_c tw_28)) rfl (by decide +kernel) ⟨Nat.le_of_ble_eq_true rfl, Nat.le_of_ble_eq_true rfl⟩) ⟨pq_blind, pq_pre hK hN hP hD⟩ rfl rfl hl.1 rfl (lv_room (Nat.le_of_ble_eq_true rfl)) dX11_init_9 ⟨Nat.le_of_ble_eq_true rfl, Nat.le_of_ble_eq_true rfl⟩) hD hS hA (fun σ1 μ1 H locs hw_7 hP hD hS => ?_)
  obtain ⟨σ_8, I_9, J_10, ri_11, rj_12, rq_13, hu_14, hE2_15, hOK_16, hZ, hqq_17⟩ := hw_7
  obtain ⟨hu_14a, hu_14b⟩ := Prod.mk.inj hu_14
  rw [hu_14a, hu_14b] at hP hD
  refine pr_F (q := q_1) (C := RX11) (T := TX11) (N := 5) hx hb hts (tw_i inlX11) tyX11 tyX11_ok nmX11 hown hK hP hD hS (hE2_15 this (Ns_at hn_5 hL_this)).1 (Et_k hE2_15 (Ns_at hn_5 hL_this) (Ns_kk hn_5 hL_this hK_this)) (by decide) rfl 0 352 (by decide) (hts _ (tw_c tw_16)) rfl hin rfl (tyX11_ok 0 (by decide)) rfl rfl (Nat.le_of_ble_eq_true rfl) (pr_352 _ _ _ _ _) dX11_init_12 (fun σ_18 H locs hp_19 hP hD hS => ?_)
  have hz_20 := Os_es hn_5 hE2_15 hp_19
  have hE := Et_es Et_rf hz_20
  have hO_352 := Os_ok hn_5 hE2_15 hp_19 hL_this hOK_16 (fun h => okWorld_es (Ps_es hp_19) (by decide) h)
  have hK_this := Es_k hz_20 hL_this hK_this
  have hL_this := Es_at hz_20 hL_this
  refine lv_aload_n hx hb dX11_init_15 rfl (lv_at hl 0 rfl) ?_
  refine nw_o (C := RX10) (T := TX10) (N := 13) hx hb hts (tw_i inlX10) tyX10 tyX10_ok hown (hts _ (tw_c tw_13)) (hts _ (tw_c tw_14)) (hts _ (tw_c tw_15)) hK hP hD hS hA (by decide) rfl nf_10 (Nat.le_of_ble_eq_true rfl) (Nat.le_of_ble_eq_true rfl) dX11_init_16 (fun q_21 σ_22 I_23 J_24 H locs hn_25 hP hD hS => ?_)
  refine lv_dup hx hb dX11_init_19 rfl ?_
  refine pk_v (va_runI (As := []) (rest := [.ref q_21, .ref this]) ⟨hx, hb, hml, hown, hts⟩ (c_X10_init l D t σ_22 I_23 J_24 ri_11 rj_12 rq_13 H.size q_21 (Ns_in hn_25) (Ns_k hn_25) (Ns_Z hn_25 hZ) hqq_17 (Ns_i hn_25)) (cwI 0 hts (tw_W tw_29) rfl rfl rfl (hts _ (tw_c tw_15)) (hts _ (tw_c tw_27)) (hts _ (tw_c tw_28)) rfl (by decide +kernel) ⟨Nat.le_of_ble_eq_true rfl, Nat.le_of_ble_eq_true rfl⟩) ⟨pq_blind, pq_pre hK hN hP hD⟩ rfl rfl hl.1 rfl (lv_room (Nat.le_of_ble_eq_true rfl)) dX11_init_20 ⟨Nat.le_of_ble_eq_true rfl, Nat.le_of_ble_eq_true rfl⟩) hD hS hA (fun σ1 μ1 H locs hw_27 hP hD hS => ?_)
  obtain ⟨σ_28, I_29, J_30, ri_31, rj_32, rq_33, hu_34, hE2_35, hOK_36, hZ, hqq_37⟩ := hw_27
  obtain ⟨hu_34a, hu_34b⟩ := Prod.mk.inj hu_34
  rw [hu_34a, hu_34b] at hP hD
  refine pr_F (q := q_21) (C := RX11) (T := TX11) (N := 5) hx hb hts (tw_i inlX11) tyX11 tyX11_ok nmX11 hown hK hP hD hS (hE2_35 this (Ns_at hn_25 hL_this)).1 (Et_k hE2_35 (Ns_at hn_25 hL_this) (Ns_kk hn_25 hL_this hK_this)) (by decide) rfl 1 353 (by decide) (hts _ (tw_c tw_17)) rfl hin rfl (tyX11_ok 1 (by decide)) rfl rfl (Nat.le_of_ble_eq_true rfl) (pr_353 _ _ _ _ _) dX11_init_23 (fun σ_38 H locs hp_39 hP hD hS => ?_)
  have hz_40 := Os_es hn_25 hE2_35 hp_39
  have hD_352_353 := (by obtain ⟨-, qa, ra, la, -⟩ := hO_352; exact okD_mk hz_40 (by decide) hL_this ra la (by rw [hp_39]; exact pq_us σ_28.2.2.1 353 this (some q_21)) hn_25.1 : okD σ_38 352 353 this)
  have hE := Et_es hE hz_40
  have hO_352 := okO_es hz_40 (by decide) (fun q h => okWorld_es hz_40 (by decide) h) hO_352
  have hO_353 := Os_ok hn_25 hE2_35 hp_39 hL_this hOK_36 (fun h => okWorld_es (Ps_es hp_39) (by decide) h)
  have hK_this := Es_k hz_40 hL_this hK_this
  have hL_this := Es_at hz_40 hL_this
  refine lv_aload_n hx hb dX11_init_26 rfl (lv_at hl 0 rfl) ?_
  refine nw_o (C := RX10) (T := TX10) (N := 13) hx hb hts (tw_i inlX10) tyX10 tyX10_ok hown (hts _ (tw_c tw_13)) (hts _ (tw_c tw_14)) (hts _ (tw_c tw_15)) hK hP hD hS hA (by decide) rfl nf_10 (Nat.le_of_ble_eq_true rfl) (Nat.le_of_ble_eq_true rfl) dX11_init_27 (fun q_41 σ_42 I_43 J_44 H locs hn_45 hP hD hS => ?_)
  refine lv_dup hx hb dX11_init_30 rfl ?_
  refine pk_v (va_runI (As := []) (rest := [.ref q_41, .ref this]) ⟨hx, hb, hml, hown, hts⟩ (c_X10_init l D t σ_42 I_43 J_44 ri_31 rj_32 rq_33 H.size q_41 (Ns_in hn_45) (Ns_k hn_45) (Ns_Z hn_45 hZ) hqq_37 (Ns_i hn_45)) (cwI 0 hts (tw_W tw_29) rfl rfl rfl (hts _ (tw_c tw_15)) (hts _ (tw_c tw_27)) (hts _ (tw_c tw_28)) rfl (by decide +kernel) ⟨Nat.le_of_ble_eq_true rfl, Nat.le_of_ble_eq_true rfl⟩) ⟨pq_blind, pq_pre hK hN hP hD⟩ rfl rfl hl.1 rfl (lv_room (Nat.le_of_ble_eq_true rfl)) dX11_init_31 ⟨Nat.le_of_ble_eq_true rfl, Nat.le_of_ble_eq_true rfl⟩) hD hS hA (fun σ1 μ1 H locs hw_47 hP hD hS => ?_)
  obtain ⟨σ_48, I_49, J_50, ri_51, rj_52, rq_53, hu_54, hE2_55, hOK_56, hZ, hqq_57⟩ := hw_47
  obtain ⟨hu_54a, hu_54b⟩ := Prod.mk.inj hu_54
  rw [hu_54a, hu_54b] at hP hD
  refine pr_F (q := q_41) (C := RX11) (T := TX11) (N := 5) hx hb hts (tw_i inlX11) tyX11 tyX11_ok nmX11 hown hK hP hD hS (hE2_55 this (Ns_at hn_45 hL_this)).1 (Et_k hE2_55 (Ns_at hn_45 hL_this) (Ns_kk hn_45 hL_this hK_this)) (by decide) rfl 2 354 (by decide) (hts _ (tw_c tw_18)) rfl hin rfl (tyX11_ok 2 (by decide)) rfl rfl (Nat.le_of_ble_eq_true rfl) (pr_354 _ _ _ _ _) dX11_init_34 (fun σ_58 H locs hp_59 hP hD hS => ?_)
  have hz_60 := Os_es hn_45 hE2_55 hp_59
  have hD_352_354 := (by obtain ⟨-, qa, ra, la, -⟩ := hO_352; exact okD_mk hz_60 (by decide) hL_this ra la (by rw [hp_59]; exact pq_us σ_48.2.2.1 354 this (some q_41)) hn_45.1 : okD σ_58 352 354 this)
  have hD_353_354 := (by obtain ⟨-, qa, ra, la, -⟩ := hO_353; exact okD_mk hz_60 (by decide) hL_this ra la (by rw [hp_59]; exact pq_us σ_48.2.2.1 354 this (some q_41)) hn_45.1 : okD σ_58 353 354 this)
  have hE := Et_es hE hz_60
  have hO_352 := okO_es hz_60 (by decide) (fun q h => okWorld_es hz_60 (by decide) h) hO_352
  have hO_353 := okO_es hz_60 (by decide) (fun q h => okWorld_es hz_60 (by decide) h) hO_353
  have hD_352_353 := okD_es hz_60 (by decide) (by decide) hD_352_353
  have hO_354 := Os_ok hn_45 hE2_55 hp_59 hL_this hOK_56 (fun h => okWorld_es (Ps_es hp_59) (by decide) h)
  have hK_this := Es_k hz_60 hL_this hK_this
  have hL_this := Es_at hz_60 hL_this
  refine lv_aload_n hx hb dX11_init_37 rfl (lv_at hl 0 rfl) ?_
  refine nw_o (C := RX5) (T := TX5) (N := 8) hx hb hts (tw_i inlX5) tyX5 tyX5_ok hown (hts _ (tw_c tw_19)) (hts _ (tw_c tw_20)) (hts _ (tw_c tw_21)) hK hP hD hS hA (by decide) rfl nf_5 (Nat.le_of_ble_eq_true rfl) (Nat.le_of_ble_eq_true rfl) dX11_init_38 (fun q_61 σ_62 I_63 J_64 H locs hn_65 hP hD hS => ?_)
  refine lv_dup hx hb dX11_init_41 rfl ?_
  refine pk_v (va_runIN (As := []) (rest := [.ref q_61, .ref this]) ⟨hx, hb, hml, hown, hts⟩ (c_X5_init l D t σ_62 I_63 J_64 ri_51 rj_52 rq_53 H.size q_61 (Ns_in hn_65) (Ns_k hn_65) (Ns_Z hn_65 hZ) hqq_57) ⟨va_cnB (host := "RingsUnder") 0 hts (tw_W tw_140) rfl rfl rfl (nl_7 hN) (hts _ (tw_c tw_21)) (by decide +kernel) ⟨Nat.le_of_ble_eq_true rfl, Nat.le_of_ble_eq_true rfl⟩, rfl, hts (.instanceMethod yX5_init) (by decide +kernel)⟩ ⟨pq_blind, pq_pre hK hN hP hD⟩ rfl rfl hl.1 rfl (lv_room (Nat.le_of_ble_eq_true rfl)) dX11_init_42 ⟨Nat.le_of_ble_eq_true rfl, Nat.le_of_ble_eq_true rfl⟩) hD hS hA (fun σ1 μ1 H locs hw_67 hP hD hS => ?_)
  obtain ⟨σ_68, I_69, J_70, ri_71, rj_72, rq_73, hu_74, hE2_75, hOK_76, hZ, hqq_77⟩ := hw_67
  obtain ⟨hu_74a, hu_74b⟩ := Prod.mk.inj hu_74
  rw [hu_74a, hu_74b] at hP hD
  refine pr_F (q := q_61) (C := RX11) (T := TX11) (N := 5) hx hb hts (tw_i inlX11) tyX11 tyX11_ok nmX11 hown hK hP hD hS (hE2_75 this (Ns_at hn_65 hL_this)).1 (Et_k hE2_75 (Ns_at hn_65 hL_this) (Ns_kk hn_65 hL_this hK_this)) (by decide) rfl 3 355 (by decide) (hts _ (tw_c tw_22)) rfl hin rfl (tyX11_ok 3 (by decide)) rfl rfl (Nat.le_of_ble_eq_true rfl) (pr_355 _ _ _ _ _) dX11_init_45 (fun σ_78 H locs hp_79 hP hD hS => ?_)
  have hz_80 := Os_es hn_65 hE2_75 hp_79
  have hE := Et_es hE hz_80
  have hO_352 := okO_es hz_80 (by decide) (fun q h => okWorld_es hz_80 (by decide) h) hO_352
  have hO_353 := okO_es hz_80 (by decide) (fun q h => okWorld_es hz_80 (by decide) h) hO_353
  have hO_354 := okO_es hz_80 (by decide) (fun q h => okWorld_es hz_80 (by decide) h) hO_354
  have hD_352_353 := okD_es hz_80 (by decide) (by decide) hD_352_353
  have hD_352_354 := okD_es hz_80 (by decide) (by decide) hD_352_354
  have hD_353_354 := okD_es hz_80 (by decide) (by decide) hD_353_354
  have hO_355 := Os_ok hn_65 hE2_75 hp_79 hL_this hOK_76 (fun h => okRingOrders_es (Ps_es hp_79) (by decide) h)
  have hK_this := Es_k hz_80 hL_this hK_this
  have hL_this := Es_at hz_80 hL_this
  refine lv_aload_n hx hb dX11_init_48 rfl (lv_at hl 0 rfl) ?_
  refine nw_o (C := RX4) (T := TX4) (N := 12) hx hb hts (tw_i inlX4) tyX4 tyX4_ok hown (hts _ (tw_c tw_23)) (hts _ (tw_c tw_24)) (hts _ (tw_c tw_25)) hK hP hD hS hA (by decide) rfl nf_4 (Nat.le_of_ble_eq_true rfl) (Nat.le_of_ble_eq_true rfl) dX11_init_49 (fun q_81 σ_82 I_83 J_84 H locs hn_85 hP hD hS => ?_)
  refine lv_dup hx hb dX11_init_52 rfl ?_
  refine pk_v (va_runIN (As := []) (rest := [.ref q_81, .ref this]) ⟨hx, hb, hml, hown, hts⟩ (c_X4_init l D t σ_82 I_83 J_84 ri_71 rj_72 rq_73 H.size q_81 (Ns_in hn_85) (Ns_k hn_85) (Ns_Z hn_85 hZ) hqq_77) ⟨va_cnB (host := "RingsUnder") 0 hts (tw_W tw_149) rfl rfl rfl (nl_8 hN) (hts _ (tw_c tw_25)) (by decide +kernel) ⟨Nat.le_of_ble_eq_true rfl, Nat.le_of_ble_eq_true rfl⟩, rfl, hts (.instanceMethod yX4_init) (by decide +kernel)⟩ ⟨pq_blind, pq_pre hK hN hP hD⟩ rfl rfl hl.1 rfl (lv_room (Nat.le_of_ble_eq_true rfl)) dX11_init_53 ⟨Nat.le_of_ble_eq_true rfl, Nat.le_of_ble_eq_true rfl⟩) hD hS hA (fun σ1 μ1 H locs hw_87 hP hD hS => ?_)
  obtain ⟨σ_88, I_89, J_90, ri_91, rj_92, rq_93, hu_94, hE2_95, hOK_96, hZ, hqq_97⟩ := hw_87
  obtain ⟨hu_94a, hu_94b⟩ := Prod.mk.inj hu_94
  rw [hu_94a, hu_94b] at hP hD
  refine pr_F (q := q_81) (C := RX11) (T := TX11) (N := 5) hx hb hts (tw_i inlX11) tyX11 tyX11_ok nmX11 hown hK hP hD hS (hE2_95 this (Ns_at hn_85 hL_this)).1 (Et_k hE2_95 (Ns_at hn_85 hL_this) (Ns_kk hn_85 hL_this hK_this)) (by decide) rfl 4 356 (by decide) (hts _ (tw_c tw_26)) rfl hin rfl (tyX11_ok 4 (by decide)) rfl rfl (Nat.le_of_ble_eq_true rfl) (pr_356 _ _ _ _ _) dX11_init_56 (fun σ_98 H locs hp_99 hP hD hS => ?_)
  have hz_100 := Os_es hn_85 hE2_95 hp_99
  have hE := Et_es hE hz_100
  have hO_352 := okO_es hz_100 (by decide) (fun q h => okWorld_es hz_100 (by decide) h) hO_352
  have hO_353 := okO_es hz_100 (by decide) (fun q h => okWorld_es hz_100 (by decide) h) hO_353
  have hO_354 := okO_es hz_100 (by decide) (fun q h => okWorld_es hz_100 (by decide) h) hO_354
  have hO_355 := okO_es hz_100 (by decide) (fun q h => okRingOrders_es hz_100 (by decide) h) hO_355
  have hD_352_353 := okD_es hz_100 (by decide) (by decide) hD_352_353
  have hD_352_354 := okD_es hz_100 (by decide) (by decide) hD_352_354
  have hD_353_354 := okD_es hz_100 (by decide) (by decide) hD_353_354
  have hO_356 := Os_ok hn_85 hE2_95 hp_99 hL_this hOK_96 (fun h => okReader_es (Ps_es hp_99) (by decide) h)
  have hK_this := Es_k hz_100 hL_this hK_this
  have hL_this := Es_at hz_100 hL_this
  exact W.vret hx hb hr (fun t1 ht hW => ⟨⟨(σ_98, I_89, J_90, ri_91, rj_92, rq_93), rfl, ⟨σ_98, I_89, J_90, ri_91, rj_92, rq_93, rfl, hE, ⟨hO_352, hO_353, hO_354, hO_355, hO_356, hD_352_353, hD_352_354, hD_353_354⟩, hZ, hqq_97⟩, by rw [ht]; exact hP, va_K.moved hW.alike hK, hD⟩, hS.F ht⟩) hS.2.2 dX11_init_59
