theorem dX9_init_0 : decode cX9_init 0 = .ok (.aload_n 0, 1) := oc_42 (by decide +kernel)
theorem tw_103 : Cond.methodLink RX9 3 objectInit ∈ wsL_law := sg_5 _ (List.mem_of_getElem? (i := 7) rfl)
theorem dX9_init_1 : decode cX9_init 1 = .ok (.invokespecial 3, 3) := oc_183 (a := 0) (b := 3) (by decide +kernel)
theorem dX9_init_4 : decode cX9_init 4 = .ok (.aload_n 0, 1) := oc_42 (by decide +kernel)
theorem dX9_init_5 : decode cX9_init 5 = .ok (.bipush 40, 2) := oc_16 (a := 40) (by decide +kernel)
theorem dX9_init_7 : decode cX9_init 7 = .ok (.newarray .int, 2) := by decide +kernel
theorem dX9_init_9 : decode cX9_init 9 = .ok (.putfield 9, 3) := oc_181 (a := 0) (b := 9) (by decide +kernel)
theorem dX9_init_12 : decode cX9_init 12 = .ok (.aload_n 0, 1) := oc_42 (by decide +kernel)
theorem dX9_init_13 : decode cX9_init 13 = .ok (.bipush 40, 2) := oc_16 (a := 40) (by decide +kernel)
theorem dX9_init_15 : decode cX9_init 15 = .ok (.newarray .int, 2) := by decide +kernel
theorem dX9_init_17 : decode cX9_init 17 = .ok (.putfield 15, 3) := oc_181 (a := 0) (b := 15) (by decide +kernel)
theorem dX9_init_20 : decode cX9_init 20 = .ok (.aload_n 0, 1) := oc_42 (by decide +kernel)
theorem dX9_init_21 : decode cX9_init 21 = .ok (.bipush 40, 2) := oc_16 (a := 40) (by decide +kernel)
theorem dX9_init_23 : decode cX9_init 23 = .ok (.newarray .int, 2) := by decide +kernel
theorem dX9_init_25 : decode cX9_init 25 = .ok (.putfield 18, 3) := oc_181 (a := 0) (b := 18) (by decide +kernel)
theorem dX9_init_28 : decode cX9_init 28 = .ok (.return_, 1) := oc_177 (by decide +kernel)
theorem dX0_init_0 : decode cX0_init 0 = .ok (.aload_n 0, 1) := oc_42 (by decide +kernel)
theorem tw_109 : Cond.methodLink RX0 3 objectInit ∈ wsL_law := sg_5 _ (List.mem_of_getElem? (i := 13) rfl)
theorem dX0_init_1 : decode cX0_init 1 = .ok (.invokespecial 3, 3) := oc_183 (a := 0) (b := 3) (by decide +kernel)
theorem dX0_init_4 : decode cX0_init 4 = .ok (.aload_n 0, 1) := oc_42 (by decide +kernel)
theorem dX0_init_5 : decode cX0_init 5 = .ok (.bipush 40, 2) := oc_16 (a := 40) (by decide +kernel)
theorem dX0_init_7 : decode cX0_init 7 = .ok (.newarray .int, 2) := by decide +kernel
theorem dX0_init_9 : decode cX0_init 9 = .ok (.putfield 9, 3) := oc_181 (a := 0) (b := 9) (by decide +kernel)
theorem dX0_init_12 : decode cX0_init 12 = .ok (.aload_n 0, 1) := oc_42 (by decide +kernel)
theorem dX0_init_13 : decode cX0_init 13 = .ok (.bipush 40, 2) := oc_16 (a := 40) (by decide +kernel)
theorem dX0_init_15 : decode cX0_init 15 = .ok (.newarray .int, 2) := by decide +kernel
theorem dX0_init_17 : decode cX0_init 17 = .ok (.putfield 15, 3) := oc_181 (a := 0) (b := 15) (by decide +kernel)
theorem dX0_init_20 : decode cX0_init 20 = .ok (.aload_n 0, 1) := oc_42 (by decide +kernel)
theorem dX0_init_21 : decode cX0_init 21 = .ok (.bipush 40, 2) := oc_16 (a := 40) (by decide +kernel)
theorem dX0_init_23 : decode cX0_init 23 = .ok (.newarray .int, 2) := by decide +kernel
theorem dX0_init_25 : decode cX0_init 25 = .ok (.putfield 18, 3) := oc_181 (a := 0) (b := 18) (by decide +kernel)
theorem dX0_init_28 : decode cX0_init 28 = .ok (.aload_n 0, 1) := oc_42 (by decide +kernel)
theorem dX0_init_29 : decode cX0_init 29 = .ok (.bipush 40, 2) := oc_16 (a := 40) (by decide +kernel)
theorem dX0_init_31 : decode cX0_init 31 = .ok (.newarray .int, 2) := by decide +kernel
theorem dX0_init_33 : decode cX0_init 33 = .ok (.putfield 21, 3) := oc_181 (a := 0) (b := 21) (by decide +kernel)
theorem dX0_init_36 : decode cX0_init 36 = .ok (.aload_n 0, 1) := oc_42 (by decide +kernel)
theorem dX0_init_37 : decode cX0_init 37 = .ok (.bipush 40, 2) := oc_16 (a := 40) (by decide +kernel)
theorem dX0_init_39 : decode cX0_init 39 = .ok (.newarray .int, 2) := by decide +kernel
theorem dX0_init_41 : decode cX0_init 41 = .ok (.putfield 24, 3) := oc_181 (a := 0) (b := 24) (by decide +kernel)
theorem dX0_init_44 : decode cX0_init 44 = .ok (.aload_n 0, 1) := oc_42 (by decide +kernel)
theorem dX0_init_45 : decode cX0_init 45 = .ok (.bipush 40, 2) := oc_16 (a := 40) (by decide +kernel)
theorem dX0_init_47 : decode cX0_init 47 = .ok (.newarray .int, 2) := by decide +kernel
theorem dX0_init_49 : decode cX0_init 49 = .ok (.putfield 27, 3) := oc_181 (a := 0) (b := 27) (by decide +kernel)
theorem dX0_init_52 : decode cX0_init 52 = .ok (.aload_n 0, 1) := oc_42 (by decide +kernel)
theorem dX0_init_53 : decode cX0_init 53 = .ok (.bipush 40, 2) := oc_16 (a := 40) (by decide +kernel)
theorem dX0_init_55 : decode cX0_init 55 = .ok (.newarray .int, 2) := by decide +kernel
theorem dX0_init_57 : decode cX0_init 57 = .ok (.putfield 30, 3) := oc_181 (a := 0) (b := 30) (by decide +kernel)
theorem dX0_init_60 : decode cX0_init 60 = .ok (.aload_n 0, 1) := oc_42 (by decide +kernel)
theorem dX0_init_61 : decode cX0_init 61 = .ok (.bipush 40, 2) := oc_16 (a := 40) (by decide +kernel)
theorem dX0_init_63 : decode cX0_init 63 = .ok (.newarray .int, 2) := by decide +kernel
theorem dX0_init_65 : decode cX0_init 65 = .ok (.putfield 33, 3) := oc_181 (a := 0) (b := 33) (by decide +kernel)
theorem dX0_init_68 : decode cX0_init 68 = .ok (.aload_n 0, 1) := oc_42 (by decide +kernel)
theorem dX0_init_69 : decode cX0_init 69 = .ok (.bipush 40, 2) := oc_16 (a := 40) (by decide +kernel)
theorem dX0_init_71 : decode cX0_init 71 = .ok (.newarray .int, 2) := by decide +kernel
theorem dX0_init_73 : decode cX0_init 73 = .ok (.putfield 36, 3) := oc_181 (a := 0) (b := 36) (by decide +kernel)
theorem dX0_init_76 : decode cX0_init 76 = .ok (.aload_n 0, 1) := oc_42 (by decide +kernel)
theorem dX0_init_77 : decode cX0_init 77 = .ok (.iconst 5, 1) := oc_8 (by decide +kernel)
theorem dX0_init_78 : decode cX0_init 78 = .ok (.newarray .int, 2) := by decide +kernel
theorem dX0_init_80 : decode cX0_init 80 = .ok (.putfield 39, 3) := oc_181 (a := 0) (b := 39) (by decide +kernel)
theorem dX0_init_83 : decode cX0_init 83 = .ok (.aload_n 0, 1) := oc_42 (by decide +kernel)
theorem dX0_init_84 : decode cX0_init 84 = .ok (.iconst 5, 1) := oc_8 (by decide +kernel)
theorem dX0_init_85 : decode cX0_init 85 = .ok (.newarray .int, 2) := by decide +kernel
theorem dX0_init_87 : decode cX0_init 87 = .ok (.putfield 42, 3) := oc_181 (a := 0) (b := 42) (by decide +kernel)
theorem dX0_init_90 : decode cX0_init 90 = .ok (.aload_n 0, 1) := oc_42 (by decide +kernel)
theorem dX0_init_91 : decode cX0_init 91 = .ok (.iconst 5, 1) := oc_8 (by decide +kernel)
theorem dX0_init_92 : decode cX0_init 92 = .ok (.newarray .int, 2) := by decide +kernel
theorem dX0_init_94 : decode cX0_init 94 = .ok (.putfield 45, 3) := oc_181 (a := 0) (b := 45) (by decide +kernel)
theorem dX0_init_97 : decode cX0_init 97 = .ok (.aload_n 0, 1) := oc_42 (by decide +kernel)
theorem dX0_init_98 : decode cX0_init 98 = .ok (.bipush 50, 2) := oc_16 (a := 50) (by decide +kernel)
theorem dX0_init_100 : decode cX0_init 100 = .ok (.newarray .int, 2) := by decide +kernel
theorem dX0_init_102 : decode cX0_init 102 = .ok (.putfield 48, 3) := oc_181 (a := 0) (b := 48) (by decide +kernel)
theorem dX0_init_105 : decode cX0_init 105 = .ok (.aload_n 0, 1) := oc_42 (by decide +kernel)
theorem dX0_init_106 : decode cX0_init 106 = .ok (.bipush 50, 2) := oc_16 (a := 50) (by decide +kernel)
theorem dX0_init_108 : decode cX0_init 108 = .ok (.newarray .int, 2) := by decide +kernel
theorem dX0_init_110 : decode cX0_init 110 = .ok (.putfield 51, 3) := oc_181 (a := 0) (b := 51) (by decide +kernel)
theorem dX0_init_113 : decode cX0_init 113 = .ok (.return_, 1) := oc_177 (by decide +kernel)
theorem dX1_init_0 : decode cX1_init 0 = .ok (.aload_n 0, 1) := oc_42 (by decide +kernel)
theorem tw_136 : Cond.methodLink RX1 3 objectInit ∈ wsL_law := sg_6 _ (List.mem_of_getElem? (i := 16) rfl)
theorem dX1_init_1 : decode cX1_init 1 = .ok (.invokespecial 3, 3) := oc_183 (a := 0) (b := 3) (by decide +kernel)
theorem dX1_init_4 : decode cX1_init 4 = .ok (.aload_n 0, 1) := oc_42 (by decide +kernel)
theorem dX1_init_5 : decode cX1_init 5 = .ok (.bipush 30, 2) := oc_16 (a := 30) (by decide +kernel)
theorem dX1_init_7 : decode cX1_init 7 = .ok (.newarray .int, 2) := by decide +kernel
theorem dX1_init_9 : decode cX1_init 9 = .ok (.putfield 9, 3) := oc_181 (a := 0) (b := 9) (by decide +kernel)
theorem dX1_init_12 : decode cX1_init 12 = .ok (.aload_n 0, 1) := oc_42 (by decide +kernel)
theorem dX1_init_13 : decode cX1_init 13 = .ok (.bipush 30, 2) := oc_16 (a := 30) (by decide +kernel)
theorem dX1_init_15 : decode cX1_init 15 = .ok (.newarray .long, 2) := by decide +kernel
theorem dX1_init_17 : decode cX1_init 17 = .ok (.putfield 15, 3) := oc_181 (a := 0) (b := 15) (by decide +kernel)
theorem dX1_init_20 : decode cX1_init 20 = .ok (.return_, 1) := oc_177 (by decide +kernel)
theorem dX2_init_0 : decode cX2_init 0 = .ok (.aload_n 0, 1) := oc_42 (by decide +kernel)
theorem tw_80 : Cond.methodLink RX2 3 objectInit ∈ wsL_law := sg_4 _ (List.mem_of_getElem? (i := 8) rfl)
theorem dX2_init_1 : decode cX2_init 1 = .ok (.invokespecial 3, 3) := oc_183 (a := 0) (b := 3) (by decide +kernel)
theorem dX2_init_4 : decode cX2_init 4 = .ok (.aload_n 0, 1) := oc_42 (by decide +kernel)
theorem dX2_init_5 : decode cX2_init 5 = .ok (.sipush 600, 3) := oc_17 (a := 2) (b := 88) (by decide +kernel)
theorem dX2_init_8 : decode cX2_init 8 = .ok (.newarray .long, 2) := by decide +kernel
theorem dX2_init_10 : decode cX2_init 10 = .ok (.putfield 9, 3) := oc_181 (a := 0) (b := 9) (by decide +kernel)
theorem dX2_init_13 : decode cX2_init 13 = .ok (.aload_n 0, 1) := oc_42 (by decide +kernel)
theorem dX2_init_14 : decode cX2_init 14 = .ok (.bipush 40, 2) := oc_16 (a := 40) (by decide +kernel)
theorem dX2_init_16 : decode cX2_init 16 = .ok (.newarray .int, 2) := by decide +kernel
theorem dX2_init_18 : decode cX2_init 18 = .ok (.putfield 15, 3) := oc_181 (a := 0) (b := 15) (by decide +kernel)
theorem dX2_init_21 : decode cX2_init 21 = .ok (.aload_n 0, 1) := oc_42 (by decide +kernel)
theorem dX2_init_22 : decode cX2_init 22 = .ok (.bipush 40, 2) := oc_16 (a := 40) (by decide +kernel)
theorem dX2_init_24 : decode cX2_init 24 = .ok (.newarray .int, 2) := by decide +kernel
theorem dX2_init_26 : decode cX2_init 26 = .ok (.putfield 19, 3) := oc_181 (a := 0) (b := 19) (by decide +kernel)
theorem dX2_init_29 : decode cX2_init 29 = .ok (.aload_n 0, 1) := oc_42 (by decide +kernel)
theorem dX2_init_30 : decode cX2_init 30 = .ok (.bipush 40, 2) := oc_16 (a := 40) (by decide +kernel)
theorem dX2_init_32 : decode cX2_init 32 = .ok (.newarray .int, 2) := by decide +kernel
theorem dX2_init_34 : decode cX2_init 34 = .ok (.putfield 22, 3) := oc_181 (a := 0) (b := 22) (by decide +kernel)
theorem dX2_init_37 : decode cX2_init 37 = .ok (.aload_n 0, 1) := oc_42 (by decide +kernel)
theorem dX2_init_38 : decode cX2_init 38 = .ok (.bipush 40, 2) := oc_16 (a := 40) (by decide +kernel)
theorem dX2_init_40 : decode cX2_init 40 = .ok (.newarray .int, 2) := by decide +kernel
theorem dX2_init_42 : decode cX2_init 42 = .ok (.putfield 25, 3) := oc_181 (a := 0) (b := 25) (by decide +kernel)
theorem dX2_init_45 : decode cX2_init 45 = .ok (.aload_n 0, 1) := oc_42 (by decide +kernel)
theorem dX2_init_46 : decode cX2_init 46 = .ok (.bipush 40, 2) := oc_16 (a := 40) (by decide +kernel)
theorem dX2_init_48 : decode cX2_init 48 = .ok (.newarray .int, 2) := by decide +kernel
theorem dX2_init_50 : decode cX2_init 50 = .ok (.putfield 28, 3) := oc_181 (a := 0) (b := 28) (by decide +kernel)
theorem dX2_init_53 : decode cX2_init 53 = .ok (.aload_n 0, 1) := oc_42 (by decide +kernel)
theorem dX2_init_54 : decode cX2_init 54 = .ok (.bipush 40, 2) := oc_16 (a := 40) (by decide +kernel)
theorem dX2_init_56 : decode cX2_init 56 = .ok (.newarray .int, 2) := by decide +kernel
theorem dX2_init_58 : decode cX2_init 58 = .ok (.putfield 31, 3) := oc_181 (a := 0) (b := 31) (by decide +kernel)
theorem dX2_init_61 : decode cX2_init 61 = .ok (.aload_n 0, 1) := oc_42 (by decide +kernel)
theorem dX2_init_62 : decode cX2_init 62 = .ok (.bipush 40, 2) := oc_16 (a := 40) (by decide +kernel)
theorem dX2_init_64 : decode cX2_init 64 = .ok (.newarray .int, 2) := by decide +kernel
theorem dX2_init_66 : decode cX2_init 66 = .ok (.putfield 34, 3) := oc_181 (a := 0) (b := 34) (by decide +kernel)
theorem dX2_init_69 : decode cX2_init 69 = .ok (.aload_n 0, 1) := oc_42 (by decide +kernel)
theorem dX2_init_70 : decode cX2_init 70 = .ok (.bipush 40, 2) := oc_16 (a := 40) (by decide +kernel)
theorem dX2_init_72 : decode cX2_init 72 = .ok (.newarray .int, 2) := by decide +kernel
theorem dX2_init_74 : decode cX2_init 74 = .ok (.putfield 37, 3) := oc_181 (a := 0) (b := 37) (by decide +kernel)
theorem dX2_init_77 : decode cX2_init 77 = .ok (.aload_n 0, 1) := oc_42 (by decide +kernel)
theorem dX2_init_78 : decode cX2_init 78 = .ok (.bipush 40, 2) := oc_16 (a := 40) (by decide +kernel)
theorem dX2_init_80 : decode cX2_init 80 = .ok (.newarray .int, 2) := by decide +kernel
theorem dX2_init_82 : decode cX2_init 82 = .ok (.putfield 40, 3) := oc_181 (a := 0) (b := 40) (by decide +kernel)
theorem dX2_init_85 : decode cX2_init 85 = .ok (.aload_n 0, 1) := oc_42 (by decide +kernel)
theorem tw_92 : Cond.classLink RX2 43 RX9 ∈ wsL_law := sg_4 _ (List.mem_of_getElem? (i := 20) rfl)
theorem dX2_init_86 : decode cX2_init 86 = .ok (.new 43, 3) := oc_187 (a := 0) (b := 43) (by decide +kernel)
theorem dX2_init_89 : decode cX2_init 89 = .ok (.dup, 1) := oc_89 (by decide +kernel)
theorem tw_102 : Cond.code yX9_init cX9_init 1 none ∈ wsL_law := sg_5 _ (List.mem_of_getElem? (i := 6) rfl)
theorem dX2_init_90 : decode cX2_init 90 = .ok (.invokespecial 45, 3) := oc_183 (a := 0) (b := 45) (by decide +kernel)
theorem dX2_init_93 : decode cX2_init 93 = .ok (.putfield 46, 3) := oc_181 (a := 0) (b := 46) (by decide +kernel)
theorem dX2_init_96 : decode cX2_init 96 = .ok (.aload_n 0, 1) := oc_42 (by decide +kernel)
theorem dX2_init_97 : decode cX2_init 97 = .ok (.bipush 40, 2) := oc_16 (a := 40) (by decide +kernel)
theorem dX2_init_99 : decode cX2_init 99 = .ok (.newarray .int, 2) := by decide +kernel
theorem dX2_init_101 : decode cX2_init 101 = .ok (.putfield 50, 3) := oc_181 (a := 0) (b := 50) (by decide +kernel)
theorem dX2_init_104 : decode cX2_init 104 = .ok (.aload_n 0, 1) := oc_42 (by decide +kernel)
theorem dX2_init_105 : decode cX2_init 105 = .ok (.iconst 5, 1) := oc_8 (by decide +kernel)
theorem dX2_init_106 : decode cX2_init 106 = .ok (.newarray .int, 2) := by decide +kernel
theorem dX2_init_108 : decode cX2_init 108 = .ok (.putfield 53, 3) := oc_181 (a := 0) (b := 53) (by decide +kernel)
theorem dX2_init_111 : decode cX2_init 111 = .ok (.aload_n 0, 1) := oc_42 (by decide +kernel)
theorem dX2_init_112 : decode cX2_init 112 = .ok (.bipush 40, 2) := oc_16 (a := 40) (by decide +kernel)
theorem dX2_init_114 : decode cX2_init 114 = .ok (.newarray .int, 2) := by decide +kernel
theorem dX2_init_116 : decode cX2_init 116 = .ok (.putfield 56, 3) := oc_181 (a := 0) (b := 56) (by decide +kernel)
theorem dX2_init_119 : decode cX2_init 119 = .ok (.aload_n 0, 1) := oc_42 (by decide +kernel)
theorem dX2_init_120 : decode cX2_init 120 = .ok (.bipush 32, 2) := oc_16 (a := 32) (by decide +kernel)
theorem dX2_init_122 : decode cX2_init 122 = .ok (.newarray .int, 2) := by decide +kernel
theorem dX2_init_124 : decode cX2_init 124 = .ok (.putfield 59, 3) := oc_181 (a := 0) (b := 59) (by decide +kernel)
theorem dX2_init_127 : decode cX2_init 127 = .ok (.aload_n 0, 1) := oc_42 (by decide +kernel)
theorem dX2_init_128 : decode cX2_init 128 = .ok (.bipush 21, 2) := oc_16 (a := 21) (by decide +kernel)
theorem dX2_init_130 : decode cX2_init 130 = .ok (.newarray .int, 2) := by decide +kernel
theorem dX2_init_132 : decode cX2_init 132 = .ok (.putfield 62, 3) := oc_181 (a := 0) (b := 62) (by decide +kernel)
theorem dX2_init_135 : decode cX2_init 135 = .ok (.aload_n 0, 1) := oc_42 (by decide +kernel)
theorem dX2_init_136 : decode cX2_init 136 = .ok (.getfield 50, 3) := oc_180 (a := 0) (b := 50) (by decide +kernel)
theorem dX2_init_139 : decode cX2_init 139 = .ok (.iconst (-1), 1) := oc_2 (by decide +kernel)
theorem dX2_init_140 : decode cX2_init 140 = .ok (.invokestatic 65, 3) := oc_184 (a := 0) (b := 65) (by decide +kernel)
theorem dX2_init_143 : decode cX2_init 143 = .ok (.aload_n 0, 1) := oc_42 (by decide +kernel)
theorem dX2_init_144 : decode cX2_init 144 = .ok (.getfield 53, 3) := oc_180 (a := 0) (b := 53) (by decide +kernel)
theorem dX2_init_147 : decode cX2_init 147 = .ok (.iconst (-1), 1) := oc_2 (by decide +kernel)
theorem dX2_init_148 : decode cX2_init 148 = .ok (.invokestatic 65, 3) := oc_184 (a := 0) (b := 65) (by decide +kernel)
theorem dX2_init_151 : decode cX2_init 151 = .ok (.return_, 1) := oc_177 (by decide +kernel)
theorem dX7_init_0 : decode cX7_init 0 = .ok (.aload_n 0, 1) := oc_42 (by decide +kernel)
theorem tw_60 : Cond.methodLink RX7 3 objectInit ∈ wsL_law := sg_3 _ (List.mem_of_getElem? (i := 12) rfl)
theorem dX7_init_1 : decode cX7_init 1 = .ok (.invokespecial 3, 3) := oc_183 (a := 0) (b := 3) (by decide +kernel)
theorem dX7_init_4 : decode cX7_init 4 = .ok (.aload_n 0, 1) := oc_42 (by decide +kernel)
theorem dX7_init_5 : decode cX7_init 5 = .ok (.sipush 200, 3) := oc_17 (a := 0) (b := 200) (by decide +kernel)
theorem dX7_init_8 : decode cX7_init 8 = .ok (.newarray .int, 2) := by decide +kernel
theorem dX7_init_10 : decode cX7_init 10 = .ok (.putfield 9, 3) := oc_181 (a := 0) (b := 9) (by decide +kernel)
theorem dX7_init_13 : decode cX7_init 13 = .ok (.aload_n 0, 1) := oc_42 (by decide +kernel)
theorem dX7_init_14 : decode cX7_init 14 = .ok (.sipush 200, 3) := oc_17 (a := 0) (b := 200) (by decide +kernel)
theorem dX7_init_17 : decode cX7_init 17 = .ok (.newarray .int, 2) := by decide +kernel
theorem dX7_init_19 : decode cX7_init 19 = .ok (.putfield 15, 3) := oc_181 (a := 0) (b := 15) (by decide +kernel)
theorem dX7_init_22 : decode cX7_init 22 = .ok (.aload_n 0, 1) := oc_42 (by decide +kernel)
theorem dX7_init_23 : decode cX7_init 23 = .ok (.sipush 200, 3) := oc_17 (a := 0) (b := 200) (by decide +kernel)
theorem dX7_init_26 : decode cX7_init 26 = .ok (.newarray .int, 2) := by decide +kernel
theorem dX7_init_28 : decode cX7_init 28 = .ok (.putfield 18, 3) := oc_181 (a := 0) (b := 18) (by decide +kernel)
theorem dX7_init_31 : decode cX7_init 31 = .ok (.aload_n 0, 1) := oc_42 (by decide +kernel)
theorem dX7_init_32 : decode cX7_init 32 = .ok (.sipush 200, 3) := oc_17 (a := 0) (b := 200) (by decide +kernel)
theorem dX7_init_35 : decode cX7_init 35 = .ok (.newarray .int, 2) := by decide +kernel
theorem dX7_init_37 : decode cX7_init 37 = .ok (.putfield 21, 3) := oc_181 (a := 0) (b := 21) (by decide +kernel)
theorem dX7_init_40 : decode cX7_init 40 = .ok (.aload_n 0, 1) := oc_42 (by decide +kernel)
theorem dX7_init_41 : decode cX7_init 41 = .ok (.bipush 12, 2) := oc_16 (a := 12) (by decide +kernel)
theorem dX7_init_43 : decode cX7_init 43 = .ok (.newarray .int, 2) := by decide +kernel
theorem dX7_init_45 : decode cX7_init 45 = .ok (.putfield 24, 3) := oc_181 (a := 0) (b := 24) (by decide +kernel)
theorem dX7_init_48 : decode cX7_init 48 = .ok (.aload_n 0, 1) := oc_42 (by decide +kernel)
theorem dX7_init_49 : decode cX7_init 49 = .ok (.bipush 12, 2) := oc_16 (a := 12) (by decide +kernel)
theorem dX7_init_51 : decode cX7_init 51 = .ok (.newarray .int, 2) := by decide +kernel
theorem dX7_init_53 : decode cX7_init 53 = .ok (.putfield 27, 3) := oc_181 (a := 0) (b := 27) (by decide +kernel)
theorem dX7_init_56 : decode cX7_init 56 = .ok (.aload_n 0, 1) := oc_42 (by decide +kernel)
theorem dX7_init_57 : decode cX7_init 57 = .ok (.bipush 12, 2) := oc_16 (a := 12) (by decide +kernel)
theorem dX7_init_59 : decode cX7_init 59 = .ok (.newarray .int, 2) := by decide +kernel
theorem dX7_init_61 : decode cX7_init 61 = .ok (.putfield 30, 3) := oc_181 (a := 0) (b := 30) (by decide +kernel)
theorem dX7_init_64 : decode cX7_init 64 = .ok (.aload_n 0, 1) := oc_42 (by decide +kernel)
theorem dX7_init_65 : decode cX7_init 65 = .ok (.bipush 12, 2) := oc_16 (a := 12) (by decide +kernel)
theorem dX7_init_67 : decode cX7_init 67 = .ok (.newarray .int, 2) := by decide +kernel
theorem dX7_init_69 : decode cX7_init 69 = .ok (.putfield 33, 3) := oc_181 (a := 0) (b := 33) (by decide +kernel)
theorem dX7_init_72 : decode cX7_init 72 = .ok (.aload_n 0, 1) := oc_42 (by decide +kernel)
theorem dX7_init_73 : decode cX7_init 73 = .ok (.bipush 12, 2) := oc_16 (a := 12) (by decide +kernel)
theorem dX7_init_75 : decode cX7_init 75 = .ok (.newarray .int, 2) := by decide +kernel
theorem dX7_init_77 : decode cX7_init 77 = .ok (.putfield 36, 3) := oc_181 (a := 0) (b := 36) (by decide +kernel)
theorem dX7_init_80 : decode cX7_init 80 = .ok (.aload_n 0, 1) := oc_42 (by decide +kernel)
theorem dX7_init_81 : decode cX7_init 81 = .ok (.bipush 29, 2) := oc_16 (a := 29) (by decide +kernel)
theorem dX7_init_83 : decode cX7_init 83 = .ok (.putfield 39, 3) := oc_181 (a := 0) (b := 39) (by decide +kernel)
theorem dX7_init_86 : decode cX7_init 86 = .ok (.aload_n 0, 1) := oc_42 (by decide +kernel)
theorem dX7_init_87 : decode cX7_init 87 = .ok (.iconst 1, 1) := oc_4 (by decide +kernel)
theorem dX7_init_88 : decode cX7_init 88 = .ok (.putfield 43, 3) := oc_181 (a := 0) (b := 43) (by decide +kernel)
theorem dX7_init_91 : decode cX7_init 91 = .ok (.aload_n 0, 1) := oc_42 (by decide +kernel)
theorem dX7_init_92 : decode cX7_init 92 = .ok (.bipush 10, 2) := oc_16 (a := 10) (by decide +kernel)
theorem dX7_init_94 : decode cX7_init 94 = .ok (.putfield 46, 3) := oc_181 (a := 0) (b := 46) (by decide +kernel)
theorem dX7_init_97 : decode cX7_init 97 = .ok (.aload_n 0, 1) := oc_42 (by decide +kernel)
theorem dX7_init_98 : decode cX7_init 98 = .ok (.iconst 3, 1) := oc_6 (by decide +kernel)
theorem dX7_init_99 : decode cX7_init 99 = .ok (.putfield 49, 3) := oc_181 (a := 0) (b := 49) (by decide +kernel)
theorem dX7_init_102 : decode cX7_init 102 = .ok (.aload_n 0, 1) := oc_42 (by decide +kernel)
theorem dX7_init_103 : decode cX7_init 103 = .ok (.iconst 5, 1) := oc_8 (by decide +kernel)
theorem dX7_init_104 : decode cX7_init 104 = .ok (.putfield 52, 3) := oc_181 (a := 0) (b := 52) (by decide +kernel)
theorem dX7_init_107 : decode cX7_init 107 = .ok (.aload_n 0, 1) := oc_42 (by decide +kernel)
theorem dX7_init_108 : decode cX7_init 108 = .ok (.getfield 27, 3) := oc_180 (a := 0) (b := 27) (by decide +kernel)
theorem dX7_init_111 : decode cX7_init 111 = .ok (.sipush 500, 3) := oc_17 (a := 1) (b := 244) (by decide +kernel)
theorem dX7_init_114 : decode cX7_init 114 = .ok (.invokestatic 55, 3) := oc_184 (a := 0) (b := 55) (by decide +kernel)
theorem dX7_init_117 : decode cX7_init 117 = .ok (.aload_n 0, 1) := oc_42 (by decide +kernel)
theorem dX7_init_118 : decode cX7_init 118 = .ok (.getfield 30, 3) := oc_180 (a := 0) (b := 30) (by decide +kernel)
theorem dX7_init_121 : decode cX7_init 121 = .ok (.bipush 25, 2) := oc_16 (a := 25) (by decide +kernel)
theorem dX7_init_123 : decode cX7_init 123 = .ok (.invokestatic 55, 3) := oc_184 (a := 0) (b := 55) (by decide +kernel)
theorem dX7_init_126 : decode cX7_init 126 = .ok (.aload_n 0, 1) := oc_42 (by decide +kernel)
theorem dX7_init_127 : decode cX7_init 127 = .ok (.getfield 33, 3) := oc_180 (a := 0) (b := 33) (by decide +kernel)
theorem dX7_init_130 : decode cX7_init 130 = .ok (.iconst 5, 1) := oc_8 (by decide +kernel)
theorem dX7_init_131 : decode cX7_init 131 = .ok (.invokestatic 55, 3) := oc_184 (a := 0) (b := 55) (by decide +kernel)
theorem dX7_init_134 : decode cX7_init 134 = .ok (.aload_n 0, 1) := oc_42 (by decide +kernel)
theorem dX7_init_135 : decode cX7_init 135 = .ok (.getfield 36, 3) := oc_180 (a := 0) (b := 36) (by decide +kernel)
theorem dX7_init_138 : decode cX7_init 138 = .ok (.bipush 20, 2) := oc_16 (a := 20) (by decide +kernel)
theorem dX7_init_140 : decode cX7_init 140 = .ok (.invokestatic 55, 3) := oc_184 (a := 0) (b := 55) (by decide +kernel)
theorem dX7_init_143 : decode cX7_init 143 = .ok (.return_, 1) := oc_177 (by decide +kernel)
theorem dX3_init_0 : decode cX3_init 0 = .ok (.aload_n 0, 1) := oc_42 (by decide +kernel)
theorem tw_126 : Cond.methodLink RX3 3 objectInit ∈ wsL_law := sg_6 _ (List.mem_of_getElem? (i := 6) rfl)
theorem dX3_init_1 : decode cX3_init 1 = .ok (.invokespecial 3, 3) := oc_183 (a := 0) (b := 3) (by decide +kernel)
theorem dX3_init_4 : decode cX3_init 4 = .ok (.aload_n 0, 1) := oc_42 (by decide +kernel)
theorem dX3_init_5 : decode cX3_init 5 = .ok (.bipush 10, 2) := oc_16 (a := 10) (by decide +kernel)
theorem tw_127 : Cond.classLink RX3 9 RX8 ∈ wsL_law := sg_6 _ (List.mem_of_getElem? (i := 7) rfl)
theorem dX3_init_7 : decode cX3_init 7 = .ok (.anewarray 9, 3) := oc_189 (a := 0) (b := 9) (by decide +kernel)
theorem dX3_init_10 : decode cX3_init 10 = .ok (.putfield 11, 3) := oc_181 (a := 0) (b := 11) (by decide +kernel)
theorem dX3_init_13 : decode cX3_init 13 = .ok (.aload_n 0, 1) := oc_42 (by decide +kernel)
theorem dX3_init_14 : decode cX3_init 14 = .ok (.bipush 30, 2) := oc_16 (a := 30) (by decide +kernel)
theorem dX3_init_16 : decode cX3_init 16 = .ok (.newarray .int, 2) := by decide +kernel
theorem dX3_init_18 : decode cX3_init 18 = .ok (.putfield 17, 3) := oc_181 (a := 0) (b := 17) (by decide +kernel)
theorem dX3_init_21 : decode cX3_init 21 = .ok (.aload_n 0, 1) := oc_42 (by decide +kernel)
theorem dX3_init_22 : decode cX3_init 22 = .ok (.bipush 30, 2) := oc_16 (a := 30) (by decide +kernel)
theorem dX3_init_24 : decode cX3_init 24 = .ok (.newarray .int, 2) := by decide +kernel
theorem dX3_init_26 : decode cX3_init 26 = .ok (.putfield 21, 3) := oc_181 (a := 0) (b := 21) (by decide +kernel)
theorem dX3_init_29 : decode cX3_init 29 = .ok (.aload_n 0, 1) := oc_42 (by decide +kernel)
theorem dX3_init_30 : decode cX3_init 30 = .ok (.bipush 30, 2) := oc_16 (a := 30) (by decide +kernel)
theorem dX3_init_32 : decode cX3_init 32 = .ok (.newarray .int, 2) := by decide +kernel
theorem dX3_init_34 : decode cX3_init 34 = .ok (.putfield 24, 3) := oc_181 (a := 0) (b := 24) (by decide +kernel)
theorem dX3_init_37 : decode cX3_init 37 = .ok (.aload_n 0, 1) := oc_42 (by decide +kernel)
theorem dX3_init_38 : decode cX3_init 38 = .ok (.bipush 6, 2) := oc_16 (a := 6) (by decide +kernel)
theorem dX3_init_40 : decode cX3_init 40 = .ok (.newarray .int, 2) := by decide +kernel
theorem dX3_init_42 : decode cX3_init 42 = .ok (.putfield 27, 3) := oc_181 (a := 0) (b := 27) (by decide +kernel)
theorem dX3_init_45 : decode cX3_init 45 = .ok (.aload_n 0, 1) := oc_42 (by decide +kernel)
theorem dX3_init_46 : decode cX3_init 46 = .ok (.bipush 40, 2) := oc_16 (a := 40) (by decide +kernel)
theorem dX3_init_48 : decode cX3_init 48 = .ok (.newarray .int, 2) := by decide +kernel
theorem dX3_init_50 : decode cX3_init 50 = .ok (.putfield 30, 3) := oc_181 (a := 0) (b := 30) (by decide +kernel)
theorem dX3_init_53 : decode cX3_init 53 = .ok (.return_, 1) := oc_177 (by decide +kernel)
theorem dX10_init_0 : decode cX10_init 0 = .ok (.aload_n 0, 1) := oc_42 (by decide +kernel)
theorem tw_30 : Cond.methodLink RX10 3 objectInit ∈ wsL_law := sg_2 _ (List.mem_of_getElem? (i := 6) rfl)
theorem dX10_init_1 : decode cX10_init 1 = .ok (.invokespecial 3, 3) := oc_183 (a := 0) (b := 3) (by decide +kernel)
theorem dX10_init_4 : decode cX10_init 4 = .ok (.aload_n 0, 1) := oc_42 (by decide +kernel)
theorem dX10_init_5 : decode cX10_init 5 = .ok (.iconst (-1), 1) := oc_2 (by decide +kernel)
theorem dX10_init_6 : decode cX10_init 6 = .ok (.putfield 9, 3) := oc_181 (a := 0) (b := 9) (by decide +kernel)
theorem dX10_init_9 : decode cX10_init 9 = .ok (.aload_n 0, 1) := oc_42 (by decide +kernel)
theorem dX10_init_10 : decode cX10_init 10 = .ok (.iconst (-1), 1) := oc_2 (by decide +kernel)
theorem dX10_init_11 : decode cX10_init 11 = .ok (.putfield 15, 3) := oc_181 (a := 0) (b := 15) (by decide +kernel)
theorem dX10_init_14 : decode cX10_init 14 = .ok (.aload_n 0, 1) := oc_42 (by decide +kernel)
theorem dX10_init_15 : decode cX10_init 15 = .ok (.bipush 40, 2) := oc_16 (a := 40) (by decide +kernel)
theorem dX10_init_17 : decode cX10_init 17 = .ok (.newarray .int, 2) := by decide +kernel
theorem dX10_init_19 : decode cX10_init 19 = .ok (.putfield 18, 3) := oc_181 (a := 0) (b := 18) (by decide +kernel)
theorem dX10_init_22 : decode cX10_init 22 = .ok (.aload_n 0, 1) := oc_42 (by decide +kernel)
theorem tw_35 : Cond.classLink RX10 22 RX7 ∈ wsL_law := sg_2 _ (List.mem_of_getElem? (i := 11) rfl)
theorem dX10_init_23 : decode cX10_init 23 = .ok (.new 22, 3) := oc_187 (a := 0) (b := 22) (by decide +kernel)
theorem dX10_init_26 : decode cX10_init 26 = .ok (.dup, 1) := oc_89 (by decide +kernel)
theorem tw_59 : Cond.code yX7_init cX7_init 1 none ∈ wsL_law := sg_3 _ (List.mem_of_getElem? (i := 11) rfl)
theorem tw_57 : Cond.methodLink RX10 24 yX7_init ∈ wsL_law := sg_3 _ (List.mem_of_getElem? (i := 9) rfl)
theorem tw_58 : Cond.instanceMethod yX7_init ∈ wsL_law := sg_3 _ (List.mem_of_getElem? (i := 10) rfl)
theorem dX10_init_27 : decode cX10_init 27 = .ok (.invokespecial 24, 3) := oc_183 (a := 0) (b := 24) (by decide +kernel)
theorem dX10_init_30 : decode cX10_init 30 = .ok (.putfield 25, 3) := oc_181 (a := 0) (b := 25) (by decide +kernel)
theorem dX10_init_33 : decode cX10_init 33 = .ok (.aload_n 0, 1) := oc_42 (by decide +kernel)
theorem tw_39 : Cond.classLink RX10 29 RX2 ∈ wsL_law := sg_2 _ (List.mem_of_getElem? (i := 15) rfl)
theorem dX10_init_34 : decode cX10_init 34 = .ok (.new 29, 3) := oc_187 (a := 0) (b := 29) (by decide +kernel)
theorem dX10_init_37 : decode cX10_init 37 = .ok (.dup, 1) := oc_89 (by decide +kernel)
theorem tw_79 : Cond.code yX2_init cX2_init 1 none ∈ wsL_law := sg_4 _ (List.mem_of_getElem? (i := 7) rfl)
theorem tw_77 : Cond.methodLink RX10 31 yX2_init ∈ wsL_law := sg_4 _ (List.mem_of_getElem? (i := 5) rfl)
theorem tw_78 : Cond.instanceMethod yX2_init ∈ wsL_law := sg_4 _ (List.mem_of_getElem? (i := 6) rfl)
theorem dX10_init_38 : decode cX10_init 38 = .ok (.invokespecial 31, 3) := oc_183 (a := 0) (b := 31) (by decide +kernel)
theorem dX10_init_41 : decode cX10_init 41 = .ok (.putfield 32, 3) := oc_181 (a := 0) (b := 32) (by decide +kernel)
theorem dX10_init_44 : decode cX10_init 44 = .ok (.aload_n 0, 1) := oc_42 (by decide +kernel)
theorem tw_43 : Cond.classLink RX10 36 RX0 ∈ wsL_law := sg_2 _ (List.mem_of_getElem? (i := 19) rfl)
theorem dX10_init_45 : decode cX10_init 45 = .ok (.new 36, 3) := oc_187 (a := 0) (b := 36) (by decide +kernel)
theorem dX10_init_48 : decode cX10_init 48 = .ok (.dup, 1) := oc_89 (by decide +kernel)
theorem tw_108 : Cond.code yX0_init cX0_init 1 none ∈ wsL_law := sg_5 _ (List.mem_of_getElem? (i := 12) rfl)
theorem dX10_init_49 : decode cX10_init 49 = .ok (.invokespecial 38, 3) := oc_183 (a := 0) (b := 38) (by decide +kernel)
theorem dX10_init_52 : decode cX10_init 52 = .ok (.putfield 39, 3) := oc_181 (a := 0) (b := 39) (by decide +kernel)
theorem dX10_init_55 : decode cX10_init 55 = .ok (.aload_n 0, 1) := oc_42 (by decide +kernel)
theorem tw_47 : Cond.classLink RX10 43 RX3 ∈ wsL_law := sg_2 _ (List.mem_of_getElem? (i := 23) rfl)
theorem dX10_init_56 : decode cX10_init 56 = .ok (.new 43, 3) := oc_187 (a := 0) (b := 43) (by decide +kernel)
theorem dX10_init_59 : decode cX10_init 59 = .ok (.dup, 1) := oc_89 (by decide +kernel)
theorem tw_125 : Cond.code yX3_init cX3_init 1 none ∈ wsL_law := sg_6 _ (List.mem_of_getElem? (i := 5) rfl)
theorem dX10_init_60 : decode cX10_init 60 = .ok (.invokespecial 45, 3) := oc_183 (a := 0) (b := 45) (by decide +kernel)
theorem dX10_init_63 : decode cX10_init 63 = .ok (.putfield 46, 3) := oc_181 (a := 0) (b := 46) (by decide +kernel)
theorem dX10_init_66 : decode cX10_init 66 = .ok (.aload_n 0, 1) := oc_42 (by decide +kernel)
theorem tw_51 : Cond.classLink RX10 50 RX1 ∈ wsL_law := sg_3 _ (List.mem_of_getElem? (i := 3) rfl)
theorem dX10_init_67 : decode cX10_init 67 = .ok (.new 50, 3) := oc_187 (a := 0) (b := 50) (by decide +kernel)
theorem dX10_init_70 : decode cX10_init 70 = .ok (.dup, 1) := oc_89 (by decide +kernel)
theorem tw_135 : Cond.code yX1_init cX1_init 1 none ∈ wsL_law := sg_6 _ (List.mem_of_getElem? (i := 15) rfl)
theorem dX10_init_71 : decode cX10_init 71 = .ok (.invokespecial 52, 3) := oc_183 (a := 0) (b := 52) (by decide +kernel)
theorem dX10_init_74 : decode cX10_init 74 = .ok (.putfield 53, 3) := oc_181 (a := 0) (b := 53) (by decide +kernel)
theorem dX10_init_77 : decode cX10_init 77 = .ok (.aload_n 0, 1) := oc_42 (by decide +kernel)
theorem dX10_init_78 : decode cX10_init 78 = .ok (.bipush 40, 2) := oc_16 (a := 40) (by decide +kernel)
theorem dX10_init_80 : decode cX10_init 80 = .ok (.newarray .int, 2) := by decide +kernel
theorem dX10_init_82 : decode cX10_init 82 = .ok (.putfield 57, 3) := oc_181 (a := 0) (b := 57) (by decide +kernel)
theorem dX10_init_85 : decode cX10_init 85 = .ok (.aload_n 0, 1) := oc_42 (by decide +kernel)
theorem dX10_init_86 : decode cX10_init 86 = .ok (.iconst 5, 1) := oc_8 (by decide +kernel)
theorem dX10_init_87 : decode cX10_init 87 = .ok (.newarray .int, 2) := by decide +kernel
theorem dX10_init_89 : decode cX10_init 89 = .ok (.putfield 60, 3) := oc_181 (a := 0) (b := 60) (by decide +kernel)
theorem dX10_init_92 : decode cX10_init 92 = .ok (.aload_n 0, 1) := oc_42 (by decide +kernel)
theorem dX10_init_93 : decode cX10_init 93 = .ok (.getfield 18, 3) := oc_180 (a := 0) (b := 18) (by decide +kernel)
theorem dX10_init_96 : decode cX10_init 96 = .ok (.iconst (-1), 1) := oc_2 (by decide +kernel)
theorem dX10_init_97 : decode cX10_init 97 = .ok (.invokestatic 63, 3) := oc_184 (a := 0) (b := 63) (by decide +kernel)
theorem dX10_init_100 : decode cX10_init 100 = .ok (.return_, 1) := oc_177 (by decide +kernel)
theorem dX5_init_0 : decode cX5_init 0 = .ok (.aload_n 0, 1) := oc_42 (by decide +kernel)
theorem tw_141 : Cond.methodLink RX5 3 objectInit ∈ wsL_law := sg_6 _ (List.mem_of_getElem? (i := 21) rfl)
theorem dX5_init_1 : decode cX5_init 1 = .ok (.invokespecial 3, 3) := oc_183 (a := 0) (b := 3) (by decide +kernel)
theorem dX5_init_4 : decode cX5_init 4 = .ok (.aload_n 0, 1) := oc_42 (by decide +kernel)
theorem dX5_init_5 : decode cX5_init 5 = .ok (.iconst 5, 1) := oc_8 (by decide +kernel)
theorem dX5_init_6 : decode cX5_init 6 = .ok (.newarray .int, 2) := by decide +kernel
theorem dX5_init_8 : decode cX5_init 8 = .ok (.putfield 9, 3) := oc_181 (a := 0) (b := 9) (by decide +kernel)
theorem dX5_init_11 : decode cX5_init 11 = .ok (.aload_n 0, 1) := oc_42 (by decide +kernel)
theorem dX5_init_12 : decode cX5_init 12 = .ok (.iconst 5, 1) := oc_8 (by decide +kernel)
theorem dX5_init_13 : decode cX5_init 13 = .ok (.newarray .int, 2) := by decide +kernel
theorem dX5_init_15 : decode cX5_init 15 = .ok (.putfield 15, 3) := oc_181 (a := 0) (b := 15) (by decide +kernel)
theorem dX5_init_18 : decode cX5_init 18 = .ok (.aload_n 0, 1) := oc_42 (by decide +kernel)
theorem dX5_init_19 : decode cX5_init 19 = .ok (.bipush 40, 2) := oc_16 (a := 40) (by decide +kernel)
theorem dX5_init_21 : decode cX5_init 21 = .ok (.newarray .int, 2) := by decide +kernel
theorem dX5_init_23 : decode cX5_init 23 = .ok (.putfield 18, 3) := oc_181 (a := 0) (b := 18) (by decide +kernel)
theorem dX5_init_26 : decode cX5_init 26 = .ok (.aload_n 0, 1) := oc_42 (by decide +kernel)
theorem dX5_init_27 : decode cX5_init 27 = .ok (.bipush 12, 2) := oc_16 (a := 12) (by decide +kernel)
theorem dX5_init_29 : decode cX5_init 29 = .ok (.newarray .long, 2) := by decide +kernel
theorem dX5_init_31 : decode cX5_init 31 = .ok (.putfield 21, 3) := oc_181 (a := 0) (b := 21) (by decide +kernel)
theorem dX5_init_34 : decode cX5_init 34 = .ok (.aload_n 0, 1) := oc_42 (by decide +kernel)
theorem dX5_init_35 : decode cX5_init 35 = .ok (.bipush 60, 2) := oc_16 (a := 60) (by decide +kernel)
theorem dX5_init_37 : decode cX5_init 37 = .ok (.newarray .int, 2) := by decide +kernel
theorem dX5_init_39 : decode cX5_init 39 = .ok (.putfield 25, 3) := oc_181 (a := 0) (b := 25) (by decide +kernel)
theorem dX5_init_42 : decode cX5_init 42 = .ok (.aload_n 0, 1) := oc_42 (by decide +kernel)
theorem dX5_init_43 : decode cX5_init 43 = .ok (.bipush 12, 2) := oc_16 (a := 12) (by decide +kernel)
theorem dX5_init_45 : decode cX5_init 45 = .ok (.newarray .long, 2) := by decide +kernel
theorem dX5_init_47 : decode cX5_init 47 = .ok (.putfield 28, 3) := oc_181 (a := 0) (b := 28) (by decide +kernel)
theorem dX5_init_50 : decode cX5_init 50 = .ok (.return_, 1) := oc_177 (by decide +kernel)
theorem dX6_init_0 : decode cX6_init 0 = .ok (.aload_n 0, 1) := oc_42 (by decide +kernel)
theorem tw_164 : Cond.methodLink RX6 3 objectInit ∈ wsL_law := sg_7 _ (List.mem_of_getElem? (i := 20) rfl)
theorem dX6_init_1 : decode cX6_init 1 = .ok (.invokespecial 3, 3) := oc_183 (a := 0) (b := 3) (by decide +kernel)
theorem dX6_init_4 : decode cX6_init 4 = .ok (.aload_n 0, 1) := oc_42 (by decide +kernel)
theorem dX6_init_5 : decode cX6_init 5 = .ok (.sipush 300, 3) := oc_17 (a := 1) (b := 44) (by decide +kernel)
theorem dX6_init_8 : decode cX6_init 8 = .ok (.newarray .int, 2) := by decide +kernel
theorem dX6_init_10 : decode cX6_init 10 = .ok (.putfield 9, 3) := oc_181 (a := 0) (b := 9) (by decide +kernel)
theorem dX6_init_13 : decode cX6_init 13 = .ok (.return_, 1) := oc_177 (by decide +kernel)
theorem dX4_init_0 : decode cX4_init 0 = .ok (.aload_n 0, 1) := oc_42 (by decide +kernel)
theorem tw_150 : Cond.methodLink RX4 3 objectInit ∈ wsL_law := sg_7 _ (List.mem_of_getElem? (i := 6) rfl)
theorem dX4_init_1 : decode cX4_init 1 = .ok (.invokespecial 3, 3) := oc_183 (a := 0) (b := 3) (by decide +kernel)
theorem dX4_init_4 : decode cX4_init 4 = .ok (.aload_n 0, 1) := oc_42 (by decide +kernel)
theorem tw_151 : Cond.classLink RX4 9 RX6 ∈ wsL_law := sg_7 _ (List.mem_of_getElem? (i := 7) rfl)
theorem dX4_init_5 : decode cX4_init 5 = .ok (.new 9, 3) := oc_187 (a := 0) (b := 9) (by decide +kernel)
theorem dX4_init_8 : decode cX4_init 8 = .ok (.dup, 1) := oc_89 (by decide +kernel)
theorem tw_163 : Cond.code yX6_init cX6_init 1 none ∈ wsL_law := sg_7 _ (List.mem_of_getElem? (i := 19) rfl)
theorem dX4_init_9 : decode cX4_init 9 = .ok (.invokespecial 11, 3) := oc_183 (a := 0) (b := 11) (by decide +kernel)
theorem dX4_init_12 : decode cX4_init 12 = .ok (.putfield 12, 3) := oc_181 (a := 0) (b := 12) (by decide +kernel)
theorem dX4_init_15 : decode cX4_init 15 = .ok (.aload_n 0, 1) := oc_42 (by decide +kernel)
theorem dX4_init_16 : decode cX4_init 16 = .ok (.iconst (-1), 1) := oc_2 (by decide +kernel)
theorem dX4_init_17 : decode cX4_init 17 = .ok (.putfield 18, 3) := oc_181 (a := 0) (b := 18) (by decide +kernel)
theorem dX4_init_20 : decode cX4_init 20 = .ok (.aload_n 0, 1) := oc_42 (by decide +kernel)
theorem dX4_init_21 : decode cX4_init 21 = .ok (.iconst (-1), 1) := oc_2 (by decide +kernel)
theorem dX4_init_22 : decode cX4_init 22 = .ok (.putfield 22, 3) := oc_181 (a := 0) (b := 22) (by decide +kernel)
theorem dX4_init_25 : decode cX4_init 25 = .ok (.aload_n 0, 1) := oc_42 (by decide +kernel)
theorem dX4_init_26 : decode cX4_init 26 = .ok (.new 25, 3) := oc_187 (a := 0) (b := 25) (by decide +kernel)
theorem dX4_init_29 : decode cX4_init 29 = .ok (.dup, 1) := oc_89 (by decide +kernel)
theorem dX4_init_30 : decode cX4_init 30 = .ok (.invokespecial 27, 3) := oc_183 (a := 0) (b := 27) (by decide +kernel)
theorem dX4_init_33 : decode cX4_init 33 = .ok (.putfield 28, 3) := oc_181 (a := 0) (b := 28) (by decide +kernel)
theorem dX4_init_36 : decode cX4_init 36 = .ok (.aload_n 0, 1) := oc_42 (by decide +kernel)
theorem dX4_init_37 : decode cX4_init 37 = .ok (.bipush 40, 2) := oc_16 (a := 40) (by decide +kernel)
theorem dX4_init_39 : decode cX4_init 39 = .ok (.newarray .int, 2) := by decide +kernel
theorem dX4_init_41 : decode cX4_init 41 = .ok (.putfield 32, 3) := oc_181 (a := 0) (b := 32) (by decide +kernel)
theorem dX4_init_44 : decode cX4_init 44 = .ok (.return_, 1) := oc_177 (by decide +kernel)
theorem dX11_init_0 : decode cX11_init 0 = .ok (.aload_n 0, 1) := oc_42 (by decide +kernel)
theorem tw_10 : Cond.methodLink RX11 1 objectInit ∈ wsL_law := sg_1 _ (List.mem_of_getElem? (i := 10) rfl)
theorem dX11_init_1 : decode cX11_init 1 = .ok (.invokespecial 1, 3) := oc_183 (a := 0) (b := 1) (by decide +kernel)
theorem dX11_init_4 : decode cX11_init 4 = .ok (.aload_n 0, 1) := oc_42 (by decide +kernel)
theorem tw_13 : Cond.classLink RX11 7 RX10 ∈ wsL_law := sg_1 _ (List.mem_of_getElem? (i := 13) rfl)
theorem dX11_init_5 : decode cX11_init 5 = .ok (.new 7, 3) := oc_187 (a := 0) (b := 7) (by decide +kernel)
theorem dX11_init_8 : decode cX11_init 8 = .ok (.dup, 1) := oc_89 (by decide +kernel)
theorem tw_29 : Cond.code yX10_init cX10_init 1 none ∈ wsL_law := sg_2 _ (List.mem_of_getElem? (i := 5) rfl)
theorem tw_27 : Cond.methodLink RX11 9 yX10_init ∈ wsL_law := sg_2 _ (List.mem_of_getElem? (i := 3) rfl)
theorem tw_28 : Cond.instanceMethod yX10_init ∈ wsL_law := sg_2 _ (List.mem_of_getElem? (i := 4) rfl)
theorem dX11_init_9 : decode cX11_init 9 = .ok (.invokespecial 9, 3) := oc_183 (a := 0) (b := 9) (by decide +kernel)
theorem dX11_init_12 : decode cX11_init 12 = .ok (.putfield 10, 3) := oc_181 (a := 0) (b := 10) (by decide +kernel)
theorem dX11_init_15 : decode cX11_init 15 = .ok (.aload_n 0, 1) := oc_42 (by decide +kernel)
theorem dX11_init_16 : decode cX11_init 16 = .ok (.new 7, 3) := oc_187 (a := 0) (b := 7) (by decide +kernel)
theorem dX11_init_19 : decode cX11_init 19 = .ok (.dup, 1) := oc_89 (by decide +kernel)
theorem dX11_init_20 : decode cX11_init 20 = .ok (.invokespecial 9, 3) := oc_183 (a := 0) (b := 9) (by decide +kernel)
theorem dX11_init_23 : decode cX11_init 23 = .ok (.putfield 16, 3) := oc_181 (a := 0) (b := 16) (by decide +kernel)
theorem dX11_init_26 : decode cX11_init 26 = .ok (.aload_n 0, 1) := oc_42 (by decide +kernel)
theorem dX11_init_27 : decode cX11_init 27 = .ok (.new 7, 3) := oc_187 (a := 0) (b := 7) (by decide +kernel)
theorem dX11_init_30 : decode cX11_init 30 = .ok (.dup, 1) := oc_89 (by decide +kernel)
theorem dX11_init_31 : decode cX11_init 31 = .ok (.invokespecial 9, 3) := oc_183 (a := 0) (b := 9) (by decide +kernel)
theorem dX11_init_34 : decode cX11_init 34 = .ok (.putfield 19, 3) := oc_181 (a := 0) (b := 19) (by decide +kernel)
theorem dX11_init_37 : decode cX11_init 37 = .ok (.aload_n 0, 1) := oc_42 (by decide +kernel)
theorem tw_19 : Cond.classLink RX11 22 RX5 ∈ wsL_law := sg_1 _ (List.mem_of_getElem? (i := 19) rfl)
theorem dX11_init_38 : decode cX11_init 38 = .ok (.new 22, 3) := oc_187 (a := 0) (b := 22) (by decide +kernel)
theorem dX11_init_41 : decode cX11_init 41 = .ok (.dup, 1) := oc_89 (by decide +kernel)
theorem tw_140 : Cond.code yX5_init cX5_init 1 none ∈ wsL_law := sg_6 _ (List.mem_of_getElem? (i := 20) rfl)
theorem dX11_init_42 : decode cX11_init 42 = .ok (.invokespecial 24, 3) := oc_183 (a := 0) (b := 24) (by decide +kernel)
theorem dX11_init_45 : decode cX11_init 45 = .ok (.putfield 25, 3) := oc_181 (a := 0) (b := 25) (by decide +kernel)
theorem dX11_init_48 : decode cX11_init 48 = .ok (.aload_n 0, 1) := oc_42 (by decide +kernel)
theorem tw_23 : Cond.classLink RX11 29 RX4 ∈ wsL_law := sg_1 _ (List.mem_of_getElem? (i := 23) rfl)
theorem dX11_init_49 : decode cX11_init 49 = .ok (.new 29, 3) := oc_187 (a := 0) (b := 29) (by decide +kernel)
theorem dX11_init_52 : decode cX11_init 52 = .ok (.dup, 1) := oc_89 (by decide +kernel)
theorem tw_149 : Cond.code yX4_init cX4_init 1 none ∈ wsL_law := sg_7 _ (List.mem_of_getElem? (i := 5) rfl)
theorem dX11_init_53 : decode cX11_init 53 = .ok (.invokespecial 31, 3) := oc_183 (a := 0) (b := 31) (by decide +kernel)
theorem dX11_init_56 : decode cX11_init 56 = .ok (.putfield 32, 3) := oc_181 (a := 0) (b := 32) (by decide +kernel)
theorem dX11_init_59 : decode cX11_init 59 = .ok (.return_, 1) := oc_177 (by decide +kernel)
set_option maxHeartbeats 8000000 in
set_option maxRecDepth 100000 in
theorem s_X9_init (l : Launch) (D : va_G) (t : pq_T) (σ : pq_S) (I : Nat → Nat → Int32) (J : Nat → Nat → Int64) (ri : Nat → Nat → Int32) (rj : Nat → Nat → Int64) (rq : Nat → Nat → Option Nat) (sz : Nat) (this : Nat) (h0 : σ = pq_T1 this 9) (hI0 : I = (fun _ _ => 0)) (hr0 : ri = (fun _ _ => 0)) (hq0 : rq = fun _ _ => none) : MetV l yX9_init (wa yX9_init cX9_init 1 none) ({ frames := 1, cells := 3, slots := 120, locals := 20 }) [.ref this] D t σ (I, J, ri, rj, rq) sz 3 120 (fun (u : pq_S × pq_M) => ∃ (σ' : pq_S) (I' : Nat → Nat → Int32) (J' : Nat → Nat → Int64) (ri' : Nat → Nat → Int32) (rj' : Nat → Nat → Int64) (rq' : Nat → Nat → Option Nat) (tg' : Nat → Nat), u = (σ', I', J', ri', rj', rq') ∧ DN σ' tg' I' ri' rq' ∧ this ∈ σ'.1 ∧ σ'.2.1 this = 9 ∧ NR σ' this ∧ PXa σ' I' ri') := by
  refine Met.ofW (cc := cX9_init) (maxL := 1) (ret := none) (by decide +kernel) rfl ?_
  intro p e s m args below meth c s₁ B hml hv
  obtain ⟨rfl, hsz, hP, hK, hD0, hN⟩ := hv
  have hx := B.exec
  have hb := B.bytes
  have hr := B.returns
  have hts := atoms_spec (ws := (wa yX9_init cX9_init 1 none)) B.pre
  have hown : s.vm.findClass RX9 = some m.cls := findClass_of_methodNamed B.named
  have hlocks := B.notSynchronized
  have hin : meth.name = "<init>" := (name_of_methodNamed B.named B.method).1
  subst hsz
  have hD : va_D (pq_B t σ (I, J, ri, rj, rq) s.heap.size) (pq_P t σ (I, J, ri, rj, rq)) := hD0.self
  generalize hAe : pq_B t σ (I, J, ri, rj, rq) s.heap.size = A at hD ⊢
  have hA : ∀ q : Nat, s.heap.size ≤ q → A q := fun q h => by rw [← hAe]; exact Or.inr h
  have hS : va_S A s.heap s.heap [] := va_S.rf
  have hl := lv_entry ([.ref this]) (n := 1) (Nat.le_of_ble_eq_true rfl)
  rw [lg_entry_eq]
  generalize (lg_sl ([.ref this]) ++ List.replicate (1 - (lg_sl ([.ref this])).length) Slot.unset).toArray = ls at hl ⊢
  have hl : lv_has ls 1 [(0, .ref this)] := hl
  have hL_this : this ∈ σ.1 := by rw [h0]; exact List.mem_singleton.mpr rfl
  have hK_this : σ.2.1 this = 9 := by rw [h0]; rfl
  obtain ⟨tg, hCI⟩ : ∃ tg, CI σ tg this 9 [] I ri rq := ⟨_, by rw [h0, hI0, hr0, hq0]; exact CI_0 this 9⟩
  have hPX : PXe σ I ri this := PXe_0 (h0 := h0)
  refine lv_aload_n hx hb dX9_init_0 rfl (lv_at hl 0 rfl) ?_
  refine W.objInit hx hb hown (hts _ (tw_c tw_103)) (hts _ (tw_c tw_11)) (hts _ (tw_c tw_12)) rfl (by rw [hml]; exact hl.1) rfl dX9_init_1 (Nat.le_of_ble_eq_true rfl) (Nat.le_of_ble_eq_true rfl) ?_
  refine W.eq (g2 := F0 m 4 ls []) rfl ?_
  refine lv_aload_n hx hb dX9_init_4 rfl (lv_at hl 0 rfl) ?_
  refine lv_bipush (v := 40) hx hb dX9_init_5 (by decide +kernel) ?_
  refine nw_i (N' := 40) hx hb (hts _ (tw_c tw_33)) hK hP hD hS hA (by decide +kernel) (by decide +kernel) (Nat.le_of_ble_eq_true rfl) (Nat.le_of_ble_eq_true rfl) (Nat.le_of_ble_eq_true rfl) dX9_init_7 (fun q_1 r_3 H hq_2 er_3 hP hD hS => ?_)
  refine pr_F (q := q_1) (C := RX9) (T := TX9) (N := 3) hx hb hts (tw_i inlX9) tyX9 tyX9_ok nmX9 hown hK hP hD hS (As_in hL_this) (As_kk hq_2 hL_this hK_this) (by decide +kernel) rfl 0 288 (by decide +kernel) (hts _ (tw_c tw_104)) rfl hin rfl (tyX9_ok 0 (by decide +kernel)) rfl rfl (Nat.le_of_ble_eq_true rfl) (pr_288 _ _ _ _ _) dX9_init_9 (fun σ_4 H locs hp_5 hP hD hS => ?_)
  have hs_z1 := As_of hq_2 hp_5
  have hPX : PXe σ_4 I r_3 this := PXe_as hPX hCI hs_z1 (by decide +kernel) (Or.inl er_3)
  obtain ⟨tg, hCI⟩ : ∃ tg, CI σ_4 tg this 9 [288] I r_3 rq := ⟨_, CI_as hCI hs_z1 rfl (by decide +kernel) (Or.inl er_3) (Or.inl rfl) (by decide +kernel)⟩
  have hL_this := hCI.1.1
  have hK_this := hCI.1.2
  refine lv_aload_n hx hb dX9_init_12 rfl (lv_at hl 0 rfl) ?_
  refine lv_bipush (v := 40) hx hb dX9_init_13 (by decide +kernel) ?_
  refine nw_i (N' := 40) hx hb (hts _ (tw_c tw_33)) hK hP hD hS hA (by decide +kernel) (by decide +kernel) (Nat.le_of_ble_eq_true rfl) (Nat.le_of_ble_eq_true rfl) (Nat.le_of_ble_eq_true rfl) dX9_init_15 (fun q_8 r_10 H hq_9 er_10 hP hD hS => ?_)
  refine pr_F (q := q_8) (C := RX9) (T := TX9) (N := 3) hx hb hts (tw_i inlX9) tyX9 tyX9_ok nmX9 hown hK hP hD hS (As_in hL_this) (As_kk hq_9 hL_this hK_this) (by decide +kernel) rfl 1 289 (by decide +kernel) (hts _ (tw_c tw_105)) rfl hin rfl (tyX9_ok 1 (by decide +kernel)) rfl rfl (Nat.le_of_ble_eq_true rfl) (pr_289 _ _ _ _ _) dX9_init_17 (fun σ_11 H locs hp_12 hP hD hS => ?_)
  have hs_z2 := As_of hq_9 hp_12
  have hPX : PXe σ_11 I r_10 this := PXe_as hPX hCI hs_z2 (by decide +kernel) (Or.inl er_10)
  obtain ⟨tg, hCI⟩ : ∃ tg, CI σ_11 tg this 9 [289, 288] I r_10 rq := ⟨_, CI_as hCI hs_z2 rfl (by decide +kernel) (Or.inl er_10) (Or.inl rfl) (by decide +kernel)⟩
  have hL_this := hCI.1.1
  have hK_this := hCI.1.2
  refine lv_aload_n hx hb dX9_init_20 rfl (lv_at hl 0 rfl) ?_
  refine lv_bipush (v := 40) hx hb dX9_init_21 (by decide +kernel) ?_
  refine nw_i (N' := 40) hx hb (hts _ (tw_c tw_33)) hK hP hD hS hA (by decide +kernel) (by decide +kernel) (Nat.le_of_ble_eq_true rfl) (Nat.le_of_ble_eq_true rfl) (Nat.le_of_ble_eq_true rfl) dX9_init_23 (fun q_15 r_17 H hq_16 er_17 hP hD hS => ?_)
  refine pr_F (q := q_15) (C := RX9) (T := TX9) (N := 3) hx hb hts (tw_i inlX9) tyX9 tyX9_ok nmX9 hown hK hP hD hS (As_in hL_this) (As_kk hq_16 hL_this hK_this) (by decide +kernel) rfl 2 290 (by decide +kernel) (hts _ (tw_c tw_106)) rfl hin rfl (tyX9_ok 2 (by decide +kernel)) rfl rfl (Nat.le_of_ble_eq_true rfl) (pr_290 _ _ _ _ _) dX9_init_25 (fun σ_18 H locs hp_19 hP hD hS => ?_)
  have hs_z3 := As_of hq_16 hp_19
  have hPX : PXe σ_18 I r_17 this := PXe_as hPX hCI hs_z3 (by decide +kernel) (Or.inl er_17)
  obtain ⟨tg, hCI⟩ : ∃ tg, CI σ_18 tg this 9 [290, 289, 288] I r_17 rq := ⟨_, CI_as hCI hs_z3 rfl (by decide +kernel) (Or.inl er_17) (Or.inl rfl) (by decide +kernel)⟩
  have hL_this := hCI.1.1
  have hK_this := hCI.1.2
  have hDN := CI_done hCI (by decide +kernel) (by decide +kernel)
  have hPo : PXo σ_18 I r_17 this := PX_no (by rw [hK_this]; decide) (by rw [hK_this]; decide) (by rw [hK_this]; decide)
  exact W.vret hx hb hr (fun t1 ht hW => ⟨⟨(σ_18, I, J, r_17, rj, rq), rfl, ⟨σ_18, I, J, r_17, rj, rq, tg, rfl, hDN, hL_this, hK_this, hCI.2.2.2.2.2.2, PXe_all hPX hPo⟩, by rw [ht]; exact hP, va_K.moved hW.alike hK, hD⟩, hS.F ht⟩) hS.2.2 dX9_init_28

set_option maxHeartbeats 8000000 in
set_option maxRecDepth 100000 in
theorem s_X0_init (l : Launch) (D : va_G) (t : pq_T) (σ : pq_S) (I : Nat → Nat → Int32) (J : Nat → Nat → Int64) (ri : Nat → Nat → Int32) (rj : Nat → Nat → Int64) (rq : Nat → Nat → Option Nat) (sz : Nat) (this : Nat) (h0 : σ = pq_T1 this 0) (hI0 : I = (fun _ _ => 0)) (hr0 : ri = (fun _ _ => 0)) (hq0 : rq = fun _ _ => none) : MetV l yX0_init (wa yX0_init cX0_init 1 none) ({ frames := 1, cells := 14, slots := 475, locals := 20 }) [.ref this] D t σ (I, J, ri, rj, rq) sz 14 475 (fun (u : pq_S × pq_M) => ∃ (σ' : pq_S) (I' : Nat → Nat → Int32) (J' : Nat → Nat → Int64) (ri' : Nat → Nat → Int32) (rj' : Nat → Nat → Int64) (rq' : Nat → Nat → Option Nat) (tg' : Nat → Nat), u = (σ', I', J', ri', rj', rq') ∧ DN σ' tg' I' ri' rq' ∧ this ∈ σ'.1 ∧ σ'.2.1 this = 0 ∧ NR σ' this ∧ PXa σ' I' ri') := by
  refine Met.ofW (cc := cX0_init) (maxL := 1) (ret := none) (by decide +kernel) rfl ?_
  intro p e s m args below meth c s₁ B hml hv
  obtain ⟨rfl, hsz, hP, hK, hD0, hN⟩ := hv
  have hx := B.exec
  have hb := B.bytes
  have hr := B.returns
  have hts := atoms_spec (ws := (wa yX0_init cX0_init 1 none)) B.pre
  have hown : s.vm.findClass RX0 = some m.cls := findClass_of_methodNamed B.named
  have hlocks := B.notSynchronized
  have hin : meth.name = "<init>" := (name_of_methodNamed B.named B.method).1
  subst hsz
  have hD : va_D (pq_B t σ (I, J, ri, rj, rq) s.heap.size) (pq_P t σ (I, J, ri, rj, rq)) := hD0.self
  generalize hAe : pq_B t σ (I, J, ri, rj, rq) s.heap.size = A at hD ⊢
  have hA : ∀ q : Nat, s.heap.size ≤ q → A q := fun q h => by rw [← hAe]; exact Or.inr h
  have hS : va_S A s.heap s.heap [] := va_S.rf
  have hl := lv_entry ([.ref this]) (n := 1) (Nat.le_of_ble_eq_true rfl)
  rw [lg_entry_eq]
  generalize (lg_sl ([.ref this]) ++ List.replicate (1 - (lg_sl ([.ref this])).length) Slot.unset).toArray = ls at hl ⊢
  have hl : lv_has ls 1 [(0, .ref this)] := hl
  have hL_this : this ∈ σ.1 := by rw [h0]; exact List.mem_singleton.mpr rfl
  have hK_this : σ.2.1 this = 0 := by rw [h0]; rfl
  obtain ⟨tg, hCI⟩ : ∃ tg, CI σ tg this 0 [] I ri rq := ⟨_, by rw [h0, hI0, hr0, hq0]; exact CI_0 this 0⟩
  have hPX : PXe σ I ri this := PXe_0 (h0 := h0)
  refine lv_aload_n hx hb dX0_init_0 rfl (lv_at hl 0 rfl) ?_
  refine W.objInit hx hb hown (hts _ (tw_c tw_109)) (hts _ (tw_c tw_11)) (hts _ (tw_c tw_12)) rfl (by rw [hml]; exact hl.1) rfl dX0_init_1 (Nat.le_of_ble_eq_true rfl) (Nat.le_of_ble_eq_true rfl) ?_
  refine W.eq (g2 := F0 m 4 ls []) rfl ?_
  refine lv_aload_n hx hb dX0_init_4 rfl (lv_at hl 0 rfl) ?_
  refine lv_bipush (v := 40) hx hb dX0_init_5 (by decide +kernel) ?_
  refine nw_i (N' := 40) hx hb (hts _ (tw_c tw_33)) hK hP hD hS hA (by decide +kernel) (by decide +kernel) (Nat.le_of_ble_eq_true rfl) (Nat.le_of_ble_eq_true rfl) (Nat.le_of_ble_eq_true rfl) dX0_init_7 (fun q_1 r_3 H hq_2 er_3 hP hD hS => ?_)
  refine pr_F (q := q_1) (C := RX0) (T := TX0) (N := 16) hx hb hts (tw_i inlX0) tyX0 tyX0_ok nmX0 hown hK hP hD hS (As_in hL_this) (As_kk hq_2 hL_this hK_this) (by decide +kernel) rfl 1 1 (by decide +kernel) (hts _ (tw_c tw_110)) rfl hin rfl (tyX0_ok 1 (by decide +kernel)) rfl rfl (Nat.le_of_ble_eq_true rfl) (pr_1 _ _ _ _ _) dX0_init_9 (fun σ_4 H locs hp_5 hP hD hS => ?_)
  have hs_z1 := As_of hq_2 hp_5
  have hPX : PXe σ_4 I r_3 this := PXe_as hPX hCI hs_z1 (by decide +kernel) (Or.inl er_3)
  obtain ⟨tg, hCI⟩ : ∃ tg, CI σ_4 tg this 0 [1] I r_3 rq := ⟨_, CI_as hCI hs_z1 rfl (by decide +kernel) (Or.inl er_3) (Or.inl rfl) (by decide +kernel)⟩
  have hL_this := hCI.1.1
  have hK_this := hCI.1.2
  refine lv_aload_n hx hb dX0_init_12 rfl (lv_at hl 0 rfl) ?_
  refine lv_bipush (v := 40) hx hb dX0_init_13 (by decide +kernel) ?_
  refine nw_i (N' := 40) hx hb (hts _ (tw_c tw_33)) hK hP hD hS hA (by decide +kernel) (by decide +kernel) (Nat.le_of_ble_eq_true rfl) (Nat.le_of_ble_eq_true rfl) (Nat.le_of_ble_eq_true rfl) dX0_init_15 (fun q_8 r_10 H hq_9 er_10 hP hD hS => ?_)
  refine pr_F (q := q_8) (C := RX0) (T := TX0) (N := 16) hx hb hts (tw_i inlX0) tyX0 tyX0_ok nmX0 hown hK hP hD hS (As_in hL_this) (As_kk hq_9 hL_this hK_this) (by decide +kernel) rfl 2 2 (by decide +kernel) (hts _ (tw_c tw_111)) rfl hin rfl (tyX0_ok 2 (by decide +kernel)) rfl rfl (Nat.le_of_ble_eq_true rfl) (pr_2 _ _ _ _ _) dX0_init_17 (fun σ_11 H locs hp_12 hP hD hS => ?_)
  have hs_z2 := As_of hq_9 hp_12
  have hPX : PXe σ_11 I r_10 this := PXe_as hPX hCI hs_z2 (by decide +kernel) (Or.inl er_10)
  obtain ⟨tg, hCI⟩ : ∃ tg, CI σ_11 tg this 0 [2, 1] I r_10 rq := ⟨_, CI_as hCI hs_z2 rfl (by decide +kernel) (Or.inl er_10) (Or.inl rfl) (by decide +kernel)⟩
  have hL_this := hCI.1.1
  have hK_this := hCI.1.2
  refine lv_aload_n hx hb dX0_init_20 rfl (lv_at hl 0 rfl) ?_
  refine lv_bipush (v := 40) hx hb dX0_init_21 (by decide +kernel) ?_
  refine nw_i (N' := 40) hx hb (hts _ (tw_c tw_33)) hK hP hD hS hA (by decide +kernel) (by decide +kernel) (Nat.le_of_ble_eq_true rfl) (Nat.le_of_ble_eq_true rfl) (Nat.le_of_ble_eq_true rfl) dX0_init_23 (fun q_15 r_17 H hq_16 er_17 hP hD hS => ?_)
  refine pr_F (q := q_15) (C := RX0) (T := TX0) (N := 16) hx hb hts (tw_i inlX0) tyX0 tyX0_ok nmX0 hown hK hP hD hS (As_in hL_this) (As_kk hq_16 hL_this hK_this) (by decide +kernel) rfl 3 3 (by decide +kernel) (hts _ (tw_c tw_112)) rfl hin rfl (tyX0_ok 3 (by decide +kernel)) rfl rfl (Nat.le_of_ble_eq_true rfl) (pr_3 _ _ _ _ _) dX0_init_25 (fun σ_18 H locs hp_19 hP hD hS => ?_)
  have hs_z3 := As_of hq_16 hp_19
  have hPX : PXe σ_18 I r_17 this := PXe_as hPX hCI hs_z3 (by decide +kernel) (Or.inl er_17)
  obtain ⟨tg, hCI⟩ : ∃ tg, CI σ_18 tg this 0 [3, 2, 1] I r_17 rq := ⟨_, CI_as hCI hs_z3 rfl (by decide +kernel) (Or.inl er_17) (Or.inl rfl) (by decide +kernel)⟩
  have hL_this := hCI.1.1
  have hK_this := hCI.1.2
  refine lv_aload_n hx hb dX0_init_28 rfl (lv_at hl 0 rfl) ?_
  refine lv_bipush (v := 40) hx hb dX0_init_29 (by decide +kernel) ?_
  refine nw_i (N' := 40) hx hb (hts _ (tw_c tw_33)) hK hP hD hS hA (by decide +kernel) (by decide +kernel) (Nat.le_of_ble_eq_true rfl) (Nat.le_of_ble_eq_true rfl) (Nat.le_of_ble_eq_true rfl) dX0_init_31 (fun q_22 r_24 H hq_23 er_24 hP hD hS => ?_)
  refine pr_F (q := q_22) (C := RX0) (T := TX0) (N := 16) hx hb hts (tw_i inlX0) tyX0 tyX0_ok nmX0 hown hK hP hD hS (As_in hL_this) (As_kk hq_23 hL_this hK_this) (by decide +kernel) rfl 4 4 (by decide +kernel) (hts _ (tw_c tw_113)) rfl hin rfl (tyX0_ok 4 (by decide +kernel)) rfl rfl (Nat.le_of_ble_eq_true rfl) (pr_4 _ _ _ _ _) dX0_init_33 (fun σ_25 H locs hp_26 hP hD hS => ?_)
  have hs_z4 := As_of hq_23 hp_26
  have hPX : PXe σ_25 I r_24 this := PXe_as hPX hCI hs_z4 (by decide +kernel) (Or.inl er_24)
  obtain ⟨tg, hCI⟩ : ∃ tg, CI σ_25 tg this 0 [4, 3, 2, 1] I r_24 rq := ⟨_, CI_as hCI hs_z4 rfl (by decide +kernel) (Or.inl er_24) (Or.inl rfl) (by decide +kernel)⟩
  have hL_this := hCI.1.1
  have hK_this := hCI.1.2
  refine lv_aload_n hx hb dX0_init_36 rfl (lv_at hl 0 rfl) ?_
  refine lv_bipush (v := 40) hx hb dX0_init_37 (by decide +kernel) ?_
  refine nw_i (N' := 40) hx hb (hts _ (tw_c tw_33)) hK hP hD hS hA (by decide +kernel) (by decide +kernel) (Nat.le_of_ble_eq_true rfl) (Nat.le_of_ble_eq_true rfl) (Nat.le_of_ble_eq_true rfl) dX0_init_39 (fun q_29 r_31 H hq_30 er_31 hP hD hS => ?_)
  refine pr_F (q := q_29) (C := RX0) (T := TX0) (N := 16) hx hb hts (tw_i inlX0) tyX0 tyX0_ok nmX0 hown hK hP hD hS (As_in hL_this) (As_kk hq_30 hL_this hK_this) (by decide +kernel) rfl 5 5 (by decide +kernel) (hts _ (tw_c tw_114)) rfl hin rfl (tyX0_ok 5 (by decide +kernel)) rfl rfl (Nat.le_of_ble_eq_true rfl) (pr_5 _ _ _ _ _) dX0_init_41 (fun σ_32 H locs hp_33 hP hD hS => ?_)
  have hs_z5 := As_of hq_30 hp_33
  have hPX : PXe σ_32 I r_31 this := PXe_as hPX hCI hs_z5 (by decide +kernel) (Or.inl er_31)
  obtain ⟨tg, hCI⟩ : ∃ tg, CI σ_32 tg this 0 [5, 4, 3, 2, 1] I r_31 rq := ⟨_, CI_as hCI hs_z5 rfl (by decide +kernel) (Or.inl er_31) (Or.inl rfl) (by decide +kernel)⟩
  have hL_this := hCI.1.1
  have hK_this := hCI.1.2
  refine lv_aload_n hx hb dX0_init_44 rfl (lv_at hl 0 rfl) ?_
  refine lv_bipush (v := 40) hx hb dX0_init_45 (by decide +kernel) ?_
  refine nw_i (N' := 40) hx hb (hts _ (tw_c tw_33)) hK hP hD hS hA (by decide +kernel) (by decide +kernel) (Nat.le_of_ble_eq_true rfl) (Nat.le_of_ble_eq_true rfl) (Nat.le_of_ble_eq_true rfl) dX0_init_47 (fun q_36 r_38 H hq_37 er_38 hP hD hS => ?_)
  refine pr_F (q := q_36) (C := RX0) (T := TX0) (N := 16) hx hb hts (tw_i inlX0) tyX0 tyX0_ok nmX0 hown hK hP hD hS (As_in hL_this) (As_kk hq_37 hL_this hK_this) (by decide +kernel) rfl 6 6 (by decide +kernel) (hts _ (tw_c tw_115)) rfl hin rfl (tyX0_ok 6 (by decide +kernel)) rfl rfl (Nat.le_of_ble_eq_true rfl) (pr_6 _ _ _ _ _) dX0_init_49 (fun σ_39 H locs hp_40 hP hD hS => ?_)
  have hs_z6 := As_of hq_37 hp_40
  have hPX : PXe σ_39 I r_38 this := PXe_as hPX hCI hs_z6 (by decide +kernel) (Or.inl er_38)
  obtain ⟨tg, hCI⟩ : ∃ tg, CI σ_39 tg this 0 [6, 5, 4, 3, 2, 1] I r_38 rq := ⟨_, CI_as hCI hs_z6 rfl (by decide +kernel) (Or.inl er_38) (Or.inl rfl) (by decide +kernel)⟩
  have hL_this := hCI.1.1
  have hK_this := hCI.1.2
  refine lv_aload_n hx hb dX0_init_52 rfl (lv_at hl 0 rfl) ?_
  refine lv_bipush (v := 40) hx hb dX0_init_53 (by decide +kernel) ?_
  refine nw_i (N' := 40) hx hb (hts _ (tw_c tw_33)) hK hP hD hS hA (by decide +kernel) (by decide +kernel) (Nat.le_of_ble_eq_true rfl) (Nat.le_of_ble_eq_true rfl) (Nat.le_of_ble_eq_true rfl) dX0_init_55 (fun q_43 r_45 H hq_44 er_45 hP hD hS => ?_)
  refine pr_F (q := q_43) (C := RX0) (T := TX0) (N := 16) hx hb hts (tw_i inlX0) tyX0 tyX0_ok nmX0 hown hK hP hD hS (As_in hL_this) (As_kk hq_44 hL_this hK_this) (by decide +kernel) rfl 7 7 (by decide +kernel) (hts _ (tw_c tw_116)) rfl hin rfl (tyX0_ok 7 (by decide +kernel)) rfl rfl (Nat.le_of_ble_eq_true rfl) (pr_7 _ _ _ _ _) dX0_init_57 (fun σ_46 H locs hp_47 hP hD hS => ?_)
  have hs_z7 := As_of hq_44 hp_47
  have hPX : PXe σ_46 I r_45 this := PXe_as hPX hCI hs_z7 (by decide +kernel) (Or.inl er_45)
  obtain ⟨tg, hCI⟩ : ∃ tg, CI σ_46 tg this 0 [7, 6, 5, 4, 3, 2, 1] I r_45 rq := ⟨_, CI_as hCI hs_z7 rfl (by decide +kernel) (Or.inl er_45) (Or.inl rfl) (by decide +kernel)⟩
  have hL_this := hCI.1.1
  have hK_this := hCI.1.2
  refine lv_aload_n hx hb dX0_init_60 rfl (lv_at hl 0 rfl) ?_
  refine lv_bipush (v := 40) hx hb dX0_init_61 (by decide +kernel) ?_
  refine nw_i (N' := 40) hx hb (hts _ (tw_c tw_33)) hK hP hD hS hA (by decide +kernel) (by decide +kernel) (Nat.le_of_ble_eq_true rfl) (Nat.le_of_ble_eq_true rfl) (Nat.le_of_ble_eq_true rfl) dX0_init_63 (fun q_50 r_52 H hq_51 er_52 hP hD hS => ?_)
  refine pr_F (q := q_50) (C := RX0) (T := TX0) (N := 16) hx hb hts (tw_i inlX0) tyX0 tyX0_ok nmX0 hown hK hP hD hS (As_in hL_this) (As_kk hq_51 hL_this hK_this) (by decide +kernel) rfl 8 8 (by decide +kernel) (hts _ (tw_c tw_117)) rfl hin rfl (tyX0_ok 8 (by decide +kernel)) rfl rfl (Nat.le_of_ble_eq_true rfl) (pr_8 _ _ _ _ _) dX0_init_65 (fun σ_53 H locs hp_54 hP hD hS => ?_)
  have hs_z8 := As_of hq_51 hp_54
  have hPX : PXe σ_53 I r_52 this := PXe_as hPX hCI hs_z8 (by decide +kernel) (Or.inl er_52)
  obtain ⟨tg, hCI⟩ : ∃ tg, CI σ_53 tg this 0 [8, 7, 6, 5, 4, 3, 2, 1] I r_52 rq := ⟨_, CI_as hCI hs_z8 rfl (by decide +kernel) (Or.inl er_52) (Or.inl rfl) (by decide +kernel)⟩
  have hL_this := hCI.1.1
  have hK_this := hCI.1.2
  refine lv_aload_n hx hb dX0_init_68 rfl (lv_at hl 0 rfl) ?_
  refine lv_bipush (v := 40) hx hb dX0_init_69 (by decide +kernel) ?_
  refine nw_i (N' := 40) hx hb (hts _ (tw_c tw_33)) hK hP hD hS hA (by decide +kernel) (by decide +kernel) (Nat.le_of_ble_eq_true rfl) (Nat.le_of_ble_eq_true rfl) (Nat.le_of_ble_eq_true rfl) dX0_init_71 (fun q_57 r_59 H hq_58 er_59 hP hD hS => ?_)
  refine pr_F (q := q_57) (C := RX0) (T := TX0) (N := 16) hx hb hts (tw_i inlX0) tyX0 tyX0_ok nmX0 hown hK hP hD hS (As_in hL_this) (As_kk hq_58 hL_this hK_this) (by decide +kernel) rfl 9 9 (by decide +kernel) (hts _ (tw_c tw_118)) rfl hin rfl (tyX0_ok 9 (by decide +kernel)) rfl rfl (Nat.le_of_ble_eq_true rfl) (pr_9 _ _ _ _ _) dX0_init_73 (fun σ_60 H locs hp_61 hP hD hS => ?_)
  have hs_z9 := As_of hq_58 hp_61
  have hPX : PXe σ_60 I r_59 this := PXe_as hPX hCI hs_z9 (by decide +kernel) (Or.inl er_59)
  obtain ⟨tg, hCI⟩ : ∃ tg, CI σ_60 tg this 0 [9, 8, 7, 6, 5, 4, 3, 2, 1] I r_59 rq := ⟨_, CI_as hCI hs_z9 rfl (by decide +kernel) (Or.inl er_59) (Or.inl rfl) (by decide +kernel)⟩
  have hL_this := hCI.1.1
  have hK_this := hCI.1.2
  refine lv_aload_n hx hb dX0_init_76 rfl (lv_at hl 0 rfl) ?_
  refine lv_iconst (v := 5) hx hb dX0_init_77 (by decide +kernel) ?_
  refine nw_i (N' := 5) hx hb (hts _ (tw_c tw_33)) hK hP hD hS hA (by decide +kernel) (by decide +kernel) (Nat.le_of_ble_eq_true rfl) (Nat.le_of_ble_eq_true rfl) (Nat.le_of_ble_eq_true rfl) dX0_init_78 (fun q_64 r_66 H hq_65 er_66 hP hD hS => ?_)
  refine pr_F (q := q_64) (C := RX0) (T := TX0) (N := 16) hx hb hts (tw_i inlX0) tyX0 tyX0_ok nmX0 hown hK hP hD hS (As_in hL_this) (As_kk hq_65 hL_this hK_this) (by decide +kernel) rfl 11 11 (by decide +kernel) (hts _ (tw_c tw_119)) rfl hin rfl (tyX0_ok 11 (by decide +kernel)) rfl rfl (Nat.le_of_ble_eq_true rfl) (pr_11 _ _ _ _ _) dX0_init_80 (fun σ_67 H locs hp_68 hP hD hS => ?_)
  have hs_z10 := As_of hq_65 hp_68
  have hPX : PXe σ_67 I r_66 this := PXe_as hPX hCI hs_z10 (by decide +kernel) (Or.inl er_66)
  obtain ⟨tg, hCI⟩ : ∃ tg, CI σ_67 tg this 0 [11, 9, 8, 7, 6, 5, 4, 3, 2, 1] I r_66 rq := ⟨_, CI_as hCI hs_z10 rfl (by decide +kernel) (Or.inl er_66) (Or.inl rfl) (by decide +kernel)⟩
  have hL_this := hCI.1.1
  have hK_this := hCI.1.2
  refine lv_aload_n hx hb dX0_init_83 rfl (lv_at hl 0 rfl) ?_
  refine lv_iconst (v := 5) hx hb dX0_init_84 (by decide +kernel) ?_
  refine nw_i (N' := 5) hx hb (hts _ (tw_c tw_33)) hK hP hD hS hA (by decide +kernel) (by decide +kernel) (Nat.le_of_ble_eq_true rfl) (Nat.le_of_ble_eq_true rfl) (Nat.le_of_ble_eq_true rfl) dX0_init_85 (fun q_71 r_73 H hq_72 er_73 hP hD hS => ?_)
  refine pr_F (q := q_71) (C := RX0) (T := TX0) (N := 16) hx hb hts (tw_i inlX0) tyX0 tyX0_ok nmX0 hown hK hP hD hS (As_in hL_this) (As_kk hq_72 hL_this hK_this) (by decide +kernel) rfl 12 12 (by decide +kernel) (hts _ (tw_c tw_120)) rfl hin rfl (tyX0_ok 12 (by decide +kernel)) rfl rfl (Nat.le_of_ble_eq_true rfl) (pr_12 _ _ _ _ _) dX0_init_87 (fun σ_74 H locs hp_75 hP hD hS => ?_)
  have hs_z11 := As_of hq_72 hp_75
  have hPX : PXe σ_74 I r_73 this := PXe_as hPX hCI hs_z11 (by decide +kernel) (Or.inl er_73)
  obtain ⟨tg, hCI⟩ : ∃ tg, CI σ_74 tg this 0 [12, 11, 9, 8, 7, 6, 5, 4, 3, 2, 1] I r_73 rq := ⟨_, CI_as hCI hs_z11 rfl (by decide +kernel) (Or.inl er_73) (Or.inl rfl) (by decide +kernel)⟩
  have hL_this := hCI.1.1
  have hK_this := hCI.1.2
  refine lv_aload_n hx hb dX0_init_90 rfl (lv_at hl 0 rfl) ?_
  refine lv_iconst (v := 5) hx hb dX0_init_91 (by decide +kernel) ?_
  refine nw_i (N' := 5) hx hb (hts _ (tw_c tw_33)) hK hP hD hS hA (by decide +kernel) (by decide +kernel) (Nat.le_of_ble_eq_true rfl) (Nat.le_of_ble_eq_true rfl) (Nat.le_of_ble_eq_true rfl) dX0_init_92 (fun q_78 r_80 H hq_79 er_80 hP hD hS => ?_)
  refine pr_F (q := q_78) (C := RX0) (T := TX0) (N := 16) hx hb hts (tw_i inlX0) tyX0 tyX0_ok nmX0 hown hK hP hD hS (As_in hL_this) (As_kk hq_79 hL_this hK_this) (by decide +kernel) rfl 13 13 (by decide +kernel) (hts _ (tw_c tw_121)) rfl hin rfl (tyX0_ok 13 (by decide +kernel)) rfl rfl (Nat.le_of_ble_eq_true rfl) (pr_13 _ _ _ _ _) dX0_init_94 (fun σ_81 H locs hp_82 hP hD hS => ?_)
  have hs_z12 := As_of hq_79 hp_82
  have hPX : PXe σ_81 I r_80 this := PXe_as hPX hCI hs_z12 (by decide +kernel) (Or.inl er_80)
  obtain ⟨tg, hCI⟩ : ∃ tg, CI σ_81 tg this 0 [13, 12, 11, 9, 8, 7, 6, 5, 4, 3, 2, 1] I r_80 rq := ⟨_, CI_as hCI hs_z12 rfl (by decide +kernel) (Or.inl er_80) (Or.inl rfl) (by decide +kernel)⟩
  have hL_this := hCI.1.1
  have hK_this := hCI.1.2
  refine lv_aload_n hx hb dX0_init_97 rfl (lv_at hl 0 rfl) ?_
  refine lv_bipush (v := 50) hx hb dX0_init_98 (by decide +kernel) ?_
  refine nw_i (N' := 50) hx hb (hts _ (tw_c tw_33)) hK hP hD hS hA (by decide +kernel) (by decide +kernel) (Nat.le_of_ble_eq_true rfl) (Nat.le_of_ble_eq_true rfl) (Nat.le_of_ble_eq_true rfl) dX0_init_100 (fun q_85 r_87 H hq_86 er_87 hP hD hS => ?_)
  refine pr_F (q := q_85) (C := RX0) (T := TX0) (N := 16) hx hb hts (tw_i inlX0) tyX0 tyX0_ok nmX0 hown hK hP hD hS (As_in hL_this) (As_kk hq_86 hL_this hK_this) (by decide +kernel) rfl 14 14 (by decide +kernel) (hts _ (tw_c tw_122)) rfl hin rfl (tyX0_ok 14 (by decide +kernel)) rfl rfl (Nat.le_of_ble_eq_true rfl) (pr_14 _ _ _ _ _) dX0_init_102 (fun σ_88 H locs hp_89 hP hD hS => ?_)
  have hs_z13 := As_of hq_86 hp_89
  have hPX : PXe σ_88 I r_87 this := PXe_as hPX hCI hs_z13 (by decide +kernel) (Or.inl er_87)
  obtain ⟨tg, hCI⟩ : ∃ tg, CI σ_88 tg this 0 [14, 13, 12, 11, 9, 8, 7, 6, 5, 4, 3, 2, 1] I r_87 rq := ⟨_, CI_as hCI hs_z13 rfl (by decide +kernel) (Or.inl er_87) (Or.inl rfl) (by decide +kernel)⟩
  have hL_this := hCI.1.1
  have hK_this := hCI.1.2
  refine lv_aload_n hx hb dX0_init_105 rfl (lv_at hl 0 rfl) ?_
  refine lv_bipush (v := 50) hx hb dX0_init_106 (by decide +kernel) ?_
  refine nw_i (N' := 50) hx hb (hts _ (tw_c tw_33)) hK hP hD hS hA (by decide +kernel) (by decide +kernel) (Nat.le_of_ble_eq_true rfl) (Nat.le_of_ble_eq_true rfl) (Nat.le_of_ble_eq_true rfl) dX0_init_108 (fun q_92 r_94 H hq_93 er_94 hP hD hS => ?_)
  refine pr_F (q := q_92) (C := RX0) (T := TX0) (N := 16) hx hb hts (tw_i inlX0) tyX0 tyX0_ok nmX0 hown hK hP hD hS (As_in hL_this) (As_kk hq_93 hL_this hK_this) (by decide +kernel) rfl 15 15 (by decide +kernel) (hts _ (tw_c tw_123)) rfl hin rfl (tyX0_ok 15 (by decide +kernel)) rfl rfl (Nat.le_of_ble_eq_true rfl) (pr_15 _ _ _ _ _) dX0_init_110 (fun σ_95 H locs hp_96 hP hD hS => ?_)
  have hs_z14 := As_of hq_93 hp_96
  have hPX : PXe σ_95 I r_94 this := PXe_as hPX hCI hs_z14 (by decide +kernel) (Or.inl er_94)
  obtain ⟨tg, hCI⟩ : ∃ tg, CI σ_95 tg this 0 [15, 14, 13, 12, 11, 9, 8, 7, 6, 5, 4, 3, 2, 1] I r_94 rq := ⟨_, CI_as hCI hs_z14 rfl (by decide +kernel) (Or.inl er_94) (Or.inl rfl) (by decide +kernel)⟩
  have hL_this := hCI.1.1
  have hK_this := hCI.1.2
  have hDN := CI_done hCI (by decide +kernel) (by decide +kernel)
  have hPo : PXo σ_95 I r_94 this := PX_no (by rw [hK_this]; decide) (by rw [hK_this]; decide) (by rw [hK_this]; decide)
  exact W.vret hx hb hr (fun t1 ht hW => ⟨⟨(σ_95, I, J, r_94, rj, rq), rfl, ⟨σ_95, I, J, r_94, rj, rq, tg, rfl, hDN, hL_this, hK_this, hCI.2.2.2.2.2.2, PXe_all hPX hPo⟩, by rw [ht]; exact hP, va_K.moved hW.alike hK, hD⟩, hS.F ht⟩) hS.2.2 dX0_init_113

set_option maxHeartbeats 8000000 in
set_option maxRecDepth 100000 in
theorem s_X1_init (l : Launch) (D : va_G) (t : pq_T) (σ : pq_S) (I : Nat → Nat → Int32) (J : Nat → Nat → Int64) (ri : Nat → Nat → Int32) (rj : Nat → Nat → Int64) (rq : Nat → Nat → Option Nat) (sz : Nat) (this : Nat) (h0 : σ = pq_T1 this 1) (hI0 : I = (fun _ _ => 0)) (hr0 : ri = (fun _ _ => 0)) (hq0 : rq = fun _ _ => none) : MetV l yX1_init (wa yX1_init cX1_init 1 none) ({ frames := 1, cells := 2, slots := 60, locals := 20 }) [.ref this] D t σ (I, J, ri, rj, rq) sz 2 60 (fun (u : pq_S × pq_M) => ∃ (σ' : pq_S) (I' : Nat → Nat → Int32) (J' : Nat → Nat → Int64) (ri' : Nat → Nat → Int32) (rj' : Nat → Nat → Int64) (rq' : Nat → Nat → Option Nat) (tg' : Nat → Nat), u = (σ', I', J', ri', rj', rq') ∧ DN σ' tg' I' ri' rq' ∧ this ∈ σ'.1 ∧ σ'.2.1 this = 1 ∧ NR σ' this ∧ PXa σ' I' ri') := by
  refine Met.ofW (cc := cX1_init) (maxL := 1) (ret := none) (by decide +kernel) rfl ?_
  intro p e s m args below meth c s₁ B hml hv
  obtain ⟨rfl, hsz, hP, hK, hD0, hN⟩ := hv
  have hx := B.exec
  have hb := B.bytes
  have hr := B.returns
  have hts := atoms_spec (ws := (wa yX1_init cX1_init 1 none)) B.pre
  have hown : s.vm.findClass RX1 = some m.cls := findClass_of_methodNamed B.named
  have hlocks := B.notSynchronized
  have hin : meth.name = "<init>" := (name_of_methodNamed B.named B.method).1
  subst hsz
  have hD : va_D (pq_B t σ (I, J, ri, rj, rq) s.heap.size) (pq_P t σ (I, J, ri, rj, rq)) := hD0.self
  generalize hAe : pq_B t σ (I, J, ri, rj, rq) s.heap.size = A at hD ⊢
  have hA : ∀ q : Nat, s.heap.size ≤ q → A q := fun q h => by rw [← hAe]; exact Or.inr h
  have hS : va_S A s.heap s.heap [] := va_S.rf
  have hl := lv_entry ([.ref this]) (n := 1) (Nat.le_of_ble_eq_true rfl)
  rw [lg_entry_eq]
  generalize (lg_sl ([.ref this]) ++ List.replicate (1 - (lg_sl ([.ref this])).length) Slot.unset).toArray = ls at hl ⊢
  have hl : lv_has ls 1 [(0, .ref this)] := hl
  have hL_this : this ∈ σ.1 := by rw [h0]; exact List.mem_singleton.mpr rfl
  have hK_this : σ.2.1 this = 1 := by rw [h0]; rfl
  obtain ⟨tg, hCI⟩ : ∃ tg, CI σ tg this 1 [] I ri rq := ⟨_, by rw [h0, hI0, hr0, hq0]; exact CI_0 this 1⟩
  have hPX : PXe σ I ri this := PXe_0 (h0 := h0)
  refine lv_aload_n hx hb dX1_init_0 rfl (lv_at hl 0 rfl) ?_
  refine W.objInit hx hb hown (hts _ (tw_c tw_136)) (hts _ (tw_c tw_11)) (hts _ (tw_c tw_12)) rfl (by rw [hml]; exact hl.1) rfl dX1_init_1 (Nat.le_of_ble_eq_true rfl) (Nat.le_of_ble_eq_true rfl) ?_
  refine W.eq (g2 := F0 m 4 ls []) rfl ?_
  refine lv_aload_n hx hb dX1_init_4 rfl (lv_at hl 0 rfl) ?_
  refine lv_bipush (v := 30) hx hb dX1_init_5 (by decide +kernel) ?_
  refine nw_i (N' := 30) hx hb (hts _ (tw_c tw_33)) hK hP hD hS hA (by decide +kernel) (by decide +kernel) (Nat.le_of_ble_eq_true rfl) (Nat.le_of_ble_eq_true rfl) (Nat.le_of_ble_eq_true rfl) dX1_init_7 (fun q_1 r_3 H hq_2 er_3 hP hD hS => ?_)
  refine pr_F (q := q_1) (C := RX1) (T := TX1) (N := 3) hx hb hts (tw_i inlX1) tyX1 tyX1_ok nmX1 hown hK hP hD hS (As_in hL_this) (As_kk hq_2 hL_this hK_this) (by decide +kernel) rfl 1 33 (by decide +kernel) (hts _ (tw_c tw_137)) rfl hin rfl (tyX1_ok 1 (by decide +kernel)) rfl rfl (Nat.le_of_ble_eq_true rfl) (pr_33 _ _ _ _ _) dX1_init_9 (fun σ_4 H locs hp_5 hP hD hS => ?_)
  have hs_z1 := As_of hq_2 hp_5
  have hPX : PXe σ_4 I r_3 this := PXe_as hPX hCI hs_z1 (by decide +kernel) (Or.inl er_3)
  obtain ⟨tg, hCI⟩ : ∃ tg, CI σ_4 tg this 1 [33] I r_3 rq := ⟨_, CI_as hCI hs_z1 rfl (by decide +kernel) (Or.inl er_3) (Or.inl rfl) (by decide +kernel)⟩
  have hL_this := hCI.1.1
  have hK_this := hCI.1.2
  refine lv_aload_n hx hb dX1_init_12 rfl (lv_at hl 0 rfl) ?_
  refine lv_bipush (v := 30) hx hb dX1_init_13 (by decide +kernel) ?_
  refine nw_l (N' := 30) hx hb (hts _ (tw_c tw_81)) hK hP hD hS hA (by decide +kernel) (by decide +kernel) (Nat.le_of_ble_eq_true rfl) (Nat.le_of_ble_eq_true rfl) (Nat.le_of_ble_eq_true rfl) dX1_init_15 (fun q_8 r_10 H hq_9 er_10 hP hD hS => ?_)
  refine pr_F (q := q_8) (C := RX1) (T := TX1) (N := 3) hx hb hts (tw_i inlX1) tyX1 tyX1_ok nmX1 hown hK hP hD hS (As_in hL_this) (As_kk hq_9 hL_this hK_this) (by decide +kernel) rfl 2 34 (by decide +kernel) (hts _ (tw_c tw_138)) rfl hin rfl (tyX1_ok 2 (by decide +kernel)) rfl rfl (Nat.le_of_ble_eq_true rfl) (pr_34 _ _ _ _ _) dX1_init_17 (fun σ_11 H locs hp_12 hP hD hS => ?_)
  have hs_z2 := As_of hq_9 hp_12
  have hPX : PXe σ_11 I r_3 this := PXe_as hPX hCI hs_z2 (by decide +kernel) (Or.inr rfl)
  obtain ⟨tg, hCI⟩ : ∃ tg, CI σ_11 tg this 1 [34, 33] I r_3 rq := ⟨_, CI_as hCI hs_z2 rfl (by decide +kernel) (Or.inr ⟨rfl, rfl, by decide +kernel⟩) (Or.inl rfl) (by decide +kernel)⟩
  have hL_this := hCI.1.1
  have hK_this := hCI.1.2
  have hDN := CI_done hCI (by decide +kernel) (by decide +kernel)
  have hPo : PXo σ_11 I r_3 this := PX_no (by rw [hK_this]; decide) (by rw [hK_this]; decide) (by rw [hK_this]; decide)
  exact W.vret hx hb hr (fun t1 ht hW => ⟨⟨(σ_11, I, J, r_3, r_10, rq), rfl, ⟨σ_11, I, J, r_3, r_10, rq, tg, rfl, hDN, hL_this, hK_this, hCI.2.2.2.2.2.2, PXe_all hPX hPo⟩, by rw [ht]; exact hP, va_K.moved hW.alike hK, hD⟩, hS.F ht⟩) hS.2.2 dX1_init_20

set_option maxHeartbeats 8000000 in
set_option maxRecDepth 100000 in
theorem s_X2_init (l : Launch) (D : va_G) (t : pq_T) (σ : pq_S) (I : Nat → Nat → Int32) (J : Nat → Nat → Int64) (ri : Nat → Nat → Int32) (rj : Nat → Nat → Int64) (rq : Nat → Nat → Option Nat) (sz : Nat) (this : Nat) (h0 : σ = pq_T1 this 2) (hI0 : I = (fun _ _ => 0)) (hr0 : ri = (fun _ _ => 0)) (hq0 : rq = fun _ _ => none) : MetV l yX2_init (wa yX2_init cX2_init 1 none) ({ frames := 2, cells := 19, slots := 1221, locals := 40 }) [.ref this] D t σ (I, J, ri, rj, rq) sz 19 1221 (fun (u : pq_S × pq_M) => ∃ (σ' : pq_S) (I' : Nat → Nat → Int32) (J' : Nat → Nat → Int64) (ri' : Nat → Nat → Int32) (rj' : Nat → Nat → Int64) (rq' : Nat → Nat → Option Nat) (tg' : Nat → Nat), u = (σ', I', J', ri', rj', rq') ∧ DN σ' tg' I' ri' rq' ∧ this ∈ σ'.1 ∧ σ'.2.1 this = 2 ∧ NR σ' this ∧ PXa σ' I' ri') := by
  refine Met.ofW (cc := cX2_init) (maxL := 1) (ret := none) (by decide +kernel) rfl ?_
  intro p e s m args below meth c s₁ B hml hv
  obtain ⟨rfl, hsz, hP, hK, hD0, hN⟩ := hv
  have hx := B.exec
  have hb := B.bytes
  have hr := B.returns
  have hts := atoms_spec (ws := (wa yX2_init cX2_init 1 none)) B.pre
  have hown : s.vm.findClass RX2 = some m.cls := findClass_of_methodNamed B.named
  have hlocks := B.notSynchronized
  have hin : meth.name = "<init>" := (name_of_methodNamed B.named B.method).1
  subst hsz
  have hD : va_D (pq_B t σ (I, J, ri, rj, rq) s.heap.size) (pq_P t σ (I, J, ri, rj, rq)) := hD0.self
  generalize hAe : pq_B t σ (I, J, ri, rj, rq) s.heap.size = A at hD ⊢
  have hA : ∀ q : Nat, s.heap.size ≤ q → A q := fun q h => by rw [← hAe]; exact Or.inr h
  have hS : va_S A s.heap s.heap [] := va_S.rf
  have hl := lv_entry ([.ref this]) (n := 1) (Nat.le_of_ble_eq_true rfl)
  rw [lg_entry_eq]
  generalize (lg_sl ([.ref this]) ++ List.replicate (1 - (lg_sl ([.ref this])).length) Slot.unset).toArray = ls at hl ⊢
  have hl : lv_has ls 1 [(0, .ref this)] := hl
  have hL_this : this ∈ σ.1 := by rw [h0]; exact List.mem_singleton.mpr rfl
  have hK_this : σ.2.1 this = 2 := by rw [h0]; rfl
  obtain ⟨tg, hCI⟩ : ∃ tg, CI σ tg this 2 [] I ri rq := ⟨_, by rw [h0, hI0, hr0, hq0]; exact CI_0 this 2⟩
  have hPX : PXe σ I ri this := PXe_0 (h0 := h0)
  refine lv_aload_n hx hb dX2_init_0 rfl (lv_at hl 0 rfl) ?_
  refine W.objInit hx hb hown (hts _ (tw_c tw_80)) (hts _ (tw_c tw_11)) (hts _ (tw_c tw_12)) rfl (by rw [hml]; exact hl.1) rfl dX2_init_1 (Nat.le_of_ble_eq_true rfl) (Nat.le_of_ble_eq_true rfl) ?_
  refine W.eq (g2 := F0 m 4 ls []) rfl ?_
  refine lv_aload_n hx hb dX2_init_4 rfl (lv_at hl 0 rfl) ?_
  refine lv_sipush (v := 600) hx hb dX2_init_5 (by decide +kernel) ?_
  refine nw_l (N' := 600) hx hb (hts _ (tw_c tw_81)) hK hP hD hS hA (by decide +kernel) (by decide +kernel) (Nat.le_of_ble_eq_true rfl) (Nat.le_of_ble_eq_true rfl) (Nat.le_of_ble_eq_true rfl) dX2_init_8 (fun q_1 r_3 H hq_2 er_3 hP hD hS => ?_)
  refine pr_F (q := q_1) (C := RX2) (T := TX2) (N := 20) hx hb hts (tw_i inlX2) tyX2 tyX2_ok nmX2 hown hK hP hD hS (As_in hL_this) (As_kk hq_2 hL_this hK_this) (by decide +kernel) rfl 4 68 (by decide +kernel) (hts _ (tw_c tw_82)) rfl hin rfl (tyX2_ok 4 (by decide +kernel)) rfl rfl (Nat.le_of_ble_eq_true rfl) (pr_68 _ _ _ _ _) dX2_init_10 (fun σ_4 H locs hp_5 hP hD hS => ?_)
  have hs_z1 := As_of hq_2 hp_5
  have hPX : PXe σ_4 I ri this := PXe_as hPX hCI hs_z1 (by decide +kernel) (Or.inr rfl)
  obtain ⟨tg, hCI⟩ : ∃ tg, CI σ_4 tg this 2 [68] I ri rq := ⟨_, CI_as hCI hs_z1 rfl (by decide +kernel) (Or.inr ⟨rfl, rfl, by decide +kernel⟩) (Or.inl rfl) (by decide +kernel)⟩
  have hL_this := hCI.1.1
  have hK_this := hCI.1.2
  refine lv_aload_n hx hb dX2_init_13 rfl (lv_at hl 0 rfl) ?_
  refine lv_bipush (v := 40) hx hb dX2_init_14 (by decide +kernel) ?_
  refine nw_i (N' := 40) hx hb (hts _ (tw_c tw_33)) hK hP hD hS hA (by decide +kernel) (by decide +kernel) (Nat.le_of_ble_eq_true rfl) (Nat.le_of_ble_eq_true rfl) (Nat.le_of_ble_eq_true rfl) dX2_init_16 (fun q_8 r_10 H hq_9 er_10 hP hD hS => ?_)
  refine pr_F (q := q_8) (C := RX2) (T := TX2) (N := 20) hx hb hts (tw_i inlX2) tyX2 tyX2_ok nmX2 hown hK hP hD hS (As_in hL_this) (As_kk hq_9 hL_this hK_this) (by decide +kernel) rfl 5 69 (by decide +kernel) (hts _ (tw_c tw_83)) rfl hin rfl (tyX2_ok 5 (by decide +kernel)) rfl rfl (Nat.le_of_ble_eq_true rfl) (pr_69 _ _ _ _ _) dX2_init_18 (fun σ_11 H locs hp_12 hP hD hS => ?_)
  have hs_z2 := As_of hq_9 hp_12
  have hPX : PXe σ_11 I r_10 this := PXe_as hPX hCI hs_z2 (by decide +kernel) (Or.inl er_10)
  obtain ⟨tg, hCI⟩ : ∃ tg, CI σ_11 tg this 2 [69, 68] I r_10 rq := ⟨_, CI_as hCI hs_z2 rfl (by decide +kernel) (Or.inl er_10) (Or.inl rfl) (by decide +kernel)⟩
  have hL_this := hCI.1.1
  have hK_this := hCI.1.2
  refine lv_aload_n hx hb dX2_init_21 rfl (lv_at hl 0 rfl) ?_
  refine lv_bipush (v := 40) hx hb dX2_init_22 (by decide +kernel) ?_
  refine nw_i (N' := 40) hx hb (hts _ (tw_c tw_33)) hK hP hD hS hA (by decide +kernel) (by decide +kernel) (Nat.le_of_ble_eq_true rfl) (Nat.le_of_ble_eq_true rfl) (Nat.le_of_ble_eq_true rfl) dX2_init_24 (fun q_15 r_17 H hq_16 er_17 hP hD hS => ?_)
  refine pr_F (q := q_15) (C := RX2) (T := TX2) (N := 20) hx hb hts (tw_i inlX2) tyX2 tyX2_ok nmX2 hown hK hP hD hS (As_in hL_this) (As_kk hq_16 hL_this hK_this) (by decide +kernel) rfl 6 70 (by decide +kernel) (hts _ (tw_c tw_84)) rfl hin rfl (tyX2_ok 6 (by decide +kernel)) rfl rfl (Nat.le_of_ble_eq_true rfl) (pr_70 _ _ _ _ _) dX2_init_26 (fun σ_18 H locs hp_19 hP hD hS => ?_)
  have hs_z3 := As_of hq_16 hp_19
  have hPX : PXe σ_18 I r_17 this := PXe_as hPX hCI hs_z3 (by decide +kernel) (Or.inl er_17)
  obtain ⟨tg, hCI⟩ : ∃ tg, CI σ_18 tg this 2 [70, 69, 68] I r_17 rq := ⟨_, CI_as hCI hs_z3 rfl (by decide +kernel) (Or.inl er_17) (Or.inl rfl) (by decide +kernel)⟩
  have hL_this := hCI.1.1
  have hK_this := hCI.1.2
  refine lv_aload_n hx hb dX2_init_29 rfl (lv_at hl 0 rfl) ?_
  refine lv_bipush (v := 40) hx hb dX2_init_30 (by decide +kernel) ?_
  refine nw_i (N' := 40) hx hb (hts _ (tw_c tw_33)) hK hP hD hS hA (by decide +kernel) (by decide +kernel) (Nat.le_of_ble_eq_true rfl) (Nat.le_of_ble_eq_true rfl) (Nat.le_of_ble_eq_true rfl) dX2_init_32 (fun q_22 r_24 H hq_23 er_24 hP hD hS => ?_)
  refine pr_F (q := q_22) (C := RX2) (T := TX2) (N := 20) hx hb hts (tw_i inlX2) tyX2 tyX2_ok nmX2 hown hK hP hD hS (As_in hL_this) (As_kk hq_23 hL_this hK_this) (by decide +kernel) rfl 7 71 (by decide +kernel) (hts _ (tw_c tw_85)) rfl hin rfl (tyX2_ok 7 (by decide +kernel)) rfl rfl (Nat.le_of_ble_eq_true rfl) (pr_71 _ _ _ _ _) dX2_init_34 (fun σ_25 H locs hp_26 hP hD hS => ?_)
  have hs_z4 := As_of hq_23 hp_26
  have hPX : PXe σ_25 I r_24 this := PXe_as hPX hCI hs_z4 (by decide +kernel) (Or.inl er_24)
  obtain ⟨tg, hCI⟩ : ∃ tg, CI σ_25 tg this 2 [71, 70, 69, 68] I r_24 rq := ⟨_, CI_as hCI hs_z4 rfl (by decide +kernel) (Or.inl er_24) (Or.inl rfl) (by decide +kernel)⟩
  have hL_this := hCI.1.1
  have hK_this := hCI.1.2
  refine lv_aload_n hx hb dX2_init_37 rfl (lv_at hl 0 rfl) ?_
  refine lv_bipush (v := 40) hx hb dX2_init_38 (by decide +kernel) ?_
  refine nw_i (N' := 40) hx hb (hts _ (tw_c tw_33)) hK hP hD hS hA (by decide +kernel) (by decide +kernel) (Nat.le_of_ble_eq_true rfl) (Nat.le_of_ble_eq_true rfl) (Nat.le_of_ble_eq_true rfl) dX2_init_40 (fun q_29 r_31 H hq_30 er_31 hP hD hS => ?_)
  refine pr_F (q := q_29) (C := RX2) (T := TX2) (N := 20) hx hb hts (tw_i inlX2) tyX2 tyX2_ok nmX2 hown hK hP hD hS (As_in hL_this) (As_kk hq_30 hL_this hK_this) (by decide +kernel) rfl 8 72 (by decide +kernel) (hts _ (tw_c tw_86)) rfl hin rfl (tyX2_ok 8 (by decide +kernel)) rfl rfl (Nat.le_of_ble_eq_true rfl) (pr_72 _ _ _ _ _) dX2_init_42 (fun σ_32 H locs hp_33 hP hD hS => ?_)
  have hs_z5 := As_of hq_30 hp_33
  have hPX : PXe σ_32 I r_31 this := PXe_as hPX hCI hs_z5 (by decide +kernel) (Or.inl er_31)
  obtain ⟨tg, hCI⟩ : ∃ tg, CI σ_32 tg this 2 [72, 71, 70, 69, 68] I r_31 rq := ⟨_, CI_as hCI hs_z5 rfl (by decide +kernel) (Or.inl er_31) (Or.inl rfl) (by decide +kernel)⟩
  have hL_this := hCI.1.1
  have hK_this := hCI.1.2
  refine lv_aload_n hx hb dX2_init_45 rfl (lv_at hl 0 rfl) ?_
  refine lv_bipush (v := 40) hx hb dX2_init_46 (by decide +kernel) ?_
  refine nw_i (N' := 40) hx hb (hts _ (tw_c tw_33)) hK hP hD hS hA (by decide +kernel) (by decide +kernel) (Nat.le_of_ble_eq_true rfl) (Nat.le_of_ble_eq_true rfl) (Nat.le_of_ble_eq_true rfl) dX2_init_48 (fun q_36 r_38 H hq_37 er_38 hP hD hS => ?_)
  refine pr_F (q := q_36) (C := RX2) (T := TX2) (N := 20) hx hb hts (tw_i inlX2) tyX2 tyX2_ok nmX2 hown hK hP hD hS (As_in hL_this) (As_kk hq_37 hL_this hK_this) (by decide +kernel) rfl 9 73 (by decide +kernel) (hts _ (tw_c tw_87)) rfl hin rfl (tyX2_ok 9 (by decide +kernel)) rfl rfl (Nat.le_of_ble_eq_true rfl) (pr_73 _ _ _ _ _) dX2_init_50 (fun σ_39 H locs hp_40 hP hD hS => ?_)
  have hs_z6 := As_of hq_37 hp_40
  have hPX : PXe σ_39 I r_38 this := PXe_as hPX hCI hs_z6 (by decide +kernel) (Or.inl er_38)
  obtain ⟨tg, hCI⟩ : ∃ tg, CI σ_39 tg this 2 [73, 72, 71, 70, 69, 68] I r_38 rq := ⟨_, CI_as hCI hs_z6 rfl (by decide +kernel) (Or.inl er_38) (Or.inl rfl) (by decide +kernel)⟩
  have hL_this := hCI.1.1
  have hK_this := hCI.1.2
  refine lv_aload_n hx hb dX2_init_53 rfl (lv_at hl 0 rfl) ?_
  refine lv_bipush (v := 40) hx hb dX2_init_54 (by decide +kernel) ?_
  refine nw_i (N' := 40) hx hb (hts _ (tw_c tw_33)) hK hP hD hS hA (by decide +kernel) (by decide +kernel) (Nat.le_of_ble_eq_true rfl) (Nat.le_of_ble_eq_true rfl) (Nat.le_of_ble_eq_true rfl) dX2_init_56 (fun q_43 r_45 H hq_44 er_45 hP hD hS => ?_)
  refine pr_F (q := q_43) (C := RX2) (T := TX2) (N := 20) hx hb hts (tw_i inlX2) tyX2 tyX2_ok nmX2 hown hK hP hD hS (As_in hL_this) (As_kk hq_44 hL_this hK_this) (by decide +kernel) rfl 10 74 (by decide +kernel) (hts _ (tw_c tw_88)) rfl hin rfl (tyX2_ok 10 (by decide +kernel)) rfl rfl (Nat.le_of_ble_eq_true rfl) (pr_74 _ _ _ _ _) dX2_init_58 (fun σ_46 H locs hp_47 hP hD hS => ?_)
  have hs_z7 := As_of hq_44 hp_47
  have hPX : PXe σ_46 I r_45 this := PXe_as hPX hCI hs_z7 (by decide +kernel) (Or.inl er_45)
  obtain ⟨tg, hCI⟩ : ∃ tg, CI σ_46 tg this 2 [74, 73, 72, 71, 70, 69, 68] I r_45 rq := ⟨_, CI_as hCI hs_z7 rfl (by decide +kernel) (Or.inl er_45) (Or.inl rfl) (by decide +kernel)⟩
  have hL_this := hCI.1.1
  have hK_this := hCI.1.2
  refine lv_aload_n hx hb dX2_init_61 rfl (lv_at hl 0 rfl) ?_
  refine lv_bipush (v := 40) hx hb dX2_init_62 (by decide +kernel) ?_
  refine nw_i (N' := 40) hx hb (hts _ (tw_c tw_33)) hK hP hD hS hA (by decide +kernel) (by decide +kernel) (Nat.le_of_ble_eq_true rfl) (Nat.le_of_ble_eq_true rfl) (Nat.le_of_ble_eq_true rfl) dX2_init_64 (fun q_50 r_52 H hq_51 er_52 hP hD hS => ?_)
  refine pr_F (q := q_50) (C := RX2) (T := TX2) (N := 20) hx hb hts (tw_i inlX2) tyX2 tyX2_ok nmX2 hown hK hP hD hS (As_in hL_this) (As_kk hq_51 hL_this hK_this) (by decide +kernel) rfl 11 75 (by decide +kernel) (hts _ (tw_c tw_89)) rfl hin rfl (tyX2_ok 11 (by decide +kernel)) rfl rfl (Nat.le_of_ble_eq_true rfl) (pr_75 _ _ _ _ _) dX2_init_66 (fun σ_53 H locs hp_54 hP hD hS => ?_)
  have hs_z8 := As_of hq_51 hp_54
  have hPX : PXe σ_53 I r_52 this := PXe_as hPX hCI hs_z8 (by decide +kernel) (Or.inl er_52)
  obtain ⟨tg, hCI⟩ : ∃ tg, CI σ_53 tg this 2 [75, 74, 73, 72, 71, 70, 69, 68] I r_52 rq := ⟨_, CI_as hCI hs_z8 rfl (by decide +kernel) (Or.inl er_52) (Or.inl rfl) (by decide +kernel)⟩
  have hL_this := hCI.1.1
  have hK_this := hCI.1.2
  refine lv_aload_n hx hb dX2_init_69 rfl (lv_at hl 0 rfl) ?_
  refine lv_bipush (v := 40) hx hb dX2_init_70 (by decide +kernel) ?_
  refine nw_i (N' := 40) hx hb (hts _ (tw_c tw_33)) hK hP hD hS hA (by decide +kernel) (by decide +kernel) (Nat.le_of_ble_eq_true rfl) (Nat.le_of_ble_eq_true rfl) (Nat.le_of_ble_eq_true rfl) dX2_init_72 (fun q_57 r_59 H hq_58 er_59 hP hD hS => ?_)
  refine pr_F (q := q_57) (C := RX2) (T := TX2) (N := 20) hx hb hts (tw_i inlX2) tyX2 tyX2_ok nmX2 hown hK hP hD hS (As_in hL_this) (As_kk hq_58 hL_this hK_this) (by decide +kernel) rfl 12 76 (by decide +kernel) (hts _ (tw_c tw_90)) rfl hin rfl (tyX2_ok 12 (by decide +kernel)) rfl rfl (Nat.le_of_ble_eq_true rfl) (pr_76 _ _ _ _ _) dX2_init_74 (fun σ_60 H locs hp_61 hP hD hS => ?_)
  have hs_z9 := As_of hq_58 hp_61
  have hPX : PXe σ_60 I r_59 this := PXe_as hPX hCI hs_z9 (by decide +kernel) (Or.inl er_59)
  obtain ⟨tg, hCI⟩ : ∃ tg, CI σ_60 tg this 2 [76, 75, 74, 73, 72, 71, 70, 69, 68] I r_59 rq := ⟨_, CI_as hCI hs_z9 rfl (by decide +kernel) (Or.inl er_59) (Or.inl rfl) (by decide +kernel)⟩
  have hL_this := hCI.1.1
  have hK_this := hCI.1.2
  refine lv_aload_n hx hb dX2_init_77 rfl (lv_at hl 0 rfl) ?_
  refine lv_bipush (v := 40) hx hb dX2_init_78 (by decide +kernel) ?_
  refine nw_i (N' := 40) hx hb (hts _ (tw_c tw_33)) hK hP hD hS hA (by decide +kernel) (by decide +kernel) (Nat.le_of_ble_eq_true rfl) (Nat.le_of_ble_eq_true rfl) (Nat.le_of_ble_eq_true rfl) dX2_init_80 (fun q_64 r_66 H hq_65 er_66 hP hD hS => ?_)
  refine pr_F (q := q_64) (C := RX2) (T := TX2) (N := 20) hx hb hts (tw_i inlX2) tyX2 tyX2_ok nmX2 hown hK hP hD hS (As_in hL_this) (As_kk hq_65 hL_this hK_this) (by decide +kernel) rfl 13 77 (by decide +kernel) (hts _ (tw_c tw_91)) rfl hin rfl (tyX2_ok 13 (by decide +kernel)) rfl rfl (Nat.le_of_ble_eq_true rfl) (pr_77 _ _ _ _ _) dX2_init_82 (fun σ_67 H locs hp_68 hP hD hS => ?_)
  have hs_z10 := As_of hq_65 hp_68
  have hPX : PXe σ_67 I r_66 this := PXe_as hPX hCI hs_z10 (by decide +kernel) (Or.inl er_66)
  obtain ⟨tg, hCI⟩ : ∃ tg, CI σ_67 tg this 2 [77, 76, 75, 74, 73, 72, 71, 70, 69, 68] I r_66 rq := ⟨_, CI_as hCI hs_z10 rfl (by decide +kernel) (Or.inl er_66) (Or.inl rfl) (by decide +kernel)⟩
  have hL_this := hCI.1.1
  have hK_this := hCI.1.2
  refine lv_aload_n hx hb dX2_init_85 rfl (lv_at hl 0 rfl) ?_
  refine va_new (C := RX9) (T := TX9) (N := 3) (ci := 9) (fs := pq_nf 9) hx hb hts (tw_i inlX9) tyX9 tyX9_ok hown (hts _ (tw_c tw_92)) (hts _ (tw_c tw_93)) (hts _ (tw_c tw_94)) hK hP hD hS hA rfl nf_9 (Nat.le_of_ble_eq_true rfl) (Nat.le_of_ble_eq_true rfl) dX2_init_86 (fun q_71 H hPn hDn hS => ?_)
  have hP2 : va_P D vwCl (pq_P t (pq_T1 q_71 9) ((fun _ _ => 0), fun _ _ => 0, (fun _ _ => 0), fun _ _ => 0, fun _ _ => none)) H := pq_new hPn
  have hD2 : va_D A (pq_P t (pq_T1 q_71 9) ((fun _ _ => 0), fun _ _ => 0, (fun _ _ => 0), fun _ _ => 0, fun _ _ => none)) := pq_newD hDn
  have hap : q_71 ∉ σ_67.1 := pq_apart hDn
  have hP := pq_old hPn
  have hD := pq_oldD hDn
  have hdis0 : ∀ a, a ∈ σ_67.1 → a ∉ (pq_T1 q_71 9).1 := fun a h1 h2 => hap ((List.mem_singleton.mp h2) ▸ h1)
  refine lv_dup hx hb dX2_init_89 rfl ?_
  refine lk_v (va_runIN (As := []) (rest := [.ref q_71, .ref this]) ⟨hx, hb, hml, hown, hts⟩ (s_X9_init l D t (pq_T1 q_71 9) (fun _ _ => 0) (fun _ _ => 0) (fun _ _ => 0) (fun _ _ => 0) (fun _ _ => none) H.size q_71 rfl rfl rfl rfl) ⟨va_cnB (host := "RingsUnder") 0 hts (tw_W tw_102) rfl rfl rfl (nl_1 hN) (hts _ (tw_c tw_94)) cd_yX9_init_0 ⟨Nat.le_of_ble_eq_true rfl, Nat.le_of_ble_eq_true rfl⟩, rfl, hts (.instanceMethod yX9_init) (tw_c tq_instanceMethod_yX9_init)⟩ ⟨pq_blind, pq_pre hK hN hP2 hD2⟩ rfl rfl hl.1 rfl (lv_room (Nat.le_of_ble_eq_true rfl)) dX2_init_90 ⟨Nat.le_of_ble_eq_true rfl, Nat.le_of_ble_eq_true rfl⟩) hD2 hS hA hP hdis0 (fun τ1 ν1 H locs hw hP2 hD2 hP hdis2 hS => ?_)
  obtain ⟨τ, I2, J2, si, sj, sq, tg2, hu, hDN2, hLq, hKq, hNq, hPq⟩ := hw
  obtain ⟨hua, hub⟩ := Prod.mk.inj hu
  rw [hua, hub] at hP2 hD2
  rw [hua] at hdis2
  obtain ⟨σ_z11, I_z12, J_z13, ri_z14, rj_z15, rq_z16, tg, hP, hD, hCI, hLq, hKq, hNq, hPX⟩ : ∃ (σ_z11 : pq_S) (I_z12 : Nat → Nat → Int32) (J_z13 : Nat → Nat → Int64) (ri_z14 : Nat → Nat → Int32) (rj_z15 : Nat → Nat → Int64) (rq_z16 : Nat → Nat → Option Nat) (tg : Nat → Nat), va_P D vwCl (pq_P t σ_z11 (I_z12, J_z13, ri_z14, rj_z15, rq_z16)) H ∧ va_D A (pq_P t σ_z11 (I_z12, J_z13, ri_z14, rj_z15, rq_z16)) ∧ CI σ_z11 tg this 2 [77, 76, 75, 74, 73, 72, 71, 70, 69, 68] I_z12 ri_z14 rq_z16 ∧ q_71 ∈ σ_z11.1 ∧ σ_z11.2.1 q_71 = 9 ∧ NR σ_z11 q_71 ∧ PXe σ_z11 I_z12 ri_z14 this := ⟨_, _, _, _, _, _, _, pU_P hdis2 hP hP2, pU_D hdis2 hD hD2, CI_uni hdis2 hCI hDN2, (pU_i hLq).1, (pU_i hLq).2.1.trans hKq, NR_uni hdis2 hCI hDN2.1 hNq hLq, PXe_uni hdis2 hPX hCI hPq hDN2.1⟩
  have hL_this := hCI.1.1
  have hK_this := hCI.1.2
  refine pr_F (q := q_71) (C := RX2) (T := TX2) (N := 20) hx hb hts (tw_i inlX2) tyX2 tyX2_ok nmX2 hown hK hP hD hS hL_this hK_this (by decide +kernel) rfl 14 78 (by decide +kernel) (hts _ (tw_c tw_95)) rfl hin rfl (tyX2_ok 14 (by decide +kernel)) rfl rfl (Nat.le_of_ble_eq_true rfl) (pr_78 _ _ _ _ _) dX2_init_93 (fun σ_88 H locs hp_89 hP hD hS => ?_)
  have hCI : CI σ_88 tg this 2 [78, 77, 76, 75, 74, 73, 72, 71, 70, 69, 68] I_z12 ri_z14 rq_z16 := CI_ps hCI hp_89 rfl hLq hKq hNq (by decide +kernel)
  have hPX : PXe σ_88 I_z12 ri_z14 this := PXe_ps hPX hp_89
  have hL_this := hCI.1.1
  have hK_this := hCI.1.2
  refine lv_aload_n hx hb dX2_init_96 rfl (lv_at hl 0 rfl) ?_
  refine lv_bipush (v := 40) hx hb dX2_init_97 (by decide +kernel) ?_
  refine nw_i (N' := 40) hx hb (hts _ (tw_c tw_33)) hK hP hD hS hA (by decide +kernel) (by decide +kernel) (Nat.le_of_ble_eq_true rfl) (Nat.le_of_ble_eq_true rfl) (Nat.le_of_ble_eq_true rfl) dX2_init_99 (fun q_91 r_93 H hq_92 er_93 hP hD hS => ?_)
  refine pr_F (q := q_91) (C := RX2) (T := TX2) (N := 20) hx hb hts (tw_i inlX2) tyX2 tyX2_ok nmX2 hown hK hP hD hS (As_in hL_this) (As_kk hq_92 hL_this hK_this) (by decide +kernel) rfl 15 79 (by decide +kernel) (hts _ (tw_c tw_96)) rfl hin rfl (tyX2_ok 15 (by decide +kernel)) rfl rfl (Nat.le_of_ble_eq_true rfl) (pr_79 _ _ _ _ _) dX2_init_101 (fun σ_94 H locs hp_95 hP hD hS => ?_)
  have hs_z17 := As_of hq_92 hp_95
  have hPX : PXe σ_94 I_z12 r_93 this := PXe_as hPX hCI hs_z17 (by decide +kernel) (Or.inl er_93)
  obtain ⟨tg, hCI⟩ : ∃ tg, CI σ_94 tg this 2 [79, 78, 77, 76, 75, 74, 73, 72, 71, 70, 69, 68] I_z12 r_93 rq_z16 := ⟨_, CI_as hCI hs_z17 rfl (by decide +kernel) (Or.inl er_93) (Or.inl rfl) (by decide +kernel)⟩
  have hL_this := hCI.1.1
  have hK_this := hCI.1.2
  refine lv_aload_n hx hb dX2_init_104 rfl (lv_at hl 0 rfl) ?_
  refine lv_iconst (v := 5) hx hb dX2_init_105 (by decide +kernel) ?_
  refine nw_i (N' := 5) hx hb (hts _ (tw_c tw_33)) hK hP hD hS hA (by decide +kernel) (by decide +kernel) (Nat.le_of_ble_eq_true rfl) (Nat.le_of_ble_eq_true rfl) (Nat.le_of_ble_eq_true rfl) dX2_init_106 (fun q_98 r_100 H hq_99 er_100 hP hD hS => ?_)
  refine pr_F (q := q_98) (C := RX2) (T := TX2) (N := 20) hx hb hts (tw_i inlX2) tyX2 tyX2_ok nmX2 hown hK hP hD hS (As_in hL_this) (As_kk hq_99 hL_this hK_this) (by decide +kernel) rfl 16 80 (by decide +kernel) (hts _ (tw_c tw_97)) rfl hin rfl (tyX2_ok 16 (by decide +kernel)) rfl rfl (Nat.le_of_ble_eq_true rfl) (pr_80 _ _ _ _ _) dX2_init_108 (fun σ_101 H locs hp_102 hP hD hS => ?_)
  have hs_z18 := As_of hq_99 hp_102
  have hPX : PXe σ_101 I_z12 r_100 this := PXe_as hPX hCI hs_z18 (by decide +kernel) (Or.inl er_100)
  obtain ⟨tg, hCI⟩ : ∃ tg, CI σ_101 tg this 2 [80, 79, 78, 77, 76, 75, 74, 73, 72, 71, 70, 69, 68] I_z12 r_100 rq_z16 := ⟨_, CI_as hCI hs_z18 rfl (by decide +kernel) (Or.inl er_100) (Or.inl rfl) (by decide +kernel)⟩
  have hL_this := hCI.1.1
  have hK_this := hCI.1.2
  refine lv_aload_n hx hb dX2_init_111 rfl (lv_at hl 0 rfl) ?_
  refine lv_bipush (v := 40) hx hb dX2_init_112 (by decide +kernel) ?_
  refine nw_i (N' := 40) hx hb (hts _ (tw_c tw_33)) hK hP hD hS hA (by decide +kernel) (by decide +kernel) (Nat.le_of_ble_eq_true rfl) (Nat.le_of_ble_eq_true rfl) (Nat.le_of_ble_eq_true rfl) dX2_init_114 (fun q_105 r_107 H hq_106 er_107 hP hD hS => ?_)
  refine pr_F (q := q_105) (C := RX2) (T := TX2) (N := 20) hx hb hts (tw_i inlX2) tyX2 tyX2_ok nmX2 hown hK hP hD hS (As_in hL_this) (As_kk hq_106 hL_this hK_this) (by decide +kernel) rfl 17 81 (by decide +kernel) (hts _ (tw_c tw_98)) rfl hin rfl (tyX2_ok 17 (by decide +kernel)) rfl rfl (Nat.le_of_ble_eq_true rfl) (pr_81 _ _ _ _ _) dX2_init_116 (fun σ_108 H locs hp_109 hP hD hS => ?_)
  have hs_z19 := As_of hq_106 hp_109
  have hPX : PXe σ_108 I_z12 r_107 this := PXe_as hPX hCI hs_z19 (by decide +kernel) (Or.inl er_107)
  obtain ⟨tg, hCI⟩ : ∃ tg, CI σ_108 tg this 2 [81, 80, 79, 78, 77, 76, 75, 74, 73, 72, 71, 70, 69, 68] I_z12 r_107 rq_z16 := ⟨_, CI_as hCI hs_z19 rfl (by decide +kernel) (Or.inl er_107) (Or.inl rfl) (by decide +kernel)⟩
  have hL_this := hCI.1.1
  have hK_this := hCI.1.2
  refine lv_aload_n hx hb dX2_init_119 rfl (lv_at hl 0 rfl) ?_
  refine lv_bipush (v := 32) hx hb dX2_init_120 (by decide +kernel) ?_
  refine nw_i (N' := 32) hx hb (hts _ (tw_c tw_33)) hK hP hD hS hA (by decide +kernel) (by decide +kernel) (Nat.le_of_ble_eq_true rfl) (Nat.le_of_ble_eq_true rfl) (Nat.le_of_ble_eq_true rfl) dX2_init_122 (fun q_112 r_114 H hq_113 er_114 hP hD hS => ?_)
  refine pr_F (q := q_112) (C := RX2) (T := TX2) (N := 20) hx hb hts (tw_i inlX2) tyX2 tyX2_ok nmX2 hown hK hP hD hS (As_in hL_this) (As_kk hq_113 hL_this hK_this) (by decide +kernel) rfl 18 82 (by decide +kernel) (hts _ (tw_c tw_99)) rfl hin rfl (tyX2_ok 18 (by decide +kernel)) rfl rfl (Nat.le_of_ble_eq_true rfl) (pr_82 _ _ _ _ _) dX2_init_124 (fun σ_115 H locs hp_116 hP hD hS => ?_)
  have hs_z20 := As_of hq_113 hp_116
  have hPX : PXe σ_115 I_z12 r_114 this := PXe_as hPX hCI hs_z20 (by decide +kernel) (Or.inl er_114)
  obtain ⟨tg, hCI⟩ : ∃ tg, CI σ_115 tg this 2 [82, 81, 80, 79, 78, 77, 76, 75, 74, 73, 72, 71, 70, 69, 68] I_z12 r_114 rq_z16 := ⟨_, CI_as hCI hs_z20 rfl (by decide +kernel) (Or.inl er_114) (Or.inl rfl) (by decide +kernel)⟩
  have hL_this := hCI.1.1
  have hK_this := hCI.1.2
  refine lv_aload_n hx hb dX2_init_127 rfl (lv_at hl 0 rfl) ?_
  refine lv_bipush (v := 21) hx hb dX2_init_128 (by decide +kernel) ?_
  refine nw_i (N' := 21) hx hb (hts _ (tw_c tw_33)) hK hP hD hS hA (by decide +kernel) (by decide +kernel) (Nat.le_of_ble_eq_true rfl) (Nat.le_of_ble_eq_true rfl) (Nat.le_of_ble_eq_true rfl) dX2_init_130 (fun q_119 r_121 H hq_120 er_121 hP hD hS => ?_)
  refine pr_F (q := q_119) (C := RX2) (T := TX2) (N := 20) hx hb hts (tw_i inlX2) tyX2 tyX2_ok nmX2 hown hK hP hD hS (As_in hL_this) (As_kk hq_120 hL_this hK_this) (by decide +kernel) rfl 19 83 (by decide +kernel) (hts _ (tw_c tw_100)) rfl hin rfl (tyX2_ok 19 (by decide +kernel)) rfl rfl (Nat.le_of_ble_eq_true rfl) (pr_83 _ _ _ _ _) dX2_init_132 (fun σ_122 H locs hp_123 hP hD hS => ?_)
  have hs_z21 := As_of hq_120 hp_123
  have hPX : PXe σ_122 I_z12 r_121 this := PXe_as hPX hCI hs_z21 (by decide +kernel) (Or.inl er_121)
  obtain ⟨tg, hCI⟩ : ∃ tg, CI σ_122 tg this 2 [83, 82, 81, 80, 79, 78, 77, 76, 75, 74, 73, 72, 71, 70, 69, 68] I_z12 r_121 rq_z16 := ⟨_, CI_as hCI hs_z21 rfl (by decide +kernel) (Or.inl er_121) (Or.inl rfl) (by decide +kernel)⟩
  have hL_this := hCI.1.1
  have hK_this := hCI.1.2
  refine lv_aload_n hx hb dX2_init_135 rfl (lv_at hl 0 rfl) ?_
  have hDN := CI_done hCI (by decide +kernel) (by decide +kernel)
  obtain ⟨w_126, hR_w_126, hL_w_126, hK_w_126, hN_w_126, hT_w_126⟩ := sh_a hDN.1 79 (ci := 2) (kd := 13) (len := 40) rfl (by decide +kernel) hL_this hK_this
  refine pg_f (v := .ref w_126) (C := RX2) (T := TX2) (N := 20) hx hb hts (tw_i inlX2) hown hK hP hL_this hK_this (by decide +kernel) rfl 15 (by decide +kernel) (hts _ (tw_c tw_96)) (pq_hv rfl hR_w_126) dX2_init_136 ?_
  refine lv_iconst (v := (-1)) hx hb dX2_init_139 (by decide +kernel) ?_
  refine pk_v (va_runSN (As := [.ref w_126, .int (-1)]) (rest := []) ⟨hx, hb, hml, hown, hts⟩ (s_X11_fill_79 l D t σ_122 I_z12 J_z13 r_121 rj_z15 rq_z16 H.size tg hDN.1 (DN_gs hDN) w_126 (-1 : Int32) hL_w_126 hK_w_126 hN_w_126 hT_w_126 (rg_w (rg_k (-1 : Int32) (-1) rfl) (by decide +kernel))) ⟨va_cnB (host := "RingsUnder") 2 hts (tw_W tw_76) rfl rfl rfl (nl_2 hN) (hts _ (tw_c tw_2)) cd_yX11_fill_2 ⟨Nat.le_of_ble_eq_true rfl, Nat.le_of_ble_eq_true rfl⟩, hts (.static yX11_fill) (tw_c tq_static_yX11_fill), trivial⟩ ⟨pq_blind, pq_pre hK hN hP hD⟩ rfl rfl hl.1 rfl (lv_room (Nat.le_of_ble_eq_true rfl)) dX2_init_140 ⟨Nat.le_of_ble_eq_true rfl, Nat.le_of_ble_eq_true rfl⟩) hD hS hA (fun σ1 μ1 H locs hw hP hD hS => ?_)
  obtain ⟨ri_z22, hu, hg, he_z23⟩ := hw
  obtain ⟨hua, hub⟩ := Prod.mk.inj hu
  rw [hua, hub] at hP hD
  have hPX : PXe σ_122 I_z12 ri_z22 this := PXe_fill hPX hDN.2.2 hL_this (by rw [hK_this]; rfl) hR_w_126 he_z23
  have hDN := DN_fill hDN hg he_z23 hT_w_126 (by decide +kernel)
  refine lv_aload_n hx hb dX2_init_143 rfl (lv_at hl 0 rfl) ?_
  obtain ⟨w_132, hR_w_132, hL_w_132, hK_w_132, hN_w_132, hT_w_132⟩ := sh_a hDN.1 80 (ci := 2) (kd := 13) (len := 5) rfl (by decide +kernel) hL_this hK_this
  refine pg_f (v := .ref w_132) (C := RX2) (T := TX2) (N := 20) hx hb hts (tw_i inlX2) hown hK hP hL_this hK_this (by decide +kernel) rfl 16 (by decide +kernel) (hts _ (tw_c tw_97)) (pq_hv rfl hR_w_132) dX2_init_144 ?_
  refine lv_iconst (v := (-1)) hx hb dX2_init_147 (by decide +kernel) ?_
  refine pk_v (va_runSN (As := [.ref w_132, .int (-1)]) (rest := []) ⟨hx, hb, hml, hown, hts⟩ (s_X11_fill_80 l D t σ_122 I_z12 J_z13 ri_z22 rj_z15 rq_z16 H.size tg hDN.1 (DN_gs hDN) w_132 (-1 : Int32) hL_w_132 hK_w_132 hN_w_132 hT_w_132 (rg_w (rg_k (-1 : Int32) (-1) rfl) (by decide +kernel))) ⟨va_cnB (host := "RingsUnder") 2 hts (tw_W tw_76) rfl rfl rfl (nl_2 hN) (hts _ (tw_c tw_2)) cd_yX11_fill_2 ⟨Nat.le_of_ble_eq_true rfl, Nat.le_of_ble_eq_true rfl⟩, hts (.static yX11_fill) (tw_c tq_static_yX11_fill), trivial⟩ ⟨pq_blind, pq_pre hK hN hP hD⟩ rfl rfl hl.1 rfl (lv_room (Nat.le_of_ble_eq_true rfl)) dX2_init_148 ⟨Nat.le_of_ble_eq_true rfl, Nat.le_of_ble_eq_true rfl⟩) hD hS hA (fun σ1 μ1 H locs hw hP hD hS => ?_)
  obtain ⟨ri_z24, hu, hg, he_z25⟩ := hw
  obtain ⟨hua, hub⟩ := Prod.mk.inj hu
  rw [hua, hub] at hP hD
  have hPX : PXe σ_122 I_z12 ri_z24 this := PXe_fill hPX hDN.2.2 hL_this (by rw [hK_this]; rfl) hR_w_132 he_z25
  have hDN := DN_fill hDN hg he_z25 hT_w_132 (by decide +kernel)
  have px79 : ∀ q, σ_122.2.2.1 79 this = some q → ∀ j, j < 40 → ri_z24 q j = -1 := fun q hq j hj => by
    rw [hR_w_126] at hq
    rw [← Option.some.inj hq]
    rw [fil_ne he_z25 (fun y => absurd (hT_w_126.symm.trans ((congrArg tg y).trans hT_w_132)) (by decide +kernel))]
    exact fil_at he_z23 hj
  have hPo : PXo σ_122 I_z12 ri_z24 this := ⟨fun _ => px79, fun e => absurd (hK_this.symm.trans e) (by decide +kernel), fun e => absurd (hK_this.symm.trans e) (by decide +kernel)⟩
  exact W.vret hx hb hr (fun t1 ht hW => ⟨⟨(σ_122, I_z12, J_z13, ri_z24, rj_z15, rq_z16), rfl, ⟨σ_122, I_z12, J_z13, ri_z24, rj_z15, rq_z16, tg, rfl, hDN, hL_this, hK_this, hCI.2.2.2.2.2.2, PXe_all hPX hPo⟩, by rw [ht]; exact hP, va_K.moved hW.alike hK, hD⟩, hS.F ht⟩) hS.2.2 dX2_init_151

set_option maxHeartbeats 8000000 in
set_option maxRecDepth 100000 in
theorem s_X7_init (l : Launch) (D : va_G) (t : pq_T) (σ : pq_S) (I : Nat → Nat → Int32) (J : Nat → Nat → Int64) (ri : Nat → Nat → Int32) (rj : Nat → Nat → Int64) (rq : Nat → Nat → Option Nat) (sz : Nat) (this : Nat) (h0 : σ = pq_T1 this 7) (hI0 : I = (fun _ _ => 0)) (hr0 : ri = (fun _ _ => 0)) (hq0 : rq = fun _ _ => none) : MetV l yX7_init (wa yX7_init cX7_init 1 none) ({ frames := 1, cells := 9, slots := 860, locals := 22 }) [.ref this] D t σ (I, J, ri, rj, rq) sz 9 860 (fun (u : pq_S × pq_M) => ∃ (σ' : pq_S) (I' : Nat → Nat → Int32) (J' : Nat → Nat → Int64) (ri' : Nat → Nat → Int32) (rj' : Nat → Nat → Int64) (rq' : Nat → Nat → Option Nat) (tg' : Nat → Nat), u = (σ', I', J', ri', rj', rq') ∧ DN σ' tg' I' ri' rq' ∧ this ∈ σ'.1 ∧ σ'.2.1 this = 7 ∧ NR σ' this ∧ PXa σ' I' ri') := by
  refine Met.ofW (cc := cX7_init) (maxL := 1) (ret := none) (by decide +kernel) rfl ?_
  intro p e s m args below meth c s₁ B hml hv
  obtain ⟨rfl, hsz, hP, hK, hD0, hN⟩ := hv
  have hx := B.exec
  have hb := B.bytes
  have hr := B.returns
  have hts := atoms_spec (ws := (wa yX7_init cX7_init 1 none)) B.pre
  have hown : s.vm.findClass RX7 = some m.cls := findClass_of_methodNamed B.named
  have hlocks := B.notSynchronized
  have hin : meth.name = "<init>" := (name_of_methodNamed B.named B.method).1
  subst hsz
  have hD : va_D (pq_B t σ (I, J, ri, rj, rq) s.heap.size) (pq_P t σ (I, J, ri, rj, rq)) := hD0.self
  generalize hAe : pq_B t σ (I, J, ri, rj, rq) s.heap.size = A at hD ⊢
  have hA : ∀ q : Nat, s.heap.size ≤ q → A q := fun q h => by rw [← hAe]; exact Or.inr h
  have hS : va_S A s.heap s.heap [] := va_S.rf
  have hl := lv_entry ([.ref this]) (n := 1) (Nat.le_of_ble_eq_true rfl)
  rw [lg_entry_eq]
  generalize (lg_sl ([.ref this]) ++ List.replicate (1 - (lg_sl ([.ref this])).length) Slot.unset).toArray = ls at hl ⊢
  have hl : lv_has ls 1 [(0, .ref this)] := hl
  have hL_this : this ∈ σ.1 := by rw [h0]; exact List.mem_singleton.mpr rfl
  have hK_this : σ.2.1 this = 7 := by rw [h0]; rfl
  obtain ⟨tg, hCI⟩ : ∃ tg, CI σ tg this 7 [] I ri rq := ⟨_, by rw [h0, hI0, hr0, hq0]; exact CI_0 this 7⟩
  have hPX : PXe σ I ri this := PXe_0 (h0 := h0)
  refine lv_aload_n hx hb dX7_init_0 rfl (lv_at hl 0 rfl) ?_
  refine W.objInit hx hb hown (hts _ (tw_c tw_60)) (hts _ (tw_c tw_11)) (hts _ (tw_c tw_12)) rfl (by rw [hml]; exact hl.1) rfl dX7_init_1 (Nat.le_of_ble_eq_true rfl) (Nat.le_of_ble_eq_true rfl) ?_
  refine W.eq (g2 := F0 m 4 ls []) rfl ?_
  refine lv_aload_n hx hb dX7_init_4 rfl (lv_at hl 0 rfl) ?_
  refine lv_sipush (v := 200) hx hb dX7_init_5 (by decide +kernel) ?_
  refine nw_i (N' := 200) hx hb (hts _ (tw_c tw_33)) hK hP hD hS hA (by decide +kernel) (by decide +kernel) (Nat.le_of_ble_eq_true rfl) (Nat.le_of_ble_eq_true rfl) (Nat.le_of_ble_eq_true rfl) dX7_init_8 (fun q_1 r_3 H hq_2 er_3 hP hD hS => ?_)
  refine pr_F (q := q_1) (C := RX7) (T := TX7) (N := 15) hx hb hts (tw_i inlX7) tyX7 tyX7_ok nmX7 hown hK hP hD hS (As_in hL_this) (As_kk hq_2 hL_this hK_this) (by decide +kernel) rfl 1 225 (by decide +kernel) (hts _ (tw_c tw_61)) rfl hin rfl (tyX7_ok 1 (by decide +kernel)) rfl rfl (Nat.le_of_ble_eq_true rfl) (pr_225 _ _ _ _ _) dX7_init_10 (fun σ_4 H locs hp_5 hP hD hS => ?_)
  have hs_z1 := As_of hq_2 hp_5
  have hPX : PXe σ_4 I r_3 this := PXe_as hPX hCI hs_z1 (by decide +kernel) (Or.inl er_3)
  obtain ⟨tg, hCI⟩ : ∃ tg, CI σ_4 tg this 7 [225] I r_3 rq := ⟨_, CI_as hCI hs_z1 rfl (by decide +kernel) (Or.inl er_3) (Or.inl rfl) (by decide +kernel)⟩
  have hL_this := hCI.1.1
  have hK_this := hCI.1.2
  refine lv_aload_n hx hb dX7_init_13 rfl (lv_at hl 0 rfl) ?_
  refine lv_sipush (v := 200) hx hb dX7_init_14 (by decide +kernel) ?_
  refine nw_i (N' := 200) hx hb (hts _ (tw_c tw_33)) hK hP hD hS hA (by decide +kernel) (by decide +kernel) (Nat.le_of_ble_eq_true rfl) (Nat.le_of_ble_eq_true rfl) (Nat.le_of_ble_eq_true rfl) dX7_init_17 (fun q_8 r_10 H hq_9 er_10 hP hD hS => ?_)
  refine pr_F (q := q_8) (C := RX7) (T := TX7) (N := 15) hx hb hts (tw_i inlX7) tyX7 tyX7_ok nmX7 hown hK hP hD hS (As_in hL_this) (As_kk hq_9 hL_this hK_this) (by decide +kernel) rfl 2 226 (by decide +kernel) (hts _ (tw_c tw_62)) rfl hin rfl (tyX7_ok 2 (by decide +kernel)) rfl rfl (Nat.le_of_ble_eq_true rfl) (pr_226 _ _ _ _ _) dX7_init_19 (fun σ_11 H locs hp_12 hP hD hS => ?_)
  have hs_z2 := As_of hq_9 hp_12
  have hPX : PXe σ_11 I r_10 this := PXe_as hPX hCI hs_z2 (by decide +kernel) (Or.inl er_10)
  obtain ⟨tg, hCI⟩ : ∃ tg, CI σ_11 tg this 7 [226, 225] I r_10 rq := ⟨_, CI_as hCI hs_z2 rfl (by decide +kernel) (Or.inl er_10) (Or.inl rfl) (by decide +kernel)⟩
  have hL_this := hCI.1.1
  have hK_this := hCI.1.2
  refine lv_aload_n hx hb dX7_init_22 rfl (lv_at hl 0 rfl) ?_
  refine lv_sipush (v := 200) hx hb dX7_init_23 (by decide +kernel) ?_
  refine nw_i (N' := 200) hx hb (hts _ (tw_c tw_33)) hK hP hD hS hA (by decide +kernel) (by decide +kernel) (Nat.le_of_ble_eq_true rfl) (Nat.le_of_ble_eq_true rfl) (Nat.le_of_ble_eq_true rfl) dX7_init_26 (fun q_15 r_17 H hq_16 er_17 hP hD hS => ?_)
  refine pr_F (q := q_15) (C := RX7) (T := TX7) (N := 15) hx hb hts (tw_i inlX7) tyX7 tyX7_ok nmX7 hown hK hP hD hS (As_in hL_this) (As_kk hq_16 hL_this hK_this) (by decide +kernel) rfl 3 227 (by decide +kernel) (hts _ (tw_c tw_63)) rfl hin rfl (tyX7_ok 3 (by decide +kernel)) rfl rfl (Nat.le_of_ble_eq_true rfl) (pr_227 _ _ _ _ _) dX7_init_28 (fun σ_18 H locs hp_19 hP hD hS => ?_)
  have hs_z3 := As_of hq_16 hp_19
  have hPX : PXe σ_18 I r_17 this := PXe_as hPX hCI hs_z3 (by decide +kernel) (Or.inl er_17)
  obtain ⟨tg, hCI⟩ : ∃ tg, CI σ_18 tg this 7 [227, 226, 225] I r_17 rq := ⟨_, CI_as hCI hs_z3 rfl (by decide +kernel) (Or.inl er_17) (Or.inl rfl) (by decide +kernel)⟩
  have hL_this := hCI.1.1
  have hK_this := hCI.1.2
  refine lv_aload_n hx hb dX7_init_31 rfl (lv_at hl 0 rfl) ?_
  refine lv_sipush (v := 200) hx hb dX7_init_32 (by decide +kernel) ?_
  refine nw_i (N' := 200) hx hb (hts _ (tw_c tw_33)) hK hP hD hS hA (by decide +kernel) (by decide +kernel) (Nat.le_of_ble_eq_true rfl) (Nat.le_of_ble_eq_true rfl) (Nat.le_of_ble_eq_true rfl) dX7_init_35 (fun q_22 r_24 H hq_23 er_24 hP hD hS => ?_)
  refine pr_F (q := q_22) (C := RX7) (T := TX7) (N := 15) hx hb hts (tw_i inlX7) tyX7 tyX7_ok nmX7 hown hK hP hD hS (As_in hL_this) (As_kk hq_23 hL_this hK_this) (by decide +kernel) rfl 4 228 (by decide +kernel) (hts _ (tw_c tw_64)) rfl hin rfl (tyX7_ok 4 (by decide +kernel)) rfl rfl (Nat.le_of_ble_eq_true rfl) (pr_228 _ _ _ _ _) dX7_init_37 (fun σ_25 H locs hp_26 hP hD hS => ?_)
  have hs_z4 := As_of hq_23 hp_26
  have hPX : PXe σ_25 I r_24 this := PXe_as hPX hCI hs_z4 (by decide +kernel) (Or.inl er_24)
  obtain ⟨tg, hCI⟩ : ∃ tg, CI σ_25 tg this 7 [228, 227, 226, 225] I r_24 rq := ⟨_, CI_as hCI hs_z4 rfl (by decide +kernel) (Or.inl er_24) (Or.inl rfl) (by decide +kernel)⟩
  have hL_this := hCI.1.1
  have hK_this := hCI.1.2
  refine lv_aload_n hx hb dX7_init_40 rfl (lv_at hl 0 rfl) ?_
  refine lv_bipush (v := 12) hx hb dX7_init_41 (by decide +kernel) ?_
  refine nw_i (N' := 12) hx hb (hts _ (tw_c tw_33)) hK hP hD hS hA (by decide +kernel) (by decide +kernel) (Nat.le_of_ble_eq_true rfl) (Nat.le_of_ble_eq_true rfl) (Nat.le_of_ble_eq_true rfl) dX7_init_43 (fun q_29 r_31 H hq_30 er_31 hP hD hS => ?_)
  refine pr_F (q := q_29) (C := RX7) (T := TX7) (N := 15) hx hb hts (tw_i inlX7) tyX7 tyX7_ok nmX7 hown hK hP hD hS (As_in hL_this) (As_kk hq_30 hL_this hK_this) (by decide +kernel) rfl 5 229 (by decide +kernel) (hts _ (tw_c tw_65)) rfl hin rfl (tyX7_ok 5 (by decide +kernel)) rfl rfl (Nat.le_of_ble_eq_true rfl) (pr_229 _ _ _ _ _) dX7_init_45 (fun σ_32 H locs hp_33 hP hD hS => ?_)
  have hs_z5 := As_of hq_30 hp_33
  have hPX : PXe σ_32 I r_31 this := PXe_as hPX hCI hs_z5 (by decide +kernel) (Or.inl er_31)
  obtain ⟨tg, hCI⟩ : ∃ tg, CI σ_32 tg this 7 [229, 228, 227, 226, 225] I r_31 rq := ⟨_, CI_as hCI hs_z5 rfl (by decide +kernel) (Or.inl er_31) (Or.inl rfl) (by decide +kernel)⟩
  have hL_this := hCI.1.1
  have hK_this := hCI.1.2
  refine lv_aload_n hx hb dX7_init_48 rfl (lv_at hl 0 rfl) ?_
  refine lv_bipush (v := 12) hx hb dX7_init_49 (by decide +kernel) ?_
  refine nw_i (N' := 12) hx hb (hts _ (tw_c tw_33)) hK hP hD hS hA (by decide +kernel) (by decide +kernel) (Nat.le_of_ble_eq_true rfl) (Nat.le_of_ble_eq_true rfl) (Nat.le_of_ble_eq_true rfl) dX7_init_51 (fun q_36 r_38 H hq_37 er_38 hP hD hS => ?_)
  refine pr_F (q := q_36) (C := RX7) (T := TX7) (N := 15) hx hb hts (tw_i inlX7) tyX7 tyX7_ok nmX7 hown hK hP hD hS (As_in hL_this) (As_kk hq_37 hL_this hK_this) (by decide +kernel) rfl 6 230 (by decide +kernel) (hts _ (tw_c tw_66)) rfl hin rfl (tyX7_ok 6 (by decide +kernel)) rfl rfl (Nat.le_of_ble_eq_true rfl) (pr_230 _ _ _ _ _) dX7_init_53 (fun σ_39 H locs hp_40 hP hD hS => ?_)
  have hs_z6 := As_of hq_37 hp_40
  have hPX : PXe σ_39 I r_38 this := PXe_as hPX hCI hs_z6 (by decide +kernel) (Or.inl er_38)
  obtain ⟨tg, hCI⟩ : ∃ tg, CI σ_39 tg this 7 [230, 229, 228, 227, 226, 225] I r_38 rq := ⟨_, CI_as hCI hs_z6 rfl (by decide +kernel) (Or.inl er_38) (Or.inl rfl) (by decide +kernel)⟩
  have hL_this := hCI.1.1
  have hK_this := hCI.1.2
  refine lv_aload_n hx hb dX7_init_56 rfl (lv_at hl 0 rfl) ?_
  refine lv_bipush (v := 12) hx hb dX7_init_57 (by decide +kernel) ?_
  refine nw_i (N' := 12) hx hb (hts _ (tw_c tw_33)) hK hP hD hS hA (by decide +kernel) (by decide +kernel) (Nat.le_of_ble_eq_true rfl) (Nat.le_of_ble_eq_true rfl) (Nat.le_of_ble_eq_true rfl) dX7_init_59 (fun q_43 r_45 H hq_44 er_45 hP hD hS => ?_)
  refine pr_F (q := q_43) (C := RX7) (T := TX7) (N := 15) hx hb hts (tw_i inlX7) tyX7 tyX7_ok nmX7 hown hK hP hD hS (As_in hL_this) (As_kk hq_44 hL_this hK_this) (by decide +kernel) rfl 7 231 (by decide +kernel) (hts _ (tw_c tw_67)) rfl hin rfl (tyX7_ok 7 (by decide +kernel)) rfl rfl (Nat.le_of_ble_eq_true rfl) (pr_231 _ _ _ _ _) dX7_init_61 (fun σ_46 H locs hp_47 hP hD hS => ?_)
  have hs_z7 := As_of hq_44 hp_47
  have hPX : PXe σ_46 I r_45 this := PXe_as hPX hCI hs_z7 (by decide +kernel) (Or.inl er_45)
  obtain ⟨tg, hCI⟩ : ∃ tg, CI σ_46 tg this 7 [231, 230, 229, 228, 227, 226, 225] I r_45 rq := ⟨_, CI_as hCI hs_z7 rfl (by decide +kernel) (Or.inl er_45) (Or.inl rfl) (by decide +kernel)⟩
  have hL_this := hCI.1.1
  have hK_this := hCI.1.2
  refine lv_aload_n hx hb dX7_init_64 rfl (lv_at hl 0 rfl) ?_
  refine lv_bipush (v := 12) hx hb dX7_init_65 (by decide +kernel) ?_
  refine nw_i (N' := 12) hx hb (hts _ (tw_c tw_33)) hK hP hD hS hA (by decide +kernel) (by decide +kernel) (Nat.le_of_ble_eq_true rfl) (Nat.le_of_ble_eq_true rfl) (Nat.le_of_ble_eq_true rfl) dX7_init_67 (fun q_50 r_52 H hq_51 er_52 hP hD hS => ?_)
  refine pr_F (q := q_50) (C := RX7) (T := TX7) (N := 15) hx hb hts (tw_i inlX7) tyX7 tyX7_ok nmX7 hown hK hP hD hS (As_in hL_this) (As_kk hq_51 hL_this hK_this) (by decide +kernel) rfl 8 232 (by decide +kernel) (hts _ (tw_c tw_68)) rfl hin rfl (tyX7_ok 8 (by decide +kernel)) rfl rfl (Nat.le_of_ble_eq_true rfl) (pr_232 _ _ _ _ _) dX7_init_69 (fun σ_53 H locs hp_54 hP hD hS => ?_)
  have hs_z8 := As_of hq_51 hp_54
  have hPX : PXe σ_53 I r_52 this := PXe_as hPX hCI hs_z8 (by decide +kernel) (Or.inl er_52)
  obtain ⟨tg, hCI⟩ : ∃ tg, CI σ_53 tg this 7 [232, 231, 230, 229, 228, 227, 226, 225] I r_52 rq := ⟨_, CI_as hCI hs_z8 rfl (by decide +kernel) (Or.inl er_52) (Or.inl rfl) (by decide +kernel)⟩
  have hL_this := hCI.1.1
  have hK_this := hCI.1.2
  refine lv_aload_n hx hb dX7_init_72 rfl (lv_at hl 0 rfl) ?_
  refine lv_bipush (v := 12) hx hb dX7_init_73 (by decide +kernel) ?_
  refine nw_i (N' := 12) hx hb (hts _ (tw_c tw_33)) hK hP hD hS hA (by decide +kernel) (by decide +kernel) (Nat.le_of_ble_eq_true rfl) (Nat.le_of_ble_eq_true rfl) (Nat.le_of_ble_eq_true rfl) dX7_init_75 (fun q_57 r_59 H hq_58 er_59 hP hD hS => ?_)
  refine pr_F (q := q_57) (C := RX7) (T := TX7) (N := 15) hx hb hts (tw_i inlX7) tyX7 tyX7_ok nmX7 hown hK hP hD hS (As_in hL_this) (As_kk hq_58 hL_this hK_this) (by decide +kernel) rfl 9 233 (by decide +kernel) (hts _ (tw_c tw_69)) rfl hin rfl (tyX7_ok 9 (by decide +kernel)) rfl rfl (Nat.le_of_ble_eq_true rfl) (pr_233 _ _ _ _ _) dX7_init_77 (fun σ_60 H locs hp_61 hP hD hS => ?_)
  have hs_z9 := As_of hq_58 hp_61
  have hPX : PXe σ_60 I r_59 this := PXe_as hPX hCI hs_z9 (by decide +kernel) (Or.inl er_59)
  obtain ⟨tg, hCI⟩ : ∃ tg, CI σ_60 tg this 7 [233, 232, 231, 230, 229, 228, 227, 226, 225] I r_59 rq := ⟨_, CI_as hCI hs_z9 rfl (by decide +kernel) (Or.inl er_59) (Or.inl rfl) (by decide +kernel)⟩
  have hL_this := hCI.1.1
  have hK_this := hCI.1.2
  refine lv_aload_n hx hb dX7_init_80 rfl (lv_at hl 0 rfl) ?_
  refine lv_bipush (v := 29) hx hb dX7_init_81 (by decide +kernel) ?_
  refine pp_i (v := 29) (ty := .int) (C := RX7) (T := TX7) (N := 15) hx hb hts (tw_i inlX7) tyX7 tyX7_ok nmX7 hown hK hP hD hS hL_this hK_this (by decide +kernel) rfl 10 234 (by decide +kernel) (hts _ (tw_c tw_70)) rfl (tyX7_ok 10 (by decide +kernel)) rfl rfl (Nat.le_of_ble_eq_true rfl) (ps_234 _ _ _ _ _) dX7_init_83 (fun I_64 H locs eI_64 hP hD hS => ?_)
  have hPX : PXe σ_60 I_64 r_59 this := PXe_put hPX eI_64
  have hi234 : I_64 234 this = 29 := by rw [eI_64, pq_us]
  have hCI : CI σ_60 tg this 7 [233, 232, 231, 230, 229, 228, 227, 226, 225] I_64 r_59 rq := CI_put hCI eI_64 (lo := (-2147483648)) (hi := 2147483647) rfl (rg_w (rg_k (29 : Int32) 29 rfl) (by decide +kernel)) (by decide +kernel)
  refine lv_aload_n hx hb dX7_init_86 rfl (lv_at hl 0 rfl) ?_
  refine lv_iconst (v := 1) hx hb dX7_init_87 (by decide +kernel) ?_
  refine pp_i (v := 1) (ty := .int) (C := RX7) (T := TX7) (N := 15) hx hb hts (tw_i inlX7) tyX7 tyX7_ok nmX7 hown hK hP hD hS hL_this hK_this (by decide +kernel) rfl 11 235 (by decide +kernel) (hts _ (tw_c tw_71)) rfl (tyX7_ok 11 (by decide +kernel)) rfl rfl (Nat.le_of_ble_eq_true rfl) (ps_235 _ _ _ _ _) dX7_init_88 (fun I_65 H locs eI_65 hP hD hS => ?_)
  have hPX : PXe σ_60 I_65 r_59 this := PXe_put hPX eI_65
  have hi234 : I_65 234 this = 29 := by rw [eI_65, pq_uf _ _ _ (by decide +kernel)]; exact hi234
  have hi235 : I_65 235 this = 1 := by rw [eI_65, pq_us]
  have hCI : CI σ_60 tg this 7 [233, 232, 231, 230, 229, 228, 227, 226, 225] I_65 r_59 rq := CI_put hCI eI_65 (lo := (-2147483648)) (hi := 2147483647) rfl (rg_w (rg_k (1 : Int32) 1 rfl) (by decide +kernel)) (by decide +kernel)
  refine lv_aload_n hx hb dX7_init_91 rfl (lv_at hl 0 rfl) ?_
  refine lv_bipush (v := 10) hx hb dX7_init_92 (by decide +kernel) ?_
  refine pp_i (v := 10) (ty := .int) (C := RX7) (T := TX7) (N := 15) hx hb hts (tw_i inlX7) tyX7 tyX7_ok nmX7 hown hK hP hD hS hL_this hK_this (by decide +kernel) rfl 12 236 (by decide +kernel) (hts _ (tw_c tw_72)) rfl (tyX7_ok 12 (by decide +kernel)) rfl rfl (Nat.le_of_ble_eq_true rfl) (ps_236 _ _ _ _ _) dX7_init_94 (fun I_66 H locs eI_66 hP hD hS => ?_)
  have hPX : PXe σ_60 I_66 r_59 this := PXe_put hPX eI_66
  have hi234 : I_66 234 this = 29 := by rw [eI_66, pq_uf _ _ _ (by decide +kernel)]; exact hi234
  have hi235 : I_66 235 this = 1 := by rw [eI_66, pq_uf _ _ _ (by decide +kernel)]; exact hi235
  have hi236 : I_66 236 this = 10 := by rw [eI_66, pq_us]
  have hCI : CI σ_60 tg this 7 [233, 232, 231, 230, 229, 228, 227, 226, 225] I_66 r_59 rq := CI_put hCI eI_66 (lo := (-2147483648)) (hi := 2147483647) rfl (rg_w (rg_k (10 : Int32) 10 rfl) (by decide +kernel)) (by decide +kernel)
  refine lv_aload_n hx hb dX7_init_97 rfl (lv_at hl 0 rfl) ?_
  refine lv_iconst (v := 3) hx hb dX7_init_98 (by decide +kernel) ?_
  refine pp_i (v := 3) (ty := .int) (C := RX7) (T := TX7) (N := 15) hx hb hts (tw_i inlX7) tyX7 tyX7_ok nmX7 hown hK hP hD hS hL_this hK_this (by decide +kernel) rfl 13 237 (by decide +kernel) (hts _ (tw_c tw_73)) rfl (tyX7_ok 13 (by decide +kernel)) rfl rfl (Nat.le_of_ble_eq_true rfl) (ps_237 _ _ _ _ _) dX7_init_99 (fun I_67 H locs eI_67 hP hD hS => ?_)
  have hPX : PXe σ_60 I_67 r_59 this := PXe_put hPX eI_67
  have hi234 : I_67 234 this = 29 := by rw [eI_67, pq_uf _ _ _ (by decide +kernel)]; exact hi234
  have hi235 : I_67 235 this = 1 := by rw [eI_67, pq_uf _ _ _ (by decide +kernel)]; exact hi235
  have hi236 : I_67 236 this = 10 := by rw [eI_67, pq_uf _ _ _ (by decide +kernel)]; exact hi236
  have hCI : CI σ_60 tg this 7 [233, 232, 231, 230, 229, 228, 227, 226, 225] I_67 r_59 rq := CI_put hCI eI_67 (lo := 0) (hi := 20) rfl (rg_w (rg_k (3 : Int32) 3 rfl) (by decide +kernel)) (by decide +kernel)
  refine lv_aload_n hx hb dX7_init_102 rfl (lv_at hl 0 rfl) ?_
  refine lv_iconst (v := 5) hx hb dX7_init_103 (by decide +kernel) ?_
  refine pp_i (v := 5) (ty := .int) (C := RX7) (T := TX7) (N := 15) hx hb hts (tw_i inlX7) tyX7 tyX7_ok nmX7 hown hK hP hD hS hL_this hK_this (by decide +kernel) rfl 14 238 (by decide +kernel) (hts _ (tw_c tw_74)) rfl (tyX7_ok 14 (by decide +kernel)) rfl rfl (Nat.le_of_ble_eq_true rfl) (ps_238 _ _ _ _ _) dX7_init_104 (fun I_68 H locs eI_68 hP hD hS => ?_)
  have hPX : PXe σ_60 I_68 r_59 this := PXe_put hPX eI_68
  have hi234 : I_68 234 this = 29 := by rw [eI_68, pq_uf _ _ _ (by decide +kernel)]; exact hi234
  have hi235 : I_68 235 this = 1 := by rw [eI_68, pq_uf _ _ _ (by decide +kernel)]; exact hi235
  have hi236 : I_68 236 this = 10 := by rw [eI_68, pq_uf _ _ _ (by decide +kernel)]; exact hi236
  have hCI : CI σ_60 tg this 7 [233, 232, 231, 230, 229, 228, 227, 226, 225] I_68 r_59 rq := CI_put hCI eI_68 (lo := (-2147483648)) (hi := 2147483647) rfl (rg_w (rg_k (5 : Int32) 5 rfl) (by decide +kernel)) (by decide +kernel)
  refine lv_aload_n hx hb dX7_init_107 rfl (lv_at hl 0 rfl) ?_
  have hDN := CI_done hCI (by decide +kernel) (by decide +kernel)
  obtain ⟨w_69, hR_w_69, hL_w_69, hK_w_69, hN_w_69, hT_w_69⟩ := sh_a hDN.1 230 (ci := 7) (kd := 13) (len := 12) rfl (by decide +kernel) hL_this hK_this
  refine pg_f (v := .ref w_69) (C := RX7) (T := TX7) (N := 15) hx hb hts (tw_i inlX7) hown hK hP hL_this hK_this (by decide +kernel) rfl 6 (by decide +kernel) (hts _ (tw_c tw_66)) (pq_hv rfl hR_w_69) dX7_init_108 ?_
  refine lv_sipush (v := 500) hx hb dX7_init_111 (by decide +kernel) ?_
  refine pk_v (va_runSN (As := [.ref w_69, .int 500]) (rest := []) ⟨hx, hb, hml, hown, hts⟩ (s_X11_fill_230 l D t σ_60 I_68 J r_59 rj rq H.size tg hDN.1 (DN_gs hDN) w_69 (500 : Int32) hL_w_69 hK_w_69 hN_w_69 hT_w_69) ⟨va_cnB (host := "RingsUnder") 2 hts (tw_W tw_76) rfl rfl rfl (nl_0 hN) (hts _ (tw_c tw_2)) cd_yX11_fill_2 ⟨Nat.le_of_ble_eq_true rfl, Nat.le_of_ble_eq_true rfl⟩, hts (.static yX11_fill) (tw_c tq_static_yX11_fill), trivial⟩ ⟨pq_blind, pq_pre hK hN hP hD⟩ rfl rfl hl.1 rfl (lv_room (Nat.le_of_ble_eq_true rfl)) dX7_init_114 ⟨Nat.le_of_ble_eq_true rfl, Nat.le_of_ble_eq_true rfl⟩) hD hS hA (fun σ1 μ1 H locs hw hP hD hS => ?_)
  obtain ⟨ri_z10, hu, hg, he_z11⟩ := hw
  obtain ⟨hua, hub⟩ := Prod.mk.inj hu
  rw [hua, hub] at hP hD
  have hPX : PXe σ_60 I_68 ri_z10 this := PXe_fill hPX hDN.2.2 hL_this (by rw [hK_this]; rfl) hR_w_69 he_z11
  have hDN := DN_fill hDN hg he_z11 hT_w_69 (by decide +kernel)
  refine lv_aload_n hx hb dX7_init_117 rfl (lv_at hl 0 rfl) ?_
  obtain ⟨w_75, hR_w_75, hL_w_75, hK_w_75, hN_w_75, hT_w_75⟩ := sh_a hDN.1 231 (ci := 7) (kd := 13) (len := 12) rfl (by decide +kernel) hL_this hK_this
  refine pg_f (v := .ref w_75) (C := RX7) (T := TX7) (N := 15) hx hb hts (tw_i inlX7) hown hK hP hL_this hK_this (by decide +kernel) rfl 7 (by decide +kernel) (hts _ (tw_c tw_67)) (pq_hv rfl hR_w_75) dX7_init_118 ?_
  refine lv_bipush (v := 25) hx hb dX7_init_121 (by decide +kernel) ?_
  refine pk_v (va_runSN (As := [.ref w_75, .int 25]) (rest := []) ⟨hx, hb, hml, hown, hts⟩ (s_X11_fill_231 l D t σ_60 I_68 J ri_z10 rj rq H.size tg hDN.1 (DN_gs hDN) w_75 (25 : Int32) hL_w_75 hK_w_75 hN_w_75 hT_w_75) ⟨va_cnB (host := "RingsUnder") 2 hts (tw_W tw_76) rfl rfl rfl (nl_0 hN) (hts _ (tw_c tw_2)) cd_yX11_fill_2 ⟨Nat.le_of_ble_eq_true rfl, Nat.le_of_ble_eq_true rfl⟩, hts (.static yX11_fill) (tw_c tq_static_yX11_fill), trivial⟩ ⟨pq_blind, pq_pre hK hN hP hD⟩ rfl rfl hl.1 rfl (lv_room (Nat.le_of_ble_eq_true rfl)) dX7_init_123 ⟨Nat.le_of_ble_eq_true rfl, Nat.le_of_ble_eq_true rfl⟩) hD hS hA (fun σ1 μ1 H locs hw hP hD hS => ?_)
  obtain ⟨ri_z12, hu, hg, he_z13⟩ := hw
  obtain ⟨hua, hub⟩ := Prod.mk.inj hu
  rw [hua, hub] at hP hD
  have hPX : PXe σ_60 I_68 ri_z12 this := PXe_fill hPX hDN.2.2 hL_this (by rw [hK_this]; rfl) hR_w_75 he_z13
  have hDN := DN_fill hDN hg he_z13 hT_w_75 (by decide +kernel)
  refine lv_aload_n hx hb dX7_init_126 rfl (lv_at hl 0 rfl) ?_
  obtain ⟨w_81, hR_w_81, hL_w_81, hK_w_81, hN_w_81, hT_w_81⟩ := sh_a hDN.1 232 (ci := 7) (kd := 13) (len := 12) rfl (by decide +kernel) hL_this hK_this
  refine pg_f (v := .ref w_81) (C := RX7) (T := TX7) (N := 15) hx hb hts (tw_i inlX7) hown hK hP hL_this hK_this (by decide +kernel) rfl 8 (by decide +kernel) (hts _ (tw_c tw_68)) (pq_hv rfl hR_w_81) dX7_init_127 ?_
  refine lv_iconst (v := 5) hx hb dX7_init_130 (by decide +kernel) ?_
  refine pk_v (va_runSN (As := [.ref w_81, .int 5]) (rest := []) ⟨hx, hb, hml, hown, hts⟩ (s_X11_fill_232 l D t σ_60 I_68 J ri_z12 rj rq H.size tg hDN.1 (DN_gs hDN) w_81 (5 : Int32) hL_w_81 hK_w_81 hN_w_81 hT_w_81) ⟨va_cnB (host := "RingsUnder") 2 hts (tw_W tw_76) rfl rfl rfl (nl_0 hN) (hts _ (tw_c tw_2)) cd_yX11_fill_2 ⟨Nat.le_of_ble_eq_true rfl, Nat.le_of_ble_eq_true rfl⟩, hts (.static yX11_fill) (tw_c tq_static_yX11_fill), trivial⟩ ⟨pq_blind, pq_pre hK hN hP hD⟩ rfl rfl hl.1 rfl (lv_room (Nat.le_of_ble_eq_true rfl)) dX7_init_131 ⟨Nat.le_of_ble_eq_true rfl, Nat.le_of_ble_eq_true rfl⟩) hD hS hA (fun σ1 μ1 H locs hw hP hD hS => ?_)
  obtain ⟨ri_z14, hu, hg, he_z15⟩ := hw
  obtain ⟨hua, hub⟩ := Prod.mk.inj hu
  rw [hua, hub] at hP hD
  have hPX : PXe σ_60 I_68 ri_z14 this := PXe_fill hPX hDN.2.2 hL_this (by rw [hK_this]; rfl) hR_w_81 he_z15
  have hDN := DN_fill hDN hg he_z15 hT_w_81 (by decide +kernel)
  refine lv_aload_n hx hb dX7_init_134 rfl (lv_at hl 0 rfl) ?_
  obtain ⟨w_87, hR_w_87, hL_w_87, hK_w_87, hN_w_87, hT_w_87⟩ := sh_a hDN.1 233 (ci := 7) (kd := 13) (len := 12) rfl (by decide +kernel) hL_this hK_this
  refine pg_f (v := .ref w_87) (C := RX7) (T := TX7) (N := 15) hx hb hts (tw_i inlX7) hown hK hP hL_this hK_this (by decide +kernel) rfl 9 (by decide +kernel) (hts _ (tw_c tw_69)) (pq_hv rfl hR_w_87) dX7_init_135 ?_
  refine lv_bipush (v := 20) hx hb dX7_init_138 (by decide +kernel) ?_
  refine pk_v (va_runSN (As := [.ref w_87, .int 20]) (rest := []) ⟨hx, hb, hml, hown, hts⟩ (s_X11_fill_233 l D t σ_60 I_68 J ri_z14 rj rq H.size tg hDN.1 (DN_gs hDN) w_87 (20 : Int32) hL_w_87 hK_w_87 hN_w_87 hT_w_87) ⟨va_cnB (host := "RingsUnder") 2 hts (tw_W tw_76) rfl rfl rfl (nl_0 hN) (hts _ (tw_c tw_2)) cd_yX11_fill_2 ⟨Nat.le_of_ble_eq_true rfl, Nat.le_of_ble_eq_true rfl⟩, hts (.static yX11_fill) (tw_c tq_static_yX11_fill), trivial⟩ ⟨pq_blind, pq_pre hK hN hP hD⟩ rfl rfl hl.1 rfl (lv_room (Nat.le_of_ble_eq_true rfl)) dX7_init_140 ⟨Nat.le_of_ble_eq_true rfl, Nat.le_of_ble_eq_true rfl⟩) hD hS hA (fun σ1 μ1 H locs hw hP hD hS => ?_)
  obtain ⟨ri_z16, hu, hg, he_z17⟩ := hw
  obtain ⟨hua, hub⟩ := Prod.mk.inj hu
  rw [hua, hub] at hP hD
  have hPX : PXe σ_60 I_68 ri_z16 this := PXe_fill hPX hDN.2.2 hL_this (by rw [hK_this]; rfl) hR_w_87 he_z17
  have hDN := DN_fill hDN hg he_z17 hT_w_87 (by decide +kernel)
  have px230 : ∀ q, σ_60.2.2.1 230 this = some q → ∀ j, j < 12 → ri_z16 q j = 500 := fun q hq j hj => by
    rw [hR_w_69] at hq
    rw [← Option.some.inj hq]
    rw [fil_ne he_z17 (fun y => absurd (hT_w_69.symm.trans ((congrArg tg y).trans hT_w_87)) (by decide +kernel))]
    rw [fil_ne he_z15 (fun y => absurd (hT_w_69.symm.trans ((congrArg tg y).trans hT_w_81)) (by decide +kernel))]
    rw [fil_ne he_z13 (fun y => absurd (hT_w_69.symm.trans ((congrArg tg y).trans hT_w_75)) (by decide +kernel))]
    exact fil_at he_z11 hj
  have px231 : ∀ q, σ_60.2.2.1 231 this = some q → ∀ j, j < 12 → ri_z16 q j = 25 := fun q hq j hj => by
    rw [hR_w_75] at hq
    rw [← Option.some.inj hq]
    rw [fil_ne he_z17 (fun y => absurd (hT_w_75.symm.trans ((congrArg tg y).trans hT_w_87)) (by decide +kernel))]
    rw [fil_ne he_z15 (fun y => absurd (hT_w_75.symm.trans ((congrArg tg y).trans hT_w_81)) (by decide +kernel))]
    exact fil_at he_z13 hj
  have px232 : ∀ q, σ_60.2.2.1 232 this = some q → ∀ j, j < 12 → ri_z16 q j = 5 := fun q hq j hj => by
    rw [hR_w_81] at hq
    rw [← Option.some.inj hq]
    rw [fil_ne he_z17 (fun y => absurd (hT_w_81.symm.trans ((congrArg tg y).trans hT_w_87)) (by decide +kernel))]
    exact fil_at he_z15 hj
  have hPo : PXo σ_60 I_68 ri_z16 this := ⟨fun e => absurd (hK_this.symm.trans e) (by decide +kernel), fun _ => ⟨⟨hi234, hi235, hi236⟩, px230, px231, px232⟩, fun e => absurd (hK_this.symm.trans e) (by decide +kernel)⟩
  exact W.vret hx hb hr (fun t1 ht hW => ⟨⟨(σ_60, I_68, J, ri_z16, rj, rq), rfl, ⟨σ_60, I_68, J, ri_z16, rj, rq, tg, rfl, hDN, hL_this, hK_this, hCI.2.2.2.2.2.2, PXe_all hPX hPo⟩, by rw [ht]; exact hP, va_K.moved hW.alike hK, hD⟩, hS.F ht⟩) hS.2.2 dX7_init_143

set_option maxHeartbeats 8000000 in
set_option maxRecDepth 100000 in
theorem s_X3_init (l : Launch) (D : va_G) (t : pq_T) (σ : pq_S) (I : Nat → Nat → Int32) (J : Nat → Nat → Int64) (ri : Nat → Nat → Int32) (rj : Nat → Nat → Int64) (rq : Nat → Nat → Option Nat) (sz : Nat) (this : Nat) (h0 : σ = pq_T1 this 3) (hI0 : I = (fun _ _ => 0)) (hr0 : ri = (fun _ _ => 0)) (hq0 : rq = fun _ _ => none) : MetV l yX3_init (wa yX3_init cX3_init 1 none) ({ frames := 1, cells := 6, slots := 146, locals := 20 }) [.ref this] D t σ (I, J, ri, rj, rq) sz 6 146 (fun (u : pq_S × pq_M) => ∃ (σ' : pq_S) (I' : Nat → Nat → Int32) (J' : Nat → Nat → Int64) (ri' : Nat → Nat → Int32) (rj' : Nat → Nat → Int64) (rq' : Nat → Nat → Option Nat) (tg' : Nat → Nat), u = (σ', I', J', ri', rj', rq') ∧ DN σ' tg' I' ri' rq' ∧ this ∈ σ'.1 ∧ σ'.2.1 this = 3 ∧ NR σ' this ∧ PXa σ' I' ri') := by
  refine Met.ofW (cc := cX3_init) (maxL := 1) (ret := none) (by decide +kernel) rfl ?_
  intro p e s m args below meth c s₁ B hml hv
  obtain ⟨rfl, hsz, hP, hK, hD0, hN⟩ := hv
  have hx := B.exec
  have hb := B.bytes
  have hr := B.returns
  have hts := atoms_spec (ws := (wa yX3_init cX3_init 1 none)) B.pre
  have hown : s.vm.findClass RX3 = some m.cls := findClass_of_methodNamed B.named
  have hlocks := B.notSynchronized
  have hin : meth.name = "<init>" := (name_of_methodNamed B.named B.method).1
  subst hsz
  have hD : va_D (pq_B t σ (I, J, ri, rj, rq) s.heap.size) (pq_P t σ (I, J, ri, rj, rq)) := hD0.self
  generalize hAe : pq_B t σ (I, J, ri, rj, rq) s.heap.size = A at hD ⊢
  have hA : ∀ q : Nat, s.heap.size ≤ q → A q := fun q h => by rw [← hAe]; exact Or.inr h
  have hS : va_S A s.heap s.heap [] := va_S.rf
  have hl := lv_entry ([.ref this]) (n := 1) (Nat.le_of_ble_eq_true rfl)
  rw [lg_entry_eq]
  generalize (lg_sl ([.ref this]) ++ List.replicate (1 - (lg_sl ([.ref this])).length) Slot.unset).toArray = ls at hl ⊢
  have hl : lv_has ls 1 [(0, .ref this)] := hl
  have hL_this : this ∈ σ.1 := by rw [h0]; exact List.mem_singleton.mpr rfl
  have hK_this : σ.2.1 this = 3 := by rw [h0]; rfl
  obtain ⟨tg, hCI⟩ : ∃ tg, CI σ tg this 3 [] I ri rq := ⟨_, by rw [h0, hI0, hr0, hq0]; exact CI_0 this 3⟩
  have hPX : PXe σ I ri this := PXe_0 (h0 := h0)
  refine lv_aload_n hx hb dX3_init_0 rfl (lv_at hl 0 rfl) ?_
  refine W.objInit hx hb hown (hts _ (tw_c tw_126)) (hts _ (tw_c tw_11)) (hts _ (tw_c tw_12)) rfl (by rw [hml]; exact hl.1) rfl dX3_init_1 (Nat.le_of_ble_eq_true rfl) (Nat.le_of_ble_eq_true rfl) ?_
  refine W.eq (g2 := F0 m 4 ls []) rfl ?_
  refine lv_aload_n hx hb dX3_init_4 rfl (lv_at hl 0 rfl) ?_
  refine lv_bipush (v := 10) hx hb dX3_init_5 (by decide +kernel) ?_
  refine nw_q (N' := 10) hx hb hown (hts _ (tw_c tw_127)) hN.2 hK hP hD hS hA (by decide +kernel) (by decide +kernel) (Nat.le_of_ble_eq_true rfl) (Nat.le_of_ble_eq_true rfl) (Nat.le_of_ble_eq_true rfl) dX3_init_7 (fun q_1 r_3 H hq_2 er_3 hP hD hS => ?_)
  refine pr_F (q := q_1) (C := RX3) (T := TX3) (N := 8) hx hb hts (tw_i inlX3) tyX3 tyX3_ok nmX3 hown hK hP hD hS (As_in hL_this) (As_kk hq_2 hL_this hK_this) (by decide +kernel) rfl 1 97 (by decide +kernel) (hts _ (tw_c tw_128)) rfl hin rfl (tyX3_ok 1 (by decide +kernel)) rfl rfl (Nat.le_of_ble_eq_true rfl) (pr_97 _ _ _ _ _) dX3_init_10 (fun σ_5 H locs hp_6 hP hD hS => ?_)
  have hs_z1 := As_of hq_2 hp_6
  have hPX : PXe σ_5 I ri this := PXe_as hPX hCI hs_z1 (by decide +kernel) (Or.inr rfl)
  obtain ⟨tg, hCI⟩ : ∃ tg, CI σ_5 tg this 3 [97] I ri r_3 := ⟨_, CI_as hCI hs_z1 rfl (by decide +kernel) (Or.inr ⟨rfl, rfl, by decide +kernel⟩) (Or.inr er_3) (by decide +kernel)⟩
  have hL_this := hCI.1.1
  have hK_this := hCI.1.2
  refine lv_aload_n hx hb dX3_init_13 rfl (lv_at hl 0 rfl) ?_
  refine lv_bipush (v := 30) hx hb dX3_init_14 (by decide +kernel) ?_
  refine nw_i (N' := 30) hx hb (hts _ (tw_c tw_33)) hK hP hD hS hA (by decide +kernel) (by decide +kernel) (Nat.le_of_ble_eq_true rfl) (Nat.le_of_ble_eq_true rfl) (Nat.le_of_ble_eq_true rfl) dX3_init_16 (fun q_9 r_11 H hq_10 er_11 hP hD hS => ?_)
  refine pr_F (q := q_9) (C := RX3) (T := TX3) (N := 8) hx hb hts (tw_i inlX3) tyX3 tyX3_ok nmX3 hown hK hP hD hS (As_in hL_this) (As_kk hq_10 hL_this hK_this) (by decide +kernel) rfl 3 99 (by decide +kernel) (hts _ (tw_c tw_129)) rfl hin rfl (tyX3_ok 3 (by decide +kernel)) rfl rfl (Nat.le_of_ble_eq_true rfl) (pr_99 _ _ _ _ _) dX3_init_18 (fun σ_12 H locs hp_13 hP hD hS => ?_)
  have hs_z2 := As_of hq_10 hp_13
  have hPX : PXe σ_12 I r_11 this := PXe_as hPX hCI hs_z2 (by decide +kernel) (Or.inl er_11)
  obtain ⟨tg, hCI⟩ : ∃ tg, CI σ_12 tg this 3 [99, 97] I r_11 r_3 := ⟨_, CI_as hCI hs_z2 rfl (by decide +kernel) (Or.inl er_11) (Or.inl rfl) (by decide +kernel)⟩
  have hL_this := hCI.1.1
  have hK_this := hCI.1.2
  refine lv_aload_n hx hb dX3_init_21 rfl (lv_at hl 0 rfl) ?_
  refine lv_bipush (v := 30) hx hb dX3_init_22 (by decide +kernel) ?_
  refine nw_i (N' := 30) hx hb (hts _ (tw_c tw_33)) hK hP hD hS hA (by decide +kernel) (by decide +kernel) (Nat.le_of_ble_eq_true rfl) (Nat.le_of_ble_eq_true rfl) (Nat.le_of_ble_eq_true rfl) dX3_init_24 (fun q_16 r_18 H hq_17 er_18 hP hD hS => ?_)
  refine pr_F (q := q_16) (C := RX3) (T := TX3) (N := 8) hx hb hts (tw_i inlX3) tyX3 tyX3_ok nmX3 hown hK hP hD hS (As_in hL_this) (As_kk hq_17 hL_this hK_this) (by decide +kernel) rfl 4 100 (by decide +kernel) (hts _ (tw_c tw_130)) rfl hin rfl (tyX3_ok 4 (by decide +kernel)) rfl rfl (Nat.le_of_ble_eq_true rfl) (pr_100 _ _ _ _ _) dX3_init_26 (fun σ_19 H locs hp_20 hP hD hS => ?_)
  have hs_z3 := As_of hq_17 hp_20
  have hPX : PXe σ_19 I r_18 this := PXe_as hPX hCI hs_z3 (by decide +kernel) (Or.inl er_18)
  obtain ⟨tg, hCI⟩ : ∃ tg, CI σ_19 tg this 3 [100, 99, 97] I r_18 r_3 := ⟨_, CI_as hCI hs_z3 rfl (by decide +kernel) (Or.inl er_18) (Or.inl rfl) (by decide +kernel)⟩
  have hL_this := hCI.1.1
  have hK_this := hCI.1.2
  refine lv_aload_n hx hb dX3_init_29 rfl (lv_at hl 0 rfl) ?_
  refine lv_bipush (v := 30) hx hb dX3_init_30 (by decide +kernel) ?_
  refine nw_i (N' := 30) hx hb (hts _ (tw_c tw_33)) hK hP hD hS hA (by decide +kernel) (by decide +kernel) (Nat.le_of_ble_eq_true rfl) (Nat.le_of_ble_eq_true rfl) (Nat.le_of_ble_eq_true rfl) dX3_init_32 (fun q_23 r_25 H hq_24 er_25 hP hD hS => ?_)
  refine pr_F (q := q_23) (C := RX3) (T := TX3) (N := 8) hx hb hts (tw_i inlX3) tyX3 tyX3_ok nmX3 hown hK hP hD hS (As_in hL_this) (As_kk hq_24 hL_this hK_this) (by decide +kernel) rfl 5 101 (by decide +kernel) (hts _ (tw_c tw_131)) rfl hin rfl (tyX3_ok 5 (by decide +kernel)) rfl rfl (Nat.le_of_ble_eq_true rfl) (pr_101 _ _ _ _ _) dX3_init_34 (fun σ_26 H locs hp_27 hP hD hS => ?_)
  have hs_z4 := As_of hq_24 hp_27
  have hPX : PXe σ_26 I r_25 this := PXe_as hPX hCI hs_z4 (by decide +kernel) (Or.inl er_25)
  obtain ⟨tg, hCI⟩ : ∃ tg, CI σ_26 tg this 3 [101, 100, 99, 97] I r_25 r_3 := ⟨_, CI_as hCI hs_z4 rfl (by decide +kernel) (Or.inl er_25) (Or.inl rfl) (by decide +kernel)⟩
  have hL_this := hCI.1.1
  have hK_this := hCI.1.2
  refine lv_aload_n hx hb dX3_init_37 rfl (lv_at hl 0 rfl) ?_
  refine lv_bipush (v := 6) hx hb dX3_init_38 (by decide +kernel) ?_
  refine nw_i (N' := 6) hx hb (hts _ (tw_c tw_33)) hK hP hD hS hA (by decide +kernel) (by decide +kernel) (Nat.le_of_ble_eq_true rfl) (Nat.le_of_ble_eq_true rfl) (Nat.le_of_ble_eq_true rfl) dX3_init_40 (fun q_30 r_32 H hq_31 er_32 hP hD hS => ?_)
  refine pr_F (q := q_30) (C := RX3) (T := TX3) (N := 8) hx hb hts (tw_i inlX3) tyX3 tyX3_ok nmX3 hown hK hP hD hS (As_in hL_this) (As_kk hq_31 hL_this hK_this) (by decide +kernel) rfl 6 102 (by decide +kernel) (hts _ (tw_c tw_132)) rfl hin rfl (tyX3_ok 6 (by decide +kernel)) rfl rfl (Nat.le_of_ble_eq_true rfl) (pr_102 _ _ _ _ _) dX3_init_42 (fun σ_33 H locs hp_34 hP hD hS => ?_)
  have hs_z5 := As_of hq_31 hp_34
  have hPX : PXe σ_33 I r_32 this := PXe_as hPX hCI hs_z5 (by decide +kernel) (Or.inl er_32)
  obtain ⟨tg, hCI⟩ : ∃ tg, CI σ_33 tg this 3 [102, 101, 100, 99, 97] I r_32 r_3 := ⟨_, CI_as hCI hs_z5 rfl (by decide +kernel) (Or.inl er_32) (Or.inl rfl) (by decide +kernel)⟩
  have hL_this := hCI.1.1
  have hK_this := hCI.1.2
  refine lv_aload_n hx hb dX3_init_45 rfl (lv_at hl 0 rfl) ?_
  refine lv_bipush (v := 40) hx hb dX3_init_46 (by decide +kernel) ?_
  refine nw_i (N' := 40) hx hb (hts _ (tw_c tw_33)) hK hP hD hS hA (by decide +kernel) (by decide +kernel) (Nat.le_of_ble_eq_true rfl) (Nat.le_of_ble_eq_true rfl) (Nat.le_of_ble_eq_true rfl) dX3_init_48 (fun q_37 r_39 H hq_38 er_39 hP hD hS => ?_)
  refine pr_F (q := q_37) (C := RX3) (T := TX3) (N := 8) hx hb hts (tw_i inlX3) tyX3 tyX3_ok nmX3 hown hK hP hD hS (As_in hL_this) (As_kk hq_38 hL_this hK_this) (by decide +kernel) rfl 7 103 (by decide +kernel) (hts _ (tw_c tw_133)) rfl hin rfl (tyX3_ok 7 (by decide +kernel)) rfl rfl (Nat.le_of_ble_eq_true rfl) (pr_103 _ _ _ _ _) dX3_init_50 (fun σ_40 H locs hp_41 hP hD hS => ?_)
  have hs_z6 := As_of hq_38 hp_41
  have hPX : PXe σ_40 I r_39 this := PXe_as hPX hCI hs_z6 (by decide +kernel) (Or.inl er_39)
  obtain ⟨tg, hCI⟩ : ∃ tg, CI σ_40 tg this 3 [103, 102, 101, 100, 99, 97] I r_39 r_3 := ⟨_, CI_as hCI hs_z6 rfl (by decide +kernel) (Or.inl er_39) (Or.inl rfl) (by decide +kernel)⟩
  have hL_this := hCI.1.1
  have hK_this := hCI.1.2
  have hDN := CI_done hCI (by decide +kernel) (by decide +kernel)
  have hPo : PXo σ_40 I r_39 this := PX_no (by rw [hK_this]; decide) (by rw [hK_this]; decide) (by rw [hK_this]; decide)
  exact W.vret hx hb hr (fun t1 ht hW => ⟨⟨(σ_40, I, J, r_39, rj, r_3), rfl, ⟨σ_40, I, J, r_39, rj, r_3, tg, rfl, hDN, hL_this, hK_this, hCI.2.2.2.2.2.2, PXe_all hPX hPo⟩, by rw [ht]; exact hP, va_K.moved hW.alike hK, hD⟩, hS.F ht⟩) hS.2.2 dX3_init_53

set_option maxHeartbeats 8000000 in
set_option maxRecDepth 100000 in
theorem s_X10_init (l : Launch) (D : va_G) (t : pq_T) (σ : pq_S) (I : Nat → Nat → Int32) (J : Nat → Nat → Int64) (ri : Nat → Nat → Int32) (rj : Nat → Nat → Int64) (rq : Nat → Nat → Option Nat) (sz : Nat) (this : Nat) (h0 : σ = pq_T1 this 10) (hI0 : I = (fun _ _ => 0)) (hr0 : ri = (fun _ _ => 0)) (hq0 : rq = fun _ _ => none) : MetV l yX10_init (wa yX10_init cX10_init 1 none) ({ frames := 3, cells := 58, slots := 2909, locals := 60 }) [.ref this] D t σ (I, J, ri, rj, rq) sz 58 2909 (fun (u : pq_S × pq_M) => ∃ (σ' : pq_S) (I' : Nat → Nat → Int32) (J' : Nat → Nat → Int64) (ri' : Nat → Nat → Int32) (rj' : Nat → Nat → Int64) (rq' : Nat → Nat → Option Nat) (tg' : Nat → Nat), u = (σ', I', J', ri', rj', rq') ∧ DN σ' tg' I' ri' rq' ∧ this ∈ σ'.1 ∧ σ'.2.1 this = 10 ∧ NR σ' this ∧ PXa σ' I' ri') := by
  refine Met.ofW (cc := cX10_init) (maxL := 1) (ret := none) (by decide +kernel) rfl ?_
  intro p e s m args below meth c s₁ B hml hv
  obtain ⟨rfl, hsz, hP, hK, hD0, hN⟩ := hv
  have hx := B.exec
  have hb := B.bytes
  have hr := B.returns
  have hts := atoms_spec (ws := (wa yX10_init cX10_init 1 none)) B.pre
  have hown : s.vm.findClass RX10 = some m.cls := findClass_of_methodNamed B.named
  have hlocks := B.notSynchronized
  have hin : meth.name = "<init>" := (name_of_methodNamed B.named B.method).1
  subst hsz
  have hD : va_D (pq_B t σ (I, J, ri, rj, rq) s.heap.size) (pq_P t σ (I, J, ri, rj, rq)) := hD0.self
  generalize hAe : pq_B t σ (I, J, ri, rj, rq) s.heap.size = A at hD ⊢
  have hA : ∀ q : Nat, s.heap.size ≤ q → A q := fun q h => by rw [← hAe]; exact Or.inr h
  have hS : va_S A s.heap s.heap [] := va_S.rf
  have hl := lv_entry ([.ref this]) (n := 1) (Nat.le_of_ble_eq_true rfl)
  rw [lg_entry_eq]
  generalize (lg_sl ([.ref this]) ++ List.replicate (1 - (lg_sl ([.ref this])).length) Slot.unset).toArray = ls at hl ⊢
  have hl : lv_has ls 1 [(0, .ref this)] := hl
  have hL_this : this ∈ σ.1 := by rw [h0]; exact List.mem_singleton.mpr rfl
  have hK_this : σ.2.1 this = 10 := by rw [h0]; rfl
  obtain ⟨tg, hCI⟩ : ∃ tg, CI σ tg this 10 [] I ri rq := ⟨_, by rw [h0, hI0, hr0, hq0]; exact CI_0 this 10⟩
  have hPX : PXe σ I ri this := PXe_0 (h0 := h0)
  refine lv_aload_n hx hb dX10_init_0 rfl (lv_at hl 0 rfl) ?_
  refine W.objInit hx hb hown (hts _ (tw_c tw_30)) (hts _ (tw_c tw_11)) (hts _ (tw_c tw_12)) rfl (by rw [hml]; exact hl.1) rfl dX10_init_1 (Nat.le_of_ble_eq_true rfl) (Nat.le_of_ble_eq_true rfl) ?_
  refine W.eq (g2 := F0 m 4 ls []) rfl ?_
  refine lv_aload_n hx hb dX10_init_4 rfl (lv_at hl 0 rfl) ?_
  refine lv_iconst (v := (-1)) hx hb dX10_init_5 (by decide +kernel) ?_
  refine pp_i (v := (-1)) (ty := .int) (C := RX10) (T := TX10) (N := 13) hx hb hts (tw_i inlX10) tyX10 tyX10_ok nmX10 hown hK hP hD hS hL_this hK_this (by decide +kernel) rfl 3 323 (by decide +kernel) (hts _ (tw_c tw_31)) rfl (tyX10_ok 3 (by decide +kernel)) rfl rfl (Nat.le_of_ble_eq_true rfl) (ps_323 _ _ _ _ _) dX10_init_6 (fun I_1 H locs eI_1 hP hD hS => ?_)
  have hPX : PXe σ I_1 ri this := PXe_put hPX eI_1
  have hCI : CI σ tg this 10 [] I_1 ri rq := CI_put hCI eI_1 (lo := (-2147483648)) (hi := 2147483647) rfl (rg_w (rg_k (-1 : Int32) (-1) rfl) (by decide +kernel)) (by decide +kernel)
  refine lv_aload_n hx hb dX10_init_9 rfl (lv_at hl 0 rfl) ?_
  refine lv_iconst (v := (-1)) hx hb dX10_init_10 (by decide +kernel) ?_
  refine pp_i (v := (-1)) (ty := .int) (C := RX10) (T := TX10) (N := 13) hx hb hts (tw_i inlX10) tyX10 tyX10_ok nmX10 hown hK hP hD hS hL_this hK_this (by decide +kernel) rfl 4 324 (by decide +kernel) (hts _ (tw_c tw_32)) rfl (tyX10_ok 4 (by decide +kernel)) rfl rfl (Nat.le_of_ble_eq_true rfl) (ps_324 _ _ _ _ _) dX10_init_11 (fun I_2 H locs eI_2 hP hD hS => ?_)
  have hPX : PXe σ I_2 ri this := PXe_put hPX eI_2
  have hCI : CI σ tg this 10 [] I_2 ri rq := CI_put hCI eI_2 (lo := (-2147483648)) (hi := 2147483647) rfl (rg_w (rg_k (-1 : Int32) (-1) rfl) (by decide +kernel)) (by decide +kernel)
  refine lv_aload_n hx hb dX10_init_14 rfl (lv_at hl 0 rfl) ?_
  refine lv_bipush (v := 40) hx hb dX10_init_15 (by decide +kernel) ?_
  refine nw_i (N' := 40) hx hb (hts _ (tw_c tw_33)) hK hP hD hS hA (by decide +kernel) (by decide +kernel) (Nat.le_of_ble_eq_true rfl) (Nat.le_of_ble_eq_true rfl) (Nat.le_of_ble_eq_true rfl) dX10_init_17 (fun q_3 r_5 H hq_4 er_5 hP hD hS => ?_)
  refine pr_F (q := q_3) (C := RX10) (T := TX10) (N := 13) hx hb hts (tw_i inlX10) tyX10 tyX10_ok nmX10 hown hK hP hD hS (As_in hL_this) (As_kk hq_4 hL_this hK_this) (by decide +kernel) rfl 5 325 (by decide +kernel) (hts _ (tw_c tw_34)) rfl hin rfl (tyX10_ok 5 (by decide +kernel)) rfl rfl (Nat.le_of_ble_eq_true rfl) (pr_325 _ _ _ _ _) dX10_init_19 (fun σ_6 H locs hp_7 hP hD hS => ?_)
  have hs_z1 := As_of hq_4 hp_7
  have hPX : PXe σ_6 I_2 r_5 this := PXe_as hPX hCI hs_z1 (by decide +kernel) (Or.inl er_5)
  obtain ⟨tg, hCI⟩ : ∃ tg, CI σ_6 tg this 10 [325] I_2 r_5 rq := ⟨_, CI_as hCI hs_z1 rfl (by decide +kernel) (Or.inl er_5) (Or.inl rfl) (by decide +kernel)⟩
  have hL_this := hCI.1.1
  have hK_this := hCI.1.2
  refine lv_aload_n hx hb dX10_init_22 rfl (lv_at hl 0 rfl) ?_
  refine va_new (C := RX7) (T := TX7) (N := 15) (ci := 7) (fs := pq_nf 7) hx hb hts (tw_i inlX7) tyX7 tyX7_ok hown (hts _ (tw_c tw_35)) (hts _ (tw_c tw_36)) (hts _ (tw_c tw_37)) hK hP hD hS hA rfl nf_7 (Nat.le_of_ble_eq_true rfl) (Nat.le_of_ble_eq_true rfl) dX10_init_23 (fun q_10 H hPn hDn hS => ?_)
  have hP2 : va_P D vwCl (pq_P t (pq_T1 q_10 7) ((fun _ _ => 0), fun _ _ => 0, (fun _ _ => 0), fun _ _ => 0, fun _ _ => none)) H := pq_new hPn
  have hD2 : va_D A (pq_P t (pq_T1 q_10 7) ((fun _ _ => 0), fun _ _ => 0, (fun _ _ => 0), fun _ _ => 0, fun _ _ => none)) := pq_newD hDn
  have hap : q_10 ∉ σ_6.1 := pq_apart hDn
  have hP := pq_old hPn
  have hD := pq_oldD hDn
  have hdis0 : ∀ a, a ∈ σ_6.1 → a ∉ (pq_T1 q_10 7).1 := fun a h1 h2 => hap ((List.mem_singleton.mp h2) ▸ h1)
  refine lv_dup hx hb dX10_init_26 rfl ?_
  refine lk_v (va_runI (As := []) (rest := [.ref q_10, .ref this]) ⟨hx, hb, hml, hown, hts⟩ (s_X7_init l D t (pq_T1 q_10 7) (fun _ _ => 0) (fun _ _ => 0) (fun _ _ => 0) (fun _ _ => 0) (fun _ _ => none) H.size q_10 rfl rfl rfl rfl) (cwI 0 hts (tw_W tw_59) rfl rfl rfl (hts _ (tw_c tw_37)) (hts _ (tw_c tw_57)) (hts _ (tw_c tw_58)) rfl cd_yX7_init_0 ⟨Nat.le_of_ble_eq_true rfl, Nat.le_of_ble_eq_true rfl⟩) ⟨pq_blind, pq_pre hK hN hP2 hD2⟩ rfl rfl hl.1 rfl (lv_room (Nat.le_of_ble_eq_true rfl)) dX10_init_27 ⟨Nat.le_of_ble_eq_true rfl, Nat.le_of_ble_eq_true rfl⟩) hD2 hS hA hP hdis0 (fun τ1 ν1 H locs hw hP2 hD2 hP hdis2 hS => ?_)
  obtain ⟨τ, I2, J2, si, sj, sq, tg2, hu, hDN2, hLq, hKq, hNq, hPq⟩ := hw
  obtain ⟨hua, hub⟩ := Prod.mk.inj hu
  rw [hua, hub] at hP2 hD2
  rw [hua] at hdis2
  obtain ⟨σ_z2, I_z3, J_z4, ri_z5, rj_z6, rq_z7, tg, hP, hD, hCI, hLq, hKq, hNq, hPX⟩ : ∃ (σ_z2 : pq_S) (I_z3 : Nat → Nat → Int32) (J_z4 : Nat → Nat → Int64) (ri_z5 : Nat → Nat → Int32) (rj_z6 : Nat → Nat → Int64) (rq_z7 : Nat → Nat → Option Nat) (tg : Nat → Nat), va_P D vwCl (pq_P t σ_z2 (I_z3, J_z4, ri_z5, rj_z6, rq_z7)) H ∧ va_D A (pq_P t σ_z2 (I_z3, J_z4, ri_z5, rj_z6, rq_z7)) ∧ CI σ_z2 tg this 10 [325] I_z3 ri_z5 rq_z7 ∧ q_10 ∈ σ_z2.1 ∧ σ_z2.2.1 q_10 = 7 ∧ NR σ_z2 q_10 ∧ PXe σ_z2 I_z3 ri_z5 this := ⟨_, _, _, _, _, _, _, pU_P hdis2 hP hP2, pU_D hdis2 hD hD2, CI_uni hdis2 hCI hDN2, (pU_i hLq).1, (pU_i hLq).2.1.trans hKq, NR_uni hdis2 hCI hDN2.1 hNq hLq, PXe_uni hdis2 hPX hCI hPq hDN2.1⟩
  have hL_this := hCI.1.1
  have hK_this := hCI.1.2
  refine pr_F (q := q_10) (C := RX10) (T := TX10) (N := 13) hx hb hts (tw_i inlX10) tyX10 tyX10_ok nmX10 hown hK hP hD hS hL_this hK_this (by decide +kernel) rfl 6 326 (by decide +kernel) (hts _ (tw_c tw_38)) rfl hin rfl (tyX10_ok 6 (by decide +kernel)) rfl rfl (Nat.le_of_ble_eq_true rfl) (pr_326 _ _ _ _ _) dX10_init_30 (fun σ_27 H locs hp_28 hP hD hS => ?_)
  have hCI : CI σ_27 tg this 10 [326, 325] I_z3 ri_z5 rq_z7 := CI_ps hCI hp_28 rfl hLq hKq hNq (by decide +kernel)
  have hPX : PXe σ_27 I_z3 ri_z5 this := PXe_ps hPX hp_28
  have hL_this := hCI.1.1
  have hK_this := hCI.1.2
  refine lv_aload_n hx hb dX10_init_33 rfl (lv_at hl 0 rfl) ?_
  refine va_new (C := RX2) (T := TX2) (N := 20) (ci := 2) (fs := pq_nf 2) hx hb hts (tw_i inlX2) tyX2 tyX2_ok hown (hts _ (tw_c tw_39)) (hts _ (tw_c tw_40)) (hts _ (tw_c tw_41)) hK hP hD hS hA rfl nf_2 (Nat.le_of_ble_eq_true rfl) (Nat.le_of_ble_eq_true rfl) dX10_init_34 (fun q_30 H hPn hDn hS => ?_)
  have hP2 : va_P D vwCl (pq_P t (pq_T1 q_30 2) ((fun _ _ => 0), fun _ _ => 0, (fun _ _ => 0), fun _ _ => 0, fun _ _ => none)) H := pq_new hPn
  have hD2 : va_D A (pq_P t (pq_T1 q_30 2) ((fun _ _ => 0), fun _ _ => 0, (fun _ _ => 0), fun _ _ => 0, fun _ _ => none)) := pq_newD hDn
  have hap : q_30 ∉ σ_27.1 := pq_apart hDn
  have hP := pq_old hPn
  have hD := pq_oldD hDn
  have hdis0 : ∀ a, a ∈ σ_27.1 → a ∉ (pq_T1 q_30 2).1 := fun a h1 h2 => hap ((List.mem_singleton.mp h2) ▸ h1)
  refine lv_dup hx hb dX10_init_37 rfl ?_
  refine lk_v (va_runI (As := []) (rest := [.ref q_30, .ref this]) ⟨hx, hb, hml, hown, hts⟩ (s_X2_init l D t (pq_T1 q_30 2) (fun _ _ => 0) (fun _ _ => 0) (fun _ _ => 0) (fun _ _ => 0) (fun _ _ => none) H.size q_30 rfl rfl rfl rfl) (cwI 0 hts (tw_W tw_79) rfl rfl rfl (hts _ (tw_c tw_41)) (hts _ (tw_c tw_77)) (hts _ (tw_c tw_78)) rfl cd_yX2_init_0 ⟨Nat.le_of_ble_eq_true rfl, Nat.le_of_ble_eq_true rfl⟩) ⟨pq_blind, pq_pre hK hN hP2 hD2⟩ rfl rfl hl.1 rfl (lv_room (Nat.le_of_ble_eq_true rfl)) dX10_init_38 ⟨Nat.le_of_ble_eq_true rfl, Nat.le_of_ble_eq_true rfl⟩) hD2 hS hA hP hdis0 (fun τ1 ν1 H locs hw hP2 hD2 hP hdis2 hS => ?_)
  obtain ⟨τ, I2, J2, si, sj, sq, tg2, hu, hDN2, hLq, hKq, hNq, hPq⟩ := hw
  obtain ⟨hua, hub⟩ := Prod.mk.inj hu
  rw [hua, hub] at hP2 hD2
  rw [hua] at hdis2
  obtain ⟨σ_z8, I_z9, J_z10, ri_z11, rj_z12, rq_z13, tg, hP, hD, hCI, hLq, hKq, hNq, hPX⟩ : ∃ (σ_z8 : pq_S) (I_z9 : Nat → Nat → Int32) (J_z10 : Nat → Nat → Int64) (ri_z11 : Nat → Nat → Int32) (rj_z12 : Nat → Nat → Int64) (rq_z13 : Nat → Nat → Option Nat) (tg : Nat → Nat), va_P D vwCl (pq_P t σ_z8 (I_z9, J_z10, ri_z11, rj_z12, rq_z13)) H ∧ va_D A (pq_P t σ_z8 (I_z9, J_z10, ri_z11, rj_z12, rq_z13)) ∧ CI σ_z8 tg this 10 [326, 325] I_z9 ri_z11 rq_z13 ∧ q_30 ∈ σ_z8.1 ∧ σ_z8.2.1 q_30 = 2 ∧ NR σ_z8 q_30 ∧ PXe σ_z8 I_z9 ri_z11 this := ⟨_, _, _, _, _, _, _, pU_P hdis2 hP hP2, pU_D hdis2 hD hD2, CI_uni hdis2 hCI hDN2, (pU_i hLq).1, (pU_i hLq).2.1.trans hKq, NR_uni hdis2 hCI hDN2.1 hNq hLq, PXe_uni hdis2 hPX hCI hPq hDN2.1⟩
  have hL_this := hCI.1.1
  have hK_this := hCI.1.2
  refine pr_F (q := q_30) (C := RX10) (T := TX10) (N := 13) hx hb hts (tw_i inlX10) tyX10 tyX10_ok nmX10 hown hK hP hD hS hL_this hK_this (by decide +kernel) rfl 7 327 (by decide +kernel) (hts _ (tw_c tw_42)) rfl hin rfl (tyX10_ok 7 (by decide +kernel)) rfl rfl (Nat.le_of_ble_eq_true rfl) (pr_327 _ _ _ _ _) dX10_init_41 (fun σ_47 H locs hp_48 hP hD hS => ?_)
  have hCI : CI σ_47 tg this 10 [327, 326, 325] I_z9 ri_z11 rq_z13 := CI_ps hCI hp_48 rfl hLq hKq hNq (by decide +kernel)
  have hPX : PXe σ_47 I_z9 ri_z11 this := PXe_ps hPX hp_48
  have hL_this := hCI.1.1
  have hK_this := hCI.1.2
  refine lv_aload_n hx hb dX10_init_44 rfl (lv_at hl 0 rfl) ?_
  refine va_new (C := RX0) (T := TX0) (N := 16) (ci := 0) (fs := pq_nf 0) hx hb hts (tw_i inlX0) tyX0 tyX0_ok hown (hts _ (tw_c tw_43)) (hts _ (tw_c tw_44)) (hts _ (tw_c tw_45)) hK hP hD hS hA rfl nf_0 (Nat.le_of_ble_eq_true rfl) (Nat.le_of_ble_eq_true rfl) dX10_init_45 (fun q_50 H hPn hDn hS => ?_)
  have hP2 : va_P D vwCl (pq_P t (pq_T1 q_50 0) ((fun _ _ => 0), fun _ _ => 0, (fun _ _ => 0), fun _ _ => 0, fun _ _ => none)) H := pq_new hPn
  have hD2 : va_D A (pq_P t (pq_T1 q_50 0) ((fun _ _ => 0), fun _ _ => 0, (fun _ _ => 0), fun _ _ => 0, fun _ _ => none)) := pq_newD hDn
  have hap : q_50 ∉ σ_47.1 := pq_apart hDn
  have hP := pq_old hPn
  have hD := pq_oldD hDn
  have hdis0 : ∀ a, a ∈ σ_47.1 → a ∉ (pq_T1 q_50 0).1 := fun a h1 h2 => hap ((List.mem_singleton.mp h2) ▸ h1)
  refine lv_dup hx hb dX10_init_48 rfl ?_
  refine lk_v (va_runIN (As := []) (rest := [.ref q_50, .ref this]) ⟨hx, hb, hml, hown, hts⟩ (s_X0_init l D t (pq_T1 q_50 0) (fun _ _ => 0) (fun _ _ => 0) (fun _ _ => 0) (fun _ _ => 0) (fun _ _ => none) H.size q_50 rfl rfl rfl rfl) ⟨va_cnB (host := "RingsUnder") 0 hts (tw_W tw_108) rfl rfl rfl (nl_3 hN) (hts _ (tw_c tw_45)) cd_yX0_init_0 ⟨Nat.le_of_ble_eq_true rfl, Nat.le_of_ble_eq_true rfl⟩, rfl, hts (.instanceMethod yX0_init) (tw_c tq_instanceMethod_yX0_init)⟩ ⟨pq_blind, pq_pre hK hN hP2 hD2⟩ rfl rfl hl.1 rfl (lv_room (Nat.le_of_ble_eq_true rfl)) dX10_init_49 ⟨Nat.le_of_ble_eq_true rfl, Nat.le_of_ble_eq_true rfl⟩) hD2 hS hA hP hdis0 (fun τ1 ν1 H locs hw hP2 hD2 hP hdis2 hS => ?_)
  obtain ⟨τ, I2, J2, si, sj, sq, tg2, hu, hDN2, hLq, hKq, hNq, hPq⟩ := hw
  obtain ⟨hua, hub⟩ := Prod.mk.inj hu
  rw [hua, hub] at hP2 hD2
  rw [hua] at hdis2
  obtain ⟨σ_z14, I_z15, J_z16, ri_z17, rj_z18, rq_z19, tg, hP, hD, hCI, hLq, hKq, hNq, hPX⟩ : ∃ (σ_z14 : pq_S) (I_z15 : Nat → Nat → Int32) (J_z16 : Nat → Nat → Int64) (ri_z17 : Nat → Nat → Int32) (rj_z18 : Nat → Nat → Int64) (rq_z19 : Nat → Nat → Option Nat) (tg : Nat → Nat), va_P D vwCl (pq_P t σ_z14 (I_z15, J_z16, ri_z17, rj_z18, rq_z19)) H ∧ va_D A (pq_P t σ_z14 (I_z15, J_z16, ri_z17, rj_z18, rq_z19)) ∧ CI σ_z14 tg this 10 [327, 326, 325] I_z15 ri_z17 rq_z19 ∧ q_50 ∈ σ_z14.1 ∧ σ_z14.2.1 q_50 = 0 ∧ NR σ_z14 q_50 ∧ PXe σ_z14 I_z15 ri_z17 this := ⟨_, _, _, _, _, _, _, pU_P hdis2 hP hP2, pU_D hdis2 hD hD2, CI_uni hdis2 hCI hDN2, (pU_i hLq).1, (pU_i hLq).2.1.trans hKq, NR_uni hdis2 hCI hDN2.1 hNq hLq, PXe_uni hdis2 hPX hCI hPq hDN2.1⟩
  have hL_this := hCI.1.1
  have hK_this := hCI.1.2
  refine pr_F (q := q_50) (C := RX10) (T := TX10) (N := 13) hx hb hts (tw_i inlX10) tyX10 tyX10_ok nmX10 hown hK hP hD hS hL_this hK_this (by decide +kernel) rfl 8 328 (by decide +kernel) (hts _ (tw_c tw_46)) rfl hin rfl (tyX10_ok 8 (by decide +kernel)) rfl rfl (Nat.le_of_ble_eq_true rfl) (pr_328 _ _ _ _ _) dX10_init_52 (fun σ_67 H locs hp_68 hP hD hS => ?_)
  have hCI : CI σ_67 tg this 10 [328, 327, 326, 325] I_z15 ri_z17 rq_z19 := CI_ps hCI hp_68 rfl hLq hKq hNq (by decide +kernel)
  have hPX : PXe σ_67 I_z15 ri_z17 this := PXe_ps hPX hp_68
  have hL_this := hCI.1.1
  have hK_this := hCI.1.2
  refine lv_aload_n hx hb dX10_init_55 rfl (lv_at hl 0 rfl) ?_
  refine va_new (C := RX3) (T := TX3) (N := 8) (ci := 3) (fs := pq_nf 3) hx hb hts (tw_i inlX3) tyX3 tyX3_ok hown (hts _ (tw_c tw_47)) (hts _ (tw_c tw_48)) (hts _ (tw_c tw_49)) hK hP hD hS hA rfl nf_3 (Nat.le_of_ble_eq_true rfl) (Nat.le_of_ble_eq_true rfl) dX10_init_56 (fun q_70 H hPn hDn hS => ?_)
  have hP2 : va_P D vwCl (pq_P t (pq_T1 q_70 3) ((fun _ _ => 0), fun _ _ => 0, (fun _ _ => 0), fun _ _ => 0, fun _ _ => none)) H := pq_new hPn
  have hD2 : va_D A (pq_P t (pq_T1 q_70 3) ((fun _ _ => 0), fun _ _ => 0, (fun _ _ => 0), fun _ _ => 0, fun _ _ => none)) := pq_newD hDn
  have hap : q_70 ∉ σ_67.1 := pq_apart hDn
  have hP := pq_old hPn
  have hD := pq_oldD hDn
  have hdis0 : ∀ a, a ∈ σ_67.1 → a ∉ (pq_T1 q_70 3).1 := fun a h1 h2 => hap ((List.mem_singleton.mp h2) ▸ h1)
  refine lv_dup hx hb dX10_init_59 rfl ?_
  refine lk_v (va_runIN (As := []) (rest := [.ref q_70, .ref this]) ⟨hx, hb, hml, hown, hts⟩ (s_X3_init l D t (pq_T1 q_70 3) (fun _ _ => 0) (fun _ _ => 0) (fun _ _ => 0) (fun _ _ => 0) (fun _ _ => none) H.size q_70 rfl rfl rfl rfl) ⟨va_cnB (host := "RingsUnder") 0 hts (tw_W tw_125) rfl rfl rfl (nl_4 hN) (hts _ (tw_c tw_49)) cd_yX3_init_0 ⟨Nat.le_of_ble_eq_true rfl, Nat.le_of_ble_eq_true rfl⟩, rfl, hts (.instanceMethod yX3_init) (tw_c tq_instanceMethod_yX3_init)⟩ ⟨pq_blind, pq_pre hK hN hP2 hD2⟩ rfl rfl hl.1 rfl (lv_room (Nat.le_of_ble_eq_true rfl)) dX10_init_60 ⟨Nat.le_of_ble_eq_true rfl, Nat.le_of_ble_eq_true rfl⟩) hD2 hS hA hP hdis0 (fun τ1 ν1 H locs hw hP2 hD2 hP hdis2 hS => ?_)
  obtain ⟨τ, I2, J2, si, sj, sq, tg2, hu, hDN2, hLq, hKq, hNq, hPq⟩ := hw
  obtain ⟨hua, hub⟩ := Prod.mk.inj hu
  rw [hua, hub] at hP2 hD2
  rw [hua] at hdis2
  obtain ⟨σ_z20, I_z21, J_z22, ri_z23, rj_z24, rq_z25, tg, hP, hD, hCI, hLq, hKq, hNq, hPX⟩ : ∃ (σ_z20 : pq_S) (I_z21 : Nat → Nat → Int32) (J_z22 : Nat → Nat → Int64) (ri_z23 : Nat → Nat → Int32) (rj_z24 : Nat → Nat → Int64) (rq_z25 : Nat → Nat → Option Nat) (tg : Nat → Nat), va_P D vwCl (pq_P t σ_z20 (I_z21, J_z22, ri_z23, rj_z24, rq_z25)) H ∧ va_D A (pq_P t σ_z20 (I_z21, J_z22, ri_z23, rj_z24, rq_z25)) ∧ CI σ_z20 tg this 10 [328, 327, 326, 325] I_z21 ri_z23 rq_z25 ∧ q_70 ∈ σ_z20.1 ∧ σ_z20.2.1 q_70 = 3 ∧ NR σ_z20 q_70 ∧ PXe σ_z20 I_z21 ri_z23 this := ⟨_, _, _, _, _, _, _, pU_P hdis2 hP hP2, pU_D hdis2 hD hD2, CI_uni hdis2 hCI hDN2, (pU_i hLq).1, (pU_i hLq).2.1.trans hKq, NR_uni hdis2 hCI hDN2.1 hNq hLq, PXe_uni hdis2 hPX hCI hPq hDN2.1⟩
  have hL_this := hCI.1.1
  have hK_this := hCI.1.2
  refine pr_F (q := q_70) (C := RX10) (T := TX10) (N := 13) hx hb hts (tw_i inlX10) tyX10 tyX10_ok nmX10 hown hK hP hD hS hL_this hK_this (by decide +kernel) rfl 9 329 (by decide +kernel) (hts _ (tw_c tw_50)) rfl hin rfl (tyX10_ok 9 (by decide +kernel)) rfl rfl (Nat.le_of_ble_eq_true rfl) (pr_329 _ _ _ _ _) dX10_init_63 (fun σ_87 H locs hp_88 hP hD hS => ?_)
  have hCI : CI σ_87 tg this 10 [329, 328, 327, 326, 325] I_z21 ri_z23 rq_z25 := CI_ps hCI hp_88 rfl hLq hKq hNq (by decide +kernel)
  have hPX : PXe σ_87 I_z21 ri_z23 this := PXe_ps hPX hp_88
  have hL_this := hCI.1.1
  have hK_this := hCI.1.2
  refine lv_aload_n hx hb dX10_init_66 rfl (lv_at hl 0 rfl) ?_
  refine va_new (C := RX1) (T := TX1) (N := 3) (ci := 1) (fs := pq_nf 1) hx hb hts (tw_i inlX1) tyX1 tyX1_ok hown (hts _ (tw_c tw_51)) (hts _ (tw_c tw_52)) (hts _ (tw_c tw_53)) hK hP hD hS hA rfl nf_1 (Nat.le_of_ble_eq_true rfl) (Nat.le_of_ble_eq_true rfl) dX10_init_67 (fun q_90 H hPn hDn hS => ?_)
  have hP2 : va_P D vwCl (pq_P t (pq_T1 q_90 1) ((fun _ _ => 0), fun _ _ => 0, (fun _ _ => 0), fun _ _ => 0, fun _ _ => none)) H := pq_new hPn
  have hD2 : va_D A (pq_P t (pq_T1 q_90 1) ((fun _ _ => 0), fun _ _ => 0, (fun _ _ => 0), fun _ _ => 0, fun _ _ => none)) := pq_newD hDn
  have hap : q_90 ∉ σ_87.1 := pq_apart hDn
  have hP := pq_old hPn
  have hD := pq_oldD hDn
  have hdis0 : ∀ a, a ∈ σ_87.1 → a ∉ (pq_T1 q_90 1).1 := fun a h1 h2 => hap ((List.mem_singleton.mp h2) ▸ h1)
  refine lv_dup hx hb dX10_init_70 rfl ?_
  refine lk_v (va_runIN (As := []) (rest := [.ref q_90, .ref this]) ⟨hx, hb, hml, hown, hts⟩ (s_X1_init l D t (pq_T1 q_90 1) (fun _ _ => 0) (fun _ _ => 0) (fun _ _ => 0) (fun _ _ => 0) (fun _ _ => none) H.size q_90 rfl rfl rfl rfl) ⟨va_cnB (host := "RingsUnder") 0 hts (tw_W tw_135) rfl rfl rfl (nl_5 hN) (hts _ (tw_c tw_53)) cd_yX1_init_0 ⟨Nat.le_of_ble_eq_true rfl, Nat.le_of_ble_eq_true rfl⟩, rfl, hts (.instanceMethod yX1_init) (tw_c tq_instanceMethod_yX1_init)⟩ ⟨pq_blind, pq_pre hK hN hP2 hD2⟩ rfl rfl hl.1 rfl (lv_room (Nat.le_of_ble_eq_true rfl)) dX10_init_71 ⟨Nat.le_of_ble_eq_true rfl, Nat.le_of_ble_eq_true rfl⟩) hD2 hS hA hP hdis0 (fun τ1 ν1 H locs hw hP2 hD2 hP hdis2 hS => ?_)
  obtain ⟨τ, I2, J2, si, sj, sq, tg2, hu, hDN2, hLq, hKq, hNq, hPq⟩ := hw
  obtain ⟨hua, hub⟩ := Prod.mk.inj hu
  rw [hua, hub] at hP2 hD2
  rw [hua] at hdis2
  obtain ⟨σ_z26, I_z27, J_z28, ri_z29, rj_z30, rq_z31, tg, hP, hD, hCI, hLq, hKq, hNq, hPX⟩ : ∃ (σ_z26 : pq_S) (I_z27 : Nat → Nat → Int32) (J_z28 : Nat → Nat → Int64) (ri_z29 : Nat → Nat → Int32) (rj_z30 : Nat → Nat → Int64) (rq_z31 : Nat → Nat → Option Nat) (tg : Nat → Nat), va_P D vwCl (pq_P t σ_z26 (I_z27, J_z28, ri_z29, rj_z30, rq_z31)) H ∧ va_D A (pq_P t σ_z26 (I_z27, J_z28, ri_z29, rj_z30, rq_z31)) ∧ CI σ_z26 tg this 10 [329, 328, 327, 326, 325] I_z27 ri_z29 rq_z31 ∧ q_90 ∈ σ_z26.1 ∧ σ_z26.2.1 q_90 = 1 ∧ NR σ_z26 q_90 ∧ PXe σ_z26 I_z27 ri_z29 this := ⟨_, _, _, _, _, _, _, pU_P hdis2 hP hP2, pU_D hdis2 hD hD2, CI_uni hdis2 hCI hDN2, (pU_i hLq).1, (pU_i hLq).2.1.trans hKq, NR_uni hdis2 hCI hDN2.1 hNq hLq, PXe_uni hdis2 hPX hCI hPq hDN2.1⟩
  have hL_this := hCI.1.1
  have hK_this := hCI.1.2
  refine pr_F (q := q_90) (C := RX10) (T := TX10) (N := 13) hx hb hts (tw_i inlX10) tyX10 tyX10_ok nmX10 hown hK hP hD hS hL_this hK_this (by decide +kernel) rfl 10 330 (by decide +kernel) (hts _ (tw_c tw_54)) rfl hin rfl (tyX10_ok 10 (by decide +kernel)) rfl rfl (Nat.le_of_ble_eq_true rfl) (pr_330 _ _ _ _ _) dX10_init_74 (fun σ_107 H locs hp_108 hP hD hS => ?_)
  have hCI : CI σ_107 tg this 10 [330, 329, 328, 327, 326, 325] I_z27 ri_z29 rq_z31 := CI_ps hCI hp_108 rfl hLq hKq hNq (by decide +kernel)
  have hPX : PXe σ_107 I_z27 ri_z29 this := PXe_ps hPX hp_108
  have hL_this := hCI.1.1
  have hK_this := hCI.1.2
  refine lv_aload_n hx hb dX10_init_77 rfl (lv_at hl 0 rfl) ?_
  refine lv_bipush (v := 40) hx hb dX10_init_78 (by decide +kernel) ?_
  refine nw_i (N' := 40) hx hb (hts _ (tw_c tw_33)) hK hP hD hS hA (by decide +kernel) (by decide +kernel) (Nat.le_of_ble_eq_true rfl) (Nat.le_of_ble_eq_true rfl) (Nat.le_of_ble_eq_true rfl) dX10_init_80 (fun q_110 r_112 H hq_111 er_112 hP hD hS => ?_)
  refine pr_F (q := q_110) (C := RX10) (T := TX10) (N := 13) hx hb hts (tw_i inlX10) tyX10 tyX10_ok nmX10 hown hK hP hD hS (As_in hL_this) (As_kk hq_111 hL_this hK_this) (by decide +kernel) rfl 11 331 (by decide +kernel) (hts _ (tw_c tw_55)) rfl hin rfl (tyX10_ok 11 (by decide +kernel)) rfl rfl (Nat.le_of_ble_eq_true rfl) (pr_331 _ _ _ _ _) dX10_init_82 (fun σ_113 H locs hp_114 hP hD hS => ?_)
  have hs_z32 := As_of hq_111 hp_114
  have hPX : PXe σ_113 I_z27 r_112 this := PXe_as hPX hCI hs_z32 (by decide +kernel) (Or.inl er_112)
  obtain ⟨tg, hCI⟩ : ∃ tg, CI σ_113 tg this 10 [331, 330, 329, 328, 327, 326, 325] I_z27 r_112 rq_z31 := ⟨_, CI_as hCI hs_z32 rfl (by decide +kernel) (Or.inl er_112) (Or.inl rfl) (by decide +kernel)⟩
  have hL_this := hCI.1.1
  have hK_this := hCI.1.2
  refine lv_aload_n hx hb dX10_init_85 rfl (lv_at hl 0 rfl) ?_
  refine lv_iconst (v := 5) hx hb dX10_init_86 (by decide +kernel) ?_
  refine nw_i (N' := 5) hx hb (hts _ (tw_c tw_33)) hK hP hD hS hA (by decide +kernel) (by decide +kernel) (Nat.le_of_ble_eq_true rfl) (Nat.le_of_ble_eq_true rfl) (Nat.le_of_ble_eq_true rfl) dX10_init_87 (fun q_117 r_119 H hq_118 er_119 hP hD hS => ?_)
  refine pr_F (q := q_117) (C := RX10) (T := TX10) (N := 13) hx hb hts (tw_i inlX10) tyX10 tyX10_ok nmX10 hown hK hP hD hS (As_in hL_this) (As_kk hq_118 hL_this hK_this) (by decide +kernel) rfl 12 332 (by decide +kernel) (hts _ (tw_c tw_56)) rfl hin rfl (tyX10_ok 12 (by decide +kernel)) rfl rfl (Nat.le_of_ble_eq_true rfl) (pr_332 _ _ _ _ _) dX10_init_89 (fun σ_120 H locs hp_121 hP hD hS => ?_)
  have hs_z33 := As_of hq_118 hp_121
  have hPX : PXe σ_120 I_z27 r_119 this := PXe_as hPX hCI hs_z33 (by decide +kernel) (Or.inl er_119)
  obtain ⟨tg, hCI⟩ : ∃ tg, CI σ_120 tg this 10 [332, 331, 330, 329, 328, 327, 326, 325] I_z27 r_119 rq_z31 := ⟨_, CI_as hCI hs_z33 rfl (by decide +kernel) (Or.inl er_119) (Or.inl rfl) (by decide +kernel)⟩
  have hL_this := hCI.1.1
  have hK_this := hCI.1.2
  refine lv_aload_n hx hb dX10_init_92 rfl (lv_at hl 0 rfl) ?_
  have hDN := CI_done hCI (by decide +kernel) (by decide +kernel)
  obtain ⟨w_124, hR_w_124, hL_w_124, hK_w_124, hN_w_124, hT_w_124⟩ := sh_a hDN.1 325 (ci := 10) (kd := 13) (len := 40) rfl (by decide +kernel) hL_this hK_this
  refine pg_f (v := .ref w_124) (C := RX10) (T := TX10) (N := 13) hx hb hts (tw_i inlX10) hown hK hP hL_this hK_this (by decide +kernel) rfl 5 (by decide +kernel) (hts _ (tw_c tw_34)) (pq_hv rfl hR_w_124) dX10_init_93 ?_
  refine lv_iconst (v := (-1)) hx hb dX10_init_96 (by decide +kernel) ?_
  refine pk_v (va_runSN (As := [.ref w_124, .int (-1)]) (rest := []) ⟨hx, hb, hml, hown, hts⟩ (s_X11_fill_325 l D t σ_120 I_z27 J_z28 r_119 rj_z30 rq_z31 H.size tg hDN.1 (DN_gs hDN) w_124 (-1 : Int32) hL_w_124 hK_w_124 hN_w_124 hT_w_124 (rg_w (rg_k (-1 : Int32) (-1) rfl) (by decide +kernel))) ⟨va_cnB (host := "RingsUnder") 2 hts (tw_W tw_76) rfl rfl rfl (nl_6 hN) (hts _ (tw_c tw_2)) cd_yX11_fill_2 ⟨Nat.le_of_ble_eq_true rfl, Nat.le_of_ble_eq_true rfl⟩, hts (.static yX11_fill) (tw_c tq_static_yX11_fill), trivial⟩ ⟨pq_blind, pq_pre hK hN hP hD⟩ rfl rfl hl.1 rfl (lv_room (Nat.le_of_ble_eq_true rfl)) dX10_init_97 ⟨Nat.le_of_ble_eq_true rfl, Nat.le_of_ble_eq_true rfl⟩) hD hS hA (fun σ1 μ1 H locs hw hP hD hS => ?_)
  obtain ⟨ri_z34, hu, hg, he_z35⟩ := hw
  obtain ⟨hua, hub⟩ := Prod.mk.inj hu
  rw [hua, hub] at hP hD
  have hPX : PXe σ_120 I_z27 ri_z34 this := PXe_fill hPX hDN.2.2 hL_this (by rw [hK_this]; rfl) hR_w_124 he_z35
  have hDN := DN_fill hDN hg he_z35 hT_w_124 (by decide +kernel)
  have hPo : PXo σ_120 I_z27 ri_z34 this := PX_no (by rw [hK_this]; decide) (by rw [hK_this]; decide) (by rw [hK_this]; decide)
  exact W.vret hx hb hr (fun t1 ht hW => ⟨⟨(σ_120, I_z27, J_z28, ri_z34, rj_z30, rq_z31), rfl, ⟨σ_120, I_z27, J_z28, ri_z34, rj_z30, rq_z31, tg, rfl, hDN, hL_this, hK_this, hCI.2.2.2.2.2.2, PXe_all hPX hPo⟩, by rw [ht]; exact hP, va_K.moved hW.alike hK, hD⟩, hS.F ht⟩) hS.2.2 dX10_init_100

set_option maxHeartbeats 8000000 in
set_option maxRecDepth 100000 in
theorem s_X5_init (l : Launch) (D : va_G) (t : pq_T) (σ : pq_S) (I : Nat → Nat → Int32) (J : Nat → Nat → Int64) (ri : Nat → Nat → Int32) (rj : Nat → Nat → Int64) (rq : Nat → Nat → Option Nat) (sz : Nat) (this : Nat) (h0 : σ = pq_T1 this 5) (hI0 : I = (fun _ _ => 0)) (hr0 : ri = (fun _ _ => 0)) (hq0 : rq = fun _ _ => none) : MetV l yX5_init (wa yX5_init cX5_init 1 none) ({ frames := 1, cells := 6, slots := 134, locals := 20 }) [.ref this] D t σ (I, J, ri, rj, rq) sz 6 134 (fun (u : pq_S × pq_M) => ∃ (σ' : pq_S) (I' : Nat → Nat → Int32) (J' : Nat → Nat → Int64) (ri' : Nat → Nat → Int32) (rj' : Nat → Nat → Int64) (rq' : Nat → Nat → Option Nat) (tg' : Nat → Nat), u = (σ', I', J', ri', rj', rq') ∧ DN σ' tg' I' ri' rq' ∧ this ∈ σ'.1 ∧ σ'.2.1 this = 5 ∧ NR σ' this ∧ PXa σ' I' ri') := by
  refine Met.ofW (cc := cX5_init) (maxL := 1) (ret := none) (by decide +kernel) rfl ?_
  intro p e s m args below meth c s₁ B hml hv
  obtain ⟨rfl, hsz, hP, hK, hD0, hN⟩ := hv
  have hx := B.exec
  have hb := B.bytes
  have hr := B.returns
  have hts := atoms_spec (ws := (wa yX5_init cX5_init 1 none)) B.pre
  have hown : s.vm.findClass RX5 = some m.cls := findClass_of_methodNamed B.named
  have hlocks := B.notSynchronized
  have hin : meth.name = "<init>" := (name_of_methodNamed B.named B.method).1
  subst hsz
  have hD : va_D (pq_B t σ (I, J, ri, rj, rq) s.heap.size) (pq_P t σ (I, J, ri, rj, rq)) := hD0.self
  generalize hAe : pq_B t σ (I, J, ri, rj, rq) s.heap.size = A at hD ⊢
  have hA : ∀ q : Nat, s.heap.size ≤ q → A q := fun q h => by rw [← hAe]; exact Or.inr h
  have hS : va_S A s.heap s.heap [] := va_S.rf
  have hl := lv_entry ([.ref this]) (n := 1) (Nat.le_of_ble_eq_true rfl)
  rw [lg_entry_eq]
  generalize (lg_sl ([.ref this]) ++ List.replicate (1 - (lg_sl ([.ref this])).length) Slot.unset).toArray = ls at hl ⊢
  have hl : lv_has ls 1 [(0, .ref this)] := hl
  have hL_this : this ∈ σ.1 := by rw [h0]; exact List.mem_singleton.mpr rfl
  have hK_this : σ.2.1 this = 5 := by rw [h0]; rfl
  obtain ⟨tg, hCI⟩ : ∃ tg, CI σ tg this 5 [] I ri rq := ⟨_, by rw [h0, hI0, hr0, hq0]; exact CI_0 this 5⟩
  have hPX : PXe σ I ri this := PXe_0 (h0 := h0)
  refine lv_aload_n hx hb dX5_init_0 rfl (lv_at hl 0 rfl) ?_
  refine W.objInit hx hb hown (hts _ (tw_c tw_141)) (hts _ (tw_c tw_11)) (hts _ (tw_c tw_12)) rfl (by rw [hml]; exact hl.1) rfl dX5_init_1 (Nat.le_of_ble_eq_true rfl) (Nat.le_of_ble_eq_true rfl) ?_
  refine W.eq (g2 := F0 m 4 ls []) rfl ?_
  refine lv_aload_n hx hb dX5_init_4 rfl (lv_at hl 0 rfl) ?_
  refine lv_iconst (v := 5) hx hb dX5_init_5 (by decide +kernel) ?_
  refine nw_i (N' := 5) hx hb (hts _ (tw_c tw_33)) hK hP hD hS hA (by decide +kernel) (by decide +kernel) (Nat.le_of_ble_eq_true rfl) (Nat.le_of_ble_eq_true rfl) (Nat.le_of_ble_eq_true rfl) dX5_init_6 (fun q_1 r_3 H hq_2 er_3 hP hD hS => ?_)
  refine pr_F (q := q_1) (C := RX5) (T := TX5) (N := 8) hx hb hts (tw_i inlX5) tyX5 tyX5_ok nmX5 hown hK hP hD hS (As_in hL_this) (As_kk hq_2 hL_this hK_this) (by decide +kernel) rfl 1 161 (by decide +kernel) (hts _ (tw_c tw_142)) rfl hin rfl (tyX5_ok 1 (by decide +kernel)) rfl rfl (Nat.le_of_ble_eq_true rfl) (pr_161 _ _ _ _ _) dX5_init_8 (fun σ_4 H locs hp_5 hP hD hS => ?_)
  have hs_z1 := As_of hq_2 hp_5
  have hPX : PXe σ_4 I r_3 this := PXe_as hPX hCI hs_z1 (by decide +kernel) (Or.inl er_3)
  obtain ⟨tg, hCI⟩ : ∃ tg, CI σ_4 tg this 5 [161] I r_3 rq := ⟨_, CI_as hCI hs_z1 rfl (by decide +kernel) (Or.inl er_3) (Or.inl rfl) (by decide +kernel)⟩
  have hL_this := hCI.1.1
  have hK_this := hCI.1.2
  refine lv_aload_n hx hb dX5_init_11 rfl (lv_at hl 0 rfl) ?_
  refine lv_iconst (v := 5) hx hb dX5_init_12 (by decide +kernel) ?_
  refine nw_i (N' := 5) hx hb (hts _ (tw_c tw_33)) hK hP hD hS hA (by decide +kernel) (by decide +kernel) (Nat.le_of_ble_eq_true rfl) (Nat.le_of_ble_eq_true rfl) (Nat.le_of_ble_eq_true rfl) dX5_init_13 (fun q_8 r_10 H hq_9 er_10 hP hD hS => ?_)
  refine pr_F (q := q_8) (C := RX5) (T := TX5) (N := 8) hx hb hts (tw_i inlX5) tyX5 tyX5_ok nmX5 hown hK hP hD hS (As_in hL_this) (As_kk hq_9 hL_this hK_this) (by decide +kernel) rfl 2 162 (by decide +kernel) (hts _ (tw_c tw_143)) rfl hin rfl (tyX5_ok 2 (by decide +kernel)) rfl rfl (Nat.le_of_ble_eq_true rfl) (pr_162 _ _ _ _ _) dX5_init_15 (fun σ_11 H locs hp_12 hP hD hS => ?_)
  have hs_z2 := As_of hq_9 hp_12
  have hPX : PXe σ_11 I r_10 this := PXe_as hPX hCI hs_z2 (by decide +kernel) (Or.inl er_10)
  obtain ⟨tg, hCI⟩ : ∃ tg, CI σ_11 tg this 5 [162, 161] I r_10 rq := ⟨_, CI_as hCI hs_z2 rfl (by decide +kernel) (Or.inl er_10) (Or.inl rfl) (by decide +kernel)⟩
  have hL_this := hCI.1.1
  have hK_this := hCI.1.2
  refine lv_aload_n hx hb dX5_init_18 rfl (lv_at hl 0 rfl) ?_
  refine lv_bipush (v := 40) hx hb dX5_init_19 (by decide +kernel) ?_
  refine nw_i (N' := 40) hx hb (hts _ (tw_c tw_33)) hK hP hD hS hA (by decide +kernel) (by decide +kernel) (Nat.le_of_ble_eq_true rfl) (Nat.le_of_ble_eq_true rfl) (Nat.le_of_ble_eq_true rfl) dX5_init_21 (fun q_15 r_17 H hq_16 er_17 hP hD hS => ?_)
  refine pr_F (q := q_15) (C := RX5) (T := TX5) (N := 8) hx hb hts (tw_i inlX5) tyX5 tyX5_ok nmX5 hown hK hP hD hS (As_in hL_this) (As_kk hq_16 hL_this hK_this) (by decide +kernel) rfl 3 163 (by decide +kernel) (hts _ (tw_c tw_144)) rfl hin rfl (tyX5_ok 3 (by decide +kernel)) rfl rfl (Nat.le_of_ble_eq_true rfl) (pr_163 _ _ _ _ _) dX5_init_23 (fun σ_18 H locs hp_19 hP hD hS => ?_)
  have hs_z3 := As_of hq_16 hp_19
  have hPX : PXe σ_18 I r_17 this := PXe_as hPX hCI hs_z3 (by decide +kernel) (Or.inl er_17)
  obtain ⟨tg, hCI⟩ : ∃ tg, CI σ_18 tg this 5 [163, 162, 161] I r_17 rq := ⟨_, CI_as hCI hs_z3 rfl (by decide +kernel) (Or.inl er_17) (Or.inl rfl) (by decide +kernel)⟩
  have hL_this := hCI.1.1
  have hK_this := hCI.1.2
  refine lv_aload_n hx hb dX5_init_26 rfl (lv_at hl 0 rfl) ?_
  refine lv_bipush (v := 12) hx hb dX5_init_27 (by decide +kernel) ?_
  refine nw_l (N' := 12) hx hb (hts _ (tw_c tw_81)) hK hP hD hS hA (by decide +kernel) (by decide +kernel) (Nat.le_of_ble_eq_true rfl) (Nat.le_of_ble_eq_true rfl) (Nat.le_of_ble_eq_true rfl) dX5_init_29 (fun q_22 r_24 H hq_23 er_24 hP hD hS => ?_)
  refine pr_F (q := q_22) (C := RX5) (T := TX5) (N := 8) hx hb hts (tw_i inlX5) tyX5 tyX5_ok nmX5 hown hK hP hD hS (As_in hL_this) (As_kk hq_23 hL_this hK_this) (by decide +kernel) rfl 5 165 (by decide +kernel) (hts _ (tw_c tw_145)) rfl hin rfl (tyX5_ok 5 (by decide +kernel)) rfl rfl (Nat.le_of_ble_eq_true rfl) (pr_165 _ _ _ _ _) dX5_init_31 (fun σ_25 H locs hp_26 hP hD hS => ?_)
  have hs_z4 := As_of hq_23 hp_26
  have hPX : PXe σ_25 I r_17 this := PXe_as hPX hCI hs_z4 (by decide +kernel) (Or.inr rfl)
  obtain ⟨tg, hCI⟩ : ∃ tg, CI σ_25 tg this 5 [165, 163, 162, 161] I r_17 rq := ⟨_, CI_as hCI hs_z4 rfl (by decide +kernel) (Or.inr ⟨rfl, rfl, by decide +kernel⟩) (Or.inl rfl) (by decide +kernel)⟩
  have hL_this := hCI.1.1
  have hK_this := hCI.1.2
  refine lv_aload_n hx hb dX5_init_34 rfl (lv_at hl 0 rfl) ?_
  refine lv_bipush (v := 60) hx hb dX5_init_35 (by decide +kernel) ?_
  refine nw_i (N' := 60) hx hb (hts _ (tw_c tw_33)) hK hP hD hS hA (by decide +kernel) (by decide +kernel) (Nat.le_of_ble_eq_true rfl) (Nat.le_of_ble_eq_true rfl) (Nat.le_of_ble_eq_true rfl) dX5_init_37 (fun q_29 r_31 H hq_30 er_31 hP hD hS => ?_)
  refine pr_F (q := q_29) (C := RX5) (T := TX5) (N := 8) hx hb hts (tw_i inlX5) tyX5 tyX5_ok nmX5 hown hK hP hD hS (As_in hL_this) (As_kk hq_30 hL_this hK_this) (by decide +kernel) rfl 6 166 (by decide +kernel) (hts _ (tw_c tw_146)) rfl hin rfl (tyX5_ok 6 (by decide +kernel)) rfl rfl (Nat.le_of_ble_eq_true rfl) (pr_166 _ _ _ _ _) dX5_init_39 (fun σ_32 H locs hp_33 hP hD hS => ?_)
  have hs_z5 := As_of hq_30 hp_33
  have hPX : PXe σ_32 I r_31 this := PXe_as hPX hCI hs_z5 (by decide +kernel) (Or.inl er_31)
  obtain ⟨tg, hCI⟩ : ∃ tg, CI σ_32 tg this 5 [166, 165, 163, 162, 161] I r_31 rq := ⟨_, CI_as hCI hs_z5 rfl (by decide +kernel) (Or.inl er_31) (Or.inl rfl) (by decide +kernel)⟩
  have hL_this := hCI.1.1
  have hK_this := hCI.1.2
  refine lv_aload_n hx hb dX5_init_42 rfl (lv_at hl 0 rfl) ?_
  refine lv_bipush (v := 12) hx hb dX5_init_43 (by decide +kernel) ?_
  refine nw_l (N' := 12) hx hb (hts _ (tw_c tw_81)) hK hP hD hS hA (by decide +kernel) (by decide +kernel) (Nat.le_of_ble_eq_true rfl) (Nat.le_of_ble_eq_true rfl) (Nat.le_of_ble_eq_true rfl) dX5_init_45 (fun q_36 r_38 H hq_37 er_38 hP hD hS => ?_)
  refine pr_F (q := q_36) (C := RX5) (T := TX5) (N := 8) hx hb hts (tw_i inlX5) tyX5 tyX5_ok nmX5 hown hK hP hD hS (As_in hL_this) (As_kk hq_37 hL_this hK_this) (by decide +kernel) rfl 7 167 (by decide +kernel) (hts _ (tw_c tw_147)) rfl hin rfl (tyX5_ok 7 (by decide +kernel)) rfl rfl (Nat.le_of_ble_eq_true rfl) (pr_167 _ _ _ _ _) dX5_init_47 (fun σ_39 H locs hp_40 hP hD hS => ?_)
  have hs_z6 := As_of hq_37 hp_40
  have hPX : PXe σ_39 I r_31 this := PXe_as hPX hCI hs_z6 (by decide +kernel) (Or.inr rfl)
  obtain ⟨tg, hCI⟩ : ∃ tg, CI σ_39 tg this 5 [167, 166, 165, 163, 162, 161] I r_31 rq := ⟨_, CI_as hCI hs_z6 rfl (by decide +kernel) (Or.inr ⟨rfl, rfl, by decide +kernel⟩) (Or.inl rfl) (by decide +kernel)⟩
  have hL_this := hCI.1.1
  have hK_this := hCI.1.2
  have hDN := CI_done hCI (by decide +kernel) (by decide +kernel)
  have hPo : PXo σ_39 I r_31 this := PX_no (by rw [hK_this]; decide) (by rw [hK_this]; decide) (by rw [hK_this]; decide)
  exact W.vret hx hb hr (fun t1 ht hW => ⟨⟨(σ_39, I, J, r_31, r_38, rq), rfl, ⟨σ_39, I, J, r_31, r_38, rq, tg, rfl, hDN, hL_this, hK_this, hCI.2.2.2.2.2.2, PXe_all hPX hPo⟩, by rw [ht]; exact hP, va_K.moved hW.alike hK, hD⟩, hS.F ht⟩) hS.2.2 dX5_init_50

set_option maxHeartbeats 8000000 in
set_option maxRecDepth 100000 in
theorem s_X6_init (l : Launch) (D : va_G) (t : pq_T) (σ : pq_S) (I : Nat → Nat → Int32) (J : Nat → Nat → Int64) (ri : Nat → Nat → Int32) (rj : Nat → Nat → Int64) (rq : Nat → Nat → Option Nat) (sz : Nat) (this : Nat) (h0 : σ = pq_T1 this 6) (hI0 : I = (fun _ _ => 0)) (hr0 : ri = (fun _ _ => 0)) (hq0 : rq = fun _ _ => none) : MetV l yX6_init (wa yX6_init cX6_init 1 none) ({ frames := 1, cells := 1, slots := 300, locals := 20 }) [.ref this] D t σ (I, J, ri, rj, rq) sz 1 300 (fun (u : pq_S × pq_M) => ∃ (σ' : pq_S) (I' : Nat → Nat → Int32) (J' : Nat → Nat → Int64) (ri' : Nat → Nat → Int32) (rj' : Nat → Nat → Int64) (rq' : Nat → Nat → Option Nat) (tg' : Nat → Nat), u = (σ', I', J', ri', rj', rq') ∧ DN σ' tg' I' ri' rq' ∧ this ∈ σ'.1 ∧ σ'.2.1 this = 6 ∧ NR σ' this ∧ PXa σ' I' ri') := by
  refine Met.ofW (cc := cX6_init) (maxL := 1) (ret := none) (by decide +kernel) rfl ?_
  intro p e s m args below meth c s₁ B hml hv
  obtain ⟨rfl, hsz, hP, hK, hD0, hN⟩ := hv
  have hx := B.exec
  have hb := B.bytes
  have hr := B.returns
  have hts := atoms_spec (ws := (wa yX6_init cX6_init 1 none)) B.pre
  have hown : s.vm.findClass RX6 = some m.cls := findClass_of_methodNamed B.named
  have hlocks := B.notSynchronized
  have hin : meth.name = "<init>" := (name_of_methodNamed B.named B.method).1
  subst hsz
  have hD : va_D (pq_B t σ (I, J, ri, rj, rq) s.heap.size) (pq_P t σ (I, J, ri, rj, rq)) := hD0.self
  generalize hAe : pq_B t σ (I, J, ri, rj, rq) s.heap.size = A at hD ⊢
  have hA : ∀ q : Nat, s.heap.size ≤ q → A q := fun q h => by rw [← hAe]; exact Or.inr h
  have hS : va_S A s.heap s.heap [] := va_S.rf
  have hl := lv_entry ([.ref this]) (n := 1) (Nat.le_of_ble_eq_true rfl)
  rw [lg_entry_eq]
  generalize (lg_sl ([.ref this]) ++ List.replicate (1 - (lg_sl ([.ref this])).length) Slot.unset).toArray = ls at hl ⊢
  have hl : lv_has ls 1 [(0, .ref this)] := hl
  have hL_this : this ∈ σ.1 := by rw [h0]; exact List.mem_singleton.mpr rfl
  have hK_this : σ.2.1 this = 6 := by rw [h0]; rfl
  obtain ⟨tg, hCI⟩ : ∃ tg, CI σ tg this 6 [] I ri rq := ⟨_, by rw [h0, hI0, hr0, hq0]; exact CI_0 this 6⟩
  have hPX : PXe σ I ri this := PXe_0 (h0 := h0)
  refine lv_aload_n hx hb dX6_init_0 rfl (lv_at hl 0 rfl) ?_
  refine W.objInit hx hb hown (hts _ (tw_c tw_164)) (hts _ (tw_c tw_11)) (hts _ (tw_c tw_12)) rfl (by rw [hml]; exact hl.1) rfl dX6_init_1 (Nat.le_of_ble_eq_true rfl) (Nat.le_of_ble_eq_true rfl) ?_
  refine W.eq (g2 := F0 m 4 ls []) rfl ?_
  refine lv_aload_n hx hb dX6_init_4 rfl (lv_at hl 0 rfl) ?_
  refine lv_sipush (v := 300) hx hb dX6_init_5 (by decide +kernel) ?_
  refine nw_i (N' := 300) hx hb (hts _ (tw_c tw_33)) hK hP hD hS hA (by decide +kernel) (by decide +kernel) (Nat.le_of_ble_eq_true rfl) (Nat.le_of_ble_eq_true rfl) (Nat.le_of_ble_eq_true rfl) dX6_init_8 (fun q_1 r_3 H hq_2 er_3 hP hD hS => ?_)
  refine pr_F (q := q_1) (C := RX6) (T := TX6) (N := 6) hx hb hts (tw_i inlX6) tyX6 tyX6_ok nmX6 hown hK hP hD hS (As_in hL_this) (As_kk hq_2 hL_this hK_this) (by decide +kernel) rfl 0 192 (by decide +kernel) (hts _ (tw_c tw_165)) rfl hin rfl (tyX6_ok 0 (by decide +kernel)) rfl rfl (Nat.le_of_ble_eq_true rfl) (pr_192 _ _ _ _ _) dX6_init_10 (fun σ_4 H locs hp_5 hP hD hS => ?_)
  have hs_z1 := As_of hq_2 hp_5
  have hPX : PXe σ_4 I r_3 this := PXe_as hPX hCI hs_z1 (by decide +kernel) (Or.inl er_3)
  obtain ⟨tg, hCI⟩ : ∃ tg, CI σ_4 tg this 6 [192] I r_3 rq := ⟨_, CI_as hCI hs_z1 rfl (by decide +kernel) (Or.inl er_3) (Or.inl rfl) (by decide +kernel)⟩
  have hL_this := hCI.1.1
  have hK_this := hCI.1.2
  have hDN := CI_done hCI (by decide +kernel) (by decide +kernel)
  have hPo : PXo σ_4 I r_3 this := PX_no (by rw [hK_this]; decide) (by rw [hK_this]; decide) (by rw [hK_this]; decide)
  exact W.vret hx hb hr (fun t1 ht hW => ⟨⟨(σ_4, I, J, r_3, rj, rq), rfl, ⟨σ_4, I, J, r_3, rj, rq, tg, rfl, hDN, hL_this, hK_this, hCI.2.2.2.2.2.2, PXe_all hPX hPo⟩, by rw [ht]; exact hP, va_K.moved hW.alike hK, hD⟩, hS.F ht⟩) hS.2.2 dX6_init_13

set_option maxHeartbeats 8000000 in
set_option maxRecDepth 100000 in
theorem s_X8_initb (l : Launch) (D : va_G) (t : pq_T) (σ : pq_S) (I : Nat → Nat → Int32) (J : Nat → Nat → Int64) (ri : Nat → Nat → Int32) (rj : Nat → Nat → Int64) (rq : Nat → Nat → Option Nat) (sz : Nat) (this : Nat) (h0 : σ = pq_T1 this 8) (hI0 : I = (fun _ _ => 0)) (hr0 : ri = (fun _ _ => 0)) (hq0 : rq = fun _ _ => none) : MetV l yX8_init (wa yX8_init cX8_init 1 none) ({ frames := 1, cells := 3, slots := 341, locals := 20 }) [.ref this] D t σ (I, J, ri, rj, rq) sz 3 341 (fun (u : pq_S × pq_M) => ∃ (σ' : pq_S) (I' : Nat → Nat → Int32) (J' : Nat → Nat → Int64) (ri' : Nat → Nat → Int32) (rj' : Nat → Nat → Int64) (rq' : Nat → Nat → Option Nat) (tg' : Nat → Nat), u = (σ', I', J', ri', rj', rq') ∧ DN σ' tg' I' ri' rq' ∧ this ∈ σ'.1 ∧ σ'.2.1 this = 8 ∧ NR σ' this ∧ PXa σ' I' ri') := by
  refine Met.ofW (cc := cX8_init) (maxL := 1) (ret := none) (by decide +kernel) rfl ?_
  intro p e s m args below meth c s₁ B hml hv
  obtain ⟨rfl, hsz, hP, hK, hD0, hN⟩ := hv
  have hx := B.exec
  have hb := B.bytes
  have hr := B.returns
  have hts := atoms_spec (ws := (wa yX8_init cX8_init 1 none)) B.pre
  have hown : s.vm.findClass RX8 = some m.cls := findClass_of_methodNamed B.named
  have hlocks := B.notSynchronized
  have hin : meth.name = "<init>" := (name_of_methodNamed B.named B.method).1
  subst hsz
  have hD : va_D (pq_B t σ (I, J, ri, rj, rq) s.heap.size) (pq_P t σ (I, J, ri, rj, rq)) := hD0.self
  generalize hAe : pq_B t σ (I, J, ri, rj, rq) s.heap.size = A at hD ⊢
  have hA : ∀ q : Nat, s.heap.size ≤ q → A q := fun q h => by rw [← hAe]; exact Or.inr h
  have hS : va_S A s.heap s.heap [] := va_S.rf
  have hl := lv_entry ([.ref this]) (n := 1) (Nat.le_of_ble_eq_true rfl)
  rw [lg_entry_eq]
  generalize (lg_sl ([.ref this]) ++ List.replicate (1 - (lg_sl ([.ref this])).length) Slot.unset).toArray = ls at hl ⊢
  have hl : lv_has ls 1 [(0, .ref this)] := hl
  have hL_this : this ∈ σ.1 := by rw [h0]; exact List.mem_singleton.mpr rfl
  have hK_this : σ.2.1 this = 8 := by rw [h0]; rfl
  obtain ⟨tg, hCI⟩ : ∃ tg, CI σ tg this 8 [] I ri rq := ⟨_, by rw [h0, hI0, hr0, hq0]; exact CI_0 this 8⟩
  have hPX : PXe σ I ri this := PXe_0 (h0 := h0)
  refine lv_aload_n hx hb dX8_init_0 rfl (lv_at hl 0 rfl) ?_
  refine W.objInit hx hb hown (hts _ (tw_c tw_168)) (hts _ (tw_c tw_11)) (hts _ (tw_c tw_12)) rfl (by rw [hml]; exact hl.1) rfl dX8_init_1 (Nat.le_of_ble_eq_true rfl) (Nat.le_of_ble_eq_true rfl) ?_
  refine W.eq (g2 := F0 m 4 ls []) rfl ?_
  refine lv_aload_n hx hb dX8_init_4 rfl (lv_at hl 0 rfl) ?_
  refine lv_bipush (v := 20) hx hb dX8_init_5 (by decide +kernel) ?_
  refine nw_i (N' := 20) hx hb (hts _ (tw_c tw_33)) hK hP hD hS hA (by decide +kernel) (by decide +kernel) (Nat.le_of_ble_eq_true rfl) (Nat.le_of_ble_eq_true rfl) (Nat.le_of_ble_eq_true rfl) dX8_init_7 (fun q_1 r_3 H hq_2 er_3 hP hD hS => ?_)
  refine pr_F (q := q_1) (C := RX8) (T := TX8) (N := 4) hx hb hts (tw_i inlX8) tyX8 tyX8_ok nmX8 hown hK hP hD hS (As_in hL_this) (As_kk hq_2 hL_this hK_this) (by decide +kernel) rfl 1 257 (by decide +kernel) (hts _ (tw_c tw_169)) rfl hin rfl (tyX8_ok 1 (by decide +kernel)) rfl rfl (Nat.le_of_ble_eq_true rfl) (pr_257 _ _ _ _ _) dX8_init_9 (fun σ_4 H locs hp_5 hP hD hS => ?_)
  have hs_z1 := As_of hq_2 hp_5
  have hPX : PXe σ_4 I r_3 this := PXe_as hPX hCI hs_z1 (by decide +kernel) (Or.inl er_3)
  obtain ⟨tg, hCI⟩ : ∃ tg, CI σ_4 tg this 8 [257] I r_3 rq := ⟨_, CI_as hCI hs_z1 rfl (by decide +kernel) (Or.inl er_3) (Or.inl rfl) (by decide +kernel)⟩
  have hL_this := hCI.1.1
  have hK_this := hCI.1.2
  refine lv_aload_n hx hb dX8_init_12 rfl (lv_at hl 0 rfl) ?_
  refine lv_bipush (v := 21) hx hb dX8_init_13 (by decide +kernel) ?_
  refine nw_i (N' := 21) hx hb (hts _ (tw_c tw_33)) hK hP hD hS hA (by decide +kernel) (by decide +kernel) (Nat.le_of_ble_eq_true rfl) (Nat.le_of_ble_eq_true rfl) (Nat.le_of_ble_eq_true rfl) dX8_init_15 (fun q_8 r_10 H hq_9 er_10 hP hD hS => ?_)
  refine pr_F (q := q_8) (C := RX8) (T := TX8) (N := 4) hx hb hts (tw_i inlX8) tyX8 tyX8_ok nmX8 hown hK hP hD hS (As_in hL_this) (As_kk hq_9 hL_this hK_this) (by decide +kernel) rfl 2 258 (by decide +kernel) (hts _ (tw_c tw_170)) rfl hin rfl (tyX8_ok 2 (by decide +kernel)) rfl rfl (Nat.le_of_ble_eq_true rfl) (pr_258 _ _ _ _ _) dX8_init_17 (fun σ_11 H locs hp_12 hP hD hS => ?_)
  have hs_z2 := As_of hq_9 hp_12
  have hPX : PXe σ_11 I r_10 this := PXe_as hPX hCI hs_z2 (by decide +kernel) (Or.inl er_10)
  obtain ⟨tg, hCI⟩ : ∃ tg, CI σ_11 tg this 8 [258, 257] I r_10 rq := ⟨_, CI_as hCI hs_z2 rfl (by decide +kernel) (Or.inl er_10) (Or.inl rfl) (by decide +kernel)⟩
  have hL_this := hCI.1.1
  have hK_this := hCI.1.2
  refine lv_aload_n hx hb dX8_init_20 rfl (lv_at hl 0 rfl) ?_
  refine lv_sipush (v := 300) hx hb dX8_init_21 (by decide +kernel) ?_
  refine nw_i (N' := 300) hx hb (hts _ (tw_c tw_33)) hK hP hD hS hA (by decide +kernel) (by decide +kernel) (Nat.le_of_ble_eq_true rfl) (Nat.le_of_ble_eq_true rfl) (Nat.le_of_ble_eq_true rfl) dX8_init_24 (fun q_15 r_17 H hq_16 er_17 hP hD hS => ?_)
  refine pr_F (q := q_15) (C := RX8) (T := TX8) (N := 4) hx hb hts (tw_i inlX8) tyX8 tyX8_ok nmX8 hown hK hP hD hS (As_in hL_this) (As_kk hq_16 hL_this hK_this) (by decide +kernel) rfl 3 259 (by decide +kernel) (hts _ (tw_c tw_171)) rfl hin rfl (tyX8_ok 3 (by decide +kernel)) rfl rfl (Nat.le_of_ble_eq_true rfl) (pr_259 _ _ _ _ _) dX8_init_26 (fun σ_18 H locs hp_19 hP hD hS => ?_)
  have hs_z3 := As_of hq_16 hp_19
  have hPX : PXe σ_18 I r_17 this := PXe_as hPX hCI hs_z3 (by decide +kernel) (Or.inl er_17)
  obtain ⟨tg, hCI⟩ : ∃ tg, CI σ_18 tg this 8 [259, 258, 257] I r_17 rq := ⟨_, CI_as hCI hs_z3 rfl (by decide +kernel) (Or.inl er_17) (Or.inl rfl) (by decide +kernel)⟩
  have hL_this := hCI.1.1
  have hK_this := hCI.1.2
  have hDN := CI_done hCI (by decide +kernel) (by decide +kernel)
  have hPo : PXo σ_18 I r_17 this := PX_no (by rw [hK_this]; decide) (by rw [hK_this]; decide) (by rw [hK_this]; decide)
  exact W.vret hx hb hr (fun t1 ht hW => ⟨⟨(σ_18, I, J, r_17, rj, rq), rfl, ⟨σ_18, I, J, r_17, rj, rq, tg, rfl, hDN, hL_this, hK_this, hCI.2.2.2.2.2.2, PXe_all hPX hPo⟩, by rw [ht]; exact hP, va_K.moved hW.alike hK, hD⟩, hS.F ht⟩) hS.2.2 dX8_init_29

set_option maxHeartbeats 8000000 in
set_option maxRecDepth 100000 in
theorem s_X4_init (l : Launch) (D : va_G) (t : pq_T) (σ : pq_S) (I : Nat → Nat → Int32) (J : Nat → Nat → Int64) (ri : Nat → Nat → Int32) (rj : Nat → Nat → Int64) (rq : Nat → Nat → Option Nat) (sz : Nat) (this : Nat) (h0 : σ = pq_T1 this 4) (hI0 : I = (fun _ _ => 0)) (hr0 : ri = (fun _ _ => 0)) (hq0 : rq = fun _ _ => none) : MetV l yX4_init (wa yX4_init cX4_init 1 none) ({ frames := 2, cells := 7, slots := 691, locals := 40 }) [.ref this] D t σ (I, J, ri, rj, rq) sz 7 691 (fun (u : pq_S × pq_M) => ∃ (σ' : pq_S) (I' : Nat → Nat → Int32) (J' : Nat → Nat → Int64) (ri' : Nat → Nat → Int32) (rj' : Nat → Nat → Int64) (rq' : Nat → Nat → Option Nat) (tg' : Nat → Nat), u = (σ', I', J', ri', rj', rq') ∧ DN σ' tg' I' ri' rq' ∧ this ∈ σ'.1 ∧ σ'.2.1 this = 4 ∧ NR σ' this ∧ PXa σ' I' ri') := by
  refine Met.ofW (cc := cX4_init) (maxL := 1) (ret := none) (by decide +kernel) rfl ?_
  intro p e s m args below meth c s₁ B hml hv
  obtain ⟨rfl, hsz, hP, hK, hD0, hN⟩ := hv
  have hx := B.exec
  have hb := B.bytes
  have hr := B.returns
  have hts := atoms_spec (ws := (wa yX4_init cX4_init 1 none)) B.pre
  have hown : s.vm.findClass RX4 = some m.cls := findClass_of_methodNamed B.named
  have hlocks := B.notSynchronized
  have hin : meth.name = "<init>" := (name_of_methodNamed B.named B.method).1
  subst hsz
  have hD : va_D (pq_B t σ (I, J, ri, rj, rq) s.heap.size) (pq_P t σ (I, J, ri, rj, rq)) := hD0.self
  generalize hAe : pq_B t σ (I, J, ri, rj, rq) s.heap.size = A at hD ⊢
  have hA : ∀ q : Nat, s.heap.size ≤ q → A q := fun q h => by rw [← hAe]; exact Or.inr h
  have hS : va_S A s.heap s.heap [] := va_S.rf
  have hl := lv_entry ([.ref this]) (n := 1) (Nat.le_of_ble_eq_true rfl)
  rw [lg_entry_eq]
  generalize (lg_sl ([.ref this]) ++ List.replicate (1 - (lg_sl ([.ref this])).length) Slot.unset).toArray = ls at hl ⊢
  have hl : lv_has ls 1 [(0, .ref this)] := hl
  have hL_this : this ∈ σ.1 := by rw [h0]; exact List.mem_singleton.mpr rfl
  have hK_this : σ.2.1 this = 4 := by rw [h0]; rfl
  obtain ⟨tg, hCI⟩ : ∃ tg, CI σ tg this 4 [] I ri rq := ⟨_, by rw [h0, hI0, hr0, hq0]; exact CI_0 this 4⟩
  have hPX : PXe σ I ri this := PXe_0 (h0 := h0)
  refine lv_aload_n hx hb dX4_init_0 rfl (lv_at hl 0 rfl) ?_
  refine W.objInit hx hb hown (hts _ (tw_c tw_150)) (hts _ (tw_c tw_11)) (hts _ (tw_c tw_12)) rfl (by rw [hml]; exact hl.1) rfl dX4_init_1 (Nat.le_of_ble_eq_true rfl) (Nat.le_of_ble_eq_true rfl) ?_
  refine W.eq (g2 := F0 m 4 ls []) rfl ?_
  refine lv_aload_n hx hb dX4_init_4 rfl (lv_at hl 0 rfl) ?_
  refine va_new (C := RX6) (T := TX6) (N := 6) (ci := 6) (fs := pq_nf 6) hx hb hts (tw_i inlX6) tyX6 tyX6_ok hown (hts _ (tw_c tw_151)) (hts _ (tw_c tw_152)) (hts _ (tw_c tw_153)) hK hP hD hS hA rfl nf_6 (Nat.le_of_ble_eq_true rfl) (Nat.le_of_ble_eq_true rfl) dX4_init_5 (fun q_1 H hPn hDn hS => ?_)
  have hP2 : va_P D vwCl (pq_P t (pq_T1 q_1 6) ((fun _ _ => 0), fun _ _ => 0, (fun _ _ => 0), fun _ _ => 0, fun _ _ => none)) H := pq_new hPn
  have hD2 : va_D A (pq_P t (pq_T1 q_1 6) ((fun _ _ => 0), fun _ _ => 0, (fun _ _ => 0), fun _ _ => 0, fun _ _ => none)) := pq_newD hDn
  have hap : q_1 ∉ σ.1 := pq_apart hDn
  have hP := pq_old hPn
  have hD := pq_oldD hDn
  have hdis0 : ∀ a, a ∈ σ.1 → a ∉ (pq_T1 q_1 6).1 := fun a h1 h2 => hap ((List.mem_singleton.mp h2) ▸ h1)
  refine lv_dup hx hb dX4_init_8 rfl ?_
  refine lk_v (va_runIN (As := []) (rest := [.ref q_1, .ref this]) ⟨hx, hb, hml, hown, hts⟩ (s_X6_init l D t (pq_T1 q_1 6) (fun _ _ => 0) (fun _ _ => 0) (fun _ _ => 0) (fun _ _ => 0) (fun _ _ => none) H.size q_1 rfl rfl rfl rfl) ⟨va_cnB (host := "RingsUnder") 0 hts (tw_W tw_163) rfl rfl rfl (nl_9 hN) (hts _ (tw_c tw_153)) cd_yX6_init_0 ⟨Nat.le_of_ble_eq_true rfl, Nat.le_of_ble_eq_true rfl⟩, rfl, hts (.instanceMethod yX6_init) (tw_c tq_instanceMethod_yX6_init)⟩ ⟨pq_blind, pq_pre hK hN hP2 hD2⟩ rfl rfl hl.1 rfl (lv_room (Nat.le_of_ble_eq_true rfl)) dX4_init_9 ⟨Nat.le_of_ble_eq_true rfl, Nat.le_of_ble_eq_true rfl⟩) hD2 hS hA hP hdis0 (fun τ1 ν1 H locs hw hP2 hD2 hP hdis2 hS => ?_)
  obtain ⟨τ, I2, J2, si, sj, sq, tg2, hu, hDN2, hLq, hKq, hNq, hPq⟩ := hw
  obtain ⟨hua, hub⟩ := Prod.mk.inj hu
  rw [hua, hub] at hP2 hD2
  rw [hua] at hdis2
  obtain ⟨σ_z1, I_z2, J_z3, ri_z4, rj_z5, rq_z6, tg, hP, hD, hCI, hLq, hKq, hNq, hPX⟩ : ∃ (σ_z1 : pq_S) (I_z2 : Nat → Nat → Int32) (J_z3 : Nat → Nat → Int64) (ri_z4 : Nat → Nat → Int32) (rj_z5 : Nat → Nat → Int64) (rq_z6 : Nat → Nat → Option Nat) (tg : Nat → Nat), va_P D vwCl (pq_P t σ_z1 (I_z2, J_z3, ri_z4, rj_z5, rq_z6)) H ∧ va_D A (pq_P t σ_z1 (I_z2, J_z3, ri_z4, rj_z5, rq_z6)) ∧ CI σ_z1 tg this 4 [] I_z2 ri_z4 rq_z6 ∧ q_1 ∈ σ_z1.1 ∧ σ_z1.2.1 q_1 = 6 ∧ NR σ_z1 q_1 ∧ PXe σ_z1 I_z2 ri_z4 this := ⟨_, _, _, _, _, _, _, pU_P hdis2 hP hP2, pU_D hdis2 hD hD2, CI_uni hdis2 hCI hDN2, (pU_i hLq).1, (pU_i hLq).2.1.trans hKq, NR_uni hdis2 hCI hDN2.1 hNq hLq, PXe_uni hdis2 hPX hCI hPq hDN2.1⟩
  have hL_this := hCI.1.1
  have hK_this := hCI.1.2
  refine pr_F (q := q_1) (C := RX4) (T := TX4) (N := 12) hx hb hts (tw_i inlX4) tyX4 tyX4_ok nmX4 hown hK hP hD hS hL_this hK_this (by decide +kernel) rfl 0 128 (by decide +kernel) (hts _ (tw_c tw_154)) rfl hin rfl (tyX4_ok 0 (by decide +kernel)) rfl rfl (Nat.le_of_ble_eq_true rfl) (pr_128 _ _ _ _ _) dX4_init_12 (fun σ_18 H locs hp_19 hP hD hS => ?_)
  have hCI : CI σ_18 tg this 4 [128] I_z2 ri_z4 rq_z6 := CI_ps hCI hp_19 rfl hLq hKq hNq (by decide +kernel)
  have hPX : PXe σ_18 I_z2 ri_z4 this := PXe_ps hPX hp_19
  have hL_this := hCI.1.1
  have hK_this := hCI.1.2
  refine lv_aload_n hx hb dX4_init_15 rfl (lv_at hl 0 rfl) ?_
  refine lv_iconst (v := (-1)) hx hb dX4_init_16 (by decide +kernel) ?_
  refine pp_i (v := (-1)) (ty := .int) (C := RX4) (T := TX4) (N := 12) hx hb hts (tw_i inlX4) tyX4 tyX4_ok nmX4 hown hK hP hD hS hL_this hK_this (by decide +kernel) rfl 1 129 (by decide +kernel) (hts _ (tw_c tw_155)) rfl (tyX4_ok 1 (by decide +kernel)) rfl rfl (Nat.le_of_ble_eq_true rfl) (ps_129 _ _ _ _ _) dX4_init_17 (fun I_21 H locs eI_21 hP hD hS => ?_)
  have hPX : PXe σ_18 I_21 ri_z4 this := PXe_put hPX eI_21
  have hi129 : I_21 129 this = (-1) := by rw [eI_21, pq_us]
  have hCI : CI σ_18 tg this 4 [128] I_21 ri_z4 rq_z6 := CI_put hCI eI_21 (lo := (-2147483648)) (hi := 2147483647) rfl (rg_w (rg_k (-1 : Int32) (-1) rfl) (by decide +kernel)) (by decide +kernel)
  refine lv_aload_n hx hb dX4_init_20 rfl (lv_at hl 0 rfl) ?_
  refine lv_iconst (v := (-1)) hx hb dX4_init_21 (by decide +kernel) ?_
  refine pp_i (v := (-1)) (ty := .int) (C := RX4) (T := TX4) (N := 12) hx hb hts (tw_i inlX4) tyX4 tyX4_ok nmX4 hown hK hP hD hS hL_this hK_this (by decide +kernel) rfl 2 130 (by decide +kernel) (hts _ (tw_c tw_156)) rfl (tyX4_ok 2 (by decide +kernel)) rfl rfl (Nat.le_of_ble_eq_true rfl) (ps_130 _ _ _ _ _) dX4_init_22 (fun I_22 H locs eI_22 hP hD hS => ?_)
  have hPX : PXe σ_18 I_22 ri_z4 this := PXe_put hPX eI_22
  have hi129 : I_22 129 this = (-1) := by rw [eI_22, pq_uf _ _ _ (by decide +kernel)]; exact hi129
  have hi130 : I_22 130 this = (-1) := by rw [eI_22, pq_us]
  have hCI : CI σ_18 tg this 4 [128] I_22 ri_z4 rq_z6 := CI_put hCI eI_22 (lo := (-2147483648)) (hi := 2147483647) rfl (rg_w (rg_k (-1 : Int32) (-1) rfl) (by decide +kernel)) (by decide +kernel)
  refine lv_aload_n hx hb dX4_init_25 rfl (lv_at hl 0 rfl) ?_
  refine va_new (C := RX8) (T := TX8) (N := 4) (ci := 8) (fs := pq_nf 8) hx hb hts (tw_i inlX8) tyX8 tyX8_ok hown (hts _ (tw_c tw_157)) (hts _ (tw_c tw_158)) (hts _ (tw_c tw_159)) hK hP hD hS hA rfl nf_8 (Nat.le_of_ble_eq_true rfl) (Nat.le_of_ble_eq_true rfl) dX4_init_26 (fun q_23 H hPn hDn hS => ?_)
  have hP2 : va_P D vwCl (pq_P t (pq_T1 q_23 8) ((fun _ _ => 0), fun _ _ => 0, (fun _ _ => 0), fun _ _ => 0, fun _ _ => none)) H := pq_new hPn
  have hD2 : va_D A (pq_P t (pq_T1 q_23 8) ((fun _ _ => 0), fun _ _ => 0, (fun _ _ => 0), fun _ _ => 0, fun _ _ => none)) := pq_newD hDn
  have hap : q_23 ∉ σ_18.1 := pq_apart hDn
  have hP := pq_old hPn
  have hD := pq_oldD hDn
  have hdis0 : ∀ a, a ∈ σ_18.1 → a ∉ (pq_T1 q_23 8).1 := fun a h1 h2 => hap ((List.mem_singleton.mp h2) ▸ h1)
  refine lv_dup hx hb dX4_init_29 rfl ?_
  refine lk_v (va_runIN (As := []) (rest := [.ref q_23, .ref this]) ⟨hx, hb, hml, hown, hts⟩ (s_X8_initb l D t (pq_T1 q_23 8) (fun _ _ => 0) (fun _ _ => 0) (fun _ _ => 0) (fun _ _ => 0) (fun _ _ => none) H.size q_23 rfl rfl rfl rfl) ⟨va_cnB (host := "RingsUnder") 0 hts (tw_W tw_167) rfl rfl rfl (nl_10 hN) (hts _ (tw_c tw_159)) cd_yX8_init_0 ⟨Nat.le_of_ble_eq_true rfl, Nat.le_of_ble_eq_true rfl⟩, rfl, hts (.instanceMethod yX8_init) (tw_c tq_instanceMethod_yX8_init)⟩ ⟨pq_blind, pq_pre hK hN hP2 hD2⟩ rfl rfl hl.1 rfl (lv_room (Nat.le_of_ble_eq_true rfl)) dX4_init_30 ⟨Nat.le_of_ble_eq_true rfl, Nat.le_of_ble_eq_true rfl⟩) hD2 hS hA hP hdis0 (fun τ1 ν1 H locs hw hP2 hD2 hP hdis2 hS => ?_)
  obtain ⟨τ, I2, J2, si, sj, sq, tg2, hu, hDN2, hLq, hKq, hNq, hPq⟩ := hw
  obtain ⟨hua, hub⟩ := Prod.mk.inj hu
  rw [hua, hub] at hP2 hD2
  rw [hua] at hdis2
  obtain ⟨σ_z7, I_z8, J_z9, ri_z10, rj_z11, rq_z12, tg, hP, hD, hCI, hLq, hKq, hNq, hPX, hI4⟩ : ∃ (σ_z7 : pq_S) (I_z8 : Nat → Nat → Int32) (J_z9 : Nat → Nat → Int64) (ri_z10 : Nat → Nat → Int32) (rj_z11 : Nat → Nat → Int64) (rq_z12 : Nat → Nat → Option Nat) (tg : Nat → Nat), va_P D vwCl (pq_P t σ_z7 (I_z8, J_z9, ri_z10, rj_z11, rq_z12)) H ∧ va_D A (pq_P t σ_z7 (I_z8, J_z9, ri_z10, rj_z11, rq_z12)) ∧ CI σ_z7 tg this 4 [128] I_z8 ri_z10 rq_z12 ∧ q_23 ∈ σ_z7.1 ∧ σ_z7.2.1 q_23 = 8 ∧ NR σ_z7 q_23 ∧ PXe σ_z7 I_z8 ri_z10 this ∧ ∀ f, I_z8 f this = I_22 f this := ⟨_, _, _, _, _, _, _, pU_P hdis2 hP hP2, pU_D hdis2 hD hD2, CI_uni hdis2 hCI hDN2, (pU_i hLq).1, (pU_i hLq).2.1.trans hKq, NR_uni hdis2 hCI hDN2.1 hNq hLq, PXe_uni hdis2 hPX hCI hPq hDN2.1, fun f => fU_o (hdis2 this hL_this)⟩
  have hi129 : I_z8 129 this = (-1) := (hI4 129).trans hi129
  have hi130 : I_z8 130 this = (-1) := (hI4 130).trans hi130
  have hL_this := hCI.1.1
  have hK_this := hCI.1.2
  refine pr_N (q := q_23) (C := RX4) (T := TX4) (N := 12) hx hb hts (tw_i inlX4) tyX4 tyX4_ok nmX4 hown hK hP hD hS hL_this hK_this (by decide +kernel) rfl 3 131 (by decide +kernel) (hts _ (tw_c tw_160)) rfl (tyX4_ok 3 (by decide +kernel)) rfl rfl (Nat.le_of_ble_eq_true rfl) (pr_131 _ _ _ _ _) dX4_init_33 (fun σ_40 H locs hp_41 hP hD hS => ?_)
  have hCI : CI σ_40 tg this 4 [131, 128] I_z8 ri_z10 rq_z12 := CI_ps hCI hp_41 rfl hLq hKq hNq (by decide +kernel)
  have hPX : PXe σ_40 I_z8 ri_z10 this := PXe_ps hPX hp_41
  have hL_this := hCI.1.1
  have hK_this := hCI.1.2
  refine lv_aload_n hx hb dX4_init_36 rfl (lv_at hl 0 rfl) ?_
  refine lv_bipush (v := 40) hx hb dX4_init_37 (by decide +kernel) ?_
  refine nw_i (N' := 40) hx hb (hts _ (tw_c tw_33)) hK hP hD hS hA (by decide +kernel) (by decide +kernel) (Nat.le_of_ble_eq_true rfl) (Nat.le_of_ble_eq_true rfl) (Nat.le_of_ble_eq_true rfl) dX4_init_39 (fun q_43 r_45 H hq_44 er_45 hP hD hS => ?_)
  refine pr_F (q := q_43) (C := RX4) (T := TX4) (N := 12) hx hb hts (tw_i inlX4) tyX4 tyX4_ok nmX4 hown hK hP hD hS (As_in hL_this) (As_kk hq_44 hL_this hK_this) (by decide +kernel) rfl 5 133 (by decide +kernel) (hts _ (tw_c tw_161)) rfl hin rfl (tyX4_ok 5 (by decide +kernel)) rfl rfl (Nat.le_of_ble_eq_true rfl) (pr_133 _ _ _ _ _) dX4_init_41 (fun σ_46 H locs hp_47 hP hD hS => ?_)
  have hs_z13 := As_of hq_44 hp_47
  have hPX : PXe σ_46 I_z8 r_45 this := PXe_as hPX hCI hs_z13 (by decide +kernel) (Or.inl er_45)
  obtain ⟨tg, hCI⟩ : ∃ tg, CI σ_46 tg this 4 [133, 131, 128] I_z8 r_45 rq_z12 := ⟨_, CI_as hCI hs_z13 rfl (by decide +kernel) (Or.inl er_45) (Or.inl rfl) (by decide +kernel)⟩
  have hL_this := hCI.1.1
  have hK_this := hCI.1.2
  have hDN := CI_done hCI (by decide +kernel) (by decide +kernel)
  have hPo : PXo σ_46 I_z8 r_45 this := ⟨fun e => absurd (hK_this.symm.trans e) (by decide +kernel), fun e => absurd (hK_this.symm.trans e) (by decide +kernel), fun _ => ⟨hi129, hi130⟩⟩
  exact W.vret hx hb hr (fun t1 ht hW => ⟨⟨(σ_46, I_z8, J_z9, r_45, rj_z11, rq_z12), rfl, ⟨σ_46, I_z8, J_z9, r_45, rj_z11, rq_z12, tg, rfl, hDN, hL_this, hK_this, hCI.2.2.2.2.2.2, PXe_all hPX hPo⟩, by rw [ht]; exact hP, va_K.moved hW.alike hK, hD⟩, hS.F ht⟩) hS.2.2 dX4_init_44

set_option maxHeartbeats 8000000 in
set_option maxRecDepth 100000 in
theorem s_X11_init (l : Launch) (D : va_G) (t : pq_T) (σ : pq_S) (I : Nat → Nat → Int32) (J : Nat → Nat → Int64) (ri : Nat → Nat → Int32) (rj : Nat → Nat → Int64) (rq : Nat → Nat → Option Nat) (sz : Nat) (this : Nat) (h0 : σ = pq_T1 this 11) (hI0 : I = (fun _ _ => 0)) (hr0 : ri = (fun _ _ => 0)) (hq0 : rq = fun _ _ => none) : MetV l yX11_init (wa yX11_init cX11_init 1 none) ({ frames := 4, cells := 192, slots := 9611, locals := 80 }) [.ref this] D t σ (I, J, ri, rj, rq) sz 192 9611 (fun (u : pq_S × pq_M) => ∃ (σ' : pq_S) (I' : Nat → Nat → Int32) (J' : Nat → Nat → Int64) (ri' : Nat → Nat → Int32) (rj' : Nat → Nat → Int64) (rq' : Nat → Nat → Option Nat) (tg' : Nat → Nat), u = (σ', I', J', ri', rj', rq') ∧ DN σ' tg' I' ri' rq' ∧ this ∈ σ'.1 ∧ σ'.2.1 this = 11 ∧ NR σ' this ∧ PXa σ' I' ri') := by
  refine Met.ofW (cc := cX11_init) (maxL := 1) (ret := none) (by decide +kernel) rfl ?_
  intro p e s m args below meth c s₁ B hml hv
  obtain ⟨rfl, hsz, hP, hK, hD0, hN⟩ := hv
  have hx := B.exec
  have hb := B.bytes
  have hr := B.returns
  have hts := atoms_spec (ws := (wa yX11_init cX11_init 1 none)) B.pre
  have hown : s.vm.findClass RX11 = some m.cls := findClass_of_methodNamed B.named
  have hlocks := B.notSynchronized
  have hin : meth.name = "<init>" := (name_of_methodNamed B.named B.method).1
  subst hsz
  have hD : va_D (pq_B t σ (I, J, ri, rj, rq) s.heap.size) (pq_P t σ (I, J, ri, rj, rq)) := hD0.self
  generalize hAe : pq_B t σ (I, J, ri, rj, rq) s.heap.size = A at hD ⊢
  have hA : ∀ q : Nat, s.heap.size ≤ q → A q := fun q h => by rw [← hAe]; exact Or.inr h
  have hS : va_S A s.heap s.heap [] := va_S.rf
  have hl := lv_entry ([.ref this]) (n := 1) (Nat.le_of_ble_eq_true rfl)
  rw [lg_entry_eq]
  generalize (lg_sl ([.ref this]) ++ List.replicate (1 - (lg_sl ([.ref this])).length) Slot.unset).toArray = ls at hl ⊢
  have hl : lv_has ls 1 [(0, .ref this)] := hl
  have hL_this : this ∈ σ.1 := by rw [h0]; exact List.mem_singleton.mpr rfl
  have hK_this : σ.2.1 this = 11 := by rw [h0]; rfl
  obtain ⟨tg, hCI⟩ : ∃ tg, CI σ tg this 11 [] I ri rq := ⟨_, by rw [h0, hI0, hr0, hq0]; exact CI_0 this 11⟩
  have hPX : PXe σ I ri this := PXe_0 (h0 := h0)
  refine lv_aload_n hx hb dX11_init_0 rfl (lv_at hl 0 rfl) ?_
  refine W.objInit hx hb hown (hts _ (tw_c tw_10)) (hts _ (tw_c tw_11)) (hts _ (tw_c tw_12)) rfl (by rw [hml]; exact hl.1) rfl dX11_init_1 (Nat.le_of_ble_eq_true rfl) (Nat.le_of_ble_eq_true rfl) ?_
  refine W.eq (g2 := F0 m 4 ls []) rfl ?_
  refine lv_aload_n hx hb dX11_init_4 rfl (lv_at hl 0 rfl) ?_
  refine va_new (C := RX10) (T := TX10) (N := 13) (ci := 10) (fs := pq_nf 10) hx hb hts (tw_i inlX10) tyX10 tyX10_ok hown (hts _ (tw_c tw_13)) (hts _ (tw_c tw_14)) (hts _ (tw_c tw_15)) hK hP hD hS hA rfl nf_10 (Nat.le_of_ble_eq_true rfl) (Nat.le_of_ble_eq_true rfl) dX11_init_5 (fun q_1 H hPn hDn hS => ?_)
  have hP2 : va_P D vwCl (pq_P t (pq_T1 q_1 10) ((fun _ _ => 0), fun _ _ => 0, (fun _ _ => 0), fun _ _ => 0, fun _ _ => none)) H := pq_new hPn
  have hD2 : va_D A (pq_P t (pq_T1 q_1 10) ((fun _ _ => 0), fun _ _ => 0, (fun _ _ => 0), fun _ _ => 0, fun _ _ => none)) := pq_newD hDn
  have hap : q_1 ∉ σ.1 := pq_apart hDn
  have hP := pq_old hPn
  have hD := pq_oldD hDn
  have hdis0 : ∀ a, a ∈ σ.1 → a ∉ (pq_T1 q_1 10).1 := fun a h1 h2 => hap ((List.mem_singleton.mp h2) ▸ h1)
  refine lv_dup hx hb dX11_init_8 rfl ?_
  refine lk_v (va_runI (As := []) (rest := [.ref q_1, .ref this]) ⟨hx, hb, hml, hown, hts⟩ (s_X10_init l D t (pq_T1 q_1 10) (fun _ _ => 0) (fun _ _ => 0) (fun _ _ => 0) (fun _ _ => 0) (fun _ _ => none) H.size q_1 rfl rfl rfl rfl) (cwI 0 hts (tw_W tw_29) rfl rfl rfl (hts _ (tw_c tw_15)) (hts _ (tw_c tw_27)) (hts _ (tw_c tw_28)) rfl cd_yX10_init_0 ⟨Nat.le_of_ble_eq_true rfl, Nat.le_of_ble_eq_true rfl⟩) ⟨pq_blind, pq_pre hK hN hP2 hD2⟩ rfl rfl hl.1 rfl (lv_room (Nat.le_of_ble_eq_true rfl)) dX11_init_9 ⟨Nat.le_of_ble_eq_true rfl, Nat.le_of_ble_eq_true rfl⟩) hD2 hS hA hP hdis0 (fun τ1 ν1 H locs hw hP2 hD2 hP hdis2 hS => ?_)
  obtain ⟨τ, I2, J2, si, sj, sq, tg2, hu, hDN2, hLq, hKq, hNq, hPq⟩ := hw
  obtain ⟨hua, hub⟩ := Prod.mk.inj hu
  rw [hua, hub] at hP2 hD2
  rw [hua] at hdis2
  obtain ⟨σ_z1, I_z2, J_z3, ri_z4, rj_z5, rq_z6, tg, hP, hD, hCI, hLq, hKq, hNq, hPX⟩ : ∃ (σ_z1 : pq_S) (I_z2 : Nat → Nat → Int32) (J_z3 : Nat → Nat → Int64) (ri_z4 : Nat → Nat → Int32) (rj_z5 : Nat → Nat → Int64) (rq_z6 : Nat → Nat → Option Nat) (tg : Nat → Nat), va_P D vwCl (pq_P t σ_z1 (I_z2, J_z3, ri_z4, rj_z5, rq_z6)) H ∧ va_D A (pq_P t σ_z1 (I_z2, J_z3, ri_z4, rj_z5, rq_z6)) ∧ CI σ_z1 tg this 11 [] I_z2 ri_z4 rq_z6 ∧ q_1 ∈ σ_z1.1 ∧ σ_z1.2.1 q_1 = 10 ∧ NR σ_z1 q_1 ∧ PXe σ_z1 I_z2 ri_z4 this := ⟨_, _, _, _, _, _, _, pU_P hdis2 hP hP2, pU_D hdis2 hD hD2, CI_uni hdis2 hCI hDN2, (pU_i hLq).1, (pU_i hLq).2.1.trans hKq, NR_uni hdis2 hCI hDN2.1 hNq hLq, PXe_uni hdis2 hPX hCI hPq hDN2.1⟩
  have hL_this := hCI.1.1
  have hK_this := hCI.1.2
  refine pr_F (q := q_1) (C := RX11) (T := TX11) (N := 5) hx hb hts (tw_i inlX11) tyX11 tyX11_ok nmX11 hown hK hP hD hS hL_this hK_this (by decide +kernel) rfl 0 352 (by decide +kernel) (hts _ (tw_c tw_16)) rfl hin rfl (tyX11_ok 0 (by decide +kernel)) rfl rfl (Nat.le_of_ble_eq_true rfl) (pr_352 _ _ _ _ _) dX11_init_12 (fun σ_18 H locs hp_19 hP hD hS => ?_)
  have hCI : CI σ_18 tg this 11 [352] I_z2 ri_z4 rq_z6 := CI_ps hCI hp_19 rfl hLq hKq hNq (by decide +kernel)
  have hPX : PXe σ_18 I_z2 ri_z4 this := PXe_ps hPX hp_19
  have hL_this := hCI.1.1
  have hK_this := hCI.1.2
  refine lv_aload_n hx hb dX11_init_15 rfl (lv_at hl 0 rfl) ?_
  refine va_new (C := RX10) (T := TX10) (N := 13) (ci := 10) (fs := pq_nf 10) hx hb hts (tw_i inlX10) tyX10 tyX10_ok hown (hts _ (tw_c tw_13)) (hts _ (tw_c tw_14)) (hts _ (tw_c tw_15)) hK hP hD hS hA rfl nf_10 (Nat.le_of_ble_eq_true rfl) (Nat.le_of_ble_eq_true rfl) dX11_init_16 (fun q_21 H hPn hDn hS => ?_)
  have hP2 : va_P D vwCl (pq_P t (pq_T1 q_21 10) ((fun _ _ => 0), fun _ _ => 0, (fun _ _ => 0), fun _ _ => 0, fun _ _ => none)) H := pq_new hPn
  have hD2 : va_D A (pq_P t (pq_T1 q_21 10) ((fun _ _ => 0), fun _ _ => 0, (fun _ _ => 0), fun _ _ => 0, fun _ _ => none)) := pq_newD hDn
  have hap : q_21 ∉ σ_18.1 := pq_apart hDn
  have hP := pq_old hPn
  have hD := pq_oldD hDn
  have hdis0 : ∀ a, a ∈ σ_18.1 → a ∉ (pq_T1 q_21 10).1 := fun a h1 h2 => hap ((List.mem_singleton.mp h2) ▸ h1)
  refine lv_dup hx hb dX11_init_19 rfl ?_
  refine lk_v (va_runI (As := []) (rest := [.ref q_21, .ref this]) ⟨hx, hb, hml, hown, hts⟩ (s_X10_init l D t (pq_T1 q_21 10) (fun _ _ => 0) (fun _ _ => 0) (fun _ _ => 0) (fun _ _ => 0) (fun _ _ => none) H.size q_21 rfl rfl rfl rfl) (cwI 0 hts (tw_W tw_29) rfl rfl rfl (hts _ (tw_c tw_15)) (hts _ (tw_c tw_27)) (hts _ (tw_c tw_28)) rfl cd_yX10_init_0 ⟨Nat.le_of_ble_eq_true rfl, Nat.le_of_ble_eq_true rfl⟩) ⟨pq_blind, pq_pre hK hN hP2 hD2⟩ rfl rfl hl.1 rfl (lv_room (Nat.le_of_ble_eq_true rfl)) dX11_init_20 ⟨Nat.le_of_ble_eq_true rfl, Nat.le_of_ble_eq_true rfl⟩) hD2 hS hA hP hdis0 (fun τ1 ν1 H locs hw hP2 hD2 hP hdis2 hS => ?_)
  obtain ⟨τ, I2, J2, si, sj, sq, tg2, hu, hDN2, hLq, hKq, hNq, hPq⟩ := hw
  obtain ⟨hua, hub⟩ := Prod.mk.inj hu
  rw [hua, hub] at hP2 hD2
  rw [hua] at hdis2
  obtain ⟨σ_z7, I_z8, J_z9, ri_z10, rj_z11, rq_z12, tg, hP, hD, hCI, hLq, hKq, hNq, hPX⟩ : ∃ (σ_z7 : pq_S) (I_z8 : Nat → Nat → Int32) (J_z9 : Nat → Nat → Int64) (ri_z10 : Nat → Nat → Int32) (rj_z11 : Nat → Nat → Int64) (rq_z12 : Nat → Nat → Option Nat) (tg : Nat → Nat), va_P D vwCl (pq_P t σ_z7 (I_z8, J_z9, ri_z10, rj_z11, rq_z12)) H ∧ va_D A (pq_P t σ_z7 (I_z8, J_z9, ri_z10, rj_z11, rq_z12)) ∧ CI σ_z7 tg this 11 [352] I_z8 ri_z10 rq_z12 ∧ q_21 ∈ σ_z7.1 ∧ σ_z7.2.1 q_21 = 10 ∧ NR σ_z7 q_21 ∧ PXe σ_z7 I_z8 ri_z10 this := ⟨_, _, _, _, _, _, _, pU_P hdis2 hP hP2, pU_D hdis2 hD hD2, CI_uni hdis2 hCI hDN2, (pU_i hLq).1, (pU_i hLq).2.1.trans hKq, NR_uni hdis2 hCI hDN2.1 hNq hLq, PXe_uni hdis2 hPX hCI hPq hDN2.1⟩
  have hL_this := hCI.1.1
  have hK_this := hCI.1.2
  refine pr_F (q := q_21) (C := RX11) (T := TX11) (N := 5) hx hb hts (tw_i inlX11) tyX11 tyX11_ok nmX11 hown hK hP hD hS hL_this hK_this (by decide +kernel) rfl 1 353 (by decide +kernel) (hts _ (tw_c tw_17)) rfl hin rfl (tyX11_ok 1 (by decide +kernel)) rfl rfl (Nat.le_of_ble_eq_true rfl) (pr_353 _ _ _ _ _) dX11_init_23 (fun σ_38 H locs hp_39 hP hD hS => ?_)
  have hCI : CI σ_38 tg this 11 [353, 352] I_z8 ri_z10 rq_z12 := CI_ps hCI hp_39 rfl hLq hKq hNq (by decide +kernel)
  have hPX : PXe σ_38 I_z8 ri_z10 this := PXe_ps hPX hp_39
  have hL_this := hCI.1.1
  have hK_this := hCI.1.2
  refine lv_aload_n hx hb dX11_init_26 rfl (lv_at hl 0 rfl) ?_
  refine va_new (C := RX10) (T := TX10) (N := 13) (ci := 10) (fs := pq_nf 10) hx hb hts (tw_i inlX10) tyX10 tyX10_ok hown (hts _ (tw_c tw_13)) (hts _ (tw_c tw_14)) (hts _ (tw_c tw_15)) hK hP hD hS hA rfl nf_10 (Nat.le_of_ble_eq_true rfl) (Nat.le_of_ble_eq_true rfl) dX11_init_27 (fun q_41 H hPn hDn hS => ?_)
  have hP2 : va_P D vwCl (pq_P t (pq_T1 q_41 10) ((fun _ _ => 0), fun _ _ => 0, (fun _ _ => 0), fun _ _ => 0, fun _ _ => none)) H := pq_new hPn
  have hD2 : va_D A (pq_P t (pq_T1 q_41 10) ((fun _ _ => 0), fun _ _ => 0, (fun _ _ => 0), fun _ _ => 0, fun _ _ => none)) := pq_newD hDn
  have hap : q_41 ∉ σ_38.1 := pq_apart hDn
  have hP := pq_old hPn
  have hD := pq_oldD hDn
  have hdis0 : ∀ a, a ∈ σ_38.1 → a ∉ (pq_T1 q_41 10).1 := fun a h1 h2 => hap ((List.mem_singleton.mp h2) ▸ h1)
  refine lv_dup hx hb dX11_init_30 rfl ?_
  refine lk_v (va_runI (As := []) (rest := [.ref q_41, .ref this]) ⟨hx, hb, hml, hown, hts⟩ (s_X10_init l D t (pq_T1 q_41 10) (fun _ _ => 0) (fun _ _ => 0) (fun _ _ => 0) (fun _ _ => 0) (fun _ _ => none) H.size q_41 rfl rfl rfl rfl) (cwI 0 hts (tw_W tw_29) rfl rfl rfl (hts _ (tw_c tw_15)) (hts _ (tw_c tw_27)) (hts _ (tw_c tw_28)) rfl cd_yX10_init_0 ⟨Nat.le_of_ble_eq_true rfl, Nat.le_of_ble_eq_true rfl⟩) ⟨pq_blind, pq_pre hK hN hP2 hD2⟩ rfl rfl hl.1 rfl (lv_room (Nat.le_of_ble_eq_true rfl)) dX11_init_31 ⟨Nat.le_of_ble_eq_true rfl, Nat.le_of_ble_eq_true rfl⟩) hD2 hS hA hP hdis0 (fun τ1 ν1 H locs hw hP2 hD2 hP hdis2 hS => ?_)
  obtain ⟨τ, I2, J2, si, sj, sq, tg2, hu, hDN2, hLq, hKq, hNq, hPq⟩ := hw
  obtain ⟨hua, hub⟩ := Prod.mk.inj hu
  rw [hua, hub] at hP2 hD2
  rw [hua] at hdis2
  obtain ⟨σ_z13, I_z14, J_z15, ri_z16, rj_z17, rq_z18, tg, hP, hD, hCI, hLq, hKq, hNq, hPX⟩ : ∃ (σ_z13 : pq_S) (I_z14 : Nat → Nat → Int32) (J_z15 : Nat → Nat → Int64) (ri_z16 : Nat → Nat → Int32) (rj_z17 : Nat → Nat → Int64) (rq_z18 : Nat → Nat → Option Nat) (tg : Nat → Nat), va_P D vwCl (pq_P t σ_z13 (I_z14, J_z15, ri_z16, rj_z17, rq_z18)) H ∧ va_D A (pq_P t σ_z13 (I_z14, J_z15, ri_z16, rj_z17, rq_z18)) ∧ CI σ_z13 tg this 11 [353, 352] I_z14 ri_z16 rq_z18 ∧ q_41 ∈ σ_z13.1 ∧ σ_z13.2.1 q_41 = 10 ∧ NR σ_z13 q_41 ∧ PXe σ_z13 I_z14 ri_z16 this := ⟨_, _, _, _, _, _, _, pU_P hdis2 hP hP2, pU_D hdis2 hD hD2, CI_uni hdis2 hCI hDN2, (pU_i hLq).1, (pU_i hLq).2.1.trans hKq, NR_uni hdis2 hCI hDN2.1 hNq hLq, PXe_uni hdis2 hPX hCI hPq hDN2.1⟩
  have hL_this := hCI.1.1
  have hK_this := hCI.1.2
  refine pr_F (q := q_41) (C := RX11) (T := TX11) (N := 5) hx hb hts (tw_i inlX11) tyX11 tyX11_ok nmX11 hown hK hP hD hS hL_this hK_this (by decide +kernel) rfl 2 354 (by decide +kernel) (hts _ (tw_c tw_18)) rfl hin rfl (tyX11_ok 2 (by decide +kernel)) rfl rfl (Nat.le_of_ble_eq_true rfl) (pr_354 _ _ _ _ _) dX11_init_34 (fun σ_58 H locs hp_59 hP hD hS => ?_)
  have hCI : CI σ_58 tg this 11 [354, 353, 352] I_z14 ri_z16 rq_z18 := CI_ps hCI hp_59 rfl hLq hKq hNq (by decide +kernel)
  have hPX : PXe σ_58 I_z14 ri_z16 this := PXe_ps hPX hp_59
  have hL_this := hCI.1.1
  have hK_this := hCI.1.2
  refine lv_aload_n hx hb dX11_init_37 rfl (lv_at hl 0 rfl) ?_
  refine va_new (C := RX5) (T := TX5) (N := 8) (ci := 5) (fs := pq_nf 5) hx hb hts (tw_i inlX5) tyX5 tyX5_ok hown (hts _ (tw_c tw_19)) (hts _ (tw_c tw_20)) (hts _ (tw_c tw_21)) hK hP hD hS hA rfl nf_5 (Nat.le_of_ble_eq_true rfl) (Nat.le_of_ble_eq_true rfl) dX11_init_38 (fun q_61 H hPn hDn hS => ?_)
  have hP2 : va_P D vwCl (pq_P t (pq_T1 q_61 5) ((fun _ _ => 0), fun _ _ => 0, (fun _ _ => 0), fun _ _ => 0, fun _ _ => none)) H := pq_new hPn
  have hD2 : va_D A (pq_P t (pq_T1 q_61 5) ((fun _ _ => 0), fun _ _ => 0, (fun _ _ => 0), fun _ _ => 0, fun _ _ => none)) := pq_newD hDn
  have hap : q_61 ∉ σ_58.1 := pq_apart hDn
  have hP := pq_old hPn
  have hD := pq_oldD hDn
  have hdis0 : ∀ a, a ∈ σ_58.1 → a ∉ (pq_T1 q_61 5).1 := fun a h1 h2 => hap ((List.mem_singleton.mp h2) ▸ h1)
  refine lv_dup hx hb dX11_init_41 rfl ?_
  refine lk_v (va_runIN (As := []) (rest := [.ref q_61, .ref this]) ⟨hx, hb, hml, hown, hts⟩ (s_X5_init l D t (pq_T1 q_61 5) (fun _ _ => 0) (fun _ _ => 0) (fun _ _ => 0) (fun _ _ => 0) (fun _ _ => none) H.size q_61 rfl rfl rfl rfl) ⟨va_cnB (host := "RingsUnder") 0 hts (tw_W tw_140) rfl rfl rfl (nl_7 hN) (hts _ (tw_c tw_21)) cd_yX5_init_0 ⟨Nat.le_of_ble_eq_true rfl, Nat.le_of_ble_eq_true rfl⟩, rfl, hts (.instanceMethod yX5_init) (tw_c tq_instanceMethod_yX5_init)⟩ ⟨pq_blind, pq_pre hK hN hP2 hD2⟩ rfl rfl hl.1 rfl (lv_room (Nat.le_of_ble_eq_true rfl)) dX11_init_42 ⟨Nat.le_of_ble_eq_true rfl, Nat.le_of_ble_eq_true rfl⟩) hD2 hS hA hP hdis0 (fun τ1 ν1 H locs hw hP2 hD2 hP hdis2 hS => ?_)
  obtain ⟨τ, I2, J2, si, sj, sq, tg2, hu, hDN2, hLq, hKq, hNq, hPq⟩ := hw
  obtain ⟨hua, hub⟩ := Prod.mk.inj hu
  rw [hua, hub] at hP2 hD2
  rw [hua] at hdis2
  obtain ⟨σ_z19, I_z20, J_z21, ri_z22, rj_z23, rq_z24, tg, hP, hD, hCI, hLq, hKq, hNq, hPX⟩ : ∃ (σ_z19 : pq_S) (I_z20 : Nat → Nat → Int32) (J_z21 : Nat → Nat → Int64) (ri_z22 : Nat → Nat → Int32) (rj_z23 : Nat → Nat → Int64) (rq_z24 : Nat → Nat → Option Nat) (tg : Nat → Nat), va_P D vwCl (pq_P t σ_z19 (I_z20, J_z21, ri_z22, rj_z23, rq_z24)) H ∧ va_D A (pq_P t σ_z19 (I_z20, J_z21, ri_z22, rj_z23, rq_z24)) ∧ CI σ_z19 tg this 11 [354, 353, 352] I_z20 ri_z22 rq_z24 ∧ q_61 ∈ σ_z19.1 ∧ σ_z19.2.1 q_61 = 5 ∧ NR σ_z19 q_61 ∧ PXe σ_z19 I_z20 ri_z22 this := ⟨_, _, _, _, _, _, _, pU_P hdis2 hP hP2, pU_D hdis2 hD hD2, CI_uni hdis2 hCI hDN2, (pU_i hLq).1, (pU_i hLq).2.1.trans hKq, NR_uni hdis2 hCI hDN2.1 hNq hLq, PXe_uni hdis2 hPX hCI hPq hDN2.1⟩
  have hL_this := hCI.1.1
  have hK_this := hCI.1.2
  refine pr_F (q := q_61) (C := RX11) (T := TX11) (N := 5) hx hb hts (tw_i inlX11) tyX11 tyX11_ok nmX11 hown hK hP hD hS hL_this hK_this (by decide +kernel) rfl 3 355 (by decide +kernel) (hts _ (tw_c tw_22)) rfl hin rfl (tyX11_ok 3 (by decide +kernel)) rfl rfl (Nat.le_of_ble_eq_true rfl) (pr_355 _ _ _ _ _) dX11_init_45 (fun σ_78 H locs hp_79 hP hD hS => ?_)
  have hCI : CI σ_78 tg this 11 [355, 354, 353, 352] I_z20 ri_z22 rq_z24 := CI_ps hCI hp_79 rfl hLq hKq hNq (by decide +kernel)
  have hPX : PXe σ_78 I_z20 ri_z22 this := PXe_ps hPX hp_79
  have hL_this := hCI.1.1
  have hK_this := hCI.1.2
  refine lv_aload_n hx hb dX11_init_48 rfl (lv_at hl 0 rfl) ?_
  refine va_new (C := RX4) (T := TX4) (N := 12) (ci := 4) (fs := pq_nf 4) hx hb hts (tw_i inlX4) tyX4 tyX4_ok hown (hts _ (tw_c tw_23)) (hts _ (tw_c tw_24)) (hts _ (tw_c tw_25)) hK hP hD hS hA rfl nf_4 (Nat.le_of_ble_eq_true rfl) (Nat.le_of_ble_eq_true rfl) dX11_init_49 (fun q_81 H hPn hDn hS => ?_)
  have hP2 : va_P D vwCl (pq_P t (pq_T1 q_81 4) ((fun _ _ => 0), fun _ _ => 0, (fun _ _ => 0), fun _ _ => 0, fun _ _ => none)) H := pq_new hPn
  have hD2 : va_D A (pq_P t (pq_T1 q_81 4) ((fun _ _ => 0), fun _ _ => 0, (fun _ _ => 0), fun _ _ => 0, fun _ _ => none)) := pq_newD hDn
  have hap : q_81 ∉ σ_78.1 := pq_apart hDn
  have hP := pq_old hPn
  have hD := pq_oldD hDn
  have hdis0 : ∀ a, a ∈ σ_78.1 → a ∉ (pq_T1 q_81 4).1 := fun a h1 h2 => hap ((List.mem_singleton.mp h2) ▸ h1)
  refine lv_dup hx hb dX11_init_52 rfl ?_
  refine lk_v (va_runIN (As := []) (rest := [.ref q_81, .ref this]) ⟨hx, hb, hml, hown, hts⟩ (s_X4_init l D t (pq_T1 q_81 4) (fun _ _ => 0) (fun _ _ => 0) (fun _ _ => 0) (fun _ _ => 0) (fun _ _ => none) H.size q_81 rfl rfl rfl rfl) ⟨va_cnB (host := "RingsUnder") 0 hts (tw_W tw_149) rfl rfl rfl (nl_8 hN) (hts _ (tw_c tw_25)) cd_yX4_init_0 ⟨Nat.le_of_ble_eq_true rfl, Nat.le_of_ble_eq_true rfl⟩, rfl, hts (.instanceMethod yX4_init) (tw_c tq_instanceMethod_yX4_init)⟩ ⟨pq_blind, pq_pre hK hN hP2 hD2⟩ rfl rfl hl.1 rfl (lv_room (Nat.le_of_ble_eq_true rfl)) dX11_init_53 ⟨Nat.le_of_ble_eq_true rfl, Nat.le_of_ble_eq_true rfl⟩) hD2 hS hA hP hdis0 (fun τ1 ν1 H locs hw hP2 hD2 hP hdis2 hS => ?_)
  obtain ⟨τ, I2, J2, si, sj, sq, tg2, hu, hDN2, hLq, hKq, hNq, hPq⟩ := hw
  obtain ⟨hua, hub⟩ := Prod.mk.inj hu
  rw [hua, hub] at hP2 hD2
  rw [hua] at hdis2
  obtain ⟨σ_z25, I_z26, J_z27, ri_z28, rj_z29, rq_z30, tg, hP, hD, hCI, hLq, hKq, hNq, hPX⟩ : ∃ (σ_z25 : pq_S) (I_z26 : Nat → Nat → Int32) (J_z27 : Nat → Nat → Int64) (ri_z28 : Nat → Nat → Int32) (rj_z29 : Nat → Nat → Int64) (rq_z30 : Nat → Nat → Option Nat) (tg : Nat → Nat), va_P D vwCl (pq_P t σ_z25 (I_z26, J_z27, ri_z28, rj_z29, rq_z30)) H ∧ va_D A (pq_P t σ_z25 (I_z26, J_z27, ri_z28, rj_z29, rq_z30)) ∧ CI σ_z25 tg this 11 [355, 354, 353, 352] I_z26 ri_z28 rq_z30 ∧ q_81 ∈ σ_z25.1 ∧ σ_z25.2.1 q_81 = 4 ∧ NR σ_z25 q_81 ∧ PXe σ_z25 I_z26 ri_z28 this := ⟨_, _, _, _, _, _, _, pU_P hdis2 hP hP2, pU_D hdis2 hD hD2, CI_uni hdis2 hCI hDN2, (pU_i hLq).1, (pU_i hLq).2.1.trans hKq, NR_uni hdis2 hCI hDN2.1 hNq hLq, PXe_uni hdis2 hPX hCI hPq hDN2.1⟩
  have hL_this := hCI.1.1
  have hK_this := hCI.1.2
  refine pr_F (q := q_81) (C := RX11) (T := TX11) (N := 5) hx hb hts (tw_i inlX11) tyX11 tyX11_ok nmX11 hown hK hP hD hS hL_this hK_this (by decide +kernel) rfl 4 356 (by decide +kernel) (hts _ (tw_c tw_26)) rfl hin rfl (tyX11_ok 4 (by decide +kernel)) rfl rfl (Nat.le_of_ble_eq_true rfl) (pr_356 _ _ _ _ _) dX11_init_56 (fun σ_98 H locs hp_99 hP hD hS => ?_)
  have hCI : CI σ_98 tg this 11 [356, 355, 354, 353, 352] I_z26 ri_z28 rq_z30 := CI_ps hCI hp_99 rfl hLq hKq hNq (by decide +kernel)
  have hPX : PXe σ_98 I_z26 ri_z28 this := PXe_ps hPX hp_99
  have hL_this := hCI.1.1
  have hK_this := hCI.1.2
  have hDN := CI_done hCI (by decide +kernel) (by decide +kernel)
  have hPo : PXo σ_98 I_z26 ri_z28 this := PX_no (by rw [hK_this]; decide) (by rw [hK_this]; decide) (by rw [hK_this]; decide)
  exact W.vret hx hb hr (fun t1 ht hW => ⟨⟨(σ_98, I_z26, J_z27, ri_z28, rj_z29, rq_z30), rfl, ⟨σ_98, I_z26, J_z27, ri_z28, rj_z29, rq_z30, tg, rfl, hDN, hL_this, hK_this, hCI.2.2.2.2.2.2, PXe_all hPX hPo⟩, by rw [ht]; exact hP, va_K.moved hW.alike hK, hD⟩, hS.F ht⟩) hS.2.2 dX11_init_59
