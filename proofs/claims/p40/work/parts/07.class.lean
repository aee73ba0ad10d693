theorem dX11_copy_0 : decode cX11_copy 0 = .ok (.aload_n 0, 1) := oc_42 (by decide +kernel)
theorem dX11_copy_1 : decode cX11_copy 1 = .ok (.iconst 0, 1) := oc_3 (by decide +kernel)
theorem dX11_copy_2 : decode cX11_copy 2 = .ok (.aload_n 1, 1) := oc_43 (by decide +kernel)
theorem dX11_copy_3 : decode cX11_copy 3 = .ok (.iconst 0, 1) := oc_3 (by decide +kernel)
theorem dX11_copy_4 : decode cX11_copy 4 = .ok (.aload_n 0, 1) := oc_42 (by decide +kernel)
theorem dX11_copy_5 : decode cX11_copy 5 = .ok (.arraylength, 1) := oc_190 (by decide +kernel)
theorem dX11_copy_6 : decode cX11_copy 6 = .ok (.aload_n 1, 1) := oc_43 (by decide +kernel)
theorem dX11_copy_7 : decode cX11_copy 7 = .ok (.arraylength, 1) := oc_190 (by decide +kernel)
theorem tw_1103 : Cond.methodLink RX11 378 Lib.Math.min.name ∈ wsL_law := sg_46 _ (List.mem_of_getElem? (i := 23) rfl)
theorem tw_467 : Cond.static Lib.Math.min.name ∈ wsL_law := sg_20 _ (List.mem_of_getElem? (i := 11) rfl)
theorem tw_276 : Cond.initialized "java/lang/Math" ∈ wsL_law := sg_12 _ (List.mem_of_getElem? (i := 12) rfl)
theorem tw_468 : Cond.code Lib.Math.min.name Lib.Math.min.code 2 (some .int) ∈ wsL_law := sg_20 _ (List.mem_of_getElem? (i := 12) rfl)
theorem dX11_copy_8 : decode cX11_copy 8 = .ok (.invokestatic 378, 3) := oc_184 (a := 1) (b := 122) (by decide +kernel)
theorem tw_1104 : Cond.methodLink RX11 383 arraycopyName ∈ wsL_law := sg_47 _ (List.mem_of_getElem? (i := 0) rfl)
theorem tw_1105 : Cond.native arraycopyName ∈ wsL_law := sg_47 _ (List.mem_of_getElem? (i := 1) rfl)
theorem tw_1106 : Cond.static arraycopyName ∈ wsL_law := sg_47 _ (List.mem_of_getElem? (i := 2) rfl)
theorem tw_1107 : Cond.initialized "java/lang/System" ∈ wsL_law := sg_47 _ (List.mem_of_getElem? (i := 3) rfl)
theorem dX11_copy_11 : decode cX11_copy 11 = .ok (.invokestatic 383, 3) := oc_184 (a := 1) (b := 127) (by decide +kernel)
theorem dX11_copy_14 : decode cX11_copy 14 = .ok (.return_, 1) := oc_177 (by decide +kernel)
theorem dX0_copyFrom_0 : decode cX0_copyFrom 0 = .ok (.aload_n 0, 1) := oc_42 (by decide +kernel)
theorem dX0_copyFrom_1 : decode cX0_copyFrom 1 = .ok (.aload_n 1, 1) := oc_43 (by decide +kernel)
theorem tw_395 : Cond.fieldLink RX0 54 "RingsUnder$Folk" "persons" "I" ∈ wsL_law := sg_17 _ (List.mem_of_getElem? (i := 11) rfl)
theorem dX0_copyFrom_2 : decode cX0_copyFrom 2 = .ok (.getfield 54, 3) := oc_180 (a := 0) (b := 54) (by decide +kernel)
theorem dX0_copyFrom_5 : decode cX0_copyFrom 5 = .ok (.putfield 54, 3) := oc_181 (a := 0) (b := 54) (by decide +kernel)
theorem dX0_copyFrom_8 : decode cX0_copyFrom 8 = .ok (.aload_n 1, 1) := oc_43 (by decide +kernel)
theorem tw_110 : Cond.fieldLink RX0 9 "RingsUnder$Folk" "kin" "[I" ∈ wsL_law := sg_5 _ (List.mem_of_getElem? (i := 14) rfl)
theorem dX0_copyFrom_9 : decode cX0_copyFrom 9 = .ok (.getfield 9, 3) := oc_180 (a := 0) (b := 9) (by decide +kernel)
theorem dX0_copyFrom_12 : decode cX0_copyFrom 12 = .ok (.aload_n 0, 1) := oc_42 (by decide +kernel)
theorem dX0_copyFrom_13 : decode cX0_copyFrom 13 = .ok (.getfield 9, 3) := oc_180 (a := 0) (b := 9) (by decide +kernel)
theorem tw_1102 : Cond.code yX11_copy cX11_copy 2 none ∈ wsL_law := sg_46 _ (List.mem_of_getElem? (i := 22) rfl)
theorem tw_2 : Cond.initialized RX11 ∈ wsL_law := sg_1 _ (List.mem_of_getElem? (i := 2) rfl)
theorem dX0_copyFrom_16 : decode cX0_copyFrom 16 = .ok (.invokestatic 58, 3) := oc_184 (a := 0) (b := 58) (by decide +kernel)
theorem dX0_copyFrom_19 : decode cX0_copyFrom 19 = .ok (.aload_n 1, 1) := oc_43 (by decide +kernel)
theorem tw_111 : Cond.fieldLink RX0 15 "RingsUnder$Folk" "age" "[I" ∈ wsL_law := sg_5 _ (List.mem_of_getElem? (i := 15) rfl)
theorem dX0_copyFrom_20 : decode cX0_copyFrom 20 = .ok (.getfield 15, 3) := oc_180 (a := 0) (b := 15) (by decide +kernel)
theorem dX0_copyFrom_23 : decode cX0_copyFrom 23 = .ok (.aload_n 0, 1) := oc_42 (by decide +kernel)
theorem dX0_copyFrom_24 : decode cX0_copyFrom 24 = .ok (.getfield 15, 3) := oc_180 (a := 0) (b := 15) (by decide +kernel)
theorem dX0_copyFrom_27 : decode cX0_copyFrom 27 = .ok (.invokestatic 58, 3) := oc_184 (a := 0) (b := 58) (by decide +kernel)
theorem dX0_copyFrom_30 : decode cX0_copyFrom 30 = .ok (.aload_n 1, 1) := oc_43 (by decide +kernel)
theorem tw_112 : Cond.fieldLink RX0 18 "RingsUnder$Folk" "craft" "[I" ∈ wsL_law := sg_5 _ (List.mem_of_getElem? (i := 16) rfl)
theorem dX0_copyFrom_31 : decode cX0_copyFrom 31 = .ok (.getfield 18, 3) := oc_180 (a := 0) (b := 18) (by decide +kernel)
theorem dX0_copyFrom_34 : decode cX0_copyFrom 34 = .ok (.aload_n 0, 1) := oc_42 (by decide +kernel)
theorem dX0_copyFrom_35 : decode cX0_copyFrom 35 = .ok (.getfield 18, 3) := oc_180 (a := 0) (b := 18) (by decide +kernel)
theorem dX0_copyFrom_38 : decode cX0_copyFrom 38 = .ok (.invokestatic 58, 3) := oc_184 (a := 0) (b := 58) (by decide +kernel)
theorem dX0_copyFrom_41 : decode cX0_copyFrom 41 = .ok (.aload_n 1, 1) := oc_43 (by decide +kernel)
theorem tw_113 : Cond.fieldLink RX0 21 "RingsUnder$Folk" "send" "[I" ∈ wsL_law := sg_5 _ (List.mem_of_getElem? (i := 17) rfl)
theorem dX0_copyFrom_42 : decode cX0_copyFrom 42 = .ok (.getfield 21, 3) := oc_180 (a := 0) (b := 21) (by decide +kernel)
theorem dX0_copyFrom_45 : decode cX0_copyFrom 45 = .ok (.aload_n 0, 1) := oc_42 (by decide +kernel)
theorem dX0_copyFrom_46 : decode cX0_copyFrom 46 = .ok (.getfield 21, 3) := oc_180 (a := 0) (b := 21) (by decide +kernel)
theorem dX0_copyFrom_49 : decode cX0_copyFrom 49 = .ok (.invokestatic 58, 3) := oc_184 (a := 0) (b := 58) (by decide +kernel)
theorem dX0_copyFrom_52 : decode cX0_copyFrom 52 = .ok (.aload_n 1, 1) := oc_43 (by decide +kernel)
theorem tw_114 : Cond.fieldLink RX0 24 "RingsUnder$Folk" "place" "[I" ∈ wsL_law := sg_5 _ (List.mem_of_getElem? (i := 18) rfl)
theorem dX0_copyFrom_53 : decode cX0_copyFrom 53 = .ok (.getfield 24, 3) := oc_180 (a := 0) (b := 24) (by decide +kernel)
theorem dX0_copyFrom_56 : decode cX0_copyFrom 56 = .ok (.aload_n 0, 1) := oc_42 (by decide +kernel)
theorem dX0_copyFrom_57 : decode cX0_copyFrom 57 = .ok (.getfield 24, 3) := oc_180 (a := 0) (b := 24) (by decide +kernel)
theorem dX0_copyFrom_60 : decode cX0_copyFrom 60 = .ok (.invokestatic 58, 3) := oc_184 (a := 0) (b := 58) (by decide +kernel)
theorem dX0_copyFrom_63 : decode cX0_copyFrom 63 = .ok (.aload_n 1, 1) := oc_43 (by decide +kernel)
theorem tw_115 : Cond.fieldLink RX0 27 "RingsUnder$Folk" "thirst" "[I" ∈ wsL_law := sg_5 _ (List.mem_of_getElem? (i := 19) rfl)
theorem dX0_copyFrom_64 : decode cX0_copyFrom 64 = .ok (.getfield 27, 3) := oc_180 (a := 0) (b := 27) (by decide +kernel)
theorem dX0_copyFrom_67 : decode cX0_copyFrom 67 = .ok (.aload_n 0, 1) := oc_42 (by decide +kernel)
theorem dX0_copyFrom_68 : decode cX0_copyFrom 68 = .ok (.getfield 27, 3) := oc_180 (a := 0) (b := 27) (by decide +kernel)
theorem dX0_copyFrom_71 : decode cX0_copyFrom 71 = .ok (.invokestatic 58, 3) := oc_184 (a := 0) (b := 58) (by decide +kernel)
theorem dX0_copyFrom_74 : decode cX0_copyFrom 74 = .ok (.aload_n 1, 1) := oc_43 (by decide +kernel)
theorem tw_116 : Cond.fieldLink RX0 30 "RingsUnder$Folk" "noBed" "[I" ∈ wsL_law := sg_5 _ (List.mem_of_getElem? (i := 20) rfl)
theorem dX0_copyFrom_75 : decode cX0_copyFrom 75 = .ok (.getfield 30, 3) := oc_180 (a := 0) (b := 30) (by decide +kernel)
theorem dX0_copyFrom_78 : decode cX0_copyFrom 78 = .ok (.aload_n 0, 1) := oc_42 (by decide +kernel)
theorem dX0_copyFrom_79 : decode cX0_copyFrom 79 = .ok (.getfield 30, 3) := oc_180 (a := 0) (b := 30) (by decide +kernel)
theorem dX0_copyFrom_82 : decode cX0_copyFrom 82 = .ok (.invokestatic 58, 3) := oc_184 (a := 0) (b := 58) (by decide +kernel)
theorem dX0_copyFrom_85 : decode cX0_copyFrom 85 = .ok (.aload_n 1, 1) := oc_43 (by decide +kernel)
theorem tw_117 : Cond.fieldLink RX0 33 "RingsUnder$Folk" "went" "[I" ∈ wsL_law := sg_5 _ (List.mem_of_getElem? (i := 21) rfl)
theorem dX0_copyFrom_86 : decode cX0_copyFrom 86 = .ok (.getfield 33, 3) := oc_180 (a := 0) (b := 33) (by decide +kernel)
theorem dX0_copyFrom_89 : decode cX0_copyFrom 89 = .ok (.aload_n 0, 1) := oc_42 (by decide +kernel)
theorem dX0_copyFrom_90 : decode cX0_copyFrom 90 = .ok (.getfield 33, 3) := oc_180 (a := 0) (b := 33) (by decide +kernel)
theorem dX0_copyFrom_93 : decode cX0_copyFrom 93 = .ok (.invokestatic 58, 3) := oc_184 (a := 0) (b := 58) (by decide +kernel)
theorem dX0_copyFrom_96 : decode cX0_copyFrom 96 = .ok (.aload_n 1, 1) := oc_43 (by decide +kernel)
theorem tw_118 : Cond.fieldLink RX0 36 "RingsUnder$Folk" "vote" "[I" ∈ wsL_law := sg_5 _ (List.mem_of_getElem? (i := 22) rfl)
theorem dX0_copyFrom_97 : decode cX0_copyFrom 97 = .ok (.getfield 36, 3) := oc_180 (a := 0) (b := 36) (by decide +kernel)
theorem dX0_copyFrom_100 : decode cX0_copyFrom 100 = .ok (.aload_n 0, 1) := oc_42 (by decide +kernel)
theorem dX0_copyFrom_101 : decode cX0_copyFrom 101 = .ok (.getfield 36, 3) := oc_180 (a := 0) (b := 36) (by decide +kernel)
theorem dX0_copyFrom_104 : decode cX0_copyFrom 104 = .ok (.invokestatic 58, 3) := oc_184 (a := 0) (b := 58) (by decide +kernel)
theorem dX0_copyFrom_107 : decode cX0_copyFrom 107 = .ok (.aload_n 0, 1) := oc_42 (by decide +kernel)
theorem dX0_copyFrom_108 : decode cX0_copyFrom 108 = .ok (.aload_n 1, 1) := oc_43 (by decide +kernel)
theorem tw_1171 : Cond.fieldLink RX0 62 "RingsUnder$Folk" "lots" "I" ∈ wsL_law := sg_49 _ (List.mem_of_getElem? (i := 19) rfl)
theorem dX0_copyFrom_109 : decode cX0_copyFrom 109 = .ok (.getfield 62, 3) := oc_180 (a := 0) (b := 62) (by decide +kernel)
theorem dX0_copyFrom_112 : decode cX0_copyFrom 112 = .ok (.putfield 62, 3) := oc_181 (a := 0) (b := 62) (by decide +kernel)
theorem dX0_copyFrom_115 : decode cX0_copyFrom 115 = .ok (.aload_n 1, 1) := oc_43 (by decide +kernel)
theorem tw_119 : Cond.fieldLink RX0 39 "RingsUnder$Folk" "lotBeds" "[I" ∈ wsL_law := sg_5 _ (List.mem_of_getElem? (i := 23) rfl)
theorem dX0_copyFrom_116 : decode cX0_copyFrom 116 = .ok (.getfield 39, 3) := oc_180 (a := 0) (b := 39) (by decide +kernel)
theorem dX0_copyFrom_119 : decode cX0_copyFrom 119 = .ok (.aload_n 0, 1) := oc_42 (by decide +kernel)
theorem dX0_copyFrom_120 : decode cX0_copyFrom 120 = .ok (.getfield 39, 3) := oc_180 (a := 0) (b := 39) (by decide +kernel)
theorem dX0_copyFrom_123 : decode cX0_copyFrom 123 = .ok (.invokestatic 58, 3) := oc_184 (a := 0) (b := 58) (by decide +kernel)
theorem dX0_copyFrom_126 : decode cX0_copyFrom 126 = .ok (.return_, 1) := oc_177 (by decide +kernel)
theorem dX0_addPerson_0 : decode cX0_addPerson 0 = .ok (.aload_n 0, 1) := oc_42 (by decide +kernel)
theorem dX0_addPerson_1 : decode cX0_addPerson 1 = .ok (.getfield 54, 3) := oc_180 (a := 0) (b := 54) (by decide +kernel)
theorem dX0_addPerson_4 : decode cX0_addPerson 4 = .ok (.bipush 40, 2) := oc_16 (a := 40) (by decide +kernel)
theorem dX0_addPerson_6 : decode cX0_addPerson 6 = .ok (.if_icmp .lt 5, 3) := oc_161 (a := 0) (b := 5) (by decide +kernel)
theorem dX0_addPerson_11 : decode cX0_addPerson 11 = .ok (.aload_n 0, 1) := oc_42 (by decide +kernel)
theorem dX0_addPerson_12 : decode cX0_addPerson 12 = .ok (.getfield 54, 3) := oc_180 (a := 0) (b := 54) (by decide +kernel)
theorem dX0_addPerson_15 : decode cX0_addPerson 15 = .ok (.istore 6, 2) := oc_54 (by decide +kernel)
theorem dX0_addPerson_17 : decode cX0_addPerson 17 = .ok (.aload_n 0, 1) := oc_42 (by decide +kernel)
theorem dX0_addPerson_18 : decode cX0_addPerson 18 = .ok (.getfield 9, 3) := oc_180 (a := 0) (b := 9) (by decide +kernel)
theorem dX0_addPerson_21 : decode cX0_addPerson 21 = .ok (.iload 6, 2) := oc_21 (by decide +kernel)
theorem dX0_addPerson_23 : decode cX0_addPerson 23 = .ok (.iload_n 1, 1) := oc_27 (by decide +kernel)
theorem dX0_addPerson_24 : decode cX0_addPerson 24 = .ok (.iastore, 1) := oc_79 (by decide +kernel)
theorem dX0_addPerson_25 : decode cX0_addPerson 25 = .ok (.aload_n 0, 1) := oc_42 (by decide +kernel)
theorem dX0_addPerson_26 : decode cX0_addPerson 26 = .ok (.getfield 15, 3) := oc_180 (a := 0) (b := 15) (by decide +kernel)
theorem dX0_addPerson_29 : decode cX0_addPerson 29 = .ok (.iload 6, 2) := oc_21 (by decide +kernel)
theorem dX0_addPerson_31 : decode cX0_addPerson 31 = .ok (.iload_n 2, 1) := oc_28 (by decide +kernel)
theorem dX0_addPerson_32 : decode cX0_addPerson 32 = .ok (.iastore, 1) := oc_79 (by decide +kernel)
theorem dX0_addPerson_33 : decode cX0_addPerson 33 = .ok (.aload_n 0, 1) := oc_42 (by decide +kernel)
theorem dX0_addPerson_34 : decode cX0_addPerson 34 = .ok (.getfield 18, 3) := oc_180 (a := 0) (b := 18) (by decide +kernel)
theorem dX0_addPerson_37 : decode cX0_addPerson 37 = .ok (.iload 6, 2) := oc_21 (by decide +kernel)
theorem dX0_addPerson_39 : decode cX0_addPerson 39 = .ok (.iload_n 3, 1) := oc_29 (by decide +kernel)
theorem dX0_addPerson_40 : decode cX0_addPerson 40 = .ok (.iastore, 1) := oc_79 (by decide +kernel)
theorem dX0_addPerson_41 : decode cX0_addPerson 41 = .ok (.aload_n 0, 1) := oc_42 (by decide +kernel)
theorem dX0_addPerson_42 : decode cX0_addPerson 42 = .ok (.getfield 24, 3) := oc_180 (a := 0) (b := 24) (by decide +kernel)
theorem dX0_addPerson_45 : decode cX0_addPerson 45 = .ok (.iload 6, 2) := oc_21 (by decide +kernel)
theorem dX0_addPerson_47 : decode cX0_addPerson 47 = .ok (.iload 4, 2) := oc_21 (by decide +kernel)
theorem dX0_addPerson_49 : decode cX0_addPerson 49 = .ok (.iastore, 1) := oc_79 (by decide +kernel)
theorem dX0_addPerson_50 : decode cX0_addPerson 50 = .ok (.aload_n 0, 1) := oc_42 (by decide +kernel)
theorem dX0_addPerson_51 : decode cX0_addPerson 51 = .ok (.getfield 21, 3) := oc_180 (a := 0) (b := 21) (by decide +kernel)
theorem dX0_addPerson_54 : decode cX0_addPerson 54 = .ok (.iload 6, 2) := oc_21 (by decide +kernel)
theorem dX0_addPerson_56 : decode cX0_addPerson 56 = .ok (.iload 5, 2) := oc_21 (by decide +kernel)
theorem dX0_addPerson_58 : decode cX0_addPerson 58 = .ok (.iastore, 1) := oc_79 (by decide +kernel)
theorem dX0_addPerson_59 : decode cX0_addPerson 59 = .ok (.aload_n 0, 1) := oc_42 (by decide +kernel)
theorem dX0_addPerson_60 : decode cX0_addPerson 60 = .ok (.getfield 27, 3) := oc_180 (a := 0) (b := 27) (by decide +kernel)
theorem dX0_addPerson_63 : decode cX0_addPerson 63 = .ok (.iload 6, 2) := oc_21 (by decide +kernel)
theorem dX0_addPerson_65 : decode cX0_addPerson 65 = .ok (.iconst 0, 1) := oc_3 (by decide +kernel)
theorem dX0_addPerson_66 : decode cX0_addPerson 66 = .ok (.iastore, 1) := oc_79 (by decide +kernel)
theorem dX0_addPerson_67 : decode cX0_addPerson 67 = .ok (.aload_n 0, 1) := oc_42 (by decide +kernel)
theorem dX0_addPerson_68 : decode cX0_addPerson 68 = .ok (.getfield 30, 3) := oc_180 (a := 0) (b := 30) (by decide +kernel)
theorem dX0_addPerson_71 : decode cX0_addPerson 71 = .ok (.iload 6, 2) := oc_21 (by decide +kernel)
theorem dX0_addPerson_73 : decode cX0_addPerson 73 = .ok (.iconst 0, 1) := oc_3 (by decide +kernel)
theorem dX0_addPerson_74 : decode cX0_addPerson 74 = .ok (.iastore, 1) := oc_79 (by decide +kernel)
theorem dX0_addPerson_75 : decode cX0_addPerson 75 = .ok (.aload_n 0, 1) := oc_42 (by decide +kernel)
theorem dX0_addPerson_76 : decode cX0_addPerson 76 = .ok (.getfield 33, 3) := oc_180 (a := 0) (b := 33) (by decide +kernel)
theorem dX0_addPerson_79 : decode cX0_addPerson 79 = .ok (.iload 6, 2) := oc_21 (by decide +kernel)
theorem dX0_addPerson_81 : decode cX0_addPerson 81 = .ok (.iconst (-1), 1) := oc_2 (by decide +kernel)
theorem dX0_addPerson_82 : decode cX0_addPerson 82 = .ok (.iastore, 1) := oc_79 (by decide +kernel)
theorem dX0_addPerson_83 : decode cX0_addPerson 83 = .ok (.aload_n 0, 1) := oc_42 (by decide +kernel)
theorem dX0_addPerson_84 : decode cX0_addPerson 84 = .ok (.getfield 36, 3) := oc_180 (a := 0) (b := 36) (by decide +kernel)
theorem dX0_addPerson_87 : decode cX0_addPerson 87 = .ok (.iload 6, 2) := oc_21 (by decide +kernel)
theorem dX0_addPerson_89 : decode cX0_addPerson 89 = .ok (.iconst (-1), 1) := oc_2 (by decide +kernel)
theorem dX0_addPerson_90 : decode cX0_addPerson 90 = .ok (.iastore, 1) := oc_79 (by decide +kernel)
theorem dX0_addPerson_91 : decode cX0_addPerson 91 = .ok (.aload_n 0, 1) := oc_42 (by decide +kernel)
theorem dX0_addPerson_92 : decode cX0_addPerson 92 = .ok (.dup, 1) := oc_89 (by decide +kernel)
theorem dX0_addPerson_93 : decode cX0_addPerson 93 = .ok (.getfield 54, 3) := oc_180 (a := 0) (b := 54) (by decide +kernel)
theorem dX0_addPerson_96 : decode cX0_addPerson 96 = .ok (.iconst 1, 1) := oc_4 (by decide +kernel)
theorem dX0_addPerson_97 : decode cX0_addPerson 97 = .ok (.iadd, 1) := oc_96 (by decide +kernel)
theorem dX0_addPerson_98 : decode cX0_addPerson 98 = .ok (.putfield 54, 3) := oc_181 (a := 0) (b := 54) (by decide +kernel)
theorem dX0_addPerson_101 : decode cX0_addPerson 101 = .ok (.iload 6, 2) := oc_21 (by decide +kernel)
theorem dX0_addPerson_103 : decode cX0_addPerson 103 = .ok (.ireturn, 1) := oc_172 (by decide +kernel)
theorem dX0_addPerson_9 : decode cX0_addPerson 9 = .ok (.iconst (-1), 1) := oc_2 (by decide +kernel)
theorem dX0_addPerson_10 : decode cX0_addPerson 10 = .ok (.ireturn, 1) := oc_172 (by decide +kernel)
theorem dX0_isOnRing_0 : decode cX0_isOnRing 0 = .ok (.aload_n 0, 1) := oc_42 (by decide +kernel)
theorem dX0_isOnRing_1 : decode cX0_isOnRing 1 = .ok (.getfield 24, 3) := oc_180 (a := 0) (b := 24) (by decide +kernel)
theorem dX0_isOnRing_4 : decode cX0_isOnRing 4 = .ok (.iload_n 1, 1) := oc_27 (by decide +kernel)
theorem dX0_isOnRing_5 : decode cX0_isOnRing 5 = .ok (.iaload, 1) := oc_46 (by decide +kernel)
theorem dX0_isOnRing_6 : decode cX0_isOnRing 6 = .ok (.iconst 5, 1) := oc_8 (by decide +kernel)
theorem dX0_isOnRing_7 : decode cX0_isOnRing 7 = .ok (.if_icmp .ge 7, 3) := oc_162 (a := 0) (b := 7) (by decide +kernel)
theorem dX0_isOnRing_14 : decode cX0_isOnRing 14 = .ok (.iconst 0, 1) := oc_3 (by decide +kernel)
theorem dX0_isOnRing_15 : decode cX0_isOnRing 15 = .ok (.ireturn, 1) := oc_172 (by decide +kernel)
theorem dX0_isOnRing_10 : decode cX0_isOnRing 10 = .ok (.iconst 1, 1) := oc_4 (by decide +kernel)
theorem dX0_isOnRing_11 : decode cX0_isOnRing 11 = .ok (.goto 4, 3) := oc_167 (a := 0) (b := 4) (by decide +kernel)
theorem dX0_onRings_0 : decode cX0_onRings 0 = .ok (.lconst 0, 1) := oc_9 (by decide +kernel)
theorem dX0_onRings_1 : decode cX0_onRings 1 = .ok (.lstore_n 1, 1) := oc_64 (by decide +kernel)
theorem dX0_onRings_2 : decode cX0_onRings 2 = .ok (.iconst 0, 1) := oc_3 (by decide +kernel)
theorem dX0_onRings_3 : decode cX0_onRings 3 = .ok (.istore_n 3, 1) := oc_62 (by decide +kernel)
theorem dX0_onRings_4 : decode cX0_onRings 4 = .ok (.iload_n 3, 1) := oc_29 (by decide +kernel)
theorem dX0_onRings_5 : decode cX0_onRings 5 = .ok (.aload_n 0, 1) := oc_42 (by decide +kernel)
theorem dX0_onRings_6 : decode cX0_onRings 6 = .ok (.getfield 54, 3) := oc_180 (a := 0) (b := 54) (by decide +kernel)
theorem dX0_onRings_9 : decode cX0_onRings 9 = .ok (.if_icmp .ge 23, 3) := oc_162 (a := 0) (b := 23) (by decide +kernel)
theorem dX0_onRings_32 : decode cX0_onRings 32 = .ok (.lload_n 1, 1) := oc_31 (by decide +kernel)
theorem dX0_onRings_33 : decode cX0_onRings 33 = .ok (.lreturn, 1) := oc_173 (by decide +kernel)
theorem dX0_onRings_12 : decode cX0_onRings 12 = .ok (.aload_n 0, 1) := oc_42 (by decide +kernel)
theorem dX0_onRings_13 : decode cX0_onRings 13 = .ok (.iload_n 3, 1) := oc_29 (by decide +kernel)
theorem tw_1108 : Cond.methodLink RX0 65 yX0_isOnRing ∈ wsL_law := sg_47 _ (List.mem_of_getElem? (i := 4) rfl)
theorem tw_1109 : Cond.instanceMethod yX0_isOnRing ∈ wsL_law := sg_47 _ (List.mem_of_getElem? (i := 5) rfl)
theorem tw_1110 : Cond.selects RX0 yX0_isOnRing yX0_isOnRing ∈ wsL_law := sg_47 _ (List.mem_of_getElem? (i := 6) rfl)
theorem tw_45 : Cond.initialized RX0 ∈ wsL_law := sg_2 _ (List.mem_of_getElem? (i := 21) rfl)
theorem tw_1111 : Cond.code yX0_isOnRing cX0_isOnRing 2 (some .boolean) ∈ wsL_law := sg_47 _ (List.mem_of_getElem? (i := 7) rfl)
theorem dX0_onRings_14 : decode cX0_onRings 14 = .ok (.invokevirtual 65, 3) := oc_182 (a := 0) (b := 65) (by decide +kernel)
theorem dX0_onRings_26 : decode cX0_onRings 26 = .ok (.iinc 3 1, 3) := oc_132 (b := 1) (by decide +kernel)
theorem dX0_onRings_29 : decode cX0_onRings 29 = .ok (.goto (-25), 3) := oc_167 (a := 255) (b := 231) (by decide +kernel)
theorem dX0_onRings_17 : decode cX0_onRings 17 = .ok (.ifCond .eq 9, 3) := oc_153 (a := 0) (b := 9) (by decide +kernel)
theorem dX0_onRings_20 : decode cX0_onRings 20 = .ok (.lload_n 1, 1) := oc_31 (by decide +kernel)
theorem dX0_onRings_21 : decode cX0_onRings 21 = .ok (.lconst 1, 1) := oc_10 (by decide +kernel)
theorem dX0_onRings_22 : decode cX0_onRings 22 = .ok (.iload_n 3, 1) := oc_29 (by decide +kernel)
theorem dX0_onRings_23 : decode cX0_onRings 23 = .ok (.lshl, 1) := oc_121 (by decide +kernel)
theorem dX0_onRings_24 : decode cX0_onRings 24 = .ok (.lor, 1) := oc_129 (by decide +kernel)
theorem dX0_onRings_25 : decode cX0_onRings 25 = .ok (.lstore_n 1, 1) := oc_64 (by decide +kernel)
theorem dX0_notDead_0 : decode cX0_notDead 0 = .ok (.lconst 0, 1) := oc_9 (by decide +kernel)
theorem dX0_notDead_1 : decode cX0_notDead 1 = .ok (.lstore_n 1, 1) := oc_64 (by decide +kernel)
theorem dX0_notDead_2 : decode cX0_notDead 2 = .ok (.iconst 0, 1) := oc_3 (by decide +kernel)
theorem dX0_notDead_3 : decode cX0_notDead 3 = .ok (.istore_n 3, 1) := oc_62 (by decide +kernel)
theorem dX0_notDead_4 : decode cX0_notDead 4 = .ok (.iload_n 3, 1) := oc_29 (by decide +kernel)
theorem dX0_notDead_5 : decode cX0_notDead 5 = .ok (.aload_n 0, 1) := oc_42 (by decide +kernel)
theorem dX0_notDead_6 : decode cX0_notDead 6 = .ok (.getfield 54, 3) := oc_180 (a := 0) (b := 54) (by decide +kernel)
theorem dX0_notDead_9 : decode cX0_notDead 9 = .ok (.if_icmp .ge 27, 3) := oc_162 (a := 0) (b := 27) (by decide +kernel)
theorem dX0_notDead_36 : decode cX0_notDead 36 = .ok (.lload_n 1, 1) := oc_31 (by decide +kernel)
theorem dX0_notDead_37 : decode cX0_notDead 37 = .ok (.lreturn, 1) := oc_173 (by decide +kernel)
theorem dX0_notDead_12 : decode cX0_notDead 12 = .ok (.aload_n 0, 1) := oc_42 (by decide +kernel)
theorem dX0_notDead_13 : decode cX0_notDead 13 = .ok (.getfield 24, 3) := oc_180 (a := 0) (b := 24) (by decide +kernel)
theorem dX0_notDead_16 : decode cX0_notDead 16 = .ok (.iload_n 3, 1) := oc_29 (by decide +kernel)
theorem dX0_notDead_17 : decode cX0_notDead 17 = .ok (.iaload, 1) := oc_46 (by decide +kernel)
theorem dX0_notDead_18 : decode cX0_notDead 18 = .ok (.sipush 300, 3) := oc_17 (a := 1) (b := 44) (by decide +kernel)
theorem dX0_notDead_30 : decode cX0_notDead 30 = .ok (.iinc 3 1, 3) := oc_132 (b := 1) (by decide +kernel)
theorem dX0_notDead_33 : decode cX0_notDead 33 = .ok (.goto (-29), 3) := oc_167 (a := 255) (b := 227) (by decide +kernel)
theorem dX0_notDead_21 : decode cX0_notDead 21 = .ok (.if_icmp .eq 9, 3) := oc_159 (a := 0) (b := 9) (by decide +kernel)
theorem dX0_notDead_24 : decode cX0_notDead 24 = .ok (.lload_n 1, 1) := oc_31 (by decide +kernel)
theorem dX0_notDead_25 : decode cX0_notDead 25 = .ok (.lconst 1, 1) := oc_10 (by decide +kernel)
theorem dX0_notDead_26 : decode cX0_notDead 26 = .ok (.iload_n 3, 1) := oc_29 (by decide +kernel)
theorem dX0_notDead_27 : decode cX0_notDead 27 = .ok (.lshl, 1) := oc_121 (by decide +kernel)
theorem dX0_notDead_28 : decode cX0_notDead 28 = .ok (.lor, 1) := oc_129 (by decide +kernel)
theorem dX0_notDead_29 : decode cX0_notDead 29 = .ok (.lstore_n 1, 1) := oc_64 (by decide +kernel)
theorem dX0_countAt_0 : decode cX0_countAt 0 = .ok (.iconst 0, 1) := oc_3 (by decide +kernel)
theorem dX0_countAt_1 : decode cX0_countAt 1 = .ok (.istore_n 2, 1) := oc_61 (by decide +kernel)
theorem dX0_countAt_2 : decode cX0_countAt 2 = .ok (.iconst 0, 1) := oc_3 (by decide +kernel)
theorem dX0_countAt_3 : decode cX0_countAt 3 = .ok (.istore_n 3, 1) := oc_62 (by decide +kernel)
theorem dX0_countAt_4 : decode cX0_countAt 4 = .ok (.iload_n 3, 1) := oc_29 (by decide +kernel)
theorem dX0_countAt_5 : decode cX0_countAt 5 = .ok (.aload_n 0, 1) := oc_42 (by decide +kernel)
theorem dX0_countAt_6 : decode cX0_countAt 6 = .ok (.getfield 54, 3) := oc_180 (a := 0) (b := 54) (by decide +kernel)
theorem dX0_countAt_9 : decode cX0_countAt 9 = .ok (.if_icmp .ge 22, 3) := oc_162 (a := 0) (b := 22) (by decide +kernel)
theorem dX0_countAt_31 : decode cX0_countAt 31 = .ok (.iload_n 2, 1) := oc_28 (by decide +kernel)
theorem dX0_countAt_32 : decode cX0_countAt 32 = .ok (.ireturn, 1) := oc_172 (by decide +kernel)
theorem dX0_countAt_12 : decode cX0_countAt 12 = .ok (.aload_n 0, 1) := oc_42 (by decide +kernel)
theorem dX0_countAt_13 : decode cX0_countAt 13 = .ok (.getfield 24, 3) := oc_180 (a := 0) (b := 24) (by decide +kernel)
theorem dX0_countAt_16 : decode cX0_countAt 16 = .ok (.iload_n 3, 1) := oc_29 (by decide +kernel)
theorem dX0_countAt_17 : decode cX0_countAt 17 = .ok (.iaload, 1) := oc_46 (by decide +kernel)
theorem dX0_countAt_18 : decode cX0_countAt 18 = .ok (.iload_n 1, 1) := oc_27 (by decide +kernel)
theorem dX0_countAt_25 : decode cX0_countAt 25 = .ok (.iinc 3 1, 3) := oc_132 (b := 1) (by decide +kernel)
theorem dX0_countAt_28 : decode cX0_countAt 28 = .ok (.goto (-24), 3) := oc_167 (a := 255) (b := 232) (by decide +kernel)
theorem dX0_countAt_19 : decode cX0_countAt 19 = .ok (.if_icmp .ne 6, 3) := oc_160 (a := 0) (b := 6) (by decide +kernel)
theorem dX0_countAt_22 : decode cX0_countAt 22 = .ok (.iinc 2 1, 3) := oc_132 (b := 1) (by decide +kernel)
theorem dX0_freeBeds_0 : decode cX0_freeBeds 0 = .ok (.aload_n 0, 1) := oc_42 (by decide +kernel)
theorem dX0_freeBeds_1 : decode cX0_freeBeds 1 = .ok (.getfield 39, 3) := oc_180 (a := 0) (b := 39) (by decide +kernel)
theorem dX0_freeBeds_4 : decode cX0_freeBeds 4 = .ok (.iload_n 1, 1) := oc_27 (by decide +kernel)
theorem dX0_freeBeds_5 : decode cX0_freeBeds 5 = .ok (.iaload, 1) := oc_46 (by decide +kernel)
theorem dX0_freeBeds_6 : decode cX0_freeBeds 6 = .ok (.aload_n 0, 1) := oc_42 (by decide +kernel)
theorem dX0_freeBeds_7 : decode cX0_freeBeds 7 = .ok (.bipush 100, 2) := oc_16 (a := 100) (by decide +kernel)
theorem dX0_freeBeds_9 : decode cX0_freeBeds 9 = .ok (.iload_n 1, 1) := oc_27 (by decide +kernel)
theorem dX0_freeBeds_10 : decode cX0_freeBeds 10 = .ok (.iadd, 1) := oc_96 (by decide +kernel)
theorem tw_417 : Cond.methodLink RX0 69 yX0_countAt ∈ wsL_law := sg_18 _ (List.mem_of_getElem? (i := 9) rfl)
theorem tw_418 : Cond.instanceMethod yX0_countAt ∈ wsL_law := sg_18 _ (List.mem_of_getElem? (i := 10) rfl)
theorem tw_419 : Cond.selects RX0 yX0_countAt yX0_countAt ∈ wsL_law := sg_18 _ (List.mem_of_getElem? (i := 11) rfl)
theorem tw_420 : Cond.code yX0_countAt cX0_countAt 4 (some .int) ∈ wsL_law := sg_18 _ (List.mem_of_getElem? (i := 12) rfl)
theorem dX0_freeBeds_11 : decode cX0_freeBeds 11 = .ok (.invokevirtual 69, 3) := oc_182 (a := 0) (b := 69) (by decide +kernel)
theorem dX0_freeBeds_14 : decode cX0_freeBeds 14 = .ok (.isub, 1) := oc_100 (by decide +kernel)
theorem dX0_freeBeds_15 : decode cX0_freeBeds 15 = .ok (.ireturn, 1) := oc_172 (by decide +kernel)
theorem dX0_sendings_0 : decode cX0_sendings 0 = .ok (.iconst 0, 1) := oc_3 (by decide +kernel)
theorem dX0_sendings_1 : decode cX0_sendings 1 = .ok (.istore_n 1, 1) := oc_60 (by decide +kernel)
theorem dX0_sendings_2 : decode cX0_sendings 2 = .ok (.iconst 0, 1) := oc_3 (by decide +kernel)
theorem dX0_sendings_3 : decode cX0_sendings 3 = .ok (.istore_n 2, 1) := oc_61 (by decide +kernel)
theorem dX0_sendings_4 : decode cX0_sendings 4 = .ok (.iload_n 2, 1) := oc_28 (by decide +kernel)
theorem dX0_sendings_5 : decode cX0_sendings 5 = .ok (.aload_n 0, 1) := oc_42 (by decide +kernel)
theorem dX0_sendings_6 : decode cX0_sendings 6 = .ok (.getfield 54, 3) := oc_180 (a := 0) (b := 54) (by decide +kernel)
theorem dX0_sendings_9 : decode cX0_sendings 9 = .ok (.if_icmp .ge 30, 3) := oc_162 (a := 0) (b := 30) (by decide +kernel)
theorem dX0_sendings_39 : decode cX0_sendings 39 = .ok (.iload_n 1, 1) := oc_27 (by decide +kernel)
theorem dX0_sendings_40 : decode cX0_sendings 40 = .ok (.ireturn, 1) := oc_172 (by decide +kernel)
theorem dX0_sendings_12 : decode cX0_sendings 12 = .ok (.aload_n 0, 1) := oc_42 (by decide +kernel)
theorem dX0_sendings_13 : decode cX0_sendings 13 = .ok (.getfield 24, 3) := oc_180 (a := 0) (b := 24) (by decide +kernel)
theorem dX0_sendings_16 : decode cX0_sendings 16 = .ok (.iload_n 2, 1) := oc_28 (by decide +kernel)
theorem dX0_sendings_17 : decode cX0_sendings 17 = .ok (.iaload, 1) := oc_46 (by decide +kernel)
theorem dX0_sendings_18 : decode cX0_sendings 18 = .ok (.sipush 200, 3) := oc_17 (a := 0) (b := 200) (by decide +kernel)
theorem dX0_sendings_33 : decode cX0_sendings 33 = .ok (.iinc 2 1, 3) := oc_132 (b := 1) (by decide +kernel)
theorem dX0_sendings_36 : decode cX0_sendings 36 = .ok (.goto (-32), 3) := oc_167 (a := 255) (b := 224) (by decide +kernel)
theorem dX0_sendings_21 : decode cX0_sendings 21 = .ok (.if_icmp .ne 12, 3) := oc_160 (a := 0) (b := 12) (by decide +kernel)
theorem dX0_sendings_24 : decode cX0_sendings 24 = .ok (.iload_n 1, 1) := oc_27 (by decide +kernel)
theorem dX0_sendings_25 : decode cX0_sendings 25 = .ok (.aload_n 0, 1) := oc_42 (by decide +kernel)
theorem dX0_sendings_26 : decode cX0_sendings 26 = .ok (.getfield 21, 3) := oc_180 (a := 0) (b := 21) (by decide +kernel)
theorem dX0_sendings_29 : decode cX0_sendings 29 = .ok (.iload_n 2, 1) := oc_28 (by decide +kernel)
theorem dX0_sendings_30 : decode cX0_sendings 30 = .ok (.iaload, 1) := oc_46 (by decide +kernel)
theorem dX0_sendings_31 : decode cX0_sendings 31 = .ok (.iadd, 1) := oc_96 (by decide +kernel)
theorem dX0_sendings_32 : decode cX0_sendings 32 = .ok (.istore_n 1, 1) := oc_60 (by decide +kernel)
theorem dX11_hasBit_0 : decode cX11_hasBit 0 = .ok (.lload_n 0, 1) := oc_30 (by decide +kernel)
theorem dX11_hasBit_1 : decode cX11_hasBit 1 = .ok (.iload_n 2, 1) := oc_28 (by decide +kernel)
theorem dX11_hasBit_2 : decode cX11_hasBit 2 = .ok (.lushr, 1) := oc_125 (by decide +kernel)
theorem dX11_hasBit_3 : decode cX11_hasBit 3 = .ok (.lconst 1, 1) := oc_10 (by decide +kernel)
theorem dX11_hasBit_4 : decode cX11_hasBit 4 = .ok (.land, 1) := oc_127 (by decide +kernel)
theorem dX11_hasBit_5 : decode cX11_hasBit 5 = .ok (.lconst 0, 1) := oc_9 (by decide +kernel)
theorem dX11_hasBit_6 : decode cX11_hasBit 6 = .ok (.lcmp, 1) := oc_148 (by decide +kernel)
theorem dX11_hasBit_7 : decode cX11_hasBit 7 = .ok (.ifCond .eq 7, 3) := oc_153 (a := 0) (b := 7) (by decide +kernel)
theorem dX11_hasBit_14 : decode cX11_hasBit 14 = .ok (.iconst 0, 1) := oc_3 (by decide +kernel)
theorem dX11_hasBit_15 : decode cX11_hasBit 15 = .ok (.ireturn, 1) := oc_172 (by decide +kernel)
theorem dX11_hasBit_10 : decode cX11_hasBit 10 = .ok (.iconst 1, 1) := oc_4 (by decide +kernel)
theorem dX11_hasBit_11 : decode cX11_hasBit 11 = .ok (.goto 4, 3) := oc_167 (a := 0) (b := 4) (by decide +kernel)
theorem dX0_countVotes_0 : decode cX0_countVotes 0 = .ok (.iconst 0, 1) := oc_3 (by decide +kernel)
theorem dX0_countVotes_1 : decode cX0_countVotes 1 = .ok (.istore 4, 2) := oc_54 (by decide +kernel)
theorem dX0_countVotes_3 : decode cX0_countVotes 3 = .ok (.iconst 0, 1) := oc_3 (by decide +kernel)
theorem dX0_countVotes_4 : decode cX0_countVotes 4 = .ok (.istore 5, 2) := oc_54 (by decide +kernel)
theorem dX0_countVotes_6 : decode cX0_countVotes 6 = .ok (.iload 5, 2) := oc_21 (by decide +kernel)
theorem dX0_countVotes_8 : decode cX0_countVotes 8 = .ok (.aload_n 0, 1) := oc_42 (by decide +kernel)
theorem dX0_countVotes_9 : decode cX0_countVotes 9 = .ok (.getfield 54, 3) := oc_180 (a := 0) (b := 54) (by decide +kernel)
theorem dX0_countVotes_12 : decode cX0_countVotes 12 = .ok (.if_icmp .ge 32, 3) := oc_162 (a := 0) (b := 32) (by decide +kernel)
theorem dX0_countVotes_44 : decode cX0_countVotes 44 = .ok (.iload 4, 2) := oc_21 (by decide +kernel)
theorem dX0_countVotes_46 : decode cX0_countVotes 46 = .ok (.ireturn, 1) := oc_172 (by decide +kernel)
theorem dX0_countVotes_15 : decode cX0_countVotes 15 = .ok (.lload_n 1, 1) := oc_31 (by decide +kernel)
theorem dX0_countVotes_16 : decode cX0_countVotes 16 = .ok (.iload 5, 2) := oc_21 (by decide +kernel)
theorem tw_560 : Cond.code yX11_hasBit cX11_hasBit 3 (some .boolean) ∈ wsL_law := sg_24 _ (List.mem_of_getElem? (i := 8) rfl)
theorem dX0_countVotes_18 : decode cX0_countVotes 18 = .ok (.invokestatic 73, 3) := oc_184 (a := 0) (b := 73) (by decide +kernel)
theorem dX0_countVotes_38 : decode cX0_countVotes 38 = .ok (.iinc 5 1, 3) := oc_132 (b := 1) (by decide +kernel)
theorem dX0_countVotes_41 : decode cX0_countVotes 41 = .ok (.goto (-35), 3) := oc_167 (a := 255) (b := 221) (by decide +kernel)
theorem dX0_countVotes_21 : decode cX0_countVotes 21 = .ok (.ifCond .eq 17, 3) := oc_153 (a := 0) (b := 17) (by decide +kernel)
theorem dX0_countVotes_24 : decode cX0_countVotes 24 = .ok (.aload_n 0, 1) := oc_42 (by decide +kernel)
theorem dX0_countVotes_25 : decode cX0_countVotes 25 = .ok (.getfield 36, 3) := oc_180 (a := 0) (b := 36) (by decide +kernel)
theorem dX0_countVotes_28 : decode cX0_countVotes 28 = .ok (.iload 5, 2) := oc_21 (by decide +kernel)
theorem dX0_countVotes_30 : decode cX0_countVotes 30 = .ok (.iaload, 1) := oc_46 (by decide +kernel)
theorem dX0_countVotes_31 : decode cX0_countVotes 31 = .ok (.iload_n 3, 1) := oc_29 (by decide +kernel)
theorem dX0_countVotes_32 : decode cX0_countVotes 32 = .ok (.if_icmp .ne 6, 3) := oc_160 (a := 0) (b := 6) (by decide +kernel)
theorem dX0_countVotes_35 : decode cX0_countVotes 35 = .ok (.iinc 4 1, 3) := oc_132 (b := 1) (by decide +kernel)
set_option maxHeartbeats 4000000 in
set_option maxRecDepth 100000 in
theorem s_X11_copy_1_1 (l : Launch) (D : va_G) (t : pq_T) (σ : pq_S) (I : Nat → Nat → Int32) (J : Nat → Nat → Int64) (ri : Nat → Nat → Int32) (rj : Nat → Nat → Int64) (rq : Nat → Nat → Option Nat) (sz : Nat) (tg : Nat → Nat) (hSH : SH σ tg) (hG0 : GS tg σ I ri rq) (a0 : Nat) (a1 : Nat) (hL_a0 : a0 ∈ σ.1) (hK_a0 : σ.2.1 a0 = 13) (hN_a0 : σ.2.2.2 a0 = 40) (hT_a0 : tg a0 = 1) (hL_a1 : a1 ∈ σ.1) (hK_a1 : σ.2.1 a1 = 13) (hN_a1 : σ.2.2.2 a1 = 40) (hT_a1 : tg a1 = 1) : MetV l yX11_copy (wa yX11_copy cX11_copy 2 none) ({ frames := 1, cells := 0, slots := 0, locals := 60 }) [.ref a0, .ref a1] D t σ (I, J, ri, rj, rq) sz 0 0 (fun (u : pq_S × pq_M) => ∃ ri' : Nat → Nat → Int32, u = (σ, I, J, ri', rj, rq) ∧ GX [] tg σ I ri rj I ri' rj rq ∧ (∀ j, j < 40 → ri' a1 j = ri a0 j) ∧ (∀ q, q ≠ a1 → ri' q = ri q)) := by
  refine Met.ofW (cc := cX11_copy) (maxL := 2) (ret := none) (by decide) rfl ?_
  intro p e s m args below meth c s₁ B hml hv
  obtain ⟨rfl, hsz, hP, hK, hD0, hN⟩ := hv
  have hx := B.exec
  have hb := B.bytes
  have hr := B.returns
  have hts := atoms_spec (ws := (wa yX11_copy cX11_copy 2 none)) B.pre
  have hown : s.vm.findClass RX11 = some m.cls := findClass_of_methodNamed B.named
  have hlocks := B.notSynchronized
  subst hsz
  have hD : va_D (pq_B t σ (I, J, ri, rj, rq) s.heap.size) (pq_P t σ (I, J, ri, rj, rq)) := hD0.self
  generalize hAe : pq_B t σ (I, J, ri, rj, rq) s.heap.size = A at hD ⊢
  have hA : ∀ q : Nat, s.heap.size ≤ q → A q := fun q h => by rw [← hAe]; exact Or.inr h
  have hS : va_S A s.heap s.heap [] := va_S.rf
  have hG : GX [] tg σ I ri rj I ri rj rq := ⟨hG0, fun _ _ _ => rfl, fun _ _ _ _ _ => rfl, fun _ _ _ _ _ => rfl⟩
  have hl := lv_entry ([.ref a0, .ref a1]) (n := 2) (Nat.le_of_ble_eq_true rfl)
  rw [lg_entry_eq]
  generalize (lg_sl ([.ref a0, .ref a1]) ++ List.replicate (2 - (lg_sl ([.ref a0, .ref a1])).length) Slot.unset).toArray = ls at hl ⊢
  have hl : lv_has ls 2 [(0, .ref a0), (1, .ref a1)] := hl
  refine q_gen (fun Q hQ => ?_)
  have go : ∀ (H : Heap) (locs : List Loc) (ls : Array Slot), va_P D vwCl (pq_P t σ (I, J, ri, rj, rq)) H → va_D A (pq_P t σ (I, J, ri, rj, rq)) → va_S A s.heap H locs → lv_has ls 2 [(0, .ref a0), (1, .ref a1)] → W p l e ({ frames := 1, cells := 0, slots := 0, locals := 60 } : Room) s m (List.toArray ([.ref a0, .ref a1] : List Value)) below meth c H locs 0 0 Q (F0 m 0 ls []) := by
    intro H locs ls hP hD hS hl
    refine lv_aload_n hx hb dX11_copy_0 rfl (lv_at hl 0 rfl) ?_
    refine lv_iconst (v := 0) hx hb dX11_copy_1 (by decide) ?_
    refine lv_aload_n hx hb dX11_copy_2 rfl (lv_at hl 1 rfl) ?_
    refine lv_iconst (v := 0) hx hb dX11_copy_3 (by decide) ?_
    refine lv_aload_n hx hb dX11_copy_4 rfl (lv_at hl 0 rfl) ?_
    refine pn_i (v := 40) hx hb hK hP hL_a0 hK_a0 hN_a0 (by decide) dX11_copy_5 ?_
    refine lv_aload_n hx hb dX11_copy_6 rfl (lv_at hl 1 rfl) ?_
    refine pn_i (v := 40) hx hb hK hP hL_a1 hK_a1 hN_a1 (by decide) dX11_copy_7 ?_
    refine va_mmin hx hb (hml.trans hl.1.symm) hown (hts _ (tw_c tw_1103)) (hts _ (tw_c tw_467)) (hts _ (tw_c tw_276)) (hts _ (tw_c tw_468)) (Nat.le_of_ble_eq_true rfl) (Nat.le_of_ble_eq_true rfl) (Nat.zero_le _) (Nat.zero_le _) dX11_copy_8 ?_
    refine lv_topi (fun x_1 ex_1 => ?_)
    have h_2 : rg x_1 40 40 := rg_of_eq ex_1 (rg_min2 (rg_k (40 : Int32) 40 rfl) (rg_k (40 : Int32) 40 rfl) (by decide))
    refine pc_i hx hb (hml.trans hl.1.symm) hown (hts _ (tw_c tw_1104)) (hts _ (tw_c tw_1105)) (hts _ (tw_c tw_1106)) (hts _ (tw_c tw_1107)) hK hP hD hS hL_a0 hK_a0 hN_a0 hL_a1 hK_a1 hN_a1 (rg_pos (rg_k (0 : Int32) 0 rfl) (by decide)) (rg_pos h_2 (by decide)) (rg_cp (rg_k (0 : Int32) 0 rfl) h_2 (by decide)) (rg_cl h_2 (by decide)) (Nat.le_of_ble_eq_true rfl) (Nat.le_of_ble_eq_true rfl) dX11_copy_11 (fun r_3 H locs er_3 hP hD hS => ?_)
    have hG := GX.cR hG hSH hT_a0 rfl hT_a1 rfl er_3 (by decide)
    subst hQ
    exact W.vret hx hb hr (fun t1 ht hW => ⟨⟨(σ, I, J, r_3, rj, rq), rfl, ⟨r_3, rfl, hG, (cpy_eq er_3 h_2 rfl), (fun q hq => by rw [er_3, va_up_ne _ _ hq])⟩, by rw [ht]; exact hP, va_K.moved hW.alike hK, hD⟩, hS.F ht⟩) hS.2.2 dX11_copy_14
  exact go _ _ _ hP hD hS hl

set_option maxHeartbeats 4000000 in
set_option maxRecDepth 100000 in
theorem s_X11_copy_2_2 (l : Launch) (D : va_G) (t : pq_T) (σ : pq_S) (I : Nat → Nat → Int32) (J : Nat → Nat → Int64) (ri : Nat → Nat → Int32) (rj : Nat → Nat → Int64) (rq : Nat → Nat → Option Nat) (sz : Nat) (tg : Nat → Nat) (hSH : SH σ tg) (hG0 : GS tg σ I ri rq) (a0 : Nat) (a1 : Nat) (hL_a0 : a0 ∈ σ.1) (hK_a0 : σ.2.1 a0 = 13) (hN_a0 : σ.2.2.2 a0 = 40) (hT_a0 : tg a0 = 2) (hL_a1 : a1 ∈ σ.1) (hK_a1 : σ.2.1 a1 = 13) (hN_a1 : σ.2.2.2 a1 = 40) (hT_a1 : tg a1 = 2) : MetV l yX11_copy (wa yX11_copy cX11_copy 2 none) ({ frames := 1, cells := 0, slots := 0, locals := 60 }) [.ref a0, .ref a1] D t σ (I, J, ri, rj, rq) sz 0 0 (fun (u : pq_S × pq_M) => ∃ ri' : Nat → Nat → Int32, u = (σ, I, J, ri', rj, rq) ∧ GX [] tg σ I ri rj I ri' rj rq ∧ (∀ j, j < 40 → ri' a1 j = ri a0 j) ∧ (∀ q, q ≠ a1 → ri' q = ri q)) := by
  refine Met.ofW (cc := cX11_copy) (maxL := 2) (ret := none) (by decide) rfl ?_
  intro p e s m args below meth c s₁ B hml hv
  obtain ⟨rfl, hsz, hP, hK, hD0, hN⟩ := hv
  have hx := B.exec
  have hb := B.bytes
  have hr := B.returns
  have hts := atoms_spec (ws := (wa yX11_copy cX11_copy 2 none)) B.pre
  have hown : s.vm.findClass RX11 = some m.cls := findClass_of_methodNamed B.named
  have hlocks := B.notSynchronized
  subst hsz
  have hD : va_D (pq_B t σ (I, J, ri, rj, rq) s.heap.size) (pq_P t σ (I, J, ri, rj, rq)) := hD0.self
  generalize hAe : pq_B t σ (I, J, ri, rj, rq) s.heap.size = A at hD ⊢
  have hA : ∀ q : Nat, s.heap.size ≤ q → A q := fun q h => by rw [← hAe]; exact Or.inr h
  have hS : va_S A s.heap s.heap [] := va_S.rf
  have hG : GX [] tg σ I ri rj I ri rj rq := ⟨hG0, fun _ _ _ => rfl, fun _ _ _ _ _ => rfl, fun _ _ _ _ _ => rfl⟩
  have hl := lv_entry ([.ref a0, .ref a1]) (n := 2) (Nat.le_of_ble_eq_true rfl)
  rw [lg_entry_eq]
  generalize (lg_sl ([.ref a0, .ref a1]) ++ List.replicate (2 - (lg_sl ([.ref a0, .ref a1])).length) Slot.unset).toArray = ls at hl ⊢
  have hl : lv_has ls 2 [(0, .ref a0), (1, .ref a1)] := hl
  refine q_gen (fun Q hQ => ?_)
  have go : ∀ (H : Heap) (locs : List Loc) (ls : Array Slot), va_P D vwCl (pq_P t σ (I, J, ri, rj, rq)) H → va_D A (pq_P t σ (I, J, ri, rj, rq)) → va_S A s.heap H locs → lv_has ls 2 [(0, .ref a0), (1, .ref a1)] → W p l e ({ frames := 1, cells := 0, slots := 0, locals := 60 } : Room) s m (List.toArray ([.ref a0, .ref a1] : List Value)) below meth c H locs 0 0 Q (F0 m 0 ls []) := by
    intro H locs ls hP hD hS hl
    refine lv_aload_n hx hb dX11_copy_0 rfl (lv_at hl 0 rfl) ?_
    refine lv_iconst (v := 0) hx hb dX11_copy_1 (by decide) ?_
    refine lv_aload_n hx hb dX11_copy_2 rfl (lv_at hl 1 rfl) ?_
    refine lv_iconst (v := 0) hx hb dX11_copy_3 (by decide) ?_
    refine lv_aload_n hx hb dX11_copy_4 rfl (lv_at hl 0 rfl) ?_
    refine pn_i (v := 40) hx hb hK hP hL_a0 hK_a0 hN_a0 (by decide) dX11_copy_5 ?_
    refine lv_aload_n hx hb dX11_copy_6 rfl (lv_at hl 1 rfl) ?_
    refine pn_i (v := 40) hx hb hK hP hL_a1 hK_a1 hN_a1 (by decide) dX11_copy_7 ?_
    refine va_mmin hx hb (hml.trans hl.1.symm) hown (hts _ (tw_c tw_1103)) (hts _ (tw_c tw_467)) (hts _ (tw_c tw_276)) (hts _ (tw_c tw_468)) (Nat.le_of_ble_eq_true rfl) (Nat.le_of_ble_eq_true rfl) (Nat.zero_le _) (Nat.zero_le _) dX11_copy_8 ?_
    refine lv_topi (fun x_1 ex_1 => ?_)
    have h_2 : rg x_1 40 40 := rg_of_eq ex_1 (rg_min2 (rg_k (40 : Int32) 40 rfl) (rg_k (40 : Int32) 40 rfl) (by decide))
    refine pc_i hx hb (hml.trans hl.1.symm) hown (hts _ (tw_c tw_1104)) (hts _ (tw_c tw_1105)) (hts _ (tw_c tw_1106)) (hts _ (tw_c tw_1107)) hK hP hD hS hL_a0 hK_a0 hN_a0 hL_a1 hK_a1 hN_a1 (rg_pos (rg_k (0 : Int32) 0 rfl) (by decide)) (rg_pos h_2 (by decide)) (rg_cp (rg_k (0 : Int32) 0 rfl) h_2 (by decide)) (rg_cl h_2 (by decide)) (Nat.le_of_ble_eq_true rfl) (Nat.le_of_ble_eq_true rfl) dX11_copy_11 (fun r_3 H locs er_3 hP hD hS => ?_)
    have hG := GX.cR hG hSH hT_a0 rfl hT_a1 rfl er_3 (by decide)
    subst hQ
    exact W.vret hx hb hr (fun t1 ht hW => ⟨⟨(σ, I, J, r_3, rj, rq), rfl, ⟨r_3, rfl, hG, (cpy_eq er_3 h_2 rfl), (fun q hq => by rw [er_3, va_up_ne _ _ hq])⟩, by rw [ht]; exact hP, va_K.moved hW.alike hK, hD⟩, hS.F ht⟩) hS.2.2 dX11_copy_14
  exact go _ _ _ hP hD hS hl

set_option maxHeartbeats 4000000 in
set_option maxRecDepth 100000 in
theorem s_X11_copy_3_3 (l : Launch) (D : va_G) (t : pq_T) (σ : pq_S) (I : Nat → Nat → Int32) (J : Nat → Nat → Int64) (ri : Nat → Nat → Int32) (rj : Nat → Nat → Int64) (rq : Nat → Nat → Option Nat) (sz : Nat) (tg : Nat → Nat) (hSH : SH σ tg) (hG0 : GS tg σ I ri rq) (a0 : Nat) (a1 : Nat) (hL_a0 : a0 ∈ σ.1) (hK_a0 : σ.2.1 a0 = 13) (hN_a0 : σ.2.2.2 a0 = 40) (hT_a0 : tg a0 = 3) (hL_a1 : a1 ∈ σ.1) (hK_a1 : σ.2.1 a1 = 13) (hN_a1 : σ.2.2.2 a1 = 40) (hT_a1 : tg a1 = 3) : MetV l yX11_copy (wa yX11_copy cX11_copy 2 none) ({ frames := 1, cells := 0, slots := 0, locals := 60 }) [.ref a0, .ref a1] D t σ (I, J, ri, rj, rq) sz 0 0 (fun (u : pq_S × pq_M) => ∃ ri' : Nat → Nat → Int32, u = (σ, I, J, ri', rj, rq) ∧ GX [] tg σ I ri rj I ri' rj rq ∧ (∀ j, j < 40 → ri' a1 j = ri a0 j) ∧ (∀ q, q ≠ a1 → ri' q = ri q)) := by
  refine Met.ofW (cc := cX11_copy) (maxL := 2) (ret := none) (by decide) rfl ?_
  intro p e s m args below meth c s₁ B hml hv
  obtain ⟨rfl, hsz, hP, hK, hD0, hN⟩ := hv
  have hx := B.exec
  have hb := B.bytes
  have hr := B.returns
  have hts := atoms_spec (ws := (wa yX11_copy cX11_copy 2 none)) B.pre
  have hown : s.vm.findClass RX11 = some m.cls := findClass_of_methodNamed B.named
  have hlocks := B.notSynchronized
  subst hsz
  have hD : va_D (pq_B t σ (I, J, ri, rj, rq) s.heap.size) (pq_P t σ (I, J, ri, rj, rq)) := hD0.self
  generalize hAe : pq_B t σ (I, J, ri, rj, rq) s.heap.size = A at hD ⊢
  have hA : ∀ q : Nat, s.heap.size ≤ q → A q := fun q h => by rw [← hAe]; exact Or.inr h
  have hS : va_S A s.heap s.heap [] := va_S.rf
  have hG : GX [] tg σ I ri rj I ri rj rq := ⟨hG0, fun _ _ _ => rfl, fun _ _ _ _ _ => rfl, fun _ _ _ _ _ => rfl⟩
  have hl := lv_entry ([.ref a0, .ref a1]) (n := 2) (Nat.le_of_ble_eq_true rfl)
  rw [lg_entry_eq]
  generalize (lg_sl ([.ref a0, .ref a1]) ++ List.replicate (2 - (lg_sl ([.ref a0, .ref a1])).length) Slot.unset).toArray = ls at hl ⊢
  have hl : lv_has ls 2 [(0, .ref a0), (1, .ref a1)] := hl
  refine q_gen (fun Q hQ => ?_)
  have go : ∀ (H : Heap) (locs : List Loc) (ls : Array Slot), va_P D vwCl (pq_P t σ (I, J, ri, rj, rq)) H → va_D A (pq_P t σ (I, J, ri, rj, rq)) → va_S A s.heap H locs → lv_has ls 2 [(0, .ref a0), (1, .ref a1)] → W p l e ({ frames := 1, cells := 0, slots := 0, locals := 60 } : Room) s m (List.toArray ([.ref a0, .ref a1] : List Value)) below meth c H locs 0 0 Q (F0 m 0 ls []) := by
    intro H locs ls hP hD hS hl
    refine lv_aload_n hx hb dX11_copy_0 rfl (lv_at hl 0 rfl) ?_
    refine lv_iconst (v := 0) hx hb dX11_copy_1 (by decide) ?_
    refine lv_aload_n hx hb dX11_copy_2 rfl (lv_at hl 1 rfl) ?_
    refine lv_iconst (v := 0) hx hb dX11_copy_3 (by decide) ?_
    refine lv_aload_n hx hb dX11_copy_4 rfl (lv_at hl 0 rfl) ?_
    refine pn_i (v := 40) hx hb hK hP hL_a0 hK_a0 hN_a0 (by decide) dX11_copy_5 ?_
    refine lv_aload_n hx hb dX11_copy_6 rfl (lv_at hl 1 rfl) ?_
    refine pn_i (v := 40) hx hb hK hP hL_a1 hK_a1 hN_a1 (by decide) dX11_copy_7 ?_
    refine va_mmin hx hb (hml.trans hl.1.symm) hown (hts _ (tw_c tw_1103)) (hts _ (tw_c tw_467)) (hts _ (tw_c tw_276)) (hts _ (tw_c tw_468)) (Nat.le_of_ble_eq_true rfl) (Nat.le_of_ble_eq_true rfl) (Nat.zero_le _) (Nat.zero_le _) dX11_copy_8 ?_
    refine lv_topi (fun x_1 ex_1 => ?_)
    have h_2 : rg x_1 40 40 := rg_of_eq ex_1 (rg_min2 (rg_k (40 : Int32) 40 rfl) (rg_k (40 : Int32) 40 rfl) (by decide))
    refine pc_i hx hb (hml.trans hl.1.symm) hown (hts _ (tw_c tw_1104)) (hts _ (tw_c tw_1105)) (hts _ (tw_c tw_1106)) (hts _ (tw_c tw_1107)) hK hP hD hS hL_a0 hK_a0 hN_a0 hL_a1 hK_a1 hN_a1 (rg_pos (rg_k (0 : Int32) 0 rfl) (by decide)) (rg_pos h_2 (by decide)) (rg_cp (rg_k (0 : Int32) 0 rfl) h_2 (by decide)) (rg_cl h_2 (by decide)) (Nat.le_of_ble_eq_true rfl) (Nat.le_of_ble_eq_true rfl) dX11_copy_11 (fun r_3 H locs er_3 hP hD hS => ?_)
    have hG := GX.cR hG hSH hT_a0 rfl hT_a1 rfl er_3 (by decide)
    subst hQ
    exact W.vret hx hb hr (fun t1 ht hW => ⟨⟨(σ, I, J, r_3, rj, rq), rfl, ⟨r_3, rfl, hG, (cpy_eq er_3 h_2 rfl), (fun q hq => by rw [er_3, va_up_ne _ _ hq])⟩, by rw [ht]; exact hP, va_K.moved hW.alike hK, hD⟩, hS.F ht⟩) hS.2.2 dX11_copy_14
  exact go _ _ _ hP hD hS hl

set_option maxHeartbeats 4000000 in
set_option maxRecDepth 100000 in
theorem s_X11_copy_4_4 (l : Launch) (D : va_G) (t : pq_T) (σ : pq_S) (I : Nat → Nat → Int32) (J : Nat → Nat → Int64) (ri : Nat → Nat → Int32) (rj : Nat → Nat → Int64) (rq : Nat → Nat → Option Nat) (sz : Nat) (tg : Nat → Nat) (hSH : SH σ tg) (hG0 : GS tg σ I ri rq) (a0 : Nat) (a1 : Nat) (hL_a0 : a0 ∈ σ.1) (hK_a0 : σ.2.1 a0 = 13) (hN_a0 : σ.2.2.2 a0 = 40) (hT_a0 : tg a0 = 4) (hL_a1 : a1 ∈ σ.1) (hK_a1 : σ.2.1 a1 = 13) (hN_a1 : σ.2.2.2 a1 = 40) (hT_a1 : tg a1 = 4) : MetV l yX11_copy (wa yX11_copy cX11_copy 2 none) ({ frames := 1, cells := 0, slots := 0, locals := 60 }) [.ref a0, .ref a1] D t σ (I, J, ri, rj, rq) sz 0 0 (fun (u : pq_S × pq_M) => ∃ ri' : Nat → Nat → Int32, u = (σ, I, J, ri', rj, rq) ∧ GX [] tg σ I ri rj I ri' rj rq ∧ (∀ j, j < 40 → ri' a1 j = ri a0 j) ∧ (∀ q, q ≠ a1 → ri' q = ri q)) := by
  refine Met.ofW (cc := cX11_copy) (maxL := 2) (ret := none) (by decide) rfl ?_
  intro p e s m args below meth c s₁ B hml hv
  obtain ⟨rfl, hsz, hP, hK, hD0, hN⟩ := hv
  have hx := B.exec
  have hb := B.bytes
  have hr := B.returns
  have hts := atoms_spec (ws := (wa yX11_copy cX11_copy 2 none)) B.pre
  have hown : s.vm.findClass RX11 = some m.cls := findClass_of_methodNamed B.named
  have hlocks := B.notSynchronized
  subst hsz
  have hD : va_D (pq_B t σ (I, J, ri, rj, rq) s.heap.size) (pq_P t σ (I, J, ri, rj, rq)) := hD0.self
  generalize hAe : pq_B t σ (I, J, ri, rj, rq) s.heap.size = A at hD ⊢
  have hA : ∀ q : Nat, s.heap.size ≤ q → A q := fun q h => by rw [← hAe]; exact Or.inr h
  have hS : va_S A s.heap s.heap [] := va_S.rf
  have hG : GX [] tg σ I ri rj I ri rj rq := ⟨hG0, fun _ _ _ => rfl, fun _ _ _ _ _ => rfl, fun _ _ _ _ _ => rfl⟩
  have hl := lv_entry ([.ref a0, .ref a1]) (n := 2) (Nat.le_of_ble_eq_true rfl)
  rw [lg_entry_eq]
  generalize (lg_sl ([.ref a0, .ref a1]) ++ List.replicate (2 - (lg_sl ([.ref a0, .ref a1])).length) Slot.unset).toArray = ls at hl ⊢
  have hl : lv_has ls 2 [(0, .ref a0), (1, .ref a1)] := hl
  refine q_gen (fun Q hQ => ?_)
  have go : ∀ (H : Heap) (locs : List Loc) (ls : Array Slot), va_P D vwCl (pq_P t σ (I, J, ri, rj, rq)) H → va_D A (pq_P t σ (I, J, ri, rj, rq)) → va_S A s.heap H locs → lv_has ls 2 [(0, .ref a0), (1, .ref a1)] → W p l e ({ frames := 1, cells := 0, slots := 0, locals := 60 } : Room) s m (List.toArray ([.ref a0, .ref a1] : List Value)) below meth c H locs 0 0 Q (F0 m 0 ls []) := by
    intro H locs ls hP hD hS hl
    refine lv_aload_n hx hb dX11_copy_0 rfl (lv_at hl 0 rfl) ?_
    refine lv_iconst (v := 0) hx hb dX11_copy_1 (by decide) ?_
    refine lv_aload_n hx hb dX11_copy_2 rfl (lv_at hl 1 rfl) ?_
    refine lv_iconst (v := 0) hx hb dX11_copy_3 (by decide) ?_
    refine lv_aload_n hx hb dX11_copy_4 rfl (lv_at hl 0 rfl) ?_
    refine pn_i (v := 40) hx hb hK hP hL_a0 hK_a0 hN_a0 (by decide) dX11_copy_5 ?_
    refine lv_aload_n hx hb dX11_copy_6 rfl (lv_at hl 1 rfl) ?_
    refine pn_i (v := 40) hx hb hK hP hL_a1 hK_a1 hN_a1 (by decide) dX11_copy_7 ?_
    refine va_mmin hx hb (hml.trans hl.1.symm) hown (hts _ (tw_c tw_1103)) (hts _ (tw_c tw_467)) (hts _ (tw_c tw_276)) (hts _ (tw_c tw_468)) (Nat.le_of_ble_eq_true rfl) (Nat.le_of_ble_eq_true rfl) (Nat.zero_le _) (Nat.zero_le _) dX11_copy_8 ?_
    refine lv_topi (fun x_1 ex_1 => ?_)
    have h_2 : rg x_1 40 40 := rg_of_eq ex_1 (rg_min2 (rg_k (40 : Int32) 40 rfl) (rg_k (40 : Int32) 40 rfl) (by decide))
    refine pc_i hx hb (hml.trans hl.1.symm) hown (hts _ (tw_c tw_1104)) (hts _ (tw_c tw_1105)) (hts _ (tw_c tw_1106)) (hts _ (tw_c tw_1107)) hK hP hD hS hL_a0 hK_a0 hN_a0 hL_a1 hK_a1 hN_a1 (rg_pos (rg_k (0 : Int32) 0 rfl) (by decide)) (rg_pos h_2 (by decide)) (rg_cp (rg_k (0 : Int32) 0 rfl) h_2 (by decide)) (rg_cl h_2 (by decide)) (Nat.le_of_ble_eq_true rfl) (Nat.le_of_ble_eq_true rfl) dX11_copy_11 (fun r_3 H locs er_3 hP hD hS => ?_)
    have hG := GX.cR hG hSH hT_a0 rfl hT_a1 rfl er_3 (by decide)
    subst hQ
    exact W.vret hx hb hr (fun t1 ht hW => ⟨⟨(σ, I, J, r_3, rj, rq), rfl, ⟨r_3, rfl, hG, (cpy_eq er_3 h_2 rfl), (fun q hq => by rw [er_3, va_up_ne _ _ hq])⟩, by rw [ht]; exact hP, va_K.moved hW.alike hK, hD⟩, hS.F ht⟩) hS.2.2 dX11_copy_14
  exact go _ _ _ hP hD hS hl

set_option maxHeartbeats 4000000 in
set_option maxRecDepth 100000 in
theorem s_X11_copy_5_5 (l : Launch) (D : va_G) (t : pq_T) (σ : pq_S) (I : Nat → Nat → Int32) (J : Nat → Nat → Int64) (ri : Nat → Nat → Int32) (rj : Nat → Nat → Int64) (rq : Nat → Nat → Option Nat) (sz : Nat) (tg : Nat → Nat) (hSH : SH σ tg) (hG0 : GS tg σ I ri rq) (a0 : Nat) (a1 : Nat) (hL_a0 : a0 ∈ σ.1) (hK_a0 : σ.2.1 a0 = 13) (hN_a0 : σ.2.2.2 a0 = 40) (hT_a0 : tg a0 = 5) (hL_a1 : a1 ∈ σ.1) (hK_a1 : σ.2.1 a1 = 13) (hN_a1 : σ.2.2.2 a1 = 40) (hT_a1 : tg a1 = 5) : MetV l yX11_copy (wa yX11_copy cX11_copy 2 none) ({ frames := 1, cells := 0, slots := 0, locals := 60 }) [.ref a0, .ref a1] D t σ (I, J, ri, rj, rq) sz 0 0 (fun (u : pq_S × pq_M) => ∃ ri' : Nat → Nat → Int32, u = (σ, I, J, ri', rj, rq) ∧ GX [1005] tg σ I ri rj I ri' rj rq ∧ (∀ j, j < 40 → ri' a1 j = ri a0 j) ∧ (∀ q, q ≠ a1 → ri' q = ri q)) := by
  refine Met.ofW (cc := cX11_copy) (maxL := 2) (ret := none) (by decide) rfl ?_
  intro p e s m args below meth c s₁ B hml hv
  obtain ⟨rfl, hsz, hP, hK, hD0, hN⟩ := hv
  have hx := B.exec
  have hb := B.bytes
  have hr := B.returns
  have hts := atoms_spec (ws := (wa yX11_copy cX11_copy 2 none)) B.pre
  have hown : s.vm.findClass RX11 = some m.cls := findClass_of_methodNamed B.named
  have hlocks := B.notSynchronized
  subst hsz
  have hD : va_D (pq_B t σ (I, J, ri, rj, rq) s.heap.size) (pq_P t σ (I, J, ri, rj, rq)) := hD0.self
  generalize hAe : pq_B t σ (I, J, ri, rj, rq) s.heap.size = A at hD ⊢
  have hA : ∀ q : Nat, s.heap.size ≤ q → A q := fun q h => by rw [← hAe]; exact Or.inr h
  have hS : va_S A s.heap s.heap [] := va_S.rf
  have hG : GX [1005] tg σ I ri rj I ri rj rq := ⟨hG0, fun _ _ _ => rfl, fun _ _ _ _ _ => rfl, fun _ _ _ _ _ => rfl⟩
  have hl := lv_entry ([.ref a0, .ref a1]) (n := 2) (Nat.le_of_ble_eq_true rfl)
  rw [lg_entry_eq]
  generalize (lg_sl ([.ref a0, .ref a1]) ++ List.replicate (2 - (lg_sl ([.ref a0, .ref a1])).length) Slot.unset).toArray = ls at hl ⊢
  have hl : lv_has ls 2 [(0, .ref a0), (1, .ref a1)] := hl
  refine q_gen (fun Q hQ => ?_)
  have go : ∀ (H : Heap) (locs : List Loc) (ls : Array Slot), va_P D vwCl (pq_P t σ (I, J, ri, rj, rq)) H → va_D A (pq_P t σ (I, J, ri, rj, rq)) → va_S A s.heap H locs → lv_has ls 2 [(0, .ref a0), (1, .ref a1)] → W p l e ({ frames := 1, cells := 0, slots := 0, locals := 60 } : Room) s m (List.toArray ([.ref a0, .ref a1] : List Value)) below meth c H locs 0 0 Q (F0 m 0 ls []) := by
    intro H locs ls hP hD hS hl
    refine lv_aload_n hx hb dX11_copy_0 rfl (lv_at hl 0 rfl) ?_
    refine lv_iconst (v := 0) hx hb dX11_copy_1 (by decide) ?_
    refine lv_aload_n hx hb dX11_copy_2 rfl (lv_at hl 1 rfl) ?_
    refine lv_iconst (v := 0) hx hb dX11_copy_3 (by decide) ?_
    refine lv_aload_n hx hb dX11_copy_4 rfl (lv_at hl 0 rfl) ?_
    refine pn_i (v := 40) hx hb hK hP hL_a0 hK_a0 hN_a0 (by decide) dX11_copy_5 ?_
    refine lv_aload_n hx hb dX11_copy_6 rfl (lv_at hl 1 rfl) ?_
    refine pn_i (v := 40) hx hb hK hP hL_a1 hK_a1 hN_a1 (by decide) dX11_copy_7 ?_
    refine va_mmin hx hb (hml.trans hl.1.symm) hown (hts _ (tw_c tw_1103)) (hts _ (tw_c tw_467)) (hts _ (tw_c tw_276)) (hts _ (tw_c tw_468)) (Nat.le_of_ble_eq_true rfl) (Nat.le_of_ble_eq_true rfl) (Nat.zero_le _) (Nat.zero_le _) dX11_copy_8 ?_
    refine lv_topi (fun x_1 ex_1 => ?_)
    have h_2 : rg x_1 40 40 := rg_of_eq ex_1 (rg_min2 (rg_k (40 : Int32) 40 rfl) (rg_k (40 : Int32) 40 rfl) (by decide))
    refine pc_i hx hb (hml.trans hl.1.symm) hown (hts _ (tw_c tw_1104)) (hts _ (tw_c tw_1105)) (hts _ (tw_c tw_1106)) (hts _ (tw_c tw_1107)) hK hP hD hS hL_a0 hK_a0 hN_a0 hL_a1 hK_a1 hN_a1 (rg_pos (rg_k (0 : Int32) 0 rfl) (by decide)) (rg_pos h_2 (by decide)) (rg_cp (rg_k (0 : Int32) 0 rfl) h_2 (by decide)) (rg_cl h_2 (by decide)) (Nat.le_of_ble_eq_true rfl) (Nat.le_of_ble_eq_true rfl) dX11_copy_11 (fun r_3 H locs er_3 hP hD hS => ?_)
    have hG := GX.cR hG hSH hT_a0 rfl hT_a1 rfl er_3 (by decide)
    subst hQ
    exact W.vret hx hb hr (fun t1 ht hW => ⟨⟨(σ, I, J, r_3, rj, rq), rfl, ⟨r_3, rfl, hG, (cpy_eq er_3 h_2 rfl), (fun q hq => by rw [er_3, va_up_ne _ _ hq])⟩, by rw [ht]; exact hP, va_K.moved hW.alike hK, hD⟩, hS.F ht⟩) hS.2.2 dX11_copy_14
  exact go _ _ _ hP hD hS hl

set_option maxHeartbeats 4000000 in
set_option maxRecDepth 100000 in
theorem s_X11_copy_6_6 (l : Launch) (D : va_G) (t : pq_T) (σ : pq_S) (I : Nat → Nat → Int32) (J : Nat → Nat → Int64) (ri : Nat → Nat → Int32) (rj : Nat → Nat → Int64) (rq : Nat → Nat → Option Nat) (sz : Nat) (tg : Nat → Nat) (hSH : SH σ tg) (hG0 : GS tg σ I ri rq) (a0 : Nat) (a1 : Nat) (hL_a0 : a0 ∈ σ.1) (hK_a0 : σ.2.1 a0 = 13) (hN_a0 : σ.2.2.2 a0 = 40) (hT_a0 : tg a0 = 6) (hL_a1 : a1 ∈ σ.1) (hK_a1 : σ.2.1 a1 = 13) (hN_a1 : σ.2.2.2 a1 = 40) (hT_a1 : tg a1 = 6) : MetV l yX11_copy (wa yX11_copy cX11_copy 2 none) ({ frames := 1, cells := 0, slots := 0, locals := 60 }) [.ref a0, .ref a1] D t σ (I, J, ri, rj, rq) sz 0 0 (fun (u : pq_S × pq_M) => ∃ ri' : Nat → Nat → Int32, u = (σ, I, J, ri', rj, rq) ∧ GX [] tg σ I ri rj I ri' rj rq ∧ (∀ j, j < 40 → ri' a1 j = ri a0 j) ∧ (∀ q, q ≠ a1 → ri' q = ri q)) := by
  refine Met.ofW (cc := cX11_copy) (maxL := 2) (ret := none) (by decide) rfl ?_
  intro p e s m args below meth c s₁ B hml hv
  obtain ⟨rfl, hsz, hP, hK, hD0, hN⟩ := hv
  have hx := B.exec
  have hb := B.bytes
  have hr := B.returns
  have hts := atoms_spec (ws := (wa yX11_copy cX11_copy 2 none)) B.pre
  have hown : s.vm.findClass RX11 = some m.cls := findClass_of_methodNamed B.named
  have hlocks := B.notSynchronized
  subst hsz
  have hD : va_D (pq_B t σ (I, J, ri, rj, rq) s.heap.size) (pq_P t σ (I, J, ri, rj, rq)) := hD0.self
  generalize hAe : pq_B t σ (I, J, ri, rj, rq) s.heap.size = A at hD ⊢
  have hA : ∀ q : Nat, s.heap.size ≤ q → A q := fun q h => by rw [← hAe]; exact Or.inr h
  have hS : va_S A s.heap s.heap [] := va_S.rf
  have hG : GX [] tg σ I ri rj I ri rj rq := ⟨hG0, fun _ _ _ => rfl, fun _ _ _ _ _ => rfl, fun _ _ _ _ _ => rfl⟩
  have hl := lv_entry ([.ref a0, .ref a1]) (n := 2) (Nat.le_of_ble_eq_true rfl)
  rw [lg_entry_eq]
  generalize (lg_sl ([.ref a0, .ref a1]) ++ List.replicate (2 - (lg_sl ([.ref a0, .ref a1])).length) Slot.unset).toArray = ls at hl ⊢
  have hl : lv_has ls 2 [(0, .ref a0), (1, .ref a1)] := hl
  refine q_gen (fun Q hQ => ?_)
  have go : ∀ (H : Heap) (locs : List Loc) (ls : Array Slot), va_P D vwCl (pq_P t σ (I, J, ri, rj, rq)) H → va_D A (pq_P t σ (I, J, ri, rj, rq)) → va_S A s.heap H locs → lv_has ls 2 [(0, .ref a0), (1, .ref a1)] → W p l e ({ frames := 1, cells := 0, slots := 0, locals := 60 } : Room) s m (List.toArray ([.ref a0, .ref a1] : List Value)) below meth c H locs 0 0 Q (F0 m 0 ls []) := by
    intro H locs ls hP hD hS hl
    refine lv_aload_n hx hb dX11_copy_0 rfl (lv_at hl 0 rfl) ?_
    refine lv_iconst (v := 0) hx hb dX11_copy_1 (by decide) ?_
    refine lv_aload_n hx hb dX11_copy_2 rfl (lv_at hl 1 rfl) ?_
    refine lv_iconst (v := 0) hx hb dX11_copy_3 (by decide) ?_
    refine lv_aload_n hx hb dX11_copy_4 rfl (lv_at hl 0 rfl) ?_
    refine pn_i (v := 40) hx hb hK hP hL_a0 hK_a0 hN_a0 (by decide) dX11_copy_5 ?_
    refine lv_aload_n hx hb dX11_copy_6 rfl (lv_at hl 1 rfl) ?_
    refine pn_i (v := 40) hx hb hK hP hL_a1 hK_a1 hN_a1 (by decide) dX11_copy_7 ?_
    refine va_mmin hx hb (hml.trans hl.1.symm) hown (hts _ (tw_c tw_1103)) (hts _ (tw_c tw_467)) (hts _ (tw_c tw_276)) (hts _ (tw_c tw_468)) (Nat.le_of_ble_eq_true rfl) (Nat.le_of_ble_eq_true rfl) (Nat.zero_le _) (Nat.zero_le _) dX11_copy_8 ?_
    refine lv_topi (fun x_1 ex_1 => ?_)
    have h_2 : rg x_1 40 40 := rg_of_eq ex_1 (rg_min2 (rg_k (40 : Int32) 40 rfl) (rg_k (40 : Int32) 40 rfl) (by decide))
    refine pc_i hx hb (hml.trans hl.1.symm) hown (hts _ (tw_c tw_1104)) (hts _ (tw_c tw_1105)) (hts _ (tw_c tw_1106)) (hts _ (tw_c tw_1107)) hK hP hD hS hL_a0 hK_a0 hN_a0 hL_a1 hK_a1 hN_a1 (rg_pos (rg_k (0 : Int32) 0 rfl) (by decide)) (rg_pos h_2 (by decide)) (rg_cp (rg_k (0 : Int32) 0 rfl) h_2 (by decide)) (rg_cl h_2 (by decide)) (Nat.le_of_ble_eq_true rfl) (Nat.le_of_ble_eq_true rfl) dX11_copy_11 (fun r_3 H locs er_3 hP hD hS => ?_)
    have hG := GX.cR hG hSH hT_a0 rfl hT_a1 rfl er_3 (by decide)
    subst hQ
    exact W.vret hx hb hr (fun t1 ht hW => ⟨⟨(σ, I, J, r_3, rj, rq), rfl, ⟨r_3, rfl, hG, (cpy_eq er_3 h_2 rfl), (fun q hq => by rw [er_3, va_up_ne _ _ hq])⟩, by rw [ht]; exact hP, va_K.moved hW.alike hK, hD⟩, hS.F ht⟩) hS.2.2 dX11_copy_14
  exact go _ _ _ hP hD hS hl

set_option maxHeartbeats 4000000 in
set_option maxRecDepth 100000 in
theorem s_X11_copy_7_7 (l : Launch) (D : va_G) (t : pq_T) (σ : pq_S) (I : Nat → Nat → Int32) (J : Nat → Nat → Int64) (ri : Nat → Nat → Int32) (rj : Nat → Nat → Int64) (rq : Nat → Nat → Option Nat) (sz : Nat) (tg : Nat → Nat) (hSH : SH σ tg) (hG0 : GS tg σ I ri rq) (a0 : Nat) (a1 : Nat) (hL_a0 : a0 ∈ σ.1) (hK_a0 : σ.2.1 a0 = 13) (hN_a0 : σ.2.2.2 a0 = 40) (hT_a0 : tg a0 = 7) (hL_a1 : a1 ∈ σ.1) (hK_a1 : σ.2.1 a1 = 13) (hN_a1 : σ.2.2.2 a1 = 40) (hT_a1 : tg a1 = 7) : MetV l yX11_copy (wa yX11_copy cX11_copy 2 none) ({ frames := 1, cells := 0, slots := 0, locals := 60 }) [.ref a0, .ref a1] D t σ (I, J, ri, rj, rq) sz 0 0 (fun (u : pq_S × pq_M) => ∃ ri' : Nat → Nat → Int32, u = (σ, I, J, ri', rj, rq) ∧ GX [] tg σ I ri rj I ri' rj rq ∧ (∀ j, j < 40 → ri' a1 j = ri a0 j) ∧ (∀ q, q ≠ a1 → ri' q = ri q)) := by
  refine Met.ofW (cc := cX11_copy) (maxL := 2) (ret := none) (by decide) rfl ?_
  intro p e s m args below meth c s₁ B hml hv
  obtain ⟨rfl, hsz, hP, hK, hD0, hN⟩ := hv
  have hx := B.exec
  have hb := B.bytes
  have hr := B.returns
  have hts := atoms_spec (ws := (wa yX11_copy cX11_copy 2 none)) B.pre
  have hown : s.vm.findClass RX11 = some m.cls := findClass_of_methodNamed B.named
  have hlocks := B.notSynchronized
  subst hsz
  have hD : va_D (pq_B t σ (I, J, ri, rj, rq) s.heap.size) (pq_P t σ (I, J, ri, rj, rq)) := hD0.self
  generalize hAe : pq_B t σ (I, J, ri, rj, rq) s.heap.size = A at hD ⊢
  have hA : ∀ q : Nat, s.heap.size ≤ q → A q := fun q h => by rw [← hAe]; exact Or.inr h
  have hS : va_S A s.heap s.heap [] := va_S.rf
  have hG : GX [] tg σ I ri rj I ri rj rq := ⟨hG0, fun _ _ _ => rfl, fun _ _ _ _ _ => rfl, fun _ _ _ _ _ => rfl⟩
  have hl := lv_entry ([.ref a0, .ref a1]) (n := 2) (Nat.le_of_ble_eq_true rfl)
  rw [lg_entry_eq]
  generalize (lg_sl ([.ref a0, .ref a1]) ++ List.replicate (2 - (lg_sl ([.ref a0, .ref a1])).length) Slot.unset).toArray = ls at hl ⊢
  have hl : lv_has ls 2 [(0, .ref a0), (1, .ref a1)] := hl
  refine q_gen (fun Q hQ => ?_)
  have go : ∀ (H : Heap) (locs : List Loc) (ls : Array Slot), va_P D vwCl (pq_P t σ (I, J, ri, rj, rq)) H → va_D A (pq_P t σ (I, J, ri, rj, rq)) → va_S A s.heap H locs → lv_has ls 2 [(0, .ref a0), (1, .ref a1)] → W p l e ({ frames := 1, cells := 0, slots := 0, locals := 60 } : Room) s m (List.toArray ([.ref a0, .ref a1] : List Value)) below meth c H locs 0 0 Q (F0 m 0 ls []) := by
    intro H locs ls hP hD hS hl
    refine lv_aload_n hx hb dX11_copy_0 rfl (lv_at hl 0 rfl) ?_
    refine lv_iconst (v := 0) hx hb dX11_copy_1 (by decide) ?_
    refine lv_aload_n hx hb dX11_copy_2 rfl (lv_at hl 1 rfl) ?_
    refine lv_iconst (v := 0) hx hb dX11_copy_3 (by decide) ?_
    refine lv_aload_n hx hb dX11_copy_4 rfl (lv_at hl 0 rfl) ?_
    refine pn_i (v := 40) hx hb hK hP hL_a0 hK_a0 hN_a0 (by decide) dX11_copy_5 ?_
    refine lv_aload_n hx hb dX11_copy_6 rfl (lv_at hl 1 rfl) ?_
    refine pn_i (v := 40) hx hb hK hP hL_a1 hK_a1 hN_a1 (by decide) dX11_copy_7 ?_
    refine va_mmin hx hb (hml.trans hl.1.symm) hown (hts _ (tw_c tw_1103)) (hts _ (tw_c tw_467)) (hts _ (tw_c tw_276)) (hts _ (tw_c tw_468)) (Nat.le_of_ble_eq_true rfl) (Nat.le_of_ble_eq_true rfl) (Nat.zero_le _) (Nat.zero_le _) dX11_copy_8 ?_
    refine lv_topi (fun x_1 ex_1 => ?_)
    have h_2 : rg x_1 40 40 := rg_of_eq ex_1 (rg_min2 (rg_k (40 : Int32) 40 rfl) (rg_k (40 : Int32) 40 rfl) (by decide))
    refine pc_i hx hb (hml.trans hl.1.symm) hown (hts _ (tw_c tw_1104)) (hts _ (tw_c tw_1105)) (hts _ (tw_c tw_1106)) (hts _ (tw_c tw_1107)) hK hP hD hS hL_a0 hK_a0 hN_a0 hL_a1 hK_a1 hN_a1 (rg_pos (rg_k (0 : Int32) 0 rfl) (by decide)) (rg_pos h_2 (by decide)) (rg_cp (rg_k (0 : Int32) 0 rfl) h_2 (by decide)) (rg_cl h_2 (by decide)) (Nat.le_of_ble_eq_true rfl) (Nat.le_of_ble_eq_true rfl) dX11_copy_11 (fun r_3 H locs er_3 hP hD hS => ?_)
    have hG := GX.cR hG hSH hT_a0 rfl hT_a1 rfl er_3 (by decide)
    subst hQ
    exact W.vret hx hb hr (fun t1 ht hW => ⟨⟨(σ, I, J, r_3, rj, rq), rfl, ⟨r_3, rfl, hG, (cpy_eq er_3 h_2 rfl), (fun q hq => by rw [er_3, va_up_ne _ _ hq])⟩, by rw [ht]; exact hP, va_K.moved hW.alike hK, hD⟩, hS.F ht⟩) hS.2.2 dX11_copy_14
  exact go _ _ _ hP hD hS hl

set_option maxHeartbeats 4000000 in
set_option maxRecDepth 100000 in
theorem s_X11_copy_8_8 (l : Launch) (D : va_G) (t : pq_T) (σ : pq_S) (I : Nat → Nat → Int32) (J : Nat → Nat → Int64) (ri : Nat → Nat → Int32) (rj : Nat → Nat → Int64) (rq : Nat → Nat → Option Nat) (sz : Nat) (tg : Nat → Nat) (hSH : SH σ tg) (hG0 : GS tg σ I ri rq) (a0 : Nat) (a1 : Nat) (hL_a0 : a0 ∈ σ.1) (hK_a0 : σ.2.1 a0 = 13) (hN_a0 : σ.2.2.2 a0 = 40) (hT_a0 : tg a0 = 8) (hL_a1 : a1 ∈ σ.1) (hK_a1 : σ.2.1 a1 = 13) (hN_a1 : σ.2.2.2 a1 = 40) (hT_a1 : tg a1 = 8) : MetV l yX11_copy (wa yX11_copy cX11_copy 2 none) ({ frames := 1, cells := 0, slots := 0, locals := 60 }) [.ref a0, .ref a1] D t σ (I, J, ri, rj, rq) sz 0 0 (fun (u : pq_S × pq_M) => ∃ ri' : Nat → Nat → Int32, u = (σ, I, J, ri', rj, rq) ∧ GX [] tg σ I ri rj I ri' rj rq ∧ (∀ j, j < 40 → ri' a1 j = ri a0 j) ∧ (∀ q, q ≠ a1 → ri' q = ri q)) := by
  refine Met.ofW (cc := cX11_copy) (maxL := 2) (ret := none) (by decide) rfl ?_
  intro p e s m args below meth c s₁ B hml hv
  obtain ⟨rfl, hsz, hP, hK, hD0, hN⟩ := hv
  have hx := B.exec
  have hb := B.bytes
  have hr := B.returns
  have hts := atoms_spec (ws := (wa yX11_copy cX11_copy 2 none)) B.pre
  have hown : s.vm.findClass RX11 = some m.cls := findClass_of_methodNamed B.named
  have hlocks := B.notSynchronized
  subst hsz
  have hD : va_D (pq_B t σ (I, J, ri, rj, rq) s.heap.size) (pq_P t σ (I, J, ri, rj, rq)) := hD0.self
  generalize hAe : pq_B t σ (I, J, ri, rj, rq) s.heap.size = A at hD ⊢
  have hA : ∀ q : Nat, s.heap.size ≤ q → A q := fun q h => by rw [← hAe]; exact Or.inr h
  have hS : va_S A s.heap s.heap [] := va_S.rf
  have hG : GX [] tg σ I ri rj I ri rj rq := ⟨hG0, fun _ _ _ => rfl, fun _ _ _ _ _ => rfl, fun _ _ _ _ _ => rfl⟩
  have hl := lv_entry ([.ref a0, .ref a1]) (n := 2) (Nat.le_of_ble_eq_true rfl)
  rw [lg_entry_eq]
  generalize (lg_sl ([.ref a0, .ref a1]) ++ List.replicate (2 - (lg_sl ([.ref a0, .ref a1])).length) Slot.unset).toArray = ls at hl ⊢
  have hl : lv_has ls 2 [(0, .ref a0), (1, .ref a1)] := hl
  refine q_gen (fun Q hQ => ?_)
  have go : ∀ (H : Heap) (locs : List Loc) (ls : Array Slot), va_P D vwCl (pq_P t σ (I, J, ri, rj, rq)) H → va_D A (pq_P t σ (I, J, ri, rj, rq)) → va_S A s.heap H locs → lv_has ls 2 [(0, .ref a0), (1, .ref a1)] → W p l e ({ frames := 1, cells := 0, slots := 0, locals := 60 } : Room) s m (List.toArray ([.ref a0, .ref a1] : List Value)) below meth c H locs 0 0 Q (F0 m 0 ls []) := by
    intro H locs ls hP hD hS hl
    refine lv_aload_n hx hb dX11_copy_0 rfl (lv_at hl 0 rfl) ?_
    refine lv_iconst (v := 0) hx hb dX11_copy_1 (by decide) ?_
    refine lv_aload_n hx hb dX11_copy_2 rfl (lv_at hl 1 rfl) ?_
    refine lv_iconst (v := 0) hx hb dX11_copy_3 (by decide) ?_
    refine lv_aload_n hx hb dX11_copy_4 rfl (lv_at hl 0 rfl) ?_
    refine pn_i (v := 40) hx hb hK hP hL_a0 hK_a0 hN_a0 (by decide) dX11_copy_5 ?_
    refine lv_aload_n hx hb dX11_copy_6 rfl (lv_at hl 1 rfl) ?_
    refine pn_i (v := 40) hx hb hK hP hL_a1 hK_a1 hN_a1 (by decide) dX11_copy_7 ?_
    refine va_mmin hx hb (hml.trans hl.1.symm) hown (hts _ (tw_c tw_1103)) (hts _ (tw_c tw_467)) (hts _ (tw_c tw_276)) (hts _ (tw_c tw_468)) (Nat.le_of_ble_eq_true rfl) (Nat.le_of_ble_eq_true rfl) (Nat.zero_le _) (Nat.zero_le _) dX11_copy_8 ?_
    refine lv_topi (fun x_1 ex_1 => ?_)
    have h_2 : rg x_1 40 40 := rg_of_eq ex_1 (rg_min2 (rg_k (40 : Int32) 40 rfl) (rg_k (40 : Int32) 40 rfl) (by decide))
    refine pc_i hx hb (hml.trans hl.1.symm) hown (hts _ (tw_c tw_1104)) (hts _ (tw_c tw_1105)) (hts _ (tw_c tw_1106)) (hts _ (tw_c tw_1107)) hK hP hD hS hL_a0 hK_a0 hN_a0 hL_a1 hK_a1 hN_a1 (rg_pos (rg_k (0 : Int32) 0 rfl) (by decide)) (rg_pos h_2 (by decide)) (rg_cp (rg_k (0 : Int32) 0 rfl) h_2 (by decide)) (rg_cl h_2 (by decide)) (Nat.le_of_ble_eq_true rfl) (Nat.le_of_ble_eq_true rfl) dX11_copy_11 (fun r_3 H locs er_3 hP hD hS => ?_)
    have hG := GX.cR hG hSH hT_a0 rfl hT_a1 rfl er_3 (by decide)
    subst hQ
    exact W.vret hx hb hr (fun t1 ht hW => ⟨⟨(σ, I, J, r_3, rj, rq), rfl, ⟨r_3, rfl, hG, (cpy_eq er_3 h_2 rfl), (fun q hq => by rw [er_3, va_up_ne _ _ hq])⟩, by rw [ht]; exact hP, va_K.moved hW.alike hK, hD⟩, hS.F ht⟩) hS.2.2 dX11_copy_14
  exact go _ _ _ hP hD hS hl

set_option maxHeartbeats 4000000 in
set_option maxRecDepth 100000 in
theorem s_X11_copy_9_9 (l : Launch) (D : va_G) (t : pq_T) (σ : pq_S) (I : Nat → Nat → Int32) (J : Nat → Nat → Int64) (ri : Nat → Nat → Int32) (rj : Nat → Nat → Int64) (rq : Nat → Nat → Option Nat) (sz : Nat) (tg : Nat → Nat) (hSH : SH σ tg) (hG0 : GS tg σ I ri rq) (a0 : Nat) (a1 : Nat) (hL_a0 : a0 ∈ σ.1) (hK_a0 : σ.2.1 a0 = 13) (hN_a0 : σ.2.2.2 a0 = 40) (hT_a0 : tg a0 = 9) (hL_a1 : a1 ∈ σ.1) (hK_a1 : σ.2.1 a1 = 13) (hN_a1 : σ.2.2.2 a1 = 40) (hT_a1 : tg a1 = 9) : MetV l yX11_copy (wa yX11_copy cX11_copy 2 none) ({ frames := 1, cells := 0, slots := 0, locals := 60 }) [.ref a0, .ref a1] D t σ (I, J, ri, rj, rq) sz 0 0 (fun (u : pq_S × pq_M) => ∃ ri' : Nat → Nat → Int32, u = (σ, I, J, ri', rj, rq) ∧ GX [] tg σ I ri rj I ri' rj rq ∧ (∀ j, j < 40 → ri' a1 j = ri a0 j) ∧ (∀ q, q ≠ a1 → ri' q = ri q)) := by
  refine Met.ofW (cc := cX11_copy) (maxL := 2) (ret := none) (by decide) rfl ?_
  intro p e s m args below meth c s₁ B hml hv
  obtain ⟨rfl, hsz, hP, hK, hD0, hN⟩ := hv
  have hx := B.exec
  have hb := B.bytes
  have hr := B.returns
  have hts := atoms_spec (ws := (wa yX11_copy cX11_copy 2 none)) B.pre
  have hown : s.vm.findClass RX11 = some m.cls := findClass_of_methodNamed B.named
  have hlocks := B.notSynchronized
  subst hsz
  have hD : va_D (pq_B t σ (I, J, ri, rj, rq) s.heap.size) (pq_P t σ (I, J, ri, rj, rq)) := hD0.self
  generalize hAe : pq_B t σ (I, J, ri, rj, rq) s.heap.size = A at hD ⊢
  have hA : ∀ q : Nat, s.heap.size ≤ q → A q := fun q h => by rw [← hAe]; exact Or.inr h
  have hS : va_S A s.heap s.heap [] := va_S.rf
  have hG : GX [] tg σ I ri rj I ri rj rq := ⟨hG0, fun _ _ _ => rfl, fun _ _ _ _ _ => rfl, fun _ _ _ _ _ => rfl⟩
  have hl := lv_entry ([.ref a0, .ref a1]) (n := 2) (Nat.le_of_ble_eq_true rfl)
  rw [lg_entry_eq]
  generalize (lg_sl ([.ref a0, .ref a1]) ++ List.replicate (2 - (lg_sl ([.ref a0, .ref a1])).length) Slot.unset).toArray = ls at hl ⊢
  have hl : lv_has ls 2 [(0, .ref a0), (1, .ref a1)] := hl
  refine q_gen (fun Q hQ => ?_)
  have go : ∀ (H : Heap) (locs : List Loc) (ls : Array Slot), va_P D vwCl (pq_P t σ (I, J, ri, rj, rq)) H → va_D A (pq_P t σ (I, J, ri, rj, rq)) → va_S A s.heap H locs → lv_has ls 2 [(0, .ref a0), (1, .ref a1)] → W p l e ({ frames := 1, cells := 0, slots := 0, locals := 60 } : Room) s m (List.toArray ([.ref a0, .ref a1] : List Value)) below meth c H locs 0 0 Q (F0 m 0 ls []) := by
    intro H locs ls hP hD hS hl
    refine lv_aload_n hx hb dX11_copy_0 rfl (lv_at hl 0 rfl) ?_
    refine lv_iconst (v := 0) hx hb dX11_copy_1 (by decide) ?_
    refine lv_aload_n hx hb dX11_copy_2 rfl (lv_at hl 1 rfl) ?_
    refine lv_iconst (v := 0) hx hb dX11_copy_3 (by decide) ?_
    refine lv_aload_n hx hb dX11_copy_4 rfl (lv_at hl 0 rfl) ?_
    refine pn_i (v := 40) hx hb hK hP hL_a0 hK_a0 hN_a0 (by decide) dX11_copy_5 ?_
    refine lv_aload_n hx hb dX11_copy_6 rfl (lv_at hl 1 rfl) ?_
    refine pn_i (v := 40) hx hb hK hP hL_a1 hK_a1 hN_a1 (by decide) dX11_copy_7 ?_
    refine va_mmin hx hb (hml.trans hl.1.symm) hown (hts _ (tw_c tw_1103)) (hts _ (tw_c tw_467)) (hts _ (tw_c tw_276)) (hts _ (tw_c tw_468)) (Nat.le_of_ble_eq_true rfl) (Nat.le_of_ble_eq_true rfl) (Nat.zero_le _) (Nat.zero_le _) dX11_copy_8 ?_
    refine lv_topi (fun x_1 ex_1 => ?_)
    have h_2 : rg x_1 40 40 := rg_of_eq ex_1 (rg_min2 (rg_k (40 : Int32) 40 rfl) (rg_k (40 : Int32) 40 rfl) (by decide))
    refine pc_i hx hb (hml.trans hl.1.symm) hown (hts _ (tw_c tw_1104)) (hts _ (tw_c tw_1105)) (hts _ (tw_c tw_1106)) (hts _ (tw_c tw_1107)) hK hP hD hS hL_a0 hK_a0 hN_a0 hL_a1 hK_a1 hN_a1 (rg_pos (rg_k (0 : Int32) 0 rfl) (by decide)) (rg_pos h_2 (by decide)) (rg_cp (rg_k (0 : Int32) 0 rfl) h_2 (by decide)) (rg_cl h_2 (by decide)) (Nat.le_of_ble_eq_true rfl) (Nat.le_of_ble_eq_true rfl) dX11_copy_11 (fun r_3 H locs er_3 hP hD hS => ?_)
    have hG := GX.cR hG hSH hT_a0 rfl hT_a1 rfl er_3 (by decide)
    subst hQ
    exact W.vret hx hb hr (fun t1 ht hW => ⟨⟨(σ, I, J, r_3, rj, rq), rfl, ⟨r_3, rfl, hG, (cpy_eq er_3 h_2 rfl), (fun q hq => by rw [er_3, va_up_ne _ _ hq])⟩, by rw [ht]; exact hP, va_K.moved hW.alike hK, hD⟩, hS.F ht⟩) hS.2.2 dX11_copy_14
  exact go _ _ _ hP hD hS hl

set_option maxHeartbeats 4000000 in
set_option maxRecDepth 100000 in
theorem s_X11_copy_11_11 (l : Launch) (D : va_G) (t : pq_T) (σ : pq_S) (I : Nat → Nat → Int32) (J : Nat → Nat → Int64) (ri : Nat → Nat → Int32) (rj : Nat → Nat → Int64) (rq : Nat → Nat → Option Nat) (sz : Nat) (tg : Nat → Nat) (hSH : SH σ tg) (hG0 : GS tg σ I ri rq) (a0 : Nat) (a1 : Nat) (hL_a0 : a0 ∈ σ.1) (hK_a0 : σ.2.1 a0 = 13) (hN_a0 : σ.2.2.2 a0 = 5) (hT_a0 : tg a0 = 11) (hL_a1 : a1 ∈ σ.1) (hK_a1 : σ.2.1 a1 = 13) (hN_a1 : σ.2.2.2 a1 = 5) (hT_a1 : tg a1 = 11) : MetV l yX11_copy (wa yX11_copy cX11_copy 2 none) ({ frames := 1, cells := 0, slots := 0, locals := 60 }) [.ref a0, .ref a1] D t σ (I, J, ri, rj, rq) sz 0 0 (fun (u : pq_S × pq_M) => ∃ ri' : Nat → Nat → Int32, u = (σ, I, J, ri', rj, rq) ∧ GX [] tg σ I ri rj I ri' rj rq ∧ (∀ j, j < 5 → ri' a1 j = ri a0 j) ∧ (∀ q, q ≠ a1 → ri' q = ri q)) := by
  refine Met.ofW (cc := cX11_copy) (maxL := 2) (ret := none) (by decide) rfl ?_
  intro p e s m args below meth c s₁ B hml hv
  obtain ⟨rfl, hsz, hP, hK, hD0, hN⟩ := hv
  have hx := B.exec
  have hb := B.bytes
  have hr := B.returns
  have hts := atoms_spec (ws := (wa yX11_copy cX11_copy 2 none)) B.pre
  have hown : s.vm.findClass RX11 = some m.cls := findClass_of_methodNamed B.named
  have hlocks := B.notSynchronized
  subst hsz
  have hD : va_D (pq_B t σ (I, J, ri, rj, rq) s.heap.size) (pq_P t σ (I, J, ri, rj, rq)) := hD0.self
  generalize hAe : pq_B t σ (I, J, ri, rj, rq) s.heap.size = A at hD ⊢
  have hA : ∀ q : Nat, s.heap.size ≤ q → A q := fun q h => by rw [← hAe]; exact Or.inr h
  have hS : va_S A s.heap s.heap [] := va_S.rf
  have hG : GX [] tg σ I ri rj I ri rj rq := ⟨hG0, fun _ _ _ => rfl, fun _ _ _ _ _ => rfl, fun _ _ _ _ _ => rfl⟩
  have hl := lv_entry ([.ref a0, .ref a1]) (n := 2) (Nat.le_of_ble_eq_true rfl)
  rw [lg_entry_eq]
  generalize (lg_sl ([.ref a0, .ref a1]) ++ List.replicate (2 - (lg_sl ([.ref a0, .ref a1])).length) Slot.unset).toArray = ls at hl ⊢
  have hl : lv_has ls 2 [(0, .ref a0), (1, .ref a1)] := hl
  refine q_gen (fun Q hQ => ?_)
  have go : ∀ (H : Heap) (locs : List Loc) (ls : Array Slot), va_P D vwCl (pq_P t σ (I, J, ri, rj, rq)) H → va_D A (pq_P t σ (I, J, ri, rj, rq)) → va_S A s.heap H locs → lv_has ls 2 [(0, .ref a0), (1, .ref a1)] → W p l e ({ frames := 1, cells := 0, slots := 0, locals := 60 } : Room) s m (List.toArray ([.ref a0, .ref a1] : List Value)) below meth c H locs 0 0 Q (F0 m 0 ls []) := by
    intro H locs ls hP hD hS hl
    refine lv_aload_n hx hb dX11_copy_0 rfl (lv_at hl 0 rfl) ?_
    refine lv_iconst (v := 0) hx hb dX11_copy_1 (by decide) ?_
    refine lv_aload_n hx hb dX11_copy_2 rfl (lv_at hl 1 rfl) ?_
    refine lv_iconst (v := 0) hx hb dX11_copy_3 (by decide) ?_
    refine lv_aload_n hx hb dX11_copy_4 rfl (lv_at hl 0 rfl) ?_
    refine pn_i (v := 5) hx hb hK hP hL_a0 hK_a0 hN_a0 (by decide) dX11_copy_5 ?_
    refine lv_aload_n hx hb dX11_copy_6 rfl (lv_at hl 1 rfl) ?_
    refine pn_i (v := 5) hx hb hK hP hL_a1 hK_a1 hN_a1 (by decide) dX11_copy_7 ?_
    refine va_mmin hx hb (hml.trans hl.1.symm) hown (hts _ (tw_c tw_1103)) (hts _ (tw_c tw_467)) (hts _ (tw_c tw_276)) (hts _ (tw_c tw_468)) (Nat.le_of_ble_eq_true rfl) (Nat.le_of_ble_eq_true rfl) (Nat.zero_le _) (Nat.zero_le _) dX11_copy_8 ?_
    refine lv_topi (fun x_1 ex_1 => ?_)
    have h_2 : rg x_1 5 5 := rg_of_eq ex_1 (rg_min2 (rg_k (5 : Int32) 5 rfl) (rg_k (5 : Int32) 5 rfl) (by decide))
    refine pc_i hx hb (hml.trans hl.1.symm) hown (hts _ (tw_c tw_1104)) (hts _ (tw_c tw_1105)) (hts _ (tw_c tw_1106)) (hts _ (tw_c tw_1107)) hK hP hD hS hL_a0 hK_a0 hN_a0 hL_a1 hK_a1 hN_a1 (rg_pos (rg_k (0 : Int32) 0 rfl) (by decide)) (rg_pos h_2 (by decide)) (rg_cp (rg_k (0 : Int32) 0 rfl) h_2 (by decide)) (rg_cl h_2 (by decide)) (Nat.le_of_ble_eq_true rfl) (Nat.le_of_ble_eq_true rfl) dX11_copy_11 (fun r_3 H locs er_3 hP hD hS => ?_)
    have hG := GX.cR hG hSH hT_a0 rfl hT_a1 rfl er_3 (by decide)
    subst hQ
    exact W.vret hx hb hr (fun t1 ht hW => ⟨⟨(σ, I, J, r_3, rj, rq), rfl, ⟨r_3, rfl, hG, (cpy_eq er_3 h_2 rfl), (fun q hq => by rw [er_3, va_up_ne _ _ hq])⟩, by rw [ht]; exact hP, va_K.moved hW.alike hK, hD⟩, hS.F ht⟩) hS.2.2 dX11_copy_14
  exact go _ _ _ hP hD hS hl

set_option maxHeartbeats 4000000 in
set_option maxRecDepth 100000 in
theorem s_X0_isOnRing (l : Launch) (D : va_G) (t : pq_T) (σ : pq_S) (I : Nat → Nat → Int32) (J : Nat → Nat → Int64) (ri : Nat → Nat → Int32) (rj : Nat → Nat → Int64) (rq : Nat → Nat → Option Nat) (sz : Nat) (tg : Nat → Nat) (hSH : SH σ tg) (hG0 : GS tg σ I ri rq) (this : Nat) (a0 : Int32) (hL_this : this ∈ σ.1) (hK_this : σ.2.1 this = 0) (h_a0 : rg a0 0 39) (this_place : Nat) (hR_this_place : σ.2.2.1 5 this = some this_place) (hL_this_place : this_place ∈ σ.1) (hK_this_place : σ.2.1 this_place = 13) (hN_this_place : σ.2.2.2 this_place = 40) (hT_this_place : tg this_place = 5) : MetI l yX0_isOnRing (wa yX0_isOnRing cX0_isOnRing 2 (some .boolean)) ({ frames := 0, cells := 0, slots := 0, locals := 0 }) [.ref this, .int a0] D t σ (I, J, ri, rj, rq) sz 0 0 (fun (r : Int32) (u : pq_S × pq_M) => u = (σ, I, J, ri, rj, rq) ∧ ((r = 1 ∧ rg (ri this_place (a0).toNatClampNeg) 0 4) ∨ (r = 0 ∧ True))) := by
  refine Met.ofW (cc := cX0_isOnRing) (maxL := 2) (ret := (some .boolean)) (by decide) rfl ?_
  intro p e s m args below meth c s₁ B hml hv
  obtain ⟨rfl, hsz, hP, hK, hD0, hN⟩ := hv
  have hx := B.exec
  have hb := B.bytes
  have hr := B.returns
  have hts := atoms_spec (ws := (wa yX0_isOnRing cX0_isOnRing 2 (some .boolean))) B.pre
  have hown : s.vm.findClass RX0 = some m.cls := findClass_of_methodNamed B.named
  have hlocks := B.notSynchronized
  subst hsz
  have hD : va_D (pq_B t σ (I, J, ri, rj, rq) s.heap.size) (pq_P t σ (I, J, ri, rj, rq)) := hD0.self
  generalize hAe : pq_B t σ (I, J, ri, rj, rq) s.heap.size = A at hD ⊢
  have hA : ∀ q : Nat, s.heap.size ≤ q → A q := fun q h => by rw [← hAe]; exact Or.inr h
  have hS : va_S A s.heap s.heap [] := va_S.rf
  have hG : GX [] tg σ I ri rj I ri rj rq := ⟨hG0, fun _ _ _ => rfl, fun _ _ _ _ _ => rfl, fun _ _ _ _ _ => rfl⟩
  have hl := lv_entry ([.ref this, .int a0]) (n := 2) (Nat.le_of_ble_eq_true rfl)
  rw [lg_entry_eq]
  generalize (lg_sl ([.ref this, .int a0]) ++ List.replicate (2 - (lg_sl ([.ref this, .int a0])).length) Slot.unset).toArray = ls at hl ⊢
  have hl : lv_has ls 2 [(0, .ref this), (1, .int a0)] := hl
  refine q_gen (fun Q hQ => ?_)
  have go : ∀ (H : Heap) (locs : List Loc) (ls : Array Slot), va_P D vwCl (pq_P t σ (I, J, ri, rj, rq)) H → va_D A (pq_P t σ (I, J, ri, rj, rq)) → va_S A s.heap H locs → lv_has ls 2 [(0, .ref this), (1, .int a0)] → W p l e ({ frames := 0, cells := 0, slots := 0, locals := 0 } : Room) s m (List.toArray ([.ref this, .int a0] : List Value)) below meth c H locs 0 0 Q (F0 m 0 ls []) := by
    intro H locs ls hP hD hS hl
    refine lv_aload_n hx hb dX0_isOnRing_0 rfl (lv_at hl 0 rfl) ?_
    refine pg_f (v := .ref this_place) (C := RX0) (T := TX0) (N := 16) hx hb hts (tw_i inlX0) hown hK hP hL_this hK_this (by decide) rfl 5 (by decide) (hts _ (tw_c tw_114)) (pq_hv rfl hR_this_place) dX0_isOnRing_1 ?_
    refine lv_iload_n hx hb dX0_isOnRing_4 rfl (lv_at hl 1 rfl) ?_
    refine pl_i hx hb hK hP hL_this_place hK_this_place hN_this_place (rg_in h_a0 (by decide)) dX0_isOnRing_5 ?_
    refine lv_topi (fun x_1 ex_1 => ?_)
    have h_2 : rg x_1 0 300 := rg_of_eq ex_1 (GX.rR hG hT_this_place rfl)
    refine lv_iconst (v := 5) hx hb dX0_isOnRing_6 (by decide) ?_
    refine lv_icmp_ge (tgt := 14) hx hb dX0_isOnRing_7 (by decide) (fun c_3 => ?_) (fun c_3 => ?_)
    · have h_4 : rg x_1 5 300 := rg_le2 c_3 (rg_k (5 : Int32) 5 rfl) h_2 (by decide)
      refine lv_iconst (v := 0) hx hb dX0_isOnRing_14 (by decide) ?_
      subst hQ
      exact W.zret (v := 0) hx hb hr (by decide) (fun t1 ht hW => ⟨⟨0, (σ, I, J, ri, rj, rq), rfl, ⟨rfl, (Or.inr ⟨rfl, trivial⟩)⟩, by rw [ht]; exact hP, va_K.moved hW.alike hK, hD⟩, hS.F ht⟩) hS.2.2 dX0_isOnRing_15
    · have h_5 : rg x_1 0 4 := rg_lt1 (nle c_3) h_2 (rg_k (5 : Int32) 5 rfl) (by decide)
      refine lv_iconst (v := 1) hx hb dX0_isOnRing_10 (by decide) ?_
      refine lv_goto (tgt := 15) hx hb dX0_isOnRing_11 (by decide) ?_
      subst hQ
      exact W.zret (v := 1) hx hb hr (by decide) (fun t1 ht hW => ⟨⟨1, (σ, I, J, ri, rj, rq), rfl, ⟨rfl, (Or.inl ⟨rfl, (rg_of_eq ex_1.symm (rg_w h_5 (by decide)))⟩)⟩, by rw [ht]; exact hP, va_K.moved hW.alike hK, hD⟩, hS.F ht⟩) hS.2.2 dX0_isOnRing_15
  exact go _ _ _ hP hD hS hl

set_option maxHeartbeats 4000000 in
set_option maxRecDepth 100000 in
theorem s_X0_onRings (l : Launch) (D : va_G) (t : pq_T) (σ : pq_S) (I : Nat → Nat → Int32) (J : Nat → Nat → Int64) (ri : Nat → Nat → Int32) (rj : Nat → Nat → Int64) (rq : Nat → Nat → Option Nat) (sz : Nat) (tg : Nat → Nat) (hSH : SH σ tg) (hG0 : GS tg σ I ri rq) (this : Nat) (hL_this : this ∈ σ.1) (hK_this : σ.2.1 this = 0) : MetL l yX0_onRings (wa yX0_onRings cX0_onRings 4 (some .long)) ({ frames := 1, cells := 0, slots := 0, locals := 21 }) [.ref this] D t σ (I, J, ri, rj, rq) sz 0 0 (fun (r : Int64) (u : pq_S × pq_M) => u = (σ, I, J, ri, rj, rq)) := by
  refine Met.ofW (cc := cX0_onRings) (maxL := 4) (ret := (some .long)) (by decide) rfl ?_
  intro p e s m args below meth c s₁ B hml hv
  obtain ⟨rfl, hsz, hP, hK, hD0, hN⟩ := hv
  have hx := B.exec
  have hb := B.bytes
  have hr := B.returns
  have hts := atoms_spec (ws := (wa yX0_onRings cX0_onRings 4 (some .long))) B.pre
  have hown : s.vm.findClass RX0 = some m.cls := findClass_of_methodNamed B.named
  have hlocks := B.notSynchronized
  subst hsz
  have hD : va_D (pq_B t σ (I, J, ri, rj, rq) s.heap.size) (pq_P t σ (I, J, ri, rj, rq)) := hD0.self
  generalize hAe : pq_B t σ (I, J, ri, rj, rq) s.heap.size = A at hD ⊢
  have hA : ∀ q : Nat, s.heap.size ≤ q → A q := fun q h => by rw [← hAe]; exact Or.inr h
  have hS : va_S A s.heap s.heap [] := va_S.rf
  have hG : GX [] tg σ I ri rj I ri rj rq := ⟨hG0, fun _ _ _ => rfl, fun _ _ _ _ _ => rfl, fun _ _ _ _ _ => rfl⟩
  have hl := lv_entry ([.ref this]) (n := 4) (Nat.le_of_ble_eq_true rfl)
  rw [lg_entry_eq]
  generalize (lg_sl ([.ref this]) ++ List.replicate (4 - (lg_sl ([.ref this])).length) Slot.unset).toArray = ls at hl ⊢
  have hl : lv_has ls 4 [(0, .ref this)] := hl
  refine q_gen (fun Q hQ => ?_)
  have go : ∀ (H : Heap) (locs : List Loc) (ls : Array Slot), va_P D vwCl (pq_P t σ (I, J, ri, rj, rq)) H → va_D A (pq_P t σ (I, J, ri, rj, rq)) → va_S A s.heap H locs → lv_has ls 4 [(0, .ref this)] → W p l e ({ frames := 1, cells := 0, slots := 0, locals := 21 } : Room) s m (List.toArray ([.ref this] : List Value)) below meth c H locs 0 0 Q (F0 m 0 ls []) := by
    intro H locs ls hP hD hS hl
    refine lv_lconst (v := 0) hx hb dX0_onRings_0 (by decide) ?_
    refine lv_lstore_n (lv' := [(1, .long 0), (0, .ref this)]) hx hb dX0_onRings_1 rfl hl (by decide) rfl (fun ls hl => ?_)
    refine lv_iconst (v := 0) hx hb dX0_onRings_2 (by decide) ?_
    refine lv_istore_n (lv' := [(3, .int 0), (1, .long 0), (0, .ref this)]) hx hb dX0_onRings_3 rfl hl (by decide) rfl (fun ls hl => ?_)
    have L_312 : ∀ (n_311 : Nat) (x_286 : Int64) (x_287 : Int32) (H : Heap) (locs : List Loc) (ls : Array Slot), rg x_287 0 40 → (40 - (x_287).toInt).toNat < n_311 → GX [] tg σ I ri rj I ri rj rq → va_P D vwCl (pq_P t σ (I, J, ri, rj, rq)) H → va_D A (pq_P t σ (I, J, ri, rj, rq)) → va_S A s.heap H locs → lv_has ls 4 [(0, .ref this), (1, .long x_286), (3, .int x_287)] → W p l e ({ frames := 1, cells := 0, slots := 0, locals := 21 } : Room) s m (List.toArray ([.ref this] : List Value)) below meth c H locs 0 0 Q (F0 m 4 ls []) := by
      intro n_311
      induction n_311 with
      | zero => intro x_286 x_287 H locs ls h_315 hm_310 hG hP hD hS hl; exact absurd hm_310 (Nat.not_lt_zero _)
      | succ n_311 ih_313 =>
        intro x_286 x_287 H locs ls h_315 hm_310 hG hP hD hS hl
        refine lv_iload_n hx hb dX0_onRings_4 rfl (lv_at hl 2 rfl) ?_
        refine lv_aload_n hx hb dX0_onRings_5 rfl (lv_at hl 0 rfl) ?_
        refine pg_f (v := .int (I 0 this)) (C := RX0) (T := TX0) (N := 16) hx hb hts (tw_i inlX0) hown hK hP hL_this hK_this (by decide) rfl 0 (by decide) (hts _ (tw_c tw_395)) rfl dX0_onRings_6 ?_
        have h_316 : rg (I 0 this) 0 40 := GX.rI hG 0 rfl
        refine lv_icmp_ge (tgt := 32) hx hb dX0_onRings_9 (by decide) (fun c_317 => ?_) (fun c_317 => ?_)
        · refine lv_lload_n hx hb dX0_onRings_32 rfl (lv_at hl 1 rfl) ?_
          subst hQ
          exact W.lret (v := x_286) hx hb hr (fun t1 ht hW => ⟨⟨x_286, (σ, I, J, ri, rj, rq), rfl, rfl, by rw [ht]; exact hP, va_K.moved hW.alike hK, hD⟩, hS.F ht⟩) hS.2.2 dX0_onRings_33
        · have h_318 : rg x_287 0 39 := rg_lt1 (nle c_317) h_315 h_316 (by decide)
          have h_319 : rg (I 0 this) 1 40 := rg_lt2 (nle c_317) h_315 h_316 (by decide)
          refine lv_aload_n hx hb dX0_onRings_12 rfl (lv_at hl 0 rfl) ?_
          refine lv_iload_n hx hb dX0_onRings_13 rfl (lv_at hl 2 rfl) ?_
          obtain ⟨w_320, hR_w_320, hL_w_320, hK_w_320, hN_w_320, hT_w_320⟩ := sh_a hSH 5 (ci := 0) (kd := 13) (len := 40) rfl (by decide) hL_this hK_this
          refine pk_i (va_runV (As := [.int x_287]) (rest := []) ⟨hx, hb, hml, hown, hts⟩ (s_X0_isOnRing l D t σ I J ri rj rq H.size tg hSH hG.1 this x_287 hL_this hK_this (rg_w h_318 (by decide)) w_320 hR_w_320 hL_w_320 hK_w_320 hN_w_320 hT_w_320) (cwV 1 hts (tw_V tw_1108 tw_1109 tw_1110 tw_45 tw_1111) rfl rfl rfl cv_yX0_isOnRing_1 ⟨Nat.le_of_ble_eq_true rfl, Nat.le_of_ble_eq_true rfl⟩) ⟨pq_blind, pq_recv hK hP hL_this hK_this (by decide) rfl, pq_pre hK hN hP hD⟩ rfl rfl hl.1 rfl (lv_room (Nat.le_of_ble_eq_true rfl)) dX0_onRings_14 ⟨Nat.le_of_ble_eq_true rfl, Nat.le_of_ble_eq_true rfl⟩) hD hS hA (fun x_321 σ1 μ1 H locs hw_322 hP hD hS => ?_)
          obtain ⟨hu_323, hr_325⟩ := hw_322
          obtain ⟨hu_323a, hu_323b⟩ := Prod.mk.inj hu_323
          rw [hu_323a, hu_323b] at hP hD
          have h_326 : rg x_321 0 1 := by rcases hr_325 with ⟨q, -⟩ | ⟨q, -⟩ <;> rw [q] <;> exact ⟨by decide, by decide⟩
          have K_337 : ∀  (x_334 : Int64) (H : Heap) (locs : List Loc) (ls : Array Slot), GX [] tg σ I ri rj I ri rj rq → va_P D vwCl (pq_P t σ (I, J, ri, rj, rq)) H → va_D A (pq_P t σ (I, J, ri, rj, rq)) → va_S A s.heap H locs → lv_has ls 4 [(0, .ref this), (1, .long x_334), (3, .int x_287)] → W p l e ({ frames := 1, cells := 0, slots := 0, locals := 21 } : Room) s m (List.toArray ([.ref this] : List Value)) below meth c H locs 0 0 Q (F0 m 26 ls []) := by
            intro x_334 H locs ls hG hP hD hS hl
            obtain ⟨x_338, ex_338⟩ : ∃ y : Int32, y = x_287 + Int32.ofInt 1 := ⟨_, rfl⟩
            have h_339 : rg x_338 1 40 := rg_of_eq ex_338 (rg_add h_318 (rg_k (Int32.ofInt 1) 1 rfl) (by decide))
            refine lv_iinc (v := x_338) (lv' := [(3, .int x_338), (0, .ref this), (1, .long x_334)]) hx hb dX0_onRings_26 hl (k := 2) rfl ex_338.symm (by decide) rfl (fun ls hl => ?_)
            refine lv_goto (tgt := 4) hx hb dX0_onRings_29 (by decide) ?_
            exact ih_313 x_334 x_338 _ _ _ (rg_w h_339 (by decide)) (ms_up 1 hm_310 ex_338 rfl (by decide) h_318 (by decide) (by decide)) hG hP hD hS (lv_sub hl [1, 2, 0] rfl)
          refine lv_if_eq (tgt := 26) hx hb dX0_onRings_17 (by decide) (fun c_340 => ?_) (fun c_340 => ?_)
          · have f_341 := (hr_325.resolve_left (fun q => absurd (q.1.symm.trans c_340) (by decide))).2
            have h_342 : rg x_321 0 0 := rg_and h_326 (rg_of_eq c_340 (rg_k (0 : Int32) 0 rfl)) (by decide)
            exact K_337 x_286 _ _ _ hG hP hD hS (lv_sub hl [0, 1, 2] rfl)
          · have f_343 := (hr_325.resolve_right (fun q => c_340 q.1)).2
            have h_344 : rg x_321 1 1 := rg_ne c_340 h_326 0 rfl (by decide)
            refine lv_lload_n hx hb dX0_onRings_20 rfl (lv_at hl 1 rfl) ?_
            refine lv_lconst (v := 1) hx hb dX0_onRings_21 (by decide) ?_
            refine lv_iload_n hx hb dX0_onRings_22 rfl (lv_at hl 2 rfl) ?_
            refine lv_lshl hx hb dX0_onRings_23 rfl ?_
            refine lv_topl (fun x_345 ex_345 => ?_)
            refine lv_lor hx hb dX0_onRings_24 ?_
            refine lv_topl (fun x_346 ex_346 => ?_)
            refine lv_lstore_n (lv' := [(1, .long x_346), (0, .ref this), (3, .int x_287)]) hx hb dX0_onRings_25 rfl hl (by decide) rfl (fun ls hl => ?_)
            exact K_337 x_346 _ _ _ hG hP hD hS (lv_sub hl [1, 0, 2] rfl)
    exact L_312 _ (0 : Int64) (0 : Int32) _ _ _ (rg_w (rg_k (0 : Int32) 0 rfl) (by decide)) (Nat.lt_succ_self _) hG hP hD hS (lv_sub hl [2, 1, 0] rfl)
  exact go _ _ _ hP hD hS hl

set_option maxHeartbeats 4000000 in
set_option maxRecDepth 100000 in
theorem s_X0_notDead (l : Launch) (D : va_G) (t : pq_T) (σ : pq_S) (I : Nat → Nat → Int32) (J : Nat → Nat → Int64) (ri : Nat → Nat → Int32) (rj : Nat → Nat → Int64) (rq : Nat → Nat → Option Nat) (sz : Nat) (tg : Nat → Nat) (hSH : SH σ tg) (hG0 : GS tg σ I ri rq) (this : Nat) (hL_this : this ∈ σ.1) (hK_this : σ.2.1 this = 0) : MetL l yX0_notDead (wa yX0_notDead cX0_notDead 4 (some .long)) ({ frames := 0, cells := 0, slots := 0, locals := 0 }) [.ref this] D t σ (I, J, ri, rj, rq) sz 0 0 (fun (r : Int64) (u : pq_S × pq_M) => u = (σ, I, J, ri, rj, rq)) := by
  refine Met.ofW (cc := cX0_notDead) (maxL := 4) (ret := (some .long)) (by decide) rfl ?_
  intro p e s m args below meth c s₁ B hml hv
  obtain ⟨rfl, hsz, hP, hK, hD0, hN⟩ := hv
  have hx := B.exec
  have hb := B.bytes
  have hr := B.returns
  have hts := atoms_spec (ws := (wa yX0_notDead cX0_notDead 4 (some .long))) B.pre
  have hown : s.vm.findClass RX0 = some m.cls := findClass_of_methodNamed B.named
  have hlocks := B.notSynchronized
  subst hsz
  have hD : va_D (pq_B t σ (I, J, ri, rj, rq) s.heap.size) (pq_P t σ (I, J, ri, rj, rq)) := hD0.self
  generalize hAe : pq_B t σ (I, J, ri, rj, rq) s.heap.size = A at hD ⊢
  have hA : ∀ q : Nat, s.heap.size ≤ q → A q := fun q h => by rw [← hAe]; exact Or.inr h
  have hS : va_S A s.heap s.heap [] := va_S.rf
  have hG : GX [] tg σ I ri rj I ri rj rq := ⟨hG0, fun _ _ _ => rfl, fun _ _ _ _ _ => rfl, fun _ _ _ _ _ => rfl⟩
  have hl := lv_entry ([.ref this]) (n := 4) (Nat.le_of_ble_eq_true rfl)
  rw [lg_entry_eq]
  generalize (lg_sl ([.ref this]) ++ List.replicate (4 - (lg_sl ([.ref this])).length) Slot.unset).toArray = ls at hl ⊢
  have hl : lv_has ls 4 [(0, .ref this)] := hl
  refine q_gen (fun Q hQ => ?_)
  have go : ∀ (H : Heap) (locs : List Loc) (ls : Array Slot), va_P D vwCl (pq_P t σ (I, J, ri, rj, rq)) H → va_D A (pq_P t σ (I, J, ri, rj, rq)) → va_S A s.heap H locs → lv_has ls 4 [(0, .ref this)] → W p l e ({ frames := 0, cells := 0, slots := 0, locals := 0 } : Room) s m (List.toArray ([.ref this] : List Value)) below meth c H locs 0 0 Q (F0 m 0 ls []) := by
    intro H locs ls hP hD hS hl
    refine lv_lconst (v := 0) hx hb dX0_notDead_0 (by decide) ?_
    refine lv_lstore_n (lv' := [(1, .long 0), (0, .ref this)]) hx hb dX0_notDead_1 rfl hl (by decide) rfl (fun ls hl => ?_)
    refine lv_iconst (v := 0) hx hb dX0_notDead_2 (by decide) ?_
    refine lv_istore_n (lv' := [(3, .int 0), (1, .long 0), (0, .ref this)]) hx hb dX0_notDead_3 rfl hl (by decide) rfl (fun ls hl => ?_)
    have L_234 : ∀ (n_233 : Nat) (x_214 : Int64) (x_215 : Int32) (H : Heap) (locs : List Loc) (ls : Array Slot), rg x_215 0 40 → (40 - (x_215).toInt).toNat < n_233 → GX [] tg σ I ri rj I ri rj rq → va_P D vwCl (pq_P t σ (I, J, ri, rj, rq)) H → va_D A (pq_P t σ (I, J, ri, rj, rq)) → va_S A s.heap H locs → lv_has ls 4 [(0, .ref this), (1, .long x_214), (3, .int x_215)] → W p l e ({ frames := 0, cells := 0, slots := 0, locals := 0 } : Room) s m (List.toArray ([.ref this] : List Value)) below meth c H locs 0 0 Q (F0 m 4 ls []) := by
      intro n_233
      induction n_233 with
      | zero => intro x_214 x_215 H locs ls h_237 hm_232 hG hP hD hS hl; exact absurd hm_232 (Nat.not_lt_zero _)
      | succ n_233 ih_235 =>
        intro x_214 x_215 H locs ls h_237 hm_232 hG hP hD hS hl
        refine lv_iload_n hx hb dX0_notDead_4 rfl (lv_at hl 2 rfl) ?_
        refine lv_aload_n hx hb dX0_notDead_5 rfl (lv_at hl 0 rfl) ?_
        refine pg_f (v := .int (I 0 this)) (C := RX0) (T := TX0) (N := 16) hx hb hts (tw_i inlX0) hown hK hP hL_this hK_this (by decide) rfl 0 (by decide) (hts _ (tw_c tw_395)) rfl dX0_notDead_6 ?_
        have h_238 : rg (I 0 this) 0 40 := GX.rI hG 0 rfl
        refine lv_icmp_ge (tgt := 36) hx hb dX0_notDead_9 (by decide) (fun c_239 => ?_) (fun c_239 => ?_)
        · refine lv_lload_n hx hb dX0_notDead_36 rfl (lv_at hl 1 rfl) ?_
          subst hQ
          exact W.lret (v := x_214) hx hb hr (fun t1 ht hW => ⟨⟨x_214, (σ, I, J, ri, rj, rq), rfl, rfl, by rw [ht]; exact hP, va_K.moved hW.alike hK, hD⟩, hS.F ht⟩) hS.2.2 dX0_notDead_37
        · have h_240 : rg x_215 0 39 := rg_lt1 (nle c_239) h_237 h_238 (by decide)
          have h_241 : rg (I 0 this) 1 40 := rg_lt2 (nle c_239) h_237 h_238 (by decide)
          refine lv_aload_n hx hb dX0_notDead_12 rfl (lv_at hl 0 rfl) ?_
          obtain ⟨w_242, hR_w_242, hL_w_242, hK_w_242, hN_w_242, hT_w_242⟩ := sh_a hSH 5 (ci := 0) (kd := 13) (len := 40) rfl (by decide) hL_this hK_this
          refine pg_f (v := .ref w_242) (C := RX0) (T := TX0) (N := 16) hx hb hts (tw_i inlX0) hown hK hP hL_this hK_this (by decide) rfl 5 (by decide) (hts _ (tw_c tw_114)) (pq_hv rfl hR_w_242) dX0_notDead_13 ?_
          refine lv_iload_n hx hb dX0_notDead_16 rfl (lv_at hl 2 rfl) ?_
          refine pl_i hx hb hK hP hL_w_242 hK_w_242 hN_w_242 (rg_in h_240 (by decide)) dX0_notDead_17 ?_
          refine lv_topi (fun x_243 ex_243 => ?_)
          have h_244 : rg x_243 0 300 := rg_of_eq ex_243 (GX.rR hG hT_w_242 rfl)
          refine lv_sipush (v := 300) hx hb dX0_notDead_18 (by decide) ?_
          have K_253 : ∀  (x_250 : Int64) (H : Heap) (locs : List Loc) (ls : Array Slot), GX [] tg σ I ri rj I ri rj rq → va_P D vwCl (pq_P t σ (I, J, ri, rj, rq)) H → va_D A (pq_P t σ (I, J, ri, rj, rq)) → va_S A s.heap H locs → lv_has ls 4 [(0, .ref this), (1, .long x_250), (3, .int x_215)] → W p l e ({ frames := 0, cells := 0, slots := 0, locals := 0 } : Room) s m (List.toArray ([.ref this] : List Value)) below meth c H locs 0 0 Q (F0 m 30 ls []) := by
            intro x_250 H locs ls hG hP hD hS hl
            obtain ⟨x_254, ex_254⟩ : ∃ y : Int32, y = x_215 + Int32.ofInt 1 := ⟨_, rfl⟩
            have h_255 : rg x_254 1 40 := rg_of_eq ex_254 (rg_add h_240 (rg_k (Int32.ofInt 1) 1 rfl) (by decide))
            refine lv_iinc (v := x_254) (lv' := [(3, .int x_254), (0, .ref this), (1, .long x_250)]) hx hb dX0_notDead_30 hl (k := 2) rfl ex_254.symm (by decide) rfl (fun ls hl => ?_)
            refine lv_goto (tgt := 4) hx hb dX0_notDead_33 (by decide) ?_
            exact ih_235 x_250 x_254 _ _ _ (rg_w h_255 (by decide)) (ms_up 1 hm_232 ex_254 rfl (by decide) h_240 (by decide) (by decide)) hG hP hD hS (lv_sub hl [1, 2, 0] rfl)
          refine lv_icmp_eq (tgt := 30) hx hb dX0_notDead_21 (by decide) (fun c_256 => ?_) (fun c_256 => ?_)
          · have h_257 : rg x_243 300 300 := rg_and h_244 (rg_of_eq c_256 (rg_k (300 : Int32) 300 rfl)) (by decide)
            exact K_253 x_214 _ _ _ hG hP hD hS (lv_sub hl [0, 1, 2] rfl)
          · have h_258 : rg x_243 0 299 := rg_ne c_256 h_244 300 rfl (by decide)
            refine lv_lload_n hx hb dX0_notDead_24 rfl (lv_at hl 1 rfl) ?_
            refine lv_lconst (v := 1) hx hb dX0_notDead_25 (by decide) ?_
            refine lv_iload_n hx hb dX0_notDead_26 rfl (lv_at hl 2 rfl) ?_
            refine lv_lshl hx hb dX0_notDead_27 rfl ?_
            refine lv_topl (fun x_259 ex_259 => ?_)
            refine lv_lor hx hb dX0_notDead_28 ?_
            refine lv_topl (fun x_260 ex_260 => ?_)
            refine lv_lstore_n (lv' := [(1, .long x_260), (0, .ref this), (3, .int x_215)]) hx hb dX0_notDead_29 rfl hl (by decide) rfl (fun ls hl => ?_)
            exact K_253 x_260 _ _ _ hG hP hD hS (lv_sub hl [1, 0, 2] rfl)
    exact L_234 _ (0 : Int64) (0 : Int32) _ _ _ (rg_w (rg_k (0 : Int32) 0 rfl) (by decide)) (Nat.lt_succ_self _) hG hP hD hS (lv_sub hl [2, 1, 0] rfl)
  exact go _ _ _ hP hD hS hl

set_option maxHeartbeats 4000000 in
set_option maxRecDepth 100000 in
theorem s_X0_countAt (l : Launch) (D : va_G) (t : pq_T) (σ : pq_S) (I : Nat → Nat → Int32) (J : Nat → Nat → Int64) (ri : Nat → Nat → Int32) (rj : Nat → Nat → Int64) (rq : Nat → Nat → Option Nat) (sz : Nat) (tg : Nat → Nat) (hSH : SH σ tg) (hG0 : GS tg σ I ri rq) (this : Nat) (a0 : Int32) (hL_this : this ∈ σ.1) (hK_this : σ.2.1 this = 0) : MetI l yX0_countAt (wa yX0_countAt cX0_countAt 4 (some .int)) ({ frames := 0, cells := 0, slots := 0, locals := 0 }) [.ref this, .int a0] D t σ (I, J, ri, rj, rq) sz 0 0 (fun (r : Int32) (u : pq_S × pq_M) => u = (σ, I, J, ri, rj, rq)) := by
  refine Met.ofW (cc := cX0_countAt) (maxL := 4) (ret := (some .int)) (by decide) rfl ?_
  intro p e s m args below meth c s₁ B hml hv
  obtain ⟨rfl, hsz, hP, hK, hD0, hN⟩ := hv
  have hx := B.exec
  have hb := B.bytes
  have hr := B.returns
  have hts := atoms_spec (ws := (wa yX0_countAt cX0_countAt 4 (some .int))) B.pre
  have hown : s.vm.findClass RX0 = some m.cls := findClass_of_methodNamed B.named
  have hlocks := B.notSynchronized
  subst hsz
  have hD : va_D (pq_B t σ (I, J, ri, rj, rq) s.heap.size) (pq_P t σ (I, J, ri, rj, rq)) := hD0.self
  generalize hAe : pq_B t σ (I, J, ri, rj, rq) s.heap.size = A at hD ⊢
  have hA : ∀ q : Nat, s.heap.size ≤ q → A q := fun q h => by rw [← hAe]; exact Or.inr h
  have hS : va_S A s.heap s.heap [] := va_S.rf
  have hG : GX [] tg σ I ri rj I ri rj rq := ⟨hG0, fun _ _ _ => rfl, fun _ _ _ _ _ => rfl, fun _ _ _ _ _ => rfl⟩
  have hl := lv_entry ([.ref this, .int a0]) (n := 4) (Nat.le_of_ble_eq_true rfl)
  rw [lg_entry_eq]
  generalize (lg_sl ([.ref this, .int a0]) ++ List.replicate (4 - (lg_sl ([.ref this, .int a0])).length) Slot.unset).toArray = ls at hl ⊢
  have hl : lv_has ls 4 [(0, .ref this), (1, .int a0)] := hl
  refine q_gen (fun Q hQ => ?_)
  have go : ∀ (H : Heap) (locs : List Loc) (ls : Array Slot), va_P D vwCl (pq_P t σ (I, J, ri, rj, rq)) H → va_D A (pq_P t σ (I, J, ri, rj, rq)) → va_S A s.heap H locs → lv_has ls 4 [(0, .ref this), (1, .int a0)] → W p l e ({ frames := 0, cells := 0, slots := 0, locals := 0 } : Room) s m (List.toArray ([.ref this, .int a0] : List Value)) below meth c H locs 0 0 Q (F0 m 0 ls []) := by
    intro H locs ls hP hD hS hl
    refine lv_iconst (v := 0) hx hb dX0_countAt_0 (by decide) ?_
    refine lv_istore_n (lv' := [(2, .int 0), (0, .ref this), (1, .int a0)]) hx hb dX0_countAt_1 rfl hl (by decide) rfl (fun ls hl => ?_)
    refine lv_iconst (v := 0) hx hb dX0_countAt_2 (by decide) ?_
    refine lv_istore_n (lv' := [(3, .int 0), (2, .int 0), (0, .ref this), (1, .int a0)]) hx hb dX0_countAt_3 rfl hl (by decide) rfl (fun ls hl => ?_)
    have L_463 : ∀ (n_462 : Nat) (x_445 : Int32) (x_446 : Int32) (H : Heap) (locs : List Loc) (ls : Array Slot), rg x_446 0 40 → (40 - (x_446).toInt).toNat < n_462 → GX [] tg σ I ri rj I ri rj rq → va_P D vwCl (pq_P t σ (I, J, ri, rj, rq)) H → va_D A (pq_P t σ (I, J, ri, rj, rq)) → va_S A s.heap H locs → lv_has ls 4 [(0, .ref this), (1, .int a0), (2, .int x_445), (3, .int x_446)] → W p l e ({ frames := 0, cells := 0, slots := 0, locals := 0 } : Room) s m (List.toArray ([.ref this, .int a0] : List Value)) below meth c H locs 0 0 Q (F0 m 4 ls []) := by
      intro n_462
      induction n_462 with
      | zero => intro x_445 x_446 H locs ls h_466 hm_461 hG hP hD hS hl; exact absurd hm_461 (Nat.not_lt_zero _)
      | succ n_462 ih_464 =>
        intro x_445 x_446 H locs ls h_466 hm_461 hG hP hD hS hl
        refine lv_iload_n hx hb dX0_countAt_4 rfl (lv_at hl 3 rfl) ?_
        refine lv_aload_n hx hb dX0_countAt_5 rfl (lv_at hl 0 rfl) ?_
        refine pg_f (v := .int (I 0 this)) (C := RX0) (T := TX0) (N := 16) hx hb hts (tw_i inlX0) hown hK hP hL_this hK_this (by decide) rfl 0 (by decide) (hts _ (tw_c tw_395)) rfl dX0_countAt_6 ?_
        have h_467 : rg (I 0 this) 0 40 := GX.rI hG 0 rfl
        refine lv_icmp_ge (tgt := 31) hx hb dX0_countAt_9 (by decide) (fun c_468 => ?_) (fun c_468 => ?_)
        · refine lv_iload_n hx hb dX0_countAt_31 rfl (lv_at hl 2 rfl) ?_
          subst hQ
          exact W.iret (v := x_445) hx hb hr (fun t1 ht hW => ⟨⟨x_445, (σ, I, J, ri, rj, rq), rfl, rfl, by rw [ht]; exact hP, va_K.moved hW.alike hK, hD⟩, hS.F ht⟩) hS.2.2 dX0_countAt_32
        · have h_469 : rg x_446 0 39 := rg_lt1 (nle c_468) h_466 h_467 (by decide)
          have h_470 : rg (I 0 this) 1 40 := rg_lt2 (nle c_468) h_466 h_467 (by decide)
          refine lv_aload_n hx hb dX0_countAt_12 rfl (lv_at hl 0 rfl) ?_
          obtain ⟨w_471, hR_w_471, hL_w_471, hK_w_471, hN_w_471, hT_w_471⟩ := sh_a hSH 5 (ci := 0) (kd := 13) (len := 40) rfl (by decide) hL_this hK_this
          refine pg_f (v := .ref w_471) (C := RX0) (T := TX0) (N := 16) hx hb hts (tw_i inlX0) hown hK hP hL_this hK_this (by decide) rfl 5 (by decide) (hts _ (tw_c tw_114)) (pq_hv rfl hR_w_471) dX0_countAt_13 ?_
          refine lv_iload_n hx hb dX0_countAt_16 rfl (lv_at hl 3 rfl) ?_
          refine pl_i hx hb hK hP hL_w_471 hK_w_471 hN_w_471 (rg_in h_469 (by decide)) dX0_countAt_17 ?_
          refine lv_topi (fun x_472 ex_472 => ?_)
          have h_473 : rg x_472 0 300 := rg_of_eq ex_472 (GX.rR hG hT_w_471 rfl)
          refine lv_iload_n hx hb dX0_countAt_18 rfl (lv_at hl 1 rfl) ?_
          have K_480 : ∀  (x_477 : Int32) (H : Heap) (locs : List Loc) (ls : Array Slot), GX [] tg σ I ri rj I ri rj rq → va_P D vwCl (pq_P t σ (I, J, ri, rj, rq)) H → va_D A (pq_P t σ (I, J, ri, rj, rq)) → va_S A s.heap H locs → lv_has ls 4 [(0, .ref this), (1, .int a0), (2, .int x_477), (3, .int x_446)] → W p l e ({ frames := 0, cells := 0, slots := 0, locals := 0 } : Room) s m (List.toArray ([.ref this, .int a0] : List Value)) below meth c H locs 0 0 Q (F0 m 25 ls []) := by
            intro x_477 H locs ls hG hP hD hS hl
            obtain ⟨x_481, ex_481⟩ : ∃ y : Int32, y = x_446 + Int32.ofInt 1 := ⟨_, rfl⟩
            have h_482 : rg x_481 1 40 := rg_of_eq ex_481 (rg_add h_469 (rg_k (Int32.ofInt 1) 1 rfl) (by decide))
            refine lv_iinc (v := x_481) (lv' := [(3, .int x_481), (0, .ref this), (1, .int a0), (2, .int x_477)]) hx hb dX0_countAt_25 hl (k := 3) rfl ex_481.symm (by decide) rfl (fun ls hl => ?_)
            refine lv_goto (tgt := 4) hx hb dX0_countAt_28 (by decide) ?_
            exact ih_464 x_477 x_481 _ _ _ (rg_w h_482 (by decide)) (ms_up 1 hm_461 ex_481 rfl (by decide) h_469 (by decide) (by decide)) hG hP hD hS (lv_sub hl [1, 2, 3, 0] rfl)
          refine lv_icmp_ne (tgt := 25) hx hb dX0_countAt_19 (by decide) (fun c_483 => ?_) (fun c_483 => ?_)
          · exact K_480 x_445 _ _ _ hG hP hD hS (lv_sub hl [0, 1, 2, 3] rfl)
          · have h_484 : rg a0 0 300 := rg_and (rg_full _) (rg_of_eq c_483.symm h_473) (by decide)
            obtain ⟨x_485, ex_485⟩ : ∃ y : Int32, y = x_445 + Int32.ofInt 1 := ⟨_, rfl⟩
            refine lv_iinc (v := x_485) (lv' := [(2, .int x_485), (0, .ref this), (1, .int a0), (3, .int x_446)]) hx hb dX0_countAt_22 hl (k := 2) rfl ex_485.symm (by decide) rfl (fun ls hl => ?_)
            exact K_480 x_485 _ _ _ hG hP hD hS (lv_sub hl [1, 2, 0, 3] rfl)
    exact L_463 _ (0 : Int32) (0 : Int32) _ _ _ (rg_w (rg_k (0 : Int32) 0 rfl) (by decide)) (Nat.lt_succ_self _) hG hP hD hS (lv_sub hl [2, 3, 1, 0] rfl)
  exact go _ _ _ hP hD hS hl

set_option maxHeartbeats 4000000 in
set_option maxRecDepth 100000 in
theorem s_X0_freeBeds (l : Launch) (D : va_G) (t : pq_T) (σ : pq_S) (I : Nat → Nat → Int32) (J : Nat → Nat → Int64) (ri : Nat → Nat → Int32) (rj : Nat → Nat → Int64) (rq : Nat → Nat → Option Nat) (sz : Nat) (tg : Nat → Nat) (hSH : SH σ tg) (hG0 : GS tg σ I ri rq) (this : Nat) (a0 : Int32) (hL_this : this ∈ σ.1) (hK_this : σ.2.1 this = 0) (h_a0 : rg a0 0 4) : MetI l yX0_freeBeds (wa yX0_freeBeds cX0_freeBeds 2 (some .int)) ({ frames := 1, cells := 0, slots := 0, locals := 23 }) [.ref this, .int a0] D t σ (I, J, ri, rj, rq) sz 0 0 (fun (r : Int32) (u : pq_S × pq_M) => u = (σ, I, J, ri, rj, rq)) := by
  refine Met.ofW (cc := cX0_freeBeds) (maxL := 2) (ret := (some .int)) (by decide) rfl ?_
  intro p e s m args below meth c s₁ B hml hv
  obtain ⟨rfl, hsz, hP, hK, hD0, hN⟩ := hv
  have hx := B.exec
  have hb := B.bytes
  have hr := B.returns
  have hts := atoms_spec (ws := (wa yX0_freeBeds cX0_freeBeds 2 (some .int))) B.pre
  have hown : s.vm.findClass RX0 = some m.cls := findClass_of_methodNamed B.named
  have hlocks := B.notSynchronized
  subst hsz
  have hD : va_D (pq_B t σ (I, J, ri, rj, rq) s.heap.size) (pq_P t σ (I, J, ri, rj, rq)) := hD0.self
  generalize hAe : pq_B t σ (I, J, ri, rj, rq) s.heap.size = A at hD ⊢
  have hA : ∀ q : Nat, s.heap.size ≤ q → A q := fun q h => by rw [← hAe]; exact Or.inr h
  have hS : va_S A s.heap s.heap [] := va_S.rf
  have hG : GX [] tg σ I ri rj I ri rj rq := ⟨hG0, fun _ _ _ => rfl, fun _ _ _ _ _ => rfl, fun _ _ _ _ _ => rfl⟩
  have hl := lv_entry ([.ref this, .int a0]) (n := 2) (Nat.le_of_ble_eq_true rfl)
  rw [lg_entry_eq]
  generalize (lg_sl ([.ref this, .int a0]) ++ List.replicate (2 - (lg_sl ([.ref this, .int a0])).length) Slot.unset).toArray = ls at hl ⊢
  have hl : lv_has ls 2 [(0, .ref this), (1, .int a0)] := hl
  refine q_gen (fun Q hQ => ?_)
  have go : ∀ (H : Heap) (locs : List Loc) (ls : Array Slot), va_P D vwCl (pq_P t σ (I, J, ri, rj, rq)) H → va_D A (pq_P t σ (I, J, ri, rj, rq)) → va_S A s.heap H locs → lv_has ls 2 [(0, .ref this), (1, .int a0)] → W p l e ({ frames := 1, cells := 0, slots := 0, locals := 23 } : Room) s m (List.toArray ([.ref this, .int a0] : List Value)) below meth c H locs 0 0 Q (F0 m 0 ls []) := by
    intro H locs ls hP hD hS hl
    refine lv_aload_n hx hb dX0_freeBeds_0 rfl (lv_at hl 0 rfl) ?_
    obtain ⟨w_1, hR_w_1, hL_w_1, hK_w_1, hN_w_1, hT_w_1⟩ := sh_a hSH 11 (ci := 0) (kd := 13) (len := 5) rfl (by decide) hL_this hK_this
    refine pg_f (v := .ref w_1) (C := RX0) (T := TX0) (N := 16) hx hb hts (tw_i inlX0) hown hK hP hL_this hK_this (by decide) rfl 11 (by decide) (hts _ (tw_c tw_119)) (pq_hv rfl hR_w_1) dX0_freeBeds_1 ?_
    refine lv_iload_n hx hb dX0_freeBeds_4 rfl (lv_at hl 1 rfl) ?_
    refine pl_i hx hb hK hP hL_w_1 hK_w_1 hN_w_1 (rg_in h_a0 (by decide)) dX0_freeBeds_5 ?_
    refine lv_topi (fun x_2 ex_2 => ?_)
    refine lv_aload_n hx hb dX0_freeBeds_6 rfl (lv_at hl 0 rfl) ?_
    refine lv_bipush (v := 100) hx hb dX0_freeBeds_7 (by decide) ?_
    refine lv_iload_n hx hb dX0_freeBeds_9 rfl (lv_at hl 1 rfl) ?_
    refine lv_iadd hx hb dX0_freeBeds_10 ?_
    refine lv_topi (fun x_3 ex_3 => ?_)
    have h_4 : rg x_3 100 104 := rg_of_eq ex_3 (rg_add (rg_k (100 : Int32) 100 rfl) h_a0 (by decide))
    refine pk_i (va_runV (As := [.int x_3]) (rest := [.int x_2]) ⟨hx, hb, hml, hown, hts⟩ (s_X0_countAt l D t σ I J ri rj rq H.size tg hSH hG.1 this x_3 hL_this hK_this) (cwV 1 hts (tw_V tw_417 tw_418 tw_419 tw_45 tw_420) rfl rfl rfl cv_yX0_countAt_1 ⟨Nat.le_of_ble_eq_true rfl, Nat.le_of_ble_eq_true rfl⟩) ⟨pq_blind, pq_recv hK hP hL_this hK_this (by decide) rfl, pq_pre hK hN hP hD⟩ rfl rfl hl.1 rfl (lv_room (Nat.le_of_ble_eq_true rfl)) dX0_freeBeds_11 ⟨Nat.le_of_ble_eq_true rfl, Nat.le_of_ble_eq_true rfl⟩) hD hS hA (fun x_5 σ1 μ1 H locs hw_6 hP hD hS => ?_)
    have hu_7 := hw_6
    obtain ⟨hu_7a, hu_7b⟩ := Prod.mk.inj hu_7
    rw [hu_7a, hu_7b] at hP hD
    refine lv_isub hx hb dX0_freeBeds_14 ?_
    refine lv_topi (fun x_10 ex_10 => ?_)
    subst hQ
    exact W.iret (v := x_10) hx hb hr (fun t1 ht hW => ⟨⟨x_10, (σ, I, J, ri, rj, rq), rfl, rfl, by rw [ht]; exact hP, va_K.moved hW.alike hK, hD⟩, hS.F ht⟩) hS.2.2 dX0_freeBeds_15
  exact go _ _ _ hP hD hS hl

set_option maxHeartbeats 4000000 in
set_option maxRecDepth 100000 in
theorem s_X0_sendings (l : Launch) (D : va_G) (t : pq_T) (σ : pq_S) (I : Nat → Nat → Int32) (J : Nat → Nat → Int64) (ri : Nat → Nat → Int32) (rj : Nat → Nat → Int64) (rq : Nat → Nat → Option Nat) (sz : Nat) (tg : Nat → Nat) (hSH : SH σ tg) (hG0 : GS tg σ I ri rq) (this : Nat) (hL_this : this ∈ σ.1) (hK_this : σ.2.1 this = 0) : MetI l yX0_sendings (wa yX0_sendings cX0_sendings 3 (some .int)) ({ frames := 0, cells := 0, slots := 0, locals := 0 }) [.ref this] D t σ (I, J, ri, rj, rq) sz 0 0 (fun (r : Int32) (u : pq_S × pq_M) => u = (σ, I, J, ri, rj, rq)) := by
  refine Met.ofW (cc := cX0_sendings) (maxL := 3) (ret := (some .int)) (by decide) rfl ?_
  intro p e s m args below meth c s₁ B hml hv
  obtain ⟨rfl, hsz, hP, hK, hD0, hN⟩ := hv
  have hx := B.exec
  have hb := B.bytes
  have hr := B.returns
  have hts := atoms_spec (ws := (wa yX0_sendings cX0_sendings 3 (some .int))) B.pre
  have hown : s.vm.findClass RX0 = some m.cls := findClass_of_methodNamed B.named
  have hlocks := B.notSynchronized
  subst hsz
  have hD : va_D (pq_B t σ (I, J, ri, rj, rq) s.heap.size) (pq_P t σ (I, J, ri, rj, rq)) := hD0.self
  generalize hAe : pq_B t σ (I, J, ri, rj, rq) s.heap.size = A at hD ⊢
  have hA : ∀ q : Nat, s.heap.size ≤ q → A q := fun q h => by rw [← hAe]; exact Or.inr h
  have hS : va_S A s.heap s.heap [] := va_S.rf
  have hG : GX [] tg σ I ri rj I ri rj rq := ⟨hG0, fun _ _ _ => rfl, fun _ _ _ _ _ => rfl, fun _ _ _ _ _ => rfl⟩
  have hl := lv_entry ([.ref this]) (n := 3) (Nat.le_of_ble_eq_true rfl)
  rw [lg_entry_eq]
  generalize (lg_sl ([.ref this]) ++ List.replicate (3 - (lg_sl ([.ref this])).length) Slot.unset).toArray = ls at hl ⊢
  have hl : lv_has ls 3 [(0, .ref this)] := hl
  refine q_gen (fun Q hQ => ?_)
  have go : ∀ (H : Heap) (locs : List Loc) (ls : Array Slot), va_P D vwCl (pq_P t σ (I, J, ri, rj, rq)) H → va_D A (pq_P t σ (I, J, ri, rj, rq)) → va_S A s.heap H locs → lv_has ls 3 [(0, .ref this)] → W p l e ({ frames := 0, cells := 0, slots := 0, locals := 0 } : Room) s m (List.toArray ([.ref this] : List Value)) below meth c H locs 0 0 Q (F0 m 0 ls []) := by
    intro H locs ls hP hD hS hl
    refine lv_iconst (v := 0) hx hb dX0_sendings_0 (by decide) ?_
    refine lv_istore_n (lv' := [(1, .int 0), (0, .ref this)]) hx hb dX0_sendings_1 rfl hl (by decide) rfl (fun ls hl => ?_)
    refine lv_iconst (v := 0) hx hb dX0_sendings_2 (by decide) ?_
    refine lv_istore_n (lv' := [(2, .int 0), (1, .int 0), (0, .ref this)]) hx hb dX0_sendings_3 rfl hl (by decide) rfl (fun ls hl => ?_)
    have L_237 : ∀ (n_236 : Nat) (x_217 : Int32) (x_218 : Int32) (H : Heap) (locs : List Loc) (ls : Array Slot), rg x_218 0 40 → (40 - (x_218).toInt).toNat < n_236 → GX [] tg σ I ri rj I ri rj rq → va_P D vwCl (pq_P t σ (I, J, ri, rj, rq)) H → va_D A (pq_P t σ (I, J, ri, rj, rq)) → va_S A s.heap H locs → lv_has ls 3 [(0, .ref this), (1, .int x_217), (2, .int x_218)] → W p l e ({ frames := 0, cells := 0, slots := 0, locals := 0 } : Room) s m (List.toArray ([.ref this] : List Value)) below meth c H locs 0 0 Q (F0 m 4 ls []) := by
      intro n_236
      induction n_236 with
      | zero => intro x_217 x_218 H locs ls h_240 hm_235 hG hP hD hS hl; exact absurd hm_235 (Nat.not_lt_zero _)
      | succ n_236 ih_238 =>
        intro x_217 x_218 H locs ls h_240 hm_235 hG hP hD hS hl
        refine lv_iload_n hx hb dX0_sendings_4 rfl (lv_at hl 2 rfl) ?_
        refine lv_aload_n hx hb dX0_sendings_5 rfl (lv_at hl 0 rfl) ?_
        refine pg_f (v := .int (I 0 this)) (C := RX0) (T := TX0) (N := 16) hx hb hts (tw_i inlX0) hown hK hP hL_this hK_this (by decide) rfl 0 (by decide) (hts _ (tw_c tw_395)) rfl dX0_sendings_6 ?_
        have h_241 : rg (I 0 this) 0 40 := GX.rI hG 0 rfl
        refine lv_icmp_ge (tgt := 39) hx hb dX0_sendings_9 (by decide) (fun c_242 => ?_) (fun c_242 => ?_)
        · refine lv_iload_n hx hb dX0_sendings_39 rfl (lv_at hl 1 rfl) ?_
          subst hQ
          exact W.iret (v := x_217) hx hb hr (fun t1 ht hW => ⟨⟨x_217, (σ, I, J, ri, rj, rq), rfl, rfl, by rw [ht]; exact hP, va_K.moved hW.alike hK, hD⟩, hS.F ht⟩) hS.2.2 dX0_sendings_40
        · have h_243 : rg x_218 0 39 := rg_lt1 (nle c_242) h_240 h_241 (by decide)
          have h_244 : rg (I 0 this) 1 40 := rg_lt2 (nle c_242) h_240 h_241 (by decide)
          refine lv_aload_n hx hb dX0_sendings_12 rfl (lv_at hl 0 rfl) ?_
          obtain ⟨w_245, hR_w_245, hL_w_245, hK_w_245, hN_w_245, hT_w_245⟩ := sh_a hSH 5 (ci := 0) (kd := 13) (len := 40) rfl (by decide) hL_this hK_this
          refine pg_f (v := .ref w_245) (C := RX0) (T := TX0) (N := 16) hx hb hts (tw_i inlX0) hown hK hP hL_this hK_this (by decide) rfl 5 (by decide) (hts _ (tw_c tw_114)) (pq_hv rfl hR_w_245) dX0_sendings_13 ?_
          refine lv_iload_n hx hb dX0_sendings_16 rfl (lv_at hl 2 rfl) ?_
          refine pl_i hx hb hK hP hL_w_245 hK_w_245 hN_w_245 (rg_in h_243 (by decide)) dX0_sendings_17 ?_
          refine lv_topi (fun x_246 ex_246 => ?_)
          have h_247 : rg x_246 0 300 := rg_of_eq ex_246 (GX.rR hG hT_w_245 rfl)
          refine lv_sipush (v := 200) hx hb dX0_sendings_18 (by decide) ?_
          have K_256 : ∀  (x_253 : Int32) (H : Heap) (locs : List Loc) (ls : Array Slot), GX [] tg σ I ri rj I ri rj rq → va_P D vwCl (pq_P t σ (I, J, ri, rj, rq)) H → va_D A (pq_P t σ (I, J, ri, rj, rq)) → va_S A s.heap H locs → lv_has ls 3 [(0, .ref this), (1, .int x_253), (2, .int x_218)] → W p l e ({ frames := 0, cells := 0, slots := 0, locals := 0 } : Room) s m (List.toArray ([.ref this] : List Value)) below meth c H locs 0 0 Q (F0 m 33 ls []) := by
            intro x_253 H locs ls hG hP hD hS hl
            obtain ⟨x_257, ex_257⟩ : ∃ y : Int32, y = x_218 + Int32.ofInt 1 := ⟨_, rfl⟩
            have h_258 : rg x_257 1 40 := rg_of_eq ex_257 (rg_add h_243 (rg_k (Int32.ofInt 1) 1 rfl) (by decide))
            refine lv_iinc (v := x_257) (lv' := [(2, .int x_257), (0, .ref this), (1, .int x_253)]) hx hb dX0_sendings_33 hl (k := 2) rfl ex_257.symm (by decide) rfl (fun ls hl => ?_)
            refine lv_goto (tgt := 4) hx hb dX0_sendings_36 (by decide) ?_
            exact ih_238 x_253 x_257 _ _ _ (rg_w h_258 (by decide)) (ms_up 1 hm_235 ex_257 rfl (by decide) h_243 (by decide) (by decide)) hG hP hD hS (lv_sub hl [1, 2, 0] rfl)
          refine lv_icmp_ne (tgt := 33) hx hb dX0_sendings_21 (by decide) (fun c_259 => ?_) (fun c_259 => ?_)
          · exact K_256 x_217 _ _ _ hG hP hD hS (lv_sub hl [0, 1, 2] rfl)
          · have h_260 : rg x_246 200 200 := rg_and h_247 (rg_of_eq c_259 (rg_k (200 : Int32) 200 rfl)) (by decide)
            refine lv_iload_n hx hb dX0_sendings_24 rfl (lv_at hl 1 rfl) ?_
            refine lv_aload_n hx hb dX0_sendings_25 rfl (lv_at hl 0 rfl) ?_
            obtain ⟨w_261, hR_w_261, hL_w_261, hK_w_261, hN_w_261, hT_w_261⟩ := sh_a hSH 4 (ci := 0) (kd := 13) (len := 40) rfl (by decide) hL_this hK_this
            refine pg_f (v := .ref w_261) (C := RX0) (T := TX0) (N := 16) hx hb hts (tw_i inlX0) hown hK hP hL_this hK_this (by decide) rfl 4 (by decide) (hts _ (tw_c tw_113)) (pq_hv rfl hR_w_261) dX0_sendings_26 ?_
            refine lv_iload_n hx hb dX0_sendings_29 rfl (lv_at hl 2 rfl) ?_
            refine pl_i hx hb hK hP hL_w_261 hK_w_261 hN_w_261 (rg_in h_243 (by decide)) dX0_sendings_30 ?_
            refine lv_topi (fun x_262 ex_262 => ?_)
            refine lv_iadd hx hb dX0_sendings_31 ?_
            refine lv_topi (fun x_263 ex_263 => ?_)
            refine lv_istore_n (lv' := [(1, .int x_263), (0, .ref this), (2, .int x_218)]) hx hb dX0_sendings_32 rfl hl (by decide) rfl (fun ls hl => ?_)
            exact K_256 x_263 _ _ _ hG hP hD hS (lv_sub hl [1, 0, 2] rfl)
    exact L_237 _ (0 : Int32) (0 : Int32) _ _ _ (rg_w (rg_k (0 : Int32) 0 rfl) (by decide)) (Nat.lt_succ_self _) hG hP hD hS (lv_sub hl [2, 1, 0] rfl)
  exact go _ _ _ hP hD hS hl

set_option maxHeartbeats 4000000 in
set_option maxRecDepth 100000 in
theorem s_X11_hasBit (l : Launch) (D : va_G) (t : pq_T) (σ : pq_S) (I : Nat → Nat → Int32) (J : Nat → Nat → Int64) (ri : Nat → Nat → Int32) (rj : Nat → Nat → Int64) (rq : Nat → Nat → Option Nat) (sz : Nat) (tg : Nat → Nat) (hSH : SH σ tg) (hG0 : GS tg σ I ri rq) (a0 : Int64) (a1 : Int32) : MetI l yX11_hasBit (wa yX11_hasBit cX11_hasBit 3 (some .boolean)) ({ frames := 0, cells := 0, slots := 0, locals := 0 }) [.long a0, .int a1] D t σ (I, J, ri, rj, rq) sz 0 0 (fun (r : Int32) (u : pq_S × pq_M) => u = (σ, I, J, ri, rj, rq) ∧ ((r = 1 ∧ True) ∨ (r = 0 ∧ True))) := by
  refine Met.ofW (cc := cX11_hasBit) (maxL := 3) (ret := (some .boolean)) (by decide) rfl ?_
  intro p e s m args below meth c s₁ B hml hv
  obtain ⟨rfl, hsz, hP, hK, hD0, hN⟩ := hv
  have hx := B.exec
  have hb := B.bytes
  have hr := B.returns
  have hts := atoms_spec (ws := (wa yX11_hasBit cX11_hasBit 3 (some .boolean))) B.pre
  have hown : s.vm.findClass RX11 = some m.cls := findClass_of_methodNamed B.named
  have hlocks := B.notSynchronized
  subst hsz
  have hD : va_D (pq_B t σ (I, J, ri, rj, rq) s.heap.size) (pq_P t σ (I, J, ri, rj, rq)) := hD0.self
  generalize hAe : pq_B t σ (I, J, ri, rj, rq) s.heap.size = A at hD ⊢
  have hA : ∀ q : Nat, s.heap.size ≤ q → A q := fun q h => by rw [← hAe]; exact Or.inr h
  have hS : va_S A s.heap s.heap [] := va_S.rf
  have hG : GX [] tg σ I ri rj I ri rj rq := ⟨hG0, fun _ _ _ => rfl, fun _ _ _ _ _ => rfl, fun _ _ _ _ _ => rfl⟩
  have hl := lv_entry ([.long a0, .int a1]) (n := 3) (Nat.le_of_ble_eq_true rfl)
  rw [lg_entry_eq]
  generalize (lg_sl ([.long a0, .int a1]) ++ List.replicate (3 - (lg_sl ([.long a0, .int a1])).length) Slot.unset).toArray = ls at hl ⊢
  have hl : lv_has ls 3 [(0, .long a0), (2, .int a1)] := hl
  refine q_gen (fun Q hQ => ?_)
  have go : ∀ (H : Heap) (locs : List Loc) (ls : Array Slot), va_P D vwCl (pq_P t σ (I, J, ri, rj, rq)) H → va_D A (pq_P t σ (I, J, ri, rj, rq)) → va_S A s.heap H locs → lv_has ls 3 [(0, .long a0), (2, .int a1)] → W p l e ({ frames := 0, cells := 0, slots := 0, locals := 0 } : Room) s m (List.toArray ([.long a0, .int a1] : List Value)) below meth c H locs 0 0 Q (F0 m 0 ls []) := by
    intro H locs ls hP hD hS hl
    refine lv_lload_n hx hb dX11_hasBit_0 rfl (lv_at hl 0 rfl) ?_
    refine lv_iload_n hx hb dX11_hasBit_1 rfl (lv_at hl 1 rfl) ?_
    refine lv_lushr hx hb dX11_hasBit_2 rfl ?_
    refine lv_topl (fun x_1 ex_1 => ?_)
    refine lv_lconst (v := 1) hx hb dX11_hasBit_3 (by decide) ?_
    refine lv_land hx hb dX11_hasBit_4 ?_
    refine lv_topl (fun x_2 ex_2 => ?_)
    refine lv_lconst (v := 0) hx hb dX11_hasBit_5 (by decide) ?_
    refine W.lcmp hx hb dX11_hasBit_6 ?_
    refine lv_topi (fun x_3 ex_3 => ?_)
    refine lv_if_eq (tgt := 14) hx hb dX11_hasBit_7 (by decide) (fun c_4 => ?_) (fun c_4 => ?_)
    · have h_5 : rg x_3 0 0 := rg_and (rg_full _) (rg_of_eq c_4 (rg_k (0 : Int32) 0 rfl)) (by decide)
      refine lv_iconst (v := 0) hx hb dX11_hasBit_14 (by decide) ?_
      subst hQ
      exact W.zret (v := 0) hx hb hr (by decide) (fun t1 ht hW => ⟨⟨0, (σ, I, J, ri, rj, rq), rfl, ⟨rfl, (Or.inr ⟨rfl, trivial⟩)⟩, by rw [ht]; exact hP, va_K.moved hW.alike hK, hD⟩, hS.F ht⟩) hS.2.2 dX11_hasBit_15
    · refine lv_iconst (v := 1) hx hb dX11_hasBit_10 (by decide) ?_
      refine lv_goto (tgt := 15) hx hb dX11_hasBit_11 (by decide) ?_
      subst hQ
      exact W.zret (v := 1) hx hb hr (by decide) (fun t1 ht hW => ⟨⟨1, (σ, I, J, ri, rj, rq), rfl, ⟨rfl, (Or.inl ⟨rfl, trivial⟩)⟩, by rw [ht]; exact hP, va_K.moved hW.alike hK, hD⟩, hS.F ht⟩) hS.2.2 dX11_hasBit_15
  exact go _ _ _ hP hD hS hl

set_option maxHeartbeats 4000000 in
set_option maxRecDepth 100000 in
theorem s_X0_countVotes (l : Launch) (D : va_G) (t : pq_T) (σ : pq_S) (I : Nat → Nat → Int32) (J : Nat → Nat → Int64) (ri : Nat → Nat → Int32) (rj : Nat → Nat → Int64) (rq : Nat → Nat → Option Nat) (sz : Nat) (tg : Nat → Nat) (hSH : SH σ tg) (hG0 : GS tg σ I ri rq) (this : Nat) (a0 : Int64) (a1 : Int32) (hL_this : this ∈ σ.1) (hK_this : σ.2.1 this = 0) : MetI l yX0_countVotes (wa yX0_countVotes cX0_countVotes 6 (some .int)) ({ frames := 1, cells := 0, slots := 0, locals := 22 }) [.ref this, .long a0, .int a1] D t σ (I, J, ri, rj, rq) sz 0 0 (fun (r : Int32) (u : pq_S × pq_M) => u = (σ, I, J, ri, rj, rq)) := by
  refine Met.ofW (cc := cX0_countVotes) (maxL := 6) (ret := (some .int)) (by decide) rfl ?_
  intro p e s m args below meth c s₁ B hml hv
  obtain ⟨rfl, hsz, hP, hK, hD0, hN⟩ := hv
  have hx := B.exec
  have hb := B.bytes
  have hr := B.returns
  have hts := atoms_spec (ws := (wa yX0_countVotes cX0_countVotes 6 (some .int))) B.pre
  have hown : s.vm.findClass RX0 = some m.cls := findClass_of_methodNamed B.named
  have hlocks := B.notSynchronized
  subst hsz
  have hD : va_D (pq_B t σ (I, J, ri, rj, rq) s.heap.size) (pq_P t σ (I, J, ri, rj, rq)) := hD0.self
  generalize hAe : pq_B t σ (I, J, ri, rj, rq) s.heap.size = A at hD ⊢
  have hA : ∀ q : Nat, s.heap.size ≤ q → A q := fun q h => by rw [← hAe]; exact Or.inr h
  have hS : va_S A s.heap s.heap [] := va_S.rf
  have hG : GX [] tg σ I ri rj I ri rj rq := ⟨hG0, fun _ _ _ => rfl, fun _ _ _ _ _ => rfl, fun _ _ _ _ _ => rfl⟩
  have hl := lv_entry ([.ref this, .long a0, .int a1]) (n := 6) (Nat.le_of_ble_eq_true rfl)
  rw [lg_entry_eq]
  generalize (lg_sl ([.ref this, .long a0, .int a1]) ++ List.replicate (6 - (lg_sl ([.ref this, .long a0, .int a1])).length) Slot.unset).toArray = ls at hl ⊢
  have hl : lv_has ls 6 [(0, .ref this), (1, .long a0), (3, .int a1)] := hl
  refine q_gen (fun Q hQ => ?_)
  have go : ∀ (H : Heap) (locs : List Loc) (ls : Array Slot), va_P D vwCl (pq_P t σ (I, J, ri, rj, rq)) H → va_D A (pq_P t σ (I, J, ri, rj, rq)) → va_S A s.heap H locs → lv_has ls 6 [(0, .ref this), (1, .long a0), (3, .int a1)] → W p l e ({ frames := 1, cells := 0, slots := 0, locals := 22 } : Room) s m (List.toArray ([.ref this, .long a0, .int a1] : List Value)) below meth c H locs 0 0 Q (F0 m 0 ls []) := by
    intro H locs ls hP hD hS hl
    refine lv_iconst (v := 0) hx hb dX0_countVotes_0 (by decide) ?_
    refine lv_istore (lv' := [(4, .int 0), (0, .ref this), (1, .long a0), (3, .int a1)]) hx hb dX0_countVotes_1 hl (by decide) rfl (fun ls hl => ?_)
    refine lv_iconst (v := 0) hx hb dX0_countVotes_3 (by decide) ?_
    refine lv_istore (lv' := [(5, .int 0), (4, .int 0), (0, .ref this), (1, .long a0), (3, .int a1)]) hx hb dX0_countVotes_4 hl (by decide) rfl (fun ls hl => ?_)
    have L_638 : ∀ (n_637 : Nat) (x_613 : Int32) (x_614 : Int32) (H : Heap) (locs : List Loc) (ls : Array Slot), rg x_614 0 40 → (40 - (x_614).toInt).toNat < n_637 → GX [] tg σ I ri rj I ri rj rq → va_P D vwCl (pq_P t σ (I, J, ri, rj, rq)) H → va_D A (pq_P t σ (I, J, ri, rj, rq)) → va_S A s.heap H locs → lv_has ls 6 [(0, .ref this), (1, .long a0), (3, .int a1), (4, .int x_613), (5, .int x_614)] → W p l e ({ frames := 1, cells := 0, slots := 0, locals := 22 } : Room) s m (List.toArray ([.ref this, .long a0, .int a1] : List Value)) below meth c H locs 0 0 Q (F0 m 6 ls []) := by
      intro n_637
      induction n_637 with
      | zero => intro x_613 x_614 H locs ls h_641 hm_636 hG hP hD hS hl; exact absurd hm_636 (Nat.not_lt_zero _)
      | succ n_637 ih_639 =>
        intro x_613 x_614 H locs ls h_641 hm_636 hG hP hD hS hl
        refine lv_iload hx hb dX0_countVotes_6 (lv_at hl 4 rfl) ?_
        refine lv_aload_n hx hb dX0_countVotes_8 rfl (lv_at hl 0 rfl) ?_
        refine pg_f (v := .int (I 0 this)) (C := RX0) (T := TX0) (N := 16) hx hb hts (tw_i inlX0) hown hK hP hL_this hK_this (by decide) rfl 0 (by decide) (hts _ (tw_c tw_395)) rfl dX0_countVotes_9 ?_
        have h_642 : rg (I 0 this) 0 40 := GX.rI hG 0 rfl
        refine lv_icmp_ge (tgt := 44) hx hb dX0_countVotes_12 (by decide) (fun c_643 => ?_) (fun c_643 => ?_)
        · refine lv_iload hx hb dX0_countVotes_44 (lv_at hl 3 rfl) ?_
          subst hQ
          exact W.iret (v := x_613) hx hb hr (fun t1 ht hW => ⟨⟨x_613, (σ, I, J, ri, rj, rq), rfl, rfl, by rw [ht]; exact hP, va_K.moved hW.alike hK, hD⟩, hS.F ht⟩) hS.2.2 dX0_countVotes_46
        · have h_644 : rg x_614 0 39 := rg_lt1 (nle c_643) h_641 h_642 (by decide)
          have h_645 : rg (I 0 this) 1 40 := rg_lt2 (nle c_643) h_641 h_642 (by decide)
          refine lv_lload_n hx hb dX0_countVotes_15 rfl (lv_at hl 1 rfl) ?_
          refine lv_iload hx hb dX0_countVotes_16 (lv_at hl 4 rfl) ?_
          refine pk_i (va_runSN (As := [.long a0, .int x_614]) (rest := []) ⟨hx, hb, hml, hown, hts⟩ (s_X11_hasBit l D t σ I J ri rj rq H.size tg hSH hG.1 a0 x_614) ⟨va_cnB (host := "RingsUnder") 2 hts (tw_W tw_560) rfl rfl rfl (nl_13 hN) (hts _ (tw_c tw_2)) cd_yX11_hasBit_2 ⟨Nat.le_of_ble_eq_true rfl, Nat.le_of_ble_eq_true rfl⟩, hts (.static yX11_hasBit) (tw_c tq_static_yX11_hasBit), trivial⟩ ⟨pq_blind, pq_pre hK hN hP hD⟩ rfl rfl hl.1 rfl (lv_room (Nat.le_of_ble_eq_true rfl)) dX0_countVotes_18 ⟨Nat.le_of_ble_eq_true rfl, Nat.le_of_ble_eq_true rfl⟩) hD hS hA (fun x_646 σ1 μ1 H locs hw_647 hP hD hS => ?_)
          obtain ⟨hu_648, hr_650⟩ := hw_647
          obtain ⟨hu_648a, hu_648b⟩ := Prod.mk.inj hu_648
          rw [hu_648a, hu_648b] at hP hD
          have h_651 : rg x_646 0 1 := by rcases hr_650 with ⟨q, -⟩ | ⟨q, -⟩ <;> rw [q] <;> exact ⟨by decide, by decide⟩
          have K_662 : ∀  (x_659 : Int32) (H : Heap) (locs : List Loc) (ls : Array Slot), GX [] tg σ I ri rj I ri rj rq → va_P D vwCl (pq_P t σ (I, J, ri, rj, rq)) H → va_D A (pq_P t σ (I, J, ri, rj, rq)) → va_S A s.heap H locs → lv_has ls 6 [(0, .ref this), (1, .long a0), (3, .int a1), (4, .int x_659), (5, .int x_614)] → W p l e ({ frames := 1, cells := 0, slots := 0, locals := 22 } : Room) s m (List.toArray ([.ref this, .long a0, .int a1] : List Value)) below meth c H locs 0 0 Q (F0 m 38 ls []) := by
            intro x_659 H locs ls hG hP hD hS hl
            obtain ⟨x_663, ex_663⟩ : ∃ y : Int32, y = x_614 + Int32.ofInt 1 := ⟨_, rfl⟩
            have h_664 : rg x_663 1 40 := rg_of_eq ex_663 (rg_add h_644 (rg_k (Int32.ofInt 1) 1 rfl) (by decide))
            refine lv_iinc (v := x_663) (lv' := [(5, .int x_663), (0, .ref this), (1, .long a0), (3, .int a1), (4, .int x_659)]) hx hb dX0_countVotes_38 hl (k := 4) rfl ex_663.symm (by decide) rfl (fun ls hl => ?_)
            refine lv_goto (tgt := 6) hx hb dX0_countVotes_41 (by decide) ?_
            exact ih_639 x_659 x_663 _ _ _ (rg_w h_664 (by decide)) (ms_up 1 hm_636 ex_663 rfl (by decide) h_644 (by decide) (by decide)) hG hP hD hS (lv_sub hl [1, 2, 3, 4, 0] rfl)
          refine lv_if_eq (tgt := 38) hx hb dX0_countVotes_21 (by decide) (fun c_665 => ?_) (fun c_665 => ?_)
          · have h_666 : rg x_646 0 0 := rg_and h_651 (rg_of_eq c_665 (rg_k (0 : Int32) 0 rfl)) (by decide)
            exact K_662 x_613 _ _ _ hG hP hD hS (lv_sub hl [0, 1, 2, 3, 4] rfl)
          · have h_667 : rg x_646 1 1 := rg_ne c_665 h_651 0 rfl (by decide)
            refine lv_aload_n hx hb dX0_countVotes_24 rfl (lv_at hl 0 rfl) ?_
            obtain ⟨w_668, hR_w_668, hL_w_668, hK_w_668, hN_w_668, hT_w_668⟩ := sh_a hSH 9 (ci := 0) (kd := 13) (len := 40) rfl (by decide) hL_this hK_this
            refine pg_f (v := .ref w_668) (C := RX0) (T := TX0) (N := 16) hx hb hts (tw_i inlX0) hown hK hP hL_this hK_this (by decide) rfl 9 (by decide) (hts _ (tw_c tw_118)) (pq_hv rfl hR_w_668) dX0_countVotes_25 ?_
            refine lv_iload hx hb dX0_countVotes_28 (lv_at hl 4 rfl) ?_
            refine pl_i hx hb hK hP hL_w_668 hK_w_668 hN_w_668 (rg_in h_644 (by decide)) dX0_countVotes_30 ?_
            refine lv_topi (fun x_669 ex_669 => ?_)
            refine lv_iload_n hx hb dX0_countVotes_31 rfl (lv_at hl 2 rfl) ?_
            refine lv_icmp_ne (tgt := 38) hx hb dX0_countVotes_32 (by decide) (fun c_670 => ?_) (fun c_670 => ?_)
            · exact K_662 x_613 _ _ _ hG hP hD hS (lv_sub hl [0, 1, 2, 3, 4] rfl)
            · obtain ⟨x_671, ex_671⟩ : ∃ y : Int32, y = x_613 + Int32.ofInt 1 := ⟨_, rfl⟩
              refine lv_iinc (v := x_671) (lv' := [(4, .int x_671), (0, .ref this), (1, .long a0), (3, .int a1), (5, .int x_614)]) hx hb dX0_countVotes_35 hl (k := 3) rfl ex_671.symm (by decide) rfl (fun ls hl => ?_)
              exact K_662 x_671 _ _ _ hG hP hD hS (lv_sub hl [1, 2, 3, 0, 4] rfl)
    exact L_638 _ (0 : Int32) (0 : Int32) _ _ _ (rg_w (rg_k (0 : Int32) 0 rfl) (by decide)) (Nat.lt_succ_self _) hG hP hD hS (lv_sub hl [2, 3, 4, 1, 0] rfl)
  exact go _ _ _ hP hD hS hl
