theorem dX11_copy_0 : decode cX11_copy 0 = .ok (.aload_n 0, 1) := oc_42 (by decide +kernel)
theorem dX11_copy_1 : decode cX11_copy 1 = .ok (.iconst 0, 1) := oc_3 (by decide +kernel)
theorem dX11_copy_2 : decode cX11_copy 2 = .ok (.aload_n 1, 1) := oc_43 (by decide +kernel)
theorem dX11_copy_3 : decode cX11_copy 3 = .ok (.iconst 0, 1) := oc_3 (by decide +kernel)
theorem dX11_copy_4 : decode cX11_copy 4 = .ok (.aload_n 0, 1) := oc_42 (by decide +kernel)
theorem dX11_copy_5 : decode cX11_copy 5 = .ok (.arraylength, 1) := oc_190 (by decide +kernel)
theorem dX11_copy_6 : decode cX11_copy 6 = .ok (.aload_n 1, 1) := oc_43 (by decide +kernel)
theorem dX11_copy_7 : decode cX11_copy 7 = .ok (.arraylength, 1) := oc_190 (by decide +kernel)
theorem tw_1103 : Cond.methodLink RX11 378 Lib.Math.min.name ∈ wsL_law := sg_46 _ (List.mem_of_getElem? (i := 23) rfl)
theorem tw_467 : Cond.static Lib.Math.min.name ∈ wsL_law := sg_20 _ (List.mem_of_getElem? (i := 11) rfl)
theorem tw_276 : Cond.initialized "java/lang/Math" ∈ wsL_law := sg_12 _ (List.mem_of_getElem? (i := 12) rfl)
theorem tw_468 : Cond.code Lib.Math.min.name Lib.Math.min.code 2 (some .int) ∈ wsL_law := sg_20 _ (List.mem_of_getElem? (i := 12) rfl)
theorem dX11_copy_8 : decode cX11_copy 8 = .ok (.invokestatic 378, 3) := oc_184 (a := 1) (b := 122) (by decide +kernel)
theorem tw_1104 : Cond.methodLink RX11 383 arraycopyName ∈ wsL_law := sg_47 _ (List.mem_of_getElem? (i := 0) rfl)
theorem tw_1105 : Cond.native arraycopyName ∈ wsL_law := sg_47 _ (List.mem_of_getElem? (i := 1) rfl)
theorem tw_1106 : Cond.static arraycopyName ∈ wsL_law := sg_47 _ (List.mem_of_getElem? (i := 2) rfl)
theorem tw_1107 : Cond.initialized "java/lang/System" ∈ wsL_law := sg_47 _ (List.mem_of_getElem? (i := 3) rfl)
theorem dX11_copy_11 : decode cX11_copy 11 = .ok (.invokestatic 383, 3) := oc_184 (a := 1) (b := 127) (by decide +kernel)
theorem dX11_copy_14 : decode cX11_copy 14 = .ok (.return_, 1) := oc_177 (by decide +kernel)
theorem dX0_copyFrom_0 : decode cX0_copyFrom 0 = .ok (.aload_n 0, 1) := oc_42 (by decide +kernel)
theorem dX0_copyFrom_1 : decode cX0_copyFrom 1 = .ok (.aload_n 1, 1) := oc_43 (by decide +kernel)
theorem tw_395 : Cond.fieldLink RX0 54 "RingsUnder$Folk" "persons" "I" ∈ wsL_law := sg_17 _ (List.mem_of_getElem? (i := 11) rfl)
theorem dX0_copyFrom_2 : decode cX0_copyFrom 2 = .ok (.getfield 54, 3) := oc_180 (a := 0) (b := 54) (by decide +kernel)
theorem dX0_copyFrom_5 : decode cX0_copyFrom 5 = .ok (.putfield 54, 3) := oc_181 (a := 0) (b := 54) (by decide +kernel)
theorem dX0_copyFrom_8 : decode cX0_copyFrom 8 = .ok (.aload_n 1, 1) := oc_43 (by decide +kernel)
theorem tw_110 : Cond.fieldLink RX0 9 "RingsUnder$Folk" "kin" "[I" ∈ wsL_law := sg_5 _ (List.mem_of_getElem? (i := 14) rfl)
theorem dX0_copyFrom_9 : decode cX0_copyFrom 9 = .ok (.getfield 9, 3) := oc_180 (a := 0) (b := 9) (by decide +kernel)
theorem dX0_copyFrom_12 : decode cX0_copyFrom 12 = .ok (.aload_n 0, 1) := oc_42 (by decide +kernel)
theorem dX0_copyFrom_13 : decode cX0_copyFrom 13 = .ok (.getfield 9, 3) := oc_180 (a := 0) (b := 9) (by decide +kernel)
theorem tw_1102 : Cond.code yX11_copy cX11_copy 2 none ∈ wsL_law := sg_46 _ (List.mem_of_getElem? (i := 22) rfl)
theorem tw_2 : Cond.initialized RX11 ∈ wsL_law := sg_1 _ (List.mem_of_getElem? (i := 2) rfl)
theorem dX0_copyFrom_16 : decode cX0_copyFrom 16 = .ok (.invokestatic 58, 3) := oc_184 (a := 0) (b := 58) (by decide +kernel)
theorem dX0_copyFrom_19 : decode cX0_copyFrom 19 = .ok (.aload_n 1, 1) := oc_43 (by decide +kernel)
theorem tw_111 : Cond.fieldLink RX0 15 "RingsUnder$Folk" "age" "[I" ∈ wsL_law := sg_5 _ (List.mem_of_getElem? (i := 15) rfl)
theorem dX0_copyFrom_20 : decode cX0_copyFrom 20 = .ok (.getfield 15, 3) := oc_180 (a := 0) (b := 15) (by decide +kernel)
theorem dX0_copyFrom_23 : decode cX0_copyFrom 23 = .ok (.aload_n 0, 1) := oc_42 (by decide +kernel)
theorem dX0_copyFrom_24 : decode cX0_copyFrom 24 = .ok (.getfield 15, 3) := oc_180 (a := 0) (b := 15) (by decide +kernel)
theorem dX0_copyFrom_27 : decode cX0_copyFrom 27 = .ok (.invokestatic 58, 3) := oc_184 (a := 0) (b := 58) (by decide +kernel)
theorem dX0_copyFrom_30 : decode cX0_copyFrom 30 = .ok (.aload_n 1, 1) := oc_43 (by decide +kernel)
theorem tw_112 : Cond.fieldLink RX0 18 "RingsUnder$Folk" "craft" "[I" ∈ wsL_law := sg_5 _ (List.mem_of_getElem? (i := 16) rfl)
theorem dX0_copyFrom_31 : decode cX0_copyFrom 31 = .ok (.getfield 18, 3) := oc_180 (a := 0) (b := 18) (by decide +kernel)
theorem dX0_copyFrom_34 : decode cX0_copyFrom 34 = .ok (.aload_n 0, 1) := oc_42 (by decide +kernel)
theorem dX0_copyFrom_35 : decode cX0_copyFrom 35 = .ok (.getfield 18, 3) := oc_180 (a := 0) (b := 18) (by decide +kernel)
theorem dX0_copyFrom_38 : decode cX0_copyFrom 38 = .ok (.invokestatic 58, 3) := oc_184 (a := 0) (b := 58) (by decide +kernel)
theorem dX0_copyFrom_41 : decode cX0_copyFrom 41 = .ok (.aload_n 1, 1) := oc_43 (by decide +kernel)
theorem tw_113 : Cond.fieldLink RX0 21 "RingsUnder$Folk" "send" "[I" ∈ wsL_law := sg_5 _ (List.mem_of_getElem? (i := 17) rfl)
theorem dX0_copyFrom_42 : decode cX0_copyFrom 42 = .ok (.getfield 21, 3) := oc_180 (a := 0) (b := 21) (by decide +kernel)
theorem dX0_copyFrom_45 : decode cX0_copyFrom 45 = .ok (.aload_n 0, 1) := oc_42 (by decide +kernel)
theorem dX0_copyFrom_46 : decode cX0_copyFrom 46 = .ok (.getfield 21, 3) := oc_180 (a := 0) (b := 21) (by decide +kernel)
theorem dX0_copyFrom_49 : decode cX0_copyFrom 49 = .ok (.invokestatic 58, 3) := oc_184 (a := 0) (b := 58) (by decide +kernel)
theorem dX0_copyFrom_52 : decode cX0_copyFrom 52 = .ok (.aload_n 1, 1) := oc_43 (by decide +kernel)
theorem tw_114 : Cond.fieldLink RX0 24 "RingsUnder$Folk" "place" "[I" ∈ wsL_law := sg_5 _ (List.mem_of_getElem? (i := 18) rfl)
theorem dX0_copyFrom_53 : decode cX0_copyFrom 53 = .ok (.getfield 24, 3) := oc_180 (a := 0) (b := 24) (by decide +kernel)
theorem dX0_copyFrom_56 : decode cX0_copyFrom 56 = .ok (.aload_n 0, 1) := oc_42 (by decide +kernel)
theorem dX0_copyFrom_57 : decode cX0_copyFrom 57 = .ok (.getfield 24, 3) := oc_180 (a := 0) (b := 24) (by decide +kernel)
theorem dX0_copyFrom_60 : decode cX0_copyFrom 60 = .ok (.invokestatic 58, 3) := oc_184 (a := 0) (b := 58) (by decide +kernel)
theorem dX0_copyFrom_63 : decode cX0_copyFrom 63 = .ok (.aload_n 1, 1) := oc_43 (by decide +kernel)
theorem tw_115 : Cond.fieldLink RX0 27 "RingsUnder$Folk" "thirst" "[I" ∈ wsL_law := sg_5 _ (List.mem_of_getElem? (i := 19) rfl)
theorem dX0_copyFrom_64 : decode cX0_copyFrom 64 = .ok (.getfield 27, 3) := oc_180 (a := 0) (b := 27) (by decide +kernel)
theorem dX0_copyFrom_67 : decode cX0_copyFrom 67 = .ok (.aload_n 0, 1) := oc_42 (by decide +kernel)
theorem dX0_copyFrom_68 : decode cX0_copyFrom 68 = .ok (.getfield 27, 3) := oc_180 (a := 0) (b := 27) (by decide +kernel)
theorem dX0_copyFrom_71 : decode cX0_copyFrom 71 = .ok (.invokestatic 58, 3) := oc_184 (a := 0) (b := 58) (by decide +kernel)
theorem dX0_copyFrom_74 : decode cX0_copyFrom 74 = .ok (.aload_n 1, 1) := oc_43 (by decide +kernel)
theorem tw_116 : Cond.fieldLink RX0 30 "RingsUnder$Folk" "noBed" "[I" ∈ wsL_law := sg_5 _ (List.mem_of_getElem? (i := 20) rfl)
theorem dX0_copyFrom_75 : decode cX0_copyFrom 75 = .ok (.getfield 30, 3) := oc_180 (a := 0) (b := 30) (by decide +kernel)
theorem dX0_copyFrom_78 : decode cX0_copyFrom 78 = .ok (.aload_n 0, 1) := oc_42 (by decide +kernel)
theorem dX0_copyFrom_79 : decode cX0_copyFrom 79 = .ok (.getfield 30, 3) := oc_180 (a := 0) (b := 30) (by decide +kernel)
theorem dX0_copyFrom_82 : decode cX0_copyFrom 82 = .ok (.invokestatic 58, 3) := oc_184 (a := 0) (b := 58) (by decide +kernel)
theorem dX0_copyFrom_85 : decode cX0_copyFrom 85 = .ok (.aload_n 1, 1) := oc_43 (by decide +kernel)
theorem tw_117 : Cond.fieldLink RX0 33 "RingsUnder$Folk" "went" "[I" ∈ wsL_law := sg_5 _ (List.mem_of_getElem? (i := 21) rfl)
theorem dX0_copyFrom_86 : decode cX0_copyFrom 86 = .ok (.getfield 33, 3) := oc_180 (a := 0) (b := 33) (by decide +kernel)
theorem dX0_copyFrom_89 : decode cX0_copyFrom 89 = .ok (.aload_n 0, 1) := oc_42 (by decide +kernel)
theorem dX0_copyFrom_90 : decode cX0_copyFrom 90 = .ok (.getfield 33, 3) := oc_180 (a := 0) (b := 33) (by decide +kernel)
theorem dX0_copyFrom_93 : decode cX0_copyFrom 93 = .ok (.invokestatic 58, 3) := oc_184 (a := 0) (b := 58) (by decide +kernel)
theorem dX0_copyFrom_96 : decode cX0_copyFrom 96 = .ok (.aload_n 1, 1) := oc_43 (by decide +kernel)
theorem tw_118 : Cond.fieldLink RX0 36 "RingsUnder$Folk" "vote" "[I" ∈ wsL_law := sg_5 _ (List.mem_of_getElem? (i := 22) rfl)
theorem dX0_copyFrom_97 : decode cX0_copyFrom 97 = .ok (.getfield 36, 3) := oc_180 (a := 0) (b := 36) (by decide +kernel)
theorem dX0_copyFrom_100 : decode cX0_copyFrom 100 = .ok (.aload_n 0, 1) := oc_42 (by decide +kernel)
theorem dX0_copyFrom_101 : decode cX0_copyFrom 101 = .ok (.getfield 36, 3) := oc_180 (a := 0) (b := 36) (by decide +kernel)
theorem dX0_copyFrom_104 : decode cX0_copyFrom 104 = .ok (.invokestatic 58, 3) := oc_184 (a := 0) (b := 58) (by decide +kernel)
theorem dX0_copyFrom_107 : decode cX0_copyFrom 107 = .ok (.aload_n 0, 1) := oc_42 (by decide +kernel)
theorem dX0_copyFrom_108 : decode cX0_copyFrom 108 = .ok (.aload_n 1, 1) := oc_43 (by decide +kernel)
theorem tw_1171 : Cond.fieldLink RX0 62 "RingsUnder$Folk" "lots" "I" ∈ wsL_law := sg_49 _ (List.mem_of_getElem? (i := 19) rfl)
theorem dX0_copyFrom_109 : decode cX0_copyFrom 109 = .ok (.getfield 62, 3) := oc_180 (a := 0) (b := 62) (by decide +kernel)
theorem dX0_copyFrom_112 : decode cX0_copyFrom 112 = .ok (.putfield 62, 3) := oc_181 (a := 0) (b := 62) (by decide +kernel)
theorem dX0_copyFrom_115 : decode cX0_copyFrom 115 = .ok (.aload_n 1, 1) := oc_43 (by decide +kernel)
theorem tw_119 : Cond.fieldLink RX0 39 "RingsUnder$Folk" "lotBeds" "[I" ∈ wsL_law := sg_5 _ (List.mem_of_getElem? (i := 23) rfl)
theorem dX0_copyFrom_116 : decode cX0_copyFrom 116 = .ok (.getfield 39, 3) := oc_180 (a := 0) (b := 39) (by decide +kernel)
theorem dX0_copyFrom_119 : decode cX0_copyFrom 119 = .ok (.aload_n 0, 1) := oc_42 (by decide +kernel)
theorem dX0_copyFrom_120 : decode cX0_copyFrom 120 = .ok (.getfield 39, 3) := oc_180 (a := 0) (b := 39) (by decide +kernel)
theorem dX0_copyFrom_123 : decode cX0_copyFrom 123 = .ok (.invokestatic 58, 3) := oc_184 (a := 0) (b := 58) (by decide +kernel)
theorem dX0_copyFrom_126 : decode cX0_copyFrom 126 = .ok (.return_, 1) := oc_177 (by decide +kernel)
theorem dX0_addPerson_0 : decode cX0_addPerson 0 = .ok (.aload_n 0, 1) := oc_42 (by decide +kernel)
theorem dX0_addPerson_1 : decode cX0_addPerson 1 = .ok (.getfield 54, 3) := oc_180 (a := 0) (b := 54) (by decide +kernel)
theorem dX0_addPerson_4 : decode cX0_addPerson 4 = .ok (.bipush 40, 2) := oc_16 (a := 40) (by decide +kernel)
theorem dX0_addPerson_6 : decode cX0_addPerson 6 = .ok (.if_icmp .lt 5, 3) := oc_161 (a := 0) (b := 5) (by decide +kernel)
theorem dX0_addPerson_11 : decode cX0_addPerson 11 = .ok (.aload_n 0, 1) := oc_42 (by decide +kernel)
theorem dX0_addPerson_12 : decode cX0_addPerson 12 = .ok (.getfield 54, 3) := oc_180 (a := 0) (b := 54) (by decide +kernel)
theorem dX0_addPerson_15 : decode cX0_addPerson 15 = .ok (.istore 6, 2) := oc_54 (by decide +kernel)
theorem dX0_addPerson_17 : decode cX0_addPerson 17 = .ok (.aload_n 0, 1) := oc_42 (by decide +kernel)
theorem dX0_addPerson_18 : decode cX0_addPerson 18 = .ok (.getfield 9, 3) := oc_180 (a := 0) (b := 9) (by decide +kernel)
theorem dX0_addPerson_21 : decode cX0_addPerson 21 = .ok (.iload 6, 2) := oc_21 (by decide +kernel)
theorem dX0_addPerson_23 : decode cX0_addPerson 23 = .ok (.iload_n 1, 1) := oc_27 (by decide +kernel)
theorem dX0_addPerson_24 : decode cX0_addPerson 24 = .ok (.iastore, 1) := oc_79 (by decide +kernel)
theorem dX0_addPerson_25 : decode cX0_addPerson 25 = .ok (.aload_n 0, 1) := oc_42 (by decide +kernel)
theorem dX0_addPerson_26 : decode cX0_addPerson 26 = .ok (.getfield 15, 3) := oc_180 (a := 0) (b := 15) (by decide +kernel)
theorem dX0_addPerson_29 : decode cX0_addPerson 29 = .ok (.iload 6, 2) := oc_21 (by decide +kernel)
theorem dX0_addPerson_31 : decode cX0_addPerson 31 = .ok (.iload_n 2, 1) := oc_28 (by decide +kernel)
theorem dX0_addPerson_32 : decode cX0_addPerson 32 = .ok (.iastore, 1) := oc_79 (by decide +kernel)
theorem dX0_addPerson_33 : decode cX0_addPerson 33 = .ok (.aload_n 0, 1) := oc_42 (by decide +kernel)
theorem dX0_addPerson_34 : decode cX0_addPerson 34 = .ok (.getfield 18, 3) := oc_180 (a := 0) (b := 18) (by decide +kernel)
theorem dX0_addPerson_37 : decode cX0_addPerson 37 = .ok (.iload 6, 2) := oc_21 (by decide +kernel)
theorem dX0_addPerson_39 : decode cX0_addPerson 39 = .ok (.iload_n 3, 1) := oc_29 (by decide +kernel)
theorem dX0_addPerson_40 : decode cX0_addPerson 40 = .ok (.iastore, 1) := oc_79 (by decide +kernel)
theorem dX0_addPerson_41 : decode cX0_addPerson 41 = .ok (.aload_n 0, 1) := oc_42 (by decide +kernel)
theorem dX0_addPerson_42 : decode cX0_addPerson 42 = .ok (.getfield 24, 3) := oc_180 (a := 0) (b := 24) (by decide +kernel)
theorem dX0_addPerson_45 : decode cX0_addPerson 45 = .ok (.iload 6, 2) := oc_21 (by decide +kernel)
theorem dX0_addPerson_47 : decode cX0_addPerson 47 = .ok (.iload 4, 2) := oc_21 (by decide +kernel)
theorem dX0_addPerson_49 : decode cX0_addPerson 49 = .ok (.iastore, 1) := oc_79 (by decide +kernel)
theorem dX0_addPerson_50 : decode cX0_addPerson 50 = .ok (.aload_n 0, 1) := oc_42 (by decide +kernel)
theorem dX0_addPerson_51 : decode cX0_addPerson 51 = .ok (.getfield 21, 3) := oc_180 (a := 0) (b := 21) (by decide +kernel)
theorem dX0_addPerson_54 : decode cX0_addPerson 54 = .ok (.iload 6, 2) := oc_21 (by decide +kernel)
theorem dX0_addPerson_56 : decode cX0_addPerson 56 = .ok (.iload 5, 2) := oc_21 (by decide +kernel)
theorem dX0_addPerson_58 : decode cX0_addPerson 58 = .ok (.iastore, 1) := oc_79 (by decide +kernel)
theorem dX0_addPerson_59 : decode cX0_addPerson 59 = .ok (.aload_n 0, 1) := oc_42 (by decide +kernel)
theorem dX0_addPerson_60 : decode cX0_addPerson 60 = .ok (.getfield 27, 3) := oc_180 (a := 0) (b := 27) (by decide +kernel)
theorem dX0_addPerson_63 : decode cX0_addPerson 63 = .ok (.iload 6, 2) := oc_21 (by decide +kernel)
theorem dX0_addPerson_65 : decode cX0_addPerson 65 = .ok (.iconst 0, 1) := oc_3 (by decide +kernel)
theorem dX0_addPerson_66 : decode cX0_addPerson 66 = .ok (.iastore, 1) := oc_79 (by decide +kernel)
theorem dX0_addPerson_67 : decode cX0_addPerson 67 = .ok (.aload_n 0, 1) := oc_42 (by decide +kernel)
theorem dX0_addPerson_68 : decode cX0_addPerson 68 = .ok (.getfield 30, 3) := oc_180 (a := 0) (b := 30) (by decide +kernel)
theorem dX0_addPerson_71 : decode cX0_addPerson 71 = .ok (.iload 6, 2) := oc_21 (by decide +kernel)
theorem dX0_addPerson_73 : decode cX0_addPerson 73 = .ok (.iconst 0, 1) := oc_3 (by decide +kernel)
theorem dX0_addPerson_74 : decode cX0_addPerson 74 = .ok (.iastore, 1) := oc_79 (by decide +kernel)
theorem dX0_addPerson_75 : decode cX0_addPerson 75 = .ok (.aload_n 0, 1) := oc_42 (by decide +kernel)
theorem dX0_addPerson_76 : decode cX0_addPerson 76 = .ok (.getfield 33, 3) := oc_180 (a := 0) (b := 33) (by decide +kernel)
theorem dX0_addPerson_79 : decode cX0_addPerson 79 = .ok (.iload 6, 2) := oc_21 (by decide +kernel)
theorem dX0_addPerson_81 : decode cX0_addPerson 81 = .ok (.iconst (-1), 1) := oc_2 (by decide +kernel)
theorem dX0_addPerson_82 : decode cX0_addPerson 82 = .ok (.iastore, 1) := oc_79 (by decide +kernel)
theorem dX0_addPerson_83 : decode cX0_addPerson 83 = .ok (.aload_n 0, 1) := oc_42 (by decide +kernel)
theorem dX0_addPerson_84 : decode cX0_addPerson 84 = .ok (.getfield 36, 3) := oc_180 (a := 0) (b := 36) (by decide +kernel)
theorem dX0_addPerson_87 : decode cX0_addPerson 87 = .ok (.iload 6, 2) := oc_21 (by decide +kernel)
theorem dX0_addPerson_89 : decode cX0_addPerson 89 = .ok (.iconst (-1), 1) := oc_2 (by decide +kernel)
theorem dX0_addPerson_90 : decode cX0_addPerson 90 = .ok (.iastore, 1) := oc_79 (by decide +kernel)
theorem dX0_addPerson_91 : decode cX0_addPerson 91 = .ok (.aload_n 0, 1) := oc_42 (by decide +kernel)
theorem dX0_addPerson_92 : decode cX0_addPerson 92 = .ok (.dup, 1) := oc_89 (by decide +kernel)
theorem dX0_addPerson_93 : decode cX0_addPerson 93 = .ok (.getfield 54, 3) := oc_180 (a := 0) (b := 54) (by decide +kernel)
theorem dX0_addPerson_96 : decode cX0_addPerson 96 = .ok (.iconst 1, 1) := oc_4 (by decide +kernel)
theorem dX0_addPerson_97 : decode cX0_addPerson 97 = .ok (.iadd, 1) := oc_96 (by decide +kernel)
theorem dX0_addPerson_98 : decode cX0_addPerson 98 = .ok (.putfield 54, 3) := oc_181 (a := 0) (b := 54) (by decide +kernel)
theorem dX0_addPerson_101 : decode cX0_addPerson 101 = .ok (.iload 6, 2) := oc_21 (by decide +kernel)
theorem dX0_addPerson_103 : decode cX0_addPerson 103 = .ok (.ireturn, 1) := oc_172 (by decide +kernel)
theorem dX0_addPerson_9 : decode cX0_addPerson 9 = .ok (.iconst (-1), 1) := oc_2 (by decide +kernel)
theorem dX0_addPerson_10 : decode cX0_addPerson 10 = .ok (.ireturn, 1) := oc_172 (by decide +kernel)
theorem dX0_isOnRing_0 : decode cX0_isOnRing 0 = .ok (.aload_n 0, 1) := oc_42 (by decide +kernel)
theorem dX0_isOnRing_1 : decode cX0_isOnRing 1 = .ok (.getfield 24, 3) := oc_180 (a := 0) (b := 24) (by decide +kernel)
theorem dX0_isOnRing_4 : decode cX0_isOnRing 4 = .ok (.iload_n 1, 1) := oc_27 (by decide +kernel)
theorem dX0_isOnRing_5 : decode cX0_isOnRing 5 = .ok (.iaload, 1) := oc_46 (by decide +kernel)
theorem dX0_isOnRing_6 : decode cX0_isOnRing 6 = .ok (.iconst 5, 1) := oc_8 (by decide +kernel)
theorem dX0_isOnRing_7 : decode cX0_isOnRing 7 = .ok (.if_icmp .ge 7, 3) := oc_162 (a := 0) (b := 7) (by decide +kernel)
theorem dX0_isOnRing_14 : decode cX0_isOnRing 14 = .ok (.iconst 0, 1) := oc_3 (by decide +kernel)
theorem dX0_isOnRing_15 : decode cX0_isOnRing 15 = .ok (.ireturn, 1) := oc_172 (by decide +kernel)
theorem dX0_isOnRing_10 : decode cX0_isOnRing 10 = .ok (.iconst 1, 1) := oc_4 (by decide +kernel)
theorem dX0_isOnRing_11 : decode cX0_isOnRing 11 = .ok (.goto 4, 3) := oc_167 (a := 0) (b := 4) (by decide +kernel)
theorem dX0_onRings_0 : decode cX0_onRings 0 = .ok (.lconst 0, 1) := oc_9 (by decide +kernel)
theorem dX0_onRings_1 : decode cX0_onRings 1 = .ok (.lstore_n 1, 1) := oc_64 (by decide +kernel)
theorem dX0_onRings_2 : decode cX0_onRings 2 = .ok (.iconst 0, 1) := oc_3 (by decide +kernel)
theorem dX0_onRings_3 : decode cX0_onRings 3 = .ok (.istore_n 3, 1) := oc_62 (by decide +kernel)
theorem dX0_onRings_4 : decode cX0_onRings 4 = .ok (.iload_n 3, 1) := oc_29 (by decide +kernel)
theorem dX0_onRings_5 : decode cX0_onRings 5 = .ok (.aload_n 0, 1) := oc_42 (by decide +kernel)
theorem dX0_onRings_6 : decode cX0_onRings 6 = .ok (.getfield 54, 3) := oc_180 (a := 0) (b := 54) (by decide +kernel)
theorem dX0_onRings_9 : decode cX0_onRings 9 = .ok (.if_icmp .ge 23, 3) := oc_162 (a := 0) (b := 23) (by decide +kernel)
theorem dX0_onRings_32 : decode cX0_onRings 32 = .ok (.lload_n 1, 1) := oc_31 (by decide +kernel)
theorem dX0_onRings_33 : decode cX0_onRings 33 = .ok (.lreturn, 1) := oc_173 (by decide +kernel)
theorem dX0_onRings_12 : decode cX0_onRings 12 = .ok (.aload_n 0, 1) := oc_42 (by decide +kernel)
theorem dX0_onRings_13 : decode cX0_onRings 13 = .ok (.iload_n 3, 1) := oc_29 (by decide +kernel)
theorem tw_1108 : Cond.methodLink RX0 65 yX0_isOnRing ∈ wsL_law := sg_47 _ (List.mem_of_getElem? (i := 4) rfl)
theorem tw_1109 : Cond.instanceMethod yX0_isOnRing ∈ wsL_law := sg_47 _ (List.mem_of_getElem? (i := 5) rfl)
theorem tw_1110 : Cond.selects RX0 yX0_isOnRing yX0_isOnRing ∈ wsL_law := sg_47 _ (List.mem_of_getElem? (i := 6) rfl)
theorem tw_45 : Cond.initialized RX0 ∈ wsL_law := sg_2 _ (List.mem_of_getElem? (i := 21) rfl)
theorem tw_1111 : Cond.code yX0_isOnRing cX0_isOnRing 2 (some .boolean) ∈ wsL_law := sg_47 _ (List.mem_of_getElem? (i := 7) rfl)
theorem dX0_onRings_14 : decode cX0_onRings 14 = .ok (.invokevirtual 65, 3) := oc_182 (a := 0) (b := 65) (by decide +kernel)
theorem dX0_onRings_26 : decode cX0_onRings 26 = .ok (.iinc 3 1, 3) := oc_132 (b := 1) (by decide +kernel)
theorem dX0_onRings_29 : decode cX0_onRings 29 = .ok (.goto (-25), 3) := oc_167 (a := 255) (b := 231) (by decide +kernel)
theorem dX0_onRings_17 : decode cX0_onRings 17 = .ok (.ifCond .eq 9, 3) := oc_153 (a := 0) (b := 9) (by decide +kernel)
theorem dX0_onRings_20 : decode cX0_onRings 20 = .ok (.lload_n 1, 1) := oc_31 (by decide +kernel)
theorem dX0_onRings_21 : decode cX0_onRings 21 = .ok (.lconst 1, 1) := oc_10 (by decide +kernel)
theorem dX0_onRings_22 : decode cX0_onRings 22 = .ok (.iload_n 3, 1) := oc_29 (by decide +kernel)
theorem dX0_onRings_23 : decode cX0_onRings 23 = .ok (.lshl, 1) := oc_121 (by decide +kernel)
theorem dX0_onRings_24 : decode cX0_onRings 24 = .ok (.lor, 1) := oc_129 (by decide +kernel)
theorem dX0_onRings_25 : decode cX0_onRings 25 = .ok (.lstore_n 1, 1) := oc_64 (by decide +kernel)
theorem dX0_notDead_0 : decode cX0_notDead 0 = .ok (.lconst 0, 1) := oc_9 (by decide +kernel)
theorem dX0_notDead_1 : decode cX0_notDead 1 = .ok (.lstore_n 1, 1) := oc_64 (by decide +kernel)
theorem dX0_notDead_2 : decode cX0_notDead 2 = .ok (.iconst 0, 1) := oc_3 (by decide +kernel)
theorem dX0_notDead_3 : decode cX0_notDead 3 = .ok (.istore_n 3, 1) := oc_62 (by decide +kernel)
theorem dX0_notDead_4 : decode cX0_notDead 4 = .ok (.iload_n 3, 1) := oc_29 (by decide +kernel)
theorem dX0_notDead_5 : decode cX0_notDead 5 = .ok (.aload_n 0, 1) := oc_42 (by decide +kernel)
theorem dX0_notDead_6 : decode cX0_notDead 6 = .ok (.getfield 54, 3) := oc_180 (a := 0) (b := 54) (by decide +kernel)
theorem dX0_notDead_9 : decode cX0_notDead 9 = .ok (.if_icmp .ge 27, 3) := oc_162 (a := 0) (b := 27) (by decide +kernel)
theorem dX0_notDead_36 : decode cX0_notDead 36 = .ok (.lload_n 1, 1) := oc_31 (by decide +kernel)
theorem dX0_notDead_37 : decode cX0_notDead 37 = .ok (.lreturn, 1) := oc_173 (by decide +kernel)
theorem dX0_notDead_12 : decode cX0_notDead 12 = .ok (.aload_n 0, 1) := oc_42 (by decide +kernel)
theorem dX0_notDead_13 : decode cX0_notDead 13 = .ok (.getfield 24, 3) := oc_180 (a := 0) (b := 24) (by decide +kernel)
theorem dX0_notDead_16 : decode cX0_notDead 16 = .ok (.iload_n 3, 1) := oc_29 (by decide +kernel)
theorem dX0_notDead_17 : decode cX0_notDead 17 = .ok (.iaload, 1) := oc_46 (by decide +kernel)
theorem dX0_notDead_18 : decode cX0_notDead 18 = .ok (.sipush 300, 3) := oc_17 (a := 1) (b := 44) (by decide +kernel)
theorem dX0_notDead_30 : decode cX0_notDead 30 = .ok (.iinc 3 1, 3) := oc_132 (b := 1) (by decide +kernel)
theorem dX0_notDead_33 : decode cX0_notDead 33 = .ok (.goto (-29), 3) := oc_167 (a := 255) (b := 227) (by decide +kernel)
theorem dX0_notDead_21 : decode cX0_notDead 21 = .ok (.if_icmp .eq 9, 3) := oc_159 (a := 0) (b := 9) (by decide +kernel)
theorem dX0_notDead_24 : decode cX0_notDead 24 = .ok (.lload_n 1, 1) := oc_31 (by decide +kernel)
theorem dX0_notDead_25 : decode cX0_notDead 25 = .ok (.lconst 1, 1) := oc_10 (by decide +kernel)
theorem dX0_notDead_26 : decode cX0_notDead 26 = .ok (.iload_n 3, 1) := oc_29 (by decide +kernel)
theorem dX0_notDead_27 : decode cX0_notDead 27 = .ok (.lshl, 1) := oc_121 (by decide +kernel)
theorem dX0_notDead_28 : decode cX0_notDead 28 = .ok (.lor, 1) := oc_129 (by decide +kernel)
theorem dX0_notDead_29 : decode cX0_notDead 29 = .ok (.lstore_n 1, 1) := oc_64 (by decide +kernel)
theorem dX0_countAt_0 : decode cX0_countAt 0 = .ok (.iconst 0, 1) := oc_3 (by decide +kernel)
theorem dX0_countAt_1 : decode cX0_countAt 1 = .ok (.istore_n 2, 1) := oc_61 (by decide +kernel)
theorem dX0_countAt_2 : decode cX0_countAt 2 = .ok (.iconst 0, 1) := oc_3 (by decide +kernel)
theorem dX0_countAt_3 : decode cX0_countAt 3 = .ok (.istore_n 3, 1) := oc_62 (by decide +kernel)
theorem dX0_countAt_4 : decode cX0_countAt 4 = .ok (.iload_n 3, 1) := oc_29 (by decide +kernel)
theorem dX0_countAt_5 : decode cX0_countAt 5 = .ok (.aload_n 0, 1) := oc_42 (by decide +kernel)
theorem dX0_countAt_6 : decode cX0_countAt 6 = .ok (.getfield 54, 3) := oc_180 (a := 0) (b := 54) (by decide +kernel)
theorem dX0_countAt_9 : decode cX0_countAt 9 = .ok (.if_icmp .ge 22, 3) := oc_162 (a := 0) (b := 22) (by decide +kernel)
theorem dX0_countAt_31 : decode cX0_countAt 31 = .ok (.iload_n 2, 1) := oc_28 (by decide +kernel)
theorem dX0_countAt_32 : decode cX0_countAt 32 = .ok (.ireturn, 1) := oc_172 (by decide +kernel)
theorem dX0_countAt_12 : decode cX0_countAt 12 = .ok (.aload_n 0, 1) := oc_42 (by decide +kernel)
theorem dX0_countAt_13 : decode cX0_countAt 13 = .ok (.getfield 24, 3) := oc_180 (a := 0) (b := 24) (by decide +kernel)
theorem dX0_countAt_16 : decode cX0_countAt 16 = .ok (.iload_n 3, 1) := oc_29 (by decide +kernel)
theorem dX0_countAt_17 : decode cX0_countAt 17 = .ok (.iaload, 1) := oc_46 (by decide +kernel)
theorem dX0_countAt_18 : decode cX0_countAt 18 = .ok (.iload_n 1, 1) := oc_27 (by decide +kernel)
theorem dX0_countAt_25 : decode cX0_countAt 25 = .ok (.iinc 3 1, 3) := oc_132 (b := 1) (by decide +kernel)
theorem dX0_countAt_28 : decode cX0_countAt 28 = .ok (.goto (-24), 3) := oc_167 (a := 255) (b := 232) (by decide +kernel)
theorem dX0_countAt_19 : decode cX0_countAt 19 = .ok (.if_icmp .ne 6, 3) := oc_160 (a := 0) (b := 6) (by decide +kernel)
theorem dX0_countAt_22 : decode cX0_countAt 22 = .ok (.iinc 2 1, 3) := oc_132 (b := 1) (by decide +kernel)
set_option maxHeartbeats 4000000 in
set_option maxRecDepth 100000 in
theorem s_X11_copy_1_1 (l : Launch) (D : va_G) (t : pq_T) (σ : pq_S) (I : Nat → Nat → Int32) (J : Nat → Nat → Int64) (ri : Nat → Nat → Int32) (rj : Nat → Nat → Int64) (rq : Nat → Nat → Option Nat) (sz : Nat) (tg : Nat → Nat) (hSH : SH σ tg) (hG0 : GS tg σ I ri rq) (a0 : Nat) (a1 : Nat) (hL_a0 : a0 ∈ σ.1) (hK_a0 : σ.2.1 a0 = 13) (hN_a0 : σ.2.2.2 a0 = 40) (hT_a0 : tg a0 = 1) (hL_a1 : a1 ∈ σ.1) (hK_a1 : σ.2.1 a1 = 13) (hN_a1 : σ.2.2.2 a1 = 40) (hT_a1 : tg a1 = 1) : MetV l yX11_copy (wa yX11_copy cX11_copy 2 none) ({ frames := 1, cells := 0, slots := 0, locals := 60 }) [.ref a0, .ref a1] D t σ (I, J, ri, rj, rq) sz 0 0 (fun (u : pq_S × pq_M) => ∃ ri' : Nat → Nat → Int32, u = (σ, I, J, ri', rj, rq) ∧ GX [] tg σ I ri rj I ri' rj rq ∧ (∀ j, j < 40 → ri' a1 j = ri a0 j) ∧ (∀ q, q ≠ a1 → ri' q = ri q) ∧ (ri' = va_up ri a1 (va_cpy (ri a0) (ri a1) 0 0 40))) := by
  refine Met.ofW (cc := cX11_copy) (maxL := 2) (ret := none) (by decide +kernel) rfl ?_
  intro p e s m args below meth c s₁ B hml hv
  obtain ⟨rfl, hsz, hP, hK, hD0, hN⟩ := hv
  have hx := B.exec
  have hb := B.bytes
  have hr := B.returns
  have hts := atoms_spec (ws := (wa yX11_copy cX11_copy 2 none)) B.pre
  have hown : s.vm.findClass RX11 = some m.cls := findClass_of_methodNamed B.named
  have hlocks := B.notSynchronized
  subst hsz
  have hD : va_D (pq_B t σ (I, J, ri, rj, rq) s.heap.size) (pq_P t σ (I, J, ri, rj, rq)) := hD0.self
  generalize hAe : pq_B t σ (I, J, ri, rj, rq) s.heap.size = A at hD ⊢
  have hA : ∀ q : Nat, s.heap.size ≤ q → A q := fun q h => by rw [← hAe]; exact Or.inr h
  have hS : va_S A s.heap s.heap [] := va_S.rf
  have hG : GX [] tg σ I ri rj I ri rj rq := ⟨hG0, fun _ _ _ => rfl, fun _ _ _ _ _ => rfl, fun _ _ _ _ _ => rfl⟩
  have hl := lv_entry ([.ref a0, .ref a1]) (n := 2) (Nat.le_of_ble_eq_true rfl)
  rw [lg_entry_eq]
  generalize (lg_sl ([.ref a0, .ref a1]) ++ List.replicate (2 - (lg_sl ([.ref a0, .ref a1])).length) Slot.unset).toArray = ls at hl ⊢
  have hl : lv_has ls 2 [(0, .ref a0), (1, .ref a1)] := hl
  refine q_gen (fun Q hQ => ?_)
  have go : ∀ (H : Heap) (locs : List Loc) (ls : Array Slot), va_P D vwCl (pq_P t σ (I, J, ri, rj, rq)) H → va_D A (pq_P t σ (I, J, ri, rj, rq)) → va_S A s.heap H locs → lv_has ls 2 [(0, .ref a0), (1, .ref a1)] → W p l e ({ frames := 1, cells := 0, slots := 0, locals := 60 } : Room) s m (List.toArray ([.ref a0, .ref a1] : List Value)) below meth c H locs 0 0 Q (F0 m 0 ls []) := by
    intro H locs ls hP hD hS hl
    refine lv_aload_n hx hb dX11_copy_0 rfl (lv_at hl 0 rfl) ?_
    refine lv_iconst (v := 0) hx hb dX11_copy_1 (by decide +kernel) ?_
    refine lv_aload_n hx hb dX11_copy_2 rfl (lv_at hl 1 rfl) ?_
    refine lv_iconst (v := 0) hx hb dX11_copy_3 (by decide +kernel) ?_
    refine lv_aload_n hx hb dX11_copy_4 rfl (lv_at hl 0 rfl) ?_
    refine pn_i (v := 40) hx hb hK hP hL_a0 hK_a0 hN_a0 (by decide +kernel) dX11_copy_5 ?_
    refine lv_aload_n hx hb dX11_copy_6 rfl (lv_at hl 1 rfl) ?_
    refine pn_i (v := 40) hx hb hK hP hL_a1 hK_a1 hN_a1 (by decide +kernel) dX11_copy_7 ?_
    refine va_mmin hx hb (hml.trans hl.1.symm) hown (hts _ (tw_c tw_1103)) (hts _ (tw_c tw_467)) (hts _ (tw_c tw_276)) (hts _ (tw_c tw_468)) (Nat.le_of_ble_eq_true rfl) (Nat.le_of_ble_eq_true rfl) (Nat.zero_le _) (Nat.zero_le _) dX11_copy_8 ?_
    refine lv_topi (fun x_1 ex_1 => ?_)
    have h_2 : rg x_1 40 40 := rg_of_eq ex_1 (rg_min2 (rg_k (40 : Int32) 40 rfl) (rg_k (40 : Int32) 40 rfl) (by decide +kernel))
    refine pc_i hx hb (hml.trans hl.1.symm) hown (hts _ (tw_c tw_1104)) (hts _ (tw_c tw_1105)) (hts _ (tw_c tw_1106)) (hts _ (tw_c tw_1107)) hK hP hD hS hL_a0 hK_a0 hN_a0 hL_a1 hK_a1 hN_a1 (rg_pos (rg_k (0 : Int32) 0 rfl) (by decide +kernel)) (rg_pos h_2 (by decide +kernel)) (rg_cp (rg_k (0 : Int32) 0 rfl) h_2 (by decide +kernel)) (rg_cl h_2 (by decide +kernel)) (Nat.le_of_ble_eq_true rfl) (Nat.le_of_ble_eq_true rfl) dX11_copy_11 (fun r_3 H locs er_3 hP hD hS => ?_)
    have hG := GX.cR hG hSH hT_a0 rfl hT_a1 rfl er_3 (by decide +kernel)
    subst hQ
    exact W.vret hx hb hr (fun t1 ht hW => ⟨⟨(σ, I, J, r_3, rj, rq), rfl, ⟨r_3, rfl, hG, (cpy_eq er_3 h_2 rfl), (fun q hq => by rw [er_3, va_up_ne _ _ hq]), (by rw [er_3, show (x_1).toNatClampNeg = 40 from by have z_i := clampE x_1; have z_r := h_2; have z_1 := z_r.1; have z_2 := z_r.2; omega]; rfl)⟩, by rw [ht]; exact hP, va_K.moved hW.alike hK, hD⟩, hS.F ht⟩) hS.2.2 dX11_copy_14
  exact go _ _ _ hP hD hS hl

set_option maxHeartbeats 4000000 in
set_option maxRecDepth 100000 in
theorem s_X11_copy_2_2 (l : Launch) (D : va_G) (t : pq_T) (σ : pq_S) (I : Nat → Nat → Int32) (J : Nat → Nat → Int64) (ri : Nat → Nat → Int32) (rj : Nat → Nat → Int64) (rq : Nat → Nat → Option Nat) (sz : Nat) (tg : Nat → Nat) (hSH : SH σ tg) (hG0 : GS tg σ I ri rq) (a0 : Nat) (a1 : Nat) (hL_a0 : a0 ∈ σ.1) (hK_a0 : σ.2.1 a0 = 13) (hN_a0 : σ.2.2.2 a0 = 40) (hT_a0 : tg a0 = 2) (hL_a1 : a1 ∈ σ.1) (hK_a1 : σ.2.1 a1 = 13) (hN_a1 : σ.2.2.2 a1 = 40) (hT_a1 : tg a1 = 2) : MetV l yX11_copy (wa yX11_copy cX11_copy 2 none) ({ frames := 1, cells := 0, slots := 0, locals := 60 }) [.ref a0, .ref a1] D t σ (I, J, ri, rj, rq) sz 0 0 (fun (u : pq_S × pq_M) => ∃ ri' : Nat → Nat → Int32, u = (σ, I, J, ri', rj, rq) ∧ GX [] tg σ I ri rj I ri' rj rq ∧ (∀ j, j < 40 → ri' a1 j = ri a0 j) ∧ (∀ q, q ≠ a1 → ri' q = ri q) ∧ (ri' = va_up ri a1 (va_cpy (ri a0) (ri a1) 0 0 40))) := by
  refine Met.ofW (cc := cX11_copy) (maxL := 2) (ret := none) (by decide +kernel) rfl ?_
  intro p e s m args below meth c s₁ B hml hv
  obtain ⟨rfl, hsz, hP, hK, hD0, hN⟩ := hv
  have hx := B.exec
  have hb := B.bytes
  have hr := B.returns
  have hts := atoms_spec (ws := (wa yX11_copy cX11_copy 2 none)) B.pre
  have hown : s.vm.findClass RX11 = some m.cls := findClass_of_methodNamed B.named
  have hlocks := B.notSynchronized
  subst hsz
  have hD : va_D (pq_B t σ (I, J, ri, rj, rq) s.heap.size) (pq_P t σ (I, J, ri, rj, rq)) := hD0.self
  generalize hAe : pq_B t σ (I, J, ri, rj, rq) s.heap.size = A at hD ⊢
  have hA : ∀ q : Nat, s.heap.size ≤ q → A q := fun q h => by rw [← hAe]; exact Or.inr h
  have hS : va_S A s.heap s.heap [] := va_S.rf
  have hG : GX [] tg σ I ri rj I ri rj rq := ⟨hG0, fun _ _ _ => rfl, fun _ _ _ _ _ => rfl, fun _ _ _ _ _ => rfl⟩
  have hl := lv_entry ([.ref a0, .ref a1]) (n := 2) (Nat.le_of_ble_eq_true rfl)
  rw [lg_entry_eq]
  generalize (lg_sl ([.ref a0, .ref a1]) ++ List.replicate (2 - (lg_sl ([.ref a0, .ref a1])).length) Slot.unset).toArray = ls at hl ⊢
  have hl : lv_has ls 2 [(0, .ref a0), (1, .ref a1)] := hl
  refine q_gen (fun Q hQ => ?_)
  have go : ∀ (H : Heap) (locs : List Loc) (ls : Array Slot), va_P D vwCl (pq_P t σ (I, J, ri, rj, rq)) H → va_D A (pq_P t σ (I, J, ri, rj, rq)) → va_S A s.heap H locs → lv_has ls 2 [(0, .ref a0), (1, .ref a1)] → W p l e ({ frames := 1, cells := 0, slots := 0, locals := 60 } : Room) s m (List.toArray ([.ref a0, .ref a1] : List Value)) below meth c H locs 0 0 Q (F0 m 0 ls []) := by
    intro H locs ls hP hD hS hl
    refine lv_aload_n hx hb dX11_copy_0 rfl (lv_at hl 0 rfl) ?_
    refine lv_iconst (v := 0) hx hb dX11_copy_1 (by decide +kernel) ?_
    refine lv_aload_n hx hb dX11_copy_2 rfl (lv_at hl 1 rfl) ?_
    refine lv_iconst (v := 0) hx hb dX11_copy_3 (by decide +kernel) ?_
    refine lv_aload_n hx hb dX11_copy_4 rfl (lv_at hl 0 rfl) ?_
    refine pn_i (v := 40) hx hb hK hP hL_a0 hK_a0 hN_a0 (by decide +kernel) dX11_copy_5 ?_
    refine lv_aload_n hx hb dX11_copy_6 rfl (lv_at hl 1 rfl) ?_
    refine pn_i (v := 40) hx hb hK hP hL_a1 hK_a1 hN_a1 (by decide +kernel) dX11_copy_7 ?_
    refine va_mmin hx hb (hml.trans hl.1.symm) hown (hts _ (tw_c tw_1103)) (hts _ (tw_c tw_467)) (hts _ (tw_c tw_276)) (hts _ (tw_c tw_468)) (Nat.le_of_ble_eq_true rfl) (Nat.le_of_ble_eq_true rfl) (Nat.zero_le _) (Nat.zero_le _) dX11_copy_8 ?_
    refine lv_topi (fun x_1 ex_1 => ?_)
    have h_2 : rg x_1 40 40 := rg_of_eq ex_1 (rg_min2 (rg_k (40 : Int32) 40 rfl) (rg_k (40 : Int32) 40 rfl) (by decide +kernel))
    refine pc_i hx hb (hml.trans hl.1.symm) hown (hts _ (tw_c tw_1104)) (hts _ (tw_c tw_1105)) (hts _ (tw_c tw_1106)) (hts _ (tw_c tw_1107)) hK hP hD hS hL_a0 hK_a0 hN_a0 hL_a1 hK_a1 hN_a1 (rg_pos (rg_k (0 : Int32) 0 rfl) (by decide +kernel)) (rg_pos h_2 (by decide +kernel)) (rg_cp (rg_k (0 : Int32) 0 rfl) h_2 (by decide +kernel)) (rg_cl h_2 (by decide +kernel)) (Nat.le_of_ble_eq_true rfl) (Nat.le_of_ble_eq_true rfl) dX11_copy_11 (fun r_3 H locs er_3 hP hD hS => ?_)
    have hG := GX.cR hG hSH hT_a0 rfl hT_a1 rfl er_3 (by decide +kernel)
    subst hQ
    exact W.vret hx hb hr (fun t1 ht hW => ⟨⟨(σ, I, J, r_3, rj, rq), rfl, ⟨r_3, rfl, hG, (cpy_eq er_3 h_2 rfl), (fun q hq => by rw [er_3, va_up_ne _ _ hq]), (by rw [er_3, show (x_1).toNatClampNeg = 40 from by have z_i := clampE x_1; have z_r := h_2; have z_1 := z_r.1; have z_2 := z_r.2; omega]; rfl)⟩, by rw [ht]; exact hP, va_K.moved hW.alike hK, hD⟩, hS.F ht⟩) hS.2.2 dX11_copy_14
  exact go _ _ _ hP hD hS hl

set_option maxHeartbeats 4000000 in
set_option maxRecDepth 100000 in
theorem s_X11_copy_3_3 (l : Launch) (D : va_G) (t : pq_T) (σ : pq_S) (I : Nat → Nat → Int32) (J : Nat → Nat → Int64) (ri : Nat → Nat → Int32) (rj : Nat → Nat → Int64) (rq : Nat → Nat → Option Nat) (sz : Nat) (tg : Nat → Nat) (hSH : SH σ tg) (hG0 : GS tg σ I ri rq) (a0 : Nat) (a1 : Nat) (hL_a0 : a0 ∈ σ.1) (hK_a0 : σ.2.1 a0 = 13) (hN_a0 : σ.2.2.2 a0 = 40) (hT_a0 : tg a0 = 3) (hL_a1 : a1 ∈ σ.1) (hK_a1 : σ.2.1 a1 = 13) (hN_a1 : σ.2.2.2 a1 = 40) (hT_a1 : tg a1 = 3) : MetV l yX11_copy (wa yX11_copy cX11_copy 2 none) ({ frames := 1, cells := 0, slots := 0, locals := 60 }) [.ref a0, .ref a1] D t σ (I, J, ri, rj, rq) sz 0 0 (fun (u : pq_S × pq_M) => ∃ ri' : Nat → Nat → Int32, u = (σ, I, J, ri', rj, rq) ∧ GX [] tg σ I ri rj I ri' rj rq ∧ (∀ j, j < 40 → ri' a1 j = ri a0 j) ∧ (∀ q, q ≠ a1 → ri' q = ri q) ∧ (ri' = va_up ri a1 (va_cpy (ri a0) (ri a1) 0 0 40))) := by
  refine Met.ofW (cc := cX11_copy) (maxL := 2) (ret := none) (by decide +kernel) rfl ?_
  intro p e s m args below meth c s₁ B hml hv
  obtain ⟨rfl, hsz, hP, hK, hD0, hN⟩ := hv
  have hx := B.exec
  have hb := B.bytes
  have hr := B.returns
  have hts := atoms_spec (ws := (wa yX11_copy cX11_copy 2 none)) B.pre
  have hown : s.vm.findClass RX11 = some m.cls := findClass_of_methodNamed B.named
  have hlocks := B.notSynchronized
  subst hsz
  have hD : va_D (pq_B t σ (I, J, ri, rj, rq) s.heap.size) (pq_P t σ (I, J, ri, rj, rq)) := hD0.self
  generalize hAe : pq_B t σ (I, J, ri, rj, rq) s.heap.size = A at hD ⊢
  have hA : ∀ q : Nat, s.heap.size ≤ q → A q := fun q h => by rw [← hAe]; exact Or.inr h
  have hS : va_S A s.heap s.heap [] := va_S.rf
  have hG : GX [] tg σ I ri rj I ri rj rq := ⟨hG0, fun _ _ _ => rfl, fun _ _ _ _ _ => rfl, fun _ _ _ _ _ => rfl⟩
  have hl := lv_entry ([.ref a0, .ref a1]) (n := 2) (Nat.le_of_ble_eq_true rfl)
  rw [lg_entry_eq]
  generalize (lg_sl ([.ref a0, .ref a1]) ++ List.replicate (2 - (lg_sl ([.ref a0, .ref a1])).length) Slot.unset).toArray = ls at hl ⊢
  have hl : lv_has ls 2 [(0, .ref a0), (1, .ref a1)] := hl
  refine q_gen (fun Q hQ => ?_)
  have go : ∀ (H : Heap) (locs : List Loc) (ls : Array Slot), va_P D vwCl (pq_P t σ (I, J, ri, rj, rq)) H → va_D A (pq_P t σ (I, J, ri, rj, rq)) → va_S A s.heap H locs → lv_has ls 2 [(0, .ref a0), (1, .ref a1)] → W p l e ({ frames := 1, cells := 0, slots := 0, locals := 60 } : Room) s m (List.toArray ([.ref a0, .ref a1] : List Value)) below meth c H locs 0 0 Q (F0 m 0 ls []) := by
    intro H locs ls hP hD hS hl
    refine lv_aload_n hx hb dX11_copy_0 rfl (lv_at hl 0 rfl) ?_
    refine lv_iconst (v := 0) hx hb dX11_copy_1 (by decide +kernel) ?_
    refine lv_aload_n hx hb dX11_copy_2 rfl (lv_at hl 1 rfl) ?_
    refine lv_iconst (v := 0) hx hb dX11_copy_3 (by decide +kernel) ?_
    refine lv_aload_n hx hb dX11_copy_4 rfl (lv_at hl 0 rfl) ?_
    refine pn_i (v := 40) hx hb hK hP hL_a0 hK_a0 hN_a0 (by decide +kernel) dX11_copy_5 ?_
    refine lv_aload_n hx hb dX11_copy_6 rfl (lv_at hl 1 rfl) ?_
    refine pn_i (v := 40) hx hb hK hP hL_a1 hK_a1 hN_a1 (by decide +kernel) dX11_copy_7 ?_
    refine va_mmin hx hb (hml.trans hl.1.symm) hown (hts _ (tw_c tw_1103)) (hts _ (tw_c tw_467)) (hts _ (tw_c tw_276)) (hts _ (tw_c tw_468)) (Nat.le_of_ble_eq_true rfl) (Nat.le_of_ble_eq_true rfl) (Nat.zero_le _) (Nat.zero_le _) dX11_copy_8 ?_
    refine lv_topi (fun x_1 ex_1 => ?_)
    have h_2 : rg x_1 40 40 := rg_of_eq ex_1 (rg_min2 (rg_k (40 : Int32) 40 rfl) (rg_k (40 : Int32) 40 rfl) (by decide +kernel))
    refine pc_i hx hb (hml.trans hl.1.symm) hown (hts _ (tw_c tw_1104)) (hts _ (tw_c tw_1105)) (hts _ (tw_c tw_1106)) (hts _ (tw_c tw_1107)) hK hP hD hS hL_a0 hK_a0 hN_a0 hL_a1 hK_a1 hN_a1 (rg_pos (rg_k (0 : Int32) 0 rfl) (by decide +kernel)) (rg_pos h_2 (by decide +kernel)) (rg_cp (rg_k (0 : Int32) 0 rfl) h_2 (by decide +kernel)) (rg_cl h_2 (by decide +kernel)) (Nat.le_of_ble_eq_true rfl) (Nat.le_of_ble_eq_true rfl) dX11_copy_11 (fun r_3 H locs er_3 hP hD hS => ?_)
    have hG := GX.cR hG hSH hT_a0 rfl hT_a1 rfl er_3 (by decide +kernel)
    subst hQ
    exact W.vret hx hb hr (fun t1 ht hW => ⟨⟨(σ, I, J, r_3, rj, rq), rfl, ⟨r_3, rfl, hG, (cpy_eq er_3 h_2 rfl), (fun q hq => by rw [er_3, va_up_ne _ _ hq]), (by rw [er_3, show (x_1).toNatClampNeg = 40 from by have z_i := clampE x_1; have z_r := h_2; have z_1 := z_r.1; have z_2 := z_r.2; omega]; rfl)⟩, by rw [ht]; exact hP, va_K.moved hW.alike hK, hD⟩, hS.F ht⟩) hS.2.2 dX11_copy_14
  exact go _ _ _ hP hD hS hl

set_option maxHeartbeats 4000000 in
set_option maxRecDepth 100000 in
theorem s_X11_copy_4_4 (l : Launch) (D : va_G) (t : pq_T) (σ : pq_S) (I : Nat → Nat → Int32) (J : Nat → Nat → Int64) (ri : Nat → Nat → Int32) (rj : Nat → Nat → Int64) (rq : Nat → Nat → Option Nat) (sz : Nat) (tg : Nat → Nat) (hSH : SH σ tg) (hG0 : GS tg σ I ri rq) (a0 : Nat) (a1 : Nat) (hL_a0 : a0 ∈ σ.1) (hK_a0 : σ.2.1 a0 = 13) (hN_a0 : σ.2.2.2 a0 = 40) (hT_a0 : tg a0 = 4) (hL_a1 : a1 ∈ σ.1) (hK_a1 : σ.2.1 a1 = 13) (hN_a1 : σ.2.2.2 a1 = 40) (hT_a1 : tg a1 = 4) : MetV l yX11_copy (wa yX11_copy cX11_copy 2 none) ({ frames := 1, cells := 0, slots := 0, locals := 60 }) [.ref a0, .ref a1] D t σ (I, J, ri, rj, rq) sz 0 0 (fun (u : pq_S × pq_M) => ∃ ri' : Nat → Nat → Int32, u = (σ, I, J, ri', rj, rq) ∧ GX [] tg σ I ri rj I ri' rj rq ∧ (∀ j, j < 40 → ri' a1 j = ri a0 j) ∧ (∀ q, q ≠ a1 → ri' q = ri q) ∧ (ri' = va_up ri a1 (va_cpy (ri a0) (ri a1) 0 0 40))) := by
  refine Met.ofW (cc := cX11_copy) (maxL := 2) (ret := none) (by decide +kernel) rfl ?_
  intro p e s m args below meth c s₁ B hml hv
  obtain ⟨rfl, hsz, hP, hK, hD0, hN⟩ := hv
  have hx := B.exec
  have hb := B.bytes
  have hr := B.returns
  have hts := atoms_spec (ws := (wa yX11_copy cX11_copy 2 none)) B.pre
  have hown : s.vm.findClass RX11 = some m.cls := findClass_of_methodNamed B.named
  have hlocks := B.notSynchronized
  subst hsz
  have hD : va_D (pq_B t σ (I, J, ri, rj, rq) s.heap.size) (pq_P t σ (I, J, ri, rj, rq)) := hD0.self
  generalize hAe : pq_B t σ (I, J, ri, rj, rq) s.heap.size = A at hD ⊢
  have hA : ∀ q : Nat, s.heap.size ≤ q → A q := fun q h => by rw [← hAe]; exact Or.inr h
  have hS : va_S A s.heap s.heap [] := va_S.rf
  have hG : GX [] tg σ I ri rj I ri rj rq := ⟨hG0, fun _ _ _ => rfl, fun _ _ _ _ _ => rfl, fun _ _ _ _ _ => rfl⟩
  have hl := lv_entry ([.ref a0, .ref a1]) (n := 2) (Nat.le_of_ble_eq_true rfl)
  rw [lg_entry_eq]
  generalize (lg_sl ([.ref a0, .ref a1]) ++ List.replicate (2 - (lg_sl ([.ref a0, .ref a1])).length) Slot.unset).toArray = ls at hl ⊢
  have hl : lv_has ls 2 [(0, .ref a0), (1, .ref a1)] := hl
  refine q_gen (fun Q hQ => ?_)
  have go : ∀ (H : Heap) (locs : List Loc) (ls : Array Slot), va_P D vwCl (pq_P t σ (I, J, ri, rj, rq)) H → va_D A (pq_P t σ (I, J, ri, rj, rq)) → va_S A s.heap H locs → lv_has ls 2 [(0, .ref a0), (1, .ref a1)] → W p l e ({ frames := 1, cells := 0, slots := 0, locals := 60 } : Room) s m (List.toArray ([.ref a0, .ref a1] : List Value)) below meth c H locs 0 0 Q (F0 m 0 ls []) := by
    intro H locs ls hP hD hS hl
    refine lv_aload_n hx hb dX11_copy_0 rfl (lv_at hl 0 rfl) ?_
    refine lv_iconst (v := 0) hx hb dX11_copy_1 (by decide +kernel) ?_
    refine lv_aload_n hx hb dX11_copy_2 rfl (lv_at hl 1 rfl) ?_
    refine lv_iconst (v := 0) hx hb dX11_copy_3 (by decide +kernel) ?_
    refine lv_aload_n hx hb dX11_copy_4 rfl (lv_at hl 0 rfl) ?_
    refine pn_i (v := 40) hx hb hK hP hL_a0 hK_a0 hN_a0 (by decide +kernel) dX11_copy_5 ?_
    refine lv_aload_n hx hb dX11_copy_6 rfl (lv_at hl 1 rfl) ?_
    refine pn_i (v := 40) hx hb hK hP hL_a1 hK_a1 hN_a1 (by decide +kernel) dX11_copy_7 ?_
    refine va_mmin hx hb (hml.trans hl.1.symm) hown (hts _ (tw_c tw_1103)) (hts _ (tw_c tw_467)) (hts _ (tw_c tw_276)) (hts _ (tw_c tw_468)) (Nat.le_of_ble_eq_true rfl) (Nat.le_of_ble_eq_true rfl) (Nat.zero_le _) (Nat.zero_le _) dX11_copy_8 ?_
    refine lv_topi (fun x_1 ex_1 => ?_)
    have h_2 : rg x_1 40 40 := rg_of_eq ex_1 (rg_min2 (rg_k (40 : Int32) 40 rfl) (rg_k (40 : Int32) 40 rfl) (by decide +kernel))
    refine pc_i hx hb (hml.trans hl.1.symm) hown (hts _ (tw_c tw_1104)) (hts _ (tw_c tw_1105)) (hts _ (tw_c tw_1106)) (hts _ (tw_c tw_1107)) hK hP hD hS hL_a0 hK_a0 hN_a0 hL_a1 hK_a1 hN_a1 (rg_pos (rg_k (0 : Int32) 0 rfl) (by decide +kernel)) (rg_pos h_2 (by decide +kernel)) (rg_cp (rg_k (0 : Int32) 0 rfl) h_2 (by decide +kernel)) (rg_cl h_2 (by decide +kernel)) (Nat.le_of_ble_eq_true rfl) (Nat.le_of_ble_eq_true rfl) dX11_copy_11 (fun r_3 H locs er_3 hP hD hS => ?_)
    have hG := GX.cR hG hSH hT_a0 rfl hT_a1 rfl er_3 (by decide +kernel)
    subst hQ
    exact W.vret hx hb hr (fun t1 ht hW => ⟨⟨(σ, I, J, r_3, rj, rq), rfl, ⟨r_3, rfl, hG, (cpy_eq er_3 h_2 rfl), (fun q hq => by rw [er_3, va_up_ne _ _ hq]), (by rw [er_3, show (x_1).toNatClampNeg = 40 from by have z_i := clampE x_1; have z_r := h_2; have z_1 := z_r.1; have z_2 := z_r.2; omega]; rfl)⟩, by rw [ht]; exact hP, va_K.moved hW.alike hK, hD⟩, hS.F ht⟩) hS.2.2 dX11_copy_14
  exact go _ _ _ hP hD hS hl

set_option maxHeartbeats 4000000 in
set_option maxRecDepth 100000 in
theorem s_X11_copy_5_5 (l : Launch) (D : va_G) (t : pq_T) (σ : pq_S) (I : Nat → Nat → Int32) (J : Nat → Nat → Int64) (ri : Nat → Nat → Int32) (rj : Nat → Nat → Int64) (rq : Nat → Nat → Option Nat) (sz : Nat) (tg : Nat → Nat) (hSH : SH σ tg) (hG0 : GS tg σ I ri rq) (a0 : Nat) (a1 : Nat) (hL_a0 : a0 ∈ σ.1) (hK_a0 : σ.2.1 a0 = 13) (hN_a0 : σ.2.2.2 a0 = 40) (hT_a0 : tg a0 = 5) (hL_a1 : a1 ∈ σ.1) (hK_a1 : σ.2.1 a1 = 13) (hN_a1 : σ.2.2.2 a1 = 40) (hT_a1 : tg a1 = 5) : MetV l yX11_copy (wa yX11_copy cX11_copy 2 none) ({ frames := 1, cells := 0, slots := 0, locals := 60 }) [.ref a0, .ref a1] D t σ (I, J, ri, rj, rq) sz 0 0 (fun (u : pq_S × pq_M) => ∃ ri' : Nat → Nat → Int32, u = (σ, I, J, ri', rj, rq) ∧ GX [1005] tg σ I ri rj I ri' rj rq ∧ (∀ j, j < 40 → ri' a1 j = ri a0 j) ∧ (∀ q, q ≠ a1 → ri' q = ri q) ∧ (ri' = va_up ri a1 (va_cpy (ri a0) (ri a1) 0 0 40))) := by
  refine Met.ofW (cc := cX11_copy) (maxL := 2) (ret := none) (by decide +kernel) rfl ?_
  intro p e s m args below meth c s₁ B hml hv
  obtain ⟨rfl, hsz, hP, hK, hD0, hN⟩ := hv
  have hx := B.exec
  have hb := B.bytes
  have hr := B.returns
  have hts := atoms_spec (ws := (wa yX11_copy cX11_copy 2 none)) B.pre
  have hown : s.vm.findClass RX11 = some m.cls := findClass_of_methodNamed B.named
  have hlocks := B.notSynchronized
  subst hsz
  have hD : va_D (pq_B t σ (I, J, ri, rj, rq) s.heap.size) (pq_P t σ (I, J, ri, rj, rq)) := hD0.self
  generalize hAe : pq_B t σ (I, J, ri, rj, rq) s.heap.size = A at hD ⊢
  have hA : ∀ q : Nat, s.heap.size ≤ q → A q := fun q h => by rw [← hAe]; exact Or.inr h
  have hS : va_S A s.heap s.heap [] := va_S.rf
  have hG : GX [1005] tg σ I ri rj I ri rj rq := ⟨hG0, fun _ _ _ => rfl, fun _ _ _ _ _ => rfl, fun _ _ _ _ _ => rfl⟩
  have hl := lv_entry ([.ref a0, .ref a1]) (n := 2) (Nat.le_of_ble_eq_true rfl)
  rw [lg_entry_eq]
  generalize (lg_sl ([.ref a0, .ref a1]) ++ List.replicate (2 - (lg_sl ([.ref a0, .ref a1])).length) Slot.unset).toArray = ls at hl ⊢
  have hl : lv_has ls 2 [(0, .ref a0), (1, .ref a1)] := hl
  refine q_gen (fun Q hQ => ?_)
  have go : ∀ (H : Heap) (locs : List Loc) (ls : Array Slot), va_P D vwCl (pq_P t σ (I, J, ri, rj, rq)) H → va_D A (pq_P t σ (I, J, ri, rj, rq)) → va_S A s.heap H locs → lv_has ls 2 [(0, .ref a0), (1, .ref a1)] → W p l e ({ frames := 1, cells := 0, slots := 0, locals := 60 } : Room) s m (List.toArray ([.ref a0, .ref a1] : List Value)) below meth c H locs 0 0 Q (F0 m 0 ls []) := by
    intro H locs ls hP hD hS hl
    refine lv_aload_n hx hb dX11_copy_0 rfl (lv_at hl 0 rfl) ?_
    refine lv_iconst (v := 0) hx hb dX11_copy_1 (by decide +kernel) ?_
    refine lv_aload_n hx hb dX11_copy_2 rfl (lv_at hl 1 rfl) ?_
    refine lv_iconst (v := 0) hx hb dX11_copy_3 (by decide +kernel) ?_
    refine lv_aload_n hx hb dX11_copy_4 rfl (lv_at hl 0 rfl) ?_
    refine pn_i (v := 40) hx hb hK hP hL_a0 hK_a0 hN_a0 (by decide +kernel) dX11_copy_5 ?_
    refine lv_aload_n hx hb dX11_copy_6 rfl (lv_at hl 1 rfl) ?_
    refine pn_i (v := 40) hx hb hK hP hL_a1 hK_a1 hN_a1 (by decide +kernel) dX11_copy_7 ?_
    refine va_mmin hx hb (hml.trans hl.1.symm) hown (hts _ (tw_c tw_1103)) (hts _ (tw_c tw_467)) (hts _ (tw_c tw_276)) (hts _ (tw_c tw_468)) (Nat.le_of_ble_eq_true rfl) (Nat.le_of_ble_eq_true rfl) (Nat.zero_le _) (Nat.zero_le _) dX11_copy_8 ?_
    refine lv_topi (fun x_1 ex_1 => ?_)
    have h_2 : rg x_1 40 40 := rg_of_eq ex_1 (rg_min2 (rg_k (40 : Int32) 40 rfl) (rg_k (40 : Int32) 40 rfl) (by decide +kernel))
    refine pc_i hx hb (hml.trans hl.1.symm) hown (hts _ (tw_c tw_1104)) (hts _ (tw_c tw_1105)) (hts _ (tw_c tw_1106)) (hts _ (tw_c tw_1107)) hK hP hD hS hL_a0 hK_a0 hN_a0 hL_a1 hK_a1 hN_a1 (rg_pos (rg_k (0 : Int32) 0 rfl) (by decide +kernel)) (rg_pos h_2 (by decide +kernel)) (rg_cp (rg_k (0 : Int32) 0 rfl) h_2 (by decide +kernel)) (rg_cl h_2 (by decide +kernel)) (Nat.le_of_ble_eq_true rfl) (Nat.le_of_ble_eq_true rfl) dX11_copy_11 (fun r_3 H locs er_3 hP hD hS => ?_)
    have hG := GX.cR hG hSH hT_a0 rfl hT_a1 rfl er_3 (by decide +kernel)
    subst hQ
    exact W.vret hx hb hr (fun t1 ht hW => ⟨⟨(σ, I, J, r_3, rj, rq), rfl, ⟨r_3, rfl, hG, (cpy_eq er_3 h_2 rfl), (fun q hq => by rw [er_3, va_up_ne _ _ hq]), (by rw [er_3, show (x_1).toNatClampNeg = 40 from by have z_i := clampE x_1; have z_r := h_2; have z_1 := z_r.1; have z_2 := z_r.2; omega]; rfl)⟩, by rw [ht]; exact hP, va_K.moved hW.alike hK, hD⟩, hS.F ht⟩) hS.2.2 dX11_copy_14
  exact go _ _ _ hP hD hS hl

set_option maxHeartbeats 4000000 in
set_option maxRecDepth 100000 in
theorem s_X11_copy_6_6 (l : Launch) (D : va_G) (t : pq_T) (σ : pq_S) (I : Nat → Nat → Int32) (J : Nat → Nat → Int64) (ri : Nat → Nat → Int32) (rj : Nat → Nat → Int64) (rq : Nat → Nat → Option Nat) (sz : Nat) (tg : Nat → Nat) (hSH : SH σ tg) (hG0 : GS tg σ I ri rq) (a0 : Nat) (a1 : Nat) (hL_a0 : a0 ∈ σ.1) (hK_a0 : σ.2.1 a0 = 13) (hN_a0 : σ.2.2.2 a0 = 40) (hT_a0 : tg a0 = 6) (hL_a1 : a1 ∈ σ.1) (hK_a1 : σ.2.1 a1 = 13) (hN_a1 : σ.2.2.2 a1 = 40) (hT_a1 : tg a1 = 6) : MetV l yX11_copy (wa yX11_copy cX11_copy 2 none) ({ frames := 1, cells := 0, slots := 0, locals := 60 }) [.ref a0, .ref a1] D t σ (I, J, ri, rj, rq) sz 0 0 (fun (u : pq_S × pq_M) => ∃ ri' : Nat → Nat → Int32, u = (σ, I, J, ri', rj, rq) ∧ GX [] tg σ I ri rj I ri' rj rq ∧ (∀ j, j < 40 → ri' a1 j = ri a0 j) ∧ (∀ q, q ≠ a1 → ri' q = ri q) ∧ (ri' = va_up ri a1 (va_cpy (ri a0) (ri a1) 0 0 40))) := by
  refine Met.ofW (cc := cX11_copy) (maxL := 2) (ret := none) (by decide +kernel) rfl ?_
  intro p e s m args below meth c s₁ B hml hv
  obtain ⟨rfl, hsz, hP, hK, hD0, hN⟩ := hv
  have hx := B.exec
  have hb := B.bytes
  have hr := B.returns
  have hts := atoms_spec (ws := (wa yX11_copy cX11_copy 2 none)) B.pre
  have hown : s.vm.findClass RX11 = some m.cls := findClass_of_methodNamed B.named
  have hlocks := B.notSynchronized
  subst hsz
  have hD : va_D (pq_B t σ (I, J, ri, rj, rq) s.heap.size) (pq_P t σ (I, J, ri, rj, rq)) := hD0.self
  generalize hAe : pq_B t σ (I, J, ri, rj, rq) s.heap.size = A at hD ⊢
  have hA : ∀ q : Nat, s.heap.size ≤ q → A q := fun q h => by rw [← hAe]; exact Or.inr h
  have hS : va_S A s.heap s.heap [] := va_S.rf
  have hG : GX [] tg σ I ri rj I ri rj rq := ⟨hG0, fun _ _ _ => rfl, fun _ _ _ _ _ => rfl, fun _ _ _ _ _ => rfl⟩
  have hl := lv_entry ([.ref a0, .ref a1]) (n := 2) (Nat.le_of_ble_eq_true rfl)
  rw [lg_entry_eq]
  generalize (lg_sl ([.ref a0, .ref a1]) ++ List.replicate (2 - (lg_sl ([.ref a0, .ref a1])).length) Slot.unset).toArray = ls at hl ⊢
  have hl : lv_has ls 2 [(0, .ref a0), (1, .ref a1)] := hl
  refine q_gen (fun Q hQ => ?_)
  have go : ∀ (H : Heap) (locs : List Loc) (ls : Array Slot), va_P D vwCl (pq_P t σ (I, J, ri, rj, rq)) H → va_D A (pq_P t σ (I, J, ri, rj, rq)) → va_S A s.heap H locs → lv_has ls 2 [(0, .ref a0), (1, .ref a1)] → W p l e ({ frames := 1, cells := 0, slots := 0, locals := 60 } : Room) s m (List.toArray ([.ref a0, .ref a1] : List Value)) below meth c H locs 0 0 Q (F0 m 0 ls []) := by
    intro H locs ls hP hD hS hl
    refine lv_aload_n hx hb dX11_copy_0 rfl (lv_at hl 0 rfl) ?_
    refine lv_iconst (v := 0) hx hb dX11_copy_1 (by decide +kernel) ?_
    refine lv_aload_n hx hb dX11_copy_2 rfl (lv_at hl 1 rfl) ?_
    refine lv_iconst (v := 0) hx hb dX11_copy_3 (by decide +kernel) ?_
    refine lv_aload_n hx hb dX11_copy_4 rfl (lv_at hl 0 rfl) ?_
    refine pn_i (v := 40) hx hb hK hP hL_a0 hK_a0 hN_a0 (by decide +kernel) dX11_copy_5 ?_
    refine lv_aload_n hx hb dX11_copy_6 rfl (lv_at hl 1 rfl) ?_
    refine pn_i (v := 40) hx hb hK hP hL_a1 hK_a1 hN_a1 (by decide +kernel) dX11_copy_7 ?_
    refine va_mmin hx hb (hml.trans hl.1.symm) hown (hts _ (tw_c tw_1103)) (hts _ (tw_c tw_467)) (hts _ (tw_c tw_276)) (hts _ (tw_c tw_468)) (Nat.le_of_ble_eq_true rfl) (Nat.le_of_ble_eq_true rfl) (Nat.zero_le _) (Nat.zero_le _) dX11_copy_8 ?_
    refine lv_topi (fun x_1 ex_1 => ?_)
    have h_2 : rg x_1 40 40 := rg_of_eq ex_1 (rg_min2 (rg_k (40 : Int32) 40 rfl) (rg_k (40 : Int32) 40 rfl) (by decide +kernel))
    refine pc_i hx hb (hml.trans hl.1.symm) hown (hts _ (tw_c tw_1104)) (hts _ (tw_c tw_1105)) (hts _ (tw_c tw_1106)) (hts _ (tw_c tw_1107)) hK hP hD hS hL_a0 hK_a0 hN_a0 hL_a1 hK_a1 hN_a1 (rg_pos (rg_k (0 : Int32) 0 rfl) (by decide +kernel)) (rg_pos h_2 (by decide +kernel)) (rg_cp (rg_k (0 : Int32) 0 rfl) h_2 (by decide +kernel)) (rg_cl h_2 (by decide +kernel)) (Nat.le_of_ble_eq_true rfl) (Nat.le_of_ble_eq_true rfl) dX11_copy_11 (fun r_3 H locs er_3 hP hD hS => ?_)
    have hG := GX.cR hG hSH hT_a0 rfl hT_a1 rfl er_3 (by decide +kernel)
    subst hQ
    exact W.vret hx hb hr (fun t1 ht hW => ⟨⟨(σ, I, J, r_3, rj, rq), rfl, ⟨r_3, rfl, hG, (cpy_eq er_3 h_2 rfl), (fun q hq => by rw [er_3, va_up_ne _ _ hq]), (by rw [er_3, show (x_1).toNatClampNeg = 40 from by have z_i := clampE x_1; have z_r := h_2; have z_1 := z_r.1; have z_2 := z_r.2; omega]; rfl)⟩, by rw [ht]; exact hP, va_K.moved hW.alike hK, hD⟩, hS.F ht⟩) hS.2.2 dX11_copy_14
  exact go _ _ _ hP hD hS hl

set_option maxHeartbeats 4000000 in
set_option maxRecDepth 100000 in
theorem s_X11_copy_7_7 (l : Launch) (D : va_G) (t : pq_T) (σ : pq_S) (I : Nat → Nat → Int32) (J : Nat → Nat → Int64) (ri : Nat → Nat → Int32) (rj : Nat → Nat → Int64) (rq : Nat → Nat → Option Nat) (sz : Nat) (tg : Nat → Nat) (hSH : SH σ tg) (hG0 : GS tg σ I ri rq) (a0 : Nat) (a1 : Nat) (hL_a0 : a0 ∈ σ.1) (hK_a0 : σ.2.1 a0 = 13) (hN_a0 : σ.2.2.2 a0 = 40) (hT_a0 : tg a0 = 7) (hL_a1 : a1 ∈ σ.1) (hK_a1 : σ.2.1 a1 = 13) (hN_a1 : σ.2.2.2 a1 = 40) (hT_a1 : tg a1 = 7) : MetV l yX11_copy (wa yX11_copy cX11_copy 2 none) ({ frames := 1, cells := 0, slots := 0, locals := 60 }) [.ref a0, .ref a1] D t σ (I, J, ri, rj, rq) sz 0 0 (fun (u : pq_S × pq_M) => ∃ ri' : Nat → Nat → Int32, u = (σ, I, J, ri', rj, rq) ∧ GX [] tg σ I ri rj I ri' rj rq ∧ (∀ j, j < 40 → ri' a1 j = ri a0 j) ∧ (∀ q, q ≠ a1 → ri' q = ri q) ∧ (ri' = va_up ri a1 (va_cpy (ri a0) (ri a1) 0 0 40))) := by
  refine Met.ofW (cc := cX11_copy) (maxL := 2) (ret := none) (by decide +kernel) rfl ?_
  intro p e s m args below meth c s₁ B hml hv
  obtain ⟨rfl, hsz, hP, hK, hD0, hN⟩ := hv
  have hx := B.exec
  have hb := B.bytes
  have hr := B.returns
  have hts := atoms_spec (ws := (wa yX11_copy cX11_copy 2 none)) B.pre
  have hown : s.vm.findClass RX11 = some m.cls := findClass_of_methodNamed B.named
  have hlocks := B.notSynchronized
  subst hsz
  have hD : va_D (pq_B t σ (I, J, ri, rj, rq) s.heap.size) (pq_P t σ (I, J, ri, rj, rq)) := hD0.self
  generalize hAe : pq_B t σ (I, J, ri, rj, rq) s.heap.size = A at hD ⊢
  have hA : ∀ q : Nat, s.heap.size ≤ q → A q := fun q h => by rw [← hAe]; exact Or.inr h
  have hS : va_S A s.heap s.heap [] := va_S.rf
  have hG : GX [] tg σ I ri rj I ri rj rq := ⟨hG0, fun _ _ _ => rfl, fun _ _ _ _ _ => rfl, fun _ _ _ _ _ => rfl⟩
  have hl := lv_entry ([.ref a0, .ref a1]) (n := 2) (Nat.le_of_ble_eq_true rfl)
  rw [lg_entry_eq]
  generalize (lg_sl ([.ref a0, .ref a1]) ++ List.replicate (2 - (lg_sl ([.ref a0, .ref a1])).length) Slot.unset).toArray = ls at hl ⊢
  have hl : lv_has ls 2 [(0, .ref a0), (1, .ref a1)] := hl
  refine q_gen (fun Q hQ => ?_)
  have go : ∀ (H : Heap) (locs : List Loc) (ls : Array Slot), va_P D vwCl (pq_P t σ (I, J, ri, rj, rq)) H → va_D A (pq_P t σ (I, J, ri, rj, rq)) → va_S A s.heap H locs → lv_has ls 2 [(0, .ref a0), (1, .ref a1)] → W p l e ({ frames := 1, cells := 0, slots := 0, locals := 60 } : Room) s m (List.toArray ([.ref a0, .ref a1] : List Value)) below meth c H locs 0 0 Q (F0 m 0 ls []) := by
    intro H locs ls hP hD hS hl
    refine lv_aload_n hx hb dX11_copy_0 rfl (lv_at hl 0 rfl) ?_
    refine lv_iconst (v := 0) hx hb dX11_copy_1 (by decide +kernel) ?_
    refine lv_aload_n hx hb dX11_copy_2 rfl (lv_at hl 1 rfl) ?_
    refine lv_iconst (v := 0) hx hb dX11_copy_3 (by decide +kernel) ?_
    refine lv_aload_n hx hb dX11_copy_4 rfl (lv_at hl 0 rfl) ?_
    refine pn_i (v := 40) hx hb hK hP hL_a0 hK_a0 hN_a0 (by decide +kernel) dX11_copy_5 ?_
    refine lv_aload_n hx hb dX11_copy_6 rfl (lv_at hl 1 rfl) ?_
    refine pn_i (v := 40) hx hb hK hP hL_a1 hK_a1 hN_a1 (by decide +kernel) dX11_copy_7 ?_
    refine va_mmin hx hb (hml.trans hl.1.symm) hown (hts _ (tw_c tw_1103)) (hts _ (tw_c tw_467)) (hts _ (tw_c tw_276)) (hts _ (tw_c tw_468)) (Nat.le_of_ble_eq_true rfl) (Nat.le_of_ble_eq_true rfl) (Nat.zero_le _) (Nat.zero_le _) dX11_copy_8 ?_
    refine lv_topi (fun x_1 ex_1 => ?_)
    have h_2 : rg x_1 40 40 := rg_of_eq ex_1 (rg_min2 (rg_k (40 : Int32) 40 rfl) (rg_k (40 : Int32) 40 rfl) (by decide +kernel))
    refine pc_i hx hb (hml.trans hl.1.symm) hown (hts _ (tw_c tw_1104)) (hts _ (tw_c tw_1105)) (hts _ (tw_c tw_1106)) (hts _ (tw_c tw_1107)) hK hP hD hS hL_a0 hK_a0 hN_a0 hL_a1 hK_a1 hN_a1 (rg_pos (rg_k (0 : Int32) 0 rfl) (by decide +kernel)) (rg_pos h_2 (by decide +kernel)) (rg_cp (rg_k (0 : Int32) 0 rfl) h_2 (by decide +kernel)) (rg_cl h_2 (by decide +kernel)) (Nat.le_of_ble_eq_true rfl) (Nat.le_of_ble_eq_true rfl) dX11_copy_11 (fun r_3 H locs er_3 hP hD hS => ?_)
    have hG := GX.cR hG hSH hT_a0 rfl hT_a1 rfl er_3 (by decide +kernel)
    subst hQ
    exact W.vret hx hb hr (fun t1 ht hW => ⟨⟨(σ, I, J, r_3, rj, rq), rfl, ⟨r_3, rfl, hG, (cpy_eq er_3 h_2 rfl), (fun q hq => by rw [er_3, va_up_ne _ _ hq]), (by rw [er_3, show (x_1).toNatClampNeg = 40 from by have z_i := clampE x_1; have z_r := h_2; have z_1 := z_r.1; have z_2 := z_r.2; omega]; rfl)⟩, by rw [ht]; exact hP, va_K.moved hW.alike hK, hD⟩, hS.F ht⟩) hS.2.2 dX11_copy_14
  exact go _ _ _ hP hD hS hl

set_option maxHeartbeats 4000000 in
set_option maxRecDepth 100000 in
theorem s_X11_copy_8_8 (l : Launch) (D : va_G) (t : pq_T) (σ : pq_S) (I : Nat → Nat → Int32) (J : Nat → Nat → Int64) (ri : Nat → Nat → Int32) (rj : Nat → Nat → Int64) (rq : Nat → Nat → Option Nat) (sz : Nat) (tg : Nat → Nat) (hSH : SH σ tg) (hG0 : GS tg σ I ri rq) (a0 : Nat) (a1 : Nat) (hL_a0 : a0 ∈ σ.1) (hK_a0 : σ.2.1 a0 = 13) (hN_a0 : σ.2.2.2 a0 = 40) (hT_a0 : tg a0 = 8) (hL_a1 : a1 ∈ σ.1) (hK_a1 : σ.2.1 a1 = 13) (hN_a1 : σ.2.2.2 a1 = 40) (hT_a1 : tg a1 = 8) : MetV l yX11_copy (wa yX11_copy cX11_copy 2 none) ({ frames := 1, cells := 0, slots := 0, locals := 60 }) [.ref a0, .ref a1] D t σ (I, J, ri, rj, rq) sz 0 0 (fun (u : pq_S × pq_M) => ∃ ri' : Nat → Nat → Int32, u = (σ, I, J, ri', rj, rq) ∧ GX [] tg σ I ri rj I ri' rj rq ∧ (∀ j, j < 40 → ri' a1 j = ri a0 j) ∧ (∀ q, q ≠ a1 → ri' q = ri q) ∧ (ri' = va_up ri a1 (va_cpy (ri a0) (ri a1) 0 0 40))) := by
  refine Met.ofW (cc := cX11_copy) (maxL := 2) (ret := none) (by decide +kernel) rfl ?_
  intro p e s m args below meth c s₁ B hml hv
  obtain ⟨rfl, hsz, hP, hK, hD0, hN⟩ := hv
  have hx := B.exec
  have hb := B.bytes
  have hr := B.returns
  have hts := atoms_spec (ws := (wa yX11_copy cX11_copy 2 none)) B.pre
  have hown : s.vm.findClass RX11 = some m.cls := findClass_of_methodNamed B.named
  have hlocks := B.notSynchronized
  subst hsz
  have hD : va_D (pq_B t σ (I, J, ri, rj, rq) s.heap.size) (pq_P t σ (I, J, ri, rj, rq)) := hD0.self
  generalize hAe : pq_B t σ (I, J, ri, rj, rq) s.heap.size = A at hD ⊢
  have hA : ∀ q : Nat, s.heap.size ≤ q → A q := fun q h => by rw [← hAe]; exact Or.inr h
  have hS : va_S A s.heap s.heap [] := va_S.rf
  have hG : GX [] tg σ I ri rj I ri rj rq := ⟨hG0, fun _ _ _ => rfl, fun _ _ _ _ _ => rfl, fun _ _ _ _ _ => rfl⟩
  have hl := lv_entry ([.ref a0, .ref a1]) (n := 2) (Nat.le_of_ble_eq_true rfl)
  rw [lg_entry_eq]
  generalize (lg_sl ([.ref a0, .ref a1]) ++ List.replicate (2 - (lg_sl ([.ref a0, .ref a1])).length) Slot.unset).toArray = ls at hl ⊢
  have hl : lv_has ls 2 [(0, .ref a0), (1, .ref a1)] := hl
  refine q_gen (fun Q hQ => ?_)
  have go : ∀ (H : Heap) (locs : List Loc) (ls : Array Slot), va_P D vwCl (pq_P t σ (I, J, ri, rj, rq)) H → va_D A (pq_P t σ (I, J, ri, rj, rq)) → va_S A s.heap H locs → lv_has ls 2 [(0, .ref a0), (1, .ref a1)] → W p l e ({ frames := 1, cells := 0, slots := 0, locals := 60 } : Room) s m (List.toArray ([.ref a0, .ref a1] : List Value)) below meth c H locs 0 0 Q (F0 m 0 ls []) := by
    intro H locs ls hP hD hS hl
    refine lv_aload_n hx hb dX11_copy_0 rfl (lv_at hl 0 rfl) ?_
    refine lv_iconst (v := 0) hx hb dX11_copy_1 (by decide +kernel) ?_
    refine lv_aload_n hx hb dX11_copy_2 rfl (lv_at hl 1 rfl) ?_
    refine lv_iconst (v := 0) hx hb dX11_copy_3 (by decide +kernel) ?_
    refine lv_aload_n hx hb dX11_copy_4 rfl (lv_at hl 0 rfl) ?_
    refine pn_i (v := 40) hx hb hK hP hL_a0 hK_a0 hN_a0 (by decide +kernel) dX11_copy_5 ?_
    refine lv_aload_n hx hb dX11_copy_6 rfl (lv_at hl 1 rfl) ?_
    refine pn_i (v := 40) hx hb hK hP hL_a1 hK_a1 hN_a1 (by decide +kernel) dX11_copy_7 ?_
    refine va_mmin hx hb (hml.trans hl.1.symm) hown (hts _ (tw_c tw_1103)) (hts _ (tw_c tw_467)) (hts _ (tw_c tw_276)) (hts _ (tw_c tw_468)) (Nat.le_of_ble_eq_true rfl) (Nat.le_of_ble_eq_true rfl) (Nat.zero_le _) (Nat.zero_le _) dX11_copy_8 ?_
    refine lv_topi (fun x_1 ex_1 => ?_)
    have h_2 : rg x_1 40 40 := rg_of_eq ex_1 (rg_min2 (rg_k (40 : Int32) 40 rfl) (rg_k (40 : Int32) 40 rfl) (by decide +kernel))
    refine pc_i hx hb (hml.trans hl.1.symm) hown (hts _ (tw_c tw_1104)) (hts _ (tw_c tw_1105)) (hts _ (tw_c tw_1106)) (hts _ (tw_c tw_1107)) hK hP hD hS hL_a0 hK_a0 hN_a0 hL_a1 hK_a1 hN_a1 (rg_pos (rg_k (0 : Int32) 0 rfl) (by decide +kernel)) (rg_pos h_2 (by decide +kernel)) (rg_cp (rg_k (0 : Int32) 0 rfl) h_2 (by decide +kernel)) (rg_cl h_2 (by decide +kernel)) (Nat.le_of_ble_eq_true rfl) (Nat.le_of_ble_eq_true rfl) dX11_copy_11 (fun r_3 H locs er_3 hP hD hS => ?_)
    have hG := GX.cR hG hSH hT_a0 rfl hT_a1 rfl er_3 (by decide +kernel)
    subst hQ
    exact W.vret hx hb hr (fun t1 ht hW => ⟨⟨(σ, I, J, r_3, rj, rq), rfl, ⟨r_3, rfl, hG, (cpy_eq er_3 h_2 rfl), (fun q hq => by rw [er_3, va_up_ne _ _ hq]), (by rw [er_3, show (x_1).toNatClampNeg = 40 from by have z_i := clampE x_1; have z_r := h_2; have z_1 := z_r.1; have z_2 := z_r.2; omega]; rfl)⟩, by rw [ht]; exact hP, va_K.moved hW.alike hK, hD⟩, hS.F ht⟩) hS.2.2 dX11_copy_14
  exact go _ _ _ hP hD hS hl

set_option maxHeartbeats 4000000 in
set_option maxRecDepth 100000 in
theorem s_X11_copy_9_9 (l : Launch) (D : va_G) (t : pq_T) (σ : pq_S) (I : Nat → Nat → Int32) (J : Nat → Nat → Int64) (ri : Nat → Nat → Int32) (rj : Nat → Nat → Int64) (rq : Nat → Nat → Option Nat) (sz : Nat) (tg : Nat → Nat) (hSH : SH σ tg) (hG0 : GS tg σ I ri rq) (a0 : Nat) (a1 : Nat) (hL_a0 : a0 ∈ σ.1) (hK_a0 : σ.2.1 a0 = 13) (hN_a0 : σ.2.2.2 a0 = 40) (hT_a0 : tg a0 = 9) (hL_a1 : a1 ∈ σ.1) (hK_a1 : σ.2.1 a1 = 13) (hN_a1 : σ.2.2.2 a1 = 40) (hT_a1 : tg a1 = 9) : MetV l yX11_copy (wa yX11_copy cX11_copy 2 none) ({ frames := 1, cells := 0, slots := 0, locals := 60 }) [.ref a0, .ref a1] D t σ (I, J, ri, rj, rq) sz 0 0 (fun (u : pq_S × pq_M) => ∃ ri' : Nat → Nat → Int32, u = (σ, I, J, ri', rj, rq) ∧ GX [] tg σ I ri rj I ri' rj rq ∧ (∀ j, j < 40 → ri' a1 j = ri a0 j) ∧ (∀ q, q ≠ a1 → ri' q = ri q) ∧ (ri' = va_up ri a1 (va_cpy (ri a0) (ri a1) 0 0 40))) := by
  refine Met.ofW (cc := cX11_copy) (maxL := 2) (ret := none) (by decide +kernel) rfl ?_
  intro p e s m args below meth c s₁ B hml hv
  obtain ⟨rfl, hsz, hP, hK, hD0, hN⟩ := hv
  have hx := B.exec
  have hb := B.bytes
  have hr := B.returns
  have hts := atoms_spec (ws := (wa yX11_copy cX11_copy 2 none)) B.pre
  have hown : s.vm.findClass RX11 = some m.cls := findClass_of_methodNamed B.named
  have hlocks := B.notSynchronized
  subst hsz
  have hD : va_D (pq_B t σ (I, J, ri, rj, rq) s.heap.size) (pq_P t σ (I, J, ri, rj, rq)) := hD0.self
  generalize hAe : pq_B t σ (I, J, ri, rj, rq) s.heap.size = A at hD ⊢
  have hA : ∀ q : Nat, s.heap.size ≤ q → A q := fun q h => by rw [← hAe]; exact Or.inr h
  have hS : va_S A s.heap s.heap [] := va_S.rf
  have hG : GX [] tg σ I ri rj I ri rj rq := ⟨hG0, fun _ _ _ => rfl, fun _ _ _ _ _ => rfl, fun _ _ _ _ _ => rfl⟩
  have hl := lv_entry ([.ref a0, .ref a1]) (n := 2) (Nat.le_of_ble_eq_true rfl)
  rw [lg_entry_eq]
  generalize (lg_sl ([.ref a0, .ref a1]) ++ List.replicate (2 - (lg_sl ([.ref a0, .ref a1])).length) Slot.unset).toArray = ls at hl ⊢
  have hl : lv_has ls 2 [(0, .ref a0), (1, .ref a1)] := hl
  refine q_gen (fun Q hQ => ?_)
  have go : ∀ (H : Heap) (locs : List Loc) (ls : Array Slot), va_P D vwCl (pq_P t σ (I, J, ri, rj, rq)) H → va_D A (pq_P t σ (I, J, ri, rj, rq)) → va_S A s.heap H locs → lv_has ls 2 [(0, .ref a0), (1, .ref a1)] → W p l e ({ frames := 1, cells := 0, slots := 0, locals := 60 } : Room) s m (List.toArray ([.ref a0, .ref a1] : List Value)) below meth c H locs 0 0 Q (F0 m 0 ls []) := by
    intro H locs ls hP hD hS hl
    refine lv_aload_n hx hb dX11_copy_0 rfl (lv_at hl 0 rfl) ?_
    refine lv_iconst (v := 0) hx hb dX11_copy_1 (by decide +kernel) ?_
    refine lv_aload_n hx hb dX11_copy_2 rfl (lv_at hl 1 rfl) ?_
    refine lv_iconst (v := 0) hx hb dX11_copy_3 (by decide +kernel) ?_
    refine lv_aload_n hx hb dX11_copy_4 rfl (lv_at hl 0 rfl) ?_
    refine pn_i (v := 40) hx hb hK hP hL_a0 hK_a0 hN_a0 (by decide +kernel) dX11_copy_5 ?_
    refine lv_aload_n hx hb dX11_copy_6 rfl (lv_at hl 1 rfl) ?_
    refine pn_i (v := 40) hx hb hK hP hL_a1 hK_a1 hN_a1 (by decide +kernel) dX11_copy_7 ?_
    refine va_mmin hx hb (hml.trans hl.1.symm) hown (hts _ (tw_c tw_1103)) (hts _ (tw_c tw_467)) (hts _ (tw_c tw_276)) (hts _ (tw_c tw_468)) (Nat.le_of_ble_eq_true rfl) (Nat.le_of_ble_eq_true rfl) (Nat.zero_le _) (Nat.zero_le _) dX11_copy_8 ?_
    refine lv_topi (fun x_1 ex_1 => ?_)
    have h_2 : rg x_1 40 40 := rg_of_eq ex_1 (rg_min2 (rg_k (40 : Int32) 40 rfl) (rg_k (40 : Int32) 40 rfl) (by decide +kernel))
    refine pc_i hx hb (hml.trans hl.1.symm) hown (hts _ (tw_c tw_1104)) (hts _ (tw_c tw_1105)) (hts _ (tw_c tw_1106)) (hts _ (tw_c tw_1107)) hK hP hD hS hL_a0 hK_a0 hN_a0 hL_a1 hK_a1 hN_a1 (rg_pos (rg_k (0 : Int32) 0 rfl) (by decide +kernel)) (rg_pos h_2 (by decide +kernel)) (rg_cp (rg_k (0 : Int32) 0 rfl) h_2 (by decide +kernel)) (rg_cl h_2 (by decide +kernel)) (Nat.le_of_ble_eq_true rfl) (Nat.le_of_ble_eq_true rfl) dX11_copy_11 (fun r_3 H locs er_3 hP hD hS => ?_)
    have hG := GX.cR hG hSH hT_a0 rfl hT_a1 rfl er_3 (by decide +kernel)
    subst hQ
    exact W.vret hx hb hr (fun t1 ht hW => ⟨⟨(σ, I, J, r_3, rj, rq), rfl, ⟨r_3, rfl, hG, (cpy_eq er_3 h_2 rfl), (fun q hq => by rw [er_3, va_up_ne _ _ hq]), (by rw [er_3, show (x_1).toNatClampNeg = 40 from by have z_i := clampE x_1; have z_r := h_2; have z_1 := z_r.1; have z_2 := z_r.2; omega]; rfl)⟩, by rw [ht]; exact hP, va_K.moved hW.alike hK, hD⟩, hS.F ht⟩) hS.2.2 dX11_copy_14
  exact go _ _ _ hP hD hS hl

set_option maxHeartbeats 4000000 in
set_option maxRecDepth 100000 in
theorem s_X11_copy_11_11 (l : Launch) (D : va_G) (t : pq_T) (σ : pq_S) (I : Nat → Nat → Int32) (J : Nat → Nat → Int64) (ri : Nat → Nat → Int32) (rj : Nat → Nat → Int64) (rq : Nat → Nat → Option Nat) (sz : Nat) (tg : Nat → Nat) (hSH : SH σ tg) (hG0 : GS tg σ I ri rq) (a0 : Nat) (a1 : Nat) (hL_a0 : a0 ∈ σ.1) (hK_a0 : σ.2.1 a0 = 13) (hN_a0 : σ.2.2.2 a0 = 5) (hT_a0 : tg a0 = 11) (hL_a1 : a1 ∈ σ.1) (hK_a1 : σ.2.1 a1 = 13) (hN_a1 : σ.2.2.2 a1 = 5) (hT_a1 : tg a1 = 11) : MetV l yX11_copy (wa yX11_copy cX11_copy 2 none) ({ frames := 1, cells := 0, slots := 0, locals := 60 }) [.ref a0, .ref a1] D t σ (I, J, ri, rj, rq) sz 0 0 (fun (u : pq_S × pq_M) => ∃ ri' : Nat → Nat → Int32, u = (σ, I, J, ri', rj, rq) ∧ GX [] tg σ I ri rj I ri' rj rq ∧ (∀ j, j < 5 → ri' a1 j = ri a0 j) ∧ (∀ q, q ≠ a1 → ri' q = ri q) ∧ (ri' = va_up ri a1 (va_cpy (ri a0) (ri a1) 0 0 5))) := by
  refine Met.ofW (cc := cX11_copy) (maxL := 2) (ret := none) (by decide +kernel) rfl ?_
  intro p e s m args below meth c s₁ B hml hv
  obtain ⟨rfl, hsz, hP, hK, hD0, hN⟩ := hv
  have hx := B.exec
  have hb := B.bytes
  have hr := B.returns
  have hts := atoms_spec (ws := (wa yX11_copy cX11_copy 2 none)) B.pre
  have hown : s.vm.findClass RX11 = some m.cls := findClass_of_methodNamed B.named
  have hlocks := B.notSynchronized
  subst hsz
  have hD : va_D (pq_B t σ (I, J, ri, rj, rq) s.heap.size) (pq_P t σ (I, J, ri, rj, rq)) := hD0.self
  generalize hAe : pq_B t σ (I, J, ri, rj, rq) s.heap.size = A at hD ⊢
  have hA : ∀ q : Nat, s.heap.size ≤ q → A q := fun q h => by rw [← hAe]; exact Or.inr h
  have hS : va_S A s.heap s.heap [] := va_S.rf
  have hG : GX [] tg σ I ri rj I ri rj rq := ⟨hG0, fun _ _ _ => rfl, fun _ _ _ _ _ => rfl, fun _ _ _ _ _ => rfl⟩
  have hl := lv_entry ([.ref a0, .ref a1]) (n := 2) (Nat.le_of_ble_eq_true rfl)
  rw [lg_entry_eq]
  generalize (lg_sl ([.ref a0, .ref a1]) ++ List.replicate (2 - (lg_sl ([.ref a0, .ref a1])).length) Slot.unset).toArray = ls at hl ⊢
  have hl : lv_has ls 2 [(0, .ref a0), (1, .ref a1)] := hl
  refine q_gen (fun Q hQ => ?_)
  have go : ∀ (H : Heap) (locs : List Loc) (ls : Array Slot), va_P D vwCl (pq_P t σ (I, J, ri, rj, rq)) H → va_D A (pq_P t σ (I, J, ri, rj, rq)) → va_S A s.heap H locs → lv_has ls 2 [(0, .ref a0), (1, .ref a1)] → W p l e ({ frames := 1, cells := 0, slots := 0, locals := 60 } : Room) s m (List.toArray ([.ref a0, .ref a1] : List Value)) below meth c H locs 0 0 Q (F0 m 0 ls []) := by
    intro H locs ls hP hD hS hl
    refine lv_aload_n hx hb dX11_copy_0 rfl (lv_at hl 0 rfl) ?_
    refine lv_iconst (v := 0) hx hb dX11_copy_1 (by decide +kernel) ?_
    refine lv_aload_n hx hb dX11_copy_2 rfl (lv_at hl 1 rfl) ?_
    refine lv_iconst (v := 0) hx hb dX11_copy_3 (by decide +kernel) ?_
    refine lv_aload_n hx hb dX11_copy_4 rfl (lv_at hl 0 rfl) ?_
    refine pn_i (v := 5) hx hb hK hP hL_a0 hK_a0 hN_a0 (by decide +kernel) dX11_copy_5 ?_
    refine lv_aload_n hx hb dX11_copy_6 rfl (lv_at hl 1 rfl) ?_
    refine pn_i (v := 5) hx hb hK hP hL_a1 hK_a1 hN_a1 (by decide +kernel) dX11_copy_7 ?_
    refine va_mmin hx hb (hml.trans hl.1.symm) hown (hts _ (tw_c tw_1103)) (hts _ (tw_c tw_467)) (hts _ (tw_c tw_276)) (hts _ (tw_c tw_468)) (Nat.le_of_ble_eq_true rfl) (Nat.le_of_ble_eq_true rfl) (Nat.zero_le _) (Nat.zero_le _) dX11_copy_8 ?_
    refine lv_topi (fun x_1 ex_1 => ?_)
    have h_2 : rg x_1 5 5 := rg_of_eq ex_1 (rg_min2 (rg_k (5 : Int32) 5 rfl) (rg_k (5 : Int32) 5 rfl) (by decide +kernel))
    refine pc_i hx hb (hml.trans hl.1.symm) hown (hts _ (tw_c tw_1104)) (hts _ (tw_c tw_1105)) (hts _ (tw_c tw_1106)) (hts _ (tw_c tw_1107)) hK hP hD hS hL_a0 hK_a0 hN_a0 hL_a1 hK_a1 hN_a1 (rg_pos (rg_k (0 : Int32) 0 rfl) (by decide +kernel)) (rg_pos h_2 (by decide +kernel)) (rg_cp (rg_k (0 : Int32) 0 rfl) h_2 (by decide +kernel)) (rg_cl h_2 (by decide +kernel)) (Nat.le_of_ble_eq_true rfl) (Nat.le_of_ble_eq_true rfl) dX11_copy_11 (fun r_3 H locs er_3 hP hD hS => ?_)
    have hG := GX.cR hG hSH hT_a0 rfl hT_a1 rfl er_3 (by decide +kernel)
    subst hQ
    exact W.vret hx hb hr (fun t1 ht hW => ⟨⟨(σ, I, J, r_3, rj, rq), rfl, ⟨r_3, rfl, hG, (cpy_eq er_3 h_2 rfl), (fun q hq => by rw [er_3, va_up_ne _ _ hq]), (by rw [er_3, show (x_1).toNatClampNeg = 5 from by have z_i := clampE x_1; have z_r := h_2; have z_1 := z_r.1; have z_2 := z_r.2; omega]; rfl)⟩, by rw [ht]; exact hP, va_K.moved hW.alike hK, hD⟩, hS.F ht⟩) hS.2.2 dX11_copy_14
  exact go _ _ _ hP hD hS hl

set_option maxRecDepth 100000 in
def g_X0_copyFrom (nI : Nat → Int32) (nR : Nat → Nat → Int32) (I : Nat → Int32) (J : Nat → Int64) (ri : Nat → Nat → Int32) (rj : Nat → Nat → Int64) (rq : Nat → Nat → Option Nat) : vM := (ap1 (nI 0) fun (y_2 : Int32) => (ap1 (va_up I 0 (y_2)) fun (I_3 : Nat → Int32) => (ap1 (va_up ri 1 (va_cpy (nR 1) (ri 1) 0 0 40)) fun (ri_8 : Nat → Nat → Int32) => (ap1 (va_up ri_8 2 (va_cpy (nR 2) (ri_8 2) 0 0 40)) fun (ri_21 : Nat → Nat → Int32) => (ap1 (va_up ri_21 3 (va_cpy (nR 3) (ri_21 3) 0 0 40)) fun (ri_34 : Nat → Nat → Int32) => (ap1 (va_up ri_34 4 (va_cpy (nR 4) (ri_34 4) 0 0 40)) fun (ri_47 : Nat → Nat → Int32) => (ap1 (va_up ri_47 5 (va_cpy (nR 5) (ri_47 5) 0 0 40)) fun (ri_60 : Nat → Nat → Int32) => (ap1 (va_up ri_60 6 (va_cpy (nR 6) (ri_60 6) 0 0 40)) fun (ri_73 : Nat → Nat → Int32) => (ap1 (va_up ri_73 7 (va_cpy (nR 7) (ri_73 7) 0 0 40)) fun (ri_86 : Nat → Nat → Int32) => (ap1 (va_up ri_86 8 (va_cpy (nR 8) (ri_86 8) 0 0 40)) fun (ri_99 : Nat → Nat → Int32) => (ap1 (va_up ri_99 9 (va_cpy (nR 9) (ri_99 9) 0 0 40)) fun (ri_112 : Nat → Nat → Int32) => (ap1 (nI 10) fun (y_122 : Int32) => (ap1 (va_up I_3 10 (y_122)) fun (I_123 : Nat → Int32) => (ap1 (va_up ri_112 11 (va_cpy (nR 11) (ri_112 11) 0 0 5)) fun (ri_128 : Nat → Nat → Int32) => (I_123, J, ri_128, rj, rq)))))))))))))))
set_option maxRecDepth 100000 in
theorem g_X0_copyFrom_e {nI : Nat → Int32} {nR : Nat → Nat → Int32} {I : Nat → Int32} {J : Nat → Int64} {ri : Nat → Nat → Int32} {rj : Nat → Nat → Int64} {rq : Nat → Nat → Option Nat} : g_X0_copyFrom nI nR I J ri rj rq = (ap1 (nI 0) fun (y_2 : Int32) => (ap1 (va_up I 0 (y_2)) fun (I_3 : Nat → Int32) => (ap1 (va_up ri 1 (va_cpy (nR 1) (ri 1) 0 0 40)) fun (ri_8 : Nat → Nat → Int32) => (ap1 (va_up ri_8 2 (va_cpy (nR 2) (ri_8 2) 0 0 40)) fun (ri_21 : Nat → Nat → Int32) => (ap1 (va_up ri_21 3 (va_cpy (nR 3) (ri_21 3) 0 0 40)) fun (ri_34 : Nat → Nat → Int32) => (ap1 (va_up ri_34 4 (va_cpy (nR 4) (ri_34 4) 0 0 40)) fun (ri_47 : Nat → Nat → Int32) => (ap1 (va_up ri_47 5 (va_cpy (nR 5) (ri_47 5) 0 0 40)) fun (ri_60 : Nat → Nat → Int32) => (ap1 (va_up ri_60 6 (va_cpy (nR 6) (ri_60 6) 0 0 40)) fun (ri_73 : Nat → Nat → Int32) => (ap1 (va_up ri_73 7 (va_cpy (nR 7) (ri_73 7) 0 0 40)) fun (ri_86 : Nat → Nat → Int32) => (ap1 (va_up ri_86 8 (va_cpy (nR 8) (ri_86 8) 0 0 40)) fun (ri_99 : Nat → Nat → Int32) => (ap1 (va_up ri_99 9 (va_cpy (nR 9) (ri_99 9) 0 0 40)) fun (ri_112 : Nat → Nat → Int32) => (ap1 (nI 10) fun (y_122 : Int32) => (ap1 (va_up I_3 10 (y_122)) fun (I_123 : Nat → Int32) => (ap1 (va_up ri_112 11 (va_cpy (nR 11) (ri_112 11) 0 0 5)) fun (ri_128 : Nat → Nat → Int32) => (I_123, J, ri_128, rj, rq))))))))))))))) := rfl
set_option maxHeartbeats 4000000 in
set_option maxRecDepth 100000 in
theorem s_X0_copyFrom (l : Launch) (D : va_G) (t : pq_T) (σ : pq_S) (I : Nat → Nat → Int32) (J : Nat → Nat → Int64) (ri : Nat → Nat → Int32) (rj : Nat → Nat → Int64) (rq : Nat → Nat → Option Nat) (sz : Nat) (tg : Nat → Nat) (hSH : SH σ tg) (hG0 : GS tg σ I ri rq) (this : Nat) (a0 : Nat) (hL_this : this ∈ σ.1) (hK_this : σ.2.1 this = 0) (hL_a0 : a0 ∈ σ.1) (hK_a0 : σ.2.1 a0 = 0) (M : Nat) (hL_M : M ∈ σ.1) (hK_M : σ.2.1 M = 10) (N : Nat) (hL_N : N ∈ σ.1) (hK_N : σ.2.1 N = 10) (hO_this : this = vo σ 0 M) (hO_a0 : a0 = vo σ 0 N) (hap : AP 10 tg σ M N) : MetV l yX0_copyFrom (wa yX0_copyFrom cX0_copyFrom 2 none) ({ frames := 2, cells := 0, slots := 0, locals := 81 }) [.ref this, .ref a0] D t σ (I, J, ri, rj, rq) sz 0 0 (fun (u : pq_S × pq_M) => ∃ I' : Nat → Nat → Int32, ∃ ri' : Nat → Nat → Int32, u = (σ, I', J, ri', rj, rq) ∧ GX [0, 1005, 10] tg σ I ri rj I' ri' rj rq ∧ g_X0_copyFrom (vI 10 σ N I) (vR 10 σ N ri) (vI 10 σ M I) (vJ 10 σ M J) (vR 10 σ M ri) (vL 10 σ M rj) (vQ 10 σ M rq) = ((vI 10 σ M I'), (vJ 10 σ M J), (vR 10 σ M ri'), (vL 10 σ M rj), (vQ 10 σ M rq)) ∧ FR 10 tg σ M (I, J, ri, rj, rq) (I', J, ri', rj, rq)) := by
  refine Met.ofW (cc := cX0_copyFrom) (maxL := 2) (ret := none) (by decide +kernel) rfl ?_
  intro p e s m args below meth c s₁ B hml hv
  obtain ⟨rfl, hsz, hP, hK, hD0, hN⟩ := hv
  have hx := B.exec
  have hb := B.bytes
  have hr := B.returns
  have hts := atoms_spec (ws := (wa yX0_copyFrom cX0_copyFrom 2 none)) B.pre
  have hown : s.vm.findClass RX0 = some m.cls := findClass_of_methodNamed B.named
  have hlocks := B.notSynchronized
  subst hsz
  have hD : va_D (pq_B t σ (I, J, ri, rj, rq) s.heap.size) (pq_P t σ (I, J, ri, rj, rq)) := hD0.self
  generalize hAe : pq_B t σ (I, J, ri, rj, rq) s.heap.size = A at hD ⊢
  have hA : ∀ q : Nat, s.heap.size ≤ q → A q := fun q h => by rw [← hAe]; exact Or.inr h
  have hS : va_S A s.heap s.heap [] := va_S.rf
  have hG : GX [0, 1005, 10] tg σ I ri rj I ri rj rq := ⟨hG0, fun _ _ _ => rfl, fun _ _ _ _ _ => rfl, fun _ _ _ _ _ => rfl⟩
  have hl := lv_entry ([.ref this, .ref a0]) (n := 2) (Nat.le_of_ble_eq_true rfl)
  rw [lg_entry_eq]
  generalize (lg_sl ([.ref this, .ref a0]) ++ List.replicate (2 - (lg_sl ([.ref this, .ref a0])).length) Slot.unset).toArray = ls at hl ⊢
  have hl : lv_has ls 2 [(0, .ref this), (1, .ref a0)] := hl
  refine q_gen (fun Q hQ => ?_)
  have go : ∀ (H : Heap) (locs : List Loc) (ls : Array Slot), va_P D vwCl (pq_P t σ (I, J, ri, rj, rq)) H → va_D A (pq_P t σ (I, J, ri, rj, rq)) → va_S A s.heap H locs → lv_has ls 2 [(0, .ref this), (1, .ref a0)] → W p l e ({ frames := 2, cells := 0, slots := 0, locals := 81 } : Room) s m (List.toArray ([.ref this, .ref a0] : List Value)) below meth c H locs 0 0 Q (F0 m 0 ls []) := by
    intro H locs ls hP hD hS hl
    have hVT : VT 10 σ tg M := vt_10 hSH hL_M hK_M
    have hFr : FR 10 tg σ M (I, J, ri, rj, rq) (I, J, ri, rj, rq) := fr_rf
    obtain ⟨F, hF0⟩ : ∃ F, F = g_X0_copyFrom (vI 10 σ N I) (vR 10 σ N ri) (vI 10 σ M I) (vJ 10 σ M J) (vR 10 σ M ri) (vL 10 σ M rj) (vQ 10 σ M rq) := ⟨_, rfl⟩
    have hF := hF0.trans g_X0_copyFrom_e
    refine lv_aload_n hx hb dX0_copyFrom_0 rfl (lv_at hl 0 rfl) ?_
    refine lv_aload_n hx hb dX0_copyFrom_1 rfl (lv_at hl 1 rfl) ?_
    refine pg_f (v := .int (I 0 a0)) (C := RX0) (T := TX0) (N := 16) hx hb hts (tw_i inlX0) hown hK hP hL_a0 hK_a0 (by decide +kernel) rfl 0 (by decide +kernel) (hts _ (tw_c tw_395)) rfl dX0_copyFrom_2 ?_
    have h_1 : rg (I 0 a0) 0 40 := GX.rI hG 0 rfl
    replace hF := hF.trans (ap_n (cI_e (f := 0) hFr hap hO_a0 (by decide +kernel)))
    refine pp_i (v := (I 0 a0)) (ty := .int) (C := RX0) (T := TX0) (N := 16) hx hb hts (tw_i inlX0) tyX0 tyX0_ok nmX0 hown hK hP hD hS hL_this hK_this (by decide +kernel) rfl 0 0 (by decide +kernel) (hts _ (tw_c tw_395)) rfl (tyX0_ok 0 (by decide +kernel)) rfl rfl (Nat.le_of_ble_eq_true rfl) (ps_0 _ _ _ _ _) dX0_copyFrom_5 (fun I_3 H locs eI_3 hP hD hS => ?_)
    replace hFr := fr_I (f := 0) hFr hO_this (by decide +kernel) eI_3
    replace hF := hF.trans (ap_n (vI_st (f := 0) hO_this (by decide +kernel) eI_3))
    have hG := GX.wI hG 0 rfl eI_3 (rg_w h_1 (by decide +kernel)) (by decide +kernel)
    refine lv_aload_n hx hb dX0_copyFrom_8 rfl (lv_at hl 1 rfl) ?_
    obtain ⟨w_4, hR_w_4, hL_w_4, hK_w_4, hN_w_4, hT_w_4⟩ := sh_a hSH 1 (ci := 0) (kd := 13) (len := 40) rfl (by decide +kernel) hL_a0 hK_a0
    have hO_w_4 : w_4 = vrow σ 1 N := vo_k (c := 0) hO_a0 hR_w_4
    refine pg_f (v := .ref w_4) (C := RX0) (T := TX0) (N := 16) hx hb hts (tw_i inlX0) hown hK hP hL_a0 hK_a0 (by decide +kernel) rfl 1 (by decide +kernel) (hts _ (tw_c tw_110)) (pq_hv rfl hR_w_4) dX0_copyFrom_9 ?_
    refine lv_aload_n hx hb dX0_copyFrom_12 rfl (lv_at hl 0 rfl) ?_
    obtain ⟨w_5, hR_w_5, hL_w_5, hK_w_5, hN_w_5, hT_w_5⟩ := sh_a hSH 1 (ci := 0) (kd := 13) (len := 40) rfl (by decide +kernel) hL_this hK_this
    have hO_w_5 : w_5 = vrow σ 1 M := vo_k (c := 0) hO_this hR_w_5
    refine pg_f (v := .ref w_5) (C := RX0) (T := TX0) (N := 16) hx hb hts (tw_i inlX0) hown hK hP hL_this hK_this (by decide +kernel) rfl 1 (by decide +kernel) (hts _ (tw_c tw_110)) (pq_hv rfl hR_w_5) dX0_copyFrom_13 ?_
    refine pk_v (va_runSN (As := [.ref w_4, .ref w_5]) (rest := []) ⟨hx, hb, hml, hown, hts⟩ (s_X11_copy_1_1 l D t σ I_3 J ri rj rq H.size tg hSH hG.1 w_4 w_5 hL_w_4 hK_w_4 hN_w_4 hT_w_4 hL_w_5 hK_w_5 hN_w_5 hT_w_5) ⟨va_cnB (host := "RingsUnder") 2 hts (tw_W tw_1102) rfl rfl rfl (nl_15 hN) (hts _ (tw_c tw_2)) cd_yX11_copy_2 ⟨Nat.le_of_ble_eq_true rfl, Nat.le_of_ble_eq_true rfl⟩, hts (.static yX11_copy) (tw_c tq_static_yX11_copy), trivial⟩ ⟨pq_blind, pq_pre hK hN hP hD⟩ rfl rfl hl.1 rfl (lv_room (Nat.le_of_ble_eq_true rfl)) dX0_copyFrom_16 ⟨Nat.le_of_ble_eq_true rfl, Nat.le_of_ble_eq_true rfl⟩) hD hS hA (fun σ1 μ1 H locs hw_7 hP hD hS => ?_)
    obtain ⟨ri_8, hu_9, hg_10, hp_12, hp_13, hp_14⟩ := hw_7
    obtain ⟨hu_9a, hu_9b⟩ := Prod.mk.inj hu_9
    rw [hu_9a, hu_9b] at hP hD
    replace hF := hF.trans (ap_n (vR_cp hVT hO_w_5 (by decide +kernel) (funext fun _ => (cR_r hFr hap hO_w_4 (by decide +kernel) rfl)) hp_14))
    replace hFr := fr_R hFr hO_w_5 (by decide +kernel) hp_14
    have hG := GX.tr hG hg_10 (by decide +kernel)
    refine lv_aload_n hx hb dX0_copyFrom_19 rfl (lv_at hl 1 rfl) ?_
    obtain ⟨w_17, hR_w_17, hL_w_17, hK_w_17, hN_w_17, hT_w_17⟩ := sh_a hSH 2 (ci := 0) (kd := 13) (len := 40) rfl (by decide +kernel) hL_a0 hK_a0
    have hO_w_17 : w_17 = vrow σ 2 N := vo_k (c := 0) hO_a0 hR_w_17
    refine pg_f (v := .ref w_17) (C := RX0) (T := TX0) (N := 16) hx hb hts (tw_i inlX0) hown hK hP hL_a0 hK_a0 (by decide +kernel) rfl 2 (by decide +kernel) (hts _ (tw_c tw_111)) (pq_hv rfl hR_w_17) dX0_copyFrom_20 ?_
    refine lv_aload_n hx hb dX0_copyFrom_23 rfl (lv_at hl 0 rfl) ?_
    obtain ⟨w_18, hR_w_18, hL_w_18, hK_w_18, hN_w_18, hT_w_18⟩ := sh_a hSH 2 (ci := 0) (kd := 13) (len := 40) rfl (by decide +kernel) hL_this hK_this
    have hO_w_18 : w_18 = vrow σ 2 M := vo_k (c := 0) hO_this hR_w_18
    refine pg_f (v := .ref w_18) (C := RX0) (T := TX0) (N := 16) hx hb hts (tw_i inlX0) hown hK hP hL_this hK_this (by decide +kernel) rfl 2 (by decide +kernel) (hts _ (tw_c tw_111)) (pq_hv rfl hR_w_18) dX0_copyFrom_24 ?_
    refine pk_v (va_runSN (As := [.ref w_17, .ref w_18]) (rest := []) ⟨hx, hb, hml, hown, hts⟩ (s_X11_copy_2_2 l D t σ I_3 J ri_8 rj rq H.size tg hSH hG.1 w_17 w_18 hL_w_17 hK_w_17 hN_w_17 hT_w_17 hL_w_18 hK_w_18 hN_w_18 hT_w_18) ⟨va_cnB (host := "RingsUnder") 2 hts (tw_W tw_1102) rfl rfl rfl (nl_15 hN) (hts _ (tw_c tw_2)) cd_yX11_copy_2 ⟨Nat.le_of_ble_eq_true rfl, Nat.le_of_ble_eq_true rfl⟩, hts (.static yX11_copy) (tw_c tq_static_yX11_copy), trivial⟩ ⟨pq_blind, pq_pre hK hN hP hD⟩ rfl rfl hl.1 rfl (lv_room (Nat.le_of_ble_eq_true rfl)) dX0_copyFrom_27 ⟨Nat.le_of_ble_eq_true rfl, Nat.le_of_ble_eq_true rfl⟩) hD hS hA (fun σ1 μ1 H locs hw_20 hP hD hS => ?_)
    obtain ⟨ri_21, hu_22, hg_23, hp_25, hp_26, hp_27⟩ := hw_20
    obtain ⟨hu_22a, hu_22b⟩ := Prod.mk.inj hu_22
    rw [hu_22a, hu_22b] at hP hD
    replace hF := hF.trans (ap_n (vR_cp hVT hO_w_18 (by decide +kernel) (funext fun _ => (cR_r hFr hap hO_w_17 (by decide +kernel) rfl)) hp_27))
    replace hFr := fr_R hFr hO_w_18 (by decide +kernel) hp_27
    have hG := GX.tr hG hg_23 (by decide +kernel)
    refine lv_aload_n hx hb dX0_copyFrom_30 rfl (lv_at hl 1 rfl) ?_
    obtain ⟨w_30, hR_w_30, hL_w_30, hK_w_30, hN_w_30, hT_w_30⟩ := sh_a hSH 3 (ci := 0) (kd := 13) (len := 40) rfl (by decide +kernel) hL_a0 hK_a0
    have hO_w_30 : w_30 = vrow σ 3 N := vo_k (c := 0) hO_a0 hR_w_30
    refine pg_f (v := .ref w_30) (C := RX0) (T := TX0) (N := 16) hx hb hts (tw_i inlX0) hown hK hP hL_a0 hK_a0 (by decide +kernel) rfl 3 (by decide +kernel) (hts _ (tw_c tw_112)) (pq_hv rfl hR_w_30) dX0_copyFrom_31 ?_
    refine lv_aload_n hx hb dX0_copyFrom_34 rfl (lv_at hl 0 rfl) ?_
    obtain ⟨w_31, hR_w_31, hL_w_31, hK_w_31, hN_w_31, hT_w_31⟩ := sh_a hSH 3 (ci := 0) (kd := 13) (len := 40) rfl (by decide +kernel) hL_this hK_this
    have hO_w_31 : w_31 = vrow σ 3 M := vo_k (c := 0) hO_this hR_w_31
    refine pg_f (v := .ref w_31) (C := RX0) (T := TX0) (N := 16) hx hb hts (tw_i inlX0) hown hK hP hL_this hK_this (by decide +kernel) rfl 3 (by decide +kernel) (hts _ (tw_c tw_112)) (pq_hv rfl hR_w_31) dX0_copyFrom_35 ?_
    refine pk_v (va_runSN (As := [.ref w_30, .ref w_31]) (rest := []) ⟨hx, hb, hml, hown, hts⟩ (s_X11_copy_3_3 l D t σ I_3 J ri_21 rj rq H.size tg hSH hG.1 w_30 w_31 hL_w_30 hK_w_30 hN_w_30 hT_w_30 hL_w_31 hK_w_31 hN_w_31 hT_w_31) ⟨va_cnB (host := "RingsUnder") 2 hts (tw_W tw_1102) rfl rfl rfl (nl_15 hN) (hts _ (tw_c tw_2)) cd_yX11_copy_2 ⟨Nat.le_of_ble_eq_true rfl, Nat.le_of_ble_eq_true rfl⟩, hts (.static yX11_copy) (tw_c tq_static_yX11_copy), trivial⟩ ⟨pq_blind, pq_pre hK hN hP hD⟩ rfl rfl hl.1 rfl (lv_room (Nat.le_of_ble_eq_true rfl)) dX0_copyFrom_38 ⟨Nat.le_of_ble_eq_true rfl, Nat.le_of_ble_eq_true rfl⟩) hD hS hA (fun σ1 μ1 H locs hw_33 hP hD hS => ?_)
    obtain ⟨ri_34, hu_35, hg_36, hp_38, hp_39, hp_40⟩ := hw_33
    obtain ⟨hu_35a, hu_35b⟩ := Prod.mk.inj hu_35
    rw [hu_35a, hu_35b] at hP hD
    replace hF := hF.trans (ap_n (vR_cp hVT hO_w_31 (by decide +kernel) (funext fun _ => (cR_r hFr hap hO_w_30 (by decide +kernel) rfl)) hp_40))
    replace hFr := fr_R hFr hO_w_31 (by decide +kernel) hp_40
    have hG := GX.tr hG hg_36 (by decide +kernel)
    refine lv_aload_n hx hb dX0_copyFrom_41 rfl (lv_at hl 1 rfl) ?_
    obtain ⟨w_43, hR_w_43, hL_w_43, hK_w_43, hN_w_43, hT_w_43⟩ := sh_a hSH 4 (ci := 0) (kd := 13) (len := 40) rfl (by decide +kernel) hL_a0 hK_a0
    have hO_w_43 : w_43 = vrow σ 4 N := vo_k (c := 0) hO_a0 hR_w_43
    refine pg_f (v := .ref w_43) (C := RX0) (T := TX0) (N := 16) hx hb hts (tw_i inlX0) hown hK hP hL_a0 hK_a0 (by decide +kernel) rfl 4 (by decide +kernel) (hts _ (tw_c tw_113)) (pq_hv rfl hR_w_43) dX0_copyFrom_42 ?_
    refine lv_aload_n hx hb dX0_copyFrom_45 rfl (lv_at hl 0 rfl) ?_
    obtain ⟨w_44, hR_w_44, hL_w_44, hK_w_44, hN_w_44, hT_w_44⟩ := sh_a hSH 4 (ci := 0) (kd := 13) (len := 40) rfl (by decide +kernel) hL_this hK_this
    have hO_w_44 : w_44 = vrow σ 4 M := vo_k (c := 0) hO_this hR_w_44
    refine pg_f (v := .ref w_44) (C := RX0) (T := TX0) (N := 16) hx hb hts (tw_i inlX0) hown hK hP hL_this hK_this (by decide +kernel) rfl 4 (by decide +kernel) (hts _ (tw_c tw_113)) (pq_hv rfl hR_w_44) dX0_copyFrom_46 ?_
    refine pk_v (va_runSN (As := [.ref w_43, .ref w_44]) (rest := []) ⟨hx, hb, hml, hown, hts⟩ (s_X11_copy_4_4 l D t σ I_3 J ri_34 rj rq H.size tg hSH hG.1 w_43 w_44 hL_w_43 hK_w_43 hN_w_43 hT_w_43 hL_w_44 hK_w_44 hN_w_44 hT_w_44) ⟨va_cnB (host := "RingsUnder") 2 hts (tw_W tw_1102) rfl rfl rfl (nl_15 hN) (hts _ (tw_c tw_2)) cd_yX11_copy_2 ⟨Nat.le_of_ble_eq_true rfl, Nat.le_of_ble_eq_true rfl⟩, hts (.static yX11_copy) (tw_c tq_static_yX11_copy), trivial⟩ ⟨pq_blind, pq_pre hK hN hP hD⟩ rfl rfl hl.1 rfl (lv_room (Nat.le_of_ble_eq_true rfl)) dX0_copyFrom_49 ⟨Nat.le_of_ble_eq_true rfl, Nat.le_of_ble_eq_true rfl⟩) hD hS hA (fun σ1 μ1 H locs hw_46 hP hD hS => ?_)
    obtain ⟨ri_47, hu_48, hg_49, hp_51, hp_52, hp_53⟩ := hw_46
    obtain ⟨hu_48a, hu_48b⟩ := Prod.mk.inj hu_48
    rw [hu_48a, hu_48b] at hP hD
    replace hF := hF.trans (ap_n (vR_cp hVT hO_w_44 (by decide +kernel) (funext fun _ => (cR_r hFr hap hO_w_43 (by decide +kernel) rfl)) hp_53))
    replace hFr := fr_R hFr hO_w_44 (by decide +kernel) hp_53
    have hG := GX.tr hG hg_49 (by decide +kernel)
    refine lv_aload_n hx hb dX0_copyFrom_52 rfl (lv_at hl 1 rfl) ?_
    obtain ⟨w_56, hR_w_56, hL_w_56, hK_w_56, hN_w_56, hT_w_56⟩ := sh_a hSH 5 (ci := 0) (kd := 13) (len := 40) rfl (by decide +kernel) hL_a0 hK_a0
    have hO_w_56 : w_56 = vrow σ 5 N := vo_k (c := 0) hO_a0 hR_w_56
    refine pg_f (v := .ref w_56) (C := RX0) (T := TX0) (N := 16) hx hb hts (tw_i inlX0) hown hK hP hL_a0 hK_a0 (by decide +kernel) rfl 5 (by decide +kernel) (hts _ (tw_c tw_114)) (pq_hv rfl hR_w_56) dX0_copyFrom_53 ?_
    refine lv_aload_n hx hb dX0_copyFrom_56 rfl (lv_at hl 0 rfl) ?_
    obtain ⟨w_57, hR_w_57, hL_w_57, hK_w_57, hN_w_57, hT_w_57⟩ := sh_a hSH 5 (ci := 0) (kd := 13) (len := 40) rfl (by decide +kernel) hL_this hK_this
    have hO_w_57 : w_57 = vrow σ 5 M := vo_k (c := 0) hO_this hR_w_57
    refine pg_f (v := .ref w_57) (C := RX0) (T := TX0) (N := 16) hx hb hts (tw_i inlX0) hown hK hP hL_this hK_this (by decide +kernel) rfl 5 (by decide +kernel) (hts _ (tw_c tw_114)) (pq_hv rfl hR_w_57) dX0_copyFrom_57 ?_
    refine pk_v (va_runSN (As := [.ref w_56, .ref w_57]) (rest := []) ⟨hx, hb, hml, hown, hts⟩ (s_X11_copy_5_5 l D t σ I_3 J ri_47 rj rq H.size tg hSH hG.1 w_56 w_57 hL_w_56 hK_w_56 hN_w_56 hT_w_56 hL_w_57 hK_w_57 hN_w_57 hT_w_57) ⟨va_cnB (host := "RingsUnder") 2 hts (tw_W tw_1102) rfl rfl rfl (nl_15 hN) (hts _ (tw_c tw_2)) cd_yX11_copy_2 ⟨Nat.le_of_ble_eq_true rfl, Nat.le_of_ble_eq_true rfl⟩, hts (.static yX11_copy) (tw_c tq_static_yX11_copy), trivial⟩ ⟨pq_blind, pq_pre hK hN hP hD⟩ rfl rfl hl.1 rfl (lv_room (Nat.le_of_ble_eq_true rfl)) dX0_copyFrom_60 ⟨Nat.le_of_ble_eq_true rfl, Nat.le_of_ble_eq_true rfl⟩) hD hS hA (fun σ1 μ1 H locs hw_59 hP hD hS => ?_)
    obtain ⟨ri_60, hu_61, hg_62, hp_64, hp_65, hp_66⟩ := hw_59
    obtain ⟨hu_61a, hu_61b⟩ := Prod.mk.inj hu_61
    rw [hu_61a, hu_61b] at hP hD
    replace hF := hF.trans (ap_n (vR_cp hVT hO_w_57 (by decide +kernel) (funext fun _ => (cR_r hFr hap hO_w_56 (by decide +kernel) rfl)) hp_66))
    replace hFr := fr_R hFr hO_w_57 (by decide +kernel) hp_66
    have hG := GX.tr hG hg_62 (by decide +kernel)
    refine lv_aload_n hx hb dX0_copyFrom_63 rfl (lv_at hl 1 rfl) ?_
    obtain ⟨w_69, hR_w_69, hL_w_69, hK_w_69, hN_w_69, hT_w_69⟩ := sh_a hSH 6 (ci := 0) (kd := 13) (len := 40) rfl (by decide +kernel) hL_a0 hK_a0
    have hO_w_69 : w_69 = vrow σ 6 N := vo_k (c := 0) hO_a0 hR_w_69
    refine pg_f (v := .ref w_69) (C := RX0) (T := TX0) (N := 16) hx hb hts (tw_i inlX0) hown hK hP hL_a0 hK_a0 (by decide +kernel) rfl 6 (by decide +kernel) (hts _ (tw_c tw_115)) (pq_hv rfl hR_w_69) dX0_copyFrom_64 ?_
    refine lv_aload_n hx hb dX0_copyFrom_67 rfl (lv_at hl 0 rfl) ?_
    obtain ⟨w_70, hR_w_70, hL_w_70, hK_w_70, hN_w_70, hT_w_70⟩ := sh_a hSH 6 (ci := 0) (kd := 13) (len := 40) rfl (by decide +kernel) hL_this hK_this
    have hO_w_70 : w_70 = vrow σ 6 M := vo_k (c := 0) hO_this hR_w_70
    refine pg_f (v := .ref w_70) (C := RX0) (T := TX0) (N := 16) hx hb hts (tw_i inlX0) hown hK hP hL_this hK_this (by decide +kernel) rfl 6 (by decide +kernel) (hts _ (tw_c tw_115)) (pq_hv rfl hR_w_70) dX0_copyFrom_68 ?_
    refine pk_v (va_runSN (As := [.ref w_69, .ref w_70]) (rest := []) ⟨hx, hb, hml, hown, hts⟩ (s_X11_copy_6_6 l D t σ I_3 J ri_60 rj rq H.size tg hSH hG.1 w_69 w_70 hL_w_69 hK_w_69 hN_w_69 hT_w_69 hL_w_70 hK_w_70 hN_w_70 hT_w_70) ⟨va_cnB (host := "RingsUnder") 2 hts (tw_W tw_1102) rfl rfl rfl (nl_15 hN) (hts _ (tw_c tw_2)) cd_yX11_copy_2 ⟨Nat.le_of_ble_eq_true rfl, Nat.le_of_ble_eq_true rfl⟩, hts (.static yX11_copy) (tw_c tq_static_yX11_copy), trivial⟩ ⟨pq_blind, pq_pre hK hN hP hD⟩ rfl rfl hl.1 rfl (lv_room (Nat.le_of_ble_eq_true rfl)) dX0_copyFrom_71 ⟨Nat.le_of_ble_eq_true rfl, Nat.le_of_ble_eq_true rfl⟩) hD hS hA (fun σ1 μ1 H locs hw_72 hP hD hS => ?_)
    obtain ⟨ri_73, hu_74, hg_75, hp_77, hp_78, hp_79⟩ := hw_72
    obtain ⟨hu_74a, hu_74b⟩ := Prod.mk.inj hu_74
    rw [hu_74a, hu_74b] at hP hD
    replace hF := hF.trans (ap_n (vR_cp hVT hO_w_70 (by decide +kernel) (funext fun _ => (cR_r hFr hap hO_w_69 (by decide +kernel) rfl)) hp_79))
    replace hFr := fr_R hFr hO_w_70 (by decide +kernel) hp_79
    have hG := GX.tr hG hg_75 (by decide +kernel)
    refine lv_aload_n hx hb dX0_copyFrom_74 rfl (lv_at hl 1 rfl) ?_
    obtain ⟨w_82, hR_w_82, hL_w_82, hK_w_82, hN_w_82, hT_w_82⟩ := sh_a hSH 7 (ci := 0) (kd := 13) (len := 40) rfl (by decide +kernel) hL_a0 hK_a0
    have hO_w_82 : w_82 = vrow σ 7 N := vo_k (c := 0) hO_a0 hR_w_82
    refine pg_f (v := .ref w_82) (C := RX0) (T := TX0) (N := 16) hx hb hts (tw_i inlX0) hown hK hP hL_a0 hK_a0 (by decide +kernel) rfl 7 (by decide +kernel) (hts _ (tw_c tw_116)) (pq_hv rfl hR_w_82) dX0_copyFrom_75 ?_
    refine lv_aload_n hx hb dX0_copyFrom_78 rfl (lv_at hl 0 rfl) ?_
    obtain ⟨w_83, hR_w_83, hL_w_83, hK_w_83, hN_w_83, hT_w_83⟩ := sh_a hSH 7 (ci := 0) (kd := 13) (len := 40) rfl (by decide +kernel) hL_this hK_this
    have hO_w_83 : w_83 = vrow σ 7 M := vo_k (c := 0) hO_this hR_w_83
    refine pg_f (v := .ref w_83) (C := RX0) (T := TX0) (N := 16) hx hb hts (tw_i inlX0) hown hK hP hL_this hK_this (by decide +kernel) rfl 7 (by decide +kernel) (hts _ (tw_c tw_116)) (pq_hv rfl hR_w_83) dX0_copyFrom_79 ?_
    refine pk_v (va_runSN (As := [.ref w_82, .ref w_83]) (rest := []) ⟨hx, hb, hml, hown, hts⟩ (s_X11_copy_7_7 l D t σ I_3 J ri_73 rj rq H.size tg hSH hG.1 w_82 w_83 hL_w_82 hK_w_82 hN_w_82 hT_w_82 hL_w_83 hK_w_83 hN_w_83 hT_w_83) ⟨va_cnB (host := "RingsUnder") 2 hts (tw_W tw_1102) rfl rfl rfl (nl_15 hN) (hts _ (tw_c tw_2)) cd_yX11_copy_2 ⟨Nat.le_of_ble_eq_true rfl, Nat.le_of_ble_eq_true rfl⟩, hts (.static yX11_copy) (tw_c tq_static_yX11_copy), trivial⟩ ⟨pq_blind, pq_pre hK hN hP hD⟩ rfl rfl hl.1 rfl (lv_room (Nat.le_of_ble_eq_true rfl)) dX0_copyFrom_82 ⟨Nat.le_of_ble_eq_true rfl, Nat.le_of_ble_eq_true rfl⟩) hD hS hA (fun σ1 μ1 H locs hw_85 hP hD hS => ?_)
    obtain ⟨ri_86, hu_87, hg_88, hp_90, hp_91, hp_92⟩ := hw_85
    obtain ⟨hu_87a, hu_87b⟩ := Prod.mk.inj hu_87
    rw [hu_87a, hu_87b] at hP hD
    replace hF := hF.trans (ap_n (vR_cp hVT hO_w_83 (by decide +kernel) (funext fun _ => (cR_r hFr hap hO_w_82 (by decide +kernel) rfl)) hp_92))
    replace hFr := fr_R hFr hO_w_83 (by decide +kernel) hp_92
    have hG := GX.tr hG hg_88 (by decide +kernel)
    refine lv_aload_n hx hb dX0_copyFrom_85 rfl (lv_at hl 1 rfl) ?_
    obtain ⟨w_95, hR_w_95, hL_w_95, hK_w_95, hN_w_95, hT_w_95⟩ := sh_a hSH 8 (ci := 0) (kd := 13) (len := 40) rfl (by decide +kernel) hL_a0 hK_a0
    have hO_w_95 : w_95 = vrow σ 8 N := vo_k (c := 0) hO_a0 hR_w_95
    refine pg_f (v := .ref w_95) (C := RX0) (T := TX0) (N := 16) hx hb hts (tw_i inlX0) hown hK hP hL_a0 hK_a0 (by decide +kernel) rfl 8 (by decide +kernel) (hts _ (tw_c tw_117)) (pq_hv rfl hR_w_95) dX0_copyFrom_86 ?_
    refine lv_aload_n hx hb dX0_copyFrom_89 rfl (lv_at hl 0 rfl) ?_
    obtain ⟨w_96, hR_w_96, hL_w_96, hK_w_96, hN_w_96, hT_w_96⟩ := sh_a hSH 8 (ci := 0) (kd := 13) (len := 40) rfl (by decide +kernel) hL_this hK_this
    have hO_w_96 : w_96 = vrow σ 8 M := vo_k (c := 0) hO_this hR_w_96
    refine pg_f (v := .ref w_96) (C := RX0) (T := TX0) (N := 16) hx hb hts (tw_i inlX0) hown hK hP hL_this hK_this (by decide +kernel) rfl 8 (by decide +kernel) (hts _ (tw_c tw_117)) (pq_hv rfl hR_w_96) dX0_copyFrom_90 ?_
    refine pk_v (va_runSN (As := [.ref w_95, .ref w_96]) (rest := []) ⟨hx, hb, hml, hown, hts⟩ (s_X11_copy_8_8 l D t σ I_3 J ri_86 rj rq H.size tg hSH hG.1 w_95 w_96 hL_w_95 hK_w_95 hN_w_95 hT_w_95 hL_w_96 hK_w_96 hN_w_96 hT_w_96) ⟨va_cnB (host := "RingsUnder") 2 hts (tw_W tw_1102) rfl rfl rfl (nl_15 hN) (hts _ (tw_c tw_2)) cd_yX11_copy_2 ⟨Nat.le_of_ble_eq_true rfl, Nat.le_of_ble_eq_true rfl⟩, hts (.static yX11_copy) (tw_c tq_static_yX11_copy), trivial⟩ ⟨pq_blind, pq_pre hK hN hP hD⟩ rfl rfl hl.1 rfl (lv_room (Nat.le_of_ble_eq_true rfl)) dX0_copyFrom_93 ⟨Nat.le_of_ble_eq_true rfl, Nat.le_of_ble_eq_true rfl⟩) hD hS hA (fun σ1 μ1 H locs hw_98 hP hD hS => ?_)
    obtain ⟨ri_99, hu_100, hg_101, hp_103, hp_104, hp_105⟩ := hw_98
    obtain ⟨hu_100a, hu_100b⟩ := Prod.mk.inj hu_100
    rw [hu_100a, hu_100b] at hP hD
    replace hF := hF.trans (ap_n (vR_cp hVT hO_w_96 (by decide +kernel) (funext fun _ => (cR_r hFr hap hO_w_95 (by decide +kernel) rfl)) hp_105))
    replace hFr := fr_R hFr hO_w_96 (by decide +kernel) hp_105
    have hG := GX.tr hG hg_101 (by decide +kernel)
    refine lv_aload_n hx hb dX0_copyFrom_96 rfl (lv_at hl 1 rfl) ?_
    obtain ⟨w_108, hR_w_108, hL_w_108, hK_w_108, hN_w_108, hT_w_108⟩ := sh_a hSH 9 (ci := 0) (kd := 13) (len := 40) rfl (by decide +kernel) hL_a0 hK_a0
    have hO_w_108 : w_108 = vrow σ 9 N := vo_k (c := 0) hO_a0 hR_w_108
    refine pg_f (v := .ref w_108) (C := RX0) (T := TX0) (N := 16) hx hb hts (tw_i inlX0) hown hK hP hL_a0 hK_a0 (by decide +kernel) rfl 9 (by decide +kernel) (hts _ (tw_c tw_118)) (pq_hv rfl hR_w_108) dX0_copyFrom_97 ?_
    refine lv_aload_n hx hb dX0_copyFrom_100 rfl (lv_at hl 0 rfl) ?_
    obtain ⟨w_109, hR_w_109, hL_w_109, hK_w_109, hN_w_109, hT_w_109⟩ := sh_a hSH 9 (ci := 0) (kd := 13) (len := 40) rfl (by decide +kernel) hL_this hK_this
    have hO_w_109 : w_109 = vrow σ 9 M := vo_k (c := 0) hO_this hR_w_109
    refine pg_f (v := .ref w_109) (C := RX0) (T := TX0) (N := 16) hx hb hts (tw_i inlX0) hown hK hP hL_this hK_this (by decide +kernel) rfl 9 (by decide +kernel) (hts _ (tw_c tw_118)) (pq_hv rfl hR_w_109) dX0_copyFrom_101 ?_
    refine pk_v (va_runSN (As := [.ref w_108, .ref w_109]) (rest := []) ⟨hx, hb, hml, hown, hts⟩ (s_X11_copy_9_9 l D t σ I_3 J ri_99 rj rq H.size tg hSH hG.1 w_108 w_109 hL_w_108 hK_w_108 hN_w_108 hT_w_108 hL_w_109 hK_w_109 hN_w_109 hT_w_109) ⟨va_cnB (host := "RingsUnder") 2 hts (tw_W tw_1102) rfl rfl rfl (nl_15 hN) (hts _ (tw_c tw_2)) cd_yX11_copy_2 ⟨Nat.le_of_ble_eq_true rfl, Nat.le_of_ble_eq_true rfl⟩, hts (.static yX11_copy) (tw_c tq_static_yX11_copy), trivial⟩ ⟨pq_blind, pq_pre hK hN hP hD⟩ rfl rfl hl.1 rfl (lv_room (Nat.le_of_ble_eq_true rfl)) dX0_copyFrom_104 ⟨Nat.le_of_ble_eq_true rfl, Nat.le_of_ble_eq_true rfl⟩) hD hS hA (fun σ1 μ1 H locs hw_111 hP hD hS => ?_)
    obtain ⟨ri_112, hu_113, hg_114, hp_116, hp_117, hp_118⟩ := hw_111
    obtain ⟨hu_113a, hu_113b⟩ := Prod.mk.inj hu_113
    rw [hu_113a, hu_113b] at hP hD
    replace hF := hF.trans (ap_n (vR_cp hVT hO_w_109 (by decide +kernel) (funext fun _ => (cR_r hFr hap hO_w_108 (by decide +kernel) rfl)) hp_118))
    replace hFr := fr_R hFr hO_w_109 (by decide +kernel) hp_118
    have hG := GX.tr hG hg_114 (by decide +kernel)
    refine lv_aload_n hx hb dX0_copyFrom_107 rfl (lv_at hl 0 rfl) ?_
    refine lv_aload_n hx hb dX0_copyFrom_108 rfl (lv_at hl 1 rfl) ?_
    refine pg_f (v := .int (I_3 10 a0)) (C := RX0) (T := TX0) (N := 16) hx hb hts (tw_i inlX0) hown hK hP hL_a0 hK_a0 (by decide +kernel) rfl 10 (by decide +kernel) (hts _ (tw_c tw_1171)) rfl dX0_copyFrom_109 ?_
    have h_121 : rg (I_3 10 a0) 0 5 := GX.rI hG 10 rfl
    replace hF := hF.trans (ap_n (cI_e (f := 10) hFr hap hO_a0 (by decide +kernel)))
    refine pp_i (v := (I_3 10 a0)) (ty := .int) (C := RX0) (T := TX0) (N := 16) hx hb hts (tw_i inlX0) tyX0 tyX0_ok nmX0 hown hK hP hD hS hL_this hK_this (by decide +kernel) rfl 10 10 (by decide +kernel) (hts _ (tw_c tw_1171)) rfl (tyX0_ok 10 (by decide +kernel)) rfl rfl (Nat.le_of_ble_eq_true rfl) (ps_10 _ _ _ _ _) dX0_copyFrom_112 (fun I_123 H locs eI_123 hP hD hS => ?_)
    replace hFr := fr_I (f := 10) hFr hO_this (by decide +kernel) eI_123
    replace hF := hF.trans (ap_n (vI_st (f := 10) hO_this (by decide +kernel) eI_123))
    have hG := GX.wI hG 10 rfl eI_123 (rg_w h_121 (by decide +kernel)) (by decide +kernel)
    refine lv_aload_n hx hb dX0_copyFrom_115 rfl (lv_at hl 1 rfl) ?_
    obtain ⟨w_124, hR_w_124, hL_w_124, hK_w_124, hN_w_124, hT_w_124⟩ := sh_a hSH 11 (ci := 0) (kd := 13) (len := 5) rfl (by decide +kernel) hL_a0 hK_a0
    have hO_w_124 : w_124 = vrow σ 11 N := vo_k (c := 0) hO_a0 hR_w_124
    refine pg_f (v := .ref w_124) (C := RX0) (T := TX0) (N := 16) hx hb hts (tw_i inlX0) hown hK hP hL_a0 hK_a0 (by decide +kernel) rfl 11 (by decide +kernel) (hts _ (tw_c tw_119)) (pq_hv rfl hR_w_124) dX0_copyFrom_116 ?_
    refine lv_aload_n hx hb dX0_copyFrom_119 rfl (lv_at hl 0 rfl) ?_
    obtain ⟨w_125, hR_w_125, hL_w_125, hK_w_125, hN_w_125, hT_w_125⟩ := sh_a hSH 11 (ci := 0) (kd := 13) (len := 5) rfl (by decide +kernel) hL_this hK_this
    have hO_w_125 : w_125 = vrow σ 11 M := vo_k (c := 0) hO_this hR_w_125
    refine pg_f (v := .ref w_125) (C := RX0) (T := TX0) (N := 16) hx hb hts (tw_i inlX0) hown hK hP hL_this hK_this (by decide +kernel) rfl 11 (by decide +kernel) (hts _ (tw_c tw_119)) (pq_hv rfl hR_w_125) dX0_copyFrom_120 ?_
    refine pk_v (va_runSN (As := [.ref w_124, .ref w_125]) (rest := []) ⟨hx, hb, hml, hown, hts⟩ (s_X11_copy_11_11 l D t σ I_123 J ri_112 rj rq H.size tg hSH hG.1 w_124 w_125 hL_w_124 hK_w_124 hN_w_124 hT_w_124 hL_w_125 hK_w_125 hN_w_125 hT_w_125) ⟨va_cnB (host := "RingsUnder") 2 hts (tw_W tw_1102) rfl rfl rfl (nl_15 hN) (hts _ (tw_c tw_2)) cd_yX11_copy_2 ⟨Nat.le_of_ble_eq_true rfl, Nat.le_of_ble_eq_true rfl⟩, hts (.static yX11_copy) (tw_c tq_static_yX11_copy), trivial⟩ ⟨pq_blind, pq_pre hK hN hP hD⟩ rfl rfl hl.1 rfl (lv_room (Nat.le_of_ble_eq_true rfl)) dX0_copyFrom_123 ⟨Nat.le_of_ble_eq_true rfl, Nat.le_of_ble_eq_true rfl⟩) hD hS hA (fun σ1 μ1 H locs hw_127 hP hD hS => ?_)
    obtain ⟨ri_128, hu_129, hg_130, hp_132, hp_133, hp_134⟩ := hw_127
    obtain ⟨hu_129a, hu_129b⟩ := Prod.mk.inj hu_129
    rw [hu_129a, hu_129b] at hP hD
    replace hF := hF.trans (ap_n (vR_cp hVT hO_w_125 (by decide +kernel) (funext fun _ => (cR_r hFr hap hO_w_124 (by decide +kernel) rfl)) hp_134))
    replace hFr := fr_R hFr hO_w_125 (by decide +kernel) hp_134
    have hG := GX.tr hG hg_130 (by decide +kernel)
    subst hQ
    exact W.vret hx hb hr (fun t1 ht hW => ⟨⟨(σ, I_123, J, ri_128, rj, rq), rfl, ⟨I_123, ri_128, rfl, hG, (hF0.symm.trans hF), hFr⟩, by rw [ht]; exact hP, va_K.moved hW.alike hK, hD⟩, hS.F ht⟩) hS.2.2 dX0_copyFrom_126
  exact go _ _ _ hP hD hS hl

set_option maxRecDepth 100000 in
def g_X0_addPerson (a0 : Int32) (a1 : Int32) (a2 : Int32) (a3 : Int32) (a4 : Int32) (I : Nat → Int32) (J : Nat → Int64) (ri : Nat → Nat → Int32) (rj : Nat → Nat → Int64) (rq : Nat → Nat → Option Nat) : Int32 × vM := (ap1 (I 0) fun (y_2 : Int32) => (if (y_2) < (40 : Int32) then (ap1 (va_up ri 1 (upd (ri 1) ((y_2)).toNatClampNeg a0)) fun (r_8 : Nat → Nat → Int32) => (ap1 (va_up r_8 2 (upd (r_8 2) ((y_2)).toNatClampNeg a1)) fun (r_10 : Nat → Nat → Int32) => (ap1 (va_up r_10 3 (upd (r_10 3) ((y_2)).toNatClampNeg a2)) fun (r_12 : Nat → Nat → Int32) => (ap1 (va_up r_12 5 (upd (r_12 5) ((y_2)).toNatClampNeg a3)) fun (r_14 : Nat → Nat → Int32) => (ap1 (va_up r_14 4 (upd (r_14 4) ((y_2)).toNatClampNeg a4)) fun (r_16 : Nat → Nat → Int32) => (ap1 (va_up r_16 6 (upd (r_16 6) ((y_2)).toNatClampNeg (0 : Int32))) fun (r_18 : Nat → Nat → Int32) => (ap1 (va_up r_18 7 (upd (r_18 7) ((y_2)).toNatClampNeg (0 : Int32))) fun (r_20 : Nat → Nat → Int32) => (ap1 (va_up r_20 8 (upd (r_20 8) ((y_2)).toNatClampNeg (-1 : Int32))) fun (r_22 : Nat → Nat → Int32) => (ap1 (va_up r_22 9 (upd (r_22 9) ((y_2)).toNatClampNeg (-1 : Int32))) fun (r_24 : Nat → Nat → Int32) => (ap1 ((y_2) + (1 : Int32)) fun (x_25 : Int32) => (ap1 (va_up I 0 x_25) fun (I_27 : Nat → Int32) => ((y_2), I_27, J, r_24, rj, rq)))))))))))) else ((-1 : Int32), I, J, ri, rj, rq)))
set_option maxRecDepth 100000 in
theorem g_X0_addPerson_e {a0 : Int32} {a1 : Int32} {a2 : Int32} {a3 : Int32} {a4 : Int32} {I : Nat → Int32} {J : Nat → Int64} {ri : Nat → Nat → Int32} {rj : Nat → Nat → Int64} {rq : Nat → Nat → Option Nat} : g_X0_addPerson a0 a1 a2 a3 a4 I J ri rj rq = (ap1 (I 0) fun (y_2 : Int32) => (if (y_2) < (40 : Int32) then (ap1 (va_up ri 1 (upd (ri 1) ((y_2)).toNatClampNeg a0)) fun (r_8 : Nat → Nat → Int32) => (ap1 (va_up r_8 2 (upd (r_8 2) ((y_2)).toNatClampNeg a1)) fun (r_10 : Nat → Nat → Int32) => (ap1 (va_up r_10 3 (upd (r_10 3) ((y_2)).toNatClampNeg a2)) fun (r_12 : Nat → Nat → Int32) => (ap1 (va_up r_12 5 (upd (r_12 5) ((y_2)).toNatClampNeg a3)) fun (r_14 : Nat → Nat → Int32) => (ap1 (va_up r_14 4 (upd (r_14 4) ((y_2)).toNatClampNeg a4)) fun (r_16 : Nat → Nat → Int32) => (ap1 (va_up r_16 6 (upd (r_16 6) ((y_2)).toNatClampNeg (0 : Int32))) fun (r_18 : Nat → Nat → Int32) => (ap1 (va_up r_18 7 (upd (r_18 7) ((y_2)).toNatClampNeg (0 : Int32))) fun (r_20 : Nat → Nat → Int32) => (ap1 (va_up r_20 8 (upd (r_20 8) ((y_2)).toNatClampNeg (-1 : Int32))) fun (r_22 : Nat → Nat → Int32) => (ap1 (va_up r_22 9 (upd (r_22 9) ((y_2)).toNatClampNeg (-1 : Int32))) fun (r_24 : Nat → Nat → Int32) => (ap1 ((y_2) + (1 : Int32)) fun (x_25 : Int32) => (ap1 (va_up I 0 x_25) fun (I_27 : Nat → Int32) => ((y_2), I_27, J, r_24, rj, rq)))))))))))) else ((-1 : Int32), I, J, ri, rj, rq))) := rfl
set_option maxHeartbeats 4000000 in
set_option maxRecDepth 100000 in
theorem s_X0_addPerson (l : Launch) (D : va_G) (t : pq_T) (σ : pq_S) (I : Nat → Nat → Int32) (J : Nat → Nat → Int64) (ri : Nat → Nat → Int32) (rj : Nat → Nat → Int64) (rq : Nat → Nat → Option Nat) (sz : Nat) (tg : Nat → Nat) (hSH : SH σ tg) (hG0 : GS tg σ I ri rq) (this : Nat) (a0 : Int32) (a1 : Int32) (a2 : Int32) (a3 : Int32) (a4 : Int32) (hL_this : this ∈ σ.1) (hK_this : σ.2.1 this = 0) (h_a0 : rg a0 0 9) (h_a3 : rg a3 0 4) (M : Nat) (hL_M : M ∈ σ.1) (hK_M : σ.2.1 M = 10) (hO_this : this = vo σ 0 M) : MetI l yX0_addPerson (wa yX0_addPerson cX0_addPerson 7 (some .int)) ({ frames := 0, cells := 0, slots := 0, locals := 0 }) [.ref this, .int a0, .int a1, .int a2, .int a3, .int a4] D t σ (I, J, ri, rj, rq) sz 0 0 (fun (r : Int32) (u : pq_S × pq_M) => ∃ I' : Nat → Nat → Int32, ∃ ri' : Nat → Nat → Int32, u = (σ, I', J, ri', rj, rq) ∧ GX [1005, 0] tg σ I ri rj I' ri' rj rq ∧ g_X0_addPerson a0 a1 a2 a3 a4 (vI 10 σ M I) (vJ 10 σ M J) (vR 10 σ M ri) (vL 10 σ M rj) (vQ 10 σ M rq) = (r, (vI 10 σ M I'), (vJ 10 σ M J), (vR 10 σ M ri'), (vL 10 σ M rj), (vQ 10 σ M rq)) ∧ FR 10 tg σ M (I, J, ri, rj, rq) (I', J, ri', rj, rq) ∧ rg r (-1) 39) := by
  refine Met.ofW (cc := cX0_addPerson) (maxL := 7) (ret := (some .int)) (by decide +kernel) rfl ?_
  intro p e s m args below meth c s₁ B hml hv
  obtain ⟨rfl, hsz, hP, hK, hD0, hN⟩ := hv
  have hx := B.exec
  have hb := B.bytes
  have hr := B.returns
  have hts := atoms_spec (ws := (wa yX0_addPerson cX0_addPerson 7 (some .int))) B.pre
  have hown : s.vm.findClass RX0 = some m.cls := findClass_of_methodNamed B.named
  have hlocks := B.notSynchronized
  subst hsz
  have hD : va_D (pq_B t σ (I, J, ri, rj, rq) s.heap.size) (pq_P t σ (I, J, ri, rj, rq)) := hD0.self
  generalize hAe : pq_B t σ (I, J, ri, rj, rq) s.heap.size = A at hD ⊢
  have hA : ∀ q : Nat, s.heap.size ≤ q → A q := fun q h => by rw [← hAe]; exact Or.inr h
  have hS : va_S A s.heap s.heap [] := va_S.rf
  have hG : GX [1005, 0] tg σ I ri rj I ri rj rq := ⟨hG0, fun _ _ _ => rfl, fun _ _ _ _ _ => rfl, fun _ _ _ _ _ => rfl⟩
  have hl := lv_entry ([.ref this, .int a0, .int a1, .int a2, .int a3, .int a4]) (n := 7) (Nat.le_of_ble_eq_true rfl)
  rw [lg_entry_eq]
  generalize (lg_sl ([.ref this, .int a0, .int a1, .int a2, .int a3, .int a4]) ++ List.replicate (7 - (lg_sl ([.ref this, .int a0, .int a1, .int a2, .int a3, .int a4])).length) Slot.unset).toArray = ls at hl ⊢
  have hl : lv_has ls 7 [(0, .ref this), (1, .int a0), (2, .int a1), (3, .int a2), (4, .int a3), (5, .int a4)] := hl
  refine q_gen (fun Q hQ => ?_)
  have go : ∀ (H : Heap) (locs : List Loc) (ls : Array Slot), va_P D vwCl (pq_P t σ (I, J, ri, rj, rq)) H → va_D A (pq_P t σ (I, J, ri, rj, rq)) → va_S A s.heap H locs → lv_has ls 7 [(0, .ref this), (1, .int a0), (2, .int a1), (3, .int a2), (4, .int a3), (5, .int a4)] → W p l e ({ frames := 0, cells := 0, slots := 0, locals := 0 } : Room) s m (List.toArray ([.ref this, .int a0, .int a1, .int a2, .int a3, .int a4] : List Value)) below meth c H locs 0 0 Q (F0 m 0 ls []) := by
    intro H locs ls hP hD hS hl
    have hVT : VT 10 σ tg M := vt_10 hSH hL_M hK_M
    have hFr : FR 10 tg σ M (I, J, ri, rj, rq) (I, J, ri, rj, rq) := fr_rf
    obtain ⟨F, hF0⟩ : ∃ F, F = g_X0_addPerson a0 a1 a2 a3 a4 (vI 10 σ M I) (vJ 10 σ M J) (vR 10 σ M ri) (vL 10 σ M rj) (vQ 10 σ M rq) := ⟨_, rfl⟩
    have hF := hF0.trans g_X0_addPerson_e
    refine lv_aload_n hx hb dX0_addPerson_0 rfl (lv_at hl 0 rfl) ?_
    refine pg_f (v := .int (I 0 this)) (C := RX0) (T := TX0) (N := 16) hx hb hts (tw_i inlX0) hown hK hP hL_this hK_this (by decide +kernel) rfl 0 (by decide +kernel) (hts _ (tw_c tw_395)) rfl dX0_addPerson_1 ?_
    have h_1 : rg (I 0 this) 0 40 := GX.rI hG 0 rfl
    replace hF := hF.trans (ap_n (vI_e (f := 0) hO_this (by decide +kernel)))
    refine lv_bipush (v := 40) hx hb dX0_addPerson_4 (by decide +kernel) ?_
    refine lv_icmp_lt (tgt := 11) hx hb dX0_addPerson_6 (by decide +kernel) (fun c_3 => ?_) (fun c_3 => ?_)
    · replace hF := hF.trans (if_pos c_3)
      have h_6 : rg (I 0 this) 0 39 := rg_lt1 c_3 h_1 (rg_k (40 : Int32) 40 rfl) (by decide +kernel)
      refine lv_aload_n hx hb dX0_addPerson_11 rfl (lv_at hl 0 rfl) ?_
      refine pg_f (v := .int (I 0 this)) (C := RX0) (T := TX0) (N := 16) hx hb hts (tw_i inlX0) hown hK hP hL_this hK_this (by decide +kernel) rfl 0 (by decide +kernel) (hts _ (tw_c tw_395)) rfl dX0_addPerson_12 ?_
      refine lv_istore (lv' := [(6, .int (I 0 this)), (0, .ref this), (1, .int a0), (2, .int a1), (3, .int a2), (4, .int a3), (5, .int a4)]) hx hb dX0_addPerson_15 hl (by decide +kernel) rfl (fun ls hl => ?_)
      refine lv_aload_n hx hb dX0_addPerson_17 rfl (lv_at hl 1 rfl) ?_
      obtain ⟨w_7, hR_w_7, hL_w_7, hK_w_7, hN_w_7, hT_w_7⟩ := sh_a hSH 1 (ci := 0) (kd := 13) (len := 40) rfl (by decide +kernel) hL_this hK_this
      have hO_w_7 : w_7 = vrow σ 1 M := vo_k (c := 0) hO_this hR_w_7
      refine pg_f (v := .ref w_7) (C := RX0) (T := TX0) (N := 16) hx hb hts (tw_i inlX0) hown hK hP hL_this hK_this (by decide +kernel) rfl 1 (by decide +kernel) (hts _ (tw_c tw_110)) (pq_hv rfl hR_w_7) dX0_addPerson_18 ?_
      refine lv_iload hx hb dX0_addPerson_21 (lv_at hl 0 rfl) ?_
      refine lv_iload_n hx hb dX0_addPerson_23 rfl (lv_at hl 2 rfl) ?_
      refine pt_i hx hb hK hP hD hS hL_w_7 hK_w_7 hN_w_7 (rg_in h_6 (by decide +kernel)) dX0_addPerson_24 (fun r_8 H locs er_8 hP hD hS => ?_)
      replace hFr := fr_R hFr hO_w_7 (by decide +kernel) er_8
      replace hF := hF.trans (ap_n (vR_st hVT hO_w_7 (by decide +kernel) er_8))
      have hG := GX.wR hG hSH hT_w_7 rfl er_8 (rg_w h_a0 (by decide +kernel)) (by decide +kernel)
      refine lv_aload_n hx hb dX0_addPerson_25 rfl (lv_at hl 1 rfl) ?_
      obtain ⟨w_9, hR_w_9, hL_w_9, hK_w_9, hN_w_9, hT_w_9⟩ := sh_a hSH 2 (ci := 0) (kd := 13) (len := 40) rfl (by decide +kernel) hL_this hK_this
      have hO_w_9 : w_9 = vrow σ 2 M := vo_k (c := 0) hO_this hR_w_9
      refine pg_f (v := .ref w_9) (C := RX0) (T := TX0) (N := 16) hx hb hts (tw_i inlX0) hown hK hP hL_this hK_this (by decide +kernel) rfl 2 (by decide +kernel) (hts _ (tw_c tw_111)) (pq_hv rfl hR_w_9) dX0_addPerson_26 ?_
      refine lv_iload hx hb dX0_addPerson_29 (lv_at hl 0 rfl) ?_
      refine lv_iload_n hx hb dX0_addPerson_31 rfl (lv_at hl 3 rfl) ?_
      refine pt_i hx hb hK hP hD hS hL_w_9 hK_w_9 hN_w_9 (rg_in h_6 (by decide +kernel)) dX0_addPerson_32 (fun r_10 H locs er_10 hP hD hS => ?_)
      replace hFr := fr_R hFr hO_w_9 (by decide +kernel) er_10
      replace hF := hF.trans (ap_n (vR_st hVT hO_w_9 (by decide +kernel) er_10))
      have hG := GX.wR hG hSH hT_w_9 rfl er_10 (rg_w (rg_full _) (by decide +kernel)) (by decide +kernel)
      refine lv_aload_n hx hb dX0_addPerson_33 rfl (lv_at hl 1 rfl) ?_
      obtain ⟨w_11, hR_w_11, hL_w_11, hK_w_11, hN_w_11, hT_w_11⟩ := sh_a hSH 3 (ci := 0) (kd := 13) (len := 40) rfl (by decide +kernel) hL_this hK_this
      have hO_w_11 : w_11 = vrow σ 3 M := vo_k (c := 0) hO_this hR_w_11
      refine pg_f (v := .ref w_11) (C := RX0) (T := TX0) (N := 16) hx hb hts (tw_i inlX0) hown hK hP hL_this hK_this (by decide +kernel) rfl 3 (by decide +kernel) (hts _ (tw_c tw_112)) (pq_hv rfl hR_w_11) dX0_addPerson_34 ?_
      refine lv_iload hx hb dX0_addPerson_37 (lv_at hl 0 rfl) ?_
      refine lv_iload_n hx hb dX0_addPerson_39 rfl (lv_at hl 4 rfl) ?_
      refine pt_i hx hb hK hP hD hS hL_w_11 hK_w_11 hN_w_11 (rg_in h_6 (by decide +kernel)) dX0_addPerson_40 (fun r_12 H locs er_12 hP hD hS => ?_)
      replace hFr := fr_R hFr hO_w_11 (by decide +kernel) er_12
      replace hF := hF.trans (ap_n (vR_st hVT hO_w_11 (by decide +kernel) er_12))
      have hG := GX.wR hG hSH hT_w_11 rfl er_12 (rg_w (rg_full _) (by decide +kernel)) (by decide +kernel)
      refine lv_aload_n hx hb dX0_addPerson_41 rfl (lv_at hl 1 rfl) ?_
      obtain ⟨w_13, hR_w_13, hL_w_13, hK_w_13, hN_w_13, hT_w_13⟩ := sh_a hSH 5 (ci := 0) (kd := 13) (len := 40) rfl (by decide +kernel) hL_this hK_this
      have hO_w_13 : w_13 = vrow σ 5 M := vo_k (c := 0) hO_this hR_w_13
      refine pg_f (v := .ref w_13) (C := RX0) (T := TX0) (N := 16) hx hb hts (tw_i inlX0) hown hK hP hL_this hK_this (by decide +kernel) rfl 5 (by decide +kernel) (hts _ (tw_c tw_114)) (pq_hv rfl hR_w_13) dX0_addPerson_42 ?_
      refine lv_iload hx hb dX0_addPerson_45 (lv_at hl 0 rfl) ?_
      refine lv_iload hx hb dX0_addPerson_47 (lv_at hl 5 rfl) ?_
      refine pt_i hx hb hK hP hD hS hL_w_13 hK_w_13 hN_w_13 (rg_in h_6 (by decide +kernel)) dX0_addPerson_49 (fun r_14 H locs er_14 hP hD hS => ?_)
      replace hFr := fr_R hFr hO_w_13 (by decide +kernel) er_14
      replace hF := hF.trans (ap_n (vR_st hVT hO_w_13 (by decide +kernel) er_14))
      have hG := GX.wR hG hSH hT_w_13 rfl er_14 (rg_w h_a3 (by decide +kernel)) (by decide +kernel)
      refine lv_aload_n hx hb dX0_addPerson_50 rfl (lv_at hl 1 rfl) ?_
      obtain ⟨w_15, hR_w_15, hL_w_15, hK_w_15, hN_w_15, hT_w_15⟩ := sh_a hSH 4 (ci := 0) (kd := 13) (len := 40) rfl (by decide +kernel) hL_this hK_this
      have hO_w_15 : w_15 = vrow σ 4 M := vo_k (c := 0) hO_this hR_w_15
      refine pg_f (v := .ref w_15) (C := RX0) (T := TX0) (N := 16) hx hb hts (tw_i inlX0) hown hK hP hL_this hK_this (by decide +kernel) rfl 4 (by decide +kernel) (hts _ (tw_c tw_113)) (pq_hv rfl hR_w_15) dX0_addPerson_51 ?_
      refine lv_iload hx hb dX0_addPerson_54 (lv_at hl 0 rfl) ?_
      refine lv_iload hx hb dX0_addPerson_56 (lv_at hl 6 rfl) ?_
      refine pt_i hx hb hK hP hD hS hL_w_15 hK_w_15 hN_w_15 (rg_in h_6 (by decide +kernel)) dX0_addPerson_58 (fun r_16 H locs er_16 hP hD hS => ?_)
      replace hFr := fr_R hFr hO_w_15 (by decide +kernel) er_16
      replace hF := hF.trans (ap_n (vR_st hVT hO_w_15 (by decide +kernel) er_16))
      have hG := GX.wR hG hSH hT_w_15 rfl er_16 (rg_w (rg_full _) (by decide +kernel)) (by decide +kernel)
      refine lv_aload_n hx hb dX0_addPerson_59 rfl (lv_at hl 1 rfl) ?_
      obtain ⟨w_17, hR_w_17, hL_w_17, hK_w_17, hN_w_17, hT_w_17⟩ := sh_a hSH 6 (ci := 0) (kd := 13) (len := 40) rfl (by decide +kernel) hL_this hK_this
      have hO_w_17 : w_17 = vrow σ 6 M := vo_k (c := 0) hO_this hR_w_17
      refine pg_f (v := .ref w_17) (C := RX0) (T := TX0) (N := 16) hx hb hts (tw_i inlX0) hown hK hP hL_this hK_this (by decide +kernel) rfl 6 (by decide +kernel) (hts _ (tw_c tw_115)) (pq_hv rfl hR_w_17) dX0_addPerson_60 ?_
      refine lv_iload hx hb dX0_addPerson_63 (lv_at hl 0 rfl) ?_
      refine lv_iconst (v := 0) hx hb dX0_addPerson_65 (by decide +kernel) ?_
      refine pt_i hx hb hK hP hD hS hL_w_17 hK_w_17 hN_w_17 (rg_in h_6 (by decide +kernel)) dX0_addPerson_66 (fun r_18 H locs er_18 hP hD hS => ?_)
      replace hFr := fr_R hFr hO_w_17 (by decide +kernel) er_18
      replace hF := hF.trans (ap_n (vR_st hVT hO_w_17 (by decide +kernel) er_18))
      have hG := GX.wR hG hSH hT_w_17 rfl er_18 (rg_w (rg_k (0 : Int32) 0 rfl) (by decide +kernel)) (by decide +kernel)
      refine lv_aload_n hx hb dX0_addPerson_67 rfl (lv_at hl 1 rfl) ?_
      obtain ⟨w_19, hR_w_19, hL_w_19, hK_w_19, hN_w_19, hT_w_19⟩ := sh_a hSH 7 (ci := 0) (kd := 13) (len := 40) rfl (by decide +kernel) hL_this hK_this
      have hO_w_19 : w_19 = vrow σ 7 M := vo_k (c := 0) hO_this hR_w_19
      refine pg_f (v := .ref w_19) (C := RX0) (T := TX0) (N := 16) hx hb hts (tw_i inlX0) hown hK hP hL_this hK_this (by decide +kernel) rfl 7 (by decide +kernel) (hts _ (tw_c tw_116)) (pq_hv rfl hR_w_19) dX0_addPerson_68 ?_
      refine lv_iload hx hb dX0_addPerson_71 (lv_at hl 0 rfl) ?_
      refine lv_iconst (v := 0) hx hb dX0_addPerson_73 (by decide +kernel) ?_
      refine pt_i hx hb hK hP hD hS hL_w_19 hK_w_19 hN_w_19 (rg_in h_6 (by decide +kernel)) dX0_addPerson_74 (fun r_20 H locs er_20 hP hD hS => ?_)
      replace hFr := fr_R hFr hO_w_19 (by decide +kernel) er_20
      replace hF := hF.trans (ap_n (vR_st hVT hO_w_19 (by decide +kernel) er_20))
      have hG := GX.wR hG hSH hT_w_19 rfl er_20 (rg_w (rg_k (0 : Int32) 0 rfl) (by decide +kernel)) (by decide +kernel)
      refine lv_aload_n hx hb dX0_addPerson_75 rfl (lv_at hl 1 rfl) ?_
      obtain ⟨w_21, hR_w_21, hL_w_21, hK_w_21, hN_w_21, hT_w_21⟩ := sh_a hSH 8 (ci := 0) (kd := 13) (len := 40) rfl (by decide +kernel) hL_this hK_this
      have hO_w_21 : w_21 = vrow σ 8 M := vo_k (c := 0) hO_this hR_w_21
      refine pg_f (v := .ref w_21) (C := RX0) (T := TX0) (N := 16) hx hb hts (tw_i inlX0) hown hK hP hL_this hK_this (by decide +kernel) rfl 8 (by decide +kernel) (hts _ (tw_c tw_117)) (pq_hv rfl hR_w_21) dX0_addPerson_76 ?_
      refine lv_iload hx hb dX0_addPerson_79 (lv_at hl 0 rfl) ?_
      refine lv_iconst (v := (-1)) hx hb dX0_addPerson_81 (by decide +kernel) ?_
      refine pt_i hx hb hK hP hD hS hL_w_21 hK_w_21 hN_w_21 (rg_in h_6 (by decide +kernel)) dX0_addPerson_82 (fun r_22 H locs er_22 hP hD hS => ?_)
      replace hFr := fr_R hFr hO_w_21 (by decide +kernel) er_22
      replace hF := hF.trans (ap_n (vR_st hVT hO_w_21 (by decide +kernel) er_22))
      have hG := GX.wR hG hSH hT_w_21 rfl er_22 (rg_w (rg_k (-1 : Int32) (-1) rfl) (by decide +kernel)) (by decide +kernel)
      refine lv_aload_n hx hb dX0_addPerson_83 rfl (lv_at hl 1 rfl) ?_
      obtain ⟨w_23, hR_w_23, hL_w_23, hK_w_23, hN_w_23, hT_w_23⟩ := sh_a hSH 9 (ci := 0) (kd := 13) (len := 40) rfl (by decide +kernel) hL_this hK_this
      have hO_w_23 : w_23 = vrow σ 9 M := vo_k (c := 0) hO_this hR_w_23
      refine pg_f (v := .ref w_23) (C := RX0) (T := TX0) (N := 16) hx hb hts (tw_i inlX0) hown hK hP hL_this hK_this (by decide +kernel) rfl 9 (by decide +kernel) (hts _ (tw_c tw_118)) (pq_hv rfl hR_w_23) dX0_addPerson_84 ?_
      refine lv_iload hx hb dX0_addPerson_87 (lv_at hl 0 rfl) ?_
      refine lv_iconst (v := (-1)) hx hb dX0_addPerson_89 (by decide +kernel) ?_
      refine pt_i hx hb hK hP hD hS hL_w_23 hK_w_23 hN_w_23 (rg_in h_6 (by decide +kernel)) dX0_addPerson_90 (fun r_24 H locs er_24 hP hD hS => ?_)
      replace hFr := fr_R hFr hO_w_23 (by decide +kernel) er_24
      replace hF := hF.trans (ap_n (vR_st hVT hO_w_23 (by decide +kernel) er_24))
      have hG := GX.wR hG hSH hT_w_23 rfl er_24 (rg_w (rg_k (-1 : Int32) (-1) rfl) (by decide +kernel)) (by decide +kernel)
      refine lv_aload_n hx hb dX0_addPerson_91 rfl (lv_at hl 1 rfl) ?_
      refine lv_dup hx hb dX0_addPerson_92 rfl ?_
      refine pg_f (v := .int (I 0 this)) (C := RX0) (T := TX0) (N := 16) hx hb hts (tw_i inlX0) hown hK hP hL_this hK_this (by decide +kernel) rfl 0 (by decide +kernel) (hts _ (tw_c tw_395)) rfl dX0_addPerson_93 ?_
      refine lv_iconst (v := 1) hx hb dX0_addPerson_96 (by decide +kernel) ?_
      refine lv_iadd hx hb dX0_addPerson_97 ?_
      refine lv_topi (fun x_25 ex_25 => ?_)
      replace hF := hF.trans (ap_n ex_25)
      have h_26 : rg x_25 1 40 := rg_of_eq ex_25 (rg_add h_6 (rg_k (1 : Int32) 1 rfl) (by decide +kernel))
      refine pp_i (v := x_25) (ty := .int) (C := RX0) (T := TX0) (N := 16) hx hb hts (tw_i inlX0) tyX0 tyX0_ok nmX0 hown hK hP hD hS hL_this hK_this (by decide +kernel) rfl 0 0 (by decide +kernel) (hts _ (tw_c tw_395)) rfl (tyX0_ok 0 (by decide +kernel)) rfl rfl (Nat.le_of_ble_eq_true rfl) (ps_0 _ _ _ _ _) dX0_addPerson_98 (fun I_27 H locs eI_27 hP hD hS => ?_)
      replace hFr := fr_I (f := 0) hFr hO_this (by decide +kernel) eI_27
      replace hF := hF.trans (ap_n (vI_st (f := 0) hO_this (by decide +kernel) eI_27))
      have hG := GX.wI hG 0 rfl eI_27 (rg_w h_26 (by decide +kernel)) (by decide +kernel)
      refine lv_iload hx hb dX0_addPerson_101 (lv_at hl 0 rfl) ?_
      subst hQ
      exact W.iret (v := (I 0 this)) hx hb hr (fun t1 ht hW => ⟨⟨(I 0 this), (σ, I_27, J, r_24, rj, rq), rfl, ⟨I_27, r_24, rfl, hG, (hF0.symm.trans hF), hFr, (rg_w h_6 (by decide +kernel))⟩, by rw [ht]; exact hP, va_K.moved hW.alike hK, hD⟩, hS.F ht⟩) hS.2.2 dX0_addPerson_103
    · replace hF := hF.trans (if_neg c_3)
      have h_28 : rg (I 0 this) 40 40 := rg_le2 (nlt c_3) (rg_k (40 : Int32) 40 rfl) h_1 (by decide +kernel)
      refine lv_iconst (v := (-1)) hx hb dX0_addPerson_9 (by decide +kernel) ?_
      subst hQ
      exact W.iret (v := (-1)) hx hb hr (fun t1 ht hW => ⟨⟨(-1), (σ, I, J, ri, rj, rq), rfl, ⟨I, ri, rfl, hG, (hF0.symm.trans hF), hFr, (rg_w (rg_k (-1 : Int32) (-1) rfl) (by decide +kernel))⟩, by rw [ht]; exact hP, va_K.moved hW.alike hK, hD⟩, hS.F ht⟩) hS.2.2 dX0_addPerson_10
  exact go _ _ _ hP hD hS hl

set_option maxRecDepth 100000 in
def g_X0_isOnRing (a0 : Int32) (I : Nat → Int32) (J : Nat → Int64) (ri : Nat → Nat → Int32) (rj : Nat → Nat → Int64) (rq : Nat → Nat → Option Nat) : Int32 × vM := (ap1 (ri 5 (a0).toNatClampNeg) fun (x_1 : Int32) => (if (5 : Int32) ≤ x_1 then ((0 : Int32), I, J, ri, rj, rq) else ((1 : Int32), I, J, ri, rj, rq)))
set_option maxRecDepth 100000 in
theorem g_X0_isOnRing_e {a0 : Int32} {I : Nat → Int32} {J : Nat → Int64} {ri : Nat → Nat → Int32} {rj : Nat → Nat → Int64} {rq : Nat → Nat → Option Nat} : g_X0_isOnRing a0 I J ri rj rq = (ap1 (ri 5 (a0).toNatClampNeg) fun (x_1 : Int32) => (if (5 : Int32) ≤ x_1 then ((0 : Int32), I, J, ri, rj, rq) else ((1 : Int32), I, J, ri, rj, rq))) := rfl
set_option maxHeartbeats 4000000 in
set_option maxRecDepth 100000 in
theorem s_X0_isOnRing (l : Launch) (D : va_G) (t : pq_T) (σ : pq_S) (I : Nat → Nat → Int32) (J : Nat → Nat → Int64) (ri : Nat → Nat → Int32) (rj : Nat → Nat → Int64) (rq : Nat → Nat → Option Nat) (sz : Nat) (tg : Nat → Nat) (hSH : SH σ tg) (hG0 : GS tg σ I ri rq) (this : Nat) (a0 : Int32) (hL_this : this ∈ σ.1) (hK_this : σ.2.1 this = 0) (h_a0 : rg a0 0 39) (this_place : Nat) (hR_this_place : σ.2.2.1 5 this = some this_place) (hL_this_place : this_place ∈ σ.1) (hK_this_place : σ.2.1 this_place = 13) (hN_this_place : σ.2.2.2 this_place = 40) (hT_this_place : tg this_place = 5) (M : Nat) (hL_M : M ∈ σ.1) (hK_M : σ.2.1 M = 10) (hO_this : this = vo σ 0 M) : MetI l yX0_isOnRing (wa yX0_isOnRing cX0_isOnRing 2 (some .boolean)) ({ frames := 0, cells := 0, slots := 0, locals := 0 }) [.ref this, .int a0] D t σ (I, J, ri, rj, rq) sz 0 0 (fun (r : Int32) (u : pq_S × pq_M) => u = (σ, I, J, ri, rj, rq) ∧ g_X0_isOnRing a0 (vI 10 σ M I) (vJ 10 σ M J) (vR 10 σ M ri) (vL 10 σ M rj) (vQ 10 σ M rq) = (r, (vI 10 σ M I), (vJ 10 σ M J), (vR 10 σ M ri), (vL 10 σ M rj), (vQ 10 σ M rq)) ∧ ((r = 1 ∧ rg (ri this_place (a0).toNatClampNeg) 0 4) ∨ (r = 0 ∧ True))) := by
  refine Met.ofW (cc := cX0_isOnRing) (maxL := 2) (ret := (some .boolean)) (by decide +kernel) rfl ?_
  intro p e s m args below meth c s₁ B hml hv
  obtain ⟨rfl, hsz, hP, hK, hD0, hN⟩ := hv
  have hx := B.exec
  have hb := B.bytes
  have hr := B.returns
  have hts := atoms_spec (ws := (wa yX0_isOnRing cX0_isOnRing 2 (some .boolean))) B.pre
  have hown : s.vm.findClass RX0 = some m.cls := findClass_of_methodNamed B.named
  have hlocks := B.notSynchronized
  subst hsz
  have hD : va_D (pq_B t σ (I, J, ri, rj, rq) s.heap.size) (pq_P t σ (I, J, ri, rj, rq)) := hD0.self
  generalize hAe : pq_B t σ (I, J, ri, rj, rq) s.heap.size = A at hD ⊢
  have hA : ∀ q : Nat, s.heap.size ≤ q → A q := fun q h => by rw [← hAe]; exact Or.inr h
  have hS : va_S A s.heap s.heap [] := va_S.rf
  have hG : GX [] tg σ I ri rj I ri rj rq := ⟨hG0, fun _ _ _ => rfl, fun _ _ _ _ _ => rfl, fun _ _ _ _ _ => rfl⟩
  have hl := lv_entry ([.ref this, .int a0]) (n := 2) (Nat.le_of_ble_eq_true rfl)
  rw [lg_entry_eq]
  generalize (lg_sl ([.ref this, .int a0]) ++ List.replicate (2 - (lg_sl ([.ref this, .int a0])).length) Slot.unset).toArray = ls at hl ⊢
  have hl : lv_has ls 2 [(0, .ref this), (1, .int a0)] := hl
  refine q_gen (fun Q hQ => ?_)
  have go : ∀ (H : Heap) (locs : List Loc) (ls : Array Slot), va_P D vwCl (pq_P t σ (I, J, ri, rj, rq)) H → va_D A (pq_P t σ (I, J, ri, rj, rq)) → va_S A s.heap H locs → lv_has ls 2 [(0, .ref this), (1, .int a0)] → W p l e ({ frames := 0, cells := 0, slots := 0, locals := 0 } : Room) s m (List.toArray ([.ref this, .int a0] : List Value)) below meth c H locs 0 0 Q (F0 m 0 ls []) := by
    intro H locs ls hP hD hS hl
    have hVT : VT 10 σ tg M := vt_10 hSH hL_M hK_M
    have hFr : FR 10 tg σ M (I, J, ri, rj, rq) (I, J, ri, rj, rq) := fr_rf
    have hO_this_place : this_place = vrow σ 5 M := vo_k (c := 0) hO_this hR_this_place
    obtain ⟨F, hF0⟩ : ∃ F, F = g_X0_isOnRing a0 (vI 10 σ M I) (vJ 10 σ M J) (vR 10 σ M ri) (vL 10 σ M rj) (vQ 10 σ M rq) := ⟨_, rfl⟩
    have hF := hF0.trans g_X0_isOnRing_e
    refine lv_aload_n hx hb dX0_isOnRing_0 rfl (lv_at hl 0 rfl) ?_
    refine pg_f (v := .ref this_place) (C := RX0) (T := TX0) (N := 16) hx hb hts (tw_i inlX0) hown hK hP hL_this hK_this (by decide +kernel) rfl 5 (by decide +kernel) (hts _ (tw_c tw_114)) (pq_hv rfl hR_this_place) dX0_isOnRing_1 ?_
    refine lv_iload_n hx hb dX0_isOnRing_4 rfl (lv_at hl 1 rfl) ?_
    refine pl_i hx hb hK hP hL_this_place hK_this_place hN_this_place (rg_in h_a0 (by decide +kernel)) dX0_isOnRing_5 ?_
    refine lv_topi (fun x_1 ex_1 => ?_)
    replace hF := hF.trans (ap_n (vR_r hO_this_place (by decide +kernel) ex_1))
    have h_2 : rg x_1 0 300 := rg_of_eq ex_1 (GX.rR hG hT_this_place rfl)
    refine lv_iconst (v := 5) hx hb dX0_isOnRing_6 (by decide +kernel) ?_
    refine lv_icmp_ge (tgt := 14) hx hb dX0_isOnRing_7 (by decide +kernel) (fun c_3 => ?_) (fun c_3 => ?_)
    · replace hF := hF.trans (if_pos c_3)
      have h_6 : rg x_1 5 300 := rg_le2 c_3 (rg_k (5 : Int32) 5 rfl) h_2 (by decide +kernel)
      refine lv_iconst (v := 0) hx hb dX0_isOnRing_14 (by decide +kernel) ?_
      subst hQ
      exact W.zret (v := 0) hx hb hr (by decide +kernel) (fun t1 ht hW => ⟨⟨0, (σ, I, J, ri, rj, rq), rfl, ⟨rfl, (hF0.symm.trans hF), (Or.inr ⟨rfl, trivial⟩)⟩, by rw [ht]; exact hP, va_K.moved hW.alike hK, hD⟩, hS.F ht⟩) hS.2.2 dX0_isOnRing_15
    · replace hF := hF.trans (if_neg c_3)
      have h_7 : rg x_1 0 4 := rg_lt1 (nle c_3) h_2 (rg_k (5 : Int32) 5 rfl) (by decide +kernel)
      refine lv_iconst (v := 1) hx hb dX0_isOnRing_10 (by decide +kernel) ?_
      refine lv_goto (tgt := 15) hx hb dX0_isOnRing_11 (by decide +kernel) ?_
      subst hQ
      exact W.zret (v := 1) hx hb hr (by decide +kernel) (fun t1 ht hW => ⟨⟨1, (σ, I, J, ri, rj, rq), rfl, ⟨rfl, (hF0.symm.trans hF), (Or.inl ⟨rfl, (rg_of_eq ex_1.symm (rg_w h_7 (by decide +kernel)))⟩)⟩, by rw [ht]; exact hP, va_K.moved hW.alike hK, hD⟩, hS.F ht⟩) hS.2.2 dX0_isOnRing_15
  exact go _ _ _ hP hD hS hl

set_option maxRecDepth 100000 in
def g_X0_onRings_K26 (x_323 : Int32) (k_g_X0_onRings_L4 : (Int64) → (Int32) → Int64 × vM) (x_378 : Int64) : Int64 × vM := (ap1 (x_323 + Int32.ofInt 1) fun (x_382 : Int32) => (k_g_X0_onRings_L4 x_378 x_382))
set_option maxRecDepth 100000 in
theorem g_X0_onRings_K26_e {x_323 : Int32} {k_g_X0_onRings_L4 : (Int64) → (Int32) → Int64 × vM} {x_378 : Int64} : g_X0_onRings_K26 x_323 k_g_X0_onRings_L4 x_378 = (ap1 (x_323 + Int32.ofInt 1) fun (x_382 : Int32) => (k_g_X0_onRings_L4 x_378 x_382)) := rfl
set_option maxRecDepth 100000 in
def g_X0_onRings_L4 (I : Nat → Int32) (J : Nat → Int64) (ri : Nat → Nat → Int32) (rj : Nat → Nat → Int64) (rq : Nat → Nat → Option Nat) : Nat → (Int64) → (Int32) → Int64 × vM
  | 0, x_322, x_323 => ((0 : Int64), I, J, ri, rj, rq)
  | n_350 + 1, x_322, x_323 => (ap1 (I 0) fun (y_356 : Int32) => (if (y_356) ≤ x_323 then (x_322, I, J, ri, rj, rq) else (bnI (g_X0_isOnRing x_323 I J ri rj rq) fun (x_363 : Int32) (_ : Nat → Int32) (_ : Nat → Int64) (_ : Nat → Nat → Int32) (_ : Nat → Nat → Int64) (_ : Nat → Nat → Option Nat) => (if x_363 = (0 : Int32) then (g_X0_onRings_K26 x_323 (g_X0_onRings_L4 I J ri rj rq n_350) x_322) else (ap1 ((1 : Int64) <<< (x_323.toInt64 &&& 63)) fun (x_393 : Int64) => (ap1 (x_322 ||| x_393) fun (x_394 : Int64) => (g_X0_onRings_K26 x_323 (g_X0_onRings_L4 I J ri rj rq n_350) x_394)))))))
set_option maxRecDepth 100000 in
theorem g_X0_onRings_L4_e {I : Nat → Int32} {J : Nat → Int64} {ri : Nat → Nat → Int32} {rj : Nat → Nat → Int64} {rq : Nat → Nat → Option Nat} {n_350 : Nat} {x_322 : Int64} {x_323 : Int32} : g_X0_onRings_L4 I J ri rj rq (n_350 + 1) x_322 x_323 = (ap1 (I 0) fun (y_356 : Int32) => (if (y_356) ≤ x_323 then (x_322, I, J, ri, rj, rq) else (bnI (g_X0_isOnRing x_323 I J ri rj rq) fun (x_363 : Int32) (_ : Nat → Int32) (_ : Nat → Int64) (_ : Nat → Nat → Int32) (_ : Nat → Nat → Int64) (_ : Nat → Nat → Option Nat) => (if x_363 = (0 : Int32) then (g_X0_onRings_K26 x_323 (g_X0_onRings_L4 I J ri rj rq n_350) x_322) else (ap1 ((1 : Int64) <<< (x_323.toInt64 &&& 63)) fun (x_393 : Int64) => (ap1 (x_322 ||| x_393) fun (x_394 : Int64) => (g_X0_onRings_K26 x_323 (g_X0_onRings_L4 I J ri rj rq n_350) x_394))))))) := rfl
set_option maxRecDepth 100000 in
def g_X0_onRings (I : Nat → Int32) (J : Nat → Int64) (ri : Nat → Nat → Int32) (rj : Nat → Nat → Int64) (rq : Nat → Nat → Option Nat) : Int64 × vM := (g_X0_onRings_L4 I J ri rj rq ((40 - ((0 : Int32)).toInt).toNat + 1) (0 : Int64) (0 : Int32))
set_option maxRecDepth 100000 in
theorem g_X0_onRings_e {I : Nat → Int32} {J : Nat → Int64} {ri : Nat → Nat → Int32} {rj : Nat → Nat → Int64} {rq : Nat → Nat → Option Nat} : g_X0_onRings I J ri rj rq = (g_X0_onRings_L4 I J ri rj rq ((40 - ((0 : Int32)).toInt).toNat + 1) (0 : Int64) (0 : Int32)) := rfl
set_option maxHeartbeats 4000000 in
set_option maxRecDepth 100000 in
theorem s_X0_onRings (l : Launch) (D : va_G) (t : pq_T) (σ : pq_S) (I : Nat → Nat → Int32) (J : Nat → Nat → Int64) (ri : Nat → Nat → Int32) (rj : Nat → Nat → Int64) (rq : Nat → Nat → Option Nat) (sz : Nat) (tg : Nat → Nat) (hSH : SH σ tg) (hG0 : GS tg σ I ri rq) (this : Nat) (hL_this : this ∈ σ.1) (hK_this : σ.2.1 this = 0) (M : Nat) (hL_M : M ∈ σ.1) (hK_M : σ.2.1 M = 10) (hO_this : this = vo σ 0 M) : MetL l yX0_onRings (wa yX0_onRings cX0_onRings 4 (some .long)) ({ frames := 1, cells := 0, slots := 0, locals := 21 }) [.ref this] D t σ (I, J, ri, rj, rq) sz 0 0 (fun (r : Int64) (u : pq_S × pq_M) => u = (σ, I, J, ri, rj, rq) ∧ g_X0_onRings (vI 10 σ M I) (vJ 10 σ M J) (vR 10 σ M ri) (vL 10 σ M rj) (vQ 10 σ M rq) = (r, (vI 10 σ M I), (vJ 10 σ M J), (vR 10 σ M ri), (vL 10 σ M rj), (vQ 10 σ M rq))) := by
  refine Met.ofW (cc := cX0_onRings) (maxL := 4) (ret := (some .long)) (by decide +kernel) rfl ?_
  intro p e s m args below meth c s₁ B hml hv
  obtain ⟨rfl, hsz, hP, hK, hD0, hN⟩ := hv
  have hx := B.exec
  have hb := B.bytes
  have hr := B.returns
  have hts := atoms_spec (ws := (wa yX0_onRings cX0_onRings 4 (some .long))) B.pre
  have hown : s.vm.findClass RX0 = some m.cls := findClass_of_methodNamed B.named
  have hlocks := B.notSynchronized
  subst hsz
  have hD : va_D (pq_B t σ (I, J, ri, rj, rq) s.heap.size) (pq_P t σ (I, J, ri, rj, rq)) := hD0.self
  generalize hAe : pq_B t σ (I, J, ri, rj, rq) s.heap.size = A at hD ⊢
  have hA : ∀ q : Nat, s.heap.size ≤ q → A q := fun q h => by rw [← hAe]; exact Or.inr h
  have hS : va_S A s.heap s.heap [] := va_S.rf
  have hG : GX [] tg σ I ri rj I ri rj rq := ⟨hG0, fun _ _ _ => rfl, fun _ _ _ _ _ => rfl, fun _ _ _ _ _ => rfl⟩
  have hl := lv_entry ([.ref this]) (n := 4) (Nat.le_of_ble_eq_true rfl)
  rw [lg_entry_eq]
  generalize (lg_sl ([.ref this]) ++ List.replicate (4 - (lg_sl ([.ref this])).length) Slot.unset).toArray = ls at hl ⊢
  have hl : lv_has ls 4 [(0, .ref this)] := hl
  refine q_gen (fun Q hQ => ?_)
  have go : ∀ (H : Heap) (locs : List Loc) (ls : Array Slot), va_P D vwCl (pq_P t σ (I, J, ri, rj, rq)) H → va_D A (pq_P t σ (I, J, ri, rj, rq)) → va_S A s.heap H locs → lv_has ls 4 [(0, .ref this)] → W p l e ({ frames := 1, cells := 0, slots := 0, locals := 21 } : Room) s m (List.toArray ([.ref this] : List Value)) below meth c H locs 0 0 Q (F0 m 0 ls []) := by
    intro H locs ls hP hD hS hl
    have hVT : VT 10 σ tg M := vt_10 hSH hL_M hK_M
    have hFr : FR 10 tg σ M (I, J, ri, rj, rq) (I, J, ri, rj, rq) := fr_rf
    obtain ⟨F, hF0⟩ : ∃ F, F = g_X0_onRings (vI 10 σ M I) (vJ 10 σ M J) (vR 10 σ M ri) (vL 10 σ M rj) (vQ 10 σ M rq) := ⟨_, rfl⟩
    have hF := hF0.trans g_X0_onRings_e
    refine lv_lconst (v := 0) hx hb dX0_onRings_0 (by decide +kernel) ?_
    refine lv_lstore_n (lv' := [(1, .long 0), (0, .ref this)]) hx hb dX0_onRings_1 rfl hl (by decide +kernel) rfl (fun ls hl => ?_)
    refine lv_iconst (v := 0) hx hb dX0_onRings_2 (by decide +kernel) ?_
    refine lv_istore_n (lv' := [(3, .int 0), (1, .long 0), (0, .ref this)]) hx hb dX0_onRings_3 rfl hl (by decide +kernel) rfl (fun ls hl => ?_)
    have L_351 : ∀ (n_350 : Nat) (x_322 : Int64) (x_323 : Int32) (H : Heap) (locs : List Loc) (ls : Array Slot), rg x_323 0 40 → (40 - (x_323).toInt).toNat < n_350 → F = g_X0_onRings_L4 (vI 10 σ M I) (vJ 10 σ M J) (vR 10 σ M ri) (vL 10 σ M rj) (vQ 10 σ M rq) n_350 x_322 x_323 → FR 10 tg σ M (I, J, ri, rj, rq) (I, J, ri, rj, rq) → GX [] tg σ I ri rj I ri rj rq → va_P D vwCl (pq_P t σ (I, J, ri, rj, rq)) H → va_D A (pq_P t σ (I, J, ri, rj, rq)) → va_S A s.heap H locs → lv_has ls 4 [(0, .ref this), (1, .long x_322), (3, .int x_323)] → W p l e ({ frames := 1, cells := 0, slots := 0, locals := 21 } : Room) s m (List.toArray ([.ref this] : List Value)) below meth c H locs 0 0 Q (F0 m 4 ls []) := by
      intro n_350
      induction n_350 with
      | zero => intro x_322 x_323 H locs ls h_354 hm_349 hF hFr hG hP hD hS hl; exact absurd hm_349 (Nat.not_lt_zero _)
      | succ n_350 ih_352 =>
        intro x_322 x_323 H locs ls h_354 hm_349 hF hFr hG hP hD hS hl
        replace hF := hF.trans g_X0_onRings_L4_e
        refine lv_iload_n hx hb dX0_onRings_4 rfl (lv_at hl 2 rfl) ?_
        refine lv_aload_n hx hb dX0_onRings_5 rfl (lv_at hl 0 rfl) ?_
        refine pg_f (v := .int (I 0 this)) (C := RX0) (T := TX0) (N := 16) hx hb hts (tw_i inlX0) hown hK hP hL_this hK_this (by decide +kernel) rfl 0 (by decide +kernel) (hts _ (tw_c tw_395)) rfl dX0_onRings_6 ?_
        have h_355 : rg (I 0 this) 0 40 := GX.rI hG 0 rfl
        replace hF := hF.trans (ap_n (vI_e (f := 0) hO_this (by decide +kernel)))
        refine lv_icmp_ge (tgt := 32) hx hb dX0_onRings_9 (by decide +kernel) (fun c_357 => ?_) (fun c_357 => ?_)
        · replace hF := hF.trans (if_pos c_357)
          refine lv_lload_n hx hb dX0_onRings_32 rfl (lv_at hl 1 rfl) ?_
          subst hQ
          exact W.lret (v := x_322) hx hb hr (fun t1 ht hW => ⟨⟨x_322, (σ, I, J, ri, rj, rq), rfl, ⟨rfl, (hF0.symm.trans hF)⟩, by rw [ht]; exact hP, va_K.moved hW.alike hK, hD⟩, hS.F ht⟩) hS.2.2 dX0_onRings_33
        · replace hF := hF.trans (if_neg c_357)
          have h_360 : rg x_323 0 39 := rg_lt1 (nle c_357) h_354 h_355 (by decide +kernel)
          have h_361 : rg (I 0 this) 1 40 := rg_lt2 (nle c_357) h_354 h_355 (by decide +kernel)
          refine lv_aload_n hx hb dX0_onRings_12 rfl (lv_at hl 0 rfl) ?_
          refine lv_iload_n hx hb dX0_onRings_13 rfl (lv_at hl 2 rfl) ?_
          obtain ⟨w_362, hR_w_362, hL_w_362, hK_w_362, hN_w_362, hT_w_362⟩ := sh_a hSH 5 (ci := 0) (kd := 13) (len := 40) rfl (by decide +kernel) hL_this hK_this
          have hO_w_362 : w_362 = vrow σ 5 M := vo_k (c := 0) hO_this hR_w_362
          refine pk_i (va_runV (As := [.int x_323]) (rest := []) ⟨hx, hb, hml, hown, hts⟩ (s_X0_isOnRing l D t σ I J ri rj rq H.size tg hSH hG.1 this x_323 hL_this hK_this (rg_w h_360 (by decide +kernel)) w_362 hR_w_362 hL_w_362 hK_w_362 hN_w_362 hT_w_362 M hL_M hK_M hO_this) (cwV 1 hts (tw_V tw_1108 tw_1109 tw_1110 tw_45 tw_1111) rfl rfl rfl cv_yX0_isOnRing_1 ⟨Nat.le_of_ble_eq_true rfl, Nat.le_of_ble_eq_true rfl⟩) ⟨pq_blind, pq_recv hK hP hL_this hK_this (by decide +kernel) rfl, pq_pre hK hN hP hD⟩ rfl rfl hl.1 rfl (lv_room (Nat.le_of_ble_eq_true rfl)) dX0_onRings_14 ⟨Nat.le_of_ble_eq_true rfl, Nat.le_of_ble_eq_true rfl⟩) hD hS hA (fun x_363 σ1 μ1 H locs hw_364 hP hD hS => ?_)
          obtain ⟨hu_365, hfn_368, hr_367⟩ := hw_364
          obtain ⟨hu_365a, hu_365b⟩ := Prod.mk.inj hu_365
          rw [hu_365a, hu_365b] at hP hD
          replace hF := hF.trans (bn_n hfn_368)
          have h_370 : rg x_363 0 1 := by rcases hr_367 with ⟨q, -⟩ | ⟨q, -⟩ <;> rw [q] <;> exact ⟨by decide +kernel, by decide +kernel⟩
          have K_381 : ∀  (x_378 : Int64) (H : Heap) (locs : List Loc) (ls : Array Slot), F = g_X0_onRings_K26 x_323 (g_X0_onRings_L4 (vI 10 σ M I) (vJ 10 σ M J) (vR 10 σ M ri) (vL 10 σ M rj) (vQ 10 σ M rq) n_350) x_378 → FR 10 tg σ M (I, J, ri, rj, rq) (I, J, ri, rj, rq) → GX [] tg σ I ri rj I ri rj rq → va_P D vwCl (pq_P t σ (I, J, ri, rj, rq)) H → va_D A (pq_P t σ (I, J, ri, rj, rq)) → va_S A s.heap H locs → lv_has ls 4 [(0, .ref this), (1, .long x_378), (3, .int x_323)] → W p l e ({ frames := 1, cells := 0, slots := 0, locals := 21 } : Room) s m (List.toArray ([.ref this] : List Value)) below meth c H locs 0 0 Q (F0 m 26 ls []) := by
            intro x_378 H locs ls hF hFr hG hP hD hS hl
            replace hF := hF.trans g_X0_onRings_K26_e
            obtain ⟨x_382, ex_382⟩ : ∃ y : Int32, y = x_323 + Int32.ofInt 1 := ⟨_, rfl⟩
            replace hF := hF.trans (ap_n ex_382)
            have h_383 : rg x_382 1 40 := rg_of_eq ex_382 (rg_add h_360 (rg_k (Int32.ofInt 1) 1 rfl) (by decide +kernel))
            refine lv_iinc (v := x_382) (lv' := [(3, .int x_382), (0, .ref this), (1, .long x_378)]) hx hb dX0_onRings_26 hl (k := 2) rfl ex_382.symm (by decide +kernel) rfl (fun ls hl => ?_)
            refine lv_goto (tgt := 4) hx hb dX0_onRings_29 (by decide +kernel) ?_
            exact ih_352 x_378 x_382 _ _ _ (rg_w h_383 (by decide +kernel)) (ms_up 1 hm_349 ex_382 rfl (by decide +kernel) h_360 (by decide +kernel) (by decide +kernel)) hF hFr hG hP hD hS (lv_sub hl [1, 2, 0] rfl)
          refine lv_if_eq (tgt := 26) hx hb dX0_onRings_17 (by decide +kernel) (fun c_384 => ?_) (fun c_384 => ?_)
          · replace hF := hF.trans (if_pos c_384)
            have f_389 := (hr_367.resolve_left (fun q => absurd (q.1.symm.trans c_384) (by decide +kernel))).2
            have h_390 : rg x_363 0 0 := rg_and h_370 (rg_of_eq c_384 (rg_k (0 : Int32) 0 rfl)) (by decide +kernel)
            exact K_381 x_322 _ _ _ hF hFr hG hP hD hS (lv_sub hl [0, 1, 2] rfl)
          · replace hF := hF.trans (if_neg c_384)
            have f_391 := (hr_367.resolve_right (fun q => c_384 q.1)).2
            have h_392 : rg x_363 1 1 := rg_ne c_384 h_370 0 rfl (by decide +kernel)
            refine lv_lload_n hx hb dX0_onRings_20 rfl (lv_at hl 1 rfl) ?_
            refine lv_lconst (v := 1) hx hb dX0_onRings_21 (by decide +kernel) ?_
            refine lv_iload_n hx hb dX0_onRings_22 rfl (lv_at hl 2 rfl) ?_
            refine lv_lshl hx hb dX0_onRings_23 rfl ?_
            refine lv_topl (fun x_393 ex_393 => ?_)
            replace hF := hF.trans (ap_n ex_393)
            refine lv_lor hx hb dX0_onRings_24 ?_
            refine lv_topl (fun x_394 ex_394 => ?_)
            replace hF := hF.trans (ap_n ex_394)
            refine lv_lstore_n (lv' := [(1, .long x_394), (0, .ref this), (3, .int x_323)]) hx hb dX0_onRings_25 rfl hl (by decide +kernel) rfl (fun ls hl => ?_)
            exact K_381 x_394 _ _ _ hF hFr hG hP hD hS (lv_sub hl [1, 0, 2] rfl)
    exact L_351 _ (0 : Int64) (0 : Int32) _ _ _ (rg_w (rg_k (0 : Int32) 0 rfl) (by decide +kernel)) (Nat.lt_succ_self _) hF hFr hG hP hD hS (lv_sub hl [2, 1, 0] rfl)
  exact go _ _ _ hP hD hS hl

set_option maxRecDepth 100000 in
def g_X0_notDead_K30 (x_227 : Int32) (k_g_X0_notDead_L4 : (Int64) → (Int32) → Int64 × vM) (x_266 : Int64) : Int64 × vM := (ap1 (x_227 + Int32.ofInt 1) fun (x_270 : Int32) => (k_g_X0_notDead_L4 x_266 x_270))
set_option maxRecDepth 100000 in
theorem g_X0_notDead_K30_e {x_227 : Int32} {k_g_X0_notDead_L4 : (Int64) → (Int32) → Int64 × vM} {x_266 : Int64} : g_X0_notDead_K30 x_227 k_g_X0_notDead_L4 x_266 = (ap1 (x_227 + Int32.ofInt 1) fun (x_270 : Int32) => (k_g_X0_notDead_L4 x_266 x_270)) := rfl
set_option maxRecDepth 100000 in
def g_X0_notDead_L4 (I : Nat → Int32) (J : Nat → Int64) (ri : Nat → Nat → Int32) (rj : Nat → Nat → Int64) (rq : Nat → Nat → Option Nat) : Nat → (Int64) → (Int32) → Int64 × vM
  | 0, x_226, x_227 => ((0 : Int64), I, J, ri, rj, rq)
  | n_246 + 1, x_226, x_227 => (ap1 (I 0) fun (y_252 : Int32) => (if (y_252) ≤ x_227 then (x_226, I, J, ri, rj, rq) else (ap1 (ri 5 (x_227).toNatClampNeg) fun (x_259 : Int32) => (if x_259 = (300 : Int32) then (g_X0_notDead_K30 x_227 (g_X0_notDead_L4 I J ri rj rq n_246) x_226) else (ap1 ((1 : Int64) <<< (x_227.toInt64 &&& 63)) fun (x_277 : Int64) => (ap1 (x_226 ||| x_277) fun (x_278 : Int64) => (g_X0_notDead_K30 x_227 (g_X0_notDead_L4 I J ri rj rq n_246) x_278)))))))
set_option maxRecDepth 100000 in
theorem g_X0_notDead_L4_e {I : Nat → Int32} {J : Nat → Int64} {ri : Nat → Nat → Int32} {rj : Nat → Nat → Int64} {rq : Nat → Nat → Option Nat} {n_246 : Nat} {x_226 : Int64} {x_227 : Int32} : g_X0_notDead_L4 I J ri rj rq (n_246 + 1) x_226 x_227 = (ap1 (I 0) fun (y_252 : Int32) => (if (y_252) ≤ x_227 then (x_226, I, J, ri, rj, rq) else (ap1 (ri 5 (x_227).toNatClampNeg) fun (x_259 : Int32) => (if x_259 = (300 : Int32) then (g_X0_notDead_K30 x_227 (g_X0_notDead_L4 I J ri rj rq n_246) x_226) else (ap1 ((1 : Int64) <<< (x_227.toInt64 &&& 63)) fun (x_277 : Int64) => (ap1 (x_226 ||| x_277) fun (x_278 : Int64) => (g_X0_notDead_K30 x_227 (g_X0_notDead_L4 I J ri rj rq n_246) x_278))))))) := rfl
set_option maxRecDepth 100000 in
def g_X0_notDead (I : Nat → Int32) (J : Nat → Int64) (ri : Nat → Nat → Int32) (rj : Nat → Nat → Int64) (rq : Nat → Nat → Option Nat) : Int64 × vM := (g_X0_notDead_L4 I J ri rj rq ((40 - ((0 : Int32)).toInt).toNat + 1) (0 : Int64) (0 : Int32))
set_option maxRecDepth 100000 in
theorem g_X0_notDead_e {I : Nat → Int32} {J : Nat → Int64} {ri : Nat → Nat → Int32} {rj : Nat → Nat → Int64} {rq : Nat → Nat → Option Nat} : g_X0_notDead I J ri rj rq = (g_X0_notDead_L4 I J ri rj rq ((40 - ((0 : Int32)).toInt).toNat + 1) (0 : Int64) (0 : Int32)) := rfl
set_option maxHeartbeats 4000000 in
set_option maxRecDepth 100000 in
theorem s_X0_notDead (l : Launch) (D : va_G) (t : pq_T) (σ : pq_S) (I : Nat → Nat → Int32) (J : Nat → Nat → Int64) (ri : Nat → Nat → Int32) (rj : Nat → Nat → Int64) (rq : Nat → Nat → Option Nat) (sz : Nat) (tg : Nat → Nat) (hSH : SH σ tg) (hG0 : GS tg σ I ri rq) (this : Nat) (hL_this : this ∈ σ.1) (hK_this : σ.2.1 this = 0) (M : Nat) (hL_M : M ∈ σ.1) (hK_M : σ.2.1 M = 10) (hO_this : this = vo σ 0 M) : MetL l yX0_notDead (wa yX0_notDead cX0_notDead 4 (some .long)) ({ frames := 0, cells := 0, slots := 0, locals := 0 }) [.ref this] D t σ (I, J, ri, rj, rq) sz 0 0 (fun (r : Int64) (u : pq_S × pq_M) => u = (σ, I, J, ri, rj, rq) ∧ g_X0_notDead (vI 10 σ M I) (vJ 10 σ M J) (vR 10 σ M ri) (vL 10 σ M rj) (vQ 10 σ M rq) = (r, (vI 10 σ M I), (vJ 10 σ M J), (vR 10 σ M ri), (vL 10 σ M rj), (vQ 10 σ M rq))) := by
  refine Met.ofW (cc := cX0_notDead) (maxL := 4) (ret := (some .long)) (by decide +kernel) rfl ?_
  intro p e s m args below meth c s₁ B hml hv
  obtain ⟨rfl, hsz, hP, hK, hD0, hN⟩ := hv
  have hx := B.exec
  have hb := B.bytes
  have hr := B.returns
  have hts := atoms_spec (ws := (wa yX0_notDead cX0_notDead 4 (some .long))) B.pre
  have hown : s.vm.findClass RX0 = some m.cls := findClass_of_methodNamed B.named
  have hlocks := B.notSynchronized
  subst hsz
  have hD : va_D (pq_B t σ (I, J, ri, rj, rq) s.heap.size) (pq_P t σ (I, J, ri, rj, rq)) := hD0.self
  generalize hAe : pq_B t σ (I, J, ri, rj, rq) s.heap.size = A at hD ⊢
  have hA : ∀ q : Nat, s.heap.size ≤ q → A q := fun q h => by rw [← hAe]; exact Or.inr h
  have hS : va_S A s.heap s.heap [] := va_S.rf
  have hG : GX [] tg σ I ri rj I ri rj rq := ⟨hG0, fun _ _ _ => rfl, fun _ _ _ _ _ => rfl, fun _ _ _ _ _ => rfl⟩
  have hl := lv_entry ([.ref this]) (n := 4) (Nat.le_of_ble_eq_true rfl)
  rw [lg_entry_eq]
  generalize (lg_sl ([.ref this]) ++ List.replicate (4 - (lg_sl ([.ref this])).length) Slot.unset).toArray = ls at hl ⊢
  have hl : lv_has ls 4 [(0, .ref this)] := hl
  refine q_gen (fun Q hQ => ?_)
  have go : ∀ (H : Heap) (locs : List Loc) (ls : Array Slot), va_P D vwCl (pq_P t σ (I, J, ri, rj, rq)) H → va_D A (pq_P t σ (I, J, ri, rj, rq)) → va_S A s.heap H locs → lv_has ls 4 [(0, .ref this)] → W p l e ({ frames := 0, cells := 0, slots := 0, locals := 0 } : Room) s m (List.toArray ([.ref this] : List Value)) below meth c H locs 0 0 Q (F0 m 0 ls []) := by
    intro H locs ls hP hD hS hl
    have hVT : VT 10 σ tg M := vt_10 hSH hL_M hK_M
    have hFr : FR 10 tg σ M (I, J, ri, rj, rq) (I, J, ri, rj, rq) := fr_rf
    obtain ⟨F, hF0⟩ : ∃ F, F = g_X0_notDead (vI 10 σ M I) (vJ 10 σ M J) (vR 10 σ M ri) (vL 10 σ M rj) (vQ 10 σ M rq) := ⟨_, rfl⟩
    have hF := hF0.trans g_X0_notDead_e
    refine lv_lconst (v := 0) hx hb dX0_notDead_0 (by decide +kernel) ?_
    refine lv_lstore_n (lv' := [(1, .long 0), (0, .ref this)]) hx hb dX0_notDead_1 rfl hl (by decide +kernel) rfl (fun ls hl => ?_)
    refine lv_iconst (v := 0) hx hb dX0_notDead_2 (by decide +kernel) ?_
    refine lv_istore_n (lv' := [(3, .int 0), (1, .long 0), (0, .ref this)]) hx hb dX0_notDead_3 rfl hl (by decide +kernel) rfl (fun ls hl => ?_)
    have L_247 : ∀ (n_246 : Nat) (x_226 : Int64) (x_227 : Int32) (H : Heap) (locs : List Loc) (ls : Array Slot), rg x_227 0 40 → (40 - (x_227).toInt).toNat < n_246 → F = g_X0_notDead_L4 (vI 10 σ M I) (vJ 10 σ M J) (vR 10 σ M ri) (vL 10 σ M rj) (vQ 10 σ M rq) n_246 x_226 x_227 → FR 10 tg σ M (I, J, ri, rj, rq) (I, J, ri, rj, rq) → GX [] tg σ I ri rj I ri rj rq → va_P D vwCl (pq_P t σ (I, J, ri, rj, rq)) H → va_D A (pq_P t σ (I, J, ri, rj, rq)) → va_S A s.heap H locs → lv_has ls 4 [(0, .ref this), (1, .long x_226), (3, .int x_227)] → W p l e ({ frames := 0, cells := 0, slots := 0, locals := 0 } : Room) s m (List.toArray ([.ref this] : List Value)) below meth c H locs 0 0 Q (F0 m 4 ls []) := by
      intro n_246
      induction n_246 with
      | zero => intro x_226 x_227 H locs ls h_250 hm_245 hF hFr hG hP hD hS hl; exact absurd hm_245 (Nat.not_lt_zero _)
      | succ n_246 ih_248 =>
        intro x_226 x_227 H locs ls h_250 hm_245 hF hFr hG hP hD hS hl
        replace hF := hF.trans g_X0_notDead_L4_e
        refine lv_iload_n hx hb dX0_notDead_4 rfl (lv_at hl 2 rfl) ?_
        refine lv_aload_n hx hb dX0_notDead_5 rfl (lv_at hl 0 rfl) ?_
        refine pg_f (v := .int (I 0 this)) (C := RX0) (T := TX0) (N := 16) hx hb hts (tw_i inlX0) hown hK hP hL_this hK_this (by decide +kernel) rfl 0 (by decide +kernel) (hts _ (tw_c tw_395)) rfl dX0_notDead_6 ?_
        have h_251 : rg (I 0 this) 0 40 := GX.rI hG 0 rfl
        replace hF := hF.trans (ap_n (vI_e (f := 0) hO_this (by decide +kernel)))
        refine lv_icmp_ge (tgt := 36) hx hb dX0_notDead_9 (by decide +kernel) (fun c_253 => ?_) (fun c_253 => ?_)
        · replace hF := hF.trans (if_pos c_253)
          refine lv_lload_n hx hb dX0_notDead_36 rfl (lv_at hl 1 rfl) ?_
          subst hQ
          exact W.lret (v := x_226) hx hb hr (fun t1 ht hW => ⟨⟨x_226, (σ, I, J, ri, rj, rq), rfl, ⟨rfl, (hF0.symm.trans hF)⟩, by rw [ht]; exact hP, va_K.moved hW.alike hK, hD⟩, hS.F ht⟩) hS.2.2 dX0_notDead_37
        · replace hF := hF.trans (if_neg c_253)
          have h_256 : rg x_227 0 39 := rg_lt1 (nle c_253) h_250 h_251 (by decide +kernel)
          have h_257 : rg (I 0 this) 1 40 := rg_lt2 (nle c_253) h_250 h_251 (by decide +kernel)
          refine lv_aload_n hx hb dX0_notDead_12 rfl (lv_at hl 0 rfl) ?_
          obtain ⟨w_258, hR_w_258, hL_w_258, hK_w_258, hN_w_258, hT_w_258⟩ := sh_a hSH 5 (ci := 0) (kd := 13) (len := 40) rfl (by decide +kernel) hL_this hK_this
          have hO_w_258 : w_258 = vrow σ 5 M := vo_k (c := 0) hO_this hR_w_258
          refine pg_f (v := .ref w_258) (C := RX0) (T := TX0) (N := 16) hx hb hts (tw_i inlX0) hown hK hP hL_this hK_this (by decide +kernel) rfl 5 (by decide +kernel) (hts _ (tw_c tw_114)) (pq_hv rfl hR_w_258) dX0_notDead_13 ?_
          refine lv_iload_n hx hb dX0_notDead_16 rfl (lv_at hl 2 rfl) ?_
          refine pl_i hx hb hK hP hL_w_258 hK_w_258 hN_w_258 (rg_in h_256 (by decide +kernel)) dX0_notDead_17 ?_
          refine lv_topi (fun x_259 ex_259 => ?_)
          replace hF := hF.trans (ap_n (vR_r hO_w_258 (by decide +kernel) ex_259))
          have h_260 : rg x_259 0 300 := rg_of_eq ex_259 (GX.rR hG hT_w_258 rfl)
          refine lv_sipush (v := 300) hx hb dX0_notDead_18 (by decide +kernel) ?_
          have K_269 : ∀  (x_266 : Int64) (H : Heap) (locs : List Loc) (ls : Array Slot), F = g_X0_notDead_K30 x_227 (g_X0_notDead_L4 (vI 10 σ M I) (vJ 10 σ M J) (vR 10 σ M ri) (vL 10 σ M rj) (vQ 10 σ M rq) n_246) x_266 → FR 10 tg σ M (I, J, ri, rj, rq) (I, J, ri, rj, rq) → GX [] tg σ I ri rj I ri rj rq → va_P D vwCl (pq_P t σ (I, J, ri, rj, rq)) H → va_D A (pq_P t σ (I, J, ri, rj, rq)) → va_S A s.heap H locs → lv_has ls 4 [(0, .ref this), (1, .long x_266), (3, .int x_227)] → W p l e ({ frames := 0, cells := 0, slots := 0, locals := 0 } : Room) s m (List.toArray ([.ref this] : List Value)) below meth c H locs 0 0 Q (F0 m 30 ls []) := by
            intro x_266 H locs ls hF hFr hG hP hD hS hl
            replace hF := hF.trans g_X0_notDead_K30_e
            obtain ⟨x_270, ex_270⟩ : ∃ y : Int32, y = x_227 + Int32.ofInt 1 := ⟨_, rfl⟩
            replace hF := hF.trans (ap_n ex_270)
            have h_271 : rg x_270 1 40 := rg_of_eq ex_270 (rg_add h_256 (rg_k (Int32.ofInt 1) 1 rfl) (by decide +kernel))
            refine lv_iinc (v := x_270) (lv' := [(3, .int x_270), (0, .ref this), (1, .long x_266)]) hx hb dX0_notDead_30 hl (k := 2) rfl ex_270.symm (by decide +kernel) rfl (fun ls hl => ?_)
            refine lv_goto (tgt := 4) hx hb dX0_notDead_33 (by decide +kernel) ?_
            exact ih_248 x_266 x_270 _ _ _ (rg_w h_271 (by decide +kernel)) (ms_up 1 hm_245 ex_270 rfl (by decide +kernel) h_256 (by decide +kernel) (by decide +kernel)) hF hFr hG hP hD hS (lv_sub hl [1, 2, 0] rfl)
          refine lv_icmp_eq (tgt := 30) hx hb dX0_notDead_21 (by decide +kernel) (fun c_272 => ?_) (fun c_272 => ?_)
          · replace hF := hF.trans (if_pos c_272)
            have h_275 : rg x_259 300 300 := rg_and h_260 (rg_of_eq c_272 (rg_k (300 : Int32) 300 rfl)) (by decide +kernel)
            exact K_269 x_226 _ _ _ hF hFr hG hP hD hS (lv_sub hl [0, 1, 2] rfl)
          · replace hF := hF.trans (if_neg c_272)
            have h_276 : rg x_259 0 299 := rg_ne c_272 h_260 300 rfl (by decide +kernel)
            refine lv_lload_n hx hb dX0_notDead_24 rfl (lv_at hl 1 rfl) ?_
            refine lv_lconst (v := 1) hx hb dX0_notDead_25 (by decide +kernel) ?_
            refine lv_iload_n hx hb dX0_notDead_26 rfl (lv_at hl 2 rfl) ?_
            refine lv_lshl hx hb dX0_notDead_27 rfl ?_
            refine lv_topl (fun x_277 ex_277 => ?_)
            replace hF := hF.trans (ap_n ex_277)
            refine lv_lor hx hb dX0_notDead_28 ?_
            refine lv_topl (fun x_278 ex_278 => ?_)
            replace hF := hF.trans (ap_n ex_278)
            refine lv_lstore_n (lv' := [(1, .long x_278), (0, .ref this), (3, .int x_227)]) hx hb dX0_notDead_29 rfl hl (by decide +kernel) rfl (fun ls hl => ?_)
            exact K_269 x_278 _ _ _ hF hFr hG hP hD hS (lv_sub hl [1, 0, 2] rfl)
    exact L_247 _ (0 : Int64) (0 : Int32) _ _ _ (rg_w (rg_k (0 : Int32) 0 rfl) (by decide +kernel)) (Nat.lt_succ_self _) hF hFr hG hP hD hS (lv_sub hl [2, 1, 0] rfl)
  exact go _ _ _ hP hD hS hl

set_option maxRecDepth 100000 in
def g_X0_countAt_K25 (x_470 : Int32) (k_g_X0_countAt_L4 : (Int32) → (Int32) → Int32 × vM) (x_505 : Int32) : Int32 × vM := (ap1 (x_470 + Int32.ofInt 1) fun (x_509 : Int32) => (k_g_X0_countAt_L4 x_505 x_509))
set_option maxRecDepth 100000 in
theorem g_X0_countAt_K25_e {x_470 : Int32} {k_g_X0_countAt_L4 : (Int32) → (Int32) → Int32 × vM} {x_505 : Int32} : g_X0_countAt_K25 x_470 k_g_X0_countAt_L4 x_505 = (ap1 (x_470 + Int32.ofInt 1) fun (x_509 : Int32) => (k_g_X0_countAt_L4 x_505 x_509)) := rfl
set_option maxRecDepth 100000 in
def g_X0_countAt_L4 (a0 : Int32) (I : Nat → Int32) (J : Nat → Int64) (ri : Nat → Nat → Int32) (rj : Nat → Nat → Int64) (rq : Nat → Nat → Option Nat) : Nat → (Int32) → (Int32) → Int32 × vM
  | 0, x_469, x_470 => ((0 : Int32), I, J, ri, rj, rq)
  | n_487 + 1, x_469, x_470 => (ap1 (I 0) fun (y_493 : Int32) => (if (y_493) ≤ x_470 then (x_469, I, J, ri, rj, rq) else (ap1 (ri 5 (x_470).toNatClampNeg) fun (x_500 : Int32) => (if x_500 = a0 then (ap1 (x_469 + Int32.ofInt 1) fun (x_514 : Int32) => (g_X0_countAt_K25 x_470 (g_X0_countAt_L4 a0 I J ri rj rq n_487) x_514)) else (g_X0_countAt_K25 x_470 (g_X0_countAt_L4 a0 I J ri rj rq n_487) x_469)))))
set_option maxRecDepth 100000 in
theorem g_X0_countAt_L4_e {a0 : Int32} {I : Nat → Int32} {J : Nat → Int64} {ri : Nat → Nat → Int32} {rj : Nat → Nat → Int64} {rq : Nat → Nat → Option Nat} {n_487 : Nat} {x_469 : Int32} {x_470 : Int32} : g_X0_countAt_L4 a0 I J ri rj rq (n_487 + 1) x_469 x_470 = (ap1 (I 0) fun (y_493 : Int32) => (if (y_493) ≤ x_470 then (x_469, I, J, ri, rj, rq) else (ap1 (ri 5 (x_470).toNatClampNeg) fun (x_500 : Int32) => (if x_500 = a0 then (ap1 (x_469 + Int32.ofInt 1) fun (x_514 : Int32) => (g_X0_countAt_K25 x_470 (g_X0_countAt_L4 a0 I J ri rj rq n_487) x_514)) else (g_X0_countAt_K25 x_470 (g_X0_countAt_L4 a0 I J ri rj rq n_487) x_469))))) := rfl
set_option maxRecDepth 100000 in
def g_X0_countAt (a0 : Int32) (I : Nat → Int32) (J : Nat → Int64) (ri : Nat → Nat → Int32) (rj : Nat → Nat → Int64) (rq : Nat → Nat → Option Nat) : Int32 × vM := (g_X0_countAt_L4 a0 I J ri rj rq ((40 - ((0 : Int32)).toInt).toNat + 1) (0 : Int32) (0 : Int32))
set_option maxRecDepth 100000 in
theorem g_X0_countAt_e {a0 : Int32} {I : Nat → Int32} {J : Nat → Int64} {ri : Nat → Nat → Int32} {rj : Nat → Nat → Int64} {rq : Nat → Nat → Option Nat} : g_X0_countAt a0 I J ri rj rq = (g_X0_countAt_L4 a0 I J ri rj rq ((40 - ((0 : Int32)).toInt).toNat + 1) (0 : Int32) (0 : Int32)) := rfl
set_option maxHeartbeats 4000000 in
set_option maxRecDepth 100000 in
theorem s_X0_countAt (l : Launch) (D : va_G) (t : pq_T) (σ : pq_S) (I : Nat → Nat → Int32) (J : Nat → Nat → Int64) (ri : Nat → Nat → Int32) (rj : Nat → Nat → Int64) (rq : Nat → Nat → Option Nat) (sz : Nat) (tg : Nat → Nat) (hSH : SH σ tg) (hG0 : GS tg σ I ri rq) (this : Nat) (a0 : Int32) (hL_this : this ∈ σ.1) (hK_this : σ.2.1 this = 0) (M : Nat) (hL_M : M ∈ σ.1) (hK_M : σ.2.1 M = 10) (hO_this : this = vo σ 0 M) : MetI l yX0_countAt (wa yX0_countAt cX0_countAt 4 (some .int)) ({ frames := 0, cells := 0, slots := 0, locals := 0 }) [.ref this, .int a0] D t σ (I, J, ri, rj, rq) sz 0 0 (fun (r : Int32) (u : pq_S × pq_M) => u = (σ, I, J, ri, rj, rq) ∧ g_X0_countAt a0 (vI 10 σ M I) (vJ 10 σ M J) (vR 10 σ M ri) (vL 10 σ M rj) (vQ 10 σ M rq) = (r, (vI 10 σ M I), (vJ 10 σ M J), (vR 10 σ M ri), (vL 10 σ M rj), (vQ 10 σ M rq))) := by
  refine Met.ofW (cc := cX0_countAt) (maxL := 4) (ret := (some .int)) (by decide +kernel) rfl ?_
  intro p e s m args below meth c s₁ B hml hv
  obtain ⟨rfl, hsz, hP, hK, hD0, hN⟩ := hv
  have hx := B.exec
  have hb := B.bytes
  have hr := B.returns
  have hts := atoms_spec (ws := (wa yX0_countAt cX0_countAt 4 (some .int))) B.pre
  have hown : s.vm.findClass RX0 = some m.cls := findClass_of_methodNamed B.named
  have hlocks := B.notSynchronized
  subst hsz
  have hD : va_D (pq_B t σ (I, J, ri, rj, rq) s.heap.size) (pq_P t σ (I, J, ri, rj, rq)) := hD0.self
  generalize hAe : pq_B t σ (I, J, ri, rj, rq) s.heap.size = A at hD ⊢
  have hA : ∀ q : Nat, s.heap.size ≤ q → A q := fun q h => by rw [← hAe]; exact Or.inr h
  have hS : va_S A s.heap s.heap [] := va_S.rf
  have hG : GX [] tg σ I ri rj I ri rj rq := ⟨hG0, fun _ _ _ => rfl, fun _ _ _ _ _ => rfl, fun _ _ _ _ _ => rfl⟩
  have hl := lv_entry ([.ref this, .int a0]) (n := 4) (Nat.le_of_ble_eq_true rfl)
  rw [lg_entry_eq]
  generalize (lg_sl ([.ref this, .int a0]) ++ List.replicate (4 - (lg_sl ([.ref this, .int a0])).length) Slot.unset).toArray = ls at hl ⊢
  have hl : lv_has ls 4 [(0, .ref this), (1, .int a0)] := hl
  refine q_gen (fun Q hQ => ?_)
  have go : ∀ (H : Heap) (locs : List Loc) (ls : Array Slot), va_P D vwCl (pq_P t σ (I, J, ri, rj, rq)) H → va_D A (pq_P t σ (I, J, ri, rj, rq)) → va_S A s.heap H locs → lv_has ls 4 [(0, .ref this), (1, .int a0)] → W p l e ({ frames := 0, cells := 0, slots := 0, locals := 0 } : Room) s m (List.toArray ([.ref this, .int a0] : List Value)) below meth c H locs 0 0 Q (F0 m 0 ls []) := by
    intro H locs ls hP hD hS hl
    have hVT : VT 10 σ tg M := vt_10 hSH hL_M hK_M
    have hFr : FR 10 tg σ M (I, J, ri, rj, rq) (I, J, ri, rj, rq) := fr_rf
    obtain ⟨F, hF0⟩ : ∃ F, F = g_X0_countAt a0 (vI 10 σ M I) (vJ 10 σ M J) (vR 10 σ M ri) (vL 10 σ M rj) (vQ 10 σ M rq) := ⟨_, rfl⟩
    have hF := hF0.trans g_X0_countAt_e
    refine lv_iconst (v := 0) hx hb dX0_countAt_0 (by decide +kernel) ?_
    refine lv_istore_n (lv' := [(2, .int 0), (0, .ref this), (1, .int a0)]) hx hb dX0_countAt_1 rfl hl (by decide +kernel) rfl (fun ls hl => ?_)
    refine lv_iconst (v := 0) hx hb dX0_countAt_2 (by decide +kernel) ?_
    refine lv_istore_n (lv' := [(3, .int 0), (2, .int 0), (0, .ref this), (1, .int a0)]) hx hb dX0_countAt_3 rfl hl (by decide +kernel) rfl (fun ls hl => ?_)
    have L_488 : ∀ (n_487 : Nat) (x_469 : Int32) (x_470 : Int32) (H : Heap) (locs : List Loc) (ls : Array Slot), rg x_470 0 40 → (40 - (x_470).toInt).toNat < n_487 → F = g_X0_countAt_L4 a0 (vI 10 σ M I) (vJ 10 σ M J) (vR 10 σ M ri) (vL 10 σ M rj) (vQ 10 σ M rq) n_487 x_469 x_470 → FR 10 tg σ M (I, J, ri, rj, rq) (I, J, ri, rj, rq) → GX [] tg σ I ri rj I ri rj rq → va_P D vwCl (pq_P t σ (I, J, ri, rj, rq)) H → va_D A (pq_P t σ (I, J, ri, rj, rq)) → va_S A s.heap H locs → lv_has ls 4 [(0, .ref this), (1, .int a0), (2, .int x_469), (3, .int x_470)] → W p l e ({ frames := 0, cells := 0, slots := 0, locals := 0 } : Room) s m (List.toArray ([.ref this, .int a0] : List Value)) below meth c H locs 0 0 Q (F0 m 4 ls []) := by
      intro n_487
      induction n_487 with
      | zero => intro x_469 x_470 H locs ls h_491 hm_486 hF hFr hG hP hD hS hl; exact absurd hm_486 (Nat.not_lt_zero _)
      | succ n_487 ih_489 =>
        intro x_469 x_470 H locs ls h_491 hm_486 hF hFr hG hP hD hS hl
        replace hF := hF.trans g_X0_countAt_L4_e
        refine lv_iload_n hx hb dX0_countAt_4 rfl (lv_at hl 3 rfl) ?_
        refine lv_aload_n hx hb dX0_countAt_5 rfl (lv_at hl 0 rfl) ?_
        refine pg_f (v := .int (I 0 this)) (C := RX0) (T := TX0) (N := 16) hx hb hts (tw_i inlX0) hown hK hP hL_this hK_this (by decide +kernel) rfl 0 (by decide +kernel) (hts _ (tw_c tw_395)) rfl dX0_countAt_6 ?_
        have h_492 : rg (I 0 this) 0 40 := GX.rI hG 0 rfl
        replace hF := hF.trans (ap_n (vI_e (f := 0) hO_this (by decide +kernel)))
        refine lv_icmp_ge (tgt := 31) hx hb dX0_countAt_9 (by decide +kernel) (fun c_494 => ?_) (fun c_494 => ?_)
        · replace hF := hF.trans (if_pos c_494)
          refine lv_iload_n hx hb dX0_countAt_31 rfl (lv_at hl 2 rfl) ?_
          subst hQ
          exact W.iret (v := x_469) hx hb hr (fun t1 ht hW => ⟨⟨x_469, (σ, I, J, ri, rj, rq), rfl, ⟨rfl, (hF0.symm.trans hF)⟩, by rw [ht]; exact hP, va_K.moved hW.alike hK, hD⟩, hS.F ht⟩) hS.2.2 dX0_countAt_32
        · replace hF := hF.trans (if_neg c_494)
          have h_497 : rg x_470 0 39 := rg_lt1 (nle c_494) h_491 h_492 (by decide +kernel)
          have h_498 : rg (I 0 this) 1 40 := rg_lt2 (nle c_494) h_491 h_492 (by decide +kernel)
          refine lv_aload_n hx hb dX0_countAt_12 rfl (lv_at hl 0 rfl) ?_
          obtain ⟨w_499, hR_w_499, hL_w_499, hK_w_499, hN_w_499, hT_w_499⟩ := sh_a hSH 5 (ci := 0) (kd := 13) (len := 40) rfl (by decide +kernel) hL_this hK_this
          have hO_w_499 : w_499 = vrow σ 5 M := vo_k (c := 0) hO_this hR_w_499
          refine pg_f (v := .ref w_499) (C := RX0) (T := TX0) (N := 16) hx hb hts (tw_i inlX0) hown hK hP hL_this hK_this (by decide +kernel) rfl 5 (by decide +kernel) (hts _ (tw_c tw_114)) (pq_hv rfl hR_w_499) dX0_countAt_13 ?_
          refine lv_iload_n hx hb dX0_countAt_16 rfl (lv_at hl 3 rfl) ?_
          refine pl_i hx hb hK hP hL_w_499 hK_w_499 hN_w_499 (rg_in h_497 (by decide +kernel)) dX0_countAt_17 ?_
          refine lv_topi (fun x_500 ex_500 => ?_)
          replace hF := hF.trans (ap_n (vR_r hO_w_499 (by decide +kernel) ex_500))
          have h_501 : rg x_500 0 300 := rg_of_eq ex_500 (GX.rR hG hT_w_499 rfl)
          refine lv_iload_n hx hb dX0_countAt_18 rfl (lv_at hl 1 rfl) ?_
          have K_508 : ∀  (x_505 : Int32) (H : Heap) (locs : List Loc) (ls : Array Slot), F = g_X0_countAt_K25 x_470 (g_X0_countAt_L4 a0 (vI 10 σ M I) (vJ 10 σ M J) (vR 10 σ M ri) (vL 10 σ M rj) (vQ 10 σ M rq) n_487) x_505 → FR 10 tg σ M (I, J, ri, rj, rq) (I, J, ri, rj, rq) → GX [] tg σ I ri rj I ri rj rq → va_P D vwCl (pq_P t σ (I, J, ri, rj, rq)) H → va_D A (pq_P t σ (I, J, ri, rj, rq)) → va_S A s.heap H locs → lv_has ls 4 [(0, .ref this), (1, .int a0), (2, .int x_505), (3, .int x_470)] → W p l e ({ frames := 0, cells := 0, slots := 0, locals := 0 } : Room) s m (List.toArray ([.ref this, .int a0] : List Value)) below meth c H locs 0 0 Q (F0 m 25 ls []) := by
            intro x_505 H locs ls hF hFr hG hP hD hS hl
            replace hF := hF.trans g_X0_countAt_K25_e
            obtain ⟨x_509, ex_509⟩ : ∃ y : Int32, y = x_470 + Int32.ofInt 1 := ⟨_, rfl⟩
            replace hF := hF.trans (ap_n ex_509)
            have h_510 : rg x_509 1 40 := rg_of_eq ex_509 (rg_add h_497 (rg_k (Int32.ofInt 1) 1 rfl) (by decide +kernel))
            refine lv_iinc (v := x_509) (lv' := [(3, .int x_509), (0, .ref this), (1, .int a0), (2, .int x_505)]) hx hb dX0_countAt_25 hl (k := 3) rfl ex_509.symm (by decide +kernel) rfl (fun ls hl => ?_)
            refine lv_goto (tgt := 4) hx hb dX0_countAt_28 (by decide +kernel) ?_
            exact ih_489 x_505 x_509 _ _ _ (rg_w h_510 (by decide +kernel)) (ms_up 1 hm_486 ex_509 rfl (by decide +kernel) h_497 (by decide +kernel) (by decide +kernel)) hF hFr hG hP hD hS (lv_sub hl [1, 2, 3, 0] rfl)
          refine lv_icmp_ne (tgt := 25) hx hb dX0_countAt_19 (by decide +kernel) (fun c_511 => ?_) (fun c_511 => ?_)
          · replace hF := hF.trans (if_neg c_511)
            exact K_508 x_469 _ _ _ hF hFr hG hP hD hS (lv_sub hl [0, 1, 2, 3] rfl)
          · replace hF := hF.trans (if_pos c_511)
            have h_513 : rg a0 0 300 := rg_and (rg_full _) (rg_of_eq c_511.symm h_501) (by decide +kernel)
            obtain ⟨x_514, ex_514⟩ : ∃ y : Int32, y = x_469 + Int32.ofInt 1 := ⟨_, rfl⟩
            replace hF := hF.trans (ap_n ex_514)
            refine lv_iinc (v := x_514) (lv' := [(2, .int x_514), (0, .ref this), (1, .int a0), (3, .int x_470)]) hx hb dX0_countAt_22 hl (k := 2) rfl ex_514.symm (by decide +kernel) rfl (fun ls hl => ?_)
            exact K_508 x_514 _ _ _ hF hFr hG hP hD hS (lv_sub hl [1, 2, 0, 3] rfl)
    exact L_488 _ (0 : Int32) (0 : Int32) _ _ _ (rg_w (rg_k (0 : Int32) 0 rfl) (by decide +kernel)) (Nat.lt_succ_self _) hF hFr hG hP hD hS (lv_sub hl [2, 3, 1, 0] rfl)
  exact go _ _ _ hP hD hS hl
