theorem dX0_valueOf_0 : decode cX0_valueOf 0 = .ok (.iload_n 2, 1) := oc_28 (by decide +kernel)
theorem dX0_valueOf_1 : decode cX0_valueOf 1 = .ok (.tableswitch 65 12 16 #[35, 42, 49, 56, 63], 35) := by decide +kernel
theorem dX0_valueOf_36 : decode cX0_valueOf 36 = .ok (.aload_n 0, 1) := oc_42 (by decide +kernel)
theorem dX0_valueOf_37 : decode cX0_valueOf 37 = .ok (.getfield 15, 3) := oc_180 (a := 0) (b := 15) (by decide +kernel)
theorem dX0_valueOf_40 : decode cX0_valueOf 40 = .ok (.iload_n 1, 1) := oc_27 (by decide +kernel)
theorem dX0_valueOf_41 : decode cX0_valueOf 41 = .ok (.iaload, 1) := oc_46 (by decide +kernel)
theorem dX0_valueOf_42 : decode cX0_valueOf 42 = .ok (.ireturn, 1) := oc_172 (by decide +kernel)
theorem dX0_valueOf_43 : decode cX0_valueOf 43 = .ok (.aload_n 0, 1) := oc_42 (by decide +kernel)
theorem dX0_valueOf_44 : decode cX0_valueOf 44 = .ok (.getfield 9, 3) := oc_180 (a := 0) (b := 9) (by decide +kernel)
theorem dX0_valueOf_47 : decode cX0_valueOf 47 = .ok (.iload_n 1, 1) := oc_27 (by decide +kernel)
theorem dX0_valueOf_48 : decode cX0_valueOf 48 = .ok (.iaload, 1) := oc_46 (by decide +kernel)
theorem dX0_valueOf_49 : decode cX0_valueOf 49 = .ok (.ireturn, 1) := oc_172 (by decide +kernel)
theorem dX0_valueOf_50 : decode cX0_valueOf 50 = .ok (.aload_n 0, 1) := oc_42 (by decide +kernel)
theorem dX0_valueOf_51 : decode cX0_valueOf 51 = .ok (.getfield 18, 3) := oc_180 (a := 0) (b := 18) (by decide +kernel)
theorem dX0_valueOf_54 : decode cX0_valueOf 54 = .ok (.iload_n 1, 1) := oc_27 (by decide +kernel)
theorem dX0_valueOf_55 : decode cX0_valueOf 55 = .ok (.iaload, 1) := oc_46 (by decide +kernel)
theorem dX0_valueOf_56 : decode cX0_valueOf 56 = .ok (.ireturn, 1) := oc_172 (by decide +kernel)
theorem dX0_valueOf_57 : decode cX0_valueOf 57 = .ok (.aload_n 0, 1) := oc_42 (by decide +kernel)
theorem dX0_valueOf_58 : decode cX0_valueOf 58 = .ok (.getfield 24, 3) := oc_180 (a := 0) (b := 24) (by decide +kernel)
theorem dX0_valueOf_61 : decode cX0_valueOf 61 = .ok (.iload_n 1, 1) := oc_27 (by decide +kernel)
theorem dX0_valueOf_62 : decode cX0_valueOf 62 = .ok (.iaload, 1) := oc_46 (by decide +kernel)
theorem dX0_valueOf_63 : decode cX0_valueOf 63 = .ok (.ireturn, 1) := oc_172 (by decide +kernel)
theorem dX0_valueOf_64 : decode cX0_valueOf 64 = .ok (.iload_n 3, 1) := oc_29 (by decide +kernel)
theorem dX0_valueOf_65 : decode cX0_valueOf 65 = .ok (.ireturn, 1) := oc_172 (by decide +kernel)
theorem dX0_valueOf_66 : decode cX0_valueOf 66 = .ok (.iconst 0, 1) := oc_3 (by decide +kernel)
theorem dX0_valueOf_67 : decode cX0_valueOf 67 = .ok (.ireturn, 1) := oc_172 (by decide +kernel)
theorem dX9_isAt_0 : decode cX9_isAt 0 = .ok (.aload_n 0, 1) := oc_42 (by decide +kernel)
theorem tw_104 : Cond.fieldLink RX9 9 "RingsUnder$Wells" "gathers" "[I" ∈ wsL_law := sg_5 _ (List.mem_of_getElem? (i := 8) rfl)
theorem dX9_isAt_1 : decode cX9_isAt 1 = .ok (.getfield 9, 3) := oc_180 (a := 0) (b := 9) (by decide +kernel)
theorem dX9_isAt_4 : decode cX9_isAt 4 = .ok (.iload_n 1, 1) := oc_27 (by decide +kernel)
theorem dX9_isAt_5 : decode cX9_isAt 5 = .ok (.iaload, 1) := oc_46 (by decide +kernel)
theorem dX9_isAt_6 : decode cX9_isAt 6 = .ok (.ifCond .le 7, 3) := oc_158 (a := 0) (b := 7) (by decide +kernel)
theorem dX9_isAt_13 : decode cX9_isAt 13 = .ok (.iconst 0, 1) := oc_3 (by decide +kernel)
theorem dX9_isAt_14 : decode cX9_isAt 14 = .ok (.ireturn, 1) := oc_172 (by decide +kernel)
theorem dX9_isAt_9 : decode cX9_isAt 9 = .ok (.iconst 1, 1) := oc_4 (by decide +kernel)
theorem dX9_isAt_10 : decode cX9_isAt 10 = .ok (.goto 4, 3) := oc_167 (a := 0) (b := 4) (by decide +kernel)
theorem dX9_isSweet_0 : decode cX9_isSweet 0 = .ok (.aload_n 0, 1) := oc_42 (by decide +kernel)
theorem dX9_isSweet_1 : decode cX9_isSweet 1 = .ok (.iload_n 1, 1) := oc_27 (by decide +kernel)
theorem tw_1089 : Cond.methodLink RX9 25 yX9_isAt ∈ wsL_law := sg_46 _ (List.mem_of_getElem? (i := 9) rfl)
theorem tw_350 : Cond.instanceMethod yX9_isAt ∈ wsL_law := sg_15 _ (List.mem_of_getElem? (i := 14) rfl)
theorem tw_351 : Cond.selects RX9 yX9_isAt yX9_isAt ∈ wsL_law := sg_15 _ (List.mem_of_getElem? (i := 15) rfl)
theorem tw_94 : Cond.initialized RX9 ∈ wsL_law := sg_4 _ (List.mem_of_getElem? (i := 22) rfl)
theorem tw_352 : Cond.code yX9_isAt cX9_isAt 2 (some .boolean) ∈ wsL_law := sg_15 _ (List.mem_of_getElem? (i := 16) rfl)
theorem dX9_isSweet_2 : decode cX9_isSweet 2 = .ok (.invokevirtual 25, 3) := oc_182 (a := 0) (b := 25) (by decide +kernel)
theorem dX9_isSweet_34 : decode cX9_isSweet 34 = .ok (.iconst 0, 1) := oc_3 (by decide +kernel)
theorem dX9_isSweet_35 : decode cX9_isSweet 35 = .ok (.ireturn, 1) := oc_172 (by decide +kernel)
theorem dX9_isSweet_5 : decode cX9_isSweet 5 = .ok (.ifCond .eq 29, 3) := oc_153 (a := 0) (b := 29) (by decide +kernel)
theorem dX9_isSweet_8 : decode cX9_isSweet 8 = .ok (.aload_n 0, 1) := oc_42 (by decide +kernel)
theorem tw_106 : Cond.fieldLink RX9 18 "RingsUnder$Wells" "salt" "[I" ∈ wsL_law := sg_5 _ (List.mem_of_getElem? (i := 10) rfl)
theorem dX9_isSweet_9 : decode cX9_isSweet 9 = .ok (.getfield 18, 3) := oc_180 (a := 0) (b := 18) (by decide +kernel)
theorem dX9_isSweet_12 : decode cX9_isSweet 12 = .ok (.iload_n 1, 1) := oc_27 (by decide +kernel)
theorem dX9_isSweet_13 : decode cX9_isSweet 13 = .ok (.iaload, 1) := oc_46 (by decide +kernel)
theorem dX9_isSweet_14 : decode cX9_isSweet 14 = .ok (.bipush 20, 2) := oc_16 (a := 20) (by decide +kernel)
theorem dX9_isSweet_16 : decode cX9_isSweet 16 = .ok (.if_icmp .gt 18, 3) := oc_163 (a := 0) (b := 18) (by decide +kernel)
theorem dX9_isSweet_19 : decode cX9_isSweet 19 = .ok (.aload_n 0, 1) := oc_42 (by decide +kernel)
theorem tw_105 : Cond.fieldLink RX9 15 "RingsUnder$Wells" "lens" "[I" ∈ wsL_law := sg_5 _ (List.mem_of_getElem? (i := 9) rfl)
theorem dX9_isSweet_20 : decode cX9_isSweet 20 = .ok (.getfield 15, 3) := oc_180 (a := 0) (b := 15) (by decide +kernel)
theorem dX9_isSweet_23 : decode cX9_isSweet 23 = .ok (.iload_n 1, 1) := oc_27 (by decide +kernel)
theorem dX9_isSweet_24 : decode cX9_isSweet 24 = .ok (.iaload, 1) := oc_46 (by decide +kernel)
theorem dX9_isSweet_25 : decode cX9_isSweet 25 = .ok (.bipush 10, 2) := oc_16 (a := 10) (by decide +kernel)
theorem dX9_isSweet_27 : decode cX9_isSweet 27 = .ok (.if_icmp .lt 7, 3) := oc_161 (a := 0) (b := 7) (by decide +kernel)
theorem dX9_isSweet_30 : decode cX9_isSweet 30 = .ok (.iconst 1, 1) := oc_4 (by decide +kernel)
theorem dX9_isSweet_31 : decode cX9_isSweet 31 = .ok (.goto 4, 3) := oc_167 (a := 0) (b := 4) (by decide +kernel)
theorem dX2_sweetFrom_0 : decode cX2_sweetFrom 0 = .ok (.iload_n 1, 1) := oc_27 (by decide +kernel)
theorem dX2_sweetFrom_1 : decode cX2_sweetFrom 1 = .ok (.istore_n 2, 1) := oc_61 (by decide +kernel)
theorem dX2_sweetFrom_2 : decode cX2_sweetFrom 2 = .ok (.iconst 0, 1) := oc_3 (by decide +kernel)
theorem dX2_sweetFrom_3 : decode cX2_sweetFrom 3 = .ok (.istore_n 3, 1) := oc_62 (by decide +kernel)
theorem dX2_sweetFrom_4 : decode cX2_sweetFrom 4 = .ok (.iload_n 3, 1) := oc_29 (by decide +kernel)
theorem dX2_sweetFrom_5 : decode cX2_sweetFrom 5 = .ok (.aload_n 0, 1) := oc_42 (by decide +kernel)
theorem tw_222 : Cond.fieldLink RX2 73 "RingsUnder$Land" "cells" "I" ∈ wsL_law := sg_10 _ (List.mem_of_getElem? (i := 6) rfl)
theorem dX2_sweetFrom_6 : decode cX2_sweetFrom 6 = .ok (.getfield 73, 3) := oc_180 (a := 0) (b := 73) (by decide +kernel)
theorem dX2_sweetFrom_41 : decode cX2_sweetFrom 41 = .ok (.iload_n 2, 1) := oc_28 (by decide +kernel)
theorem dX2_sweetFrom_42 : decode cX2_sweetFrom 42 = .ok (.ireturn, 1) := oc_172 (by decide +kernel)
theorem dX2_sweetFrom_9 : decode cX2_sweetFrom 9 = .ok (.if_icmp .ge 32, 3) := oc_162 (a := 0) (b := 32) (by decide +kernel)
theorem dX2_sweetFrom_12 : decode cX2_sweetFrom 12 = .ok (.iload_n 2, 1) := oc_28 (by decide +kernel)
theorem dX2_sweetFrom_13 : decode cX2_sweetFrom 13 = .ok (.iconst (-1), 1) := oc_2 (by decide +kernel)
theorem dX2_sweetFrom_14 : decode cX2_sweetFrom 14 = .ok (.if_icmp .eq 27, 3) := oc_159 (a := 0) (b := 27) (by decide +kernel)
theorem dX2_sweetFrom_17 : decode cX2_sweetFrom 17 = .ok (.aload_n 0, 1) := oc_42 (by decide +kernel)
theorem tw_95 : Cond.fieldLink RX2 46 "RingsUnder$Land" "wells" "LRingsUnder$Wells;" ∈ wsL_law := sg_4 _ (List.mem_of_getElem? (i := 23) rfl)
theorem dX2_sweetFrom_18 : decode cX2_sweetFrom 18 = .ok (.getfield 46, 3) := oc_180 (a := 0) (b := 46) (by decide +kernel)
theorem dX2_sweetFrom_21 : decode cX2_sweetFrom 21 = .ok (.iload_n 2, 1) := oc_28 (by decide +kernel)
theorem tw_1116 : Cond.methodLink RX2 122 yX9_isSweet ∈ wsL_law := sg_47 _ (List.mem_of_getElem? (i := 12) rfl)
theorem tw_1117 : Cond.instanceMethod yX9_isSweet ∈ wsL_law := sg_47 _ (List.mem_of_getElem? (i := 13) rfl)
theorem tw_1118 : Cond.selects RX9 yX9_isSweet yX9_isSweet ∈ wsL_law := sg_47 _ (List.mem_of_getElem? (i := 14) rfl)
theorem tw_1119 : Cond.code yX9_isSweet cX9_isSweet 2 (some .boolean) ∈ wsL_law := sg_47 _ (List.mem_of_getElem? (i := 15) rfl)
theorem dX2_sweetFrom_22 : decode cX2_sweetFrom 22 = .ok (.invokevirtual 122, 3) := oc_182 (a := 0) (b := 122) (by decide +kernel)
theorem dX2_sweetFrom_25 : decode cX2_sweetFrom 25 = .ok (.ifCond .ne 16, 3) := oc_154 (a := 0) (b := 16) (by decide +kernel)
theorem dX2_sweetFrom_28 : decode cX2_sweetFrom 28 = .ok (.aload_n 0, 1) := oc_42 (by decide +kernel)
theorem tw_96 : Cond.fieldLink RX2 50 "RingsUnder$Land" "next" "[I" ∈ wsL_law := sg_5 _ (List.mem_of_getElem? (i := 0) rfl)
theorem dX2_sweetFrom_29 : decode cX2_sweetFrom 29 = .ok (.getfield 50, 3) := oc_180 (a := 0) (b := 50) (by decide +kernel)
theorem dX2_sweetFrom_32 : decode cX2_sweetFrom 32 = .ok (.iload_n 2, 1) := oc_28 (by decide +kernel)
theorem dX2_sweetFrom_33 : decode cX2_sweetFrom 33 = .ok (.iaload, 1) := oc_46 (by decide +kernel)
theorem dX2_sweetFrom_34 : decode cX2_sweetFrom 34 = .ok (.istore_n 2, 1) := oc_61 (by decide +kernel)
theorem dX2_sweetFrom_35 : decode cX2_sweetFrom 35 = .ok (.iinc 3 1, 3) := oc_132 (b := 1) (by decide +kernel)
theorem dX2_sweetFrom_38 : decode cX2_sweetFrom 38 = .ok (.goto (-34), 3) := oc_167 (a := 255) (b := 222) (by decide +kernel)
theorem dX0_drink_0 : decode cX0_drink 0 = .ok (.aload_n 1, 1) := oc_43 (by decide +kernel)
theorem tw_1098 : Cond.fieldLink RX0 77 "RingsUnder$Land" "first" "[I" ∈ wsL_law := sg_46 _ (List.mem_of_getElem? (i := 18) rfl)
theorem dX0_drink_1 : decode cX0_drink 1 = .ok (.getfield 77, 3) := oc_180 (a := 0) (b := 77) (by decide +kernel)
theorem dX0_drink_4 : decode cX0_drink 4 = .ok (.aload_n 0, 1) := oc_42 (by decide +kernel)
theorem tw_120 : Cond.fieldLink RX0 42 "RingsUnder$Folk" "ofRing" "[I" ∈ wsL_law := sg_6 _ (List.mem_of_getElem? (i := 0) rfl)
theorem dX0_drink_5 : decode cX0_drink 5 = .ok (.getfield 42, 3) := oc_180 (a := 0) (b := 42) (by decide +kernel)
theorem dX0_drink_8 : decode cX0_drink 8 = .ok (.invokestatic 58, 3) := oc_184 (a := 0) (b := 58) (by decide +kernel)
theorem dX0_drink_11 : decode cX0_drink 11 = .ok (.iconst 0, 1) := oc_3 (by decide +kernel)
theorem dX0_drink_12 : decode cX0_drink 12 = .ok (.istore_n 2, 1) := oc_61 (by decide +kernel)
theorem dX0_drink_13 : decode cX0_drink 13 = .ok (.iconst 0, 1) := oc_3 (by decide +kernel)
theorem dX0_drink_14 : decode cX0_drink 14 = .ok (.istore_n 3, 1) := oc_62 (by decide +kernel)
theorem dX0_drink_15 : decode cX0_drink 15 = .ok (.iload_n 3, 1) := oc_29 (by decide +kernel)
theorem dX0_drink_16 : decode cX0_drink 16 = .ok (.aload_n 0, 1) := oc_42 (by decide +kernel)
theorem dX0_drink_17 : decode cX0_drink 17 = .ok (.getfield 54, 3) := oc_180 (a := 0) (b := 54) (by decide +kernel)
theorem dX0_drink_20 : decode cX0_drink 20 = .ok (.if_icmp .ge 84, 3) := oc_162 (a := 0) (b := 84) (by decide +kernel)
theorem dX0_drink_104 : decode cX0_drink 104 = .ok (.iload_n 2, 1) := oc_28 (by decide +kernel)
theorem dX0_drink_105 : decode cX0_drink 105 = .ok (.ireturn, 1) := oc_172 (by decide +kernel)
theorem dX0_drink_23 : decode cX0_drink 23 = .ok (.aload_n 0, 1) := oc_42 (by decide +kernel)
theorem dX0_drink_24 : decode cX0_drink 24 = .ok (.iload_n 3, 1) := oc_29 (by decide +kernel)
theorem dX0_drink_25 : decode cX0_drink 25 = .ok (.invokevirtual 65, 3) := oc_182 (a := 0) (b := 65) (by decide +kernel)
theorem dX0_drink_98 : decode cX0_drink 98 = .ok (.iinc 3 1, 3) := oc_132 (b := 1) (by decide +kernel)
theorem dX0_drink_101 : decode cX0_drink 101 = .ok (.goto (-86), 3) := oc_167 (a := 255) (b := 170) (by decide +kernel)
theorem dX0_drink_28 : decode cX0_drink 28 = .ok (.ifCond .eq 70, 3) := oc_153 (a := 0) (b := 70) (by decide +kernel)
theorem dX0_drink_31 : decode cX0_drink 31 = .ok (.aload_n 1, 1) := oc_43 (by decide +kernel)
theorem dX0_drink_32 : decode cX0_drink 32 = .ok (.aload_n 0, 1) := oc_42 (by decide +kernel)
theorem dX0_drink_33 : decode cX0_drink 33 = .ok (.getfield 42, 3) := oc_180 (a := 0) (b := 42) (by decide +kernel)
theorem dX0_drink_36 : decode cX0_drink 36 = .ok (.aload_n 0, 1) := oc_42 (by decide +kernel)
theorem dX0_drink_37 : decode cX0_drink 37 = .ok (.getfield 24, 3) := oc_180 (a := 0) (b := 24) (by decide +kernel)
theorem dX0_drink_40 : decode cX0_drink 40 = .ok (.iload_n 3, 1) := oc_29 (by decide +kernel)
theorem dX0_drink_41 : decode cX0_drink 41 = .ok (.iaload, 1) := oc_46 (by decide +kernel)
theorem dX0_drink_42 : decode cX0_drink 42 = .ok (.iaload, 1) := oc_46 (by decide +kernel)
theorem tw_1112 : Cond.methodLink RX0 82 yX2_sweetFrom ∈ wsL_law := sg_47 _ (List.mem_of_getElem? (i := 8) rfl)
theorem tw_1113 : Cond.instanceMethod yX2_sweetFrom ∈ wsL_law := sg_47 _ (List.mem_of_getElem? (i := 9) rfl)
theorem tw_1114 : Cond.selects RX2 yX2_sweetFrom yX2_sweetFrom ∈ wsL_law := sg_47 _ (List.mem_of_getElem? (i := 10) rfl)
theorem tw_41 : Cond.initialized RX2 ∈ wsL_law := sg_2 _ (List.mem_of_getElem? (i := 17) rfl)
theorem tw_1115 : Cond.code yX2_sweetFrom cX2_sweetFrom 4 (some .int) ∈ wsL_law := sg_47 _ (List.mem_of_getElem? (i := 11) rfl)
theorem dX0_drink_43 : decode cX0_drink 43 = .ok (.invokevirtual 82, 3) := oc_182 (a := 0) (b := 82) (by decide +kernel)
theorem dX0_drink_46 : decode cX0_drink 46 = .ok (.istore 4, 2) := oc_54 (by decide +kernel)
theorem dX0_drink_48 : decode cX0_drink 48 = .ok (.aload_n 0, 1) := oc_42 (by decide +kernel)
theorem dX0_drink_49 : decode cX0_drink 49 = .ok (.getfield 42, 3) := oc_180 (a := 0) (b := 42) (by decide +kernel)
theorem dX0_drink_52 : decode cX0_drink 52 = .ok (.aload_n 0, 1) := oc_42 (by decide +kernel)
theorem dX0_drink_53 : decode cX0_drink 53 = .ok (.getfield 24, 3) := oc_180 (a := 0) (b := 24) (by decide +kernel)
theorem dX0_drink_56 : decode cX0_drink 56 = .ok (.iload_n 3, 1) := oc_29 (by decide +kernel)
theorem dX0_drink_57 : decode cX0_drink 57 = .ok (.iaload, 1) := oc_46 (by decide +kernel)
theorem dX0_drink_58 : decode cX0_drink 58 = .ok (.iload 4, 2) := oc_21 (by decide +kernel)
theorem dX0_drink_60 : decode cX0_drink 60 = .ok (.iastore, 1) := oc_79 (by decide +kernel)
theorem dX0_drink_61 : decode cX0_drink 61 = .ok (.iload 4, 2) := oc_21 (by decide +kernel)
theorem dX0_drink_63 : decode cX0_drink 63 = .ok (.iconst (-1), 1) := oc_2 (by decide +kernel)
theorem dX0_drink_64 : decode cX0_drink 64 = .ok (.if_icmp .ne 19, 3) := oc_160 (a := 0) (b := 19) (by decide +kernel)
theorem dX0_drink_83 : decode cX0_drink 83 = .ok (.aload_n 1, 1) := oc_43 (by decide +kernel)
theorem tw_1099 : Cond.fieldLink RX0 85 "RingsUnder$Land" "wells" "LRingsUnder$Wells;" ∈ wsL_law := sg_46 _ (List.mem_of_getElem? (i := 19) rfl)
theorem dX0_drink_84 : decode cX0_drink 84 = .ok (.getfield 85, 3) := oc_180 (a := 0) (b := 85) (by decide +kernel)
theorem tw_1100 : Cond.fieldLink RX0 89 "RingsUnder$Wells" "lens" "[I" ∈ wsL_law := sg_46 _ (List.mem_of_getElem? (i := 20) rfl)
theorem dX0_drink_87 : decode cX0_drink 87 = .ok (.getfield 89, 3) := oc_180 (a := 0) (b := 89) (by decide +kernel)
theorem dX0_drink_90 : decode cX0_drink 90 = .ok (.iload 4, 2) := oc_21 (by decide +kernel)
theorem dX0_drink_92 : decode cX0_drink 92 = .ok (.dup2, 1) := oc_92 (by decide +kernel)
theorem dX0_drink_93 : decode cX0_drink 93 = .ok (.iaload, 1) := oc_46 (by decide +kernel)
theorem dX0_drink_94 : decode cX0_drink 94 = .ok (.bipush 10, 2) := oc_16 (a := 10) (by decide +kernel)
theorem dX0_drink_96 : decode cX0_drink 96 = .ok (.isub, 1) := oc_100 (by decide +kernel)
theorem dX0_drink_97 : decode cX0_drink 97 = .ok (.iastore, 1) := oc_79 (by decide +kernel)
theorem dX0_drink_67 : decode cX0_drink 67 = .ok (.aload_n 0, 1) := oc_42 (by decide +kernel)
theorem dX0_drink_68 : decode cX0_drink 68 = .ok (.getfield 27, 3) := oc_180 (a := 0) (b := 27) (by decide +kernel)
theorem dX0_drink_71 : decode cX0_drink 71 = .ok (.iload_n 3, 1) := oc_29 (by decide +kernel)
theorem dX0_drink_72 : decode cX0_drink 72 = .ok (.dup2, 1) := oc_92 (by decide +kernel)
theorem dX0_drink_73 : decode cX0_drink 73 = .ok (.iaload, 1) := oc_46 (by decide +kernel)
theorem dX0_drink_74 : decode cX0_drink 74 = .ok (.iconst 1, 1) := oc_4 (by decide +kernel)
theorem dX0_drink_75 : decode cX0_drink 75 = .ok (.iadd, 1) := oc_96 (by decide +kernel)
theorem dX0_drink_76 : decode cX0_drink 76 = .ok (.iastore, 1) := oc_79 (by decide +kernel)
theorem dX0_drink_77 : decode cX0_drink 77 = .ok (.iinc 2 1, 3) := oc_132 (b := 1) (by decide +kernel)
theorem dX0_drink_80 : decode cX0_drink 80 = .ok (.goto 18, 3) := oc_167 (a := 0) (b := 18) (by decide +kernel)
theorem dX0_groupOf_0 : decode cX0_groupOf 0 = .ok (.aload_n 0, 1) := oc_42 (by decide +kernel)
theorem dX0_groupOf_1 : decode cX0_groupOf 1 = .ok (.getfield 24, 3) := oc_180 (a := 0) (b := 24) (by decide +kernel)
theorem dX0_groupOf_4 : decode cX0_groupOf 4 = .ok (.iload_n 1, 1) := oc_27 (by decide +kernel)
theorem dX0_groupOf_5 : decode cX0_groupOf 5 = .ok (.iaload, 1) := oc_46 (by decide +kernel)
theorem dX0_groupOf_6 : decode cX0_groupOf 6 = .ok (.bipush 10, 2) := oc_16 (a := 10) (by decide +kernel)
theorem dX0_groupOf_8 : decode cX0_groupOf 8 = .ok (.imul, 1) := oc_104 (by decide +kernel)
theorem dX0_groupOf_9 : decode cX0_groupOf 9 = .ok (.aload_n 0, 1) := oc_42 (by decide +kernel)
theorem dX0_groupOf_10 : decode cX0_groupOf 10 = .ok (.getfield 9, 3) := oc_180 (a := 0) (b := 9) (by decide +kernel)
theorem dX0_groupOf_13 : decode cX0_groupOf 13 = .ok (.iload_n 1, 1) := oc_27 (by decide +kernel)
theorem dX0_groupOf_14 : decode cX0_groupOf 14 = .ok (.iaload, 1) := oc_46 (by decide +kernel)
theorem dX0_groupOf_15 : decode cX0_groupOf 15 = .ok (.iadd, 1) := oc_96 (by decide +kernel)
theorem dX0_groupOf_16 : decode cX0_groupOf 16 = .ok (.ireturn, 1) := oc_172 (by decide +kernel)
theorem dX11_fill_0 : decode cX11_fill 0 = .ok (.iconst 0, 1) := oc_3 (by decide +kernel)
theorem dX11_fill_1 : decode cX11_fill 1 = .ok (.istore_n 2, 1) := oc_61 (by decide +kernel)
theorem dX11_fill_2 : decode cX11_fill 2 = .ok (.iload_n 2, 1) := oc_28 (by decide +kernel)
theorem dX11_fill_3 : decode cX11_fill 3 = .ok (.aload_n 0, 1) := oc_42 (by decide +kernel)
theorem dX11_fill_4 : decode cX11_fill 4 = .ok (.arraylength, 1) := oc_190 (by decide +kernel)
theorem dX11_fill_5 : decode cX11_fill 5 = .ok (.if_icmp .ge 13, 3) := oc_162 (a := 0) (b := 13) (by decide +kernel)
theorem dX11_fill_18 : decode cX11_fill 18 = .ok (.return_, 1) := oc_177 (by decide +kernel)
theorem dX11_fill_8 : decode cX11_fill 8 = .ok (.aload_n 0, 1) := oc_42 (by decide +kernel)
theorem dX11_fill_9 : decode cX11_fill 9 = .ok (.iload_n 2, 1) := oc_28 (by decide +kernel)
theorem dX11_fill_10 : decode cX11_fill 10 = .ok (.iload_n 1, 1) := oc_27 (by decide +kernel)
theorem dX11_fill_11 : decode cX11_fill 11 = .ok (.iastore, 1) := oc_79 (by decide +kernel)
theorem dX11_fill_12 : decode cX11_fill 12 = .ok (.iinc 2 1, 3) := oc_132 (b := 1) (by decide +kernel)
theorem dX11_fill_15 : decode cX11_fill 15 = .ok (.goto (-13), 3) := oc_167 (a := 255) (b := 243) (by decide +kernel)
theorem dX0_countGroups_0 : decode cX0_countGroups 0 = .ok (.aload_n 0, 1) := oc_42 (by decide +kernel)
theorem tw_122 : Cond.fieldLink RX0 48 "RingsUnder$Folk" "groupSize" "[I" ∈ wsL_law := sg_6 _ (List.mem_of_getElem? (i := 2) rfl)
theorem dX0_countGroups_1 : decode cX0_countGroups 1 = .ok (.getfield 48, 3) := oc_180 (a := 0) (b := 48) (by decide +kernel)
theorem dX0_countGroups_4 : decode cX0_countGroups 4 = .ok (.iconst 0, 1) := oc_3 (by decide +kernel)
theorem tw_76 : Cond.code yX11_fill cX11_fill 3 none ∈ wsL_law := sg_4 _ (List.mem_of_getElem? (i := 4) rfl)
theorem dX0_countGroups_5 : decode cX0_countGroups 5 = .ok (.invokestatic 113, 3) := oc_184 (a := 0) (b := 113) (by decide +kernel)
theorem dX0_countGroups_8 : decode cX0_countGroups 8 = .ok (.aload_n 0, 1) := oc_42 (by decide +kernel)
theorem tw_123 : Cond.fieldLink RX0 51 "RingsUnder$Folk" "groupLot" "[I" ∈ wsL_law := sg_6 _ (List.mem_of_getElem? (i := 3) rfl)
theorem dX0_countGroups_9 : decode cX0_countGroups 9 = .ok (.getfield 51, 3) := oc_180 (a := 0) (b := 51) (by decide +kernel)
theorem dX0_countGroups_12 : decode cX0_countGroups 12 = .ok (.bipush (-2), 2) := oc_16 (a := 254) (by decide +kernel)
theorem dX0_countGroups_14 : decode cX0_countGroups 14 = .ok (.invokestatic 113, 3) := oc_184 (a := 0) (b := 113) (by decide +kernel)
theorem dX0_countGroups_17 : decode cX0_countGroups 17 = .ok (.iconst 0, 1) := oc_3 (by decide +kernel)
theorem dX0_countGroups_18 : decode cX0_countGroups 18 = .ok (.istore_n 3, 1) := oc_62 (by decide +kernel)
theorem dX0_countGroups_19 : decode cX0_countGroups 19 = .ok (.iload_n 3, 1) := oc_29 (by decide +kernel)
theorem dX0_countGroups_20 : decode cX0_countGroups 20 = .ok (.aload_n 0, 1) := oc_42 (by decide +kernel)
theorem dX0_countGroups_21 : decode cX0_countGroups 21 = .ok (.getfield 54, 3) := oc_180 (a := 0) (b := 54) (by decide +kernel)
theorem dX0_countGroups_24 : decode cX0_countGroups 24 = .ok (.if_icmp .ge 39, 3) := oc_162 (a := 0) (b := 39) (by decide +kernel)
theorem dX0_countGroups_63 : decode cX0_countGroups 63 = .ok (.return_, 1) := oc_177 (by decide +kernel)
theorem dX0_countGroups_27 : decode cX0_countGroups 27 = .ok (.lload_n 1, 1) := oc_31 (by decide +kernel)
theorem dX0_countGroups_28 : decode cX0_countGroups 28 = .ok (.iload_n 3, 1) := oc_29 (by decide +kernel)
theorem dX0_countGroups_29 : decode cX0_countGroups 29 = .ok (.invokestatic 73, 3) := oc_184 (a := 0) (b := 73) (by decide +kernel)
theorem dX0_countGroups_57 : decode cX0_countGroups 57 = .ok (.iinc 3 1, 3) := oc_132 (b := 1) (by decide +kernel)
theorem dX0_countGroups_60 : decode cX0_countGroups 60 = .ok (.goto (-41), 3) := oc_167 (a := 255) (b := 215) (by decide +kernel)
theorem dX0_countGroups_32 : decode cX0_countGroups 32 = .ok (.ifCond .eq 25, 3) := oc_153 (a := 0) (b := 25) (by decide +kernel)
theorem dX0_countGroups_35 : decode cX0_countGroups 35 = .ok (.aload_n 0, 1) := oc_42 (by decide +kernel)
theorem dX0_countGroups_36 : decode cX0_countGroups 36 = .ok (.iload_n 3, 1) := oc_29 (by decide +kernel)
theorem dX0_countGroups_37 : decode cX0_countGroups 37 = .ok (.invokevirtual 65, 3) := oc_182 (a := 0) (b := 65) (by decide +kernel)
theorem dX0_countGroups_40 : decode cX0_countGroups 40 = .ok (.ifCond .eq 17, 3) := oc_153 (a := 0) (b := 17) (by decide +kernel)
theorem dX0_countGroups_43 : decode cX0_countGroups 43 = .ok (.aload_n 0, 1) := oc_42 (by decide +kernel)
theorem dX0_countGroups_44 : decode cX0_countGroups 44 = .ok (.getfield 48, 3) := oc_180 (a := 0) (b := 48) (by decide +kernel)
theorem dX0_countGroups_47 : decode cX0_countGroups 47 = .ok (.aload_n 0, 1) := oc_42 (by decide +kernel)
theorem dX0_countGroups_48 : decode cX0_countGroups 48 = .ok (.iload_n 3, 1) := oc_29 (by decide +kernel)
theorem tw_1176 : Cond.methodLink RX0 107 yX0_groupOf ∈ wsL_law := sg_50 _ (List.mem_of_getElem? (i := 0) rfl)
theorem tw_1177 : Cond.instanceMethod yX0_groupOf ∈ wsL_law := sg_50 _ (List.mem_of_getElem? (i := 1) rfl)
theorem tw_1178 : Cond.selects RX0 yX0_groupOf yX0_groupOf ∈ wsL_law := sg_50 _ (List.mem_of_getElem? (i := 2) rfl)
theorem tw_1179 : Cond.code yX0_groupOf cX0_groupOf 2 (some .int) ∈ wsL_law := sg_50 _ (List.mem_of_getElem? (i := 3) rfl)
theorem dX0_countGroups_49 : decode cX0_countGroups 49 = .ok (.invokevirtual 107, 3) := oc_182 (a := 0) (b := 107) (by decide +kernel)
theorem dX0_countGroups_52 : decode cX0_countGroups 52 = .ok (.dup2, 1) := oc_92 (by decide +kernel)
theorem dX0_countGroups_53 : decode cX0_countGroups 53 = .ok (.iaload, 1) := oc_46 (by decide +kernel)
theorem dX0_countGroups_54 : decode cX0_countGroups 54 = .ok (.iconst 1, 1) := oc_4 (by decide +kernel)
theorem dX0_countGroups_55 : decode cX0_countGroups 55 = .ok (.iadd, 1) := oc_96 (by decide +kernel)
theorem dX0_countGroups_56 : decode cX0_countGroups 56 = .ok (.iastore, 1) := oc_79 (by decide +kernel)
theorem dX0_takeLot_0 : decode cX0_takeLot 0 = .ok (.iconst 0, 1) := oc_3 (by decide +kernel)
theorem dX0_takeLot_1 : decode cX0_takeLot 1 = .ok (.istore_n 2, 1) := oc_61 (by decide +kernel)
theorem dX0_takeLot_2 : decode cX0_takeLot 2 = .ok (.iload_n 2, 1) := oc_28 (by decide +kernel)
theorem dX0_takeLot_3 : decode cX0_takeLot 3 = .ok (.aload_n 0, 1) := oc_42 (by decide +kernel)
theorem dX0_takeLot_4 : decode cX0_takeLot 4 = .ok (.getfield 62, 3) := oc_180 (a := 0) (b := 62) (by decide +kernel)
theorem dX0_takeLot_7 : decode cX0_takeLot 7 = .ok (.if_icmp .ge 31, 3) := oc_162 (a := 0) (b := 31) (by decide +kernel)
theorem dX0_takeLot_38 : decode cX0_takeLot 38 = .ok (.iconst (-1), 1) := oc_2 (by decide +kernel)
theorem dX0_takeLot_39 : decode cX0_takeLot 39 = .ok (.ireturn, 1) := oc_172 (by decide +kernel)
theorem dX0_takeLot_10 : decode cX0_takeLot 10 = .ok (.aload_n 0, 1) := oc_42 (by decide +kernel)
theorem tw_121 : Cond.fieldLink RX0 45 "RingsUnder$Folk" "free" "[I" ∈ wsL_law := sg_6 _ (List.mem_of_getElem? (i := 1) rfl)
theorem dX0_takeLot_11 : decode cX0_takeLot 11 = .ok (.getfield 45, 3) := oc_180 (a := 0) (b := 45) (by decide +kernel)
theorem dX0_takeLot_14 : decode cX0_takeLot 14 = .ok (.iload_n 2, 1) := oc_28 (by decide +kernel)
theorem dX0_takeLot_15 : decode cX0_takeLot 15 = .ok (.iaload, 1) := oc_46 (by decide +kernel)
theorem dX0_takeLot_16 : decode cX0_takeLot 16 = .ok (.iload_n 1, 1) := oc_27 (by decide +kernel)
theorem dX0_takeLot_17 : decode cX0_takeLot 17 = .ok (.if_icmp .lt 15, 3) := oc_161 (a := 0) (b := 15) (by decide +kernel)
theorem dX0_takeLot_32 : decode cX0_takeLot 32 = .ok (.iinc 2 1, 3) := oc_132 (b := 1) (by decide +kernel)
theorem dX0_takeLot_35 : decode cX0_takeLot 35 = .ok (.goto (-33), 3) := oc_167 (a := 255) (b := 223) (by decide +kernel)
theorem dX0_takeLot_20 : decode cX0_takeLot 20 = .ok (.aload_n 0, 1) := oc_42 (by decide +kernel)
theorem dX0_takeLot_21 : decode cX0_takeLot 21 = .ok (.getfield 45, 3) := oc_180 (a := 0) (b := 45) (by decide +kernel)
theorem dX0_takeLot_24 : decode cX0_takeLot 24 = .ok (.iload_n 2, 1) := oc_28 (by decide +kernel)
theorem dX0_takeLot_25 : decode cX0_takeLot 25 = .ok (.dup2, 1) := oc_92 (by decide +kernel)
theorem dX0_takeLot_26 : decode cX0_takeLot 26 = .ok (.iaload, 1) := oc_46 (by decide +kernel)
theorem dX0_takeLot_27 : decode cX0_takeLot 27 = .ok (.iload_n 1, 1) := oc_27 (by decide +kernel)
theorem dX0_takeLot_28 : decode cX0_takeLot 28 = .ok (.isub, 1) := oc_100 (by decide +kernel)
theorem dX0_takeLot_29 : decode cX0_takeLot 29 = .ok (.iastore, 1) := oc_79 (by decide +kernel)
theorem dX0_takeLot_30 : decode cX0_takeLot 30 = .ok (.iload_n 2, 1) := oc_28 (by decide +kernel)
theorem dX0_takeLot_31 : decode cX0_takeLot 31 = .ok (.ireturn, 1) := oc_172 (by decide +kernel)
theorem dX1_copyFrom_0 : decode cX1_copyFrom 0 = .ok (.aload_n 0, 1) := oc_42 (by decide +kernel)
theorem dX1_copyFrom_1 : decode cX1_copyFrom 1 = .ok (.aload_n 1, 1) := oc_43 (by decide +kernel)
theorem tw_1393 : Cond.fieldLink RX1 19 "RingsUnder$Graves" "count" "I" ∈ wsL_law := sg_59 _ (List.mem_of_getElem? (i := 1) rfl)
theorem dX1_copyFrom_2 : decode cX1_copyFrom 2 = .ok (.getfield 19, 3) := oc_180 (a := 0) (b := 19) (by decide +kernel)
theorem dX1_copyFrom_5 : decode cX1_copyFrom 5 = .ok (.putfield 19, 3) := oc_181 (a := 0) (b := 19) (by decide +kernel)
theorem dX1_copyFrom_8 : decode cX1_copyFrom 8 = .ok (.aload_n 1, 1) := oc_43 (by decide +kernel)
theorem tw_137 : Cond.fieldLink RX1 9 "RingsUnder$Graves" "cell" "[I" ∈ wsL_law := sg_6 _ (List.mem_of_getElem? (i := 17) rfl)
theorem dX1_copyFrom_9 : decode cX1_copyFrom 9 = .ok (.getfield 9, 3) := oc_180 (a := 0) (b := 9) (by decide +kernel)
theorem dX1_copyFrom_12 : decode cX1_copyFrom 12 = .ok (.aload_n 0, 1) := oc_42 (by decide +kernel)
theorem dX1_copyFrom_13 : decode cX1_copyFrom 13 = .ok (.getfield 9, 3) := oc_180 (a := 0) (b := 9) (by decide +kernel)
theorem dX1_copyFrom_16 : decode cX1_copyFrom 16 = .ok (.invokestatic 23, 3) := oc_184 (a := 0) (b := 23) (by decide +kernel)
theorem dX1_copyFrom_19 : decode cX1_copyFrom 19 = .ok (.aload_n 1, 1) := oc_43 (by decide +kernel)
theorem tw_138 : Cond.fieldLink RX1 15 "RingsUnder$Graves" "lay" "[J" ∈ wsL_law := sg_6 _ (List.mem_of_getElem? (i := 18) rfl)
theorem dX1_copyFrom_20 : decode cX1_copyFrom 20 = .ok (.getfield 15, 3) := oc_180 (a := 0) (b := 15) (by decide +kernel)
theorem dX1_copyFrom_23 : decode cX1_copyFrom 23 = .ok (.iconst 0, 1) := oc_3 (by decide +kernel)
theorem dX1_copyFrom_24 : decode cX1_copyFrom 24 = .ok (.aload_n 0, 1) := oc_42 (by decide +kernel)
theorem dX1_copyFrom_25 : decode cX1_copyFrom 25 = .ok (.getfield 15, 3) := oc_180 (a := 0) (b := 15) (by decide +kernel)
theorem dX1_copyFrom_28 : decode cX1_copyFrom 28 = .ok (.iconst 0, 1) := oc_3 (by decide +kernel)
theorem dX1_copyFrom_29 : decode cX1_copyFrom 29 = .ok (.bipush 30, 2) := oc_16 (a := 30) (by decide +kernel)
theorem tw_1394 : Cond.methodLink RX1 27 arraycopyName ∈ wsL_law := sg_59 _ (List.mem_of_getElem? (i := 2) rfl)
theorem dX1_copyFrom_31 : decode cX1_copyFrom 31 = .ok (.invokestatic 27, 3) := oc_184 (a := 0) (b := 27) (by decide +kernel)
theorem dX1_copyFrom_34 : decode cX1_copyFrom 34 = .ok (.return_, 1) := oc_177 (by decide +kernel)
theorem dX1_dig_0 : decode cX1_dig 0 = .ok (.aload_n 0, 1) := oc_42 (by decide +kernel)
theorem dX1_dig_1 : decode cX1_dig 1 = .ok (.getfield 19, 3) := oc_180 (a := 0) (b := 19) (by decide +kernel)
theorem dX1_dig_4 : decode cX1_dig 4 = .ok (.bipush 30, 2) := oc_16 (a := 30) (by decide +kernel)
theorem dX1_dig_6 : decode cX1_dig 6 = .ok (.if_icmp .lt 5, 3) := oc_161 (a := 0) (b := 5) (by decide +kernel)
theorem dX1_dig_11 : decode cX1_dig 11 = .ok (.aload_n 0, 1) := oc_42 (by decide +kernel)
theorem dX1_dig_12 : decode cX1_dig 12 = .ok (.getfield 9, 3) := oc_180 (a := 0) (b := 9) (by decide +kernel)
theorem dX1_dig_15 : decode cX1_dig 15 = .ok (.aload_n 0, 1) := oc_42 (by decide +kernel)
theorem dX1_dig_16 : decode cX1_dig 16 = .ok (.getfield 19, 3) := oc_180 (a := 0) (b := 19) (by decide +kernel)
theorem dX1_dig_19 : decode cX1_dig 19 = .ok (.iload_n 1, 1) := oc_27 (by decide +kernel)
theorem dX1_dig_20 : decode cX1_dig 20 = .ok (.iastore, 1) := oc_79 (by decide +kernel)
theorem dX1_dig_21 : decode cX1_dig 21 = .ok (.aload_n 0, 1) := oc_42 (by decide +kernel)
theorem dX1_dig_22 : decode cX1_dig 22 = .ok (.getfield 15, 3) := oc_180 (a := 0) (b := 15) (by decide +kernel)
theorem dX1_dig_25 : decode cX1_dig 25 = .ok (.aload_n 0, 1) := oc_42 (by decide +kernel)
theorem dX1_dig_26 : decode cX1_dig 26 = .ok (.getfield 19, 3) := oc_180 (a := 0) (b := 19) (by decide +kernel)
theorem dX1_dig_29 : decode cX1_dig 29 = .ok (.lconst 1, 1) := oc_10 (by decide +kernel)
theorem dX1_dig_30 : decode cX1_dig 30 = .ok (.iload_n 1, 1) := oc_27 (by decide +kernel)
theorem dX1_dig_31 : decode cX1_dig 31 = .ok (.lshl, 1) := oc_121 (by decide +kernel)
theorem dX1_dig_32 : decode cX1_dig 32 = .ok (.lastore, 1) := oc_80 (by decide +kernel)
theorem dX1_dig_33 : decode cX1_dig 33 = .ok (.aload_n 0, 1) := oc_42 (by decide +kernel)
theorem dX1_dig_34 : decode cX1_dig 34 = .ok (.dup, 1) := oc_89 (by decide +kernel)
theorem dX1_dig_35 : decode cX1_dig 35 = .ok (.getfield 19, 3) := oc_180 (a := 0) (b := 19) (by decide +kernel)
theorem dX1_dig_38 : decode cX1_dig 38 = .ok (.iconst 1, 1) := oc_4 (by decide +kernel)
theorem dX1_dig_39 : decode cX1_dig 39 = .ok (.iadd, 1) := oc_96 (by decide +kernel)
theorem dX1_dig_40 : decode cX1_dig 40 = .ok (.putfield 19, 3) := oc_181 (a := 0) (b := 19) (by decide +kernel)
theorem dX1_dig_43 : decode cX1_dig 43 = .ok (.aload_n 0, 1) := oc_42 (by decide +kernel)
theorem dX1_dig_44 : decode cX1_dig 44 = .ok (.getfield 19, 3) := oc_180 (a := 0) (b := 19) (by decide +kernel)
theorem dX1_dig_47 : decode cX1_dig 47 = .ok (.iconst 1, 1) := oc_4 (by decide +kernel)
theorem dX1_dig_48 : decode cX1_dig 48 = .ok (.isub, 1) := oc_100 (by decide +kernel)
theorem dX1_dig_49 : decode cX1_dig 49 = .ok (.ireturn, 1) := oc_172 (by decide +kernel)
theorem dX1_dig_9 : decode cX1_dig 9 = .ok (.iconst (-1), 1) := oc_2 (by decide +kernel)
theorem dX1_dig_10 : decode cX1_dig 10 = .ok (.ireturn, 1) := oc_172 (by decide +kernel)
theorem dX1_carry_0 : decode cX1_carry 0 = .ok (.aload_n 0, 1) := oc_42 (by decide +kernel)
theorem dX1_carry_1 : decode cX1_carry 1 = .ok (.getfield 9, 3) := oc_180 (a := 0) (b := 9) (by decide +kernel)
theorem dX1_carry_4 : decode cX1_carry 4 = .ok (.iload_n 1, 1) := oc_27 (by decide +kernel)
theorem dX1_carry_5 : decode cX1_carry 5 = .ok (.iaload, 1) := oc_46 (by decide +kernel)
theorem dX1_carry_6 : decode cX1_carry 6 = .ok (.iload_n 2, 1) := oc_28 (by decide +kernel)
theorem dX1_carry_7 : decode cX1_carry 7 = .ok (.if_icmp .ne 5, 3) := oc_160 (a := 0) (b := 5) (by decide +kernel)
theorem dX1_carry_12 : decode cX1_carry 12 = .ok (.aload_n 0, 1) := oc_42 (by decide +kernel)
theorem dX1_carry_13 : decode cX1_carry 13 = .ok (.getfield 9, 3) := oc_180 (a := 0) (b := 9) (by decide +kernel)
theorem dX1_carry_16 : decode cX1_carry 16 = .ok (.iload_n 1, 1) := oc_27 (by decide +kernel)
theorem dX1_carry_17 : decode cX1_carry 17 = .ok (.iload_n 2, 1) := oc_28 (by decide +kernel)
theorem dX1_carry_18 : decode cX1_carry 18 = .ok (.iastore, 1) := oc_79 (by decide +kernel)
theorem dX1_carry_19 : decode cX1_carry 19 = .ok (.aload_n 0, 1) := oc_42 (by decide +kernel)
theorem dX1_carry_20 : decode cX1_carry 20 = .ok (.getfield 15, 3) := oc_180 (a := 0) (b := 15) (by decide +kernel)
theorem dX1_carry_23 : decode cX1_carry 23 = .ok (.iload_n 1, 1) := oc_27 (by decide +kernel)
theorem dX1_carry_24 : decode cX1_carry 24 = .ok (.dup2, 1) := oc_92 (by decide +kernel)
theorem dX1_carry_25 : decode cX1_carry 25 = .ok (.laload, 1) := oc_47 (by decide +kernel)
theorem dX1_carry_26 : decode cX1_carry 26 = .ok (.lconst 1, 1) := oc_10 (by decide +kernel)
theorem dX1_carry_27 : decode cX1_carry 27 = .ok (.iload_n 2, 1) := oc_28 (by decide +kernel)
theorem dX1_carry_28 : decode cX1_carry 28 = .ok (.lshl, 1) := oc_121 (by decide +kernel)
theorem dX1_carry_29 : decode cX1_carry 29 = .ok (.lor, 1) := oc_129 (by decide +kernel)
theorem dX1_carry_30 : decode cX1_carry 30 = .ok (.lastore, 1) := oc_80 (by decide +kernel)
theorem dX1_carry_31 : decode cX1_carry 31 = .ok (.iconst 1, 1) := oc_4 (by decide +kernel)
theorem dX1_carry_32 : decode cX1_carry 32 = .ok (.ireturn, 1) := oc_172 (by decide +kernel)
theorem dX1_carry_10 : decode cX1_carry 10 = .ok (.iconst 0, 1) := oc_3 (by decide +kernel)
theorem dX1_carry_11 : decode cX1_carry 11 = .ok (.ireturn, 1) := oc_172 (by decide +kernel)
theorem dX1_whereNow_0 : decode cX1_whereNow 0 = .ok (.iconst 0, 1) := oc_3 (by decide +kernel)
theorem dX1_whereNow_1 : decode cX1_whereNow 1 = .ok (.istore_n 3, 1) := oc_62 (by decide +kernel)
theorem dX1_whereNow_2 : decode cX1_whereNow 2 = .ok (.iconst 0, 1) := oc_3 (by decide +kernel)
theorem dX1_whereNow_3 : decode cX1_whereNow 3 = .ok (.istore 4, 2) := oc_54 (by decide +kernel)
theorem dX1_whereNow_5 : decode cX1_whereNow 5 = .ok (.iload 4, 2) := oc_21 (by decide +kernel)
theorem dX1_whereNow_7 : decode cX1_whereNow 7 = .ok (.aload_n 0, 1) := oc_42 (by decide +kernel)
theorem dX1_whereNow_8 : decode cX1_whereNow 8 = .ok (.getfield 19, 3) := oc_180 (a := 0) (b := 19) (by decide +kernel)
theorem dX1_whereNow_11 : decode cX1_whereNow 11 = .ok (.if_icmp .ge 39, 3) := oc_162 (a := 0) (b := 39) (by decide +kernel)
theorem dX1_whereNow_50 : decode cX1_whereNow 50 = .ok (.iconst (-1), 1) := oc_2 (by decide +kernel)
theorem dX1_whereNow_51 : decode cX1_whereNow 51 = .ok (.ireturn, 1) := oc_172 (by decide +kernel)
theorem dX1_whereNow_14 : decode cX1_whereNow 14 = .ok (.aload_n 0, 1) := oc_42 (by decide +kernel)
theorem dX1_whereNow_15 : decode cX1_whereNow 15 = .ok (.getfield 15, 3) := oc_180 (a := 0) (b := 15) (by decide +kernel)
theorem dX1_whereNow_18 : decode cX1_whereNow 18 = .ok (.iload 4, 2) := oc_21 (by decide +kernel)
theorem dX1_whereNow_20 : decode cX1_whereNow 20 = .ok (.laload, 1) := oc_47 (by decide +kernel)
theorem dX1_whereNow_21 : decode cX1_whereNow 21 = .ok (.iload_n 1, 1) := oc_27 (by decide +kernel)
theorem dX1_whereNow_22 : decode cX1_whereNow 22 = .ok (.invokestatic 33, 3) := oc_184 (a := 0) (b := 33) (by decide +kernel)
theorem dX1_whereNow_44 : decode cX1_whereNow 44 = .ok (.iinc 4 1, 3) := oc_132 (b := 1) (by decide +kernel)
theorem dX1_whereNow_47 : decode cX1_whereNow 47 = .ok (.goto (-42), 3) := oc_167 (a := 255) (b := 214) (by decide +kernel)
theorem dX1_whereNow_25 : decode cX1_whereNow 25 = .ok (.ifCond .eq 19, 3) := oc_153 (a := 0) (b := 19) (by decide +kernel)
theorem dX1_whereNow_28 : decode cX1_whereNow 28 = .ok (.iload_n 3, 1) := oc_29 (by decide +kernel)
theorem dX1_whereNow_29 : decode cX1_whereNow 29 = .ok (.iload_n 2, 1) := oc_28 (by decide +kernel)
theorem dX1_whereNow_30 : decode cX1_whereNow 30 = .ok (.if_icmp .ne 11, 3) := oc_160 (a := 0) (b := 11) (by decide +kernel)
theorem dX1_whereNow_41 : decode cX1_whereNow 41 = .ok (.iinc 3 1, 3) := oc_132 (b := 1) (by decide +kernel)
theorem dX1_whereNow_33 : decode cX1_whereNow 33 = .ok (.aload_n 0, 1) := oc_42 (by decide +kernel)
theorem dX1_whereNow_34 : decode cX1_whereNow 34 = .ok (.getfield 9, 3) := oc_180 (a := 0) (b := 9) (by decide +kernel)
theorem dX1_whereNow_37 : decode cX1_whereNow 37 = .ok (.iload 4, 2) := oc_21 (by decide +kernel)
theorem dX1_whereNow_39 : decode cX1_whereNow 39 = .ok (.iaload, 1) := oc_46 (by decide +kernel)
theorem dX1_whereNow_40 : decode cX1_whereNow 40 = .ok (.ireturn, 1) := oc_172 (by decide +kernel)
set_option maxHeartbeats 4000000 in
set_option maxRecDepth 100000 in
theorem s_X0_valueOf (l : Launch) (D : va_G) (t : pq_T) (σ : pq_S) (I : Nat → Nat → Int32) (J : Nat → Nat → Int64) (ri : Nat → Nat → Int32) (rj : Nat → Nat → Int64) (rq : Nat → Nat → Option Nat) (sz : Nat) (tg : Nat → Nat) (hSH : SH σ tg) (hG0 : GS tg σ I ri rq) (this : Nat) (a0 : Int32) (a1 : Int32) (a2 : Int32) (hL_this : this ∈ σ.1) (hK_this : σ.2.1 this = 0) (h_a0 : rg a0 0 39) : MetI l yX0_valueOf (wa yX0_valueOf cX0_valueOf 4 (some .int)) ({ frames := 0, cells := 0, slots := 0, locals := 0 }) [.ref this, .int a0, .int a1, .int a2] D t σ (I, J, ri, rj, rq) sz 0 0 (fun (r : Int32) (u : pq_S × pq_M) => u = (σ, I, J, ri, rj, rq)) := by
  refine Met.ofW (cc := cX0_valueOf) (maxL := 4) (ret := (some .int)) (by decide) rfl ?_
  intro p e s m args below meth c s₁ B hml hv
  obtain ⟨rfl, hsz, hP, hK, hD0, hN⟩ := hv
  have hx := B.exec
  have hb := B.bytes
  have hr := B.returns
  have hts := atoms_spec (ws := (wa yX0_valueOf cX0_valueOf 4 (some .int))) B.pre
  have hown : s.vm.findClass RX0 = some m.cls := findClass_of_methodNamed B.named
  have hlocks := B.notSynchronized
  subst hsz
  have hD : va_D (pq_B t σ (I, J, ri, rj, rq) s.heap.size) (pq_P t σ (I, J, ri, rj, rq)) := hD0.self
  generalize hAe : pq_B t σ (I, J, ri, rj, rq) s.heap.size = A at hD ⊢
  have hA : ∀ q : Nat, s.heap.size ≤ q → A q := fun q h => by rw [← hAe]; exact Or.inr h
  have hS : va_S A s.heap s.heap [] := va_S.rf
  have hG : GX [] tg σ I ri rj I ri rj rq := ⟨hG0, fun _ _ _ => rfl, fun _ _ _ _ _ => rfl, fun _ _ _ _ _ => rfl⟩
  have hl := lv_entry ([.ref this, .int a0, .int a1, .int a2]) (n := 4) (Nat.le_of_ble_eq_true rfl)
  rw [lg_entry_eq]
  generalize (lg_sl ([.ref this, .int a0, .int a1, .int a2]) ++ List.replicate (4 - (lg_sl ([.ref this, .int a0, .int a1, .int a2])).length) Slot.unset).toArray = ls at hl ⊢
  have hl : lv_has ls 4 [(0, .ref this), (1, .int a0), (2, .int a1), (3, .int a2)] := hl
  refine q_gen (fun Q hQ => ?_)
  have go : ∀ (H : Heap) (locs : List Loc) (ls : Array Slot), va_P D vwCl (pq_P t σ (I, J, ri, rj, rq)) H → va_D A (pq_P t σ (I, J, ri, rj, rq)) → va_S A s.heap H locs → lv_has ls 4 [(0, .ref this), (1, .int a0), (2, .int a1), (3, .int a2)] → W p l e ({ frames := 0, cells := 0, slots := 0, locals := 0 } : Room) s m (List.toArray ([.ref this, .int a0, .int a1, .int a2] : List Value)) below meth c H locs 0 0 Q (F0 m 0 ls []) := by
    intro H locs ls hP hD hS hl
    refine lv_iload_n hx hb dX0_valueOf_0 rfl (lv_at hl 2 rfl) ?_
    by_cases k_1 : a1 = (12 : Int32)
    · have h_2 : rg a1 12 12 := rg_and (rg_full _) (rg_of_eq k_1 (rg_k (12 : Int32) 12 rfl)) (by decide)
      refine lv_tov 12 k_1 ?_
      refine lv_tableIn (tgt := 36) hx hb dX0_valueOf_1 (by decide) (by decide) rfl (by decide) ?_
      refine lv_aload_n hx hb dX0_valueOf_36 rfl (lv_at hl 0 rfl) ?_
      obtain ⟨w_3, hR_w_3, hL_w_3, hK_w_3, hN_w_3, hT_w_3⟩ := sh_a hSH 2 (ci := 0) (kd := 13) (len := 40) rfl (by decide) hL_this hK_this
      refine pg_f (v := .ref w_3) (C := RX0) (T := TX0) (N := 16) hx hb hts (tw_i inlX0) hown hK hP hL_this hK_this (by decide) rfl 2 (by decide) (hts _ (tw_c tw_111)) (pq_hv rfl hR_w_3) dX0_valueOf_37 ?_
      refine lv_iload_n hx hb dX0_valueOf_40 rfl (lv_at hl 1 rfl) ?_
      refine pl_i hx hb hK hP hL_w_3 hK_w_3 hN_w_3 (rg_in h_a0 (by decide)) dX0_valueOf_41 ?_
      refine lv_topi (fun x_4 ex_4 => ?_)
      subst hQ
      exact W.iret (v := x_4) hx hb hr (fun t1 ht hW => ⟨⟨x_4, (σ, I, J, ri, rj, rq), rfl, rfl, by rw [ht]; exact hP, va_K.moved hW.alike hK, hD⟩, hS.F ht⟩) hS.2.2 dX0_valueOf_42
    by_cases k_5 : a1 = (13 : Int32)
    · have h_6 : rg a1 13 13 := rg_and (rg_full _) (rg_of_eq k_5 (rg_k (13 : Int32) 13 rfl)) (by decide)
      refine lv_tov 13 k_5 ?_
      refine lv_tableIn (tgt := 43) hx hb dX0_valueOf_1 (by decide) (by decide) rfl (by decide) ?_
      refine lv_aload_n hx hb dX0_valueOf_43 rfl (lv_at hl 0 rfl) ?_
      obtain ⟨w_7, hR_w_7, hL_w_7, hK_w_7, hN_w_7, hT_w_7⟩ := sh_a hSH 1 (ci := 0) (kd := 13) (len := 40) rfl (by decide) hL_this hK_this
      refine pg_f (v := .ref w_7) (C := RX0) (T := TX0) (N := 16) hx hb hts (tw_i inlX0) hown hK hP hL_this hK_this (by decide) rfl 1 (by decide) (hts _ (tw_c tw_110)) (pq_hv rfl hR_w_7) dX0_valueOf_44 ?_
      refine lv_iload_n hx hb dX0_valueOf_47 rfl (lv_at hl 1 rfl) ?_
      refine pl_i hx hb hK hP hL_w_7 hK_w_7 hN_w_7 (rg_in h_a0 (by decide)) dX0_valueOf_48 ?_
      refine lv_topi (fun x_8 ex_8 => ?_)
      have h_9 : rg x_8 0 9 := rg_of_eq ex_8 (GX.rR hG hT_w_7 rfl)
      subst hQ
      exact W.iret (v := x_8) hx hb hr (fun t1 ht hW => ⟨⟨x_8, (σ, I, J, ri, rj, rq), rfl, rfl, by rw [ht]; exact hP, va_K.moved hW.alike hK, hD⟩, hS.F ht⟩) hS.2.2 dX0_valueOf_49
    by_cases k_10 : a1 = (14 : Int32)
    · have h_11 : rg a1 14 14 := rg_and (rg_full _) (rg_of_eq k_10 (rg_k (14 : Int32) 14 rfl)) (by decide)
      refine lv_tov 14 k_10 ?_
      refine lv_tableIn (tgt := 50) hx hb dX0_valueOf_1 (by decide) (by decide) rfl (by decide) ?_
      refine lv_aload_n hx hb dX0_valueOf_50 rfl (lv_at hl 0 rfl) ?_
      obtain ⟨w_12, hR_w_12, hL_w_12, hK_w_12, hN_w_12, hT_w_12⟩ := sh_a hSH 3 (ci := 0) (kd := 13) (len := 40) rfl (by decide) hL_this hK_this
      refine pg_f (v := .ref w_12) (C := RX0) (T := TX0) (N := 16) hx hb hts (tw_i inlX0) hown hK hP hL_this hK_this (by decide) rfl 3 (by decide) (hts _ (tw_c tw_112)) (pq_hv rfl hR_w_12) dX0_valueOf_51 ?_
      refine lv_iload_n hx hb dX0_valueOf_54 rfl (lv_at hl 1 rfl) ?_
      refine pl_i hx hb hK hP hL_w_12 hK_w_12 hN_w_12 (rg_in h_a0 (by decide)) dX0_valueOf_55 ?_
      refine lv_topi (fun x_13 ex_13 => ?_)
      subst hQ
      exact W.iret (v := x_13) hx hb hr (fun t1 ht hW => ⟨⟨x_13, (σ, I, J, ri, rj, rq), rfl, rfl, by rw [ht]; exact hP, va_K.moved hW.alike hK, hD⟩, hS.F ht⟩) hS.2.2 dX0_valueOf_56
    by_cases k_14 : a1 = (15 : Int32)
    · have h_15 : rg a1 15 15 := rg_and (rg_full _) (rg_of_eq k_14 (rg_k (15 : Int32) 15 rfl)) (by decide)
      refine lv_tov 15 k_14 ?_
      refine lv_tableIn (tgt := 57) hx hb dX0_valueOf_1 (by decide) (by decide) rfl (by decide) ?_
      refine lv_aload_n hx hb dX0_valueOf_57 rfl (lv_at hl 0 rfl) ?_
      obtain ⟨w_16, hR_w_16, hL_w_16, hK_w_16, hN_w_16, hT_w_16⟩ := sh_a hSH 5 (ci := 0) (kd := 13) (len := 40) rfl (by decide) hL_this hK_this
      refine pg_f (v := .ref w_16) (C := RX0) (T := TX0) (N := 16) hx hb hts (tw_i inlX0) hown hK hP hL_this hK_this (by decide) rfl 5 (by decide) (hts _ (tw_c tw_114)) (pq_hv rfl hR_w_16) dX0_valueOf_58 ?_
      refine lv_iload_n hx hb dX0_valueOf_61 rfl (lv_at hl 1 rfl) ?_
      refine pl_i hx hb hK hP hL_w_16 hK_w_16 hN_w_16 (rg_in h_a0 (by decide)) dX0_valueOf_62 ?_
      refine lv_topi (fun x_17 ex_17 => ?_)
      have h_18 : rg x_17 0 300 := rg_of_eq ex_17 (GX.rR hG hT_w_16 rfl)
      subst hQ
      exact W.iret (v := x_17) hx hb hr (fun t1 ht hW => ⟨⟨x_17, (σ, I, J, ri, rj, rq), rfl, rfl, by rw [ht]; exact hP, va_K.moved hW.alike hK, hD⟩, hS.F ht⟩) hS.2.2 dX0_valueOf_63
    by_cases k_19 : a1 = (16 : Int32)
    · have h_20 : rg a1 16 16 := rg_and (rg_full _) (rg_of_eq k_19 (rg_k (16 : Int32) 16 rfl)) (by decide)
      refine lv_tov 16 k_19 ?_
      refine lv_tableIn (tgt := 64) hx hb dX0_valueOf_1 (by decide) (by decide) rfl (by decide) ?_
      refine lv_iload_n hx hb dX0_valueOf_64 rfl (lv_at hl 3 rfl) ?_
      subst hQ
      exact W.iret (v := a2) hx hb hr (fun t1 ht hW => ⟨⟨a2, (σ, I, J, ri, rj, rq), rfl, rfl, by rw [ht]; exact hP, va_K.moved hW.alike hK, hD⟩, hS.F ht⟩) hS.2.2 dX0_valueOf_65
    refine lv_tableOut (tgt := 66) hx hb dX0_valueOf_1 (by have z_k_1 := sw_ne k_1 (n := 12) rfl; have z_k_5 := sw_ne k_5 (n := 13) rfl; have z_k_10 := sw_ne k_10 (n := 14) rfl; have z_k_14 := sw_ne k_14 (n := 15) rfl; have z_k_19 := sw_ne k_19 (n := 16) rfl; omega) (by decide) ?_
    refine lv_iconst (v := 0) hx hb dX0_valueOf_66 (by decide) ?_
    subst hQ
    exact W.iret (v := 0) hx hb hr (fun t1 ht hW => ⟨⟨0, (σ, I, J, ri, rj, rq), rfl, rfl, by rw [ht]; exact hP, va_K.moved hW.alike hK, hD⟩, hS.F ht⟩) hS.2.2 dX0_valueOf_67
  exact go _ _ _ hP hD hS hl

set_option maxHeartbeats 4000000 in
set_option maxRecDepth 100000 in
theorem s_X11_copy_80_12 (l : Launch) (D : va_G) (t : pq_T) (σ : pq_S) (I : Nat → Nat → Int32) (J : Nat → Nat → Int64) (ri : Nat → Nat → Int32) (rj : Nat → Nat → Int64) (rq : Nat → Nat → Option Nat) (sz : Nat) (tg : Nat → Nat) (hSH : SH σ tg) (hG0 : GS tg σ I ri rq) (a0 : Nat) (a1 : Nat) (hL_a0 : a0 ∈ σ.1) (hK_a0 : σ.2.1 a0 = 13) (hN_a0 : σ.2.2.2 a0 = 5) (hT_a0 : tg a0 = 80) (hL_a1 : a1 ∈ σ.1) (hK_a1 : σ.2.1 a1 = 13) (hN_a1 : σ.2.2.2 a1 = 5) (hT_a1 : tg a1 = 12) : MetV l yX11_copy (wa yX11_copy cX11_copy 2 none) ({ frames := 1, cells := 0, slots := 0, locals := 60 }) [.ref a0, .ref a1] D t σ (I, J, ri, rj, rq) sz 0 0 (fun (u : pq_S × pq_M) => ∃ ri' : Nat → Nat → Int32, u = (σ, I, J, ri', rj, rq) ∧ GX [] tg σ I ri rj I ri' rj rq ∧ (∀ j, j < 5 → ri' a1 j = ri a0 j) ∧ (∀ q, q ≠ a1 → ri' q = ri q)) := by
  refine Met.ofW (cc := cX11_copy) (maxL := 2) (ret := none) (by decide) rfl ?_
  intro p e s m args below meth c s₁ B hml hv
  obtain ⟨rfl, hsz, hP, hK, hD0, hN⟩ := hv
  have hx := B.exec
  have hb := B.bytes
  have hr := B.returns
  have hts := atoms_spec (ws := (wa yX11_copy cX11_copy 2 none)) B.pre
  have hown : s.vm.findClass RX11 = some m.cls := findClass_of_methodNamed B.named
  have hlocks := B.notSynchronized
  subst hsz
  have hD : va_D (pq_B t σ (I, J, ri, rj, rq) s.heap.size) (pq_P t σ (I, J, ri, rj, rq)) := hD0.self
  generalize hAe : pq_B t σ (I, J, ri, rj, rq) s.heap.size = A at hD ⊢
  have hA : ∀ q : Nat, s.heap.size ≤ q → A q := fun q h => by rw [← hAe]; exact Or.inr h
  have hS : va_S A s.heap s.heap [] := va_S.rf
  have hG : GX [] tg σ I ri rj I ri rj rq := ⟨hG0, fun _ _ _ => rfl, fun _ _ _ _ _ => rfl, fun _ _ _ _ _ => rfl⟩
  have hl := lv_entry ([.ref a0, .ref a1]) (n := 2) (Nat.le_of_ble_eq_true rfl)
  rw [lg_entry_eq]
  generalize (lg_sl ([.ref a0, .ref a1]) ++ List.replicate (2 - (lg_sl ([.ref a0, .ref a1])).length) Slot.unset).toArray = ls at hl ⊢
  have hl : lv_has ls 2 [(0, .ref a0), (1, .ref a1)] := hl
  refine q_gen (fun Q hQ => ?_)
  have go : ∀ (H : Heap) (locs : List Loc) (ls : Array Slot), va_P D vwCl (pq_P t σ (I, J, ri, rj, rq)) H → va_D A (pq_P t σ (I, J, ri, rj, rq)) → va_S A s.heap H locs → lv_has ls 2 [(0, .ref a0), (1, .ref a1)] → W p l e ({ frames := 1, cells := 0, slots := 0, locals := 60 } : Room) s m (List.toArray ([.ref a0, .ref a1] : List Value)) below meth c H locs 0 0 Q (F0 m 0 ls []) := by
    intro H locs ls hP hD hS hl
    refine lv_aload_n hx hb dX11_copy_0 rfl (lv_at hl 0 rfl) ?_
    refine lv_iconst (v := 0) hx hb dX11_copy_1 (by decide) ?_
    refine lv_aload_n hx hb dX11_copy_2 rfl (lv_at hl 1 rfl) ?_
    refine lv_iconst (v := 0) hx hb dX11_copy_3 (by decide) ?_
    refine lv_aload_n hx hb dX11_copy_4 rfl (lv_at hl 0 rfl) ?_
    refine pn_i (v := 5) hx hb hK hP hL_a0 hK_a0 hN_a0 (by decide) dX11_copy_5 ?_
    refine lv_aload_n hx hb dX11_copy_6 rfl (lv_at hl 1 rfl) ?_
    refine pn_i (v := 5) hx hb hK hP hL_a1 hK_a1 hN_a1 (by decide) dX11_copy_7 ?_
    refine va_mmin hx hb (hml.trans hl.1.symm) hown (hts _ (tw_c tw_1103)) (hts _ (tw_c tw_467)) (hts _ (tw_c tw_276)) (hts _ (tw_c tw_468)) (Nat.le_of_ble_eq_true rfl) (Nat.le_of_ble_eq_true rfl) (Nat.zero_le _) (Nat.zero_le _) dX11_copy_8 ?_
    refine lv_topi (fun x_1 ex_1 => ?_)
    have h_2 : rg x_1 5 5 := rg_of_eq ex_1 (rg_min2 (rg_k (5 : Int32) 5 rfl) (rg_k (5 : Int32) 5 rfl) (by decide))
    refine pc_i hx hb (hml.trans hl.1.symm) hown (hts _ (tw_c tw_1104)) (hts _ (tw_c tw_1105)) (hts _ (tw_c tw_1106)) (hts _ (tw_c tw_1107)) hK hP hD hS hL_a0 hK_a0 hN_a0 hL_a1 hK_a1 hN_a1 (rg_pos (rg_k (0 : Int32) 0 rfl) (by decide)) (rg_pos h_2 (by decide)) (rg_cp (rg_k (0 : Int32) 0 rfl) h_2 (by decide)) (rg_cl h_2 (by decide)) (Nat.le_of_ble_eq_true rfl) (Nat.le_of_ble_eq_true rfl) dX11_copy_11 (fun r_3 H locs er_3 hP hD hS => ?_)
    have hG := GX.cR hG hSH hT_a0 rfl hT_a1 rfl er_3 (by decide)
    subst hQ
    exact W.vret hx hb hr (fun t1 ht hW => ⟨⟨(σ, I, J, r_3, rj, rq), rfl, ⟨r_3, rfl, hG, (cpy_eq er_3 h_2 rfl), (fun q hq => by rw [er_3, va_up_ne _ _ hq])⟩, by rw [ht]; exact hP, va_K.moved hW.alike hK, hD⟩, hS.F ht⟩) hS.2.2 dX11_copy_14
  exact go _ _ _ hP hD hS hl

set_option maxHeartbeats 4000000 in
set_option maxRecDepth 100000 in
theorem s_X9_isAt (l : Launch) (D : va_G) (t : pq_T) (σ : pq_S) (I : Nat → Nat → Int32) (J : Nat → Nat → Int64) (ri : Nat → Nat → Int32) (rj : Nat → Nat → Int64) (rq : Nat → Nat → Option Nat) (sz : Nat) (tg : Nat → Nat) (hSH : SH σ tg) (hG0 : GS tg σ I ri rq) (this : Nat) (a0 : Int32) (hL_this : this ∈ σ.1) (hK_this : σ.2.1 this = 9) (h_a0 : rg a0 0 39) : MetI l yX9_isAt (wa yX9_isAt cX9_isAt 2 (some .boolean)) ({ frames := 0, cells := 0, slots := 0, locals := 0 }) [.ref this, .int a0] D t σ (I, J, ri, rj, rq) sz 0 0 (fun (r : Int32) (u : pq_S × pq_M) => u = (σ, I, J, ri, rj, rq) ∧ ((r = 1 ∧ True) ∨ (r = 0 ∧ True))) := by
  refine Met.ofW (cc := cX9_isAt) (maxL := 2) (ret := (some .boolean)) (by decide) rfl ?_
  intro p e s m args below meth c s₁ B hml hv
  obtain ⟨rfl, hsz, hP, hK, hD0, hN⟩ := hv
  have hx := B.exec
  have hb := B.bytes
  have hr := B.returns
  have hts := atoms_spec (ws := (wa yX9_isAt cX9_isAt 2 (some .boolean))) B.pre
  have hown : s.vm.findClass RX9 = some m.cls := findClass_of_methodNamed B.named
  have hlocks := B.notSynchronized
  subst hsz
  have hD : va_D (pq_B t σ (I, J, ri, rj, rq) s.heap.size) (pq_P t σ (I, J, ri, rj, rq)) := hD0.self
  generalize hAe : pq_B t σ (I, J, ri, rj, rq) s.heap.size = A at hD ⊢
  have hA : ∀ q : Nat, s.heap.size ≤ q → A q := fun q h => by rw [← hAe]; exact Or.inr h
  have hS : va_S A s.heap s.heap [] := va_S.rf
  have hG : GX [] tg σ I ri rj I ri rj rq := ⟨hG0, fun _ _ _ => rfl, fun _ _ _ _ _ => rfl, fun _ _ _ _ _ => rfl⟩
  have hl := lv_entry ([.ref this, .int a0]) (n := 2) (Nat.le_of_ble_eq_true rfl)
  rw [lg_entry_eq]
  generalize (lg_sl ([.ref this, .int a0]) ++ List.replicate (2 - (lg_sl ([.ref this, .int a0])).length) Slot.unset).toArray = ls at hl ⊢
  have hl : lv_has ls 2 [(0, .ref this), (1, .int a0)] := hl
  refine q_gen (fun Q hQ => ?_)
  have go : ∀ (H : Heap) (locs : List Loc) (ls : Array Slot), va_P D vwCl (pq_P t σ (I, J, ri, rj, rq)) H → va_D A (pq_P t σ (I, J, ri, rj, rq)) → va_S A s.heap H locs → lv_has ls 2 [(0, .ref this), (1, .int a0)] → W p l e ({ frames := 0, cells := 0, slots := 0, locals := 0 } : Room) s m (List.toArray ([.ref this, .int a0] : List Value)) below meth c H locs 0 0 Q (F0 m 0 ls []) := by
    intro H locs ls hP hD hS hl
    refine lv_aload_n hx hb dX9_isAt_0 rfl (lv_at hl 0 rfl) ?_
    obtain ⟨w_1, hR_w_1, hL_w_1, hK_w_1, hN_w_1, hT_w_1⟩ := sh_a hSH 288 (ci := 9) (kd := 13) (len := 40) rfl (by decide) hL_this hK_this
    refine pg_f (v := .ref w_1) (C := RX9) (T := TX9) (N := 3) hx hb hts (tw_i inlX9) hown hK hP hL_this hK_this (by decide) rfl 0 (by decide) (hts _ (tw_c tw_104)) (pq_hv rfl hR_w_1) dX9_isAt_1 ?_
    refine lv_iload_n hx hb dX9_isAt_4 rfl (lv_at hl 1 rfl) ?_
    refine pl_i hx hb hK hP hL_w_1 hK_w_1 hN_w_1 (rg_in h_a0 (by decide)) dX9_isAt_5 ?_
    refine lv_topi (fun x_2 ex_2 => ?_)
    refine lv_if_le (tgt := 13) hx hb dX9_isAt_6 (by decide) (fun c_3 => ?_) (fun c_3 => ?_)
    · have h_4 : rg x_2 (-2147483648) 0 := rg_le1 c_3 (rg_full _) (rg_k (0 : Int32) 0 rfl) (by decide)
      refine lv_iconst (v := 0) hx hb dX9_isAt_13 (by decide) ?_
      subst hQ
      exact W.zret (v := 0) hx hb hr (by decide) (fun t1 ht hW => ⟨⟨0, (σ, I, J, ri, rj, rq), rfl, ⟨rfl, (Or.inr ⟨rfl, trivial⟩)⟩, by rw [ht]; exact hP, va_K.moved hW.alike hK, hD⟩, hS.F ht⟩) hS.2.2 dX9_isAt_14
    · have h_5 : rg x_2 1 2147483647 := rg_lt2 (nle c_3) (rg_k (0 : Int32) 0 rfl) (rg_full _) (by decide)
      refine lv_iconst (v := 1) hx hb dX9_isAt_9 (by decide) ?_
      refine lv_goto (tgt := 14) hx hb dX9_isAt_10 (by decide) ?_
      subst hQ
      exact W.zret (v := 1) hx hb hr (by decide) (fun t1 ht hW => ⟨⟨1, (σ, I, J, ri, rj, rq), rfl, ⟨rfl, (Or.inl ⟨rfl, trivial⟩)⟩, by rw [ht]; exact hP, va_K.moved hW.alike hK, hD⟩, hS.F ht⟩) hS.2.2 dX9_isAt_14
  exact go _ _ _ hP hD hS hl

set_option maxHeartbeats 4000000 in
set_option maxRecDepth 100000 in
theorem s_X9_isSweet (l : Launch) (D : va_G) (t : pq_T) (σ : pq_S) (I : Nat → Nat → Int32) (J : Nat → Nat → Int64) (ri : Nat → Nat → Int32) (rj : Nat → Nat → Int64) (rq : Nat → Nat → Option Nat) (sz : Nat) (tg : Nat → Nat) (hSH : SH σ tg) (hG0 : GS tg σ I ri rq) (this : Nat) (a0 : Int32) (hL_this : this ∈ σ.1) (hK_this : σ.2.1 this = 9) (h_a0 : rg a0 0 39) : MetI l yX9_isSweet (wa yX9_isSweet cX9_isSweet 2 (some .boolean)) ({ frames := 1, cells := 0, slots := 0, locals := 21 }) [.ref this, .int a0] D t σ (I, J, ri, rj, rq) sz 0 0 (fun (r : Int32) (u : pq_S × pq_M) => u = (σ, I, J, ri, rj, rq) ∧ ((r = 1 ∧ True) ∨ (r = 0 ∧ True))) := by
  refine Met.ofW (cc := cX9_isSweet) (maxL := 2) (ret := (some .boolean)) (by decide) rfl ?_
  intro p e s m args below meth c s₁ B hml hv
  obtain ⟨rfl, hsz, hP, hK, hD0, hN⟩ := hv
  have hx := B.exec
  have hb := B.bytes
  have hr := B.returns
  have hts := atoms_spec (ws := (wa yX9_isSweet cX9_isSweet 2 (some .boolean))) B.pre
  have hown : s.vm.findClass RX9 = some m.cls := findClass_of_methodNamed B.named
  have hlocks := B.notSynchronized
  subst hsz
  have hD : va_D (pq_B t σ (I, J, ri, rj, rq) s.heap.size) (pq_P t σ (I, J, ri, rj, rq)) := hD0.self
  generalize hAe : pq_B t σ (I, J, ri, rj, rq) s.heap.size = A at hD ⊢
  have hA : ∀ q : Nat, s.heap.size ≤ q → A q := fun q h => by rw [← hAe]; exact Or.inr h
  have hS : va_S A s.heap s.heap [] := va_S.rf
  have hG : GX [] tg σ I ri rj I ri rj rq := ⟨hG0, fun _ _ _ => rfl, fun _ _ _ _ _ => rfl, fun _ _ _ _ _ => rfl⟩
  have hl := lv_entry ([.ref this, .int a0]) (n := 2) (Nat.le_of_ble_eq_true rfl)
  rw [lg_entry_eq]
  generalize (lg_sl ([.ref this, .int a0]) ++ List.replicate (2 - (lg_sl ([.ref this, .int a0])).length) Slot.unset).toArray = ls at hl ⊢
  have hl : lv_has ls 2 [(0, .ref this), (1, .int a0)] := hl
  refine q_gen (fun Q hQ => ?_)
  have go : ∀ (H : Heap) (locs : List Loc) (ls : Array Slot), va_P D vwCl (pq_P t σ (I, J, ri, rj, rq)) H → va_D A (pq_P t σ (I, J, ri, rj, rq)) → va_S A s.heap H locs → lv_has ls 2 [(0, .ref this), (1, .int a0)] → W p l e ({ frames := 1, cells := 0, slots := 0, locals := 21 } : Room) s m (List.toArray ([.ref this, .int a0] : List Value)) below meth c H locs 0 0 Q (F0 m 0 ls []) := by
    intro H locs ls hP hD hS hl
    refine lv_aload_n hx hb dX9_isSweet_0 rfl (lv_at hl 0 rfl) ?_
    refine lv_iload_n hx hb dX9_isSweet_1 rfl (lv_at hl 1 rfl) ?_
    refine pk_i (va_runV (As := [.int a0]) (rest := []) ⟨hx, hb, hml, hown, hts⟩ (s_X9_isAt l D t σ I J ri rj rq H.size tg hSH hG.1 this a0 hL_this hK_this (rg_w h_a0 (by decide))) (cwV 1 hts (tw_V tw_1089 tw_350 tw_351 tw_94 tw_352) rfl rfl rfl cv_yX9_isAt_1 ⟨Nat.le_of_ble_eq_true rfl, Nat.le_of_ble_eq_true rfl⟩) ⟨pq_blind, pq_recv hK hP hL_this hK_this (by decide) rfl, pq_pre hK hN hP hD⟩ rfl rfl hl.1 rfl (lv_room (Nat.le_of_ble_eq_true rfl)) dX9_isSweet_2 ⟨Nat.le_of_ble_eq_true rfl, Nat.le_of_ble_eq_true rfl⟩) hD hS hA (fun x_1 σ1 μ1 H locs hw_2 hP hD hS => ?_)
    obtain ⟨hu_3, hr_5⟩ := hw_2
    obtain ⟨hu_3a, hu_3b⟩ := Prod.mk.inj hu_3
    rw [hu_3a, hu_3b] at hP hD
    have h_6 : rg x_1 0 1 := by rcases hr_5 with ⟨q, -⟩ | ⟨q, -⟩ <;> rw [q] <;> exact ⟨by decide, by decide⟩
    have K_20 : ∀  (H : Heap) (locs : List Loc) (ls : Array Slot), GX [] tg σ I ri rj I ri rj rq → va_P D vwCl (pq_P t σ (I, J, ri, rj, rq)) H → va_D A (pq_P t σ (I, J, ri, rj, rq)) → va_S A s.heap H locs → lv_has ls 2 [] → W p l e ({ frames := 1, cells := 0, slots := 0, locals := 21 } : Room) s m (List.toArray ([.ref this, .int a0] : List Value)) below meth c H locs 0 0 Q (F0 m 34 ls []) := by
      intro H locs ls hG hP hD hS hl
      refine lv_iconst (v := 0) hx hb dX9_isSweet_34 (by decide) ?_
      subst hQ
      exact W.zret (v := 0) hx hb hr (by decide) (fun t1 ht hW => ⟨⟨0, (σ, I, J, ri, rj, rq), rfl, ⟨rfl, (Or.inr ⟨rfl, trivial⟩)⟩, by rw [ht]; exact hP, va_K.moved hW.alike hK, hD⟩, hS.F ht⟩) hS.2.2 dX9_isSweet_35
    refine lv_if_eq (tgt := 34) hx hb dX9_isSweet_5 (by decide) (fun c_21 => ?_) (fun c_21 => ?_)
    · have h_22 : rg x_1 0 0 := rg_and h_6 (rg_of_eq c_21 (rg_k (0 : Int32) 0 rfl)) (by decide)
      exact K_20 _ _ _ hG hP hD hS (lv_sub hl [] rfl)
    · have h_23 : rg x_1 1 1 := rg_ne c_21 h_6 0 rfl (by decide)
      refine lv_aload_n hx hb dX9_isSweet_8 rfl (lv_at hl 0 rfl) ?_
      obtain ⟨w_24, hR_w_24, hL_w_24, hK_w_24, hN_w_24, hT_w_24⟩ := sh_a hSH 290 (ci := 9) (kd := 13) (len := 40) rfl (by decide) hL_this hK_this
      refine pg_f (v := .ref w_24) (C := RX9) (T := TX9) (N := 3) hx hb hts (tw_i inlX9) hown hK hP hL_this hK_this (by decide) rfl 2 (by decide) (hts _ (tw_c tw_106)) (pq_hv rfl hR_w_24) dX9_isSweet_9 ?_
      refine lv_iload_n hx hb dX9_isSweet_12 rfl (lv_at hl 1 rfl) ?_
      refine pl_i hx hb hK hP hL_w_24 hK_w_24 hN_w_24 (rg_in h_a0 (by decide)) dX9_isSweet_13 ?_
      refine lv_topi (fun x_25 ex_25 => ?_)
      refine lv_bipush (v := 20) hx hb dX9_isSweet_14 (by decide) ?_
      refine lv_icmp_gt (tgt := 34) hx hb dX9_isSweet_16 (by decide) (fun c_26 => ?_) (fun c_26 => ?_)
      · have h_27 : rg x_25 21 2147483647 := rg_lt2 c_26 (rg_k (20 : Int32) 20 rfl) (rg_full _) (by decide)
        exact K_20 _ _ _ hG hP hD hS (lv_sub hl [] rfl)
      · have h_28 : rg x_25 (-2147483648) 20 := rg_le1 (nlt c_26) (rg_full _) (rg_k (20 : Int32) 20 rfl) (by decide)
        refine lv_aload_n hx hb dX9_isSweet_19 rfl (lv_at hl 0 rfl) ?_
        obtain ⟨w_29, hR_w_29, hL_w_29, hK_w_29, hN_w_29, hT_w_29⟩ := sh_a hSH 289 (ci := 9) (kd := 13) (len := 40) rfl (by decide) hL_this hK_this
        refine pg_f (v := .ref w_29) (C := RX9) (T := TX9) (N := 3) hx hb hts (tw_i inlX9) hown hK hP hL_this hK_this (by decide) rfl 1 (by decide) (hts _ (tw_c tw_105)) (pq_hv rfl hR_w_29) dX9_isSweet_20 ?_
        refine lv_iload_n hx hb dX9_isSweet_23 rfl (lv_at hl 1 rfl) ?_
        refine pl_i hx hb hK hP hL_w_29 hK_w_29 hN_w_29 (rg_in h_a0 (by decide)) dX9_isSweet_24 ?_
        refine lv_topi (fun x_30 ex_30 => ?_)
        refine lv_bipush (v := 10) hx hb dX9_isSweet_25 (by decide) ?_
        refine lv_icmp_lt (tgt := 34) hx hb dX9_isSweet_27 (by decide) (fun c_31 => ?_) (fun c_31 => ?_)
        · have h_32 : rg x_30 (-2147483648) 9 := rg_lt1 c_31 (rg_full _) (rg_k (10 : Int32) 10 rfl) (by decide)
          exact K_20 _ _ _ hG hP hD hS (lv_sub hl [] rfl)
        · have h_33 : rg x_30 10 2147483647 := rg_le2 (nlt c_31) (rg_k (10 : Int32) 10 rfl) (rg_full _) (by decide)
          refine lv_iconst (v := 1) hx hb dX9_isSweet_30 (by decide) ?_
          refine lv_goto (tgt := 35) hx hb dX9_isSweet_31 (by decide) ?_
          subst hQ
          exact W.zret (v := 1) hx hb hr (by decide) (fun t1 ht hW => ⟨⟨1, (σ, I, J, ri, rj, rq), rfl, ⟨rfl, (Or.inl ⟨rfl, trivial⟩)⟩, by rw [ht]; exact hP, va_K.moved hW.alike hK, hD⟩, hS.F ht⟩) hS.2.2 dX9_isSweet_35
  exact go _ _ _ hP hD hS hl

set_option maxHeartbeats 4000000 in
set_option maxRecDepth 100000 in
theorem s_X2_sweetFrom (l : Launch) (D : va_G) (t : pq_T) (σ : pq_S) (I : Nat → Nat → Int32) (J : Nat → Nat → Int64) (ri : Nat → Nat → Int32) (rj : Nat → Nat → Int64) (rq : Nat → Nat → Option Nat) (sz : Nat) (tg : Nat → Nat) (hSH : SH σ tg) (hG0 : GS tg σ I ri rq) (this : Nat) (a0 : Int32) (hL_this : this ∈ σ.1) (hK_this : σ.2.1 this = 2) (h_a0 : rg a0 (-1) 39) : MetI l yX2_sweetFrom (wa yX2_sweetFrom cX2_sweetFrom 4 (some .int)) ({ frames := 2, cells := 0, slots := 0, locals := 42 }) [.ref this, .int a0] D t σ (I, J, ri, rj, rq) sz 0 0 (fun (r : Int32) (u : pq_S × pq_M) => u = (σ, I, J, ri, rj, rq) ∧ rg r (-1) 39) := by
  refine Met.ofW (cc := cX2_sweetFrom) (maxL := 4) (ret := (some .int)) (by decide) rfl ?_
  intro p e s m args below meth c s₁ B hml hv
  obtain ⟨rfl, hsz, hP, hK, hD0, hN⟩ := hv
  have hx := B.exec
  have hb := B.bytes
  have hr := B.returns
  have hts := atoms_spec (ws := (wa yX2_sweetFrom cX2_sweetFrom 4 (some .int))) B.pre
  have hown : s.vm.findClass RX2 = some m.cls := findClass_of_methodNamed B.named
  have hlocks := B.notSynchronized
  subst hsz
  have hD : va_D (pq_B t σ (I, J, ri, rj, rq) s.heap.size) (pq_P t σ (I, J, ri, rj, rq)) := hD0.self
  generalize hAe : pq_B t σ (I, J, ri, rj, rq) s.heap.size = A at hD ⊢
  have hA : ∀ q : Nat, s.heap.size ≤ q → A q := fun q h => by rw [← hAe]; exact Or.inr h
  have hS : va_S A s.heap s.heap [] := va_S.rf
  have hG : GX [] tg σ I ri rj I ri rj rq := ⟨hG0, fun _ _ _ => rfl, fun _ _ _ _ _ => rfl, fun _ _ _ _ _ => rfl⟩
  have hl := lv_entry ([.ref this, .int a0]) (n := 4) (Nat.le_of_ble_eq_true rfl)
  rw [lg_entry_eq]
  generalize (lg_sl ([.ref this, .int a0]) ++ List.replicate (4 - (lg_sl ([.ref this, .int a0])).length) Slot.unset).toArray = ls at hl ⊢
  have hl : lv_has ls 4 [(0, .ref this), (1, .int a0)] := hl
  refine q_gen (fun Q hQ => ?_)
  have go : ∀ (H : Heap) (locs : List Loc) (ls : Array Slot), va_P D vwCl (pq_P t σ (I, J, ri, rj, rq)) H → va_D A (pq_P t σ (I, J, ri, rj, rq)) → va_S A s.heap H locs → lv_has ls 4 [(0, .ref this), (1, .int a0)] → W p l e ({ frames := 2, cells := 0, slots := 0, locals := 42 } : Room) s m (List.toArray ([.ref this, .int a0] : List Value)) below meth c H locs 0 0 Q (F0 m 0 ls []) := by
    intro H locs ls hP hD hS hl
    refine lv_iload_n hx hb dX2_sweetFrom_0 rfl (lv_at hl 1 rfl) ?_
    refine lv_istore_n (lv' := [(2, .int a0), (0, .ref this), (1, .int a0)]) hx hb dX2_sweetFrom_1 rfl hl (by decide) rfl (fun ls hl => ?_)
    refine lv_iconst (v := 0) hx hb dX2_sweetFrom_2 (by decide) ?_
    refine lv_istore_n (lv' := [(3, .int 0), (2, .int a0), (0, .ref this), (1, .int a0)]) hx hb dX2_sweetFrom_3 rfl hl (by decide) rfl (fun ls hl => ?_)
    have L_337 : ∀ (n_336 : Nat) (x_309 : Int32) (x_310 : Int32) (H : Heap) (locs : List Loc) (ls : Array Slot), rg x_309 (-1) 39 → rg x_310 0 40 → (40 - (x_310).toInt).toNat < n_336 → GX [] tg σ I ri rj I ri rj rq → va_P D vwCl (pq_P t σ (I, J, ri, rj, rq)) H → va_D A (pq_P t σ (I, J, ri, rj, rq)) → va_S A s.heap H locs → lv_has ls 4 [(0, .ref this), (2, .int x_309), (3, .int x_310)] → W p l e ({ frames := 2, cells := 0, slots := 0, locals := 42 } : Room) s m (List.toArray ([.ref this, .int a0] : List Value)) below meth c H locs 0 0 Q (F0 m 4 ls []) := by
      intro n_336
      induction n_336 with
      | zero => intro x_309 x_310 H locs ls h_341 h_342 hm_335 hG hP hD hS hl; exact absurd hm_335 (Nat.not_lt_zero _)
      | succ n_336 ih_338 =>
        intro x_309 x_310 H locs ls h_341 h_342 hm_335 hG hP hD hS hl
        refine lv_iload_n hx hb dX2_sweetFrom_4 rfl (lv_at hl 2 rfl) ?_
        refine lv_aload_n hx hb dX2_sweetFrom_5 rfl (lv_at hl 0 rfl) ?_
        refine pg_f (v := .int (I 65 this)) (C := RX2) (T := TX2) (N := 20) hx hb hts (tw_i inlX2) hown hK hP hL_this hK_this (by decide) rfl 1 (by decide) (hts _ (tw_c tw_222)) rfl dX2_sweetFrom_6 ?_
        have h_343 : rg (I 65 this) 0 40 := GX.rI hG 65 rfl
        have K_365 : ∀  (H : Heap) (locs : List Loc) (ls : Array Slot), GX [] tg σ I ri rj I ri rj rq → va_P D vwCl (pq_P t σ (I, J, ri, rj, rq)) H → va_D A (pq_P t σ (I, J, ri, rj, rq)) → va_S A s.heap H locs → lv_has ls 4 [(2, .int x_309)] → W p l e ({ frames := 2, cells := 0, slots := 0, locals := 42 } : Room) s m (List.toArray ([.ref this, .int a0] : List Value)) below meth c H locs 0 0 Q (F0 m 41 ls []) := by
          intro H locs ls hG hP hD hS hl
          refine lv_iload_n hx hb dX2_sweetFrom_41 rfl (lv_at hl 0 rfl) ?_
          subst hQ
          exact W.iret (v := x_309) hx hb hr (fun t1 ht hW => ⟨⟨x_309, (σ, I, J, ri, rj, rq), rfl, ⟨rfl, (rg_w h_341 (by decide))⟩, by rw [ht]; exact hP, va_K.moved hW.alike hK, hD⟩, hS.F ht⟩) hS.2.2 dX2_sweetFrom_42
        refine lv_icmp_ge (tgt := 41) hx hb dX2_sweetFrom_9 (by decide) (fun c_366 => ?_) (fun c_366 => ?_)
        · exact K_365 _ _ _ hG hP hD hS (lv_sub hl [1] rfl)
        · have h_367 : rg x_310 0 39 := rg_lt1 (nle c_366) h_342 h_343 (by decide)
          have h_368 : rg (I 65 this) 1 40 := rg_lt2 (nle c_366) h_342 h_343 (by decide)
          refine lv_iload_n hx hb dX2_sweetFrom_12 rfl (lv_at hl 1 rfl) ?_
          refine lv_iconst (v := (-1)) hx hb dX2_sweetFrom_13 (by decide) ?_
          refine lv_icmp_eq (tgt := 41) hx hb dX2_sweetFrom_14 (by decide) (fun c_369 => ?_) (fun c_369 => ?_)
          · have h_370 : rg x_309 (-1) (-1) := rg_and h_341 (rg_of_eq c_369 (rg_k (-1 : Int32) (-1) rfl)) (by decide)
            exact K_365 _ _ _ hG hP hD hS (lv_sub hl [1] rfl)
          · have h_371 : rg x_309 0 39 := rg_ne c_369 h_341 (-1) rfl (by decide)
            refine lv_aload_n hx hb dX2_sweetFrom_17 rfl (lv_at hl 0 rfl) ?_
            obtain ⟨w_372, hR_w_372, hL_w_372, hK_w_372⟩ := sh_o hSH 78 (ci := 2) (kd := 9) rfl hL_this hK_this
            refine pg_f (v := .ref w_372) (C := RX2) (T := TX2) (N := 20) hx hb hts (tw_i inlX2) hown hK hP hL_this hK_this (by decide) rfl 14 (by decide) (hts _ (tw_c tw_95)) (pq_hv rfl hR_w_372) dX2_sweetFrom_18 ?_
            refine lv_iload_n hx hb dX2_sweetFrom_21 rfl (lv_at hl 1 rfl) ?_
            refine pk_i (va_runV (As := [.int x_309]) (rest := []) ⟨hx, hb, hml, hown, hts⟩ (s_X9_isSweet l D t σ I J ri rj rq H.size tg hSH hG.1 w_372 x_309 hL_w_372 hK_w_372 (rg_w h_371 (by decide))) (cwV 1 hts (tw_V tw_1116 tw_1117 tw_1118 tw_94 tw_1119) rfl rfl rfl cv_yX9_isSweet_1 ⟨Nat.le_of_ble_eq_true rfl, Nat.le_of_ble_eq_true rfl⟩) ⟨pq_blind, pq_recv hK hP hL_w_372 hK_w_372 (by decide) rfl, pq_pre hK hN hP hD⟩ rfl rfl hl.1 rfl (lv_room (Nat.le_of_ble_eq_true rfl)) dX2_sweetFrom_22 ⟨Nat.le_of_ble_eq_true rfl, Nat.le_of_ble_eq_true rfl⟩) hD hS hA (fun x_373 σ1 μ1 H locs hw_374 hP hD hS => ?_)
            obtain ⟨hu_375, hr_377⟩ := hw_374
            obtain ⟨hu_375a, hu_375b⟩ := Prod.mk.inj hu_375
            rw [hu_375a, hu_375b] at hP hD
            have h_378 : rg x_373 0 1 := by rcases hr_377 with ⟨q, -⟩ | ⟨q, -⟩ <;> rw [q] <;> exact ⟨by decide, by decide⟩
            refine lv_if_ne (tgt := 41) hx hb dX2_sweetFrom_25 (by decide) (fun c_379 => ?_) (fun c_379 => ?_)
            · have h_380 : rg x_373 1 1 := rg_ne c_379 h_378 0 rfl (by decide)
              exact K_365 _ _ _ hG hP hD hS (lv_sub hl [1] rfl)
            · have h_381 : rg x_373 0 0 := rg_and h_378 (rg_of_eq c_379 (rg_k (0 : Int32) 0 rfl)) (by decide)
              refine lv_aload_n hx hb dX2_sweetFrom_28 rfl (lv_at hl 0 rfl) ?_
              obtain ⟨w_382, hR_w_382, hL_w_382, hK_w_382, hN_w_382, hT_w_382⟩ := sh_a hSH 79 (ci := 2) (kd := 13) (len := 40) rfl (by decide) hL_this hK_this
              refine pg_f (v := .ref w_382) (C := RX2) (T := TX2) (N := 20) hx hb hts (tw_i inlX2) hown hK hP hL_this hK_this (by decide) rfl 15 (by decide) (hts _ (tw_c tw_96)) (pq_hv rfl hR_w_382) dX2_sweetFrom_29 ?_
              refine lv_iload_n hx hb dX2_sweetFrom_32 rfl (lv_at hl 1 rfl) ?_
              refine pl_i hx hb hK hP hL_w_382 hK_w_382 hN_w_382 (rg_in h_371 (by decide)) dX2_sweetFrom_33 ?_
              refine lv_topi (fun x_383 ex_383 => ?_)
              have h_384 : rg x_383 (-1) 39 := rg_of_eq ex_383 (GX.rR hG hT_w_382 rfl)
              refine lv_istore_n (lv' := [(2, .int x_383), (0, .ref this), (3, .int x_310)]) hx hb dX2_sweetFrom_34 rfl hl (by decide) rfl (fun ls hl => ?_)
              obtain ⟨x_385, ex_385⟩ : ∃ y : Int32, y = x_310 + Int32.ofInt 1 := ⟨_, rfl⟩
              have h_386 : rg x_385 1 40 := rg_of_eq ex_385 (rg_add h_367 (rg_k (Int32.ofInt 1) 1 rfl) (by decide))
              refine lv_iinc (v := x_385) (lv' := [(3, .int x_385), (2, .int x_383), (0, .ref this)]) hx hb dX2_sweetFrom_35 hl (k := 2) rfl ex_385.symm (by decide) rfl (fun ls hl => ?_)
              refine lv_goto (tgt := 4) hx hb dX2_sweetFrom_38 (by decide) ?_
              exact ih_338 x_383 x_385 _ _ _ (rg_w h_384 (by decide)) (rg_w h_386 (by decide)) (ms_up 1 hm_335 ex_385 rfl (by decide) h_367 (by decide) (by decide)) hG hP hD hS (lv_sub hl [2, 1, 0] rfl)
    exact L_337 _ a0 (0 : Int32) _ _ _ (rg_w h_a0 (by decide)) (rg_w (rg_k (0 : Int32) 0 rfl) (by decide)) (Nat.lt_succ_self _) hG hP hD hS (lv_sub hl [2, 1, 0] rfl)
  exact go _ _ _ hP hD hS hl

set_option maxHeartbeats 4000000 in
set_option maxRecDepth 100000 in
theorem s_X0_drink (l : Launch) (D : va_G) (t : pq_T) (σ : pq_S) (I : Nat → Nat → Int32) (J : Nat → Nat → Int64) (ri : Nat → Nat → Int32) (rj : Nat → Nat → Int64) (rq : Nat → Nat → Option Nat) (sz : Nat) (tg : Nat → Nat) (hSH : SH σ tg) (hG0 : GS tg σ I ri rq) (this : Nat) (a0 : Nat) (hL_this : this ∈ σ.1) (hK_this : σ.2.1 this = 0) (hL_a0 : a0 ∈ σ.1) (hK_a0 : σ.2.1 a0 = 2) : MetI l yX0_drink (wa yX0_drink cX0_drink 5 (some .int)) ({ frames := 3, cells := 0, slots := 0, locals := 81 }) [.ref this, .ref a0] D t σ (I, J, ri, rj, rq) sz 0 0 (fun (r : Int32) (u : pq_S × pq_M) => ∃ ri' : Nat → Nat → Int32, u = (σ, I, J, ri', rj, rq) ∧ GX [] tg σ I ri rj I ri' rj rq) := by
  refine Met.ofW (cc := cX0_drink) (maxL := 5) (ret := (some .int)) (by decide) rfl ?_
  intro p e s m args below meth c s₁ B hml hv
  obtain ⟨rfl, hsz, hP, hK, hD0, hN⟩ := hv
  have hx := B.exec
  have hb := B.bytes
  have hr := B.returns
  have hts := atoms_spec (ws := (wa yX0_drink cX0_drink 5 (some .int))) B.pre
  have hown : s.vm.findClass RX0 = some m.cls := findClass_of_methodNamed B.named
  have hlocks := B.notSynchronized
  subst hsz
  have hD : va_D (pq_B t σ (I, J, ri, rj, rq) s.heap.size) (pq_P t σ (I, J, ri, rj, rq)) := hD0.self
  generalize hAe : pq_B t σ (I, J, ri, rj, rq) s.heap.size = A at hD ⊢
  have hA : ∀ q : Nat, s.heap.size ≤ q → A q := fun q h => by rw [← hAe]; exact Or.inr h
  have hS : va_S A s.heap s.heap [] := va_S.rf
  have hG : GX [] tg σ I ri rj I ri rj rq := ⟨hG0, fun _ _ _ => rfl, fun _ _ _ _ _ => rfl, fun _ _ _ _ _ => rfl⟩
  have hl := lv_entry ([.ref this, .ref a0]) (n := 5) (Nat.le_of_ble_eq_true rfl)
  rw [lg_entry_eq]
  generalize (lg_sl ([.ref this, .ref a0]) ++ List.replicate (5 - (lg_sl ([.ref this, .ref a0])).length) Slot.unset).toArray = ls at hl ⊢
  have hl : lv_has ls 5 [(0, .ref this), (1, .ref a0)] := hl
  refine q_gen (fun Q hQ => ?_)
  have go : ∀ (H : Heap) (locs : List Loc) (ls : Array Slot), va_P D vwCl (pq_P t σ (I, J, ri, rj, rq)) H → va_D A (pq_P t σ (I, J, ri, rj, rq)) → va_S A s.heap H locs → lv_has ls 5 [(0, .ref this), (1, .ref a0)] → W p l e ({ frames := 3, cells := 0, slots := 0, locals := 81 } : Room) s m (List.toArray ([.ref this, .ref a0] : List Value)) below meth c H locs 0 0 Q (F0 m 0 ls []) := by
    intro H locs ls hP hD hS hl
    refine lv_aload_n hx hb dX0_drink_0 rfl (lv_at hl 1 rfl) ?_
    obtain ⟨w_1, hR_w_1, hL_w_1, hK_w_1, hN_w_1, hT_w_1⟩ := sh_a hSH 80 (ci := 2) (kd := 13) (len := 5) rfl (by decide) hL_a0 hK_a0
    refine pg_f (v := .ref w_1) (C := RX2) (T := TX2) (N := 20) hx hb hts (tw_i inlX2) hown hK hP hL_a0 hK_a0 (by decide) rfl 16 (by decide) (hts _ (tw_c tw_1098)) (pq_hv rfl hR_w_1) dX0_drink_1 ?_
    refine lv_aload_n hx hb dX0_drink_4 rfl (lv_at hl 0 rfl) ?_
    obtain ⟨w_2, hR_w_2, hL_w_2, hK_w_2, hN_w_2, hT_w_2⟩ := sh_a hSH 12 (ci := 0) (kd := 13) (len := 5) rfl (by decide) hL_this hK_this
    refine pg_f (v := .ref w_2) (C := RX0) (T := TX0) (N := 16) hx hb hts (tw_i inlX0) hown hK hP hL_this hK_this (by decide) rfl 12 (by decide) (hts _ (tw_c tw_120)) (pq_hv rfl hR_w_2) dX0_drink_5 ?_
    refine pk_v (va_runSN (As := [.ref w_1, .ref w_2]) (rest := []) ⟨hx, hb, hml, hown, hts⟩ (s_X11_copy_80_12 l D t σ I J ri rj rq H.size tg hSH hG.1 w_1 w_2 hL_w_1 hK_w_1 hN_w_1 hT_w_1 hL_w_2 hK_w_2 hN_w_2 hT_w_2) ⟨va_cnB (host := "RingsUnder") 2 hts (tw_W tw_1102) rfl rfl rfl (nl_15 hN) (hts _ (tw_c tw_2)) cd_yX11_copy_2 ⟨Nat.le_of_ble_eq_true rfl, Nat.le_of_ble_eq_true rfl⟩, hts (.static yX11_copy) (tw_c tq_static_yX11_copy), trivial⟩ ⟨pq_blind, pq_pre hK hN hP hD⟩ rfl rfl hl.1 rfl (lv_room (Nat.le_of_ble_eq_true rfl)) dX0_drink_8 ⟨Nat.le_of_ble_eq_true rfl, Nat.le_of_ble_eq_true rfl⟩) hD hS hA (fun σ1 μ1 H locs hw_4 hP hD hS => ?_)
    obtain ⟨ri_5, hu_6, hg_7, hp_9, hp_10⟩ := hw_4
    obtain ⟨hu_6a, hu_6b⟩ := Prod.mk.inj hu_6
    rw [hu_6a, hu_6b] at hP hD
    have h_11 : ∀ j, j < 5 → rg (ri_5 w_2 j) (-1) 39 := fun j hj => rg_of_eq (hp_9 j hj) (GX.rR hG hT_w_1 rfl)
    have hG := GX.tr hG hg_7 (by decide)
    refine lv_iconst (v := 0) hx hb dX0_drink_11 (by decide) ?_
    refine lv_istore_n (lv' := [(2, .int 0), (0, .ref this), (1, .ref a0)]) hx hb dX0_drink_12 rfl hl (by decide) rfl (fun ls hl => ?_)
    refine lv_iconst (v := 0) hx hb dX0_drink_13 (by decide) ?_
    refine lv_istore_n (lv' := [(3, .int 0), (2, .int 0), (0, .ref this), (1, .ref a0)]) hx hb dX0_drink_14 rfl hl (by decide) rfl (fun ls hl => ?_)
    have L_1373 : ∀ (n_1372 : Nat) (x_1319 : Int32) (x_1320 : Int32) (ri_1321 : Nat → Nat → Int32) (H : Heap) (locs : List Loc) (ls : Array Slot), rg x_1320 0 40 → (∀ j, j < 5 → rg (ri_1321 w_2 j) (-1) 39) → (40 - (x_1320).toInt).toNat < n_1372 → GX [] tg σ I ri rj I ri_1321 rj rq → va_P D vwCl (pq_P t σ (I, J, ri_1321, rj, rq)) H → va_D A (pq_P t σ (I, J, ri_1321, rj, rq)) → va_S A s.heap H locs → lv_has ls 5 [(0, .ref this), (1, .ref a0), (2, .int x_1319), (3, .int x_1320)] → W p l e ({ frames := 3, cells := 0, slots := 0, locals := 81 } : Room) s m (List.toArray ([.ref this, .ref a0] : List Value)) below meth c H locs 0 0 Q (F0 m 15 ls []) := by
      intro n_1372
      induction n_1372 with
      | zero => intro x_1319 x_1320 ri_1321 H locs ls h_1377 h_1378 hm_1371 hG hP hD hS hl; exact absurd hm_1371 (Nat.not_lt_zero _)
      | succ n_1372 ih_1374 =>
        intro x_1319 x_1320 ri_1321 H locs ls h_1377 h_1378 hm_1371 hG hP hD hS hl
        refine lv_iload_n hx hb dX0_drink_15 rfl (lv_at hl 3 rfl) ?_
        refine lv_aload_n hx hb dX0_drink_16 rfl (lv_at hl 0 rfl) ?_
        refine pg_f (v := .int (I 0 this)) (C := RX0) (T := TX0) (N := 16) hx hb hts (tw_i inlX0) hown hK hP hL_this hK_this (by decide) rfl 0 (by decide) (hts _ (tw_c tw_395)) rfl dX0_drink_17 ?_
        have h_1379 : rg (I 0 this) 0 40 := GX.rI hG 0 rfl
        refine lv_icmp_ge (tgt := 104) hx hb dX0_drink_20 (by decide) (fun c_1380 => ?_) (fun c_1380 => ?_)
        · refine lv_iload_n hx hb dX0_drink_104 rfl (lv_at hl 2 rfl) ?_
          subst hQ
          exact W.iret (v := x_1319) hx hb hr (fun t1 ht hW => ⟨⟨x_1319, (σ, I, J, ri_1321, rj, rq), rfl, ⟨ri_1321, rfl, hG⟩, by rw [ht]; exact hP, va_K.moved hW.alike hK, hD⟩, hS.F ht⟩) hS.2.2 dX0_drink_105
        · have h_1381 : rg x_1320 0 39 := rg_lt1 (nle c_1380) h_1377 h_1379 (by decide)
          have h_1382 : rg (I 0 this) 1 40 := rg_lt2 (nle c_1380) h_1377 h_1379 (by decide)
          refine lv_aload_n hx hb dX0_drink_23 rfl (lv_at hl 0 rfl) ?_
          refine lv_iload_n hx hb dX0_drink_24 rfl (lv_at hl 3 rfl) ?_
          obtain ⟨w_1383, hR_w_1383, hL_w_1383, hK_w_1383, hN_w_1383, hT_w_1383⟩ := sh_a hSH 5 (ci := 0) (kd := 13) (len := 40) rfl (by decide) hL_this hK_this
          refine pk_i (va_runV (As := [.int x_1320]) (rest := []) ⟨hx, hb, hml, hown, hts⟩ (s_X0_isOnRing l D t σ I J ri_1321 rj rq H.size tg hSH hG.1 this x_1320 hL_this hK_this (rg_w h_1381 (by decide)) w_1383 hR_w_1383 hL_w_1383 hK_w_1383 hN_w_1383 hT_w_1383) (cwV 1 hts (tw_V tw_1108 tw_1109 tw_1110 tw_45 tw_1111) rfl rfl rfl cv_yX0_isOnRing_1 ⟨Nat.le_of_ble_eq_true rfl, Nat.le_of_ble_eq_true rfl⟩) ⟨pq_blind, pq_recv hK hP hL_this hK_this (by decide) rfl, pq_pre hK hN hP hD⟩ rfl rfl hl.1 rfl (lv_room (Nat.le_of_ble_eq_true rfl)) dX0_drink_25 ⟨Nat.le_of_ble_eq_true rfl, Nat.le_of_ble_eq_true rfl⟩) hD hS hA (fun x_1384 σ1 μ1 H locs hw_1385 hP hD hS => ?_)
          obtain ⟨hu_1386, hr_1388⟩ := hw_1385
          obtain ⟨hu_1386a, hu_1386b⟩ := Prod.mk.inj hu_1386
          rw [hu_1386a, hu_1386b] at hP hD
          have h_1389 : rg x_1384 0 1 := by rcases hr_1388 with ⟨q, -⟩ | ⟨q, -⟩ <;> rw [q] <;> exact ⟨by decide, by decide⟩
          have K_1426 : ∀  (x_1421 : Int32) (ri_1422 : Nat → Nat → Int32) (H : Heap) (locs : List Loc) (ls : Array Slot), (∀ j, j < 5 → rg (ri_1422 w_2 j) (-1) 39) → GX [] tg σ I ri rj I ri_1422 rj rq → va_P D vwCl (pq_P t σ (I, J, ri_1422, rj, rq)) H → va_D A (pq_P t σ (I, J, ri_1422, rj, rq)) → va_S A s.heap H locs → lv_has ls 5 [(0, .ref this), (1, .ref a0), (2, .int x_1421), (3, .int x_1320)] → W p l e ({ frames := 3, cells := 0, slots := 0, locals := 81 } : Room) s m (List.toArray ([.ref this, .ref a0] : List Value)) below meth c H locs 0 0 Q (F0 m 98 ls []) := by
            intro x_1421 ri_1422 H locs ls h_1428 hG hP hD hS hl
            obtain ⟨x_1429, ex_1429⟩ : ∃ y : Int32, y = x_1320 + Int32.ofInt 1 := ⟨_, rfl⟩
            have h_1430 : rg x_1429 1 40 := rg_of_eq ex_1429 (rg_add h_1381 (rg_k (Int32.ofInt 1) 1 rfl) (by decide))
            refine lv_iinc (v := x_1429) (lv' := [(3, .int x_1429), (0, .ref this), (1, .ref a0), (2, .int x_1421)]) hx hb dX0_drink_98 hl (k := 3) rfl ex_1429.symm (by decide) rfl (fun ls hl => ?_)
            refine lv_goto (tgt := 15) hx hb dX0_drink_101 (by decide) ?_
            exact ih_1374 x_1421 x_1429 ri_1422 _ _ _ (rg_w h_1430 (by decide)) h_1428 (ms_up 1 hm_1371 ex_1429 rfl (by decide) h_1381 (by decide) (by decide)) hG hP hD hS (lv_sub hl [1, 2, 3, 0] rfl)
          refine lv_if_eq (tgt := 98) hx hb dX0_drink_28 (by decide) (fun c_1431 => ?_) (fun c_1431 => ?_)
          · have f_1432 := (hr_1388.resolve_left (fun q => absurd (q.1.symm.trans c_1431) (by decide))).2
            have h_1433 : rg x_1384 0 0 := rg_and h_1389 (rg_of_eq c_1431 (rg_k (0 : Int32) 0 rfl)) (by decide)
            exact K_1426 x_1319 ri_1321 _ _ _ h_1378 hG hP hD hS (lv_sub hl [0, 1, 2, 3] rfl)
          · have f_1434 := (hr_1388.resolve_right (fun q => c_1431 q.1)).2
            have h_1435 : rg x_1384 1 1 := rg_ne c_1431 h_1389 0 rfl (by decide)
            refine lv_aload_n hx hb dX0_drink_31 rfl (lv_at hl 1 rfl) ?_
            refine lv_aload_n hx hb dX0_drink_32 rfl (lv_at hl 0 rfl) ?_
            refine pg_f (v := .ref w_2) (C := RX0) (T := TX0) (N := 16) hx hb hts (tw_i inlX0) hown hK hP hL_this hK_this (by decide) rfl 12 (by decide) (hts _ (tw_c tw_120)) (pq_hv rfl hR_w_2) dX0_drink_33 ?_
            refine lv_aload_n hx hb dX0_drink_36 rfl (lv_at hl 0 rfl) ?_
            refine pg_f (v := .ref w_1383) (C := RX0) (T := TX0) (N := 16) hx hb hts (tw_i inlX0) hown hK hP hL_this hK_this (by decide) rfl 5 (by decide) (hts _ (tw_c tw_114)) (pq_hv rfl hR_w_1383) dX0_drink_37 ?_
            refine lv_iload_n hx hb dX0_drink_40 rfl (lv_at hl 3 rfl) ?_
            refine pl_i hx hb hK hP hL_w_1383 hK_w_1383 hN_w_1383 (rg_in h_1381 (by decide)) dX0_drink_41 ?_
            refine lv_topi (fun x_1436 ex_1436 => ?_)
            have h_1437 : rg x_1436 0 4 := rg_of_eq ex_1436 (f_1434)
            refine pl_i hx hb hK hP hL_w_2 hK_w_2 hN_w_2 (rg_in h_1437 (by decide)) dX0_drink_42 ?_
            refine lv_topi (fun x_1438 ex_1438 => ?_)
            have h_1439 : rg x_1438 (-1) 39 := rg_of_eq ex_1438 ((h_1378 _ (rg_cl1 h_1437 (by decide))))
            refine pk_i (va_runV (As := [.int x_1438]) (rest := []) ⟨hx, hb, hml, hown, hts⟩ (s_X2_sweetFrom l D t σ I J ri_1321 rj rq H.size tg hSH hG.1 a0 x_1438 hL_a0 hK_a0 (rg_w h_1439 (by decide))) (cwV 1 hts (tw_V tw_1112 tw_1113 tw_1114 tw_41 tw_1115) rfl rfl rfl cv_yX2_sweetFrom_1 ⟨Nat.le_of_ble_eq_true rfl, Nat.le_of_ble_eq_true rfl⟩) ⟨pq_blind, pq_recv hK hP hL_a0 hK_a0 (by decide) rfl, pq_pre hK hN hP hD⟩ rfl rfl hl.1 rfl (lv_room (Nat.le_of_ble_eq_true rfl)) dX0_drink_43 ⟨Nat.le_of_ble_eq_true rfl, Nat.le_of_ble_eq_true rfl⟩) hD hS hA (fun x_1440 σ1 μ1 H locs hw_1441 hP hD hS => ?_)
            obtain ⟨hu_1442, hr_1444⟩ := hw_1441
            obtain ⟨hu_1442a, hu_1442b⟩ := Prod.mk.inj hu_1442
            rw [hu_1442a, hu_1442b] at hP hD
            refine lv_istore (lv' := [(4, .int x_1440), (0, .ref this), (1, .ref a0), (2, .int x_1319), (3, .int x_1320)]) hx hb dX0_drink_46 hl (by decide) rfl (fun ls hl => ?_)
            refine lv_aload_n hx hb dX0_drink_48 rfl (lv_at hl 1 rfl) ?_
            refine pg_f (v := .ref w_2) (C := RX0) (T := TX0) (N := 16) hx hb hts (tw_i inlX0) hown hK hP hL_this hK_this (by decide) rfl 12 (by decide) (hts _ (tw_c tw_120)) (pq_hv rfl hR_w_2) dX0_drink_49 ?_
            refine lv_aload_n hx hb dX0_drink_52 rfl (lv_at hl 1 rfl) ?_
            refine pg_f (v := .ref w_1383) (C := RX0) (T := TX0) (N := 16) hx hb hts (tw_i inlX0) hown hK hP hL_this hK_this (by decide) rfl 5 (by decide) (hts _ (tw_c tw_114)) (pq_hv rfl hR_w_1383) dX0_drink_53 ?_
            refine lv_iload_n hx hb dX0_drink_56 rfl (lv_at hl 4 rfl) ?_
            refine pl_i hx hb hK hP hL_w_1383 hK_w_1383 hN_w_1383 (rg_in h_1381 (by decide)) dX0_drink_57 ?_
            refine lv_tov x_1436 ex_1436.symm ?_
            refine lv_iload hx hb dX0_drink_58 (lv_at hl 0 rfl) ?_
            refine pt_i hx hb hK hP hD hS hL_w_2 hK_w_2 hN_w_2 (rg_in h_1437 (by decide)) dX0_drink_60 (fun r_1445 H locs er_1445 hP hD hS => ?_)
            have hG := GX.wR hG hSH hT_w_2 rfl er_1445 (rg_w hr_1444 (by decide)) (by decide)
            have h_1446 : ∀ j, j < 5 → rg (r_1445 w_2 j) (-1) 39 := rp_w h_1378 er_1445 (rg_w hr_1444 (by decide))
            refine lv_iload hx hb dX0_drink_61 (lv_at hl 0 rfl) ?_
            refine lv_iconst (v := (-1)) hx hb dX0_drink_63 (by decide) ?_
            refine lv_icmp_ne (tgt := 83) hx hb dX0_drink_64 (by decide) (fun c_1447 => ?_) (fun c_1447 => ?_)
            · have h_1448 : rg x_1440 0 39 := rg_ne c_1447 hr_1444 (-1) rfl (by decide)
              refine lv_aload_n hx hb dX0_drink_83 rfl (lv_at hl 2 rfl) ?_
              obtain ⟨w_1449, hR_w_1449, hL_w_1449, hK_w_1449⟩ := sh_o hSH 78 (ci := 2) (kd := 9) rfl hL_a0 hK_a0
              refine pg_f (v := .ref w_1449) (C := RX2) (T := TX2) (N := 20) hx hb hts (tw_i inlX2) hown hK hP hL_a0 hK_a0 (by decide) rfl 14 (by decide) (hts _ (tw_c tw_1099)) (pq_hv rfl hR_w_1449) dX0_drink_84 ?_
              obtain ⟨w_1450, hR_w_1450, hL_w_1450, hK_w_1450, hN_w_1450, hT_w_1450⟩ := sh_a hSH 289 (ci := 9) (kd := 13) (len := 40) rfl (by decide) hL_w_1449 hK_w_1449
              refine pg_f (v := .ref w_1450) (C := RX9) (T := TX9) (N := 3) hx hb hts (tw_i inlX9) hown hK hP hL_w_1449 hK_w_1449 (by decide) rfl 1 (by decide) (hts _ (tw_c tw_1100)) (pq_hv rfl hR_w_1450) dX0_drink_87 ?_
              refine lv_iload hx hb dX0_drink_90 (lv_at hl 0 rfl) ?_
              refine lv_dup2_11 hx hb dX0_drink_92 rfl rfl ?_
              refine pl_i hx hb hK hP hL_w_1450 hK_w_1450 hN_w_1450 (rg_in h_1448 (by decide)) dX0_drink_93 ?_
              refine lv_topi (fun x_1451 ex_1451 => ?_)
              refine lv_bipush (v := 10) hx hb dX0_drink_94 (by decide) ?_
              refine lv_isub hx hb dX0_drink_96 ?_
              refine lv_topi (fun x_1452 ex_1452 => ?_)
              refine pt_i hx hb hK hP hD hS hL_w_1450 hK_w_1450 hN_w_1450 (rg_in h_1448 (by decide)) dX0_drink_97 (fun r_1453 H locs er_1453 hP hD hS => ?_)
              have hG := GX.wR hG hSH hT_w_1450 rfl er_1453 (rg_w (rg_full _) (by decide)) (by decide)
              have h_1454 : ∀ j, j < 5 → rg (r_1453 w_2 j) (-1) 39 := rp_o h_1446 er_1453 (tg_ne hT_w_2 hT_w_1450 (by decide))
              exact K_1426 x_1319 r_1453 _ _ _ h_1454 hG hP hD hS (lv_sub hl [1, 2, 3, 4] rfl)
            · have h_1455 : rg x_1440 (-1) (-1) := rg_and hr_1444 (rg_of_eq c_1447 (rg_k (-1 : Int32) (-1) rfl)) (by decide)
              refine lv_aload_n hx hb dX0_drink_67 rfl (lv_at hl 1 rfl) ?_
              obtain ⟨w_1456, hR_w_1456, hL_w_1456, hK_w_1456, hN_w_1456, hT_w_1456⟩ := sh_a hSH 6 (ci := 0) (kd := 13) (len := 40) rfl (by decide) hL_this hK_this
              refine pg_f (v := .ref w_1456) (C := RX0) (T := TX0) (N := 16) hx hb hts (tw_i inlX0) hown hK hP hL_this hK_this (by decide) rfl 6 (by decide) (hts _ (tw_c tw_115)) (pq_hv rfl hR_w_1456) dX0_drink_68 ?_
              refine lv_iload_n hx hb dX0_drink_71 rfl (lv_at hl 4 rfl) ?_
              refine lv_dup2_11 hx hb dX0_drink_72 rfl rfl ?_
              refine pl_i hx hb hK hP hL_w_1456 hK_w_1456 hN_w_1456 (rg_in h_1381 (by decide)) dX0_drink_73 ?_
              refine lv_topi (fun x_1457 ex_1457 => ?_)
              refine lv_iconst (v := 1) hx hb dX0_drink_74 (by decide) ?_
              refine lv_iadd hx hb dX0_drink_75 ?_
              refine lv_topi (fun x_1458 ex_1458 => ?_)
              refine pt_i hx hb hK hP hD hS hL_w_1456 hK_w_1456 hN_w_1456 (rg_in h_1381 (by decide)) dX0_drink_76 (fun r_1459 H locs er_1459 hP hD hS => ?_)
              have hG := GX.wR hG hSH hT_w_1456 rfl er_1459 (rg_w (rg_full _) (by decide)) (by decide)
              have h_1460 : ∀ j, j < 5 → rg (r_1459 w_2 j) (-1) 39 := rp_o h_1446 er_1459 (tg_ne hT_w_2 hT_w_1456 (by decide))
              obtain ⟨x_1461, ex_1461⟩ : ∃ y : Int32, y = x_1319 + Int32.ofInt 1 := ⟨_, rfl⟩
              refine lv_iinc (v := x_1461) (lv' := [(2, .int x_1461), (4, .int x_1440), (0, .ref this), (1, .ref a0), (3, .int x_1320)]) hx hb dX0_drink_77 hl (k := 3) rfl ex_1461.symm (by decide) rfl (fun ls hl => ?_)
              refine lv_goto (tgt := 98) hx hb dX0_drink_80 (by decide) ?_
              exact K_1426 x_1461 r_1459 _ _ _ h_1460 hG hP hD hS (lv_sub hl [2, 3, 0, 4] rfl)
    exact L_1373 _ (0 : Int32) (0 : Int32) ri_5 _ _ _ (rg_w (rg_k (0 : Int32) 0 rfl) (by decide)) h_11 (Nat.lt_succ_self _) hG hP hD hS (lv_sub hl [2, 3, 1, 0] rfl)
  exact go _ _ _ hP hD hS hl

set_option maxHeartbeats 4000000 in
set_option maxRecDepth 100000 in
theorem s_X0_groupOf (l : Launch) (D : va_G) (t : pq_T) (σ : pq_S) (I : Nat → Nat → Int32) (J : Nat → Nat → Int64) (ri : Nat → Nat → Int32) (rj : Nat → Nat → Int64) (rq : Nat → Nat → Option Nat) (sz : Nat) (tg : Nat → Nat) (hSH : SH σ tg) (hG0 : GS tg σ I ri rq) (this : Nat) (a0 : Int32) (hL_this : this ∈ σ.1) (hK_this : σ.2.1 this = 0) (h_a0 : rg a0 0 39) (this_place : Nat) (hR_this_place : σ.2.2.1 5 this = some this_place) (hL_this_place : this_place ∈ σ.1) (hK_this_place : σ.2.1 this_place = 13) (hN_this_place : σ.2.2.2 this_place = 40) (hT_this_place : tg this_place = 5) (hrow : rg (ri this_place (a0).toNatClampNeg) 0 4) : MetI l yX0_groupOf (wa yX0_groupOf cX0_groupOf 2 (some .int)) ({ frames := 0, cells := 0, slots := 0, locals := 0 }) [.ref this, .int a0] D t σ (I, J, ri, rj, rq) sz 0 0 (fun (r : Int32) (u : pq_S × pq_M) => u = (σ, I, J, ri, rj, rq) ∧ rg r 0 49) := by
  refine Met.ofW (cc := cX0_groupOf) (maxL := 2) (ret := (some .int)) (by decide) rfl ?_
  intro p e s m args below meth c s₁ B hml hv
  obtain ⟨rfl, hsz, hP, hK, hD0, hN⟩ := hv
  have hx := B.exec
  have hb := B.bytes
  have hr := B.returns
  have hts := atoms_spec (ws := (wa yX0_groupOf cX0_groupOf 2 (some .int))) B.pre
  have hown : s.vm.findClass RX0 = some m.cls := findClass_of_methodNamed B.named
  have hlocks := B.notSynchronized
  subst hsz
  have hD : va_D (pq_B t σ (I, J, ri, rj, rq) s.heap.size) (pq_P t σ (I, J, ri, rj, rq)) := hD0.self
  generalize hAe : pq_B t σ (I, J, ri, rj, rq) s.heap.size = A at hD ⊢
  have hA : ∀ q : Nat, s.heap.size ≤ q → A q := fun q h => by rw [← hAe]; exact Or.inr h
  have hS : va_S A s.heap s.heap [] := va_S.rf
  have hG : GX [] tg σ I ri rj I ri rj rq := ⟨hG0, fun _ _ _ => rfl, fun _ _ _ _ _ => rfl, fun _ _ _ _ _ => rfl⟩
  have hl := lv_entry ([.ref this, .int a0]) (n := 2) (Nat.le_of_ble_eq_true rfl)
  rw [lg_entry_eq]
  generalize (lg_sl ([.ref this, .int a0]) ++ List.replicate (2 - (lg_sl ([.ref this, .int a0])).length) Slot.unset).toArray = ls at hl ⊢
  have hl : lv_has ls 2 [(0, .ref this), (1, .int a0)] := hl
  refine q_gen (fun Q hQ => ?_)
  have go : ∀ (H : Heap) (locs : List Loc) (ls : Array Slot), va_P D vwCl (pq_P t σ (I, J, ri, rj, rq)) H → va_D A (pq_P t σ (I, J, ri, rj, rq)) → va_S A s.heap H locs → lv_has ls 2 [(0, .ref this), (1, .int a0)] → W p l e ({ frames := 0, cells := 0, slots := 0, locals := 0 } : Room) s m (List.toArray ([.ref this, .int a0] : List Value)) below meth c H locs 0 0 Q (F0 m 0 ls []) := by
    intro H locs ls hP hD hS hl
    refine lv_aload_n hx hb dX0_groupOf_0 rfl (lv_at hl 0 rfl) ?_
    refine pg_f (v := .ref this_place) (C := RX0) (T := TX0) (N := 16) hx hb hts (tw_i inlX0) hown hK hP hL_this hK_this (by decide) rfl 5 (by decide) (hts _ (tw_c tw_114)) (pq_hv rfl hR_this_place) dX0_groupOf_1 ?_
    refine lv_iload_n hx hb dX0_groupOf_4 rfl (lv_at hl 1 rfl) ?_
    refine pl_i hx hb hK hP hL_this_place hK_this_place hN_this_place (rg_in h_a0 (by decide)) dX0_groupOf_5 ?_
    refine lv_topi (fun x_1 ex_1 => ?_)
    have h_2 : rg x_1 0 4 := rg_of_eq ex_1 (hrow)
    refine lv_bipush (v := 10) hx hb dX0_groupOf_6 (by decide) ?_
    refine lv_imul hx hb dX0_groupOf_8 ?_
    refine lv_topi (fun x_3 ex_3 => ?_)
    have h_4 : rg x_3 0 40 := rg_of_eq ex_3 (rg_mul h_2 (rg_k (10 : Int32) 10 rfl) (by decide))
    refine lv_aload_n hx hb dX0_groupOf_9 rfl (lv_at hl 0 rfl) ?_
    obtain ⟨w_5, hR_w_5, hL_w_5, hK_w_5, hN_w_5, hT_w_5⟩ := sh_a hSH 1 (ci := 0) (kd := 13) (len := 40) rfl (by decide) hL_this hK_this
    refine pg_f (v := .ref w_5) (C := RX0) (T := TX0) (N := 16) hx hb hts (tw_i inlX0) hown hK hP hL_this hK_this (by decide) rfl 1 (by decide) (hts _ (tw_c tw_110)) (pq_hv rfl hR_w_5) dX0_groupOf_10 ?_
    refine lv_iload_n hx hb dX0_groupOf_13 rfl (lv_at hl 1 rfl) ?_
    refine pl_i hx hb hK hP hL_w_5 hK_w_5 hN_w_5 (rg_in h_a0 (by decide)) dX0_groupOf_14 ?_
    refine lv_topi (fun x_6 ex_6 => ?_)
    have h_7 : rg x_6 0 9 := rg_of_eq ex_6 (GX.rR hG hT_w_5 rfl)
    refine lv_iadd hx hb dX0_groupOf_15 ?_
    refine lv_topi (fun x_8 ex_8 => ?_)
    have h_9 : rg x_8 0 49 := rg_of_eq ex_8 (rg_add h_4 h_7 (by decide))
    subst hQ
    exact W.iret (v := x_8) hx hb hr (fun t1 ht hW => ⟨⟨x_8, (σ, I, J, ri, rj, rq), rfl, ⟨rfl, (rg_w h_9 (by decide))⟩, by rw [ht]; exact hP, va_K.moved hW.alike hK, hD⟩, hS.F ht⟩) hS.2.2 dX0_groupOf_16
  exact go _ _ _ hP hD hS hl

set_option maxHeartbeats 4000000 in
set_option maxRecDepth 100000 in
theorem s_X11_fill_14 (l : Launch) (D : va_G) (t : pq_T) (σ : pq_S) (I : Nat → Nat → Int32) (J : Nat → Nat → Int64) (ri : Nat → Nat → Int32) (rj : Nat → Nat → Int64) (rq : Nat → Nat → Option Nat) (sz : Nat) (tg : Nat → Nat) (hSH : SH σ tg) (hG0 : GS tg σ I ri rq) (a0 : Nat) (a1 : Int32) (hL_a0 : a0 ∈ σ.1) (hK_a0 : σ.2.1 a0 = 13) (hN_a0 : σ.2.2.2 a0 = 50) (hT_a0 : tg a0 = 14) : MetV l yX11_fill (wa yX11_fill cX11_fill 3 none) ({ frames := 0, cells := 0, slots := 0, locals := 0 }) [.ref a0, .int a1] D t σ (I, J, ri, rj, rq) sz 0 0 (fun (u : pq_S × pq_M) => ∃ ri' : Nat → Nat → Int32, u = (σ, I, J, ri', rj, rq) ∧ GX [] tg σ I ri rj I ri' rj rq) := by
  refine Met.ofW (cc := cX11_fill) (maxL := 3) (ret := none) (by decide) rfl ?_
  intro p e s m args below meth c s₁ B hml hv
  obtain ⟨rfl, hsz, hP, hK, hD0, hN⟩ := hv
  have hx := B.exec
  have hb := B.bytes
  have hr := B.returns
  have hts := atoms_spec (ws := (wa yX11_fill cX11_fill 3 none)) B.pre
  have hown : s.vm.findClass RX11 = some m.cls := findClass_of_methodNamed B.named
  have hlocks := B.notSynchronized
  subst hsz
  have hD : va_D (pq_B t σ (I, J, ri, rj, rq) s.heap.size) (pq_P t σ (I, J, ri, rj, rq)) := hD0.self
  generalize hAe : pq_B t σ (I, J, ri, rj, rq) s.heap.size = A at hD ⊢
  have hA : ∀ q : Nat, s.heap.size ≤ q → A q := fun q h => by rw [← hAe]; exact Or.inr h
  have hS : va_S A s.heap s.heap [] := va_S.rf
  have hG : GX [] tg σ I ri rj I ri rj rq := ⟨hG0, fun _ _ _ => rfl, fun _ _ _ _ _ => rfl, fun _ _ _ _ _ => rfl⟩
  have hl := lv_entry ([.ref a0, .int a1]) (n := 3) (Nat.le_of_ble_eq_true rfl)
  rw [lg_entry_eq]
  generalize (lg_sl ([.ref a0, .int a1]) ++ List.replicate (3 - (lg_sl ([.ref a0, .int a1])).length) Slot.unset).toArray = ls at hl ⊢
  have hl : lv_has ls 3 [(0, .ref a0), (1, .int a1)] := hl
  refine q_gen (fun Q hQ => ?_)
  have go : ∀ (H : Heap) (locs : List Loc) (ls : Array Slot), va_P D vwCl (pq_P t σ (I, J, ri, rj, rq)) H → va_D A (pq_P t σ (I, J, ri, rj, rq)) → va_S A s.heap H locs → lv_has ls 3 [(0, .ref a0), (1, .int a1)] → W p l e ({ frames := 0, cells := 0, slots := 0, locals := 0 } : Room) s m (List.toArray ([.ref a0, .int a1] : List Value)) below meth c H locs 0 0 Q (F0 m 0 ls []) := by
    intro H locs ls hP hD hS hl
    refine lv_iconst (v := 0) hx hb dX11_fill_0 (by decide) ?_
    refine lv_istore_n (lv' := [(2, .int 0), (0, .ref a0), (1, .int a1)]) hx hb dX11_fill_1 rfl hl (by decide) rfl (fun ls hl => ?_)
    have L_110 : ∀ (n_109 : Nat) (x_99 : Int32) (ri_100 : Nat → Nat → Int32) (H : Heap) (locs : List Loc) (ls : Array Slot), rg x_99 0 50 → (50 - (x_99).toInt).toNat < n_109 → GX [] tg σ I ri rj I ri_100 rj rq → va_P D vwCl (pq_P t σ (I, J, ri_100, rj, rq)) H → va_D A (pq_P t σ (I, J, ri_100, rj, rq)) → va_S A s.heap H locs → lv_has ls 3 [(0, .ref a0), (1, .int a1), (2, .int x_99)] → W p l e ({ frames := 0, cells := 0, slots := 0, locals := 0 } : Room) s m (List.toArray ([.ref a0, .int a1] : List Value)) below meth c H locs 0 0 Q (F0 m 2 ls []) := by
      intro n_109
      induction n_109 with
      | zero => intro x_99 ri_100 H locs ls h_113 hm_108 hG hP hD hS hl; exact absurd hm_108 (Nat.not_lt_zero _)
      | succ n_109 ih_111 =>
        intro x_99 ri_100 H locs ls h_113 hm_108 hG hP hD hS hl
        refine lv_iload_n hx hb dX11_fill_2 rfl (lv_at hl 2 rfl) ?_
        refine lv_aload_n hx hb dX11_fill_3 rfl (lv_at hl 0 rfl) ?_
        refine pn_i (v := 50) hx hb hK hP hL_a0 hK_a0 hN_a0 (by decide) dX11_fill_4 ?_
        refine lv_icmp_ge (tgt := 18) hx hb dX11_fill_5 (by decide) (fun c_114 => ?_) (fun c_114 => ?_)
        · have h_115 : rg x_99 50 50 := rg_le2 c_114 (rg_k (50 : Int32) 50 rfl) h_113 (by decide)
          subst hQ
          exact W.vret hx hb hr (fun t1 ht hW => ⟨⟨(σ, I, J, ri_100, rj, rq), rfl, ⟨ri_100, rfl, hG⟩, by rw [ht]; exact hP, va_K.moved hW.alike hK, hD⟩, hS.F ht⟩) hS.2.2 dX11_fill_18
        · have h_116 : rg x_99 0 49 := rg_lt1 (nle c_114) h_113 (rg_k (50 : Int32) 50 rfl) (by decide)
          refine lv_aload_n hx hb dX11_fill_8 rfl (lv_at hl 0 rfl) ?_
          refine lv_iload_n hx hb dX11_fill_9 rfl (lv_at hl 2 rfl) ?_
          refine lv_iload_n hx hb dX11_fill_10 rfl (lv_at hl 1 rfl) ?_
          refine pt_i hx hb hK hP hD hS hL_a0 hK_a0 hN_a0 (rg_in h_116 (by decide)) dX11_fill_11 (fun r_117 H locs er_117 hP hD hS => ?_)
          have hG := GX.wR hG hSH hT_a0 rfl er_117 (rg_w (rg_full _) (by decide)) (by decide)
          obtain ⟨x_118, ex_118⟩ : ∃ y : Int32, y = x_99 + Int32.ofInt 1 := ⟨_, rfl⟩
          have h_119 : rg x_118 1 50 := rg_of_eq ex_118 (rg_add h_116 (rg_k (Int32.ofInt 1) 1 rfl) (by decide))
          refine lv_iinc (v := x_118) (lv' := [(2, .int x_118), (0, .ref a0), (1, .int a1)]) hx hb dX11_fill_12 hl (k := 2) rfl ex_118.symm (by decide) rfl (fun ls hl => ?_)
          refine lv_goto (tgt := 2) hx hb dX11_fill_15 (by decide) ?_
          exact ih_111 x_118 r_117 _ _ _ (rg_w h_119 (by decide)) (ms_up 1 hm_108 ex_118 rfl (by decide) h_116 (by decide) (by decide)) hG hP hD hS (lv_sub hl [1, 2, 0] rfl)
    exact L_110 _ (0 : Int32) ri _ _ _ (rg_w (rg_k (0 : Int32) 0 rfl) (by decide)) (Nat.lt_succ_self _) hG hP hD hS (lv_sub hl [1, 2, 0] rfl)
  exact go _ _ _ hP hD hS hl

set_option maxHeartbeats 4000000 in
set_option maxRecDepth 100000 in
theorem s_X11_fill_15 (l : Launch) (D : va_G) (t : pq_T) (σ : pq_S) (I : Nat → Nat → Int32) (J : Nat → Nat → Int64) (ri : Nat → Nat → Int32) (rj : Nat → Nat → Int64) (rq : Nat → Nat → Option Nat) (sz : Nat) (tg : Nat → Nat) (hSH : SH σ tg) (hG0 : GS tg σ I ri rq) (a0 : Nat) (a1 : Int32) (hL_a0 : a0 ∈ σ.1) (hK_a0 : σ.2.1 a0 = 13) (hN_a0 : σ.2.2.2 a0 = 50) (hT_a0 : tg a0 = 15) (h_a1 : rg a1 (-2) 4) : MetV l yX11_fill (wa yX11_fill cX11_fill 3 none) ({ frames := 0, cells := 0, slots := 0, locals := 0 }) [.ref a0, .int a1] D t σ (I, J, ri, rj, rq) sz 0 0 (fun (u : pq_S × pq_M) => ∃ ri' : Nat → Nat → Int32, u = (σ, I, J, ri', rj, rq) ∧ GX [] tg σ I ri rj I ri' rj rq) := by
  refine Met.ofW (cc := cX11_fill) (maxL := 3) (ret := none) (by decide) rfl ?_
  intro p e s m args below meth c s₁ B hml hv
  obtain ⟨rfl, hsz, hP, hK, hD0, hN⟩ := hv
  have hx := B.exec
  have hb := B.bytes
  have hr := B.returns
  have hts := atoms_spec (ws := (wa yX11_fill cX11_fill 3 none)) B.pre
  have hown : s.vm.findClass RX11 = some m.cls := findClass_of_methodNamed B.named
  have hlocks := B.notSynchronized
  subst hsz
  have hD : va_D (pq_B t σ (I, J, ri, rj, rq) s.heap.size) (pq_P t σ (I, J, ri, rj, rq)) := hD0.self
  generalize hAe : pq_B t σ (I, J, ri, rj, rq) s.heap.size = A at hD ⊢
  have hA : ∀ q : Nat, s.heap.size ≤ q → A q := fun q h => by rw [← hAe]; exact Or.inr h
  have hS : va_S A s.heap s.heap [] := va_S.rf
  have hG : GX [] tg σ I ri rj I ri rj rq := ⟨hG0, fun _ _ _ => rfl, fun _ _ _ _ _ => rfl, fun _ _ _ _ _ => rfl⟩
  have hl := lv_entry ([.ref a0, .int a1]) (n := 3) (Nat.le_of_ble_eq_true rfl)
  rw [lg_entry_eq]
  generalize (lg_sl ([.ref a0, .int a1]) ++ List.replicate (3 - (lg_sl ([.ref a0, .int a1])).length) Slot.unset).toArray = ls at hl ⊢
  have hl : lv_has ls 3 [(0, .ref a0), (1, .int a1)] := hl
  refine q_gen (fun Q hQ => ?_)
  have go : ∀ (H : Heap) (locs : List Loc) (ls : Array Slot), va_P D vwCl (pq_P t σ (I, J, ri, rj, rq)) H → va_D A (pq_P t σ (I, J, ri, rj, rq)) → va_S A s.heap H locs → lv_has ls 3 [(0, .ref a0), (1, .int a1)] → W p l e ({ frames := 0, cells := 0, slots := 0, locals := 0 } : Room) s m (List.toArray ([.ref a0, .int a1] : List Value)) below meth c H locs 0 0 Q (F0 m 0 ls []) := by
    intro H locs ls hP hD hS hl
    refine lv_iconst (v := 0) hx hb dX11_fill_0 (by decide) ?_
    refine lv_istore_n (lv' := [(2, .int 0), (0, .ref a0), (1, .int a1)]) hx hb dX11_fill_1 rfl hl (by decide) rfl (fun ls hl => ?_)
    have L_110 : ∀ (n_109 : Nat) (x_99 : Int32) (ri_100 : Nat → Nat → Int32) (H : Heap) (locs : List Loc) (ls : Array Slot), rg x_99 0 50 → (50 - (x_99).toInt).toNat < n_109 → GX [] tg σ I ri rj I ri_100 rj rq → va_P D vwCl (pq_P t σ (I, J, ri_100, rj, rq)) H → va_D A (pq_P t σ (I, J, ri_100, rj, rq)) → va_S A s.heap H locs → lv_has ls 3 [(0, .ref a0), (1, .int a1), (2, .int x_99)] → W p l e ({ frames := 0, cells := 0, slots := 0, locals := 0 } : Room) s m (List.toArray ([.ref a0, .int a1] : List Value)) below meth c H locs 0 0 Q (F0 m 2 ls []) := by
      intro n_109
      induction n_109 with
      | zero => intro x_99 ri_100 H locs ls h_113 hm_108 hG hP hD hS hl; exact absurd hm_108 (Nat.not_lt_zero _)
      | succ n_109 ih_111 =>
        intro x_99 ri_100 H locs ls h_113 hm_108 hG hP hD hS hl
        refine lv_iload_n hx hb dX11_fill_2 rfl (lv_at hl 2 rfl) ?_
        refine lv_aload_n hx hb dX11_fill_3 rfl (lv_at hl 0 rfl) ?_
        refine pn_i (v := 50) hx hb hK hP hL_a0 hK_a0 hN_a0 (by decide) dX11_fill_4 ?_
        refine lv_icmp_ge (tgt := 18) hx hb dX11_fill_5 (by decide) (fun c_114 => ?_) (fun c_114 => ?_)
        · have h_115 : rg x_99 50 50 := rg_le2 c_114 (rg_k (50 : Int32) 50 rfl) h_113 (by decide)
          subst hQ
          exact W.vret hx hb hr (fun t1 ht hW => ⟨⟨(σ, I, J, ri_100, rj, rq), rfl, ⟨ri_100, rfl, hG⟩, by rw [ht]; exact hP, va_K.moved hW.alike hK, hD⟩, hS.F ht⟩) hS.2.2 dX11_fill_18
        · have h_116 : rg x_99 0 49 := rg_lt1 (nle c_114) h_113 (rg_k (50 : Int32) 50 rfl) (by decide)
          refine lv_aload_n hx hb dX11_fill_8 rfl (lv_at hl 0 rfl) ?_
          refine lv_iload_n hx hb dX11_fill_9 rfl (lv_at hl 2 rfl) ?_
          refine lv_iload_n hx hb dX11_fill_10 rfl (lv_at hl 1 rfl) ?_
          refine pt_i hx hb hK hP hD hS hL_a0 hK_a0 hN_a0 (rg_in h_116 (by decide)) dX11_fill_11 (fun r_117 H locs er_117 hP hD hS => ?_)
          have hG := GX.wR hG hSH hT_a0 rfl er_117 (rg_w h_a1 (by decide)) (by decide)
          obtain ⟨x_118, ex_118⟩ : ∃ y : Int32, y = x_99 + Int32.ofInt 1 := ⟨_, rfl⟩
          have h_119 : rg x_118 1 50 := rg_of_eq ex_118 (rg_add h_116 (rg_k (Int32.ofInt 1) 1 rfl) (by decide))
          refine lv_iinc (v := x_118) (lv' := [(2, .int x_118), (0, .ref a0), (1, .int a1)]) hx hb dX11_fill_12 hl (k := 2) rfl ex_118.symm (by decide) rfl (fun ls hl => ?_)
          refine lv_goto (tgt := 2) hx hb dX11_fill_15 (by decide) ?_
          exact ih_111 x_118 r_117 _ _ _ (rg_w h_119 (by decide)) (ms_up 1 hm_108 ex_118 rfl (by decide) h_116 (by decide) (by decide)) hG hP hD hS (lv_sub hl [1, 2, 0] rfl)
    exact L_110 _ (0 : Int32) ri _ _ _ (rg_w (rg_k (0 : Int32) 0 rfl) (by decide)) (Nat.lt_succ_self _) hG hP hD hS (lv_sub hl [1, 2, 0] rfl)
  exact go _ _ _ hP hD hS hl

set_option maxHeartbeats 4000000 in
set_option maxRecDepth 100000 in
theorem s_X0_countGroups (l : Launch) (D : va_G) (t : pq_T) (σ : pq_S) (I : Nat → Nat → Int32) (J : Nat → Nat → Int64) (ri : Nat → Nat → Int32) (rj : Nat → Nat → Int64) (rq : Nat → Nat → Option Nat) (sz : Nat) (tg : Nat → Nat) (hSH : SH σ tg) (hG0 : GS tg σ I ri rq) (this : Nat) (a0 : Int64) (hL_this : this ∈ σ.1) (hK_this : σ.2.1 this = 0) : MetV l yX0_countGroups (wa yX0_countGroups cX0_countGroups 4 none) ({ frames := 1, cells := 0, slots := 0, locals := 22 }) [.ref this, .long a0] D t σ (I, J, ri, rj, rq) sz 0 0 (fun (u : pq_S × pq_M) => ∃ ri' : Nat → Nat → Int32, u = (σ, I, J, ri', rj, rq) ∧ GX [] tg σ I ri rj I ri' rj rq) := by
  refine Met.ofW (cc := cX0_countGroups) (maxL := 4) (ret := none) (by decide) rfl ?_
  intro p e s m args below meth c s₁ B hml hv
  obtain ⟨rfl, hsz, hP, hK, hD0, hN⟩ := hv
  have hx := B.exec
  have hb := B.bytes
  have hr := B.returns
  have hts := atoms_spec (ws := (wa yX0_countGroups cX0_countGroups 4 none)) B.pre
  have hown : s.vm.findClass RX0 = some m.cls := findClass_of_methodNamed B.named
  have hlocks := B.notSynchronized
  subst hsz
  have hD : va_D (pq_B t σ (I, J, ri, rj, rq) s.heap.size) (pq_P t σ (I, J, ri, rj, rq)) := hD0.self
  generalize hAe : pq_B t σ (I, J, ri, rj, rq) s.heap.size = A at hD ⊢
  have hA : ∀ q : Nat, s.heap.size ≤ q → A q := fun q h => by rw [← hAe]; exact Or.inr h
  have hS : va_S A s.heap s.heap [] := va_S.rf
  have hG : GX [] tg σ I ri rj I ri rj rq := ⟨hG0, fun _ _ _ => rfl, fun _ _ _ _ _ => rfl, fun _ _ _ _ _ => rfl⟩
  have hl := lv_entry ([.ref this, .long a0]) (n := 4) (Nat.le_of_ble_eq_true rfl)
  rw [lg_entry_eq]
  generalize (lg_sl ([.ref this, .long a0]) ++ List.replicate (4 - (lg_sl ([.ref this, .long a0])).length) Slot.unset).toArray = ls at hl ⊢
  have hl : lv_has ls 4 [(0, .ref this), (1, .long a0)] := hl
  refine q_gen (fun Q hQ => ?_)
  have go : ∀ (H : Heap) (locs : List Loc) (ls : Array Slot), va_P D vwCl (pq_P t σ (I, J, ri, rj, rq)) H → va_D A (pq_P t σ (I, J, ri, rj, rq)) → va_S A s.heap H locs → lv_has ls 4 [(0, .ref this), (1, .long a0)] → W p l e ({ frames := 1, cells := 0, slots := 0, locals := 22 } : Room) s m (List.toArray ([.ref this, .long a0] : List Value)) below meth c H locs 0 0 Q (F0 m 0 ls []) := by
    intro H locs ls hP hD hS hl
    refine lv_aload_n hx hb dX0_countGroups_0 rfl (lv_at hl 0 rfl) ?_
    obtain ⟨w_1, hR_w_1, hL_w_1, hK_w_1, hN_w_1, hT_w_1⟩ := sh_a hSH 14 (ci := 0) (kd := 13) (len := 50) rfl (by decide) hL_this hK_this
    refine pg_f (v := .ref w_1) (C := RX0) (T := TX0) (N := 16) hx hb hts (tw_i inlX0) hown hK hP hL_this hK_this (by decide) rfl 14 (by decide) (hts _ (tw_c tw_122)) (pq_hv rfl hR_w_1) dX0_countGroups_1 ?_
    refine lv_iconst (v := 0) hx hb dX0_countGroups_4 (by decide) ?_
    refine pk_v (va_runSN (As := [.ref w_1, .int 0]) (rest := []) ⟨hx, hb, hml, hown, hts⟩ (s_X11_fill_14 l D t σ I J ri rj rq H.size tg hSH hG.1 w_1 (0 : Int32) hL_w_1 hK_w_1 hN_w_1 hT_w_1) ⟨va_cnB (host := "RingsUnder") 2 hts (tw_W tw_76) rfl rfl rfl (nl_16 hN) (hts _ (tw_c tw_2)) cd_yX11_fill_2 ⟨Nat.le_of_ble_eq_true rfl, Nat.le_of_ble_eq_true rfl⟩, hts (.static yX11_fill) (tw_c tq_static_yX11_fill), trivial⟩ ⟨pq_blind, pq_pre hK hN hP hD⟩ rfl rfl hl.1 rfl (lv_room (Nat.le_of_ble_eq_true rfl)) dX0_countGroups_5 ⟨Nat.le_of_ble_eq_true rfl, Nat.le_of_ble_eq_true rfl⟩) hD hS hA (fun σ1 μ1 H locs hw_3 hP hD hS => ?_)
    obtain ⟨ri_4, hu_5, hg_6⟩ := hw_3
    obtain ⟨hu_5a, hu_5b⟩ := Prod.mk.inj hu_5
    rw [hu_5a, hu_5b] at hP hD
    have hG := GX.tr hG hg_6 (by decide)
    refine lv_aload_n hx hb dX0_countGroups_8 rfl (lv_at hl 0 rfl) ?_
    obtain ⟨w_8, hR_w_8, hL_w_8, hK_w_8, hN_w_8, hT_w_8⟩ := sh_a hSH 15 (ci := 0) (kd := 13) (len := 50) rfl (by decide) hL_this hK_this
    refine pg_f (v := .ref w_8) (C := RX0) (T := TX0) (N := 16) hx hb hts (tw_i inlX0) hown hK hP hL_this hK_this (by decide) rfl 15 (by decide) (hts _ (tw_c tw_123)) (pq_hv rfl hR_w_8) dX0_countGroups_9 ?_
    refine lv_bipush (v := (-2)) hx hb dX0_countGroups_12 (by decide) ?_
    refine pk_v (va_runSN (As := [.ref w_8, .int (-2)]) (rest := []) ⟨hx, hb, hml, hown, hts⟩ (s_X11_fill_15 l D t σ I J ri_4 rj rq H.size tg hSH hG.1 w_8 (-2 : Int32) hL_w_8 hK_w_8 hN_w_8 hT_w_8 (rg_w (rg_k (-2 : Int32) (-2) rfl) (by decide))) ⟨va_cnB (host := "RingsUnder") 2 hts (tw_W tw_76) rfl rfl rfl (nl_16 hN) (hts _ (tw_c tw_2)) cd_yX11_fill_2 ⟨Nat.le_of_ble_eq_true rfl, Nat.le_of_ble_eq_true rfl⟩, hts (.static yX11_fill) (tw_c tq_static_yX11_fill), trivial⟩ ⟨pq_blind, pq_pre hK hN hP hD⟩ rfl rfl hl.1 rfl (lv_room (Nat.le_of_ble_eq_true rfl)) dX0_countGroups_14 ⟨Nat.le_of_ble_eq_true rfl, Nat.le_of_ble_eq_true rfl⟩) hD hS hA (fun σ1 μ1 H locs hw_10 hP hD hS => ?_)
    obtain ⟨ri_11, hu_12, hg_13⟩ := hw_10
    obtain ⟨hu_12a, hu_12b⟩ := Prod.mk.inj hu_12
    rw [hu_12a, hu_12b] at hP hD
    have hG := GX.tr hG hg_13 (by decide)
    refine lv_iconst (v := 0) hx hb dX0_countGroups_17 (by decide) ?_
    refine lv_istore_n (lv' := [(3, .int 0), (0, .ref this), (1, .long a0)]) hx hb dX0_countGroups_18 rfl hl (by decide) rfl (fun ls hl => ?_)
    have L_521 : ∀ (n_520 : Nat) (x_480 : Int32) (ri_481 : Nat → Nat → Int32) (H : Heap) (locs : List Loc) (ls : Array Slot), rg x_480 0 40 → (40 - (x_480).toInt).toNat < n_520 → GX [] tg σ I ri rj I ri_481 rj rq → va_P D vwCl (pq_P t σ (I, J, ri_481, rj, rq)) H → va_D A (pq_P t σ (I, J, ri_481, rj, rq)) → va_S A s.heap H locs → lv_has ls 4 [(0, .ref this), (1, .long a0), (3, .int x_480)] → W p l e ({ frames := 1, cells := 0, slots := 0, locals := 22 } : Room) s m (List.toArray ([.ref this, .long a0] : List Value)) below meth c H locs 0 0 Q (F0 m 19 ls []) := by
      intro n_520
      induction n_520 with
      | zero => intro x_480 ri_481 H locs ls h_524 hm_519 hG hP hD hS hl; exact absurd hm_519 (Nat.not_lt_zero _)
      | succ n_520 ih_522 =>
        intro x_480 ri_481 H locs ls h_524 hm_519 hG hP hD hS hl
        refine lv_iload_n hx hb dX0_countGroups_19 rfl (lv_at hl 2 rfl) ?_
        refine lv_aload_n hx hb dX0_countGroups_20 rfl (lv_at hl 0 rfl) ?_
        refine pg_f (v := .int (I 0 this)) (C := RX0) (T := TX0) (N := 16) hx hb hts (tw_i inlX0) hown hK hP hL_this hK_this (by decide) rfl 0 (by decide) (hts _ (tw_c tw_395)) rfl dX0_countGroups_21 ?_
        have h_525 : rg (I 0 this) 0 40 := GX.rI hG 0 rfl
        refine lv_icmp_ge (tgt := 63) hx hb dX0_countGroups_24 (by decide) (fun c_526 => ?_) (fun c_526 => ?_)
        · subst hQ
          exact W.vret hx hb hr (fun t1 ht hW => ⟨⟨(σ, I, J, ri_481, rj, rq), rfl, ⟨ri_481, rfl, hG⟩, by rw [ht]; exact hP, va_K.moved hW.alike hK, hD⟩, hS.F ht⟩) hS.2.2 dX0_countGroups_63
        · have h_527 : rg x_480 0 39 := rg_lt1 (nle c_526) h_524 h_525 (by decide)
          have h_528 : rg (I 0 this) 1 40 := rg_lt2 (nle c_526) h_524 h_525 (by decide)
          refine lv_lload_n hx hb dX0_countGroups_27 rfl (lv_at hl 1 rfl) ?_
          refine lv_iload_n hx hb dX0_countGroups_28 rfl (lv_at hl 2 rfl) ?_
          refine pk_i (va_runSN (As := [.long a0, .int x_480]) (rest := []) ⟨hx, hb, hml, hown, hts⟩ (s_X11_hasBit l D t σ I J ri_481 rj rq H.size tg hSH hG.1 a0 x_480) ⟨va_cnB (host := "RingsUnder") 2 hts (tw_W tw_560) rfl rfl rfl (nl_13 hN) (hts _ (tw_c tw_2)) cd_yX11_hasBit_2 ⟨Nat.le_of_ble_eq_true rfl, Nat.le_of_ble_eq_true rfl⟩, hts (.static yX11_hasBit) (tw_c tq_static_yX11_hasBit), trivial⟩ ⟨pq_blind, pq_pre hK hN hP hD⟩ rfl rfl hl.1 rfl (lv_room (Nat.le_of_ble_eq_true rfl)) dX0_countGroups_29 ⟨Nat.le_of_ble_eq_true rfl, Nat.le_of_ble_eq_true rfl⟩) hD hS hA (fun x_529 σ1 μ1 H locs hw_530 hP hD hS => ?_)
          obtain ⟨hu_531, hr_533⟩ := hw_530
          obtain ⟨hu_531a, hu_531b⟩ := Prod.mk.inj hu_531
          rw [hu_531a, hu_531b] at hP hD
          have h_534 : rg x_529 0 1 := by rcases hr_533 with ⟨q, -⟩ | ⟨q, -⟩ <;> rw [q] <;> exact ⟨by decide, by decide⟩
          have K_561 : ∀  (ri_558 : Nat → Nat → Int32) (H : Heap) (locs : List Loc) (ls : Array Slot), GX [] tg σ I ri rj I ri_558 rj rq → va_P D vwCl (pq_P t σ (I, J, ri_558, rj, rq)) H → va_D A (pq_P t σ (I, J, ri_558, rj, rq)) → va_S A s.heap H locs → lv_has ls 4 [(0, .ref this), (1, .long a0), (3, .int x_480)] → W p l e ({ frames := 1, cells := 0, slots := 0, locals := 22 } : Room) s m (List.toArray ([.ref this, .long a0] : List Value)) below meth c H locs 0 0 Q (F0 m 57 ls []) := by
            intro ri_558 H locs ls hG hP hD hS hl
            obtain ⟨x_562, ex_562⟩ : ∃ y : Int32, y = x_480 + Int32.ofInt 1 := ⟨_, rfl⟩
            have h_563 : rg x_562 1 40 := rg_of_eq ex_562 (rg_add h_527 (rg_k (Int32.ofInt 1) 1 rfl) (by decide))
            refine lv_iinc (v := x_562) (lv' := [(3, .int x_562), (0, .ref this), (1, .long a0)]) hx hb dX0_countGroups_57 hl (k := 2) rfl ex_562.symm (by decide) rfl (fun ls hl => ?_)
            refine lv_goto (tgt := 19) hx hb dX0_countGroups_60 (by decide) ?_
            exact ih_522 x_562 ri_558 _ _ _ (rg_w h_563 (by decide)) (ms_up 1 hm_519 ex_562 rfl (by decide) h_527 (by decide) (by decide)) hG hP hD hS (lv_sub hl [1, 2, 0] rfl)
          refine lv_if_eq (tgt := 57) hx hb dX0_countGroups_32 (by decide) (fun c_564 => ?_) (fun c_564 => ?_)
          · have h_565 : rg x_529 0 0 := rg_and h_534 (rg_of_eq c_564 (rg_k (0 : Int32) 0 rfl)) (by decide)
            exact K_561 ri_481 _ _ _ hG hP hD hS (lv_sub hl [0, 1, 2] rfl)
          · have h_566 : rg x_529 1 1 := rg_ne c_564 h_534 0 rfl (by decide)
            refine lv_aload_n hx hb dX0_countGroups_35 rfl (lv_at hl 0 rfl) ?_
            refine lv_iload_n hx hb dX0_countGroups_36 rfl (lv_at hl 2 rfl) ?_
            obtain ⟨w_567, hR_w_567, hL_w_567, hK_w_567, hN_w_567, hT_w_567⟩ := sh_a hSH 5 (ci := 0) (kd := 13) (len := 40) rfl (by decide) hL_this hK_this
            refine pk_i (va_runV (As := [.int x_480]) (rest := []) ⟨hx, hb, hml, hown, hts⟩ (s_X0_isOnRing l D t σ I J ri_481 rj rq H.size tg hSH hG.1 this x_480 hL_this hK_this (rg_w h_527 (by decide)) w_567 hR_w_567 hL_w_567 hK_w_567 hN_w_567 hT_w_567) (cwV 1 hts (tw_V tw_1108 tw_1109 tw_1110 tw_45 tw_1111) rfl rfl rfl cv_yX0_isOnRing_1 ⟨Nat.le_of_ble_eq_true rfl, Nat.le_of_ble_eq_true rfl⟩) ⟨pq_blind, pq_recv hK hP hL_this hK_this (by decide) rfl, pq_pre hK hN hP hD⟩ rfl rfl hl.1 rfl (lv_room (Nat.le_of_ble_eq_true rfl)) dX0_countGroups_37 ⟨Nat.le_of_ble_eq_true rfl, Nat.le_of_ble_eq_true rfl⟩) hD hS hA (fun x_568 σ1 μ1 H locs hw_569 hP hD hS => ?_)
            obtain ⟨hu_570, hr_572⟩ := hw_569
            obtain ⟨hu_570a, hu_570b⟩ := Prod.mk.inj hu_570
            rw [hu_570a, hu_570b] at hP hD
            have h_573 : rg x_568 0 1 := by rcases hr_572 with ⟨q, -⟩ | ⟨q, -⟩ <;> rw [q] <;> exact ⟨by decide, by decide⟩
            refine lv_if_eq (tgt := 57) hx hb dX0_countGroups_40 (by decide) (fun c_574 => ?_) (fun c_574 => ?_)
            · have f_575 := (hr_572.resolve_left (fun q => absurd (q.1.symm.trans c_574) (by decide))).2
              have h_576 : rg x_568 0 0 := rg_and h_573 (rg_of_eq c_574 (rg_k (0 : Int32) 0 rfl)) (by decide)
              exact K_561 ri_481 _ _ _ hG hP hD hS (lv_sub hl [0, 1, 2] rfl)
            · have f_577 := (hr_572.resolve_right (fun q => c_574 q.1)).2
              have h_578 : rg x_568 1 1 := rg_ne c_574 h_573 0 rfl (by decide)
              refine lv_aload_n hx hb dX0_countGroups_43 rfl (lv_at hl 0 rfl) ?_
              refine pg_f (v := .ref w_1) (C := RX0) (T := TX0) (N := 16) hx hb hts (tw_i inlX0) hown hK hP hL_this hK_this (by decide) rfl 14 (by decide) (hts _ (tw_c tw_122)) (pq_hv rfl hR_w_1) dX0_countGroups_44 ?_
              refine lv_aload_n hx hb dX0_countGroups_47 rfl (lv_at hl 0 rfl) ?_
              refine lv_iload_n hx hb dX0_countGroups_48 rfl (lv_at hl 2 rfl) ?_
              refine pk_i (va_runV (As := [.int x_480]) (rest := [.ref w_1]) ⟨hx, hb, hml, hown, hts⟩ (s_X0_groupOf l D t σ I J ri_481 rj rq H.size tg hSH hG.1 this x_480 hL_this hK_this (rg_w h_527 (by decide)) w_567 hR_w_567 hL_w_567 hK_w_567 hN_w_567 hT_w_567 (rg_w f_577 (by decide))) (cwV 1 hts (tw_V tw_1176 tw_1177 tw_1178 tw_45 tw_1179) rfl rfl rfl cv_yX0_groupOf_1 ⟨Nat.le_of_ble_eq_true rfl, Nat.le_of_ble_eq_true rfl⟩) ⟨pq_blind, pq_recv hK hP hL_this hK_this (by decide) rfl, pq_pre hK hN hP hD⟩ rfl rfl hl.1 rfl (lv_room (Nat.le_of_ble_eq_true rfl)) dX0_countGroups_49 ⟨Nat.le_of_ble_eq_true rfl, Nat.le_of_ble_eq_true rfl⟩) hD hS hA (fun x_579 σ1 μ1 H locs hw_580 hP hD hS => ?_)
              obtain ⟨hu_581, hr_583⟩ := hw_580
              obtain ⟨hu_581a, hu_581b⟩ := Prod.mk.inj hu_581
              rw [hu_581a, hu_581b] at hP hD
              refine lv_dup2_11 hx hb dX0_countGroups_52 rfl rfl ?_
              refine pl_i hx hb hK hP hL_w_1 hK_w_1 hN_w_1 (rg_in hr_583 (by decide)) dX0_countGroups_53 ?_
              refine lv_topi (fun x_584 ex_584 => ?_)
              refine lv_iconst (v := 1) hx hb dX0_countGroups_54 (by decide) ?_
              refine lv_iadd hx hb dX0_countGroups_55 ?_
              refine lv_topi (fun x_585 ex_585 => ?_)
              refine pt_i hx hb hK hP hD hS hL_w_1 hK_w_1 hN_w_1 (rg_in hr_583 (by decide)) dX0_countGroups_56 (fun r_586 H locs er_586 hP hD hS => ?_)
              have hG := GX.wR hG hSH hT_w_1 rfl er_586 (rg_w (rg_full _) (by decide)) (by decide)
              exact K_561 r_586 _ _ _ hG hP hD hS (lv_sub hl [0, 1, 2] rfl)
    exact L_521 _ (0 : Int32) ri_11 _ _ _ (rg_w (rg_k (0 : Int32) 0 rfl) (by decide)) (Nat.lt_succ_self _) hG hP hD hS (lv_sub hl [1, 2, 0] rfl)
  exact go _ _ _ hP hD hS hl

set_option maxHeartbeats 4000000 in
set_option maxRecDepth 100000 in
theorem s_X0_takeLot (l : Launch) (D : va_G) (t : pq_T) (σ : pq_S) (I : Nat → Nat → Int32) (J : Nat → Nat → Int64) (ri : Nat → Nat → Int32) (rj : Nat → Nat → Int64) (rq : Nat → Nat → Option Nat) (sz : Nat) (tg : Nat → Nat) (hSH : SH σ tg) (hG0 : GS tg σ I ri rq) (this : Nat) (a0 : Int32) (hL_this : this ∈ σ.1) (hK_this : σ.2.1 this = 0) : MetI l yX0_takeLot (wa yX0_takeLot cX0_takeLot 3 (some .int)) ({ frames := 0, cells := 0, slots := 0, locals := 0 }) [.ref this, .int a0] D t σ (I, J, ri, rj, rq) sz 0 0 (fun (r : Int32) (u : pq_S × pq_M) => ∃ ri' : Nat → Nat → Int32, u = (σ, I, J, ri', rj, rq) ∧ GX [] tg σ I ri rj I ri' rj rq ∧ rg r (-1) 4) := by
  refine Met.ofW (cc := cX0_takeLot) (maxL := 3) (ret := (some .int)) (by decide) rfl ?_
  intro p e s m args below meth c s₁ B hml hv
  obtain ⟨rfl, hsz, hP, hK, hD0, hN⟩ := hv
  have hx := B.exec
  have hb := B.bytes
  have hr := B.returns
  have hts := atoms_spec (ws := (wa yX0_takeLot cX0_takeLot 3 (some .int))) B.pre
  have hown : s.vm.findClass RX0 = some m.cls := findClass_of_methodNamed B.named
  have hlocks := B.notSynchronized
  subst hsz
  have hD : va_D (pq_B t σ (I, J, ri, rj, rq) s.heap.size) (pq_P t σ (I, J, ri, rj, rq)) := hD0.self
  generalize hAe : pq_B t σ (I, J, ri, rj, rq) s.heap.size = A at hD ⊢
  have hA : ∀ q : Nat, s.heap.size ≤ q → A q := fun q h => by rw [← hAe]; exact Or.inr h
  have hS : va_S A s.heap s.heap [] := va_S.rf
  have hG : GX [] tg σ I ri rj I ri rj rq := ⟨hG0, fun _ _ _ => rfl, fun _ _ _ _ _ => rfl, fun _ _ _ _ _ => rfl⟩
  have hl := lv_entry ([.ref this, .int a0]) (n := 3) (Nat.le_of_ble_eq_true rfl)
  rw [lg_entry_eq]
  generalize (lg_sl ([.ref this, .int a0]) ++ List.replicate (3 - (lg_sl ([.ref this, .int a0])).length) Slot.unset).toArray = ls at hl ⊢
  have hl : lv_has ls 3 [(0, .ref this), (1, .int a0)] := hl
  refine q_gen (fun Q hQ => ?_)
  have go : ∀ (H : Heap) (locs : List Loc) (ls : Array Slot), va_P D vwCl (pq_P t σ (I, J, ri, rj, rq)) H → va_D A (pq_P t σ (I, J, ri, rj, rq)) → va_S A s.heap H locs → lv_has ls 3 [(0, .ref this), (1, .int a0)] → W p l e ({ frames := 0, cells := 0, slots := 0, locals := 0 } : Room) s m (List.toArray ([.ref this, .int a0] : List Value)) below meth c H locs 0 0 Q (F0 m 0 ls []) := by
    intro H locs ls hP hD hS hl
    refine lv_iconst (v := 0) hx hb dX0_takeLot_0 (by decide) ?_
    refine lv_istore_n (lv' := [(2, .int 0), (0, .ref this), (1, .int a0)]) hx hb dX0_takeLot_1 rfl hl (by decide) rfl (fun ls hl => ?_)
    have L_106 : ∀ (n_105 : Nat) (x_89 : Int32) (H : Heap) (locs : List Loc) (ls : Array Slot), rg x_89 0 5 → (5 - (x_89).toInt).toNat < n_105 → GX [] tg σ I ri rj I ri rj rq → va_P D vwCl (pq_P t σ (I, J, ri, rj, rq)) H → va_D A (pq_P t σ (I, J, ri, rj, rq)) → va_S A s.heap H locs → lv_has ls 3 [(0, .ref this), (1, .int a0), (2, .int x_89)] → W p l e ({ frames := 0, cells := 0, slots := 0, locals := 0 } : Room) s m (List.toArray ([.ref this, .int a0] : List Value)) below meth c H locs 0 0 Q (F0 m 2 ls []) := by
      intro n_105
      induction n_105 with
      | zero => intro x_89 H locs ls h_109 hm_104 hG hP hD hS hl; exact absurd hm_104 (Nat.not_lt_zero _)
      | succ n_105 ih_107 =>
        intro x_89 H locs ls h_109 hm_104 hG hP hD hS hl
        refine lv_iload_n hx hb dX0_takeLot_2 rfl (lv_at hl 2 rfl) ?_
        refine lv_aload_n hx hb dX0_takeLot_3 rfl (lv_at hl 0 rfl) ?_
        refine pg_f (v := .int (I 10 this)) (C := RX0) (T := TX0) (N := 16) hx hb hts (tw_i inlX0) hown hK hP hL_this hK_this (by decide) rfl 10 (by decide) (hts _ (tw_c tw_1171)) rfl dX0_takeLot_4 ?_
        have h_110 : rg (I 10 this) 0 5 := GX.rI hG 10 rfl
        refine lv_icmp_ge (tgt := 38) hx hb dX0_takeLot_7 (by decide) (fun c_111 => ?_) (fun c_111 => ?_)
        · refine lv_iconst (v := (-1)) hx hb dX0_takeLot_38 (by decide) ?_
          subst hQ
          exact W.iret (v := (-1)) hx hb hr (fun t1 ht hW => ⟨⟨(-1), (σ, I, J, ri, rj, rq), rfl, ⟨ri, rfl, hG, (rg_w (rg_k (-1 : Int32) (-1) rfl) (by decide))⟩, by rw [ht]; exact hP, va_K.moved hW.alike hK, hD⟩, hS.F ht⟩) hS.2.2 dX0_takeLot_39
        · have h_112 : rg x_89 0 4 := rg_lt1 (nle c_111) h_109 h_110 (by decide)
          have h_113 : rg (I 10 this) 1 5 := rg_lt2 (nle c_111) h_109 h_110 (by decide)
          refine lv_aload_n hx hb dX0_takeLot_10 rfl (lv_at hl 0 rfl) ?_
          obtain ⟨w_114, hR_w_114, hL_w_114, hK_w_114, hN_w_114, hT_w_114⟩ := sh_a hSH 13 (ci := 0) (kd := 13) (len := 5) rfl (by decide) hL_this hK_this
          refine pg_f (v := .ref w_114) (C := RX0) (T := TX0) (N := 16) hx hb hts (tw_i inlX0) hown hK hP hL_this hK_this (by decide) rfl 13 (by decide) (hts _ (tw_c tw_121)) (pq_hv rfl hR_w_114) dX0_takeLot_11 ?_
          refine lv_iload_n hx hb dX0_takeLot_14 rfl (lv_at hl 2 rfl) ?_
          refine pl_i hx hb hK hP hL_w_114 hK_w_114 hN_w_114 (rg_in h_112 (by decide)) dX0_takeLot_15 ?_
          refine lv_topi (fun x_115 ex_115 => ?_)
          refine lv_iload_n hx hb dX0_takeLot_16 rfl (lv_at hl 1 rfl) ?_
          refine lv_icmp_lt (tgt := 32) hx hb dX0_takeLot_17 (by decide) (fun c_116 => ?_) (fun c_116 => ?_)
          · have h_117 : rg x_115 (-2147483648) 2147483646 := rg_lt1 c_116 (rg_full _) (rg_full _) (by decide)
            have h_118 : rg a0 (-2147483647) 2147483647 := rg_lt2 c_116 (rg_full _) (rg_full _) (by decide)
            obtain ⟨x_119, ex_119⟩ : ∃ y : Int32, y = x_89 + Int32.ofInt 1 := ⟨_, rfl⟩
            have h_120 : rg x_119 1 5 := rg_of_eq ex_119 (rg_add h_112 (rg_k (Int32.ofInt 1) 1 rfl) (by decide))
            refine lv_iinc (v := x_119) (lv' := [(2, .int x_119), (0, .ref this), (1, .int a0)]) hx hb dX0_takeLot_32 hl (k := 2) rfl ex_119.symm (by decide) rfl (fun ls hl => ?_)
            refine lv_goto (tgt := 2) hx hb dX0_takeLot_35 (by decide) ?_
            exact ih_107 x_119 _ _ _ (rg_w h_120 (by decide)) (ms_up 1 hm_104 ex_119 rfl (by decide) h_112 (by decide) (by decide)) hG hP hD hS (lv_sub hl [1, 2, 0] rfl)
          · refine lv_aload_n hx hb dX0_takeLot_20 rfl (lv_at hl 0 rfl) ?_
            refine pg_f (v := .ref w_114) (C := RX0) (T := TX0) (N := 16) hx hb hts (tw_i inlX0) hown hK hP hL_this hK_this (by decide) rfl 13 (by decide) (hts _ (tw_c tw_121)) (pq_hv rfl hR_w_114) dX0_takeLot_21 ?_
            refine lv_iload_n hx hb dX0_takeLot_24 rfl (lv_at hl 2 rfl) ?_
            refine lv_dup2_11 hx hb dX0_takeLot_25 rfl rfl ?_
            refine pl_i hx hb hK hP hL_w_114 hK_w_114 hN_w_114 (rg_in h_112 (by decide)) dX0_takeLot_26 ?_
            refine lv_tov x_115 ex_115.symm ?_
            refine lv_iload_n hx hb dX0_takeLot_27 rfl (lv_at hl 1 rfl) ?_
            refine lv_isub hx hb dX0_takeLot_28 ?_
            refine lv_topi (fun x_121 ex_121 => ?_)
            refine pt_i hx hb hK hP hD hS hL_w_114 hK_w_114 hN_w_114 (rg_in h_112 (by decide)) dX0_takeLot_29 (fun r_122 H locs er_122 hP hD hS => ?_)
            have hG := GX.wR hG hSH hT_w_114 rfl er_122 (rg_w (rg_full _) (by decide)) (by decide)
            refine lv_iload_n hx hb dX0_takeLot_30 rfl (lv_at hl 2 rfl) ?_
            subst hQ
            exact W.iret (v := x_89) hx hb hr (fun t1 ht hW => ⟨⟨x_89, (σ, I, J, r_122, rj, rq), rfl, ⟨r_122, rfl, hG, (rg_w h_112 (by decide))⟩, by rw [ht]; exact hP, va_K.moved hW.alike hK, hD⟩, hS.F ht⟩) hS.2.2 dX0_takeLot_31
    exact L_106 _ (0 : Int32) _ _ _ (rg_w (rg_k (0 : Int32) 0 rfl) (by decide)) (Nat.lt_succ_self _) hG hP hD hS (lv_sub hl [1, 2, 0] rfl)
  exact go _ _ _ hP hD hS hl

set_option maxHeartbeats 4000000 in
set_option maxRecDepth 100000 in
theorem s_X11_copy_33_33 (l : Launch) (D : va_G) (t : pq_T) (σ : pq_S) (I : Nat → Nat → Int32) (J : Nat → Nat → Int64) (ri : Nat → Nat → Int32) (rj : Nat → Nat → Int64) (rq : Nat → Nat → Option Nat) (sz : Nat) (tg : Nat → Nat) (hSH : SH σ tg) (hG0 : GS tg σ I ri rq) (a0 : Nat) (a1 : Nat) (hL_a0 : a0 ∈ σ.1) (hK_a0 : σ.2.1 a0 = 13) (hN_a0 : σ.2.2.2 a0 = 30) (hT_a0 : tg a0 = 33) (hL_a1 : a1 ∈ σ.1) (hK_a1 : σ.2.1 a1 = 13) (hN_a1 : σ.2.2.2 a1 = 30) (hT_a1 : tg a1 = 33) : MetV l yX11_copy (wa yX11_copy cX11_copy 2 none) ({ frames := 1, cells := 0, slots := 0, locals := 60 }) [.ref a0, .ref a1] D t σ (I, J, ri, rj, rq) sz 0 0 (fun (u : pq_S × pq_M) => ∃ ri' : Nat → Nat → Int32, u = (σ, I, J, ri', rj, rq) ∧ GX [1033] tg σ I ri rj I ri' rj rq ∧ (∀ j, j < 30 → ri' a1 j = ri a0 j) ∧ (∀ q, q ≠ a1 → ri' q = ri q)) := by
  refine Met.ofW (cc := cX11_copy) (maxL := 2) (ret := none) (by decide) rfl ?_
  intro p e s m args below meth c s₁ B hml hv
  obtain ⟨rfl, hsz, hP, hK, hD0, hN⟩ := hv
  have hx := B.exec
  have hb := B.bytes
  have hr := B.returns
  have hts := atoms_spec (ws := (wa yX11_copy cX11_copy 2 none)) B.pre
  have hown : s.vm.findClass RX11 = some m.cls := findClass_of_methodNamed B.named
  have hlocks := B.notSynchronized
  subst hsz
  have hD : va_D (pq_B t σ (I, J, ri, rj, rq) s.heap.size) (pq_P t σ (I, J, ri, rj, rq)) := hD0.self
  generalize hAe : pq_B t σ (I, J, ri, rj, rq) s.heap.size = A at hD ⊢
  have hA : ∀ q : Nat, s.heap.size ≤ q → A q := fun q h => by rw [← hAe]; exact Or.inr h
  have hS : va_S A s.heap s.heap [] := va_S.rf
  have hG : GX [1033] tg σ I ri rj I ri rj rq := ⟨hG0, fun _ _ _ => rfl, fun _ _ _ _ _ => rfl, fun _ _ _ _ _ => rfl⟩
  have hl := lv_entry ([.ref a0, .ref a1]) (n := 2) (Nat.le_of_ble_eq_true rfl)
  rw [lg_entry_eq]
  generalize (lg_sl ([.ref a0, .ref a1]) ++ List.replicate (2 - (lg_sl ([.ref a0, .ref a1])).length) Slot.unset).toArray = ls at hl ⊢
  have hl : lv_has ls 2 [(0, .ref a0), (1, .ref a1)] := hl
  refine q_gen (fun Q hQ => ?_)
  have go : ∀ (H : Heap) (locs : List Loc) (ls : Array Slot), va_P D vwCl (pq_P t σ (I, J, ri, rj, rq)) H → va_D A (pq_P t σ (I, J, ri, rj, rq)) → va_S A s.heap H locs → lv_has ls 2 [(0, .ref a0), (1, .ref a1)] → W p l e ({ frames := 1, cells := 0, slots := 0, locals := 60 } : Room) s m (List.toArray ([.ref a0, .ref a1] : List Value)) below meth c H locs 0 0 Q (F0 m 0 ls []) := by
    intro H locs ls hP hD hS hl
    refine lv_aload_n hx hb dX11_copy_0 rfl (lv_at hl 0 rfl) ?_
    refine lv_iconst (v := 0) hx hb dX11_copy_1 (by decide) ?_
    refine lv_aload_n hx hb dX11_copy_2 rfl (lv_at hl 1 rfl) ?_
    refine lv_iconst (v := 0) hx hb dX11_copy_3 (by decide) ?_
    refine lv_aload_n hx hb dX11_copy_4 rfl (lv_at hl 0 rfl) ?_
    refine pn_i (v := 30) hx hb hK hP hL_a0 hK_a0 hN_a0 (by decide) dX11_copy_5 ?_
    refine lv_aload_n hx hb dX11_copy_6 rfl (lv_at hl 1 rfl) ?_
    refine pn_i (v := 30) hx hb hK hP hL_a1 hK_a1 hN_a1 (by decide) dX11_copy_7 ?_
    refine va_mmin hx hb (hml.trans hl.1.symm) hown (hts _ (tw_c tw_1103)) (hts _ (tw_c tw_467)) (hts _ (tw_c tw_276)) (hts _ (tw_c tw_468)) (Nat.le_of_ble_eq_true rfl) (Nat.le_of_ble_eq_true rfl) (Nat.zero_le _) (Nat.zero_le _) dX11_copy_8 ?_
    refine lv_topi (fun x_1 ex_1 => ?_)
    have h_2 : rg x_1 30 30 := rg_of_eq ex_1 (rg_min2 (rg_k (30 : Int32) 30 rfl) (rg_k (30 : Int32) 30 rfl) (by decide))
    refine pc_i hx hb (hml.trans hl.1.symm) hown (hts _ (tw_c tw_1104)) (hts _ (tw_c tw_1105)) (hts _ (tw_c tw_1106)) (hts _ (tw_c tw_1107)) hK hP hD hS hL_a0 hK_a0 hN_a0 hL_a1 hK_a1 hN_a1 (rg_pos (rg_k (0 : Int32) 0 rfl) (by decide)) (rg_pos h_2 (by decide)) (rg_cp (rg_k (0 : Int32) 0 rfl) h_2 (by decide)) (rg_cl h_2 (by decide)) (Nat.le_of_ble_eq_true rfl) (Nat.le_of_ble_eq_true rfl) dX11_copy_11 (fun r_3 H locs er_3 hP hD hS => ?_)
    have hG := GX.cR hG hSH hT_a0 rfl hT_a1 rfl er_3 (by decide)
    subst hQ
    exact W.vret hx hb hr (fun t1 ht hW => ⟨⟨(σ, I, J, r_3, rj, rq), rfl, ⟨r_3, rfl, hG, (cpy_eq er_3 h_2 rfl), (fun q hq => by rw [er_3, va_up_ne _ _ hq])⟩, by rw [ht]; exact hP, va_K.moved hW.alike hK, hD⟩, hS.F ht⟩) hS.2.2 dX11_copy_14
  exact go _ _ _ hP hD hS hl

set_option maxHeartbeats 4000000 in
set_option maxRecDepth 100000 in
theorem s_X1_whereNow (l : Launch) (D : va_G) (t : pq_T) (σ : pq_S) (I : Nat → Nat → Int32) (J : Nat → Nat → Int64) (ri : Nat → Nat → Int32) (rj : Nat → Nat → Int64) (rq : Nat → Nat → Option Nat) (sz : Nat) (tg : Nat → Nat) (hSH : SH σ tg) (hG0 : GS tg σ I ri rq) (this : Nat) (a0 : Int32) (a1 : Int32) (hL_this : this ∈ σ.1) (hK_this : σ.2.1 this = 1) : MetI l yX1_whereNow (wa yX1_whereNow cX1_whereNow 5 (some .int)) ({ frames := 1, cells := 0, slots := 0, locals := 22 }) [.ref this, .int a0, .int a1] D t σ (I, J, ri, rj, rq) sz 0 0 (fun (r : Int32) (u : pq_S × pq_M) => u = (σ, I, J, ri, rj, rq) ∧ rg r (-1) 39) := by
  refine Met.ofW (cc := cX1_whereNow) (maxL := 5) (ret := (some .int)) (by decide) rfl ?_
  intro p e s m args below meth c s₁ B hml hv
  obtain ⟨rfl, hsz, hP, hK, hD0, hN⟩ := hv
  have hx := B.exec
  have hb := B.bytes
  have hr := B.returns
  have hts := atoms_spec (ws := (wa yX1_whereNow cX1_whereNow 5 (some .int))) B.pre
  have hown : s.vm.findClass RX1 = some m.cls := findClass_of_methodNamed B.named
  have hlocks := B.notSynchronized
  subst hsz
  have hD : va_D (pq_B t σ (I, J, ri, rj, rq) s.heap.size) (pq_P t σ (I, J, ri, rj, rq)) := hD0.self
  generalize hAe : pq_B t σ (I, J, ri, rj, rq) s.heap.size = A at hD ⊢
  have hA : ∀ q : Nat, s.heap.size ≤ q → A q := fun q h => by rw [← hAe]; exact Or.inr h
  have hS : va_S A s.heap s.heap [] := va_S.rf
  have hG : GX [] tg σ I ri rj I ri rj rq := ⟨hG0, fun _ _ _ => rfl, fun _ _ _ _ _ => rfl, fun _ _ _ _ _ => rfl⟩
  have hl := lv_entry ([.ref this, .int a0, .int a1]) (n := 5) (Nat.le_of_ble_eq_true rfl)
  rw [lg_entry_eq]
  generalize (lg_sl ([.ref this, .int a0, .int a1]) ++ List.replicate (5 - (lg_sl ([.ref this, .int a0, .int a1])).length) Slot.unset).toArray = ls at hl ⊢
  have hl : lv_has ls 5 [(0, .ref this), (1, .int a0), (2, .int a1)] := hl
  refine q_gen (fun Q hQ => ?_)
  have go : ∀ (H : Heap) (locs : List Loc) (ls : Array Slot), va_P D vwCl (pq_P t σ (I, J, ri, rj, rq)) H → va_D A (pq_P t σ (I, J, ri, rj, rq)) → va_S A s.heap H locs → lv_has ls 5 [(0, .ref this), (1, .int a0), (2, .int a1)] → W p l e ({ frames := 1, cells := 0, slots := 0, locals := 22 } : Room) s m (List.toArray ([.ref this, .int a0, .int a1] : List Value)) below meth c H locs 0 0 Q (F0 m 0 ls []) := by
    intro H locs ls hP hD hS hl
    refine lv_iconst (v := 0) hx hb dX1_whereNow_0 (by decide) ?_
    refine lv_istore_n (lv' := [(3, .int 0), (0, .ref this), (1, .int a0), (2, .int a1)]) hx hb dX1_whereNow_1 rfl hl (by decide) rfl (fun ls hl => ?_)
    refine lv_iconst (v := 0) hx hb dX1_whereNow_2 (by decide) ?_
    refine lv_istore (lv' := [(4, .int 0), (3, .int 0), (0, .ref this), (1, .int a0), (2, .int a1)]) hx hb dX1_whereNow_3 hl (by decide) rfl (fun ls hl => ?_)
    have L_735 : ∀ (n_734 : Nat) (x_707 : Int32) (x_708 : Int32) (H : Heap) (locs : List Loc) (ls : Array Slot), rg x_708 0 30 → (30 - (x_708).toInt).toNat < n_734 → GX [] tg σ I ri rj I ri rj rq → va_P D vwCl (pq_P t σ (I, J, ri, rj, rq)) H → va_D A (pq_P t σ (I, J, ri, rj, rq)) → va_S A s.heap H locs → lv_has ls 5 [(0, .ref this), (1, .int a0), (2, .int a1), (3, .int x_707), (4, .int x_708)] → W p l e ({ frames := 1, cells := 0, slots := 0, locals := 22 } : Room) s m (List.toArray ([.ref this, .int a0, .int a1] : List Value)) below meth c H locs 0 0 Q (F0 m 5 ls []) := by
      intro n_734
      induction n_734 with
      | zero => intro x_707 x_708 H locs ls h_738 hm_733 hG hP hD hS hl; exact absurd hm_733 (Nat.not_lt_zero _)
      | succ n_734 ih_736 =>
        intro x_707 x_708 H locs ls h_738 hm_733 hG hP hD hS hl
        refine lv_iload hx hb dX1_whereNow_5 (lv_at hl 4 rfl) ?_
        refine lv_aload_n hx hb dX1_whereNow_7 rfl (lv_at hl 0 rfl) ?_
        refine pg_f (v := .int (I 32 this)) (C := RX1) (T := TX1) (N := 3) hx hb hts (tw_i inlX1) hown hK hP hL_this hK_this (by decide) rfl 0 (by decide) (hts _ (tw_c tw_1393)) rfl dX1_whereNow_8 ?_
        have h_739 : rg (I 32 this) 0 30 := GX.rI hG 32 rfl
        refine lv_icmp_ge (tgt := 50) hx hb dX1_whereNow_11 (by decide) (fun c_740 => ?_) (fun c_740 => ?_)
        · refine lv_iconst (v := (-1)) hx hb dX1_whereNow_50 (by decide) ?_
          subst hQ
          exact W.iret (v := (-1)) hx hb hr (fun t1 ht hW => ⟨⟨(-1), (σ, I, J, ri, rj, rq), rfl, ⟨rfl, (rg_w (rg_k (-1 : Int32) (-1) rfl) (by decide))⟩, by rw [ht]; exact hP, va_K.moved hW.alike hK, hD⟩, hS.F ht⟩) hS.2.2 dX1_whereNow_51
        · have h_741 : rg x_708 0 29 := rg_lt1 (nle c_740) h_738 h_739 (by decide)
          have h_742 : rg (I 32 this) 1 30 := rg_lt2 (nle c_740) h_738 h_739 (by decide)
          refine lv_aload_n hx hb dX1_whereNow_14 rfl (lv_at hl 0 rfl) ?_
          obtain ⟨w_743, hR_w_743, hL_w_743, hK_w_743, hN_w_743, hT_w_743⟩ := sh_a hSH 34 (ci := 1) (kd := 14) (len := 30) rfl (by decide) hL_this hK_this
          refine pg_f (v := .ref w_743) (C := RX1) (T := TX1) (N := 3) hx hb hts (tw_i inlX1) hown hK hP hL_this hK_this (by decide) rfl 2 (by decide) (hts _ (tw_c tw_138)) (pq_hv rfl hR_w_743) dX1_whereNow_15 ?_
          refine lv_iload hx hb dX1_whereNow_18 (lv_at hl 4 rfl) ?_
          refine pl_l hx hb hK hP hL_w_743 hK_w_743 hN_w_743 (rg_in h_741 (by decide)) dX1_whereNow_20 ?_
          refine lv_topl (fun x_744 ex_744 => ?_)
          refine lv_iload_n hx hb dX1_whereNow_21 rfl (lv_at hl 1 rfl) ?_
          refine pk_i (va_runSN (As := [.long x_744, .int a0]) (rest := []) ⟨hx, hb, hml, hown, hts⟩ (s_X11_hasBit l D t σ I J ri rj rq H.size tg hSH hG.1 x_744 a0) ⟨va_cnB (host := "RingsUnder") 2 hts (tw_W tw_560) rfl rfl rfl (nl_25 hN) (hts _ (tw_c tw_2)) cd_yX11_hasBit_2 ⟨Nat.le_of_ble_eq_true rfl, Nat.le_of_ble_eq_true rfl⟩, hts (.static yX11_hasBit) (tw_c tq_static_yX11_hasBit), trivial⟩ ⟨pq_blind, pq_pre hK hN hP hD⟩ rfl rfl hl.1 rfl (lv_room (Nat.le_of_ble_eq_true rfl)) dX1_whereNow_22 ⟨Nat.le_of_ble_eq_true rfl, Nat.le_of_ble_eq_true rfl⟩) hD hS hA (fun x_745 σ1 μ1 H locs hw_746 hP hD hS => ?_)
          obtain ⟨hu_747, hr_749⟩ := hw_746
          obtain ⟨hu_747a, hu_747b⟩ := Prod.mk.inj hu_747
          rw [hu_747a, hu_747b] at hP hD
          have h_750 : rg x_745 0 1 := by rcases hr_749 with ⟨q, -⟩ | ⟨q, -⟩ <;> rw [q] <;> exact ⟨by decide, by decide⟩
          have K_762 : ∀  (x_759 : Int32) (H : Heap) (locs : List Loc) (ls : Array Slot), GX [] tg σ I ri rj I ri rj rq → va_P D vwCl (pq_P t σ (I, J, ri, rj, rq)) H → va_D A (pq_P t σ (I, J, ri, rj, rq)) → va_S A s.heap H locs → lv_has ls 5 [(0, .ref this), (1, .int a0), (2, .int a1), (3, .int x_759), (4, .int x_708)] → W p l e ({ frames := 1, cells := 0, slots := 0, locals := 22 } : Room) s m (List.toArray ([.ref this, .int a0, .int a1] : List Value)) below meth c H locs 0 0 Q (F0 m 44 ls []) := by
            intro x_759 H locs ls hG hP hD hS hl
            obtain ⟨x_763, ex_763⟩ : ∃ y : Int32, y = x_708 + Int32.ofInt 1 := ⟨_, rfl⟩
            have h_764 : rg x_763 1 30 := rg_of_eq ex_763 (rg_add h_741 (rg_k (Int32.ofInt 1) 1 rfl) (by decide))
            refine lv_iinc (v := x_763) (lv' := [(4, .int x_763), (0, .ref this), (1, .int a0), (2, .int a1), (3, .int x_759)]) hx hb dX1_whereNow_44 hl (k := 4) rfl ex_763.symm (by decide) rfl (fun ls hl => ?_)
            refine lv_goto (tgt := 5) hx hb dX1_whereNow_47 (by decide) ?_
            exact ih_736 x_759 x_763 _ _ _ (rg_w h_764 (by decide)) (ms_up 1 hm_733 ex_763 rfl (by decide) h_741 (by decide) (by decide)) hG hP hD hS (lv_sub hl [1, 2, 3, 4, 0] rfl)
          refine lv_if_eq (tgt := 44) hx hb dX1_whereNow_25 (by decide) (fun c_765 => ?_) (fun c_765 => ?_)
          · have h_766 : rg x_745 0 0 := rg_and h_750 (rg_of_eq c_765 (rg_k (0 : Int32) 0 rfl)) (by decide)
            exact K_762 x_707 _ _ _ hG hP hD hS (lv_sub hl [0, 1, 2, 3, 4] rfl)
          · have h_767 : rg x_745 1 1 := rg_ne c_765 h_750 0 rfl (by decide)
            refine lv_iload_n hx hb dX1_whereNow_28 rfl (lv_at hl 3 rfl) ?_
            refine lv_iload_n hx hb dX1_whereNow_29 rfl (lv_at hl 2 rfl) ?_
            refine lv_icmp_ne (tgt := 41) hx hb dX1_whereNow_30 (by decide) (fun c_768 => ?_) (fun c_768 => ?_)
            · obtain ⟨x_769, ex_769⟩ : ∃ y : Int32, y = x_707 + Int32.ofInt 1 := ⟨_, rfl⟩
              refine lv_iinc (v := x_769) (lv' := [(3, .int x_769), (0, .ref this), (1, .int a0), (2, .int a1), (4, .int x_708)]) hx hb dX1_whereNow_41 hl (k := 3) rfl ex_769.symm (by decide) rfl (fun ls hl => ?_)
              exact K_762 x_769 _ _ _ hG hP hD hS (lv_sub hl [1, 2, 3, 0, 4] rfl)
            · refine lv_aload_n hx hb dX1_whereNow_33 rfl (lv_at hl 0 rfl) ?_
              obtain ⟨w_770, hR_w_770, hL_w_770, hK_w_770, hN_w_770, hT_w_770⟩ := sh_a hSH 33 (ci := 1) (kd := 13) (len := 30) rfl (by decide) hL_this hK_this
              refine pg_f (v := .ref w_770) (C := RX1) (T := TX1) (N := 3) hx hb hts (tw_i inlX1) hown hK hP hL_this hK_this (by decide) rfl 1 (by decide) (hts _ (tw_c tw_137)) (pq_hv rfl hR_w_770) dX1_whereNow_34 ?_
              refine lv_iload hx hb dX1_whereNow_37 (lv_at hl 4 rfl) ?_
              refine pl_i hx hb hK hP hL_w_770 hK_w_770 hN_w_770 (rg_in h_741 (by decide)) dX1_whereNow_39 ?_
              refine lv_topi (fun x_771 ex_771 => ?_)
              have h_772 : rg x_771 0 39 := rg_of_eq ex_771 (GX.rR hG hT_w_770 rfl)
              subst hQ
              exact W.iret (v := x_771) hx hb hr (fun t1 ht hW => ⟨⟨x_771, (σ, I, J, ri, rj, rq), rfl, ⟨rfl, (rg_w h_772 (by decide))⟩, by rw [ht]; exact hP, va_K.moved hW.alike hK, hD⟩, hS.F ht⟩) hS.2.2 dX1_whereNow_40
    exact L_735 _ (0 : Int32) (0 : Int32) _ _ _ (rg_w (rg_k (0 : Int32) 0 rfl) (by decide)) (Nat.lt_succ_self _) hG hP hD hS (lv_sub hl [2, 3, 4, 1, 0] rfl)
  exact go _ _ _ hP hD hS hl

set_option maxHeartbeats 4000000 in
set_option maxRecDepth 100000 in
theorem s_X11_copy_69_69 (l : Launch) (D : va_G) (t : pq_T) (σ : pq_S) (I : Nat → Nat → Int32) (J : Nat → Nat → Int64) (ri : Nat → Nat → Int32) (rj : Nat → Nat → Int64) (rq : Nat → Nat → Option Nat) (sz : Nat) (tg : Nat → Nat) (hSH : SH σ tg) (hG0 : GS tg σ I ri rq) (a0 : Nat) (a1 : Nat) (hL_a0 : a0 ∈ σ.1) (hK_a0 : σ.2.1 a0 = 13) (hN_a0 : σ.2.2.2 a0 = 40) (hT_a0 : tg a0 = 69) (hL_a1 : a1 ∈ σ.1) (hK_a1 : σ.2.1 a1 = 13) (hN_a1 : σ.2.2.2 a1 = 40) (hT_a1 : tg a1 = 69) : MetV l yX11_copy (wa yX11_copy cX11_copy 2 none) ({ frames := 1, cells := 0, slots := 0, locals := 60 }) [.ref a0, .ref a1] D t σ (I, J, ri, rj, rq) sz 0 0 (fun (u : pq_S × pq_M) => ∃ ri' : Nat → Nat → Int32, u = (σ, I, J, ri', rj, rq) ∧ GX [1069] tg σ I ri rj I ri' rj rq ∧ (∀ j, j < 40 → ri' a1 j = ri a0 j) ∧ (∀ q, q ≠ a1 → ri' q = ri q)) := by
  refine Met.ofW (cc := cX11_copy) (maxL := 2) (ret := none) (by decide) rfl ?_
  intro p e s m args below meth c s₁ B hml hv
  obtain ⟨rfl, hsz, hP, hK, hD0, hN⟩ := hv
  have hx := B.exec
  have hb := B.bytes
  have hr := B.returns
  have hts := atoms_spec (ws := (wa yX11_copy cX11_copy 2 none)) B.pre
  have hown : s.vm.findClass RX11 = some m.cls := findClass_of_methodNamed B.named
  have hlocks := B.notSynchronized
  subst hsz
  have hD : va_D (pq_B t σ (I, J, ri, rj, rq) s.heap.size) (pq_P t σ (I, J, ri, rj, rq)) := hD0.self
  generalize hAe : pq_B t σ (I, J, ri, rj, rq) s.heap.size = A at hD ⊢
  have hA : ∀ q : Nat, s.heap.size ≤ q → A q := fun q h => by rw [← hAe]; exact Or.inr h
  have hS : va_S A s.heap s.heap [] := va_S.rf
  have hG : GX [1069] tg σ I ri rj I ri rj rq := ⟨hG0, fun _ _ _ => rfl, fun _ _ _ _ _ => rfl, fun _ _ _ _ _ => rfl⟩
  have hl := lv_entry ([.ref a0, .ref a1]) (n := 2) (Nat.le_of_ble_eq_true rfl)
  rw [lg_entry_eq]
  generalize (lg_sl ([.ref a0, .ref a1]) ++ List.replicate (2 - (lg_sl ([.ref a0, .ref a1])).length) Slot.unset).toArray = ls at hl ⊢
  have hl : lv_has ls 2 [(0, .ref a0), (1, .ref a1)] := hl
  refine q_gen (fun Q hQ => ?_)
  have go : ∀ (H : Heap) (locs : List Loc) (ls : Array Slot), va_P D vwCl (pq_P t σ (I, J, ri, rj, rq)) H → va_D A (pq_P t σ (I, J, ri, rj, rq)) → va_S A s.heap H locs → lv_has ls 2 [(0, .ref a0), (1, .ref a1)] → W p l e ({ frames := 1, cells := 0, slots := 0, locals := 60 } : Room) s m (List.toArray ([.ref a0, .ref a1] : List Value)) below meth c H locs 0 0 Q (F0 m 0 ls []) := by
    intro H locs ls hP hD hS hl
    refine lv_aload_n hx hb dX11_copy_0 rfl (lv_at hl 0 rfl) ?_
    refine lv_iconst (v := 0) hx hb dX11_copy_1 (by decide) ?_
    refine lv_aload_n hx hb dX11_copy_2 rfl (lv_at hl 1 rfl) ?_
    refine lv_iconst (v := 0) hx hb dX11_copy_3 (by decide) ?_
    refine lv_aload_n hx hb dX11_copy_4 rfl (lv_at hl 0 rfl) ?_
    refine pn_i (v := 40) hx hb hK hP hL_a0 hK_a0 hN_a0 (by decide) dX11_copy_5 ?_
    refine lv_aload_n hx hb dX11_copy_6 rfl (lv_at hl 1 rfl) ?_
    refine pn_i (v := 40) hx hb hK hP hL_a1 hK_a1 hN_a1 (by decide) dX11_copy_7 ?_
    refine va_mmin hx hb (hml.trans hl.1.symm) hown (hts _ (tw_c tw_1103)) (hts _ (tw_c tw_467)) (hts _ (tw_c tw_276)) (hts _ (tw_c tw_468)) (Nat.le_of_ble_eq_true rfl) (Nat.le_of_ble_eq_true rfl) (Nat.zero_le _) (Nat.zero_le _) dX11_copy_8 ?_
    refine lv_topi (fun x_1 ex_1 => ?_)
    have h_2 : rg x_1 40 40 := rg_of_eq ex_1 (rg_min2 (rg_k (40 : Int32) 40 rfl) (rg_k (40 : Int32) 40 rfl) (by decide))
    refine pc_i hx hb (hml.trans hl.1.symm) hown (hts _ (tw_c tw_1104)) (hts _ (tw_c tw_1105)) (hts _ (tw_c tw_1106)) (hts _ (tw_c tw_1107)) hK hP hD hS hL_a0 hK_a0 hN_a0 hL_a1 hK_a1 hN_a1 (rg_pos (rg_k (0 : Int32) 0 rfl) (by decide)) (rg_pos h_2 (by decide)) (rg_cp (rg_k (0 : Int32) 0 rfl) h_2 (by decide)) (rg_cl h_2 (by decide)) (Nat.le_of_ble_eq_true rfl) (Nat.le_of_ble_eq_true rfl) dX11_copy_11 (fun r_3 H locs er_3 hP hD hS => ?_)
    have hG := GX.cR hG hSH hT_a0 rfl hT_a1 rfl er_3 (by decide)
    subst hQ
    exact W.vret hx hb hr (fun t1 ht hW => ⟨⟨(σ, I, J, r_3, rj, rq), rfl, ⟨r_3, rfl, hG, (cpy_eq er_3 h_2 rfl), (fun q hq => by rw [er_3, va_up_ne _ _ hq])⟩, by rw [ht]; exact hP, va_K.moved hW.alike hK, hD⟩, hS.F ht⟩) hS.2.2 dX11_copy_14
  exact go _ _ _ hP hD hS hl

set_option maxHeartbeats 4000000 in
set_option maxRecDepth 100000 in
theorem s_X11_copy_70_70 (l : Launch) (D : va_G) (t : pq_T) (σ : pq_S) (I : Nat → Nat → Int32) (J : Nat → Nat → Int64) (ri : Nat → Nat → Int32) (rj : Nat → Nat → Int64) (rq : Nat → Nat → Option Nat) (sz : Nat) (tg : Nat → Nat) (hSH : SH σ tg) (hG0 : GS tg σ I ri rq) (a0 : Nat) (a1 : Nat) (hL_a0 : a0 ∈ σ.1) (hK_a0 : σ.2.1 a0 = 13) (hN_a0 : σ.2.2.2 a0 = 40) (hT_a0 : tg a0 = 70) (hL_a1 : a1 ∈ σ.1) (hK_a1 : σ.2.1 a1 = 13) (hN_a1 : σ.2.2.2 a1 = 40) (hT_a1 : tg a1 = 70) : MetV l yX11_copy (wa yX11_copy cX11_copy 2 none) ({ frames := 1, cells := 0, slots := 0, locals := 60 }) [.ref a0, .ref a1] D t σ (I, J, ri, rj, rq) sz 0 0 (fun (u : pq_S × pq_M) => ∃ ri' : Nat → Nat → Int32, u = (σ, I, J, ri', rj, rq) ∧ GX [1070] tg σ I ri rj I ri' rj rq ∧ (∀ j, j < 40 → ri' a1 j = ri a0 j) ∧ (∀ q, q ≠ a1 → ri' q = ri q)) := by
  refine Met.ofW (cc := cX11_copy) (maxL := 2) (ret := none) (by decide) rfl ?_
  intro p e s m args below meth c s₁ B hml hv
  obtain ⟨rfl, hsz, hP, hK, hD0, hN⟩ := hv
  have hx := B.exec
  have hb := B.bytes
  have hr := B.returns
  have hts := atoms_spec (ws := (wa yX11_copy cX11_copy 2 none)) B.pre
  have hown : s.vm.findClass RX11 = some m.cls := findClass_of_methodNamed B.named
  have hlocks := B.notSynchronized
  subst hsz
  have hD : va_D (pq_B t σ (I, J, ri, rj, rq) s.heap.size) (pq_P t σ (I, J, ri, rj, rq)) := hD0.self
  generalize hAe : pq_B t σ (I, J, ri, rj, rq) s.heap.size = A at hD ⊢
  have hA : ∀ q : Nat, s.heap.size ≤ q → A q := fun q h => by rw [← hAe]; exact Or.inr h
  have hS : va_S A s.heap s.heap [] := va_S.rf
  have hG : GX [1070] tg σ I ri rj I ri rj rq := ⟨hG0, fun _ _ _ => rfl, fun _ _ _ _ _ => rfl, fun _ _ _ _ _ => rfl⟩
  have hl := lv_entry ([.ref a0, .ref a1]) (n := 2) (Nat.le_of_ble_eq_true rfl)
  rw [lg_entry_eq]
  generalize (lg_sl ([.ref a0, .ref a1]) ++ List.replicate (2 - (lg_sl ([.ref a0, .ref a1])).length) Slot.unset).toArray = ls at hl ⊢
  have hl : lv_has ls 2 [(0, .ref a0), (1, .ref a1)] := hl
  refine q_gen (fun Q hQ => ?_)
  have go : ∀ (H : Heap) (locs : List Loc) (ls : Array Slot), va_P D vwCl (pq_P t σ (I, J, ri, rj, rq)) H → va_D A (pq_P t σ (I, J, ri, rj, rq)) → va_S A s.heap H locs → lv_has ls 2 [(0, .ref a0), (1, .ref a1)] → W p l e ({ frames := 1, cells := 0, slots := 0, locals := 60 } : Room) s m (List.toArray ([.ref a0, .ref a1] : List Value)) below meth c H locs 0 0 Q (F0 m 0 ls []) := by
    intro H locs ls hP hD hS hl
    refine lv_aload_n hx hb dX11_copy_0 rfl (lv_at hl 0 rfl) ?_
    refine lv_iconst (v := 0) hx hb dX11_copy_1 (by decide) ?_
    refine lv_aload_n hx hb dX11_copy_2 rfl (lv_at hl 1 rfl) ?_
    refine lv_iconst (v := 0) hx hb dX11_copy_3 (by decide) ?_
    refine lv_aload_n hx hb dX11_copy_4 rfl (lv_at hl 0 rfl) ?_
    refine pn_i (v := 40) hx hb hK hP hL_a0 hK_a0 hN_a0 (by decide) dX11_copy_5 ?_
    refine lv_aload_n hx hb dX11_copy_6 rfl (lv_at hl 1 rfl) ?_
    refine pn_i (v := 40) hx hb hK hP hL_a1 hK_a1 hN_a1 (by decide) dX11_copy_7 ?_
    refine va_mmin hx hb (hml.trans hl.1.symm) hown (hts _ (tw_c tw_1103)) (hts _ (tw_c tw_467)) (hts _ (tw_c tw_276)) (hts _ (tw_c tw_468)) (Nat.le_of_ble_eq_true rfl) (Nat.le_of_ble_eq_true rfl) (Nat.zero_le _) (Nat.zero_le _) dX11_copy_8 ?_
    refine lv_topi (fun x_1 ex_1 => ?_)
    have h_2 : rg x_1 40 40 := rg_of_eq ex_1 (rg_min2 (rg_k (40 : Int32) 40 rfl) (rg_k (40 : Int32) 40 rfl) (by decide))
    refine pc_i hx hb (hml.trans hl.1.symm) hown (hts _ (tw_c tw_1104)) (hts _ (tw_c tw_1105)) (hts _ (tw_c tw_1106)) (hts _ (tw_c tw_1107)) hK hP hD hS hL_a0 hK_a0 hN_a0 hL_a1 hK_a1 hN_a1 (rg_pos (rg_k (0 : Int32) 0 rfl) (by decide)) (rg_pos h_2 (by decide)) (rg_cp (rg_k (0 : Int32) 0 rfl) h_2 (by decide)) (rg_cl h_2 (by decide)) (Nat.le_of_ble_eq_true rfl) (Nat.le_of_ble_eq_true rfl) dX11_copy_11 (fun r_3 H locs er_3 hP hD hS => ?_)
    have hG := GX.cR hG hSH hT_a0 rfl hT_a1 rfl er_3 (by decide)
    subst hQ
    exact W.vret hx hb hr (fun t1 ht hW => ⟨⟨(σ, I, J, r_3, rj, rq), rfl, ⟨r_3, rfl, hG, (cpy_eq er_3 h_2 rfl), (fun q hq => by rw [er_3, va_up_ne _ _ hq])⟩, by rw [ht]; exact hP, va_K.moved hW.alike hK, hD⟩, hS.F ht⟩) hS.2.2 dX11_copy_14
  exact go _ _ _ hP hD hS hl
