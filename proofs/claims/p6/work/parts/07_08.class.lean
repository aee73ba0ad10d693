theorem dX0_freeBeds_0 : decode cX0_freeBeds 0 = .ok (.aload_n 0, 1) := oc_42 (by decide +kernel)
theorem dX0_freeBeds_1 : decode cX0_freeBeds 1 = .ok (.getfield 39, 3) := oc_180 (a := 0) (b := 39) (by decide +kernel)
theorem dX0_freeBeds_4 : decode cX0_freeBeds 4 = .ok (.iload_n 1, 1) := oc_27 (by decide +kernel)
theorem dX0_freeBeds_5 : decode cX0_freeBeds 5 = .ok (.iaload, 1) := oc_46 (by decide +kernel)
theorem dX0_freeBeds_6 : decode cX0_freeBeds 6 = .ok (.aload_n 0, 1) := oc_42 (by decide +kernel)
theorem dX0_freeBeds_7 : decode cX0_freeBeds 7 = .ok (.bipush 100, 2) := oc_16 (a := 100) (by decide +kernel)
theorem dX0_freeBeds_9 : decode cX0_freeBeds 9 = .ok (.iload_n 1, 1) := oc_27 (by decide +kernel)
theorem dX0_freeBeds_10 : decode cX0_freeBeds 10 = .ok (.iadd, 1) := oc_96 (by decide +kernel)
theorem tw_417 : Cond.methodLink RX0 69 yX0_countAt ∈ wsL_law := sg_18 _ (List.mem_of_getElem? (i := 9) rfl)
theorem tw_418 : Cond.instanceMethod yX0_countAt ∈ wsL_law := sg_18 _ (List.mem_of_getElem? (i := 10) rfl)
theorem tw_419 : Cond.selects RX0 yX0_countAt yX0_countAt ∈ wsL_law := sg_18 _ (List.mem_of_getElem? (i := 11) rfl)
theorem tw_420 : Cond.code yX0_countAt cX0_countAt 4 (some .int) ∈ wsL_law := sg_18 _ (List.mem_of_getElem? (i := 12) rfl)
theorem dX0_freeBeds_11 : decode cX0_freeBeds 11 = .ok (.invokevirtual 69, 3) := oc_182 (a := 0) (b := 69) (by decide +kernel)
theorem dX0_freeBeds_14 : decode cX0_freeBeds 14 = .ok (.isub, 1) := oc_100 (by decide +kernel)
theorem dX0_freeBeds_15 : decode cX0_freeBeds 15 = .ok (.ireturn, 1) := oc_172 (by decide +kernel)
theorem dX0_sendings_0 : decode cX0_sendings 0 = .ok (.iconst 0, 1) := oc_3 (by decide +kernel)
theorem dX0_sendings_1 : decode cX0_sendings 1 = .ok (.istore_n 1, 1) := oc_60 (by decide +kernel)
theorem dX0_sendings_2 : decode cX0_sendings 2 = .ok (.iconst 0, 1) := oc_3 (by decide +kernel)
theorem dX0_sendings_3 : decode cX0_sendings 3 = .ok (.istore_n 2, 1) := oc_61 (by decide +kernel)
theorem dX0_sendings_4 : decode cX0_sendings 4 = .ok (.iload_n 2, 1) := oc_28 (by decide +kernel)
theorem dX0_sendings_5 : decode cX0_sendings 5 = .ok (.aload_n 0, 1) := oc_42 (by decide +kernel)
theorem dX0_sendings_6 : decode cX0_sendings 6 = .ok (.getfield 54, 3) := oc_180 (a := 0) (b := 54) (by decide +kernel)
theorem dX0_sendings_9 : decode cX0_sendings 9 = .ok (.if_icmp .ge 30, 3) := oc_162 (a := 0) (b := 30) (by decide +kernel)
theorem dX0_sendings_39 : decode cX0_sendings 39 = .ok (.iload_n 1, 1) := oc_27 (by decide +kernel)
theorem dX0_sendings_40 : decode cX0_sendings 40 = .ok (.ireturn, 1) := oc_172 (by decide +kernel)
theorem dX0_sendings_12 : decode cX0_sendings 12 = .ok (.aload_n 0, 1) := oc_42 (by decide +kernel)
theorem dX0_sendings_13 : decode cX0_sendings 13 = .ok (.getfield 24, 3) := oc_180 (a := 0) (b := 24) (by decide +kernel)
theorem dX0_sendings_16 : decode cX0_sendings 16 = .ok (.iload_n 2, 1) := oc_28 (by decide +kernel)
theorem dX0_sendings_17 : decode cX0_sendings 17 = .ok (.iaload, 1) := oc_46 (by decide +kernel)
theorem dX0_sendings_18 : decode cX0_sendings 18 = .ok (.sipush 200, 3) := oc_17 (a := 0) (b := 200) (by decide +kernel)
theorem dX0_sendings_33 : decode cX0_sendings 33 = .ok (.iinc 2 1, 3) := oc_132 (b := 1) (by decide +kernel)
theorem dX0_sendings_36 : decode cX0_sendings 36 = .ok (.goto (-32), 3) := oc_167 (a := 255) (b := 224) (by decide +kernel)
theorem dX0_sendings_21 : decode cX0_sendings 21 = .ok (.if_icmp .ne 12, 3) := oc_160 (a := 0) (b := 12) (by decide +kernel)
theorem dX0_sendings_24 : decode cX0_sendings 24 = .ok (.iload_n 1, 1) := oc_27 (by decide +kernel)
theorem dX0_sendings_25 : decode cX0_sendings 25 = .ok (.aload_n 0, 1) := oc_42 (by decide +kernel)
theorem dX0_sendings_26 : decode cX0_sendings 26 = .ok (.getfield 21, 3) := oc_180 (a := 0) (b := 21) (by decide +kernel)
theorem dX0_sendings_29 : decode cX0_sendings 29 = .ok (.iload_n 2, 1) := oc_28 (by decide +kernel)
theorem dX0_sendings_30 : decode cX0_sendings 30 = .ok (.iaload, 1) := oc_46 (by decide +kernel)
theorem dX0_sendings_31 : decode cX0_sendings 31 = .ok (.iadd, 1) := oc_96 (by decide +kernel)
theorem dX0_sendings_32 : decode cX0_sendings 32 = .ok (.istore_n 1, 1) := oc_60 (by decide +kernel)
theorem dX11_hasBit_0 : decode cX11_hasBit 0 = .ok (.lload_n 0, 1) := oc_30 (by decide +kernel)
theorem dX11_hasBit_1 : decode cX11_hasBit 1 = .ok (.iload_n 2, 1) := oc_28 (by decide +kernel)
theorem dX11_hasBit_2 : decode cX11_hasBit 2 = .ok (.lushr, 1) := oc_125 (by decide +kernel)
theorem dX11_hasBit_3 : decode cX11_hasBit 3 = .ok (.lconst 1, 1) := oc_10 (by decide +kernel)
theorem dX11_hasBit_4 : decode cX11_hasBit 4 = .ok (.land, 1) := oc_127 (by decide +kernel)
theorem dX11_hasBit_5 : decode cX11_hasBit 5 = .ok (.lconst 0, 1) := oc_9 (by decide +kernel)
theorem dX11_hasBit_6 : decode cX11_hasBit 6 = .ok (.lcmp, 1) := oc_148 (by decide +kernel)
theorem dX11_hasBit_7 : decode cX11_hasBit 7 = .ok (.ifCond .eq 7, 3) := oc_153 (a := 0) (b := 7) (by decide +kernel)
theorem dX11_hasBit_14 : decode cX11_hasBit 14 = .ok (.iconst 0, 1) := oc_3 (by decide +kernel)
theorem dX11_hasBit_15 : decode cX11_hasBit 15 = .ok (.ireturn, 1) := oc_172 (by decide +kernel)
theorem dX11_hasBit_10 : decode cX11_hasBit 10 = .ok (.iconst 1, 1) := oc_4 (by decide +kernel)
theorem dX11_hasBit_11 : decode cX11_hasBit 11 = .ok (.goto 4, 3) := oc_167 (a := 0) (b := 4) (by decide +kernel)
theorem dX0_countVotes_0 : decode cX0_countVotes 0 = .ok (.iconst 0, 1) := oc_3 (by decide +kernel)
theorem dX0_countVotes_1 : decode cX0_countVotes 1 = .ok (.istore 4, 2) := oc_54 (by decide +kernel)
theorem dX0_countVotes_3 : decode cX0_countVotes 3 = .ok (.iconst 0, 1) := oc_3 (by decide +kernel)
theorem dX0_countVotes_4 : decode cX0_countVotes 4 = .ok (.istore 5, 2) := oc_54 (by decide +kernel)
theorem dX0_countVotes_6 : decode cX0_countVotes 6 = .ok (.iload 5, 2) := oc_21 (by decide +kernel)
theorem dX0_countVotes_8 : decode cX0_countVotes 8 = .ok (.aload_n 0, 1) := oc_42 (by decide +kernel)
theorem dX0_countVotes_9 : decode cX0_countVotes 9 = .ok (.getfield 54, 3) := oc_180 (a := 0) (b := 54) (by decide +kernel)
theorem dX0_countVotes_12 : decode cX0_countVotes 12 = .ok (.if_icmp .ge 32, 3) := oc_162 (a := 0) (b := 32) (by decide +kernel)
theorem dX0_countVotes_44 : decode cX0_countVotes 44 = .ok (.iload 4, 2) := oc_21 (by decide +kernel)
theorem dX0_countVotes_46 : decode cX0_countVotes 46 = .ok (.ireturn, 1) := oc_172 (by decide +kernel)
theorem dX0_countVotes_15 : decode cX0_countVotes 15 = .ok (.lload_n 1, 1) := oc_31 (by decide +kernel)
theorem dX0_countVotes_16 : decode cX0_countVotes 16 = .ok (.iload 5, 2) := oc_21 (by decide +kernel)
theorem tw_560 : Cond.code yX11_hasBit cX11_hasBit 3 (some .boolean) ∈ wsL_law := sg_24 _ (List.mem_of_getElem? (i := 8) rfl)
theorem dX0_countVotes_18 : decode cX0_countVotes 18 = .ok (.invokestatic 73, 3) := oc_184 (a := 0) (b := 73) (by decide +kernel)
theorem dX0_countVotes_38 : decode cX0_countVotes 38 = .ok (.iinc 5 1, 3) := oc_132 (b := 1) (by decide +kernel)
theorem dX0_countVotes_41 : decode cX0_countVotes 41 = .ok (.goto (-35), 3) := oc_167 (a := 255) (b := 221) (by decide +kernel)
theorem dX0_countVotes_21 : decode cX0_countVotes 21 = .ok (.ifCond .eq 17, 3) := oc_153 (a := 0) (b := 17) (by decide +kernel)
theorem dX0_countVotes_24 : decode cX0_countVotes 24 = .ok (.aload_n 0, 1) := oc_42 (by decide +kernel)
theorem dX0_countVotes_25 : decode cX0_countVotes 25 = .ok (.getfield 36, 3) := oc_180 (a := 0) (b := 36) (by decide +kernel)
theorem dX0_countVotes_28 : decode cX0_countVotes 28 = .ok (.iload 5, 2) := oc_21 (by decide +kernel)
theorem dX0_countVotes_30 : decode cX0_countVotes 30 = .ok (.iaload, 1) := oc_46 (by decide +kernel)
theorem dX0_countVotes_31 : decode cX0_countVotes 31 = .ok (.iload_n 3, 1) := oc_29 (by decide +kernel)
theorem dX0_countVotes_32 : decode cX0_countVotes 32 = .ok (.if_icmp .ne 6, 3) := oc_160 (a := 0) (b := 6) (by decide +kernel)
theorem dX0_countVotes_35 : decode cX0_countVotes 35 = .ok (.iinc 4 1, 3) := oc_132 (b := 1) (by decide +kernel)
theorem dX0_valueOf_0 : decode cX0_valueOf 0 = .ok (.iload_n 2, 1) := oc_28 (by decide +kernel)
theorem dX0_valueOf_1 : decode cX0_valueOf 1 = .ok (.tableswitch 65 12 16 #[35, 42, 49, 56, 63], 35) := by decide +kernel
theorem dX0_valueOf_36 : decode cX0_valueOf 36 = .ok (.aload_n 0, 1) := oc_42 (by decide +kernel)
theorem dX0_valueOf_37 : decode cX0_valueOf 37 = .ok (.getfield 15, 3) := oc_180 (a := 0) (b := 15) (by decide +kernel)
theorem dX0_valueOf_40 : decode cX0_valueOf 40 = .ok (.iload_n 1, 1) := oc_27 (by decide +kernel)
theorem dX0_valueOf_41 : decode cX0_valueOf 41 = .ok (.iaload, 1) := oc_46 (by decide +kernel)
theorem dX0_valueOf_42 : decode cX0_valueOf 42 = .ok (.ireturn, 1) := oc_172 (by decide +kernel)
theorem dX0_valueOf_43 : decode cX0_valueOf 43 = .ok (.aload_n 0, 1) := oc_42 (by decide +kernel)
theorem dX0_valueOf_44 : decode cX0_valueOf 44 = .ok (.getfield 9, 3) := oc_180 (a := 0) (b := 9) (by decide +kernel)
theorem dX0_valueOf_47 : decode cX0_valueOf 47 = .ok (.iload_n 1, 1) := oc_27 (by decide +kernel)
theorem dX0_valueOf_48 : decode cX0_valueOf 48 = .ok (.iaload, 1) := oc_46 (by decide +kernel)
theorem dX0_valueOf_49 : decode cX0_valueOf 49 = .ok (.ireturn, 1) := oc_172 (by decide +kernel)
theorem dX0_valueOf_50 : decode cX0_valueOf 50 = .ok (.aload_n 0, 1) := oc_42 (by decide +kernel)
theorem dX0_valueOf_51 : decode cX0_valueOf 51 = .ok (.getfield 18, 3) := oc_180 (a := 0) (b := 18) (by decide +kernel)
theorem dX0_valueOf_54 : decode cX0_valueOf 54 = .ok (.iload_n 1, 1) := oc_27 (by decide +kernel)
theorem dX0_valueOf_55 : decode cX0_valueOf 55 = .ok (.iaload, 1) := oc_46 (by decide +kernel)
theorem dX0_valueOf_56 : decode cX0_valueOf 56 = .ok (.ireturn, 1) := oc_172 (by decide +kernel)
theorem dX0_valueOf_57 : decode cX0_valueOf 57 = .ok (.aload_n 0, 1) := oc_42 (by decide +kernel)
theorem dX0_valueOf_58 : decode cX0_valueOf 58 = .ok (.getfield 24, 3) := oc_180 (a := 0) (b := 24) (by decide +kernel)
theorem dX0_valueOf_61 : decode cX0_valueOf 61 = .ok (.iload_n 1, 1) := oc_27 (by decide +kernel)
theorem dX0_valueOf_62 : decode cX0_valueOf 62 = .ok (.iaload, 1) := oc_46 (by decide +kernel)
theorem dX0_valueOf_63 : decode cX0_valueOf 63 = .ok (.ireturn, 1) := oc_172 (by decide +kernel)
theorem dX0_valueOf_64 : decode cX0_valueOf 64 = .ok (.iload_n 3, 1) := oc_29 (by decide +kernel)
theorem dX0_valueOf_65 : decode cX0_valueOf 65 = .ok (.ireturn, 1) := oc_172 (by decide +kernel)
theorem dX0_valueOf_66 : decode cX0_valueOf 66 = .ok (.iconst 0, 1) := oc_3 (by decide +kernel)
theorem dX0_valueOf_67 : decode cX0_valueOf 67 = .ok (.ireturn, 1) := oc_172 (by decide +kernel)
theorem dX9_isAt_0 : decode cX9_isAt 0 = .ok (.aload_n 0, 1) := oc_42 (by decide +kernel)
theorem tw_104 : Cond.fieldLink RX9 9 "RingsUnder$Wells" "gathers" "[I" ∈ wsL_law := sg_5 _ (List.mem_of_getElem? (i := 8) rfl)
theorem dX9_isAt_1 : decode cX9_isAt 1 = .ok (.getfield 9, 3) := oc_180 (a := 0) (b := 9) (by decide +kernel)
theorem dX9_isAt_4 : decode cX9_isAt 4 = .ok (.iload_n 1, 1) := oc_27 (by decide +kernel)
theorem dX9_isAt_5 : decode cX9_isAt 5 = .ok (.iaload, 1) := oc_46 (by decide +kernel)
theorem dX9_isAt_6 : decode cX9_isAt 6 = .ok (.ifCond .le 7, 3) := oc_158 (a := 0) (b := 7) (by decide +kernel)
theorem dX9_isAt_13 : decode cX9_isAt 13 = .ok (.iconst 0, 1) := oc_3 (by decide +kernel)
theorem dX9_isAt_14 : decode cX9_isAt 14 = .ok (.ireturn, 1) := oc_172 (by decide +kernel)
theorem dX9_isAt_9 : decode cX9_isAt 9 = .ok (.iconst 1, 1) := oc_4 (by decide +kernel)
theorem dX9_isAt_10 : decode cX9_isAt 10 = .ok (.goto 4, 3) := oc_167 (a := 0) (b := 4) (by decide +kernel)
theorem dX9_isSweet_0 : decode cX9_isSweet 0 = .ok (.aload_n 0, 1) := oc_42 (by decide +kernel)
theorem dX9_isSweet_1 : decode cX9_isSweet 1 = .ok (.iload_n 1, 1) := oc_27 (by decide +kernel)
theorem tw_1089 : Cond.methodLink RX9 25 yX9_isAt ∈ wsL_law := sg_46 _ (List.mem_of_getElem? (i := 9) rfl)
theorem tw_350 : Cond.instanceMethod yX9_isAt ∈ wsL_law := sg_15 _ (List.mem_of_getElem? (i := 14) rfl)
theorem tw_351 : Cond.selects RX9 yX9_isAt yX9_isAt ∈ wsL_law := sg_15 _ (List.mem_of_getElem? (i := 15) rfl)
theorem tw_94 : Cond.initialized RX9 ∈ wsL_law := sg_4 _ (List.mem_of_getElem? (i := 22) rfl)
theorem tw_352 : Cond.code yX9_isAt cX9_isAt 2 (some .boolean) ∈ wsL_law := sg_15 _ (List.mem_of_getElem? (i := 16) rfl)
theorem dX9_isSweet_2 : decode cX9_isSweet 2 = .ok (.invokevirtual 25, 3) := oc_182 (a := 0) (b := 25) (by decide +kernel)
theorem dX9_isSweet_34 : decode cX9_isSweet 34 = .ok (.iconst 0, 1) := oc_3 (by decide +kernel)
theorem dX9_isSweet_35 : decode cX9_isSweet 35 = .ok (.ireturn, 1) := oc_172 (by decide +kernel)
theorem dX9_isSweet_5 : decode cX9_isSweet 5 = .ok (.ifCond .eq 29, 3) := oc_153 (a := 0) (b := 29) (by decide +kernel)
theorem dX9_isSweet_8 : decode cX9_isSweet 8 = .ok (.aload_n 0, 1) := oc_42 (by decide +kernel)
theorem tw_106 : Cond.fieldLink RX9 18 "RingsUnder$Wells" "salt" "[I" ∈ wsL_law := sg_5 _ (List.mem_of_getElem? (i := 10) rfl)
theorem dX9_isSweet_9 : decode cX9_isSweet 9 = .ok (.getfield 18, 3) := oc_180 (a := 0) (b := 18) (by decide +kernel)
theorem dX9_isSweet_12 : decode cX9_isSweet 12 = .ok (.iload_n 1, 1) := oc_27 (by decide +kernel)
theorem dX9_isSweet_13 : decode cX9_isSweet 13 = .ok (.iaload, 1) := oc_46 (by decide +kernel)
theorem dX9_isSweet_14 : decode cX9_isSweet 14 = .ok (.bipush 20, 2) := oc_16 (a := 20) (by decide +kernel)
theorem dX9_isSweet_16 : decode cX9_isSweet 16 = .ok (.if_icmp .gt 18, 3) := oc_163 (a := 0) (b := 18) (by decide +kernel)
theorem dX9_isSweet_19 : decode cX9_isSweet 19 = .ok (.aload_n 0, 1) := oc_42 (by decide +kernel)
theorem tw_105 : Cond.fieldLink RX9 15 "RingsUnder$Wells" "lens" "[I" ∈ wsL_law := sg_5 _ (List.mem_of_getElem? (i := 9) rfl)
theorem dX9_isSweet_20 : decode cX9_isSweet 20 = .ok (.getfield 15, 3) := oc_180 (a := 0) (b := 15) (by decide +kernel)
theorem dX9_isSweet_23 : decode cX9_isSweet 23 = .ok (.iload_n 1, 1) := oc_27 (by decide +kernel)
theorem dX9_isSweet_24 : decode cX9_isSweet 24 = .ok (.iaload, 1) := oc_46 (by decide +kernel)
theorem dX9_isSweet_25 : decode cX9_isSweet 25 = .ok (.bipush 10, 2) := oc_16 (a := 10) (by decide +kernel)
theorem dX9_isSweet_27 : decode cX9_isSweet 27 = .ok (.if_icmp .lt 7, 3) := oc_161 (a := 0) (b := 7) (by decide +kernel)
theorem dX9_isSweet_30 : decode cX9_isSweet 30 = .ok (.iconst 1, 1) := oc_4 (by decide +kernel)
theorem dX9_isSweet_31 : decode cX9_isSweet 31 = .ok (.goto 4, 3) := oc_167 (a := 0) (b := 4) (by decide +kernel)
theorem dX2_sweetFrom_0 : decode cX2_sweetFrom 0 = .ok (.iload_n 1, 1) := oc_27 (by decide +kernel)
theorem dX2_sweetFrom_1 : decode cX2_sweetFrom 1 = .ok (.istore_n 2, 1) := oc_61 (by decide +kernel)
theorem dX2_sweetFrom_2 : decode cX2_sweetFrom 2 = .ok (.iconst 0, 1) := oc_3 (by decide +kernel)
theorem dX2_sweetFrom_3 : decode cX2_sweetFrom 3 = .ok (.istore_n 3, 1) := oc_62 (by decide +kernel)
theorem dX2_sweetFrom_4 : decode cX2_sweetFrom 4 = .ok (.iload_n 3, 1) := oc_29 (by decide +kernel)
theorem dX2_sweetFrom_5 : decode cX2_sweetFrom 5 = .ok (.aload_n 0, 1) := oc_42 (by decide +kernel)
theorem tw_222 : Cond.fieldLink RX2 73 "RingsUnder$Land" "cells" "I" ∈ wsL_law := sg_10 _ (List.mem_of_getElem? (i := 6) rfl)
theorem dX2_sweetFrom_6 : decode cX2_sweetFrom 6 = .ok (.getfield 73, 3) := oc_180 (a := 0) (b := 73) (by decide +kernel)
theorem dX2_sweetFrom_41 : decode cX2_sweetFrom 41 = .ok (.iload_n 2, 1) := oc_28 (by decide +kernel)
theorem dX2_sweetFrom_42 : decode cX2_sweetFrom 42 = .ok (.ireturn, 1) := oc_172 (by decide +kernel)
theorem dX2_sweetFrom_9 : decode cX2_sweetFrom 9 = .ok (.if_icmp .ge 32, 3) := oc_162 (a := 0) (b := 32) (by decide +kernel)
theorem dX2_sweetFrom_12 : decode cX2_sweetFrom 12 = .ok (.iload_n 2, 1) := oc_28 (by decide +kernel)
theorem dX2_sweetFrom_13 : decode cX2_sweetFrom 13 = .ok (.iconst (-1), 1) := oc_2 (by decide +kernel)
theorem dX2_sweetFrom_14 : decode cX2_sweetFrom 14 = .ok (.if_icmp .eq 27, 3) := oc_159 (a := 0) (b := 27) (by decide +kernel)
theorem dX2_sweetFrom_17 : decode cX2_sweetFrom 17 = .ok (.aload_n 0, 1) := oc_42 (by decide +kernel)
theorem tw_95 : Cond.fieldLink RX2 46 "RingsUnder$Land" "wells" "LRingsUnder$Wells;" ∈ wsL_law := sg_4 _ (List.mem_of_getElem? (i := 23) rfl)
theorem dX2_sweetFrom_18 : decode cX2_sweetFrom 18 = .ok (.getfield 46, 3) := oc_180 (a := 0) (b := 46) (by decide +kernel)
theorem dX2_sweetFrom_21 : decode cX2_sweetFrom 21 = .ok (.iload_n 2, 1) := oc_28 (by decide +kernel)
theorem tw_1116 : Cond.methodLink RX2 122 yX9_isSweet ∈ wsL_law := sg_47 _ (List.mem_of_getElem? (i := 12) rfl)
theorem tw_1117 : Cond.instanceMethod yX9_isSweet ∈ wsL_law := sg_47 _ (List.mem_of_getElem? (i := 13) rfl)
theorem tw_1118 : Cond.selects RX9 yX9_isSweet yX9_isSweet ∈ wsL_law := sg_47 _ (List.mem_of_getElem? (i := 14) rfl)
theorem tw_1119 : Cond.code yX9_isSweet cX9_isSweet 2 (some .boolean) ∈ wsL_law := sg_47 _ (List.mem_of_getElem? (i := 15) rfl)
theorem dX2_sweetFrom_22 : decode cX2_sweetFrom 22 = .ok (.invokevirtual 122, 3) := oc_182 (a := 0) (b := 122) (by decide +kernel)
theorem dX2_sweetFrom_25 : decode cX2_sweetFrom 25 = .ok (.ifCond .ne 16, 3) := oc_154 (a := 0) (b := 16) (by decide +kernel)
theorem dX2_sweetFrom_28 : decode cX2_sweetFrom 28 = .ok (.aload_n 0, 1) := oc_42 (by decide +kernel)
theorem tw_96 : Cond.fieldLink RX2 50 "RingsUnder$Land" "next" "[I" ∈ wsL_law := sg_5 _ (List.mem_of_getElem? (i := 0) rfl)
theorem dX2_sweetFrom_29 : decode cX2_sweetFrom 29 = .ok (.getfield 50, 3) := oc_180 (a := 0) (b := 50) (by decide +kernel)
theorem dX2_sweetFrom_32 : decode cX2_sweetFrom 32 = .ok (.iload_n 2, 1) := oc_28 (by decide +kernel)
theorem dX2_sweetFrom_33 : decode cX2_sweetFrom 33 = .ok (.iaload, 1) := oc_46 (by decide +kernel)
theorem dX2_sweetFrom_34 : decode cX2_sweetFrom 34 = .ok (.istore_n 2, 1) := oc_61 (by decide +kernel)
theorem dX2_sweetFrom_35 : decode cX2_sweetFrom 35 = .ok (.iinc 3 1, 3) := oc_132 (b := 1) (by decide +kernel)
theorem dX2_sweetFrom_38 : decode cX2_sweetFrom 38 = .ok (.goto (-34), 3) := oc_167 (a := 255) (b := 222) (by decide +kernel)
theorem dX0_drink_0 : decode cX0_drink 0 = .ok (.aload_n 1, 1) := oc_43 (by decide +kernel)
theorem tw_1098 : Cond.fieldLink RX0 77 "RingsUnder$Land" "first" "[I" ∈ wsL_law := sg_46 _ (List.mem_of_getElem? (i := 18) rfl)
theorem dX0_drink_1 : decode cX0_drink 1 = .ok (.getfield 77, 3) := oc_180 (a := 0) (b := 77) (by decide +kernel)
theorem dX0_drink_4 : decode cX0_drink 4 = .ok (.aload_n 0, 1) := oc_42 (by decide +kernel)
theorem tw_120 : Cond.fieldLink RX0 42 "RingsUnder$Folk" "ofRing" "[I" ∈ wsL_law := sg_6 _ (List.mem_of_getElem? (i := 0) rfl)
theorem dX0_drink_5 : decode cX0_drink 5 = .ok (.getfield 42, 3) := oc_180 (a := 0) (b := 42) (by decide +kernel)
theorem dX0_drink_8 : decode cX0_drink 8 = .ok (.invokestatic 58, 3) := oc_184 (a := 0) (b := 58) (by decide +kernel)
theorem dX0_drink_11 : decode cX0_drink 11 = .ok (.iconst 0, 1) := oc_3 (by decide +kernel)
theorem dX0_drink_12 : decode cX0_drink 12 = .ok (.istore_n 2, 1) := oc_61 (by decide +kernel)
theorem dX0_drink_13 : decode cX0_drink 13 = .ok (.iconst 0, 1) := oc_3 (by decide +kernel)
theorem dX0_drink_14 : decode cX0_drink 14 = .ok (.istore_n 3, 1) := oc_62 (by decide +kernel)
theorem dX0_drink_15 : decode cX0_drink 15 = .ok (.iload_n 3, 1) := oc_29 (by decide +kernel)
theorem dX0_drink_16 : decode cX0_drink 16 = .ok (.aload_n 0, 1) := oc_42 (by decide +kernel)
theorem dX0_drink_17 : decode cX0_drink 17 = .ok (.getfield 54, 3) := oc_180 (a := 0) (b := 54) (by decide +kernel)
theorem dX0_drink_20 : decode cX0_drink 20 = .ok (.if_icmp .ge 84, 3) := oc_162 (a := 0) (b := 84) (by decide +kernel)
theorem dX0_drink_104 : decode cX0_drink 104 = .ok (.iload_n 2, 1) := oc_28 (by decide +kernel)
theorem dX0_drink_105 : decode cX0_drink 105 = .ok (.ireturn, 1) := oc_172 (by decide +kernel)
theorem dX0_drink_23 : decode cX0_drink 23 = .ok (.aload_n 0, 1) := oc_42 (by decide +kernel)
theorem dX0_drink_24 : decode cX0_drink 24 = .ok (.iload_n 3, 1) := oc_29 (by decide +kernel)
theorem dX0_drink_25 : decode cX0_drink 25 = .ok (.invokevirtual 65, 3) := oc_182 (a := 0) (b := 65) (by decide +kernel)
theorem dX0_drink_98 : decode cX0_drink 98 = .ok (.iinc 3 1, 3) := oc_132 (b := 1) (by decide +kernel)
theorem dX0_drink_101 : decode cX0_drink 101 = .ok (.goto (-86), 3) := oc_167 (a := 255) (b := 170) (by decide +kernel)
theorem dX0_drink_28 : decode cX0_drink 28 = .ok (.ifCond .eq 70, 3) := oc_153 (a := 0) (b := 70) (by decide +kernel)
theorem dX0_drink_31 : decode cX0_drink 31 = .ok (.aload_n 1, 1) := oc_43 (by decide +kernel)
theorem dX0_drink_32 : decode cX0_drink 32 = .ok (.aload_n 0, 1) := oc_42 (by decide +kernel)
theorem dX0_drink_33 : decode cX0_drink 33 = .ok (.getfield 42, 3) := oc_180 (a := 0) (b := 42) (by decide +kernel)
theorem dX0_drink_36 : decode cX0_drink 36 = .ok (.aload_n 0, 1) := oc_42 (by decide +kernel)
theorem dX0_drink_37 : decode cX0_drink 37 = .ok (.getfield 24, 3) := oc_180 (a := 0) (b := 24) (by decide +kernel)
theorem dX0_drink_40 : decode cX0_drink 40 = .ok (.iload_n 3, 1) := oc_29 (by decide +kernel)
theorem dX0_drink_41 : decode cX0_drink 41 = .ok (.iaload, 1) := oc_46 (by decide +kernel)
theorem dX0_drink_42 : decode cX0_drink 42 = .ok (.iaload, 1) := oc_46 (by decide +kernel)
theorem tw_1112 : Cond.methodLink RX0 82 yX2_sweetFrom ∈ wsL_law := sg_47 _ (List.mem_of_getElem? (i := 8) rfl)
theorem tw_1113 : Cond.instanceMethod yX2_sweetFrom ∈ wsL_law := sg_47 _ (List.mem_of_getElem? (i := 9) rfl)
theorem tw_1114 : Cond.selects RX2 yX2_sweetFrom yX2_sweetFrom ∈ wsL_law := sg_47 _ (List.mem_of_getElem? (i := 10) rfl)
theorem tw_41 : Cond.initialized RX2 ∈ wsL_law := sg_2 _ (List.mem_of_getElem? (i := 17) rfl)
theorem tw_1115 : Cond.code yX2_sweetFrom cX2_sweetFrom 4 (some .int) ∈ wsL_law := sg_47 _ (List.mem_of_getElem? (i := 11) rfl)
theorem dX0_drink_43 : decode cX0_drink 43 = .ok (.invokevirtual 82, 3) := oc_182 (a := 0) (b := 82) (by decide +kernel)
theorem dX0_drink_46 : decode cX0_drink 46 = .ok (.istore 4, 2) := oc_54 (by decide +kernel)
theorem dX0_drink_48 : decode cX0_drink 48 = .ok (.aload_n 0, 1) := oc_42 (by decide +kernel)
theorem dX0_drink_49 : decode cX0_drink 49 = .ok (.getfield 42, 3) := oc_180 (a := 0) (b := 42) (by decide +kernel)
theorem dX0_drink_52 : decode cX0_drink 52 = .ok (.aload_n 0, 1) := oc_42 (by decide +kernel)
theorem dX0_drink_53 : decode cX0_drink 53 = .ok (.getfield 24, 3) := oc_180 (a := 0) (b := 24) (by decide +kernel)
theorem dX0_drink_56 : decode cX0_drink 56 = .ok (.iload_n 3, 1) := oc_29 (by decide +kernel)
theorem dX0_drink_57 : decode cX0_drink 57 = .ok (.iaload, 1) := oc_46 (by decide +kernel)
theorem dX0_drink_58 : decode cX0_drink 58 = .ok (.iload 4, 2) := oc_21 (by decide +kernel)
theorem dX0_drink_60 : decode cX0_drink 60 = .ok (.iastore, 1) := oc_79 (by decide +kernel)
theorem dX0_drink_61 : decode cX0_drink 61 = .ok (.iload 4, 2) := oc_21 (by decide +kernel)
theorem dX0_drink_63 : decode cX0_drink 63 = .ok (.iconst (-1), 1) := oc_2 (by decide +kernel)
theorem dX0_drink_64 : decode cX0_drink 64 = .ok (.if_icmp .ne 19, 3) := oc_160 (a := 0) (b := 19) (by decide +kernel)
theorem dX0_drink_83 : decode cX0_drink 83 = .ok (.aload_n 1, 1) := oc_43 (by decide +kernel)
theorem tw_1099 : Cond.fieldLink RX0 85 "RingsUnder$Land" "wells" "LRingsUnder$Wells;" ∈ wsL_law := sg_46 _ (List.mem_of_getElem? (i := 19) rfl)
theorem dX0_drink_84 : decode cX0_drink 84 = .ok (.getfield 85, 3) := oc_180 (a := 0) (b := 85) (by decide +kernel)
theorem tw_1100 : Cond.fieldLink RX0 89 "RingsUnder$Wells" "lens" "[I" ∈ wsL_law := sg_46 _ (List.mem_of_getElem? (i := 20) rfl)
theorem dX0_drink_87 : decode cX0_drink 87 = .ok (.getfield 89, 3) := oc_180 (a := 0) (b := 89) (by decide +kernel)
theorem dX0_drink_90 : decode cX0_drink 90 = .ok (.iload 4, 2) := oc_21 (by decide +kernel)
theorem dX0_drink_92 : decode cX0_drink 92 = .ok (.dup2, 1) := oc_92 (by decide +kernel)
theorem dX0_drink_93 : decode cX0_drink 93 = .ok (.iaload, 1) := oc_46 (by decide +kernel)
theorem dX0_drink_94 : decode cX0_drink 94 = .ok (.bipush 10, 2) := oc_16 (a := 10) (by decide +kernel)
theorem dX0_drink_96 : decode cX0_drink 96 = .ok (.isub, 1) := oc_100 (by decide +kernel)
theorem dX0_drink_97 : decode cX0_drink 97 = .ok (.iastore, 1) := oc_79 (by decide +kernel)
theorem dX0_drink_67 : decode cX0_drink 67 = .ok (.aload_n 0, 1) := oc_42 (by decide +kernel)
theorem dX0_drink_68 : decode cX0_drink 68 = .ok (.getfield 27, 3) := oc_180 (a := 0) (b := 27) (by decide +kernel)
theorem dX0_drink_71 : decode cX0_drink 71 = .ok (.iload_n 3, 1) := oc_29 (by decide +kernel)
theorem dX0_drink_72 : decode cX0_drink 72 = .ok (.dup2, 1) := oc_92 (by decide +kernel)
theorem dX0_drink_73 : decode cX0_drink 73 = .ok (.iaload, 1) := oc_46 (by decide +kernel)
theorem dX0_drink_74 : decode cX0_drink 74 = .ok (.iconst 1, 1) := oc_4 (by decide +kernel)
theorem dX0_drink_75 : decode cX0_drink 75 = .ok (.iadd, 1) := oc_96 (by decide +kernel)
theorem dX0_drink_76 : decode cX0_drink 76 = .ok (.iastore, 1) := oc_79 (by decide +kernel)
theorem dX0_drink_77 : decode cX0_drink 77 = .ok (.iinc 2 1, 3) := oc_132 (b := 1) (by decide +kernel)
theorem dX0_drink_80 : decode cX0_drink 80 = .ok (.goto 18, 3) := oc_167 (a := 0) (b := 18) (by decide +kernel)
theorem dX0_groupOf_0 : decode cX0_groupOf 0 = .ok (.aload_n 0, 1) := oc_42 (by decide +kernel)
theorem dX0_groupOf_1 : decode cX0_groupOf 1 = .ok (.getfield 24, 3) := oc_180 (a := 0) (b := 24) (by decide +kernel)
theorem dX0_groupOf_4 : decode cX0_groupOf 4 = .ok (.iload_n 1, 1) := oc_27 (by decide +kernel)
theorem dX0_groupOf_5 : decode cX0_groupOf 5 = .ok (.iaload, 1) := oc_46 (by decide +kernel)
theorem dX0_groupOf_6 : decode cX0_groupOf 6 = .ok (.bipush 10, 2) := oc_16 (a := 10) (by decide +kernel)
theorem dX0_groupOf_8 : decode cX0_groupOf 8 = .ok (.imul, 1) := oc_104 (by decide +kernel)
theorem dX0_groupOf_9 : decode cX0_groupOf 9 = .ok (.aload_n 0, 1) := oc_42 (by decide +kernel)
theorem dX0_groupOf_10 : decode cX0_groupOf 10 = .ok (.getfield 9, 3) := oc_180 (a := 0) (b := 9) (by decide +kernel)
theorem dX0_groupOf_13 : decode cX0_groupOf 13 = .ok (.iload_n 1, 1) := oc_27 (by decide +kernel)
theorem dX0_groupOf_14 : decode cX0_groupOf 14 = .ok (.iaload, 1) := oc_46 (by decide +kernel)
theorem dX0_groupOf_15 : decode cX0_groupOf 15 = .ok (.iadd, 1) := oc_96 (by decide +kernel)
theorem dX0_groupOf_16 : decode cX0_groupOf 16 = .ok (.ireturn, 1) := oc_172 (by decide +kernel)
theorem dX11_fill_0 : decode cX11_fill 0 = .ok (.iconst 0, 1) := oc_3 (by decide +kernel)
theorem dX11_fill_1 : decode cX11_fill 1 = .ok (.istore_n 2, 1) := oc_61 (by decide +kernel)
theorem dX11_fill_2 : decode cX11_fill 2 = .ok (.iload_n 2, 1) := oc_28 (by decide +kernel)
theorem dX11_fill_3 : decode cX11_fill 3 = .ok (.aload_n 0, 1) := oc_42 (by decide +kernel)
theorem dX11_fill_4 : decode cX11_fill 4 = .ok (.arraylength, 1) := oc_190 (by decide +kernel)
theorem dX11_fill_5 : decode cX11_fill 5 = .ok (.if_icmp .ge 13, 3) := oc_162 (a := 0) (b := 13) (by decide +kernel)
theorem dX11_fill_18 : decode cX11_fill 18 = .ok (.return_, 1) := oc_177 (by decide +kernel)
theorem dX11_fill_8 : decode cX11_fill 8 = .ok (.aload_n 0, 1) := oc_42 (by decide +kernel)
theorem dX11_fill_9 : decode cX11_fill 9 = .ok (.iload_n 2, 1) := oc_28 (by decide +kernel)
theorem dX11_fill_10 : decode cX11_fill 10 = .ok (.iload_n 1, 1) := oc_27 (by decide +kernel)
theorem dX11_fill_11 : decode cX11_fill 11 = .ok (.iastore, 1) := oc_79 (by decide +kernel)
theorem dX11_fill_12 : decode cX11_fill 12 = .ok (.iinc 2 1, 3) := oc_132 (b := 1) (by decide +kernel)
theorem dX11_fill_15 : decode cX11_fill 15 = .ok (.goto (-13), 3) := oc_167 (a := 255) (b := 243) (by decide +kernel)
theorem dX0_countGroups_0 : decode cX0_countGroups 0 = .ok (.aload_n 0, 1) := oc_42 (by decide +kernel)
theorem tw_122 : Cond.fieldLink RX0 48 "RingsUnder$Folk" "groupSize" "[I" ∈ wsL_law := sg_6 _ (List.mem_of_getElem? (i := 2) rfl)
theorem dX0_countGroups_1 : decode cX0_countGroups 1 = .ok (.getfield 48, 3) := oc_180 (a := 0) (b := 48) (by decide +kernel)
theorem dX0_countGroups_4 : decode cX0_countGroups 4 = .ok (.iconst 0, 1) := oc_3 (by decide +kernel)
theorem tw_76 : Cond.code yX11_fill cX11_fill 3 none ∈ wsL_law := sg_4 _ (List.mem_of_getElem? (i := 4) rfl)
theorem dX0_countGroups_5 : decode cX0_countGroups 5 = .ok (.invokestatic 113, 3) := oc_184 (a := 0) (b := 113) (by decide +kernel)
theorem dX0_countGroups_8 : decode cX0_countGroups 8 = .ok (.aload_n 0, 1) := oc_42 (by decide +kernel)
theorem tw_123 : Cond.fieldLink RX0 51 "RingsUnder$Folk" "groupLot" "[I" ∈ wsL_law := sg_6 _ (List.mem_of_getElem? (i := 3) rfl)
theorem dX0_countGroups_9 : decode cX0_countGroups 9 = .ok (.getfield 51, 3) := oc_180 (a := 0) (b := 51) (by decide +kernel)
theorem dX0_countGroups_12 : decode cX0_countGroups 12 = .ok (.bipush (-2), 2) := oc_16 (a := 254) (by decide +kernel)
theorem dX0_countGroups_14 : decode cX0_countGroups 14 = .ok (.invokestatic 113, 3) := oc_184 (a := 0) (b := 113) (by decide +kernel)
theorem dX0_countGroups_17 : decode cX0_countGroups 17 = .ok (.iconst 0, 1) := oc_3 (by decide +kernel)
theorem dX0_countGroups_18 : decode cX0_countGroups 18 = .ok (.istore_n 3, 1) := oc_62 (by decide +kernel)
theorem dX0_countGroups_19 : decode cX0_countGroups 19 = .ok (.iload_n 3, 1) := oc_29 (by decide +kernel)
theorem dX0_countGroups_20 : decode cX0_countGroups 20 = .ok (.aload_n 0, 1) := oc_42 (by decide +kernel)
theorem dX0_countGroups_21 : decode cX0_countGroups 21 = .ok (.getfield 54, 3) := oc_180 (a := 0) (b := 54) (by decide +kernel)
theorem dX0_countGroups_24 : decode cX0_countGroups 24 = .ok (.if_icmp .ge 39, 3) := oc_162 (a := 0) (b := 39) (by decide +kernel)
theorem dX0_countGroups_63 : decode cX0_countGroups 63 = .ok (.return_, 1) := oc_177 (by decide +kernel)
theorem dX0_countGroups_27 : decode cX0_countGroups 27 = .ok (.lload_n 1, 1) := oc_31 (by decide +kernel)
theorem dX0_countGroups_28 : decode cX0_countGroups 28 = .ok (.iload_n 3, 1) := oc_29 (by decide +kernel)
theorem dX0_countGroups_29 : decode cX0_countGroups 29 = .ok (.invokestatic 73, 3) := oc_184 (a := 0) (b := 73) (by decide +kernel)
theorem dX0_countGroups_57 : decode cX0_countGroups 57 = .ok (.iinc 3 1, 3) := oc_132 (b := 1) (by decide +kernel)
theorem dX0_countGroups_60 : decode cX0_countGroups 60 = .ok (.goto (-41), 3) := oc_167 (a := 255) (b := 215) (by decide +kernel)
theorem dX0_countGroups_32 : decode cX0_countGroups 32 = .ok (.ifCond .eq 25, 3) := oc_153 (a := 0) (b := 25) (by decide +kernel)
theorem dX0_countGroups_35 : decode cX0_countGroups 35 = .ok (.aload_n 0, 1) := oc_42 (by decide +kernel)
theorem dX0_countGroups_36 : decode cX0_countGroups 36 = .ok (.iload_n 3, 1) := oc_29 (by decide +kernel)
theorem dX0_countGroups_37 : decode cX0_countGroups 37 = .ok (.invokevirtual 65, 3) := oc_182 (a := 0) (b := 65) (by decide +kernel)
theorem dX0_countGroups_40 : decode cX0_countGroups 40 = .ok (.ifCond .eq 17, 3) := oc_153 (a := 0) (b := 17) (by decide +kernel)
theorem dX0_countGroups_43 : decode cX0_countGroups 43 = .ok (.aload_n 0, 1) := oc_42 (by decide +kernel)
theorem dX0_countGroups_44 : decode cX0_countGroups 44 = .ok (.getfield 48, 3) := oc_180 (a := 0) (b := 48) (by decide +kernel)
theorem dX0_countGroups_47 : decode cX0_countGroups 47 = .ok (.aload_n 0, 1) := oc_42 (by decide +kernel)
theorem dX0_countGroups_48 : decode cX0_countGroups 48 = .ok (.iload_n 3, 1) := oc_29 (by decide +kernel)
theorem tw_1176 : Cond.methodLink RX0 107 yX0_groupOf ∈ wsL_law := sg_50 _ (List.mem_of_getElem? (i := 0) rfl)
theorem tw_1177 : Cond.instanceMethod yX0_groupOf ∈ wsL_law := sg_50 _ (List.mem_of_getElem? (i := 1) rfl)
theorem tw_1178 : Cond.selects RX0 yX0_groupOf yX0_groupOf ∈ wsL_law := sg_50 _ (List.mem_of_getElem? (i := 2) rfl)
theorem tw_1179 : Cond.code yX0_groupOf cX0_groupOf 2 (some .int) ∈ wsL_law := sg_50 _ (List.mem_of_getElem? (i := 3) rfl)
theorem dX0_countGroups_49 : decode cX0_countGroups 49 = .ok (.invokevirtual 107, 3) := oc_182 (a := 0) (b := 107) (by decide +kernel)
theorem dX0_countGroups_52 : decode cX0_countGroups 52 = .ok (.dup2, 1) := oc_92 (by decide +kernel)
theorem dX0_countGroups_53 : decode cX0_countGroups 53 = .ok (.iaload, 1) := oc_46 (by decide +kernel)
theorem dX0_countGroups_54 : decode cX0_countGroups 54 = .ok (.iconst 1, 1) := oc_4 (by decide +kernel)
theorem dX0_countGroups_55 : decode cX0_countGroups 55 = .ok (.iadd, 1) := oc_96 (by decide +kernel)
theorem dX0_countGroups_56 : decode cX0_countGroups 56 = .ok (.iastore, 1) := oc_79 (by decide +kernel)
set_option maxRecDepth 100000 in
def g_X0_freeBeds (a0 : Int32) (I : Nat → Int32) (J : Nat → Int64) (ri : Nat → Nat → Int32) (rj : Nat → Nat → Int64) (rq : Nat → Nat → Option Nat) : Int32 × vM := (ap1 (ri 11 (a0).toNatClampNeg) fun (x_2 : Int32) => (ap1 ((100 : Int32) + a0) fun (x_3 : Int32) => (bnI (g_X0_countAt x_3 I J ri rj rq) fun (x_5 : Int32) (_ : Nat → Int32) (_ : Nat → Int64) (_ : Nat → Nat → Int32) (_ : Nat → Nat → Int64) (_ : Nat → Nat → Option Nat) => (ap1 (x_2 - x_5) fun (x_12 : Int32) => (x_12, I, J, ri, rj, rq)))))
set_option maxRecDepth 100000 in
theorem g_X0_freeBeds_e {a0 : Int32} {I : Nat → Int32} {J : Nat → Int64} {ri : Nat → Nat → Int32} {rj : Nat → Nat → Int64} {rq : Nat → Nat → Option Nat} : g_X0_freeBeds a0 I J ri rj rq = (ap1 (ri 11 (a0).toNatClampNeg) fun (x_2 : Int32) => (ap1 ((100 : Int32) + a0) fun (x_3 : Int32) => (bnI (g_X0_countAt x_3 I J ri rj rq) fun (x_5 : Int32) (_ : Nat → Int32) (_ : Nat → Int64) (_ : Nat → Nat → Int32) (_ : Nat → Nat → Int64) (_ : Nat → Nat → Option Nat) => (ap1 (x_2 - x_5) fun (x_12 : Int32) => (x_12, I, J, ri, rj, rq))))) := rfl
set_option maxHeartbeats 4000000 in
set_option maxRecDepth 100000 in
theorem s_X0_freeBeds (l : Launch) (D : va_G) (t : pq_T) (σ : pq_S) (I : Nat → Nat → Int32) (J : Nat → Nat → Int64) (ri : Nat → Nat → Int32) (rj : Nat → Nat → Int64) (rq : Nat → Nat → Option Nat) (sz : Nat) (tg : Nat → Nat) (hSH : SH σ tg) (hG0 : GS tg σ I ri rq) (this : Nat) (a0 : Int32) (hL_this : this ∈ σ.1) (hK_this : σ.2.1 this = 0) (h_a0 : rg a0 0 4) (M : Nat) (hL_M : M ∈ σ.1) (hK_M : σ.2.1 M = 10) (hO_this : this = vo σ 0 M) : MetI l yX0_freeBeds (wa yX0_freeBeds cX0_freeBeds 2 (some .int)) ({ frames := 1, cells := 0, slots := 0, locals := 23 }) [.ref this, .int a0] D t σ (I, J, ri, rj, rq) sz 0 0 (fun (r : Int32) (u : pq_S × pq_M) => u = (σ, I, J, ri, rj, rq) ∧ g_X0_freeBeds a0 (vI 10 σ M I) (vJ 10 σ M J) (vR 10 σ M ri) (vL 10 σ M rj) (vQ 10 σ M rq) = (r, (vI 10 σ M I), (vJ 10 σ M J), (vR 10 σ M ri), (vL 10 σ M rj), (vQ 10 σ M rq))) := by
  refine Met.ofW (cc := cX0_freeBeds) (maxL := 2) (ret := (some .int)) (by decide +kernel) rfl ?_
  intro p e s m args below meth c s₁ B hml hv
  obtain ⟨rfl, hsz, hP, hK, hD0, hN⟩ := hv
  have hx := B.exec
  have hb := B.bytes
  have hr := B.returns
  have hts := atoms_spec (ws := (wa yX0_freeBeds cX0_freeBeds 2 (some .int))) B.pre
  have hown : s.vm.findClass RX0 = some m.cls := findClass_of_methodNamed B.named
  have hlocks := B.notSynchronized
  subst hsz
  have hD : va_D (pq_B t σ (I, J, ri, rj, rq) s.heap.size) (pq_P t σ (I, J, ri, rj, rq)) := hD0.self
  generalize hAe : pq_B t σ (I, J, ri, rj, rq) s.heap.size = A at hD ⊢
  have hA : ∀ q : Nat, s.heap.size ≤ q → A q := fun q h => by rw [← hAe]; exact Or.inr h
  have hS : va_S A s.heap s.heap [] := va_S.rf
  have hG : GX [] tg σ I ri rj I ri rj rq := ⟨hG0, fun _ _ _ => rfl, fun _ _ _ _ _ => rfl, fun _ _ _ _ _ => rfl⟩
  have hl := lv_entry ([.ref this, .int a0]) (n := 2) (Nat.le_of_ble_eq_true rfl)
  rw [lg_entry_eq]
  generalize (lg_sl ([.ref this, .int a0]) ++ List.replicate (2 - (lg_sl ([.ref this, .int a0])).length) Slot.unset).toArray = ls at hl ⊢
  have hl : lv_has ls 2 [(0, .ref this), (1, .int a0)] := hl
  refine q_gen (fun Q hQ => ?_)
  have go : ∀ (H : Heap) (locs : List Loc) (ls : Array Slot), va_P D vwCl (pq_P t σ (I, J, ri, rj, rq)) H → va_D A (pq_P t σ (I, J, ri, rj, rq)) → va_S A s.heap H locs → lv_has ls 2 [(0, .ref this), (1, .int a0)] → W p l e ({ frames := 1, cells := 0, slots := 0, locals := 23 } : Room) s m (List.toArray ([.ref this, .int a0] : List Value)) below meth c H locs 0 0 Q (F0 m 0 ls []) := by
    intro H locs ls hP hD hS hl
    have hVT : VT 10 σ tg M := vt_10 hSH hL_M hK_M
    have hFr : FR 10 tg σ M (I, J, ri, rj, rq) (I, J, ri, rj, rq) := fr_rf
    obtain ⟨F, hF0⟩ : ∃ F, F = g_X0_freeBeds a0 (vI 10 σ M I) (vJ 10 σ M J) (vR 10 σ M ri) (vL 10 σ M rj) (vQ 10 σ M rq) := ⟨_, rfl⟩
    have hF := hF0.trans g_X0_freeBeds_e
    refine lv_aload_n hx hb dX0_freeBeds_0 rfl (lv_at hl 0 rfl) ?_
    obtain ⟨w_1, hR_w_1, hL_w_1, hK_w_1, hN_w_1, hT_w_1⟩ := sh_a hSH 11 (ci := 0) (kd := 13) (len := 5) rfl (by decide +kernel) hL_this hK_this
    have hO_w_1 : w_1 = vrow σ 11 M := vo_k (c := 0) hO_this hR_w_1
    refine pg_f (v := .ref w_1) (C := RX0) (T := TX0) (N := 16) hx hb hts (tw_i inlX0) hown hK hP hL_this hK_this (by decide +kernel) rfl 11 (by decide +kernel) (hts _ (tw_c tw_119)) (pq_hv rfl hR_w_1) dX0_freeBeds_1 ?_
    refine lv_iload_n hx hb dX0_freeBeds_4 rfl (lv_at hl 1 rfl) ?_
    refine pl_i hx hb hK hP hL_w_1 hK_w_1 hN_w_1 (rg_in h_a0 (by decide +kernel)) dX0_freeBeds_5 ?_
    refine lv_topi (fun x_2 ex_2 => ?_)
    replace hF := hF.trans (ap_n (vR_r hO_w_1 (by decide +kernel) ex_2))
    refine lv_aload_n hx hb dX0_freeBeds_6 rfl (lv_at hl 0 rfl) ?_
    refine lv_bipush (v := 100) hx hb dX0_freeBeds_7 (by decide +kernel) ?_
    refine lv_iload_n hx hb dX0_freeBeds_9 rfl (lv_at hl 1 rfl) ?_
    refine lv_iadd hx hb dX0_freeBeds_10 ?_
    refine lv_topi (fun x_3 ex_3 => ?_)
    replace hF := hF.trans (ap_n ex_3)
    have h_4 : rg x_3 100 104 := rg_of_eq ex_3 (rg_add (rg_k (100 : Int32) 100 rfl) h_a0 (by decide +kernel))
    refine pk_i (va_runV (As := [.int x_3]) (rest := [.int x_2]) ⟨hx, hb, hml, hown, hts⟩ (s_X0_countAt l D t σ I J ri rj rq H.size tg hSH hG.1 this x_3 hL_this hK_this M hL_M hK_M hO_this) (cwV 1 hts (tw_V tw_417 tw_418 tw_419 tw_45 tw_420) rfl rfl rfl cv_yX0_countAt_1 ⟨Nat.le_of_ble_eq_true rfl, Nat.le_of_ble_eq_true rfl⟩) ⟨pq_blind, pq_recv hK hP hL_this hK_this (by decide +kernel) rfl, pq_pre hK hN hP hD⟩ rfl rfl hl.1 rfl (lv_room (Nat.le_of_ble_eq_true rfl)) dX0_freeBeds_11 ⟨Nat.le_of_ble_eq_true rfl, Nat.le_of_ble_eq_true rfl⟩) hD hS hA (fun x_5 σ1 μ1 H locs hw_6 hP hD hS => ?_)
    obtain ⟨hu_7, hfn_10⟩ := hw_6
    obtain ⟨hu_7a, hu_7b⟩ := Prod.mk.inj hu_7
    rw [hu_7a, hu_7b] at hP hD
    replace hF := hF.trans (bn_n hfn_10)
    refine lv_isub hx hb dX0_freeBeds_14 ?_
    refine lv_topi (fun x_12 ex_12 => ?_)
    replace hF := hF.trans (ap_n ex_12)
    subst hQ
    exact W.iret (v := x_12) hx hb hr (fun t1 ht hW => ⟨⟨x_12, (σ, I, J, ri, rj, rq), rfl, ⟨rfl, (hF0.symm.trans hF)⟩, by rw [ht]; exact hP, va_K.moved hW.alike hK, hD⟩, hS.F ht⟩) hS.2.2 dX0_freeBeds_15
  exact go _ _ _ hP hD hS hl

set_option maxRecDepth 100000 in
def g_X0_sendings_K33 (x_230 : Int32) (k_g_X0_sendings_L4 : (Int32) → (Int32) → Int32 × vM) (x_269 : Int32) : Int32 × vM := (ap1 (x_230 + Int32.ofInt 1) fun (x_273 : Int32) => (k_g_X0_sendings_L4 x_269 x_273))
set_option maxRecDepth 100000 in
theorem g_X0_sendings_K33_e {x_230 : Int32} {k_g_X0_sendings_L4 : (Int32) → (Int32) → Int32 × vM} {x_269 : Int32} : g_X0_sendings_K33 x_230 k_g_X0_sendings_L4 x_269 = (ap1 (x_230 + Int32.ofInt 1) fun (x_273 : Int32) => (k_g_X0_sendings_L4 x_269 x_273)) := rfl
set_option maxRecDepth 100000 in
def g_X0_sendings_L4 (I : Nat → Int32) (J : Nat → Int64) (ri : Nat → Nat → Int32) (rj : Nat → Nat → Int64) (rq : Nat → Nat → Option Nat) : Nat → (Int32) → (Int32) → Int32 × vM
  | 0, x_229, x_230 => ((0 : Int32), I, J, ri, rj, rq)
  | n_249 + 1, x_229, x_230 => (ap1 (I 0) fun (y_255 : Int32) => (if (y_255) ≤ x_230 then (x_229, I, J, ri, rj, rq) else (ap1 (ri 5 (x_230).toNatClampNeg) fun (x_262 : Int32) => (if x_262 = (200 : Int32) then (ap1 (ri 4 (x_230).toNatClampNeg) fun (x_279 : Int32) => (ap1 (x_229 + x_279) fun (x_280 : Int32) => (g_X0_sendings_K33 x_230 (g_X0_sendings_L4 I J ri rj rq n_249) x_280))) else (g_X0_sendings_K33 x_230 (g_X0_sendings_L4 I J ri rj rq n_249) x_229)))))
set_option maxRecDepth 100000 in
theorem g_X0_sendings_L4_e {I : Nat → Int32} {J : Nat → Int64} {ri : Nat → Nat → Int32} {rj : Nat → Nat → Int64} {rq : Nat → Nat → Option Nat} {n_249 : Nat} {x_229 : Int32} {x_230 : Int32} : g_X0_sendings_L4 I J ri rj rq (n_249 + 1) x_229 x_230 = (ap1 (I 0) fun (y_255 : Int32) => (if (y_255) ≤ x_230 then (x_229, I, J, ri, rj, rq) else (ap1 (ri 5 (x_230).toNatClampNeg) fun (x_262 : Int32) => (if x_262 = (200 : Int32) then (ap1 (ri 4 (x_230).toNatClampNeg) fun (x_279 : Int32) => (ap1 (x_229 + x_279) fun (x_280 : Int32) => (g_X0_sendings_K33 x_230 (g_X0_sendings_L4 I J ri rj rq n_249) x_280))) else (g_X0_sendings_K33 x_230 (g_X0_sendings_L4 I J ri rj rq n_249) x_229))))) := rfl
set_option maxRecDepth 100000 in
def g_X0_sendings (I : Nat → Int32) (J : Nat → Int64) (ri : Nat → Nat → Int32) (rj : Nat → Nat → Int64) (rq : Nat → Nat → Option Nat) : Int32 × vM := (g_X0_sendings_L4 I J ri rj rq ((40 - ((0 : Int32)).toInt).toNat + 1) (0 : Int32) (0 : Int32))
set_option maxRecDepth 100000 in
theorem g_X0_sendings_e {I : Nat → Int32} {J : Nat → Int64} {ri : Nat → Nat → Int32} {rj : Nat → Nat → Int64} {rq : Nat → Nat → Option Nat} : g_X0_sendings I J ri rj rq = (g_X0_sendings_L4 I J ri rj rq ((40 - ((0 : Int32)).toInt).toNat + 1) (0 : Int32) (0 : Int32)) := rfl
set_option maxHeartbeats 4000000 in
set_option maxRecDepth 100000 in
theorem s_X0_sendings (l : Launch) (D : va_G) (t : pq_T) (σ : pq_S) (I : Nat → Nat → Int32) (J : Nat → Nat → Int64) (ri : Nat → Nat → Int32) (rj : Nat → Nat → Int64) (rq : Nat → Nat → Option Nat) (sz : Nat) (tg : Nat → Nat) (hSH : SH σ tg) (hG0 : GS tg σ I ri rq) (this : Nat) (hL_this : this ∈ σ.1) (hK_this : σ.2.1 this = 0) (M : Nat) (hL_M : M ∈ σ.1) (hK_M : σ.2.1 M = 10) (hO_this : this = vo σ 0 M) : MetI l yX0_sendings (wa yX0_sendings cX0_sendings 3 (some .int)) ({ frames := 0, cells := 0, slots := 0, locals := 0 }) [.ref this] D t σ (I, J, ri, rj, rq) sz 0 0 (fun (r : Int32) (u : pq_S × pq_M) => u = (σ, I, J, ri, rj, rq) ∧ g_X0_sendings (vI 10 σ M I) (vJ 10 σ M J) (vR 10 σ M ri) (vL 10 σ M rj) (vQ 10 σ M rq) = (r, (vI 10 σ M I), (vJ 10 σ M J), (vR 10 σ M ri), (vL 10 σ M rj), (vQ 10 σ M rq))) := by
  refine Met.ofW (cc := cX0_sendings) (maxL := 3) (ret := (some .int)) (by decide +kernel) rfl ?_
  intro p e s m args below meth c s₁ B hml hv
  obtain ⟨rfl, hsz, hP, hK, hD0, hN⟩ := hv
  have hx := B.exec
  have hb := B.bytes
  have hr := B.returns
  have hts := atoms_spec (ws := (wa yX0_sendings cX0_sendings 3 (some .int))) B.pre
  have hown : s.vm.findClass RX0 = some m.cls := findClass_of_methodNamed B.named
  have hlocks := B.notSynchronized
  subst hsz
  have hD : va_D (pq_B t σ (I, J, ri, rj, rq) s.heap.size) (pq_P t σ (I, J, ri, rj, rq)) := hD0.self
  generalize hAe : pq_B t σ (I, J, ri, rj, rq) s.heap.size = A at hD ⊢
  have hA : ∀ q : Nat, s.heap.size ≤ q → A q := fun q h => by rw [← hAe]; exact Or.inr h
  have hS : va_S A s.heap s.heap [] := va_S.rf
  have hG : GX [] tg σ I ri rj I ri rj rq := ⟨hG0, fun _ _ _ => rfl, fun _ _ _ _ _ => rfl, fun _ _ _ _ _ => rfl⟩
  have hl := lv_entry ([.ref this]) (n := 3) (Nat.le_of_ble_eq_true rfl)
  rw [lg_entry_eq]
  generalize (lg_sl ([.ref this]) ++ List.replicate (3 - (lg_sl ([.ref this])).length) Slot.unset).toArray = ls at hl ⊢
  have hl : lv_has ls 3 [(0, .ref this)] := hl
  refine q_gen (fun Q hQ => ?_)
  have go : ∀ (H : Heap) (locs : List Loc) (ls : Array Slot), va_P D vwCl (pq_P t σ (I, J, ri, rj, rq)) H → va_D A (pq_P t σ (I, J, ri, rj, rq)) → va_S A s.heap H locs → lv_has ls 3 [(0, .ref this)] → W p l e ({ frames := 0, cells := 0, slots := 0, locals := 0 } : Room) s m (List.toArray ([.ref this] : List Value)) below meth c H locs 0 0 Q (F0 m 0 ls []) := by
    intro H locs ls hP hD hS hl
    have hVT : VT 10 σ tg M := vt_10 hSH hL_M hK_M
    have hFr : FR 10 tg σ M (I, J, ri, rj, rq) (I, J, ri, rj, rq) := fr_rf
    obtain ⟨F, hF0⟩ : ∃ F, F = g_X0_sendings (vI 10 σ M I) (vJ 10 σ M J) (vR 10 σ M ri) (vL 10 σ M rj) (vQ 10 σ M rq) := ⟨_, rfl⟩
    have hF := hF0.trans g_X0_sendings_e
    refine lv_iconst (v := 0) hx hb dX0_sendings_0 (by decide +kernel) ?_
    refine lv_istore_n (lv' := [(1, .int 0), (0, .ref this)]) hx hb dX0_sendings_1 rfl hl (by decide +kernel) rfl (fun ls hl => ?_)
    refine lv_iconst (v := 0) hx hb dX0_sendings_2 (by decide +kernel) ?_
    refine lv_istore_n (lv' := [(2, .int 0), (1, .int 0), (0, .ref this)]) hx hb dX0_sendings_3 rfl hl (by decide +kernel) rfl (fun ls hl => ?_)
    have L_250 : ∀ (n_249 : Nat) (x_229 : Int32) (x_230 : Int32) (H : Heap) (locs : List Loc) (ls : Array Slot), rg x_230 0 40 → (40 - (x_230).toInt).toNat < n_249 → F = g_X0_sendings_L4 (vI 10 σ M I) (vJ 10 σ M J) (vR 10 σ M ri) (vL 10 σ M rj) (vQ 10 σ M rq) n_249 x_229 x_230 → FR 10 tg σ M (I, J, ri, rj, rq) (I, J, ri, rj, rq) → GX [] tg σ I ri rj I ri rj rq → va_P D vwCl (pq_P t σ (I, J, ri, rj, rq)) H → va_D A (pq_P t σ (I, J, ri, rj, rq)) → va_S A s.heap H locs → lv_has ls 3 [(0, .ref this), (1, .int x_229), (2, .int x_230)] → W p l e ({ frames := 0, cells := 0, slots := 0, locals := 0 } : Room) s m (List.toArray ([.ref this] : List Value)) below meth c H locs 0 0 Q (F0 m 4 ls []) := by
      intro n_249
      induction n_249 with
      | zero => intro x_229 x_230 H locs ls h_253 hm_248 hF hFr hG hP hD hS hl; exact absurd hm_248 (Nat.not_lt_zero _)
      | succ n_249 ih_251 =>
        intro x_229 x_230 H locs ls h_253 hm_248 hF hFr hG hP hD hS hl
        replace hF := hF.trans g_X0_sendings_L4_e
        refine lv_iload_n hx hb dX0_sendings_4 rfl (lv_at hl 2 rfl) ?_
        refine lv_aload_n hx hb dX0_sendings_5 rfl (lv_at hl 0 rfl) ?_
        refine pg_f (v := .int (I 0 this)) (C := RX0) (T := TX0) (N := 16) hx hb hts (tw_i inlX0) hown hK hP hL_this hK_this (by decide +kernel) rfl 0 (by decide +kernel) (hts _ (tw_c tw_395)) rfl dX0_sendings_6 ?_
        have h_254 : rg (I 0 this) 0 40 := GX.rI hG 0 rfl
        replace hF := hF.trans (ap_n (vI_e (f := 0) hO_this (by decide +kernel)))
        refine lv_icmp_ge (tgt := 39) hx hb dX0_sendings_9 (by decide +kernel) (fun c_256 => ?_) (fun c_256 => ?_)
        · replace hF := hF.trans (if_pos c_256)
          refine lv_iload_n hx hb dX0_sendings_39 rfl (lv_at hl 1 rfl) ?_
          subst hQ
          exact W.iret (v := x_229) hx hb hr (fun t1 ht hW => ⟨⟨x_229, (σ, I, J, ri, rj, rq), rfl, ⟨rfl, (hF0.symm.trans hF)⟩, by rw [ht]; exact hP, va_K.moved hW.alike hK, hD⟩, hS.F ht⟩) hS.2.2 dX0_sendings_40
        · replace hF := hF.trans (if_neg c_256)
          have h_259 : rg x_230 0 39 := rg_lt1 (nle c_256) h_253 h_254 (by decide +kernel)
          have h_260 : rg (I 0 this) 1 40 := rg_lt2 (nle c_256) h_253 h_254 (by decide +kernel)
          refine lv_aload_n hx hb dX0_sendings_12 rfl (lv_at hl 0 rfl) ?_
          obtain ⟨w_261, hR_w_261, hL_w_261, hK_w_261, hN_w_261, hT_w_261⟩ := sh_a hSH 5 (ci := 0) (kd := 13) (len := 40) rfl (by decide +kernel) hL_this hK_this
          have hO_w_261 : w_261 = vrow σ 5 M := vo_k (c := 0) hO_this hR_w_261
          refine pg_f (v := .ref w_261) (C := RX0) (T := TX0) (N := 16) hx hb hts (tw_i inlX0) hown hK hP hL_this hK_this (by decide +kernel) rfl 5 (by decide +kernel) (hts _ (tw_c tw_114)) (pq_hv rfl hR_w_261) dX0_sendings_13 ?_
          refine lv_iload_n hx hb dX0_sendings_16 rfl (lv_at hl 2 rfl) ?_
          refine pl_i hx hb hK hP hL_w_261 hK_w_261 hN_w_261 (rg_in h_259 (by decide +kernel)) dX0_sendings_17 ?_
          refine lv_topi (fun x_262 ex_262 => ?_)
          replace hF := hF.trans (ap_n (vR_r hO_w_261 (by decide +kernel) ex_262))
          have h_263 : rg x_262 0 300 := rg_of_eq ex_262 (GX.rR hG hT_w_261 rfl)
          refine lv_sipush (v := 200) hx hb dX0_sendings_18 (by decide +kernel) ?_
          have K_272 : ∀  (x_269 : Int32) (H : Heap) (locs : List Loc) (ls : Array Slot), F = g_X0_sendings_K33 x_230 (g_X0_sendings_L4 (vI 10 σ M I) (vJ 10 σ M J) (vR 10 σ M ri) (vL 10 σ M rj) (vQ 10 σ M rq) n_249) x_269 → FR 10 tg σ M (I, J, ri, rj, rq) (I, J, ri, rj, rq) → GX [] tg σ I ri rj I ri rj rq → va_P D vwCl (pq_P t σ (I, J, ri, rj, rq)) H → va_D A (pq_P t σ (I, J, ri, rj, rq)) → va_S A s.heap H locs → lv_has ls 3 [(0, .ref this), (1, .int x_269), (2, .int x_230)] → W p l e ({ frames := 0, cells := 0, slots := 0, locals := 0 } : Room) s m (List.toArray ([.ref this] : List Value)) below meth c H locs 0 0 Q (F0 m 33 ls []) := by
            intro x_269 H locs ls hF hFr hG hP hD hS hl
            replace hF := hF.trans g_X0_sendings_K33_e
            obtain ⟨x_273, ex_273⟩ : ∃ y : Int32, y = x_230 + Int32.ofInt 1 := ⟨_, rfl⟩
            replace hF := hF.trans (ap_n ex_273)
            have h_274 : rg x_273 1 40 := rg_of_eq ex_273 (rg_add h_259 (rg_k (Int32.ofInt 1) 1 rfl) (by decide +kernel))
            refine lv_iinc (v := x_273) (lv' := [(2, .int x_273), (0, .ref this), (1, .int x_269)]) hx hb dX0_sendings_33 hl (k := 2) rfl ex_273.symm (by decide +kernel) rfl (fun ls hl => ?_)
            refine lv_goto (tgt := 4) hx hb dX0_sendings_36 (by decide +kernel) ?_
            exact ih_251 x_269 x_273 _ _ _ (rg_w h_274 (by decide +kernel)) (ms_up 1 hm_248 ex_273 rfl (by decide +kernel) h_259 (by decide +kernel) (by decide +kernel)) hF hFr hG hP hD hS (lv_sub hl [1, 2, 0] rfl)
          refine lv_icmp_ne (tgt := 33) hx hb dX0_sendings_21 (by decide +kernel) (fun c_275 => ?_) (fun c_275 => ?_)
          · replace hF := hF.trans (if_neg c_275)
            exact K_272 x_229 _ _ _ hF hFr hG hP hD hS (lv_sub hl [0, 1, 2] rfl)
          · replace hF := hF.trans (if_pos c_275)
            have h_277 : rg x_262 200 200 := rg_and h_263 (rg_of_eq c_275 (rg_k (200 : Int32) 200 rfl)) (by decide +kernel)
            refine lv_iload_n hx hb dX0_sendings_24 rfl (lv_at hl 1 rfl) ?_
            refine lv_aload_n hx hb dX0_sendings_25 rfl (lv_at hl 0 rfl) ?_
            obtain ⟨w_278, hR_w_278, hL_w_278, hK_w_278, hN_w_278, hT_w_278⟩ := sh_a hSH 4 (ci := 0) (kd := 13) (len := 40) rfl (by decide +kernel) hL_this hK_this
            have hO_w_278 : w_278 = vrow σ 4 M := vo_k (c := 0) hO_this hR_w_278
            refine pg_f (v := .ref w_278) (C := RX0) (T := TX0) (N := 16) hx hb hts (tw_i inlX0) hown hK hP hL_this hK_this (by decide +kernel) rfl 4 (by decide +kernel) (hts _ (tw_c tw_113)) (pq_hv rfl hR_w_278) dX0_sendings_26 ?_
            refine lv_iload_n hx hb dX0_sendings_29 rfl (lv_at hl 2 rfl) ?_
            refine pl_i hx hb hK hP hL_w_278 hK_w_278 hN_w_278 (rg_in h_259 (by decide +kernel)) dX0_sendings_30 ?_
            refine lv_topi (fun x_279 ex_279 => ?_)
            replace hF := hF.trans (ap_n (vR_r hO_w_278 (by decide +kernel) ex_279))
            refine lv_iadd hx hb dX0_sendings_31 ?_
            refine lv_topi (fun x_280 ex_280 => ?_)
            replace hF := hF.trans (ap_n ex_280)
            refine lv_istore_n (lv' := [(1, .int x_280), (0, .ref this), (2, .int x_230)]) hx hb dX0_sendings_32 rfl hl (by decide +kernel) rfl (fun ls hl => ?_)
            exact K_272 x_280 _ _ _ hF hFr hG hP hD hS (lv_sub hl [1, 0, 2] rfl)
    exact L_250 _ (0 : Int32) (0 : Int32) _ _ _ (rg_w (rg_k (0 : Int32) 0 rfl) (by decide +kernel)) (Nat.lt_succ_self _) hF hFr hG hP hD hS (lv_sub hl [2, 1, 0] rfl)
  exact go _ _ _ hP hD hS hl

set_option maxRecDepth 100000 in
def g_X11_hasBit (a0 : Int64) (a1 : Int32) : Int32 := (ap1 ((a0.toUInt64 >>> (a1.toInt64.toUInt64 &&& Int64.toUInt64 63)).toInt64) fun (x_1 : Int64) => (ap1 (x_1 &&& (1 : Int64)) fun (x_2 : Int64) => (ap1 (lg_cmp x_2 (0 : Int64)) fun (x_3 : Int32) => (if x_3 = (0 : Int32) then (0 : Int32) else (1 : Int32)))))
set_option maxRecDepth 100000 in
theorem g_X11_hasBit_e {a0 : Int64} {a1 : Int32} : g_X11_hasBit a0 a1 = (ap1 ((a0.toUInt64 >>> (a1.toInt64.toUInt64 &&& Int64.toUInt64 63)).toInt64) fun (x_1 : Int64) => (ap1 (x_1 &&& (1 : Int64)) fun (x_2 : Int64) => (ap1 (lg_cmp x_2 (0 : Int64)) fun (x_3 : Int32) => (if x_3 = (0 : Int32) then (0 : Int32) else (1 : Int32))))) := rfl
set_option maxHeartbeats 4000000 in
set_option maxRecDepth 100000 in
theorem s_X11_hasBit (l : Launch) (D : va_G) (t : pq_T) (σ : pq_S) (I : Nat → Nat → Int32) (J : Nat → Nat → Int64) (ri : Nat → Nat → Int32) (rj : Nat → Nat → Int64) (rq : Nat → Nat → Option Nat) (sz : Nat) (tg : Nat → Nat) (hSH : SH σ tg) (hG0 : GS tg σ I ri rq) (a0 : Int64) (a1 : Int32) : MetI l yX11_hasBit (wa yX11_hasBit cX11_hasBit 3 (some .boolean)) ({ frames := 0, cells := 0, slots := 0, locals := 0 }) [.long a0, .int a1] D t σ (I, J, ri, rj, rq) sz 0 0 (fun (r : Int32) (u : pq_S × pq_M) => u = (σ, I, J, ri, rj, rq) ∧ g_X11_hasBit a0 a1 = r ∧ ((r = 1 ∧ True) ∨ (r = 0 ∧ True))) := by
  refine Met.ofW (cc := cX11_hasBit) (maxL := 3) (ret := (some .boolean)) (by decide +kernel) rfl ?_
  intro p e s m args below meth c s₁ B hml hv
  obtain ⟨rfl, hsz, hP, hK, hD0, hN⟩ := hv
  have hx := B.exec
  have hb := B.bytes
  have hr := B.returns
  have hts := atoms_spec (ws := (wa yX11_hasBit cX11_hasBit 3 (some .boolean))) B.pre
  have hown : s.vm.findClass RX11 = some m.cls := findClass_of_methodNamed B.named
  have hlocks := B.notSynchronized
  subst hsz
  have hD : va_D (pq_B t σ (I, J, ri, rj, rq) s.heap.size) (pq_P t σ (I, J, ri, rj, rq)) := hD0.self
  generalize hAe : pq_B t σ (I, J, ri, rj, rq) s.heap.size = A at hD ⊢
  have hA : ∀ q : Nat, s.heap.size ≤ q → A q := fun q h => by rw [← hAe]; exact Or.inr h
  have hS : va_S A s.heap s.heap [] := va_S.rf
  have hG : GX [] tg σ I ri rj I ri rj rq := ⟨hG0, fun _ _ _ => rfl, fun _ _ _ _ _ => rfl, fun _ _ _ _ _ => rfl⟩
  have hl := lv_entry ([.long a0, .int a1]) (n := 3) (Nat.le_of_ble_eq_true rfl)
  rw [lg_entry_eq]
  generalize (lg_sl ([.long a0, .int a1]) ++ List.replicate (3 - (lg_sl ([.long a0, .int a1])).length) Slot.unset).toArray = ls at hl ⊢
  have hl : lv_has ls 3 [(0, .long a0), (2, .int a1)] := hl
  refine q_gen (fun Q hQ => ?_)
  have go : ∀ (H : Heap) (locs : List Loc) (ls : Array Slot), va_P D vwCl (pq_P t σ (I, J, ri, rj, rq)) H → va_D A (pq_P t σ (I, J, ri, rj, rq)) → va_S A s.heap H locs → lv_has ls 3 [(0, .long a0), (2, .int a1)] → W p l e ({ frames := 0, cells := 0, slots := 0, locals := 0 } : Room) s m (List.toArray ([.long a0, .int a1] : List Value)) below meth c H locs 0 0 Q (F0 m 0 ls []) := by
    intro H locs ls hP hD hS hl
    obtain ⟨F, hF0⟩ : ∃ F, F = g_X11_hasBit a0 a1 := ⟨_, rfl⟩
    have hF := hF0.trans g_X11_hasBit_e
    refine lv_lload_n hx hb dX11_hasBit_0 rfl (lv_at hl 0 rfl) ?_
    refine lv_iload_n hx hb dX11_hasBit_1 rfl (lv_at hl 1 rfl) ?_
    refine lv_lushr hx hb dX11_hasBit_2 rfl ?_
    refine lv_topl (fun x_1 ex_1 => ?_)
    replace hF := hF.trans (ap_n ex_1)
    refine lv_lconst (v := 1) hx hb dX11_hasBit_3 (by decide +kernel) ?_
    refine lv_land hx hb dX11_hasBit_4 ?_
    refine lv_topl (fun x_2 ex_2 => ?_)
    replace hF := hF.trans (ap_n ex_2)
    refine lv_lconst (v := 0) hx hb dX11_hasBit_5 (by decide +kernel) ?_
    refine W.lcmp hx hb dX11_hasBit_6 ?_
    refine lv_topi (fun x_3 ex_3 => ?_)
    replace hF := hF.trans (ap_n ex_3)
    refine lv_if_eq (tgt := 14) hx hb dX11_hasBit_7 (by decide +kernel) (fun c_4 => ?_) (fun c_4 => ?_)
    · replace hF := hF.trans (if_pos c_4)
      have h_6 : rg x_3 0 0 := rg_and (rg_full _) (rg_of_eq c_4 (rg_k (0 : Int32) 0 rfl)) (by decide +kernel)
      refine lv_iconst (v := 0) hx hb dX11_hasBit_14 (by decide +kernel) ?_
      subst hQ
      exact W.zret (v := 0) hx hb hr (by decide +kernel) (fun t1 ht hW => ⟨⟨0, (σ, I, J, ri, rj, rq), rfl, ⟨rfl, (hF0.symm.trans hF), (Or.inr ⟨rfl, trivial⟩)⟩, by rw [ht]; exact hP, va_K.moved hW.alike hK, hD⟩, hS.F ht⟩) hS.2.2 dX11_hasBit_15
    · replace hF := hF.trans (if_neg c_4)
      refine lv_iconst (v := 1) hx hb dX11_hasBit_10 (by decide +kernel) ?_
      refine lv_goto (tgt := 15) hx hb dX11_hasBit_11 (by decide +kernel) ?_
      subst hQ
      exact W.zret (v := 1) hx hb hr (by decide +kernel) (fun t1 ht hW => ⟨⟨1, (σ, I, J, ri, rj, rq), rfl, ⟨rfl, (hF0.symm.trans hF), (Or.inl ⟨rfl, trivial⟩)⟩, by rw [ht]; exact hP, va_K.moved hW.alike hK, hD⟩, hS.F ht⟩) hS.2.2 dX11_hasBit_15
  exact go _ _ _ hP hD hS hl

set_option maxRecDepth 100000 in
def g_X0_countVotes_K38 (x_686 : Int32) (k_g_X0_countVotes_L6 : (Int32) → (Int32) → Int32 × vM) (x_739 : Int32) : Int32 × vM := (ap1 (x_686 + Int32.ofInt 1) fun (x_743 : Int32) => (k_g_X0_countVotes_L6 x_739 x_743))
set_option maxRecDepth 100000 in
theorem g_X0_countVotes_K38_e {x_686 : Int32} {k_g_X0_countVotes_L6 : (Int32) → (Int32) → Int32 × vM} {x_739 : Int32} : g_X0_countVotes_K38 x_686 k_g_X0_countVotes_L6 x_739 = (ap1 (x_686 + Int32.ofInt 1) fun (x_743 : Int32) => (k_g_X0_countVotes_L6 x_739 x_743)) := rfl
set_option maxRecDepth 100000 in
def g_X0_countVotes_L6 (a0 : Int64) (a1 : Int32) (I : Nat → Int32) (J : Nat → Int64) (ri : Nat → Nat → Int32) (rj : Nat → Nat → Int64) (rq : Nat → Nat → Option Nat) : Nat → (Int32) → (Int32) → Int32 × vM
  | 0, x_685, x_686 => ((0 : Int32), I, J, ri, rj, rq)
  | n_712 + 1, x_685, x_686 => (ap1 (I 0) fun (y_718 : Int32) => (if (y_718) ≤ x_686 then (x_685, I, J, ri, rj, rq) else (ap1 (g_X11_hasBit a0 x_686) fun (x_724 : Int32) => (if x_724 = (0 : Int32) then (g_X0_countVotes_K38 x_686 (g_X0_countVotes_L6 a0 a1 I J ri rj rq n_712) x_685) else (ap1 (ri 9 (x_686).toNatClampNeg) fun (x_751 : Int32) => (if x_751 = a1 then (ap1 (x_685 + Int32.ofInt 1) fun (x_753 : Int32) => (g_X0_countVotes_K38 x_686 (g_X0_countVotes_L6 a0 a1 I J ri rj rq n_712) x_753)) else (g_X0_countVotes_K38 x_686 (g_X0_countVotes_L6 a0 a1 I J ri rj rq n_712) x_685)))))))
set_option maxRecDepth 100000 in
theorem g_X0_countVotes_L6_e {a0 : Int64} {a1 : Int32} {I : Nat → Int32} {J : Nat → Int64} {ri : Nat → Nat → Int32} {rj : Nat → Nat → Int64} {rq : Nat → Nat → Option Nat} {n_712 : Nat} {x_685 : Int32} {x_686 : Int32} : g_X0_countVotes_L6 a0 a1 I J ri rj rq (n_712 + 1) x_685 x_686 = (ap1 (I 0) fun (y_718 : Int32) => (if (y_718) ≤ x_686 then (x_685, I, J, ri, rj, rq) else (ap1 (g_X11_hasBit a0 x_686) fun (x_724 : Int32) => (if x_724 = (0 : Int32) then (g_X0_countVotes_K38 x_686 (g_X0_countVotes_L6 a0 a1 I J ri rj rq n_712) x_685) else (ap1 (ri 9 (x_686).toNatClampNeg) fun (x_751 : Int32) => (if x_751 = a1 then (ap1 (x_685 + Int32.ofInt 1) fun (x_753 : Int32) => (g_X0_countVotes_K38 x_686 (g_X0_countVotes_L6 a0 a1 I J ri rj rq n_712) x_753)) else (g_X0_countVotes_K38 x_686 (g_X0_countVotes_L6 a0 a1 I J ri rj rq n_712) x_685))))))) := rfl
set_option maxRecDepth 100000 in
def g_X0_countVotes (a0 : Int64) (a1 : Int32) (I : Nat → Int32) (J : Nat → Int64) (ri : Nat → Nat → Int32) (rj : Nat → Nat → Int64) (rq : Nat → Nat → Option Nat) : Int32 × vM := (g_X0_countVotes_L6 a0 a1 I J ri rj rq ((40 - ((0 : Int32)).toInt).toNat + 1) (0 : Int32) (0 : Int32))
set_option maxRecDepth 100000 in
theorem g_X0_countVotes_e {a0 : Int64} {a1 : Int32} {I : Nat → Int32} {J : Nat → Int64} {ri : Nat → Nat → Int32} {rj : Nat → Nat → Int64} {rq : Nat → Nat → Option Nat} : g_X0_countVotes a0 a1 I J ri rj rq = (g_X0_countVotes_L6 a0 a1 I J ri rj rq ((40 - ((0 : Int32)).toInt).toNat + 1) (0 : Int32) (0 : Int32)) := rfl
set_option maxHeartbeats 4000000 in
set_option maxRecDepth 100000 in
theorem s_X0_countVotes (l : Launch) (D : va_G) (t : pq_T) (σ : pq_S) (I : Nat → Nat → Int32) (J : Nat → Nat → Int64) (ri : Nat → Nat → Int32) (rj : Nat → Nat → Int64) (rq : Nat → Nat → Option Nat) (sz : Nat) (tg : Nat → Nat) (hSH : SH σ tg) (hG0 : GS tg σ I ri rq) (this : Nat) (a0 : Int64) (a1 : Int32) (hL_this : this ∈ σ.1) (hK_this : σ.2.1 this = 0) (M : Nat) (hL_M : M ∈ σ.1) (hK_M : σ.2.1 M = 10) (hO_this : this = vo σ 0 M) : MetI l yX0_countVotes (wa yX0_countVotes cX0_countVotes 6 (some .int)) ({ frames := 1, cells := 0, slots := 0, locals := 22 }) [.ref this, .long a0, .int a1] D t σ (I, J, ri, rj, rq) sz 0 0 (fun (r : Int32) (u : pq_S × pq_M) => u = (σ, I, J, ri, rj, rq) ∧ g_X0_countVotes a0 a1 (vI 10 σ M I) (vJ 10 σ M J) (vR 10 σ M ri) (vL 10 σ M rj) (vQ 10 σ M rq) = (r, (vI 10 σ M I), (vJ 10 σ M J), (vR 10 σ M ri), (vL 10 σ M rj), (vQ 10 σ M rq))) := by
  refine Met.ofW (cc := cX0_countVotes) (maxL := 6) (ret := (some .int)) (by decide +kernel) rfl ?_
  intro p e s m args below meth c s₁ B hml hv
  obtain ⟨rfl, hsz, hP, hK, hD0, hN⟩ := hv
  have hx := B.exec
  have hb := B.bytes
  have hr := B.returns
  have hts := atoms_spec (ws := (wa yX0_countVotes cX0_countVotes 6 (some .int))) B.pre
  have hown : s.vm.findClass RX0 = some m.cls := findClass_of_methodNamed B.named
  have hlocks := B.notSynchronized
  subst hsz
  have hD : va_D (pq_B t σ (I, J, ri, rj, rq) s.heap.size) (pq_P t σ (I, J, ri, rj, rq)) := hD0.self
  generalize hAe : pq_B t σ (I, J, ri, rj, rq) s.heap.size = A at hD ⊢
  have hA : ∀ q : Nat, s.heap.size ≤ q → A q := fun q h => by rw [← hAe]; exact Or.inr h
  have hS : va_S A s.heap s.heap [] := va_S.rf
  have hG : GX [] tg σ I ri rj I ri rj rq := ⟨hG0, fun _ _ _ => rfl, fun _ _ _ _ _ => rfl, fun _ _ _ _ _ => rfl⟩
  have hl := lv_entry ([.ref this, .long a0, .int a1]) (n := 6) (Nat.le_of_ble_eq_true rfl)
  rw [lg_entry_eq]
  generalize (lg_sl ([.ref this, .long a0, .int a1]) ++ List.replicate (6 - (lg_sl ([.ref this, .long a0, .int a1])).length) Slot.unset).toArray = ls at hl ⊢
  have hl : lv_has ls 6 [(0, .ref this), (1, .long a0), (3, .int a1)] := hl
  refine q_gen (fun Q hQ => ?_)
  have go : ∀ (H : Heap) (locs : List Loc) (ls : Array Slot), va_P D vwCl (pq_P t σ (I, J, ri, rj, rq)) H → va_D A (pq_P t σ (I, J, ri, rj, rq)) → va_S A s.heap H locs → lv_has ls 6 [(0, .ref this), (1, .long a0), (3, .int a1)] → W p l e ({ frames := 1, cells := 0, slots := 0, locals := 22 } : Room) s m (List.toArray ([.ref this, .long a0, .int a1] : List Value)) below meth c H locs 0 0 Q (F0 m 0 ls []) := by
    intro H locs ls hP hD hS hl
    have hVT : VT 10 σ tg M := vt_10 hSH hL_M hK_M
    have hFr : FR 10 tg σ M (I, J, ri, rj, rq) (I, J, ri, rj, rq) := fr_rf
    obtain ⟨F, hF0⟩ : ∃ F, F = g_X0_countVotes a0 a1 (vI 10 σ M I) (vJ 10 σ M J) (vR 10 σ M ri) (vL 10 σ M rj) (vQ 10 σ M rq) := ⟨_, rfl⟩
    have hF := hF0.trans g_X0_countVotes_e
    refine lv_iconst (v := 0) hx hb dX0_countVotes_0 (by decide +kernel) ?_
    refine lv_istore (lv' := [(4, .int 0), (0, .ref this), (1, .long a0), (3, .int a1)]) hx hb dX0_countVotes_1 hl (by decide +kernel) rfl (fun ls hl => ?_)
    refine lv_iconst (v := 0) hx hb dX0_countVotes_3 (by decide +kernel) ?_
    refine lv_istore (lv' := [(5, .int 0), (4, .int 0), (0, .ref this), (1, .long a0), (3, .int a1)]) hx hb dX0_countVotes_4 hl (by decide +kernel) rfl (fun ls hl => ?_)
    have L_713 : ∀ (n_712 : Nat) (x_685 : Int32) (x_686 : Int32) (H : Heap) (locs : List Loc) (ls : Array Slot), rg x_686 0 40 → (40 - (x_686).toInt).toNat < n_712 → F = g_X0_countVotes_L6 a0 a1 (vI 10 σ M I) (vJ 10 σ M J) (vR 10 σ M ri) (vL 10 σ M rj) (vQ 10 σ M rq) n_712 x_685 x_686 → FR 10 tg σ M (I, J, ri, rj, rq) (I, J, ri, rj, rq) → GX [] tg σ I ri rj I ri rj rq → va_P D vwCl (pq_P t σ (I, J, ri, rj, rq)) H → va_D A (pq_P t σ (I, J, ri, rj, rq)) → va_S A s.heap H locs → lv_has ls 6 [(0, .ref this), (1, .long a0), (3, .int a1), (4, .int x_685), (5, .int x_686)] → W p l e ({ frames := 1, cells := 0, slots := 0, locals := 22 } : Room) s m (List.toArray ([.ref this, .long a0, .int a1] : List Value)) below meth c H locs 0 0 Q (F0 m 6 ls []) := by
      intro n_712
      induction n_712 with
      | zero => intro x_685 x_686 H locs ls h_716 hm_711 hF hFr hG hP hD hS hl; exact absurd hm_711 (Nat.not_lt_zero _)
      | succ n_712 ih_714 =>
        intro x_685 x_686 H locs ls h_716 hm_711 hF hFr hG hP hD hS hl
        replace hF := hF.trans g_X0_countVotes_L6_e
        refine lv_iload hx hb dX0_countVotes_6 (lv_at hl 4 rfl) ?_
        refine lv_aload_n hx hb dX0_countVotes_8 rfl (lv_at hl 0 rfl) ?_
        refine pg_f (v := .int (I 0 this)) (C := RX0) (T := TX0) (N := 16) hx hb hts (tw_i inlX0) hown hK hP hL_this hK_this (by decide +kernel) rfl 0 (by decide +kernel) (hts _ (tw_c tw_395)) rfl dX0_countVotes_9 ?_
        have h_717 : rg (I 0 this) 0 40 := GX.rI hG 0 rfl
        replace hF := hF.trans (ap_n (vI_e (f := 0) hO_this (by decide +kernel)))
        refine lv_icmp_ge (tgt := 44) hx hb dX0_countVotes_12 (by decide +kernel) (fun c_719 => ?_) (fun c_719 => ?_)
        · replace hF := hF.trans (if_pos c_719)
          refine lv_iload hx hb dX0_countVotes_44 (lv_at hl 3 rfl) ?_
          subst hQ
          exact W.iret (v := x_685) hx hb hr (fun t1 ht hW => ⟨⟨x_685, (σ, I, J, ri, rj, rq), rfl, ⟨rfl, (hF0.symm.trans hF)⟩, by rw [ht]; exact hP, va_K.moved hW.alike hK, hD⟩, hS.F ht⟩) hS.2.2 dX0_countVotes_46
        · replace hF := hF.trans (if_neg c_719)
          have h_722 : rg x_686 0 39 := rg_lt1 (nle c_719) h_716 h_717 (by decide +kernel)
          have h_723 : rg (I 0 this) 1 40 := rg_lt2 (nle c_719) h_716 h_717 (by decide +kernel)
          refine lv_lload_n hx hb dX0_countVotes_15 rfl (lv_at hl 1 rfl) ?_
          refine lv_iload hx hb dX0_countVotes_16 (lv_at hl 4 rfl) ?_
          refine pk_i (va_runSN (As := [.long a0, .int x_686]) (rest := []) ⟨hx, hb, hml, hown, hts⟩ (s_X11_hasBit l D t σ I J ri rj rq H.size tg hSH hG.1 a0 x_686) ⟨va_cnB (host := "RingsUnder") 2 hts (tw_W tw_560) rfl rfl rfl (nl_13 hN) (hts _ (tw_c tw_2)) cd_yX11_hasBit_2 ⟨Nat.le_of_ble_eq_true rfl, Nat.le_of_ble_eq_true rfl⟩, hts (.static yX11_hasBit) (tw_c tq_static_yX11_hasBit), trivial⟩ ⟨pq_blind, pq_pre hK hN hP hD⟩ rfl rfl hl.1 rfl (lv_room (Nat.le_of_ble_eq_true rfl)) dX0_countVotes_18 ⟨Nat.le_of_ble_eq_true rfl, Nat.le_of_ble_eq_true rfl⟩) hD hS hA (fun x_724 σ1 μ1 H locs hw_725 hP hD hS => ?_)
          obtain ⟨hu_726, hfn_729, hr_728⟩ := hw_725
          obtain ⟨hu_726a, hu_726b⟩ := Prod.mk.inj hu_726
          rw [hu_726a, hu_726b] at hP hD
          replace hF := hF.trans (ap_n hfn_729.symm)
          have h_731 : rg x_724 0 1 := by rcases hr_728 with ⟨q, -⟩ | ⟨q, -⟩ <;> rw [q] <;> exact ⟨by decide +kernel, by decide +kernel⟩
          have K_742 : ∀  (x_739 : Int32) (H : Heap) (locs : List Loc) (ls : Array Slot), F = g_X0_countVotes_K38 x_686 (g_X0_countVotes_L6 a0 a1 (vI 10 σ M I) (vJ 10 σ M J) (vR 10 σ M ri) (vL 10 σ M rj) (vQ 10 σ M rq) n_712) x_739 → FR 10 tg σ M (I, J, ri, rj, rq) (I, J, ri, rj, rq) → GX [] tg σ I ri rj I ri rj rq → va_P D vwCl (pq_P t σ (I, J, ri, rj, rq)) H → va_D A (pq_P t σ (I, J, ri, rj, rq)) → va_S A s.heap H locs → lv_has ls 6 [(0, .ref this), (1, .long a0), (3, .int a1), (4, .int x_739), (5, .int x_686)] → W p l e ({ frames := 1, cells := 0, slots := 0, locals := 22 } : Room) s m (List.toArray ([.ref this, .long a0, .int a1] : List Value)) below meth c H locs 0 0 Q (F0 m 38 ls []) := by
            intro x_739 H locs ls hF hFr hG hP hD hS hl
            replace hF := hF.trans g_X0_countVotes_K38_e
            obtain ⟨x_743, ex_743⟩ : ∃ y : Int32, y = x_686 + Int32.ofInt 1 := ⟨_, rfl⟩
            replace hF := hF.trans (ap_n ex_743)
            have h_744 : rg x_743 1 40 := rg_of_eq ex_743 (rg_add h_722 (rg_k (Int32.ofInt 1) 1 rfl) (by decide +kernel))
            refine lv_iinc (v := x_743) (lv' := [(5, .int x_743), (0, .ref this), (1, .long a0), (3, .int a1), (4, .int x_739)]) hx hb dX0_countVotes_38 hl (k := 4) rfl ex_743.symm (by decide +kernel) rfl (fun ls hl => ?_)
            refine lv_goto (tgt := 6) hx hb dX0_countVotes_41 (by decide +kernel) ?_
            exact ih_714 x_739 x_743 _ _ _ (rg_w h_744 (by decide +kernel)) (ms_up 1 hm_711 ex_743 rfl (by decide +kernel) h_722 (by decide +kernel) (by decide +kernel)) hF hFr hG hP hD hS (lv_sub hl [1, 2, 3, 4, 0] rfl)
          refine lv_if_eq (tgt := 38) hx hb dX0_countVotes_21 (by decide +kernel) (fun c_745 => ?_) (fun c_745 => ?_)
          · replace hF := hF.trans (if_pos c_745)
            have h_748 : rg x_724 0 0 := rg_and h_731 (rg_of_eq c_745 (rg_k (0 : Int32) 0 rfl)) (by decide +kernel)
            exact K_742 x_685 _ _ _ hF hFr hG hP hD hS (lv_sub hl [0, 1, 2, 3, 4] rfl)
          · replace hF := hF.trans (if_neg c_745)
            have h_749 : rg x_724 1 1 := rg_ne c_745 h_731 0 rfl (by decide +kernel)
            refine lv_aload_n hx hb dX0_countVotes_24 rfl (lv_at hl 0 rfl) ?_
            obtain ⟨w_750, hR_w_750, hL_w_750, hK_w_750, hN_w_750, hT_w_750⟩ := sh_a hSH 9 (ci := 0) (kd := 13) (len := 40) rfl (by decide +kernel) hL_this hK_this
            have hO_w_750 : w_750 = vrow σ 9 M := vo_k (c := 0) hO_this hR_w_750
            refine pg_f (v := .ref w_750) (C := RX0) (T := TX0) (N := 16) hx hb hts (tw_i inlX0) hown hK hP hL_this hK_this (by decide +kernel) rfl 9 (by decide +kernel) (hts _ (tw_c tw_118)) (pq_hv rfl hR_w_750) dX0_countVotes_25 ?_
            refine lv_iload hx hb dX0_countVotes_28 (lv_at hl 4 rfl) ?_
            refine pl_i hx hb hK hP hL_w_750 hK_w_750 hN_w_750 (rg_in h_722 (by decide +kernel)) dX0_countVotes_30 ?_
            refine lv_topi (fun x_751 ex_751 => ?_)
            replace hF := hF.trans (ap_n (vR_r hO_w_750 (by decide +kernel) ex_751))
            refine lv_iload_n hx hb dX0_countVotes_31 rfl (lv_at hl 2 rfl) ?_
            refine lv_icmp_ne (tgt := 38) hx hb dX0_countVotes_32 (by decide +kernel) (fun c_752 => ?_) (fun c_752 => ?_)
            · replace hF := hF.trans (if_neg c_752)
              exact K_742 x_685 _ _ _ hF hFr hG hP hD hS (lv_sub hl [0, 1, 2, 3, 4] rfl)
            · replace hF := hF.trans (if_pos c_752)
              obtain ⟨x_753, ex_753⟩ : ∃ y : Int32, y = x_685 + Int32.ofInt 1 := ⟨_, rfl⟩
              replace hF := hF.trans (ap_n ex_753)
              refine lv_iinc (v := x_753) (lv' := [(4, .int x_753), (0, .ref this), (1, .long a0), (3, .int a1), (5, .int x_686)]) hx hb dX0_countVotes_35 hl (k := 3) rfl ex_753.symm (by decide +kernel) rfl (fun ls hl => ?_)
              exact K_742 x_753 _ _ _ hF hFr hG hP hD hS (lv_sub hl [1, 2, 3, 0, 4] rfl)
    exact L_713 _ (0 : Int32) (0 : Int32) _ _ _ (rg_w (rg_k (0 : Int32) 0 rfl) (by decide +kernel)) (Nat.lt_succ_self _) hF hFr hG hP hD hS (lv_sub hl [2, 3, 4, 1, 0] rfl)
  exact go _ _ _ hP hD hS hl

set_option maxRecDepth 100000 in
def g_X0_valueOf (a0 : Int32) (a1 : Int32) (a2 : Int32) (I : Nat → Int32) (J : Nat → Int64) (ri : Nat → Nat → Int32) (rj : Nat → Nat → Int64) (rq : Nat → Nat → Option Nat) : Int32 × vM := (if a1 = (12 : Int32) then (ap1 (ri 2 (a0).toNatClampNeg) fun (x_5 : Int32) => (x_5, I, J, ri, rj, rq)) else (if a1 = (13 : Int32) then (ap1 (ri 1 (a0).toNatClampNeg) fun (x_10 : Int32) => (x_10, I, J, ri, rj, rq)) else (if a1 = (14 : Int32) then (ap1 (ri 3 (a0).toNatClampNeg) fun (x_16 : Int32) => (x_16, I, J, ri, rj, rq)) else (if a1 = (15 : Int32) then (ap1 (ri 5 (a0).toNatClampNeg) fun (x_21 : Int32) => (x_21, I, J, ri, rj, rq)) else (if a1 = (16 : Int32) then (a2, I, J, ri, rj, rq) else ((0 : Int32), I, J, ri, rj, rq))))))
set_option maxRecDepth 100000 in
theorem g_X0_valueOf_e {a0 : Int32} {a1 : Int32} {a2 : Int32} {I : Nat → Int32} {J : Nat → Int64} {ri : Nat → Nat → Int32} {rj : Nat → Nat → Int64} {rq : Nat → Nat → Option Nat} : g_X0_valueOf a0 a1 a2 I J ri rj rq = (if a1 = (12 : Int32) then (ap1 (ri 2 (a0).toNatClampNeg) fun (x_5 : Int32) => (x_5, I, J, ri, rj, rq)) else (if a1 = (13 : Int32) then (ap1 (ri 1 (a0).toNatClampNeg) fun (x_10 : Int32) => (x_10, I, J, ri, rj, rq)) else (if a1 = (14 : Int32) then (ap1 (ri 3 (a0).toNatClampNeg) fun (x_16 : Int32) => (x_16, I, J, ri, rj, rq)) else (if a1 = (15 : Int32) then (ap1 (ri 5 (a0).toNatClampNeg) fun (x_21 : Int32) => (x_21, I, J, ri, rj, rq)) else (if a1 = (16 : Int32) then (a2, I, J, ri, rj, rq) else ((0 : Int32), I, J, ri, rj, rq)))))) := rfl
set_option maxHeartbeats 4000000 in
set_option maxRecDepth 100000 in
theorem s_X0_valueOf (l : Launch) (D : va_G) (t : pq_T) (σ : pq_S) (I : Nat → Nat → Int32) (J : Nat → Nat → Int64) (ri : Nat → Nat → Int32) (rj : Nat → Nat → Int64) (rq : Nat → Nat → Option Nat) (sz : Nat) (tg : Nat → Nat) (hSH : SH σ tg) (hG0 : GS tg σ I ri rq) (this : Nat) (a0 : Int32) (a1 : Int32) (a2 : Int32) (hL_this : this ∈ σ.1) (hK_this : σ.2.1 this = 0) (h_a0 : rg a0 0 39) (M : Nat) (hL_M : M ∈ σ.1) (hK_M : σ.2.1 M = 10) (hO_this : this = vo σ 0 M) : MetI l yX0_valueOf (wa yX0_valueOf cX0_valueOf 4 (some .int)) ({ frames := 0, cells := 0, slots := 0, locals := 0 }) [.ref this, .int a0, .int a1, .int a2] D t σ (I, J, ri, rj, rq) sz 0 0 (fun (r : Int32) (u : pq_S × pq_M) => u = (σ, I, J, ri, rj, rq) ∧ g_X0_valueOf a0 a1 a2 (vI 10 σ M I) (vJ 10 σ M J) (vR 10 σ M ri) (vL 10 σ M rj) (vQ 10 σ M rq) = (r, (vI 10 σ M I), (vJ 10 σ M J), (vR 10 σ M ri), (vL 10 σ M rj), (vQ 10 σ M rq))) := by
  refine Met.ofW (cc := cX0_valueOf) (maxL := 4) (ret := (some .int)) (by decide +kernel) rfl ?_
  intro p e s m args below meth c s₁ B hml hv
  obtain ⟨rfl, hsz, hP, hK, hD0, hN⟩ := hv
  have hx := B.exec
  have hb := B.bytes
  have hr := B.returns
  have hts := atoms_spec (ws := (wa yX0_valueOf cX0_valueOf 4 (some .int))) B.pre
  have hown : s.vm.findClass RX0 = some m.cls := findClass_of_methodNamed B.named
  have hlocks := B.notSynchronized
  subst hsz
  have hD : va_D (pq_B t σ (I, J, ri, rj, rq) s.heap.size) (pq_P t σ (I, J, ri, rj, rq)) := hD0.self
  generalize hAe : pq_B t σ (I, J, ri, rj, rq) s.heap.size = A at hD ⊢
  have hA : ∀ q : Nat, s.heap.size ≤ q → A q := fun q h => by rw [← hAe]; exact Or.inr h
  have hS : va_S A s.heap s.heap [] := va_S.rf
  have hG : GX [] tg σ I ri rj I ri rj rq := ⟨hG0, fun _ _ _ => rfl, fun _ _ _ _ _ => rfl, fun _ _ _ _ _ => rfl⟩
  have hl := lv_entry ([.ref this, .int a0, .int a1, .int a2]) (n := 4) (Nat.le_of_ble_eq_true rfl)
  rw [lg_entry_eq]
  generalize (lg_sl ([.ref this, .int a0, .int a1, .int a2]) ++ List.replicate (4 - (lg_sl ([.ref this, .int a0, .int a1, .int a2])).length) Slot.unset).toArray = ls at hl ⊢
  have hl : lv_has ls 4 [(0, .ref this), (1, .int a0), (2, .int a1), (3, .int a2)] := hl
  refine q_gen (fun Q hQ => ?_)
  have go : ∀ (H : Heap) (locs : List Loc) (ls : Array Slot), va_P D vwCl (pq_P t σ (I, J, ri, rj, rq)) H → va_D A (pq_P t σ (I, J, ri, rj, rq)) → va_S A s.heap H locs → lv_has ls 4 [(0, .ref this), (1, .int a0), (2, .int a1), (3, .int a2)] → W p l e ({ frames := 0, cells := 0, slots := 0, locals := 0 } : Room) s m (List.toArray ([.ref this, .int a0, .int a1, .int a2] : List Value)) below meth c H locs 0 0 Q (F0 m 0 ls []) := by
    intro H locs ls hP hD hS hl
    have hVT : VT 10 σ tg M := vt_10 hSH hL_M hK_M
    have hFr : FR 10 tg σ M (I, J, ri, rj, rq) (I, J, ri, rj, rq) := fr_rf
    obtain ⟨F, hF0⟩ : ∃ F, F = g_X0_valueOf a0 a1 a2 (vI 10 σ M I) (vJ 10 σ M J) (vR 10 σ M ri) (vL 10 σ M rj) (vQ 10 σ M rq) := ⟨_, rfl⟩
    have hF := hF0.trans g_X0_valueOf_e
    refine lv_iload_n hx hb dX0_valueOf_0 rfl (lv_at hl 2 rfl) ?_
    by_cases k_1 : a1 = (12 : Int32)
    · replace hF := hF.trans (if_pos k_1)
      have h_3 : rg a1 12 12 := rg_and (rg_full _) (rg_of_eq k_1 (rg_k (12 : Int32) 12 rfl)) (by decide +kernel)
      refine lv_tov 12 k_1 ?_
      refine lv_tableIn (tgt := 36) hx hb dX0_valueOf_1 (by decide +kernel) (by decide +kernel) rfl (by decide +kernel) ?_
      refine lv_aload_n hx hb dX0_valueOf_36 rfl (lv_at hl 0 rfl) ?_
      obtain ⟨w_4, hR_w_4, hL_w_4, hK_w_4, hN_w_4, hT_w_4⟩ := sh_a hSH 2 (ci := 0) (kd := 13) (len := 40) rfl (by decide +kernel) hL_this hK_this
      have hO_w_4 : w_4 = vrow σ 2 M := vo_k (c := 0) hO_this hR_w_4
      refine pg_f (v := .ref w_4) (C := RX0) (T := TX0) (N := 16) hx hb hts (tw_i inlX0) hown hK hP hL_this hK_this (by decide +kernel) rfl 2 (by decide +kernel) (hts _ (tw_c tw_111)) (pq_hv rfl hR_w_4) dX0_valueOf_37 ?_
      refine lv_iload_n hx hb dX0_valueOf_40 rfl (lv_at hl 1 rfl) ?_
      refine pl_i hx hb hK hP hL_w_4 hK_w_4 hN_w_4 (rg_in h_a0 (by decide +kernel)) dX0_valueOf_41 ?_
      refine lv_topi (fun x_5 ex_5 => ?_)
      replace hF := hF.trans (ap_n (vR_r hO_w_4 (by decide +kernel) ex_5))
      subst hQ
      exact W.iret (v := x_5) hx hb hr (fun t1 ht hW => ⟨⟨x_5, (σ, I, J, ri, rj, rq), rfl, ⟨rfl, (hF0.symm.trans hF)⟩, by rw [ht]; exact hP, va_K.moved hW.alike hK, hD⟩, hS.F ht⟩) hS.2.2 dX0_valueOf_42
    replace hF := hF.trans (if_neg k_1)
    by_cases k_6 : a1 = (13 : Int32)
    · replace hF := hF.trans (if_pos k_6)
      have h_8 : rg a1 13 13 := rg_and (rg_full _) (rg_of_eq k_6 (rg_k (13 : Int32) 13 rfl)) (by decide +kernel)
      refine lv_tov 13 k_6 ?_
      refine lv_tableIn (tgt := 43) hx hb dX0_valueOf_1 (by decide +kernel) (by decide +kernel) rfl (by decide +kernel) ?_
      refine lv_aload_n hx hb dX0_valueOf_43 rfl (lv_at hl 0 rfl) ?_
      obtain ⟨w_9, hR_w_9, hL_w_9, hK_w_9, hN_w_9, hT_w_9⟩ := sh_a hSH 1 (ci := 0) (kd := 13) (len := 40) rfl (by decide +kernel) hL_this hK_this
      have hO_w_9 : w_9 = vrow σ 1 M := vo_k (c := 0) hO_this hR_w_9
      refine pg_f (v := .ref w_9) (C := RX0) (T := TX0) (N := 16) hx hb hts (tw_i inlX0) hown hK hP hL_this hK_this (by decide +kernel) rfl 1 (by decide +kernel) (hts _ (tw_c tw_110)) (pq_hv rfl hR_w_9) dX0_valueOf_44 ?_
      refine lv_iload_n hx hb dX0_valueOf_47 rfl (lv_at hl 1 rfl) ?_
      refine pl_i hx hb hK hP hL_w_9 hK_w_9 hN_w_9 (rg_in h_a0 (by decide +kernel)) dX0_valueOf_48 ?_
      refine lv_topi (fun x_10 ex_10 => ?_)
      replace hF := hF.trans (ap_n (vR_r hO_w_9 (by decide +kernel) ex_10))
      have h_11 : rg x_10 0 9 := rg_of_eq ex_10 (GX.rR hG hT_w_9 rfl)
      subst hQ
      exact W.iret (v := x_10) hx hb hr (fun t1 ht hW => ⟨⟨x_10, (σ, I, J, ri, rj, rq), rfl, ⟨rfl, (hF0.symm.trans hF)⟩, by rw [ht]; exact hP, va_K.moved hW.alike hK, hD⟩, hS.F ht⟩) hS.2.2 dX0_valueOf_49
    replace hF := hF.trans (if_neg k_6)
    by_cases k_12 : a1 = (14 : Int32)
    · replace hF := hF.trans (if_pos k_12)
      have h_14 : rg a1 14 14 := rg_and (rg_full _) (rg_of_eq k_12 (rg_k (14 : Int32) 14 rfl)) (by decide +kernel)
      refine lv_tov 14 k_12 ?_
      refine lv_tableIn (tgt := 50) hx hb dX0_valueOf_1 (by decide +kernel) (by decide +kernel) rfl (by decide +kernel) ?_
      refine lv_aload_n hx hb dX0_valueOf_50 rfl (lv_at hl 0 rfl) ?_
      obtain ⟨w_15, hR_w_15, hL_w_15, hK_w_15, hN_w_15, hT_w_15⟩ := sh_a hSH 3 (ci := 0) (kd := 13) (len := 40) rfl (by decide +kernel) hL_this hK_this
      have hO_w_15 : w_15 = vrow σ 3 M := vo_k (c := 0) hO_this hR_w_15
      refine pg_f (v := .ref w_15) (C := RX0) (T := TX0) (N := 16) hx hb hts (tw_i inlX0) hown hK hP hL_this hK_this (by decide +kernel) rfl 3 (by decide +kernel) (hts _ (tw_c tw_112)) (pq_hv rfl hR_w_15) dX0_valueOf_51 ?_
      refine lv_iload_n hx hb dX0_valueOf_54 rfl (lv_at hl 1 rfl) ?_
      refine pl_i hx hb hK hP hL_w_15 hK_w_15 hN_w_15 (rg_in h_a0 (by decide +kernel)) dX0_valueOf_55 ?_
      refine lv_topi (fun x_16 ex_16 => ?_)
      replace hF := hF.trans (ap_n (vR_r hO_w_15 (by decide +kernel) ex_16))
      subst hQ
      exact W.iret (v := x_16) hx hb hr (fun t1 ht hW => ⟨⟨x_16, (σ, I, J, ri, rj, rq), rfl, ⟨rfl, (hF0.symm.trans hF)⟩, by rw [ht]; exact hP, va_K.moved hW.alike hK, hD⟩, hS.F ht⟩) hS.2.2 dX0_valueOf_56
    replace hF := hF.trans (if_neg k_12)
    by_cases k_17 : a1 = (15 : Int32)
    · replace hF := hF.trans (if_pos k_17)
      have h_19 : rg a1 15 15 := rg_and (rg_full _) (rg_of_eq k_17 (rg_k (15 : Int32) 15 rfl)) (by decide +kernel)
      refine lv_tov 15 k_17 ?_
      refine lv_tableIn (tgt := 57) hx hb dX0_valueOf_1 (by decide +kernel) (by decide +kernel) rfl (by decide +kernel) ?_
      refine lv_aload_n hx hb dX0_valueOf_57 rfl (lv_at hl 0 rfl) ?_
      obtain ⟨w_20, hR_w_20, hL_w_20, hK_w_20, hN_w_20, hT_w_20⟩ := sh_a hSH 5 (ci := 0) (kd := 13) (len := 40) rfl (by decide +kernel) hL_this hK_this
      have hO_w_20 : w_20 = vrow σ 5 M := vo_k (c := 0) hO_this hR_w_20
      refine pg_f (v := .ref w_20) (C := RX0) (T := TX0) (N := 16) hx hb hts (tw_i inlX0) hown hK hP hL_this hK_this (by decide +kernel) rfl 5 (by decide +kernel) (hts _ (tw_c tw_114)) (pq_hv rfl hR_w_20) dX0_valueOf_58 ?_
      refine lv_iload_n hx hb dX0_valueOf_61 rfl (lv_at hl 1 rfl) ?_
      refine pl_i hx hb hK hP hL_w_20 hK_w_20 hN_w_20 (rg_in h_a0 (by decide +kernel)) dX0_valueOf_62 ?_
      refine lv_topi (fun x_21 ex_21 => ?_)
      replace hF := hF.trans (ap_n (vR_r hO_w_20 (by decide +kernel) ex_21))
      have h_22 : rg x_21 0 300 := rg_of_eq ex_21 (GX.rR hG hT_w_20 rfl)
      subst hQ
      exact W.iret (v := x_21) hx hb hr (fun t1 ht hW => ⟨⟨x_21, (σ, I, J, ri, rj, rq), rfl, ⟨rfl, (hF0.symm.trans hF)⟩, by rw [ht]; exact hP, va_K.moved hW.alike hK, hD⟩, hS.F ht⟩) hS.2.2 dX0_valueOf_63
    replace hF := hF.trans (if_neg k_17)
    by_cases k_23 : a1 = (16 : Int32)
    · replace hF := hF.trans (if_pos k_23)
      have h_25 : rg a1 16 16 := rg_and (rg_full _) (rg_of_eq k_23 (rg_k (16 : Int32) 16 rfl)) (by decide +kernel)
      refine lv_tov 16 k_23 ?_
      refine lv_tableIn (tgt := 64) hx hb dX0_valueOf_1 (by decide +kernel) (by decide +kernel) rfl (by decide +kernel) ?_
      refine lv_iload_n hx hb dX0_valueOf_64 rfl (lv_at hl 3 rfl) ?_
      subst hQ
      exact W.iret (v := a2) hx hb hr (fun t1 ht hW => ⟨⟨a2, (σ, I, J, ri, rj, rq), rfl, ⟨rfl, (hF0.symm.trans hF)⟩, by rw [ht]; exact hP, va_K.moved hW.alike hK, hD⟩, hS.F ht⟩) hS.2.2 dX0_valueOf_65
    replace hF := hF.trans (if_neg k_23)
    refine lv_tableOut (tgt := 66) hx hb dX0_valueOf_1 (by have z_k_1 := sw_ne k_1 (n := 12) rfl; have z_k_6 := sw_ne k_6 (n := 13) rfl; have z_k_12 := sw_ne k_12 (n := 14) rfl; have z_k_17 := sw_ne k_17 (n := 15) rfl; have z_k_23 := sw_ne k_23 (n := 16) rfl; omega) (by decide +kernel) ?_
    refine lv_iconst (v := 0) hx hb dX0_valueOf_66 (by decide +kernel) ?_
    subst hQ
    exact W.iret (v := 0) hx hb hr (fun t1 ht hW => ⟨⟨0, (σ, I, J, ri, rj, rq), rfl, ⟨rfl, (hF0.symm.trans hF)⟩, by rw [ht]; exact hP, va_K.moved hW.alike hK, hD⟩, hS.F ht⟩) hS.2.2 dX0_valueOf_67
  exact go _ _ _ hP hD hS hl

set_option maxHeartbeats 4000000 in
set_option maxRecDepth 100000 in
theorem s_X11_copy_80_12 (l : Launch) (D : va_G) (t : pq_T) (σ : pq_S) (I : Nat → Nat → Int32) (J : Nat → Nat → Int64) (ri : Nat → Nat → Int32) (rj : Nat → Nat → Int64) (rq : Nat → Nat → Option Nat) (sz : Nat) (tg : Nat → Nat) (hSH : SH σ tg) (hG0 : GS tg σ I ri rq) (a0 : Nat) (a1 : Nat) (hL_a0 : a0 ∈ σ.1) (hK_a0 : σ.2.1 a0 = 13) (hN_a0 : σ.2.2.2 a0 = 5) (hT_a0 : tg a0 = 80) (hL_a1 : a1 ∈ σ.1) (hK_a1 : σ.2.1 a1 = 13) (hN_a1 : σ.2.2.2 a1 = 5) (hT_a1 : tg a1 = 12) : MetV l yX11_copy (wa yX11_copy cX11_copy 2 none) ({ frames := 1, cells := 0, slots := 0, locals := 60 }) [.ref a0, .ref a1] D t σ (I, J, ri, rj, rq) sz 0 0 (fun (u : pq_S × pq_M) => ∃ ri' : Nat → Nat → Int32, u = (σ, I, J, ri', rj, rq) ∧ GX [] tg σ I ri rj I ri' rj rq ∧ (∀ j, j < 5 → ri' a1 j = ri a0 j) ∧ (∀ q, q ≠ a1 → ri' q = ri q) ∧ (ri' = va_up ri a1 (va_cpy (ri a0) (ri a1) 0 0 5))) := by
  refine Met.ofW (cc := cX11_copy) (maxL := 2) (ret := none) (by decide +kernel) rfl ?_
  intro p e s m args below meth c s₁ B hml hv
  obtain ⟨rfl, hsz, hP, hK, hD0, hN⟩ := hv
  have hx := B.exec
  have hb := B.bytes
  have hr := B.returns
  have hts := atoms_spec (ws := (wa yX11_copy cX11_copy 2 none)) B.pre
  have hown : s.vm.findClass RX11 = some m.cls := findClass_of_methodNamed B.named
  have hlocks := B.notSynchronized
  subst hsz
  have hD : va_D (pq_B t σ (I, J, ri, rj, rq) s.heap.size) (pq_P t σ (I, J, ri, rj, rq)) := hD0.self
  generalize hAe : pq_B t σ (I, J, ri, rj, rq) s.heap.size = A at hD ⊢
  have hA : ∀ q : Nat, s.heap.size ≤ q → A q := fun q h => by rw [← hAe]; exact Or.inr h
  have hS : va_S A s.heap s.heap [] := va_S.rf
  have hG : GX [] tg σ I ri rj I ri rj rq := ⟨hG0, fun _ _ _ => rfl, fun _ _ _ _ _ => rfl, fun _ _ _ _ _ => rfl⟩
  have hl := lv_entry ([.ref a0, .ref a1]) (n := 2) (Nat.le_of_ble_eq_true rfl)
  rw [lg_entry_eq]
  generalize (lg_sl ([.ref a0, .ref a1]) ++ List.replicate (2 - (lg_sl ([.ref a0, .ref a1])).length) Slot.unset).toArray = ls at hl ⊢
  have hl : lv_has ls 2 [(0, .ref a0), (1, .ref a1)] := hl
  refine q_gen (fun Q hQ => ?_)
  have go : ∀ (H : Heap) (locs : List Loc) (ls : Array Slot), va_P D vwCl (pq_P t σ (I, J, ri, rj, rq)) H → va_D A (pq_P t σ (I, J, ri, rj, rq)) → va_S A s.heap H locs → lv_has ls 2 [(0, .ref a0), (1, .ref a1)] → W p l e ({ frames := 1, cells := 0, slots := 0, locals := 60 } : Room) s m (List.toArray ([.ref a0, .ref a1] : List Value)) below meth c H locs 0 0 Q (F0 m 0 ls []) := by
    intro H locs ls hP hD hS hl
    refine lv_aload_n hx hb dX11_copy_0 rfl (lv_at hl 0 rfl) ?_
    refine lv_iconst (v := 0) hx hb dX11_copy_1 (by decide +kernel) ?_
    refine lv_aload_n hx hb dX11_copy_2 rfl (lv_at hl 1 rfl) ?_
    refine lv_iconst (v := 0) hx hb dX11_copy_3 (by decide +kernel) ?_
    refine lv_aload_n hx hb dX11_copy_4 rfl (lv_at hl 0 rfl) ?_
    refine pn_i (v := 5) hx hb hK hP hL_a0 hK_a0 hN_a0 (by decide +kernel) dX11_copy_5 ?_
    refine lv_aload_n hx hb dX11_copy_6 rfl (lv_at hl 1 rfl) ?_
    refine pn_i (v := 5) hx hb hK hP hL_a1 hK_a1 hN_a1 (by decide +kernel) dX11_copy_7 ?_
    refine va_mmin hx hb (hml.trans hl.1.symm) hown (hts _ (tw_c tw_1103)) (hts _ (tw_c tw_467)) (hts _ (tw_c tw_276)) (hts _ (tw_c tw_468)) (Nat.le_of_ble_eq_true rfl) (Nat.le_of_ble_eq_true rfl) (Nat.zero_le _) (Nat.zero_le _) dX11_copy_8 ?_
    refine lv_topi (fun x_1 ex_1 => ?_)
    have h_2 : rg x_1 5 5 := rg_of_eq ex_1 (rg_min2 (rg_k (5 : Int32) 5 rfl) (rg_k (5 : Int32) 5 rfl) (by decide +kernel))
    refine pc_i hx hb (hml.trans hl.1.symm) hown (hts _ (tw_c tw_1104)) (hts _ (tw_c tw_1105)) (hts _ (tw_c tw_1106)) (hts _ (tw_c tw_1107)) hK hP hD hS hL_a0 hK_a0 hN_a0 hL_a1 hK_a1 hN_a1 (rg_pos (rg_k (0 : Int32) 0 rfl) (by decide +kernel)) (rg_pos h_2 (by decide +kernel)) (rg_cp (rg_k (0 : Int32) 0 rfl) h_2 (by decide +kernel)) (rg_cl h_2 (by decide +kernel)) (Nat.le_of_ble_eq_true rfl) (Nat.le_of_ble_eq_true rfl) dX11_copy_11 (fun r_3 H locs er_3 hP hD hS => ?_)
    have hG := GX.cR hG hSH hT_a0 rfl hT_a1 rfl er_3 (by decide +kernel)
    subst hQ
    exact W.vret hx hb hr (fun t1 ht hW => ⟨⟨(σ, I, J, r_3, rj, rq), rfl, ⟨r_3, rfl, hG, (cpy_eq er_3 h_2 rfl), (fun q hq => by rw [er_3, va_up_ne _ _ hq]), (by rw [er_3, show (x_1).toNatClampNeg = 5 from by have z_i := clampE x_1; have z_r := h_2; have z_1 := z_r.1; have z_2 := z_r.2; omega]; rfl)⟩, by rw [ht]; exact hP, va_K.moved hW.alike hK, hD⟩, hS.F ht⟩) hS.2.2 dX11_copy_14
  exact go _ _ _ hP hD hS hl

set_option maxRecDepth 100000 in
def g_X9_isAt (a0 : Int32) (I : Nat → Int32) (J : Nat → Int64) (ri : Nat → Nat → Int32) (rj : Nat → Nat → Int64) (rq : Nat → Nat → Option Nat) : Int32 × vM := (ap1 (ri 288 (a0).toNatClampNeg) fun (x_2 : Int32) => (if x_2 ≤ (0 : Int32) then ((0 : Int32), I, J, ri, rj, rq) else ((1 : Int32), I, J, ri, rj, rq)))
set_option maxRecDepth 100000 in
theorem g_X9_isAt_e {a0 : Int32} {I : Nat → Int32} {J : Nat → Int64} {ri : Nat → Nat → Int32} {rj : Nat → Nat → Int64} {rq : Nat → Nat → Option Nat} : g_X9_isAt a0 I J ri rj rq = (ap1 (ri 288 (a0).toNatClampNeg) fun (x_2 : Int32) => (if x_2 ≤ (0 : Int32) then ((0 : Int32), I, J, ri, rj, rq) else ((1 : Int32), I, J, ri, rj, rq))) := rfl
set_option maxHeartbeats 4000000 in
set_option maxRecDepth 100000 in
theorem s_X9_isAt (l : Launch) (D : va_G) (t : pq_T) (σ : pq_S) (I : Nat → Nat → Int32) (J : Nat → Nat → Int64) (ri : Nat → Nat → Int32) (rj : Nat → Nat → Int64) (rq : Nat → Nat → Option Nat) (sz : Nat) (tg : Nat → Nat) (hSH : SH σ tg) (hG0 : GS tg σ I ri rq) (this : Nat) (a0 : Int32) (hL_this : this ∈ σ.1) (hK_this : σ.2.1 this = 9) (h_a0 : rg a0 0 39) (M : Nat) (hL_M : M ∈ σ.1) (hK_M : σ.2.1 M = 10) (hO_this : this = vo σ 9 M) : MetI l yX9_isAt (wa yX9_isAt cX9_isAt 2 (some .boolean)) ({ frames := 0, cells := 0, slots := 0, locals := 0 }) [.ref this, .int a0] D t σ (I, J, ri, rj, rq) sz 0 0 (fun (r : Int32) (u : pq_S × pq_M) => u = (σ, I, J, ri, rj, rq) ∧ g_X9_isAt a0 (vI 10 σ M I) (vJ 10 σ M J) (vR 10 σ M ri) (vL 10 σ M rj) (vQ 10 σ M rq) = (r, (vI 10 σ M I), (vJ 10 σ M J), (vR 10 σ M ri), (vL 10 σ M rj), (vQ 10 σ M rq)) ∧ ((r = 1 ∧ True) ∨ (r = 0 ∧ True))) := by
  refine Met.ofW (cc := cX9_isAt) (maxL := 2) (ret := (some .boolean)) (by decide +kernel) rfl ?_
  intro p e s m args below meth c s₁ B hml hv
  obtain ⟨rfl, hsz, hP, hK, hD0, hN⟩ := hv
  have hx := B.exec
  have hb := B.bytes
  have hr := B.returns
  have hts := atoms_spec (ws := (wa yX9_isAt cX9_isAt 2 (some .boolean))) B.pre
  have hown : s.vm.findClass RX9 = some m.cls := findClass_of_methodNamed B.named
  have hlocks := B.notSynchronized
  subst hsz
  have hD : va_D (pq_B t σ (I, J, ri, rj, rq) s.heap.size) (pq_P t σ (I, J, ri, rj, rq)) := hD0.self
  generalize hAe : pq_B t σ (I, J, ri, rj, rq) s.heap.size = A at hD ⊢
  have hA : ∀ q : Nat, s.heap.size ≤ q → A q := fun q h => by rw [← hAe]; exact Or.inr h
  have hS : va_S A s.heap s.heap [] := va_S.rf
  have hG : GX [] tg σ I ri rj I ri rj rq := ⟨hG0, fun _ _ _ => rfl, fun _ _ _ _ _ => rfl, fun _ _ _ _ _ => rfl⟩
  have hl := lv_entry ([.ref this, .int a0]) (n := 2) (Nat.le_of_ble_eq_true rfl)
  rw [lg_entry_eq]
  generalize (lg_sl ([.ref this, .int a0]) ++ List.replicate (2 - (lg_sl ([.ref this, .int a0])).length) Slot.unset).toArray = ls at hl ⊢
  have hl : lv_has ls 2 [(0, .ref this), (1, .int a0)] := hl
  refine q_gen (fun Q hQ => ?_)
  have go : ∀ (H : Heap) (locs : List Loc) (ls : Array Slot), va_P D vwCl (pq_P t σ (I, J, ri, rj, rq)) H → va_D A (pq_P t σ (I, J, ri, rj, rq)) → va_S A s.heap H locs → lv_has ls 2 [(0, .ref this), (1, .int a0)] → W p l e ({ frames := 0, cells := 0, slots := 0, locals := 0 } : Room) s m (List.toArray ([.ref this, .int a0] : List Value)) below meth c H locs 0 0 Q (F0 m 0 ls []) := by
    intro H locs ls hP hD hS hl
    have hVT : VT 10 σ tg M := vt_10 hSH hL_M hK_M
    have hFr : FR 10 tg σ M (I, J, ri, rj, rq) (I, J, ri, rj, rq) := fr_rf
    obtain ⟨F, hF0⟩ : ∃ F, F = g_X9_isAt a0 (vI 10 σ M I) (vJ 10 σ M J) (vR 10 σ M ri) (vL 10 σ M rj) (vQ 10 σ M rq) := ⟨_, rfl⟩
    have hF := hF0.trans g_X9_isAt_e
    refine lv_aload_n hx hb dX9_isAt_0 rfl (lv_at hl 0 rfl) ?_
    obtain ⟨w_1, hR_w_1, hL_w_1, hK_w_1, hN_w_1, hT_w_1⟩ := sh_a hSH 288 (ci := 9) (kd := 13) (len := 40) rfl (by decide +kernel) hL_this hK_this
    have hO_w_1 : w_1 = vrow σ 288 M := vo_k (c := 9) hO_this hR_w_1
    refine pg_f (v := .ref w_1) (C := RX9) (T := TX9) (N := 3) hx hb hts (tw_i inlX9) hown hK hP hL_this hK_this (by decide +kernel) rfl 0 (by decide +kernel) (hts _ (tw_c tw_104)) (pq_hv rfl hR_w_1) dX9_isAt_1 ?_
    refine lv_iload_n hx hb dX9_isAt_4 rfl (lv_at hl 1 rfl) ?_
    refine pl_i hx hb hK hP hL_w_1 hK_w_1 hN_w_1 (rg_in h_a0 (by decide +kernel)) dX9_isAt_5 ?_
    refine lv_topi (fun x_2 ex_2 => ?_)
    replace hF := hF.trans (ap_n (vR_r hO_w_1 (by decide +kernel) ex_2))
    refine lv_if_le (tgt := 13) hx hb dX9_isAt_6 (by decide +kernel) (fun c_3 => ?_) (fun c_3 => ?_)
    · replace hF := hF.trans (if_pos c_3)
      have h_6 : rg x_2 (-2147483648) 0 := rg_le1 c_3 (rg_full _) (rg_k (0 : Int32) 0 rfl) (by decide +kernel)
      refine lv_iconst (v := 0) hx hb dX9_isAt_13 (by decide +kernel) ?_
      subst hQ
      exact W.zret (v := 0) hx hb hr (by decide +kernel) (fun t1 ht hW => ⟨⟨0, (σ, I, J, ri, rj, rq), rfl, ⟨rfl, (hF0.symm.trans hF), (Or.inr ⟨rfl, trivial⟩)⟩, by rw [ht]; exact hP, va_K.moved hW.alike hK, hD⟩, hS.F ht⟩) hS.2.2 dX9_isAt_14
    · replace hF := hF.trans (if_neg c_3)
      have h_7 : rg x_2 1 2147483647 := rg_lt2 (nle c_3) (rg_k (0 : Int32) 0 rfl) (rg_full _) (by decide +kernel)
      refine lv_iconst (v := 1) hx hb dX9_isAt_9 (by decide +kernel) ?_
      refine lv_goto (tgt := 14) hx hb dX9_isAt_10 (by decide +kernel) ?_
      subst hQ
      exact W.zret (v := 1) hx hb hr (by decide +kernel) (fun t1 ht hW => ⟨⟨1, (σ, I, J, ri, rj, rq), rfl, ⟨rfl, (hF0.symm.trans hF), (Or.inl ⟨rfl, trivial⟩)⟩, by rw [ht]; exact hP, va_K.moved hW.alike hK, hD⟩, hS.F ht⟩) hS.2.2 dX9_isAt_14
  exact go _ _ _ hP hD hS hl

set_option maxRecDepth 100000 in
def g_X9_isSweet_K34 (I : Nat → Int32) (J : Nat → Int64) (ri : Nat → Nat → Int32) (rj : Nat → Nat → Int64) (rq : Nat → Nat → Option Nat) : Int32 × vM := ((0 : Int32), I, J, ri, rj, rq)
set_option maxRecDepth 100000 in
theorem g_X9_isSweet_K34_e {I : Nat → Int32} {J : Nat → Int64} {ri : Nat → Nat → Int32} {rj : Nat → Nat → Int64} {rq : Nat → Nat → Option Nat} : g_X9_isSweet_K34 I J ri rj rq  = ((0 : Int32), I, J, ri, rj, rq) := rfl
set_option maxRecDepth 100000 in
def g_X9_isSweet (a0 : Int32) (I : Nat → Int32) (J : Nat → Int64) (ri : Nat → Nat → Int32) (rj : Nat → Nat → Int64) (rq : Nat → Nat → Option Nat) : Int32 × vM := (bnI (g_X9_isAt a0 I J ri rj rq) fun (x_1 : Int32) (_ : Nat → Int32) (_ : Nat → Int64) (_ : Nat → Nat → Int32) (_ : Nat → Nat → Int64) (_ : Nat → Nat → Option Nat) => (if x_1 = (0 : Int32) then (g_X9_isSweet_K34 I J ri rj rq ) else (ap1 (ri 290 (a0).toNatClampNeg) fun (x_29 : Int32) => (if (20 : Int32) < x_29 then (g_X9_isSweet_K34 I J ri rj rq ) else (ap1 (ri 289 (a0).toNatClampNeg) fun (x_36 : Int32) => (if x_36 < (10 : Int32) then (g_X9_isSweet_K34 I J ri rj rq ) else ((1 : Int32), I, J, ri, rj, rq)))))))
set_option maxRecDepth 100000 in
theorem g_X9_isSweet_e {a0 : Int32} {I : Nat → Int32} {J : Nat → Int64} {ri : Nat → Nat → Int32} {rj : Nat → Nat → Int64} {rq : Nat → Nat → Option Nat} : g_X9_isSweet a0 I J ri rj rq = (bnI (g_X9_isAt a0 I J ri rj rq) fun (x_1 : Int32) (_ : Nat → Int32) (_ : Nat → Int64) (_ : Nat → Nat → Int32) (_ : Nat → Nat → Int64) (_ : Nat → Nat → Option Nat) => (if x_1 = (0 : Int32) then (g_X9_isSweet_K34 I J ri rj rq ) else (ap1 (ri 290 (a0).toNatClampNeg) fun (x_29 : Int32) => (if (20 : Int32) < x_29 then (g_X9_isSweet_K34 I J ri rj rq ) else (ap1 (ri 289 (a0).toNatClampNeg) fun (x_36 : Int32) => (if x_36 < (10 : Int32) then (g_X9_isSweet_K34 I J ri rj rq ) else ((1 : Int32), I, J, ri, rj, rq))))))) := rfl
set_option maxHeartbeats 4000000 in
set_option maxRecDepth 100000 in
theorem s_X9_isSweet (l : Launch) (D : va_G) (t : pq_T) (σ : pq_S) (I : Nat → Nat → Int32) (J : Nat → Nat → Int64) (ri : Nat → Nat → Int32) (rj : Nat → Nat → Int64) (rq : Nat → Nat → Option Nat) (sz : Nat) (tg : Nat → Nat) (hSH : SH σ tg) (hG0 : GS tg σ I ri rq) (this : Nat) (a0 : Int32) (hL_this : this ∈ σ.1) (hK_this : σ.2.1 this = 9) (h_a0 : rg a0 0 39) (M : Nat) (hL_M : M ∈ σ.1) (hK_M : σ.2.1 M = 10) (hO_this : this = vo σ 9 M) : MetI l yX9_isSweet (wa yX9_isSweet cX9_isSweet 2 (some .boolean)) ({ frames := 1, cells := 0, slots := 0, locals := 21 }) [.ref this, .int a0] D t σ (I, J, ri, rj, rq) sz 0 0 (fun (r : Int32) (u : pq_S × pq_M) => u = (σ, I, J, ri, rj, rq) ∧ g_X9_isSweet a0 (vI 10 σ M I) (vJ 10 σ M J) (vR 10 σ M ri) (vL 10 σ M rj) (vQ 10 σ M rq) = (r, (vI 10 σ M I), (vJ 10 σ M J), (vR 10 σ M ri), (vL 10 σ M rj), (vQ 10 σ M rq)) ∧ ((r = 1 ∧ True) ∨ (r = 0 ∧ True))) := by
  refine Met.ofW (cc := cX9_isSweet) (maxL := 2) (ret := (some .boolean)) (by decide +kernel) rfl ?_
  intro p e s m args below meth c s₁ B hml hv
  obtain ⟨rfl, hsz, hP, hK, hD0, hN⟩ := hv
  have hx := B.exec
  have hb := B.bytes
  have hr := B.returns
  have hts := atoms_spec (ws := (wa yX9_isSweet cX9_isSweet 2 (some .boolean))) B.pre
  have hown : s.vm.findClass RX9 = some m.cls := findClass_of_methodNamed B.named
  have hlocks := B.notSynchronized
  subst hsz
  have hD : va_D (pq_B t σ (I, J, ri, rj, rq) s.heap.size) (pq_P t σ (I, J, ri, rj, rq)) := hD0.self
  generalize hAe : pq_B t σ (I, J, ri, rj, rq) s.heap.size = A at hD ⊢
  have hA : ∀ q : Nat, s.heap.size ≤ q → A q := fun q h => by rw [← hAe]; exact Or.inr h
  have hS : va_S A s.heap s.heap [] := va_S.rf
  have hG : GX [] tg σ I ri rj I ri rj rq := ⟨hG0, fun _ _ _ => rfl, fun _ _ _ _ _ => rfl, fun _ _ _ _ _ => rfl⟩
  have hl := lv_entry ([.ref this, .int a0]) (n := 2) (Nat.le_of_ble_eq_true rfl)
  rw [lg_entry_eq]
  generalize (lg_sl ([.ref this, .int a0]) ++ List.replicate (2 - (lg_sl ([.ref this, .int a0])).length) Slot.unset).toArray = ls at hl ⊢
  have hl : lv_has ls 2 [(0, .ref this), (1, .int a0)] := hl
  refine q_gen (fun Q hQ => ?_)
  have go : ∀ (H : Heap) (locs : List Loc) (ls : Array Slot), va_P D vwCl (pq_P t σ (I, J, ri, rj, rq)) H → va_D A (pq_P t σ (I, J, ri, rj, rq)) → va_S A s.heap H locs → lv_has ls 2 [(0, .ref this), (1, .int a0)] → W p l e ({ frames := 1, cells := 0, slots := 0, locals := 21 } : Room) s m (List.toArray ([.ref this, .int a0] : List Value)) below meth c H locs 0 0 Q (F0 m 0 ls []) := by
    intro H locs ls hP hD hS hl
    have hVT : VT 10 σ tg M := vt_10 hSH hL_M hK_M
    have hFr : FR 10 tg σ M (I, J, ri, rj, rq) (I, J, ri, rj, rq) := fr_rf
    obtain ⟨F, hF0⟩ : ∃ F, F = g_X9_isSweet a0 (vI 10 σ M I) (vJ 10 σ M J) (vR 10 σ M ri) (vL 10 σ M rj) (vQ 10 σ M rq) := ⟨_, rfl⟩
    have hF := hF0.trans g_X9_isSweet_e
    refine lv_aload_n hx hb dX9_isSweet_0 rfl (lv_at hl 0 rfl) ?_
    refine lv_iload_n hx hb dX9_isSweet_1 rfl (lv_at hl 1 rfl) ?_
    refine pk_i (va_runV (As := [.int a0]) (rest := []) ⟨hx, hb, hml, hown, hts⟩ (s_X9_isAt l D t σ I J ri rj rq H.size tg hSH hG.1 this a0 hL_this hK_this (rg_w h_a0 (by decide +kernel)) M hL_M hK_M hO_this) (cwV 1 hts (tw_V tw_1089 tw_350 tw_351 tw_94 tw_352) rfl rfl rfl cv_yX9_isAt_1 ⟨Nat.le_of_ble_eq_true rfl, Nat.le_of_ble_eq_true rfl⟩) ⟨pq_blind, pq_recv hK hP hL_this hK_this (by decide +kernel) rfl, pq_pre hK hN hP hD⟩ rfl rfl hl.1 rfl (lv_room (Nat.le_of_ble_eq_true rfl)) dX9_isSweet_2 ⟨Nat.le_of_ble_eq_true rfl, Nat.le_of_ble_eq_true rfl⟩) hD hS hA (fun x_1 σ1 μ1 H locs hw_2 hP hD hS => ?_)
    obtain ⟨hu_3, hfn_6, hr_5⟩ := hw_2
    obtain ⟨hu_3a, hu_3b⟩ := Prod.mk.inj hu_3
    rw [hu_3a, hu_3b] at hP hD
    replace hF := hF.trans (bn_n hfn_6)
    have h_8 : rg x_1 0 1 := by rcases hr_5 with ⟨q, -⟩ | ⟨q, -⟩ <;> rw [q] <;> exact ⟨by decide +kernel, by decide +kernel⟩
    have K_22 : ∀  (H : Heap) (locs : List Loc) (ls : Array Slot), F = g_X9_isSweet_K34 (vI 10 σ M I) (vJ 10 σ M J) (vR 10 σ M ri) (vL 10 σ M rj) (vQ 10 σ M rq)  → FR 10 tg σ M (I, J, ri, rj, rq) (I, J, ri, rj, rq) → GX [] tg σ I ri rj I ri rj rq → va_P D vwCl (pq_P t σ (I, J, ri, rj, rq)) H → va_D A (pq_P t σ (I, J, ri, rj, rq)) → va_S A s.heap H locs → lv_has ls 2 [] → W p l e ({ frames := 1, cells := 0, slots := 0, locals := 21 } : Room) s m (List.toArray ([.ref this, .int a0] : List Value)) below meth c H locs 0 0 Q (F0 m 34 ls []) := by
      intro H locs ls hF hFr hG hP hD hS hl
      replace hF := hF.trans g_X9_isSweet_K34_e
      refine lv_iconst (v := 0) hx hb dX9_isSweet_34 (by decide +kernel) ?_
      subst hQ
      exact W.zret (v := 0) hx hb hr (by decide +kernel) (fun t1 ht hW => ⟨⟨0, (σ, I, J, ri, rj, rq), rfl, ⟨rfl, (hF0.symm.trans hF), (Or.inr ⟨rfl, trivial⟩)⟩, by rw [ht]; exact hP, va_K.moved hW.alike hK, hD⟩, hS.F ht⟩) hS.2.2 dX9_isSweet_35
    refine lv_if_eq (tgt := 34) hx hb dX9_isSweet_5 (by decide +kernel) (fun c_23 => ?_) (fun c_23 => ?_)
    · replace hF := hF.trans (if_pos c_23)
      have h_26 : rg x_1 0 0 := rg_and h_8 (rg_of_eq c_23 (rg_k (0 : Int32) 0 rfl)) (by decide +kernel)
      exact K_22 _ _ _ hF hFr hG hP hD hS (lv_sub hl [] rfl)
    · replace hF := hF.trans (if_neg c_23)
      have h_27 : rg x_1 1 1 := rg_ne c_23 h_8 0 rfl (by decide +kernel)
      refine lv_aload_n hx hb dX9_isSweet_8 rfl (lv_at hl 0 rfl) ?_
      obtain ⟨w_28, hR_w_28, hL_w_28, hK_w_28, hN_w_28, hT_w_28⟩ := sh_a hSH 290 (ci := 9) (kd := 13) (len := 40) rfl (by decide +kernel) hL_this hK_this
      have hO_w_28 : w_28 = vrow σ 290 M := vo_k (c := 9) hO_this hR_w_28
      refine pg_f (v := .ref w_28) (C := RX9) (T := TX9) (N := 3) hx hb hts (tw_i inlX9) hown hK hP hL_this hK_this (by decide +kernel) rfl 2 (by decide +kernel) (hts _ (tw_c tw_106)) (pq_hv rfl hR_w_28) dX9_isSweet_9 ?_
      refine lv_iload_n hx hb dX9_isSweet_12 rfl (lv_at hl 1 rfl) ?_
      refine pl_i hx hb hK hP hL_w_28 hK_w_28 hN_w_28 (rg_in h_a0 (by decide +kernel)) dX9_isSweet_13 ?_
      refine lv_topi (fun x_29 ex_29 => ?_)
      replace hF := hF.trans (ap_n (vR_r hO_w_28 (by decide +kernel) ex_29))
      refine lv_bipush (v := 20) hx hb dX9_isSweet_14 (by decide +kernel) ?_
      refine lv_icmp_gt (tgt := 34) hx hb dX9_isSweet_16 (by decide +kernel) (fun c_30 => ?_) (fun c_30 => ?_)
      · replace hF := hF.trans (if_pos c_30)
        have h_33 : rg x_29 21 2147483647 := rg_lt2 c_30 (rg_k (20 : Int32) 20 rfl) (rg_full _) (by decide +kernel)
        exact K_22 _ _ _ hF hFr hG hP hD hS (lv_sub hl [] rfl)
      · replace hF := hF.trans (if_neg c_30)
        have h_34 : rg x_29 (-2147483648) 20 := rg_le1 (nlt c_30) (rg_full _) (rg_k (20 : Int32) 20 rfl) (by decide +kernel)
        refine lv_aload_n hx hb dX9_isSweet_19 rfl (lv_at hl 0 rfl) ?_
        obtain ⟨w_35, hR_w_35, hL_w_35, hK_w_35, hN_w_35, hT_w_35⟩ := sh_a hSH 289 (ci := 9) (kd := 13) (len := 40) rfl (by decide +kernel) hL_this hK_this
        have hO_w_35 : w_35 = vrow σ 289 M := vo_k (c := 9) hO_this hR_w_35
        refine pg_f (v := .ref w_35) (C := RX9) (T := TX9) (N := 3) hx hb hts (tw_i inlX9) hown hK hP hL_this hK_this (by decide +kernel) rfl 1 (by decide +kernel) (hts _ (tw_c tw_105)) (pq_hv rfl hR_w_35) dX9_isSweet_20 ?_
        refine lv_iload_n hx hb dX9_isSweet_23 rfl (lv_at hl 1 rfl) ?_
        refine pl_i hx hb hK hP hL_w_35 hK_w_35 hN_w_35 (rg_in h_a0 (by decide +kernel)) dX9_isSweet_24 ?_
        refine lv_topi (fun x_36 ex_36 => ?_)
        replace hF := hF.trans (ap_n (vR_r hO_w_35 (by decide +kernel) ex_36))
        refine lv_bipush (v := 10) hx hb dX9_isSweet_25 (by decide +kernel) ?_
        refine lv_icmp_lt (tgt := 34) hx hb dX9_isSweet_27 (by decide +kernel) (fun c_37 => ?_) (fun c_37 => ?_)
        · replace hF := hF.trans (if_pos c_37)
          have h_40 : rg x_36 (-2147483648) 9 := rg_lt1 c_37 (rg_full _) (rg_k (10 : Int32) 10 rfl) (by decide +kernel)
          exact K_22 _ _ _ hF hFr hG hP hD hS (lv_sub hl [] rfl)
        · replace hF := hF.trans (if_neg c_37)
          have h_41 : rg x_36 10 2147483647 := rg_le2 (nlt c_37) (rg_k (10 : Int32) 10 rfl) (rg_full _) (by decide +kernel)
          refine lv_iconst (v := 1) hx hb dX9_isSweet_30 (by decide +kernel) ?_
          refine lv_goto (tgt := 35) hx hb dX9_isSweet_31 (by decide +kernel) ?_
          subst hQ
          exact W.zret (v := 1) hx hb hr (by decide +kernel) (fun t1 ht hW => ⟨⟨1, (σ, I, J, ri, rj, rq), rfl, ⟨rfl, (hF0.symm.trans hF), (Or.inl ⟨rfl, trivial⟩)⟩, by rw [ht]; exact hP, va_K.moved hW.alike hK, hD⟩, hS.F ht⟩) hS.2.2 dX9_isSweet_35
  exact go _ _ _ hP hD hS hl

set_option maxRecDepth 100000 in
def g_X2_sweetFrom_K41 (I : Nat → Int32) (J : Nat → Int64) (ri : Nat → Nat → Int32) (rj : Nat → Nat → Int64) (rq : Nat → Nat → Option Nat) (x_345 : Int32) : Int32 × vM := (x_345, I, J, ri, rj, rq)
set_option maxRecDepth 100000 in
theorem g_X2_sweetFrom_K41_e {I : Nat → Int32} {J : Nat → Int64} {ri : Nat → Nat → Int32} {rj : Nat → Nat → Int64} {rq : Nat → Nat → Option Nat} {x_345 : Int32} : g_X2_sweetFrom_K41 I J ri rj rq x_345  = (x_345, I, J, ri, rj, rq) := rfl
set_option maxRecDepth 100000 in
def g_X2_sweetFrom_L4 (I : Nat → Int32) (J : Nat → Int64) (ri : Nat → Nat → Int32) (rj : Nat → Nat → Int64) (rq : Nat → Nat → Option Nat) : Nat → (Int32) → (Int32) → Int32 × vM
  | 0, x_345, x_346 => ((0 : Int32), I, J, ri, rj, rq)
  | n_375 + 1, x_345, x_346 => (ap1 (I 65) fun (y_383 : Int32) => (if (y_383) ≤ x_346 then (g_X2_sweetFrom_K41 I J ri rj rq x_345 ) else (if x_345 = (-1 : Int32) then (g_X2_sweetFrom_K41 I J ri rj rq x_345 ) else (bnI (g_X9_isSweet x_345 I J ri rj rq) fun (x_419 : Int32) (_ : Nat → Int32) (_ : Nat → Int64) (_ : Nat → Nat → Int32) (_ : Nat → Nat → Int64) (_ : Nat → Nat → Option Nat) => (if x_419 = (0 : Int32) then (ap1 (ri 79 (x_345).toNatClampNeg) fun (x_433 : Int32) => (ap1 (x_346 + Int32.ofInt 1) fun (x_435 : Int32) => ((g_X2_sweetFrom_L4 I J ri rj rq n_375) x_433 x_435))) else (g_X2_sweetFrom_K41 I J ri rj rq x_345 ))))))
set_option maxRecDepth 100000 in
theorem g_X2_sweetFrom_L4_e {I : Nat → Int32} {J : Nat → Int64} {ri : Nat → Nat → Int32} {rj : Nat → Nat → Int64} {rq : Nat → Nat → Option Nat} {n_375 : Nat} {x_345 : Int32} {x_346 : Int32} : g_X2_sweetFrom_L4 I J ri rj rq (n_375 + 1) x_345 x_346 = (ap1 (I 65) fun (y_383 : Int32) => (if (y_383) ≤ x_346 then (g_X2_sweetFrom_K41 I J ri rj rq x_345 ) else (if x_345 = (-1 : Int32) then (g_X2_sweetFrom_K41 I J ri rj rq x_345 ) else (bnI (g_X9_isSweet x_345 I J ri rj rq) fun (x_419 : Int32) (_ : Nat → Int32) (_ : Nat → Int64) (_ : Nat → Nat → Int32) (_ : Nat → Nat → Int64) (_ : Nat → Nat → Option Nat) => (if x_419 = (0 : Int32) then (ap1 (ri 79 (x_345).toNatClampNeg) fun (x_433 : Int32) => (ap1 (x_346 + Int32.ofInt 1) fun (x_435 : Int32) => ((g_X2_sweetFrom_L4 I J ri rj rq n_375) x_433 x_435))) else (g_X2_sweetFrom_K41 I J ri rj rq x_345 )))))) := rfl
set_option maxRecDepth 100000 in
def g_X2_sweetFrom (a0 : Int32) (I : Nat → Int32) (J : Nat → Int64) (ri : Nat → Nat → Int32) (rj : Nat → Nat → Int64) (rq : Nat → Nat → Option Nat) : Int32 × vM := (g_X2_sweetFrom_L4 I J ri rj rq ((40 - ((0 : Int32)).toInt).toNat + 1) a0 (0 : Int32))
set_option maxRecDepth 100000 in
theorem g_X2_sweetFrom_e {a0 : Int32} {I : Nat → Int32} {J : Nat → Int64} {ri : Nat → Nat → Int32} {rj : Nat → Nat → Int64} {rq : Nat → Nat → Option Nat} : g_X2_sweetFrom a0 I J ri rj rq = (g_X2_sweetFrom_L4 I J ri rj rq ((40 - ((0 : Int32)).toInt).toNat + 1) a0 (0 : Int32)) := rfl
set_option maxHeartbeats 4000000 in
set_option maxRecDepth 100000 in
theorem s_X2_sweetFrom (l : Launch) (D : va_G) (t : pq_T) (σ : pq_S) (I : Nat → Nat → Int32) (J : Nat → Nat → Int64) (ri : Nat → Nat → Int32) (rj : Nat → Nat → Int64) (rq : Nat → Nat → Option Nat) (sz : Nat) (tg : Nat → Nat) (hSH : SH σ tg) (hG0 : GS tg σ I ri rq) (this : Nat) (a0 : Int32) (hL_this : this ∈ σ.1) (hK_this : σ.2.1 this = 2) (h_a0 : rg a0 (-1) 39) (M : Nat) (hL_M : M ∈ σ.1) (hK_M : σ.2.1 M = 10) (hO_this : this = vo σ 2 M) : MetI l yX2_sweetFrom (wa yX2_sweetFrom cX2_sweetFrom 4 (some .int)) ({ frames := 2, cells := 0, slots := 0, locals := 42 }) [.ref this, .int a0] D t σ (I, J, ri, rj, rq) sz 0 0 (fun (r : Int32) (u : pq_S × pq_M) => u = (σ, I, J, ri, rj, rq) ∧ g_X2_sweetFrom a0 (vI 10 σ M I) (vJ 10 σ M J) (vR 10 σ M ri) (vL 10 σ M rj) (vQ 10 σ M rq) = (r, (vI 10 σ M I), (vJ 10 σ M J), (vR 10 σ M ri), (vL 10 σ M rj), (vQ 10 σ M rq)) ∧ rg r (-1) 39) := by
  refine Met.ofW (cc := cX2_sweetFrom) (maxL := 4) (ret := (some .int)) (by decide +kernel) rfl ?_
  intro p e s m args below meth c s₁ B hml hv
  obtain ⟨rfl, hsz, hP, hK, hD0, hN⟩ := hv
  have hx := B.exec
  have hb := B.bytes
  have hr := B.returns
  have hts := atoms_spec (ws := (wa yX2_sweetFrom cX2_sweetFrom 4 (some .int))) B.pre
  have hown : s.vm.findClass RX2 = some m.cls := findClass_of_methodNamed B.named
  have hlocks := B.notSynchronized
  subst hsz
  have hD : va_D (pq_B t σ (I, J, ri, rj, rq) s.heap.size) (pq_P t σ (I, J, ri, rj, rq)) := hD0.self
  generalize hAe : pq_B t σ (I, J, ri, rj, rq) s.heap.size = A at hD ⊢
  have hA : ∀ q : Nat, s.heap.size ≤ q → A q := fun q h => by rw [← hAe]; exact Or.inr h
  have hS : va_S A s.heap s.heap [] := va_S.rf
  have hG : GX [] tg σ I ri rj I ri rj rq := ⟨hG0, fun _ _ _ => rfl, fun _ _ _ _ _ => rfl, fun _ _ _ _ _ => rfl⟩
  have hl := lv_entry ([.ref this, .int a0]) (n := 4) (Nat.le_of_ble_eq_true rfl)
  rw [lg_entry_eq]
  generalize (lg_sl ([.ref this, .int a0]) ++ List.replicate (4 - (lg_sl ([.ref this, .int a0])).length) Slot.unset).toArray = ls at hl ⊢
  have hl : lv_has ls 4 [(0, .ref this), (1, .int a0)] := hl
  refine q_gen (fun Q hQ => ?_)
  have go : ∀ (H : Heap) (locs : List Loc) (ls : Array Slot), va_P D vwCl (pq_P t σ (I, J, ri, rj, rq)) H → va_D A (pq_P t σ (I, J, ri, rj, rq)) → va_S A s.heap H locs → lv_has ls 4 [(0, .ref this), (1, .int a0)] → W p l e ({ frames := 2, cells := 0, slots := 0, locals := 42 } : Room) s m (List.toArray ([.ref this, .int a0] : List Value)) below meth c H locs 0 0 Q (F0 m 0 ls []) := by
    intro H locs ls hP hD hS hl
    have hVT : VT 10 σ tg M := vt_10 hSH hL_M hK_M
    have hFr : FR 10 tg σ M (I, J, ri, rj, rq) (I, J, ri, rj, rq) := fr_rf
    obtain ⟨F, hF0⟩ : ∃ F, F = g_X2_sweetFrom a0 (vI 10 σ M I) (vJ 10 σ M J) (vR 10 σ M ri) (vL 10 σ M rj) (vQ 10 σ M rq) := ⟨_, rfl⟩
    have hF := hF0.trans g_X2_sweetFrom_e
    refine lv_iload_n hx hb dX2_sweetFrom_0 rfl (lv_at hl 1 rfl) ?_
    refine lv_istore_n (lv' := [(2, .int a0), (0, .ref this), (1, .int a0)]) hx hb dX2_sweetFrom_1 rfl hl (by decide +kernel) rfl (fun ls hl => ?_)
    refine lv_iconst (v := 0) hx hb dX2_sweetFrom_2 (by decide +kernel) ?_
    refine lv_istore_n (lv' := [(3, .int 0), (2, .int a0), (0, .ref this), (1, .int a0)]) hx hb dX2_sweetFrom_3 rfl hl (by decide +kernel) rfl (fun ls hl => ?_)
    have L_376 : ∀ (n_375 : Nat) (x_345 : Int32) (x_346 : Int32) (H : Heap) (locs : List Loc) (ls : Array Slot), rg x_345 (-1) 39 → rg x_346 0 40 → (40 - (x_346).toInt).toNat < n_375 → F = g_X2_sweetFrom_L4 (vI 10 σ M I) (vJ 10 σ M J) (vR 10 σ M ri) (vL 10 σ M rj) (vQ 10 σ M rq) n_375 x_345 x_346 → FR 10 tg σ M (I, J, ri, rj, rq) (I, J, ri, rj, rq) → GX [] tg σ I ri rj I ri rj rq → va_P D vwCl (pq_P t σ (I, J, ri, rj, rq)) H → va_D A (pq_P t σ (I, J, ri, rj, rq)) → va_S A s.heap H locs → lv_has ls 4 [(0, .ref this), (2, .int x_345), (3, .int x_346)] → W p l e ({ frames := 2, cells := 0, slots := 0, locals := 42 } : Room) s m (List.toArray ([.ref this, .int a0] : List Value)) below meth c H locs 0 0 Q (F0 m 4 ls []) := by
      intro n_375
      induction n_375 with
      | zero => intro x_345 x_346 H locs ls h_380 h_381 hm_374 hF hFr hG hP hD hS hl; exact absurd hm_374 (Nat.not_lt_zero _)
      | succ n_375 ih_377 =>
        intro x_345 x_346 H locs ls h_380 h_381 hm_374 hF hFr hG hP hD hS hl
        replace hF := hF.trans g_X2_sweetFrom_L4_e
        refine lv_iload_n hx hb dX2_sweetFrom_4 rfl (lv_at hl 2 rfl) ?_
        refine lv_aload_n hx hb dX2_sweetFrom_5 rfl (lv_at hl 0 rfl) ?_
        refine pg_f (v := .int (I 65 this)) (C := RX2) (T := TX2) (N := 20) hx hb hts (tw_i inlX2) hown hK hP hL_this hK_this (by decide +kernel) rfl 1 (by decide +kernel) (hts _ (tw_c tw_222)) rfl dX2_sweetFrom_6 ?_
        have h_382 : rg (I 65 this) 0 40 := GX.rI hG 65 rfl
        replace hF := hF.trans (ap_n (vI_e (f := 65) hO_this (by decide +kernel)))
        have K_407 : ∀  (H : Heap) (locs : List Loc) (ls : Array Slot), F = g_X2_sweetFrom_K41 (vI 10 σ M I) (vJ 10 σ M J) (vR 10 σ M ri) (vL 10 σ M rj) (vQ 10 σ M rq) x_345  → FR 10 tg σ M (I, J, ri, rj, rq) (I, J, ri, rj, rq) → GX [] tg σ I ri rj I ri rj rq → va_P D vwCl (pq_P t σ (I, J, ri, rj, rq)) H → va_D A (pq_P t σ (I, J, ri, rj, rq)) → va_S A s.heap H locs → lv_has ls 4 [(2, .int x_345)] → W p l e ({ frames := 2, cells := 0, slots := 0, locals := 42 } : Room) s m (List.toArray ([.ref this, .int a0] : List Value)) below meth c H locs 0 0 Q (F0 m 41 ls []) := by
          intro H locs ls hF hFr hG hP hD hS hl
          replace hF := hF.trans g_X2_sweetFrom_K41_e
          refine lv_iload_n hx hb dX2_sweetFrom_41 rfl (lv_at hl 0 rfl) ?_
          subst hQ
          exact W.iret (v := x_345) hx hb hr (fun t1 ht hW => ⟨⟨x_345, (σ, I, J, ri, rj, rq), rfl, ⟨rfl, (hF0.symm.trans hF), (rg_w h_380 (by decide +kernel))⟩, by rw [ht]; exact hP, va_K.moved hW.alike hK, hD⟩, hS.F ht⟩) hS.2.2 dX2_sweetFrom_42
        refine lv_icmp_ge (tgt := 41) hx hb dX2_sweetFrom_9 (by decide +kernel) (fun c_408 => ?_) (fun c_408 => ?_)
        · replace hF := hF.trans (if_pos c_408)
          exact K_407 _ _ _ hF hFr hG hP hD hS (lv_sub hl [1] rfl)
        · replace hF := hF.trans (if_neg c_408)
          have h_411 : rg x_346 0 39 := rg_lt1 (nle c_408) h_381 h_382 (by decide +kernel)
          have h_412 : rg (I 65 this) 1 40 := rg_lt2 (nle c_408) h_381 h_382 (by decide +kernel)
          refine lv_iload_n hx hb dX2_sweetFrom_12 rfl (lv_at hl 1 rfl) ?_
          refine lv_iconst (v := (-1)) hx hb dX2_sweetFrom_13 (by decide +kernel) ?_
          refine lv_icmp_eq (tgt := 41) hx hb dX2_sweetFrom_14 (by decide +kernel) (fun c_413 => ?_) (fun c_413 => ?_)
          · replace hF := hF.trans (if_pos c_413)
            have h_416 : rg x_345 (-1) (-1) := rg_and h_380 (rg_of_eq c_413 (rg_k (-1 : Int32) (-1) rfl)) (by decide +kernel)
            exact K_407 _ _ _ hF hFr hG hP hD hS (lv_sub hl [1] rfl)
          · replace hF := hF.trans (if_neg c_413)
            have h_417 : rg x_345 0 39 := rg_ne c_413 h_380 (-1) rfl (by decide +kernel)
            refine lv_aload_n hx hb dX2_sweetFrom_17 rfl (lv_at hl 0 rfl) ?_
            obtain ⟨w_418, hR_w_418, hL_w_418, hK_w_418⟩ := sh_o hSH 78 (ci := 2) (kd := 9) rfl hL_this hK_this
            have hO_w_418 : w_418 = vo σ 9 M := vo_k (c := 2) hO_this hR_w_418
            refine pg_f (v := .ref w_418) (C := RX2) (T := TX2) (N := 20) hx hb hts (tw_i inlX2) hown hK hP hL_this hK_this (by decide +kernel) rfl 14 (by decide +kernel) (hts _ (tw_c tw_95)) (pq_hv rfl hR_w_418) dX2_sweetFrom_18 ?_
            refine lv_iload_n hx hb dX2_sweetFrom_21 rfl (lv_at hl 1 rfl) ?_
            refine pk_i (va_runV (As := [.int x_345]) (rest := []) ⟨hx, hb, hml, hown, hts⟩ (s_X9_isSweet l D t σ I J ri rj rq H.size tg hSH hG.1 w_418 x_345 hL_w_418 hK_w_418 (rg_w h_417 (by decide +kernel)) M hL_M hK_M hO_w_418) (cwV 1 hts (tw_V tw_1116 tw_1117 tw_1118 tw_94 tw_1119) rfl rfl rfl cv_yX9_isSweet_1 ⟨Nat.le_of_ble_eq_true rfl, Nat.le_of_ble_eq_true rfl⟩) ⟨pq_blind, pq_recv hK hP hL_w_418 hK_w_418 (by decide +kernel) rfl, pq_pre hK hN hP hD⟩ rfl rfl hl.1 rfl (lv_room (Nat.le_of_ble_eq_true rfl)) dX2_sweetFrom_22 ⟨Nat.le_of_ble_eq_true rfl, Nat.le_of_ble_eq_true rfl⟩) hD hS hA (fun x_419 σ1 μ1 H locs hw_420 hP hD hS => ?_)
            obtain ⟨hu_421, hfn_424, hr_423⟩ := hw_420
            obtain ⟨hu_421a, hu_421b⟩ := Prod.mk.inj hu_421
            rw [hu_421a, hu_421b] at hP hD
            replace hF := hF.trans (bn_n hfn_424)
            have h_426 : rg x_419 0 1 := by rcases hr_423 with ⟨q, -⟩ | ⟨q, -⟩ <;> rw [q] <;> exact ⟨by decide +kernel, by decide +kernel⟩
            refine lv_if_ne (tgt := 41) hx hb dX2_sweetFrom_25 (by decide +kernel) (fun c_427 => ?_) (fun c_427 => ?_)
            · replace hF := hF.trans (if_neg c_427)
              have h_430 : rg x_419 1 1 := rg_ne c_427 h_426 0 rfl (by decide +kernel)
              exact K_407 _ _ _ hF hFr hG hP hD hS (lv_sub hl [1] rfl)
            · replace hF := hF.trans (if_pos c_427)
              have h_431 : rg x_419 0 0 := rg_and h_426 (rg_of_eq c_427 (rg_k (0 : Int32) 0 rfl)) (by decide +kernel)
              refine lv_aload_n hx hb dX2_sweetFrom_28 rfl (lv_at hl 0 rfl) ?_
              obtain ⟨w_432, hR_w_432, hL_w_432, hK_w_432, hN_w_432, hT_w_432⟩ := sh_a hSH 79 (ci := 2) (kd := 13) (len := 40) rfl (by decide +kernel) hL_this hK_this
              have hO_w_432 : w_432 = vrow σ 79 M := vo_k (c := 2) hO_this hR_w_432
              refine pg_f (v := .ref w_432) (C := RX2) (T := TX2) (N := 20) hx hb hts (tw_i inlX2) hown hK hP hL_this hK_this (by decide +kernel) rfl 15 (by decide +kernel) (hts _ (tw_c tw_96)) (pq_hv rfl hR_w_432) dX2_sweetFrom_29 ?_
              refine lv_iload_n hx hb dX2_sweetFrom_32 rfl (lv_at hl 1 rfl) ?_
              refine pl_i hx hb hK hP hL_w_432 hK_w_432 hN_w_432 (rg_in h_417 (by decide +kernel)) dX2_sweetFrom_33 ?_
              refine lv_topi (fun x_433 ex_433 => ?_)
              replace hF := hF.trans (ap_n (vR_r hO_w_432 (by decide +kernel) ex_433))
              have h_434 : rg x_433 (-1) 39 := rg_of_eq ex_433 (GX.rR hG hT_w_432 rfl)
              refine lv_istore_n (lv' := [(2, .int x_433), (0, .ref this), (3, .int x_346)]) hx hb dX2_sweetFrom_34 rfl hl (by decide +kernel) rfl (fun ls hl => ?_)
              obtain ⟨x_435, ex_435⟩ : ∃ y : Int32, y = x_346 + Int32.ofInt 1 := ⟨_, rfl⟩
              replace hF := hF.trans (ap_n ex_435)
              have h_436 : rg x_435 1 40 := rg_of_eq ex_435 (rg_add h_411 (rg_k (Int32.ofInt 1) 1 rfl) (by decide +kernel))
              refine lv_iinc (v := x_435) (lv' := [(3, .int x_435), (2, .int x_433), (0, .ref this)]) hx hb dX2_sweetFrom_35 hl (k := 2) rfl ex_435.symm (by decide +kernel) rfl (fun ls hl => ?_)
              refine lv_goto (tgt := 4) hx hb dX2_sweetFrom_38 (by decide +kernel) ?_
              exact ih_377 x_433 x_435 _ _ _ (rg_w h_434 (by decide +kernel)) (rg_w h_436 (by decide +kernel)) (ms_up 1 hm_374 ex_435 rfl (by decide +kernel) h_411 (by decide +kernel) (by decide +kernel)) hF hFr hG hP hD hS (lv_sub hl [2, 1, 0] rfl)
    exact L_376 _ a0 (0 : Int32) _ _ _ (rg_w h_a0 (by decide +kernel)) (rg_w (rg_k (0 : Int32) 0 rfl) (by decide +kernel)) (Nat.lt_succ_self _) hF hFr hG hP hD hS (lv_sub hl [2, 1, 0] rfl)
  exact go _ _ _ hP hD hS hl

set_option maxRecDepth 100000 in
def g_X0_drink_K98 (x_1443 : Int32) (k_g_X0_drink_L15 : (Int32) → (Int32) → (Nat → Nat → Int32) → Int32 × vM) (x_1556 : Int32) (ri_1557 : Nat → Nat → Int32) : Int32 × vM := (ap1 (x_1443 + Int32.ofInt 1) fun (x_1564 : Int32) => (k_g_X0_drink_L15 x_1556 x_1564 ri_1557))
set_option maxRecDepth 100000 in
theorem g_X0_drink_K98_e {x_1443 : Int32} {k_g_X0_drink_L15 : (Int32) → (Int32) → (Nat → Nat → Int32) → Int32 × vM} {x_1556 : Int32} {ri_1557 : Nat → Nat → Int32} : g_X0_drink_K98 x_1443 k_g_X0_drink_L15 x_1556 ri_1557 = (ap1 (x_1443 + Int32.ofInt 1) fun (x_1564 : Int32) => (k_g_X0_drink_L15 x_1556 x_1564 ri_1557)) := rfl
set_option maxRecDepth 100000 in
def g_X0_drink_L15 (I : Nat → Int32) (J : Nat → Int64) (rj : Nat → Nat → Int64) (rq : Nat → Nat → Option Nat) : Nat → (Int32) → (Int32) → (Nat → Nat → Int32) → Int32 × vM
  | 0, x_1442, x_1443, ri_1444 => ((0 : Int32), I, J, ri_1444, rj, rq)
  | n_1500 + 1, x_1442, x_1443, ri_1444 => (ap1 (I 0) fun (y_1508 : Int32) => (if (y_1508) ≤ x_1443 then (x_1442, I, J, ri_1444, rj, rq) else (bnI (g_X0_isOnRing x_1443 I J ri_1444 rj rq) fun (x_1515 : Int32) (_ : Nat → Int32) (_ : Nat → Int64) (_ : Nat → Nat → Int32) (_ : Nat → Nat → Int64) (_ : Nat → Nat → Option Nat) => (if x_1515 = (0 : Int32) then (g_X0_drink_K98 x_1443 (g_X0_drink_L15 I J rj rq n_1500) x_1442 ri_1444) else (ap1 (ri_1444 5 (x_1443).toNatClampNeg) fun (x_1575 : Int32) => (ap1 (ri_1444 12 (x_1575).toNatClampNeg) fun (x_1577 : Int32) => (bnI (g_X2_sweetFrom x_1577 I J ri_1444 rj rq) fun (x_1579 : Int32) (_ : Nat → Int32) (_ : Nat → Int64) (_ : Nat → Nat → Int32) (_ : Nat → Nat → Int64) (_ : Nat → Nat → Option Nat) => (ap1 (va_up ri_1444 12 (upd (ri_1444 12) (x_1575).toNatClampNeg x_1579)) fun (r_1586 : Nat → Nat → Int32) => (if x_1579 = (-1 : Int32) then (ap1 (r_1586 6 (x_1443).toNatClampNeg) fun (x_1600 : Int32) => (ap1 (x_1600 + (1 : Int32)) fun (x_1601 : Int32) => (ap1 (va_up r_1586 6 (upd (r_1586 6) (x_1443).toNatClampNeg x_1601)) fun (r_1602 : Nat → Nat → Int32) => (ap1 (x_1442 + Int32.ofInt 1) fun (x_1604 : Int32) => (g_X0_drink_K98 x_1443 (g_X0_drink_L15 I J rj rq n_1500) x_1604 r_1602))))) else (ap1 (r_1586 289 (x_1579).toNatClampNeg) fun (x_1594 : Int32) => (ap1 (x_1594 - (10 : Int32)) fun (x_1595 : Int32) => (ap1 (va_up r_1586 289 (upd (r_1586 289) (x_1579).toNatClampNeg x_1595)) fun (r_1596 : Nat → Nat → Int32) => (g_X0_drink_K98 x_1443 (g_X0_drink_L15 I J rj rq n_1500) x_1442 r_1596)))))))))))))
set_option maxRecDepth 100000 in
theorem g_X0_drink_L15_e {I : Nat → Int32} {J : Nat → Int64} {rj : Nat → Nat → Int64} {rq : Nat → Nat → Option Nat} {n_1500 : Nat} {x_1442 : Int32} {x_1443 : Int32} {ri_1444 : Nat → Nat → Int32} : g_X0_drink_L15 I J rj rq (n_1500 + 1) x_1442 x_1443 ri_1444 = (ap1 (I 0) fun (y_1508 : Int32) => (if (y_1508) ≤ x_1443 then (x_1442, I, J, ri_1444, rj, rq) else (bnI (g_X0_isOnRing x_1443 I J ri_1444 rj rq) fun (x_1515 : Int32) (_ : Nat → Int32) (_ : Nat → Int64) (_ : Nat → Nat → Int32) (_ : Nat → Nat → Int64) (_ : Nat → Nat → Option Nat) => (if x_1515 = (0 : Int32) then (g_X0_drink_K98 x_1443 (g_X0_drink_L15 I J rj rq n_1500) x_1442 ri_1444) else (ap1 (ri_1444 5 (x_1443).toNatClampNeg) fun (x_1575 : Int32) => (ap1 (ri_1444 12 (x_1575).toNatClampNeg) fun (x_1577 : Int32) => (bnI (g_X2_sweetFrom x_1577 I J ri_1444 rj rq) fun (x_1579 : Int32) (_ : Nat → Int32) (_ : Nat → Int64) (_ : Nat → Nat → Int32) (_ : Nat → Nat → Int64) (_ : Nat → Nat → Option Nat) => (ap1 (va_up ri_1444 12 (upd (ri_1444 12) (x_1575).toNatClampNeg x_1579)) fun (r_1586 : Nat → Nat → Int32) => (if x_1579 = (-1 : Int32) then (ap1 (r_1586 6 (x_1443).toNatClampNeg) fun (x_1600 : Int32) => (ap1 (x_1600 + (1 : Int32)) fun (x_1601 : Int32) => (ap1 (va_up r_1586 6 (upd (r_1586 6) (x_1443).toNatClampNeg x_1601)) fun (r_1602 : Nat → Nat → Int32) => (ap1 (x_1442 + Int32.ofInt 1) fun (x_1604 : Int32) => (g_X0_drink_K98 x_1443 (g_X0_drink_L15 I J rj rq n_1500) x_1604 r_1602))))) else (ap1 (r_1586 289 (x_1579).toNatClampNeg) fun (x_1594 : Int32) => (ap1 (x_1594 - (10 : Int32)) fun (x_1595 : Int32) => (ap1 (va_up r_1586 289 (upd (r_1586 289) (x_1579).toNatClampNeg x_1595)) fun (r_1596 : Nat → Nat → Int32) => (g_X0_drink_K98 x_1443 (g_X0_drink_L15 I J rj rq n_1500) x_1442 r_1596))))))))))))) := rfl
set_option maxRecDepth 100000 in
def g_X0_drink (I : Nat → Int32) (J : Nat → Int64) (ri : Nat → Nat → Int32) (rj : Nat → Nat → Int64) (rq : Nat → Nat → Option Nat) : Int32 × vM := (ap1 (va_up ri 12 (va_cpy (ri 80) (ri 12) 0 0 5)) fun (ri_5 : Nat → Nat → Int32) => (g_X0_drink_L15 I J rj rq ((40 - ((0 : Int32)).toInt).toNat + 1) (0 : Int32) (0 : Int32) ri_5))
set_option maxRecDepth 100000 in
theorem g_X0_drink_e {I : Nat → Int32} {J : Nat → Int64} {ri : Nat → Nat → Int32} {rj : Nat → Nat → Int64} {rq : Nat → Nat → Option Nat} : g_X0_drink I J ri rj rq = (ap1 (va_up ri 12 (va_cpy (ri 80) (ri 12) 0 0 5)) fun (ri_5 : Nat → Nat → Int32) => (g_X0_drink_L15 I J rj rq ((40 - ((0 : Int32)).toInt).toNat + 1) (0 : Int32) (0 : Int32) ri_5)) := rfl
set_option maxHeartbeats 4000000 in
set_option maxRecDepth 100000 in
theorem s_X0_drink (l : Launch) (D : va_G) (t : pq_T) (σ : pq_S) (I : Nat → Nat → Int32) (J : Nat → Nat → Int64) (ri : Nat → Nat → Int32) (rj : Nat → Nat → Int64) (rq : Nat → Nat → Option Nat) (sz : Nat) (tg : Nat → Nat) (hSH : SH σ tg) (hG0 : GS tg σ I ri rq) (this : Nat) (a0 : Nat) (hL_this : this ∈ σ.1) (hK_this : σ.2.1 this = 0) (hL_a0 : a0 ∈ σ.1) (hK_a0 : σ.2.1 a0 = 2) (M : Nat) (hL_M : M ∈ σ.1) (hK_M : σ.2.1 M = 10) (hO_this : this = vo σ 0 M) (hO_a0 : a0 = vo σ 2 M) : MetI l yX0_drink (wa yX0_drink cX0_drink 5 (some .int)) ({ frames := 3, cells := 0, slots := 0, locals := 81 }) [.ref this, .ref a0] D t σ (I, J, ri, rj, rq) sz 0 0 (fun (r : Int32) (u : pq_S × pq_M) => ∃ ri' : Nat → Nat → Int32, u = (σ, I, J, ri', rj, rq) ∧ GX [] tg σ I ri rj I ri' rj rq ∧ g_X0_drink (vI 10 σ M I) (vJ 10 σ M J) (vR 10 σ M ri) (vL 10 σ M rj) (vQ 10 σ M rq) = (r, (vI 10 σ M I), (vJ 10 σ M J), (vR 10 σ M ri'), (vL 10 σ M rj), (vQ 10 σ M rq)) ∧ FR 10 tg σ M (I, J, ri, rj, rq) (I, J, ri', rj, rq)) := by
  refine Met.ofW (cc := cX0_drink) (maxL := 5) (ret := (some .int)) (by decide +kernel) rfl ?_
  intro p e s m args below meth c s₁ B hml hv
  obtain ⟨rfl, hsz, hP, hK, hD0, hN⟩ := hv
  have hx := B.exec
  have hb := B.bytes
  have hr := B.returns
  have hts := atoms_spec (ws := (wa yX0_drink cX0_drink 5 (some .int))) B.pre
  have hown : s.vm.findClass RX0 = some m.cls := findClass_of_methodNamed B.named
  have hlocks := B.notSynchronized
  subst hsz
  have hD : va_D (pq_B t σ (I, J, ri, rj, rq) s.heap.size) (pq_P t σ (I, J, ri, rj, rq)) := hD0.self
  generalize hAe : pq_B t σ (I, J, ri, rj, rq) s.heap.size = A at hD ⊢
  have hA : ∀ q : Nat, s.heap.size ≤ q → A q := fun q h => by rw [← hAe]; exact Or.inr h
  have hS : va_S A s.heap s.heap [] := va_S.rf
  have hG : GX [] tg σ I ri rj I ri rj rq := ⟨hG0, fun _ _ _ => rfl, fun _ _ _ _ _ => rfl, fun _ _ _ _ _ => rfl⟩
  have hl := lv_entry ([.ref this, .ref a0]) (n := 5) (Nat.le_of_ble_eq_true rfl)
  rw [lg_entry_eq]
  generalize (lg_sl ([.ref this, .ref a0]) ++ List.replicate (5 - (lg_sl ([.ref this, .ref a0])).length) Slot.unset).toArray = ls at hl ⊢
  have hl : lv_has ls 5 [(0, .ref this), (1, .ref a0)] := hl
  refine q_gen (fun Q hQ => ?_)
  have go : ∀ (H : Heap) (locs : List Loc) (ls : Array Slot), va_P D vwCl (pq_P t σ (I, J, ri, rj, rq)) H → va_D A (pq_P t σ (I, J, ri, rj, rq)) → va_S A s.heap H locs → lv_has ls 5 [(0, .ref this), (1, .ref a0)] → W p l e ({ frames := 3, cells := 0, slots := 0, locals := 81 } : Room) s m (List.toArray ([.ref this, .ref a0] : List Value)) below meth c H locs 0 0 Q (F0 m 0 ls []) := by
    intro H locs ls hP hD hS hl
    have hVT : VT 10 σ tg M := vt_10 hSH hL_M hK_M
    have hFr : FR 10 tg σ M (I, J, ri, rj, rq) (I, J, ri, rj, rq) := fr_rf
    obtain ⟨F, hF0⟩ : ∃ F, F = g_X0_drink (vI 10 σ M I) (vJ 10 σ M J) (vR 10 σ M ri) (vL 10 σ M rj) (vQ 10 σ M rq) := ⟨_, rfl⟩
    have hF := hF0.trans g_X0_drink_e
    refine lv_aload_n hx hb dX0_drink_0 rfl (lv_at hl 1 rfl) ?_
    obtain ⟨w_1, hR_w_1, hL_w_1, hK_w_1, hN_w_1, hT_w_1⟩ := sh_a hSH 80 (ci := 2) (kd := 13) (len := 5) rfl (by decide +kernel) hL_a0 hK_a0
    have hO_w_1 : w_1 = vrow σ 80 M := vo_k (c := 2) hO_a0 hR_w_1
    refine pg_f (v := .ref w_1) (C := RX2) (T := TX2) (N := 20) hx hb hts (tw_i inlX2) hown hK hP hL_a0 hK_a0 (by decide +kernel) rfl 16 (by decide +kernel) (hts _ (tw_c tw_1098)) (pq_hv rfl hR_w_1) dX0_drink_1 ?_
    refine lv_aload_n hx hb dX0_drink_4 rfl (lv_at hl 0 rfl) ?_
    obtain ⟨w_2, hR_w_2, hL_w_2, hK_w_2, hN_w_2, hT_w_2⟩ := sh_a hSH 12 (ci := 0) (kd := 13) (len := 5) rfl (by decide +kernel) hL_this hK_this
    have hO_w_2 : w_2 = vrow σ 12 M := vo_k (c := 0) hO_this hR_w_2
    refine pg_f (v := .ref w_2) (C := RX0) (T := TX0) (N := 16) hx hb hts (tw_i inlX0) hown hK hP hL_this hK_this (by decide +kernel) rfl 12 (by decide +kernel) (hts _ (tw_c tw_120)) (pq_hv rfl hR_w_2) dX0_drink_5 ?_
    refine pk_v (va_runSN (As := [.ref w_1, .ref w_2]) (rest := []) ⟨hx, hb, hml, hown, hts⟩ (s_X11_copy_80_12 l D t σ I J ri rj rq H.size tg hSH hG.1 w_1 w_2 hL_w_1 hK_w_1 hN_w_1 hT_w_1 hL_w_2 hK_w_2 hN_w_2 hT_w_2) ⟨va_cnB (host := "RingsUnder") 2 hts (tw_W tw_1102) rfl rfl rfl (nl_15 hN) (hts _ (tw_c tw_2)) cd_yX11_copy_2 ⟨Nat.le_of_ble_eq_true rfl, Nat.le_of_ble_eq_true rfl⟩, hts (.static yX11_copy) (tw_c tq_static_yX11_copy), trivial⟩ ⟨pq_blind, pq_pre hK hN hP hD⟩ rfl rfl hl.1 rfl (lv_room (Nat.le_of_ble_eq_true rfl)) dX0_drink_8 ⟨Nat.le_of_ble_eq_true rfl, Nat.le_of_ble_eq_true rfl⟩) hD hS hA (fun σ1 μ1 H locs hw_4 hP hD hS => ?_)
    obtain ⟨ri_5, hu_6, hg_7, hp_9, hp_10, hp_11⟩ := hw_4
    obtain ⟨hu_6a, hu_6b⟩ := Prod.mk.inj hu_6
    rw [hu_6a, hu_6b] at hP hD
    replace hF := hF.trans (ap_n (vR_cp hVT hO_w_2 (by decide +kernel) (funext fun _ => (vR_r hO_w_1 (by decide +kernel) rfl)) hp_11))
    replace hFr := fr_R hFr hO_w_2 (by decide +kernel) hp_11
    have h_14 : ∀ j, j < 5 → rg (ri_5 w_2 j) (-1) 39 := fun j hj => rg_of_eq (hp_9 j hj) (GX.rR hG hT_w_1 rfl)
    have hG := GX.tr hG hg_7 (by decide +kernel)
    refine lv_iconst (v := 0) hx hb dX0_drink_11 (by decide +kernel) ?_
    refine lv_istore_n (lv' := [(2, .int 0), (0, .ref this), (1, .ref a0)]) hx hb dX0_drink_12 rfl hl (by decide +kernel) rfl (fun ls hl => ?_)
    refine lv_iconst (v := 0) hx hb dX0_drink_13 (by decide +kernel) ?_
    refine lv_istore_n (lv' := [(3, .int 0), (2, .int 0), (0, .ref this), (1, .ref a0)]) hx hb dX0_drink_14 rfl hl (by decide +kernel) rfl (fun ls hl => ?_)
    have L_1501 : ∀ (n_1500 : Nat) (x_1442 : Int32) (x_1443 : Int32) (ri_1444 : Nat → Nat → Int32) (H : Heap) (locs : List Loc) (ls : Array Slot), rg x_1443 0 40 → (∀ j, j < 5 → rg (ri_1444 w_2 j) (-1) 39) → (40 - (x_1443).toInt).toNat < n_1500 → F = g_X0_drink_L15 (vI 10 σ M I) (vJ 10 σ M J) (vL 10 σ M rj) (vQ 10 σ M rq) n_1500 x_1442 x_1443 (vR 10 σ M ri_1444) → FR 10 tg σ M (I, J, ri, rj, rq) (I, J, ri_1444, rj, rq) → GX [] tg σ I ri rj I ri_1444 rj rq → va_P D vwCl (pq_P t σ (I, J, ri_1444, rj, rq)) H → va_D A (pq_P t σ (I, J, ri_1444, rj, rq)) → va_S A s.heap H locs → lv_has ls 5 [(0, .ref this), (1, .ref a0), (2, .int x_1442), (3, .int x_1443)] → W p l e ({ frames := 3, cells := 0, slots := 0, locals := 81 } : Room) s m (List.toArray ([.ref this, .ref a0] : List Value)) below meth c H locs 0 0 Q (F0 m 15 ls []) := by
      intro n_1500
      induction n_1500 with
      | zero => intro x_1442 x_1443 ri_1444 H locs ls h_1505 h_1506 hm_1499 hF hFr hG hP hD hS hl; exact absurd hm_1499 (Nat.not_lt_zero _)
      | succ n_1500 ih_1502 =>
        intro x_1442 x_1443 ri_1444 H locs ls h_1505 h_1506 hm_1499 hF hFr hG hP hD hS hl
        replace hF := hF.trans g_X0_drink_L15_e
        refine lv_iload_n hx hb dX0_drink_15 rfl (lv_at hl 3 rfl) ?_
        refine lv_aload_n hx hb dX0_drink_16 rfl (lv_at hl 0 rfl) ?_
        refine pg_f (v := .int (I 0 this)) (C := RX0) (T := TX0) (N := 16) hx hb hts (tw_i inlX0) hown hK hP hL_this hK_this (by decide +kernel) rfl 0 (by decide +kernel) (hts _ (tw_c tw_395)) rfl dX0_drink_17 ?_
        have h_1507 : rg (I 0 this) 0 40 := GX.rI hG 0 rfl
        replace hF := hF.trans (ap_n (vI_e (f := 0) hO_this (by decide +kernel)))
        refine lv_icmp_ge (tgt := 104) hx hb dX0_drink_20 (by decide +kernel) (fun c_1509 => ?_) (fun c_1509 => ?_)
        · replace hF := hF.trans (if_pos c_1509)
          refine lv_iload_n hx hb dX0_drink_104 rfl (lv_at hl 2 rfl) ?_
          subst hQ
          exact W.iret (v := x_1442) hx hb hr (fun t1 ht hW => ⟨⟨x_1442, (σ, I, J, ri_1444, rj, rq), rfl, ⟨ri_1444, rfl, hG, (hF0.symm.trans hF), hFr⟩, by rw [ht]; exact hP, va_K.moved hW.alike hK, hD⟩, hS.F ht⟩) hS.2.2 dX0_drink_105
        · replace hF := hF.trans (if_neg c_1509)
          have h_1512 : rg x_1443 0 39 := rg_lt1 (nle c_1509) h_1505 h_1507 (by decide +kernel)
          have h_1513 : rg (I 0 this) 1 40 := rg_lt2 (nle c_1509) h_1505 h_1507 (by decide +kernel)
          refine lv_aload_n hx hb dX0_drink_23 rfl (lv_at hl 0 rfl) ?_
          refine lv_iload_n hx hb dX0_drink_24 rfl (lv_at hl 3 rfl) ?_
          obtain ⟨w_1514, hR_w_1514, hL_w_1514, hK_w_1514, hN_w_1514, hT_w_1514⟩ := sh_a hSH 5 (ci := 0) (kd := 13) (len := 40) rfl (by decide +kernel) hL_this hK_this
          have hO_w_1514 : w_1514 = vrow σ 5 M := vo_k (c := 0) hO_this hR_w_1514
          refine pk_i (va_runV (As := [.int x_1443]) (rest := []) ⟨hx, hb, hml, hown, hts⟩ (s_X0_isOnRing l D t σ I J ri_1444 rj rq H.size tg hSH hG.1 this x_1443 hL_this hK_this (rg_w h_1512 (by decide +kernel)) w_1514 hR_w_1514 hL_w_1514 hK_w_1514 hN_w_1514 hT_w_1514 M hL_M hK_M hO_this) (cwV 1 hts (tw_V tw_1108 tw_1109 tw_1110 tw_45 tw_1111) rfl rfl rfl cv_yX0_isOnRing_1 ⟨Nat.le_of_ble_eq_true rfl, Nat.le_of_ble_eq_true rfl⟩) ⟨pq_blind, pq_recv hK hP hL_this hK_this (by decide +kernel) rfl, pq_pre hK hN hP hD⟩ rfl rfl hl.1 rfl (lv_room (Nat.le_of_ble_eq_true rfl)) dX0_drink_25 ⟨Nat.le_of_ble_eq_true rfl, Nat.le_of_ble_eq_true rfl⟩) hD hS hA (fun x_1515 σ1 μ1 H locs hw_1516 hP hD hS => ?_)
          obtain ⟨hu_1517, hfn_1520, hr_1519⟩ := hw_1516
          obtain ⟨hu_1517a, hu_1517b⟩ := Prod.mk.inj hu_1517
          rw [hu_1517a, hu_1517b] at hP hD
          replace hF := hF.trans (bn_n hfn_1520)
          have h_1522 : rg x_1515 0 1 := by rcases hr_1519 with ⟨q, -⟩ | ⟨q, -⟩ <;> rw [q] <;> exact ⟨by decide +kernel, by decide +kernel⟩
          have K_1561 : ∀  (x_1556 : Int32) (ri_1557 : Nat → Nat → Int32) (H : Heap) (locs : List Loc) (ls : Array Slot), (∀ j, j < 5 → rg (ri_1557 w_2 j) (-1) 39) → F = g_X0_drink_K98 x_1443 (g_X0_drink_L15 (vI 10 σ M I) (vJ 10 σ M J) (vL 10 σ M rj) (vQ 10 σ M rq) n_1500) x_1556 (vR 10 σ M ri_1557) → FR 10 tg σ M (I, J, ri, rj, rq) (I, J, ri_1557, rj, rq) → GX [] tg σ I ri rj I ri_1557 rj rq → va_P D vwCl (pq_P t σ (I, J, ri_1557, rj, rq)) H → va_D A (pq_P t σ (I, J, ri_1557, rj, rq)) → va_S A s.heap H locs → lv_has ls 5 [(0, .ref this), (1, .ref a0), (2, .int x_1556), (3, .int x_1443)] → W p l e ({ frames := 3, cells := 0, slots := 0, locals := 81 } : Room) s m (List.toArray ([.ref this, .ref a0] : List Value)) below meth c H locs 0 0 Q (F0 m 98 ls []) := by
            intro x_1556 ri_1557 H locs ls h_1563 hF hFr hG hP hD hS hl
            replace hF := hF.trans g_X0_drink_K98_e
            obtain ⟨x_1564, ex_1564⟩ : ∃ y : Int32, y = x_1443 + Int32.ofInt 1 := ⟨_, rfl⟩
            replace hF := hF.trans (ap_n ex_1564)
            have h_1565 : rg x_1564 1 40 := rg_of_eq ex_1564 (rg_add h_1512 (rg_k (Int32.ofInt 1) 1 rfl) (by decide +kernel))
            refine lv_iinc (v := x_1564) (lv' := [(3, .int x_1564), (0, .ref this), (1, .ref a0), (2, .int x_1556)]) hx hb dX0_drink_98 hl (k := 3) rfl ex_1564.symm (by decide +kernel) rfl (fun ls hl => ?_)
            refine lv_goto (tgt := 15) hx hb dX0_drink_101 (by decide +kernel) ?_
            exact ih_1502 x_1556 x_1564 ri_1557 _ _ _ (rg_w h_1565 (by decide +kernel)) h_1563 (ms_up 1 hm_1499 ex_1564 rfl (by decide +kernel) h_1512 (by decide +kernel) (by decide +kernel)) hF hFr hG hP hD hS (lv_sub hl [1, 2, 3, 0] rfl)
          refine lv_if_eq (tgt := 98) hx hb dX0_drink_28 (by decide +kernel) (fun c_1566 => ?_) (fun c_1566 => ?_)
          · replace hF := hF.trans (if_pos c_1566)
            have f_1571 := (hr_1519.resolve_left (fun q => absurd (q.1.symm.trans c_1566) (by decide +kernel))).2
            have h_1572 : rg x_1515 0 0 := rg_and h_1522 (rg_of_eq c_1566 (rg_k (0 : Int32) 0 rfl)) (by decide +kernel)
            exact K_1561 x_1442 ri_1444 _ _ _ h_1506 hF hFr hG hP hD hS (lv_sub hl [0, 1, 2, 3] rfl)
          · replace hF := hF.trans (if_neg c_1566)
            have f_1573 := (hr_1519.resolve_right (fun q => c_1566 q.1)).2
            have h_1574 : rg x_1515 1 1 := rg_ne c_1566 h_1522 0 rfl (by decide +kernel)
            refine lv_aload_n hx hb dX0_drink_31 rfl (lv_at hl 1 rfl) ?_
            refine lv_aload_n hx hb dX0_drink_32 rfl (lv_at hl 0 rfl) ?_
            refine pg_f (v := .ref w_2) (C := RX0) (T := TX0) (N := 16) hx hb hts (tw_i inlX0) hown hK hP hL_this hK_this (by decide +kernel) rfl 12 (by decide +kernel) (hts _ (tw_c tw_120)) (pq_hv rfl hR_w_2) dX0_drink_33 ?_
            refine lv_aload_n hx hb dX0_drink_36 rfl (lv_at hl 0 rfl) ?_
            refine pg_f (v := .ref w_1514) (C := RX0) (T := TX0) (N := 16) hx hb hts (tw_i inlX0) hown hK hP hL_this hK_this (by decide +kernel) rfl 5 (by decide +kernel) (hts _ (tw_c tw_114)) (pq_hv rfl hR_w_1514) dX0_drink_37 ?_
            refine lv_iload_n hx hb dX0_drink_40 rfl (lv_at hl 3 rfl) ?_
            refine pl_i hx hb hK hP hL_w_1514 hK_w_1514 hN_w_1514 (rg_in h_1512 (by decide +kernel)) dX0_drink_41 ?_
            refine lv_topi (fun x_1575 ex_1575 => ?_)
            replace hF := hF.trans (ap_n (vR_r hO_w_1514 (by decide +kernel) ex_1575))
            have h_1576 : rg x_1575 0 4 := rg_of_eq ex_1575 (f_1573)
            refine pl_i hx hb hK hP hL_w_2 hK_w_2 hN_w_2 (rg_in h_1576 (by decide +kernel)) dX0_drink_42 ?_
            refine lv_topi (fun x_1577 ex_1577 => ?_)
            replace hF := hF.trans (ap_n (vR_r hO_w_2 (by decide +kernel) ex_1577))
            have h_1578 : rg x_1577 (-1) 39 := rg_of_eq ex_1577 ((h_1506 _ (rg_cl1 h_1576 (by decide +kernel))))
            refine pk_i (va_runV (As := [.int x_1577]) (rest := []) ⟨hx, hb, hml, hown, hts⟩ (s_X2_sweetFrom l D t σ I J ri_1444 rj rq H.size tg hSH hG.1 a0 x_1577 hL_a0 hK_a0 (rg_w h_1578 (by decide +kernel)) M hL_M hK_M hO_a0) (cwV 1 hts (tw_V tw_1112 tw_1113 tw_1114 tw_41 tw_1115) rfl rfl rfl cv_yX2_sweetFrom_1 ⟨Nat.le_of_ble_eq_true rfl, Nat.le_of_ble_eq_true rfl⟩) ⟨pq_blind, pq_recv hK hP hL_a0 hK_a0 (by decide +kernel) rfl, pq_pre hK hN hP hD⟩ rfl rfl hl.1 rfl (lv_room (Nat.le_of_ble_eq_true rfl)) dX0_drink_43 ⟨Nat.le_of_ble_eq_true rfl, Nat.le_of_ble_eq_true rfl⟩) hD hS hA (fun x_1579 σ1 μ1 H locs hw_1580 hP hD hS => ?_)
            obtain ⟨hu_1581, hfn_1584, hr_1583⟩ := hw_1580
            obtain ⟨hu_1581a, hu_1581b⟩ := Prod.mk.inj hu_1581
            rw [hu_1581a, hu_1581b] at hP hD
            replace hF := hF.trans (bn_n hfn_1584)
            refine lv_istore (lv' := [(4, .int x_1579), (0, .ref this), (1, .ref a0), (2, .int x_1442), (3, .int x_1443)]) hx hb dX0_drink_46 hl (by decide +kernel) rfl (fun ls hl => ?_)
            refine lv_aload_n hx hb dX0_drink_48 rfl (lv_at hl 1 rfl) ?_
            refine pg_f (v := .ref w_2) (C := RX0) (T := TX0) (N := 16) hx hb hts (tw_i inlX0) hown hK hP hL_this hK_this (by decide +kernel) rfl 12 (by decide +kernel) (hts _ (tw_c tw_120)) (pq_hv rfl hR_w_2) dX0_drink_49 ?_
            refine lv_aload_n hx hb dX0_drink_52 rfl (lv_at hl 1 rfl) ?_
            refine pg_f (v := .ref w_1514) (C := RX0) (T := TX0) (N := 16) hx hb hts (tw_i inlX0) hown hK hP hL_this hK_this (by decide +kernel) rfl 5 (by decide +kernel) (hts _ (tw_c tw_114)) (pq_hv rfl hR_w_1514) dX0_drink_53 ?_
            refine lv_iload_n hx hb dX0_drink_56 rfl (lv_at hl 4 rfl) ?_
            refine pl_i hx hb hK hP hL_w_1514 hK_w_1514 hN_w_1514 (rg_in h_1512 (by decide +kernel)) dX0_drink_57 ?_
            refine lv_tov x_1575 ex_1575.symm ?_
            refine lv_iload hx hb dX0_drink_58 (lv_at hl 0 rfl) ?_
            refine pt_i hx hb hK hP hD hS hL_w_2 hK_w_2 hN_w_2 (rg_in h_1576 (by decide +kernel)) dX0_drink_60 (fun r_1586 H locs er_1586 hP hD hS => ?_)
            replace hFr := fr_R hFr hO_w_2 (by decide +kernel) er_1586
            replace hF := hF.trans (ap_n (vR_st hVT hO_w_2 (by decide +kernel) er_1586))
            have hG := GX.wR hG hSH hT_w_2 rfl er_1586 (rg_w hr_1583 (by decide +kernel)) (by decide +kernel)
            have h_1587 : ∀ j, j < 5 → rg (r_1586 w_2 j) (-1) 39 := rp_w h_1506 er_1586 (rg_w hr_1583 (by decide +kernel))
            refine lv_iload hx hb dX0_drink_61 (lv_at hl 0 rfl) ?_
            refine lv_iconst (v := (-1)) hx hb dX0_drink_63 (by decide +kernel) ?_
            refine lv_icmp_ne (tgt := 83) hx hb dX0_drink_64 (by decide +kernel) (fun c_1588 => ?_) (fun c_1588 => ?_)
            · replace hF := hF.trans (if_neg c_1588)
              have h_1591 : rg x_1579 0 39 := rg_ne c_1588 hr_1583 (-1) rfl (by decide +kernel)
              refine lv_aload_n hx hb dX0_drink_83 rfl (lv_at hl 2 rfl) ?_
              obtain ⟨w_1592, hR_w_1592, hL_w_1592, hK_w_1592⟩ := sh_o hSH 78 (ci := 2) (kd := 9) rfl hL_a0 hK_a0
              have hO_w_1592 : w_1592 = vo σ 9 M := vo_k (c := 2) hO_a0 hR_w_1592
              refine pg_f (v := .ref w_1592) (C := RX2) (T := TX2) (N := 20) hx hb hts (tw_i inlX2) hown hK hP hL_a0 hK_a0 (by decide +kernel) rfl 14 (by decide +kernel) (hts _ (tw_c tw_1099)) (pq_hv rfl hR_w_1592) dX0_drink_84 ?_
              obtain ⟨w_1593, hR_w_1593, hL_w_1593, hK_w_1593, hN_w_1593, hT_w_1593⟩ := sh_a hSH 289 (ci := 9) (kd := 13) (len := 40) rfl (by decide +kernel) hL_w_1592 hK_w_1592
              have hO_w_1593 : w_1593 = vrow σ 289 M := vo_k (c := 9) hO_w_1592 hR_w_1593
              refine pg_f (v := .ref w_1593) (C := RX9) (T := TX9) (N := 3) hx hb hts (tw_i inlX9) hown hK hP hL_w_1592 hK_w_1592 (by decide +kernel) rfl 1 (by decide +kernel) (hts _ (tw_c tw_1100)) (pq_hv rfl hR_w_1593) dX0_drink_87 ?_
              refine lv_iload hx hb dX0_drink_90 (lv_at hl 0 rfl) ?_
              refine lv_dup2_11 hx hb dX0_drink_92 rfl rfl ?_
              refine pl_i hx hb hK hP hL_w_1593 hK_w_1593 hN_w_1593 (rg_in h_1591 (by decide +kernel)) dX0_drink_93 ?_
              refine lv_topi (fun x_1594 ex_1594 => ?_)
              replace hF := hF.trans (ap_n (vR_r hO_w_1593 (by decide +kernel) ex_1594))
              refine lv_bipush (v := 10) hx hb dX0_drink_94 (by decide +kernel) ?_
              refine lv_isub hx hb dX0_drink_96 ?_
              refine lv_topi (fun x_1595 ex_1595 => ?_)
              replace hF := hF.trans (ap_n ex_1595)
              refine pt_i hx hb hK hP hD hS hL_w_1593 hK_w_1593 hN_w_1593 (rg_in h_1591 (by decide +kernel)) dX0_drink_97 (fun r_1596 H locs er_1596 hP hD hS => ?_)
              replace hFr := fr_R hFr hO_w_1593 (by decide +kernel) er_1596
              replace hF := hF.trans (ap_n (vR_st hVT hO_w_1593 (by decide +kernel) er_1596))
              have hG := GX.wR hG hSH hT_w_1593 rfl er_1596 (rg_w (rg_full _) (by decide +kernel)) (by decide +kernel)
              have h_1597 : ∀ j, j < 5 → rg (r_1596 w_2 j) (-1) 39 := rp_o h_1587 er_1596 (tg_ne hT_w_2 hT_w_1593 (by decide +kernel))
              exact K_1561 x_1442 r_1596 _ _ _ h_1597 hF hFr hG hP hD hS (lv_sub hl [1, 2, 3, 4] rfl)
            · replace hF := hF.trans (if_pos c_1588)
              have h_1598 : rg x_1579 (-1) (-1) := rg_and hr_1583 (rg_of_eq c_1588 (rg_k (-1 : Int32) (-1) rfl)) (by decide +kernel)
              refine lv_aload_n hx hb dX0_drink_67 rfl (lv_at hl 1 rfl) ?_
              obtain ⟨w_1599, hR_w_1599, hL_w_1599, hK_w_1599, hN_w_1599, hT_w_1599⟩ := sh_a hSH 6 (ci := 0) (kd := 13) (len := 40) rfl (by decide +kernel) hL_this hK_this
              have hO_w_1599 : w_1599 = vrow σ 6 M := vo_k (c := 0) hO_this hR_w_1599
              refine pg_f (v := .ref w_1599) (C := RX0) (T := TX0) (N := 16) hx hb hts (tw_i inlX0) hown hK hP hL_this hK_this (by decide +kernel) rfl 6 (by decide +kernel) (hts _ (tw_c tw_115)) (pq_hv rfl hR_w_1599) dX0_drink_68 ?_
              refine lv_iload_n hx hb dX0_drink_71 rfl (lv_at hl 4 rfl) ?_
              refine lv_dup2_11 hx hb dX0_drink_72 rfl rfl ?_
              refine pl_i hx hb hK hP hL_w_1599 hK_w_1599 hN_w_1599 (rg_in h_1512 (by decide +kernel)) dX0_drink_73 ?_
              refine lv_topi (fun x_1600 ex_1600 => ?_)
              replace hF := hF.trans (ap_n (vR_r hO_w_1599 (by decide +kernel) ex_1600))
              refine lv_iconst (v := 1) hx hb dX0_drink_74 (by decide +kernel) ?_
              refine lv_iadd hx hb dX0_drink_75 ?_
              refine lv_topi (fun x_1601 ex_1601 => ?_)
              replace hF := hF.trans (ap_n ex_1601)
              refine pt_i hx hb hK hP hD hS hL_w_1599 hK_w_1599 hN_w_1599 (rg_in h_1512 (by decide +kernel)) dX0_drink_76 (fun r_1602 H locs er_1602 hP hD hS => ?_)
              replace hFr := fr_R hFr hO_w_1599 (by decide +kernel) er_1602
              replace hF := hF.trans (ap_n (vR_st hVT hO_w_1599 (by decide +kernel) er_1602))
              have hG := GX.wR hG hSH hT_w_1599 rfl er_1602 (rg_w (rg_full _) (by decide +kernel)) (by decide +kernel)
              have h_1603 : ∀ j, j < 5 → rg (r_1602 w_2 j) (-1) 39 := rp_o h_1587 er_1602 (tg_ne hT_w_2 hT_w_1599 (by decide +kernel))
              obtain ⟨x_1604, ex_1604⟩ : ∃ y : Int32, y = x_1442 + Int32.ofInt 1 := ⟨_, rfl⟩
              replace hF := hF.trans (ap_n ex_1604)
              refine lv_iinc (v := x_1604) (lv' := [(2, .int x_1604), (4, .int x_1579), (0, .ref this), (1, .ref a0), (3, .int x_1443)]) hx hb dX0_drink_77 hl (k := 3) rfl ex_1604.symm (by decide +kernel) rfl (fun ls hl => ?_)
              refine lv_goto (tgt := 98) hx hb dX0_drink_80 (by decide +kernel) ?_
              exact K_1561 x_1604 r_1602 _ _ _ h_1603 hF hFr hG hP hD hS (lv_sub hl [2, 3, 0, 4] rfl)
    exact L_1501 _ (0 : Int32) (0 : Int32) ri_5 _ _ _ (rg_w (rg_k (0 : Int32) 0 rfl) (by decide +kernel)) h_14 (Nat.lt_succ_self _) hF hFr hG hP hD hS (lv_sub hl [2, 3, 1, 0] rfl)
  exact go _ _ _ hP hD hS hl

set_option maxRecDepth 100000 in
def g_X0_groupOf (a0 : Int32) (I : Nat → Int32) (J : Nat → Int64) (ri : Nat → Nat → Int32) (rj : Nat → Nat → Int64) (rq : Nat → Nat → Option Nat) : Int32 × vM := (ap1 (ri 5 (a0).toNatClampNeg) fun (x_1 : Int32) => (ap1 (x_1 * (10 : Int32)) fun (x_3 : Int32) => (ap1 (ri 1 (a0).toNatClampNeg) fun (x_6 : Int32) => (ap1 (x_3 + x_6) fun (x_8 : Int32) => (x_8, I, J, ri, rj, rq)))))
set_option maxRecDepth 100000 in
theorem g_X0_groupOf_e {a0 : Int32} {I : Nat → Int32} {J : Nat → Int64} {ri : Nat → Nat → Int32} {rj : Nat → Nat → Int64} {rq : Nat → Nat → Option Nat} : g_X0_groupOf a0 I J ri rj rq = (ap1 (ri 5 (a0).toNatClampNeg) fun (x_1 : Int32) => (ap1 (x_1 * (10 : Int32)) fun (x_3 : Int32) => (ap1 (ri 1 (a0).toNatClampNeg) fun (x_6 : Int32) => (ap1 (x_3 + x_6) fun (x_8 : Int32) => (x_8, I, J, ri, rj, rq))))) := rfl
set_option maxHeartbeats 4000000 in
set_option maxRecDepth 100000 in
theorem s_X0_groupOf (l : Launch) (D : va_G) (t : pq_T) (σ : pq_S) (I : Nat → Nat → Int32) (J : Nat → Nat → Int64) (ri : Nat → Nat → Int32) (rj : Nat → Nat → Int64) (rq : Nat → Nat → Option Nat) (sz : Nat) (tg : Nat → Nat) (hSH : SH σ tg) (hG0 : GS tg σ I ri rq) (this : Nat) (a0 : Int32) (hL_this : this ∈ σ.1) (hK_this : σ.2.1 this = 0) (h_a0 : rg a0 0 39) (this_place : Nat) (hR_this_place : σ.2.2.1 5 this = some this_place) (hL_this_place : this_place ∈ σ.1) (hK_this_place : σ.2.1 this_place = 13) (hN_this_place : σ.2.2.2 this_place = 40) (hT_this_place : tg this_place = 5) (hrow : rg (ri this_place (a0).toNatClampNeg) 0 4) (M : Nat) (hL_M : M ∈ σ.1) (hK_M : σ.2.1 M = 10) (hO_this : this = vo σ 0 M) : MetI l yX0_groupOf (wa yX0_groupOf cX0_groupOf 2 (some .int)) ({ frames := 0, cells := 0, slots := 0, locals := 0 }) [.ref this, .int a0] D t σ (I, J, ri, rj, rq) sz 0 0 (fun (r : Int32) (u : pq_S × pq_M) => u = (σ, I, J, ri, rj, rq) ∧ g_X0_groupOf a0 (vI 10 σ M I) (vJ 10 σ M J) (vR 10 σ M ri) (vL 10 σ M rj) (vQ 10 σ M rq) = (r, (vI 10 σ M I), (vJ 10 σ M J), (vR 10 σ M ri), (vL 10 σ M rj), (vQ 10 σ M rq)) ∧ rg r 0 49) := by
  refine Met.ofW (cc := cX0_groupOf) (maxL := 2) (ret := (some .int)) (by decide +kernel) rfl ?_
  intro p e s m args below meth c s₁ B hml hv
  obtain ⟨rfl, hsz, hP, hK, hD0, hN⟩ := hv
  have hx := B.exec
  have hb := B.bytes
  have hr := B.returns
  have hts := atoms_spec (ws := (wa yX0_groupOf cX0_groupOf 2 (some .int))) B.pre
  have hown : s.vm.findClass RX0 = some m.cls := findClass_of_methodNamed B.named
  have hlocks := B.notSynchronized
  subst hsz
  have hD : va_D (pq_B t σ (I, J, ri, rj, rq) s.heap.size) (pq_P t σ (I, J, ri, rj, rq)) := hD0.self
  generalize hAe : pq_B t σ (I, J, ri, rj, rq) s.heap.size = A at hD ⊢
  have hA : ∀ q : Nat, s.heap.size ≤ q → A q := fun q h => by rw [← hAe]; exact Or.inr h
  have hS : va_S A s.heap s.heap [] := va_S.rf
  have hG : GX [] tg σ I ri rj I ri rj rq := ⟨hG0, fun _ _ _ => rfl, fun _ _ _ _ _ => rfl, fun _ _ _ _ _ => rfl⟩
  have hl := lv_entry ([.ref this, .int a0]) (n := 2) (Nat.le_of_ble_eq_true rfl)
  rw [lg_entry_eq]
  generalize (lg_sl ([.ref this, .int a0]) ++ List.replicate (2 - (lg_sl ([.ref this, .int a0])).length) Slot.unset).toArray = ls at hl ⊢
  have hl : lv_has ls 2 [(0, .ref this), (1, .int a0)] := hl
  refine q_gen (fun Q hQ => ?_)
  have go : ∀ (H : Heap) (locs : List Loc) (ls : Array Slot), va_P D vwCl (pq_P t σ (I, J, ri, rj, rq)) H → va_D A (pq_P t σ (I, J, ri, rj, rq)) → va_S A s.heap H locs → lv_has ls 2 [(0, .ref this), (1, .int a0)] → W p l e ({ frames := 0, cells := 0, slots := 0, locals := 0 } : Room) s m (List.toArray ([.ref this, .int a0] : List Value)) below meth c H locs 0 0 Q (F0 m 0 ls []) := by
    intro H locs ls hP hD hS hl
    have hVT : VT 10 σ tg M := vt_10 hSH hL_M hK_M
    have hFr : FR 10 tg σ M (I, J, ri, rj, rq) (I, J, ri, rj, rq) := fr_rf
    have hO_this_place : this_place = vrow σ 5 M := vo_k (c := 0) hO_this hR_this_place
    obtain ⟨F, hF0⟩ : ∃ F, F = g_X0_groupOf a0 (vI 10 σ M I) (vJ 10 σ M J) (vR 10 σ M ri) (vL 10 σ M rj) (vQ 10 σ M rq) := ⟨_, rfl⟩
    have hF := hF0.trans g_X0_groupOf_e
    refine lv_aload_n hx hb dX0_groupOf_0 rfl (lv_at hl 0 rfl) ?_
    refine pg_f (v := .ref this_place) (C := RX0) (T := TX0) (N := 16) hx hb hts (tw_i inlX0) hown hK hP hL_this hK_this (by decide +kernel) rfl 5 (by decide +kernel) (hts _ (tw_c tw_114)) (pq_hv rfl hR_this_place) dX0_groupOf_1 ?_
    refine lv_iload_n hx hb dX0_groupOf_4 rfl (lv_at hl 1 rfl) ?_
    refine pl_i hx hb hK hP hL_this_place hK_this_place hN_this_place (rg_in h_a0 (by decide +kernel)) dX0_groupOf_5 ?_
    refine lv_topi (fun x_1 ex_1 => ?_)
    replace hF := hF.trans (ap_n (vR_r hO_this_place (by decide +kernel) ex_1))
    have h_2 : rg x_1 0 4 := rg_of_eq ex_1 (hrow)
    refine lv_bipush (v := 10) hx hb dX0_groupOf_6 (by decide +kernel) ?_
    refine lv_imul hx hb dX0_groupOf_8 ?_
    refine lv_topi (fun x_3 ex_3 => ?_)
    replace hF := hF.trans (ap_n ex_3)
    have h_4 : rg x_3 0 40 := rg_of_eq ex_3 (rg_mul h_2 (rg_k (10 : Int32) 10 rfl) (by decide +kernel))
    refine lv_aload_n hx hb dX0_groupOf_9 rfl (lv_at hl 0 rfl) ?_
    obtain ⟨w_5, hR_w_5, hL_w_5, hK_w_5, hN_w_5, hT_w_5⟩ := sh_a hSH 1 (ci := 0) (kd := 13) (len := 40) rfl (by decide +kernel) hL_this hK_this
    have hO_w_5 : w_5 = vrow σ 1 M := vo_k (c := 0) hO_this hR_w_5
    refine pg_f (v := .ref w_5) (C := RX0) (T := TX0) (N := 16) hx hb hts (tw_i inlX0) hown hK hP hL_this hK_this (by decide +kernel) rfl 1 (by decide +kernel) (hts _ (tw_c tw_110)) (pq_hv rfl hR_w_5) dX0_groupOf_10 ?_
    refine lv_iload_n hx hb dX0_groupOf_13 rfl (lv_at hl 1 rfl) ?_
    refine pl_i hx hb hK hP hL_w_5 hK_w_5 hN_w_5 (rg_in h_a0 (by decide +kernel)) dX0_groupOf_14 ?_
    refine lv_topi (fun x_6 ex_6 => ?_)
    replace hF := hF.trans (ap_n (vR_r hO_w_5 (by decide +kernel) ex_6))
    have h_7 : rg x_6 0 9 := rg_of_eq ex_6 (GX.rR hG hT_w_5 rfl)
    refine lv_iadd hx hb dX0_groupOf_15 ?_
    refine lv_topi (fun x_8 ex_8 => ?_)
    replace hF := hF.trans (ap_n ex_8)
    have h_9 : rg x_8 0 49 := rg_of_eq ex_8 (rg_add h_4 h_7 (by decide +kernel))
    subst hQ
    exact W.iret (v := x_8) hx hb hr (fun t1 ht hW => ⟨⟨x_8, (σ, I, J, ri, rj, rq), rfl, ⟨rfl, (hF0.symm.trans hF), (rg_w h_9 (by decide +kernel))⟩, by rw [ht]; exact hP, va_K.moved hW.alike hK, hD⟩, hS.F ht⟩) hS.2.2 dX0_groupOf_16
  exact go _ _ _ hP hD hS hl

set_option maxHeartbeats 4000000 in
set_option maxRecDepth 100000 in
theorem s_X11_fill_14 (l : Launch) (D : va_G) (t : pq_T) (σ : pq_S) (I : Nat → Nat → Int32) (J : Nat → Nat → Int64) (ri : Nat → Nat → Int32) (rj : Nat → Nat → Int64) (rq : Nat → Nat → Option Nat) (sz : Nat) (tg : Nat → Nat) (hSH : SH σ tg) (hG0 : GS tg σ I ri rq) (a0 : Nat) (a1 : Int32) (hL_a0 : a0 ∈ σ.1) (hK_a0 : σ.2.1 a0 = 13) (hN_a0 : σ.2.2.2 a0 = 50) (hT_a0 : tg a0 = 14) : MetV l yX11_fill (wa yX11_fill cX11_fill 3 none) ({ frames := 0, cells := 0, slots := 0, locals := 0 }) [.ref a0, .int a1] D t σ (I, J, ri, rj, rq) sz 0 0 (fun (u : pq_S × pq_M) => ∃ ri' : Nat → Nat → Int32, u = (σ, I, J, ri', rj, rq) ∧ GX [] tg σ I ri rj I ri' rj rq ∧ (ri' = va_up ri a0 (fil a1 50 (ri a0)))) := by
  refine Met.ofW (cc := cX11_fill) (maxL := 3) (ret := none) (by decide +kernel) rfl ?_
  intro p e s m args below meth c s₁ B hml hv
  obtain ⟨rfl, hsz, hP, hK, hD0, hN⟩ := hv
  have hx := B.exec
  have hb := B.bytes
  have hr := B.returns
  have hts := atoms_spec (ws := (wa yX11_fill cX11_fill 3 none)) B.pre
  have hown : s.vm.findClass RX11 = some m.cls := findClass_of_methodNamed B.named
  have hlocks := B.notSynchronized
  subst hsz
  have hD : va_D (pq_B t σ (I, J, ri, rj, rq) s.heap.size) (pq_P t σ (I, J, ri, rj, rq)) := hD0.self
  generalize hAe : pq_B t σ (I, J, ri, rj, rq) s.heap.size = A at hD ⊢
  have hA : ∀ q : Nat, s.heap.size ≤ q → A q := fun q h => by rw [← hAe]; exact Or.inr h
  have hS : va_S A s.heap s.heap [] := va_S.rf
  have hG : GX [] tg σ I ri rj I ri rj rq := ⟨hG0, fun _ _ _ => rfl, fun _ _ _ _ _ => rfl, fun _ _ _ _ _ => rfl⟩
  have hl := lv_entry ([.ref a0, .int a1]) (n := 3) (Nat.le_of_ble_eq_true rfl)
  rw [lg_entry_eq]
  generalize (lg_sl ([.ref a0, .int a1]) ++ List.replicate (3 - (lg_sl ([.ref a0, .int a1])).length) Slot.unset).toArray = ls at hl ⊢
  have hl : lv_has ls 3 [(0, .ref a0), (1, .int a1)] := hl
  refine q_gen (fun Q hQ => ?_)
  have go : ∀ (H : Heap) (locs : List Loc) (ls : Array Slot), va_P D vwCl (pq_P t σ (I, J, ri, rj, rq)) H → va_D A (pq_P t σ (I, J, ri, rj, rq)) → va_S A s.heap H locs → lv_has ls 3 [(0, .ref a0), (1, .int a1)] → W p l e ({ frames := 0, cells := 0, slots := 0, locals := 0 } : Room) s m (List.toArray ([.ref a0, .int a1] : List Value)) below meth c H locs 0 0 Q (F0 m 0 ls []) := by
    intro H locs ls hP hD hS hl
    refine lv_iconst (v := 0) hx hb dX11_fill_0 (by decide +kernel) ?_
    refine lv_istore_n (lv' := [(2, .int 0), (0, .ref a0), (1, .int a1)]) hx hb dX11_fill_1 rfl hl (by decide +kernel) rfl (fun ls hl => ?_)
    have L_168 : ∀ (n_167 : Nat) (x_153 : Int32) (ri_154 : Nat → Nat → Int32) (H : Heap) (locs : List Loc) (ls : Array Slot), rg x_153 0 50 → (0 ≤ (x_153).toInt) → (ri_154 = va_up ri a0 (fil a1 (x_153).toNatClampNeg (ri a0))) → (50 - (x_153).toInt).toNat < n_167 → GX [] tg σ I ri rj I ri_154 rj rq → va_P D vwCl (pq_P t σ (I, J, ri_154, rj, rq)) H → va_D A (pq_P t σ (I, J, ri_154, rj, rq)) → va_S A s.heap H locs → lv_has ls 3 [(0, .ref a0), (1, .int a1), (2, .int x_153)] → W p l e ({ frames := 0, cells := 0, slots := 0, locals := 0 } : Room) s m (List.toArray ([.ref a0, .int a1] : List Value)) below meth c H locs 0 0 Q (F0 m 2 ls []) := by
      intro n_167
      induction n_167 with
      | zero => intro x_153 ri_154 H locs ls h_173 hrel_174 hrel_175 hm_166 hG hP hD hS hl; exact absurd hm_166 (Nat.not_lt_zero _)
      | succ n_167 ih_169 =>
        intro x_153 ri_154 H locs ls h_173 hrel_174 hrel_175 hm_166 hG hP hD hS hl
        have uh_173 := h_173.1
        have vh_173 := h_173.2
        refine lv_iload_n hx hb dX11_fill_2 rfl (lv_at hl 2 rfl) ?_
        refine lv_aload_n hx hb dX11_fill_3 rfl (lv_at hl 0 rfl) ?_
        refine pn_i (v := 50) hx hb hK hP hL_a0 hK_a0 hN_a0 (by decide +kernel) dX11_fill_4 ?_
        refine lv_icmp_ge (tgt := 18) hx hb dX11_fill_5 (by decide +kernel) (fun c_176 => ?_) (fun c_176 => ?_)
        · have tc_177 : 50 ≤ (x_153).toInt := Int32.le_iff_toInt_le.mp c_176
          have h_178 : rg x_153 50 50 := rg_le2 c_176 (rg_k (50 : Int32) 50 rfl) h_173 (by decide +kernel)
          have uh_178 := h_178.1
          have vh_178 := h_178.2
          subst hQ
          exact W.vret hx hb hr (fun t1 ht hW => ⟨⟨(σ, I, J, ri_154, rj, rq), rfl, ⟨ri_154, rfl, hG, (by rw [hrel_175, show (x_153).toNatClampNeg = 50 from by have z_i := clampE x_153; omega])⟩, by rw [ht]; exact hP, va_K.moved hW.alike hK, hD⟩, hS.F ht⟩) hS.2.2 dX11_fill_18
        · have tc_179 : (x_153).toInt < 50 := Int32.lt_iff_toInt_lt.mp (nle c_176)
          have h_180 : rg x_153 0 49 := rg_lt1 (nle c_176) h_173 (rg_k (50 : Int32) 50 rfl) (by decide +kernel)
          have uh_180 := h_180.1
          have vh_180 := h_180.2
          refine lv_aload_n hx hb dX11_fill_8 rfl (lv_at hl 0 rfl) ?_
          refine lv_iload_n hx hb dX11_fill_9 rfl (lv_at hl 2 rfl) ?_
          refine lv_iload_n hx hb dX11_fill_10 rfl (lv_at hl 1 rfl) ?_
          refine pt_i hx hb hK hP hD hS hL_a0 hK_a0 hN_a0 (rg_in h_180 (by decide +kernel)) dX11_fill_11 (fun r_181 H locs er_181 hP hD hS => ?_)
          have hG := GX.wR hG hSH hT_a0 rfl er_181 (rg_w (rg_full _) (by decide +kernel)) (by decide +kernel)
          obtain ⟨x_182, ex_182⟩ : ∃ y : Int32, y = x_153 + Int32.ofInt 1 := ⟨_, rfl⟩
          have h_183 : rg x_182 1 50 := rg_of_eq ex_182 (rg_add h_180 (rg_k (Int32.ofInt 1) 1 rfl) (by decide +kernel))
          have uh_183 := h_183.1
          have vh_183 := h_183.2
          have tx_182 : (x_182).toInt = (x_153).toInt + 1 := by rw [ex_182]; exact i_add_rg (a2 := (x_153).toInt) (b2 := 1) rfl rfl h_180 (rg_k (Int32.ofInt 1) 1 rfl) (by decide +kernel)
          refine lv_iinc (v := x_182) (lv' := [(2, .int x_182), (0, .ref a0), (1, .int a1)]) hx hb dX11_fill_12 hl (k := 2) rfl ex_182.symm (by decide +kernel) rfl (fun ls hl => ?_)
          refine lv_goto (tgt := 2) hx hb dX11_fill_15 (by decide +kernel) ?_
          exact ih_169 x_182 r_181 _ _ _ (rg_w h_183 (by decide +kernel)) (by omega) (fil_s hrel_175 er_181 (by have z_i := clampE x_153; have z_n := clampE x_182; omega)) (ms_up 1 hm_166 ex_182 rfl (by decide +kernel) h_180 (by decide +kernel) (by decide +kernel)) hG hP hD hS (lv_sub hl [1, 2, 0] rfl)
    exact L_168 _ (0 : Int32) ri _ _ _ (rg_w (rg_k (0 : Int32) 0 rfl) (by decide +kernel)) (by have k0 : (0 : Int32).toInt = 0 := rfl; omega) fil_0 (Nat.lt_succ_self _) hG hP hD hS (lv_sub hl [1, 2, 0] rfl)
  exact go _ _ _ hP hD hS hl

set_option maxHeartbeats 4000000 in
set_option maxRecDepth 100000 in
theorem s_X11_fill_15 (l : Launch) (D : va_G) (t : pq_T) (σ : pq_S) (I : Nat → Nat → Int32) (J : Nat → Nat → Int64) (ri : Nat → Nat → Int32) (rj : Nat → Nat → Int64) (rq : Nat → Nat → Option Nat) (sz : Nat) (tg : Nat → Nat) (hSH : SH σ tg) (hG0 : GS tg σ I ri rq) (a0 : Nat) (a1 : Int32) (hL_a0 : a0 ∈ σ.1) (hK_a0 : σ.2.1 a0 = 13) (hN_a0 : σ.2.2.2 a0 = 50) (hT_a0 : tg a0 = 15) (h_a1 : rg a1 (-2) 4) : MetV l yX11_fill (wa yX11_fill cX11_fill 3 none) ({ frames := 0, cells := 0, slots := 0, locals := 0 }) [.ref a0, .int a1] D t σ (I, J, ri, rj, rq) sz 0 0 (fun (u : pq_S × pq_M) => ∃ ri' : Nat → Nat → Int32, u = (σ, I, J, ri', rj, rq) ∧ GX [] tg σ I ri rj I ri' rj rq ∧ (ri' = va_up ri a0 (fil a1 50 (ri a0)))) := by
  refine Met.ofW (cc := cX11_fill) (maxL := 3) (ret := none) (by decide +kernel) rfl ?_
  intro p e s m args below meth c s₁ B hml hv
  obtain ⟨rfl, hsz, hP, hK, hD0, hN⟩ := hv
  have hx := B.exec
  have hb := B.bytes
  have hr := B.returns
  have hts := atoms_spec (ws := (wa yX11_fill cX11_fill 3 none)) B.pre
  have hown : s.vm.findClass RX11 = some m.cls := findClass_of_methodNamed B.named
  have hlocks := B.notSynchronized
  subst hsz
  have hD : va_D (pq_B t σ (I, J, ri, rj, rq) s.heap.size) (pq_P t σ (I, J, ri, rj, rq)) := hD0.self
  generalize hAe : pq_B t σ (I, J, ri, rj, rq) s.heap.size = A at hD ⊢
  have hA : ∀ q : Nat, s.heap.size ≤ q → A q := fun q h => by rw [← hAe]; exact Or.inr h
  have hS : va_S A s.heap s.heap [] := va_S.rf
  have hG : GX [] tg σ I ri rj I ri rj rq := ⟨hG0, fun _ _ _ => rfl, fun _ _ _ _ _ => rfl, fun _ _ _ _ _ => rfl⟩
  have hl := lv_entry ([.ref a0, .int a1]) (n := 3) (Nat.le_of_ble_eq_true rfl)
  rw [lg_entry_eq]
  generalize (lg_sl ([.ref a0, .int a1]) ++ List.replicate (3 - (lg_sl ([.ref a0, .int a1])).length) Slot.unset).toArray = ls at hl ⊢
  have hl : lv_has ls 3 [(0, .ref a0), (1, .int a1)] := hl
  refine q_gen (fun Q hQ => ?_)
  have go : ∀ (H : Heap) (locs : List Loc) (ls : Array Slot), va_P D vwCl (pq_P t σ (I, J, ri, rj, rq)) H → va_D A (pq_P t σ (I, J, ri, rj, rq)) → va_S A s.heap H locs → lv_has ls 3 [(0, .ref a0), (1, .int a1)] → W p l e ({ frames := 0, cells := 0, slots := 0, locals := 0 } : Room) s m (List.toArray ([.ref a0, .int a1] : List Value)) below meth c H locs 0 0 Q (F0 m 0 ls []) := by
    intro H locs ls hP hD hS hl
    refine lv_iconst (v := 0) hx hb dX11_fill_0 (by decide +kernel) ?_
    refine lv_istore_n (lv' := [(2, .int 0), (0, .ref a0), (1, .int a1)]) hx hb dX11_fill_1 rfl hl (by decide +kernel) rfl (fun ls hl => ?_)
    have L_168 : ∀ (n_167 : Nat) (x_153 : Int32) (ri_154 : Nat → Nat → Int32) (H : Heap) (locs : List Loc) (ls : Array Slot), rg x_153 0 50 → (0 ≤ (x_153).toInt) → (ri_154 = va_up ri a0 (fil a1 (x_153).toNatClampNeg (ri a0))) → (50 - (x_153).toInt).toNat < n_167 → GX [] tg σ I ri rj I ri_154 rj rq → va_P D vwCl (pq_P t σ (I, J, ri_154, rj, rq)) H → va_D A (pq_P t σ (I, J, ri_154, rj, rq)) → va_S A s.heap H locs → lv_has ls 3 [(0, .ref a0), (1, .int a1), (2, .int x_153)] → W p l e ({ frames := 0, cells := 0, slots := 0, locals := 0 } : Room) s m (List.toArray ([.ref a0, .int a1] : List Value)) below meth c H locs 0 0 Q (F0 m 2 ls []) := by
      intro n_167
      induction n_167 with
      | zero => intro x_153 ri_154 H locs ls h_173 hrel_174 hrel_175 hm_166 hG hP hD hS hl; exact absurd hm_166 (Nat.not_lt_zero _)
      | succ n_167 ih_169 =>
        intro x_153 ri_154 H locs ls h_173 hrel_174 hrel_175 hm_166 hG hP hD hS hl
        have uh_173 := h_173.1
        have vh_173 := h_173.2
        refine lv_iload_n hx hb dX11_fill_2 rfl (lv_at hl 2 rfl) ?_
        refine lv_aload_n hx hb dX11_fill_3 rfl (lv_at hl 0 rfl) ?_
        refine pn_i (v := 50) hx hb hK hP hL_a0 hK_a0 hN_a0 (by decide +kernel) dX11_fill_4 ?_
        refine lv_icmp_ge (tgt := 18) hx hb dX11_fill_5 (by decide +kernel) (fun c_176 => ?_) (fun c_176 => ?_)
        · have tc_177 : 50 ≤ (x_153).toInt := Int32.le_iff_toInt_le.mp c_176
          have h_178 : rg x_153 50 50 := rg_le2 c_176 (rg_k (50 : Int32) 50 rfl) h_173 (by decide +kernel)
          have uh_178 := h_178.1
          have vh_178 := h_178.2
          subst hQ
          exact W.vret hx hb hr (fun t1 ht hW => ⟨⟨(σ, I, J, ri_154, rj, rq), rfl, ⟨ri_154, rfl, hG, (by rw [hrel_175, show (x_153).toNatClampNeg = 50 from by have z_i := clampE x_153; omega])⟩, by rw [ht]; exact hP, va_K.moved hW.alike hK, hD⟩, hS.F ht⟩) hS.2.2 dX11_fill_18
        · have tc_179 : (x_153).toInt < 50 := Int32.lt_iff_toInt_lt.mp (nle c_176)
          have h_180 : rg x_153 0 49 := rg_lt1 (nle c_176) h_173 (rg_k (50 : Int32) 50 rfl) (by decide +kernel)
          have uh_180 := h_180.1
          have vh_180 := h_180.2
          refine lv_aload_n hx hb dX11_fill_8 rfl (lv_at hl 0 rfl) ?_
          refine lv_iload_n hx hb dX11_fill_9 rfl (lv_at hl 2 rfl) ?_
          refine lv_iload_n hx hb dX11_fill_10 rfl (lv_at hl 1 rfl) ?_
          refine pt_i hx hb hK hP hD hS hL_a0 hK_a0 hN_a0 (rg_in h_180 (by decide +kernel)) dX11_fill_11 (fun r_181 H locs er_181 hP hD hS => ?_)
          have hG := GX.wR hG hSH hT_a0 rfl er_181 (rg_w h_a1 (by decide +kernel)) (by decide +kernel)
          obtain ⟨x_182, ex_182⟩ : ∃ y : Int32, y = x_153 + Int32.ofInt 1 := ⟨_, rfl⟩
          have h_183 : rg x_182 1 50 := rg_of_eq ex_182 (rg_add h_180 (rg_k (Int32.ofInt 1) 1 rfl) (by decide +kernel))
          have uh_183 := h_183.1
          have vh_183 := h_183.2
          have tx_182 : (x_182).toInt = (x_153).toInt + 1 := by rw [ex_182]; exact i_add_rg (a2 := (x_153).toInt) (b2 := 1) rfl rfl h_180 (rg_k (Int32.ofInt 1) 1 rfl) (by decide +kernel)
          refine lv_iinc (v := x_182) (lv' := [(2, .int x_182), (0, .ref a0), (1, .int a1)]) hx hb dX11_fill_12 hl (k := 2) rfl ex_182.symm (by decide +kernel) rfl (fun ls hl => ?_)
          refine lv_goto (tgt := 2) hx hb dX11_fill_15 (by decide +kernel) ?_
          exact ih_169 x_182 r_181 _ _ _ (rg_w h_183 (by decide +kernel)) (by omega) (fil_s hrel_175 er_181 (by have z_i := clampE x_153; have z_n := clampE x_182; omega)) (ms_up 1 hm_166 ex_182 rfl (by decide +kernel) h_180 (by decide +kernel) (by decide +kernel)) hG hP hD hS (lv_sub hl [1, 2, 0] rfl)
    exact L_168 _ (0 : Int32) ri _ _ _ (rg_w (rg_k (0 : Int32) 0 rfl) (by decide +kernel)) (by have k0 : (0 : Int32).toInt = 0 := rfl; omega) fil_0 (Nat.lt_succ_self _) hG hP hD hS (lv_sub hl [1, 2, 0] rfl)
  exact go _ _ _ hP hD hS hl

set_option maxRecDepth 100000 in
def g_X0_countGroups_K57 (x_570 : Int32) (k_g_X0_countGroups_L19 : (Int32) → (Nat → Nat → Int32) → vM) (ri_664 : Nat → Nat → Int32) : vM := (ap1 (x_570 + Int32.ofInt 1) fun (x_668 : Int32) => (k_g_X0_countGroups_L19 x_668 ri_664))
set_option maxRecDepth 100000 in
theorem g_X0_countGroups_K57_e {x_570 : Int32} {k_g_X0_countGroups_L19 : (Int32) → (Nat → Nat → Int32) → vM} {ri_664 : Nat → Nat → Int32} : g_X0_countGroups_K57 x_570 k_g_X0_countGroups_L19 ri_664 = (ap1 (x_570 + Int32.ofInt 1) fun (x_668 : Int32) => (k_g_X0_countGroups_L19 x_668 ri_664)) := rfl
set_option maxRecDepth 100000 in
def g_X0_countGroups_L19 (a0 : Int64) (I : Nat → Int32) (J : Nat → Int64) (rj : Nat → Nat → Int64) (rq : Nat → Nat → Option Nat) : Nat → (Int32) → (Nat → Nat → Int32) → vM
  | 0, x_570, ri_571 => (I, J, ri_571, rj, rq)
  | n_617 + 1, x_570, ri_571 => (ap1 (I 0) fun (y_623 : Int32) => (if (y_623) ≤ x_570 then (I, J, ri_571, rj, rq) else (ap1 (g_X11_hasBit a0 x_570) fun (x_629 : Int32) => (if x_629 = (0 : Int32) then (g_X0_countGroups_K57 x_570 (g_X0_countGroups_L19 a0 I J rj rq n_617) ri_571) else (bnI (g_X0_isOnRing x_570 I J ri_571 rj rq) fun (x_676 : Int32) (_ : Nat → Int32) (_ : Nat → Int64) (_ : Nat → Nat → Int32) (_ : Nat → Nat → Int64) (_ : Nat → Nat → Option Nat) => (if x_676 = (0 : Int32) then (g_X0_countGroups_K57 x_570 (g_X0_countGroups_L19 a0 I J rj rq n_617) ri_571) else (bnI (g_X0_groupOf x_570 I J ri_571 rj rq) fun (x_693 : Int32) (_ : Nat → Int32) (_ : Nat → Int64) (_ : Nat → Nat → Int32) (_ : Nat → Nat → Int64) (_ : Nat → Nat → Option Nat) => (ap1 (ri_571 14 (x_693).toNatClampNeg) fun (x_700 : Int32) => (ap1 (x_700 + (1 : Int32)) fun (x_701 : Int32) => (ap1 (va_up ri_571 14 (upd (ri_571 14) (x_693).toNatClampNeg x_701)) fun (r_702 : Nat → Nat → Int32) => (g_X0_countGroups_K57 x_570 (g_X0_countGroups_L19 a0 I J rj rq n_617) r_702)))))))))))
set_option maxRecDepth 100000 in
theorem g_X0_countGroups_L19_e {a0 : Int64} {I : Nat → Int32} {J : Nat → Int64} {rj : Nat → Nat → Int64} {rq : Nat → Nat → Option Nat} {n_617 : Nat} {x_570 : Int32} {ri_571 : Nat → Nat → Int32} : g_X0_countGroups_L19 a0 I J rj rq (n_617 + 1) x_570 ri_571 = (ap1 (I 0) fun (y_623 : Int32) => (if (y_623) ≤ x_570 then (I, J, ri_571, rj, rq) else (ap1 (g_X11_hasBit a0 x_570) fun (x_629 : Int32) => (if x_629 = (0 : Int32) then (g_X0_countGroups_K57 x_570 (g_X0_countGroups_L19 a0 I J rj rq n_617) ri_571) else (bnI (g_X0_isOnRing x_570 I J ri_571 rj rq) fun (x_676 : Int32) (_ : Nat → Int32) (_ : Nat → Int64) (_ : Nat → Nat → Int32) (_ : Nat → Nat → Int64) (_ : Nat → Nat → Option Nat) => (if x_676 = (0 : Int32) then (g_X0_countGroups_K57 x_570 (g_X0_countGroups_L19 a0 I J rj rq n_617) ri_571) else (bnI (g_X0_groupOf x_570 I J ri_571 rj rq) fun (x_693 : Int32) (_ : Nat → Int32) (_ : Nat → Int64) (_ : Nat → Nat → Int32) (_ : Nat → Nat → Int64) (_ : Nat → Nat → Option Nat) => (ap1 (ri_571 14 (x_693).toNatClampNeg) fun (x_700 : Int32) => (ap1 (x_700 + (1 : Int32)) fun (x_701 : Int32) => (ap1 (va_up ri_571 14 (upd (ri_571 14) (x_693).toNatClampNeg x_701)) fun (r_702 : Nat → Nat → Int32) => (g_X0_countGroups_K57 x_570 (g_X0_countGroups_L19 a0 I J rj rq n_617) r_702))))))))))) := rfl
set_option maxRecDepth 100000 in
def g_X0_countGroups (a0 : Int64) (I : Nat → Int32) (J : Nat → Int64) (ri : Nat → Nat → Int32) (rj : Nat → Nat → Int64) (rq : Nat → Nat → Option Nat) : vM := (ap1 (va_up ri 14 (fil (0 : Int32) 50 (ri 14))) fun (ri_4 : Nat → Nat → Int32) => (ap1 (va_up ri_4 15 (fil (-2 : Int32) 50 (ri_4 15))) fun (ri_14 : Nat → Nat → Int32) => (g_X0_countGroups_L19 a0 I J rj rq ((40 - ((0 : Int32)).toInt).toNat + 1) (0 : Int32) ri_14)))
set_option maxRecDepth 100000 in
theorem g_X0_countGroups_e {a0 : Int64} {I : Nat → Int32} {J : Nat → Int64} {ri : Nat → Nat → Int32} {rj : Nat → Nat → Int64} {rq : Nat → Nat → Option Nat} : g_X0_countGroups a0 I J ri rj rq = (ap1 (va_up ri 14 (fil (0 : Int32) 50 (ri 14))) fun (ri_4 : Nat → Nat → Int32) => (ap1 (va_up ri_4 15 (fil (-2 : Int32) 50 (ri_4 15))) fun (ri_14 : Nat → Nat → Int32) => (g_X0_countGroups_L19 a0 I J rj rq ((40 - ((0 : Int32)).toInt).toNat + 1) (0 : Int32) ri_14))) := rfl
set_option maxHeartbeats 4000000 in
set_option maxRecDepth 100000 in
theorem s_X0_countGroups (l : Launch) (D : va_G) (t : pq_T) (σ : pq_S) (I : Nat → Nat → Int32) (J : Nat → Nat → Int64) (ri : Nat → Nat → Int32) (rj : Nat → Nat → Int64) (rq : Nat → Nat → Option Nat) (sz : Nat) (tg : Nat → Nat) (hSH : SH σ tg) (hG0 : GS tg σ I ri rq) (this : Nat) (a0 : Int64) (hL_this : this ∈ σ.1) (hK_this : σ.2.1 this = 0) (M : Nat) (hL_M : M ∈ σ.1) (hK_M : σ.2.1 M = 10) (hO_this : this = vo σ 0 M) : MetV l yX0_countGroups (wa yX0_countGroups cX0_countGroups 4 none) ({ frames := 1, cells := 0, slots := 0, locals := 22 }) [.ref this, .long a0] D t σ (I, J, ri, rj, rq) sz 0 0 (fun (u : pq_S × pq_M) => ∃ ri' : Nat → Nat → Int32, u = (σ, I, J, ri', rj, rq) ∧ GX [] tg σ I ri rj I ri' rj rq ∧ g_X0_countGroups a0 (vI 10 σ M I) (vJ 10 σ M J) (vR 10 σ M ri) (vL 10 σ M rj) (vQ 10 σ M rq) = ((vI 10 σ M I), (vJ 10 σ M J), (vR 10 σ M ri'), (vL 10 σ M rj), (vQ 10 σ M rq)) ∧ FR 10 tg σ M (I, J, ri, rj, rq) (I, J, ri', rj, rq)) := by
  refine Met.ofW (cc := cX0_countGroups) (maxL := 4) (ret := none) (by decide +kernel) rfl ?_
  intro p e s m args below meth c s₁ B hml hv
  obtain ⟨rfl, hsz, hP, hK, hD0, hN⟩ := hv
  have hx := B.exec
  have hb := B.bytes
  have hr := B.returns
  have hts := atoms_spec (ws := (wa yX0_countGroups cX0_countGroups 4 none)) B.pre
  have hown : s.vm.findClass RX0 = some m.cls := findClass_of_methodNamed B.named
  have hlocks := B.notSynchronized
  subst hsz
  have hD : va_D (pq_B t σ (I, J, ri, rj, rq) s.heap.size) (pq_P t σ (I, J, ri, rj, rq)) := hD0.self
  generalize hAe : pq_B t σ (I, J, ri, rj, rq) s.heap.size = A at hD ⊢
  have hA : ∀ q : Nat, s.heap.size ≤ q → A q := fun q h => by rw [← hAe]; exact Or.inr h
  have hS : va_S A s.heap s.heap [] := va_S.rf
  have hG : GX [] tg σ I ri rj I ri rj rq := ⟨hG0, fun _ _ _ => rfl, fun _ _ _ _ _ => rfl, fun _ _ _ _ _ => rfl⟩
  have hl := lv_entry ([.ref this, .long a0]) (n := 4) (Nat.le_of_ble_eq_true rfl)
  rw [lg_entry_eq]
  generalize (lg_sl ([.ref this, .long a0]) ++ List.replicate (4 - (lg_sl ([.ref this, .long a0])).length) Slot.unset).toArray = ls at hl ⊢
  have hl : lv_has ls 4 [(0, .ref this), (1, .long a0)] := hl
  refine q_gen (fun Q hQ => ?_)
  have go : ∀ (H : Heap) (locs : List Loc) (ls : Array Slot), va_P D vwCl (pq_P t σ (I, J, ri, rj, rq)) H → va_D A (pq_P t σ (I, J, ri, rj, rq)) → va_S A s.heap H locs → lv_has ls 4 [(0, .ref this), (1, .long a0)] → W p l e ({ frames := 1, cells := 0, slots := 0, locals := 22 } : Room) s m (List.toArray ([.ref this, .long a0] : List Value)) below meth c H locs 0 0 Q (F0 m 0 ls []) := by
    intro H locs ls hP hD hS hl
    have hVT : VT 10 σ tg M := vt_10 hSH hL_M hK_M
    have hFr : FR 10 tg σ M (I, J, ri, rj, rq) (I, J, ri, rj, rq) := fr_rf
    obtain ⟨F, hF0⟩ : ∃ F, F = g_X0_countGroups a0 (vI 10 σ M I) (vJ 10 σ M J) (vR 10 σ M ri) (vL 10 σ M rj) (vQ 10 σ M rq) := ⟨_, rfl⟩
    have hF := hF0.trans g_X0_countGroups_e
    refine lv_aload_n hx hb dX0_countGroups_0 rfl (lv_at hl 0 rfl) ?_
    obtain ⟨w_1, hR_w_1, hL_w_1, hK_w_1, hN_w_1, hT_w_1⟩ := sh_a hSH 14 (ci := 0) (kd := 13) (len := 50) rfl (by decide +kernel) hL_this hK_this
    have hO_w_1 : w_1 = vrow σ 14 M := vo_k (c := 0) hO_this hR_w_1
    refine pg_f (v := .ref w_1) (C := RX0) (T := TX0) (N := 16) hx hb hts (tw_i inlX0) hown hK hP hL_this hK_this (by decide +kernel) rfl 14 (by decide +kernel) (hts _ (tw_c tw_122)) (pq_hv rfl hR_w_1) dX0_countGroups_1 ?_
    refine lv_iconst (v := 0) hx hb dX0_countGroups_4 (by decide +kernel) ?_
    refine pk_v (va_runSN (As := [.ref w_1, .int 0]) (rest := []) ⟨hx, hb, hml, hown, hts⟩ (s_X11_fill_14 l D t σ I J ri rj rq H.size tg hSH hG.1 w_1 (0 : Int32) hL_w_1 hK_w_1 hN_w_1 hT_w_1) ⟨va_cnB (host := "RingsUnder") 2 hts (tw_W tw_76) rfl rfl rfl (nl_16 hN) (hts _ (tw_c tw_2)) cd_yX11_fill_2 ⟨Nat.le_of_ble_eq_true rfl, Nat.le_of_ble_eq_true rfl⟩, hts (.static yX11_fill) (tw_c tq_static_yX11_fill), trivial⟩ ⟨pq_blind, pq_pre hK hN hP hD⟩ rfl rfl hl.1 rfl (lv_room (Nat.le_of_ble_eq_true rfl)) dX0_countGroups_5 ⟨Nat.le_of_ble_eq_true rfl, Nat.le_of_ble_eq_true rfl⟩) hD hS hA (fun σ1 μ1 H locs hw_3 hP hD hS => ?_)
    obtain ⟨ri_4, hu_5, hg_6, hp_8⟩ := hw_3
    obtain ⟨hu_5a, hu_5b⟩ := Prod.mk.inj hu_5
    rw [hu_5a, hu_5b] at hP hD
    replace hFr := fr_R hFr hO_w_1 (by decide +kernel) hp_8
    replace hF := hF.trans (ap_n (vR_fl hVT hO_w_1 (by decide +kernel) hp_8))
    have hG := GX.tr hG hg_6 (by decide +kernel)
    refine lv_aload_n hx hb dX0_countGroups_8 rfl (lv_at hl 0 rfl) ?_
    obtain ⟨w_11, hR_w_11, hL_w_11, hK_w_11, hN_w_11, hT_w_11⟩ := sh_a hSH 15 (ci := 0) (kd := 13) (len := 50) rfl (by decide +kernel) hL_this hK_this
    have hO_w_11 : w_11 = vrow σ 15 M := vo_k (c := 0) hO_this hR_w_11
    refine pg_f (v := .ref w_11) (C := RX0) (T := TX0) (N := 16) hx hb hts (tw_i inlX0) hown hK hP hL_this hK_this (by decide +kernel) rfl 15 (by decide +kernel) (hts _ (tw_c tw_123)) (pq_hv rfl hR_w_11) dX0_countGroups_9 ?_
    refine lv_bipush (v := (-2)) hx hb dX0_countGroups_12 (by decide +kernel) ?_
    refine pk_v (va_runSN (As := [.ref w_11, .int (-2)]) (rest := []) ⟨hx, hb, hml, hown, hts⟩ (s_X11_fill_15 l D t σ I J ri_4 rj rq H.size tg hSH hG.1 w_11 (-2 : Int32) hL_w_11 hK_w_11 hN_w_11 hT_w_11 (rg_w (rg_k (-2 : Int32) (-2) rfl) (by decide +kernel))) ⟨va_cnB (host := "RingsUnder") 2 hts (tw_W tw_76) rfl rfl rfl (nl_16 hN) (hts _ (tw_c tw_2)) cd_yX11_fill_2 ⟨Nat.le_of_ble_eq_true rfl, Nat.le_of_ble_eq_true rfl⟩, hts (.static yX11_fill) (tw_c tq_static_yX11_fill), trivial⟩ ⟨pq_blind, pq_pre hK hN hP hD⟩ rfl rfl hl.1 rfl (lv_room (Nat.le_of_ble_eq_true rfl)) dX0_countGroups_14 ⟨Nat.le_of_ble_eq_true rfl, Nat.le_of_ble_eq_true rfl⟩) hD hS hA (fun σ1 μ1 H locs hw_13 hP hD hS => ?_)
    obtain ⟨ri_14, hu_15, hg_16, hp_18⟩ := hw_13
    obtain ⟨hu_15a, hu_15b⟩ := Prod.mk.inj hu_15
    rw [hu_15a, hu_15b] at hP hD
    replace hFr := fr_R hFr hO_w_11 (by decide +kernel) hp_18
    replace hF := hF.trans (ap_n (vR_fl hVT hO_w_11 (by decide +kernel) hp_18))
    have hG := GX.tr hG hg_16 (by decide +kernel)
    refine lv_iconst (v := 0) hx hb dX0_countGroups_17 (by decide +kernel) ?_
    refine lv_istore_n (lv' := [(3, .int 0), (0, .ref this), (1, .long a0)]) hx hb dX0_countGroups_18 rfl hl (by decide +kernel) rfl (fun ls hl => ?_)
    have L_618 : ∀ (n_617 : Nat) (x_570 : Int32) (ri_571 : Nat → Nat → Int32) (H : Heap) (locs : List Loc) (ls : Array Slot), rg x_570 0 40 → (40 - (x_570).toInt).toNat < n_617 → F = g_X0_countGroups_L19 a0 (vI 10 σ M I) (vJ 10 σ M J) (vL 10 σ M rj) (vQ 10 σ M rq) n_617 x_570 (vR 10 σ M ri_571) → FR 10 tg σ M (I, J, ri, rj, rq) (I, J, ri_571, rj, rq) → GX [] tg σ I ri rj I ri_571 rj rq → va_P D vwCl (pq_P t σ (I, J, ri_571, rj, rq)) H → va_D A (pq_P t σ (I, J, ri_571, rj, rq)) → va_S A s.heap H locs → lv_has ls 4 [(0, .ref this), (1, .long a0), (3, .int x_570)] → W p l e ({ frames := 1, cells := 0, slots := 0, locals := 22 } : Room) s m (List.toArray ([.ref this, .long a0] : List Value)) below meth c H locs 0 0 Q (F0 m 19 ls []) := by
      intro n_617
      induction n_617 with
      | zero => intro x_570 ri_571 H locs ls h_621 hm_616 hF hFr hG hP hD hS hl; exact absurd hm_616 (Nat.not_lt_zero _)
      | succ n_617 ih_619 =>
        intro x_570 ri_571 H locs ls h_621 hm_616 hF hFr hG hP hD hS hl
        replace hF := hF.trans g_X0_countGroups_L19_e
        refine lv_iload_n hx hb dX0_countGroups_19 rfl (lv_at hl 2 rfl) ?_
        refine lv_aload_n hx hb dX0_countGroups_20 rfl (lv_at hl 0 rfl) ?_
        refine pg_f (v := .int (I 0 this)) (C := RX0) (T := TX0) (N := 16) hx hb hts (tw_i inlX0) hown hK hP hL_this hK_this (by decide +kernel) rfl 0 (by decide +kernel) (hts _ (tw_c tw_395)) rfl dX0_countGroups_21 ?_
        have h_622 : rg (I 0 this) 0 40 := GX.rI hG 0 rfl
        replace hF := hF.trans (ap_n (vI_e (f := 0) hO_this (by decide +kernel)))
        refine lv_icmp_ge (tgt := 63) hx hb dX0_countGroups_24 (by decide +kernel) (fun c_624 => ?_) (fun c_624 => ?_)
        · replace hF := hF.trans (if_pos c_624)
          subst hQ
          exact W.vret hx hb hr (fun t1 ht hW => ⟨⟨(σ, I, J, ri_571, rj, rq), rfl, ⟨ri_571, rfl, hG, (hF0.symm.trans hF), hFr⟩, by rw [ht]; exact hP, va_K.moved hW.alike hK, hD⟩, hS.F ht⟩) hS.2.2 dX0_countGroups_63
        · replace hF := hF.trans (if_neg c_624)
          have h_627 : rg x_570 0 39 := rg_lt1 (nle c_624) h_621 h_622 (by decide +kernel)
          have h_628 : rg (I 0 this) 1 40 := rg_lt2 (nle c_624) h_621 h_622 (by decide +kernel)
          refine lv_lload_n hx hb dX0_countGroups_27 rfl (lv_at hl 1 rfl) ?_
          refine lv_iload_n hx hb dX0_countGroups_28 rfl (lv_at hl 2 rfl) ?_
          refine pk_i (va_runSN (As := [.long a0, .int x_570]) (rest := []) ⟨hx, hb, hml, hown, hts⟩ (s_X11_hasBit l D t σ I J ri_571 rj rq H.size tg hSH hG.1 a0 x_570) ⟨va_cnB (host := "RingsUnder") 2 hts (tw_W tw_560) rfl rfl rfl (nl_13 hN) (hts _ (tw_c tw_2)) cd_yX11_hasBit_2 ⟨Nat.le_of_ble_eq_true rfl, Nat.le_of_ble_eq_true rfl⟩, hts (.static yX11_hasBit) (tw_c tq_static_yX11_hasBit), trivial⟩ ⟨pq_blind, pq_pre hK hN hP hD⟩ rfl rfl hl.1 rfl (lv_room (Nat.le_of_ble_eq_true rfl)) dX0_countGroups_29 ⟨Nat.le_of_ble_eq_true rfl, Nat.le_of_ble_eq_true rfl⟩) hD hS hA (fun x_629 σ1 μ1 H locs hw_630 hP hD hS => ?_)
          obtain ⟨hu_631, hfn_634, hr_633⟩ := hw_630
          obtain ⟨hu_631a, hu_631b⟩ := Prod.mk.inj hu_631
          rw [hu_631a, hu_631b] at hP hD
          replace hF := hF.trans (ap_n hfn_634.symm)
          have h_636 : rg x_629 0 1 := by rcases hr_633 with ⟨q, -⟩ | ⟨q, -⟩ <;> rw [q] <;> exact ⟨by decide +kernel, by decide +kernel⟩
          have K_667 : ∀  (ri_664 : Nat → Nat → Int32) (H : Heap) (locs : List Loc) (ls : Array Slot), F = g_X0_countGroups_K57 x_570 (g_X0_countGroups_L19 a0 (vI 10 σ M I) (vJ 10 σ M J) (vL 10 σ M rj) (vQ 10 σ M rq) n_617) (vR 10 σ M ri_664) → FR 10 tg σ M (I, J, ri, rj, rq) (I, J, ri_664, rj, rq) → GX [] tg σ I ri rj I ri_664 rj rq → va_P D vwCl (pq_P t σ (I, J, ri_664, rj, rq)) H → va_D A (pq_P t σ (I, J, ri_664, rj, rq)) → va_S A s.heap H locs → lv_has ls 4 [(0, .ref this), (1, .long a0), (3, .int x_570)] → W p l e ({ frames := 1, cells := 0, slots := 0, locals := 22 } : Room) s m (List.toArray ([.ref this, .long a0] : List Value)) below meth c H locs 0 0 Q (F0 m 57 ls []) := by
            intro ri_664 H locs ls hF hFr hG hP hD hS hl
            replace hF := hF.trans g_X0_countGroups_K57_e
            obtain ⟨x_668, ex_668⟩ : ∃ y : Int32, y = x_570 + Int32.ofInt 1 := ⟨_, rfl⟩
            replace hF := hF.trans (ap_n ex_668)
            have h_669 : rg x_668 1 40 := rg_of_eq ex_668 (rg_add h_627 (rg_k (Int32.ofInt 1) 1 rfl) (by decide +kernel))
            refine lv_iinc (v := x_668) (lv' := [(3, .int x_668), (0, .ref this), (1, .long a0)]) hx hb dX0_countGroups_57 hl (k := 2) rfl ex_668.symm (by decide +kernel) rfl (fun ls hl => ?_)
            refine lv_goto (tgt := 19) hx hb dX0_countGroups_60 (by decide +kernel) ?_
            exact ih_619 x_668 ri_664 _ _ _ (rg_w h_669 (by decide +kernel)) (ms_up 1 hm_616 ex_668 rfl (by decide +kernel) h_627 (by decide +kernel) (by decide +kernel)) hF hFr hG hP hD hS (lv_sub hl [1, 2, 0] rfl)
          refine lv_if_eq (tgt := 57) hx hb dX0_countGroups_32 (by decide +kernel) (fun c_670 => ?_) (fun c_670 => ?_)
          · replace hF := hF.trans (if_pos c_670)
            have h_673 : rg x_629 0 0 := rg_and h_636 (rg_of_eq c_670 (rg_k (0 : Int32) 0 rfl)) (by decide +kernel)
            exact K_667 ri_571 _ _ _ hF hFr hG hP hD hS (lv_sub hl [0, 1, 2] rfl)
          · replace hF := hF.trans (if_neg c_670)
            have h_674 : rg x_629 1 1 := rg_ne c_670 h_636 0 rfl (by decide +kernel)
            refine lv_aload_n hx hb dX0_countGroups_35 rfl (lv_at hl 0 rfl) ?_
            refine lv_iload_n hx hb dX0_countGroups_36 rfl (lv_at hl 2 rfl) ?_
            obtain ⟨w_675, hR_w_675, hL_w_675, hK_w_675, hN_w_675, hT_w_675⟩ := sh_a hSH 5 (ci := 0) (kd := 13) (len := 40) rfl (by decide +kernel) hL_this hK_this
            have hO_w_675 : w_675 = vrow σ 5 M := vo_k (c := 0) hO_this hR_w_675
            refine pk_i (va_runV (As := [.int x_570]) (rest := []) ⟨hx, hb, hml, hown, hts⟩ (s_X0_isOnRing l D t σ I J ri_571 rj rq H.size tg hSH hG.1 this x_570 hL_this hK_this (rg_w h_627 (by decide +kernel)) w_675 hR_w_675 hL_w_675 hK_w_675 hN_w_675 hT_w_675 M hL_M hK_M hO_this) (cwV 1 hts (tw_V tw_1108 tw_1109 tw_1110 tw_45 tw_1111) rfl rfl rfl cv_yX0_isOnRing_1 ⟨Nat.le_of_ble_eq_true rfl, Nat.le_of_ble_eq_true rfl⟩) ⟨pq_blind, pq_recv hK hP hL_this hK_this (by decide +kernel) rfl, pq_pre hK hN hP hD⟩ rfl rfl hl.1 rfl (lv_room (Nat.le_of_ble_eq_true rfl)) dX0_countGroups_37 ⟨Nat.le_of_ble_eq_true rfl, Nat.le_of_ble_eq_true rfl⟩) hD hS hA (fun x_676 σ1 μ1 H locs hw_677 hP hD hS => ?_)
            obtain ⟨hu_678, hfn_681, hr_680⟩ := hw_677
            obtain ⟨hu_678a, hu_678b⟩ := Prod.mk.inj hu_678
            rw [hu_678a, hu_678b] at hP hD
            replace hF := hF.trans (bn_n hfn_681)
            have h_683 : rg x_676 0 1 := by rcases hr_680 with ⟨q, -⟩ | ⟨q, -⟩ <;> rw [q] <;> exact ⟨by decide +kernel, by decide +kernel⟩
            refine lv_if_eq (tgt := 57) hx hb dX0_countGroups_40 (by decide +kernel) (fun c_684 => ?_) (fun c_684 => ?_)
            · replace hF := hF.trans (if_pos c_684)
              have f_689 := (hr_680.resolve_left (fun q => absurd (q.1.symm.trans c_684) (by decide +kernel))).2
              have h_690 : rg x_676 0 0 := rg_and h_683 (rg_of_eq c_684 (rg_k (0 : Int32) 0 rfl)) (by decide +kernel)
              exact K_667 ri_571 _ _ _ hF hFr hG hP hD hS (lv_sub hl [0, 1, 2] rfl)
            · replace hF := hF.trans (if_neg c_684)
              have f_691 := (hr_680.resolve_right (fun q => c_684 q.1)).2
              have h_692 : rg x_676 1 1 := rg_ne c_684 h_683 0 rfl (by decide +kernel)
              refine lv_aload_n hx hb dX0_countGroups_43 rfl (lv_at hl 0 rfl) ?_
              refine pg_f (v := .ref w_1) (C := RX0) (T := TX0) (N := 16) hx hb hts (tw_i inlX0) hown hK hP hL_this hK_this (by decide +kernel) rfl 14 (by decide +kernel) (hts _ (tw_c tw_122)) (pq_hv rfl hR_w_1) dX0_countGroups_44 ?_
              refine lv_aload_n hx hb dX0_countGroups_47 rfl (lv_at hl 0 rfl) ?_
              refine lv_iload_n hx hb dX0_countGroups_48 rfl (lv_at hl 2 rfl) ?_
              refine pk_i (va_runV (As := [.int x_570]) (rest := [.ref w_1]) ⟨hx, hb, hml, hown, hts⟩ (s_X0_groupOf l D t σ I J ri_571 rj rq H.size tg hSH hG.1 this x_570 hL_this hK_this (rg_w h_627 (by decide +kernel)) w_675 hR_w_675 hL_w_675 hK_w_675 hN_w_675 hT_w_675 (rg_w f_691 (by decide +kernel)) M hL_M hK_M hO_this) (cwV 1 hts (tw_V tw_1176 tw_1177 tw_1178 tw_45 tw_1179) rfl rfl rfl cv_yX0_groupOf_1 ⟨Nat.le_of_ble_eq_true rfl, Nat.le_of_ble_eq_true rfl⟩) ⟨pq_blind, pq_recv hK hP hL_this hK_this (by decide +kernel) rfl, pq_pre hK hN hP hD⟩ rfl rfl hl.1 rfl (lv_room (Nat.le_of_ble_eq_true rfl)) dX0_countGroups_49 ⟨Nat.le_of_ble_eq_true rfl, Nat.le_of_ble_eq_true rfl⟩) hD hS hA (fun x_693 σ1 μ1 H locs hw_694 hP hD hS => ?_)
              obtain ⟨hu_695, hfn_698, hr_697⟩ := hw_694
              obtain ⟨hu_695a, hu_695b⟩ := Prod.mk.inj hu_695
              rw [hu_695a, hu_695b] at hP hD
              replace hF := hF.trans (bn_n hfn_698)
              refine lv_dup2_11 hx hb dX0_countGroups_52 rfl rfl ?_
              refine pl_i hx hb hK hP hL_w_1 hK_w_1 hN_w_1 (rg_in hr_697 (by decide +kernel)) dX0_countGroups_53 ?_
              refine lv_topi (fun x_700 ex_700 => ?_)
              replace hF := hF.trans (ap_n (vR_r hO_w_1 (by decide +kernel) ex_700))
              refine lv_iconst (v := 1) hx hb dX0_countGroups_54 (by decide +kernel) ?_
              refine lv_iadd hx hb dX0_countGroups_55 ?_
              refine lv_topi (fun x_701 ex_701 => ?_)
              replace hF := hF.trans (ap_n ex_701)
              refine pt_i hx hb hK hP hD hS hL_w_1 hK_w_1 hN_w_1 (rg_in hr_697 (by decide +kernel)) dX0_countGroups_56 (fun r_702 H locs er_702 hP hD hS => ?_)
              replace hFr := fr_R hFr hO_w_1 (by decide +kernel) er_702
              replace hF := hF.trans (ap_n (vR_st hVT hO_w_1 (by decide +kernel) er_702))
              have hG := GX.wR hG hSH hT_w_1 rfl er_702 (rg_w (rg_full _) (by decide +kernel)) (by decide +kernel)
              exact K_667 r_702 _ _ _ hF hFr hG hP hD hS (lv_sub hl [0, 1, 2] rfl)
    exact L_618 _ (0 : Int32) ri_14 _ _ _ (rg_w (rg_k (0 : Int32) 0 rfl) (by decide +kernel)) (Nat.lt_succ_self _) hF hFr hG hP hD hS (lv_sub hl [1, 2, 0] rfl)
  exact go _ _ _ hP hD hS hl
theorem dX0_takeLot_0 : decode cX0_takeLot 0 = .ok (.iconst 0, 1) := oc_3 (by decide +kernel)
theorem dX0_takeLot_1 : decode cX0_takeLot 1 = .ok (.istore_n 2, 1) := oc_61 (by decide +kernel)
theorem dX0_takeLot_2 : decode cX0_takeLot 2 = .ok (.iload_n 2, 1) := oc_28 (by decide +kernel)
theorem dX0_takeLot_3 : decode cX0_takeLot 3 = .ok (.aload_n 0, 1) := oc_42 (by decide +kernel)
theorem dX0_takeLot_4 : decode cX0_takeLot 4 = .ok (.getfield 62, 3) := oc_180 (a := 0) (b := 62) (by decide +kernel)
theorem dX0_takeLot_7 : decode cX0_takeLot 7 = .ok (.if_icmp .ge 31, 3) := oc_162 (a := 0) (b := 31) (by decide +kernel)
theorem dX0_takeLot_38 : decode cX0_takeLot 38 = .ok (.iconst (-1), 1) := oc_2 (by decide +kernel)
theorem dX0_takeLot_39 : decode cX0_takeLot 39 = .ok (.ireturn, 1) := oc_172 (by decide +kernel)
theorem dX0_takeLot_10 : decode cX0_takeLot 10 = .ok (.aload_n 0, 1) := oc_42 (by decide +kernel)
theorem tw_121 : Cond.fieldLink RX0 45 "RingsUnder$Folk" "free" "[I" ∈ wsL_law := sg_6 _ (List.mem_of_getElem? (i := 1) rfl)
theorem dX0_takeLot_11 : decode cX0_takeLot 11 = .ok (.getfield 45, 3) := oc_180 (a := 0) (b := 45) (by decide +kernel)
theorem dX0_takeLot_14 : decode cX0_takeLot 14 = .ok (.iload_n 2, 1) := oc_28 (by decide +kernel)
theorem dX0_takeLot_15 : decode cX0_takeLot 15 = .ok (.iaload, 1) := oc_46 (by decide +kernel)
theorem dX0_takeLot_16 : decode cX0_takeLot 16 = .ok (.iload_n 1, 1) := oc_27 (by decide +kernel)
theorem dX0_takeLot_17 : decode cX0_takeLot 17 = .ok (.if_icmp .lt 15, 3) := oc_161 (a := 0) (b := 15) (by decide +kernel)
theorem dX0_takeLot_32 : decode cX0_takeLot 32 = .ok (.iinc 2 1, 3) := oc_132 (b := 1) (by decide +kernel)
theorem dX0_takeLot_35 : decode cX0_takeLot 35 = .ok (.goto (-33), 3) := oc_167 (a := 255) (b := 223) (by decide +kernel)
theorem dX0_takeLot_20 : decode cX0_takeLot 20 = .ok (.aload_n 0, 1) := oc_42 (by decide +kernel)
theorem dX0_takeLot_21 : decode cX0_takeLot 21 = .ok (.getfield 45, 3) := oc_180 (a := 0) (b := 45) (by decide +kernel)
theorem dX0_takeLot_24 : decode cX0_takeLot 24 = .ok (.iload_n 2, 1) := oc_28 (by decide +kernel)
theorem dX0_takeLot_25 : decode cX0_takeLot 25 = .ok (.dup2, 1) := oc_92 (by decide +kernel)
theorem dX0_takeLot_26 : decode cX0_takeLot 26 = .ok (.iaload, 1) := oc_46 (by decide +kernel)
theorem dX0_takeLot_27 : decode cX0_takeLot 27 = .ok (.iload_n 1, 1) := oc_27 (by decide +kernel)
theorem dX0_takeLot_28 : decode cX0_takeLot 28 = .ok (.isub, 1) := oc_100 (by decide +kernel)
theorem dX0_takeLot_29 : decode cX0_takeLot 29 = .ok (.iastore, 1) := oc_79 (by decide +kernel)
theorem dX0_takeLot_30 : decode cX0_takeLot 30 = .ok (.iload_n 2, 1) := oc_28 (by decide +kernel)
theorem dX0_takeLot_31 : decode cX0_takeLot 31 = .ok (.ireturn, 1) := oc_172 (by decide +kernel)
theorem dX1_copyFrom_0 : decode cX1_copyFrom 0 = .ok (.aload_n 0, 1) := oc_42 (by decide +kernel)
theorem dX1_copyFrom_1 : decode cX1_copyFrom 1 = .ok (.aload_n 1, 1) := oc_43 (by decide +kernel)
theorem tw_1393 : Cond.fieldLink RX1 19 "RingsUnder$Graves" "count" "I" ∈ wsL_law := sg_59 _ (List.mem_of_getElem? (i := 1) rfl)
theorem dX1_copyFrom_2 : decode cX1_copyFrom 2 = .ok (.getfield 19, 3) := oc_180 (a := 0) (b := 19) (by decide +kernel)
theorem dX1_copyFrom_5 : decode cX1_copyFrom 5 = .ok (.putfield 19, 3) := oc_181 (a := 0) (b := 19) (by decide +kernel)
theorem dX1_copyFrom_8 : decode cX1_copyFrom 8 = .ok (.aload_n 1, 1) := oc_43 (by decide +kernel)
theorem tw_137 : Cond.fieldLink RX1 9 "RingsUnder$Graves" "cell" "[I" ∈ wsL_law := sg_6 _ (List.mem_of_getElem? (i := 17) rfl)
theorem dX1_copyFrom_9 : decode cX1_copyFrom 9 = .ok (.getfield 9, 3) := oc_180 (a := 0) (b := 9) (by decide +kernel)
theorem dX1_copyFrom_12 : decode cX1_copyFrom 12 = .ok (.aload_n 0, 1) := oc_42 (by decide +kernel)
theorem dX1_copyFrom_13 : decode cX1_copyFrom 13 = .ok (.getfield 9, 3) := oc_180 (a := 0) (b := 9) (by decide +kernel)
theorem dX1_copyFrom_16 : decode cX1_copyFrom 16 = .ok (.invokestatic 23, 3) := oc_184 (a := 0) (b := 23) (by decide +kernel)
theorem dX1_copyFrom_19 : decode cX1_copyFrom 19 = .ok (.aload_n 1, 1) := oc_43 (by decide +kernel)
theorem tw_138 : Cond.fieldLink RX1 15 "RingsUnder$Graves" "lay" "[J" ∈ wsL_law := sg_6 _ (List.mem_of_getElem? (i := 18) rfl)
theorem dX1_copyFrom_20 : decode cX1_copyFrom 20 = .ok (.getfield 15, 3) := oc_180 (a := 0) (b := 15) (by decide +kernel)
theorem dX1_copyFrom_23 : decode cX1_copyFrom 23 = .ok (.iconst 0, 1) := oc_3 (by decide +kernel)
theorem dX1_copyFrom_24 : decode cX1_copyFrom 24 = .ok (.aload_n 0, 1) := oc_42 (by decide +kernel)
theorem dX1_copyFrom_25 : decode cX1_copyFrom 25 = .ok (.getfield 15, 3) := oc_180 (a := 0) (b := 15) (by decide +kernel)
theorem dX1_copyFrom_28 : decode cX1_copyFrom 28 = .ok (.iconst 0, 1) := oc_3 (by decide +kernel)
theorem dX1_copyFrom_29 : decode cX1_copyFrom 29 = .ok (.bipush 30, 2) := oc_16 (a := 30) (by decide +kernel)
theorem tw_1394 : Cond.methodLink RX1 27 arraycopyName ∈ wsL_law := sg_59 _ (List.mem_of_getElem? (i := 2) rfl)
theorem dX1_copyFrom_31 : decode cX1_copyFrom 31 = .ok (.invokestatic 27, 3) := oc_184 (a := 0) (b := 27) (by decide +kernel)
theorem dX1_copyFrom_34 : decode cX1_copyFrom 34 = .ok (.return_, 1) := oc_177 (by decide +kernel)
theorem dX1_dig_0 : decode cX1_dig 0 = .ok (.aload_n 0, 1) := oc_42 (by decide +kernel)
theorem dX1_dig_1 : decode cX1_dig 1 = .ok (.getfield 19, 3) := oc_180 (a := 0) (b := 19) (by decide +kernel)
theorem dX1_dig_4 : decode cX1_dig 4 = .ok (.bipush 30, 2) := oc_16 (a := 30) (by decide +kernel)
theorem dX1_dig_6 : decode cX1_dig 6 = .ok (.if_icmp .lt 5, 3) := oc_161 (a := 0) (b := 5) (by decide +kernel)
theorem dX1_dig_11 : decode cX1_dig 11 = .ok (.aload_n 0, 1) := oc_42 (by decide +kernel)
theorem dX1_dig_12 : decode cX1_dig 12 = .ok (.getfield 9, 3) := oc_180 (a := 0) (b := 9) (by decide +kernel)
theorem dX1_dig_15 : decode cX1_dig 15 = .ok (.aload_n 0, 1) := oc_42 (by decide +kernel)
theorem dX1_dig_16 : decode cX1_dig 16 = .ok (.getfield 19, 3) := oc_180 (a := 0) (b := 19) (by decide +kernel)
theorem dX1_dig_19 : decode cX1_dig 19 = .ok (.iload_n 1, 1) := oc_27 (by decide +kernel)
theorem dX1_dig_20 : decode cX1_dig 20 = .ok (.iastore, 1) := oc_79 (by decide +kernel)
theorem dX1_dig_21 : decode cX1_dig 21 = .ok (.aload_n 0, 1) := oc_42 (by decide +kernel)
theorem dX1_dig_22 : decode cX1_dig 22 = .ok (.getfield 15, 3) := oc_180 (a := 0) (b := 15) (by decide +kernel)
theorem dX1_dig_25 : decode cX1_dig 25 = .ok (.aload_n 0, 1) := oc_42 (by decide +kernel)
theorem dX1_dig_26 : decode cX1_dig 26 = .ok (.getfield 19, 3) := oc_180 (a := 0) (b := 19) (by decide +kernel)
theorem dX1_dig_29 : decode cX1_dig 29 = .ok (.lconst 1, 1) := oc_10 (by decide +kernel)
theorem dX1_dig_30 : decode cX1_dig 30 = .ok (.iload_n 1, 1) := oc_27 (by decide +kernel)
theorem dX1_dig_31 : decode cX1_dig 31 = .ok (.lshl, 1) := oc_121 (by decide +kernel)
theorem dX1_dig_32 : decode cX1_dig 32 = .ok (.lastore, 1) := oc_80 (by decide +kernel)
theorem dX1_dig_33 : decode cX1_dig 33 = .ok (.aload_n 0, 1) := oc_42 (by decide +kernel)
theorem dX1_dig_34 : decode cX1_dig 34 = .ok (.dup, 1) := oc_89 (by decide +kernel)
theorem dX1_dig_35 : decode cX1_dig 35 = .ok (.getfield 19, 3) := oc_180 (a := 0) (b := 19) (by decide +kernel)
theorem dX1_dig_38 : decode cX1_dig 38 = .ok (.iconst 1, 1) := oc_4 (by decide +kernel)
theorem dX1_dig_39 : decode cX1_dig 39 = .ok (.iadd, 1) := oc_96 (by decide +kernel)
theorem dX1_dig_40 : decode cX1_dig 40 = .ok (.putfield 19, 3) := oc_181 (a := 0) (b := 19) (by decide +kernel)
theorem dX1_dig_43 : decode cX1_dig 43 = .ok (.aload_n 0, 1) := oc_42 (by decide +kernel)
theorem dX1_dig_44 : decode cX1_dig 44 = .ok (.getfield 19, 3) := oc_180 (a := 0) (b := 19) (by decide +kernel)
theorem dX1_dig_47 : decode cX1_dig 47 = .ok (.iconst 1, 1) := oc_4 (by decide +kernel)
theorem dX1_dig_48 : decode cX1_dig 48 = .ok (.isub, 1) := oc_100 (by decide +kernel)
theorem dX1_dig_49 : decode cX1_dig 49 = .ok (.ireturn, 1) := oc_172 (by decide +kernel)
theorem dX1_dig_9 : decode cX1_dig 9 = .ok (.iconst (-1), 1) := oc_2 (by decide +kernel)
theorem dX1_dig_10 : decode cX1_dig 10 = .ok (.ireturn, 1) := oc_172 (by decide +kernel)
theorem dX1_carry_0 : decode cX1_carry 0 = .ok (.aload_n 0, 1) := oc_42 (by decide +kernel)
theorem dX1_carry_1 : decode cX1_carry 1 = .ok (.getfield 9, 3) := oc_180 (a := 0) (b := 9) (by decide +kernel)
theorem dX1_carry_4 : decode cX1_carry 4 = .ok (.iload_n 1, 1) := oc_27 (by decide +kernel)
theorem dX1_carry_5 : decode cX1_carry 5 = .ok (.iaload, 1) := oc_46 (by decide +kernel)
theorem dX1_carry_6 : decode cX1_carry 6 = .ok (.iload_n 2, 1) := oc_28 (by decide +kernel)
theorem dX1_carry_7 : decode cX1_carry 7 = .ok (.if_icmp .ne 5, 3) := oc_160 (a := 0) (b := 5) (by decide +kernel)
theorem dX1_carry_12 : decode cX1_carry 12 = .ok (.aload_n 0, 1) := oc_42 (by decide +kernel)
theorem dX1_carry_13 : decode cX1_carry 13 = .ok (.getfield 9, 3) := oc_180 (a := 0) (b := 9) (by decide +kernel)
theorem dX1_carry_16 : decode cX1_carry 16 = .ok (.iload_n 1, 1) := oc_27 (by decide +kernel)
theorem dX1_carry_17 : decode cX1_carry 17 = .ok (.iload_n 2, 1) := oc_28 (by decide +kernel)
theorem dX1_carry_18 : decode cX1_carry 18 = .ok (.iastore, 1) := oc_79 (by decide +kernel)
theorem dX1_carry_19 : decode cX1_carry 19 = .ok (.aload_n 0, 1) := oc_42 (by decide +kernel)
theorem dX1_carry_20 : decode cX1_carry 20 = .ok (.getfield 15, 3) := oc_180 (a := 0) (b := 15) (by decide +kernel)
theorem dX1_carry_23 : decode cX1_carry 23 = .ok (.iload_n 1, 1) := oc_27 (by decide +kernel)
theorem dX1_carry_24 : decode cX1_carry 24 = .ok (.dup2, 1) := oc_92 (by decide +kernel)
theorem dX1_carry_25 : decode cX1_carry 25 = .ok (.laload, 1) := oc_47 (by decide +kernel)
theorem dX1_carry_26 : decode cX1_carry 26 = .ok (.lconst 1, 1) := oc_10 (by decide +kernel)
theorem dX1_carry_27 : decode cX1_carry 27 = .ok (.iload_n 2, 1) := oc_28 (by decide +kernel)
theorem dX1_carry_28 : decode cX1_carry 28 = .ok (.lshl, 1) := oc_121 (by decide +kernel)
theorem dX1_carry_29 : decode cX1_carry 29 = .ok (.lor, 1) := oc_129 (by decide +kernel)
theorem dX1_carry_30 : decode cX1_carry 30 = .ok (.lastore, 1) := oc_80 (by decide +kernel)
theorem dX1_carry_31 : decode cX1_carry 31 = .ok (.iconst 1, 1) := oc_4 (by decide +kernel)
theorem dX1_carry_32 : decode cX1_carry 32 = .ok (.ireturn, 1) := oc_172 (by decide +kernel)
theorem dX1_carry_10 : decode cX1_carry 10 = .ok (.iconst 0, 1) := oc_3 (by decide +kernel)
theorem dX1_carry_11 : decode cX1_carry 11 = .ok (.ireturn, 1) := oc_172 (by decide +kernel)
theorem dX1_whereNow_0 : decode cX1_whereNow 0 = .ok (.iconst 0, 1) := oc_3 (by decide +kernel)
theorem dX1_whereNow_1 : decode cX1_whereNow 1 = .ok (.istore_n 3, 1) := oc_62 (by decide +kernel)
theorem dX1_whereNow_2 : decode cX1_whereNow 2 = .ok (.iconst 0, 1) := oc_3 (by decide +kernel)
theorem dX1_whereNow_3 : decode cX1_whereNow 3 = .ok (.istore 4, 2) := oc_54 (by decide +kernel)
theorem dX1_whereNow_5 : decode cX1_whereNow 5 = .ok (.iload 4, 2) := oc_21 (by decide +kernel)
theorem dX1_whereNow_7 : decode cX1_whereNow 7 = .ok (.aload_n 0, 1) := oc_42 (by decide +kernel)
theorem dX1_whereNow_8 : decode cX1_whereNow 8 = .ok (.getfield 19, 3) := oc_180 (a := 0) (b := 19) (by decide +kernel)
theorem dX1_whereNow_11 : decode cX1_whereNow 11 = .ok (.if_icmp .ge 39, 3) := oc_162 (a := 0) (b := 39) (by decide +kernel)
theorem dX1_whereNow_50 : decode cX1_whereNow 50 = .ok (.iconst (-1), 1) := oc_2 (by decide +kernel)
theorem dX1_whereNow_51 : decode cX1_whereNow 51 = .ok (.ireturn, 1) := oc_172 (by decide +kernel)
theorem dX1_whereNow_14 : decode cX1_whereNow 14 = .ok (.aload_n 0, 1) := oc_42 (by decide +kernel)
theorem dX1_whereNow_15 : decode cX1_whereNow 15 = .ok (.getfield 15, 3) := oc_180 (a := 0) (b := 15) (by decide +kernel)
theorem dX1_whereNow_18 : decode cX1_whereNow 18 = .ok (.iload 4, 2) := oc_21 (by decide +kernel)
theorem dX1_whereNow_20 : decode cX1_whereNow 20 = .ok (.laload, 1) := oc_47 (by decide +kernel)
theorem dX1_whereNow_21 : decode cX1_whereNow 21 = .ok (.iload_n 1, 1) := oc_27 (by decide +kernel)
theorem dX1_whereNow_22 : decode cX1_whereNow 22 = .ok (.invokestatic 33, 3) := oc_184 (a := 0) (b := 33) (by decide +kernel)
theorem dX1_whereNow_44 : decode cX1_whereNow 44 = .ok (.iinc 4 1, 3) := oc_132 (b := 1) (by decide +kernel)
theorem dX1_whereNow_47 : decode cX1_whereNow 47 = .ok (.goto (-42), 3) := oc_167 (a := 255) (b := 214) (by decide +kernel)
theorem dX1_whereNow_25 : decode cX1_whereNow 25 = .ok (.ifCond .eq 19, 3) := oc_153 (a := 0) (b := 19) (by decide +kernel)
theorem dX1_whereNow_28 : decode cX1_whereNow 28 = .ok (.iload_n 3, 1) := oc_29 (by decide +kernel)
theorem dX1_whereNow_29 : decode cX1_whereNow 29 = .ok (.iload_n 2, 1) := oc_28 (by decide +kernel)
theorem dX1_whereNow_30 : decode cX1_whereNow 30 = .ok (.if_icmp .ne 11, 3) := oc_160 (a := 0) (b := 11) (by decide +kernel)
theorem dX1_whereNow_41 : decode cX1_whereNow 41 = .ok (.iinc 3 1, 3) := oc_132 (b := 1) (by decide +kernel)
theorem dX1_whereNow_33 : decode cX1_whereNow 33 = .ok (.aload_n 0, 1) := oc_42 (by decide +kernel)
theorem dX1_whereNow_34 : decode cX1_whereNow 34 = .ok (.getfield 9, 3) := oc_180 (a := 0) (b := 9) (by decide +kernel)
theorem dX1_whereNow_37 : decode cX1_whereNow 37 = .ok (.iload 4, 2) := oc_21 (by decide +kernel)
theorem dX1_whereNow_39 : decode cX1_whereNow 39 = .ok (.iaload, 1) := oc_46 (by decide +kernel)
theorem dX1_whereNow_40 : decode cX1_whereNow 40 = .ok (.ireturn, 1) := oc_172 (by decide +kernel)
theorem dX9_copyFrom_0 : decode cX9_copyFrom 0 = .ok (.aload_n 1, 1) := oc_43 (by decide +kernel)
theorem dX9_copyFrom_1 : decode cX9_copyFrom 1 = .ok (.getfield 9, 3) := oc_180 (a := 0) (b := 9) (by decide +kernel)
theorem dX9_copyFrom_4 : decode cX9_copyFrom 4 = .ok (.aload_n 0, 1) := oc_42 (by decide +kernel)
theorem dX9_copyFrom_5 : decode cX9_copyFrom 5 = .ok (.getfield 9, 3) := oc_180 (a := 0) (b := 9) (by decide +kernel)
theorem dX9_copyFrom_8 : decode cX9_copyFrom 8 = .ok (.invokestatic 21, 3) := oc_184 (a := 0) (b := 21) (by decide +kernel)
theorem dX9_copyFrom_11 : decode cX9_copyFrom 11 = .ok (.aload_n 1, 1) := oc_43 (by decide +kernel)
theorem dX9_copyFrom_12 : decode cX9_copyFrom 12 = .ok (.getfield 15, 3) := oc_180 (a := 0) (b := 15) (by decide +kernel)
theorem dX9_copyFrom_15 : decode cX9_copyFrom 15 = .ok (.aload_n 0, 1) := oc_42 (by decide +kernel)
theorem dX9_copyFrom_16 : decode cX9_copyFrom 16 = .ok (.getfield 15, 3) := oc_180 (a := 0) (b := 15) (by decide +kernel)
theorem dX9_copyFrom_19 : decode cX9_copyFrom 19 = .ok (.invokestatic 21, 3) := oc_184 (a := 0) (b := 21) (by decide +kernel)
theorem dX9_copyFrom_22 : decode cX9_copyFrom 22 = .ok (.aload_n 1, 1) := oc_43 (by decide +kernel)
theorem dX9_copyFrom_23 : decode cX9_copyFrom 23 = .ok (.getfield 18, 3) := oc_180 (a := 0) (b := 18) (by decide +kernel)
theorem dX9_copyFrom_26 : decode cX9_copyFrom 26 = .ok (.aload_n 0, 1) := oc_42 (by decide +kernel)
theorem dX9_copyFrom_27 : decode cX9_copyFrom 27 = .ok (.getfield 18, 3) := oc_180 (a := 0) (b := 18) (by decide +kernel)
theorem dX9_copyFrom_30 : decode cX9_copyFrom 30 = .ok (.invokestatic 21, 3) := oc_184 (a := 0) (b := 21) (by decide +kernel)
theorem dX9_copyFrom_33 : decode cX9_copyFrom 33 = .ok (.return_, 1) := oc_177 (by decide +kernel)
set_option maxRecDepth 100000 in
def g_X0_takeLot_L2 (a0 : Int32) (I : Nat → Int32) (J : Nat → Int64) (ri : Nat → Nat → Int32) (rj : Nat → Nat → Int64) (rq : Nat → Nat → Option Nat) : Nat → (Int32) → Int32 × vM
  | 0, x_95 => ((0 : Int32), I, J, ri, rj, rq)
  | n_112 + 1, x_95 => (ap1 (I 10) fun (y_118 : Int32) => (if (y_118) ≤ x_95 then ((-1 : Int32), I, J, ri, rj, rq) else (ap1 (ri 13 (x_95).toNatClampNeg) fun (x_125 : Int32) => (if x_125 < a0 then (ap1 (x_95 + Int32.ofInt 1) fun (x_131 : Int32) => ((g_X0_takeLot_L2 a0 I J ri rj rq n_112) x_131)) else (ap1 (x_125 - a0) fun (x_133 : Int32) => (ap1 (va_up ri 13 (upd (ri 13) (x_95).toNatClampNeg x_133)) fun (r_134 : Nat → Nat → Int32) => (x_95, I, J, r_134, rj, rq)))))))
set_option maxRecDepth 100000 in
theorem g_X0_takeLot_L2_e {a0 : Int32} {I : Nat → Int32} {J : Nat → Int64} {ri : Nat → Nat → Int32} {rj : Nat → Nat → Int64} {rq : Nat → Nat → Option Nat} {n_112 : Nat} {x_95 : Int32} : g_X0_takeLot_L2 a0 I J ri rj rq (n_112 + 1) x_95 = (ap1 (I 10) fun (y_118 : Int32) => (if (y_118) ≤ x_95 then ((-1 : Int32), I, J, ri, rj, rq) else (ap1 (ri 13 (x_95).toNatClampNeg) fun (x_125 : Int32) => (if x_125 < a0 then (ap1 (x_95 + Int32.ofInt 1) fun (x_131 : Int32) => ((g_X0_takeLot_L2 a0 I J ri rj rq n_112) x_131)) else (ap1 (x_125 - a0) fun (x_133 : Int32) => (ap1 (va_up ri 13 (upd (ri 13) (x_95).toNatClampNeg x_133)) fun (r_134 : Nat → Nat → Int32) => (x_95, I, J, r_134, rj, rq))))))) := rfl
set_option maxRecDepth 100000 in
def g_X0_takeLot (a0 : Int32) (I : Nat → Int32) (J : Nat → Int64) (ri : Nat → Nat → Int32) (rj : Nat → Nat → Int64) (rq : Nat → Nat → Option Nat) : Int32 × vM := (g_X0_takeLot_L2 a0 I J ri rj rq ((5 - ((0 : Int32)).toInt).toNat + 1) (0 : Int32))
set_option maxRecDepth 100000 in
theorem g_X0_takeLot_e {a0 : Int32} {I : Nat → Int32} {J : Nat → Int64} {ri : Nat → Nat → Int32} {rj : Nat → Nat → Int64} {rq : Nat → Nat → Option Nat} : g_X0_takeLot a0 I J ri rj rq = (g_X0_takeLot_L2 a0 I J ri rj rq ((5 - ((0 : Int32)).toInt).toNat + 1) (0 : Int32)) := rfl
set_option maxHeartbeats 4000000 in
set_option maxRecDepth 100000 in
theorem s_X0_takeLot (l : Launch) (D : va_G) (t : pq_T) (σ : pq_S) (I : Nat → Nat → Int32) (J : Nat → Nat → Int64) (ri : Nat → Nat → Int32) (rj : Nat → Nat → Int64) (rq : Nat → Nat → Option Nat) (sz : Nat) (tg : Nat → Nat) (hSH : SH σ tg) (hG0 : GS tg σ I ri rq) (this : Nat) (a0 : Int32) (hL_this : this ∈ σ.1) (hK_this : σ.2.1 this = 0) (M : Nat) (hL_M : M ∈ σ.1) (hK_M : σ.2.1 M = 10) (hO_this : this = vo σ 0 M) : MetI l yX0_takeLot (wa yX0_takeLot cX0_takeLot 3 (some .int)) ({ frames := 0, cells := 0, slots := 0, locals := 0 }) [.ref this, .int a0] D t σ (I, J, ri, rj, rq) sz 0 0 (fun (r : Int32) (u : pq_S × pq_M) => ∃ ri' : Nat → Nat → Int32, u = (σ, I, J, ri', rj, rq) ∧ GX [] tg σ I ri rj I ri' rj rq ∧ g_X0_takeLot a0 (vI 10 σ M I) (vJ 10 σ M J) (vR 10 σ M ri) (vL 10 σ M rj) (vQ 10 σ M rq) = (r, (vI 10 σ M I), (vJ 10 σ M J), (vR 10 σ M ri'), (vL 10 σ M rj), (vQ 10 σ M rq)) ∧ FR 10 tg σ M (I, J, ri, rj, rq) (I, J, ri', rj, rq) ∧ rg r (-1) 4) := by
  refine Met.ofW (cc := cX0_takeLot) (maxL := 3) (ret := (some .int)) (by decide +kernel) rfl ?_
  intro p e s m args below meth c s₁ B hml hv
  obtain ⟨rfl, hsz, hP, hK, hD0, hN⟩ := hv
  have hx := B.exec
  have hb := B.bytes
  have hr := B.returns
  have hts := atoms_spec (ws := (wa yX0_takeLot cX0_takeLot 3 (some .int))) B.pre
  have hown : s.vm.findClass RX0 = some m.cls := findClass_of_methodNamed B.named
  have hlocks := B.notSynchronized
  subst hsz
  have hD : va_D (pq_B t σ (I, J, ri, rj, rq) s.heap.size) (pq_P t σ (I, J, ri, rj, rq)) := hD0.self
  generalize hAe : pq_B t σ (I, J, ri, rj, rq) s.heap.size = A at hD ⊢
  have hA : ∀ q : Nat, s.heap.size ≤ q → A q := fun q h => by rw [← hAe]; exact Or.inr h
  have hS : va_S A s.heap s.heap [] := va_S.rf
  have hG : GX [] tg σ I ri rj I ri rj rq := ⟨hG0, fun _ _ _ => rfl, fun _ _ _ _ _ => rfl, fun _ _ _ _ _ => rfl⟩
  have hl := lv_entry ([.ref this, .int a0]) (n := 3) (Nat.le_of_ble_eq_true rfl)
  rw [lg_entry_eq]
  generalize (lg_sl ([.ref this, .int a0]) ++ List.replicate (3 - (lg_sl ([.ref this, .int a0])).length) Slot.unset).toArray = ls at hl ⊢
  have hl : lv_has ls 3 [(0, .ref this), (1, .int a0)] := hl
  refine q_gen (fun Q hQ => ?_)
  have go : ∀ (H : Heap) (locs : List Loc) (ls : Array Slot), va_P D vwCl (pq_P t σ (I, J, ri, rj, rq)) H → va_D A (pq_P t σ (I, J, ri, rj, rq)) → va_S A s.heap H locs → lv_has ls 3 [(0, .ref this), (1, .int a0)] → W p l e ({ frames := 0, cells := 0, slots := 0, locals := 0 } : Room) s m (List.toArray ([.ref this, .int a0] : List Value)) below meth c H locs 0 0 Q (F0 m 0 ls []) := by
    intro H locs ls hP hD hS hl
    have hVT : VT 10 σ tg M := vt_10 hSH hL_M hK_M
    have hFr : FR 10 tg σ M (I, J, ri, rj, rq) (I, J, ri, rj, rq) := fr_rf
    obtain ⟨F, hF0⟩ : ∃ F, F = g_X0_takeLot a0 (vI 10 σ M I) (vJ 10 σ M J) (vR 10 σ M ri) (vL 10 σ M rj) (vQ 10 σ M rq) := ⟨_, rfl⟩
    have hF := hF0.trans g_X0_takeLot_e
    refine lv_iconst (v := 0) hx hb dX0_takeLot_0 (by decide +kernel) ?_
    refine lv_istore_n (lv' := [(2, .int 0), (0, .ref this), (1, .int a0)]) hx hb dX0_takeLot_1 rfl hl (by decide +kernel) rfl (fun ls hl => ?_)
    have L_113 : ∀ (n_112 : Nat) (x_95 : Int32) (H : Heap) (locs : List Loc) (ls : Array Slot), rg x_95 0 5 → (5 - (x_95).toInt).toNat < n_112 → F = g_X0_takeLot_L2 a0 (vI 10 σ M I) (vJ 10 σ M J) (vR 10 σ M ri) (vL 10 σ M rj) (vQ 10 σ M rq) n_112 x_95 → FR 10 tg σ M (I, J, ri, rj, rq) (I, J, ri, rj, rq) → GX [] tg σ I ri rj I ri rj rq → va_P D vwCl (pq_P t σ (I, J, ri, rj, rq)) H → va_D A (pq_P t σ (I, J, ri, rj, rq)) → va_S A s.heap H locs → lv_has ls 3 [(0, .ref this), (1, .int a0), (2, .int x_95)] → W p l e ({ frames := 0, cells := 0, slots := 0, locals := 0 } : Room) s m (List.toArray ([.ref this, .int a0] : List Value)) below meth c H locs 0 0 Q (F0 m 2 ls []) := by
      intro n_112
      induction n_112 with
      | zero => intro x_95 H locs ls h_116 hm_111 hF hFr hG hP hD hS hl; exact absurd hm_111 (Nat.not_lt_zero _)
      | succ n_112 ih_114 =>
        intro x_95 H locs ls h_116 hm_111 hF hFr hG hP hD hS hl
        replace hF := hF.trans g_X0_takeLot_L2_e
        refine lv_iload_n hx hb dX0_takeLot_2 rfl (lv_at hl 2 rfl) ?_
        refine lv_aload_n hx hb dX0_takeLot_3 rfl (lv_at hl 0 rfl) ?_
        refine pg_f (v := .int (I 10 this)) (C := RX0) (T := TX0) (N := 16) hx hb hts (tw_i inlX0) hown hK hP hL_this hK_this (by decide +kernel) rfl 10 (by decide +kernel) (hts _ (tw_c tw_1171)) rfl dX0_takeLot_4 ?_
        have h_117 : rg (I 10 this) 0 5 := GX.rI hG 10 rfl
        replace hF := hF.trans (ap_n (vI_e (f := 10) hO_this (by decide +kernel)))
        refine lv_icmp_ge (tgt := 38) hx hb dX0_takeLot_7 (by decide +kernel) (fun c_119 => ?_) (fun c_119 => ?_)
        · replace hF := hF.trans (if_pos c_119)
          refine lv_iconst (v := (-1)) hx hb dX0_takeLot_38 (by decide +kernel) ?_
          subst hQ
          exact W.iret (v := (-1)) hx hb hr (fun t1 ht hW => ⟨⟨(-1), (σ, I, J, ri, rj, rq), rfl, ⟨ri, rfl, hG, (hF0.symm.trans hF), hFr, (rg_w (rg_k (-1 : Int32) (-1) rfl) (by decide +kernel))⟩, by rw [ht]; exact hP, va_K.moved hW.alike hK, hD⟩, hS.F ht⟩) hS.2.2 dX0_takeLot_39
        · replace hF := hF.trans (if_neg c_119)
          have h_122 : rg x_95 0 4 := rg_lt1 (nle c_119) h_116 h_117 (by decide +kernel)
          have h_123 : rg (I 10 this) 1 5 := rg_lt2 (nle c_119) h_116 h_117 (by decide +kernel)
          refine lv_aload_n hx hb dX0_takeLot_10 rfl (lv_at hl 0 rfl) ?_
          obtain ⟨w_124, hR_w_124, hL_w_124, hK_w_124, hN_w_124, hT_w_124⟩ := sh_a hSH 13 (ci := 0) (kd := 13) (len := 5) rfl (by decide +kernel) hL_this hK_this
          have hO_w_124 : w_124 = vrow σ 13 M := vo_k (c := 0) hO_this hR_w_124
          refine pg_f (v := .ref w_124) (C := RX0) (T := TX0) (N := 16) hx hb hts (tw_i inlX0) hown hK hP hL_this hK_this (by decide +kernel) rfl 13 (by decide +kernel) (hts _ (tw_c tw_121)) (pq_hv rfl hR_w_124) dX0_takeLot_11 ?_
          refine lv_iload_n hx hb dX0_takeLot_14 rfl (lv_at hl 2 rfl) ?_
          refine pl_i hx hb hK hP hL_w_124 hK_w_124 hN_w_124 (rg_in h_122 (by decide +kernel)) dX0_takeLot_15 ?_
          refine lv_topi (fun x_125 ex_125 => ?_)
          replace hF := hF.trans (ap_n (vR_r hO_w_124 (by decide +kernel) ex_125))
          refine lv_iload_n hx hb dX0_takeLot_16 rfl (lv_at hl 1 rfl) ?_
          refine lv_icmp_lt (tgt := 32) hx hb dX0_takeLot_17 (by decide +kernel) (fun c_126 => ?_) (fun c_126 => ?_)
          · replace hF := hF.trans (if_pos c_126)
            have h_129 : rg x_125 (-2147483648) 2147483646 := rg_lt1 c_126 (rg_full _) (rg_full _) (by decide +kernel)
            have h_130 : rg a0 (-2147483647) 2147483647 := rg_lt2 c_126 (rg_full _) (rg_full _) (by decide +kernel)
            obtain ⟨x_131, ex_131⟩ : ∃ y : Int32, y = x_95 + Int32.ofInt 1 := ⟨_, rfl⟩
            replace hF := hF.trans (ap_n ex_131)
            have h_132 : rg x_131 1 5 := rg_of_eq ex_131 (rg_add h_122 (rg_k (Int32.ofInt 1) 1 rfl) (by decide +kernel))
            refine lv_iinc (v := x_131) (lv' := [(2, .int x_131), (0, .ref this), (1, .int a0)]) hx hb dX0_takeLot_32 hl (k := 2) rfl ex_131.symm (by decide +kernel) rfl (fun ls hl => ?_)
            refine lv_goto (tgt := 2) hx hb dX0_takeLot_35 (by decide +kernel) ?_
            exact ih_114 x_131 _ _ _ (rg_w h_132 (by decide +kernel)) (ms_up 1 hm_111 ex_131 rfl (by decide +kernel) h_122 (by decide +kernel) (by decide +kernel)) hF hFr hG hP hD hS (lv_sub hl [1, 2, 0] rfl)
          · replace hF := hF.trans (if_neg c_126)
            refine lv_aload_n hx hb dX0_takeLot_20 rfl (lv_at hl 0 rfl) ?_
            refine pg_f (v := .ref w_124) (C := RX0) (T := TX0) (N := 16) hx hb hts (tw_i inlX0) hown hK hP hL_this hK_this (by decide +kernel) rfl 13 (by decide +kernel) (hts _ (tw_c tw_121)) (pq_hv rfl hR_w_124) dX0_takeLot_21 ?_
            refine lv_iload_n hx hb dX0_takeLot_24 rfl (lv_at hl 2 rfl) ?_
            refine lv_dup2_11 hx hb dX0_takeLot_25 rfl rfl ?_
            refine pl_i hx hb hK hP hL_w_124 hK_w_124 hN_w_124 (rg_in h_122 (by decide +kernel)) dX0_takeLot_26 ?_
            refine lv_tov x_125 ex_125.symm ?_
            refine lv_iload_n hx hb dX0_takeLot_27 rfl (lv_at hl 1 rfl) ?_
            refine lv_isub hx hb dX0_takeLot_28 ?_
            refine lv_topi (fun x_133 ex_133 => ?_)
            replace hF := hF.trans (ap_n ex_133)
            refine pt_i hx hb hK hP hD hS hL_w_124 hK_w_124 hN_w_124 (rg_in h_122 (by decide +kernel)) dX0_takeLot_29 (fun r_134 H locs er_134 hP hD hS => ?_)
            replace hFr := fr_R hFr hO_w_124 (by decide +kernel) er_134
            replace hF := hF.trans (ap_n (vR_st hVT hO_w_124 (by decide +kernel) er_134))
            have hG := GX.wR hG hSH hT_w_124 rfl er_134 (rg_w (rg_full _) (by decide +kernel)) (by decide +kernel)
            refine lv_iload_n hx hb dX0_takeLot_30 rfl (lv_at hl 2 rfl) ?_
            subst hQ
            exact W.iret (v := x_95) hx hb hr (fun t1 ht hW => ⟨⟨x_95, (σ, I, J, r_134, rj, rq), rfl, ⟨r_134, rfl, hG, (hF0.symm.trans hF), hFr, (rg_w h_122 (by decide +kernel))⟩, by rw [ht]; exact hP, va_K.moved hW.alike hK, hD⟩, hS.F ht⟩) hS.2.2 dX0_takeLot_31
    exact L_113 _ (0 : Int32) _ _ _ (rg_w (rg_k (0 : Int32) 0 rfl) (by decide +kernel)) (Nat.lt_succ_self _) hF hFr hG hP hD hS (lv_sub hl [1, 2, 0] rfl)
  exact go _ _ _ hP hD hS hl

set_option maxHeartbeats 4000000 in
set_option maxRecDepth 100000 in
theorem s_X11_copy_33_33 (l : Launch) (D : va_G) (t : pq_T) (σ : pq_S) (I : Nat → Nat → Int32) (J : Nat → Nat → Int64) (ri : Nat → Nat → Int32) (rj : Nat → Nat → Int64) (rq : Nat → Nat → Option Nat) (sz : Nat) (tg : Nat → Nat) (hSH : SH σ tg) (hG0 : GS tg σ I ri rq) (a0 : Nat) (a1 : Nat) (hL_a0 : a0 ∈ σ.1) (hK_a0 : σ.2.1 a0 = 13) (hN_a0 : σ.2.2.2 a0 = 30) (hT_a0 : tg a0 = 33) (hL_a1 : a1 ∈ σ.1) (hK_a1 : σ.2.1 a1 = 13) (hN_a1 : σ.2.2.2 a1 = 30) (hT_a1 : tg a1 = 33) : MetV l yX11_copy (wa yX11_copy cX11_copy 2 none) ({ frames := 1, cells := 0, slots := 0, locals := 60 }) [.ref a0, .ref a1] D t σ (I, J, ri, rj, rq) sz 0 0 (fun (u : pq_S × pq_M) => ∃ ri' : Nat → Nat → Int32, u = (σ, I, J, ri', rj, rq) ∧ GX [1033] tg σ I ri rj I ri' rj rq ∧ (∀ j, j < 30 → ri' a1 j = ri a0 j) ∧ (∀ q, q ≠ a1 → ri' q = ri q) ∧ (ri' = va_up ri a1 (va_cpy (ri a0) (ri a1) 0 0 30))) := by
  refine Met.ofW (cc := cX11_copy) (maxL := 2) (ret := none) (by decide +kernel) rfl ?_
  intro p e s m args below meth c s₁ B hml hv
  obtain ⟨rfl, hsz, hP, hK, hD0, hN⟩ := hv
  have hx := B.exec
  have hb := B.bytes
  have hr := B.returns
  have hts := atoms_spec (ws := (wa yX11_copy cX11_copy 2 none)) B.pre
  have hown : s.vm.findClass RX11 = some m.cls := findClass_of_methodNamed B.named
  have hlocks := B.notSynchronized
  subst hsz
  have hD : va_D (pq_B t σ (I, J, ri, rj, rq) s.heap.size) (pq_P t σ (I, J, ri, rj, rq)) := hD0.self
  generalize hAe : pq_B t σ (I, J, ri, rj, rq) s.heap.size = A at hD ⊢
  have hA : ∀ q : Nat, s.heap.size ≤ q → A q := fun q h => by rw [← hAe]; exact Or.inr h
  have hS : va_S A s.heap s.heap [] := va_S.rf
  have hG : GX [1033] tg σ I ri rj I ri rj rq := ⟨hG0, fun _ _ _ => rfl, fun _ _ _ _ _ => rfl, fun _ _ _ _ _ => rfl⟩
  have hl := lv_entry ([.ref a0, .ref a1]) (n := 2) (Nat.le_of_ble_eq_true rfl)
  rw [lg_entry_eq]
  generalize (lg_sl ([.ref a0, .ref a1]) ++ List.replicate (2 - (lg_sl ([.ref a0, .ref a1])).length) Slot.unset).toArray = ls at hl ⊢
  have hl : lv_has ls 2 [(0, .ref a0), (1, .ref a1)] := hl
  refine q_gen (fun Q hQ => ?_)
  have go : ∀ (H : Heap) (locs : List Loc) (ls : Array Slot), va_P D vwCl (pq_P t σ (I, J, ri, rj, rq)) H → va_D A (pq_P t σ (I, J, ri, rj, rq)) → va_S A s.heap H locs → lv_has ls 2 [(0, .ref a0), (1, .ref a1)] → W p l e ({ frames := 1, cells := 0, slots := 0, locals := 60 } : Room) s m (List.toArray ([.ref a0, .ref a1] : List Value)) below meth c H locs 0 0 Q (F0 m 0 ls []) := by
    intro H locs ls hP hD hS hl
    refine lv_aload_n hx hb dX11_copy_0 rfl (lv_at hl 0 rfl) ?_
    refine lv_iconst (v := 0) hx hb dX11_copy_1 (by decide +kernel) ?_
    refine lv_aload_n hx hb dX11_copy_2 rfl (lv_at hl 1 rfl) ?_
    refine lv_iconst (v := 0) hx hb dX11_copy_3 (by decide +kernel) ?_
    refine lv_aload_n hx hb dX11_copy_4 rfl (lv_at hl 0 rfl) ?_
    refine pn_i (v := 30) hx hb hK hP hL_a0 hK_a0 hN_a0 (by decide +kernel) dX11_copy_5 ?_
    refine lv_aload_n hx hb dX11_copy_6 rfl (lv_at hl 1 rfl) ?_
    refine pn_i (v := 30) hx hb hK hP hL_a1 hK_a1 hN_a1 (by decide +kernel) dX11_copy_7 ?_
    refine va_mmin hx hb (hml.trans hl.1.symm) hown (hts _ (tw_c tw_1103)) (hts _ (tw_c tw_467)) (hts _ (tw_c tw_276)) (hts _ (tw_c tw_468)) (Nat.le_of_ble_eq_true rfl) (Nat.le_of_ble_eq_true rfl) (Nat.zero_le _) (Nat.zero_le _) dX11_copy_8 ?_
    refine lv_topi (fun x_1 ex_1 => ?_)
    have h_2 : rg x_1 30 30 := rg_of_eq ex_1 (rg_min2 (rg_k (30 : Int32) 30 rfl) (rg_k (30 : Int32) 30 rfl) (by decide +kernel))
    refine pc_i hx hb (hml.trans hl.1.symm) hown (hts _ (tw_c tw_1104)) (hts _ (tw_c tw_1105)) (hts _ (tw_c tw_1106)) (hts _ (tw_c tw_1107)) hK hP hD hS hL_a0 hK_a0 hN_a0 hL_a1 hK_a1 hN_a1 (rg_pos (rg_k (0 : Int32) 0 rfl) (by decide +kernel)) (rg_pos h_2 (by decide +kernel)) (rg_cp (rg_k (0 : Int32) 0 rfl) h_2 (by decide +kernel)) (rg_cl h_2 (by decide +kernel)) (Nat.le_of_ble_eq_true rfl) (Nat.le_of_ble_eq_true rfl) dX11_copy_11 (fun r_3 H locs er_3 hP hD hS => ?_)
    have hG := GX.cR hG hSH hT_a0 rfl hT_a1 rfl er_3 (by decide +kernel)
    subst hQ
    exact W.vret hx hb hr (fun t1 ht hW => ⟨⟨(σ, I, J, r_3, rj, rq), rfl, ⟨r_3, rfl, hG, (cpy_eq er_3 h_2 rfl), (fun q hq => by rw [er_3, va_up_ne _ _ hq]), (by rw [er_3, show (x_1).toNatClampNeg = 30 from by have z_i := clampE x_1; have z_r := h_2; have z_1 := z_r.1; have z_2 := z_r.2; omega]; rfl)⟩, by rw [ht]; exact hP, va_K.moved hW.alike hK, hD⟩, hS.F ht⟩) hS.2.2 dX11_copy_14
  exact go _ _ _ hP hD hS hl

set_option maxRecDepth 100000 in
def g_X1_copyFrom (nI : Nat → Int32) (nR : Nat → Nat → Int32) (nL : Nat → Nat → Int64) (I : Nat → Int32) (J : Nat → Int64) (ri : Nat → Nat → Int32) (rj : Nat → Nat → Int64) (rq : Nat → Nat → Option Nat) : vM := (ap1 (nI 32) fun (y_2 : Int32) => (ap1 (va_up I 32 (y_2)) fun (I_3 : Nat → Int32) => (ap1 (va_up ri 33 (va_cpy (nR 33) (ri 33) 0 0 30)) fun (ri_8 : Nat → Nat → Int32) => (ap1 (va_up rj 34 (va_cpy (nL 34) (rj 34) ((0 : Int32)).toNatClampNeg 0 ((30 : Int32)).toNatClampNeg)) fun (r_19 : Nat → Nat → Int64) => (I_3, J, ri_8, r_19, rq)))))
set_option maxRecDepth 100000 in
theorem g_X1_copyFrom_e {nI : Nat → Int32} {nR : Nat → Nat → Int32} {nL : Nat → Nat → Int64} {I : Nat → Int32} {J : Nat → Int64} {ri : Nat → Nat → Int32} {rj : Nat → Nat → Int64} {rq : Nat → Nat → Option Nat} : g_X1_copyFrom nI nR nL I J ri rj rq = (ap1 (nI 32) fun (y_2 : Int32) => (ap1 (va_up I 32 (y_2)) fun (I_3 : Nat → Int32) => (ap1 (va_up ri 33 (va_cpy (nR 33) (ri 33) 0 0 30)) fun (ri_8 : Nat → Nat → Int32) => (ap1 (va_up rj 34 (va_cpy (nL 34) (rj 34) ((0 : Int32)).toNatClampNeg 0 ((30 : Int32)).toNatClampNeg)) fun (r_19 : Nat → Nat → Int64) => (I_3, J, ri_8, r_19, rq))))) := rfl
set_option maxHeartbeats 4000000 in
set_option maxRecDepth 100000 in
theorem s_X1_copyFrom (l : Launch) (D : va_G) (t : pq_T) (σ : pq_S) (I : Nat → Nat → Int32) (J : Nat → Nat → Int64) (ri : Nat → Nat → Int32) (rj : Nat → Nat → Int64) (rq : Nat → Nat → Option Nat) (sz : Nat) (tg : Nat → Nat) (hSH : SH σ tg) (hG0 : GS tg σ I ri rq) (this : Nat) (a0 : Nat) (hL_this : this ∈ σ.1) (hK_this : σ.2.1 this = 1) (hL_a0 : a0 ∈ σ.1) (hK_a0 : σ.2.1 a0 = 1) (M : Nat) (hL_M : M ∈ σ.1) (hK_M : σ.2.1 M = 10) (N : Nat) (hL_N : N ∈ σ.1) (hK_N : σ.2.1 N = 10) (hO_this : this = vo σ 1 M) (hO_a0 : a0 = vo σ 1 N) (hap : AP 10 tg σ M N) : MetV l yX1_copyFrom (wa yX1_copyFrom cX1_copyFrom 2 none) ({ frames := 2, cells := 0, slots := 0, locals := 81 }) [.ref this, .ref a0] D t σ (I, J, ri, rj, rq) sz 0 0 (fun (u : pq_S × pq_M) => ∃ I' : Nat → Nat → Int32, ∃ ri' : Nat → Nat → Int32, ∃ rj' : Nat → Nat → Int64, u = (σ, I', J, ri', rj', rq) ∧ GX [32, 1033, 1034] tg σ I ri rj I' ri' rj' rq ∧ g_X1_copyFrom (vI 10 σ N I) (vR 10 σ N ri) (vL 10 σ N rj) (vI 10 σ M I) (vJ 10 σ M J) (vR 10 σ M ri) (vL 10 σ M rj) (vQ 10 σ M rq) = ((vI 10 σ M I'), (vJ 10 σ M J), (vR 10 σ M ri'), (vL 10 σ M rj'), (vQ 10 σ M rq)) ∧ FR 10 tg σ M (I, J, ri, rj, rq) (I', J, ri', rj', rq)) := by
  refine Met.ofW (cc := cX1_copyFrom) (maxL := 2) (ret := none) (by decide +kernel) rfl ?_
  intro p e s m args below meth c s₁ B hml hv
  obtain ⟨rfl, hsz, hP, hK, hD0, hN⟩ := hv
  have hx := B.exec
  have hb := B.bytes
  have hr := B.returns
  have hts := atoms_spec (ws := (wa yX1_copyFrom cX1_copyFrom 2 none)) B.pre
  have hown : s.vm.findClass RX1 = some m.cls := findClass_of_methodNamed B.named
  have hlocks := B.notSynchronized
  subst hsz
  have hD : va_D (pq_B t σ (I, J, ri, rj, rq) s.heap.size) (pq_P t σ (I, J, ri, rj, rq)) := hD0.self
  generalize hAe : pq_B t σ (I, J, ri, rj, rq) s.heap.size = A at hD ⊢
  have hA : ∀ q : Nat, s.heap.size ≤ q → A q := fun q h => by rw [← hAe]; exact Or.inr h
  have hS : va_S A s.heap s.heap [] := va_S.rf
  have hG : GX [32, 1033, 1034] tg σ I ri rj I ri rj rq := ⟨hG0, fun _ _ _ => rfl, fun _ _ _ _ _ => rfl, fun _ _ _ _ _ => rfl⟩
  have hl := lv_entry ([.ref this, .ref a0]) (n := 2) (Nat.le_of_ble_eq_true rfl)
  rw [lg_entry_eq]
  generalize (lg_sl ([.ref this, .ref a0]) ++ List.replicate (2 - (lg_sl ([.ref this, .ref a0])).length) Slot.unset).toArray = ls at hl ⊢
  have hl : lv_has ls 2 [(0, .ref this), (1, .ref a0)] := hl
  refine q_gen (fun Q hQ => ?_)
  have go : ∀ (H : Heap) (locs : List Loc) (ls : Array Slot), va_P D vwCl (pq_P t σ (I, J, ri, rj, rq)) H → va_D A (pq_P t σ (I, J, ri, rj, rq)) → va_S A s.heap H locs → lv_has ls 2 [(0, .ref this), (1, .ref a0)] → W p l e ({ frames := 2, cells := 0, slots := 0, locals := 81 } : Room) s m (List.toArray ([.ref this, .ref a0] : List Value)) below meth c H locs 0 0 Q (F0 m 0 ls []) := by
    intro H locs ls hP hD hS hl
    have hVT : VT 10 σ tg M := vt_10 hSH hL_M hK_M
    have hFr : FR 10 tg σ M (I, J, ri, rj, rq) (I, J, ri, rj, rq) := fr_rf
    obtain ⟨F, hF0⟩ : ∃ F, F = g_X1_copyFrom (vI 10 σ N I) (vR 10 σ N ri) (vL 10 σ N rj) (vI 10 σ M I) (vJ 10 σ M J) (vR 10 σ M ri) (vL 10 σ M rj) (vQ 10 σ M rq) := ⟨_, rfl⟩
    have hF := hF0.trans g_X1_copyFrom_e
    refine lv_aload_n hx hb dX1_copyFrom_0 rfl (lv_at hl 0 rfl) ?_
    refine lv_aload_n hx hb dX1_copyFrom_1 rfl (lv_at hl 1 rfl) ?_
    refine pg_f (v := .int (I 32 a0)) (C := RX1) (T := TX1) (N := 3) hx hb hts (tw_i inlX1) hown hK hP hL_a0 hK_a0 (by decide +kernel) rfl 0 (by decide +kernel) (hts _ (tw_c tw_1393)) rfl dX1_copyFrom_2 ?_
    have h_1 : rg (I 32 a0) 0 30 := GX.rI hG 32 rfl
    replace hF := hF.trans (ap_n (cI_e (f := 32) hFr hap hO_a0 (by decide +kernel)))
    refine pp_i (v := (I 32 a0)) (ty := .int) (C := RX1) (T := TX1) (N := 3) hx hb hts (tw_i inlX1) tyX1 tyX1_ok nmX1 hown hK hP hD hS hL_this hK_this (by decide +kernel) rfl 0 32 (by decide +kernel) (hts _ (tw_c tw_1393)) rfl (tyX1_ok 0 (by decide +kernel)) rfl rfl (Nat.le_of_ble_eq_true rfl) (ps_32 _ _ _ _ _) dX1_copyFrom_5 (fun I_3 H locs eI_3 hP hD hS => ?_)
    replace hFr := fr_I (f := 32) hFr hO_this (by decide +kernel) eI_3
    replace hF := hF.trans (ap_n (vI_st (f := 32) hO_this (by decide +kernel) eI_3))
    have hG := GX.wI hG 32 rfl eI_3 (rg_w h_1 (by decide +kernel)) (by decide +kernel)
    refine lv_aload_n hx hb dX1_copyFrom_8 rfl (lv_at hl 1 rfl) ?_
    obtain ⟨w_4, hR_w_4, hL_w_4, hK_w_4, hN_w_4, hT_w_4⟩ := sh_a hSH 33 (ci := 1) (kd := 13) (len := 30) rfl (by decide +kernel) hL_a0 hK_a0
    have hO_w_4 : w_4 = vrow σ 33 N := vo_k (c := 1) hO_a0 hR_w_4
    refine pg_f (v := .ref w_4) (C := RX1) (T := TX1) (N := 3) hx hb hts (tw_i inlX1) hown hK hP hL_a0 hK_a0 (by decide +kernel) rfl 1 (by decide +kernel) (hts _ (tw_c tw_137)) (pq_hv rfl hR_w_4) dX1_copyFrom_9 ?_
    refine lv_aload_n hx hb dX1_copyFrom_12 rfl (lv_at hl 0 rfl) ?_
    obtain ⟨w_5, hR_w_5, hL_w_5, hK_w_5, hN_w_5, hT_w_5⟩ := sh_a hSH 33 (ci := 1) (kd := 13) (len := 30) rfl (by decide +kernel) hL_this hK_this
    have hO_w_5 : w_5 = vrow σ 33 M := vo_k (c := 1) hO_this hR_w_5
    refine pg_f (v := .ref w_5) (C := RX1) (T := TX1) (N := 3) hx hb hts (tw_i inlX1) hown hK hP hL_this hK_this (by decide +kernel) rfl 1 (by decide +kernel) (hts _ (tw_c tw_137)) (pq_hv rfl hR_w_5) dX1_copyFrom_13 ?_
    refine pk_v (va_runSN (As := [.ref w_4, .ref w_5]) (rest := []) ⟨hx, hb, hml, hown, hts⟩ (s_X11_copy_33_33 l D t σ I_3 J ri rj rq H.size tg hSH hG.1 w_4 w_5 hL_w_4 hK_w_4 hN_w_4 hT_w_4 hL_w_5 hK_w_5 hN_w_5 hT_w_5) ⟨va_cnB (host := "RingsUnder") 2 hts (tw_W tw_1102) rfl rfl rfl (nl_22 hN) (hts _ (tw_c tw_2)) cd_yX11_copy_2 ⟨Nat.le_of_ble_eq_true rfl, Nat.le_of_ble_eq_true rfl⟩, hts (.static yX11_copy) (tw_c tq_static_yX11_copy), trivial⟩ ⟨pq_blind, pq_pre hK hN hP hD⟩ rfl rfl hl.1 rfl (lv_room (Nat.le_of_ble_eq_true rfl)) dX1_copyFrom_16 ⟨Nat.le_of_ble_eq_true rfl, Nat.le_of_ble_eq_true rfl⟩) hD hS hA (fun σ1 μ1 H locs hw_7 hP hD hS => ?_)
    obtain ⟨ri_8, hu_9, hg_10, hp_12, hp_13, hp_14⟩ := hw_7
    obtain ⟨hu_9a, hu_9b⟩ := Prod.mk.inj hu_9
    rw [hu_9a, hu_9b] at hP hD
    replace hF := hF.trans (ap_n (vR_cp hVT hO_w_5 (by decide +kernel) (funext fun _ => (cR_r hFr hap hO_w_4 (by decide +kernel) rfl)) hp_14))
    replace hFr := fr_R hFr hO_w_5 (by decide +kernel) hp_14
    have hG := GX.tr hG hg_10 (by decide +kernel)
    refine lv_aload_n hx hb dX1_copyFrom_19 rfl (lv_at hl 1 rfl) ?_
    obtain ⟨w_17, hR_w_17, hL_w_17, hK_w_17, hN_w_17, hT_w_17⟩ := sh_a hSH 34 (ci := 1) (kd := 14) (len := 30) rfl (by decide +kernel) hL_a0 hK_a0
    have hO_w_17 : w_17 = vrow σ 34 N := vo_k (c := 1) hO_a0 hR_w_17
    refine pg_f (v := .ref w_17) (C := RX1) (T := TX1) (N := 3) hx hb hts (tw_i inlX1) hown hK hP hL_a0 hK_a0 (by decide +kernel) rfl 2 (by decide +kernel) (hts _ (tw_c tw_138)) (pq_hv rfl hR_w_17) dX1_copyFrom_20 ?_
    refine lv_iconst (v := 0) hx hb dX1_copyFrom_23 (by decide +kernel) ?_
    refine lv_aload_n hx hb dX1_copyFrom_24 rfl (lv_at hl 0 rfl) ?_
    obtain ⟨w_18, hR_w_18, hL_w_18, hK_w_18, hN_w_18, hT_w_18⟩ := sh_a hSH 34 (ci := 1) (kd := 14) (len := 30) rfl (by decide +kernel) hL_this hK_this
    have hO_w_18 : w_18 = vrow σ 34 M := vo_k (c := 1) hO_this hR_w_18
    refine pg_f (v := .ref w_18) (C := RX1) (T := TX1) (N := 3) hx hb hts (tw_i inlX1) hown hK hP hL_this hK_this (by decide +kernel) rfl 2 (by decide +kernel) (hts _ (tw_c tw_138)) (pq_hv rfl hR_w_18) dX1_copyFrom_25 ?_
    refine lv_iconst (v := 0) hx hb dX1_copyFrom_28 (by decide +kernel) ?_
    refine lv_bipush (v := 30) hx hb dX1_copyFrom_29 (by decide +kernel) ?_
    refine pc_l hx hb (hml.trans hl.1.symm) hown (hts _ (tw_c tw_1394)) (hts _ (tw_c tw_1105)) (hts _ (tw_c tw_1106)) (hts _ (tw_c tw_1107)) hK hP hD hS hL_w_17 hK_w_17 hN_w_17 hL_w_18 hK_w_18 hN_w_18 (rg_pos (rg_k (0 : Int32) 0 rfl) (by decide +kernel)) (rg_pos (rg_k (30 : Int32) 30 rfl) (by decide +kernel)) (rg_cp (rg_k (0 : Int32) 0 rfl) (rg_k (30 : Int32) 30 rfl) (by decide +kernel)) (rg_cl (rg_k (30 : Int32) 30 rfl) (by decide +kernel)) (Nat.le_of_ble_eq_true rfl) (Nat.le_of_ble_eq_true rfl) dX1_copyFrom_31 (fun r_19 H locs er_19 hP hD hS => ?_)
    replace hF := hF.trans (ap_n (vL_cp hVT hO_w_18 (by decide +kernel) (funext fun _ => (cL_r hFr hap hO_w_17 (by decide +kernel) rfl)) er_19))
    replace hFr := fr_L hFr hO_w_18 (by decide +kernel) er_19
    have hG := GX.wJ hG hT_w_18 er_19 (by decide +kernel)
    subst hQ
    exact W.vret hx hb hr (fun t1 ht hW => ⟨⟨(σ, I_3, J, ri_8, r_19, rq), rfl, ⟨I_3, ri_8, r_19, rfl, hG, (hF0.symm.trans hF), hFr⟩, by rw [ht]; exact hP, va_K.moved hW.alike hK, hD⟩, hS.F ht⟩) hS.2.2 dX1_copyFrom_34
  exact go _ _ _ hP hD hS hl

set_option maxRecDepth 100000 in
def g_X1_dig (a0 : Int32) (I : Nat → Int32) (J : Nat → Int64) (ri : Nat → Nat → Int32) (rj : Nat → Nat → Int64) (rq : Nat → Nat → Option Nat) : Int32 × vM := (ap1 (I 32) fun (y_2 : Int32) => (if (y_2) < (30 : Int32) then (ap1 (va_up ri 33 (upd (ri 33) ((y_2)).toNatClampNeg a0)) fun (r_8 : Nat → Nat → Int32) => (ap1 ((1 : Int64) <<< (a0.toInt64 &&& 63)) fun (x_10 : Int64) => (ap1 (va_up rj 34 (vp_updL (rj 34) ((y_2)).toNatClampNeg x_10)) fun (r_11 : Nat → Nat → Int64) => (ap1 ((y_2) + (1 : Int32)) fun (x_12 : Int32) => (ap1 (va_up I 32 x_12) fun (I_14 : Nat → Int32) => (ap1 (I_14 32) fun (y_16 : Int32) => (ap1 ((y_16) - (1 : Int32)) fun (x_17 : Int32) => (x_17, I_14, J, r_8, r_11, rq)))))))) else ((-1 : Int32), I, J, ri, rj, rq)))
set_option maxRecDepth 100000 in
theorem g_X1_dig_e {a0 : Int32} {I : Nat → Int32} {J : Nat → Int64} {ri : Nat → Nat → Int32} {rj : Nat → Nat → Int64} {rq : Nat → Nat → Option Nat} : g_X1_dig a0 I J ri rj rq = (ap1 (I 32) fun (y_2 : Int32) => (if (y_2) < (30 : Int32) then (ap1 (va_up ri 33 (upd (ri 33) ((y_2)).toNatClampNeg a0)) fun (r_8 : Nat → Nat → Int32) => (ap1 ((1 : Int64) <<< (a0.toInt64 &&& 63)) fun (x_10 : Int64) => (ap1 (va_up rj 34 (vp_updL (rj 34) ((y_2)).toNatClampNeg x_10)) fun (r_11 : Nat → Nat → Int64) => (ap1 ((y_2) + (1 : Int32)) fun (x_12 : Int32) => (ap1 (va_up I 32 x_12) fun (I_14 : Nat → Int32) => (ap1 (I_14 32) fun (y_16 : Int32) => (ap1 ((y_16) - (1 : Int32)) fun (x_17 : Int32) => (x_17, I_14, J, r_8, r_11, rq)))))))) else ((-1 : Int32), I, J, ri, rj, rq))) := rfl
set_option maxHeartbeats 4000000 in
set_option maxRecDepth 100000 in
theorem s_X1_dig (l : Launch) (D : va_G) (t : pq_T) (σ : pq_S) (I : Nat → Nat → Int32) (J : Nat → Nat → Int64) (ri : Nat → Nat → Int32) (rj : Nat → Nat → Int64) (rq : Nat → Nat → Option Nat) (sz : Nat) (tg : Nat → Nat) (hSH : SH σ tg) (hG0 : GS tg σ I ri rq) (this : Nat) (a0 : Int32) (hL_this : this ∈ σ.1) (hK_this : σ.2.1 this = 1) (h_a0 : rg a0 0 39) (M : Nat) (hL_M : M ∈ σ.1) (hK_M : σ.2.1 M = 10) (hO_this : this = vo σ 1 M) : MetI l yX1_dig (wa yX1_dig cX1_dig 2 (some .int)) ({ frames := 0, cells := 0, slots := 0, locals := 0 }) [.ref this, .int a0] D t σ (I, J, ri, rj, rq) sz 0 0 (fun (r : Int32) (u : pq_S × pq_M) => ∃ I' : Nat → Nat → Int32, ∃ ri' : Nat → Nat → Int32, ∃ rj' : Nat → Nat → Int64, u = (σ, I', J, ri', rj', rq) ∧ GX [1033, 1034, 32] tg σ I ri rj I' ri' rj' rq ∧ g_X1_dig a0 (vI 10 σ M I) (vJ 10 σ M J) (vR 10 σ M ri) (vL 10 σ M rj) (vQ 10 σ M rq) = (r, (vI 10 σ M I'), (vJ 10 σ M J), (vR 10 σ M ri'), (vL 10 σ M rj'), (vQ 10 σ M rq)) ∧ FR 10 tg σ M (I, J, ri, rj, rq) (I', J, ri', rj', rq) ∧ rg r (-1) 29) := by
  refine Met.ofW (cc := cX1_dig) (maxL := 2) (ret := (some .int)) (by decide +kernel) rfl ?_
  intro p e s m args below meth c s₁ B hml hv
  obtain ⟨rfl, hsz, hP, hK, hD0, hN⟩ := hv
  have hx := B.exec
  have hb := B.bytes
  have hr := B.returns
  have hts := atoms_spec (ws := (wa yX1_dig cX1_dig 2 (some .int))) B.pre
  have hown : s.vm.findClass RX1 = some m.cls := findClass_of_methodNamed B.named
  have hlocks := B.notSynchronized
  subst hsz
  have hD : va_D (pq_B t σ (I, J, ri, rj, rq) s.heap.size) (pq_P t σ (I, J, ri, rj, rq)) := hD0.self
  generalize hAe : pq_B t σ (I, J, ri, rj, rq) s.heap.size = A at hD ⊢
  have hA : ∀ q : Nat, s.heap.size ≤ q → A q := fun q h => by rw [← hAe]; exact Or.inr h
  have hS : va_S A s.heap s.heap [] := va_S.rf
  have hG : GX [1033, 1034, 32] tg σ I ri rj I ri rj rq := ⟨hG0, fun _ _ _ => rfl, fun _ _ _ _ _ => rfl, fun _ _ _ _ _ => rfl⟩
  have hl := lv_entry ([.ref this, .int a0]) (n := 2) (Nat.le_of_ble_eq_true rfl)
  rw [lg_entry_eq]
  generalize (lg_sl ([.ref this, .int a0]) ++ List.replicate (2 - (lg_sl ([.ref this, .int a0])).length) Slot.unset).toArray = ls at hl ⊢
  have hl : lv_has ls 2 [(0, .ref this), (1, .int a0)] := hl
  refine q_gen (fun Q hQ => ?_)
  have go : ∀ (H : Heap) (locs : List Loc) (ls : Array Slot), va_P D vwCl (pq_P t σ (I, J, ri, rj, rq)) H → va_D A (pq_P t σ (I, J, ri, rj, rq)) → va_S A s.heap H locs → lv_has ls 2 [(0, .ref this), (1, .int a0)] → W p l e ({ frames := 0, cells := 0, slots := 0, locals := 0 } : Room) s m (List.toArray ([.ref this, .int a0] : List Value)) below meth c H locs 0 0 Q (F0 m 0 ls []) := by
    intro H locs ls hP hD hS hl
    have hVT : VT 10 σ tg M := vt_10 hSH hL_M hK_M
    have hFr : FR 10 tg σ M (I, J, ri, rj, rq) (I, J, ri, rj, rq) := fr_rf
    obtain ⟨F, hF0⟩ : ∃ F, F = g_X1_dig a0 (vI 10 σ M I) (vJ 10 σ M J) (vR 10 σ M ri) (vL 10 σ M rj) (vQ 10 σ M rq) := ⟨_, rfl⟩
    have hF := hF0.trans g_X1_dig_e
    refine lv_aload_n hx hb dX1_dig_0 rfl (lv_at hl 0 rfl) ?_
    refine pg_f (v := .int (I 32 this)) (C := RX1) (T := TX1) (N := 3) hx hb hts (tw_i inlX1) hown hK hP hL_this hK_this (by decide +kernel) rfl 0 (by decide +kernel) (hts _ (tw_c tw_1393)) rfl dX1_dig_1 ?_
    have h_1 : rg (I 32 this) 0 30 := GX.rI hG 32 rfl
    replace hF := hF.trans (ap_n (vI_e (f := 32) hO_this (by decide +kernel)))
    refine lv_bipush (v := 30) hx hb dX1_dig_4 (by decide +kernel) ?_
    refine lv_icmp_lt (tgt := 11) hx hb dX1_dig_6 (by decide +kernel) (fun c_3 => ?_) (fun c_3 => ?_)
    · replace hF := hF.trans (if_pos c_3)
      have h_6 : rg (I 32 this) 0 29 := rg_lt1 c_3 h_1 (rg_k (30 : Int32) 30 rfl) (by decide +kernel)
      refine lv_aload_n hx hb dX1_dig_11 rfl (lv_at hl 0 rfl) ?_
      obtain ⟨w_7, hR_w_7, hL_w_7, hK_w_7, hN_w_7, hT_w_7⟩ := sh_a hSH 33 (ci := 1) (kd := 13) (len := 30) rfl (by decide +kernel) hL_this hK_this
      have hO_w_7 : w_7 = vrow σ 33 M := vo_k (c := 1) hO_this hR_w_7
      refine pg_f (v := .ref w_7) (C := RX1) (T := TX1) (N := 3) hx hb hts (tw_i inlX1) hown hK hP hL_this hK_this (by decide +kernel) rfl 1 (by decide +kernel) (hts _ (tw_c tw_137)) (pq_hv rfl hR_w_7) dX1_dig_12 ?_
      refine lv_aload_n hx hb dX1_dig_15 rfl (lv_at hl 0 rfl) ?_
      refine pg_f (v := .int (I 32 this)) (C := RX1) (T := TX1) (N := 3) hx hb hts (tw_i inlX1) hown hK hP hL_this hK_this (by decide +kernel) rfl 0 (by decide +kernel) (hts _ (tw_c tw_1393)) rfl dX1_dig_16 ?_
      refine lv_iload_n hx hb dX1_dig_19 rfl (lv_at hl 1 rfl) ?_
      refine pt_i hx hb hK hP hD hS hL_w_7 hK_w_7 hN_w_7 (rg_in h_6 (by decide +kernel)) dX1_dig_20 (fun r_8 H locs er_8 hP hD hS => ?_)
      replace hFr := fr_R hFr hO_w_7 (by decide +kernel) er_8
      replace hF := hF.trans (ap_n (vR_st hVT hO_w_7 (by decide +kernel) er_8))
      have hG := GX.wR hG hSH hT_w_7 rfl er_8 (rg_w h_a0 (by decide +kernel)) (by decide +kernel)
      refine lv_aload_n hx hb dX1_dig_21 rfl (lv_at hl 0 rfl) ?_
      obtain ⟨w_9, hR_w_9, hL_w_9, hK_w_9, hN_w_9, hT_w_9⟩ := sh_a hSH 34 (ci := 1) (kd := 14) (len := 30) rfl (by decide +kernel) hL_this hK_this
      have hO_w_9 : w_9 = vrow σ 34 M := vo_k (c := 1) hO_this hR_w_9
      refine pg_f (v := .ref w_9) (C := RX1) (T := TX1) (N := 3) hx hb hts (tw_i inlX1) hown hK hP hL_this hK_this (by decide +kernel) rfl 2 (by decide +kernel) (hts _ (tw_c tw_138)) (pq_hv rfl hR_w_9) dX1_dig_22 ?_
      refine lv_aload_n hx hb dX1_dig_25 rfl (lv_at hl 0 rfl) ?_
      refine pg_f (v := .int (I 32 this)) (C := RX1) (T := TX1) (N := 3) hx hb hts (tw_i inlX1) hown hK hP hL_this hK_this (by decide +kernel) rfl 0 (by decide +kernel) (hts _ (tw_c tw_1393)) rfl dX1_dig_26 ?_
      refine lv_lconst (v := 1) hx hb dX1_dig_29 (by decide +kernel) ?_
      refine lv_iload_n hx hb dX1_dig_30 rfl (lv_at hl 1 rfl) ?_
      refine lv_lshl hx hb dX1_dig_31 rfl ?_
      refine lv_topl (fun x_10 ex_10 => ?_)
      replace hF := hF.trans (ap_n ex_10)
      refine pt_l hx hb hK hP hD hS hL_w_9 hK_w_9 hN_w_9 (rg_in h_6 (by decide +kernel)) dX1_dig_32 (fun r_11 H locs er_11 hP hD hS => ?_)
      replace hFr := fr_L hFr hO_w_9 (by decide +kernel) er_11
      replace hF := hF.trans (ap_n (vL_st hVT hO_w_9 (by decide +kernel) er_11))
      have hG := GX.wJ hG hT_w_9 er_11 (by decide +kernel)
      refine lv_aload_n hx hb dX1_dig_33 rfl (lv_at hl 0 rfl) ?_
      refine lv_dup hx hb dX1_dig_34 rfl ?_
      refine pg_f (v := .int (I 32 this)) (C := RX1) (T := TX1) (N := 3) hx hb hts (tw_i inlX1) hown hK hP hL_this hK_this (by decide +kernel) rfl 0 (by decide +kernel) (hts _ (tw_c tw_1393)) rfl dX1_dig_35 ?_
      refine lv_iconst (v := 1) hx hb dX1_dig_38 (by decide +kernel) ?_
      refine lv_iadd hx hb dX1_dig_39 ?_
      refine lv_topi (fun x_12 ex_12 => ?_)
      replace hF := hF.trans (ap_n ex_12)
      have h_13 : rg x_12 1 30 := rg_of_eq ex_12 (rg_add h_6 (rg_k (1 : Int32) 1 rfl) (by decide +kernel))
      refine pp_i (v := x_12) (ty := .int) (C := RX1) (T := TX1) (N := 3) hx hb hts (tw_i inlX1) tyX1 tyX1_ok nmX1 hown hK hP hD hS hL_this hK_this (by decide +kernel) rfl 0 32 (by decide +kernel) (hts _ (tw_c tw_1393)) rfl (tyX1_ok 0 (by decide +kernel)) rfl rfl (Nat.le_of_ble_eq_true rfl) (ps_32 _ _ _ _ _) dX1_dig_40 (fun I_14 H locs eI_14 hP hD hS => ?_)
      replace hFr := fr_I (f := 32) hFr hO_this (by decide +kernel) eI_14
      replace hF := hF.trans (ap_n (vI_st (f := 32) hO_this (by decide +kernel) eI_14))
      have hG := GX.wI hG 32 rfl eI_14 (rg_w h_13 (by decide +kernel)) (by decide +kernel)
      refine lv_aload_n hx hb dX1_dig_43 rfl (lv_at hl 0 rfl) ?_
      refine pg_f (v := .int (I_14 32 this)) (C := RX1) (T := TX1) (N := 3) hx hb hts (tw_i inlX1) hown hK hP hL_this hK_this (by decide +kernel) rfl 0 (by decide +kernel) (hts _ (tw_c tw_1393)) rfl dX1_dig_44 ?_
      have h_15 : rg (I_14 32 this) 1 30 := (by rw [eI_14, pq_us]; exact h_13)
      replace hF := hF.trans (ap_n (vI_e (f := 32) hO_this (by decide +kernel)))
      refine lv_iconst (v := 1) hx hb dX1_dig_47 (by decide +kernel) ?_
      refine lv_isub hx hb dX1_dig_48 ?_
      refine lv_topi (fun x_17 ex_17 => ?_)
      replace hF := hF.trans (ap_n ex_17)
      have h_18 : rg x_17 0 29 := rg_of_eq ex_17 (rg_sub h_15 (rg_k (1 : Int32) 1 rfl) (by decide +kernel))
      subst hQ
      exact W.iret (v := x_17) hx hb hr (fun t1 ht hW => ⟨⟨x_17, (σ, I_14, J, r_8, r_11, rq), rfl, ⟨I_14, r_8, r_11, rfl, hG, (hF0.symm.trans hF), hFr, (rg_w h_18 (by decide +kernel))⟩, by rw [ht]; exact hP, va_K.moved hW.alike hK, hD⟩, hS.F ht⟩) hS.2.2 dX1_dig_49
    · replace hF := hF.trans (if_neg c_3)
      have h_19 : rg (I 32 this) 30 30 := rg_le2 (nlt c_3) (rg_k (30 : Int32) 30 rfl) h_1 (by decide +kernel)
      refine lv_iconst (v := (-1)) hx hb dX1_dig_9 (by decide +kernel) ?_
      subst hQ
      exact W.iret (v := (-1)) hx hb hr (fun t1 ht hW => ⟨⟨(-1), (σ, I, J, ri, rj, rq), rfl, ⟨I, ri, rj, rfl, hG, (hF0.symm.trans hF), hFr, (rg_w (rg_k (-1 : Int32) (-1) rfl) (by decide +kernel))⟩, by rw [ht]; exact hP, va_K.moved hW.alike hK, hD⟩, hS.F ht⟩) hS.2.2 dX1_dig_10
  exact go _ _ _ hP hD hS hl

set_option maxRecDepth 100000 in
def g_X1_carry (a0 : Int32) (a1 : Int32) (I : Nat → Int32) (J : Nat → Int64) (ri : Nat → Nat → Int32) (rj : Nat → Nat → Int64) (rq : Nat → Nat → Option Nat) : Int32 × vM := (ap1 (ri 33 (a0).toNatClampNeg) fun (x_2 : Int32) => (if x_2 = a1 then ((0 : Int32), I, J, ri, rj, rq) else (ap1 (va_up ri 33 (upd (ri 33) (a0).toNatClampNeg a1)) fun (r_5 : Nat → Nat → Int32) => (ap1 (rj 34 (a0).toNatClampNeg) fun (x_7 : Int64) => (ap1 ((1 : Int64) <<< (a1.toInt64 &&& 63)) fun (x_8 : Int64) => (ap1 (x_7 ||| x_8) fun (x_9 : Int64) => (ap1 (va_up rj 34 (vp_updL (rj 34) (a0).toNatClampNeg x_9)) fun (r_10 : Nat → Nat → Int64) => ((1 : Int32), I, J, r_5, r_10, rq))))))))
set_option maxRecDepth 100000 in
theorem g_X1_carry_e {a0 : Int32} {a1 : Int32} {I : Nat → Int32} {J : Nat → Int64} {ri : Nat → Nat → Int32} {rj : Nat → Nat → Int64} {rq : Nat → Nat → Option Nat} : g_X1_carry a0 a1 I J ri rj rq = (ap1 (ri 33 (a0).toNatClampNeg) fun (x_2 : Int32) => (if x_2 = a1 then ((0 : Int32), I, J, ri, rj, rq) else (ap1 (va_up ri 33 (upd (ri 33) (a0).toNatClampNeg a1)) fun (r_5 : Nat → Nat → Int32) => (ap1 (rj 34 (a0).toNatClampNeg) fun (x_7 : Int64) => (ap1 ((1 : Int64) <<< (a1.toInt64 &&& 63)) fun (x_8 : Int64) => (ap1 (x_7 ||| x_8) fun (x_9 : Int64) => (ap1 (va_up rj 34 (vp_updL (rj 34) (a0).toNatClampNeg x_9)) fun (r_10 : Nat → Nat → Int64) => ((1 : Int32), I, J, r_5, r_10, rq)))))))) := rfl
set_option maxHeartbeats 4000000 in
set_option maxRecDepth 100000 in
theorem s_X1_carry (l : Launch) (D : va_G) (t : pq_T) (σ : pq_S) (I : Nat → Nat → Int32) (J : Nat → Nat → Int64) (ri : Nat → Nat → Int32) (rj : Nat → Nat → Int64) (rq : Nat → Nat → Option Nat) (sz : Nat) (tg : Nat → Nat) (hSH : SH σ tg) (hG0 : GS tg σ I ri rq) (this : Nat) (a0 : Int32) (a1 : Int32) (hL_this : this ∈ σ.1) (hK_this : σ.2.1 this = 1) (h_a0 : rg a0 0 29) (h_a1 : rg a1 0 39) (M : Nat) (hL_M : M ∈ σ.1) (hK_M : σ.2.1 M = 10) (hO_this : this = vo σ 1 M) : MetI l yX1_carry (wa yX1_carry cX1_carry 3 (some .boolean)) ({ frames := 0, cells := 0, slots := 0, locals := 0 }) [.ref this, .int a0, .int a1] D t σ (I, J, ri, rj, rq) sz 0 0 (fun (r : Int32) (u : pq_S × pq_M) => ∃ ri' : Nat → Nat → Int32, ∃ rj' : Nat → Nat → Int64, u = (σ, I, J, ri', rj', rq) ∧ GX [1033, 1034] tg σ I ri rj I ri' rj' rq ∧ g_X1_carry a0 a1 (vI 10 σ M I) (vJ 10 σ M J) (vR 10 σ M ri) (vL 10 σ M rj) (vQ 10 σ M rq) = (r, (vI 10 σ M I), (vJ 10 σ M J), (vR 10 σ M ri'), (vL 10 σ M rj'), (vQ 10 σ M rq)) ∧ FR 10 tg σ M (I, J, ri, rj, rq) (I, J, ri', rj', rq) ∧ ((r = 1 ∧ True) ∨ (r = 0 ∧ True))) := by
  refine Met.ofW (cc := cX1_carry) (maxL := 3) (ret := (some .boolean)) (by decide +kernel) rfl ?_
  intro p e s m args below meth c s₁ B hml hv
  obtain ⟨rfl, hsz, hP, hK, hD0, hN⟩ := hv
  have hx := B.exec
  have hb := B.bytes
  have hr := B.returns
  have hts := atoms_spec (ws := (wa yX1_carry cX1_carry 3 (some .boolean))) B.pre
  have hown : s.vm.findClass RX1 = some m.cls := findClass_of_methodNamed B.named
  have hlocks := B.notSynchronized
  subst hsz
  have hD : va_D (pq_B t σ (I, J, ri, rj, rq) s.heap.size) (pq_P t σ (I, J, ri, rj, rq)) := hD0.self
  generalize hAe : pq_B t σ (I, J, ri, rj, rq) s.heap.size = A at hD ⊢
  have hA : ∀ q : Nat, s.heap.size ≤ q → A q := fun q h => by rw [← hAe]; exact Or.inr h
  have hS : va_S A s.heap s.heap [] := va_S.rf
  have hG : GX [1033, 1034] tg σ I ri rj I ri rj rq := ⟨hG0, fun _ _ _ => rfl, fun _ _ _ _ _ => rfl, fun _ _ _ _ _ => rfl⟩
  have hl := lv_entry ([.ref this, .int a0, .int a1]) (n := 3) (Nat.le_of_ble_eq_true rfl)
  rw [lg_entry_eq]
  generalize (lg_sl ([.ref this, .int a0, .int a1]) ++ List.replicate (3 - (lg_sl ([.ref this, .int a0, .int a1])).length) Slot.unset).toArray = ls at hl ⊢
  have hl : lv_has ls 3 [(0, .ref this), (1, .int a0), (2, .int a1)] := hl
  refine q_gen (fun Q hQ => ?_)
  have go : ∀ (H : Heap) (locs : List Loc) (ls : Array Slot), va_P D vwCl (pq_P t σ (I, J, ri, rj, rq)) H → va_D A (pq_P t σ (I, J, ri, rj, rq)) → va_S A s.heap H locs → lv_has ls 3 [(0, .ref this), (1, .int a0), (2, .int a1)] → W p l e ({ frames := 0, cells := 0, slots := 0, locals := 0 } : Room) s m (List.toArray ([.ref this, .int a0, .int a1] : List Value)) below meth c H locs 0 0 Q (F0 m 0 ls []) := by
    intro H locs ls hP hD hS hl
    have hVT : VT 10 σ tg M := vt_10 hSH hL_M hK_M
    have hFr : FR 10 tg σ M (I, J, ri, rj, rq) (I, J, ri, rj, rq) := fr_rf
    obtain ⟨F, hF0⟩ : ∃ F, F = g_X1_carry a0 a1 (vI 10 σ M I) (vJ 10 σ M J) (vR 10 σ M ri) (vL 10 σ M rj) (vQ 10 σ M rq) := ⟨_, rfl⟩
    have hF := hF0.trans g_X1_carry_e
    refine lv_aload_n hx hb dX1_carry_0 rfl (lv_at hl 0 rfl) ?_
    obtain ⟨w_1, hR_w_1, hL_w_1, hK_w_1, hN_w_1, hT_w_1⟩ := sh_a hSH 33 (ci := 1) (kd := 13) (len := 30) rfl (by decide +kernel) hL_this hK_this
    have hO_w_1 : w_1 = vrow σ 33 M := vo_k (c := 1) hO_this hR_w_1
    refine pg_f (v := .ref w_1) (C := RX1) (T := TX1) (N := 3) hx hb hts (tw_i inlX1) hown hK hP hL_this hK_this (by decide +kernel) rfl 1 (by decide +kernel) (hts _ (tw_c tw_137)) (pq_hv rfl hR_w_1) dX1_carry_1 ?_
    refine lv_iload_n hx hb dX1_carry_4 rfl (lv_at hl 1 rfl) ?_
    refine pl_i hx hb hK hP hL_w_1 hK_w_1 hN_w_1 (rg_in h_a0 (by decide +kernel)) dX1_carry_5 ?_
    refine lv_topi (fun x_2 ex_2 => ?_)
    replace hF := hF.trans (ap_n (vR_r hO_w_1 (by decide +kernel) ex_2))
    have h_3 : rg x_2 0 39 := rg_of_eq ex_2 (GX.rR hG hT_w_1 rfl)
    refine lv_iload_n hx hb dX1_carry_6 rfl (lv_at hl 2 rfl) ?_
    refine lv_icmp_ne (tgt := 12) hx hb dX1_carry_7 (by decide +kernel) (fun c_4 => ?_) (fun c_4 => ?_)
    · replace hF := hF.trans (if_neg c_4)
      refine lv_aload_n hx hb dX1_carry_12 rfl (lv_at hl 0 rfl) ?_
      refine pg_f (v := .ref w_1) (C := RX1) (T := TX1) (N := 3) hx hb hts (tw_i inlX1) hown hK hP hL_this hK_this (by decide +kernel) rfl 1 (by decide +kernel) (hts _ (tw_c tw_137)) (pq_hv rfl hR_w_1) dX1_carry_13 ?_
      refine lv_iload_n hx hb dX1_carry_16 rfl (lv_at hl 1 rfl) ?_
      refine lv_iload_n hx hb dX1_carry_17 rfl (lv_at hl 2 rfl) ?_
      refine pt_i hx hb hK hP hD hS hL_w_1 hK_w_1 hN_w_1 (rg_in h_a0 (by decide +kernel)) dX1_carry_18 (fun r_5 H locs er_5 hP hD hS => ?_)
      replace hFr := fr_R hFr hO_w_1 (by decide +kernel) er_5
      replace hF := hF.trans (ap_n (vR_st hVT hO_w_1 (by decide +kernel) er_5))
      have hG := GX.wR hG hSH hT_w_1 rfl er_5 (rg_w h_a1 (by decide +kernel)) (by decide +kernel)
      refine lv_aload_n hx hb dX1_carry_19 rfl (lv_at hl 0 rfl) ?_
      obtain ⟨w_6, hR_w_6, hL_w_6, hK_w_6, hN_w_6, hT_w_6⟩ := sh_a hSH 34 (ci := 1) (kd := 14) (len := 30) rfl (by decide +kernel) hL_this hK_this
      have hO_w_6 : w_6 = vrow σ 34 M := vo_k (c := 1) hO_this hR_w_6
      refine pg_f (v := .ref w_6) (C := RX1) (T := TX1) (N := 3) hx hb hts (tw_i inlX1) hown hK hP hL_this hK_this (by decide +kernel) rfl 2 (by decide +kernel) (hts _ (tw_c tw_138)) (pq_hv rfl hR_w_6) dX1_carry_20 ?_
      refine lv_iload_n hx hb dX1_carry_23 rfl (lv_at hl 1 rfl) ?_
      refine lv_dup2_11 hx hb dX1_carry_24 rfl rfl ?_
      refine pl_l hx hb hK hP hL_w_6 hK_w_6 hN_w_6 (rg_in h_a0 (by decide +kernel)) dX1_carry_25 ?_
      refine lv_topl (fun x_7 ex_7 => ?_)
      replace hF := hF.trans (ap_n (vL_r hO_w_6 (by decide +kernel) ex_7))
      refine lv_lconst (v := 1) hx hb dX1_carry_26 (by decide +kernel) ?_
      refine lv_iload_n hx hb dX1_carry_27 rfl (lv_at hl 2 rfl) ?_
      refine lv_lshl hx hb dX1_carry_28 rfl ?_
      refine lv_topl (fun x_8 ex_8 => ?_)
      replace hF := hF.trans (ap_n ex_8)
      refine lv_lor hx hb dX1_carry_29 ?_
      refine lv_topl (fun x_9 ex_9 => ?_)
      replace hF := hF.trans (ap_n ex_9)
      refine pt_l hx hb hK hP hD hS hL_w_6 hK_w_6 hN_w_6 (rg_in h_a0 (by decide +kernel)) dX1_carry_30 (fun r_10 H locs er_10 hP hD hS => ?_)
      replace hFr := fr_L hFr hO_w_6 (by decide +kernel) er_10
      replace hF := hF.trans (ap_n (vL_st hVT hO_w_6 (by decide +kernel) er_10))
      have hG := GX.wJ hG hT_w_6 er_10 (by decide +kernel)
      refine lv_iconst (v := 1) hx hb dX1_carry_31 (by decide +kernel) ?_
      subst hQ
      exact W.zret (v := 1) hx hb hr (by decide +kernel) (fun t1 ht hW => ⟨⟨1, (σ, I, J, r_5, r_10, rq), rfl, ⟨r_5, r_10, rfl, hG, (hF0.symm.trans hF), hFr, (Or.inl ⟨rfl, trivial⟩)⟩, by rw [ht]; exact hP, va_K.moved hW.alike hK, hD⟩, hS.F ht⟩) hS.2.2 dX1_carry_32
    · replace hF := hF.trans (if_pos c_4)
      refine lv_iconst (v := 0) hx hb dX1_carry_10 (by decide +kernel) ?_
      subst hQ
      exact W.zret (v := 0) hx hb hr (by decide +kernel) (fun t1 ht hW => ⟨⟨0, (σ, I, J, ri, rj, rq), rfl, ⟨ri, rj, rfl, hG, (hF0.symm.trans hF), hFr, (Or.inr ⟨rfl, trivial⟩)⟩, by rw [ht]; exact hP, va_K.moved hW.alike hK, hD⟩, hS.F ht⟩) hS.2.2 dX1_carry_11
  exact go _ _ _ hP hD hS hl

set_option maxRecDepth 100000 in
def g_X1_whereNow_K44 (x_780 : Int32) (k_g_X1_whereNow_L5 : (Int32) → (Int32) → Int32 × vM) (x_839 : Int32) : Int32 × vM := (ap1 (x_780 + Int32.ofInt 1) fun (x_843 : Int32) => (k_g_X1_whereNow_L5 x_839 x_843))
set_option maxRecDepth 100000 in
theorem g_X1_whereNow_K44_e {x_780 : Int32} {k_g_X1_whereNow_L5 : (Int32) → (Int32) → Int32 × vM} {x_839 : Int32} : g_X1_whereNow_K44 x_780 k_g_X1_whereNow_L5 x_839 = (ap1 (x_780 + Int32.ofInt 1) fun (x_843 : Int32) => (k_g_X1_whereNow_L5 x_839 x_843)) := rfl
set_option maxRecDepth 100000 in
def g_X1_whereNow_L5 (a0 : Int32) (a1 : Int32) (I : Nat → Int32) (J : Nat → Int64) (ri : Nat → Nat → Int32) (rj : Nat → Nat → Int64) (rq : Nat → Nat → Option Nat) : Nat → (Int32) → (Int32) → Int32 × vM
  | 0, x_779, x_780 => ((0 : Int32), I, J, ri, rj, rq)
  | n_809 + 1, x_779, x_780 => (ap1 (I 32) fun (y_815 : Int32) => (if (y_815) ≤ x_780 then ((-1 : Int32), I, J, ri, rj, rq) else (ap1 (rj 34 (x_780).toNatClampNeg) fun (x_822 : Int64) => (ap1 (g_X11_hasBit x_822 a0) fun (x_823 : Int32) => (if x_823 = (0 : Int32) then (g_X1_whereNow_K44 x_780 (g_X1_whereNow_L5 a0 a1 I J ri rj rq n_809) x_779) else (if x_779 = a1 then (ap1 (ri 33 (x_780).toNatClampNeg) fun (x_853 : Int32) => (x_853, I, J, ri, rj, rq)) else (ap1 (x_779 + Int32.ofInt 1) fun (x_851 : Int32) => (g_X1_whereNow_K44 x_780 (g_X1_whereNow_L5 a0 a1 I J ri rj rq n_809) x_851))))))))
set_option maxRecDepth 100000 in
theorem g_X1_whereNow_L5_e {a0 : Int32} {a1 : Int32} {I : Nat → Int32} {J : Nat → Int64} {ri : Nat → Nat → Int32} {rj : Nat → Nat → Int64} {rq : Nat → Nat → Option Nat} {n_809 : Nat} {x_779 : Int32} {x_780 : Int32} : g_X1_whereNow_L5 a0 a1 I J ri rj rq (n_809 + 1) x_779 x_780 = (ap1 (I 32) fun (y_815 : Int32) => (if (y_815) ≤ x_780 then ((-1 : Int32), I, J, ri, rj, rq) else (ap1 (rj 34 (x_780).toNatClampNeg) fun (x_822 : Int64) => (ap1 (g_X11_hasBit x_822 a0) fun (x_823 : Int32) => (if x_823 = (0 : Int32) then (g_X1_whereNow_K44 x_780 (g_X1_whereNow_L5 a0 a1 I J ri rj rq n_809) x_779) else (if x_779 = a1 then (ap1 (ri 33 (x_780).toNatClampNeg) fun (x_853 : Int32) => (x_853, I, J, ri, rj, rq)) else (ap1 (x_779 + Int32.ofInt 1) fun (x_851 : Int32) => (g_X1_whereNow_K44 x_780 (g_X1_whereNow_L5 a0 a1 I J ri rj rq n_809) x_851)))))))) := rfl
set_option maxRecDepth 100000 in
def g_X1_whereNow (a0 : Int32) (a1 : Int32) (I : Nat → Int32) (J : Nat → Int64) (ri : Nat → Nat → Int32) (rj : Nat → Nat → Int64) (rq : Nat → Nat → Option Nat) : Int32 × vM := (g_X1_whereNow_L5 a0 a1 I J ri rj rq ((30 - ((0 : Int32)).toInt).toNat + 1) (0 : Int32) (0 : Int32))
set_option maxRecDepth 100000 in
theorem g_X1_whereNow_e {a0 : Int32} {a1 : Int32} {I : Nat → Int32} {J : Nat → Int64} {ri : Nat → Nat → Int32} {rj : Nat → Nat → Int64} {rq : Nat → Nat → Option Nat} : g_X1_whereNow a0 a1 I J ri rj rq = (g_X1_whereNow_L5 a0 a1 I J ri rj rq ((30 - ((0 : Int32)).toInt).toNat + 1) (0 : Int32) (0 : Int32)) := rfl
set_option maxHeartbeats 4000000 in
set_option maxRecDepth 100000 in
theorem s_X1_whereNow (l : Launch) (D : va_G) (t : pq_T) (σ : pq_S) (I : Nat → Nat → Int32) (J : Nat → Nat → Int64) (ri : Nat → Nat → Int32) (rj : Nat → Nat → Int64) (rq : Nat → Nat → Option Nat) (sz : Nat) (tg : Nat → Nat) (hSH : SH σ tg) (hG0 : GS tg σ I ri rq) (this : Nat) (a0 : Int32) (a1 : Int32) (hL_this : this ∈ σ.1) (hK_this : σ.2.1 this = 1) (M : Nat) (hL_M : M ∈ σ.1) (hK_M : σ.2.1 M = 10) (hO_this : this = vo σ 1 M) : MetI l yX1_whereNow (wa yX1_whereNow cX1_whereNow 5 (some .int)) ({ frames := 1, cells := 0, slots := 0, locals := 22 }) [.ref this, .int a0, .int a1] D t σ (I, J, ri, rj, rq) sz 0 0 (fun (r : Int32) (u : pq_S × pq_M) => u = (σ, I, J, ri, rj, rq) ∧ g_X1_whereNow a0 a1 (vI 10 σ M I) (vJ 10 σ M J) (vR 10 σ M ri) (vL 10 σ M rj) (vQ 10 σ M rq) = (r, (vI 10 σ M I), (vJ 10 σ M J), (vR 10 σ M ri), (vL 10 σ M rj), (vQ 10 σ M rq)) ∧ rg r (-1) 39) := by
  refine Met.ofW (cc := cX1_whereNow) (maxL := 5) (ret := (some .int)) (by decide +kernel) rfl ?_
  intro p e s m args below meth c s₁ B hml hv
  obtain ⟨rfl, hsz, hP, hK, hD0, hN⟩ := hv
  have hx := B.exec
  have hb := B.bytes
  have hr := B.returns
  have hts := atoms_spec (ws := (wa yX1_whereNow cX1_whereNow 5 (some .int))) B.pre
  have hown : s.vm.findClass RX1 = some m.cls := findClass_of_methodNamed B.named
  have hlocks := B.notSynchronized
  subst hsz
  have hD : va_D (pq_B t σ (I, J, ri, rj, rq) s.heap.size) (pq_P t σ (I, J, ri, rj, rq)) := hD0.self
  generalize hAe : pq_B t σ (I, J, ri, rj, rq) s.heap.size = A at hD ⊢
  have hA : ∀ q : Nat, s.heap.size ≤ q → A q := fun q h => by rw [← hAe]; exact Or.inr h
  have hS : va_S A s.heap s.heap [] := va_S.rf
  have hG : GX [] tg σ I ri rj I ri rj rq := ⟨hG0, fun _ _ _ => rfl, fun _ _ _ _ _ => rfl, fun _ _ _ _ _ => rfl⟩
  have hl := lv_entry ([.ref this, .int a0, .int a1]) (n := 5) (Nat.le_of_ble_eq_true rfl)
  rw [lg_entry_eq]
  generalize (lg_sl ([.ref this, .int a0, .int a1]) ++ List.replicate (5 - (lg_sl ([.ref this, .int a0, .int a1])).length) Slot.unset).toArray = ls at hl ⊢
  have hl : lv_has ls 5 [(0, .ref this), (1, .int a0), (2, .int a1)] := hl
  refine q_gen (fun Q hQ => ?_)
  have go : ∀ (H : Heap) (locs : List Loc) (ls : Array Slot), va_P D vwCl (pq_P t σ (I, J, ri, rj, rq)) H → va_D A (pq_P t σ (I, J, ri, rj, rq)) → va_S A s.heap H locs → lv_has ls 5 [(0, .ref this), (1, .int a0), (2, .int a1)] → W p l e ({ frames := 1, cells := 0, slots := 0, locals := 22 } : Room) s m (List.toArray ([.ref this, .int a0, .int a1] : List Value)) below meth c H locs 0 0 Q (F0 m 0 ls []) := by
    intro H locs ls hP hD hS hl
    have hVT : VT 10 σ tg M := vt_10 hSH hL_M hK_M
    have hFr : FR 10 tg σ M (I, J, ri, rj, rq) (I, J, ri, rj, rq) := fr_rf
    obtain ⟨F, hF0⟩ : ∃ F, F = g_X1_whereNow a0 a1 (vI 10 σ M I) (vJ 10 σ M J) (vR 10 σ M ri) (vL 10 σ M rj) (vQ 10 σ M rq) := ⟨_, rfl⟩
    have hF := hF0.trans g_X1_whereNow_e
    refine lv_iconst (v := 0) hx hb dX1_whereNow_0 (by decide +kernel) ?_
    refine lv_istore_n (lv' := [(3, .int 0), (0, .ref this), (1, .int a0), (2, .int a1)]) hx hb dX1_whereNow_1 rfl hl (by decide +kernel) rfl (fun ls hl => ?_)
    refine lv_iconst (v := 0) hx hb dX1_whereNow_2 (by decide +kernel) ?_
    refine lv_istore (lv' := [(4, .int 0), (3, .int 0), (0, .ref this), (1, .int a0), (2, .int a1)]) hx hb dX1_whereNow_3 hl (by decide +kernel) rfl (fun ls hl => ?_)
    have L_810 : ∀ (n_809 : Nat) (x_779 : Int32) (x_780 : Int32) (H : Heap) (locs : List Loc) (ls : Array Slot), rg x_780 0 30 → (30 - (x_780).toInt).toNat < n_809 → F = g_X1_whereNow_L5 a0 a1 (vI 10 σ M I) (vJ 10 σ M J) (vR 10 σ M ri) (vL 10 σ M rj) (vQ 10 σ M rq) n_809 x_779 x_780 → FR 10 tg σ M (I, J, ri, rj, rq) (I, J, ri, rj, rq) → GX [] tg σ I ri rj I ri rj rq → va_P D vwCl (pq_P t σ (I, J, ri, rj, rq)) H → va_D A (pq_P t σ (I, J, ri, rj, rq)) → va_S A s.heap H locs → lv_has ls 5 [(0, .ref this), (1, .int a0), (2, .int a1), (3, .int x_779), (4, .int x_780)] → W p l e ({ frames := 1, cells := 0, slots := 0, locals := 22 } : Room) s m (List.toArray ([.ref this, .int a0, .int a1] : List Value)) below meth c H locs 0 0 Q (F0 m 5 ls []) := by
      intro n_809
      induction n_809 with
      | zero => intro x_779 x_780 H locs ls h_813 hm_808 hF hFr hG hP hD hS hl; exact absurd hm_808 (Nat.not_lt_zero _)
      | succ n_809 ih_811 =>
        intro x_779 x_780 H locs ls h_813 hm_808 hF hFr hG hP hD hS hl
        replace hF := hF.trans g_X1_whereNow_L5_e
        refine lv_iload hx hb dX1_whereNow_5 (lv_at hl 4 rfl) ?_
        refine lv_aload_n hx hb dX1_whereNow_7 rfl (lv_at hl 0 rfl) ?_
        refine pg_f (v := .int (I 32 this)) (C := RX1) (T := TX1) (N := 3) hx hb hts (tw_i inlX1) hown hK hP hL_this hK_this (by decide +kernel) rfl 0 (by decide +kernel) (hts _ (tw_c tw_1393)) rfl dX1_whereNow_8 ?_
        have h_814 : rg (I 32 this) 0 30 := GX.rI hG 32 rfl
        replace hF := hF.trans (ap_n (vI_e (f := 32) hO_this (by decide +kernel)))
        refine lv_icmp_ge (tgt := 50) hx hb dX1_whereNow_11 (by decide +kernel) (fun c_816 => ?_) (fun c_816 => ?_)
        · replace hF := hF.trans (if_pos c_816)
          refine lv_iconst (v := (-1)) hx hb dX1_whereNow_50 (by decide +kernel) ?_
          subst hQ
          exact W.iret (v := (-1)) hx hb hr (fun t1 ht hW => ⟨⟨(-1), (σ, I, J, ri, rj, rq), rfl, ⟨rfl, (hF0.symm.trans hF), (rg_w (rg_k (-1 : Int32) (-1) rfl) (by decide +kernel))⟩, by rw [ht]; exact hP, va_K.moved hW.alike hK, hD⟩, hS.F ht⟩) hS.2.2 dX1_whereNow_51
        · replace hF := hF.trans (if_neg c_816)
          have h_819 : rg x_780 0 29 := rg_lt1 (nle c_816) h_813 h_814 (by decide +kernel)
          have h_820 : rg (I 32 this) 1 30 := rg_lt2 (nle c_816) h_813 h_814 (by decide +kernel)
          refine lv_aload_n hx hb dX1_whereNow_14 rfl (lv_at hl 0 rfl) ?_
          obtain ⟨w_821, hR_w_821, hL_w_821, hK_w_821, hN_w_821, hT_w_821⟩ := sh_a hSH 34 (ci := 1) (kd := 14) (len := 30) rfl (by decide +kernel) hL_this hK_this
          have hO_w_821 : w_821 = vrow σ 34 M := vo_k (c := 1) hO_this hR_w_821
          refine pg_f (v := .ref w_821) (C := RX1) (T := TX1) (N := 3) hx hb hts (tw_i inlX1) hown hK hP hL_this hK_this (by decide +kernel) rfl 2 (by decide +kernel) (hts _ (tw_c tw_138)) (pq_hv rfl hR_w_821) dX1_whereNow_15 ?_
          refine lv_iload hx hb dX1_whereNow_18 (lv_at hl 4 rfl) ?_
          refine pl_l hx hb hK hP hL_w_821 hK_w_821 hN_w_821 (rg_in h_819 (by decide +kernel)) dX1_whereNow_20 ?_
          refine lv_topl (fun x_822 ex_822 => ?_)
          replace hF := hF.trans (ap_n (vL_r hO_w_821 (by decide +kernel) ex_822))
          refine lv_iload_n hx hb dX1_whereNow_21 rfl (lv_at hl 1 rfl) ?_
          refine pk_i (va_runSN (As := [.long x_822, .int a0]) (rest := []) ⟨hx, hb, hml, hown, hts⟩ (s_X11_hasBit l D t σ I J ri rj rq H.size tg hSH hG.1 x_822 a0) ⟨va_cnB (host := "RingsUnder") 2 hts (tw_W tw_560) rfl rfl rfl (nl_25 hN) (hts _ (tw_c tw_2)) cd_yX11_hasBit_2 ⟨Nat.le_of_ble_eq_true rfl, Nat.le_of_ble_eq_true rfl⟩, hts (.static yX11_hasBit) (tw_c tq_static_yX11_hasBit), trivial⟩ ⟨pq_blind, pq_pre hK hN hP hD⟩ rfl rfl hl.1 rfl (lv_room (Nat.le_of_ble_eq_true rfl)) dX1_whereNow_22 ⟨Nat.le_of_ble_eq_true rfl, Nat.le_of_ble_eq_true rfl⟩) hD hS hA (fun x_823 σ1 μ1 H locs hw_824 hP hD hS => ?_)
          obtain ⟨hu_825, hfn_828, hr_827⟩ := hw_824
          obtain ⟨hu_825a, hu_825b⟩ := Prod.mk.inj hu_825
          rw [hu_825a, hu_825b] at hP hD
          replace hF := hF.trans (ap_n hfn_828.symm)
          have h_830 : rg x_823 0 1 := by rcases hr_827 with ⟨q, -⟩ | ⟨q, -⟩ <;> rw [q] <;> exact ⟨by decide +kernel, by decide +kernel⟩
          have K_842 : ∀  (x_839 : Int32) (H : Heap) (locs : List Loc) (ls : Array Slot), F = g_X1_whereNow_K44 x_780 (g_X1_whereNow_L5 a0 a1 (vI 10 σ M I) (vJ 10 σ M J) (vR 10 σ M ri) (vL 10 σ M rj) (vQ 10 σ M rq) n_809) x_839 → FR 10 tg σ M (I, J, ri, rj, rq) (I, J, ri, rj, rq) → GX [] tg σ I ri rj I ri rj rq → va_P D vwCl (pq_P t σ (I, J, ri, rj, rq)) H → va_D A (pq_P t σ (I, J, ri, rj, rq)) → va_S A s.heap H locs → lv_has ls 5 [(0, .ref this), (1, .int a0), (2, .int a1), (3, .int x_839), (4, .int x_780)] → W p l e ({ frames := 1, cells := 0, slots := 0, locals := 22 } : Room) s m (List.toArray ([.ref this, .int a0, .int a1] : List Value)) below meth c H locs 0 0 Q (F0 m 44 ls []) := by
            intro x_839 H locs ls hF hFr hG hP hD hS hl
            replace hF := hF.trans g_X1_whereNow_K44_e
            obtain ⟨x_843, ex_843⟩ : ∃ y : Int32, y = x_780 + Int32.ofInt 1 := ⟨_, rfl⟩
            replace hF := hF.trans (ap_n ex_843)
            have h_844 : rg x_843 1 30 := rg_of_eq ex_843 (rg_add h_819 (rg_k (Int32.ofInt 1) 1 rfl) (by decide +kernel))
            refine lv_iinc (v := x_843) (lv' := [(4, .int x_843), (0, .ref this), (1, .int a0), (2, .int a1), (3, .int x_839)]) hx hb dX1_whereNow_44 hl (k := 4) rfl ex_843.symm (by decide +kernel) rfl (fun ls hl => ?_)
            refine lv_goto (tgt := 5) hx hb dX1_whereNow_47 (by decide +kernel) ?_
            exact ih_811 x_839 x_843 _ _ _ (rg_w h_844 (by decide +kernel)) (ms_up 1 hm_808 ex_843 rfl (by decide +kernel) h_819 (by decide +kernel) (by decide +kernel)) hF hFr hG hP hD hS (lv_sub hl [1, 2, 3, 4, 0] rfl)
          refine lv_if_eq (tgt := 44) hx hb dX1_whereNow_25 (by decide +kernel) (fun c_845 => ?_) (fun c_845 => ?_)
          · replace hF := hF.trans (if_pos c_845)
            have h_848 : rg x_823 0 0 := rg_and h_830 (rg_of_eq c_845 (rg_k (0 : Int32) 0 rfl)) (by decide +kernel)
            exact K_842 x_779 _ _ _ hF hFr hG hP hD hS (lv_sub hl [0, 1, 2, 3, 4] rfl)
          · replace hF := hF.trans (if_neg c_845)
            have h_849 : rg x_823 1 1 := rg_ne c_845 h_830 0 rfl (by decide +kernel)
            refine lv_iload_n hx hb dX1_whereNow_28 rfl (lv_at hl 3 rfl) ?_
            refine lv_iload_n hx hb dX1_whereNow_29 rfl (lv_at hl 2 rfl) ?_
            refine lv_icmp_ne (tgt := 41) hx hb dX1_whereNow_30 (by decide +kernel) (fun c_850 => ?_) (fun c_850 => ?_)
            · replace hF := hF.trans (if_neg c_850)
              obtain ⟨x_851, ex_851⟩ : ∃ y : Int32, y = x_779 + Int32.ofInt 1 := ⟨_, rfl⟩
              replace hF := hF.trans (ap_n ex_851)
              refine lv_iinc (v := x_851) (lv' := [(3, .int x_851), (0, .ref this), (1, .int a0), (2, .int a1), (4, .int x_780)]) hx hb dX1_whereNow_41 hl (k := 3) rfl ex_851.symm (by decide +kernel) rfl (fun ls hl => ?_)
              exact K_842 x_851 _ _ _ hF hFr hG hP hD hS (lv_sub hl [1, 2, 3, 0, 4] rfl)
            · replace hF := hF.trans (if_pos c_850)
              refine lv_aload_n hx hb dX1_whereNow_33 rfl (lv_at hl 0 rfl) ?_
              obtain ⟨w_852, hR_w_852, hL_w_852, hK_w_852, hN_w_852, hT_w_852⟩ := sh_a hSH 33 (ci := 1) (kd := 13) (len := 30) rfl (by decide +kernel) hL_this hK_this
              have hO_w_852 : w_852 = vrow σ 33 M := vo_k (c := 1) hO_this hR_w_852
              refine pg_f (v := .ref w_852) (C := RX1) (T := TX1) (N := 3) hx hb hts (tw_i inlX1) hown hK hP hL_this hK_this (by decide +kernel) rfl 1 (by decide +kernel) (hts _ (tw_c tw_137)) (pq_hv rfl hR_w_852) dX1_whereNow_34 ?_
              refine lv_iload hx hb dX1_whereNow_37 (lv_at hl 4 rfl) ?_
              refine pl_i hx hb hK hP hL_w_852 hK_w_852 hN_w_852 (rg_in h_819 (by decide +kernel)) dX1_whereNow_39 ?_
              refine lv_topi (fun x_853 ex_853 => ?_)
              replace hF := hF.trans (ap_n (vR_r hO_w_852 (by decide +kernel) ex_853))
              have h_854 : rg x_853 0 39 := rg_of_eq ex_853 (GX.rR hG hT_w_852 rfl)
              subst hQ
              exact W.iret (v := x_853) hx hb hr (fun t1 ht hW => ⟨⟨x_853, (σ, I, J, ri, rj, rq), rfl, ⟨rfl, (hF0.symm.trans hF), (rg_w h_854 (by decide +kernel))⟩, by rw [ht]; exact hP, va_K.moved hW.alike hK, hD⟩, hS.F ht⟩) hS.2.2 dX1_whereNow_40
    exact L_810 _ (0 : Int32) (0 : Int32) _ _ _ (rg_w (rg_k (0 : Int32) 0 rfl) (by decide +kernel)) (Nat.lt_succ_self _) hF hFr hG hP hD hS (lv_sub hl [2, 3, 4, 1, 0] rfl)
  exact go _ _ _ hP hD hS hl

set_option maxHeartbeats 4000000 in
set_option maxRecDepth 100000 in
theorem s_X11_copy_69_69 (l : Launch) (D : va_G) (t : pq_T) (σ : pq_S) (I : Nat → Nat → Int32) (J : Nat → Nat → Int64) (ri : Nat → Nat → Int32) (rj : Nat → Nat → Int64) (rq : Nat → Nat → Option Nat) (sz : Nat) (tg : Nat → Nat) (hSH : SH σ tg) (hG0 : GS tg σ I ri rq) (a0 : Nat) (a1 : Nat) (hL_a0 : a0 ∈ σ.1) (hK_a0 : σ.2.1 a0 = 13) (hN_a0 : σ.2.2.2 a0 = 40) (hT_a0 : tg a0 = 69) (hL_a1 : a1 ∈ σ.1) (hK_a1 : σ.2.1 a1 = 13) (hN_a1 : σ.2.2.2 a1 = 40) (hT_a1 : tg a1 = 69) : MetV l yX11_copy (wa yX11_copy cX11_copy 2 none) ({ frames := 1, cells := 0, slots := 0, locals := 60 }) [.ref a0, .ref a1] D t σ (I, J, ri, rj, rq) sz 0 0 (fun (u : pq_S × pq_M) => ∃ ri' : Nat → Nat → Int32, u = (σ, I, J, ri', rj, rq) ∧ GX [1069] tg σ I ri rj I ri' rj rq ∧ (∀ j, j < 40 → ri' a1 j = ri a0 j) ∧ (∀ q, q ≠ a1 → ri' q = ri q) ∧ (ri' = va_up ri a1 (va_cpy (ri a0) (ri a1) 0 0 40))) := by
  refine Met.ofW (cc := cX11_copy) (maxL := 2) (ret := none) (by decide +kernel) rfl ?_
  intro p e s m args below meth c s₁ B hml hv
  obtain ⟨rfl, hsz, hP, hK, hD0, hN⟩ := hv
  have hx := B.exec
  have hb := B.bytes
  have hr := B.returns
  have hts := atoms_spec (ws := (wa yX11_copy cX11_copy 2 none)) B.pre
  have hown : s.vm.findClass RX11 = some m.cls := findClass_of_methodNamed B.named
  have hlocks := B.notSynchronized
  subst hsz
  have hD : va_D (pq_B t σ (I, J, ri, rj, rq) s.heap.size) (pq_P t σ (I, J, ri, rj, rq)) := hD0.self
  generalize hAe : pq_B t σ (I, J, ri, rj, rq) s.heap.size = A at hD ⊢
  have hA : ∀ q : Nat, s.heap.size ≤ q → A q := fun q h => by rw [← hAe]; exact Or.inr h
  have hS : va_S A s.heap s.heap [] := va_S.rf
  have hG : GX [1069] tg σ I ri rj I ri rj rq := ⟨hG0, fun _ _ _ => rfl, fun _ _ _ _ _ => rfl, fun _ _ _ _ _ => rfl⟩
  have hl := lv_entry ([.ref a0, .ref a1]) (n := 2) (Nat.le_of_ble_eq_true rfl)
  rw [lg_entry_eq]
  generalize (lg_sl ([.ref a0, .ref a1]) ++ List.replicate (2 - (lg_sl ([.ref a0, .ref a1])).length) Slot.unset).toArray = ls at hl ⊢
  have hl : lv_has ls 2 [(0, .ref a0), (1, .ref a1)] := hl
  refine q_gen (fun Q hQ => ?_)
  have go : ∀ (H : Heap) (locs : List Loc) (ls : Array Slot), va_P D vwCl (pq_P t σ (I, J, ri, rj, rq)) H → va_D A (pq_P t σ (I, J, ri, rj, rq)) → va_S A s.heap H locs → lv_has ls 2 [(0, .ref a0), (1, .ref a1)] → W p l e ({ frames := 1, cells := 0, slots := 0, locals := 60 } : Room) s m (List.toArray ([.ref a0, .ref a1] : List Value)) below meth c H locs 0 0 Q (F0 m 0 ls []) := by
    intro H locs ls hP hD hS hl
    refine lv_aload_n hx hb dX11_copy_0 rfl (lv_at hl 0 rfl) ?_
    refine lv_iconst (v := 0) hx hb dX11_copy_1 (by decide +kernel) ?_
    refine lv_aload_n hx hb dX11_copy_2 rfl (lv_at hl 1 rfl) ?_
    refine lv_iconst (v := 0) hx hb dX11_copy_3 (by decide +kernel) ?_
    refine lv_aload_n hx hb dX11_copy_4 rfl (lv_at hl 0 rfl) ?_
    refine pn_i (v := 40) hx hb hK hP hL_a0 hK_a0 hN_a0 (by decide +kernel) dX11_copy_5 ?_
    refine lv_aload_n hx hb dX11_copy_6 rfl (lv_at hl 1 rfl) ?_
    refine pn_i (v := 40) hx hb hK hP hL_a1 hK_a1 hN_a1 (by decide +kernel) dX11_copy_7 ?_
    refine va_mmin hx hb (hml.trans hl.1.symm) hown (hts _ (tw_c tw_1103)) (hts _ (tw_c tw_467)) (hts _ (tw_c tw_276)) (hts _ (tw_c tw_468)) (Nat.le_of_ble_eq_true rfl) (Nat.le_of_ble_eq_true rfl) (Nat.zero_le _) (Nat.zero_le _) dX11_copy_8 ?_
    refine lv_topi (fun x_1 ex_1 => ?_)
    have h_2 : rg x_1 40 40 := rg_of_eq ex_1 (rg_min2 (rg_k (40 : Int32) 40 rfl) (rg_k (40 : Int32) 40 rfl) (by decide +kernel))
    refine pc_i hx hb (hml.trans hl.1.symm) hown (hts _ (tw_c tw_1104)) (hts _ (tw_c tw_1105)) (hts _ (tw_c tw_1106)) (hts _ (tw_c tw_1107)) hK hP hD hS hL_a0 hK_a0 hN_a0 hL_a1 hK_a1 hN_a1 (rg_pos (rg_k (0 : Int32) 0 rfl) (by decide +kernel)) (rg_pos h_2 (by decide +kernel)) (rg_cp (rg_k (0 : Int32) 0 rfl) h_2 (by decide +kernel)) (rg_cl h_2 (by decide +kernel)) (Nat.le_of_ble_eq_true rfl) (Nat.le_of_ble_eq_true rfl) dX11_copy_11 (fun r_3 H locs er_3 hP hD hS => ?_)
    have hG := GX.cR hG hSH hT_a0 rfl hT_a1 rfl er_3 (by decide +kernel)
    subst hQ
    exact W.vret hx hb hr (fun t1 ht hW => ⟨⟨(σ, I, J, r_3, rj, rq), rfl, ⟨r_3, rfl, hG, (cpy_eq er_3 h_2 rfl), (fun q hq => by rw [er_3, va_up_ne _ _ hq]), (by rw [er_3, show (x_1).toNatClampNeg = 40 from by have z_i := clampE x_1; have z_r := h_2; have z_1 := z_r.1; have z_2 := z_r.2; omega]; rfl)⟩, by rw [ht]; exact hP, va_K.moved hW.alike hK, hD⟩, hS.F ht⟩) hS.2.2 dX11_copy_14
  exact go _ _ _ hP hD hS hl

set_option maxHeartbeats 4000000 in
set_option maxRecDepth 100000 in
theorem s_X11_copy_70_70 (l : Launch) (D : va_G) (t : pq_T) (σ : pq_S) (I : Nat → Nat → Int32) (J : Nat → Nat → Int64) (ri : Nat → Nat → Int32) (rj : Nat → Nat → Int64) (rq : Nat → Nat → Option Nat) (sz : Nat) (tg : Nat → Nat) (hSH : SH σ tg) (hG0 : GS tg σ I ri rq) (a0 : Nat) (a1 : Nat) (hL_a0 : a0 ∈ σ.1) (hK_a0 : σ.2.1 a0 = 13) (hN_a0 : σ.2.2.2 a0 = 40) (hT_a0 : tg a0 = 70) (hL_a1 : a1 ∈ σ.1) (hK_a1 : σ.2.1 a1 = 13) (hN_a1 : σ.2.2.2 a1 = 40) (hT_a1 : tg a1 = 70) : MetV l yX11_copy (wa yX11_copy cX11_copy 2 none) ({ frames := 1, cells := 0, slots := 0, locals := 60 }) [.ref a0, .ref a1] D t σ (I, J, ri, rj, rq) sz 0 0 (fun (u : pq_S × pq_M) => ∃ ri' : Nat → Nat → Int32, u = (σ, I, J, ri', rj, rq) ∧ GX [1070] tg σ I ri rj I ri' rj rq ∧ (∀ j, j < 40 → ri' a1 j = ri a0 j) ∧ (∀ q, q ≠ a1 → ri' q = ri q) ∧ (ri' = va_up ri a1 (va_cpy (ri a0) (ri a1) 0 0 40))) := by
  refine Met.ofW (cc := cX11_copy) (maxL := 2) (ret := none) (by decide +kernel) rfl ?_
  intro p e s m args below meth c s₁ B hml hv
  obtain ⟨rfl, hsz, hP, hK, hD0, hN⟩ := hv
  have hx := B.exec
  have hb := B.bytes
  have hr := B.returns
  have hts := atoms_spec (ws := (wa yX11_copy cX11_copy 2 none)) B.pre
  have hown : s.vm.findClass RX11 = some m.cls := findClass_of_methodNamed B.named
  have hlocks := B.notSynchronized
  subst hsz
  have hD : va_D (pq_B t σ (I, J, ri, rj, rq) s.heap.size) (pq_P t σ (I, J, ri, rj, rq)) := hD0.self
  generalize hAe : pq_B t σ (I, J, ri, rj, rq) s.heap.size = A at hD ⊢
  have hA : ∀ q : Nat, s.heap.size ≤ q → A q := fun q h => by rw [← hAe]; exact Or.inr h
  have hS : va_S A s.heap s.heap [] := va_S.rf
  have hG : GX [1070] tg σ I ri rj I ri rj rq := ⟨hG0, fun _ _ _ => rfl, fun _ _ _ _ _ => rfl, fun _ _ _ _ _ => rfl⟩
  have hl := lv_entry ([.ref a0, .ref a1]) (n := 2) (Nat.le_of_ble_eq_true rfl)
  rw [lg_entry_eq]
  generalize (lg_sl ([.ref a0, .ref a1]) ++ List.replicate (2 - (lg_sl ([.ref a0, .ref a1])).length) Slot.unset).toArray = ls at hl ⊢
  have hl : lv_has ls 2 [(0, .ref a0), (1, .ref a1)] := hl
  refine q_gen (fun Q hQ => ?_)
  have go : ∀ (H : Heap) (locs : List Loc) (ls : Array Slot), va_P D vwCl (pq_P t σ (I, J, ri, rj, rq)) H → va_D A (pq_P t σ (I, J, ri, rj, rq)) → va_S A s.heap H locs → lv_has ls 2 [(0, .ref a0), (1, .ref a1)] → W p l e ({ frames := 1, cells := 0, slots := 0, locals := 60 } : Room) s m (List.toArray ([.ref a0, .ref a1] : List Value)) below meth c H locs 0 0 Q (F0 m 0 ls []) := by
    intro H locs ls hP hD hS hl
    refine lv_aload_n hx hb dX11_copy_0 rfl (lv_at hl 0 rfl) ?_
    refine lv_iconst (v := 0) hx hb dX11_copy_1 (by decide +kernel) ?_
    refine lv_aload_n hx hb dX11_copy_2 rfl (lv_at hl 1 rfl) ?_
    refine lv_iconst (v := 0) hx hb dX11_copy_3 (by decide +kernel) ?_
    refine lv_aload_n hx hb dX11_copy_4 rfl (lv_at hl 0 rfl) ?_
    refine pn_i (v := 40) hx hb hK hP hL_a0 hK_a0 hN_a0 (by decide +kernel) dX11_copy_5 ?_
    refine lv_aload_n hx hb dX11_copy_6 rfl (lv_at hl 1 rfl) ?_
    refine pn_i (v := 40) hx hb hK hP hL_a1 hK_a1 hN_a1 (by decide +kernel) dX11_copy_7 ?_
    refine va_mmin hx hb (hml.trans hl.1.symm) hown (hts _ (tw_c tw_1103)) (hts _ (tw_c tw_467)) (hts _ (tw_c tw_276)) (hts _ (tw_c tw_468)) (Nat.le_of_ble_eq_true rfl) (Nat.le_of_ble_eq_true rfl) (Nat.zero_le _) (Nat.zero_le _) dX11_copy_8 ?_
    refine lv_topi (fun x_1 ex_1 => ?_)
    have h_2 : rg x_1 40 40 := rg_of_eq ex_1 (rg_min2 (rg_k (40 : Int32) 40 rfl) (rg_k (40 : Int32) 40 rfl) (by decide +kernel))
    refine pc_i hx hb (hml.trans hl.1.symm) hown (hts _ (tw_c tw_1104)) (hts _ (tw_c tw_1105)) (hts _ (tw_c tw_1106)) (hts _ (tw_c tw_1107)) hK hP hD hS hL_a0 hK_a0 hN_a0 hL_a1 hK_a1 hN_a1 (rg_pos (rg_k (0 : Int32) 0 rfl) (by decide +kernel)) (rg_pos h_2 (by decide +kernel)) (rg_cp (rg_k (0 : Int32) 0 rfl) h_2 (by decide +kernel)) (rg_cl h_2 (by decide +kernel)) (Nat.le_of_ble_eq_true rfl) (Nat.le_of_ble_eq_true rfl) dX11_copy_11 (fun r_3 H locs er_3 hP hD hS => ?_)
    have hG := GX.cR hG hSH hT_a0 rfl hT_a1 rfl er_3 (by decide +kernel)
    subst hQ
    exact W.vret hx hb hr (fun t1 ht hW => ⟨⟨(σ, I, J, r_3, rj, rq), rfl, ⟨r_3, rfl, hG, (cpy_eq er_3 h_2 rfl), (fun q hq => by rw [er_3, va_up_ne _ _ hq]), (by rw [er_3, show (x_1).toNatClampNeg = 40 from by have z_i := clampE x_1; have z_r := h_2; have z_1 := z_r.1; have z_2 := z_r.2; omega]; rfl)⟩, by rw [ht]; exact hP, va_K.moved hW.alike hK, hD⟩, hS.F ht⟩) hS.2.2 dX11_copy_14
  exact go _ _ _ hP hD hS hl

set_option maxHeartbeats 4000000 in
set_option maxRecDepth 100000 in
theorem s_X11_copy_71_71 (l : Launch) (D : va_G) (t : pq_T) (σ : pq_S) (I : Nat → Nat → Int32) (J : Nat → Nat → Int64) (ri : Nat → Nat → Int32) (rj : Nat → Nat → Int64) (rq : Nat → Nat → Option Nat) (sz : Nat) (tg : Nat → Nat) (hSH : SH σ tg) (hG0 : GS tg σ I ri rq) (a0 : Nat) (a1 : Nat) (hL_a0 : a0 ∈ σ.1) (hK_a0 : σ.2.1 a0 = 13) (hN_a0 : σ.2.2.2 a0 = 40) (hT_a0 : tg a0 = 71) (hL_a1 : a1 ∈ σ.1) (hK_a1 : σ.2.1 a1 = 13) (hN_a1 : σ.2.2.2 a1 = 40) (hT_a1 : tg a1 = 71) : MetV l yX11_copy (wa yX11_copy cX11_copy 2 none) ({ frames := 1, cells := 0, slots := 0, locals := 60 }) [.ref a0, .ref a1] D t σ (I, J, ri, rj, rq) sz 0 0 (fun (u : pq_S × pq_M) => ∃ ri' : Nat → Nat → Int32, u = (σ, I, J, ri', rj, rq) ∧ GX [] tg σ I ri rj I ri' rj rq ∧ (∀ j, j < 40 → ri' a1 j = ri a0 j) ∧ (∀ q, q ≠ a1 → ri' q = ri q) ∧ (ri' = va_up ri a1 (va_cpy (ri a0) (ri a1) 0 0 40))) := by
  refine Met.ofW (cc := cX11_copy) (maxL := 2) (ret := none) (by decide +kernel) rfl ?_
  intro p e s m args below meth c s₁ B hml hv
  obtain ⟨rfl, hsz, hP, hK, hD0, hN⟩ := hv
  have hx := B.exec
  have hb := B.bytes
  have hr := B.returns
  have hts := atoms_spec (ws := (wa yX11_copy cX11_copy 2 none)) B.pre
  have hown : s.vm.findClass RX11 = some m.cls := findClass_of_methodNamed B.named
  have hlocks := B.notSynchronized
  subst hsz
  have hD : va_D (pq_B t σ (I, J, ri, rj, rq) s.heap.size) (pq_P t σ (I, J, ri, rj, rq)) := hD0.self
  generalize hAe : pq_B t σ (I, J, ri, rj, rq) s.heap.size = A at hD ⊢
  have hA : ∀ q : Nat, s.heap.size ≤ q → A q := fun q h => by rw [← hAe]; exact Or.inr h
  have hS : va_S A s.heap s.heap [] := va_S.rf
  have hG : GX [] tg σ I ri rj I ri rj rq := ⟨hG0, fun _ _ _ => rfl, fun _ _ _ _ _ => rfl, fun _ _ _ _ _ => rfl⟩
  have hl := lv_entry ([.ref a0, .ref a1]) (n := 2) (Nat.le_of_ble_eq_true rfl)
  rw [lg_entry_eq]
  generalize (lg_sl ([.ref a0, .ref a1]) ++ List.replicate (2 - (lg_sl ([.ref a0, .ref a1])).length) Slot.unset).toArray = ls at hl ⊢
  have hl : lv_has ls 2 [(0, .ref a0), (1, .ref a1)] := hl
  refine q_gen (fun Q hQ => ?_)
  have go : ∀ (H : Heap) (locs : List Loc) (ls : Array Slot), va_P D vwCl (pq_P t σ (I, J, ri, rj, rq)) H → va_D A (pq_P t σ (I, J, ri, rj, rq)) → va_S A s.heap H locs → lv_has ls 2 [(0, .ref a0), (1, .ref a1)] → W p l e ({ frames := 1, cells := 0, slots := 0, locals := 60 } : Room) s m (List.toArray ([.ref a0, .ref a1] : List Value)) below meth c H locs 0 0 Q (F0 m 0 ls []) := by
    intro H locs ls hP hD hS hl
    refine lv_aload_n hx hb dX11_copy_0 rfl (lv_at hl 0 rfl) ?_
    refine lv_iconst (v := 0) hx hb dX11_copy_1 (by decide +kernel) ?_
    refine lv_aload_n hx hb dX11_copy_2 rfl (lv_at hl 1 rfl) ?_
    refine lv_iconst (v := 0) hx hb dX11_copy_3 (by decide +kernel) ?_
    refine lv_aload_n hx hb dX11_copy_4 rfl (lv_at hl 0 rfl) ?_
    refine pn_i (v := 40) hx hb hK hP hL_a0 hK_a0 hN_a0 (by decide +kernel) dX11_copy_5 ?_
    refine lv_aload_n hx hb dX11_copy_6 rfl (lv_at hl 1 rfl) ?_
    refine pn_i (v := 40) hx hb hK hP hL_a1 hK_a1 hN_a1 (by decide +kernel) dX11_copy_7 ?_
    refine va_mmin hx hb (hml.trans hl.1.symm) hown (hts _ (tw_c tw_1103)) (hts _ (tw_c tw_467)) (hts _ (tw_c tw_276)) (hts _ (tw_c tw_468)) (Nat.le_of_ble_eq_true rfl) (Nat.le_of_ble_eq_true rfl) (Nat.zero_le _) (Nat.zero_le _) dX11_copy_8 ?_
    refine lv_topi (fun x_1 ex_1 => ?_)
    have h_2 : rg x_1 40 40 := rg_of_eq ex_1 (rg_min2 (rg_k (40 : Int32) 40 rfl) (rg_k (40 : Int32) 40 rfl) (by decide +kernel))
    refine pc_i hx hb (hml.trans hl.1.symm) hown (hts _ (tw_c tw_1104)) (hts _ (tw_c tw_1105)) (hts _ (tw_c tw_1106)) (hts _ (tw_c tw_1107)) hK hP hD hS hL_a0 hK_a0 hN_a0 hL_a1 hK_a1 hN_a1 (rg_pos (rg_k (0 : Int32) 0 rfl) (by decide +kernel)) (rg_pos h_2 (by decide +kernel)) (rg_cp (rg_k (0 : Int32) 0 rfl) h_2 (by decide +kernel)) (rg_cl h_2 (by decide +kernel)) (Nat.le_of_ble_eq_true rfl) (Nat.le_of_ble_eq_true rfl) dX11_copy_11 (fun r_3 H locs er_3 hP hD hS => ?_)
    have hG := GX.cR hG hSH hT_a0 rfl hT_a1 rfl er_3 (by decide +kernel)
    subst hQ
    exact W.vret hx hb hr (fun t1 ht hW => ⟨⟨(σ, I, J, r_3, rj, rq), rfl, ⟨r_3, rfl, hG, (cpy_eq er_3 h_2 rfl), (fun q hq => by rw [er_3, va_up_ne _ _ hq]), (by rw [er_3, show (x_1).toNatClampNeg = 40 from by have z_i := clampE x_1; have z_r := h_2; have z_1 := z_r.1; have z_2 := z_r.2; omega]; rfl)⟩, by rw [ht]; exact hP, va_K.moved hW.alike hK, hD⟩, hS.F ht⟩) hS.2.2 dX11_copy_14
  exact go _ _ _ hP hD hS hl

set_option maxHeartbeats 4000000 in
set_option maxRecDepth 100000 in
theorem s_X11_copy_72_72 (l : Launch) (D : va_G) (t : pq_T) (σ : pq_S) (I : Nat → Nat → Int32) (J : Nat → Nat → Int64) (ri : Nat → Nat → Int32) (rj : Nat → Nat → Int64) (rq : Nat → Nat → Option Nat) (sz : Nat) (tg : Nat → Nat) (hSH : SH σ tg) (hG0 : GS tg σ I ri rq) (a0 : Nat) (a1 : Nat) (hL_a0 : a0 ∈ σ.1) (hK_a0 : σ.2.1 a0 = 13) (hN_a0 : σ.2.2.2 a0 = 40) (hT_a0 : tg a0 = 72) (hL_a1 : a1 ∈ σ.1) (hK_a1 : σ.2.1 a1 = 13) (hN_a1 : σ.2.2.2 a1 = 40) (hT_a1 : tg a1 = 72) : MetV l yX11_copy (wa yX11_copy cX11_copy 2 none) ({ frames := 1, cells := 0, slots := 0, locals := 60 }) [.ref a0, .ref a1] D t σ (I, J, ri, rj, rq) sz 0 0 (fun (u : pq_S × pq_M) => ∃ ri' : Nat → Nat → Int32, u = (σ, I, J, ri', rj, rq) ∧ GX [] tg σ I ri rj I ri' rj rq ∧ (∀ j, j < 40 → ri' a1 j = ri a0 j) ∧ (∀ q, q ≠ a1 → ri' q = ri q) ∧ (ri' = va_up ri a1 (va_cpy (ri a0) (ri a1) 0 0 40))) := by
  refine Met.ofW (cc := cX11_copy) (maxL := 2) (ret := none) (by decide +kernel) rfl ?_
  intro p e s m args below meth c s₁ B hml hv
  obtain ⟨rfl, hsz, hP, hK, hD0, hN⟩ := hv
  have hx := B.exec
  have hb := B.bytes
  have hr := B.returns
  have hts := atoms_spec (ws := (wa yX11_copy cX11_copy 2 none)) B.pre
  have hown : s.vm.findClass RX11 = some m.cls := findClass_of_methodNamed B.named
  have hlocks := B.notSynchronized
  subst hsz
  have hD : va_D (pq_B t σ (I, J, ri, rj, rq) s.heap.size) (pq_P t σ (I, J, ri, rj, rq)) := hD0.self
  generalize hAe : pq_B t σ (I, J, ri, rj, rq) s.heap.size = A at hD ⊢
  have hA : ∀ q : Nat, s.heap.size ≤ q → A q := fun q h => by rw [← hAe]; exact Or.inr h
  have hS : va_S A s.heap s.heap [] := va_S.rf
  have hG : GX [] tg σ I ri rj I ri rj rq := ⟨hG0, fun _ _ _ => rfl, fun _ _ _ _ _ => rfl, fun _ _ _ _ _ => rfl⟩
  have hl := lv_entry ([.ref a0, .ref a1]) (n := 2) (Nat.le_of_ble_eq_true rfl)
  rw [lg_entry_eq]
  generalize (lg_sl ([.ref a0, .ref a1]) ++ List.replicate (2 - (lg_sl ([.ref a0, .ref a1])).length) Slot.unset).toArray = ls at hl ⊢
  have hl : lv_has ls 2 [(0, .ref a0), (1, .ref a1)] := hl
  refine q_gen (fun Q hQ => ?_)
  have go : ∀ (H : Heap) (locs : List Loc) (ls : Array Slot), va_P D vwCl (pq_P t σ (I, J, ri, rj, rq)) H → va_D A (pq_P t σ (I, J, ri, rj, rq)) → va_S A s.heap H locs → lv_has ls 2 [(0, .ref a0), (1, .ref a1)] → W p l e ({ frames := 1, cells := 0, slots := 0, locals := 60 } : Room) s m (List.toArray ([.ref a0, .ref a1] : List Value)) below meth c H locs 0 0 Q (F0 m 0 ls []) := by
    intro H locs ls hP hD hS hl
    refine lv_aload_n hx hb dX11_copy_0 rfl (lv_at hl 0 rfl) ?_
    refine lv_iconst (v := 0) hx hb dX11_copy_1 (by decide +kernel) ?_
    refine lv_aload_n hx hb dX11_copy_2 rfl (lv_at hl 1 rfl) ?_
    refine lv_iconst (v := 0) hx hb dX11_copy_3 (by decide +kernel) ?_
    refine lv_aload_n hx hb dX11_copy_4 rfl (lv_at hl 0 rfl) ?_
    refine pn_i (v := 40) hx hb hK hP hL_a0 hK_a0 hN_a0 (by decide +kernel) dX11_copy_5 ?_
    refine lv_aload_n hx hb dX11_copy_6 rfl (lv_at hl 1 rfl) ?_
    refine pn_i (v := 40) hx hb hK hP hL_a1 hK_a1 hN_a1 (by decide +kernel) dX11_copy_7 ?_
    refine va_mmin hx hb (hml.trans hl.1.symm) hown (hts _ (tw_c tw_1103)) (hts _ (tw_c tw_467)) (hts _ (tw_c tw_276)) (hts _ (tw_c tw_468)) (Nat.le_of_ble_eq_true rfl) (Nat.le_of_ble_eq_true rfl) (Nat.zero_le _) (Nat.zero_le _) dX11_copy_8 ?_
    refine lv_topi (fun x_1 ex_1 => ?_)
    have h_2 : rg x_1 40 40 := rg_of_eq ex_1 (rg_min2 (rg_k (40 : Int32) 40 rfl) (rg_k (40 : Int32) 40 rfl) (by decide +kernel))
    refine pc_i hx hb (hml.trans hl.1.symm) hown (hts _ (tw_c tw_1104)) (hts _ (tw_c tw_1105)) (hts _ (tw_c tw_1106)) (hts _ (tw_c tw_1107)) hK hP hD hS hL_a0 hK_a0 hN_a0 hL_a1 hK_a1 hN_a1 (rg_pos (rg_k (0 : Int32) 0 rfl) (by decide +kernel)) (rg_pos h_2 (by decide +kernel)) (rg_cp (rg_k (0 : Int32) 0 rfl) h_2 (by decide +kernel)) (rg_cl h_2 (by decide +kernel)) (Nat.le_of_ble_eq_true rfl) (Nat.le_of_ble_eq_true rfl) dX11_copy_11 (fun r_3 H locs er_3 hP hD hS => ?_)
    have hG := GX.cR hG hSH hT_a0 rfl hT_a1 rfl er_3 (by decide +kernel)
    subst hQ
    exact W.vret hx hb hr (fun t1 ht hW => ⟨⟨(σ, I, J, r_3, rj, rq), rfl, ⟨r_3, rfl, hG, (cpy_eq er_3 h_2 rfl), (fun q hq => by rw [er_3, va_up_ne _ _ hq]), (by rw [er_3, show (x_1).toNatClampNeg = 40 from by have z_i := clampE x_1; have z_r := h_2; have z_1 := z_r.1; have z_2 := z_r.2; omega]; rfl)⟩, by rw [ht]; exact hP, va_K.moved hW.alike hK, hD⟩, hS.F ht⟩) hS.2.2 dX11_copy_14
  exact go _ _ _ hP hD hS hl

set_option maxHeartbeats 4000000 in
set_option maxRecDepth 100000 in
theorem s_X11_copy_73_73 (l : Launch) (D : va_G) (t : pq_T) (σ : pq_S) (I : Nat → Nat → Int32) (J : Nat → Nat → Int64) (ri : Nat → Nat → Int32) (rj : Nat → Nat → Int64) (rq : Nat → Nat → Option Nat) (sz : Nat) (tg : Nat → Nat) (hSH : SH σ tg) (hG0 : GS tg σ I ri rq) (a0 : Nat) (a1 : Nat) (hL_a0 : a0 ∈ σ.1) (hK_a0 : σ.2.1 a0 = 13) (hN_a0 : σ.2.2.2 a0 = 40) (hT_a0 : tg a0 = 73) (hL_a1 : a1 ∈ σ.1) (hK_a1 : σ.2.1 a1 = 13) (hN_a1 : σ.2.2.2 a1 = 40) (hT_a1 : tg a1 = 73) : MetV l yX11_copy (wa yX11_copy cX11_copy 2 none) ({ frames := 1, cells := 0, slots := 0, locals := 60 }) [.ref a0, .ref a1] D t σ (I, J, ri, rj, rq) sz 0 0 (fun (u : pq_S × pq_M) => ∃ ri' : Nat → Nat → Int32, u = (σ, I, J, ri', rj, rq) ∧ GX [1073] tg σ I ri rj I ri' rj rq ∧ (∀ j, j < 40 → ri' a1 j = ri a0 j) ∧ (∀ q, q ≠ a1 → ri' q = ri q) ∧ (ri' = va_up ri a1 (va_cpy (ri a0) (ri a1) 0 0 40))) := by
  refine Met.ofW (cc := cX11_copy) (maxL := 2) (ret := none) (by decide +kernel) rfl ?_
  intro p e s m args below meth c s₁ B hml hv
  obtain ⟨rfl, hsz, hP, hK, hD0, hN⟩ := hv
  have hx := B.exec
  have hb := B.bytes
  have hr := B.returns
  have hts := atoms_spec (ws := (wa yX11_copy cX11_copy 2 none)) B.pre
  have hown : s.vm.findClass RX11 = some m.cls := findClass_of_methodNamed B.named
  have hlocks := B.notSynchronized
  subst hsz
  have hD : va_D (pq_B t σ (I, J, ri, rj, rq) s.heap.size) (pq_P t σ (I, J, ri, rj, rq)) := hD0.self
  generalize hAe : pq_B t σ (I, J, ri, rj, rq) s.heap.size = A at hD ⊢
  have hA : ∀ q : Nat, s.heap.size ≤ q → A q := fun q h => by rw [← hAe]; exact Or.inr h
  have hS : va_S A s.heap s.heap [] := va_S.rf
  have hG : GX [1073] tg σ I ri rj I ri rj rq := ⟨hG0, fun _ _ _ => rfl, fun _ _ _ _ _ => rfl, fun _ _ _ _ _ => rfl⟩
  have hl := lv_entry ([.ref a0, .ref a1]) (n := 2) (Nat.le_of_ble_eq_true rfl)
  rw [lg_entry_eq]
  generalize (lg_sl ([.ref a0, .ref a1]) ++ List.replicate (2 - (lg_sl ([.ref a0, .ref a1])).length) Slot.unset).toArray = ls at hl ⊢
  have hl : lv_has ls 2 [(0, .ref a0), (1, .ref a1)] := hl
  refine q_gen (fun Q hQ => ?_)
  have go : ∀ (H : Heap) (locs : List Loc) (ls : Array Slot), va_P D vwCl (pq_P t σ (I, J, ri, rj, rq)) H → va_D A (pq_P t σ (I, J, ri, rj, rq)) → va_S A s.heap H locs → lv_has ls 2 [(0, .ref a0), (1, .ref a1)] → W p l e ({ frames := 1, cells := 0, slots := 0, locals := 60 } : Room) s m (List.toArray ([.ref a0, .ref a1] : List Value)) below meth c H locs 0 0 Q (F0 m 0 ls []) := by
    intro H locs ls hP hD hS hl
    refine lv_aload_n hx hb dX11_copy_0 rfl (lv_at hl 0 rfl) ?_
    refine lv_iconst (v := 0) hx hb dX11_copy_1 (by decide +kernel) ?_
    refine lv_aload_n hx hb dX11_copy_2 rfl (lv_at hl 1 rfl) ?_
    refine lv_iconst (v := 0) hx hb dX11_copy_3 (by decide +kernel) ?_
    refine lv_aload_n hx hb dX11_copy_4 rfl (lv_at hl 0 rfl) ?_
    refine pn_i (v := 40) hx hb hK hP hL_a0 hK_a0 hN_a0 (by decide +kernel) dX11_copy_5 ?_
    refine lv_aload_n hx hb dX11_copy_6 rfl (lv_at hl 1 rfl) ?_
    refine pn_i (v := 40) hx hb hK hP hL_a1 hK_a1 hN_a1 (by decide +kernel) dX11_copy_7 ?_
    refine va_mmin hx hb (hml.trans hl.1.symm) hown (hts _ (tw_c tw_1103)) (hts _ (tw_c tw_467)) (hts _ (tw_c tw_276)) (hts _ (tw_c tw_468)) (Nat.le_of_ble_eq_true rfl) (Nat.le_of_ble_eq_true rfl) (Nat.zero_le _) (Nat.zero_le _) dX11_copy_8 ?_
    refine lv_topi (fun x_1 ex_1 => ?_)
    have h_2 : rg x_1 40 40 := rg_of_eq ex_1 (rg_min2 (rg_k (40 : Int32) 40 rfl) (rg_k (40 : Int32) 40 rfl) (by decide +kernel))
    refine pc_i hx hb (hml.trans hl.1.symm) hown (hts _ (tw_c tw_1104)) (hts _ (tw_c tw_1105)) (hts _ (tw_c tw_1106)) (hts _ (tw_c tw_1107)) hK hP hD hS hL_a0 hK_a0 hN_a0 hL_a1 hK_a1 hN_a1 (rg_pos (rg_k (0 : Int32) 0 rfl) (by decide +kernel)) (rg_pos h_2 (by decide +kernel)) (rg_cp (rg_k (0 : Int32) 0 rfl) h_2 (by decide +kernel)) (rg_cl h_2 (by decide +kernel)) (Nat.le_of_ble_eq_true rfl) (Nat.le_of_ble_eq_true rfl) dX11_copy_11 (fun r_3 H locs er_3 hP hD hS => ?_)
    have hG := GX.cR hG hSH hT_a0 rfl hT_a1 rfl er_3 (by decide +kernel)
    subst hQ
    exact W.vret hx hb hr (fun t1 ht hW => ⟨⟨(σ, I, J, r_3, rj, rq), rfl, ⟨r_3, rfl, hG, (cpy_eq er_3 h_2 rfl), (fun q hq => by rw [er_3, va_up_ne _ _ hq]), (by rw [er_3, show (x_1).toNatClampNeg = 40 from by have z_i := clampE x_1; have z_r := h_2; have z_1 := z_r.1; have z_2 := z_r.2; omega]; rfl)⟩, by rw [ht]; exact hP, va_K.moved hW.alike hK, hD⟩, hS.F ht⟩) hS.2.2 dX11_copy_14
  exact go _ _ _ hP hD hS hl

set_option maxHeartbeats 4000000 in
set_option maxRecDepth 100000 in
theorem s_X11_copy_74_74 (l : Launch) (D : va_G) (t : pq_T) (σ : pq_S) (I : Nat → Nat → Int32) (J : Nat → Nat → Int64) (ri : Nat → Nat → Int32) (rj : Nat → Nat → Int64) (rq : Nat → Nat → Option Nat) (sz : Nat) (tg : Nat → Nat) (hSH : SH σ tg) (hG0 : GS tg σ I ri rq) (a0 : Nat) (a1 : Nat) (hL_a0 : a0 ∈ σ.1) (hK_a0 : σ.2.1 a0 = 13) (hN_a0 : σ.2.2.2 a0 = 40) (hT_a0 : tg a0 = 74) (hL_a1 : a1 ∈ σ.1) (hK_a1 : σ.2.1 a1 = 13) (hN_a1 : σ.2.2.2 a1 = 40) (hT_a1 : tg a1 = 74) : MetV l yX11_copy (wa yX11_copy cX11_copy 2 none) ({ frames := 1, cells := 0, slots := 0, locals := 60 }) [.ref a0, .ref a1] D t σ (I, J, ri, rj, rq) sz 0 0 (fun (u : pq_S × pq_M) => ∃ ri' : Nat → Nat → Int32, u = (σ, I, J, ri', rj, rq) ∧ GX [1074] tg σ I ri rj I ri' rj rq ∧ (∀ j, j < 40 → ri' a1 j = ri a0 j) ∧ (∀ q, q ≠ a1 → ri' q = ri q) ∧ (ri' = va_up ri a1 (va_cpy (ri a0) (ri a1) 0 0 40))) := by
  refine Met.ofW (cc := cX11_copy) (maxL := 2) (ret := none) (by decide +kernel) rfl ?_
  intro p e s m args below meth c s₁ B hml hv
  obtain ⟨rfl, hsz, hP, hK, hD0, hN⟩ := hv
  have hx := B.exec
  have hb := B.bytes
  have hr := B.returns
  have hts := atoms_spec (ws := (wa yX11_copy cX11_copy 2 none)) B.pre
  have hown : s.vm.findClass RX11 = some m.cls := findClass_of_methodNamed B.named
  have hlocks := B.notSynchronized
  subst hsz
  have hD : va_D (pq_B t σ (I, J, ri, rj, rq) s.heap.size) (pq_P t σ (I, J, ri, rj, rq)) := hD0.self
  generalize hAe : pq_B t σ (I, J, ri, rj, rq) s.heap.size = A at hD ⊢
  have hA : ∀ q : Nat, s.heap.size ≤ q → A q := fun q h => by rw [← hAe]; exact Or.inr h
  have hS : va_S A s.heap s.heap [] := va_S.rf
  have hG : GX [1074] tg σ I ri rj I ri rj rq := ⟨hG0, fun _ _ _ => rfl, fun _ _ _ _ _ => rfl, fun _ _ _ _ _ => rfl⟩
  have hl := lv_entry ([.ref a0, .ref a1]) (n := 2) (Nat.le_of_ble_eq_true rfl)
  rw [lg_entry_eq]
  generalize (lg_sl ([.ref a0, .ref a1]) ++ List.replicate (2 - (lg_sl ([.ref a0, .ref a1])).length) Slot.unset).toArray = ls at hl ⊢
  have hl : lv_has ls 2 [(0, .ref a0), (1, .ref a1)] := hl
  refine q_gen (fun Q hQ => ?_)
  have go : ∀ (H : Heap) (locs : List Loc) (ls : Array Slot), va_P D vwCl (pq_P t σ (I, J, ri, rj, rq)) H → va_D A (pq_P t σ (I, J, ri, rj, rq)) → va_S A s.heap H locs → lv_has ls 2 [(0, .ref a0), (1, .ref a1)] → W p l e ({ frames := 1, cells := 0, slots := 0, locals := 60 } : Room) s m (List.toArray ([.ref a0, .ref a1] : List Value)) below meth c H locs 0 0 Q (F0 m 0 ls []) := by
    intro H locs ls hP hD hS hl
    refine lv_aload_n hx hb dX11_copy_0 rfl (lv_at hl 0 rfl) ?_
    refine lv_iconst (v := 0) hx hb dX11_copy_1 (by decide +kernel) ?_
    refine lv_aload_n hx hb dX11_copy_2 rfl (lv_at hl 1 rfl) ?_
    refine lv_iconst (v := 0) hx hb dX11_copy_3 (by decide +kernel) ?_
    refine lv_aload_n hx hb dX11_copy_4 rfl (lv_at hl 0 rfl) ?_
    refine pn_i (v := 40) hx hb hK hP hL_a0 hK_a0 hN_a0 (by decide +kernel) dX11_copy_5 ?_
    refine lv_aload_n hx hb dX11_copy_6 rfl (lv_at hl 1 rfl) ?_
    refine pn_i (v := 40) hx hb hK hP hL_a1 hK_a1 hN_a1 (by decide +kernel) dX11_copy_7 ?_
    refine va_mmin hx hb (hml.trans hl.1.symm) hown (hts _ (tw_c tw_1103)) (hts _ (tw_c tw_467)) (hts _ (tw_c tw_276)) (hts _ (tw_c tw_468)) (Nat.le_of_ble_eq_true rfl) (Nat.le_of_ble_eq_true rfl) (Nat.zero_le _) (Nat.zero_le _) dX11_copy_8 ?_
    refine lv_topi (fun x_1 ex_1 => ?_)
    have h_2 : rg x_1 40 40 := rg_of_eq ex_1 (rg_min2 (rg_k (40 : Int32) 40 rfl) (rg_k (40 : Int32) 40 rfl) (by decide +kernel))
    refine pc_i hx hb (hml.trans hl.1.symm) hown (hts _ (tw_c tw_1104)) (hts _ (tw_c tw_1105)) (hts _ (tw_c tw_1106)) (hts _ (tw_c tw_1107)) hK hP hD hS hL_a0 hK_a0 hN_a0 hL_a1 hK_a1 hN_a1 (rg_pos (rg_k (0 : Int32) 0 rfl) (by decide +kernel)) (rg_pos h_2 (by decide +kernel)) (rg_cp (rg_k (0 : Int32) 0 rfl) h_2 (by decide +kernel)) (rg_cl h_2 (by decide +kernel)) (Nat.le_of_ble_eq_true rfl) (Nat.le_of_ble_eq_true rfl) dX11_copy_11 (fun r_3 H locs er_3 hP hD hS => ?_)
    have hG := GX.cR hG hSH hT_a0 rfl hT_a1 rfl er_3 (by decide +kernel)
    subst hQ
    exact W.vret hx hb hr (fun t1 ht hW => ⟨⟨(σ, I, J, r_3, rj, rq), rfl, ⟨r_3, rfl, hG, (cpy_eq er_3 h_2 rfl), (fun q hq => by rw [er_3, va_up_ne _ _ hq]), (by rw [er_3, show (x_1).toNatClampNeg = 40 from by have z_i := clampE x_1; have z_r := h_2; have z_1 := z_r.1; have z_2 := z_r.2; omega]; rfl)⟩, by rw [ht]; exact hP, va_K.moved hW.alike hK, hD⟩, hS.F ht⟩) hS.2.2 dX11_copy_14
  exact go _ _ _ hP hD hS hl

set_option maxHeartbeats 4000000 in
set_option maxRecDepth 100000 in
theorem s_X11_copy_75_75 (l : Launch) (D : va_G) (t : pq_T) (σ : pq_S) (I : Nat → Nat → Int32) (J : Nat → Nat → Int64) (ri : Nat → Nat → Int32) (rj : Nat → Nat → Int64) (rq : Nat → Nat → Option Nat) (sz : Nat) (tg : Nat → Nat) (hSH : SH σ tg) (hG0 : GS tg σ I ri rq) (a0 : Nat) (a1 : Nat) (hL_a0 : a0 ∈ σ.1) (hK_a0 : σ.2.1 a0 = 13) (hN_a0 : σ.2.2.2 a0 = 40) (hT_a0 : tg a0 = 75) (hL_a1 : a1 ∈ σ.1) (hK_a1 : σ.2.1 a1 = 13) (hN_a1 : σ.2.2.2 a1 = 40) (hT_a1 : tg a1 = 75) : MetV l yX11_copy (wa yX11_copy cX11_copy 2 none) ({ frames := 1, cells := 0, slots := 0, locals := 60 }) [.ref a0, .ref a1] D t σ (I, J, ri, rj, rq) sz 0 0 (fun (u : pq_S × pq_M) => ∃ ri' : Nat → Nat → Int32, u = (σ, I, J, ri', rj, rq) ∧ GX [1075] tg σ I ri rj I ri' rj rq ∧ (∀ j, j < 40 → ri' a1 j = ri a0 j) ∧ (∀ q, q ≠ a1 → ri' q = ri q) ∧ (ri' = va_up ri a1 (va_cpy (ri a0) (ri a1) 0 0 40))) := by
  refine Met.ofW (cc := cX11_copy) (maxL := 2) (ret := none) (by decide +kernel) rfl ?_
  intro p e s m args below meth c s₁ B hml hv
  obtain ⟨rfl, hsz, hP, hK, hD0, hN⟩ := hv
  have hx := B.exec
  have hb := B.bytes
  have hr := B.returns
  have hts := atoms_spec (ws := (wa yX11_copy cX11_copy 2 none)) B.pre
  have hown : s.vm.findClass RX11 = some m.cls := findClass_of_methodNamed B.named
  have hlocks := B.notSynchronized
  subst hsz
  have hD : va_D (pq_B t σ (I, J, ri, rj, rq) s.heap.size) (pq_P t σ (I, J, ri, rj, rq)) := hD0.self
  generalize hAe : pq_B t σ (I, J, ri, rj, rq) s.heap.size = A at hD ⊢
  have hA : ∀ q : Nat, s.heap.size ≤ q → A q := fun q h => by rw [← hAe]; exact Or.inr h
  have hS : va_S A s.heap s.heap [] := va_S.rf
  have hG : GX [1075] tg σ I ri rj I ri rj rq := ⟨hG0, fun _ _ _ => rfl, fun _ _ _ _ _ => rfl, fun _ _ _ _ _ => rfl⟩
  have hl := lv_entry ([.ref a0, .ref a1]) (n := 2) (Nat.le_of_ble_eq_true rfl)
  rw [lg_entry_eq]
  generalize (lg_sl ([.ref a0, .ref a1]) ++ List.replicate (2 - (lg_sl ([.ref a0, .ref a1])).length) Slot.unset).toArray = ls at hl ⊢
  have hl : lv_has ls 2 [(0, .ref a0), (1, .ref a1)] := hl
  refine q_gen (fun Q hQ => ?_)
  have go : ∀ (H : Heap) (locs : List Loc) (ls : Array Slot), va_P D vwCl (pq_P t σ (I, J, ri, rj, rq)) H → va_D A (pq_P t σ (I, J, ri, rj, rq)) → va_S A s.heap H locs → lv_has ls 2 [(0, .ref a0), (1, .ref a1)] → W p l e ({ frames := 1, cells := 0, slots := 0, locals := 60 } : Room) s m (List.toArray ([.ref a0, .ref a1] : List Value)) below meth c H locs 0 0 Q (F0 m 0 ls []) := by
    intro H locs ls hP hD hS hl
    refine lv_aload_n hx hb dX11_copy_0 rfl (lv_at hl 0 rfl) ?_
    refine lv_iconst (v := 0) hx hb dX11_copy_1 (by decide +kernel) ?_
    refine lv_aload_n hx hb dX11_copy_2 rfl (lv_at hl 1 rfl) ?_
    refine lv_iconst (v := 0) hx hb dX11_copy_3 (by decide +kernel) ?_
    refine lv_aload_n hx hb dX11_copy_4 rfl (lv_at hl 0 rfl) ?_
    refine pn_i (v := 40) hx hb hK hP hL_a0 hK_a0 hN_a0 (by decide +kernel) dX11_copy_5 ?_
    refine lv_aload_n hx hb dX11_copy_6 rfl (lv_at hl 1 rfl) ?_
    refine pn_i (v := 40) hx hb hK hP hL_a1 hK_a1 hN_a1 (by decide +kernel) dX11_copy_7 ?_
    refine va_mmin hx hb (hml.trans hl.1.symm) hown (hts _ (tw_c tw_1103)) (hts _ (tw_c tw_467)) (hts _ (tw_c tw_276)) (hts _ (tw_c tw_468)) (Nat.le_of_ble_eq_true rfl) (Nat.le_of_ble_eq_true rfl) (Nat.zero_le _) (Nat.zero_le _) dX11_copy_8 ?_
    refine lv_topi (fun x_1 ex_1 => ?_)
    have h_2 : rg x_1 40 40 := rg_of_eq ex_1 (rg_min2 (rg_k (40 : Int32) 40 rfl) (rg_k (40 : Int32) 40 rfl) (by decide +kernel))
    refine pc_i hx hb (hml.trans hl.1.symm) hown (hts _ (tw_c tw_1104)) (hts _ (tw_c tw_1105)) (hts _ (tw_c tw_1106)) (hts _ (tw_c tw_1107)) hK hP hD hS hL_a0 hK_a0 hN_a0 hL_a1 hK_a1 hN_a1 (rg_pos (rg_k (0 : Int32) 0 rfl) (by decide +kernel)) (rg_pos h_2 (by decide +kernel)) (rg_cp (rg_k (0 : Int32) 0 rfl) h_2 (by decide +kernel)) (rg_cl h_2 (by decide +kernel)) (Nat.le_of_ble_eq_true rfl) (Nat.le_of_ble_eq_true rfl) dX11_copy_11 (fun r_3 H locs er_3 hP hD hS => ?_)
    have hG := GX.cR hG hSH hT_a0 rfl hT_a1 rfl er_3 (by decide +kernel)
    subst hQ
    exact W.vret hx hb hr (fun t1 ht hW => ⟨⟨(σ, I, J, r_3, rj, rq), rfl, ⟨r_3, rfl, hG, (cpy_eq er_3 h_2 rfl), (fun q hq => by rw [er_3, va_up_ne _ _ hq]), (by rw [er_3, show (x_1).toNatClampNeg = 40 from by have z_i := clampE x_1; have z_r := h_2; have z_1 := z_r.1; have z_2 := z_r.2; omega]; rfl)⟩, by rw [ht]; exact hP, va_K.moved hW.alike hK, hD⟩, hS.F ht⟩) hS.2.2 dX11_copy_14
  exact go _ _ _ hP hD hS hl

set_option maxHeartbeats 4000000 in
set_option maxRecDepth 100000 in
theorem s_X11_copy_76_76 (l : Launch) (D : va_G) (t : pq_T) (σ : pq_S) (I : Nat → Nat → Int32) (J : Nat → Nat → Int64) (ri : Nat → Nat → Int32) (rj : Nat → Nat → Int64) (rq : Nat → Nat → Option Nat) (sz : Nat) (tg : Nat → Nat) (hSH : SH σ tg) (hG0 : GS tg σ I ri rq) (a0 : Nat) (a1 : Nat) (hL_a0 : a0 ∈ σ.1) (hK_a0 : σ.2.1 a0 = 13) (hN_a0 : σ.2.2.2 a0 = 40) (hT_a0 : tg a0 = 76) (hL_a1 : a1 ∈ σ.1) (hK_a1 : σ.2.1 a1 = 13) (hN_a1 : σ.2.2.2 a1 = 40) (hT_a1 : tg a1 = 76) : MetV l yX11_copy (wa yX11_copy cX11_copy 2 none) ({ frames := 1, cells := 0, slots := 0, locals := 60 }) [.ref a0, .ref a1] D t σ (I, J, ri, rj, rq) sz 0 0 (fun (u : pq_S × pq_M) => ∃ ri' : Nat → Nat → Int32, u = (σ, I, J, ri', rj, rq) ∧ GX [] tg σ I ri rj I ri' rj rq ∧ (∀ j, j < 40 → ri' a1 j = ri a0 j) ∧ (∀ q, q ≠ a1 → ri' q = ri q) ∧ (ri' = va_up ri a1 (va_cpy (ri a0) (ri a1) 0 0 40))) := by
  refine Met.ofW (cc := cX11_copy) (maxL := 2) (ret := none) (by decide +kernel) rfl ?_
  intro p e s m args below meth c s₁ B hml hv
  obtain ⟨rfl, hsz, hP, hK, hD0, hN⟩ := hv
  have hx := B.exec
  have hb := B.bytes
  have hr := B.returns
  have hts := atoms_spec (ws := (wa yX11_copy cX11_copy 2 none)) B.pre
  have hown : s.vm.findClass RX11 = some m.cls := findClass_of_methodNamed B.named
  have hlocks := B.notSynchronized
  subst hsz
  have hD : va_D (pq_B t σ (I, J, ri, rj, rq) s.heap.size) (pq_P t σ (I, J, ri, rj, rq)) := hD0.self
  generalize hAe : pq_B t σ (I, J, ri, rj, rq) s.heap.size = A at hD ⊢
  have hA : ∀ q : Nat, s.heap.size ≤ q → A q := fun q h => by rw [← hAe]; exact Or.inr h
  have hS : va_S A s.heap s.heap [] := va_S.rf
  have hG : GX [] tg σ I ri rj I ri rj rq := ⟨hG0, fun _ _ _ => rfl, fun _ _ _ _ _ => rfl, fun _ _ _ _ _ => rfl⟩
  have hl := lv_entry ([.ref a0, .ref a1]) (n := 2) (Nat.le_of_ble_eq_true rfl)
  rw [lg_entry_eq]
  generalize (lg_sl ([.ref a0, .ref a1]) ++ List.replicate (2 - (lg_sl ([.ref a0, .ref a1])).length) Slot.unset).toArray = ls at hl ⊢
  have hl : lv_has ls 2 [(0, .ref a0), (1, .ref a1)] := hl
  refine q_gen (fun Q hQ => ?_)
  have go : ∀ (H : Heap) (locs : List Loc) (ls : Array Slot), va_P D vwCl (pq_P t σ (I, J, ri, rj, rq)) H → va_D A (pq_P t σ (I, J, ri, rj, rq)) → va_S A s.heap H locs → lv_has ls 2 [(0, .ref a0), (1, .ref a1)] → W p l e ({ frames := 1, cells := 0, slots := 0, locals := 60 } : Room) s m (List.toArray ([.ref a0, .ref a1] : List Value)) below meth c H locs 0 0 Q (F0 m 0 ls []) := by
    intro H locs ls hP hD hS hl
    refine lv_aload_n hx hb dX11_copy_0 rfl (lv_at hl 0 rfl) ?_
    refine lv_iconst (v := 0) hx hb dX11_copy_1 (by decide +kernel) ?_
    refine lv_aload_n hx hb dX11_copy_2 rfl (lv_at hl 1 rfl) ?_
    refine lv_iconst (v := 0) hx hb dX11_copy_3 (by decide +kernel) ?_
    refine lv_aload_n hx hb dX11_copy_4 rfl (lv_at hl 0 rfl) ?_
    refine pn_i (v := 40) hx hb hK hP hL_a0 hK_a0 hN_a0 (by decide +kernel) dX11_copy_5 ?_
    refine lv_aload_n hx hb dX11_copy_6 rfl (lv_at hl 1 rfl) ?_
    refine pn_i (v := 40) hx hb hK hP hL_a1 hK_a1 hN_a1 (by decide +kernel) dX11_copy_7 ?_
    refine va_mmin hx hb (hml.trans hl.1.symm) hown (hts _ (tw_c tw_1103)) (hts _ (tw_c tw_467)) (hts _ (tw_c tw_276)) (hts _ (tw_c tw_468)) (Nat.le_of_ble_eq_true rfl) (Nat.le_of_ble_eq_true rfl) (Nat.zero_le _) (Nat.zero_le _) dX11_copy_8 ?_
    refine lv_topi (fun x_1 ex_1 => ?_)
    have h_2 : rg x_1 40 40 := rg_of_eq ex_1 (rg_min2 (rg_k (40 : Int32) 40 rfl) (rg_k (40 : Int32) 40 rfl) (by decide +kernel))
    refine pc_i hx hb (hml.trans hl.1.symm) hown (hts _ (tw_c tw_1104)) (hts _ (tw_c tw_1105)) (hts _ (tw_c tw_1106)) (hts _ (tw_c tw_1107)) hK hP hD hS hL_a0 hK_a0 hN_a0 hL_a1 hK_a1 hN_a1 (rg_pos (rg_k (0 : Int32) 0 rfl) (by decide +kernel)) (rg_pos h_2 (by decide +kernel)) (rg_cp (rg_k (0 : Int32) 0 rfl) h_2 (by decide +kernel)) (rg_cl h_2 (by decide +kernel)) (Nat.le_of_ble_eq_true rfl) (Nat.le_of_ble_eq_true rfl) dX11_copy_11 (fun r_3 H locs er_3 hP hD hS => ?_)
    have hG := GX.cR hG hSH hT_a0 rfl hT_a1 rfl er_3 (by decide +kernel)
    subst hQ
    exact W.vret hx hb hr (fun t1 ht hW => ⟨⟨(σ, I, J, r_3, rj, rq), rfl, ⟨r_3, rfl, hG, (cpy_eq er_3 h_2 rfl), (fun q hq => by rw [er_3, va_up_ne _ _ hq]), (by rw [er_3, show (x_1).toNatClampNeg = 40 from by have z_i := clampE x_1; have z_r := h_2; have z_1 := z_r.1; have z_2 := z_r.2; omega]; rfl)⟩, by rw [ht]; exact hP, va_K.moved hW.alike hK, hD⟩, hS.F ht⟩) hS.2.2 dX11_copy_14
  exact go _ _ _ hP hD hS hl

set_option maxHeartbeats 4000000 in
set_option maxRecDepth 100000 in
theorem s_X11_copy_77_77 (l : Launch) (D : va_G) (t : pq_T) (σ : pq_S) (I : Nat → Nat → Int32) (J : Nat → Nat → Int64) (ri : Nat → Nat → Int32) (rj : Nat → Nat → Int64) (rq : Nat → Nat → Option Nat) (sz : Nat) (tg : Nat → Nat) (hSH : SH σ tg) (hG0 : GS tg σ I ri rq) (a0 : Nat) (a1 : Nat) (hL_a0 : a0 ∈ σ.1) (hK_a0 : σ.2.1 a0 = 13) (hN_a0 : σ.2.2.2 a0 = 40) (hT_a0 : tg a0 = 77) (hL_a1 : a1 ∈ σ.1) (hK_a1 : σ.2.1 a1 = 13) (hN_a1 : σ.2.2.2 a1 = 40) (hT_a1 : tg a1 = 77) : MetV l yX11_copy (wa yX11_copy cX11_copy 2 none) ({ frames := 1, cells := 0, slots := 0, locals := 60 }) [.ref a0, .ref a1] D t σ (I, J, ri, rj, rq) sz 0 0 (fun (u : pq_S × pq_M) => ∃ ri' : Nat → Nat → Int32, u = (σ, I, J, ri', rj, rq) ∧ GX [] tg σ I ri rj I ri' rj rq ∧ (∀ j, j < 40 → ri' a1 j = ri a0 j) ∧ (∀ q, q ≠ a1 → ri' q = ri q) ∧ (ri' = va_up ri a1 (va_cpy (ri a0) (ri a1) 0 0 40))) := by
  refine Met.ofW (cc := cX11_copy) (maxL := 2) (ret := none) (by decide +kernel) rfl ?_
  intro p e s m args below meth c s₁ B hml hv
  obtain ⟨rfl, hsz, hP, hK, hD0, hN⟩ := hv
  have hx := B.exec
  have hb := B.bytes
  have hr := B.returns
  have hts := atoms_spec (ws := (wa yX11_copy cX11_copy 2 none)) B.pre
  have hown : s.vm.findClass RX11 = some m.cls := findClass_of_methodNamed B.named
  have hlocks := B.notSynchronized
  subst hsz
  have hD : va_D (pq_B t σ (I, J, ri, rj, rq) s.heap.size) (pq_P t σ (I, J, ri, rj, rq)) := hD0.self
  generalize hAe : pq_B t σ (I, J, ri, rj, rq) s.heap.size = A at hD ⊢
  have hA : ∀ q : Nat, s.heap.size ≤ q → A q := fun q h => by rw [← hAe]; exact Or.inr h
  have hS : va_S A s.heap s.heap [] := va_S.rf
  have hG : GX [] tg σ I ri rj I ri rj rq := ⟨hG0, fun _ _ _ => rfl, fun _ _ _ _ _ => rfl, fun _ _ _ _ _ => rfl⟩
  have hl := lv_entry ([.ref a0, .ref a1]) (n := 2) (Nat.le_of_ble_eq_true rfl)
  rw [lg_entry_eq]
  generalize (lg_sl ([.ref a0, .ref a1]) ++ List.replicate (2 - (lg_sl ([.ref a0, .ref a1])).length) Slot.unset).toArray = ls at hl ⊢
  have hl : lv_has ls 2 [(0, .ref a0), (1, .ref a1)] := hl
  refine q_gen (fun Q hQ => ?_)
  have go : ∀ (H : Heap) (locs : List Loc) (ls : Array Slot), va_P D vwCl (pq_P t σ (I, J, ri, rj, rq)) H → va_D A (pq_P t σ (I, J, ri, rj, rq)) → va_S A s.heap H locs → lv_has ls 2 [(0, .ref a0), (1, .ref a1)] → W p l e ({ frames := 1, cells := 0, slots := 0, locals := 60 } : Room) s m (List.toArray ([.ref a0, .ref a1] : List Value)) below meth c H locs 0 0 Q (F0 m 0 ls []) := by
    intro H locs ls hP hD hS hl
    refine lv_aload_n hx hb dX11_copy_0 rfl (lv_at hl 0 rfl) ?_
    refine lv_iconst (v := 0) hx hb dX11_copy_1 (by decide +kernel) ?_
    refine lv_aload_n hx hb dX11_copy_2 rfl (lv_at hl 1 rfl) ?_
    refine lv_iconst (v := 0) hx hb dX11_copy_3 (by decide +kernel) ?_
    refine lv_aload_n hx hb dX11_copy_4 rfl (lv_at hl 0 rfl) ?_
    refine pn_i (v := 40) hx hb hK hP hL_a0 hK_a0 hN_a0 (by decide +kernel) dX11_copy_5 ?_
    refine lv_aload_n hx hb dX11_copy_6 rfl (lv_at hl 1 rfl) ?_
    refine pn_i (v := 40) hx hb hK hP hL_a1 hK_a1 hN_a1 (by decide +kernel) dX11_copy_7 ?_
    refine va_mmin hx hb (hml.trans hl.1.symm) hown (hts _ (tw_c tw_1103)) (hts _ (tw_c tw_467)) (hts _ (tw_c tw_276)) (hts _ (tw_c tw_468)) (Nat.le_of_ble_eq_true rfl) (Nat.le_of_ble_eq_true rfl) (Nat.zero_le _) (Nat.zero_le _) dX11_copy_8 ?_
    refine lv_topi (fun x_1 ex_1 => ?_)
    have h_2 : rg x_1 40 40 := rg_of_eq ex_1 (rg_min2 (rg_k (40 : Int32) 40 rfl) (rg_k (40 : Int32) 40 rfl) (by decide +kernel))
    refine pc_i hx hb (hml.trans hl.1.symm) hown (hts _ (tw_c tw_1104)) (hts _ (tw_c tw_1105)) (hts _ (tw_c tw_1106)) (hts _ (tw_c tw_1107)) hK hP hD hS hL_a0 hK_a0 hN_a0 hL_a1 hK_a1 hN_a1 (rg_pos (rg_k (0 : Int32) 0 rfl) (by decide +kernel)) (rg_pos h_2 (by decide +kernel)) (rg_cp (rg_k (0 : Int32) 0 rfl) h_2 (by decide +kernel)) (rg_cl h_2 (by decide +kernel)) (Nat.le_of_ble_eq_true rfl) (Nat.le_of_ble_eq_true rfl) dX11_copy_11 (fun r_3 H locs er_3 hP hD hS => ?_)
    have hG := GX.cR hG hSH hT_a0 rfl hT_a1 rfl er_3 (by decide +kernel)
    subst hQ
    exact W.vret hx hb hr (fun t1 ht hW => ⟨⟨(σ, I, J, r_3, rj, rq), rfl, ⟨r_3, rfl, hG, (cpy_eq er_3 h_2 rfl), (fun q hq => by rw [er_3, va_up_ne _ _ hq]), (by rw [er_3, show (x_1).toNatClampNeg = 40 from by have z_i := clampE x_1; have z_r := h_2; have z_1 := z_r.1; have z_2 := z_r.2; omega]; rfl)⟩, by rw [ht]; exact hP, va_K.moved hW.alike hK, hD⟩, hS.F ht⟩) hS.2.2 dX11_copy_14
  exact go _ _ _ hP hD hS hl

set_option maxHeartbeats 4000000 in
set_option maxRecDepth 100000 in
theorem s_X11_copy_288_288 (l : Launch) (D : va_G) (t : pq_T) (σ : pq_S) (I : Nat → Nat → Int32) (J : Nat → Nat → Int64) (ri : Nat → Nat → Int32) (rj : Nat → Nat → Int64) (rq : Nat → Nat → Option Nat) (sz : Nat) (tg : Nat → Nat) (hSH : SH σ tg) (hG0 : GS tg σ I ri rq) (a0 : Nat) (a1 : Nat) (hL_a0 : a0 ∈ σ.1) (hK_a0 : σ.2.1 a0 = 13) (hN_a0 : σ.2.2.2 a0 = 40) (hT_a0 : tg a0 = 288) (hL_a1 : a1 ∈ σ.1) (hK_a1 : σ.2.1 a1 = 13) (hN_a1 : σ.2.2.2 a1 = 40) (hT_a1 : tg a1 = 288) : MetV l yX11_copy (wa yX11_copy cX11_copy 2 none) ({ frames := 1, cells := 0, slots := 0, locals := 60 }) [.ref a0, .ref a1] D t σ (I, J, ri, rj, rq) sz 0 0 (fun (u : pq_S × pq_M) => ∃ ri' : Nat → Nat → Int32, u = (σ, I, J, ri', rj, rq) ∧ GX [1288] tg σ I ri rj I ri' rj rq ∧ (∀ j, j < 40 → ri' a1 j = ri a0 j) ∧ (∀ q, q ≠ a1 → ri' q = ri q) ∧ (ri' = va_up ri a1 (va_cpy (ri a0) (ri a1) 0 0 40))) := by
  refine Met.ofW (cc := cX11_copy) (maxL := 2) (ret := none) (by decide +kernel) rfl ?_
  intro p e s m args below meth c s₁ B hml hv
  obtain ⟨rfl, hsz, hP, hK, hD0, hN⟩ := hv
  have hx := B.exec
  have hb := B.bytes
  have hr := B.returns
  have hts := atoms_spec (ws := (wa yX11_copy cX11_copy 2 none)) B.pre
  have hown : s.vm.findClass RX11 = some m.cls := findClass_of_methodNamed B.named
  have hlocks := B.notSynchronized
  subst hsz
  have hD : va_D (pq_B t σ (I, J, ri, rj, rq) s.heap.size) (pq_P t σ (I, J, ri, rj, rq)) := hD0.self
  generalize hAe : pq_B t σ (I, J, ri, rj, rq) s.heap.size = A at hD ⊢
  have hA : ∀ q : Nat, s.heap.size ≤ q → A q := fun q h => by rw [← hAe]; exact Or.inr h
  have hS : va_S A s.heap s.heap [] := va_S.rf
  have hG : GX [1288] tg σ I ri rj I ri rj rq := ⟨hG0, fun _ _ _ => rfl, fun _ _ _ _ _ => rfl, fun _ _ _ _ _ => rfl⟩
  have hl := lv_entry ([.ref a0, .ref a1]) (n := 2) (Nat.le_of_ble_eq_true rfl)
  rw [lg_entry_eq]
  generalize (lg_sl ([.ref a0, .ref a1]) ++ List.replicate (2 - (lg_sl ([.ref a0, .ref a1])).length) Slot.unset).toArray = ls at hl ⊢
  have hl : lv_has ls 2 [(0, .ref a0), (1, .ref a1)] := hl
  refine q_gen (fun Q hQ => ?_)
  have go : ∀ (H : Heap) (locs : List Loc) (ls : Array Slot), va_P D vwCl (pq_P t σ (I, J, ri, rj, rq)) H → va_D A (pq_P t σ (I, J, ri, rj, rq)) → va_S A s.heap H locs → lv_has ls 2 [(0, .ref a0), (1, .ref a1)] → W p l e ({ frames := 1, cells := 0, slots := 0, locals := 60 } : Room) s m (List.toArray ([.ref a0, .ref a1] : List Value)) below meth c H locs 0 0 Q (F0 m 0 ls []) := by
    intro H locs ls hP hD hS hl
    refine lv_aload_n hx hb dX11_copy_0 rfl (lv_at hl 0 rfl) ?_
    refine lv_iconst (v := 0) hx hb dX11_copy_1 (by decide +kernel) ?_
    refine lv_aload_n hx hb dX11_copy_2 rfl (lv_at hl 1 rfl) ?_
    refine lv_iconst (v := 0) hx hb dX11_copy_3 (by decide +kernel) ?_
    refine lv_aload_n hx hb dX11_copy_4 rfl (lv_at hl 0 rfl) ?_
    refine pn_i (v := 40) hx hb hK hP hL_a0 hK_a0 hN_a0 (by decide +kernel) dX11_copy_5 ?_
    refine lv_aload_n hx hb dX11_copy_6 rfl (lv_at hl 1 rfl) ?_
    refine pn_i (v := 40) hx hb hK hP hL_a1 hK_a1 hN_a1 (by decide +kernel) dX11_copy_7 ?_
    refine va_mmin hx hb (hml.trans hl.1.symm) hown (hts _ (tw_c tw_1103)) (hts _ (tw_c tw_467)) (hts _ (tw_c tw_276)) (hts _ (tw_c tw_468)) (Nat.le_of_ble_eq_true rfl) (Nat.le_of_ble_eq_true rfl) (Nat.zero_le _) (Nat.zero_le _) dX11_copy_8 ?_
    refine lv_topi (fun x_1 ex_1 => ?_)
    have h_2 : rg x_1 40 40 := rg_of_eq ex_1 (rg_min2 (rg_k (40 : Int32) 40 rfl) (rg_k (40 : Int32) 40 rfl) (by decide +kernel))
    refine pc_i hx hb (hml.trans hl.1.symm) hown (hts _ (tw_c tw_1104)) (hts _ (tw_c tw_1105)) (hts _ (tw_c tw_1106)) (hts _ (tw_c tw_1107)) hK hP hD hS hL_a0 hK_a0 hN_a0 hL_a1 hK_a1 hN_a1 (rg_pos (rg_k (0 : Int32) 0 rfl) (by decide +kernel)) (rg_pos h_2 (by decide +kernel)) (rg_cp (rg_k (0 : Int32) 0 rfl) h_2 (by decide +kernel)) (rg_cl h_2 (by decide +kernel)) (Nat.le_of_ble_eq_true rfl) (Nat.le_of_ble_eq_true rfl) dX11_copy_11 (fun r_3 H locs er_3 hP hD hS => ?_)
    have hG := GX.cR hG hSH hT_a0 rfl hT_a1 rfl er_3 (by decide +kernel)
    subst hQ
    exact W.vret hx hb hr (fun t1 ht hW => ⟨⟨(σ, I, J, r_3, rj, rq), rfl, ⟨r_3, rfl, hG, (cpy_eq er_3 h_2 rfl), (fun q hq => by rw [er_3, va_up_ne _ _ hq]), (by rw [er_3, show (x_1).toNatClampNeg = 40 from by have z_i := clampE x_1; have z_r := h_2; have z_1 := z_r.1; have z_2 := z_r.2; omega]; rfl)⟩, by rw [ht]; exact hP, va_K.moved hW.alike hK, hD⟩, hS.F ht⟩) hS.2.2 dX11_copy_14
  exact go _ _ _ hP hD hS hl

set_option maxHeartbeats 4000000 in
set_option maxRecDepth 100000 in
theorem s_X11_copy_289_289 (l : Launch) (D : va_G) (t : pq_T) (σ : pq_S) (I : Nat → Nat → Int32) (J : Nat → Nat → Int64) (ri : Nat → Nat → Int32) (rj : Nat → Nat → Int64) (rq : Nat → Nat → Option Nat) (sz : Nat) (tg : Nat → Nat) (hSH : SH σ tg) (hG0 : GS tg σ I ri rq) (a0 : Nat) (a1 : Nat) (hL_a0 : a0 ∈ σ.1) (hK_a0 : σ.2.1 a0 = 13) (hN_a0 : σ.2.2.2 a0 = 40) (hT_a0 : tg a0 = 289) (hL_a1 : a1 ∈ σ.1) (hK_a1 : σ.2.1 a1 = 13) (hN_a1 : σ.2.2.2 a1 = 40) (hT_a1 : tg a1 = 289) : MetV l yX11_copy (wa yX11_copy cX11_copy 2 none) ({ frames := 1, cells := 0, slots := 0, locals := 60 }) [.ref a0, .ref a1] D t σ (I, J, ri, rj, rq) sz 0 0 (fun (u : pq_S × pq_M) => ∃ ri' : Nat → Nat → Int32, u = (σ, I, J, ri', rj, rq) ∧ GX [] tg σ I ri rj I ri' rj rq ∧ (∀ j, j < 40 → ri' a1 j = ri a0 j) ∧ (∀ q, q ≠ a1 → ri' q = ri q) ∧ (ri' = va_up ri a1 (va_cpy (ri a0) (ri a1) 0 0 40))) := by
  refine Met.ofW (cc := cX11_copy) (maxL := 2) (ret := none) (by decide +kernel) rfl ?_
  intro p e s m args below meth c s₁ B hml hv
  obtain ⟨rfl, hsz, hP, hK, hD0, hN⟩ := hv
  have hx := B.exec
  have hb := B.bytes
  have hr := B.returns
  have hts := atoms_spec (ws := (wa yX11_copy cX11_copy 2 none)) B.pre
  have hown : s.vm.findClass RX11 = some m.cls := findClass_of_methodNamed B.named
  have hlocks := B.notSynchronized
  subst hsz
  have hD : va_D (pq_B t σ (I, J, ri, rj, rq) s.heap.size) (pq_P t σ (I, J, ri, rj, rq)) := hD0.self
  generalize hAe : pq_B t σ (I, J, ri, rj, rq) s.heap.size = A at hD ⊢
  have hA : ∀ q : Nat, s.heap.size ≤ q → A q := fun q h => by rw [← hAe]; exact Or.inr h
  have hS : va_S A s.heap s.heap [] := va_S.rf
  have hG : GX [] tg σ I ri rj I ri rj rq := ⟨hG0, fun _ _ _ => rfl, fun _ _ _ _ _ => rfl, fun _ _ _ _ _ => rfl⟩
  have hl := lv_entry ([.ref a0, .ref a1]) (n := 2) (Nat.le_of_ble_eq_true rfl)
  rw [lg_entry_eq]
  generalize (lg_sl ([.ref a0, .ref a1]) ++ List.replicate (2 - (lg_sl ([.ref a0, .ref a1])).length) Slot.unset).toArray = ls at hl ⊢
  have hl : lv_has ls 2 [(0, .ref a0), (1, .ref a1)] := hl
  refine q_gen (fun Q hQ => ?_)
  have go : ∀ (H : Heap) (locs : List Loc) (ls : Array Slot), va_P D vwCl (pq_P t σ (I, J, ri, rj, rq)) H → va_D A (pq_P t σ (I, J, ri, rj, rq)) → va_S A s.heap H locs → lv_has ls 2 [(0, .ref a0), (1, .ref a1)] → W p l e ({ frames := 1, cells := 0, slots := 0, locals := 60 } : Room) s m (List.toArray ([.ref a0, .ref a1] : List Value)) below meth c H locs 0 0 Q (F0 m 0 ls []) := by
    intro H locs ls hP hD hS hl
    refine lv_aload_n hx hb dX11_copy_0 rfl (lv_at hl 0 rfl) ?_
    refine lv_iconst (v := 0) hx hb dX11_copy_1 (by decide +kernel) ?_
    refine lv_aload_n hx hb dX11_copy_2 rfl (lv_at hl 1 rfl) ?_
    refine lv_iconst (v := 0) hx hb dX11_copy_3 (by decide +kernel) ?_
    refine lv_aload_n hx hb dX11_copy_4 rfl (lv_at hl 0 rfl) ?_
    refine pn_i (v := 40) hx hb hK hP hL_a0 hK_a0 hN_a0 (by decide +kernel) dX11_copy_5 ?_
    refine lv_aload_n hx hb dX11_copy_6 rfl (lv_at hl 1 rfl) ?_
    refine pn_i (v := 40) hx hb hK hP hL_a1 hK_a1 hN_a1 (by decide +kernel) dX11_copy_7 ?_
    refine va_mmin hx hb (hml.trans hl.1.symm) hown (hts _ (tw_c tw_1103)) (hts _ (tw_c tw_467)) (hts _ (tw_c tw_276)) (hts _ (tw_c tw_468)) (Nat.le_of_ble_eq_true rfl) (Nat.le_of_ble_eq_true rfl) (Nat.zero_le _) (Nat.zero_le _) dX11_copy_8 ?_
    refine lv_topi (fun x_1 ex_1 => ?_)
    have h_2 : rg x_1 40 40 := rg_of_eq ex_1 (rg_min2 (rg_k (40 : Int32) 40 rfl) (rg_k (40 : Int32) 40 rfl) (by decide +kernel))
    refine pc_i hx hb (hml.trans hl.1.symm) hown (hts _ (tw_c tw_1104)) (hts _ (tw_c tw_1105)) (hts _ (tw_c tw_1106)) (hts _ (tw_c tw_1107)) hK hP hD hS hL_a0 hK_a0 hN_a0 hL_a1 hK_a1 hN_a1 (rg_pos (rg_k (0 : Int32) 0 rfl) (by decide +kernel)) (rg_pos h_2 (by decide +kernel)) (rg_cp (rg_k (0 : Int32) 0 rfl) h_2 (by decide +kernel)) (rg_cl h_2 (by decide +kernel)) (Nat.le_of_ble_eq_true rfl) (Nat.le_of_ble_eq_true rfl) dX11_copy_11 (fun r_3 H locs er_3 hP hD hS => ?_)
    have hG := GX.cR hG hSH hT_a0 rfl hT_a1 rfl er_3 (by decide +kernel)
    subst hQ
    exact W.vret hx hb hr (fun t1 ht hW => ⟨⟨(σ, I, J, r_3, rj, rq), rfl, ⟨r_3, rfl, hG, (cpy_eq er_3 h_2 rfl), (fun q hq => by rw [er_3, va_up_ne _ _ hq]), (by rw [er_3, show (x_1).toNatClampNeg = 40 from by have z_i := clampE x_1; have z_r := h_2; have z_1 := z_r.1; have z_2 := z_r.2; omega]; rfl)⟩, by rw [ht]; exact hP, va_K.moved hW.alike hK, hD⟩, hS.F ht⟩) hS.2.2 dX11_copy_14
  exact go _ _ _ hP hD hS hl

set_option maxHeartbeats 4000000 in
set_option maxRecDepth 100000 in
theorem s_X11_copy_290_290 (l : Launch) (D : va_G) (t : pq_T) (σ : pq_S) (I : Nat → Nat → Int32) (J : Nat → Nat → Int64) (ri : Nat → Nat → Int32) (rj : Nat → Nat → Int64) (rq : Nat → Nat → Option Nat) (sz : Nat) (tg : Nat → Nat) (hSH : SH σ tg) (hG0 : GS tg σ I ri rq) (a0 : Nat) (a1 : Nat) (hL_a0 : a0 ∈ σ.1) (hK_a0 : σ.2.1 a0 = 13) (hN_a0 : σ.2.2.2 a0 = 40) (hT_a0 : tg a0 = 290) (hL_a1 : a1 ∈ σ.1) (hK_a1 : σ.2.1 a1 = 13) (hN_a1 : σ.2.2.2 a1 = 40) (hT_a1 : tg a1 = 290) : MetV l yX11_copy (wa yX11_copy cX11_copy 2 none) ({ frames := 1, cells := 0, slots := 0, locals := 60 }) [.ref a0, .ref a1] D t σ (I, J, ri, rj, rq) sz 0 0 (fun (u : pq_S × pq_M) => ∃ ri' : Nat → Nat → Int32, u = (σ, I, J, ri', rj, rq) ∧ GX [] tg σ I ri rj I ri' rj rq ∧ (∀ j, j < 40 → ri' a1 j = ri a0 j) ∧ (∀ q, q ≠ a1 → ri' q = ri q) ∧ (ri' = va_up ri a1 (va_cpy (ri a0) (ri a1) 0 0 40))) := by
  refine Met.ofW (cc := cX11_copy) (maxL := 2) (ret := none) (by decide +kernel) rfl ?_
  intro p e s m args below meth c s₁ B hml hv
  obtain ⟨rfl, hsz, hP, hK, hD0, hN⟩ := hv
  have hx := B.exec
  have hb := B.bytes
  have hr := B.returns
  have hts := atoms_spec (ws := (wa yX11_copy cX11_copy 2 none)) B.pre
  have hown : s.vm.findClass RX11 = some m.cls := findClass_of_methodNamed B.named
  have hlocks := B.notSynchronized
  subst hsz
  have hD : va_D (pq_B t σ (I, J, ri, rj, rq) s.heap.size) (pq_P t σ (I, J, ri, rj, rq)) := hD0.self
  generalize hAe : pq_B t σ (I, J, ri, rj, rq) s.heap.size = A at hD ⊢
  have hA : ∀ q : Nat, s.heap.size ≤ q → A q := fun q h => by rw [← hAe]; exact Or.inr h
  have hS : va_S A s.heap s.heap [] := va_S.rf
  have hG : GX [] tg σ I ri rj I ri rj rq := ⟨hG0, fun _ _ _ => rfl, fun _ _ _ _ _ => rfl, fun _ _ _ _ _ => rfl⟩
  have hl := lv_entry ([.ref a0, .ref a1]) (n := 2) (Nat.le_of_ble_eq_true rfl)
  rw [lg_entry_eq]
  generalize (lg_sl ([.ref a0, .ref a1]) ++ List.replicate (2 - (lg_sl ([.ref a0, .ref a1])).length) Slot.unset).toArray = ls at hl ⊢
  have hl : lv_has ls 2 [(0, .ref a0), (1, .ref a1)] := hl
  refine q_gen (fun Q hQ => ?_)
  have go : ∀ (H : Heap) (locs : List Loc) (ls : Array Slot), va_P D vwCl (pq_P t σ (I, J, ri, rj, rq)) H → va_D A (pq_P t σ (I, J, ri, rj, rq)) → va_S A s.heap H locs → lv_has ls 2 [(0, .ref a0), (1, .ref a1)] → W p l e ({ frames := 1, cells := 0, slots := 0, locals := 60 } : Room) s m (List.toArray ([.ref a0, .ref a1] : List Value)) below meth c H locs 0 0 Q (F0 m 0 ls []) := by
    intro H locs ls hP hD hS hl
    refine lv_aload_n hx hb dX11_copy_0 rfl (lv_at hl 0 rfl) ?_
    refine lv_iconst (v := 0) hx hb dX11_copy_1 (by decide +kernel) ?_
    refine lv_aload_n hx hb dX11_copy_2 rfl (lv_at hl 1 rfl) ?_
    refine lv_iconst (v := 0) hx hb dX11_copy_3 (by decide +kernel) ?_
    refine lv_aload_n hx hb dX11_copy_4 rfl (lv_at hl 0 rfl) ?_
    refine pn_i (v := 40) hx hb hK hP hL_a0 hK_a0 hN_a0 (by decide +kernel) dX11_copy_5 ?_
    refine lv_aload_n hx hb dX11_copy_6 rfl (lv_at hl 1 rfl) ?_
    refine pn_i (v := 40) hx hb hK hP hL_a1 hK_a1 hN_a1 (by decide +kernel) dX11_copy_7 ?_
    refine va_mmin hx hb (hml.trans hl.1.symm) hown (hts _ (tw_c tw_1103)) (hts _ (tw_c tw_467)) (hts _ (tw_c tw_276)) (hts _ (tw_c tw_468)) (Nat.le_of_ble_eq_true rfl) (Nat.le_of_ble_eq_true rfl) (Nat.zero_le _) (Nat.zero_le _) dX11_copy_8 ?_
    refine lv_topi (fun x_1 ex_1 => ?_)
    have h_2 : rg x_1 40 40 := rg_of_eq ex_1 (rg_min2 (rg_k (40 : Int32) 40 rfl) (rg_k (40 : Int32) 40 rfl) (by decide +kernel))
    refine pc_i hx hb (hml.trans hl.1.symm) hown (hts _ (tw_c tw_1104)) (hts _ (tw_c tw_1105)) (hts _ (tw_c tw_1106)) (hts _ (tw_c tw_1107)) hK hP hD hS hL_a0 hK_a0 hN_a0 hL_a1 hK_a1 hN_a1 (rg_pos (rg_k (0 : Int32) 0 rfl) (by decide +kernel)) (rg_pos h_2 (by decide +kernel)) (rg_cp (rg_k (0 : Int32) 0 rfl) h_2 (by decide +kernel)) (rg_cl h_2 (by decide +kernel)) (Nat.le_of_ble_eq_true rfl) (Nat.le_of_ble_eq_true rfl) dX11_copy_11 (fun r_3 H locs er_3 hP hD hS => ?_)
    have hG := GX.cR hG hSH hT_a0 rfl hT_a1 rfl er_3 (by decide +kernel)
    subst hQ
    exact W.vret hx hb hr (fun t1 ht hW => ⟨⟨(σ, I, J, r_3, rj, rq), rfl, ⟨r_3, rfl, hG, (cpy_eq er_3 h_2 rfl), (fun q hq => by rw [er_3, va_up_ne _ _ hq]), (by rw [er_3, show (x_1).toNatClampNeg = 40 from by have z_i := clampE x_1; have z_r := h_2; have z_1 := z_r.1; have z_2 := z_r.2; omega]; rfl)⟩, by rw [ht]; exact hP, va_K.moved hW.alike hK, hD⟩, hS.F ht⟩) hS.2.2 dX11_copy_14
  exact go _ _ _ hP hD hS hl

set_option maxRecDepth 100000 in
def g_X9_copyFrom (nR : Nat → Nat → Int32) (I : Nat → Int32) (J : Nat → Int64) (ri : Nat → Nat → Int32) (rj : Nat → Nat → Int64) (rq : Nat → Nat → Option Nat) : vM := (ap1 (va_up ri 288 (va_cpy (nR 288) (ri 288) 0 0 40)) fun (ri_5 : Nat → Nat → Int32) => (ap1 (va_up ri_5 289 (va_cpy (nR 289) (ri_5 289) 0 0 40)) fun (ri_18 : Nat → Nat → Int32) => (ap1 (va_up ri_18 290 (va_cpy (nR 290) (ri_18 290) 0 0 40)) fun (ri_31 : Nat → Nat → Int32) => (I, J, ri_31, rj, rq))))
set_option maxRecDepth 100000 in
theorem g_X9_copyFrom_e {nR : Nat → Nat → Int32} {I : Nat → Int32} {J : Nat → Int64} {ri : Nat → Nat → Int32} {rj : Nat → Nat → Int64} {rq : Nat → Nat → Option Nat} : g_X9_copyFrom nR I J ri rj rq = (ap1 (va_up ri 288 (va_cpy (nR 288) (ri 288) 0 0 40)) fun (ri_5 : Nat → Nat → Int32) => (ap1 (va_up ri_5 289 (va_cpy (nR 289) (ri_5 289) 0 0 40)) fun (ri_18 : Nat → Nat → Int32) => (ap1 (va_up ri_18 290 (va_cpy (nR 290) (ri_18 290) 0 0 40)) fun (ri_31 : Nat → Nat → Int32) => (I, J, ri_31, rj, rq)))) := rfl
set_option maxHeartbeats 4000000 in
set_option maxRecDepth 100000 in
theorem s_X9_copyFrom (l : Launch) (D : va_G) (t : pq_T) (σ : pq_S) (I : Nat → Nat → Int32) (J : Nat → Nat → Int64) (ri : Nat → Nat → Int32) (rj : Nat → Nat → Int64) (rq : Nat → Nat → Option Nat) (sz : Nat) (tg : Nat → Nat) (hSH : SH σ tg) (hG0 : GS tg σ I ri rq) (this : Nat) (a0 : Nat) (hL_this : this ∈ σ.1) (hK_this : σ.2.1 this = 9) (hL_a0 : a0 ∈ σ.1) (hK_a0 : σ.2.1 a0 = 9) (M : Nat) (hL_M : M ∈ σ.1) (hK_M : σ.2.1 M = 10) (N : Nat) (hL_N : N ∈ σ.1) (hK_N : σ.2.1 N = 10) (hO_this : this = vo σ 9 M) (hO_a0 : a0 = vo σ 9 N) (hap : AP 10 tg σ M N) : MetV l yX9_copyFrom (wa yX9_copyFrom cX9_copyFrom 2 none) ({ frames := 2, cells := 0, slots := 0, locals := 81 }) [.ref this, .ref a0] D t σ (I, J, ri, rj, rq) sz 0 0 (fun (u : pq_S × pq_M) => ∃ ri' : Nat → Nat → Int32, u = (σ, I, J, ri', rj, rq) ∧ GX [1288] tg σ I ri rj I ri' rj rq ∧ g_X9_copyFrom (vR 10 σ N ri) (vI 10 σ M I) (vJ 10 σ M J) (vR 10 σ M ri) (vL 10 σ M rj) (vQ 10 σ M rq) = ((vI 10 σ M I), (vJ 10 σ M J), (vR 10 σ M ri'), (vL 10 σ M rj), (vQ 10 σ M rq)) ∧ FR 10 tg σ M (I, J, ri, rj, rq) (I, J, ri', rj, rq)) := by
  refine Met.ofW (cc := cX9_copyFrom) (maxL := 2) (ret := none) (by decide +kernel) rfl ?_
  intro p e s m args below meth c s₁ B hml hv
  obtain ⟨rfl, hsz, hP, hK, hD0, hN⟩ := hv
  have hx := B.exec
  have hb := B.bytes
  have hr := B.returns
  have hts := atoms_spec (ws := (wa yX9_copyFrom cX9_copyFrom 2 none)) B.pre
  have hown : s.vm.findClass RX9 = some m.cls := findClass_of_methodNamed B.named
  have hlocks := B.notSynchronized
  subst hsz
  have hD : va_D (pq_B t σ (I, J, ri, rj, rq) s.heap.size) (pq_P t σ (I, J, ri, rj, rq)) := hD0.self
  generalize hAe : pq_B t σ (I, J, ri, rj, rq) s.heap.size = A at hD ⊢
  have hA : ∀ q : Nat, s.heap.size ≤ q → A q := fun q h => by rw [← hAe]; exact Or.inr h
  have hS : va_S A s.heap s.heap [] := va_S.rf
  have hG : GX [1288] tg σ I ri rj I ri rj rq := ⟨hG0, fun _ _ _ => rfl, fun _ _ _ _ _ => rfl, fun _ _ _ _ _ => rfl⟩
  have hl := lv_entry ([.ref this, .ref a0]) (n := 2) (Nat.le_of_ble_eq_true rfl)
  rw [lg_entry_eq]
  generalize (lg_sl ([.ref this, .ref a0]) ++ List.replicate (2 - (lg_sl ([.ref this, .ref a0])).length) Slot.unset).toArray = ls at hl ⊢
  have hl : lv_has ls 2 [(0, .ref this), (1, .ref a0)] := hl
  refine q_gen (fun Q hQ => ?_)
  have go : ∀ (H : Heap) (locs : List Loc) (ls : Array Slot), va_P D vwCl (pq_P t σ (I, J, ri, rj, rq)) H → va_D A (pq_P t σ (I, J, ri, rj, rq)) → va_S A s.heap H locs → lv_has ls 2 [(0, .ref this), (1, .ref a0)] → W p l e ({ frames := 2, cells := 0, slots := 0, locals := 81 } : Room) s m (List.toArray ([.ref this, .ref a0] : List Value)) below meth c H locs 0 0 Q (F0 m 0 ls []) := by
    intro H locs ls hP hD hS hl
    have hVT : VT 10 σ tg M := vt_10 hSH hL_M hK_M
    have hFr : FR 10 tg σ M (I, J, ri, rj, rq) (I, J, ri, rj, rq) := fr_rf
    obtain ⟨F, hF0⟩ : ∃ F, F = g_X9_copyFrom (vR 10 σ N ri) (vI 10 σ M I) (vJ 10 σ M J) (vR 10 σ M ri) (vL 10 σ M rj) (vQ 10 σ M rq) := ⟨_, rfl⟩
    have hF := hF0.trans g_X9_copyFrom_e
    refine lv_aload_n hx hb dX9_copyFrom_0 rfl (lv_at hl 1 rfl) ?_
    obtain ⟨w_1, hR_w_1, hL_w_1, hK_w_1, hN_w_1, hT_w_1⟩ := sh_a hSH 288 (ci := 9) (kd := 13) (len := 40) rfl (by decide +kernel) hL_a0 hK_a0
    have hO_w_1 : w_1 = vrow σ 288 N := vo_k (c := 9) hO_a0 hR_w_1
    refine pg_f (v := .ref w_1) (C := RX9) (T := TX9) (N := 3) hx hb hts (tw_i inlX9) hown hK hP hL_a0 hK_a0 (by decide +kernel) rfl 0 (by decide +kernel) (hts _ (tw_c tw_104)) (pq_hv rfl hR_w_1) dX9_copyFrom_1 ?_
    refine lv_aload_n hx hb dX9_copyFrom_4 rfl (lv_at hl 0 rfl) ?_
    obtain ⟨w_2, hR_w_2, hL_w_2, hK_w_2, hN_w_2, hT_w_2⟩ := sh_a hSH 288 (ci := 9) (kd := 13) (len := 40) rfl (by decide +kernel) hL_this hK_this
    have hO_w_2 : w_2 = vrow σ 288 M := vo_k (c := 9) hO_this hR_w_2
    refine pg_f (v := .ref w_2) (C := RX9) (T := TX9) (N := 3) hx hb hts (tw_i inlX9) hown hK hP hL_this hK_this (by decide +kernel) rfl 0 (by decide +kernel) (hts _ (tw_c tw_104)) (pq_hv rfl hR_w_2) dX9_copyFrom_5 ?_
    refine pk_v (va_runSN (As := [.ref w_1, .ref w_2]) (rest := []) ⟨hx, hb, hml, hown, hts⟩ (s_X11_copy_288_288 l D t σ I J ri rj rq H.size tg hSH hG.1 w_1 w_2 hL_w_1 hK_w_1 hN_w_1 hT_w_1 hL_w_2 hK_w_2 hN_w_2 hT_w_2) ⟨va_cnB (host := "RingsUnder") 2 hts (tw_W tw_1102) rfl rfl rfl (nl_20 hN) (hts _ (tw_c tw_2)) cd_yX11_copy_2 ⟨Nat.le_of_ble_eq_true rfl, Nat.le_of_ble_eq_true rfl⟩, hts (.static yX11_copy) (tw_c tq_static_yX11_copy), trivial⟩ ⟨pq_blind, pq_pre hK hN hP hD⟩ rfl rfl hl.1 rfl (lv_room (Nat.le_of_ble_eq_true rfl)) dX9_copyFrom_8 ⟨Nat.le_of_ble_eq_true rfl, Nat.le_of_ble_eq_true rfl⟩) hD hS hA (fun σ1 μ1 H locs hw_4 hP hD hS => ?_)
    obtain ⟨ri_5, hu_6, hg_7, hp_9, hp_10, hp_11⟩ := hw_4
    obtain ⟨hu_6a, hu_6b⟩ := Prod.mk.inj hu_6
    rw [hu_6a, hu_6b] at hP hD
    replace hF := hF.trans (ap_n (vR_cp hVT hO_w_2 (by decide +kernel) (funext fun _ => (cR_r hFr hap hO_w_1 (by decide +kernel) rfl)) hp_11))
    replace hFr := fr_R hFr hO_w_2 (by decide +kernel) hp_11
    have hG := GX.tr hG hg_7 (by decide +kernel)
    refine lv_aload_n hx hb dX9_copyFrom_11 rfl (lv_at hl 1 rfl) ?_
    obtain ⟨w_14, hR_w_14, hL_w_14, hK_w_14, hN_w_14, hT_w_14⟩ := sh_a hSH 289 (ci := 9) (kd := 13) (len := 40) rfl (by decide +kernel) hL_a0 hK_a0
    have hO_w_14 : w_14 = vrow σ 289 N := vo_k (c := 9) hO_a0 hR_w_14
    refine pg_f (v := .ref w_14) (C := RX9) (T := TX9) (N := 3) hx hb hts (tw_i inlX9) hown hK hP hL_a0 hK_a0 (by decide +kernel) rfl 1 (by decide +kernel) (hts _ (tw_c tw_105)) (pq_hv rfl hR_w_14) dX9_copyFrom_12 ?_
    refine lv_aload_n hx hb dX9_copyFrom_15 rfl (lv_at hl 0 rfl) ?_
    obtain ⟨w_15, hR_w_15, hL_w_15, hK_w_15, hN_w_15, hT_w_15⟩ := sh_a hSH 289 (ci := 9) (kd := 13) (len := 40) rfl (by decide +kernel) hL_this hK_this
    have hO_w_15 : w_15 = vrow σ 289 M := vo_k (c := 9) hO_this hR_w_15
    refine pg_f (v := .ref w_15) (C := RX9) (T := TX9) (N := 3) hx hb hts (tw_i inlX9) hown hK hP hL_this hK_this (by decide +kernel) rfl 1 (by decide +kernel) (hts _ (tw_c tw_105)) (pq_hv rfl hR_w_15) dX9_copyFrom_16 ?_
    refine pk_v (va_runSN (As := [.ref w_14, .ref w_15]) (rest := []) ⟨hx, hb, hml, hown, hts⟩ (s_X11_copy_289_289 l D t σ I J ri_5 rj rq H.size tg hSH hG.1 w_14 w_15 hL_w_14 hK_w_14 hN_w_14 hT_w_14 hL_w_15 hK_w_15 hN_w_15 hT_w_15) ⟨va_cnB (host := "RingsUnder") 2 hts (tw_W tw_1102) rfl rfl rfl (nl_20 hN) (hts _ (tw_c tw_2)) cd_yX11_copy_2 ⟨Nat.le_of_ble_eq_true rfl, Nat.le_of_ble_eq_true rfl⟩, hts (.static yX11_copy) (tw_c tq_static_yX11_copy), trivial⟩ ⟨pq_blind, pq_pre hK hN hP hD⟩ rfl rfl hl.1 rfl (lv_room (Nat.le_of_ble_eq_true rfl)) dX9_copyFrom_19 ⟨Nat.le_of_ble_eq_true rfl, Nat.le_of_ble_eq_true rfl⟩) hD hS hA (fun σ1 μ1 H locs hw_17 hP hD hS => ?_)
    obtain ⟨ri_18, hu_19, hg_20, hp_22, hp_23, hp_24⟩ := hw_17
    obtain ⟨hu_19a, hu_19b⟩ := Prod.mk.inj hu_19
    rw [hu_19a, hu_19b] at hP hD
    replace hF := hF.trans (ap_n (vR_cp hVT hO_w_15 (by decide +kernel) (funext fun _ => (cR_r hFr hap hO_w_14 (by decide +kernel) rfl)) hp_24))
    replace hFr := fr_R hFr hO_w_15 (by decide +kernel) hp_24
    have hG := GX.tr hG hg_20 (by decide +kernel)
    refine lv_aload_n hx hb dX9_copyFrom_22 rfl (lv_at hl 1 rfl) ?_
    obtain ⟨w_27, hR_w_27, hL_w_27, hK_w_27, hN_w_27, hT_w_27⟩ := sh_a hSH 290 (ci := 9) (kd := 13) (len := 40) rfl (by decide +kernel) hL_a0 hK_a0
    have hO_w_27 : w_27 = vrow σ 290 N := vo_k (c := 9) hO_a0 hR_w_27
    refine pg_f (v := .ref w_27) (C := RX9) (T := TX9) (N := 3) hx hb hts (tw_i inlX9) hown hK hP hL_a0 hK_a0 (by decide +kernel) rfl 2 (by decide +kernel) (hts _ (tw_c tw_106)) (pq_hv rfl hR_w_27) dX9_copyFrom_23 ?_
    refine lv_aload_n hx hb dX9_copyFrom_26 rfl (lv_at hl 0 rfl) ?_
    obtain ⟨w_28, hR_w_28, hL_w_28, hK_w_28, hN_w_28, hT_w_28⟩ := sh_a hSH 290 (ci := 9) (kd := 13) (len := 40) rfl (by decide +kernel) hL_this hK_this
    have hO_w_28 : w_28 = vrow σ 290 M := vo_k (c := 9) hO_this hR_w_28
    refine pg_f (v := .ref w_28) (C := RX9) (T := TX9) (N := 3) hx hb hts (tw_i inlX9) hown hK hP hL_this hK_this (by decide +kernel) rfl 2 (by decide +kernel) (hts _ (tw_c tw_106)) (pq_hv rfl hR_w_28) dX9_copyFrom_27 ?_
    refine pk_v (va_runSN (As := [.ref w_27, .ref w_28]) (rest := []) ⟨hx, hb, hml, hown, hts⟩ (s_X11_copy_290_290 l D t σ I J ri_18 rj rq H.size tg hSH hG.1 w_27 w_28 hL_w_27 hK_w_27 hN_w_27 hT_w_27 hL_w_28 hK_w_28 hN_w_28 hT_w_28) ⟨va_cnB (host := "RingsUnder") 2 hts (tw_W tw_1102) rfl rfl rfl (nl_20 hN) (hts _ (tw_c tw_2)) cd_yX11_copy_2 ⟨Nat.le_of_ble_eq_true rfl, Nat.le_of_ble_eq_true rfl⟩, hts (.static yX11_copy) (tw_c tq_static_yX11_copy), trivial⟩ ⟨pq_blind, pq_pre hK hN hP hD⟩ rfl rfl hl.1 rfl (lv_room (Nat.le_of_ble_eq_true rfl)) dX9_copyFrom_30 ⟨Nat.le_of_ble_eq_true rfl, Nat.le_of_ble_eq_true rfl⟩) hD hS hA (fun σ1 μ1 H locs hw_30 hP hD hS => ?_)
    obtain ⟨ri_31, hu_32, hg_33, hp_35, hp_36, hp_37⟩ := hw_30
    obtain ⟨hu_32a, hu_32b⟩ := Prod.mk.inj hu_32
    rw [hu_32a, hu_32b] at hP hD
    replace hF := hF.trans (ap_n (vR_cp hVT hO_w_28 (by decide +kernel) (funext fun _ => (cR_r hFr hap hO_w_27 (by decide +kernel) rfl)) hp_37))
    replace hFr := fr_R hFr hO_w_28 (by decide +kernel) hp_37
    have hG := GX.tr hG hg_33 (by decide +kernel)
    subst hQ
    exact W.vret hx hb hr (fun t1 ht hW => ⟨⟨(σ, I, J, ri_31, rj, rq), rfl, ⟨ri_31, rfl, hG, (hF0.symm.trans hF), hFr⟩, by rw [ht]; exact hP, va_K.moved hW.alike hK, hD⟩, hS.F ht⟩) hS.2.2 dX9_copyFrom_33
  exact go _ _ _ hP hD hS hl

set_option maxHeartbeats 4000000 in
set_option maxRecDepth 100000 in
theorem s_X11_copy_79_79 (l : Launch) (D : va_G) (t : pq_T) (σ : pq_S) (I : Nat → Nat → Int32) (J : Nat → Nat → Int64) (ri : Nat → Nat → Int32) (rj : Nat → Nat → Int64) (rq : Nat → Nat → Option Nat) (sz : Nat) (tg : Nat → Nat) (hSH : SH σ tg) (hG0 : GS tg σ I ri rq) (a0 : Nat) (a1 : Nat) (hL_a0 : a0 ∈ σ.1) (hK_a0 : σ.2.1 a0 = 13) (hN_a0 : σ.2.2.2 a0 = 40) (hT_a0 : tg a0 = 79) (hL_a1 : a1 ∈ σ.1) (hK_a1 : σ.2.1 a1 = 13) (hN_a1 : σ.2.2.2 a1 = 40) (hT_a1 : tg a1 = 79) : MetV l yX11_copy (wa yX11_copy cX11_copy 2 none) ({ frames := 1, cells := 0, slots := 0, locals := 60 }) [.ref a0, .ref a1] D t σ (I, J, ri, rj, rq) sz 0 0 (fun (u : pq_S × pq_M) => ∃ ri' : Nat → Nat → Int32, u = (σ, I, J, ri', rj, rq) ∧ GX [1079] tg σ I ri rj I ri' rj rq ∧ (∀ j, j < 40 → ri' a1 j = ri a0 j) ∧ (∀ q, q ≠ a1 → ri' q = ri q) ∧ (ri' = va_up ri a1 (va_cpy (ri a0) (ri a1) 0 0 40))) := by
  refine Met.ofW (cc := cX11_copy) (maxL := 2) (ret := none) (by decide +kernel) rfl ?_
  intro p e s m args below meth c s₁ B hml hv
  obtain ⟨rfl, hsz, hP, hK, hD0, hN⟩ := hv
  have hx := B.exec
  have hb := B.bytes
  have hr := B.returns
  have hts := atoms_spec (ws := (wa yX11_copy cX11_copy 2 none)) B.pre
  have hown : s.vm.findClass RX11 = some m.cls := findClass_of_methodNamed B.named
  have hlocks := B.notSynchronized
  subst hsz
  have hD : va_D (pq_B t σ (I, J, ri, rj, rq) s.heap.size) (pq_P t σ (I, J, ri, rj, rq)) := hD0.self
  generalize hAe : pq_B t σ (I, J, ri, rj, rq) s.heap.size = A at hD ⊢
  have hA : ∀ q : Nat, s.heap.size ≤ q → A q := fun q h => by rw [← hAe]; exact Or.inr h
  have hS : va_S A s.heap s.heap [] := va_S.rf
  have hG : GX [1079] tg σ I ri rj I ri rj rq := ⟨hG0, fun _ _ _ => rfl, fun _ _ _ _ _ => rfl, fun _ _ _ _ _ => rfl⟩
  have hl := lv_entry ([.ref a0, .ref a1]) (n := 2) (Nat.le_of_ble_eq_true rfl)
  rw [lg_entry_eq]
  generalize (lg_sl ([.ref a0, .ref a1]) ++ List.replicate (2 - (lg_sl ([.ref a0, .ref a1])).length) Slot.unset).toArray = ls at hl ⊢
  have hl : lv_has ls 2 [(0, .ref a0), (1, .ref a1)] := hl
  refine q_gen (fun Q hQ => ?_)
  have go : ∀ (H : Heap) (locs : List Loc) (ls : Array Slot), va_P D vwCl (pq_P t σ (I, J, ri, rj, rq)) H → va_D A (pq_P t σ (I, J, ri, rj, rq)) → va_S A s.heap H locs → lv_has ls 2 [(0, .ref a0), (1, .ref a1)] → W p l e ({ frames := 1, cells := 0, slots := 0, locals := 60 } : Room) s m (List.toArray ([.ref a0, .ref a1] : List Value)) below meth c H locs 0 0 Q (F0 m 0 ls []) := by
    intro H locs ls hP hD hS hl
    refine lv_aload_n hx hb dX11_copy_0 rfl (lv_at hl 0 rfl) ?_
    refine lv_iconst (v := 0) hx hb dX11_copy_1 (by decide +kernel) ?_
    refine lv_aload_n hx hb dX11_copy_2 rfl (lv_at hl 1 rfl) ?_
    refine lv_iconst (v := 0) hx hb dX11_copy_3 (by decide +kernel) ?_
    refine lv_aload_n hx hb dX11_copy_4 rfl (lv_at hl 0 rfl) ?_
    refine pn_i (v := 40) hx hb hK hP hL_a0 hK_a0 hN_a0 (by decide +kernel) dX11_copy_5 ?_
    refine lv_aload_n hx hb dX11_copy_6 rfl (lv_at hl 1 rfl) ?_
    refine pn_i (v := 40) hx hb hK hP hL_a1 hK_a1 hN_a1 (by decide +kernel) dX11_copy_7 ?_
    refine va_mmin hx hb (hml.trans hl.1.symm) hown (hts _ (tw_c tw_1103)) (hts _ (tw_c tw_467)) (hts _ (tw_c tw_276)) (hts _ (tw_c tw_468)) (Nat.le_of_ble_eq_true rfl) (Nat.le_of_ble_eq_true rfl) (Nat.zero_le _) (Nat.zero_le _) dX11_copy_8 ?_
    refine lv_topi (fun x_1 ex_1 => ?_)
    have h_2 : rg x_1 40 40 := rg_of_eq ex_1 (rg_min2 (rg_k (40 : Int32) 40 rfl) (rg_k (40 : Int32) 40 rfl) (by decide +kernel))
    refine pc_i hx hb (hml.trans hl.1.symm) hown (hts _ (tw_c tw_1104)) (hts _ (tw_c tw_1105)) (hts _ (tw_c tw_1106)) (hts _ (tw_c tw_1107)) hK hP hD hS hL_a0 hK_a0 hN_a0 hL_a1 hK_a1 hN_a1 (rg_pos (rg_k (0 : Int32) 0 rfl) (by decide +kernel)) (rg_pos h_2 (by decide +kernel)) (rg_cp (rg_k (0 : Int32) 0 rfl) h_2 (by decide +kernel)) (rg_cl h_2 (by decide +kernel)) (Nat.le_of_ble_eq_true rfl) (Nat.le_of_ble_eq_true rfl) dX11_copy_11 (fun r_3 H locs er_3 hP hD hS => ?_)
    have hG := GX.cR hG hSH hT_a0 rfl hT_a1 rfl er_3 (by decide +kernel)
    subst hQ
    exact W.vret hx hb hr (fun t1 ht hW => ⟨⟨(σ, I, J, r_3, rj, rq), rfl, ⟨r_3, rfl, hG, (cpy_eq er_3 h_2 rfl), (fun q hq => by rw [er_3, va_up_ne _ _ hq]), (by rw [er_3, show (x_1).toNatClampNeg = 40 from by have z_i := clampE x_1; have z_r := h_2; have z_1 := z_r.1; have z_2 := z_r.2; omega]; rfl)⟩, by rw [ht]; exact hP, va_K.moved hW.alike hK, hD⟩, hS.F ht⟩) hS.2.2 dX11_copy_14
  exact go _ _ _ hP hD hS hl
