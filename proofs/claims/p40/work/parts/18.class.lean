theorem dX11_beds_0 : decode cX11_beds 0 = .ok (.aload_n 0, 1) := oc_42 (by decide +kernel)
theorem dX11_beds_1 : decode cX11_beds 1 = .ok (.iload_n 1, 1) := oc_27 (by decide +kernel)
theorem dX11_beds_2 : decode cX11_beds 2 = .ok (.invokevirtual 119, 3) := oc_182 (a := 0) (b := 119) (by decide +kernel)
theorem dX11_beds_5 : decode cX11_beds 5 = .ok (.ifCond .ne 5, 3) := oc_154 (a := 0) (b := 5) (by decide +kernel)
theorem dX11_beds_10 : decode cX11_beds 10 = .ok (.aload_n 0, 1) := oc_42 (by decide +kernel)
theorem dX11_beds_11 : decode cX11_beds 11 = .ok (.getfield 10, 3) := oc_180 (a := 0) (b := 10) (by decide +kernel)
theorem dX11_beds_14 : decode cX11_beds 14 = .ok (.getfield 36, 3) := oc_180 (a := 0) (b := 36) (by decide +kernel)
theorem tw_369 : Cond.fieldLink RX11 138 "RingsUnder$Land" "beds" "[I" ∈ wsL_law := sg_16 _ (List.mem_of_getElem? (i := 9) rfl)
theorem dX11_beds_17 : decode cX11_beds 17 = .ok (.getfield 138, 3) := oc_180 (a := 0) (b := 138) (by decide +kernel)
theorem dX11_beds_20 : decode cX11_beds 20 = .ok (.iload_n 1, 1) := oc_27 (by decide +kernel)
theorem dX11_beds_21 : decode cX11_beds 21 = .ok (.iaload, 1) := oc_46 (by decide +kernel)
theorem dX11_beds_22 : decode cX11_beds 22 = .ok (.i2l, 1) := oc_133 (by decide +kernel)
theorem dX11_beds_23 : decode cX11_beds 23 = .ok (.iload_n 2, 1) := oc_28 (by decide +kernel)
theorem dX11_beds_24 : decode cX11_beds 24 = .ok (.i2l, 1) := oc_133 (by decide +kernel)
theorem dX11_beds_25 : decode cX11_beds 25 = .ok (.ladd, 1) := oc_97 (by decide +kernel)
theorem dX11_beds_26 : decode cX11_beds 26 = .ok (.lstore_n 3, 1) := oc_66 (by decide +kernel)
theorem dX11_beds_27 : decode cX11_beds 27 = .ok (.lload_n 3, 1) := oc_33 (by decide +kernel)
theorem dX11_beds_28 : decode cX11_beds 28 = .ok (.lconst 0, 1) := oc_9 (by decide +kernel)
theorem dX11_beds_29 : decode cX11_beds 29 = .ok (.lcmp, 1) := oc_148 (by decide +kernel)
theorem dX11_beds_41 : decode cX11_beds 41 = .ok (.iconst (-1), 1) := oc_2 (by decide +kernel)
theorem dX11_beds_42 : decode cX11_beds 42 = .ok (.ireturn, 1) := oc_172 (by decide +kernel)
theorem dX11_beds_30 : decode cX11_beds 30 = .ok (.ifCond .lt 11, 3) := oc_155 (a := 0) (b := 11) (by decide +kernel)
theorem dX11_beds_33 : decode cX11_beds 33 = .ok (.lload_n 3, 1) := oc_33 (by decide +kernel)
theorem tw_370 : Cond.constantLong RX11 141 (20) ∈ wsL_law := sg_16 _ (List.mem_of_getElem? (i := 10) rfl)
theorem dX11_beds_34 : decode cX11_beds 34 = .ok (.ldc2_w 141, 3) := oc_20 (a := 0) (b := 141) (by decide +kernel)
theorem dX11_beds_37 : decode cX11_beds 37 = .ok (.lcmp, 1) := oc_148 (by decide +kernel)
theorem dX11_beds_38 : decode cX11_beds 38 = .ok (.ifCond .le 5, 3) := oc_158 (a := 0) (b := 5) (by decide +kernel)
theorem dX11_beds_43 : decode cX11_beds 43 = .ok (.aload_n 0, 1) := oc_42 (by decide +kernel)
theorem dX11_beds_44 : decode cX11_beds 44 = .ok (.getfield 10, 3) := oc_180 (a := 0) (b := 10) (by decide +kernel)
theorem dX11_beds_47 : decode cX11_beds 47 = .ok (.getfield 36, 3) := oc_180 (a := 0) (b := 36) (by decide +kernel)
theorem dX11_beds_50 : decode cX11_beds 50 = .ok (.getfield 138, 3) := oc_180 (a := 0) (b := 138) (by decide +kernel)
theorem dX11_beds_53 : decode cX11_beds 53 = .ok (.iload_n 1, 1) := oc_27 (by decide +kernel)
theorem dX11_beds_54 : decode cX11_beds 54 = .ok (.lload_n 3, 1) := oc_33 (by decide +kernel)
theorem dX11_beds_55 : decode cX11_beds 55 = .ok (.l2i, 1) := oc_136 (by decide +kernel)
theorem dX11_beds_56 : decode cX11_beds 56 = .ok (.iastore, 1) := oc_79 (by decide +kernel)
theorem dX11_beds_57 : decode cX11_beds 57 = .ok (.aload_n 0, 1) := oc_42 (by decide +kernel)
theorem dX11_beds_58 : decode cX11_beds 58 = .ok (.getfield 10, 3) := oc_180 (a := 0) (b := 10) (by decide +kernel)
theorem dX11_beds_61 : decode cX11_beds 61 = .ok (.getfield 36, 3) := oc_180 (a := 0) (b := 36) (by decide +kernel)
theorem dX11_beds_64 : decode cX11_beds 64 = .ok (.getfield 138, 3) := oc_180 (a := 0) (b := 138) (by decide +kernel)
theorem dX11_beds_67 : decode cX11_beds 67 = .ok (.iload_n 1, 1) := oc_27 (by decide +kernel)
theorem dX11_beds_68 : decode cX11_beds 68 = .ok (.iaload, 1) := oc_46 (by decide +kernel)
theorem dX11_beds_69 : decode cX11_beds 69 = .ok (.ireturn, 1) := oc_172 (by decide +kernel)
theorem dX11_beds_8 : decode cX11_beds 8 = .ok (.iconst (-1), 1) := oc_2 (by decide +kernel)
theorem dX11_beds_9 : decode cX11_beds 9 = .ok (.ireturn, 1) := oc_172 (by decide +kernel)
theorem dX11_lot_0 : decode cX11_lot 0 = .ok (.aload_n 0, 1) := oc_42 (by decide +kernel)
theorem dX11_lot_1 : decode cX11_lot 1 = .ok (.getfield 10, 3) := oc_180 (a := 0) (b := 10) (by decide +kernel)
theorem tw_379 : Cond.fieldLink RX11 143 "RingsUnder$World" "folk" "LRingsUnder$Folk;" ∈ wsL_law := sg_16 _ (List.mem_of_getElem? (i := 19) rfl)
theorem dX11_lot_4 : decode cX11_lot 4 = .ok (.getfield 143, 3) := oc_180 (a := 0) (b := 143) (by decide +kernel)
theorem dX11_lot_7 : decode cX11_lot 7 = .ok (.astore_n 2, 1) := oc_77 (by decide +kernel)
theorem dX11_lot_8 : decode cX11_lot 8 = .ok (.iload_n 1, 1) := oc_27 (by decide +kernel)
theorem dX11_lot_9 : decode cX11_lot 9 = .ok (.iconst 0, 1) := oc_3 (by decide +kernel)
theorem dX11_lot_10 : decode cX11_lot 10 = .ok (.bipush 60, 2) := oc_16 (a := 60) (by decide +kernel)
theorem dX11_lot_12 : decode cX11_lot 12 = .ok (.invokestatic 50, 3) := oc_184 (a := 0) (b := 50) (by decide +kernel)
theorem dX11_lot_26 : decode cX11_lot 26 = .ok (.iconst (-1), 1) := oc_2 (by decide +kernel)
theorem dX11_lot_27 : decode cX11_lot 27 = .ok (.ireturn, 1) := oc_172 (by decide +kernel)
theorem dX11_lot_15 : decode cX11_lot 15 = .ok (.ifCond .eq 11, 3) := oc_153 (a := 0) (b := 11) (by decide +kernel)
theorem dX11_lot_18 : decode cX11_lot 18 = .ok (.aload_n 2, 1) := oc_44 (by decide +kernel)
theorem tw_380 : Cond.fieldLink RX11 147 "RingsUnder$Folk" "lots" "I" ∈ wsL_law := sg_16 _ (List.mem_of_getElem? (i := 20) rfl)
theorem dX11_lot_19 : decode cX11_lot 19 = .ok (.getfield 147, 3) := oc_180 (a := 0) (b := 147) (by decide +kernel)
theorem dX11_lot_22 : decode cX11_lot 22 = .ok (.iconst 5, 1) := oc_8 (by decide +kernel)
theorem dX11_lot_23 : decode cX11_lot 23 = .ok (.if_icmp .lt 5, 3) := oc_161 (a := 0) (b := 5) (by decide +kernel)
theorem dX11_lot_28 : decode cX11_lot 28 = .ok (.aload_n 2, 1) := oc_44 (by decide +kernel)
theorem tw_381 : Cond.fieldLink RX11 152 "RingsUnder$Folk" "lotBeds" "[I" ∈ wsL_law := sg_16 _ (List.mem_of_getElem? (i := 21) rfl)
theorem dX11_lot_29 : decode cX11_lot 29 = .ok (.getfield 152, 3) := oc_180 (a := 0) (b := 152) (by decide +kernel)
theorem dX11_lot_32 : decode cX11_lot 32 = .ok (.aload_n 2, 1) := oc_44 (by decide +kernel)
theorem dX11_lot_33 : decode cX11_lot 33 = .ok (.getfield 147, 3) := oc_180 (a := 0) (b := 147) (by decide +kernel)
theorem dX11_lot_36 : decode cX11_lot 36 = .ok (.iload_n 1, 1) := oc_27 (by decide +kernel)
theorem dX11_lot_37 : decode cX11_lot 37 = .ok (.iastore, 1) := oc_79 (by decide +kernel)
theorem dX11_lot_38 : decode cX11_lot 38 = .ok (.aload_n 2, 1) := oc_44 (by decide +kernel)
theorem dX11_lot_39 : decode cX11_lot 39 = .ok (.dup, 1) := oc_89 (by decide +kernel)
theorem dX11_lot_40 : decode cX11_lot 40 = .ok (.getfield 147, 3) := oc_180 (a := 0) (b := 147) (by decide +kernel)
theorem dX11_lot_43 : decode cX11_lot 43 = .ok (.iconst 1, 1) := oc_4 (by decide +kernel)
theorem dX11_lot_44 : decode cX11_lot 44 = .ok (.iadd, 1) := oc_96 (by decide +kernel)
theorem dX11_lot_45 : decode cX11_lot 45 = .ok (.putfield 147, 3) := oc_181 (a := 0) (b := 147) (by decide +kernel)
theorem dX11_lot_48 : decode cX11_lot 48 = .ok (.aload_n 2, 1) := oc_44 (by decide +kernel)
theorem dX11_lot_49 : decode cX11_lot 49 = .ok (.getfield 147, 3) := oc_180 (a := 0) (b := 147) (by decide +kernel)
theorem dX11_lot_52 : decode cX11_lot 52 = .ok (.iconst 1, 1) := oc_4 (by decide +kernel)
theorem dX11_lot_53 : decode cX11_lot 53 = .ok (.isub, 1) := oc_100 (by decide +kernel)
theorem dX11_lot_54 : decode cX11_lot 54 = .ok (.ireturn, 1) := oc_172 (by decide +kernel)
theorem dX11_person_0 : decode cX11_person 0 = .ok (.iload_n 1, 1) := oc_27 (by decide +kernel)
theorem dX11_person_1 : decode cX11_person 1 = .ok (.iconst 0, 1) := oc_3 (by decide +kernel)
theorem dX11_person_2 : decode cX11_person 2 = .ok (.bipush 9, 2) := oc_16 (a := 9) (by decide +kernel)
theorem dX11_person_4 : decode cX11_person 4 = .ok (.invokestatic 50, 3) := oc_184 (a := 0) (b := 50) (by decide +kernel)
theorem dX11_person_55 : decode cX11_person 55 = .ok (.istore 6, 2) := oc_54 (by decide +kernel)
theorem dX11_person_57 : decode cX11_person 57 = .ok (.iload 6, 2) := oc_21 (by decide +kernel)
theorem dX11_person_77 : decode cX11_person 77 = .ok (.iconst (-1), 1) := oc_2 (by decide +kernel)
theorem dX11_person_78 : decode cX11_person 78 = .ok (.ireturn, 1) := oc_172 (by decide +kernel)
theorem dX11_person_59 : decode cX11_person 59 = .ok (.ifCond .eq 18, 3) := oc_153 (a := 0) (b := 18) (by decide +kernel)
theorem dX11_person_62 : decode cX11_person 62 = .ok (.aload_n 0, 1) := oc_42 (by decide +kernel)
theorem dX11_person_63 : decode cX11_person 63 = .ok (.getfield 10, 3) := oc_180 (a := 0) (b := 10) (by decide +kernel)
theorem dX11_person_66 : decode cX11_person 66 = .ok (.getfield 143, 3) := oc_180 (a := 0) (b := 143) (by decide +kernel)
theorem tw_390 : Cond.fieldLink RX11 155 "RingsUnder$Folk" "persons" "I" ∈ wsL_law := sg_17 _ (List.mem_of_getElem? (i := 6) rfl)
theorem dX11_person_69 : decode cX11_person 69 = .ok (.getfield 155, 3) := oc_180 (a := 0) (b := 155) (by decide +kernel)
theorem dX11_person_72 : decode cX11_person 72 = .ok (.bipush 40, 2) := oc_16 (a := 40) (by decide +kernel)
theorem dX11_person_74 : decode cX11_person 74 = .ok (.if_icmp .lt 5, 3) := oc_161 (a := 0) (b := 5) (by decide +kernel)
theorem dX11_person_79 : decode cX11_person 79 = .ok (.aload_n 0, 1) := oc_42 (by decide +kernel)
theorem dX11_person_80 : decode cX11_person 80 = .ok (.getfield 10, 3) := oc_180 (a := 0) (b := 10) (by decide +kernel)
theorem dX11_person_83 : decode cX11_person 83 = .ok (.getfield 143, 3) := oc_180 (a := 0) (b := 143) (by decide +kernel)
theorem dX11_person_86 : decode cX11_person 86 = .ok (.iload_n 1, 1) := oc_27 (by decide +kernel)
theorem dX11_person_87 : decode cX11_person 87 = .ok (.iload_n 2, 1) := oc_28 (by decide +kernel)
theorem dX11_person_88 : decode cX11_person 88 = .ok (.iload_n 3, 1) := oc_29 (by decide +kernel)
theorem dX11_person_89 : decode cX11_person 89 = .ok (.iload 4, 2) := oc_21 (by decide +kernel)
theorem dX11_person_91 : decode cX11_person 91 = .ok (.iload 5, 2) := oc_21 (by decide +kernel)
theorem tw_391 : Cond.methodLink RX11 158 yX0_addPerson ∈ wsL_law := sg_17 _ (List.mem_of_getElem? (i := 7) rfl)
theorem tw_392 : Cond.instanceMethod yX0_addPerson ∈ wsL_law := sg_17 _ (List.mem_of_getElem? (i := 8) rfl)
theorem tw_393 : Cond.selects RX0 yX0_addPerson yX0_addPerson ∈ wsL_law := sg_17 _ (List.mem_of_getElem? (i := 9) rfl)
theorem tw_394 : Cond.code yX0_addPerson cX0_addPerson 7 (some .int) ∈ wsL_law := sg_17 _ (List.mem_of_getElem? (i := 10) rfl)
theorem dX11_person_93 : decode cX11_person 93 = .ok (.invokevirtual 158, 3) := oc_182 (a := 0) (b := 158) (by decide +kernel)
theorem dX11_person_96 : decode cX11_person 96 = .ok (.ireturn, 1) := oc_172 (by decide +kernel)
theorem dX11_person_54 : decode cX11_person 54 = .ok (.iconst 0, 1) := oc_3 (by decide +kernel)
theorem dX11_person_7 : decode cX11_person 7 = .ok (.ifCond .eq 47, 3) := oc_153 (a := 0) (b := 47) (by decide +kernel)
theorem dX11_person_10 : decode cX11_person 10 = .ok (.iload_n 2, 1) := oc_28 (by decide +kernel)
theorem dX11_person_11 : decode cX11_person 11 = .ok (.iconst 0, 1) := oc_3 (by decide +kernel)
theorem dX11_person_12 : decode cX11_person 12 = .ok (.bipush 99, 2) := oc_16 (a := 99) (by decide +kernel)
theorem dX11_person_14 : decode cX11_person 14 = .ok (.invokestatic 50, 3) := oc_184 (a := 0) (b := 50) (by decide +kernel)
theorem dX11_person_17 : decode cX11_person 17 = .ok (.ifCond .eq 37, 3) := oc_153 (a := 0) (b := 37) (by decide +kernel)
theorem dX11_person_20 : decode cX11_person 20 = .ok (.iload_n 3, 1) := oc_29 (by decide +kernel)
theorem dX11_person_21 : decode cX11_person 21 = .ok (.iconst 0, 1) := oc_3 (by decide +kernel)
theorem dX11_person_22 : decode cX11_person 22 = .ok (.bipush 7, 2) := oc_16 (a := 7) (by decide +kernel)
theorem dX11_person_24 : decode cX11_person 24 = .ok (.invokestatic 50, 3) := oc_184 (a := 0) (b := 50) (by decide +kernel)
theorem dX11_person_27 : decode cX11_person 27 = .ok (.ifCond .eq 27, 3) := oc_153 (a := 0) (b := 27) (by decide +kernel)
theorem dX11_person_30 : decode cX11_person 30 = .ok (.aload_n 0, 1) := oc_42 (by decide +kernel)
theorem dX11_person_31 : decode cX11_person 31 = .ok (.iload 4, 2) := oc_21 (by decide +kernel)
theorem dX11_person_33 : decode cX11_person 33 = .ok (.invokevirtual 46, 3) := oc_182 (a := 0) (b := 46) (by decide +kernel)
theorem dX11_person_36 : decode cX11_person 36 = .ok (.ifCond .eq 18, 3) := oc_153 (a := 0) (b := 18) (by decide +kernel)
theorem dX11_person_39 : decode cX11_person 39 = .ok (.iload 5, 2) := oc_21 (by decide +kernel)
theorem dX11_person_41 : decode cX11_person 41 = .ok (.iconst 0, 1) := oc_3 (by decide +kernel)
theorem dX11_person_42 : decode cX11_person 42 = .ok (.bipush 100, 2) := oc_16 (a := 100) (by decide +kernel)
theorem dX11_person_44 : decode cX11_person 44 = .ok (.invokestatic 50, 3) := oc_184 (a := 0) (b := 50) (by decide +kernel)
theorem dX11_person_47 : decode cX11_person 47 = .ok (.ifCond .eq 7, 3) := oc_153 (a := 0) (b := 7) (by decide +kernel)
theorem dX11_person_50 : decode cX11_person 50 = .ok (.iconst 1, 1) := oc_4 (by decide +kernel)
theorem dX11_person_51 : decode cX11_person 51 = .ok (.goto 4, 3) := oc_167 (a := 0) (b := 4) (by decide +kernel)
theorem dX11_isPerson_0 : decode cX11_isPerson 0 = .ok (.iload_n 1, 1) := oc_27 (by decide +kernel)
theorem dX11_isPerson_1 : decode cX11_isPerson 1 = .ok (.iconst 0, 1) := oc_3 (by decide +kernel)
theorem dX11_isPerson_2 : decode cX11_isPerson 2 = .ok (.aload_n 0, 1) := oc_42 (by decide +kernel)
theorem dX11_isPerson_3 : decode cX11_isPerson 3 = .ok (.getfield 10, 3) := oc_180 (a := 0) (b := 10) (by decide +kernel)
theorem dX11_isPerson_6 : decode cX11_isPerson 6 = .ok (.getfield 143, 3) := oc_180 (a := 0) (b := 143) (by decide +kernel)
theorem dX11_isPerson_9 : decode cX11_isPerson 9 = .ok (.getfield 155, 3) := oc_180 (a := 0) (b := 155) (by decide +kernel)
theorem dX11_isPerson_12 : decode cX11_isPerson 12 = .ok (.iconst 1, 1) := oc_4 (by decide +kernel)
theorem dX11_isPerson_13 : decode cX11_isPerson 13 = .ok (.isub, 1) := oc_100 (by decide +kernel)
theorem dX11_isPerson_14 : decode cX11_isPerson 14 = .ok (.invokestatic 50, 3) := oc_184 (a := 0) (b := 50) (by decide +kernel)
theorem dX11_isPerson_17 : decode cX11_isPerson 17 = .ok (.ireturn, 1) := oc_172 (by decide +kernel)
theorem dX11_isLot_0 : decode cX11_isLot 0 = .ok (.iload_n 1, 1) := oc_27 (by decide +kernel)
theorem dX11_isLot_1 : decode cX11_isLot 1 = .ok (.bipush 100, 2) := oc_16 (a := 100) (by decide +kernel)
theorem dX11_isLot_3 : decode cX11_isLot 3 = .ok (.bipush 100, 2) := oc_16 (a := 100) (by decide +kernel)
theorem dX11_isLot_5 : decode cX11_isLot 5 = .ok (.aload_n 0, 1) := oc_42 (by decide +kernel)
theorem dX11_isLot_6 : decode cX11_isLot 6 = .ok (.getfield 10, 3) := oc_180 (a := 0) (b := 10) (by decide +kernel)
theorem dX11_isLot_9 : decode cX11_isLot 9 = .ok (.getfield 143, 3) := oc_180 (a := 0) (b := 143) (by decide +kernel)
theorem dX11_isLot_12 : decode cX11_isLot 12 = .ok (.getfield 147, 3) := oc_180 (a := 0) (b := 147) (by decide +kernel)
theorem dX11_isLot_15 : decode cX11_isLot 15 = .ok (.iadd, 1) := oc_96 (by decide +kernel)
theorem dX11_isLot_16 : decode cX11_isLot 16 = .ok (.iconst 1, 1) := oc_4 (by decide +kernel)
theorem dX11_isLot_17 : decode cX11_isLot 17 = .ok (.isub, 1) := oc_100 (by decide +kernel)
theorem dX11_isLot_18 : decode cX11_isLot 18 = .ok (.invokestatic 50, 3) := oc_184 (a := 0) (b := 50) (by decide +kernel)
theorem dX11_isLot_21 : decode cX11_isLot 21 = .ok (.ireturn, 1) := oc_172 (by decide +kernel)
theorem dX11_go_0 : decode cX11_go 0 = .ok (.aload_n 0, 1) := oc_42 (by decide +kernel)
theorem dX11_go_1 : decode cX11_go 1 = .ok (.iload_n 1, 1) := oc_27 (by decide +kernel)
theorem tw_405 : Cond.methodLink RX11 162 yX11_isPerson ∈ wsL_law := sg_17 _ (List.mem_of_getElem? (i := 21) rfl)
theorem tw_406 : Cond.instanceMethod yX11_isPerson ∈ wsL_law := sg_17 _ (List.mem_of_getElem? (i := 22) rfl)
theorem tw_407 : Cond.selects RX11 yX11_isPerson yX11_isPerson ∈ wsL_law := sg_17 _ (List.mem_of_getElem? (i := 23) rfl)
theorem tw_408 : Cond.code yX11_isPerson cX11_isPerson 2 (some .boolean) ∈ wsL_law := sg_18 _ (List.mem_of_getElem? (i := 0) rfl)
theorem dX11_go_2 : decode cX11_go 2 = .ok (.invokevirtual 162, 3) := oc_182 (a := 0) (b := 162) (by decide +kernel)
theorem dX11_go_5 : decode cX11_go 5 = .ok (.ifCond .ne 5, 3) := oc_154 (a := 0) (b := 5) (by decide +kernel)
theorem dX11_go_10 : decode cX11_go 10 = .ok (.aload_n 0, 1) := oc_42 (by decide +kernel)
theorem dX11_go_11 : decode cX11_go 11 = .ok (.getfield 10, 3) := oc_180 (a := 0) (b := 10) (by decide +kernel)
theorem dX11_go_14 : decode cX11_go 14 = .ok (.getfield 143, 3) := oc_180 (a := 0) (b := 143) (by decide +kernel)
theorem dX11_go_17 : decode cX11_go 17 = .ok (.astore_n 3, 1) := oc_78 (by decide +kernel)
theorem dX11_go_18 : decode cX11_go 18 = .ok (.aload_n 3, 1) := oc_45 (by decide +kernel)
theorem tw_404 : Cond.fieldLink RX11 165 "RingsUnder$Folk" "place" "[I" ∈ wsL_law := sg_17 _ (List.mem_of_getElem? (i := 20) rfl)
theorem dX11_go_19 : decode cX11_go 19 = .ok (.getfield 165, 3) := oc_180 (a := 0) (b := 165) (by decide +kernel)
theorem dX11_go_22 : decode cX11_go 22 = .ok (.iload_n 1, 1) := oc_27 (by decide +kernel)
theorem dX11_go_23 : decode cX11_go 23 = .ok (.iaload, 1) := oc_46 (by decide +kernel)
theorem dX11_go_24 : decode cX11_go 24 = .ok (.sipush 300, 3) := oc_17 (a := 1) (b := 44) (by decide +kernel)
theorem dX11_go_40 : decode cX11_go 40 = .ok (.iconst 0, 1) := oc_3 (by decide +kernel)
theorem dX11_go_41 : decode cX11_go 41 = .ok (.ireturn, 1) := oc_172 (by decide +kernel)
theorem dX11_go_27 : decode cX11_go 27 = .ok (.if_icmp .eq 13, 3) := oc_159 (a := 0) (b := 13) (by decide +kernel)
theorem dX11_go_30 : decode cX11_go 30 = .ok (.aload_n 3, 1) := oc_45 (by decide +kernel)
theorem dX11_go_31 : decode cX11_go 31 = .ok (.getfield 165, 3) := oc_180 (a := 0) (b := 165) (by decide +kernel)
theorem dX11_go_34 : decode cX11_go 34 = .ok (.iload_n 1, 1) := oc_27 (by decide +kernel)
theorem dX11_go_35 : decode cX11_go 35 = .ok (.iaload, 1) := oc_46 (by decide +kernel)
theorem dX11_go_36 : decode cX11_go 36 = .ok (.iload_n 2, 1) := oc_28 (by decide +kernel)
theorem dX11_go_37 : decode cX11_go 37 = .ok (.if_icmp .ne 5, 3) := oc_160 (a := 0) (b := 5) (by decide +kernel)
theorem dX11_go_42 : decode cX11_go 42 = .ok (.aload_n 0, 1) := oc_42 (by decide +kernel)
theorem dX11_go_43 : decode cX11_go 43 = .ok (.iload_n 2, 1) := oc_28 (by decide +kernel)
theorem dX11_go_44 : decode cX11_go 44 = .ok (.invokevirtual 46, 3) := oc_182 (a := 0) (b := 46) (by decide +kernel)
theorem dX11_go_81 : decode cX11_go 81 = .ok (.istore 4, 2) := oc_54 (by decide +kernel)
theorem dX11_go_83 : decode cX11_go 83 = .ok (.iload 4, 2) := oc_21 (by decide +kernel)
theorem dX11_go_95 : decode cX11_go 95 = .ok (.iload 4, 2) := oc_21 (by decide +kernel)
theorem dX11_go_97 : decode cX11_go 97 = .ok (.ireturn, 1) := oc_172 (by decide +kernel)
theorem dX11_go_85 : decode cX11_go 85 = .ok (.ifCond .eq 10, 3) := oc_153 (a := 0) (b := 10) (by decide +kernel)
theorem dX11_go_88 : decode cX11_go 88 = .ok (.aload_n 3, 1) := oc_45 (by decide +kernel)
theorem dX11_go_89 : decode cX11_go 89 = .ok (.getfield 165, 3) := oc_180 (a := 0) (b := 165) (by decide +kernel)
theorem dX11_go_92 : decode cX11_go 92 = .ok (.iload_n 1, 1) := oc_27 (by decide +kernel)
theorem dX11_go_93 : decode cX11_go 93 = .ok (.iload_n 2, 1) := oc_28 (by decide +kernel)
theorem dX11_go_94 : decode cX11_go 94 = .ok (.iastore, 1) := oc_79 (by decide +kernel)
theorem dX11_go_76 : decode cX11_go 76 = .ok (.iconst 1, 1) := oc_4 (by decide +kernel)
theorem dX11_go_77 : decode cX11_go 77 = .ok (.goto 4, 3) := oc_167 (a := 0) (b := 4) (by decide +kernel)
theorem dX11_go_47 : decode cX11_go 47 = .ok (.ifCond .ne 29, 3) := oc_154 (a := 0) (b := 29) (by decide +kernel)
theorem dX11_go_50 : decode cX11_go 50 = .ok (.iload_n 2, 1) := oc_28 (by decide +kernel)
theorem dX11_go_51 : decode cX11_go 51 = .ok (.sipush 200, 3) := oc_17 (a := 0) (b := 200) (by decide +kernel)
theorem dX11_go_54 : decode cX11_go 54 = .ok (.if_icmp .eq 22, 3) := oc_159 (a := 0) (b := 22) (by decide +kernel)
theorem dX11_go_57 : decode cX11_go 57 = .ok (.aload_n 0, 1) := oc_42 (by decide +kernel)
theorem dX11_go_58 : decode cX11_go 58 = .ok (.iload_n 2, 1) := oc_28 (by decide +kernel)
theorem tw_409 : Cond.methodLink RX11 168 yX11_isLot ∈ wsL_law := sg_18 _ (List.mem_of_getElem? (i := 1) rfl)
theorem tw_410 : Cond.instanceMethod yX11_isLot ∈ wsL_law := sg_18 _ (List.mem_of_getElem? (i := 2) rfl)
theorem tw_411 : Cond.selects RX11 yX11_isLot yX11_isLot ∈ wsL_law := sg_18 _ (List.mem_of_getElem? (i := 3) rfl)
theorem tw_412 : Cond.code yX11_isLot cX11_isLot 2 (some .boolean) ∈ wsL_law := sg_18 _ (List.mem_of_getElem? (i := 4) rfl)
theorem dX11_go_59 : decode cX11_go 59 = .ok (.invokevirtual 168, 3) := oc_182 (a := 0) (b := 168) (by decide +kernel)
theorem dX11_go_80 : decode cX11_go 80 = .ok (.iconst 0, 1) := oc_3 (by decide +kernel)
theorem dX11_go_62 : decode cX11_go 62 = .ok (.ifCond .eq 18, 3) := oc_153 (a := 0) (b := 18) (by decide +kernel)
theorem dX11_go_65 : decode cX11_go 65 = .ok (.aload_n 3, 1) := oc_45 (by decide +kernel)
theorem dX11_go_66 : decode cX11_go 66 = .ok (.iload_n 2, 1) := oc_28 (by decide +kernel)
theorem dX11_go_67 : decode cX11_go 67 = .ok (.bipush 100, 2) := oc_16 (a := 100) (by decide +kernel)
theorem dX11_go_69 : decode cX11_go 69 = .ok (.isub, 1) := oc_100 (by decide +kernel)
theorem tw_413 : Cond.methodLink RX11 171 yX0_freeBeds ∈ wsL_law := sg_18 _ (List.mem_of_getElem? (i := 5) rfl)
theorem dX11_go_70 : decode cX11_go 70 = .ok (.invokevirtual 171, 3) := oc_182 (a := 0) (b := 171) (by decide +kernel)
theorem dX11_go_73 : decode cX11_go 73 = .ok (.ifCond .le 7, 3) := oc_158 (a := 0) (b := 7) (by decide +kernel)
theorem dX11_go_8 : decode cX11_go 8 = .ok (.iconst 0, 1) := oc_3 (by decide +kernel)
theorem dX11_go_9 : decode cX11_go 9 = .ok (.ireturn, 1) := oc_172 (by decide +kernel)
theorem dX11_death_0 : decode cX11_death 0 = .ok (.aload_n 0, 1) := oc_42 (by decide +kernel)
theorem dX11_death_1 : decode cX11_death 1 = .ok (.iload_n 1, 1) := oc_27 (by decide +kernel)
theorem dX11_death_2 : decode cX11_death 2 = .ok (.invokevirtual 162, 3) := oc_182 (a := 0) (b := 162) (by decide +kernel)
theorem dX11_death_26 : decode cX11_death 26 = .ok (.iconst (-1), 1) := oc_2 (by decide +kernel)
theorem dX11_death_27 : decode cX11_death 27 = .ok (.ireturn, 1) := oc_172 (by decide +kernel)
theorem dX11_death_5 : decode cX11_death 5 = .ok (.ifCond .eq 21, 3) := oc_153 (a := 0) (b := 21) (by decide +kernel)
theorem dX11_death_8 : decode cX11_death 8 = .ok (.aload_n 0, 1) := oc_42 (by decide +kernel)
theorem dX11_death_9 : decode cX11_death 9 = .ok (.getfield 10, 3) := oc_180 (a := 0) (b := 10) (by decide +kernel)
theorem dX11_death_12 : decode cX11_death 12 = .ok (.getfield 143, 3) := oc_180 (a := 0) (b := 143) (by decide +kernel)
theorem dX11_death_15 : decode cX11_death 15 = .ok (.getfield 165, 3) := oc_180 (a := 0) (b := 165) (by decide +kernel)
theorem dX11_death_18 : decode cX11_death 18 = .ok (.iload_n 1, 1) := oc_27 (by decide +kernel)
theorem dX11_death_19 : decode cX11_death 19 = .ok (.iaload, 1) := oc_46 (by decide +kernel)
theorem dX11_death_20 : decode cX11_death 20 = .ok (.sipush 300, 3) := oc_17 (a := 1) (b := 44) (by decide +kernel)
theorem dX11_death_23 : decode cX11_death 23 = .ok (.if_icmp .ne 5, 3) := oc_160 (a := 0) (b := 5) (by decide +kernel)
theorem dX11_death_28 : decode cX11_death 28 = .ok (.aload_n 0, 1) := oc_42 (by decide +kernel)
theorem dX11_death_29 : decode cX11_death 29 = .ok (.getfield 10, 3) := oc_180 (a := 0) (b := 10) (by decide +kernel)
theorem dX11_death_32 : decode cX11_death 32 = .ok (.getfield 143, 3) := oc_180 (a := 0) (b := 143) (by decide +kernel)
theorem dX11_death_35 : decode cX11_death 35 = .ok (.getfield 165, 3) := oc_180 (a := 0) (b := 165) (by decide +kernel)
theorem dX11_death_38 : decode cX11_death 38 = .ok (.iload_n 1, 1) := oc_27 (by decide +kernel)
theorem dX11_death_39 : decode cX11_death 39 = .ok (.sipush 300, 3) := oc_17 (a := 1) (b := 44) (by decide +kernel)
theorem dX11_death_42 : decode cX11_death 42 = .ok (.iastore, 1) := oc_79 (by decide +kernel)
theorem dX11_death_43 : decode cX11_death 43 = .ok (.aload_n 0, 1) := oc_42 (by decide +kernel)
theorem dX11_death_44 : decode cX11_death 44 = .ok (.getfield 10, 3) := oc_180 (a := 0) (b := 10) (by decide +kernel)
theorem dX11_death_47 : decode cX11_death 47 = .ok (.iload_n 1, 1) := oc_27 (by decide +kernel)
theorem dX11_death_48 : decode cX11_death 48 = .ok (.aload_n 0, 1) := oc_42 (by decide +kernel)
theorem dX11_death_49 : decode cX11_death 49 = .ok (.getfield 10, 3) := oc_180 (a := 0) (b := 10) (by decide +kernel)
theorem dX11_death_52 : decode cX11_death 52 = .ok (.iload_n 1, 1) := oc_27 (by decide +kernel)
theorem tw_453 : Cond.methodLink RX11 175 yX10_heirOf ∈ wsL_law := sg_19 _ (List.mem_of_getElem? (i := 21) rfl)
theorem tw_454 : Cond.instanceMethod yX10_heirOf ∈ wsL_law := sg_19 _ (List.mem_of_getElem? (i := 22) rfl)
theorem tw_455 : Cond.selects RX10 yX10_heirOf yX10_heirOf ∈ wsL_law := sg_19 _ (List.mem_of_getElem? (i := 23) rfl)
theorem tw_456 : Cond.code yX10_heirOf cX10_heirOf 4 (some .int) ∈ wsL_law := sg_20 _ (List.mem_of_getElem? (i := 0) rfl)
theorem dX11_death_53 : decode cX11_death 53 = .ok (.invokevirtual 175, 3) := oc_182 (a := 0) (b := 175) (by decide +kernel)
theorem tw_494 : Cond.methodLink RX11 178 yX10_passTitles ∈ wsL_law := sg_21 _ (List.mem_of_getElem? (i := 14) rfl)
theorem tw_495 : Cond.instanceMethod yX10_passTitles ∈ wsL_law := sg_21 _ (List.mem_of_getElem? (i := 15) rfl)
theorem tw_496 : Cond.selects RX10 yX10_passTitles yX10_passTitles ∈ wsL_law := sg_21 _ (List.mem_of_getElem? (i := 16) rfl)
theorem tw_497 : Cond.code yX10_passTitles cX10_passTitles 5 (some .int) ∈ wsL_law := sg_21 _ (List.mem_of_getElem? (i := 17) rfl)
theorem dX11_death_56 : decode cX11_death 56 = .ok (.invokevirtual 178, 3) := oc_182 (a := 0) (b := 178) (by decide +kernel)
theorem dX11_death_59 : decode cX11_death 59 = .ok (.ireturn, 1) := oc_172 (by decide +kernel)
theorem dX11_title_0 : decode cX11_title 0 = .ok (.aload_n 0, 1) := oc_42 (by decide +kernel)
theorem dX11_title_1 : decode cX11_title 1 = .ok (.iload_n 1, 1) := oc_27 (by decide +kernel)
theorem dX11_title_2 : decode cX11_title 2 = .ok (.invokevirtual 119, 3) := oc_182 (a := 0) (b := 119) (by decide +kernel)
theorem dX11_title_5 : decode cX11_title 5 = .ok (.ifCond .ne 5, 3) := oc_154 (a := 0) (b := 5) (by decide +kernel)
theorem dX11_title_10 : decode cX11_title 10 = .ok (.iload_n 2, 1) := oc_28 (by decide +kernel)
theorem dX11_title_11 : decode cX11_title 11 = .ok (.iconst (-1), 1) := oc_2 (by decide +kernel)
theorem dX11_title_46 : decode cX11_title 46 = .ok (.istore_n 3, 1) := oc_62 (by decide +kernel)
theorem dX11_title_47 : decode cX11_title 47 = .ok (.iload_n 3, 1) := oc_29 (by decide +kernel)
theorem dX11_title_61 : decode cX11_title 61 = .ok (.iload_n 3, 1) := oc_29 (by decide +kernel)
theorem dX11_title_62 : decode cX11_title 62 = .ok (.ireturn, 1) := oc_172 (by decide +kernel)
theorem dX11_title_48 : decode cX11_title 48 = .ok (.ifCond .eq 13, 3) := oc_153 (a := 0) (b := 13) (by decide +kernel)
theorem dX11_title_51 : decode cX11_title 51 = .ok (.aload_n 0, 1) := oc_42 (by decide +kernel)
theorem dX11_title_52 : decode cX11_title 52 = .ok (.getfield 10, 3) := oc_180 (a := 0) (b := 10) (by decide +kernel)
theorem tw_536 : Cond.fieldLink RX11 182 "RingsUnder$World" "holder" "[I" ∈ wsL_law := sg_23 _ (List.mem_of_getElem? (i := 8) rfl)
theorem dX11_title_55 : decode cX11_title 55 = .ok (.getfield 182, 3) := oc_180 (a := 0) (b := 182) (by decide +kernel)
theorem dX11_title_58 : decode cX11_title 58 = .ok (.iload_n 1, 1) := oc_27 (by decide +kernel)
theorem dX11_title_59 : decode cX11_title 59 = .ok (.iload_n 2, 1) := oc_28 (by decide +kernel)
theorem dX11_title_60 : decode cX11_title 60 = .ok (.iastore, 1) := oc_79 (by decide +kernel)
theorem dX11_title_41 : decode cX11_title 41 = .ok (.iconst 1, 1) := oc_4 (by decide +kernel)
theorem dX11_title_42 : decode cX11_title 42 = .ok (.goto 4, 3) := oc_167 (a := 0) (b := 4) (by decide +kernel)
theorem dX11_title_12 : decode cX11_title 12 = .ok (.if_icmp .eq 29, 3) := oc_159 (a := 0) (b := 29) (by decide +kernel)
theorem dX11_title_15 : decode cX11_title 15 = .ok (.aload_n 0, 1) := oc_42 (by decide +kernel)
theorem dX11_title_16 : decode cX11_title 16 = .ok (.iload_n 2, 1) := oc_28 (by decide +kernel)
theorem dX11_title_17 : decode cX11_title 17 = .ok (.invokevirtual 162, 3) := oc_182 (a := 0) (b := 162) (by decide +kernel)
theorem dX11_title_45 : decode cX11_title 45 = .ok (.iconst 0, 1) := oc_3 (by decide +kernel)
theorem dX11_title_20 : decode cX11_title 20 = .ok (.ifCond .eq 25, 3) := oc_153 (a := 0) (b := 25) (by decide +kernel)
theorem dX11_title_23 : decode cX11_title 23 = .ok (.aload_n 0, 1) := oc_42 (by decide +kernel)
theorem dX11_title_24 : decode cX11_title 24 = .ok (.getfield 10, 3) := oc_180 (a := 0) (b := 10) (by decide +kernel)
theorem dX11_title_27 : decode cX11_title 27 = .ok (.getfield 143, 3) := oc_180 (a := 0) (b := 143) (by decide +kernel)
theorem dX11_title_30 : decode cX11_title 30 = .ok (.getfield 165, 3) := oc_180 (a := 0) (b := 165) (by decide +kernel)
theorem dX11_title_33 : decode cX11_title 33 = .ok (.iload_n 2, 1) := oc_28 (by decide +kernel)
theorem dX11_title_34 : decode cX11_title 34 = .ok (.iaload, 1) := oc_46 (by decide +kernel)
theorem dX11_title_35 : decode cX11_title 35 = .ok (.sipush 300, 3) := oc_17 (a := 1) (b := 44) (by decide +kernel)
theorem dX11_title_38 : decode cX11_title 38 = .ok (.if_icmp .eq 7, 3) := oc_159 (a := 0) (b := 7) (by decide +kernel)
theorem dX11_title_8 : decode cX11_title 8 = .ok (.iconst 0, 1) := oc_3 (by decide +kernel)
theorem dX11_title_9 : decode cX11_title 9 = .ok (.ireturn, 1) := oc_172 (by decide +kernel)
theorem dX11_titleOf_0 : decode cX11_titleOf 0 = .ok (.aload_n 0, 1) := oc_42 (by decide +kernel)
theorem dX11_titleOf_1 : decode cX11_titleOf 1 = .ok (.iload_n 1, 1) := oc_27 (by decide +kernel)
theorem dX11_titleOf_2 : decode cX11_titleOf 2 = .ok (.invokevirtual 119, 3) := oc_182 (a := 0) (b := 119) (by decide +kernel)
theorem dX11_titleOf_5 : decode cX11_titleOf 5 = .ok (.ifCond .ne 5, 3) := oc_154 (a := 0) (b := 5) (by decide +kernel)
theorem dX11_titleOf_10 : decode cX11_titleOf 10 = .ok (.iload_n 2, 1) := oc_28 (by decide +kernel)
theorem dX11_titleOf_11 : decode cX11_titleOf 11 = .ok (.lookupswitch 52 #[(0, 25), (1, 35)], 25) := by decide +kernel
theorem dX11_titleOf_36 : decode cX11_titleOf 36 = .ok (.aload_n 0, 1) := oc_42 (by decide +kernel)
theorem dX11_titleOf_37 : decode cX11_titleOf 37 = .ok (.getfield 10, 3) := oc_180 (a := 0) (b := 10) (by decide +kernel)
theorem dX11_titleOf_40 : decode cX11_titleOf 40 = .ok (.getfield 182, 3) := oc_180 (a := 0) (b := 182) (by decide +kernel)
theorem dX11_titleOf_43 : decode cX11_titleOf 43 = .ok (.iload_n 1, 1) := oc_27 (by decide +kernel)
theorem dX11_titleOf_44 : decode cX11_titleOf 44 = .ok (.iaload, 1) := oc_46 (by decide +kernel)
theorem dX11_titleOf_45 : decode cX11_titleOf 45 = .ok (.ireturn, 1) := oc_172 (by decide +kernel)
theorem dX11_titleOf_46 : decode cX11_titleOf 46 = .ok (.aload_n 0, 1) := oc_42 (by decide +kernel)
theorem dX11_titleOf_47 : decode cX11_titleOf 47 = .ok (.getfield 10, 3) := oc_180 (a := 0) (b := 10) (by decide +kernel)
theorem dX11_titleOf_50 : decode cX11_titleOf 50 = .ok (.iload_n 1, 1) := oc_27 (by decide +kernel)
theorem tw_545 : Cond.methodLink RX11 185 yX10_titleStands ∈ wsL_law := sg_23 _ (List.mem_of_getElem? (i := 17) rfl)
theorem tw_546 : Cond.instanceMethod yX10_titleStands ∈ wsL_law := sg_23 _ (List.mem_of_getElem? (i := 18) rfl)
theorem tw_547 : Cond.selects RX10 yX10_titleStands yX10_titleStands ∈ wsL_law := sg_23 _ (List.mem_of_getElem? (i := 19) rfl)
theorem tw_548 : Cond.code yX10_titleStands cX10_titleStands 3 (some .boolean) ∈ wsL_law := sg_23 _ (List.mem_of_getElem? (i := 20) rfl)
theorem dX11_titleOf_51 : decode cX11_titleOf 51 = .ok (.invokevirtual 185, 3) := oc_182 (a := 0) (b := 185) (by decide +kernel)
theorem dX11_titleOf_54 : decode cX11_titleOf 54 = .ok (.ifCond .eq 7, 3) := oc_153 (a := 0) (b := 7) (by decide +kernel)
theorem dX11_titleOf_61 : decode cX11_titleOf 61 = .ok (.iconst 0, 1) := oc_3 (by decide +kernel)
theorem dX11_titleOf_62 : decode cX11_titleOf 62 = .ok (.ireturn, 1) := oc_172 (by decide +kernel)
theorem dX11_titleOf_57 : decode cX11_titleOf 57 = .ok (.iconst 1, 1) := oc_4 (by decide +kernel)
theorem dX11_titleOf_58 : decode cX11_titleOf 58 = .ok (.goto 4, 3) := oc_167 (a := 0) (b := 4) (by decide +kernel)
theorem dX11_titleOf_63 : decode cX11_titleOf 63 = .ok (.iconst (-1), 1) := oc_2 (by decide +kernel)
theorem dX11_titleOf_64 : decode cX11_titleOf 64 = .ok (.ireturn, 1) := oc_172 (by decide +kernel)
theorem dX11_titleOf_8 : decode cX11_titleOf 8 = .ok (.iconst (-1), 1) := oc_2 (by decide +kernel)
theorem dX11_titleOf_9 : decode cX11_titleOf 9 = .ok (.ireturn, 1) := oc_172 (by decide +kernel)
theorem dX11_choose_0 : decode cX11_choose 0 = .ok (.aload_n 0, 1) := oc_42 (by decide +kernel)
theorem dX11_choose_1 : decode cX11_choose 1 = .ok (.iload_n 1, 1) := oc_27 (by decide +kernel)
theorem dX11_choose_2 : decode cX11_choose 2 = .ok (.invokevirtual 162, 3) := oc_182 (a := 0) (b := 162) (by decide +kernel)
theorem dX11_choose_17 : decode cX11_choose 17 = .ok (.iconst 0, 1) := oc_3 (by decide +kernel)
theorem dX11_choose_18 : decode cX11_choose 18 = .ok (.ireturn, 1) := oc_172 (by decide +kernel)
theorem dX11_choose_5 : decode cX11_choose 5 = .ok (.ifCond .eq 12, 3) := oc_153 (a := 0) (b := 12) (by decide +kernel)
theorem dX11_choose_8 : decode cX11_choose 8 = .ok (.iload_n 2, 1) := oc_28 (by decide +kernel)
theorem dX11_choose_9 : decode cX11_choose 9 = .ok (.iconst (-1), 1) := oc_2 (by decide +kernel)
theorem dX11_choose_10 : decode cX11_choose 10 = .ok (.iconst 1, 1) := oc_4 (by decide +kernel)
theorem dX11_choose_11 : decode cX11_choose 11 = .ok (.invokestatic 50, 3) := oc_184 (a := 0) (b := 50) (by decide +kernel)
theorem dX11_choose_14 : decode cX11_choose 14 = .ok (.ifCond .ne 5, 3) := oc_154 (a := 0) (b := 5) (by decide +kernel)
theorem dX11_choose_19 : decode cX11_choose 19 = .ok (.aload_n 0, 1) := oc_42 (by decide +kernel)
theorem dX11_choose_20 : decode cX11_choose 20 = .ok (.getfield 10, 3) := oc_180 (a := 0) (b := 10) (by decide +kernel)
theorem dX11_choose_23 : decode cX11_choose 23 = .ok (.getfield 143, 3) := oc_180 (a := 0) (b := 143) (by decide +kernel)
theorem tw_1325 : Cond.fieldLink RX11 188 "RingsUnder$Folk" "vote" "[I" ∈ wsL_law := sg_56 _ (List.mem_of_getElem? (i := 5) rfl)
theorem dX11_choose_26 : decode cX11_choose 26 = .ok (.getfield 188, 3) := oc_180 (a := 0) (b := 188) (by decide +kernel)
theorem dX11_choose_29 : decode cX11_choose 29 = .ok (.iload_n 1, 1) := oc_27 (by decide +kernel)
theorem dX11_choose_30 : decode cX11_choose 30 = .ok (.iload_n 2, 1) := oc_28 (by decide +kernel)
theorem dX11_choose_31 : decode cX11_choose 31 = .ok (.iastore, 1) := oc_79 (by decide +kernel)
theorem dX11_choose_32 : decode cX11_choose 32 = .ok (.iconst 1, 1) := oc_4 (by decide +kernel)
theorem dX11_choose_33 : decode cX11_choose 33 = .ok (.ireturn, 1) := oc_172 (by decide +kernel)
theorem dX11_council_0 : decode cX11_council 0 = .ok (.lload_n 1, 1) := oc_31 (by decide +kernel)
theorem dX11_council_1 : decode cX11_council 1 = .ok (.aload_n 0, 1) := oc_42 (by decide +kernel)
theorem dX11_council_2 : decode cX11_council 2 = .ok (.getfield 10, 3) := oc_180 (a := 0) (b := 10) (by decide +kernel)
theorem dX11_council_5 : decode cX11_council 5 = .ok (.getfield 143, 3) := oc_180 (a := 0) (b := 143) (by decide +kernel)
theorem dX11_council_8 : decode cX11_council 8 = .ok (.getfield 155, 3) := oc_180 (a := 0) (b := 155) (by decide +kernel)
theorem dX11_council_11 : decode cX11_council 11 = .ok (.lushr, 1) := oc_125 (by decide +kernel)
theorem dX11_council_12 : decode cX11_council 12 = .ok (.lconst 0, 1) := oc_9 (by decide +kernel)
theorem dX11_council_13 : decode cX11_council 13 = .ok (.lcmp, 1) := oc_148 (by decide +kernel)
theorem dX11_council_14 : decode cX11_council 14 = .ok (.ifCond .eq 5, 3) := oc_153 (a := 0) (b := 5) (by decide +kernel)
theorem dX11_council_19 : decode cX11_council 19 = .ok (.aload_n 0, 1) := oc_42 (by decide +kernel)
theorem dX11_council_20 : decode cX11_council 20 = .ok (.getfield 10, 3) := oc_180 (a := 0) (b := 10) (by decide +kernel)
theorem dX11_council_23 : decode cX11_council 23 = .ok (.lload_n 1, 1) := oc_31 (by decide +kernel)
theorem tw_1334 : Cond.methodLink RX11 191 yX10_decide ∈ wsL_law := sg_56 _ (List.mem_of_getElem? (i := 14) rfl)
theorem tw_1335 : Cond.instanceMethod yX10_decide ∈ wsL_law := sg_56 _ (List.mem_of_getElem? (i := 15) rfl)
theorem tw_1336 : Cond.selects RX10 yX10_decide yX10_decide ∈ wsL_law := sg_56 _ (List.mem_of_getElem? (i := 16) rfl)
theorem tw_1337 : Cond.code yX10_decide cX10_decide 8 (some .int) ∈ wsL_law := sg_56 _ (List.mem_of_getElem? (i := 17) rfl)
theorem dX11_council_24 : decode cX11_council 24 = .ok (.invokevirtual 191, 3) := oc_182 (a := 0) (b := 191) (by decide +kernel)
theorem dX11_council_27 : decode cX11_council 27 = .ok (.ireturn, 1) := oc_172 (by decide +kernel)
theorem dX11_council_17 : decode cX11_council 17 = .ok (.iconst (-1), 1) := oc_2 (by decide +kernel)
theorem dX11_council_18 : decode cX11_council 18 = .ok (.ireturn, 1) := oc_172 (by decide +kernel)
theorem dX11_feed_0 : decode cX11_feed 0 = .ok (.aload_n 0, 1) := oc_42 (by decide +kernel)
theorem tw_26 : Cond.fieldLink RX11 32 "RingsUnder" "reader" "LRingsUnder$Reader;" ∈ wsL_law := sg_2 _ (List.mem_of_getElem? (i := 2) rfl)
theorem dX11_feed_1 : decode cX11_feed 1 = .ok (.getfield 32, 3) := oc_180 (a := 0) (b := 32) (by decide +kernel)
theorem tw_620 : Cond.fieldLink RX11 195 "RingsUnder$Reader" "scanner" "LRingsUnder$Scanner;" ∈ wsL_law := sg_26 _ (List.mem_of_getElem? (i := 20) rfl)
theorem dX11_feed_4 : decode cX11_feed 4 = .ok (.getfield 195, 3) := oc_180 (a := 0) (b := 195) (by decide +kernel)
theorem dX11_feed_7 : decode cX11_feed 7 = .ok (.astore 6, 2) := oc_58 (by decide +kernel)
theorem dX11_feed_9 : decode cX11_feed 9 = .ok (.aload 6, 2) := oc_25 (by decide +kernel)
theorem tw_621 : Cond.fieldLink RX11 199 "RingsUnder$Scanner" "length" "I" ∈ wsL_law := sg_26 _ (List.mem_of_getElem? (i := 21) rfl)
theorem dX11_feed_11 : decode cX11_feed 11 = .ok (.getfield 199, 3) := oc_180 (a := 0) (b := 199) (by decide +kernel)
theorem dX11_feed_14 : decode cX11_feed 14 = .ok (.sipush 280, 3) := oc_17 (a := 1) (b := 24) (by decide +kernel)
theorem dX11_feed_17 : decode cX11_feed 17 = .ok (.if_icmp .le 5, 3) := oc_164 (a := 0) (b := 5) (by decide +kernel)
theorem dX11_feed_22 : decode cX11_feed 22 = .ok (.aload 6, 2) := oc_25 (by decide +kernel)
theorem dX11_feed_24 : decode cX11_feed 24 = .ok (.iload_n 1, 1) := oc_27 (by decide +kernel)
theorem tw_622 : Cond.methodLink RX11 204 yX6_append ∈ wsL_law := sg_26 _ (List.mem_of_getElem? (i := 22) rfl)
theorem tw_623 : Cond.instanceMethod yX6_append ∈ wsL_law := sg_26 _ (List.mem_of_getElem? (i := 23) rfl)
theorem tw_624 : Cond.selects RX6 yX6_append yX6_append ∈ wsL_law := sg_27 _ (List.mem_of_getElem? (i := 0) rfl)
theorem tw_625 : Cond.code yX6_append cX6_append 3 none ∈ wsL_law := sg_27 _ (List.mem_of_getElem? (i := 1) rfl)
theorem dX11_feed_25 : decode cX11_feed 25 = .ok (.invokevirtual 204, 3) := oc_182 (a := 0) (b := 204) (by decide +kernel)
theorem dX11_feed_28 : decode cX11_feed 28 = .ok (.aload 6, 2) := oc_25 (by decide +kernel)
theorem dX11_feed_30 : decode cX11_feed 30 = .ok (.iload_n 2, 1) := oc_28 (by decide +kernel)
theorem dX11_feed_31 : decode cX11_feed 31 = .ok (.invokevirtual 204, 3) := oc_182 (a := 0) (b := 204) (by decide +kernel)
theorem dX11_feed_34 : decode cX11_feed 34 = .ok (.aload 6, 2) := oc_25 (by decide +kernel)
theorem dX11_feed_36 : decode cX11_feed 36 = .ok (.iload_n 3, 1) := oc_29 (by decide +kernel)
theorem dX11_feed_37 : decode cX11_feed 37 = .ok (.invokevirtual 204, 3) := oc_182 (a := 0) (b := 204) (by decide +kernel)
theorem dX11_feed_40 : decode cX11_feed 40 = .ok (.aload 6, 2) := oc_25 (by decide +kernel)
theorem dX11_feed_42 : decode cX11_feed 42 = .ok (.iload 4, 2) := oc_21 (by decide +kernel)
theorem dX11_feed_44 : decode cX11_feed 44 = .ok (.invokevirtual 204, 3) := oc_182 (a := 0) (b := 204) (by decide +kernel)
theorem dX11_feed_47 : decode cX11_feed 47 = .ok (.aload 6, 2) := oc_25 (by decide +kernel)
theorem dX11_feed_49 : decode cX11_feed 49 = .ok (.iload 5, 2) := oc_21 (by decide +kernel)
theorem dX11_feed_51 : decode cX11_feed 51 = .ok (.invokevirtual 204, 3) := oc_182 (a := 0) (b := 204) (by decide +kernel)
theorem dX11_feed_54 : decode cX11_feed 54 = .ok (.aload 6, 2) := oc_25 (by decide +kernel)
theorem dX11_feed_56 : decode cX11_feed 56 = .ok (.getfield 199, 3) := oc_180 (a := 0) (b := 199) (by decide +kernel)
theorem dX11_feed_59 : decode cX11_feed 59 = .ok (.ireturn, 1) := oc_172 (by decide +kernel)
theorem dX11_feed_20 : decode cX11_feed 20 = .ok (.iconst (-1), 1) := oc_2 (by decide +kernel)
theorem dX11_feed_21 : decode cX11_feed 21 = .ok (.ireturn, 1) := oc_172 (by decide +kernel)
theorem dX11_end_0 : decode cX11_end 0 = .ok (.iload_n 1, 1) := oc_27 (by decide +kernel)
theorem dX11_end_1 : decode cX11_end 1 = .ok (.iconst 0, 1) := oc_3 (by decide +kernel)
theorem dX11_end_2 : decode cX11_end 2 = .ok (.aload_n 0, 1) := oc_42 (by decide +kernel)
theorem dX11_end_3 : decode cX11_end 3 = .ok (.getfield 32, 3) := oc_180 (a := 0) (b := 32) (by decide +kernel)
theorem dX11_end_6 : decode cX11_end 6 = .ok (.getfield 195, 3) := oc_180 (a := 0) (b := 195) (by decide +kernel)
theorem dX11_end_9 : decode cX11_end 9 = .ok (.getfield 199, 3) := oc_180 (a := 0) (b := 199) (by decide +kernel)
theorem dX11_end_12 : decode cX11_end 12 = .ok (.invokestatic 50, 3) := oc_184 (a := 0) (b := 50) (by decide +kernel)
theorem dX11_end_15 : decode cX11_end 15 = .ok (.ifCond .ne 5, 3) := oc_154 (a := 0) (b := 5) (by decide +kernel)
theorem dX11_end_20 : decode cX11_end 20 = .ok (.aload_n 0, 1) := oc_42 (by decide +kernel)
theorem dX11_end_21 : decode cX11_end 21 = .ok (.getfield 32, 3) := oc_180 (a := 0) (b := 32) (by decide +kernel)
theorem dX11_end_24 : decode cX11_end 24 = .ok (.getfield 195, 3) := oc_180 (a := 0) (b := 195) (by decide +kernel)
theorem dX11_end_27 : decode cX11_end 27 = .ok (.iload_n 1, 1) := oc_27 (by decide +kernel)
theorem dX11_end_28 : decode cX11_end 28 = .ok (.putfield 199, 3) := oc_181 (a := 0) (b := 199) (by decide +kernel)
theorem dX11_end_31 : decode cX11_end 31 = .ok (.iload_n 1, 1) := oc_27 (by decide +kernel)
theorem dX11_end_32 : decode cX11_end 32 = .ok (.ireturn, 1) := oc_172 (by decide +kernel)
theorem dX11_end_18 : decode cX11_end 18 = .ok (.iconst (-1), 1) := oc_2 (by decide +kernel)
theorem dX11_end_19 : decode cX11_end 19 = .ok (.ireturn, 1) := oc_172 (by decide +kernel)
set_option maxHeartbeats 4000000 in
set_option maxRecDepth 100000 in
theorem s_X11_beds (l : Launch) (D : va_G) (t : pq_T) (σ : pq_S) (I : Nat → Nat → Int32) (J : Nat → Nat → Int64) (ri : Nat → Nat → Int32) (rj : Nat → Nat → Int64) (rq : Nat → Nat → Option Nat) (sz : Nat) (tg : Nat → Nat) (hSH : SH σ tg) (hG0 : GS tg σ I ri rq) (this : Nat) (a0 : Int32) (a1 : Int32) (hL_this : this ∈ σ.1) (hK_this : σ.2.1 this = 11) : MetI l yX11_beds (wa yX11_beds cX11_beds 5 (some .int)) ({ frames := 2, cells := 0, slots := 0, locals := 43 }) [.ref this, .int a0, .int a1] D t σ (I, J, ri, rj, rq) sz 0 0 (fun (r : Int32) (u : pq_S × pq_M) => ∃ ri' : Nat → Nat → Int32, u = (σ, I, J, ri', rj, rq) ∧ GX [] tg σ I ri rj I ri' rj rq) := by
  refine Met.ofW (cc := cX11_beds) (maxL := 5) (ret := (some .int)) (by decide) rfl ?_
  intro p e s m args below meth c s₁ B hml hv
  obtain ⟨rfl, hsz, hP, hK, hD0, hN⟩ := hv
  have hx := B.exec
  have hb := B.bytes
  have hr := B.returns
  have hts := atoms_spec (ws := (wa yX11_beds cX11_beds 5 (some .int))) B.pre
  have hown : s.vm.findClass RX11 = some m.cls := findClass_of_methodNamed B.named
  have hlocks := B.notSynchronized
  subst hsz
  have hD : va_D (pq_B t σ (I, J, ri, rj, rq) s.heap.size) (pq_P t σ (I, J, ri, rj, rq)) := hD0.self
  generalize hAe : pq_B t σ (I, J, ri, rj, rq) s.heap.size = A at hD ⊢
  have hA : ∀ q : Nat, s.heap.size ≤ q → A q := fun q h => by rw [← hAe]; exact Or.inr h
  have hS : va_S A s.heap s.heap [] := va_S.rf
  have hG : GX [] tg σ I ri rj I ri rj rq := ⟨hG0, fun _ _ _ => rfl, fun _ _ _ _ _ => rfl, fun _ _ _ _ _ => rfl⟩
  have hl := lv_entry ([.ref this, .int a0, .int a1]) (n := 5) (Nat.le_of_ble_eq_true rfl)
  rw [lg_entry_eq]
  generalize (lg_sl ([.ref this, .int a0, .int a1]) ++ List.replicate (5 - (lg_sl ([.ref this, .int a0, .int a1])).length) Slot.unset).toArray = ls at hl ⊢
  have hl : lv_has ls 5 [(0, .ref this), (1, .int a0), (2, .int a1)] := hl
  refine q_gen (fun Q hQ => ?_)
  have go : ∀ (H : Heap) (locs : List Loc) (ls : Array Slot), va_P D vwCl (pq_P t σ (I, J, ri, rj, rq)) H → va_D A (pq_P t σ (I, J, ri, rj, rq)) → va_S A s.heap H locs → lv_has ls 5 [(0, .ref this), (1, .int a0), (2, .int a1)] → W p l e ({ frames := 2, cells := 0, slots := 0, locals := 43 } : Room) s m (List.toArray ([.ref this, .int a0, .int a1] : List Value)) below meth c H locs 0 0 Q (F0 m 0 ls []) := by
    intro H locs ls hP hD hS hl
    refine lv_aload_n hx hb dX11_beds_0 rfl (lv_at hl 0 rfl) ?_
    refine lv_iload_n hx hb dX11_beds_1 rfl (lv_at hl 1 rfl) ?_
    refine pk_i (va_runV (As := [.int a0]) (rest := []) ⟨hx, hb, hml, hown, hts⟩ (s_X11_isCell l D t σ I J ri rj rq H.size tg hSH hG.1 this a0 hL_this hK_this) (cwV 1 hts (tw_V tw_332 tw_333 tw_334 tw_2 tw_335) rfl rfl rfl cv_yX11_isCell_1 ⟨Nat.le_of_ble_eq_true rfl, Nat.le_of_ble_eq_true rfl⟩) ⟨pq_blind, pq_recv hK hP hL_this hK_this (by decide) rfl, pq_pre hK hN hP hD⟩ rfl rfl hl.1 rfl (lv_room (Nat.le_of_ble_eq_true rfl)) dX11_beds_2 ⟨Nat.le_of_ble_eq_true rfl, Nat.le_of_ble_eq_true rfl⟩) hD hS hA (fun x_1 σ1 μ1 H locs hw_2 hP hD hS => ?_)
    obtain ⟨hu_3, hr_5⟩ := hw_2
    obtain ⟨hu_3a, hu_3b⟩ := Prod.mk.inj hu_3
    rw [hu_3a, hu_3b] at hP hD
    have h_6 : rg x_1 0 1 := by rcases hr_5 with ⟨q, -⟩ | ⟨q, -⟩ <;> rw [q] <;> exact ⟨by decide, by decide⟩
    refine lv_if_ne (tgt := 10) hx hb dX11_beds_5 (by decide) (fun c_7 => ?_) (fun c_7 => ?_)
    · have f_8 := (hr_5.resolve_right (fun q => c_7 q.1)).2
      have h_9 : rg x_1 1 1 := rg_ne c_7 h_6 0 rfl (by decide)
      refine lv_aload_n hx hb dX11_beds_10 rfl (lv_at hl 0 rfl) ?_
      obtain ⟨w_10, hR_w_10, hL_w_10, hK_w_10⟩ := sh_o hSH 352 (ci := 11) (kd := 10) rfl hL_this hK_this
      refine pg_f (v := .ref w_10) (C := RX11) (T := TX11) (N := 5) hx hb hts (tw_i inlX11) hown hK hP hL_this hK_this (by decide) rfl 0 (by decide) (hts _ (tw_c tw_16)) (pq_hv rfl hR_w_10) dX11_beds_11 ?_
      obtain ⟨w_11, hR_w_11, hL_w_11, hK_w_11⟩ := sh_o hSH 327 (ci := 10) (kd := 2) rfl hL_w_10 hK_w_10
      refine pg_f (v := .ref w_11) (C := RX10) (T := TX10) (N := 13) hx hb hts (tw_i inlX10) hown hK hP hL_w_10 hK_w_10 (by decide) rfl 7 (by decide) (hts _ (tw_c tw_199)) (pq_hv rfl hR_w_11) dX11_beds_14 ?_
      obtain ⟨w_12, hR_w_12, hL_w_12, hK_w_12, hN_w_12, hT_w_12⟩ := sh_a hSH 76 (ci := 2) (kd := 13) (len := 40) rfl (by decide) hL_w_11 hK_w_11
      refine pg_f (v := .ref w_12) (C := RX2) (T := TX2) (N := 20) hx hb hts (tw_i inlX2) hown hK hP hL_w_11 hK_w_11 (by decide) rfl 12 (by decide) (hts _ (tw_c tw_369)) (pq_hv rfl hR_w_12) dX11_beds_17 ?_
      refine lv_iload_n hx hb dX11_beds_20 rfl (lv_at hl 1 rfl) ?_
      refine pl_i hx hb hK hP hL_w_12 hK_w_12 hN_w_12 (rg_in f_8 (by decide)) dX11_beds_21 ?_
      refine lv_topi (fun x_13 ex_13 => ?_)
      refine lv_i2l hx hb dX11_beds_22 rfl ?_
      refine lv_topl (fun x_14 ex_14 => ?_)
      refine lv_iload_n hx hb dX11_beds_23 rfl (lv_at hl 2 rfl) ?_
      refine lv_i2l hx hb dX11_beds_24 rfl ?_
      refine lv_topl (fun x_15 ex_15 => ?_)
      refine lv_ladd hx hb dX11_beds_25 ?_
      refine lv_topl (fun x_16 ex_16 => ?_)
      refine lv_lstore_n (lv' := [(3, .long x_16), (0, .ref this), (1, .int a0), (2, .int a1)]) hx hb dX11_beds_26 rfl hl (by decide) rfl (fun ls hl => ?_)
      refine lv_lload_n hx hb dX11_beds_27 rfl (lv_at hl 0 rfl) ?_
      refine lv_lconst (v := 0) hx hb dX11_beds_28 (by decide) ?_
      refine W.lcmp hx hb dX11_beds_29 ?_
      refine lv_topi (fun x_17 ex_17 => ?_)
      have K_28 : ∀  (H : Heap) (locs : List Loc) (ls : Array Slot), GX [] tg σ I ri rj I ri rj rq → va_P D vwCl (pq_P t σ (I, J, ri, rj, rq)) H → va_D A (pq_P t σ (I, J, ri, rj, rq)) → va_S A s.heap H locs → lv_has ls 5 [] → W p l e ({ frames := 2, cells := 0, slots := 0, locals := 43 } : Room) s m (List.toArray ([.ref this, .int a0, .int a1] : List Value)) below meth c H locs 0 0 Q (F0 m 41 ls []) := by
        intro H locs ls hG hP hD hS hl
        refine lv_iconst (v := (-1)) hx hb dX11_beds_41 (by decide) ?_
        subst hQ
        exact W.iret (v := (-1)) hx hb hr (fun t1 ht hW => ⟨⟨(-1), (σ, I, J, ri, rj, rq), rfl, ⟨ri, rfl, hG⟩, by rw [ht]; exact hP, va_K.moved hW.alike hK, hD⟩, hS.F ht⟩) hS.2.2 dX11_beds_42
      refine lv_if_lt (tgt := 41) hx hb dX11_beds_30 (by decide) (fun c_29 => ?_) (fun c_29 => ?_)
      · have h_30 : rg x_17 (-2147483648) (-1) := rg_lt1 c_29 (rg_full _) (rg_k (0 : Int32) 0 rfl) (by decide)
        exact K_28 _ _ _ hG hP hD hS (lv_sub hl [] rfl)
      · have h_31 : rg x_17 0 2147483647 := rg_le2 (nlt c_29) (rg_k (0 : Int32) 0 rfl) (rg_full _) (by decide)
        refine lv_lload_n hx hb dX11_beds_33 rfl (lv_at hl 0 rfl) ?_
        refine lv_ldc2 hx hb hown (hts _ (tw_c tw_370)) dX11_beds_34 ?_
        refine W.lcmp hx hb dX11_beds_37 ?_
        refine lv_topi (fun x_32 ex_32 => ?_)
        refine lv_if_le (tgt := 43) hx hb dX11_beds_38 (by decide) (fun c_33 => ?_) (fun c_33 => ?_)
        · have h_34 : rg x_32 (-2147483648) 0 := rg_le1 c_33 (rg_full _) (rg_k (0 : Int32) 0 rfl) (by decide)
          refine lv_aload_n hx hb dX11_beds_43 rfl (lv_at hl 1 rfl) ?_
          refine pg_f (v := .ref w_10) (C := RX11) (T := TX11) (N := 5) hx hb hts (tw_i inlX11) hown hK hP hL_this hK_this (by decide) rfl 0 (by decide) (hts _ (tw_c tw_16)) (pq_hv rfl hR_w_10) dX11_beds_44 ?_
          refine pg_f (v := .ref w_11) (C := RX10) (T := TX10) (N := 13) hx hb hts (tw_i inlX10) hown hK hP hL_w_10 hK_w_10 (by decide) rfl 7 (by decide) (hts _ (tw_c tw_199)) (pq_hv rfl hR_w_11) dX11_beds_47 ?_
          refine pg_f (v := .ref w_12) (C := RX2) (T := TX2) (N := 20) hx hb hts (tw_i inlX2) hown hK hP hL_w_11 hK_w_11 (by decide) rfl 12 (by decide) (hts _ (tw_c tw_369)) (pq_hv rfl hR_w_12) dX11_beds_50 ?_
          refine lv_iload_n hx hb dX11_beds_53 rfl (lv_at hl 2 rfl) ?_
          refine lv_lload_n hx hb dX11_beds_54 rfl (lv_at hl 0 rfl) ?_
          refine lv_l2i hx hb dX11_beds_55 rfl ?_
          refine lv_topi (fun x_35 ex_35 => ?_)
          refine pt_i hx hb hK hP hD hS hL_w_12 hK_w_12 hN_w_12 (rg_in f_8 (by decide)) dX11_beds_56 (fun r_36 H locs er_36 hP hD hS => ?_)
          have hG := GX.wR hG hSH hT_w_12 rfl er_36 (rg_w (rg_full _) (by decide)) (by decide)
          refine lv_aload_n hx hb dX11_beds_57 rfl (lv_at hl 1 rfl) ?_
          refine pg_f (v := .ref w_10) (C := RX11) (T := TX11) (N := 5) hx hb hts (tw_i inlX11) hown hK hP hL_this hK_this (by decide) rfl 0 (by decide) (hts _ (tw_c tw_16)) (pq_hv rfl hR_w_10) dX11_beds_58 ?_
          refine pg_f (v := .ref w_11) (C := RX10) (T := TX10) (N := 13) hx hb hts (tw_i inlX10) hown hK hP hL_w_10 hK_w_10 (by decide) rfl 7 (by decide) (hts _ (tw_c tw_199)) (pq_hv rfl hR_w_11) dX11_beds_61 ?_
          refine pg_f (v := .ref w_12) (C := RX2) (T := TX2) (N := 20) hx hb hts (tw_i inlX2) hown hK hP hL_w_11 hK_w_11 (by decide) rfl 12 (by decide) (hts _ (tw_c tw_369)) (pq_hv rfl hR_w_12) dX11_beds_64 ?_
          refine lv_iload_n hx hb dX11_beds_67 rfl (lv_at hl 2 rfl) ?_
          refine pl_i hx hb hK hP hL_w_12 hK_w_12 hN_w_12 (rg_in f_8 (by decide)) dX11_beds_68 ?_
          refine lv_topi (fun x_37 ex_37 => ?_)
          subst hQ
          exact W.iret (v := x_37) hx hb hr (fun t1 ht hW => ⟨⟨x_37, (σ, I, J, r_36, rj, rq), rfl, ⟨r_36, rfl, hG⟩, by rw [ht]; exact hP, va_K.moved hW.alike hK, hD⟩, hS.F ht⟩) hS.2.2 dX11_beds_69
        · have h_38 : rg x_32 1 2147483647 := rg_lt2 (nle c_33) (rg_k (0 : Int32) 0 rfl) (rg_full _) (by decide)
          exact K_28 _ _ _ hG hP hD hS (lv_sub hl [] rfl)
    · have f_39 := (hr_5.resolve_left (fun q => absurd (q.1.symm.trans c_7) (by decide))).2
      have h_40 : rg x_1 0 0 := rg_and h_6 (rg_of_eq c_7 (rg_k (0 : Int32) 0 rfl)) (by decide)
      refine lv_iconst (v := (-1)) hx hb dX11_beds_8 (by decide) ?_
      subst hQ
      exact W.iret (v := (-1)) hx hb hr (fun t1 ht hW => ⟨⟨(-1), (σ, I, J, ri, rj, rq), rfl, ⟨ri, rfl, hG⟩, by rw [ht]; exact hP, va_K.moved hW.alike hK, hD⟩, hS.F ht⟩) hS.2.2 dX11_beds_9
  exact go _ _ _ hP hD hS hl

set_option maxHeartbeats 4000000 in
set_option maxRecDepth 100000 in
theorem s_X11_isPerson (l : Launch) (D : va_G) (t : pq_T) (σ : pq_S) (I : Nat → Nat → Int32) (J : Nat → Nat → Int64) (ri : Nat → Nat → Int32) (rj : Nat → Nat → Int64) (rq : Nat → Nat → Option Nat) (sz : Nat) (tg : Nat → Nat) (hSH : SH σ tg) (hG0 : GS tg σ I ri rq) (this : Nat) (a0 : Int32) (hL_this : this ∈ σ.1) (hK_this : σ.2.1 this = 11) : MetI l yX11_isPerson (wa yX11_isPerson cX11_isPerson 2 (some .boolean)) ({ frames := 1, cells := 0, slots := 0, locals := 22 }) [.ref this, .int a0] D t σ (I, J, ri, rj, rq) sz 0 0 (fun (r : Int32) (u : pq_S × pq_M) => u = (σ, I, J, ri, rj, rq) ∧ ((r = 1 ∧ rg a0 0 39) ∨ (r = 0 ∧ True))) := by
  refine Met.ofW (cc := cX11_isPerson) (maxL := 2) (ret := (some .boolean)) (by decide) rfl ?_
  intro p e s m args below meth c s₁ B hml hv
  obtain ⟨rfl, hsz, hP, hK, hD0, hN⟩ := hv
  have hx := B.exec
  have hb := B.bytes
  have hr := B.returns
  have hts := atoms_spec (ws := (wa yX11_isPerson cX11_isPerson 2 (some .boolean))) B.pre
  have hown : s.vm.findClass RX11 = some m.cls := findClass_of_methodNamed B.named
  have hlocks := B.notSynchronized
  subst hsz
  have hD : va_D (pq_B t σ (I, J, ri, rj, rq) s.heap.size) (pq_P t σ (I, J, ri, rj, rq)) := hD0.self
  generalize hAe : pq_B t σ (I, J, ri, rj, rq) s.heap.size = A at hD ⊢
  have hA : ∀ q : Nat, s.heap.size ≤ q → A q := fun q h => by rw [← hAe]; exact Or.inr h
  have hS : va_S A s.heap s.heap [] := va_S.rf
  have hG : GX [] tg σ I ri rj I ri rj rq := ⟨hG0, fun _ _ _ => rfl, fun _ _ _ _ _ => rfl, fun _ _ _ _ _ => rfl⟩
  have hl := lv_entry ([.ref this, .int a0]) (n := 2) (Nat.le_of_ble_eq_true rfl)
  rw [lg_entry_eq]
  generalize (lg_sl ([.ref this, .int a0]) ++ List.replicate (2 - (lg_sl ([.ref this, .int a0])).length) Slot.unset).toArray = ls at hl ⊢
  have hl : lv_has ls 2 [(0, .ref this), (1, .int a0)] := hl
  refine q_gen (fun Q hQ => ?_)
  have go : ∀ (H : Heap) (locs : List Loc) (ls : Array Slot), va_P D vwCl (pq_P t σ (I, J, ri, rj, rq)) H → va_D A (pq_P t σ (I, J, ri, rj, rq)) → va_S A s.heap H locs → lv_has ls 2 [(0, .ref this), (1, .int a0)] → W p l e ({ frames := 1, cells := 0, slots := 0, locals := 22 } : Room) s m (List.toArray ([.ref this, .int a0] : List Value)) below meth c H locs 0 0 Q (F0 m 0 ls []) := by
    intro H locs ls hP hD hS hl
    refine lv_iload_n hx hb dX11_isPerson_0 rfl (lv_at hl 1 rfl) ?_
    refine lv_iconst (v := 0) hx hb dX11_isPerson_1 (by decide) ?_
    refine lv_aload_n hx hb dX11_isPerson_2 rfl (lv_at hl 0 rfl) ?_
    obtain ⟨w_1, hR_w_1, hL_w_1, hK_w_1⟩ := sh_o hSH 352 (ci := 11) (kd := 10) rfl hL_this hK_this
    refine pg_f (v := .ref w_1) (C := RX11) (T := TX11) (N := 5) hx hb hts (tw_i inlX11) hown hK hP hL_this hK_this (by decide) rfl 0 (by decide) (hts _ (tw_c tw_16)) (pq_hv rfl hR_w_1) dX11_isPerson_3 ?_
    obtain ⟨w_2, hR_w_2, hL_w_2, hK_w_2⟩ := sh_o hSH 328 (ci := 10) (kd := 0) rfl hL_w_1 hK_w_1
    refine pg_f (v := .ref w_2) (C := RX10) (T := TX10) (N := 13) hx hb hts (tw_i inlX10) hown hK hP hL_w_1 hK_w_1 (by decide) rfl 8 (by decide) (hts _ (tw_c tw_379)) (pq_hv rfl hR_w_2) dX11_isPerson_6 ?_
    refine pg_f (v := .int (I 0 w_2)) (C := RX0) (T := TX0) (N := 16) hx hb hts (tw_i inlX0) hown hK hP hL_w_2 hK_w_2 (by decide) rfl 0 (by decide) (hts _ (tw_c tw_390)) rfl dX11_isPerson_9 ?_
    have h_3 : rg (I 0 w_2) 0 40 := GX.rI hG 0 rfl
    refine lv_iconst (v := 1) hx hb dX11_isPerson_12 (by decide) ?_
    refine lv_isub hx hb dX11_isPerson_13 ?_
    refine lv_topi (fun x_4 ex_4 => ?_)
    have h_5 : rg x_4 (-1) 39 := rg_of_eq ex_4 (rg_sub h_3 (rg_k (1 : Int32) 1 rfl) (by decide))
    refine pk_i (va_runS (As := [.int a0, .int 0, .int x_4]) (rest := []) ⟨hx, hb, hml, hown, hts⟩ (s_X11_between l D t σ I J ri rj rq H.size tg hSH hG.1 a0 (0 : Int32) x_4) (va_cwS 3 hts (tw_S tw_215 tw_216 tw_2 tw_217) rfl rfl rfl cd_yX11_between_3 ⟨Nat.le_of_ble_eq_true rfl, Nat.le_of_ble_eq_true rfl⟩) ⟨pq_blind, pq_pre hK hN hP hD⟩ rfl rfl hl.1 rfl (lv_room (Nat.le_of_ble_eq_true rfl)) dX11_isPerson_14 ⟨Nat.le_of_ble_eq_true rfl, Nat.le_of_ble_eq_true rfl⟩) hD hS hA (fun x_6 σ1 μ1 H locs hw_7 hP hD hS => ?_)
    obtain ⟨hu_8, hr_10⟩ := hw_7
    obtain ⟨hu_8a, hu_8b⟩ := Prod.mk.inj hu_8
    rw [hu_8a, hu_8b] at hP hD
    have h_11 : rg x_6 0 1 := by rcases hr_10 with ⟨q, -⟩ | ⟨q, -⟩ <;> rw [q] <;> exact ⟨by decide, by decide⟩
    rcases hr_10 with ⟨e_15, f_12, f_13⟩ | ⟨e_15, f_14⟩
    · refine lv_tov 1 e_15 ?_
      have h_16 : rg a0 0 2147483647 := rg_le2 f_12 (rg_k (0 : Int32) 0 rfl) (rg_full _) (by decide)
      have h_17 : rg a0 0 39 := rg_le1 f_13 h_16 h_5 (by decide)
      have h_18 : rg x_4 0 39 := rg_le2 f_13 h_16 h_5 (by decide)
      subst hQ
      exact W.zret (v := 1) hx hb hr (by decide) (fun t1 ht hW => ⟨⟨1, (σ, I, J, ri, rj, rq), rfl, ⟨rfl, (Or.inl ⟨rfl, (rg_w h_17 (by decide))⟩)⟩, by rw [ht]; exact hP, va_K.moved hW.alike hK, hD⟩, hS.F ht⟩) hS.2.2 dX11_isPerson_17
    · refine lv_tov 0 e_15 ?_
      subst hQ
      exact W.zret (v := 0) hx hb hr (by decide) (fun t1 ht hW => ⟨⟨0, (σ, I, J, ri, rj, rq), rfl, ⟨rfl, (Or.inr ⟨rfl, trivial⟩)⟩, by rw [ht]; exact hP, va_K.moved hW.alike hK, hD⟩, hS.F ht⟩) hS.2.2 dX11_isPerson_17
  exact go _ _ _ hP hD hS hl

set_option maxHeartbeats 4000000 in
set_option maxRecDepth 100000 in
theorem s_X11_isLot (l : Launch) (D : va_G) (t : pq_T) (σ : pq_S) (I : Nat → Nat → Int32) (J : Nat → Nat → Int64) (ri : Nat → Nat → Int32) (rj : Nat → Nat → Int64) (rq : Nat → Nat → Option Nat) (sz : Nat) (tg : Nat → Nat) (hSH : SH σ tg) (hG0 : GS tg σ I ri rq) (this : Nat) (a0 : Int32) (hL_this : this ∈ σ.1) (hK_this : σ.2.1 this = 11) : MetI l yX11_isLot (wa yX11_isLot cX11_isLot 2 (some .boolean)) ({ frames := 1, cells := 0, slots := 0, locals := 22 }) [.ref this, .int a0] D t σ (I, J, ri, rj, rq) sz 0 0 (fun (r : Int32) (u : pq_S × pq_M) => u = (σ, I, J, ri, rj, rq) ∧ ((r = 1 ∧ rg a0 100 104) ∨ (r = 0 ∧ True))) := by
  refine Met.ofW (cc := cX11_isLot) (maxL := 2) (ret := (some .boolean)) (by decide) rfl ?_
  intro p e s m args below meth c s₁ B hml hv
  obtain ⟨rfl, hsz, hP, hK, hD0, hN⟩ := hv
  have hx := B.exec
  have hb := B.bytes
  have hr := B.returns
  have hts := atoms_spec (ws := (wa yX11_isLot cX11_isLot 2 (some .boolean))) B.pre
  have hown : s.vm.findClass RX11 = some m.cls := findClass_of_methodNamed B.named
  have hlocks := B.notSynchronized
  subst hsz
  have hD : va_D (pq_B t σ (I, J, ri, rj, rq) s.heap.size) (pq_P t σ (I, J, ri, rj, rq)) := hD0.self
  generalize hAe : pq_B t σ (I, J, ri, rj, rq) s.heap.size = A at hD ⊢
  have hA : ∀ q : Nat, s.heap.size ≤ q → A q := fun q h => by rw [← hAe]; exact Or.inr h
  have hS : va_S A s.heap s.heap [] := va_S.rf
  have hG : GX [] tg σ I ri rj I ri rj rq := ⟨hG0, fun _ _ _ => rfl, fun _ _ _ _ _ => rfl, fun _ _ _ _ _ => rfl⟩
  have hl := lv_entry ([.ref this, .int a0]) (n := 2) (Nat.le_of_ble_eq_true rfl)
  rw [lg_entry_eq]
  generalize (lg_sl ([.ref this, .int a0]) ++ List.replicate (2 - (lg_sl ([.ref this, .int a0])).length) Slot.unset).toArray = ls at hl ⊢
  have hl : lv_has ls 2 [(0, .ref this), (1, .int a0)] := hl
  refine q_gen (fun Q hQ => ?_)
  have go : ∀ (H : Heap) (locs : List Loc) (ls : Array Slot), va_P D vwCl (pq_P t σ (I, J, ri, rj, rq)) H → va_D A (pq_P t σ (I, J, ri, rj, rq)) → va_S A s.heap H locs → lv_has ls 2 [(0, .ref this), (1, .int a0)] → W p l e ({ frames := 1, cells := 0, slots := 0, locals := 22 } : Room) s m (List.toArray ([.ref this, .int a0] : List Value)) below meth c H locs 0 0 Q (F0 m 0 ls []) := by
    intro H locs ls hP hD hS hl
    refine lv_iload_n hx hb dX11_isLot_0 rfl (lv_at hl 1 rfl) ?_
    refine lv_bipush (v := 100) hx hb dX11_isLot_1 (by decide) ?_
    refine lv_bipush (v := 100) hx hb dX11_isLot_3 (by decide) ?_
    refine lv_aload_n hx hb dX11_isLot_5 rfl (lv_at hl 0 rfl) ?_
    obtain ⟨w_1, hR_w_1, hL_w_1, hK_w_1⟩ := sh_o hSH 352 (ci := 11) (kd := 10) rfl hL_this hK_this
    refine pg_f (v := .ref w_1) (C := RX11) (T := TX11) (N := 5) hx hb hts (tw_i inlX11) hown hK hP hL_this hK_this (by decide) rfl 0 (by decide) (hts _ (tw_c tw_16)) (pq_hv rfl hR_w_1) dX11_isLot_6 ?_
    obtain ⟨w_2, hR_w_2, hL_w_2, hK_w_2⟩ := sh_o hSH 328 (ci := 10) (kd := 0) rfl hL_w_1 hK_w_1
    refine pg_f (v := .ref w_2) (C := RX10) (T := TX10) (N := 13) hx hb hts (tw_i inlX10) hown hK hP hL_w_1 hK_w_1 (by decide) rfl 8 (by decide) (hts _ (tw_c tw_379)) (pq_hv rfl hR_w_2) dX11_isLot_9 ?_
    refine pg_f (v := .int (I 10 w_2)) (C := RX0) (T := TX0) (N := 16) hx hb hts (tw_i inlX0) hown hK hP hL_w_2 hK_w_2 (by decide) rfl 10 (by decide) (hts _ (tw_c tw_380)) rfl dX11_isLot_12 ?_
    have h_3 : rg (I 10 w_2) 0 5 := GX.rI hG 10 rfl
    refine lv_iadd hx hb dX11_isLot_15 ?_
    refine lv_topi (fun x_4 ex_4 => ?_)
    have h_5 : rg x_4 100 105 := rg_of_eq ex_4 (rg_add (rg_k (100 : Int32) 100 rfl) h_3 (by decide))
    refine lv_iconst (v := 1) hx hb dX11_isLot_16 (by decide) ?_
    refine lv_isub hx hb dX11_isLot_17 ?_
    refine lv_topi (fun x_6 ex_6 => ?_)
    have h_7 : rg x_6 99 104 := rg_of_eq ex_6 (rg_sub h_5 (rg_k (1 : Int32) 1 rfl) (by decide))
    refine pk_i (va_runS (As := [.int a0, .int 100, .int x_6]) (rest := []) ⟨hx, hb, hml, hown, hts⟩ (s_X11_between l D t σ I J ri rj rq H.size tg hSH hG.1 a0 (100 : Int32) x_6) (va_cwS 3 hts (tw_S tw_215 tw_216 tw_2 tw_217) rfl rfl rfl cd_yX11_between_3 ⟨Nat.le_of_ble_eq_true rfl, Nat.le_of_ble_eq_true rfl⟩) ⟨pq_blind, pq_pre hK hN hP hD⟩ rfl rfl hl.1 rfl (lv_room (Nat.le_of_ble_eq_true rfl)) dX11_isLot_18 ⟨Nat.le_of_ble_eq_true rfl, Nat.le_of_ble_eq_true rfl⟩) hD hS hA (fun x_8 σ1 μ1 H locs hw_9 hP hD hS => ?_)
    obtain ⟨hu_10, hr_12⟩ := hw_9
    obtain ⟨hu_10a, hu_10b⟩ := Prod.mk.inj hu_10
    rw [hu_10a, hu_10b] at hP hD
    have h_13 : rg x_8 0 1 := by rcases hr_12 with ⟨q, -⟩ | ⟨q, -⟩ <;> rw [q] <;> exact ⟨by decide, by decide⟩
    rcases hr_12 with ⟨e_17, f_14, f_15⟩ | ⟨e_17, f_16⟩
    · refine lv_tov 1 e_17 ?_
      have h_18 : rg a0 100 2147483647 := rg_le2 f_14 (rg_k (100 : Int32) 100 rfl) (rg_full _) (by decide)
      have h_19 : rg a0 100 104 := rg_le1 f_15 h_18 h_7 (by decide)
      have h_20 : rg x_6 100 104 := rg_le2 f_15 h_18 h_7 (by decide)
      subst hQ
      exact W.zret (v := 1) hx hb hr (by decide) (fun t1 ht hW => ⟨⟨1, (σ, I, J, ri, rj, rq), rfl, ⟨rfl, (Or.inl ⟨rfl, (rg_w h_19 (by decide))⟩)⟩, by rw [ht]; exact hP, va_K.moved hW.alike hK, hD⟩, hS.F ht⟩) hS.2.2 dX11_isLot_21
    · refine lv_tov 0 e_17 ?_
      subst hQ
      exact W.zret (v := 0) hx hb hr (by decide) (fun t1 ht hW => ⟨⟨0, (σ, I, J, ri, rj, rq), rfl, ⟨rfl, (Or.inr ⟨rfl, trivial⟩)⟩, by rw [ht]; exact hP, va_K.moved hW.alike hK, hD⟩, hS.F ht⟩) hS.2.2 dX11_isLot_21
  exact go _ _ _ hP hD hS hl

set_option maxHeartbeats 4000000 in
set_option maxRecDepth 100000 in
theorem s_X11_go (l : Launch) (D : va_G) (t : pq_T) (σ : pq_S) (I : Nat → Nat → Int32) (J : Nat → Nat → Int64) (ri : Nat → Nat → Int32) (rj : Nat → Nat → Int64) (rq : Nat → Nat → Option Nat) (sz : Nat) (tg : Nat → Nat) (hSH : SH σ tg) (hG0 : GS tg σ I ri rq) (this : Nat) (a0 : Int32) (a1 : Int32) (hL_this : this ∈ σ.1) (hK_this : σ.2.1 this = 11) : MetI l yX11_go (wa yX11_go cX11_go 5 (some .boolean)) ({ frames := 2, cells := 0, slots := 0, locals := 44 }) [.ref this, .int a0, .int a1] D t σ (I, J, ri, rj, rq) sz 0 0 (fun (r : Int32) (u : pq_S × pq_M) => ∃ ri' : Nat → Nat → Int32, u = (σ, I, J, ri', rj, rq) ∧ GX [1005] tg σ I ri rj I ri' rj rq ∧ ((r = 1 ∧ rg a0 0 39 ∧ rg a1 0 200) ∨ (r = 0 ∧ True))) := by
  refine Met.ofW (cc := cX11_go) (maxL := 5) (ret := (some .boolean)) (by decide) rfl ?_
  intro p e s m args below meth c s₁ B hml hv
  obtain ⟨rfl, hsz, hP, hK, hD0, hN⟩ := hv
  have hx := B.exec
  have hb := B.bytes
  have hr := B.returns
  have hts := atoms_spec (ws := (wa yX11_go cX11_go 5 (some .boolean))) B.pre
  have hown : s.vm.findClass RX11 = some m.cls := findClass_of_methodNamed B.named
  have hlocks := B.notSynchronized
  subst hsz
  have hD : va_D (pq_B t σ (I, J, ri, rj, rq) s.heap.size) (pq_P t σ (I, J, ri, rj, rq)) := hD0.self
  generalize hAe : pq_B t σ (I, J, ri, rj, rq) s.heap.size = A at hD ⊢
  have hA : ∀ q : Nat, s.heap.size ≤ q → A q := fun q h => by rw [← hAe]; exact Or.inr h
  have hS : va_S A s.heap s.heap [] := va_S.rf
  have hG : GX [1005] tg σ I ri rj I ri rj rq := ⟨hG0, fun _ _ _ => rfl, fun _ _ _ _ _ => rfl, fun _ _ _ _ _ => rfl⟩
  have hl := lv_entry ([.ref this, .int a0, .int a1]) (n := 5) (Nat.le_of_ble_eq_true rfl)
  rw [lg_entry_eq]
  generalize (lg_sl ([.ref this, .int a0, .int a1]) ++ List.replicate (5 - (lg_sl ([.ref this, .int a0, .int a1])).length) Slot.unset).toArray = ls at hl ⊢
  have hl : lv_has ls 5 [(0, .ref this), (1, .int a0), (2, .int a1)] := hl
  refine q_gen (fun Q hQ => ?_)
  have go : ∀ (H : Heap) (locs : List Loc) (ls : Array Slot), va_P D vwCl (pq_P t σ (I, J, ri, rj, rq)) H → va_D A (pq_P t σ (I, J, ri, rj, rq)) → va_S A s.heap H locs → lv_has ls 5 [(0, .ref this), (1, .int a0), (2, .int a1)] → W p l e ({ frames := 2, cells := 0, slots := 0, locals := 44 } : Room) s m (List.toArray ([.ref this, .int a0, .int a1] : List Value)) below meth c H locs 0 0 Q (F0 m 0 ls []) := by
    intro H locs ls hP hD hS hl
    refine lv_aload_n hx hb dX11_go_0 rfl (lv_at hl 0 rfl) ?_
    refine lv_iload_n hx hb dX11_go_1 rfl (lv_at hl 1 rfl) ?_
    refine pk_i (va_runV (As := [.int a0]) (rest := []) ⟨hx, hb, hml, hown, hts⟩ (s_X11_isPerson l D t σ I J ri rj rq H.size tg hSH hG.1 this a0 hL_this hK_this) (cwV 1 hts (tw_V tw_405 tw_406 tw_407 tw_2 tw_408) rfl rfl rfl cv_yX11_isPerson_1 ⟨Nat.le_of_ble_eq_true rfl, Nat.le_of_ble_eq_true rfl⟩) ⟨pq_blind, pq_recv hK hP hL_this hK_this (by decide) rfl, pq_pre hK hN hP hD⟩ rfl rfl hl.1 rfl (lv_room (Nat.le_of_ble_eq_true rfl)) dX11_go_2 ⟨Nat.le_of_ble_eq_true rfl, Nat.le_of_ble_eq_true rfl⟩) hD hS hA (fun x_1 σ1 μ1 H locs hw_2 hP hD hS => ?_)
    obtain ⟨hu_3, hr_5⟩ := hw_2
    obtain ⟨hu_3a, hu_3b⟩ := Prod.mk.inj hu_3
    rw [hu_3a, hu_3b] at hP hD
    have h_6 : rg x_1 0 1 := by rcases hr_5 with ⟨q, -⟩ | ⟨q, -⟩ <;> rw [q] <;> exact ⟨by decide, by decide⟩
    refine lv_if_ne (tgt := 10) hx hb dX11_go_5 (by decide) (fun c_7 => ?_) (fun c_7 => ?_)
    · have f_8 := (hr_5.resolve_right (fun q => c_7 q.1)).2
      have h_9 : rg x_1 1 1 := rg_ne c_7 h_6 0 rfl (by decide)
      refine lv_aload_n hx hb dX11_go_10 rfl (lv_at hl 0 rfl) ?_
      obtain ⟨w_10, hR_w_10, hL_w_10, hK_w_10⟩ := sh_o hSH 352 (ci := 11) (kd := 10) rfl hL_this hK_this
      refine pg_f (v := .ref w_10) (C := RX11) (T := TX11) (N := 5) hx hb hts (tw_i inlX11) hown hK hP hL_this hK_this (by decide) rfl 0 (by decide) (hts _ (tw_c tw_16)) (pq_hv rfl hR_w_10) dX11_go_11 ?_
      obtain ⟨w_11, hR_w_11, hL_w_11, hK_w_11⟩ := sh_o hSH 328 (ci := 10) (kd := 0) rfl hL_w_10 hK_w_10
      refine pg_f (v := .ref w_11) (C := RX10) (T := TX10) (N := 13) hx hb hts (tw_i inlX10) hown hK hP hL_w_10 hK_w_10 (by decide) rfl 8 (by decide) (hts _ (tw_c tw_379)) (pq_hv rfl hR_w_11) dX11_go_14 ?_
      refine lv_astore_n (lv' := [(3, .ref w_11), (0, .ref this), (1, .int a0), (2, .int a1)]) hx hb dX11_go_17 rfl hl (by decide) rfl (fun ls hl => ?_)
      refine lv_aload_n hx hb dX11_go_18 rfl (lv_at hl 0 rfl) ?_
      obtain ⟨w_12, hR_w_12, hL_w_12, hK_w_12, hN_w_12, hT_w_12⟩ := sh_a hSH 5 (ci := 0) (kd := 13) (len := 40) rfl (by decide) hL_w_11 hK_w_11
      refine pg_f (v := .ref w_12) (C := RX0) (T := TX0) (N := 16) hx hb hts (tw_i inlX0) hown hK hP hL_w_11 hK_w_11 (by decide) rfl 5 (by decide) (hts _ (tw_c tw_404)) (pq_hv rfl hR_w_12) dX11_go_19 ?_
      refine lv_iload_n hx hb dX11_go_22 rfl (lv_at hl 2 rfl) ?_
      refine pl_i hx hb hK hP hL_w_12 hK_w_12 hN_w_12 (rg_in f_8 (by decide)) dX11_go_23 ?_
      refine lv_topi (fun x_13 ex_13 => ?_)
      have h_14 : rg x_13 0 300 := rg_of_eq ex_13 (GX.rR hG hT_w_12 rfl)
      refine lv_sipush (v := 300) hx hb dX11_go_24 (by decide) ?_
      have K_61 : ∀  (H : Heap) (locs : List Loc) (ls : Array Slot), GX [1005] tg σ I ri rj I ri rj rq → va_P D vwCl (pq_P t σ (I, J, ri, rj, rq)) H → va_D A (pq_P t σ (I, J, ri, rj, rq)) → va_S A s.heap H locs → lv_has ls 5 [] → W p l e ({ frames := 2, cells := 0, slots := 0, locals := 44 } : Room) s m (List.toArray ([.ref this, .int a0, .int a1] : List Value)) below meth c H locs 0 0 Q (F0 m 40 ls []) := by
        intro H locs ls hG hP hD hS hl
        refine lv_iconst (v := 0) hx hb dX11_go_40 (by decide) ?_
        subst hQ
        exact W.zret (v := 0) hx hb hr (by decide) (fun t1 ht hW => ⟨⟨0, (σ, I, J, ri, rj, rq), rfl, ⟨ri, rfl, hG, (Or.inr ⟨rfl, trivial⟩)⟩, by rw [ht]; exact hP, va_K.moved hW.alike hK, hD⟩, hS.F ht⟩) hS.2.2 dX11_go_41
      refine lv_icmp_eq (tgt := 40) hx hb dX11_go_27 (by decide) (fun c_62 => ?_) (fun c_62 => ?_)
      · have h_63 : rg x_13 300 300 := rg_and h_14 (rg_of_eq c_62 (rg_k (300 : Int32) 300 rfl)) (by decide)
        exact K_61 _ _ _ hG hP hD hS (lv_sub hl [] rfl)
      · have h_64 : rg x_13 0 299 := rg_ne c_62 h_14 300 rfl (by decide)
        refine lv_aload_n hx hb dX11_go_30 rfl (lv_at hl 0 rfl) ?_
        refine pg_f (v := .ref w_12) (C := RX0) (T := TX0) (N := 16) hx hb hts (tw_i inlX0) hown hK hP hL_w_11 hK_w_11 (by decide) rfl 5 (by decide) (hts _ (tw_c tw_404)) (pq_hv rfl hR_w_12) dX11_go_31 ?_
        refine lv_iload_n hx hb dX11_go_34 rfl (lv_at hl 2 rfl) ?_
        refine pl_i hx hb hK hP hL_w_12 hK_w_12 hN_w_12 (rg_in f_8 (by decide)) dX11_go_35 ?_
        refine lv_tov x_13 ex_13.symm ?_
        refine lv_iload_n hx hb dX11_go_36 rfl (lv_at hl 3 rfl) ?_
        refine lv_icmp_ne (tgt := 42) hx hb dX11_go_37 (by decide) (fun c_65 => ?_) (fun c_65 => ?_)
        · refine lv_aload_n hx hb dX11_go_42 rfl (lv_at hl 1 rfl) ?_
          refine lv_iload_n hx hb dX11_go_43 rfl (lv_at hl 3 rfl) ?_
          refine pk_i (va_runV (As := [.int a1]) (rest := []) ⟨hx, hb, hml, hown, hts⟩ (s_X11_isRing l D t σ I J ri rj rq H.size tg hSH hG.1 this a1 hL_this hK_this) (cwV 1 hts (tw_V tw_211 tw_212 tw_213 tw_2 tw_214) rfl rfl rfl cv_yX11_isRing_1 ⟨Nat.le_of_ble_eq_true rfl, Nat.le_of_ble_eq_true rfl⟩) ⟨pq_blind, pq_recv hK hP hL_this hK_this (by decide) rfl, pq_pre hK hN hP hD⟩ rfl rfl hl.1 rfl (lv_room (Nat.le_of_ble_eq_true rfl)) dX11_go_44 ⟨Nat.le_of_ble_eq_true rfl, Nat.le_of_ble_eq_true rfl⟩) hD hS hA (fun x_66 σ1 μ1 H locs hw_67 hP hD hS => ?_)
          obtain ⟨hu_68, hr_70⟩ := hw_67
          obtain ⟨hu_68a, hu_68b⟩ := Prod.mk.inj hu_68
          rw [hu_68a, hu_68b] at hP hD
          have h_71 : rg x_66 0 1 := by rcases hr_70 with ⟨q, -⟩ | ⟨q, -⟩ <;> rw [q] <;> exact ⟨by decide, by decide⟩
          have K_107 : ∀  (H : Heap) (locs : List Loc) (ls : Array Slot), rg (x_66) 0 0 → GX [1005] tg σ I ri rj I ri rj rq → va_P D vwCl (pq_P t σ (I, J, ri, rj, rq)) H → va_D A (pq_P t σ (I, J, ri, rj, rq)) → va_S A s.heap H locs → lv_has ls 5 [(1, .int a0), (2, .int a1), (3, .ref w_11)] → W p l e ({ frames := 2, cells := 0, slots := 0, locals := 44 } : Room) s m (List.toArray ([.ref this, .int a0, .int a1] : List Value)) below meth c H locs 0 0 Q (F0 m 81 ls [.int 0]) := by
            intro H locs ls h_109 hG hP hD hS hl
            refine lv_istore (lv' := [(4, .int 0), (1, .int a0), (2, .int a1), (3, .ref w_11)]) hx hb dX11_go_81 hl (by decide) rfl (fun ls hl => ?_)
            refine lv_iload hx hb dX11_go_83 (lv_at hl 0 rfl) ?_
            have K_111 : ∀  (H : Heap) (locs : List Loc) (ls : Array Slot), GX [1005] tg σ I ri rj I ri rj rq → va_P D vwCl (pq_P t σ (I, J, ri, rj, rq)) H → va_D A (pq_P t σ (I, J, ri, rj, rq)) → va_S A s.heap H locs → lv_has ls 5 [(4, .int 0)] → W p l e ({ frames := 2, cells := 0, slots := 0, locals := 44 } : Room) s m (List.toArray ([.ref this, .int a0, .int a1] : List Value)) below meth c H locs 0 0 Q (F0 m 95 ls []) := by
              intro H locs ls hG hP hD hS hl
              refine lv_iload hx hb dX11_go_95 (lv_at hl 0 rfl) ?_
              subst hQ
              exact W.zret (v := 0) hx hb hr (by decide) (fun t1 ht hW => ⟨⟨0, (σ, I, J, ri, rj, rq), rfl, ⟨ri, rfl, hG, (Or.inr ⟨rfl, trivial⟩)⟩, by rw [ht]; exact hP, va_K.moved hW.alike hK, hD⟩, hS.F ht⟩) hS.2.2 dX11_go_97
            refine lv_if_eq (tgt := 95) hx hb dX11_go_85 (by decide) (fun c_112 => ?_) (fun c_112 => absurd c_112 (by decide))
            exact K_111 _ _ _ hG hP hD hS (lv_sub hl [0] rfl)
          have K_113 : ∀  (H : Heap) (locs : List Loc) (ls : Array Slot), rg (a1) 0 200 → GX [1005] tg σ I ri rj I ri rj rq → va_P D vwCl (pq_P t σ (I, J, ri, rj, rq)) H → va_D A (pq_P t σ (I, J, ri, rj, rq)) → va_S A s.heap H locs → lv_has ls 5 [(1, .int a0), (2, .int a1), (3, .ref w_11)] → W p l e ({ frames := 2, cells := 0, slots := 0, locals := 44 } : Room) s m (List.toArray ([.ref this, .int a0, .int a1] : List Value)) below meth c H locs 0 0 Q (F0 m 81 ls [.int 1]) := by
            intro H locs ls h_115 hG hP hD hS hl
            refine lv_istore (lv' := [(4, .int 1), (1, .int a0), (2, .int a1), (3, .ref w_11)]) hx hb dX11_go_81 hl (by decide) rfl (fun ls hl => ?_)
            refine lv_iload hx hb dX11_go_83 (lv_at hl 0 rfl) ?_
            have K_119 : ∀  (ri_118 : Nat → Nat → Int32) (H : Heap) (locs : List Loc) (ls : Array Slot), GX [1005] tg σ I ri rj I ri_118 rj rq → va_P D vwCl (pq_P t σ (I, J, ri_118, rj, rq)) H → va_D A (pq_P t σ (I, J, ri_118, rj, rq)) → va_S A s.heap H locs → lv_has ls 5 [(4, .int 1)] → W p l e ({ frames := 2, cells := 0, slots := 0, locals := 44 } : Room) s m (List.toArray ([.ref this, .int a0, .int a1] : List Value)) below meth c H locs 0 0 Q (F0 m 95 ls []) := by
              intro ri_118 H locs ls hG hP hD hS hl
              refine lv_iload hx hb dX11_go_95 (lv_at hl 0 rfl) ?_
              subst hQ
              exact W.zret (v := 1) hx hb hr (by decide) (fun t1 ht hW => ⟨⟨1, (σ, I, J, ri_118, rj, rq), rfl, ⟨ri_118, rfl, hG, (Or.inl ⟨rfl, (rg_w f_8 (by decide)), (rg_w h_115 (by decide))⟩)⟩, by rw [ht]; exact hP, va_K.moved hW.alike hK, hD⟩, hS.F ht⟩) hS.2.2 dX11_go_97
            refine lv_if_eq (tgt := 95) hx hb dX11_go_85 (by decide) (fun c_120 => absurd c_120 (by decide)) (fun c_120 => ?_)
            refine lv_aload_n hx hb dX11_go_88 rfl (lv_at hl 3 rfl) ?_
            refine pg_f (v := .ref w_12) (C := RX0) (T := TX0) (N := 16) hx hb hts (tw_i inlX0) hown hK hP hL_w_11 hK_w_11 (by decide) rfl 5 (by decide) (hts _ (tw_c tw_404)) (pq_hv rfl hR_w_12) dX11_go_89 ?_
            refine lv_iload_n hx hb dX11_go_92 rfl (lv_at hl 1 rfl) ?_
            refine lv_iload_n hx hb dX11_go_93 rfl (lv_at hl 2 rfl) ?_
            refine pt_i hx hb hK hP hD hS hL_w_12 hK_w_12 hN_w_12 (rg_in f_8 (by decide)) dX11_go_94 (fun r_121 H locs er_121 hP hD hS => ?_)
            have hG := GX.wR hG hSH hT_w_12 rfl er_121 (rg_w h_115 (by decide)) (by decide)
            exact K_119 r_121 _ _ _ hG hP hD hS (lv_sub hl [0] rfl)
          have K_122 : ∀  (H : Heap) (locs : List Loc) (ls : Array Slot), rg (a1) 0 200 → GX [1005] tg σ I ri rj I ri rj rq → va_P D vwCl (pq_P t σ (I, J, ri, rj, rq)) H → va_D A (pq_P t σ (I, J, ri, rj, rq)) → va_S A s.heap H locs → lv_has ls 5 [(1, .int a0), (2, .int a1), (3, .ref w_11)] → W p l e ({ frames := 2, cells := 0, slots := 0, locals := 44 } : Room) s m (List.toArray ([.ref this, .int a0, .int a1] : List Value)) below meth c H locs 0 0 Q (F0 m 76 ls []) := by
            intro H locs ls h_124 hG hP hD hS hl
            refine lv_iconst (v := 1) hx hb dX11_go_76 (by decide) ?_
            refine lv_goto (tgt := 81) hx hb dX11_go_77 (by decide) ?_
            exact K_113 _ _ _ (rg_w h_124 (by decide)) hG hP hD hS (lv_sub hl [0, 1, 2] rfl)
          refine lv_if_ne (tgt := 76) hx hb dX11_go_47 (by decide) (fun c_125 => ?_) (fun c_125 => ?_)
          · have f_126 := (hr_70.resolve_right (fun q => c_125 q.1)).2
            have h_127 : rg x_66 1 1 := rg_ne c_125 h_71 0 rfl (by decide)
            exact K_122 _ _ _ (rg_w f_126 (by decide)) hG hP hD hS (lv_sub hl [2, 3, 0] rfl)
          · have f_128 := (hr_70.resolve_left (fun q => absurd (q.1.symm.trans c_125) (by decide))).2
            have h_129 : rg x_66 0 0 := rg_and h_71 (rg_of_eq c_125 (rg_k (0 : Int32) 0 rfl)) (by decide)
            refine lv_iload_n hx hb dX11_go_50 rfl (lv_at hl 3 rfl) ?_
            refine lv_sipush (v := 200) hx hb dX11_go_51 (by decide) ?_
            refine lv_icmp_eq (tgt := 76) hx hb dX11_go_54 (by decide) (fun c_130 => ?_) (fun c_130 => ?_)
            · have h_131 : rg a1 200 200 := rg_and (rg_full _) (rg_of_eq c_130 (rg_k (200 : Int32) 200 rfl)) (by decide)
              exact K_122 _ _ _ (rg_w h_131 (by decide)) hG hP hD hS (lv_sub hl [2, 3, 0] rfl)
            · refine lv_aload_n hx hb dX11_go_57 rfl (lv_at hl 1 rfl) ?_
              refine lv_iload_n hx hb dX11_go_58 rfl (lv_at hl 3 rfl) ?_
              refine pk_i (va_runV (As := [.int a1]) (rest := []) ⟨hx, hb, hml, hown, hts⟩ (s_X11_isLot l D t σ I J ri rj rq H.size tg hSH hG.1 this a1 hL_this hK_this) (cwV 1 hts (tw_V tw_409 tw_410 tw_411 tw_2 tw_412) rfl rfl rfl cv_yX11_isLot_1 ⟨Nat.le_of_ble_eq_true rfl, Nat.le_of_ble_eq_true rfl⟩) ⟨pq_blind, pq_recv hK hP hL_this hK_this (by decide) rfl, pq_pre hK hN hP hD⟩ rfl rfl hl.1 rfl (lv_room (Nat.le_of_ble_eq_true rfl)) dX11_go_59 ⟨Nat.le_of_ble_eq_true rfl, Nat.le_of_ble_eq_true rfl⟩) hD hS hA (fun x_132 σ1 μ1 H locs hw_133 hP hD hS => ?_)
              obtain ⟨hu_134, hr_136⟩ := hw_133
              obtain ⟨hu_134a, hu_134b⟩ := Prod.mk.inj hu_134
              rw [hu_134a, hu_134b] at hP hD
              have h_137 : rg x_132 0 1 := by rcases hr_136 with ⟨q, -⟩ | ⟨q, -⟩ <;> rw [q] <;> exact ⟨by decide, by decide⟩
              have K_153 : ∀  (H : Heap) (locs : List Loc) (ls : Array Slot), GX [1005] tg σ I ri rj I ri rj rq → va_P D vwCl (pq_P t σ (I, J, ri, rj, rq)) H → va_D A (pq_P t σ (I, J, ri, rj, rq)) → va_S A s.heap H locs → lv_has ls 5 [(1, .int a0), (2, .int a1), (3, .ref w_11)] → W p l e ({ frames := 2, cells := 0, slots := 0, locals := 44 } : Room) s m (List.toArray ([.ref this, .int a0, .int a1] : List Value)) below meth c H locs 0 0 Q (F0 m 80 ls []) := by
                intro H locs ls hG hP hD hS hl
                refine lv_iconst (v := 0) hx hb dX11_go_80 (by decide) ?_
                exact K_107 _ _ _ (rg_w h_129 (by decide)) hG hP hD hS (lv_sub hl [0, 1, 2] rfl)
              refine lv_if_eq (tgt := 80) hx hb dX11_go_62 (by decide) (fun c_154 => ?_) (fun c_154 => ?_)
              · have f_155 := (hr_136.resolve_left (fun q => absurd (q.1.symm.trans c_154) (by decide))).2
                have h_156 : rg x_132 0 0 := rg_and h_137 (rg_of_eq c_154 (rg_k (0 : Int32) 0 rfl)) (by decide)
                exact K_153 _ _ _ hG hP hD hS (lv_sub hl [2, 3, 0] rfl)
              · have f_157 := (hr_136.resolve_right (fun q => c_154 q.1)).2
                have h_158 : rg x_132 1 1 := rg_ne c_154 h_137 0 rfl (by decide)
                refine lv_aload_n hx hb dX11_go_65 rfl (lv_at hl 0 rfl) ?_
                refine lv_iload_n hx hb dX11_go_66 rfl (lv_at hl 3 rfl) ?_
                refine lv_bipush (v := 100) hx hb dX11_go_67 (by decide) ?_
                refine lv_isub hx hb dX11_go_69 ?_
                refine lv_topi (fun x_159 ex_159 => ?_)
                have h_160 : rg x_159 0 4 := rg_of_eq ex_159 (rg_sub f_157 (rg_k (100 : Int32) 100 rfl) (by decide))
                refine pk_i (va_runV (As := [.int x_159]) (rest := []) ⟨hx, hb, hml, hown, hts⟩ (s_X0_freeBeds l D t σ I J ri rj rq H.size tg hSH hG.1 w_11 x_159 hL_w_11 hK_w_11 (rg_w h_160 (by decide))) (cwV 1 hts (tw_V tw_413 tw_414 tw_415 tw_45 tw_416) rfl rfl rfl cv_yX0_freeBeds_1 ⟨Nat.le_of_ble_eq_true rfl, Nat.le_of_ble_eq_true rfl⟩) ⟨pq_blind, pq_recv hK hP hL_w_11 hK_w_11 (by decide) rfl, pq_pre hK hN hP hD⟩ rfl rfl hl.1 rfl (lv_room (Nat.le_of_ble_eq_true rfl)) dX11_go_70 ⟨Nat.le_of_ble_eq_true rfl, Nat.le_of_ble_eq_true rfl⟩) hD hS hA (fun x_161 σ1 μ1 H locs hw_162 hP hD hS => ?_)
                have hu_163 := hw_162
                obtain ⟨hu_163a, hu_163b⟩ := Prod.mk.inj hu_163
                rw [hu_163a, hu_163b] at hP hD
                refine lv_if_le (tgt := 80) hx hb dX11_go_73 (by decide) (fun c_166 => ?_) (fun c_166 => ?_)
                · have h_167 : rg x_161 (-2147483648) 0 := rg_le1 c_166 (rg_full _) (rg_k (0 : Int32) 0 rfl) (by decide)
                  exact K_153 _ _ _ hG hP hD hS (lv_sub hl [2, 3, 0] rfl)
                · have h_168 : rg x_161 1 2147483647 := rg_lt2 (nle c_166) (rg_k (0 : Int32) 0 rfl) (rg_full _) (by decide)
                  exact K_122 _ _ _ (rg_w f_157 (by decide)) hG hP hD hS (lv_sub hl [2, 3, 0] rfl)
        · have h_169 : rg a1 0 299 := rg_and (rg_full _) (rg_of_eq c_65.symm h_64) (by decide)
          exact K_61 _ _ _ hG hP hD hS (lv_sub hl [] rfl)
    · have f_170 := (hr_5.resolve_left (fun q => absurd (q.1.symm.trans c_7) (by decide))).2
      have h_171 : rg x_1 0 0 := rg_and h_6 (rg_of_eq c_7 (rg_k (0 : Int32) 0 rfl)) (by decide)
      refine lv_iconst (v := 0) hx hb dX11_go_8 (by decide) ?_
      subst hQ
      exact W.zret (v := 0) hx hb hr (by decide) (fun t1 ht hW => ⟨⟨0, (σ, I, J, ri, rj, rq), rfl, ⟨ri, rfl, hG, (Or.inr ⟨rfl, trivial⟩)⟩, by rw [ht]; exact hP, va_K.moved hW.alike hK, hD⟩, hS.F ht⟩) hS.2.2 dX11_go_9
  exact go _ _ _ hP hD hS hl

set_option maxHeartbeats 4000000 in
set_option maxRecDepth 100000 in
theorem s_X11_death (l : Launch) (D : va_G) (t : pq_T) (σ : pq_S) (I : Nat → Nat → Int32) (J : Nat → Nat → Int64) (ri : Nat → Nat → Int32) (rj : Nat → Nat → Int64) (rq : Nat → Nat → Option Nat) (sz : Nat) (tg : Nat → Nat) (hSH : SH σ tg) (hG0 : GS tg σ I ri rq) (this : Nat) (a0 : Int32) (hL_this : this ∈ σ.1) (hK_this : σ.2.1 this = 11) : MetI l yX11_death (wa yX11_death cX11_death 2 (some .int)) ({ frames := 4, cells := 0, slots := 0, locals := 120 }) [.ref this, .int a0] D t σ (I, J, ri, rj, rq) sz 0 0 (fun (r : Int32) (u : pq_S × pq_M) => ∃ ri' : Nat → Nat → Int32, u = (σ, I, J, ri', rj, rq) ∧ GX [1005] tg σ I ri rj I ri' rj rq) := by
  refine Met.ofW (cc := cX11_death) (maxL := 2) (ret := (some .int)) (by decide) rfl ?_
  intro p e s m args below meth c s₁ B hml hv
  obtain ⟨rfl, hsz, hP, hK, hD0, hN⟩ := hv
  have hx := B.exec
  have hb := B.bytes
  have hr := B.returns
  have hts := atoms_spec (ws := (wa yX11_death cX11_death 2 (some .int))) B.pre
  have hown : s.vm.findClass RX11 = some m.cls := findClass_of_methodNamed B.named
  have hlocks := B.notSynchronized
  subst hsz
  have hD : va_D (pq_B t σ (I, J, ri, rj, rq) s.heap.size) (pq_P t σ (I, J, ri, rj, rq)) := hD0.self
  generalize hAe : pq_B t σ (I, J, ri, rj, rq) s.heap.size = A at hD ⊢
  have hA : ∀ q : Nat, s.heap.size ≤ q → A q := fun q h => by rw [← hAe]; exact Or.inr h
  have hS : va_S A s.heap s.heap [] := va_S.rf
  have hG : GX [1005] tg σ I ri rj I ri rj rq := ⟨hG0, fun _ _ _ => rfl, fun _ _ _ _ _ => rfl, fun _ _ _ _ _ => rfl⟩
  have hl := lv_entry ([.ref this, .int a0]) (n := 2) (Nat.le_of_ble_eq_true rfl)
  rw [lg_entry_eq]
  generalize (lg_sl ([.ref this, .int a0]) ++ List.replicate (2 - (lg_sl ([.ref this, .int a0])).length) Slot.unset).toArray = ls at hl ⊢
  have hl : lv_has ls 2 [(0, .ref this), (1, .int a0)] := hl
  refine q_gen (fun Q hQ => ?_)
  have go : ∀ (H : Heap) (locs : List Loc) (ls : Array Slot), va_P D vwCl (pq_P t σ (I, J, ri, rj, rq)) H → va_D A (pq_P t σ (I, J, ri, rj, rq)) → va_S A s.heap H locs → lv_has ls 2 [(0, .ref this), (1, .int a0)] → W p l e ({ frames := 4, cells := 0, slots := 0, locals := 120 } : Room) s m (List.toArray ([.ref this, .int a0] : List Value)) below meth c H locs 0 0 Q (F0 m 0 ls []) := by
    intro H locs ls hP hD hS hl
    refine lv_aload_n hx hb dX11_death_0 rfl (lv_at hl 0 rfl) ?_
    refine lv_iload_n hx hb dX11_death_1 rfl (lv_at hl 1 rfl) ?_
    refine pk_i (va_runV (As := [.int a0]) (rest := []) ⟨hx, hb, hml, hown, hts⟩ (s_X11_isPerson l D t σ I J ri rj rq H.size tg hSH hG.1 this a0 hL_this hK_this) (cwV 1 hts (tw_V tw_405 tw_406 tw_407 tw_2 tw_408) rfl rfl rfl cv_yX11_isPerson_1 ⟨Nat.le_of_ble_eq_true rfl, Nat.le_of_ble_eq_true rfl⟩) ⟨pq_blind, pq_recv hK hP hL_this hK_this (by decide) rfl, pq_pre hK hN hP hD⟩ rfl rfl hl.1 rfl (lv_room (Nat.le_of_ble_eq_true rfl)) dX11_death_2 ⟨Nat.le_of_ble_eq_true rfl, Nat.le_of_ble_eq_true rfl⟩) hD hS hA (fun x_1 σ1 μ1 H locs hw_2 hP hD hS => ?_)
    obtain ⟨hu_3, hr_5⟩ := hw_2
    obtain ⟨hu_3a, hu_3b⟩ := Prod.mk.inj hu_3
    rw [hu_3a, hu_3b] at hP hD
    have h_6 : rg x_1 0 1 := by rcases hr_5 with ⟨q, -⟩ | ⟨q, -⟩ <;> rw [q] <;> exact ⟨by decide, by decide⟩
    have K_33 : ∀  (H : Heap) (locs : List Loc) (ls : Array Slot), GX [1005] tg σ I ri rj I ri rj rq → va_P D vwCl (pq_P t σ (I, J, ri, rj, rq)) H → va_D A (pq_P t σ (I, J, ri, rj, rq)) → va_S A s.heap H locs → lv_has ls 2 [] → W p l e ({ frames := 4, cells := 0, slots := 0, locals := 120 } : Room) s m (List.toArray ([.ref this, .int a0] : List Value)) below meth c H locs 0 0 Q (F0 m 26 ls []) := by
      intro H locs ls hG hP hD hS hl
      refine lv_iconst (v := (-1)) hx hb dX11_death_26 (by decide) ?_
      subst hQ
      exact W.iret (v := (-1)) hx hb hr (fun t1 ht hW => ⟨⟨(-1), (σ, I, J, ri, rj, rq), rfl, ⟨ri, rfl, hG⟩, by rw [ht]; exact hP, va_K.moved hW.alike hK, hD⟩, hS.F ht⟩) hS.2.2 dX11_death_27
    refine lv_if_eq (tgt := 26) hx hb dX11_death_5 (by decide) (fun c_34 => ?_) (fun c_34 => ?_)
    · have f_35 := (hr_5.resolve_left (fun q => absurd (q.1.symm.trans c_34) (by decide))).2
      have h_36 : rg x_1 0 0 := rg_and h_6 (rg_of_eq c_34 (rg_k (0 : Int32) 0 rfl)) (by decide)
      exact K_33 _ _ _ hG hP hD hS (lv_sub hl [] rfl)
    · have f_37 := (hr_5.resolve_right (fun q => c_34 q.1)).2
      have h_38 : rg x_1 1 1 := rg_ne c_34 h_6 0 rfl (by decide)
      refine lv_aload_n hx hb dX11_death_8 rfl (lv_at hl 0 rfl) ?_
      obtain ⟨w_39, hR_w_39, hL_w_39, hK_w_39⟩ := sh_o hSH 352 (ci := 11) (kd := 10) rfl hL_this hK_this
      refine pg_f (v := .ref w_39) (C := RX11) (T := TX11) (N := 5) hx hb hts (tw_i inlX11) hown hK hP hL_this hK_this (by decide) rfl 0 (by decide) (hts _ (tw_c tw_16)) (pq_hv rfl hR_w_39) dX11_death_9 ?_
      obtain ⟨w_40, hR_w_40, hL_w_40, hK_w_40⟩ := sh_o hSH 328 (ci := 10) (kd := 0) rfl hL_w_39 hK_w_39
      refine pg_f (v := .ref w_40) (C := RX10) (T := TX10) (N := 13) hx hb hts (tw_i inlX10) hown hK hP hL_w_39 hK_w_39 (by decide) rfl 8 (by decide) (hts _ (tw_c tw_379)) (pq_hv rfl hR_w_40) dX11_death_12 ?_
      obtain ⟨w_41, hR_w_41, hL_w_41, hK_w_41, hN_w_41, hT_w_41⟩ := sh_a hSH 5 (ci := 0) (kd := 13) (len := 40) rfl (by decide) hL_w_40 hK_w_40
      refine pg_f (v := .ref w_41) (C := RX0) (T := TX0) (N := 16) hx hb hts (tw_i inlX0) hown hK hP hL_w_40 hK_w_40 (by decide) rfl 5 (by decide) (hts _ (tw_c tw_404)) (pq_hv rfl hR_w_41) dX11_death_15 ?_
      refine lv_iload_n hx hb dX11_death_18 rfl (lv_at hl 1 rfl) ?_
      refine pl_i hx hb hK hP hL_w_41 hK_w_41 hN_w_41 (rg_in f_37 (by decide)) dX11_death_19 ?_
      refine lv_topi (fun x_42 ex_42 => ?_)
      have h_43 : rg x_42 0 300 := rg_of_eq ex_42 (GX.rR hG hT_w_41 rfl)
      refine lv_sipush (v := 300) hx hb dX11_death_20 (by decide) ?_
      refine lv_icmp_ne (tgt := 28) hx hb dX11_death_23 (by decide) (fun c_44 => ?_) (fun c_44 => ?_)
      · have h_45 : rg x_42 0 299 := rg_ne c_44 h_43 300 rfl (by decide)
        refine lv_aload_n hx hb dX11_death_28 rfl (lv_at hl 0 rfl) ?_
        refine pg_f (v := .ref w_39) (C := RX11) (T := TX11) (N := 5) hx hb hts (tw_i inlX11) hown hK hP hL_this hK_this (by decide) rfl 0 (by decide) (hts _ (tw_c tw_16)) (pq_hv rfl hR_w_39) dX11_death_29 ?_
        refine pg_f (v := .ref w_40) (C := RX10) (T := TX10) (N := 13) hx hb hts (tw_i inlX10) hown hK hP hL_w_39 hK_w_39 (by decide) rfl 8 (by decide) (hts _ (tw_c tw_379)) (pq_hv rfl hR_w_40) dX11_death_32 ?_
        refine pg_f (v := .ref w_41) (C := RX0) (T := TX0) (N := 16) hx hb hts (tw_i inlX0) hown hK hP hL_w_40 hK_w_40 (by decide) rfl 5 (by decide) (hts _ (tw_c tw_404)) (pq_hv rfl hR_w_41) dX11_death_35 ?_
        refine lv_iload_n hx hb dX11_death_38 rfl (lv_at hl 1 rfl) ?_
        refine lv_sipush (v := 300) hx hb dX11_death_39 (by decide) ?_
        refine pt_i hx hb hK hP hD hS hL_w_41 hK_w_41 hN_w_41 (rg_in f_37 (by decide)) dX11_death_42 (fun r_46 H locs er_46 hP hD hS => ?_)
        have hG := GX.wR hG hSH hT_w_41 rfl er_46 (rg_w (rg_k (300 : Int32) 300 rfl) (by decide)) (by decide)
        refine lv_aload_n hx hb dX11_death_43 rfl (lv_at hl 0 rfl) ?_
        refine pg_f (v := .ref w_39) (C := RX11) (T := TX11) (N := 5) hx hb hts (tw_i inlX11) hown hK hP hL_this hK_this (by decide) rfl 0 (by decide) (hts _ (tw_c tw_16)) (pq_hv rfl hR_w_39) dX11_death_44 ?_
        refine lv_iload_n hx hb dX11_death_47 rfl (lv_at hl 1 rfl) ?_
        refine lv_aload_n hx hb dX11_death_48 rfl (lv_at hl 0 rfl) ?_
        refine pg_f (v := .ref w_39) (C := RX11) (T := TX11) (N := 5) hx hb hts (tw_i inlX11) hown hK hP hL_this hK_this (by decide) rfl 0 (by decide) (hts _ (tw_c tw_16)) (pq_hv rfl hR_w_39) dX11_death_49 ?_
        refine lv_iload_n hx hb dX11_death_52 rfl (lv_at hl 1 rfl) ?_
        refine pk_i (va_runV (As := [.int a0]) (rest := [.int a0, .ref w_39]) ⟨hx, hb, hml, hown, hts⟩ (s_X10_heirOf l D t σ I J r_46 rj rq H.size tg hSH hG.1 w_39 a0 hL_w_39 hK_w_39 (rg_w f_37 (by decide))) (cwV 1 hts (tw_V tw_453 tw_454 tw_455 tw_15 tw_456) rfl rfl rfl cv_yX10_heirOf_1 ⟨Nat.le_of_ble_eq_true rfl, Nat.le_of_ble_eq_true rfl⟩) ⟨pq_blind, pq_recv hK hP hL_w_39 hK_w_39 (by decide) rfl, pq_pre hK hN hP hD⟩ rfl rfl hl.1 rfl (lv_room (Nat.le_of_ble_eq_true rfl)) dX11_death_53 ⟨Nat.le_of_ble_eq_true rfl, Nat.le_of_ble_eq_true rfl⟩) hD hS hA (fun x_47 σ1 μ1 H locs hw_48 hP hD hS => ?_)
        obtain ⟨ri_49, hu_50, hg_51, hr_52⟩ := hw_48
        obtain ⟨hu_50a, hu_50b⟩ := Prod.mk.inj hu_50
        rw [hu_50a, hu_50b] at hP hD
        have hG := GX.tr hG hg_51 (by decide)
        refine pk_i (va_runV (As := [.int a0, .int x_47]) (rest := []) ⟨hx, hb, hml, hown, hts⟩ (s_X10_passTitles l D t σ I J ri_49 rj rq H.size tg hSH hG.1 w_39 a0 x_47 hL_w_39 hK_w_39 (rg_w hr_52 (by decide))) (cwV 2 hts (tw_V tw_494 tw_495 tw_496 tw_15 tw_497) rfl rfl rfl cv_yX10_passTitles_2 ⟨Nat.le_of_ble_eq_true rfl, Nat.le_of_ble_eq_true rfl⟩) ⟨pq_blind, pq_recv hK hP hL_w_39 hK_w_39 (by decide) rfl, pq_pre hK hN hP hD⟩ rfl rfl hl.1 rfl (lv_room (Nat.le_of_ble_eq_true rfl)) dX11_death_56 ⟨Nat.le_of_ble_eq_true rfl, Nat.le_of_ble_eq_true rfl⟩) hD hS hA (fun x_53 σ1 μ1 H locs hw_54 hP hD hS => ?_)
        obtain ⟨ri_55, hu_56, hg_57⟩ := hw_54
        obtain ⟨hu_56a, hu_56b⟩ := Prod.mk.inj hu_56
        rw [hu_56a, hu_56b] at hP hD
        have hG := GX.tr hG hg_57 (by decide)
        subst hQ
        exact W.iret (v := x_53) hx hb hr (fun t1 ht hW => ⟨⟨x_53, (σ, I, J, ri_55, rj, rq), rfl, ⟨ri_55, rfl, hG⟩, by rw [ht]; exact hP, va_K.moved hW.alike hK, hD⟩, hS.F ht⟩) hS.2.2 dX11_death_59
      · have h_59 : rg x_42 300 300 := rg_and h_43 (rg_of_eq c_44 (rg_k (300 : Int32) 300 rfl)) (by decide)
        exact K_33 _ _ _ hG hP hD hS (lv_sub hl [] rfl)
  exact go _ _ _ hP hD hS hl

set_option maxHeartbeats 4000000 in
set_option maxRecDepth 100000 in
theorem s_X11_title (l : Launch) (D : va_G) (t : pq_T) (σ : pq_S) (I : Nat → Nat → Int32) (J : Nat → Nat → Int64) (ri : Nat → Nat → Int32) (rj : Nat → Nat → Int64) (rq : Nat → Nat → Option Nat) (sz : Nat) (tg : Nat → Nat) (hSH : SH σ tg) (hG0 : GS tg σ I ri rq) (this : Nat) (a0 : Int32) (a1 : Int32) (hL_this : this ∈ σ.1) (hK_this : σ.2.1 this = 11) : MetI l yX11_title (wa yX11_title cX11_title 4 (some .boolean)) ({ frames := 2, cells := 0, slots := 0, locals := 43 }) [.ref this, .int a0, .int a1] D t σ (I, J, ri, rj, rq) sz 0 0 (fun (r : Int32) (u : pq_S × pq_M) => ∃ ri' : Nat → Nat → Int32, u = (σ, I, J, ri', rj, rq) ∧ GX [] tg σ I ri rj I ri' rj rq ∧ ((r = 1 ∧ rg a0 0 39 ∧ rg a1 (-1) 39) ∨ (r = 0 ∧ True))) := by
  refine Met.ofW (cc := cX11_title) (maxL := 4) (ret := (some .boolean)) (by decide) rfl ?_
  intro p e s m args below meth c s₁ B hml hv
  obtain ⟨rfl, hsz, hP, hK, hD0, hN⟩ := hv
  have hx := B.exec
  have hb := B.bytes
  have hr := B.returns
  have hts := atoms_spec (ws := (wa yX11_title cX11_title 4 (some .boolean))) B.pre
  have hown : s.vm.findClass RX11 = some m.cls := findClass_of_methodNamed B.named
  have hlocks := B.notSynchronized
  subst hsz
  have hD : va_D (pq_B t σ (I, J, ri, rj, rq) s.heap.size) (pq_P t σ (I, J, ri, rj, rq)) := hD0.self
  generalize hAe : pq_B t σ (I, J, ri, rj, rq) s.heap.size = A at hD ⊢
  have hA : ∀ q : Nat, s.heap.size ≤ q → A q := fun q h => by rw [← hAe]; exact Or.inr h
  have hS : va_S A s.heap s.heap [] := va_S.rf
  have hG : GX [] tg σ I ri rj I ri rj rq := ⟨hG0, fun _ _ _ => rfl, fun _ _ _ _ _ => rfl, fun _ _ _ _ _ => rfl⟩
  have hl := lv_entry ([.ref this, .int a0, .int a1]) (n := 4) (Nat.le_of_ble_eq_true rfl)
  rw [lg_entry_eq]
  generalize (lg_sl ([.ref this, .int a0, .int a1]) ++ List.replicate (4 - (lg_sl ([.ref this, .int a0, .int a1])).length) Slot.unset).toArray = ls at hl ⊢
  have hl : lv_has ls 4 [(0, .ref this), (1, .int a0), (2, .int a1)] := hl
  refine q_gen (fun Q hQ => ?_)
  have go : ∀ (H : Heap) (locs : List Loc) (ls : Array Slot), va_P D vwCl (pq_P t σ (I, J, ri, rj, rq)) H → va_D A (pq_P t σ (I, J, ri, rj, rq)) → va_S A s.heap H locs → lv_has ls 4 [(0, .ref this), (1, .int a0), (2, .int a1)] → W p l e ({ frames := 2, cells := 0, slots := 0, locals := 43 } : Room) s m (List.toArray ([.ref this, .int a0, .int a1] : List Value)) below meth c H locs 0 0 Q (F0 m 0 ls []) := by
    intro H locs ls hP hD hS hl
    refine lv_aload_n hx hb dX11_title_0 rfl (lv_at hl 0 rfl) ?_
    refine lv_iload_n hx hb dX11_title_1 rfl (lv_at hl 1 rfl) ?_
    refine pk_i (va_runV (As := [.int a0]) (rest := []) ⟨hx, hb, hml, hown, hts⟩ (s_X11_isCell l D t σ I J ri rj rq H.size tg hSH hG.1 this a0 hL_this hK_this) (cwV 1 hts (tw_V tw_332 tw_333 tw_334 tw_2 tw_335) rfl rfl rfl cv_yX11_isCell_1 ⟨Nat.le_of_ble_eq_true rfl, Nat.le_of_ble_eq_true rfl⟩) ⟨pq_blind, pq_recv hK hP hL_this hK_this (by decide) rfl, pq_pre hK hN hP hD⟩ rfl rfl hl.1 rfl (lv_room (Nat.le_of_ble_eq_true rfl)) dX11_title_2 ⟨Nat.le_of_ble_eq_true rfl, Nat.le_of_ble_eq_true rfl⟩) hD hS hA (fun x_1 σ1 μ1 H locs hw_2 hP hD hS => ?_)
    obtain ⟨hu_3, hr_5⟩ := hw_2
    obtain ⟨hu_3a, hu_3b⟩ := Prod.mk.inj hu_3
    rw [hu_3a, hu_3b] at hP hD
    have h_6 : rg x_1 0 1 := by rcases hr_5 with ⟨q, -⟩ | ⟨q, -⟩ <;> rw [q] <;> exact ⟨by decide, by decide⟩
    refine lv_if_ne (tgt := 10) hx hb dX11_title_5 (by decide) (fun c_7 => ?_) (fun c_7 => ?_)
    · have f_8 := (hr_5.resolve_right (fun q => c_7 q.1)).2
      have h_9 : rg x_1 1 1 := rg_ne c_7 h_6 0 rfl (by decide)
      refine lv_iload_n hx hb dX11_title_10 rfl (lv_at hl 2 rfl) ?_
      refine lv_iconst (v := (-1)) hx hb dX11_title_11 (by decide) ?_
      have K_39 : ∀  (H : Heap) (locs : List Loc) (ls : Array Slot), GX [] tg σ I ri rj I ri rj rq → va_P D vwCl (pq_P t σ (I, J, ri, rj, rq)) H → va_D A (pq_P t σ (I, J, ri, rj, rq)) → va_S A s.heap H locs → lv_has ls 4 [(0, .ref this), (1, .int a0), (2, .int a1)] → W p l e ({ frames := 2, cells := 0, slots := 0, locals := 43 } : Room) s m (List.toArray ([.ref this, .int a0, .int a1] : List Value)) below meth c H locs 0 0 Q (F0 m 46 ls [.int 0]) := by
        intro H locs ls hG hP hD hS hl
        refine lv_istore_n (lv' := [(3, .int 0), (0, .ref this), (1, .int a0), (2, .int a1)]) hx hb dX11_title_46 rfl hl (by decide) rfl (fun ls hl => ?_)
        refine lv_iload_n hx hb dX11_title_47 rfl (lv_at hl 0 rfl) ?_
        have K_41 : ∀  (H : Heap) (locs : List Loc) (ls : Array Slot), GX [] tg σ I ri rj I ri rj rq → va_P D vwCl (pq_P t σ (I, J, ri, rj, rq)) H → va_D A (pq_P t σ (I, J, ri, rj, rq)) → va_S A s.heap H locs → lv_has ls 4 [(3, .int 0)] → W p l e ({ frames := 2, cells := 0, slots := 0, locals := 43 } : Room) s m (List.toArray ([.ref this, .int a0, .int a1] : List Value)) below meth c H locs 0 0 Q (F0 m 61 ls []) := by
          intro H locs ls hG hP hD hS hl
          refine lv_iload_n hx hb dX11_title_61 rfl (lv_at hl 0 rfl) ?_
          subst hQ
          exact W.zret (v := 0) hx hb hr (by decide) (fun t1 ht hW => ⟨⟨0, (σ, I, J, ri, rj, rq), rfl, ⟨ri, rfl, hG, (Or.inr ⟨rfl, trivial⟩)⟩, by rw [ht]; exact hP, va_K.moved hW.alike hK, hD⟩, hS.F ht⟩) hS.2.2 dX11_title_62
        refine lv_if_eq (tgt := 61) hx hb dX11_title_48 (by decide) (fun c_42 => ?_) (fun c_42 => absurd c_42 (by decide))
        exact K_41 _ _ _ hG hP hD hS (lv_sub hl [0] rfl)
      have K_43 : ∀  (H : Heap) (locs : List Loc) (ls : Array Slot), rg (a1) (-1) 39 → GX [] tg σ I ri rj I ri rj rq → va_P D vwCl (pq_P t σ (I, J, ri, rj, rq)) H → va_D A (pq_P t σ (I, J, ri, rj, rq)) → va_S A s.heap H locs → lv_has ls 4 [(0, .ref this), (1, .int a0), (2, .int a1)] → W p l e ({ frames := 2, cells := 0, slots := 0, locals := 43 } : Room) s m (List.toArray ([.ref this, .int a0, .int a1] : List Value)) below meth c H locs 0 0 Q (F0 m 46 ls [.int 1]) := by
        intro H locs ls h_45 hG hP hD hS hl
        refine lv_istore_n (lv' := [(3, .int 1), (0, .ref this), (1, .int a0), (2, .int a1)]) hx hb dX11_title_46 rfl hl (by decide) rfl (fun ls hl => ?_)
        refine lv_iload_n hx hb dX11_title_47 rfl (lv_at hl 0 rfl) ?_
        have K_51 : ∀  (ri_50 : Nat → Nat → Int32) (H : Heap) (locs : List Loc) (ls : Array Slot), GX [] tg σ I ri rj I ri_50 rj rq → va_P D vwCl (pq_P t σ (I, J, ri_50, rj, rq)) H → va_D A (pq_P t σ (I, J, ri_50, rj, rq)) → va_S A s.heap H locs → lv_has ls 4 [(3, .int 1)] → W p l e ({ frames := 2, cells := 0, slots := 0, locals := 43 } : Room) s m (List.toArray ([.ref this, .int a0, .int a1] : List Value)) below meth c H locs 0 0 Q (F0 m 61 ls []) := by
          intro ri_50 H locs ls hG hP hD hS hl
          refine lv_iload_n hx hb dX11_title_61 rfl (lv_at hl 0 rfl) ?_
          subst hQ
          exact W.zret (v := 1) hx hb hr (by decide) (fun t1 ht hW => ⟨⟨1, (σ, I, J, ri_50, rj, rq), rfl, ⟨ri_50, rfl, hG, (Or.inl ⟨rfl, (rg_w f_8 (by decide)), (rg_w h_45 (by decide))⟩)⟩, by rw [ht]; exact hP, va_K.moved hW.alike hK, hD⟩, hS.F ht⟩) hS.2.2 dX11_title_62
        refine lv_if_eq (tgt := 61) hx hb dX11_title_48 (by decide) (fun c_52 => absurd c_52 (by decide)) (fun c_52 => ?_)
        refine lv_aload_n hx hb dX11_title_51 rfl (lv_at hl 1 rfl) ?_
        obtain ⟨w_53, hR_w_53, hL_w_53, hK_w_53⟩ := sh_o hSH 352 (ci := 11) (kd := 10) rfl hL_this hK_this
        refine pg_f (v := .ref w_53) (C := RX11) (T := TX11) (N := 5) hx hb hts (tw_i inlX11) hown hK hP hL_this hK_this (by decide) rfl 0 (by decide) (hts _ (tw_c tw_16)) (pq_hv rfl hR_w_53) dX11_title_52 ?_
        obtain ⟨w_54, hR_w_54, hL_w_54, hK_w_54, hN_w_54, hT_w_54⟩ := sh_a hSH 325 (ci := 10) (kd := 13) (len := 40) rfl (by decide) hL_w_53 hK_w_53
        refine pg_f (v := .ref w_54) (C := RX10) (T := TX10) (N := 13) hx hb hts (tw_i inlX10) hown hK hP hL_w_53 hK_w_53 (by decide) rfl 5 (by decide) (hts _ (tw_c tw_536)) (pq_hv rfl hR_w_54) dX11_title_55 ?_
        refine lv_iload_n hx hb dX11_title_58 rfl (lv_at hl 2 rfl) ?_
        refine lv_iload_n hx hb dX11_title_59 rfl (lv_at hl 3 rfl) ?_
        refine pt_i hx hb hK hP hD hS hL_w_54 hK_w_54 hN_w_54 (rg_in f_8 (by decide)) dX11_title_60 (fun r_55 H locs er_55 hP hD hS => ?_)
        have hG := GX.wR hG hSH hT_w_54 rfl er_55 (rg_w h_45 (by decide)) (by decide)
        exact K_51 r_55 _ _ _ hG hP hD hS (lv_sub hl [0] rfl)
      have K_56 : ∀  (H : Heap) (locs : List Loc) (ls : Array Slot), rg (a1) (-1) 39 → GX [] tg σ I ri rj I ri rj rq → va_P D vwCl (pq_P t σ (I, J, ri, rj, rq)) H → va_D A (pq_P t σ (I, J, ri, rj, rq)) → va_S A s.heap H locs → lv_has ls 4 [(0, .ref this), (1, .int a0), (2, .int a1)] → W p l e ({ frames := 2, cells := 0, slots := 0, locals := 43 } : Room) s m (List.toArray ([.ref this, .int a0, .int a1] : List Value)) below meth c H locs 0 0 Q (F0 m 41 ls []) := by
        intro H locs ls h_58 hG hP hD hS hl
        refine lv_iconst (v := 1) hx hb dX11_title_41 (by decide) ?_
        refine lv_goto (tgt := 46) hx hb dX11_title_42 (by decide) ?_
        exact K_43 _ _ _ (rg_w h_58 (by decide)) hG hP hD hS (lv_sub hl [0, 1, 2] rfl)
      refine lv_icmp_eq (tgt := 41) hx hb dX11_title_12 (by decide) (fun c_59 => ?_) (fun c_59 => ?_)
      · have h_60 : rg a1 (-1) (-1) := rg_and (rg_full _) (rg_of_eq c_59 (rg_k (-1 : Int32) (-1) rfl)) (by decide)
        exact K_56 _ _ _ (rg_w h_60 (by decide)) hG hP hD hS (lv_sub hl [0, 1, 2] rfl)
      · refine lv_aload_n hx hb dX11_title_15 rfl (lv_at hl 0 rfl) ?_
        refine lv_iload_n hx hb dX11_title_16 rfl (lv_at hl 2 rfl) ?_
        refine pk_i (va_runV (As := [.int a1]) (rest := []) ⟨hx, hb, hml, hown, hts⟩ (s_X11_isPerson l D t σ I J ri rj rq H.size tg hSH hG.1 this a1 hL_this hK_this) (cwV 1 hts (tw_V tw_405 tw_406 tw_407 tw_2 tw_408) rfl rfl rfl cv_yX11_isPerson_1 ⟨Nat.le_of_ble_eq_true rfl, Nat.le_of_ble_eq_true rfl⟩) ⟨pq_blind, pq_recv hK hP hL_this hK_this (by decide) rfl, pq_pre hK hN hP hD⟩ rfl rfl hl.1 rfl (lv_room (Nat.le_of_ble_eq_true rfl)) dX11_title_17 ⟨Nat.le_of_ble_eq_true rfl, Nat.le_of_ble_eq_true rfl⟩) hD hS hA (fun x_61 σ1 μ1 H locs hw_62 hP hD hS => ?_)
        obtain ⟨hu_63, hr_65⟩ := hw_62
        obtain ⟨hu_63a, hu_63b⟩ := Prod.mk.inj hu_63
        rw [hu_63a, hu_63b] at hP hD
        have h_66 : rg x_61 0 1 := by rcases hr_65 with ⟨q, -⟩ | ⟨q, -⟩ <;> rw [q] <;> exact ⟨by decide, by decide⟩
        have K_80 : ∀  (H : Heap) (locs : List Loc) (ls : Array Slot), GX [] tg σ I ri rj I ri rj rq → va_P D vwCl (pq_P t σ (I, J, ri, rj, rq)) H → va_D A (pq_P t σ (I, J, ri, rj, rq)) → va_S A s.heap H locs → lv_has ls 4 [(0, .ref this), (1, .int a0), (2, .int a1)] → W p l e ({ frames := 2, cells := 0, slots := 0, locals := 43 } : Room) s m (List.toArray ([.ref this, .int a0, .int a1] : List Value)) below meth c H locs 0 0 Q (F0 m 45 ls []) := by
          intro H locs ls hG hP hD hS hl
          refine lv_iconst (v := 0) hx hb dX11_title_45 (by decide) ?_
          exact K_39 _ _ _ hG hP hD hS (lv_sub hl [0, 1, 2] rfl)
        refine lv_if_eq (tgt := 45) hx hb dX11_title_20 (by decide) (fun c_81 => ?_) (fun c_81 => ?_)
        · have f_82 := (hr_65.resolve_left (fun q => absurd (q.1.symm.trans c_81) (by decide))).2
          have h_83 : rg x_61 0 0 := rg_and h_66 (rg_of_eq c_81 (rg_k (0 : Int32) 0 rfl)) (by decide)
          exact K_80 _ _ _ hG hP hD hS (lv_sub hl [0, 1, 2] rfl)
        · have f_84 := (hr_65.resolve_right (fun q => c_81 q.1)).2
          have h_85 : rg x_61 1 1 := rg_ne c_81 h_66 0 rfl (by decide)
          refine lv_aload_n hx hb dX11_title_23 rfl (lv_at hl 0 rfl) ?_
          obtain ⟨w_86, hR_w_86, hL_w_86, hK_w_86⟩ := sh_o hSH 352 (ci := 11) (kd := 10) rfl hL_this hK_this
          refine pg_f (v := .ref w_86) (C := RX11) (T := TX11) (N := 5) hx hb hts (tw_i inlX11) hown hK hP hL_this hK_this (by decide) rfl 0 (by decide) (hts _ (tw_c tw_16)) (pq_hv rfl hR_w_86) dX11_title_24 ?_
          obtain ⟨w_87, hR_w_87, hL_w_87, hK_w_87⟩ := sh_o hSH 328 (ci := 10) (kd := 0) rfl hL_w_86 hK_w_86
          refine pg_f (v := .ref w_87) (C := RX10) (T := TX10) (N := 13) hx hb hts (tw_i inlX10) hown hK hP hL_w_86 hK_w_86 (by decide) rfl 8 (by decide) (hts _ (tw_c tw_379)) (pq_hv rfl hR_w_87) dX11_title_27 ?_
          obtain ⟨w_88, hR_w_88, hL_w_88, hK_w_88, hN_w_88, hT_w_88⟩ := sh_a hSH 5 (ci := 0) (kd := 13) (len := 40) rfl (by decide) hL_w_87 hK_w_87
          refine pg_f (v := .ref w_88) (C := RX0) (T := TX0) (N := 16) hx hb hts (tw_i inlX0) hown hK hP hL_w_87 hK_w_87 (by decide) rfl 5 (by decide) (hts _ (tw_c tw_404)) (pq_hv rfl hR_w_88) dX11_title_30 ?_
          refine lv_iload_n hx hb dX11_title_33 rfl (lv_at hl 2 rfl) ?_
          refine pl_i hx hb hK hP hL_w_88 hK_w_88 hN_w_88 (rg_in f_84 (by decide)) dX11_title_34 ?_
          refine lv_topi (fun x_89 ex_89 => ?_)
          have h_90 : rg x_89 0 300 := rg_of_eq ex_89 (GX.rR hG hT_w_88 rfl)
          refine lv_sipush (v := 300) hx hb dX11_title_35 (by decide) ?_
          refine lv_icmp_eq (tgt := 45) hx hb dX11_title_38 (by decide) (fun c_91 => ?_) (fun c_91 => ?_)
          · have h_92 : rg x_89 300 300 := rg_and h_90 (rg_of_eq c_91 (rg_k (300 : Int32) 300 rfl)) (by decide)
            exact K_80 _ _ _ hG hP hD hS (lv_sub hl [0, 1, 2] rfl)
          · have h_93 : rg x_89 0 299 := rg_ne c_91 h_90 300 rfl (by decide)
            exact K_56 _ _ _ (rg_w f_84 (by decide)) hG hP hD hS (lv_sub hl [0, 1, 2] rfl)
    · have f_94 := (hr_5.resolve_left (fun q => absurd (q.1.symm.trans c_7) (by decide))).2
      have h_95 : rg x_1 0 0 := rg_and h_6 (rg_of_eq c_7 (rg_k (0 : Int32) 0 rfl)) (by decide)
      refine lv_iconst (v := 0) hx hb dX11_title_8 (by decide) ?_
      subst hQ
      exact W.zret (v := 0) hx hb hr (by decide) (fun t1 ht hW => ⟨⟨0, (σ, I, J, ri, rj, rq), rfl, ⟨ri, rfl, hG, (Or.inr ⟨rfl, trivial⟩)⟩, by rw [ht]; exact hP, va_K.moved hW.alike hK, hD⟩, hS.F ht⟩) hS.2.2 dX11_title_9
  exact go _ _ _ hP hD hS hl

set_option maxHeartbeats 4000000 in
set_option maxRecDepth 100000 in
theorem s_X11_titleOf (l : Launch) (D : va_G) (t : pq_T) (σ : pq_S) (I : Nat → Nat → Int32) (J : Nat → Nat → Int64) (ri : Nat → Nat → Int32) (rj : Nat → Nat → Int64) (rq : Nat → Nat → Option Nat) (sz : Nat) (tg : Nat → Nat) (hSH : SH σ tg) (hG0 : GS tg σ I ri rq) (this : Nat) (a0 : Int32) (a1 : Int32) (hL_this : this ∈ σ.1) (hK_this : σ.2.1 this = 11) : MetI l yX11_titleOf (wa yX11_titleOf cX11_titleOf 3 (some .int)) ({ frames := 6, cells := 0, slots := 0, locals := 161 }) [.ref this, .int a0, .int a1] D t σ (I, J, ri, rj, rq) sz 0 0 (fun (r : Int32) (u : pq_S × pq_M) => ∃ ri' : Nat → Nat → Int32, u = (σ, I, J, ri', rj, rq) ∧ GX [] tg σ I ri rj I ri' rj rq ∧ rg r (-1) 39) := by
  refine Met.ofW (cc := cX11_titleOf) (maxL := 3) (ret := (some .int)) (by decide) rfl ?_
  intro p e s m args below meth c s₁ B hml hv
  obtain ⟨rfl, hsz, hP, hK, hD0, hN⟩ := hv
  have hx := B.exec
  have hb := B.bytes
  have hr := B.returns
  have hts := atoms_spec (ws := (wa yX11_titleOf cX11_titleOf 3 (some .int))) B.pre
  have hown : s.vm.findClass RX11 = some m.cls := findClass_of_methodNamed B.named
  have hlocks := B.notSynchronized
  subst hsz
  have hD : va_D (pq_B t σ (I, J, ri, rj, rq) s.heap.size) (pq_P t σ (I, J, ri, rj, rq)) := hD0.self
  generalize hAe : pq_B t σ (I, J, ri, rj, rq) s.heap.size = A at hD ⊢
  have hA : ∀ q : Nat, s.heap.size ≤ q → A q := fun q h => by rw [← hAe]; exact Or.inr h
  have hS : va_S A s.heap s.heap [] := va_S.rf
  have hG : GX [] tg σ I ri rj I ri rj rq := ⟨hG0, fun _ _ _ => rfl, fun _ _ _ _ _ => rfl, fun _ _ _ _ _ => rfl⟩
  have hl := lv_entry ([.ref this, .int a0, .int a1]) (n := 3) (Nat.le_of_ble_eq_true rfl)
  rw [lg_entry_eq]
  generalize (lg_sl ([.ref this, .int a0, .int a1]) ++ List.replicate (3 - (lg_sl ([.ref this, .int a0, .int a1])).length) Slot.unset).toArray = ls at hl ⊢
  have hl : lv_has ls 3 [(0, .ref this), (1, .int a0), (2, .int a1)] := hl
  refine q_gen (fun Q hQ => ?_)
  have go : ∀ (H : Heap) (locs : List Loc) (ls : Array Slot), va_P D vwCl (pq_P t σ (I, J, ri, rj, rq)) H → va_D A (pq_P t σ (I, J, ri, rj, rq)) → va_S A s.heap H locs → lv_has ls 3 [(0, .ref this), (1, .int a0), (2, .int a1)] → W p l e ({ frames := 6, cells := 0, slots := 0, locals := 161 } : Room) s m (List.toArray ([.ref this, .int a0, .int a1] : List Value)) below meth c H locs 0 0 Q (F0 m 0 ls []) := by
    intro H locs ls hP hD hS hl
    refine lv_aload_n hx hb dX11_titleOf_0 rfl (lv_at hl 0 rfl) ?_
    refine lv_iload_n hx hb dX11_titleOf_1 rfl (lv_at hl 1 rfl) ?_
    refine pk_i (va_runV (As := [.int a0]) (rest := []) ⟨hx, hb, hml, hown, hts⟩ (s_X11_isCell l D t σ I J ri rj rq H.size tg hSH hG.1 this a0 hL_this hK_this) (cwV 1 hts (tw_V tw_332 tw_333 tw_334 tw_2 tw_335) rfl rfl rfl cv_yX11_isCell_1 ⟨Nat.le_of_ble_eq_true rfl, Nat.le_of_ble_eq_true rfl⟩) ⟨pq_blind, pq_recv hK hP hL_this hK_this (by decide) rfl, pq_pre hK hN hP hD⟩ rfl rfl hl.1 rfl (lv_room (Nat.le_of_ble_eq_true rfl)) dX11_titleOf_2 ⟨Nat.le_of_ble_eq_true rfl, Nat.le_of_ble_eq_true rfl⟩) hD hS hA (fun x_1 σ1 μ1 H locs hw_2 hP hD hS => ?_)
    obtain ⟨hu_3, hr_5⟩ := hw_2
    obtain ⟨hu_3a, hu_3b⟩ := Prod.mk.inj hu_3
    rw [hu_3a, hu_3b] at hP hD
    have h_6 : rg x_1 0 1 := by rcases hr_5 with ⟨q, -⟩ | ⟨q, -⟩ <;> rw [q] <;> exact ⟨by decide, by decide⟩
    refine lv_if_ne (tgt := 10) hx hb dX11_titleOf_5 (by decide) (fun c_7 => ?_) (fun c_7 => ?_)
    · have f_8 := (hr_5.resolve_right (fun q => c_7 q.1)).2
      have h_9 : rg x_1 1 1 := rg_ne c_7 h_6 0 rfl (by decide)
      refine lv_iload_n hx hb dX11_titleOf_10 rfl (lv_at hl 2 rfl) ?_
      by_cases k_10 : a1 = (0 : Int32)
      · have h_11 : rg a1 0 0 := rg_and (rg_full _) (rg_of_eq k_10 (rg_k (0 : Int32) 0 rfl)) (by decide)
        refine lv_tov 0 k_10 ?_
        refine lv_lookup (tgt := 36) hx hb dX11_titleOf_11 (by decide) rfl (by decide) ?_
        refine lv_aload_n hx hb dX11_titleOf_36 rfl (lv_at hl 0 rfl) ?_
        obtain ⟨w_12, hR_w_12, hL_w_12, hK_w_12⟩ := sh_o hSH 352 (ci := 11) (kd := 10) rfl hL_this hK_this
        refine pg_f (v := .ref w_12) (C := RX11) (T := TX11) (N := 5) hx hb hts (tw_i inlX11) hown hK hP hL_this hK_this (by decide) rfl 0 (by decide) (hts _ (tw_c tw_16)) (pq_hv rfl hR_w_12) dX11_titleOf_37 ?_
        obtain ⟨w_13, hR_w_13, hL_w_13, hK_w_13, hN_w_13, hT_w_13⟩ := sh_a hSH 325 (ci := 10) (kd := 13) (len := 40) rfl (by decide) hL_w_12 hK_w_12
        refine pg_f (v := .ref w_13) (C := RX10) (T := TX10) (N := 13) hx hb hts (tw_i inlX10) hown hK hP hL_w_12 hK_w_12 (by decide) rfl 5 (by decide) (hts _ (tw_c tw_536)) (pq_hv rfl hR_w_13) dX11_titleOf_40 ?_
        refine lv_iload_n hx hb dX11_titleOf_43 rfl (lv_at hl 1 rfl) ?_
        refine pl_i hx hb hK hP hL_w_13 hK_w_13 hN_w_13 (rg_in f_8 (by decide)) dX11_titleOf_44 ?_
        refine lv_topi (fun x_14 ex_14 => ?_)
        have h_15 : rg x_14 (-1) 39 := rg_of_eq ex_14 (GX.rR hG hT_w_13 rfl)
        subst hQ
        exact W.iret (v := x_14) hx hb hr (fun t1 ht hW => ⟨⟨x_14, (σ, I, J, ri, rj, rq), rfl, ⟨ri, rfl, hG, (rg_w h_15 (by decide))⟩, by rw [ht]; exact hP, va_K.moved hW.alike hK, hD⟩, hS.F ht⟩) hS.2.2 dX11_titleOf_45
      by_cases k_16 : a1 = (1 : Int32)
      · have h_17 : rg a1 1 1 := rg_and (rg_full _) (rg_of_eq k_16 (rg_k (1 : Int32) 1 rfl)) (by decide)
        refine lv_tov 1 k_16 ?_
        refine lv_lookup (tgt := 46) hx hb dX11_titleOf_11 (by decide) rfl (by decide) ?_
        refine lv_aload_n hx hb dX11_titleOf_46 rfl (lv_at hl 0 rfl) ?_
        obtain ⟨w_18, hR_w_18, hL_w_18, hK_w_18⟩ := sh_o hSH 352 (ci := 11) (kd := 10) rfl hL_this hK_this
        refine pg_f (v := .ref w_18) (C := RX11) (T := TX11) (N := 5) hx hb hts (tw_i inlX11) hown hK hP hL_this hK_this (by decide) rfl 0 (by decide) (hts _ (tw_c tw_16)) (pq_hv rfl hR_w_18) dX11_titleOf_47 ?_
        refine lv_iload_n hx hb dX11_titleOf_50 rfl (lv_at hl 1 rfl) ?_
        refine pk_i (va_runV (As := [.int a0]) (rest := []) ⟨hx, hb, hml, hown, hts⟩ (s_X10_titleStands l D t σ I J ri rj rq H.size tg hSH hG.1 w_18 a0 hL_w_18 hK_w_18 (rg_w f_8 (by decide))) (cwV 1 hts (tw_V tw_545 tw_546 tw_547 tw_15 tw_548) rfl rfl rfl cv_yX10_titleStands_1 ⟨Nat.le_of_ble_eq_true rfl, Nat.le_of_ble_eq_true rfl⟩) ⟨pq_blind, pq_recv hK hP hL_w_18 hK_w_18 (by decide) rfl, pq_pre hK hN hP hD⟩ rfl rfl hl.1 rfl (lv_room (Nat.le_of_ble_eq_true rfl)) dX11_titleOf_51 ⟨Nat.le_of_ble_eq_true rfl, Nat.le_of_ble_eq_true rfl⟩) hD hS hA (fun x_19 σ1 μ1 H locs hw_20 hP hD hS => ?_)
        obtain ⟨ri_21, hu_22, hg_23, hr_24⟩ := hw_20
        obtain ⟨hu_22a, hu_22b⟩ := Prod.mk.inj hu_22
        rw [hu_22a, hu_22b] at hP hD
        have hG := GX.tr hG hg_23 (by decide)
        have h_25 : rg x_19 0 1 := by rcases hr_24 with ⟨q, -⟩ | ⟨q, -⟩ <;> rw [q] <;> exact ⟨by decide, by decide⟩
        refine lv_if_eq (tgt := 61) hx hb dX11_titleOf_54 (by decide) (fun c_26 => ?_) (fun c_26 => ?_)
        · have h_27 : rg x_19 0 0 := rg_and h_25 (rg_of_eq c_26 (rg_k (0 : Int32) 0 rfl)) (by decide)
          refine lv_iconst (v := 0) hx hb dX11_titleOf_61 (by decide) ?_
          subst hQ
          exact W.iret (v := 0) hx hb hr (fun t1 ht hW => ⟨⟨0, (σ, I, J, ri_21, rj, rq), rfl, ⟨ri_21, rfl, hG, (rg_w (rg_k (0 : Int32) 0 rfl) (by decide))⟩, by rw [ht]; exact hP, va_K.moved hW.alike hK, hD⟩, hS.F ht⟩) hS.2.2 dX11_titleOf_62
        · have h_28 : rg x_19 1 1 := rg_ne c_26 h_25 0 rfl (by decide)
          refine lv_iconst (v := 1) hx hb dX11_titleOf_57 (by decide) ?_
          refine lv_goto (tgt := 62) hx hb dX11_titleOf_58 (by decide) ?_
          subst hQ
          exact W.iret (v := 1) hx hb hr (fun t1 ht hW => ⟨⟨1, (σ, I, J, ri_21, rj, rq), rfl, ⟨ri_21, rfl, hG, (rg_w (rg_k (1 : Int32) 1 rfl) (by decide))⟩, by rw [ht]; exact hP, va_K.moved hW.alike hK, hD⟩, hS.F ht⟩) hS.2.2 dX11_titleOf_62
      refine lv_lookup (tgt := 63) (off := (52)) hx hb dX11_titleOf_11 (by decide) (by have z_k_10 := (sw_ne k_10 (n := 0) rfl).symm; have z_k_16 := (sw_ne k_16 (n := 1) rfl).symm; simp [Op.lookupswitch.offset, z_k_10, z_k_16]) (by decide) ?_
      refine lv_iconst (v := (-1)) hx hb dX11_titleOf_63 (by decide) ?_
      subst hQ
      exact W.iret (v := (-1)) hx hb hr (fun t1 ht hW => ⟨⟨(-1), (σ, I, J, ri, rj, rq), rfl, ⟨ri, rfl, hG, (rg_w (rg_k (-1 : Int32) (-1) rfl) (by decide))⟩, by rw [ht]; exact hP, va_K.moved hW.alike hK, hD⟩, hS.F ht⟩) hS.2.2 dX11_titleOf_64
    · have f_29 := (hr_5.resolve_left (fun q => absurd (q.1.symm.trans c_7) (by decide))).2
      have h_30 : rg x_1 0 0 := rg_and h_6 (rg_of_eq c_7 (rg_k (0 : Int32) 0 rfl)) (by decide)
      refine lv_iconst (v := (-1)) hx hb dX11_titleOf_8 (by decide) ?_
      subst hQ
      exact W.iret (v := (-1)) hx hb hr (fun t1 ht hW => ⟨⟨(-1), (σ, I, J, ri, rj, rq), rfl, ⟨ri, rfl, hG, (rg_w (rg_k (-1 : Int32) (-1) rfl) (by decide))⟩, by rw [ht]; exact hP, va_K.moved hW.alike hK, hD⟩, hS.F ht⟩) hS.2.2 dX11_titleOf_9
  exact go _ _ _ hP hD hS hl

set_option maxHeartbeats 4000000 in
set_option maxRecDepth 100000 in
theorem s_X11_council (l : Launch) (D : va_G) (t : pq_T) (σ : pq_S) (I : Nat → Nat → Int32) (J : Nat → Nat → Int64) (ri : Nat → Nat → Int32) (rj : Nat → Nat → Int64) (rq : Nat → Nat → Option Nat) (sz : Nat) (tg : Nat → Nat) (hSH : SH σ tg) (hG0 : GS tg σ I ri rq) (this : Nat) (a0 : Int64) (hL_this : this ∈ σ.1) (hK_this : σ.2.1 this = 11) : MetI l yX11_council (wa yX11_council cX11_council 3 (some .int)) ({ frames := 6, cells := 0, slots := 0, locals := 170 }) [.ref this, .long a0] D t σ (I, J, ri, rj, rq) sz 0 0 (fun (r : Int32) (u : pq_S × pq_M) => ∃ ri' : Nat → Nat → Int32, u = (σ, I, J, ri', rj, rq) ∧ GX [] tg σ I ri rj I ri' rj rq ∧ rg r (-1) 2) := by
  refine Met.ofW (cc := cX11_council) (maxL := 3) (ret := (some .int)) (by decide) rfl ?_
  intro p e s m args below meth c s₁ B hml hv
  obtain ⟨rfl, hsz, hP, hK, hD0, hN⟩ := hv
  have hx := B.exec
  have hb := B.bytes
  have hr := B.returns
  have hts := atoms_spec (ws := (wa yX11_council cX11_council 3 (some .int))) B.pre
  have hown : s.vm.findClass RX11 = some m.cls := findClass_of_methodNamed B.named
  have hlocks := B.notSynchronized
  subst hsz
  have hD : va_D (pq_B t σ (I, J, ri, rj, rq) s.heap.size) (pq_P t σ (I, J, ri, rj, rq)) := hD0.self
  generalize hAe : pq_B t σ (I, J, ri, rj, rq) s.heap.size = A at hD ⊢
  have hA : ∀ q : Nat, s.heap.size ≤ q → A q := fun q h => by rw [← hAe]; exact Or.inr h
  have hS : va_S A s.heap s.heap [] := va_S.rf
  have hG : GX [] tg σ I ri rj I ri rj rq := ⟨hG0, fun _ _ _ => rfl, fun _ _ _ _ _ => rfl, fun _ _ _ _ _ => rfl⟩
  have hl := lv_entry ([.ref this, .long a0]) (n := 3) (Nat.le_of_ble_eq_true rfl)
  rw [lg_entry_eq]
  generalize (lg_sl ([.ref this, .long a0]) ++ List.replicate (3 - (lg_sl ([.ref this, .long a0])).length) Slot.unset).toArray = ls at hl ⊢
  have hl : lv_has ls 3 [(0, .ref this), (1, .long a0)] := hl
  refine q_gen (fun Q hQ => ?_)
  have go : ∀ (H : Heap) (locs : List Loc) (ls : Array Slot), va_P D vwCl (pq_P t σ (I, J, ri, rj, rq)) H → va_D A (pq_P t σ (I, J, ri, rj, rq)) → va_S A s.heap H locs → lv_has ls 3 [(0, .ref this), (1, .long a0)] → W p l e ({ frames := 6, cells := 0, slots := 0, locals := 170 } : Room) s m (List.toArray ([.ref this, .long a0] : List Value)) below meth c H locs 0 0 Q (F0 m 0 ls []) := by
    intro H locs ls hP hD hS hl
    refine lv_lload_n hx hb dX11_council_0 rfl (lv_at hl 1 rfl) ?_
    refine lv_aload_n hx hb dX11_council_1 rfl (lv_at hl 0 rfl) ?_
    obtain ⟨w_1, hR_w_1, hL_w_1, hK_w_1⟩ := sh_o hSH 352 (ci := 11) (kd := 10) rfl hL_this hK_this
    refine pg_f (v := .ref w_1) (C := RX11) (T := TX11) (N := 5) hx hb hts (tw_i inlX11) hown hK hP hL_this hK_this (by decide) rfl 0 (by decide) (hts _ (tw_c tw_16)) (pq_hv rfl hR_w_1) dX11_council_2 ?_
    obtain ⟨w_2, hR_w_2, hL_w_2, hK_w_2⟩ := sh_o hSH 328 (ci := 10) (kd := 0) rfl hL_w_1 hK_w_1
    refine pg_f (v := .ref w_2) (C := RX10) (T := TX10) (N := 13) hx hb hts (tw_i inlX10) hown hK hP hL_w_1 hK_w_1 (by decide) rfl 8 (by decide) (hts _ (tw_c tw_379)) (pq_hv rfl hR_w_2) dX11_council_5 ?_
    refine pg_f (v := .int (I 0 w_2)) (C := RX0) (T := TX0) (N := 16) hx hb hts (tw_i inlX0) hown hK hP hL_w_2 hK_w_2 (by decide) rfl 0 (by decide) (hts _ (tw_c tw_390)) rfl dX11_council_8 ?_
    have h_3 : rg (I 0 w_2) 0 40 := GX.rI hG 0 rfl
    refine lv_lushr hx hb dX11_council_11 rfl ?_
    refine lv_topl (fun x_4 ex_4 => ?_)
    refine lv_lconst (v := 0) hx hb dX11_council_12 (by decide) ?_
    refine W.lcmp hx hb dX11_council_13 ?_
    refine lv_topi (fun x_5 ex_5 => ?_)
    refine lv_if_eq (tgt := 19) hx hb dX11_council_14 (by decide) (fun c_6 => ?_) (fun c_6 => ?_)
    · have h_7 : rg x_5 0 0 := rg_and (rg_full _) (rg_of_eq c_6 (rg_k (0 : Int32) 0 rfl)) (by decide)
      refine lv_aload_n hx hb dX11_council_19 rfl (lv_at hl 0 rfl) ?_
      refine pg_f (v := .ref w_1) (C := RX11) (T := TX11) (N := 5) hx hb hts (tw_i inlX11) hown hK hP hL_this hK_this (by decide) rfl 0 (by decide) (hts _ (tw_c tw_16)) (pq_hv rfl hR_w_1) dX11_council_20 ?_
      refine lv_lload_n hx hb dX11_council_23 rfl (lv_at hl 1 rfl) ?_
      refine pk_i (va_runV (As := [.long a0]) (rest := []) ⟨hx, hb, hml, hown, hts⟩ (s_X10_decide l D t σ I J ri rj rq H.size tg hSH hG.1 w_1 a0 hL_w_1 hK_w_1) (cwV 1 hts (tw_V tw_1334 tw_1335 tw_1336 tw_15 tw_1337) rfl rfl rfl cv_yX10_decide_1 ⟨Nat.le_of_ble_eq_true rfl, Nat.le_of_ble_eq_true rfl⟩) ⟨pq_blind, pq_recv hK hP hL_w_1 hK_w_1 (by decide) rfl, pq_pre hK hN hP hD⟩ rfl rfl hl.1 rfl (lv_room (Nat.le_of_ble_eq_true rfl)) dX11_council_24 ⟨Nat.le_of_ble_eq_true rfl, Nat.le_of_ble_eq_true rfl⟩) hD hS hA (fun x_8 σ1 μ1 H locs hw_9 hP hD hS => ?_)
      obtain ⟨ri_10, hu_11, hg_12, hr_13⟩ := hw_9
      obtain ⟨hu_11a, hu_11b⟩ := Prod.mk.inj hu_11
      rw [hu_11a, hu_11b] at hP hD
      have hG := GX.tr hG hg_12 (by decide)
      subst hQ
      exact W.iret (v := x_8) hx hb hr (fun t1 ht hW => ⟨⟨x_8, (σ, I, J, ri_10, rj, rq), rfl, ⟨ri_10, rfl, hG, (rg_w hr_13 (by decide))⟩, by rw [ht]; exact hP, va_K.moved hW.alike hK, hD⟩, hS.F ht⟩) hS.2.2 dX11_council_27
    · refine lv_iconst (v := (-1)) hx hb dX11_council_17 (by decide) ?_
      subst hQ
      exact W.iret (v := (-1)) hx hb hr (fun t1 ht hW => ⟨⟨(-1), (σ, I, J, ri, rj, rq), rfl, ⟨ri, rfl, hG, (rg_w (rg_k (-1 : Int32) (-1) rfl) (by decide))⟩, by rw [ht]; exact hP, va_K.moved hW.alike hK, hD⟩, hS.F ht⟩) hS.2.2 dX11_council_18
  exact go _ _ _ hP hD hS hl

set_option maxHeartbeats 4000000 in
set_option maxRecDepth 100000 in
theorem s_X11_feed (l : Launch) (D : va_G) (t : pq_T) (σ : pq_S) (I : Nat → Nat → Int32) (J : Nat → Nat → Int64) (ri : Nat → Nat → Int32) (rj : Nat → Nat → Int64) (rq : Nat → Nat → Option Nat) (sz : Nat) (tg : Nat → Nat) (hSH : SH σ tg) (hG0 : GS tg σ I ri rq) (this : Nat) (a0 : Int32) (a1 : Int32) (a2 : Int32) (a3 : Int32) (a4 : Int32) (hL_this : this ∈ σ.1) (hK_this : σ.2.1 this = 11) : MetI l yX11_feed (wa yX11_feed cX11_feed 7 (some .int)) ({ frames := 1, cells := 0, slots := 0, locals := 22 }) [.ref this, .int a0, .int a1, .int a2, .int a3, .int a4] D t σ (I, J, ri, rj, rq) sz 0 0 (fun (r : Int32) (u : pq_S × pq_M) => ∃ I' : Nat → Nat → Int32, ∃ ri' : Nat → Nat → Int32, u = (σ, I', J, ri', rj, rq) ∧ GX [193] tg σ I ri rj I' ri' rj rq ∧ rg r (-1) 300) := by
  refine Met.ofW (cc := cX11_feed) (maxL := 7) (ret := (some .int)) (by decide) rfl ?_
  intro p e s m args below meth c s₁ B hml hv
  obtain ⟨rfl, hsz, hP, hK, hD0, hN⟩ := hv
  have hx := B.exec
  have hb := B.bytes
  have hr := B.returns
  have hts := atoms_spec (ws := (wa yX11_feed cX11_feed 7 (some .int))) B.pre
  have hown : s.vm.findClass RX11 = some m.cls := findClass_of_methodNamed B.named
  have hlocks := B.notSynchronized
  subst hsz
  have hD : va_D (pq_B t σ (I, J, ri, rj, rq) s.heap.size) (pq_P t σ (I, J, ri, rj, rq)) := hD0.self
  generalize hAe : pq_B t σ (I, J, ri, rj, rq) s.heap.size = A at hD ⊢
  have hA : ∀ q : Nat, s.heap.size ≤ q → A q := fun q h => by rw [← hAe]; exact Or.inr h
  have hS : va_S A s.heap s.heap [] := va_S.rf
  have hG : GX [193] tg σ I ri rj I ri rj rq := ⟨hG0, fun _ _ _ => rfl, fun _ _ _ _ _ => rfl, fun _ _ _ _ _ => rfl⟩
  have hl := lv_entry ([.ref this, .int a0, .int a1, .int a2, .int a3, .int a4]) (n := 7) (Nat.le_of_ble_eq_true rfl)
  rw [lg_entry_eq]
  generalize (lg_sl ([.ref this, .int a0, .int a1, .int a2, .int a3, .int a4]) ++ List.replicate (7 - (lg_sl ([.ref this, .int a0, .int a1, .int a2, .int a3, .int a4])).length) Slot.unset).toArray = ls at hl ⊢
  have hl : lv_has ls 7 [(0, .ref this), (1, .int a0), (2, .int a1), (3, .int a2), (4, .int a3), (5, .int a4)] := hl
  refine q_gen (fun Q hQ => ?_)
  have go : ∀ (H : Heap) (locs : List Loc) (ls : Array Slot), va_P D vwCl (pq_P t σ (I, J, ri, rj, rq)) H → va_D A (pq_P t σ (I, J, ri, rj, rq)) → va_S A s.heap H locs → lv_has ls 7 [(0, .ref this), (1, .int a0), (2, .int a1), (3, .int a2), (4, .int a3), (5, .int a4)] → W p l e ({ frames := 1, cells := 0, slots := 0, locals := 22 } : Room) s m (List.toArray ([.ref this, .int a0, .int a1, .int a2, .int a3, .int a4] : List Value)) below meth c H locs 0 0 Q (F0 m 0 ls []) := by
    intro H locs ls hP hD hS hl
    refine lv_aload_n hx hb dX11_feed_0 rfl (lv_at hl 0 rfl) ?_
    obtain ⟨w_1, hR_w_1, hL_w_1, hK_w_1⟩ := sh_o hSH 356 (ci := 11) (kd := 4) rfl hL_this hK_this
    refine pg_f (v := .ref w_1) (C := RX11) (T := TX11) (N := 5) hx hb hts (tw_i inlX11) hown hK hP hL_this hK_this (by decide) rfl 4 (by decide) (hts _ (tw_c tw_26)) (pq_hv rfl hR_w_1) dX11_feed_1 ?_
    obtain ⟨w_2, hR_w_2, hL_w_2, hK_w_2⟩ := sh_o hSH 128 (ci := 4) (kd := 6) rfl hL_w_1 hK_w_1
    refine pg_f (v := .ref w_2) (C := RX4) (T := TX4) (N := 12) hx hb hts (tw_i inlX4) hown hK hP hL_w_1 hK_w_1 (by decide) rfl 0 (by decide) (hts _ (tw_c tw_620)) (pq_hv rfl hR_w_2) dX11_feed_4 ?_
    refine lv_astore (lv' := [(6, .ref w_2), (0, .ref this), (1, .int a0), (2, .int a1), (3, .int a2), (4, .int a3), (5, .int a4)]) hx hb dX11_feed_7 hl (by decide) rfl (fun ls hl => ?_)
    refine lv_aload hx hb dX11_feed_9 (lv_at hl 0 rfl) ?_
    refine pg_f (v := .int (I 193 w_2)) (C := RX6) (T := TX6) (N := 6) hx hb hts (tw_i inlX6) hown hK hP hL_w_2 hK_w_2 (by decide) rfl 1 (by decide) (hts _ (tw_c tw_621)) rfl dX11_feed_11 ?_
    have h_3 : rg (I 193 w_2) 0 300 := GX.rI hG 193 rfl
    refine lv_sipush (v := 280) hx hb dX11_feed_14 (by decide) ?_
    refine lv_icmp_le (tgt := 22) hx hb dX11_feed_17 (by decide) (fun c_4 => ?_) (fun c_4 => ?_)
    · have h_5 : rg (I 193 w_2) 0 280 := rg_le1 c_4 h_3 (rg_k (280 : Int32) 280 rfl) (by decide)
      refine lv_aload hx hb dX11_feed_22 (lv_at hl 0 rfl) ?_
      refine lv_iload_n hx hb dX11_feed_24 rfl (lv_at hl 2 rfl) ?_
      refine pk_v (va_runV (As := [.int a0]) (rest := []) ⟨hx, hb, hml, hown, hts⟩ (s_X6_append l D t σ I J ri rj rq H.size tg hSH hG.1 w_2 a0 hL_w_2 hK_w_2) (cwV 1 hts (tw_V tw_622 tw_623 tw_624 tw_153 tw_625) rfl rfl rfl cv_yX6_append_1 ⟨Nat.le_of_ble_eq_true rfl, Nat.le_of_ble_eq_true rfl⟩) ⟨pq_blind, pq_recv hK hP hL_w_2 hK_w_2 (by decide) rfl, pq_pre hK hN hP hD⟩ rfl rfl hl.1 rfl (lv_room (Nat.le_of_ble_eq_true rfl)) dX11_feed_25 ⟨Nat.le_of_ble_eq_true rfl, Nat.le_of_ble_eq_true rfl⟩) hD hS hA (fun σ1 μ1 H locs hw_7 hP hD hS => ?_)
      obtain ⟨I_8, ri_9, hu_10, hg_11⟩ := hw_7
      obtain ⟨hu_10a, hu_10b⟩ := Prod.mk.inj hu_10
      rw [hu_10a, hu_10b] at hP hD
      have hG := GX.tr hG hg_11 (by decide)
      refine lv_aload hx hb dX11_feed_28 (lv_at hl 0 rfl) ?_
      refine lv_iload_n hx hb dX11_feed_30 rfl (lv_at hl 3 rfl) ?_
      refine pk_v (va_runV (As := [.int a1]) (rest := []) ⟨hx, hb, hml, hown, hts⟩ (s_X6_append l D t σ I_8 J ri_9 rj rq H.size tg hSH hG.1 w_2 a1 hL_w_2 hK_w_2) (cwV 1 hts (tw_V tw_622 tw_623 tw_624 tw_153 tw_625) rfl rfl rfl cv_yX6_append_1 ⟨Nat.le_of_ble_eq_true rfl, Nat.le_of_ble_eq_true rfl⟩) ⟨pq_blind, pq_recv hK hP hL_w_2 hK_w_2 (by decide) rfl, pq_pre hK hN hP hD⟩ rfl rfl hl.1 rfl (lv_room (Nat.le_of_ble_eq_true rfl)) dX11_feed_31 ⟨Nat.le_of_ble_eq_true rfl, Nat.le_of_ble_eq_true rfl⟩) hD hS hA (fun σ1 μ1 H locs hw_14 hP hD hS => ?_)
      obtain ⟨I_15, ri_16, hu_17, hg_18⟩ := hw_14
      obtain ⟨hu_17a, hu_17b⟩ := Prod.mk.inj hu_17
      rw [hu_17a, hu_17b] at hP hD
      have hG := GX.tr hG hg_18 (by decide)
      refine lv_aload hx hb dX11_feed_34 (lv_at hl 0 rfl) ?_
      refine lv_iload_n hx hb dX11_feed_36 rfl (lv_at hl 4 rfl) ?_
      refine pk_v (va_runV (As := [.int a2]) (rest := []) ⟨hx, hb, hml, hown, hts⟩ (s_X6_append l D t σ I_15 J ri_16 rj rq H.size tg hSH hG.1 w_2 a2 hL_w_2 hK_w_2) (cwV 1 hts (tw_V tw_622 tw_623 tw_624 tw_153 tw_625) rfl rfl rfl cv_yX6_append_1 ⟨Nat.le_of_ble_eq_true rfl, Nat.le_of_ble_eq_true rfl⟩) ⟨pq_blind, pq_recv hK hP hL_w_2 hK_w_2 (by decide) rfl, pq_pre hK hN hP hD⟩ rfl rfl hl.1 rfl (lv_room (Nat.le_of_ble_eq_true rfl)) dX11_feed_37 ⟨Nat.le_of_ble_eq_true rfl, Nat.le_of_ble_eq_true rfl⟩) hD hS hA (fun σ1 μ1 H locs hw_21 hP hD hS => ?_)
      obtain ⟨I_22, ri_23, hu_24, hg_25⟩ := hw_21
      obtain ⟨hu_24a, hu_24b⟩ := Prod.mk.inj hu_24
      rw [hu_24a, hu_24b] at hP hD
      have hG := GX.tr hG hg_25 (by decide)
      refine lv_aload hx hb dX11_feed_40 (lv_at hl 0 rfl) ?_
      refine lv_iload hx hb dX11_feed_42 (lv_at hl 5 rfl) ?_
      refine pk_v (va_runV (As := [.int a3]) (rest := []) ⟨hx, hb, hml, hown, hts⟩ (s_X6_append l D t σ I_22 J ri_23 rj rq H.size tg hSH hG.1 w_2 a3 hL_w_2 hK_w_2) (cwV 1 hts (tw_V tw_622 tw_623 tw_624 tw_153 tw_625) rfl rfl rfl cv_yX6_append_1 ⟨Nat.le_of_ble_eq_true rfl, Nat.le_of_ble_eq_true rfl⟩) ⟨pq_blind, pq_recv hK hP hL_w_2 hK_w_2 (by decide) rfl, pq_pre hK hN hP hD⟩ rfl rfl hl.1 rfl (lv_room (Nat.le_of_ble_eq_true rfl)) dX11_feed_44 ⟨Nat.le_of_ble_eq_true rfl, Nat.le_of_ble_eq_true rfl⟩) hD hS hA (fun σ1 μ1 H locs hw_28 hP hD hS => ?_)
      obtain ⟨I_29, ri_30, hu_31, hg_32⟩ := hw_28
      obtain ⟨hu_31a, hu_31b⟩ := Prod.mk.inj hu_31
      rw [hu_31a, hu_31b] at hP hD
      have hG := GX.tr hG hg_32 (by decide)
      refine lv_aload hx hb dX11_feed_47 (lv_at hl 0 rfl) ?_
      refine lv_iload hx hb dX11_feed_49 (lv_at hl 6 rfl) ?_
      refine pk_v (va_runV (As := [.int a4]) (rest := []) ⟨hx, hb, hml, hown, hts⟩ (s_X6_append l D t σ I_29 J ri_30 rj rq H.size tg hSH hG.1 w_2 a4 hL_w_2 hK_w_2) (cwV 1 hts (tw_V tw_622 tw_623 tw_624 tw_153 tw_625) rfl rfl rfl cv_yX6_append_1 ⟨Nat.le_of_ble_eq_true rfl, Nat.le_of_ble_eq_true rfl⟩) ⟨pq_blind, pq_recv hK hP hL_w_2 hK_w_2 (by decide) rfl, pq_pre hK hN hP hD⟩ rfl rfl hl.1 rfl (lv_room (Nat.le_of_ble_eq_true rfl)) dX11_feed_51 ⟨Nat.le_of_ble_eq_true rfl, Nat.le_of_ble_eq_true rfl⟩) hD hS hA (fun σ1 μ1 H locs hw_35 hP hD hS => ?_)
      obtain ⟨I_36, ri_37, hu_38, hg_39⟩ := hw_35
      obtain ⟨hu_38a, hu_38b⟩ := Prod.mk.inj hu_38
      rw [hu_38a, hu_38b] at hP hD
      have hG := GX.tr hG hg_39 (by decide)
      refine lv_aload hx hb dX11_feed_54 (lv_at hl 0 rfl) ?_
      refine pg_f (v := .int (I_36 193 w_2)) (C := RX6) (T := TX6) (N := 6) hx hb hts (tw_i inlX6) hown hK hP hL_w_2 hK_w_2 (by decide) rfl 1 (by decide) (hts _ (tw_c tw_621)) rfl dX11_feed_56 ?_
      have h_41 : rg (I_36 193 w_2) 0 300 := GX.rI hG 193 rfl
      subst hQ
      exact W.iret (v := (I_36 193 w_2)) hx hb hr (fun t1 ht hW => ⟨⟨(I_36 193 w_2), (σ, I_36, J, ri_37, rj, rq), rfl, ⟨I_36, ri_37, rfl, hG, (rg_w h_41 (by decide))⟩, by rw [ht]; exact hP, va_K.moved hW.alike hK, hD⟩, hS.F ht⟩) hS.2.2 dX11_feed_59
    · have h_42 : rg (I 193 w_2) 281 300 := rg_lt2 (nle c_4) (rg_k (280 : Int32) 280 rfl) h_3 (by decide)
      refine lv_iconst (v := (-1)) hx hb dX11_feed_20 (by decide) ?_
      subst hQ
      exact W.iret (v := (-1)) hx hb hr (fun t1 ht hW => ⟨⟨(-1), (σ, I, J, ri, rj, rq), rfl, ⟨I, ri, rfl, hG, (rg_w (rg_k (-1 : Int32) (-1) rfl) (by decide))⟩, by rw [ht]; exact hP, va_K.moved hW.alike hK, hD⟩, hS.F ht⟩) hS.2.2 dX11_feed_21
  exact go _ _ _ hP hD hS hl

set_option maxHeartbeats 4000000 in
set_option maxRecDepth 100000 in
theorem s_X11_end (l : Launch) (D : va_G) (t : pq_T) (σ : pq_S) (I : Nat → Nat → Int32) (J : Nat → Nat → Int64) (ri : Nat → Nat → Int32) (rj : Nat → Nat → Int64) (rq : Nat → Nat → Option Nat) (sz : Nat) (tg : Nat → Nat) (hSH : SH σ tg) (hG0 : GS tg σ I ri rq) (this : Nat) (a0 : Int32) (hL_this : this ∈ σ.1) (hK_this : σ.2.1 this = 11) : MetI l yX11_end (wa yX11_end cX11_end 2 (some .int)) ({ frames := 1, cells := 0, slots := 0, locals := 22 }) [.ref this, .int a0] D t σ (I, J, ri, rj, rq) sz 0 0 (fun (r : Int32) (u : pq_S × pq_M) => ∃ I' : Nat → Nat → Int32, u = (σ, I', J, ri, rj, rq) ∧ GX [193] tg σ I ri rj I' ri rj rq ∧ rg r (-1) 300) := by
  refine Met.ofW (cc := cX11_end) (maxL := 2) (ret := (some .int)) (by decide) rfl ?_
  intro p e s m args below meth c s₁ B hml hv
  obtain ⟨rfl, hsz, hP, hK, hD0, hN⟩ := hv
  have hx := B.exec
  have hb := B.bytes
  have hr := B.returns
  have hts := atoms_spec (ws := (wa yX11_end cX11_end 2 (some .int))) B.pre
  have hown : s.vm.findClass RX11 = some m.cls := findClass_of_methodNamed B.named
  have hlocks := B.notSynchronized
  subst hsz
  have hD : va_D (pq_B t σ (I, J, ri, rj, rq) s.heap.size) (pq_P t σ (I, J, ri, rj, rq)) := hD0.self
  generalize hAe : pq_B t σ (I, J, ri, rj, rq) s.heap.size = A at hD ⊢
  have hA : ∀ q : Nat, s.heap.size ≤ q → A q := fun q h => by rw [← hAe]; exact Or.inr h
  have hS : va_S A s.heap s.heap [] := va_S.rf
  have hG : GX [193] tg σ I ri rj I ri rj rq := ⟨hG0, fun _ _ _ => rfl, fun _ _ _ _ _ => rfl, fun _ _ _ _ _ => rfl⟩
  have hl := lv_entry ([.ref this, .int a0]) (n := 2) (Nat.le_of_ble_eq_true rfl)
  rw [lg_entry_eq]
  generalize (lg_sl ([.ref this, .int a0]) ++ List.replicate (2 - (lg_sl ([.ref this, .int a0])).length) Slot.unset).toArray = ls at hl ⊢
  have hl : lv_has ls 2 [(0, .ref this), (1, .int a0)] := hl
  refine q_gen (fun Q hQ => ?_)
  have go : ∀ (H : Heap) (locs : List Loc) (ls : Array Slot), va_P D vwCl (pq_P t σ (I, J, ri, rj, rq)) H → va_D A (pq_P t σ (I, J, ri, rj, rq)) → va_S A s.heap H locs → lv_has ls 2 [(0, .ref this), (1, .int a0)] → W p l e ({ frames := 1, cells := 0, slots := 0, locals := 22 } : Room) s m (List.toArray ([.ref this, .int a0] : List Value)) below meth c H locs 0 0 Q (F0 m 0 ls []) := by
    intro H locs ls hP hD hS hl
    refine lv_iload_n hx hb dX11_end_0 rfl (lv_at hl 1 rfl) ?_
    refine lv_iconst (v := 0) hx hb dX11_end_1 (by decide) ?_
    refine lv_aload_n hx hb dX11_end_2 rfl (lv_at hl 0 rfl) ?_
    obtain ⟨w_1, hR_w_1, hL_w_1, hK_w_1⟩ := sh_o hSH 356 (ci := 11) (kd := 4) rfl hL_this hK_this
    refine pg_f (v := .ref w_1) (C := RX11) (T := TX11) (N := 5) hx hb hts (tw_i inlX11) hown hK hP hL_this hK_this (by decide) rfl 4 (by decide) (hts _ (tw_c tw_26)) (pq_hv rfl hR_w_1) dX11_end_3 ?_
    obtain ⟨w_2, hR_w_2, hL_w_2, hK_w_2⟩ := sh_o hSH 128 (ci := 4) (kd := 6) rfl hL_w_1 hK_w_1
    refine pg_f (v := .ref w_2) (C := RX4) (T := TX4) (N := 12) hx hb hts (tw_i inlX4) hown hK hP hL_w_1 hK_w_1 (by decide) rfl 0 (by decide) (hts _ (tw_c tw_620)) (pq_hv rfl hR_w_2) dX11_end_6 ?_
    refine pg_f (v := .int (I 193 w_2)) (C := RX6) (T := TX6) (N := 6) hx hb hts (tw_i inlX6) hown hK hP hL_w_2 hK_w_2 (by decide) rfl 1 (by decide) (hts _ (tw_c tw_621)) rfl dX11_end_9 ?_
    have h_3 : rg (I 193 w_2) 0 300 := GX.rI hG 193 rfl
    refine pk_i (va_runS (As := [.int a0, .int 0, .int (I 193 w_2)]) (rest := []) ⟨hx, hb, hml, hown, hts⟩ (s_X11_between l D t σ I J ri rj rq H.size tg hSH hG.1 a0 (0 : Int32) (I 193 w_2)) (va_cwS 3 hts (tw_S tw_215 tw_216 tw_2 tw_217) rfl rfl rfl cd_yX11_between_3 ⟨Nat.le_of_ble_eq_true rfl, Nat.le_of_ble_eq_true rfl⟩) ⟨pq_blind, pq_pre hK hN hP hD⟩ rfl rfl hl.1 rfl (lv_room (Nat.le_of_ble_eq_true rfl)) dX11_end_12 ⟨Nat.le_of_ble_eq_true rfl, Nat.le_of_ble_eq_true rfl⟩) hD hS hA (fun x_4 σ1 μ1 H locs hw_5 hP hD hS => ?_)
    obtain ⟨hu_6, hr_8⟩ := hw_5
    obtain ⟨hu_6a, hu_6b⟩ := Prod.mk.inj hu_6
    rw [hu_6a, hu_6b] at hP hD
    have h_9 : rg x_4 0 1 := by rcases hr_8 with ⟨q, -⟩ | ⟨q, -⟩ <;> rw [q] <;> exact ⟨by decide, by decide⟩
    refine lv_if_ne (tgt := 20) hx hb dX11_end_15 (by decide) (fun c_10 => ?_) (fun c_10 => ?_)
    · obtain ⟨f_11, f_12⟩ := (hr_8.resolve_right (fun q => c_10 q.1)).2
      have h_13 : rg a0 0 2147483647 := rg_le2 f_11 (rg_k (0 : Int32) 0 rfl) (rg_full _) (by decide)
      have h_14 : rg a0 0 300 := rg_le1 f_12 h_13 h_3 (by decide)
      have h_15 : rg x_4 1 1 := rg_ne c_10 h_9 0 rfl (by decide)
      refine lv_aload_n hx hb dX11_end_20 rfl (lv_at hl 0 rfl) ?_
      refine pg_f (v := .ref w_1) (C := RX11) (T := TX11) (N := 5) hx hb hts (tw_i inlX11) hown hK hP hL_this hK_this (by decide) rfl 4 (by decide) (hts _ (tw_c tw_26)) (pq_hv rfl hR_w_1) dX11_end_21 ?_
      refine pg_f (v := .ref w_2) (C := RX4) (T := TX4) (N := 12) hx hb hts (tw_i inlX4) hown hK hP hL_w_1 hK_w_1 (by decide) rfl 0 (by decide) (hts _ (tw_c tw_620)) (pq_hv rfl hR_w_2) dX11_end_24 ?_
      refine lv_iload_n hx hb dX11_end_27 rfl (lv_at hl 1 rfl) ?_
      refine pp_i (v := a0) (ty := .int) (C := RX6) (T := TX6) (N := 6) hx hb hts (tw_i inlX6) tyX6 tyX6_ok nmX6 hown hK hP hD hS hL_w_2 hK_w_2 (by decide) rfl 1 193 (by decide) (hts _ (tw_c tw_621)) rfl (tyX6_ok 1 (by decide)) rfl rfl (Nat.le_of_ble_eq_true rfl) (ps_193 _ _ _ _ _) dX11_end_28 (fun I_16 H locs eI_16 hP hD hS => ?_)
      have hG := GX.wI hG 193 rfl eI_16 (rg_w h_14 (by decide)) (by decide)
      refine lv_iload_n hx hb dX11_end_31 rfl (lv_at hl 1 rfl) ?_
      subst hQ
      exact W.iret (v := a0) hx hb hr (fun t1 ht hW => ⟨⟨a0, (σ, I_16, J, ri, rj, rq), rfl, ⟨I_16, rfl, hG, (rg_w h_14 (by decide))⟩, by rw [ht]; exact hP, va_K.moved hW.alike hK, hD⟩, hS.F ht⟩) hS.2.2 dX11_end_32
    · have f_17 := (hr_8.resolve_left (fun q => absurd (q.1.symm.trans c_10) (by decide))).2
      have h_18 : rg x_4 0 0 := rg_and h_9 (rg_of_eq c_10 (rg_k (0 : Int32) 0 rfl)) (by decide)
      refine lv_iconst (v := (-1)) hx hb dX11_end_18 (by decide) ?_
      subst hQ
      exact W.iret (v := (-1)) hx hb hr (fun t1 ht hW => ⟨⟨(-1), (σ, I, J, ri, rj, rq), rfl, ⟨I, rfl, hG, (rg_w (rg_k (-1 : Int32) (-1) rfl) (by decide))⟩, by rw [ht]; exact hP, va_K.moved hW.alike hK, hD⟩, hS.F ht⟩) hS.2.2 dX11_end_19
  exact go _ _ _ hP hD hS hl
