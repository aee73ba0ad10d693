theorem dX11_beds_0 : decode cX11_beds 0 = .ok (.aload_n 0, 1) := oc_42 (by decide +kernel)
theorem dX11_beds_1 : decode cX11_beds 1 = .ok (.iload_n 1, 1) := oc_27 (by decide +kernel)
theorem dX11_beds_2 : decode cX11_beds 2 = .ok (.invokevirtual 119, 3) := oc_182 (a := 0) (b := 119) (by decide +kernel)
theorem dX11_beds_5 : decode cX11_beds 5 = .ok (.ifCond .ne 5, 3) := oc_154 (a := 0) (b := 5) (by decide +kernel)
theorem dX11_beds_10 : decode cX11_beds 10 = .ok (.aload_n 0, 1) := oc_42 (by decide +kernel)
theorem dX11_beds_11 : decode cX11_beds 11 = .ok (.getfield 10, 3) := oc_180 (a := 0) (b := 10) (by decide +kernel)
theorem dX11_beds_14 : decode cX11_beds 14 = .ok (.getfield 36, 3) := oc_180 (a := 0) (b := 36) (by decide +kernel)
theorem tw_369 : Cond.fieldLink RX11 138 "RingsUnder$Land" "beds" "[I" ∈ wsL_law := sg_16 _ (List.mem_of_getElem? (i := 9) rfl)
theorem dX11_beds_17 : decode cX11_beds 17 = .ok (.getfield 138, 3) := oc_180 (a := 0) (b := 138) (by decide +kernel)
theorem dX11_beds_20 : decode cX11_beds 20 = .ok (.iload_n 1, 1) := oc_27 (by decide +kernel)
theorem dX11_beds_21 : decode cX11_beds 21 = .ok (.iaload, 1) := oc_46 (by decide +kernel)
theorem dX11_beds_22 : decode cX11_beds 22 = .ok (.i2l, 1) := oc_133 (by decide +kernel)
theorem dX11_beds_23 : decode cX11_beds 23 = .ok (.iload_n 2, 1) := oc_28 (by decide +kernel)
theorem dX11_beds_24 : decode cX11_beds 24 = .ok (.i2l, 1) := oc_133 (by decide +kernel)
theorem dX11_beds_25 : decode cX11_beds 25 = .ok (.ladd, 1) := oc_97 (by decide +kernel)
theorem dX11_beds_26 : decode cX11_beds 26 = .ok (.lstore_n 3, 1) := oc_66 (by decide +kernel)
theorem dX11_beds_27 : decode cX11_beds 27 = .ok (.lload_n 3, 1) := oc_33 (by decide +kernel)
theorem dX11_beds_28 : decode cX11_beds 28 = .ok (.lconst 0, 1) := oc_9 (by decide +kernel)
theorem dX11_beds_29 : decode cX11_beds 29 = .ok (.lcmp, 1) := oc_148 (by decide +kernel)
theorem dX11_beds_41 : decode cX11_beds 41 = .ok (.iconst (-1), 1) := oc_2 (by decide +kernel)
theorem dX11_beds_42 : decode cX11_beds 42 = .ok (.ireturn, 1) := oc_172 (by decide +kernel)
theorem dX11_beds_30 : decode cX11_beds 30 = .ok (.ifCond .lt 11, 3) := oc_155 (a := 0) (b := 11) (by decide +kernel)
theorem dX11_beds_33 : decode cX11_beds 33 = .ok (.lload_n 3, 1) := oc_33 (by decide +kernel)
theorem tw_370 : Cond.constantLong RX11 141 (20) ∈ wsL_law := sg_16 _ (List.mem_of_getElem? (i := 10) rfl)
theorem dX11_beds_34 : decode cX11_beds 34 = .ok (.ldc2_w 141, 3) := oc_20 (a := 0) (b := 141) (by decide +kernel)
theorem dX11_beds_37 : decode cX11_beds 37 = .ok (.lcmp, 1) := oc_148 (by decide +kernel)
theorem dX11_beds_38 : decode cX11_beds 38 = .ok (.ifCond .le 5, 3) := oc_158 (a := 0) (b := 5) (by decide +kernel)
theorem dX11_beds_43 : decode cX11_beds 43 = .ok (.aload_n 0, 1) := oc_42 (by decide +kernel)
theorem dX11_beds_44 : decode cX11_beds 44 = .ok (.getfield 10, 3) := oc_180 (a := 0) (b := 10) (by decide +kernel)
theorem dX11_beds_47 : decode cX11_beds 47 = .ok (.getfield 36, 3) := oc_180 (a := 0) (b := 36) (by decide +kernel)
theorem dX11_beds_50 : decode cX11_beds 50 = .ok (.getfield 138, 3) := oc_180 (a := 0) (b := 138) (by decide +kernel)
theorem dX11_beds_53 : decode cX11_beds 53 = .ok (.iload_n 1, 1) := oc_27 (by decide +kernel)
theorem dX11_beds_54 : decode cX11_beds 54 = .ok (.lload_n 3, 1) := oc_33 (by decide +kernel)
theorem dX11_beds_55 : decode cX11_beds 55 = .ok (.l2i, 1) := oc_136 (by decide +kernel)
theorem dX11_beds_56 : decode cX11_beds 56 = .ok (.iastore, 1) := oc_79 (by decide +kernel)
theorem dX11_beds_57 : decode cX11_beds 57 = .ok (.aload_n 0, 1) := oc_42 (by decide +kernel)
theorem dX11_beds_58 : decode cX11_beds 58 = .ok (.getfield 10, 3) := oc_180 (a := 0) (b := 10) (by decide +kernel)
theorem dX11_beds_61 : decode cX11_beds 61 = .ok (.getfield 36, 3) := oc_180 (a := 0) (b := 36) (by decide +kernel)
theorem dX11_beds_64 : decode cX11_beds 64 = .ok (.getfield 138, 3) := oc_180 (a := 0) (b := 138) (by decide +kernel)
theorem dX11_beds_67 : decode cX11_beds 67 = .ok (.iload_n 1, 1) := oc_27 (by decide +kernel)
theorem dX11_beds_68 : decode cX11_beds 68 = .ok (.iaload, 1) := oc_46 (by decide +kernel)
theorem dX11_beds_69 : decode cX11_beds 69 = .ok (.ireturn, 1) := oc_172 (by decide +kernel)
theorem dX11_beds_8 : decode cX11_beds 8 = .ok (.iconst (-1), 1) := oc_2 (by decide +kernel)
theorem dX11_beds_9 : decode cX11_beds 9 = .ok (.ireturn, 1) := oc_172 (by decide +kernel)
theorem dX11_lot_0 : decode cX11_lot 0 = .ok (.aload_n 0, 1) := oc_42 (by decide +kernel)
theorem dX11_lot_1 : decode cX11_lot 1 = .ok (.getfield 10, 3) := oc_180 (a := 0) (b := 10) (by decide +kernel)
theorem tw_379 : Cond.fieldLink RX11 143 "RingsUnder$World" "folk" "LRingsUnder$Folk;" ∈ wsL_law := sg_16 _ (List.mem_of_getElem? (i := 19) rfl)
theorem dX11_lot_4 : decode cX11_lot 4 = .ok (.getfield 143, 3) := oc_180 (a := 0) (b := 143) (by decide +kernel)
theorem dX11_lot_7 : decode cX11_lot 7 = .ok (.astore_n 2, 1) := oc_77 (by decide +kernel)
theorem dX11_lot_8 : decode cX11_lot 8 = .ok (.iload_n 1, 1) := oc_27 (by decide +kernel)
theorem dX11_lot_9 : decode cX11_lot 9 = .ok (.iconst 0, 1) := oc_3 (by decide +kernel)
theorem dX11_lot_10 : decode cX11_lot 10 = .ok (.bipush 60, 2) := oc_16 (a := 60) (by decide +kernel)
theorem dX11_lot_12 : decode cX11_lot 12 = .ok (.invokestatic 50, 3) := oc_184 (a := 0) (b := 50) (by decide +kernel)
theorem dX11_lot_26 : decode cX11_lot 26 = .ok (.iconst (-1), 1) := oc_2 (by decide +kernel)
theorem dX11_lot_27 : decode cX11_lot 27 = .ok (.ireturn, 1) := oc_172 (by decide +kernel)
theorem dX11_lot_15 : decode cX11_lot 15 = .ok (.ifCond .eq 11, 3) := oc_153 (a := 0) (b := 11) (by decide +kernel)
theorem dX11_lot_18 : decode cX11_lot 18 = .ok (.aload_n 2, 1) := oc_44 (by decide +kernel)
theorem tw_380 : Cond.fieldLink RX11 147 "RingsUnder$Folk" "lots" "I" ∈ wsL_law := sg_16 _ (List.mem_of_getElem? (i := 20) rfl)
theorem dX11_lot_19 : decode cX11_lot 19 = .ok (.getfield 147, 3) := oc_180 (a := 0) (b := 147) (by decide +kernel)
theorem dX11_lot_22 : decode cX11_lot 22 = .ok (.iconst 5, 1) := oc_8 (by decide +kernel)
theorem dX11_lot_23 : decode cX11_lot 23 = .ok (.if_icmp .lt 5, 3) := oc_161 (a := 0) (b := 5) (by decide +kernel)
theorem dX11_lot_28 : decode cX11_lot 28 = .ok (.aload_n 2, 1) := oc_44 (by decide +kernel)
theorem tw_381 : Cond.fieldLink RX11 152 "RingsUnder$Folk" "lotBeds" "[I" ∈ wsL_law := sg_16 _ (List.mem_of_getElem? (i := 21) rfl)
theorem dX11_lot_29 : decode cX11_lot 29 = .ok (.getfield 152, 3) := oc_180 (a := 0) (b := 152) (by decide +kernel)
theorem dX11_lot_32 : decode cX11_lot 32 = .ok (.aload_n 2, 1) := oc_44 (by decide +kernel)
theorem dX11_lot_33 : decode cX11_lot 33 = .ok (.getfield 147, 3) := oc_180 (a := 0) (b := 147) (by decide +kernel)
theorem dX11_lot_36 : decode cX11_lot 36 = .ok (.iload_n 1, 1) := oc_27 (by decide +kernel)
theorem dX11_lot_37 : decode cX11_lot 37 = .ok (.iastore, 1) := oc_79 (by decide +kernel)
theorem dX11_lot_38 : decode cX11_lot 38 = .ok (.aload_n 2, 1) := oc_44 (by decide +kernel)
theorem dX11_lot_39 : decode cX11_lot 39 = .ok (.dup, 1) := oc_89 (by decide +kernel)
theorem dX11_lot_40 : decode cX11_lot 40 = .ok (.getfield 147, 3) := oc_180 (a := 0) (b := 147) (by decide +kernel)
theorem dX11_lot_43 : decode cX11_lot 43 = .ok (.iconst 1, 1) := oc_4 (by decide +kernel)
theorem dX11_lot_44 : decode cX11_lot 44 = .ok (.iadd, 1) := oc_96 (by decide +kernel)
theorem dX11_lot_45 : decode cX11_lot 45 = .ok (.putfield 147, 3) := oc_181 (a := 0) (b := 147) (by decide +kernel)
theorem dX11_lot_48 : decode cX11_lot 48 = .ok (.aload_n 2, 1) := oc_44 (by decide +kernel)
theorem dX11_lot_49 : decode cX11_lot 49 = .ok (.getfield 147, 3) := oc_180 (a := 0) (b := 147) (by decide +kernel)
theorem dX11_lot_52 : decode cX11_lot 52 = .ok (.iconst 1, 1) := oc_4 (by decide +kernel)
theorem dX11_lot_53 : decode cX11_lot 53 = .ok (.isub, 1) := oc_100 (by decide +kernel)
theorem dX11_lot_54 : decode cX11_lot 54 = .ok (.ireturn, 1) := oc_172 (by decide +kernel)
theorem dX11_person_0 : decode cX11_person 0 = .ok (.iload_n 1, 1) := oc_27 (by decide +kernel)
theorem dX11_person_1 : decode cX11_person 1 = .ok (.iconst 0, 1) := oc_3 (by decide +kernel)
theorem dX11_person_2 : decode cX11_person 2 = .ok (.bipush 9, 2) := oc_16 (a := 9) (by decide +kernel)
theorem dX11_person_4 : decode cX11_person 4 = .ok (.invokestatic 50, 3) := oc_184 (a := 0) (b := 50) (by decide +kernel)
theorem dX11_person_55 : decode cX11_person 55 = .ok (.istore 6, 2) := oc_54 (by decide +kernel)
theorem dX11_person_57 : decode cX11_person 57 = .ok (.iload 6, 2) := oc_21 (by decide +kernel)
theorem dX11_person_77 : decode cX11_person 77 = .ok (.iconst (-1), 1) := oc_2 (by decide +kernel)
theorem dX11_person_78 : decode cX11_person 78 = .ok (.ireturn, 1) := oc_172 (by decide +kernel)
theorem dX11_person_59 : decode cX11_person 59 = .ok (.ifCond .eq 18, 3) := oc_153 (a := 0) (b := 18) (by decide +kernel)
theorem dX11_person_62 : decode cX11_person 62 = .ok (.aload_n 0, 1) := oc_42 (by decide +kernel)
theorem dX11_person_63 : decode cX11_person 63 = .ok (.getfield 10, 3) := oc_180 (a := 0) (b := 10) (by decide +kernel)
theorem dX11_person_66 : decode cX11_person 66 = .ok (.getfield 143, 3) := oc_180 (a := 0) (b := 143) (by decide +kernel)
theorem tw_390 : Cond.fieldLink RX11 155 "RingsUnder$Folk" "persons" "I" ∈ wsL_law := sg_17 _ (List.mem_of_getElem? (i := 6) rfl)
theorem dX11_person_69 : decode cX11_person 69 = .ok (.getfield 155, 3) := oc_180 (a := 0) (b := 155) (by decide +kernel)
theorem dX11_person_72 : decode cX11_person 72 = .ok (.bipush 40, 2) := oc_16 (a := 40) (by decide +kernel)
theorem dX11_person_74 : decode cX11_person 74 = .ok (.if_icmp .lt 5, 3) := oc_161 (a := 0) (b := 5) (by decide +kernel)
theorem dX11_person_79 : decode cX11_person 79 = .ok (.aload_n 0, 1) := oc_42 (by decide +kernel)
theorem dX11_person_80 : decode cX11_person 80 = .ok (.getfield 10, 3) := oc_180 (a := 0) (b := 10) (by decide +kernel)
theorem dX11_person_83 : decode cX11_person 83 = .ok (.getfield 143, 3) := oc_180 (a := 0) (b := 143) (by decide +kernel)
theorem dX11_person_86 : decode cX11_person 86 = .ok (.iload_n 1, 1) := oc_27 (by decide +kernel)
theorem dX11_person_87 : decode cX11_person 87 = .ok (.iload_n 2, 1) := oc_28 (by decide +kernel)
theorem dX11_person_88 : decode cX11_person 88 = .ok (.iload_n 3, 1) := oc_29 (by decide +kernel)
theorem dX11_person_89 : decode cX11_person 89 = .ok (.iload 4, 2) := oc_21 (by decide +kernel)
theorem dX11_person_91 : decode cX11_person 91 = .ok (.iload 5, 2) := oc_21 (by decide +kernel)
theorem tw_391 : Cond.methodLink RX11 158 yX0_addPerson ∈ wsL_law := sg_17 _ (List.mem_of_getElem? (i := 7) rfl)
theorem tw_392 : Cond.instanceMethod yX0_addPerson ∈ wsL_law := sg_17 _ (List.mem_of_getElem? (i := 8) rfl)
theorem tw_393 : Cond.selects RX0 yX0_addPerson yX0_addPerson ∈ wsL_law := sg_17 _ (List.mem_of_getElem? (i := 9) rfl)
theorem tw_394 : Cond.code yX0_addPerson cX0_addPerson 7 (some .int) ∈ wsL_law := sg_17 _ (List.mem_of_getElem? (i := 10) rfl)
theorem dX11_person_93 : decode cX11_person 93 = .ok (.invokevirtual 158, 3) := oc_182 (a := 0) (b := 158) (by decide +kernel)
theorem dX11_person_96 : decode cX11_person 96 = .ok (.ireturn, 1) := oc_172 (by decide +kernel)
theorem dX11_person_54 : decode cX11_person 54 = .ok (.iconst 0, 1) := oc_3 (by decide +kernel)
theorem dX11_person_7 : decode cX11_person 7 = .ok (.ifCond .eq 47, 3) := oc_153 (a := 0) (b := 47) (by decide +kernel)
theorem dX11_person_10 : decode cX11_person 10 = .ok (.iload_n 2, 1) := oc_28 (by decide +kernel)
theorem dX11_person_11 : decode cX11_person 11 = .ok (.iconst 0, 1) := oc_3 (by decide +kernel)
theorem dX11_person_12 : decode cX11_person 12 = .ok (.bipush 99, 2) := oc_16 (a := 99) (by decide +kernel)
theorem dX11_person_14 : decode cX11_person 14 = .ok (.invokestatic 50, 3) := oc_184 (a := 0) (b := 50) (by decide +kernel)
theorem dX11_person_17 : decode cX11_person 17 = .ok (.ifCond .eq 37, 3) := oc_153 (a := 0) (b := 37) (by decide +kernel)
theorem dX11_person_20 : decode cX11_person 20 = .ok (.iload_n 3, 1) := oc_29 (by decide +kernel)
theorem dX11_person_21 : decode cX11_person 21 = .ok (.iconst 0, 1) := oc_3 (by decide +kernel)
theorem dX11_person_22 : decode cX11_person 22 = .ok (.bipush 7, 2) := oc_16 (a := 7) (by decide +kernel)
theorem dX11_person_24 : decode cX11_person 24 = .ok (.invokestatic 50, 3) := oc_184 (a := 0) (b := 50) (by decide +kernel)
theorem dX11_person_27 : decode cX11_person 27 = .ok (.ifCond .eq 27, 3) := oc_153 (a := 0) (b := 27) (by decide +kernel)
theorem dX11_person_30 : decode cX11_person 30 = .ok (.aload_n 0, 1) := oc_42 (by decide +kernel)
theorem dX11_person_31 : decode cX11_person 31 = .ok (.iload 4, 2) := oc_21 (by decide +kernel)
theorem dX11_person_33 : decode cX11_person 33 = .ok (.invokevirtual 46, 3) := oc_182 (a := 0) (b := 46) (by decide +kernel)
theorem dX11_person_36 : decode cX11_person 36 = .ok (.ifCond .eq 18, 3) := oc_153 (a := 0) (b := 18) (by decide +kernel)
theorem dX11_person_39 : decode cX11_person 39 = .ok (.iload 5, 2) := oc_21 (by decide +kernel)
theorem dX11_person_41 : decode cX11_person 41 = .ok (.iconst 0, 1) := oc_3 (by decide +kernel)
theorem dX11_person_42 : decode cX11_person 42 = .ok (.bipush 100, 2) := oc_16 (a := 100) (by decide +kernel)
theorem dX11_person_44 : decode cX11_person 44 = .ok (.invokestatic 50, 3) := oc_184 (a := 0) (b := 50) (by decide +kernel)
theorem dX11_person_47 : decode cX11_person 47 = .ok (.ifCond .eq 7, 3) := oc_153 (a := 0) (b := 7) (by decide +kernel)
theorem dX11_person_50 : decode cX11_person 50 = .ok (.iconst 1, 1) := oc_4 (by decide +kernel)
theorem dX11_person_51 : decode cX11_person 51 = .ok (.goto 4, 3) := oc_167 (a := 0) (b := 4) (by decide +kernel)
theorem dX11_isPerson_0 : decode cX11_isPerson 0 = .ok (.iload_n 1, 1) := oc_27 (by decide +kernel)
theorem dX11_isPerson_1 : decode cX11_isPerson 1 = .ok (.iconst 0, 1) := oc_3 (by decide +kernel)
theorem dX11_isPerson_2 : decode cX11_isPerson 2 = .ok (.aload_n 0, 1) := oc_42 (by decide +kernel)
theorem dX11_isPerson_3 : decode cX11_isPerson 3 = .ok (.getfield 10, 3) := oc_180 (a := 0) (b := 10) (by decide +kernel)
theorem dX11_isPerson_6 : decode cX11_isPerson 6 = .ok (.getfield 143, 3) := oc_180 (a := 0) (b := 143) (by decide +kernel)
theorem dX11_isPerson_9 : decode cX11_isPerson 9 = .ok (.getfield 155, 3) := oc_180 (a := 0) (b := 155) (by decide +kernel)
theorem dX11_isPerson_12 : decode cX11_isPerson 12 = .ok (.iconst 1, 1) := oc_4 (by decide +kernel)
theorem dX11_isPerson_13 : decode cX11_isPerson 13 = .ok (.isub, 1) := oc_100 (by decide +kernel)
theorem dX11_isPerson_14 : decode cX11_isPerson 14 = .ok (.invokestatic 50, 3) := oc_184 (a := 0) (b := 50) (by decide +kernel)
theorem dX11_isPerson_17 : decode cX11_isPerson 17 = .ok (.ireturn, 1) := oc_172 (by decide +kernel)
theorem dX11_isLot_0 : decode cX11_isLot 0 = .ok (.iload_n 1, 1) := oc_27 (by decide +kernel)
theorem dX11_isLot_1 : decode cX11_isLot 1 = .ok (.bipush 100, 2) := oc_16 (a := 100) (by decide +kernel)
theorem dX11_isLot_3 : decode cX11_isLot 3 = .ok (.bipush 100, 2) := oc_16 (a := 100) (by decide +kernel)
theorem dX11_isLot_5 : decode cX11_isLot 5 = .ok (.aload_n 0, 1) := oc_42 (by decide +kernel)
theorem dX11_isLot_6 : decode cX11_isLot 6 = .ok (.getfield 10, 3) := oc_180 (a := 0) (b := 10) (by decide +kernel)
theorem dX11_isLot_9 : decode cX11_isLot 9 = .ok (.getfield 143, 3) := oc_180 (a := 0) (b := 143) (by decide +kernel)
theorem dX11_isLot_12 : decode cX11_isLot 12 = .ok (.getfield 147, 3) := oc_180 (a := 0) (b := 147) (by decide +kernel)
theorem dX11_isLot_15 : decode cX11_isLot 15 = .ok (.iadd, 1) := oc_96 (by decide +kernel)
theorem dX11_isLot_16 : decode cX11_isLot 16 = .ok (.iconst 1, 1) := oc_4 (by decide +kernel)
theorem dX11_isLot_17 : decode cX11_isLot 17 = .ok (.isub, 1) := oc_100 (by decide +kernel)
theorem dX11_isLot_18 : decode cX11_isLot 18 = .ok (.invokestatic 50, 3) := oc_184 (a := 0) (b := 50) (by decide +kernel)
theorem dX11_isLot_21 : decode cX11_isLot 21 = .ok (.ireturn, 1) := oc_172 (by decide +kernel)
theorem dX11_go_0 : decode cX11_go 0 = .ok (.aload_n 0, 1) := oc_42 (by decide +kernel)
theorem dX11_go_1 : decode cX11_go 1 = .ok (.iload_n 1, 1) := oc_27 (by decide +kernel)
theorem tw_405 : Cond.methodLink RX11 162 yX11_isPerson ∈ wsL_law := sg_17 _ (List.mem_of_getElem? (i := 21) rfl)
theorem tw_406 : Cond.instanceMethod yX11_isPerson ∈ wsL_law := sg_17 _ (List.mem_of_getElem? (i := 22) rfl)
theorem tw_407 : Cond.selects RX11 yX11_isPerson yX11_isPerson ∈ wsL_law := sg_17 _ (List.mem_of_getElem? (i := 23) rfl)
theorem tw_408 : Cond.code yX11_isPerson cX11_isPerson 2 (some .boolean) ∈ wsL_law := sg_18 _ (List.mem_of_getElem? (i := 0) rfl)
theorem dX11_go_2 : decode cX11_go 2 = .ok (.invokevirtual 162, 3) := oc_182 (a := 0) (b := 162) (by decide +kernel)
theorem dX11_go_5 : decode cX11_go 5 = .ok (.ifCond .ne 5, 3) := oc_154 (a := 0) (b := 5) (by decide +kernel)
theorem dX11_go_10 : decode cX11_go 10 = .ok (.aload_n 0, 1) := oc_42 (by decide +kernel)
theorem dX11_go_11 : decode cX11_go 11 = .ok (.getfield 10, 3) := oc_180 (a := 0) (b := 10) (by decide +kernel)
theorem dX11_go_14 : decode cX11_go 14 = .ok (.getfield 143, 3) := oc_180 (a := 0) (b := 143) (by decide +kernel)
theorem dX11_go_17 : decode cX11_go 17 = .ok (.astore_n 3, 1) := oc_78 (by decide +kernel)
theorem dX11_go_18 : decode cX11_go 18 = .ok (.aload_n 3, 1) := oc_45 (by decide +kernel)
theorem tw_404 : Cond.fieldLink RX11 165 "RingsUnder$Folk" "place" "[I" ∈ wsL_law := sg_17 _ (List.mem_of_getElem? (i := 20) rfl)
theorem dX11_go_19 : decode cX11_go 19 = .ok (.getfield 165, 3) := oc_180 (a := 0) (b := 165) (by decide +kernel)
theorem dX11_go_22 : decode cX11_go 22 = .ok (.iload_n 1, 1) := oc_27 (by decide +kernel)
theorem dX11_go_23 : decode cX11_go 23 = .ok (.iaload, 1) := oc_46 (by decide +kernel)
theorem dX11_go_24 : decode cX11_go 24 = .ok (.sipush 300, 3) := oc_17 (a := 1) (b := 44) (by decide +kernel)
theorem dX11_go_40 : decode cX11_go 40 = .ok (.iconst 0, 1) := oc_3 (by decide +kernel)
theorem dX11_go_41 : decode cX11_go 41 = .ok (.ireturn, 1) := oc_172 (by decide +kernel)
theorem dX11_go_27 : decode cX11_go 27 = .ok (.if_icmp .eq 13, 3) := oc_159 (a := 0) (b := 13) (by decide +kernel)
theorem dX11_go_30 : decode cX11_go 30 = .ok (.aload_n 3, 1) := oc_45 (by decide +kernel)
theorem dX11_go_31 : decode cX11_go 31 = .ok (.getfield 165, 3) := oc_180 (a := 0) (b := 165) (by decide +kernel)
theorem dX11_go_34 : decode cX11_go 34 = .ok (.iload_n 1, 1) := oc_27 (by decide +kernel)
theorem dX11_go_35 : decode cX11_go 35 = .ok (.iaload, 1) := oc_46 (by decide +kernel)
theorem dX11_go_36 : decode cX11_go 36 = .ok (.iload_n 2, 1) := oc_28 (by decide +kernel)
theorem dX11_go_37 : decode cX11_go 37 = .ok (.if_icmp .ne 5, 3) := oc_160 (a := 0) (b := 5) (by decide +kernel)
theorem dX11_go_42 : decode cX11_go 42 = .ok (.aload_n 0, 1) := oc_42 (by decide +kernel)
theorem dX11_go_43 : decode cX11_go 43 = .ok (.iload_n 2, 1) := oc_28 (by decide +kernel)
theorem dX11_go_44 : decode cX11_go 44 = .ok (.invokevirtual 46, 3) := oc_182 (a := 0) (b := 46) (by decide +kernel)
theorem dX11_go_81 : decode cX11_go 81 = .ok (.istore 4, 2) := oc_54 (by decide +kernel)
theorem dX11_go_83 : decode cX11_go 83 = .ok (.iload 4, 2) := oc_21 (by decide +kernel)
theorem dX11_go_95 : decode cX11_go 95 = .ok (.iload 4, 2) := oc_21 (by decide +kernel)
theorem dX11_go_97 : decode cX11_go 97 = .ok (.ireturn, 1) := oc_172 (by decide +kernel)
theorem dX11_go_85 : decode cX11_go 85 = .ok (.ifCond .eq 10, 3) := oc_153 (a := 0) (b := 10) (by decide +kernel)
theorem dX11_go_88 : decode cX11_go 88 = .ok (.aload_n 3, 1) := oc_45 (by decide +kernel)
theorem dX11_go_89 : decode cX11_go 89 = .ok (.getfield 165, 3) := oc_180 (a := 0) (b := 165) (by decide +kernel)
theorem dX11_go_92 : decode cX11_go 92 = .ok (.iload_n 1, 1) := oc_27 (by decide +kernel)
theorem dX11_go_93 : decode cX11_go 93 = .ok (.iload_n 2, 1) := oc_28 (by decide +kernel)
theorem dX11_go_94 : decode cX11_go 94 = .ok (.iastore, 1) := oc_79 (by decide +kernel)
theorem dX11_go_76 : decode cX11_go 76 = .ok (.iconst 1, 1) := oc_4 (by decide +kernel)
theorem dX11_go_77 : decode cX11_go 77 = .ok (.goto 4, 3) := oc_167 (a := 0) (b := 4) (by decide +kernel)
theorem dX11_go_47 : decode cX11_go 47 = .ok (.ifCond .ne 29, 3) := oc_154 (a := 0) (b := 29) (by decide +kernel)
theorem dX11_go_50 : decode cX11_go 50 = .ok (.iload_n 2, 1) := oc_28 (by decide +kernel)
theorem dX11_go_51 : decode cX11_go 51 = .ok (.sipush 200, 3) := oc_17 (a := 0) (b := 200) (by decide +kernel)
theorem dX11_go_54 : decode cX11_go 54 = .ok (.if_icmp .eq 22, 3) := oc_159 (a := 0) (b := 22) (by decide +kernel)
theorem dX11_go_57 : decode cX11_go 57 = .ok (.aload_n 0, 1) := oc_42 (by decide +kernel)
theorem dX11_go_58 : decode cX11_go 58 = .ok (.iload_n 2, 1) := oc_28 (by decide +kernel)
theorem tw_409 : Cond.methodLink RX11 168 yX11_isLot ∈ wsL_law := sg_18 _ (List.mem_of_getElem? (i := 1) rfl)
theorem tw_410 : Cond.instanceMethod yX11_isLot ∈ wsL_law := sg_18 _ (List.mem_of_getElem? (i := 2) rfl)
theorem tw_411 : Cond.selects RX11 yX11_isLot yX11_isLot ∈ wsL_law := sg_18 _ (List.mem_of_getElem? (i := 3) rfl)
theorem tw_412 : Cond.code yX11_isLot cX11_isLot 2 (some .boolean) ∈ wsL_law := sg_18 _ (List.mem_of_getElem? (i := 4) rfl)
theorem dX11_go_59 : decode cX11_go 59 = .ok (.invokevirtual 168, 3) := oc_182 (a := 0) (b := 168) (by decide +kernel)
theorem dX11_go_80 : decode cX11_go 80 = .ok (.iconst 0, 1) := oc_3 (by decide +kernel)
theorem dX11_go_62 : decode cX11_go 62 = .ok (.ifCond .eq 18, 3) := oc_153 (a := 0) (b := 18) (by decide +kernel)
theorem dX11_go_65 : decode cX11_go 65 = .ok (.aload_n 3, 1) := oc_45 (by decide +kernel)
theorem dX11_go_66 : decode cX11_go 66 = .ok (.iload_n 2, 1) := oc_28 (by decide +kernel)
theorem dX11_go_67 : decode cX11_go 67 = .ok (.bipush 100, 2) := oc_16 (a := 100) (by decide +kernel)
theorem dX11_go_69 : decode cX11_go 69 = .ok (.isub, 1) := oc_100 (by decide +kernel)
theorem tw_413 : Cond.methodLink RX11 171 yX0_freeBeds ∈ wsL_law := sg_18 _ (List.mem_of_getElem? (i := 5) rfl)
theorem dX11_go_70 : decode cX11_go 70 = .ok (.invokevirtual 171, 3) := oc_182 (a := 0) (b := 171) (by decide +kernel)
theorem dX11_go_73 : decode cX11_go 73 = .ok (.ifCond .le 7, 3) := oc_158 (a := 0) (b := 7) (by decide +kernel)
theorem dX11_go_8 : decode cX11_go 8 = .ok (.iconst 0, 1) := oc_3 (by decide +kernel)
theorem dX11_go_9 : decode cX11_go 9 = .ok (.ireturn, 1) := oc_172 (by decide +kernel)
theorem dX11_death_0 : decode cX11_death 0 = .ok (.aload_n 0, 1) := oc_42 (by decide +kernel)
theorem dX11_death_1 : decode cX11_death 1 = .ok (.iload_n 1, 1) := oc_27 (by decide +kernel)
theorem dX11_death_2 : decode cX11_death 2 = .ok (.invokevirtual 162, 3) := oc_182 (a := 0) (b := 162) (by decide +kernel)
theorem dX11_death_26 : decode cX11_death 26 = .ok (.iconst (-1), 1) := oc_2 (by decide +kernel)
theorem dX11_death_27 : decode cX11_death 27 = .ok (.ireturn, 1) := oc_172 (by decide +kernel)
theorem dX11_death_5 : decode cX11_death 5 = .ok (.ifCond .eq 21, 3) := oc_153 (a := 0) (b := 21) (by decide +kernel)
theorem dX11_death_8 : decode cX11_death 8 = .ok (.aload_n 0, 1) := oc_42 (by decide +kernel)
theorem dX11_death_9 : decode cX11_death 9 = .ok (.getfield 10, 3) := oc_180 (a := 0) (b := 10) (by decide +kernel)
theorem dX11_death_12 : decode cX11_death 12 = .ok (.getfield 143, 3) := oc_180 (a := 0) (b := 143) (by decide +kernel)
theorem dX11_death_15 : decode cX11_death 15 = .ok (.getfield 165, 3) := oc_180 (a := 0) (b := 165) (by decide +kernel)
theorem dX11_death_18 : decode cX11_death 18 = .ok (.iload_n 1, 1) := oc_27 (by decide +kernel)
theorem dX11_death_19 : decode cX11_death 19 = .ok (.iaload, 1) := oc_46 (by decide +kernel)
theorem dX11_death_20 : decode cX11_death 20 = .ok (.sipush 300, 3) := oc_17 (a := 1) (b := 44) (by decide +kernel)
theorem dX11_death_23 : decode cX11_death 23 = .ok (.if_icmp .ne 5, 3) := oc_160 (a := 0) (b := 5) (by decide +kernel)
theorem dX11_death_28 : decode cX11_death 28 = .ok (.aload_n 0, 1) := oc_42 (by decide +kernel)
theorem dX11_death_29 : decode cX11_death 29 = .ok (.getfield 10, 3) := oc_180 (a := 0) (b := 10) (by decide +kernel)
theorem dX11_death_32 : decode cX11_death 32 = .ok (.getfield 143, 3) := oc_180 (a := 0) (b := 143) (by decide +kernel)
theorem dX11_death_35 : decode cX11_death 35 = .ok (.getfield 165, 3) := oc_180 (a := 0) (b := 165) (by decide +kernel)
theorem dX11_death_38 : decode cX11_death 38 = .ok (.iload_n 1, 1) := oc_27 (by decide +kernel)
theorem dX11_death_39 : decode cX11_death 39 = .ok (.sipush 300, 3) := oc_17 (a := 1) (b := 44) (by decide +kernel)
theorem dX11_death_42 : decode cX11_death 42 = .ok (.iastore, 1) := oc_79 (by decide +kernel)
theorem dX11_death_43 : decode cX11_death 43 = .ok (.aload_n 0, 1) := oc_42 (by decide +kernel)
theorem dX11_death_44 : decode cX11_death 44 = .ok (.getfield 10, 3) := oc_180 (a := 0) (b := 10) (by decide +kernel)
theorem dX11_death_47 : decode cX11_death 47 = .ok (.iload_n 1, 1) := oc_27 (by decide +kernel)
theorem dX11_death_48 : decode cX11_death 48 = .ok (.aload_n 0, 1) := oc_42 (by decide +kernel)
theorem dX11_death_49 : decode cX11_death 49 = .ok (.getfield 10, 3) := oc_180 (a := 0) (b := 10) (by decide +kernel)
theorem dX11_death_52 : decode cX11_death 52 = .ok (.iload_n 1, 1) := oc_27 (by decide +kernel)
theorem tw_453 : Cond.methodLink RX11 175 yX10_heirOf ∈ wsL_law := sg_19 _ (List.mem_of_getElem? (i := 21) rfl)
theorem tw_454 : Cond.instanceMethod yX10_heirOf ∈ wsL_law := sg_19 _ (List.mem_of_getElem? (i := 22) rfl)
theorem tw_455 : Cond.selects RX10 yX10_heirOf yX10_heirOf ∈ wsL_law := sg_19 _ (List.mem_of_getElem? (i := 23) rfl)
theorem tw_456 : Cond.code yX10_heirOf cX10_heirOf 4 (some .int) ∈ wsL_law := sg_20 _ (List.mem_of_getElem? (i := 0) rfl)
theorem dX11_death_53 : decode cX11_death 53 = .ok (.invokevirtual 175, 3) := oc_182 (a := 0) (b := 175) (by decide +kernel)
theorem tw_494 : Cond.methodLink RX11 178 yX10_passTitles ∈ wsL_law := sg_21 _ (List.mem_of_getElem? (i := 14) rfl)
theorem tw_495 : Cond.instanceMethod yX10_passTitles ∈ wsL_law := sg_21 _ (List.mem_of_getElem? (i := 15) rfl)
theorem tw_496 : Cond.selects RX10 yX10_passTitles yX10_passTitles ∈ wsL_law := sg_21 _ (List.mem_of_getElem? (i := 16) rfl)
theorem tw_497 : Cond.code yX10_passTitles cX10_passTitles 5 (some .int) ∈ wsL_law := sg_21 _ (List.mem_of_getElem? (i := 17) rfl)
theorem dX11_death_56 : decode cX11_death 56 = .ok (.invokevirtual 178, 3) := oc_182 (a := 0) (b := 178) (by decide +kernel)
theorem dX11_death_59 : decode cX11_death 59 = .ok (.ireturn, 1) := oc_172 (by decide +kernel)
theorem dX11_title_0 : decode cX11_title 0 = .ok (.aload_n 0, 1) := oc_42 (by decide +kernel)
theorem dX11_title_1 : decode cX11_title 1 = .ok (.iload_n 1, 1) := oc_27 (by decide +kernel)
theorem dX11_title_2 : decode cX11_title 2 = .ok (.invokevirtual 119, 3) := oc_182 (a := 0) (b := 119) (by decide +kernel)
theorem dX11_title_5 : decode cX11_title 5 = .ok (.ifCond .ne 5, 3) := oc_154 (a := 0) (b := 5) (by decide +kernel)
theorem dX11_title_10 : decode cX11_title 10 = .ok (.iload_n 2, 1) := oc_28 (by decide +kernel)
theorem dX11_title_11 : decode cX11_title 11 = .ok (.iconst (-1), 1) := oc_2 (by decide +kernel)
theorem dX11_title_46 : decode cX11_title 46 = .ok (.istore_n 3, 1) := oc_62 (by decide +kernel)
theorem dX11_title_47 : decode cX11_title 47 = .ok (.iload_n 3, 1) := oc_29 (by decide +kernel)
theorem dX11_title_61 : decode cX11_title 61 = .ok (.iload_n 3, 1) := oc_29 (by decide +kernel)
theorem dX11_title_62 : decode cX11_title 62 = .ok (.ireturn, 1) := oc_172 (by decide +kernel)
theorem dX11_title_48 : decode cX11_title 48 = .ok (.ifCond .eq 13, 3) := oc_153 (a := 0) (b := 13) (by decide +kernel)
theorem dX11_title_51 : decode cX11_title 51 = .ok (.aload_n 0, 1) := oc_42 (by decide +kernel)
theorem dX11_title_52 : decode cX11_title 52 = .ok (.getfield 10, 3) := oc_180 (a := 0) (b := 10) (by decide +kernel)
theorem tw_536 : Cond.fieldLink RX11 182 "RingsUnder$World" "holder" "[I" ∈ wsL_law := sg_23 _ (List.mem_of_getElem? (i := 8) rfl)
theorem dX11_title_55 : decode cX11_title 55 = .ok (.getfield 182, 3) := oc_180 (a := 0) (b := 182) (by decide +kernel)
theorem dX11_title_58 : decode cX11_title 58 = .ok (.iload_n 1, 1) := oc_27 (by decide +kernel)
theorem dX11_title_59 : decode cX11_title 59 = .ok (.iload_n 2, 1) := oc_28 (by decide +kernel)
theorem dX11_title_60 : decode cX11_title 60 = .ok (.iastore, 1) := oc_79 (by decide +kernel)
theorem dX11_title_41 : decode cX11_title 41 = .ok (.iconst 1, 1) := oc_4 (by decide +kernel)
theorem dX11_title_42 : decode cX11_title 42 = .ok (.goto 4, 3) := oc_167 (a := 0) (b := 4) (by decide +kernel)
theorem dX11_title_12 : decode cX11_title 12 = .ok (.if_icmp .eq 29, 3) := oc_159 (a := 0) (b := 29) (by decide +kernel)
theorem dX11_title_15 : decode cX11_title 15 = .ok (.aload_n 0, 1) := oc_42 (by decide +kernel)
theorem dX11_title_16 : decode cX11_title 16 = .ok (.iload_n 2, 1) := oc_28 (by decide +kernel)
theorem dX11_title_17 : decode cX11_title 17 = .ok (.invokevirtual 162, 3) := oc_182 (a := 0) (b := 162) (by decide +kernel)
theorem dX11_title_45 : decode cX11_title 45 = .ok (.iconst 0, 1) := oc_3 (by decide +kernel)
theorem dX11_title_20 : decode cX11_title 20 = .ok (.ifCond .eq 25, 3) := oc_153 (a := 0) (b := 25) (by decide +kernel)
theorem dX11_title_23 : decode cX11_title 23 = .ok (.aload_n 0, 1) := oc_42 (by decide +kernel)
theorem dX11_title_24 : decode cX11_title 24 = .ok (.getfield 10, 3) := oc_180 (a := 0) (b := 10) (by decide +kernel)
theorem dX11_title_27 : decode cX11_title 27 = .ok (.getfield 143, 3) := oc_180 (a := 0) (b := 143) (by decide +kernel)
theorem dX11_title_30 : decode cX11_title 30 = .ok (.getfield 165, 3) := oc_180 (a := 0) (b := 165) (by decide +kernel)
theorem dX11_title_33 : decode cX11_title 33 = .ok (.iload_n 2, 1) := oc_28 (by decide +kernel)
theorem dX11_title_34 : decode cX11_title 34 = .ok (.iaload, 1) := oc_46 (by decide +kernel)
theorem dX11_title_35 : decode cX11_title 35 = .ok (.sipush 300, 3) := oc_17 (a := 1) (b := 44) (by decide +kernel)
theorem dX11_title_38 : decode cX11_title 38 = .ok (.if_icmp .eq 7, 3) := oc_159 (a := 0) (b := 7) (by decide +kernel)
theorem dX11_title_8 : decode cX11_title 8 = .ok (.iconst 0, 1) := oc_3 (by decide +kernel)
theorem dX11_title_9 : decode cX11_title 9 = .ok (.ireturn, 1) := oc_172 (by decide +kernel)
set_option maxRecDepth 100000 in
def g_X11_beds_K41 (I : Nat → Int32) (J : Nat → Int64) (ri : Nat → Nat → Int32) (rj : Nat → Nat → Int64) (rq : Nat → Nat → Option Nat) : Int32 × vM := ((-1 : Int32), I, J, ri, rj, rq)
set_option maxRecDepth 100000 in
theorem g_X11_beds_K41_e {I : Nat → Int32} {J : Nat → Int64} {ri : Nat → Nat → Int32} {rj : Nat → Nat → Int64} {rq : Nat → Nat → Option Nat} : g_X11_beds_K41 I J ri rj rq  = ((-1 : Int32), I, J, ri, rj, rq) := rfl
set_option maxRecDepth 100000 in
def g_X11_beds (a0 : Int32) (a1 : Int32) (I : Nat → Int32) (J : Nat → Int64) (ri : Nat → Nat → Int32) (rj : Nat → Nat → Int64) (rq : Nat → Nat → Option Nat) : Int32 × vM := (bnI (g_X11_isCell a0 I J ri rj rq) fun (x_1 : Int32) (_ : Nat → Int32) (_ : Nat → Int64) (_ : Nat → Nat → Int32) (_ : Nat → Nat → Int64) (_ : Nat → Nat → Option Nat) => (if x_1 = (0 : Int32) then ((-1 : Int32), I, J, ri, rj, rq) else (ap1 (ri 76 (a0).toNatClampNeg) fun (x_18 : Int32) => (ap1 (x_18.toInt64) fun (x_19 : Int64) => (ap1 (a1.toInt64) fun (x_20 : Int64) => (ap1 (x_19 + x_20) fun (x_21 : Int64) => (ap1 (lg_cmp x_21 (0 : Int64)) fun (x_22 : Int32) => (if x_22 < (0 : Int32) then (g_X11_beds_K41 I J ri rj rq ) else (ap1 (lg_cmp x_21 (20 : Int64)) fun (x_39 : Int32) => (if x_39 ≤ (0 : Int32) then (ap1 (x_21.toInt32) fun (x_44 : Int32) => (ap1 (va_up ri 76 (upd (ri 76) (a0).toNatClampNeg x_44)) fun (r_45 : Nat → Nat → Int32) => (ap1 (r_45 76 (a0).toNatClampNeg) fun (x_46 : Int32) => (x_46, I, J, r_45, rj, rq)))) else (g_X11_beds_K41 I J ri rj rq )))))))))))
set_option maxRecDepth 100000 in
theorem g_X11_beds_e {a0 : Int32} {a1 : Int32} {I : Nat → Int32} {J : Nat → Int64} {ri : Nat → Nat → Int32} {rj : Nat → Nat → Int64} {rq : Nat → Nat → Option Nat} : g_X11_beds a0 a1 I J ri rj rq = (bnI (g_X11_isCell a0 I J ri rj rq) fun (x_1 : Int32) (_ : Nat → Int32) (_ : Nat → Int64) (_ : Nat → Nat → Int32) (_ : Nat → Nat → Int64) (_ : Nat → Nat → Option Nat) => (if x_1 = (0 : Int32) then ((-1 : Int32), I, J, ri, rj, rq) else (ap1 (ri 76 (a0).toNatClampNeg) fun (x_18 : Int32) => (ap1 (x_18.toInt64) fun (x_19 : Int64) => (ap1 (a1.toInt64) fun (x_20 : Int64) => (ap1 (x_19 + x_20) fun (x_21 : Int64) => (ap1 (lg_cmp x_21 (0 : Int64)) fun (x_22 : Int32) => (if x_22 < (0 : Int32) then (g_X11_beds_K41 I J ri rj rq ) else (ap1 (lg_cmp x_21 (20 : Int64)) fun (x_39 : Int32) => (if x_39 ≤ (0 : Int32) then (ap1 (x_21.toInt32) fun (x_44 : Int32) => (ap1 (va_up ri 76 (upd (ri 76) (a0).toNatClampNeg x_44)) fun (r_45 : Nat → Nat → Int32) => (ap1 (r_45 76 (a0).toNatClampNeg) fun (x_46 : Int32) => (x_46, I, J, r_45, rj, rq)))) else (g_X11_beds_K41 I J ri rj rq ))))))))))) := rfl
set_option maxHeartbeats 4000000 in
set_option maxRecDepth 100000 in
theorem s_X11_beds (l : Launch) (D : va_G) (t : pq_T) (σ : pq_S) (I : Nat → Nat → Int32) (J : Nat → Nat → Int64) (ri : Nat → Nat → Int32) (rj : Nat → Nat → Int64) (rq : Nat → Nat → Option Nat) (sz : Nat) (tg : Nat → Nat) (hSH : SH σ tg) (hG0 : GS tg σ I ri rq) (this : Nat) (a0 : Int32) (a1 : Int32) (hL_this : this ∈ σ.1) (hK_this : σ.2.1 this = 11) (this_now : Nat) (hR_this_now : σ.2.2.1 352 this = some this_now) (hL_this_now : this_now ∈ σ.1) (hK_this_now : σ.2.1 this_now = 10) : MetI l yX11_beds (wa yX11_beds cX11_beds 5 (some .int)) ({ frames := 2, cells := 0, slots := 0, locals := 43 }) [.ref this, .int a0, .int a1] D t σ (I, J, ri, rj, rq) sz 0 0 (fun (r : Int32) (u : pq_S × pq_M) => ∃ ri' : Nat → Nat → Int32, u = (σ, I, J, ri', rj, rq) ∧ GX [] tg σ I ri rj I ri' rj rq ∧ g_X11_beds a0 a1 (vI 10 σ this_now I) (vJ 10 σ this_now J) (vR 10 σ this_now ri) (vL 10 σ this_now rj) (vQ 10 σ this_now rq) = (r, (vI 10 σ this_now I), (vJ 10 σ this_now J), (vR 10 σ this_now ri'), (vL 10 σ this_now rj), (vQ 10 σ this_now rq)) ∧ FR 10 tg σ this_now (I, J, ri, rj, rq) (I, J, ri', rj, rq)) := by
  refine Met.ofW (cc := cX11_beds) (maxL := 5) (ret := (some .int)) (by decide +kernel) rfl ?_
  intro p e s m args below meth c s₁ B hml hv
  obtain ⟨rfl, hsz, hP, hK, hD0, hN⟩ := hv
  have hx := B.exec
  have hb := B.bytes
  have hr := B.returns
  have hts := atoms_spec (ws := (wa yX11_beds cX11_beds 5 (some .int))) B.pre
  have hown : s.vm.findClass RX11 = some m.cls := findClass_of_methodNamed B.named
  have hlocks := B.notSynchronized
  subst hsz
  have hD : va_D (pq_B t σ (I, J, ri, rj, rq) s.heap.size) (pq_P t σ (I, J, ri, rj, rq)) := hD0.self
  generalize hAe : pq_B t σ (I, J, ri, rj, rq) s.heap.size = A at hD ⊢
  have hA : ∀ q : Nat, s.heap.size ≤ q → A q := fun q h => by rw [← hAe]; exact Or.inr h
  have hS : va_S A s.heap s.heap [] := va_S.rf
  have hG : GX [] tg σ I ri rj I ri rj rq := ⟨hG0, fun _ _ _ => rfl, fun _ _ _ _ _ => rfl, fun _ _ _ _ _ => rfl⟩
  have hl := lv_entry ([.ref this, .int a0, .int a1]) (n := 5) (Nat.le_of_ble_eq_true rfl)
  rw [lg_entry_eq]
  generalize (lg_sl ([.ref this, .int a0, .int a1]) ++ List.replicate (5 - (lg_sl ([.ref this, .int a0, .int a1])).length) Slot.unset).toArray = ls at hl ⊢
  have hl : lv_has ls 5 [(0, .ref this), (1, .int a0), (2, .int a1)] := hl
  refine q_gen (fun Q hQ => ?_)
  have go : ∀ (H : Heap) (locs : List Loc) (ls : Array Slot), va_P D vwCl (pq_P t σ (I, J, ri, rj, rq)) H → va_D A (pq_P t σ (I, J, ri, rj, rq)) → va_S A s.heap H locs → lv_has ls 5 [(0, .ref this), (1, .int a0), (2, .int a1)] → W p l e ({ frames := 2, cells := 0, slots := 0, locals := 43 } : Room) s m (List.toArray ([.ref this, .int a0, .int a1] : List Value)) below meth c H locs 0 0 Q (F0 m 0 ls []) := by
    intro H locs ls hP hD hS hl
    have hVT : VT 10 σ tg this_now := vt_10 hSH hL_this_now hK_this_now
    have hFr : FR 10 tg σ this_now (I, J, ri, rj, rq) (I, J, ri, rj, rq) := fr_rf
    have hO_this_now : this_now = vo σ 10 this_now := rfl
    obtain ⟨F, hF0⟩ : ∃ F, F = g_X11_beds a0 a1 (vI 10 σ this_now I) (vJ 10 σ this_now J) (vR 10 σ this_now ri) (vL 10 σ this_now rj) (vQ 10 σ this_now rq) := ⟨_, rfl⟩
    have hF := hF0.trans g_X11_beds_e
    refine lv_aload_n hx hb dX11_beds_0 rfl (lv_at hl 0 rfl) ?_
    refine lv_iload_n hx hb dX11_beds_1 rfl (lv_at hl 1 rfl) ?_
    refine pk_i (va_runV (As := [.int a0]) (rest := []) ⟨hx, hb, hml, hown, hts⟩ (s_X11_isCell l D t σ I J ri rj rq H.size tg hSH hG.1 this a0 hL_this hK_this this_now hR_this_now hL_this_now hK_this_now) (cwV 1 hts (tw_V tw_332 tw_333 tw_334 tw_2 tw_335) rfl rfl rfl cv_yX11_isCell_1 ⟨Nat.le_of_ble_eq_true rfl, Nat.le_of_ble_eq_true rfl⟩) ⟨pq_blind, pq_recv hK hP hL_this hK_this (by decide +kernel) rfl, pq_pre hK hN hP hD⟩ rfl rfl hl.1 rfl (lv_room (Nat.le_of_ble_eq_true rfl)) dX11_beds_2 ⟨Nat.le_of_ble_eq_true rfl, Nat.le_of_ble_eq_true rfl⟩) hD hS hA (fun x_1 σ1 μ1 H locs hw_2 hP hD hS => ?_)
    obtain ⟨hu_3, hfn_6, hr_5⟩ := hw_2
    obtain ⟨hu_3a, hu_3b⟩ := Prod.mk.inj hu_3
    rw [hu_3a, hu_3b] at hP hD
    replace hF := hF.trans (bn_n hfn_6)
    have h_8 : rg x_1 0 1 := by rcases hr_5 with ⟨q, -⟩ | ⟨q, -⟩ <;> rw [q] <;> exact ⟨by decide +kernel, by decide +kernel⟩
    refine lv_if_ne (tgt := 10) hx hb dX11_beds_5 (by decide +kernel) (fun c_9 => ?_) (fun c_9 => ?_)
    · replace hF := hF.trans (if_neg c_9)
      have f_14 := (hr_5.resolve_right (fun q => c_9 q.1)).2
      have h_15 : rg x_1 1 1 := rg_ne c_9 h_8 0 rfl (by decide +kernel)
      refine lv_aload_n hx hb dX11_beds_10 rfl (lv_at hl 0 rfl) ?_
      refine pg_f (v := .ref this_now) (C := RX11) (T := TX11) (N := 5) hx hb hts (tw_i inlX11) hown hK hP hL_this hK_this (by decide +kernel) rfl 0 (by decide +kernel) (hts _ (tw_c tw_16)) (pq_hv rfl hR_this_now) dX11_beds_11 ?_
      obtain ⟨w_16, hR_w_16, hL_w_16, hK_w_16⟩ := sh_o hSH 327 (ci := 10) (kd := 2) rfl hL_this_now hK_this_now
      have hO_w_16 : w_16 = vo σ 2 this_now := vo_k (c := 10) hO_this_now hR_w_16
      refine pg_f (v := .ref w_16) (C := RX10) (T := TX10) (N := 13) hx hb hts (tw_i inlX10) hown hK hP hL_this_now hK_this_now (by decide +kernel) rfl 7 (by decide +kernel) (hts _ (tw_c tw_199)) (pq_hv rfl hR_w_16) dX11_beds_14 ?_
      obtain ⟨w_17, hR_w_17, hL_w_17, hK_w_17, hN_w_17, hT_w_17⟩ := sh_a hSH 76 (ci := 2) (kd := 13) (len := 40) rfl (by decide +kernel) hL_w_16 hK_w_16
      have hO_w_17 : w_17 = vrow σ 76 this_now := vo_k (c := 2) hO_w_16 hR_w_17
      refine pg_f (v := .ref w_17) (C := RX2) (T := TX2) (N := 20) hx hb hts (tw_i inlX2) hown hK hP hL_w_16 hK_w_16 (by decide +kernel) rfl 12 (by decide +kernel) (hts _ (tw_c tw_369)) (pq_hv rfl hR_w_17) dX11_beds_17 ?_
      refine lv_iload_n hx hb dX11_beds_20 rfl (lv_at hl 1 rfl) ?_
      refine pl_i hx hb hK hP hL_w_17 hK_w_17 hN_w_17 (rg_in f_14 (by decide +kernel)) dX11_beds_21 ?_
      refine lv_topi (fun x_18 ex_18 => ?_)
      replace hF := hF.trans (ap_n (vR_r hO_w_17 (by decide +kernel) ex_18))
      refine lv_i2l hx hb dX11_beds_22 rfl ?_
      refine lv_topl (fun x_19 ex_19 => ?_)
      replace hF := hF.trans (ap_n ex_19)
      refine lv_iload_n hx hb dX11_beds_23 rfl (lv_at hl 2 rfl) ?_
      refine lv_i2l hx hb dX11_beds_24 rfl ?_
      refine lv_topl (fun x_20 ex_20 => ?_)
      replace hF := hF.trans (ap_n ex_20)
      refine lv_ladd hx hb dX11_beds_25 ?_
      refine lv_topl (fun x_21 ex_21 => ?_)
      replace hF := hF.trans (ap_n ex_21)
      refine lv_lstore_n (lv' := [(3, .long x_21), (0, .ref this), (1, .int a0), (2, .int a1)]) hx hb dX11_beds_26 rfl hl (by decide +kernel) rfl (fun ls hl => ?_)
      refine lv_lload_n hx hb dX11_beds_27 rfl (lv_at hl 0 rfl) ?_
      refine lv_lconst (v := 0) hx hb dX11_beds_28 (by decide +kernel) ?_
      refine W.lcmp hx hb dX11_beds_29 ?_
      refine lv_topi (fun x_22 ex_22 => ?_)
      replace hF := hF.trans (ap_n ex_22)
      have K_33 : ∀  (H : Heap) (locs : List Loc) (ls : Array Slot), F = g_X11_beds_K41 (vI 10 σ this_now I) (vJ 10 σ this_now J) (vR 10 σ this_now ri) (vL 10 σ this_now rj) (vQ 10 σ this_now rq)  → FR 10 tg σ this_now (I, J, ri, rj, rq) (I, J, ri, rj, rq) → GX [] tg σ I ri rj I ri rj rq → va_P D vwCl (pq_P t σ (I, J, ri, rj, rq)) H → va_D A (pq_P t σ (I, J, ri, rj, rq)) → va_S A s.heap H locs → lv_has ls 5 [] → W p l e ({ frames := 2, cells := 0, slots := 0, locals := 43 } : Room) s m (List.toArray ([.ref this, .int a0, .int a1] : List Value)) below meth c H locs 0 0 Q (F0 m 41 ls []) := by
        intro H locs ls hF hFr hG hP hD hS hl
        replace hF := hF.trans g_X11_beds_K41_e
        refine lv_iconst (v := (-1)) hx hb dX11_beds_41 (by decide +kernel) ?_
        subst hQ
        exact W.iret (v := (-1)) hx hb hr (fun t1 ht hW => ⟨⟨(-1), (σ, I, J, ri, rj, rq), rfl, ⟨ri, rfl, hG, (hF0.symm.trans hF), hFr⟩, by rw [ht]; exact hP, va_K.moved hW.alike hK, hD⟩, hS.F ht⟩) hS.2.2 dX11_beds_42
      refine lv_if_lt (tgt := 41) hx hb dX11_beds_30 (by decide +kernel) (fun c_34 => ?_) (fun c_34 => ?_)
      · replace hF := hF.trans (if_pos c_34)
        have h_37 : rg x_22 (-2147483648) (-1) := rg_lt1 c_34 (rg_full _) (rg_k (0 : Int32) 0 rfl) (by decide +kernel)
        exact K_33 _ _ _ hF hFr hG hP hD hS (lv_sub hl [] rfl)
      · replace hF := hF.trans (if_neg c_34)
        have h_38 : rg x_22 0 2147483647 := rg_le2 (nlt c_34) (rg_k (0 : Int32) 0 rfl) (rg_full _) (by decide +kernel)
        refine lv_lload_n hx hb dX11_beds_33 rfl (lv_at hl 0 rfl) ?_
        refine lv_ldc2 hx hb hown (hts _ (tw_c tw_370)) dX11_beds_34 ?_
        refine W.lcmp hx hb dX11_beds_37 ?_
        refine lv_topi (fun x_39 ex_39 => ?_)
        replace hF := hF.trans (ap_n ex_39)
        refine lv_if_le (tgt := 43) hx hb dX11_beds_38 (by decide +kernel) (fun c_40 => ?_) (fun c_40 => ?_)
        · replace hF := hF.trans (if_pos c_40)
          have h_43 : rg x_39 (-2147483648) 0 := rg_le1 c_40 (rg_full _) (rg_k (0 : Int32) 0 rfl) (by decide +kernel)
          refine lv_aload_n hx hb dX11_beds_43 rfl (lv_at hl 1 rfl) ?_
          refine pg_f (v := .ref this_now) (C := RX11) (T := TX11) (N := 5) hx hb hts (tw_i inlX11) hown hK hP hL_this hK_this (by decide +kernel) rfl 0 (by decide +kernel) (hts _ (tw_c tw_16)) (pq_hv rfl hR_this_now) dX11_beds_44 ?_
          refine pg_f (v := .ref w_16) (C := RX10) (T := TX10) (N := 13) hx hb hts (tw_i inlX10) hown hK hP hL_this_now hK_this_now (by decide +kernel) rfl 7 (by decide +kernel) (hts _ (tw_c tw_199)) (pq_hv rfl hR_w_16) dX11_beds_47 ?_
          refine pg_f (v := .ref w_17) (C := RX2) (T := TX2) (N := 20) hx hb hts (tw_i inlX2) hown hK hP hL_w_16 hK_w_16 (by decide +kernel) rfl 12 (by decide +kernel) (hts _ (tw_c tw_369)) (pq_hv rfl hR_w_17) dX11_beds_50 ?_
          refine lv_iload_n hx hb dX11_beds_53 rfl (lv_at hl 2 rfl) ?_
          refine lv_lload_n hx hb dX11_beds_54 rfl (lv_at hl 0 rfl) ?_
          refine lv_l2i hx hb dX11_beds_55 rfl ?_
          refine lv_topi (fun x_44 ex_44 => ?_)
          replace hF := hF.trans (ap_n ex_44)
          refine pt_i hx hb hK hP hD hS hL_w_17 hK_w_17 hN_w_17 (rg_in f_14 (by decide +kernel)) dX11_beds_56 (fun r_45 H locs er_45 hP hD hS => ?_)
          replace hFr := fr_R hFr hO_w_17 (by decide +kernel) er_45
          replace hF := hF.trans (ap_n (vR_st hVT hO_w_17 (by decide +kernel) er_45))
          have hG := GX.wR hG hSH hT_w_17 rfl er_45 (rg_w (rg_full _) (by decide +kernel)) (by decide +kernel)
          refine lv_aload_n hx hb dX11_beds_57 rfl (lv_at hl 1 rfl) ?_
          refine pg_f (v := .ref this_now) (C := RX11) (T := TX11) (N := 5) hx hb hts (tw_i inlX11) hown hK hP hL_this hK_this (by decide +kernel) rfl 0 (by decide +kernel) (hts _ (tw_c tw_16)) (pq_hv rfl hR_this_now) dX11_beds_58 ?_
          refine pg_f (v := .ref w_16) (C := RX10) (T := TX10) (N := 13) hx hb hts (tw_i inlX10) hown hK hP hL_this_now hK_this_now (by decide +kernel) rfl 7 (by decide +kernel) (hts _ (tw_c tw_199)) (pq_hv rfl hR_w_16) dX11_beds_61 ?_
          refine pg_f (v := .ref w_17) (C := RX2) (T := TX2) (N := 20) hx hb hts (tw_i inlX2) hown hK hP hL_w_16 hK_w_16 (by decide +kernel) rfl 12 (by decide +kernel) (hts _ (tw_c tw_369)) (pq_hv rfl hR_w_17) dX11_beds_64 ?_
          refine lv_iload_n hx hb dX11_beds_67 rfl (lv_at hl 2 rfl) ?_
          refine pl_i hx hb hK hP hL_w_17 hK_w_17 hN_w_17 (rg_in f_14 (by decide +kernel)) dX11_beds_68 ?_
          refine lv_topi (fun x_46 ex_46 => ?_)
          replace hF := hF.trans (ap_n (vR_r hO_w_17 (by decide +kernel) ex_46))
          subst hQ
          exact W.iret (v := x_46) hx hb hr (fun t1 ht hW => ⟨⟨x_46, (σ, I, J, r_45, rj, rq), rfl, ⟨r_45, rfl, hG, (hF0.symm.trans hF), hFr⟩, by rw [ht]; exact hP, va_K.moved hW.alike hK, hD⟩, hS.F ht⟩) hS.2.2 dX11_beds_69
        · replace hF := hF.trans (if_neg c_40)
          have h_47 : rg x_39 1 2147483647 := rg_lt2 (nle c_40) (rg_k (0 : Int32) 0 rfl) (rg_full _) (by decide +kernel)
          exact K_33 _ _ _ hF hFr hG hP hD hS (lv_sub hl [] rfl)
    · replace hF := hF.trans (if_pos c_9)
      have f_48 := (hr_5.resolve_left (fun q => absurd (q.1.symm.trans c_9) (by decide +kernel))).2
      have h_49 : rg x_1 0 0 := rg_and h_8 (rg_of_eq c_9 (rg_k (0 : Int32) 0 rfl)) (by decide +kernel)
      refine lv_iconst (v := (-1)) hx hb dX11_beds_8 (by decide +kernel) ?_
      subst hQ
      exact W.iret (v := (-1)) hx hb hr (fun t1 ht hW => ⟨⟨(-1), (σ, I, J, ri, rj, rq), rfl, ⟨ri, rfl, hG, (hF0.symm.trans hF), hFr⟩, by rw [ht]; exact hP, va_K.moved hW.alike hK, hD⟩, hS.F ht⟩) hS.2.2 dX11_beds_9
  exact go _ _ _ hP hD hS hl

set_option maxRecDepth 100000 in
def g_X11_lot_K26 (I : Nat → Int32) (J : Nat → Int64) (ri : Nat → Nat → Int32) (rj : Nat → Nat → Int64) (rq : Nat → Nat → Option Nat) : Int32 × vM := ((-1 : Int32), I, J, ri, rj, rq)
set_option maxRecDepth 100000 in
theorem g_X11_lot_K26_e {I : Nat → Int32} {J : Nat → Int64} {ri : Nat → Nat → Int32} {rj : Nat → Nat → Int64} {rq : Nat → Nat → Option Nat} : g_X11_lot_K26 I J ri rj rq  = ((-1 : Int32), I, J, ri, rj, rq) := rfl
set_option maxRecDepth 100000 in
def g_X11_lot (a0 : Int32) (I : Nat → Int32) (J : Nat → Int64) (ri : Nat → Nat → Int32) (rj : Nat → Nat → Int64) (rq : Nat → Nat → Option Nat) : Int32 × vM := (ap1 (g_X11_between a0 (0 : Int32) (60 : Int32)) fun (x_2 : Int32) => (if x_2 = (0 : Int32) then (g_X11_lot_K26 I J ri rj rq ) else (ap1 (I 10) fun (y_49 : Int32) => (if (y_49) < (5 : Int32) then (ap1 (va_up ri 11 (upd (ri 11) ((y_49)).toNatClampNeg a0)) fun (r_55 : Nat → Nat → Int32) => (ap1 ((y_49) + (1 : Int32)) fun (x_56 : Int32) => (ap1 (va_up I 10 x_56) fun (I_58 : Nat → Int32) => (ap1 (I_58 10) fun (y_60 : Int32) => (ap1 ((y_60) - (1 : Int32)) fun (x_61 : Int32) => (x_61, I_58, J, r_55, rj, rq)))))) else (g_X11_lot_K26 I J ri rj rq )))))
set_option maxRecDepth 100000 in
theorem g_X11_lot_e {a0 : Int32} {I : Nat → Int32} {J : Nat → Int64} {ri : Nat → Nat → Int32} {rj : Nat → Nat → Int64} {rq : Nat → Nat → Option Nat} : g_X11_lot a0 I J ri rj rq = (ap1 (g_X11_between a0 (0 : Int32) (60 : Int32)) fun (x_2 : Int32) => (if x_2 = (0 : Int32) then (g_X11_lot_K26 I J ri rj rq ) else (ap1 (I 10) fun (y_49 : Int32) => (if (y_49) < (5 : Int32) then (ap1 (va_up ri 11 (upd (ri 11) ((y_49)).toNatClampNeg a0)) fun (r_55 : Nat → Nat → Int32) => (ap1 ((y_49) + (1 : Int32)) fun (x_56 : Int32) => (ap1 (va_up I 10 x_56) fun (I_58 : Nat → Int32) => (ap1 (I_58 10) fun (y_60 : Int32) => (ap1 ((y_60) - (1 : Int32)) fun (x_61 : Int32) => (x_61, I_58, J, r_55, rj, rq)))))) else (g_X11_lot_K26 I J ri rj rq ))))) := rfl
set_option maxHeartbeats 4000000 in
set_option maxRecDepth 100000 in
theorem s_X11_lot (l : Launch) (D : va_G) (t : pq_T) (σ : pq_S) (I : Nat → Nat → Int32) (J : Nat → Nat → Int64) (ri : Nat → Nat → Int32) (rj : Nat → Nat → Int64) (rq : Nat → Nat → Option Nat) (sz : Nat) (tg : Nat → Nat) (hSH : SH σ tg) (hG0 : GS tg σ I ri rq) (this : Nat) (a0 : Int32) (hL_this : this ∈ σ.1) (hK_this : σ.2.1 this = 11) (this_now : Nat) (hR_this_now : σ.2.2.1 352 this = some this_now) (hL_this_now : this_now ∈ σ.1) (hK_this_now : σ.2.1 this_now = 10) : MetI l yX11_lot (wa yX11_lot cX11_lot 3 (some .int)) ({ frames := 1, cells := 0, slots := 0, locals := 22 }) [.ref this, .int a0] D t σ (I, J, ri, rj, rq) sz 0 0 (fun (r : Int32) (u : pq_S × pq_M) => ∃ I' : Nat → Nat → Int32, ∃ ri' : Nat → Nat → Int32, u = (σ, I', J, ri', rj, rq) ∧ GX [10] tg σ I ri rj I' ri' rj rq ∧ g_X11_lot a0 (vI 10 σ this_now I) (vJ 10 σ this_now J) (vR 10 σ this_now ri) (vL 10 σ this_now rj) (vQ 10 σ this_now rq) = (r, (vI 10 σ this_now I'), (vJ 10 σ this_now J), (vR 10 σ this_now ri'), (vL 10 σ this_now rj), (vQ 10 σ this_now rq)) ∧ FR 10 tg σ this_now (I, J, ri, rj, rq) (I', J, ri', rj, rq) ∧ rg r (-1) 4) := by
  refine Met.ofW (cc := cX11_lot) (maxL := 3) (ret := (some .int)) (by decide +kernel) rfl ?_
  intro p e s m args below meth c s₁ B hml hv
  obtain ⟨rfl, hsz, hP, hK, hD0, hN⟩ := hv
  have hx := B.exec
  have hb := B.bytes
  have hr := B.returns
  have hts := atoms_spec (ws := (wa yX11_lot cX11_lot 3 (some .int))) B.pre
  have hown : s.vm.findClass RX11 = some m.cls := findClass_of_methodNamed B.named
  have hlocks := B.notSynchronized
  subst hsz
  have hD : va_D (pq_B t σ (I, J, ri, rj, rq) s.heap.size) (pq_P t σ (I, J, ri, rj, rq)) := hD0.self
  generalize hAe : pq_B t σ (I, J, ri, rj, rq) s.heap.size = A at hD ⊢
  have hA : ∀ q : Nat, s.heap.size ≤ q → A q := fun q h => by rw [← hAe]; exact Or.inr h
  have hS : va_S A s.heap s.heap [] := va_S.rf
  have hG : GX [10] tg σ I ri rj I ri rj rq := ⟨hG0, fun _ _ _ => rfl, fun _ _ _ _ _ => rfl, fun _ _ _ _ _ => rfl⟩
  have hl := lv_entry ([.ref this, .int a0]) (n := 3) (Nat.le_of_ble_eq_true rfl)
  rw [lg_entry_eq]
  generalize (lg_sl ([.ref this, .int a0]) ++ List.replicate (3 - (lg_sl ([.ref this, .int a0])).length) Slot.unset).toArray = ls at hl ⊢
  have hl : lv_has ls 3 [(0, .ref this), (1, .int a0)] := hl
  refine q_gen (fun Q hQ => ?_)
  have go : ∀ (H : Heap) (locs : List Loc) (ls : Array Slot), va_P D vwCl (pq_P t σ (I, J, ri, rj, rq)) H → va_D A (pq_P t σ (I, J, ri, rj, rq)) → va_S A s.heap H locs → lv_has ls 3 [(0, .ref this), (1, .int a0)] → W p l e ({ frames := 1, cells := 0, slots := 0, locals := 22 } : Room) s m (List.toArray ([.ref this, .int a0] : List Value)) below meth c H locs 0 0 Q (F0 m 0 ls []) := by
    intro H locs ls hP hD hS hl
    have hVT : VT 10 σ tg this_now := vt_10 hSH hL_this_now hK_this_now
    have hFr : FR 10 tg σ this_now (I, J, ri, rj, rq) (I, J, ri, rj, rq) := fr_rf
    have hO_this_now : this_now = vo σ 10 this_now := rfl
    obtain ⟨F, hF0⟩ : ∃ F, F = g_X11_lot a0 (vI 10 σ this_now I) (vJ 10 σ this_now J) (vR 10 σ this_now ri) (vL 10 σ this_now rj) (vQ 10 σ this_now rq) := ⟨_, rfl⟩
    have hF := hF0.trans g_X11_lot_e
    refine lv_aload_n hx hb dX11_lot_0 rfl (lv_at hl 0 rfl) ?_
    refine pg_f (v := .ref this_now) (C := RX11) (T := TX11) (N := 5) hx hb hts (tw_i inlX11) hown hK hP hL_this hK_this (by decide +kernel) rfl 0 (by decide +kernel) (hts _ (tw_c tw_16)) (pq_hv rfl hR_this_now) dX11_lot_1 ?_
    obtain ⟨w_1, hR_w_1, hL_w_1, hK_w_1⟩ := sh_o hSH 328 (ci := 10) (kd := 0) rfl hL_this_now hK_this_now
    have hO_w_1 : w_1 = vo σ 0 this_now := vo_k (c := 10) hO_this_now hR_w_1
    refine pg_f (v := .ref w_1) (C := RX10) (T := TX10) (N := 13) hx hb hts (tw_i inlX10) hown hK hP hL_this_now hK_this_now (by decide +kernel) rfl 8 (by decide +kernel) (hts _ (tw_c tw_379)) (pq_hv rfl hR_w_1) dX11_lot_4 ?_
    refine lv_astore_n (lv' := [(2, .ref w_1), (0, .ref this), (1, .int a0)]) hx hb dX11_lot_7 rfl hl (by decide +kernel) rfl (fun ls hl => ?_)
    refine lv_iload_n hx hb dX11_lot_8 rfl (lv_at hl 2 rfl) ?_
    refine lv_iconst (v := 0) hx hb dX11_lot_9 (by decide +kernel) ?_
    refine lv_bipush (v := 60) hx hb dX11_lot_10 (by decide +kernel) ?_
    refine pk_i (va_runS (As := [.int a0, .int 0, .int 60]) (rest := []) ⟨hx, hb, hml, hown, hts⟩ (s_X11_between l D t σ I J ri rj rq H.size tg hSH hG.1 a0 (0 : Int32) (60 : Int32)) (va_cwS 3 hts (tw_S tw_215 tw_216 tw_2 tw_217) rfl rfl rfl cd_yX11_between_3 ⟨Nat.le_of_ble_eq_true rfl, Nat.le_of_ble_eq_true rfl⟩) ⟨pq_blind, pq_pre hK hN hP hD⟩ rfl rfl hl.1 rfl (lv_room (Nat.le_of_ble_eq_true rfl)) dX11_lot_12 ⟨Nat.le_of_ble_eq_true rfl, Nat.le_of_ble_eq_true rfl⟩) hD hS hA (fun x_2 σ1 μ1 H locs hw_3 hP hD hS => ?_)
    obtain ⟨hu_4, hfn_7, hr_6⟩ := hw_3
    obtain ⟨hu_4a, hu_4b⟩ := Prod.mk.inj hu_4
    rw [hu_4a, hu_4b] at hP hD
    replace hF := hF.trans (ap_n hfn_7.symm)
    have h_9 : rg x_2 0 1 := by rcases hr_6 with ⟨q, -⟩ | ⟨q, -⟩ <;> rw [q] <;> exact ⟨by decide +kernel, by decide +kernel⟩
    have K_32 : ∀  (H : Heap) (locs : List Loc) (ls : Array Slot), F = g_X11_lot_K26 (vI 10 σ this_now I) (vJ 10 σ this_now J) (vR 10 σ this_now ri) (vL 10 σ this_now rj) (vQ 10 σ this_now rq)  → FR 10 tg σ this_now (I, J, ri, rj, rq) (I, J, ri, rj, rq) → GX [10] tg σ I ri rj I ri rj rq → va_P D vwCl (pq_P t σ (I, J, ri, rj, rq)) H → va_D A (pq_P t σ (I, J, ri, rj, rq)) → va_S A s.heap H locs → lv_has ls 3 [] → W p l e ({ frames := 1, cells := 0, slots := 0, locals := 22 } : Room) s m (List.toArray ([.ref this, .int a0] : List Value)) below meth c H locs 0 0 Q (F0 m 26 ls []) := by
      intro H locs ls hF hFr hG hP hD hS hl
      replace hF := hF.trans g_X11_lot_K26_e
      refine lv_iconst (v := (-1)) hx hb dX11_lot_26 (by decide +kernel) ?_
      subst hQ
      exact W.iret (v := (-1)) hx hb hr (fun t1 ht hW => ⟨⟨(-1), (σ, I, J, ri, rj, rq), rfl, ⟨I, ri, rfl, hG, (hF0.symm.trans hF), hFr, (rg_w (rg_k (-1 : Int32) (-1) rfl) (by decide +kernel))⟩, by rw [ht]; exact hP, va_K.moved hW.alike hK, hD⟩, hS.F ht⟩) hS.2.2 dX11_lot_27
    refine lv_if_eq (tgt := 26) hx hb dX11_lot_15 (by decide +kernel) (fun c_33 => ?_) (fun c_33 => ?_)
    · replace hF := hF.trans (if_pos c_33)
      have f_41 := (hr_6.resolve_left (fun q => absurd (q.1.symm.trans c_33) (by decide +kernel))).2
      have h_42 : rg x_2 0 0 := rg_and h_9 (rg_of_eq c_33 (rg_k (0 : Int32) 0 rfl)) (by decide +kernel)
      exact K_32 _ _ _ hF hFr hG hP hD hS (lv_sub hl [] rfl)
    · replace hF := hF.trans (if_neg c_33)
      obtain ⟨f_43, f_44⟩ := (hr_6.resolve_right (fun q => c_33 q.1)).2
      have h_45 : rg a0 0 2147483647 := rg_le2 f_43 (rg_k (0 : Int32) 0 rfl) (rg_full _) (by decide +kernel)
      have h_46 : rg a0 0 60 := rg_le1 f_44 h_45 (rg_k (60 : Int32) 60 rfl) (by decide +kernel)
      have h_47 : rg x_2 1 1 := rg_ne c_33 h_9 0 rfl (by decide +kernel)
      refine lv_aload_n hx hb dX11_lot_18 rfl (lv_at hl 0 rfl) ?_
      refine pg_f (v := .int (I 10 w_1)) (C := RX0) (T := TX0) (N := 16) hx hb hts (tw_i inlX0) hown hK hP hL_w_1 hK_w_1 (by decide +kernel) rfl 10 (by decide +kernel) (hts _ (tw_c tw_380)) rfl dX11_lot_19 ?_
      have h_48 : rg (I 10 w_1) 0 5 := GX.rI hG 10 rfl
      replace hF := hF.trans (ap_n (vI_e (f := 10) hO_w_1 (by decide +kernel)))
      refine lv_iconst (v := 5) hx hb dX11_lot_22 (by decide +kernel) ?_
      refine lv_icmp_lt (tgt := 28) hx hb dX11_lot_23 (by decide +kernel) (fun c_50 => ?_) (fun c_50 => ?_)
      · replace hF := hF.trans (if_pos c_50)
        have h_53 : rg (I 10 w_1) 0 4 := rg_lt1 c_50 h_48 (rg_k (5 : Int32) 5 rfl) (by decide +kernel)
        refine lv_aload_n hx hb dX11_lot_28 rfl (lv_at hl 0 rfl) ?_
        obtain ⟨w_54, hR_w_54, hL_w_54, hK_w_54, hN_w_54, hT_w_54⟩ := sh_a hSH 11 (ci := 0) (kd := 13) (len := 5) rfl (by decide +kernel) hL_w_1 hK_w_1
        have hO_w_54 : w_54 = vrow σ 11 this_now := vo_k (c := 0) hO_w_1 hR_w_54
        refine pg_f (v := .ref w_54) (C := RX0) (T := TX0) (N := 16) hx hb hts (tw_i inlX0) hown hK hP hL_w_1 hK_w_1 (by decide +kernel) rfl 11 (by decide +kernel) (hts _ (tw_c tw_381)) (pq_hv rfl hR_w_54) dX11_lot_29 ?_
        refine lv_aload_n hx hb dX11_lot_32 rfl (lv_at hl 0 rfl) ?_
        refine pg_f (v := .int (I 10 w_1)) (C := RX0) (T := TX0) (N := 16) hx hb hts (tw_i inlX0) hown hK hP hL_w_1 hK_w_1 (by decide +kernel) rfl 10 (by decide +kernel) (hts _ (tw_c tw_380)) rfl dX11_lot_33 ?_
        refine lv_iload_n hx hb dX11_lot_36 rfl (lv_at hl 2 rfl) ?_
        refine pt_i hx hb hK hP hD hS hL_w_54 hK_w_54 hN_w_54 (rg_in h_53 (by decide +kernel)) dX11_lot_37 (fun r_55 H locs er_55 hP hD hS => ?_)
        replace hFr := fr_R hFr hO_w_54 (by decide +kernel) er_55
        replace hF := hF.trans (ap_n (vR_st hVT hO_w_54 (by decide +kernel) er_55))
        have hG := GX.wR hG hSH hT_w_54 rfl er_55 (rg_w h_46 (by decide +kernel)) (by decide +kernel)
        refine lv_aload_n hx hb dX11_lot_38 rfl (lv_at hl 0 rfl) ?_
        refine lv_dup hx hb dX11_lot_39 rfl ?_
        refine pg_f (v := .int (I 10 w_1)) (C := RX0) (T := TX0) (N := 16) hx hb hts (tw_i inlX0) hown hK hP hL_w_1 hK_w_1 (by decide +kernel) rfl 10 (by decide +kernel) (hts _ (tw_c tw_380)) rfl dX11_lot_40 ?_
        refine lv_iconst (v := 1) hx hb dX11_lot_43 (by decide +kernel) ?_
        refine lv_iadd hx hb dX11_lot_44 ?_
        refine lv_topi (fun x_56 ex_56 => ?_)
        replace hF := hF.trans (ap_n ex_56)
        have h_57 : rg x_56 1 5 := rg_of_eq ex_56 (rg_add h_53 (rg_k (1 : Int32) 1 rfl) (by decide +kernel))
        refine pp_i (v := x_56) (ty := .int) (C := RX0) (T := TX0) (N := 16) hx hb hts (tw_i inlX0) tyX0 tyX0_ok nmX0 hown hK hP hD hS hL_w_1 hK_w_1 (by decide +kernel) rfl 10 10 (by decide +kernel) (hts _ (tw_c tw_380)) rfl (tyX0_ok 10 (by decide +kernel)) rfl rfl (Nat.le_of_ble_eq_true rfl) (ps_10 _ _ _ _ _) dX11_lot_45 (fun I_58 H locs eI_58 hP hD hS => ?_)
        replace hFr := fr_I (f := 10) hFr hO_w_1 (by decide +kernel) eI_58
        replace hF := hF.trans (ap_n (vI_st (f := 10) hO_w_1 (by decide +kernel) eI_58))
        have hG := GX.wI hG 10 rfl eI_58 (rg_w h_57 (by decide +kernel)) (by decide +kernel)
        refine lv_aload_n hx hb dX11_lot_48 rfl (lv_at hl 0 rfl) ?_
        refine pg_f (v := .int (I_58 10 w_1)) (C := RX0) (T := TX0) (N := 16) hx hb hts (tw_i inlX0) hown hK hP hL_w_1 hK_w_1 (by decide +kernel) rfl 10 (by decide +kernel) (hts _ (tw_c tw_380)) rfl dX11_lot_49 ?_
        have h_59 : rg (I_58 10 w_1) 1 5 := (by rw [eI_58, pq_us]; exact h_57)
        replace hF := hF.trans (ap_n (vI_e (f := 10) hO_w_1 (by decide +kernel)))
        refine lv_iconst (v := 1) hx hb dX11_lot_52 (by decide +kernel) ?_
        refine lv_isub hx hb dX11_lot_53 ?_
        refine lv_topi (fun x_61 ex_61 => ?_)
        replace hF := hF.trans (ap_n ex_61)
        have h_62 : rg x_61 0 4 := rg_of_eq ex_61 (rg_sub h_59 (rg_k (1 : Int32) 1 rfl) (by decide +kernel))
        subst hQ
        exact W.iret (v := x_61) hx hb hr (fun t1 ht hW => ⟨⟨x_61, (σ, I_58, J, r_55, rj, rq), rfl, ⟨I_58, r_55, rfl, hG, (hF0.symm.trans hF), hFr, (rg_w h_62 (by decide +kernel))⟩, by rw [ht]; exact hP, va_K.moved hW.alike hK, hD⟩, hS.F ht⟩) hS.2.2 dX11_lot_54
      · replace hF := hF.trans (if_neg c_50)
        have h_63 : rg (I 10 w_1) 5 5 := rg_le2 (nlt c_50) (rg_k (5 : Int32) 5 rfl) h_48 (by decide +kernel)
        exact K_32 _ _ _ hF hFr hG hP hD hS (lv_sub hl [] rfl)
  exact go _ _ _ hP hD hS hl

set_option maxRecDepth 100000 in
def g_X11_person_K77 (I : Nat → Int32) (J : Nat → Int64) (ri : Nat → Nat → Int32) (rj : Nat → Nat → Int64) (rq : Nat → Nat → Option Nat) : Int32 × vM := ((-1 : Int32), I, J, ri, rj, rq)
set_option maxRecDepth 100000 in
theorem g_X11_person_K77_e {I : Nat → Int32} {J : Nat → Int64} {ri : Nat → Nat → Int32} {rj : Nat → Nat → Int64} {rq : Nat → Nat → Option Nat} : g_X11_person_K77 I J ri rj rq  = ((-1 : Int32), I, J, ri, rj, rq) := rfl
set_option maxRecDepth 100000 in
def g_X11_person_K55 (a0 : Int32) (a1 : Int32) (a2 : Int32) (a3 : Int32) (a4 : Int32) (I : Nat → Int32) (J : Nat → Int64) (ri : Nat → Nat → Int32) (rj : Nat → Nat → Int64) (rq : Nat → Nat → Option Nat) : Int32 × vM := (ap1 (I 0) fun (y_134 : Int32) => (if (y_134) < (40 : Int32) then (bnI (g_X0_addPerson a0 a1 a2 a3 a4 I J ri rj rq) fun (x_139 : Int32) (I_141 : Nat → Int32) (_ : Nat → Int64) (ri_142 : Nat → Nat → Int32) (_ : Nat → Nat → Int64) (_ : Nat → Nat → Option Nat) => (x_139, I_141, J, ri_142, rj, rq)) else (g_X11_person_K77 I J ri rj rq )))
set_option maxRecDepth 100000 in
theorem g_X11_person_K55_e {a0 : Int32} {a1 : Int32} {a2 : Int32} {a3 : Int32} {a4 : Int32} {I : Nat → Int32} {J : Nat → Int64} {ri : Nat → Nat → Int32} {rj : Nat → Nat → Int64} {rq : Nat → Nat → Option Nat} : g_X11_person_K55 a0 a1 a2 a3 a4 I J ri rj rq  = (ap1 (I 0) fun (y_134 : Int32) => (if (y_134) < (40 : Int32) then (bnI (g_X0_addPerson a0 a1 a2 a3 a4 I J ri rj rq) fun (x_139 : Int32) (I_141 : Nat → Int32) (_ : Nat → Int64) (ri_142 : Nat → Nat → Int32) (_ : Nat → Nat → Int64) (_ : Nat → Nat → Option Nat) => (x_139, I_141, J, ri_142, rj, rq)) else (g_X11_person_K77 I J ri rj rq ))) := rfl
set_option maxRecDepth 100000 in
def g_X11_person_K77_2 (I : Nat → Int32) (J : Nat → Int64) (ri : Nat → Nat → Int32) (rj : Nat → Nat → Int64) (rq : Nat → Nat → Option Nat) : Int32 × vM := ((-1 : Int32), I, J, ri, rj, rq)
set_option maxRecDepth 100000 in
theorem g_X11_person_K77_2_e {I : Nat → Int32} {J : Nat → Int64} {ri : Nat → Nat → Int32} {rj : Nat → Nat → Int64} {rq : Nat → Nat → Option Nat} : g_X11_person_K77_2 I J ri rj rq  = ((-1 : Int32), I, J, ri, rj, rq) := rfl
set_option maxRecDepth 100000 in
def g_X11_person_K55_2 (I : Nat → Int32) (J : Nat → Int64) (ri : Nat → Nat → Int32) (rj : Nat → Nat → Int64) (rq : Nat → Nat → Option Nat) : Int32 × vM := (g_X11_person_K77_2 I J ri rj rq )
set_option maxRecDepth 100000 in
theorem g_X11_person_K55_2_e {I : Nat → Int32} {J : Nat → Int64} {ri : Nat → Nat → Int32} {rj : Nat → Nat → Int64} {rq : Nat → Nat → Option Nat} : g_X11_person_K55_2 I J ri rj rq  = (g_X11_person_K77_2 I J ri rj rq ) := rfl
set_option maxRecDepth 100000 in
def g_X11_person_K54 (I : Nat → Int32) (J : Nat → Int64) (ri : Nat → Nat → Int32) (rj : Nat → Nat → Int64) (rq : Nat → Nat → Option Nat) : Int32 × vM := (g_X11_person_K55_2 I J ri rj rq )
set_option maxRecDepth 100000 in
theorem g_X11_person_K54_e {I : Nat → Int32} {J : Nat → Int64} {ri : Nat → Nat → Int32} {rj : Nat → Nat → Int64} {rq : Nat → Nat → Option Nat} : g_X11_person_K54 I J ri rj rq  = (g_X11_person_K55_2 I J ri rj rq ) := rfl
set_option maxRecDepth 100000 in
def g_X11_person (a0 : Int32) (a1 : Int32) (a2 : Int32) (a3 : Int32) (a4 : Int32) (I : Nat → Int32) (J : Nat → Int64) (ri : Nat → Nat → Int32) (rj : Nat → Nat → Int64) (rq : Nat → Nat → Option Nat) : Int32 × vM := (ap1 (g_X11_between a0 (0 : Int32) (9 : Int32)) fun (x_1 : Int32) => (if x_1 = (0 : Int32) then (g_X11_person_K54 I J ri rj rq ) else (ap1 (g_X11_between a1 (0 : Int32) (99 : Int32)) fun (x_169 : Int32) => (if x_169 = (0 : Int32) then (g_X11_person_K54 I J ri rj rq ) else (ap1 (g_X11_between a2 (0 : Int32) (7 : Int32)) fun (x_192 : Int32) => (if x_192 = (0 : Int32) then (g_X11_person_K54 I J ri rj rq ) else (bnI (g_X11_isRing a3 I J ri rj rq) fun (x_215 : Int32) (_ : Nat → Int32) (_ : Nat → Int64) (_ : Nat → Nat → Int32) (_ : Nat → Nat → Int64) (_ : Nat → Nat → Option Nat) => (if x_215 = (0 : Int32) then (g_X11_person_K54 I J ri rj rq ) else (ap1 (g_X11_between a4 (0 : Int32) (100 : Int32)) fun (x_232 : Int32) => (if x_232 = (0 : Int32) then (g_X11_person_K54 I J ri rj rq ) else (g_X11_person_K55 a0 a1 a2 a3 a4 I J ri rj rq )))))))))))
set_option maxRecDepth 100000 in
theorem g_X11_person_e {a0 : Int32} {a1 : Int32} {a2 : Int32} {a3 : Int32} {a4 : Int32} {I : Nat → Int32} {J : Nat → Int64} {ri : Nat → Nat → Int32} {rj : Nat → Nat → Int64} {rq : Nat → Nat → Option Nat} : g_X11_person a0 a1 a2 a3 a4 I J ri rj rq = (ap1 (g_X11_between a0 (0 : Int32) (9 : Int32)) fun (x_1 : Int32) => (if x_1 = (0 : Int32) then (g_X11_person_K54 I J ri rj rq ) else (ap1 (g_X11_between a1 (0 : Int32) (99 : Int32)) fun (x_169 : Int32) => (if x_169 = (0 : Int32) then (g_X11_person_K54 I J ri rj rq ) else (ap1 (g_X11_between a2 (0 : Int32) (7 : Int32)) fun (x_192 : Int32) => (if x_192 = (0 : Int32) then (g_X11_person_K54 I J ri rj rq ) else (bnI (g_X11_isRing a3 I J ri rj rq) fun (x_215 : Int32) (_ : Nat → Int32) (_ : Nat → Int64) (_ : Nat → Nat → Int32) (_ : Nat → Nat → Int64) (_ : Nat → Nat → Option Nat) => (if x_215 = (0 : Int32) then (g_X11_person_K54 I J ri rj rq ) else (ap1 (g_X11_between a4 (0 : Int32) (100 : Int32)) fun (x_232 : Int32) => (if x_232 = (0 : Int32) then (g_X11_person_K54 I J ri rj rq ) else (g_X11_person_K55 a0 a1 a2 a3 a4 I J ri rj rq ))))))))))) := rfl
set_option maxHeartbeats 4000000 in
set_option maxRecDepth 100000 in
theorem s_X11_person (l : Launch) (D : va_G) (t : pq_T) (σ : pq_S) (I : Nat → Nat → Int32) (J : Nat → Nat → Int64) (ri : Nat → Nat → Int32) (rj : Nat → Nat → Int64) (rq : Nat → Nat → Option Nat) (sz : Nat) (tg : Nat → Nat) (hSH : SH σ tg) (hG0 : GS tg σ I ri rq) (this : Nat) (a0 : Int32) (a1 : Int32) (a2 : Int32) (a3 : Int32) (a4 : Int32) (hL_this : this ∈ σ.1) (hK_this : σ.2.1 this = 11) (this_now : Nat) (hR_this_now : σ.2.2.1 352 this = some this_now) (hL_this_now : this_now ∈ σ.1) (hK_this_now : σ.2.1 this_now = 10) : MetI l yX11_person (wa yX11_person cX11_person 7 (some .int)) ({ frames := 2, cells := 0, slots := 0, locals := 43 }) [.ref this, .int a0, .int a1, .int a2, .int a3, .int a4] D t σ (I, J, ri, rj, rq) sz 0 0 (fun (r : Int32) (u : pq_S × pq_M) => ∃ I' : Nat → Nat → Int32, ∃ ri' : Nat → Nat → Int32, u = (σ, I', J, ri', rj, rq) ∧ GX [1005, 0] tg σ I ri rj I' ri' rj rq ∧ g_X11_person a0 a1 a2 a3 a4 (vI 10 σ this_now I) (vJ 10 σ this_now J) (vR 10 σ this_now ri) (vL 10 σ this_now rj) (vQ 10 σ this_now rq) = (r, (vI 10 σ this_now I'), (vJ 10 σ this_now J), (vR 10 σ this_now ri'), (vL 10 σ this_now rj), (vQ 10 σ this_now rq)) ∧ FR 10 tg σ this_now (I, J, ri, rj, rq) (I', J, ri', rj, rq) ∧ rg r (-1) 39) := by
  refine Met.ofW (cc := cX11_person) (maxL := 7) (ret := (some .int)) (by decide +kernel) rfl ?_
  intro p e s m args below meth c s₁ B hml hv
  obtain ⟨rfl, hsz, hP, hK, hD0, hN⟩ := hv
  have hx := B.exec
  have hb := B.bytes
  have hr := B.returns
  have hts := atoms_spec (ws := (wa yX11_person cX11_person 7 (some .int))) B.pre
  have hown : s.vm.findClass RX11 = some m.cls := findClass_of_methodNamed B.named
  have hlocks := B.notSynchronized
  subst hsz
  have hD : va_D (pq_B t σ (I, J, ri, rj, rq) s.heap.size) (pq_P t σ (I, J, ri, rj, rq)) := hD0.self
  generalize hAe : pq_B t σ (I, J, ri, rj, rq) s.heap.size = A at hD ⊢
  have hA : ∀ q : Nat, s.heap.size ≤ q → A q := fun q h => by rw [← hAe]; exact Or.inr h
  have hS : va_S A s.heap s.heap [] := va_S.rf
  have hG : GX [1005, 0] tg σ I ri rj I ri rj rq := ⟨hG0, fun _ _ _ => rfl, fun _ _ _ _ _ => rfl, fun _ _ _ _ _ => rfl⟩
  have hl := lv_entry ([.ref this, .int a0, .int a1, .int a2, .int a3, .int a4]) (n := 7) (Nat.le_of_ble_eq_true rfl)
  rw [lg_entry_eq]
  generalize (lg_sl ([.ref this, .int a0, .int a1, .int a2, .int a3, .int a4]) ++ List.replicate (7 - (lg_sl ([.ref this, .int a0, .int a1, .int a2, .int a3, .int a4])).length) Slot.unset).toArray = ls at hl ⊢
  have hl : lv_has ls 7 [(0, .ref this), (1, .int a0), (2, .int a1), (3, .int a2), (4, .int a3), (5, .int a4)] := hl
  refine q_gen (fun Q hQ => ?_)
  have go : ∀ (H : Heap) (locs : List Loc) (ls : Array Slot), va_P D vwCl (pq_P t σ (I, J, ri, rj, rq)) H → va_D A (pq_P t σ (I, J, ri, rj, rq)) → va_S A s.heap H locs → lv_has ls 7 [(0, .ref this), (1, .int a0), (2, .int a1), (3, .int a2), (4, .int a3), (5, .int a4)] → W p l e ({ frames := 2, cells := 0, slots := 0, locals := 43 } : Room) s m (List.toArray ([.ref this, .int a0, .int a1, .int a2, .int a3, .int a4] : List Value)) below meth c H locs 0 0 Q (F0 m 0 ls []) := by
    intro H locs ls hP hD hS hl
    have hVT : VT 10 σ tg this_now := vt_10 hSH hL_this_now hK_this_now
    have hFr : FR 10 tg σ this_now (I, J, ri, rj, rq) (I, J, ri, rj, rq) := fr_rf
    have hO_this_now : this_now = vo σ 10 this_now := rfl
    obtain ⟨F, hF0⟩ : ∃ F, F = g_X11_person a0 a1 a2 a3 a4 (vI 10 σ this_now I) (vJ 10 σ this_now J) (vR 10 σ this_now ri) (vL 10 σ this_now rj) (vQ 10 σ this_now rq) := ⟨_, rfl⟩
    have hF := hF0.trans g_X11_person_e
    refine lv_iload_n hx hb dX11_person_0 rfl (lv_at hl 1 rfl) ?_
    refine lv_iconst (v := 0) hx hb dX11_person_1 (by decide +kernel) ?_
    refine lv_bipush (v := 9) hx hb dX11_person_2 (by decide +kernel) ?_
    refine pk_i (va_runS (As := [.int a0, .int 0, .int 9]) (rest := []) ⟨hx, hb, hml, hown, hts⟩ (s_X11_between l D t σ I J ri rj rq H.size tg hSH hG.1 a0 (0 : Int32) (9 : Int32)) (va_cwS 3 hts (tw_S tw_215 tw_216 tw_2 tw_217) rfl rfl rfl cd_yX11_between_3 ⟨Nat.le_of_ble_eq_true rfl, Nat.le_of_ble_eq_true rfl⟩) ⟨pq_blind, pq_pre hK hN hP hD⟩ rfl rfl hl.1 rfl (lv_room (Nat.le_of_ble_eq_true rfl)) dX11_person_4 ⟨Nat.le_of_ble_eq_true rfl, Nat.le_of_ble_eq_true rfl⟩) hD hS hA (fun x_1 σ1 μ1 H locs hw_2 hP hD hS => ?_)
    obtain ⟨hu_3, hfn_6, hr_5⟩ := hw_2
    obtain ⟨hu_3a, hu_3b⟩ := Prod.mk.inj hu_3
    rw [hu_3a, hu_3b] at hP hD
    replace hF := hF.trans (ap_n hfn_6.symm)
    have h_8 : rg x_1 0 1 := by rcases hr_5 with ⟨q, -⟩ | ⟨q, -⟩ <;> rw [q] <;> exact ⟨by decide +kernel, by decide +kernel⟩
    have K_101 : ∀  (H : Heap) (locs : List Loc) (ls : Array Slot), rg (a0) 0 9 → rg (a1) 0 99 → rg (a2) 0 7 → rg (a3) 0 4 → rg (a4) 0 100 → rg (x_1) 1 1 → F = g_X11_person_K55 a0 a1 a2 a3 a4 (vI 10 σ this_now I) (vJ 10 σ this_now J) (vR 10 σ this_now ri) (vL 10 σ this_now rj) (vQ 10 σ this_now rq)  → FR 10 tg σ this_now (I, J, ri, rj, rq) (I, J, ri, rj, rq) → GX [1005, 0] tg σ I ri rj I ri rj rq → va_P D vwCl (pq_P t σ (I, J, ri, rj, rq)) H → va_D A (pq_P t σ (I, J, ri, rj, rq)) → va_S A s.heap H locs → lv_has ls 7 [(0, .ref this), (1, .int a0), (2, .int a1), (3, .int a2), (4, .int a3), (5, .int a4)] → W p l e ({ frames := 2, cells := 0, slots := 0, locals := 43 } : Room) s m (List.toArray ([.ref this, .int a0, .int a1, .int a2, .int a3, .int a4] : List Value)) below meth c H locs 0 0 Q (F0 m 55 ls [.int 1]) := by
      intro H locs ls h_108 h_109 h_110 h_111 h_112 h_113 hF hFr hG hP hD hS hl
      replace hF := hF.trans g_X11_person_K55_e
      refine lv_istore (lv' := [(6, .int 1), (0, .ref this), (1, .int a0), (2, .int a1), (3, .int a2), (4, .int a3), (5, .int a4)]) hx hb dX11_person_55 hl (by decide +kernel) rfl (fun ls hl => ?_)
      refine lv_iload hx hb dX11_person_57 (lv_at hl 0 rfl) ?_
      have K_130 : ∀  (H : Heap) (locs : List Loc) (ls : Array Slot), F = g_X11_person_K77 (vI 10 σ this_now I) (vJ 10 σ this_now J) (vR 10 σ this_now ri) (vL 10 σ this_now rj) (vQ 10 σ this_now rq)  → FR 10 tg σ this_now (I, J, ri, rj, rq) (I, J, ri, rj, rq) → GX [1005, 0] tg σ I ri rj I ri rj rq → va_P D vwCl (pq_P t σ (I, J, ri, rj, rq)) H → va_D A (pq_P t σ (I, J, ri, rj, rq)) → va_S A s.heap H locs → lv_has ls 7 [] → W p l e ({ frames := 2, cells := 0, slots := 0, locals := 43 } : Room) s m (List.toArray ([.ref this, .int a0, .int a1, .int a2, .int a3, .int a4] : List Value)) below meth c H locs 0 0 Q (F0 m 77 ls []) := by
        intro H locs ls hF hFr hG hP hD hS hl
        replace hF := hF.trans g_X11_person_K77_e
        refine lv_iconst (v := (-1)) hx hb dX11_person_77 (by decide +kernel) ?_
        subst hQ
        exact W.iret (v := (-1)) hx hb hr (fun t1 ht hW => ⟨⟨(-1), (σ, I, J, ri, rj, rq), rfl, ⟨I, ri, rfl, hG, (hF0.symm.trans hF), hFr, (rg_w (rg_k (-1 : Int32) (-1) rfl) (by decide +kernel))⟩, by rw [ht]; exact hP, va_K.moved hW.alike hK, hD⟩, hS.F ht⟩) hS.2.2 dX11_person_78
      refine lv_if_eq (tgt := 77) hx hb dX11_person_59 (by decide +kernel) (fun c_131 => absurd c_131 (by decide +kernel)) (fun c_131 => ?_)
      refine lv_aload_n hx hb dX11_person_62 rfl (lv_at hl 1 rfl) ?_
      refine pg_f (v := .ref this_now) (C := RX11) (T := TX11) (N := 5) hx hb hts (tw_i inlX11) hown hK hP hL_this hK_this (by decide +kernel) rfl 0 (by decide +kernel) (hts _ (tw_c tw_16)) (pq_hv rfl hR_this_now) dX11_person_63 ?_
      obtain ⟨w_132, hR_w_132, hL_w_132, hK_w_132⟩ := sh_o hSH 328 (ci := 10) (kd := 0) rfl hL_this_now hK_this_now
      have hO_w_132 : w_132 = vo σ 0 this_now := vo_k (c := 10) hO_this_now hR_w_132
      refine pg_f (v := .ref w_132) (C := RX10) (T := TX10) (N := 13) hx hb hts (tw_i inlX10) hown hK hP hL_this_now hK_this_now (by decide +kernel) rfl 8 (by decide +kernel) (hts _ (tw_c tw_379)) (pq_hv rfl hR_w_132) dX11_person_66 ?_
      refine pg_f (v := .int (I 0 w_132)) (C := RX0) (T := TX0) (N := 16) hx hb hts (tw_i inlX0) hown hK hP hL_w_132 hK_w_132 (by decide +kernel) rfl 0 (by decide +kernel) (hts _ (tw_c tw_390)) rfl dX11_person_69 ?_
      have h_133 : rg (I 0 w_132) 0 40 := GX.rI hG 0 rfl
      replace hF := hF.trans (ap_n (vI_e (f := 0) hO_w_132 (by decide +kernel)))
      refine lv_bipush (v := 40) hx hb dX11_person_72 (by decide +kernel) ?_
      refine lv_icmp_lt (tgt := 79) hx hb dX11_person_74 (by decide +kernel) (fun c_135 => ?_) (fun c_135 => ?_)
      · replace hF := hF.trans (if_pos c_135)
        have h_138 : rg (I 0 w_132) 0 39 := rg_lt1 c_135 h_133 (rg_k (40 : Int32) 40 rfl) (by decide +kernel)
        refine lv_aload_n hx hb dX11_person_79 rfl (lv_at hl 1 rfl) ?_
        refine pg_f (v := .ref this_now) (C := RX11) (T := TX11) (N := 5) hx hb hts (tw_i inlX11) hown hK hP hL_this hK_this (by decide +kernel) rfl 0 (by decide +kernel) (hts _ (tw_c tw_16)) (pq_hv rfl hR_this_now) dX11_person_80 ?_
        refine pg_f (v := .ref w_132) (C := RX10) (T := TX10) (N := 13) hx hb hts (tw_i inlX10) hown hK hP hL_this_now hK_this_now (by decide +kernel) rfl 8 (by decide +kernel) (hts _ (tw_c tw_379)) (pq_hv rfl hR_w_132) dX11_person_83 ?_
        refine lv_iload_n hx hb dX11_person_86 rfl (lv_at hl 2 rfl) ?_
        refine lv_iload_n hx hb dX11_person_87 rfl (lv_at hl 3 rfl) ?_
        refine lv_iload_n hx hb dX11_person_88 rfl (lv_at hl 4 rfl) ?_
        refine lv_iload hx hb dX11_person_89 (lv_at hl 5 rfl) ?_
        refine lv_iload hx hb dX11_person_91 (lv_at hl 6 rfl) ?_
        refine pk_i (va_runV (As := [.int a0, .int a1, .int a2, .int a3, .int a4]) (rest := []) ⟨hx, hb, hml, hown, hts⟩ (s_X0_addPerson l D t σ I J ri rj rq H.size tg hSH hG.1 w_132 a0 a1 a2 a3 a4 hL_w_132 hK_w_132 (rg_w h_108 (by decide +kernel)) (rg_w h_111 (by decide +kernel)) this_now hL_this_now hK_this_now hO_w_132) (cwV 5 hts (tw_V tw_391 tw_392 tw_393 tw_45 tw_394) rfl rfl rfl cv_yX0_addPerson_5 ⟨Nat.le_of_ble_eq_true rfl, Nat.le_of_ble_eq_true rfl⟩) ⟨pq_blind, pq_recv hK hP hL_w_132 hK_w_132 (by decide +kernel) rfl, pq_pre hK hN hP hD⟩ rfl rfl hl.1 rfl (lv_room (Nat.le_of_ble_eq_true rfl)) dX11_person_93 ⟨Nat.le_of_ble_eq_true rfl, Nat.le_of_ble_eq_true rfl⟩) hD hS hA (fun x_139 σ1 μ1 H locs hw_140 hP hD hS => ?_)
        obtain ⟨I_141, ri_142, hu_143, hg_144, hfn_146, hfr_147, hr_145⟩ := hw_140
        obtain ⟨hu_143a, hu_143b⟩ := Prod.mk.inj hu_143
        rw [hu_143a, hu_143b] at hP hD
        replace hF := hF.trans (bn_n hfn_146)
        replace hFr := fr_tr hFr hfr_147
        have hG := GX.tr hG hg_144 (by decide +kernel)
        subst hQ
        exact W.iret (v := x_139) hx hb hr (fun t1 ht hW => ⟨⟨x_139, (σ, I_141, J, ri_142, rj, rq), rfl, ⟨I_141, ri_142, rfl, hG, (hF0.symm.trans hF), hFr, (rg_w hr_145 (by decide +kernel))⟩, by rw [ht]; exact hP, va_K.moved hW.alike hK, hD⟩, hS.F ht⟩) hS.2.2 dX11_person_96
      · replace hF := hF.trans (if_neg c_135)
        have h_148 : rg (I 0 w_132) 40 40 := rg_le2 (nlt c_135) (rg_k (40 : Int32) 40 rfl) h_133 (by decide +kernel)
        exact K_130 _ _ _ hF hFr hG hP hD hS (lv_sub hl [] rfl)
    have K_149 : ∀  (H : Heap) (locs : List Loc) (ls : Array Slot), F = g_X11_person_K55_2 (vI 10 σ this_now I) (vJ 10 σ this_now J) (vR 10 σ this_now ri) (vL 10 σ this_now rj) (vQ 10 σ this_now rq)  → FR 10 tg σ this_now (I, J, ri, rj, rq) (I, J, ri, rj, rq) → GX [1005, 0] tg σ I ri rj I ri rj rq → va_P D vwCl (pq_P t σ (I, J, ri, rj, rq)) H → va_D A (pq_P t σ (I, J, ri, rj, rq)) → va_S A s.heap H locs → lv_has ls 7 [(0, .ref this), (1, .int a0), (2, .int a1), (3, .int a2), (4, .int a3), (5, .int a4)] → W p l e ({ frames := 2, cells := 0, slots := 0, locals := 43 } : Room) s m (List.toArray ([.ref this, .int a0, .int a1, .int a2, .int a3, .int a4] : List Value)) below meth c H locs 0 0 Q (F0 m 55 ls [.int 0]) := by
      intro H locs ls hF hFr hG hP hD hS hl
      replace hF := hF.trans g_X11_person_K55_2_e
      refine lv_istore (lv' := [(6, .int 0), (0, .ref this), (1, .int a0), (2, .int a1), (3, .int a2), (4, .int a3), (5, .int a4)]) hx hb dX11_person_55 hl (by decide +kernel) rfl (fun ls hl => ?_)
      refine lv_iload hx hb dX11_person_57 (lv_at hl 0 rfl) ?_
      have K_151 : ∀  (H : Heap) (locs : List Loc) (ls : Array Slot), F = g_X11_person_K77_2 (vI 10 σ this_now I) (vJ 10 σ this_now J) (vR 10 σ this_now ri) (vL 10 σ this_now rj) (vQ 10 σ this_now rq)  → FR 10 tg σ this_now (I, J, ri, rj, rq) (I, J, ri, rj, rq) → GX [1005, 0] tg σ I ri rj I ri rj rq → va_P D vwCl (pq_P t σ (I, J, ri, rj, rq)) H → va_D A (pq_P t σ (I, J, ri, rj, rq)) → va_S A s.heap H locs → lv_has ls 7 [] → W p l e ({ frames := 2, cells := 0, slots := 0, locals := 43 } : Room) s m (List.toArray ([.ref this, .int a0, .int a1, .int a2, .int a3, .int a4] : List Value)) below meth c H locs 0 0 Q (F0 m 77 ls []) := by
        intro H locs ls hF hFr hG hP hD hS hl
        replace hF := hF.trans g_X11_person_K77_2_e
        refine lv_iconst (v := (-1)) hx hb dX11_person_77 (by decide +kernel) ?_
        subst hQ
        exact W.iret (v := (-1)) hx hb hr (fun t1 ht hW => ⟨⟨(-1), (σ, I, J, ri, rj, rq), rfl, ⟨I, ri, rfl, hG, (hF0.symm.trans hF), hFr, (rg_w (rg_k (-1 : Int32) (-1) rfl) (by decide +kernel))⟩, by rw [ht]; exact hP, va_K.moved hW.alike hK, hD⟩, hS.F ht⟩) hS.2.2 dX11_person_78
      refine lv_if_eq (tgt := 77) hx hb dX11_person_59 (by decide +kernel) (fun c_152 => ?_) (fun c_152 => absurd c_152 (by decide +kernel))
      exact K_151 _ _ _ hF hFr hG hP hD hS (lv_sub hl [] rfl)
    have K_153 : ∀  (H : Heap) (locs : List Loc) (ls : Array Slot), F = g_X11_person_K54 (vI 10 σ this_now I) (vJ 10 σ this_now J) (vR 10 σ this_now ri) (vL 10 σ this_now rj) (vQ 10 σ this_now rq)  → FR 10 tg σ this_now (I, J, ri, rj, rq) (I, J, ri, rj, rq) → GX [1005, 0] tg σ I ri rj I ri rj rq → va_P D vwCl (pq_P t σ (I, J, ri, rj, rq)) H → va_D A (pq_P t σ (I, J, ri, rj, rq)) → va_S A s.heap H locs → lv_has ls 7 [(0, .ref this), (1, .int a0), (2, .int a1), (3, .int a2), (4, .int a3), (5, .int a4)] → W p l e ({ frames := 2, cells := 0, slots := 0, locals := 43 } : Room) s m (List.toArray ([.ref this, .int a0, .int a1, .int a2, .int a3, .int a4] : List Value)) below meth c H locs 0 0 Q (F0 m 54 ls []) := by
      intro H locs ls hF hFr hG hP hD hS hl
      replace hF := hF.trans g_X11_person_K54_e
      refine lv_iconst (v := 0) hx hb dX11_person_54 (by decide +kernel) ?_
      exact K_149 _ _ _ hF hFr hG hP hD hS (lv_sub hl [0, 1, 2, 3, 4, 5] rfl)
    refine lv_if_eq (tgt := 54) hx hb dX11_person_7 (by decide +kernel) (fun c_154 => ?_) (fun c_154 => ?_)
    · replace hF := hF.trans (if_pos c_154)
      have f_162 := (hr_5.resolve_left (fun q => absurd (q.1.symm.trans c_154) (by decide +kernel))).2
      have h_163 : rg x_1 0 0 := rg_and h_8 (rg_of_eq c_154 (rg_k (0 : Int32) 0 rfl)) (by decide +kernel)
      exact K_153 _ _ _ hF hFr hG hP hD hS (lv_sub hl [0, 1, 2, 3, 4, 5] rfl)
    · replace hF := hF.trans (if_neg c_154)
      obtain ⟨f_164, f_165⟩ := (hr_5.resolve_right (fun q => c_154 q.1)).2
      have h_166 : rg a0 0 2147483647 := rg_le2 f_164 (rg_k (0 : Int32) 0 rfl) (rg_full _) (by decide +kernel)
      have h_167 : rg a0 0 9 := rg_le1 f_165 h_166 (rg_k (9 : Int32) 9 rfl) (by decide +kernel)
      have h_168 : rg x_1 1 1 := rg_ne c_154 h_8 0 rfl (by decide +kernel)
      refine lv_iload_n hx hb dX11_person_10 rfl (lv_at hl 2 rfl) ?_
      refine lv_iconst (v := 0) hx hb dX11_person_11 (by decide +kernel) ?_
      refine lv_bipush (v := 99) hx hb dX11_person_12 (by decide +kernel) ?_
      refine pk_i (va_runS (As := [.int a1, .int 0, .int 99]) (rest := []) ⟨hx, hb, hml, hown, hts⟩ (s_X11_between l D t σ I J ri rj rq H.size tg hSH hG.1 a1 (0 : Int32) (99 : Int32)) (va_cwS 3 hts (tw_S tw_215 tw_216 tw_2 tw_217) rfl rfl rfl cd_yX11_between_3 ⟨Nat.le_of_ble_eq_true rfl, Nat.le_of_ble_eq_true rfl⟩) ⟨pq_blind, pq_pre hK hN hP hD⟩ rfl rfl hl.1 rfl (lv_room (Nat.le_of_ble_eq_true rfl)) dX11_person_14 ⟨Nat.le_of_ble_eq_true rfl, Nat.le_of_ble_eq_true rfl⟩) hD hS hA (fun x_169 σ1 μ1 H locs hw_170 hP hD hS => ?_)
      obtain ⟨hu_171, hfn_174, hr_173⟩ := hw_170
      obtain ⟨hu_171a, hu_171b⟩ := Prod.mk.inj hu_171
      rw [hu_171a, hu_171b] at hP hD
      replace hF := hF.trans (ap_n hfn_174.symm)
      have h_176 : rg x_169 0 1 := by rcases hr_173 with ⟨q, -⟩ | ⟨q, -⟩ <;> rw [q] <;> exact ⟨by decide +kernel, by decide +kernel⟩
      refine lv_if_eq (tgt := 54) hx hb dX11_person_17 (by decide +kernel) (fun c_177 => ?_) (fun c_177 => ?_)
      · replace hF := hF.trans (if_pos c_177)
        have f_185 := (hr_173.resolve_left (fun q => absurd (q.1.symm.trans c_177) (by decide +kernel))).2
        have h_186 : rg x_169 0 0 := rg_and h_176 (rg_of_eq c_177 (rg_k (0 : Int32) 0 rfl)) (by decide +kernel)
        exact K_153 _ _ _ hF hFr hG hP hD hS (lv_sub hl [0, 1, 2, 3, 4, 5] rfl)
      · replace hF := hF.trans (if_neg c_177)
        obtain ⟨f_187, f_188⟩ := (hr_173.resolve_right (fun q => c_177 q.1)).2
        have h_189 : rg a1 0 2147483647 := rg_le2 f_187 (rg_k (0 : Int32) 0 rfl) (rg_full _) (by decide +kernel)
        have h_190 : rg a1 0 99 := rg_le1 f_188 h_189 (rg_k (99 : Int32) 99 rfl) (by decide +kernel)
        have h_191 : rg x_169 1 1 := rg_ne c_177 h_176 0 rfl (by decide +kernel)
        refine lv_iload_n hx hb dX11_person_20 rfl (lv_at hl 3 rfl) ?_
        refine lv_iconst (v := 0) hx hb dX11_person_21 (by decide +kernel) ?_
        refine lv_bipush (v := 7) hx hb dX11_person_22 (by decide +kernel) ?_
        refine pk_i (va_runS (As := [.int a2, .int 0, .int 7]) (rest := []) ⟨hx, hb, hml, hown, hts⟩ (s_X11_between l D t σ I J ri rj rq H.size tg hSH hG.1 a2 (0 : Int32) (7 : Int32)) (va_cwS 3 hts (tw_S tw_215 tw_216 tw_2 tw_217) rfl rfl rfl cd_yX11_between_3 ⟨Nat.le_of_ble_eq_true rfl, Nat.le_of_ble_eq_true rfl⟩) ⟨pq_blind, pq_pre hK hN hP hD⟩ rfl rfl hl.1 rfl (lv_room (Nat.le_of_ble_eq_true rfl)) dX11_person_24 ⟨Nat.le_of_ble_eq_true rfl, Nat.le_of_ble_eq_true rfl⟩) hD hS hA (fun x_192 σ1 μ1 H locs hw_193 hP hD hS => ?_)
        obtain ⟨hu_194, hfn_197, hr_196⟩ := hw_193
        obtain ⟨hu_194a, hu_194b⟩ := Prod.mk.inj hu_194
        rw [hu_194a, hu_194b] at hP hD
        replace hF := hF.trans (ap_n hfn_197.symm)
        have h_199 : rg x_192 0 1 := by rcases hr_196 with ⟨q, -⟩ | ⟨q, -⟩ <;> rw [q] <;> exact ⟨by decide +kernel, by decide +kernel⟩
        refine lv_if_eq (tgt := 54) hx hb dX11_person_27 (by decide +kernel) (fun c_200 => ?_) (fun c_200 => ?_)
        · replace hF := hF.trans (if_pos c_200)
          have f_208 := (hr_196.resolve_left (fun q => absurd (q.1.symm.trans c_200) (by decide +kernel))).2
          have h_209 : rg x_192 0 0 := rg_and h_199 (rg_of_eq c_200 (rg_k (0 : Int32) 0 rfl)) (by decide +kernel)
          exact K_153 _ _ _ hF hFr hG hP hD hS (lv_sub hl [0, 1, 2, 3, 4, 5] rfl)
        · replace hF := hF.trans (if_neg c_200)
          obtain ⟨f_210, f_211⟩ := (hr_196.resolve_right (fun q => c_200 q.1)).2
          have h_212 : rg a2 0 2147483647 := rg_le2 f_210 (rg_k (0 : Int32) 0 rfl) (rg_full _) (by decide +kernel)
          have h_213 : rg a2 0 7 := rg_le1 f_211 h_212 (rg_k (7 : Int32) 7 rfl) (by decide +kernel)
          have h_214 : rg x_192 1 1 := rg_ne c_200 h_199 0 rfl (by decide +kernel)
          refine lv_aload_n hx hb dX11_person_30 rfl (lv_at hl 0 rfl) ?_
          refine lv_iload hx hb dX11_person_31 (lv_at hl 4 rfl) ?_
          refine pk_i (va_runV (As := [.int a3]) (rest := []) ⟨hx, hb, hml, hown, hts⟩ (s_X11_isRing l D t σ I J ri rj rq H.size tg hSH hG.1 this a3 hL_this hK_this this_now hR_this_now hL_this_now hK_this_now) (cwV 1 hts (tw_V tw_211 tw_212 tw_213 tw_2 tw_214) rfl rfl rfl cv_yX11_isRing_1 ⟨Nat.le_of_ble_eq_true rfl, Nat.le_of_ble_eq_true rfl⟩) ⟨pq_blind, pq_recv hK hP hL_this hK_this (by decide +kernel) rfl, pq_pre hK hN hP hD⟩ rfl rfl hl.1 rfl (lv_room (Nat.le_of_ble_eq_true rfl)) dX11_person_33 ⟨Nat.le_of_ble_eq_true rfl, Nat.le_of_ble_eq_true rfl⟩) hD hS hA (fun x_215 σ1 μ1 H locs hw_216 hP hD hS => ?_)
          obtain ⟨hu_217, hfn_220, hr_219⟩ := hw_216
          obtain ⟨hu_217a, hu_217b⟩ := Prod.mk.inj hu_217
          rw [hu_217a, hu_217b] at hP hD
          replace hF := hF.trans (bn_n hfn_220)
          have h_222 : rg x_215 0 1 := by rcases hr_219 with ⟨q, -⟩ | ⟨q, -⟩ <;> rw [q] <;> exact ⟨by decide +kernel, by decide +kernel⟩
          refine lv_if_eq (tgt := 54) hx hb dX11_person_36 (by decide +kernel) (fun c_223 => ?_) (fun c_223 => ?_)
          · replace hF := hF.trans (if_pos c_223)
            have f_228 := (hr_219.resolve_left (fun q => absurd (q.1.symm.trans c_223) (by decide +kernel))).2
            have h_229 : rg x_215 0 0 := rg_and h_222 (rg_of_eq c_223 (rg_k (0 : Int32) 0 rfl)) (by decide +kernel)
            exact K_153 _ _ _ hF hFr hG hP hD hS (lv_sub hl [0, 1, 2, 3, 4, 5] rfl)
          · replace hF := hF.trans (if_neg c_223)
            have f_230 := (hr_219.resolve_right (fun q => c_223 q.1)).2
            have h_231 : rg x_215 1 1 := rg_ne c_223 h_222 0 rfl (by decide +kernel)
            refine lv_iload hx hb dX11_person_39 (lv_at hl 5 rfl) ?_
            refine lv_iconst (v := 0) hx hb dX11_person_41 (by decide +kernel) ?_
            refine lv_bipush (v := 100) hx hb dX11_person_42 (by decide +kernel) ?_
            refine pk_i (va_runS (As := [.int a4, .int 0, .int 100]) (rest := []) ⟨hx, hb, hml, hown, hts⟩ (s_X11_between l D t σ I J ri rj rq H.size tg hSH hG.1 a4 (0 : Int32) (100 : Int32)) (va_cwS 3 hts (tw_S tw_215 tw_216 tw_2 tw_217) rfl rfl rfl cd_yX11_between_3 ⟨Nat.le_of_ble_eq_true rfl, Nat.le_of_ble_eq_true rfl⟩) ⟨pq_blind, pq_pre hK hN hP hD⟩ rfl rfl hl.1 rfl (lv_room (Nat.le_of_ble_eq_true rfl)) dX11_person_44 ⟨Nat.le_of_ble_eq_true rfl, Nat.le_of_ble_eq_true rfl⟩) hD hS hA (fun x_232 σ1 μ1 H locs hw_233 hP hD hS => ?_)
            obtain ⟨hu_234, hfn_237, hr_236⟩ := hw_233
            obtain ⟨hu_234a, hu_234b⟩ := Prod.mk.inj hu_234
            rw [hu_234a, hu_234b] at hP hD
            replace hF := hF.trans (ap_n hfn_237.symm)
            have h_239 : rg x_232 0 1 := by rcases hr_236 with ⟨q, -⟩ | ⟨q, -⟩ <;> rw [q] <;> exact ⟨by decide +kernel, by decide +kernel⟩
            refine lv_if_eq (tgt := 54) hx hb dX11_person_47 (by decide +kernel) (fun c_240 => ?_) (fun c_240 => ?_)
            · replace hF := hF.trans (if_pos c_240)
              have f_248 := (hr_236.resolve_left (fun q => absurd (q.1.symm.trans c_240) (by decide +kernel))).2
              have h_249 : rg x_232 0 0 := rg_and h_239 (rg_of_eq c_240 (rg_k (0 : Int32) 0 rfl)) (by decide +kernel)
              exact K_153 _ _ _ hF hFr hG hP hD hS (lv_sub hl [0, 1, 2, 3, 4, 5] rfl)
            · replace hF := hF.trans (if_neg c_240)
              obtain ⟨f_250, f_251⟩ := (hr_236.resolve_right (fun q => c_240 q.1)).2
              have h_252 : rg a4 0 2147483647 := rg_le2 f_250 (rg_k (0 : Int32) 0 rfl) (rg_full _) (by decide +kernel)
              have h_253 : rg a4 0 100 := rg_le1 f_251 h_252 (rg_k (100 : Int32) 100 rfl) (by decide +kernel)
              have h_254 : rg x_232 1 1 := rg_ne c_240 h_239 0 rfl (by decide +kernel)
              refine lv_iconst (v := 1) hx hb dX11_person_50 (by decide +kernel) ?_
              refine lv_goto (tgt := 55) hx hb dX11_person_51 (by decide +kernel) ?_
              exact K_101 _ _ _ (rg_w h_167 (by decide +kernel)) (rg_w h_190 (by decide +kernel)) (rg_w h_213 (by decide +kernel)) (rg_w f_230 (by decide +kernel)) (rg_w h_253 (by decide +kernel)) (rg_w h_168 (by decide +kernel)) hF hFr hG hP hD hS (lv_sub hl [0, 1, 2, 3, 4, 5] rfl)
  exact go _ _ _ hP hD hS hl

set_option maxRecDepth 100000 in
def g_X11_isPerson (a0 : Int32) (I : Nat → Int32) (J : Nat → Int64) (ri : Nat → Nat → Int32) (rj : Nat → Nat → Int64) (rq : Nat → Nat → Option Nat) : Int32 × vM := (ap1 (I 0) fun (y_3 : Int32) => (ap1 ((y_3) - (1 : Int32)) fun (x_4 : Int32) => (ap1 (g_X11_between a0 (0 : Int32) x_4) fun (x_6 : Int32) => (x_6, I, J, ri, rj, rq))))
set_option maxRecDepth 100000 in
theorem g_X11_isPerson_e {a0 : Int32} {I : Nat → Int32} {J : Nat → Int64} {ri : Nat → Nat → Int32} {rj : Nat → Nat → Int64} {rq : Nat → Nat → Option Nat} : g_X11_isPerson a0 I J ri rj rq = (ap1 (I 0) fun (y_3 : Int32) => (ap1 ((y_3) - (1 : Int32)) fun (x_4 : Int32) => (ap1 (g_X11_between a0 (0 : Int32) x_4) fun (x_6 : Int32) => (x_6, I, J, ri, rj, rq)))) := rfl
set_option maxHeartbeats 4000000 in
set_option maxRecDepth 100000 in
theorem s_X11_isPerson (l : Launch) (D : va_G) (t : pq_T) (σ : pq_S) (I : Nat → Nat → Int32) (J : Nat → Nat → Int64) (ri : Nat → Nat → Int32) (rj : Nat → Nat → Int64) (rq : Nat → Nat → Option Nat) (sz : Nat) (tg : Nat → Nat) (hSH : SH σ tg) (hG0 : GS tg σ I ri rq) (this : Nat) (a0 : Int32) (hL_this : this ∈ σ.1) (hK_this : σ.2.1 this = 11) (this_now : Nat) (hR_this_now : σ.2.2.1 352 this = some this_now) (hL_this_now : this_now ∈ σ.1) (hK_this_now : σ.2.1 this_now = 10) : MetI l yX11_isPerson (wa yX11_isPerson cX11_isPerson 2 (some .boolean)) ({ frames := 1, cells := 0, slots := 0, locals := 22 }) [.ref this, .int a0] D t σ (I, J, ri, rj, rq) sz 0 0 (fun (r : Int32) (u : pq_S × pq_M) => u = (σ, I, J, ri, rj, rq) ∧ g_X11_isPerson a0 (vI 10 σ this_now I) (vJ 10 σ this_now J) (vR 10 σ this_now ri) (vL 10 σ this_now rj) (vQ 10 σ this_now rq) = (r, (vI 10 σ this_now I), (vJ 10 σ this_now J), (vR 10 σ this_now ri), (vL 10 σ this_now rj), (vQ 10 σ this_now rq)) ∧ ((r = 1 ∧ rg a0 0 39) ∨ (r = 0 ∧ True))) := by
  refine Met.ofW (cc := cX11_isPerson) (maxL := 2) (ret := (some .boolean)) (by decide +kernel) rfl ?_
  intro p e s m args below meth c s₁ B hml hv
  obtain ⟨rfl, hsz, hP, hK, hD0, hN⟩ := hv
  have hx := B.exec
  have hb := B.bytes
  have hr := B.returns
  have hts := atoms_spec (ws := (wa yX11_isPerson cX11_isPerson 2 (some .boolean))) B.pre
  have hown : s.vm.findClass RX11 = some m.cls := findClass_of_methodNamed B.named
  have hlocks := B.notSynchronized
  subst hsz
  have hD : va_D (pq_B t σ (I, J, ri, rj, rq) s.heap.size) (pq_P t σ (I, J, ri, rj, rq)) := hD0.self
  generalize hAe : pq_B t σ (I, J, ri, rj, rq) s.heap.size = A at hD ⊢
  have hA : ∀ q : Nat, s.heap.size ≤ q → A q := fun q h => by rw [← hAe]; exact Or.inr h
  have hS : va_S A s.heap s.heap [] := va_S.rf
  have hG : GX [] tg σ I ri rj I ri rj rq := ⟨hG0, fun _ _ _ => rfl, fun _ _ _ _ _ => rfl, fun _ _ _ _ _ => rfl⟩
  have hl := lv_entry ([.ref this, .int a0]) (n := 2) (Nat.le_of_ble_eq_true rfl)
  rw [lg_entry_eq]
  generalize (lg_sl ([.ref this, .int a0]) ++ List.replicate (2 - (lg_sl ([.ref this, .int a0])).length) Slot.unset).toArray = ls at hl ⊢
  have hl : lv_has ls 2 [(0, .ref this), (1, .int a0)] := hl
  refine q_gen (fun Q hQ => ?_)
  have go : ∀ (H : Heap) (locs : List Loc) (ls : Array Slot), va_P D vwCl (pq_P t σ (I, J, ri, rj, rq)) H → va_D A (pq_P t σ (I, J, ri, rj, rq)) → va_S A s.heap H locs → lv_has ls 2 [(0, .ref this), (1, .int a0)] → W p l e ({ frames := 1, cells := 0, slots := 0, locals := 22 } : Room) s m (List.toArray ([.ref this, .int a0] : List Value)) below meth c H locs 0 0 Q (F0 m 0 ls []) := by
    intro H locs ls hP hD hS hl
    have hVT : VT 10 σ tg this_now := vt_10 hSH hL_this_now hK_this_now
    have hFr : FR 10 tg σ this_now (I, J, ri, rj, rq) (I, J, ri, rj, rq) := fr_rf
    have hO_this_now : this_now = vo σ 10 this_now := rfl
    obtain ⟨F, hF0⟩ : ∃ F, F = g_X11_isPerson a0 (vI 10 σ this_now I) (vJ 10 σ this_now J) (vR 10 σ this_now ri) (vL 10 σ this_now rj) (vQ 10 σ this_now rq) := ⟨_, rfl⟩
    have hF := hF0.trans g_X11_isPerson_e
    refine lv_iload_n hx hb dX11_isPerson_0 rfl (lv_at hl 1 rfl) ?_
    refine lv_iconst (v := 0) hx hb dX11_isPerson_1 (by decide +kernel) ?_
    refine lv_aload_n hx hb dX11_isPerson_2 rfl (lv_at hl 0 rfl) ?_
    refine pg_f (v := .ref this_now) (C := RX11) (T := TX11) (N := 5) hx hb hts (tw_i inlX11) hown hK hP hL_this hK_this (by decide +kernel) rfl 0 (by decide +kernel) (hts _ (tw_c tw_16)) (pq_hv rfl hR_this_now) dX11_isPerson_3 ?_
    obtain ⟨w_1, hR_w_1, hL_w_1, hK_w_1⟩ := sh_o hSH 328 (ci := 10) (kd := 0) rfl hL_this_now hK_this_now
    have hO_w_1 : w_1 = vo σ 0 this_now := vo_k (c := 10) hO_this_now hR_w_1
    refine pg_f (v := .ref w_1) (C := RX10) (T := TX10) (N := 13) hx hb hts (tw_i inlX10) hown hK hP hL_this_now hK_this_now (by decide +kernel) rfl 8 (by decide +kernel) (hts _ (tw_c tw_379)) (pq_hv rfl hR_w_1) dX11_isPerson_6 ?_
    refine pg_f (v := .int (I 0 w_1)) (C := RX0) (T := TX0) (N := 16) hx hb hts (tw_i inlX0) hown hK hP hL_w_1 hK_w_1 (by decide +kernel) rfl 0 (by decide +kernel) (hts _ (tw_c tw_390)) rfl dX11_isPerson_9 ?_
    have h_2 : rg (I 0 w_1) 0 40 := GX.rI hG 0 rfl
    replace hF := hF.trans (ap_n (vI_e (f := 0) hO_w_1 (by decide +kernel)))
    refine lv_iconst (v := 1) hx hb dX11_isPerson_12 (by decide +kernel) ?_
    refine lv_isub hx hb dX11_isPerson_13 ?_
    refine lv_topi (fun x_4 ex_4 => ?_)
    replace hF := hF.trans (ap_n ex_4)
    have h_5 : rg x_4 (-1) 39 := rg_of_eq ex_4 (rg_sub h_2 (rg_k (1 : Int32) 1 rfl) (by decide +kernel))
    refine pk_i (va_runS (As := [.int a0, .int 0, .int x_4]) (rest := []) ⟨hx, hb, hml, hown, hts⟩ (s_X11_between l D t σ I J ri rj rq H.size tg hSH hG.1 a0 (0 : Int32) x_4) (va_cwS 3 hts (tw_S tw_215 tw_216 tw_2 tw_217) rfl rfl rfl cd_yX11_between_3 ⟨Nat.le_of_ble_eq_true rfl, Nat.le_of_ble_eq_true rfl⟩) ⟨pq_blind, pq_pre hK hN hP hD⟩ rfl rfl hl.1 rfl (lv_room (Nat.le_of_ble_eq_true rfl)) dX11_isPerson_14 ⟨Nat.le_of_ble_eq_true rfl, Nat.le_of_ble_eq_true rfl⟩) hD hS hA (fun x_6 σ1 μ1 H locs hw_7 hP hD hS => ?_)
    obtain ⟨hu_8, hfn_11, hr_10⟩ := hw_7
    obtain ⟨hu_8a, hu_8b⟩ := Prod.mk.inj hu_8
    rw [hu_8a, hu_8b] at hP hD
    replace hF := hF.trans (ap_n hfn_11.symm)
    have h_13 : rg x_6 0 1 := by rcases hr_10 with ⟨q, -⟩ | ⟨q, -⟩ <;> rw [q] <;> exact ⟨by decide +kernel, by decide +kernel⟩
    rcases hr_10 with ⟨e_17, f_14, f_15⟩ | ⟨e_17, f_16⟩
    · refine lv_tov 1 e_17 ?_
      have h_18 : rg a0 0 2147483647 := rg_le2 f_14 (rg_k (0 : Int32) 0 rfl) (rg_full _) (by decide +kernel)
      have h_19 : rg a0 0 39 := rg_le1 f_15 h_18 h_5 (by decide +kernel)
      have h_20 : rg x_4 0 39 := rg_le2 f_15 h_18 h_5 (by decide +kernel)
      subst hQ
      exact W.zret (v := 1) hx hb hr (by decide +kernel) (fun t1 ht hW => ⟨⟨1, (σ, I, J, ri, rj, rq), rfl, ⟨rfl, (hF0.symm.trans (hF.trans (by rw [e_17]))), (Or.inl ⟨rfl, (rg_w h_19 (by decide +kernel))⟩)⟩, by rw [ht]; exact hP, va_K.moved hW.alike hK, hD⟩, hS.F ht⟩) hS.2.2 dX11_isPerson_17
    · refine lv_tov 0 e_17 ?_
      subst hQ
      exact W.zret (v := 0) hx hb hr (by decide +kernel) (fun t1 ht hW => ⟨⟨0, (σ, I, J, ri, rj, rq), rfl, ⟨rfl, (hF0.symm.trans (hF.trans (by rw [e_17]))), (Or.inr ⟨rfl, trivial⟩)⟩, by rw [ht]; exact hP, va_K.moved hW.alike hK, hD⟩, hS.F ht⟩) hS.2.2 dX11_isPerson_17
  exact go _ _ _ hP hD hS hl

set_option maxRecDepth 100000 in
def g_X11_isLot (a0 : Int32) (I : Nat → Int32) (J : Nat → Int64) (ri : Nat → Nat → Int32) (rj : Nat → Nat → Int64) (rq : Nat → Nat → Option Nat) : Int32 × vM := (ap1 (I 10) fun (y_3 : Int32) => (ap1 ((100 : Int32) + (y_3)) fun (x_4 : Int32) => (ap1 (x_4 - (1 : Int32)) fun (x_6 : Int32) => (ap1 (g_X11_between a0 (100 : Int32) x_6) fun (x_8 : Int32) => (x_8, I, J, ri, rj, rq)))))
set_option maxRecDepth 100000 in
theorem g_X11_isLot_e {a0 : Int32} {I : Nat → Int32} {J : Nat → Int64} {ri : Nat → Nat → Int32} {rj : Nat → Nat → Int64} {rq : Nat → Nat → Option Nat} : g_X11_isLot a0 I J ri rj rq = (ap1 (I 10) fun (y_3 : Int32) => (ap1 ((100 : Int32) + (y_3)) fun (x_4 : Int32) => (ap1 (x_4 - (1 : Int32)) fun (x_6 : Int32) => (ap1 (g_X11_between a0 (100 : Int32) x_6) fun (x_8 : Int32) => (x_8, I, J, ri, rj, rq))))) := rfl
set_option maxHeartbeats 4000000 in
set_option maxRecDepth 100000 in
theorem s_X11_isLot (l : Launch) (D : va_G) (t : pq_T) (σ : pq_S) (I : Nat → Nat → Int32) (J : Nat → Nat → Int64) (ri : Nat → Nat → Int32) (rj : Nat → Nat → Int64) (rq : Nat → Nat → Option Nat) (sz : Nat) (tg : Nat → Nat) (hSH : SH σ tg) (hG0 : GS tg σ I ri rq) (this : Nat) (a0 : Int32) (hL_this : this ∈ σ.1) (hK_this : σ.2.1 this = 11) (this_now : Nat) (hR_this_now : σ.2.2.1 352 this = some this_now) (hL_this_now : this_now ∈ σ.1) (hK_this_now : σ.2.1 this_now = 10) : MetI l yX11_isLot (wa yX11_isLot cX11_isLot 2 (some .boolean)) ({ frames := 1, cells := 0, slots := 0, locals := 22 }) [.ref this, .int a0] D t σ (I, J, ri, rj, rq) sz 0 0 (fun (r : Int32) (u : pq_S × pq_M) => u = (σ, I, J, ri, rj, rq) ∧ g_X11_isLot a0 (vI 10 σ this_now I) (vJ 10 σ this_now J) (vR 10 σ this_now ri) (vL 10 σ this_now rj) (vQ 10 σ this_now rq) = (r, (vI 10 σ this_now I), (vJ 10 σ this_now J), (vR 10 σ this_now ri), (vL 10 σ this_now rj), (vQ 10 σ this_now rq)) ∧ ((r = 1 ∧ rg a0 100 104) ∨ (r = 0 ∧ True))) := by
  refine Met.ofW (cc := cX11_isLot) (maxL := 2) (ret := (some .boolean)) (by decide +kernel) rfl ?_
  intro p e s m args below meth c s₁ B hml hv
  obtain ⟨rfl, hsz, hP, hK, hD0, hN⟩ := hv
  have hx := B.exec
  have hb := B.bytes
  have hr := B.returns
  have hts := atoms_spec (ws := (wa yX11_isLot cX11_isLot 2 (some .boolean))) B.pre
  have hown : s.vm.findClass RX11 = some m.cls := findClass_of_methodNamed B.named
  have hlocks := B.notSynchronized
  subst hsz
  have hD : va_D (pq_B t σ (I, J, ri, rj, rq) s.heap.size) (pq_P t σ (I, J, ri, rj, rq)) := hD0.self
  generalize hAe : pq_B t σ (I, J, ri, rj, rq) s.heap.size = A at hD ⊢
  have hA : ∀ q : Nat, s.heap.size ≤ q → A q := fun q h => by rw [← hAe]; exact Or.inr h
  have hS : va_S A s.heap s.heap [] := va_S.rf
  have hG : GX [] tg σ I ri rj I ri rj rq := ⟨hG0, fun _ _ _ => rfl, fun _ _ _ _ _ => rfl, fun _ _ _ _ _ => rfl⟩
  have hl := lv_entry ([.ref this, .int a0]) (n := 2) (Nat.le_of_ble_eq_true rfl)
  rw [lg_entry_eq]
  generalize (lg_sl ([.ref this, .int a0]) ++ List.replicate (2 - (lg_sl ([.ref this, .int a0])).length) Slot.unset).toArray = ls at hl ⊢
  have hl : lv_has ls 2 [(0, .ref this), (1, .int a0)] := hl
  refine q_gen (fun Q hQ => ?_)
  have go : ∀ (H : Heap) (locs : List Loc) (ls : Array Slot), va_P D vwCl (pq_P t σ (I, J, ri, rj, rq)) H → va_D A (pq_P t σ (I, J, ri, rj, rq)) → va_S A s.heap H locs → lv_has ls 2 [(0, .ref this), (1, .int a0)] → W p l e ({ frames := 1, cells := 0, slots := 0, locals := 22 } : Room) s m (List.toArray ([.ref this, .int a0] : List Value)) below meth c H locs 0 0 Q (F0 m 0 ls []) := by
    intro H locs ls hP hD hS hl
    have hVT : VT 10 σ tg this_now := vt_10 hSH hL_this_now hK_this_now
    have hFr : FR 10 tg σ this_now (I, J, ri, rj, rq) (I, J, ri, rj, rq) := fr_rf
    have hO_this_now : this_now = vo σ 10 this_now := rfl
    obtain ⟨F, hF0⟩ : ∃ F, F = g_X11_isLot a0 (vI 10 σ this_now I) (vJ 10 σ this_now J) (vR 10 σ this_now ri) (vL 10 σ this_now rj) (vQ 10 σ this_now rq) := ⟨_, rfl⟩
    have hF := hF0.trans g_X11_isLot_e
    refine lv_iload_n hx hb dX11_isLot_0 rfl (lv_at hl 1 rfl) ?_
    refine lv_bipush (v := 100) hx hb dX11_isLot_1 (by decide +kernel) ?_
    refine lv_bipush (v := 100) hx hb dX11_isLot_3 (by decide +kernel) ?_
    refine lv_aload_n hx hb dX11_isLot_5 rfl (lv_at hl 0 rfl) ?_
    refine pg_f (v := .ref this_now) (C := RX11) (T := TX11) (N := 5) hx hb hts (tw_i inlX11) hown hK hP hL_this hK_this (by decide +kernel) rfl 0 (by decide +kernel) (hts _ (tw_c tw_16)) (pq_hv rfl hR_this_now) dX11_isLot_6 ?_
    obtain ⟨w_1, hR_w_1, hL_w_1, hK_w_1⟩ := sh_o hSH 328 (ci := 10) (kd := 0) rfl hL_this_now hK_this_now
    have hO_w_1 : w_1 = vo σ 0 this_now := vo_k (c := 10) hO_this_now hR_w_1
    refine pg_f (v := .ref w_1) (C := RX10) (T := TX10) (N := 13) hx hb hts (tw_i inlX10) hown hK hP hL_this_now hK_this_now (by decide +kernel) rfl 8 (by decide +kernel) (hts _ (tw_c tw_379)) (pq_hv rfl hR_w_1) dX11_isLot_9 ?_
    refine pg_f (v := .int (I 10 w_1)) (C := RX0) (T := TX0) (N := 16) hx hb hts (tw_i inlX0) hown hK hP hL_w_1 hK_w_1 (by decide +kernel) rfl 10 (by decide +kernel) (hts _ (tw_c tw_380)) rfl dX11_isLot_12 ?_
    have h_2 : rg (I 10 w_1) 0 5 := GX.rI hG 10 rfl
    replace hF := hF.trans (ap_n (vI_e (f := 10) hO_w_1 (by decide +kernel)))
    refine lv_iadd hx hb dX11_isLot_15 ?_
    refine lv_topi (fun x_4 ex_4 => ?_)
    replace hF := hF.trans (ap_n ex_4)
    have h_5 : rg x_4 100 105 := rg_of_eq ex_4 (rg_add (rg_k (100 : Int32) 100 rfl) h_2 (by decide +kernel))
    refine lv_iconst (v := 1) hx hb dX11_isLot_16 (by decide +kernel) ?_
    refine lv_isub hx hb dX11_isLot_17 ?_
    refine lv_topi (fun x_6 ex_6 => ?_)
    replace hF := hF.trans (ap_n ex_6)
    have h_7 : rg x_6 99 104 := rg_of_eq ex_6 (rg_sub h_5 (rg_k (1 : Int32) 1 rfl) (by decide +kernel))
    refine pk_i (va_runS (As := [.int a0, .int 100, .int x_6]) (rest := []) ⟨hx, hb, hml, hown, hts⟩ (s_X11_between l D t σ I J ri rj rq H.size tg hSH hG.1 a0 (100 : Int32) x_6) (va_cwS 3 hts (tw_S tw_215 tw_216 tw_2 tw_217) rfl rfl rfl cd_yX11_between_3 ⟨Nat.le_of_ble_eq_true rfl, Nat.le_of_ble_eq_true rfl⟩) ⟨pq_blind, pq_pre hK hN hP hD⟩ rfl rfl hl.1 rfl (lv_room (Nat.le_of_ble_eq_true rfl)) dX11_isLot_18 ⟨Nat.le_of_ble_eq_true rfl, Nat.le_of_ble_eq_true rfl⟩) hD hS hA (fun x_8 σ1 μ1 H locs hw_9 hP hD hS => ?_)
    obtain ⟨hu_10, hfn_13, hr_12⟩ := hw_9
    obtain ⟨hu_10a, hu_10b⟩ := Prod.mk.inj hu_10
    rw [hu_10a, hu_10b] at hP hD
    replace hF := hF.trans (ap_n hfn_13.symm)
    have h_15 : rg x_8 0 1 := by rcases hr_12 with ⟨q, -⟩ | ⟨q, -⟩ <;> rw [q] <;> exact ⟨by decide +kernel, by decide +kernel⟩
    rcases hr_12 with ⟨e_19, f_16, f_17⟩ | ⟨e_19, f_18⟩
    · refine lv_tov 1 e_19 ?_
      have h_20 : rg a0 100 2147483647 := rg_le2 f_16 (rg_k (100 : Int32) 100 rfl) (rg_full _) (by decide +kernel)
      have h_21 : rg a0 100 104 := rg_le1 f_17 h_20 h_7 (by decide +kernel)
      have h_22 : rg x_6 100 104 := rg_le2 f_17 h_20 h_7 (by decide +kernel)
      subst hQ
      exact W.zret (v := 1) hx hb hr (by decide +kernel) (fun t1 ht hW => ⟨⟨1, (σ, I, J, ri, rj, rq), rfl, ⟨rfl, (hF0.symm.trans (hF.trans (by rw [e_19]))), (Or.inl ⟨rfl, (rg_w h_21 (by decide +kernel))⟩)⟩, by rw [ht]; exact hP, va_K.moved hW.alike hK, hD⟩, hS.F ht⟩) hS.2.2 dX11_isLot_21
    · refine lv_tov 0 e_19 ?_
      subst hQ
      exact W.zret (v := 0) hx hb hr (by decide +kernel) (fun t1 ht hW => ⟨⟨0, (σ, I, J, ri, rj, rq), rfl, ⟨rfl, (hF0.symm.trans (hF.trans (by rw [e_19]))), (Or.inr ⟨rfl, trivial⟩)⟩, by rw [ht]; exact hP, va_K.moved hW.alike hK, hD⟩, hS.F ht⟩) hS.2.2 dX11_isLot_21
  exact go _ _ _ hP hD hS hl

set_option maxRecDepth 100000 in
def g_X11_go_K40 (I : Nat → Int32) (J : Nat → Int64) (ri : Nat → Nat → Int32) (rj : Nat → Nat → Int64) (rq : Nat → Nat → Option Nat) : Int32 × vM := ((0 : Int32), I, J, ri, rj, rq)
set_option maxRecDepth 100000 in
theorem g_X11_go_K40_e {I : Nat → Int32} {J : Nat → Int64} {ri : Nat → Nat → Int32} {rj : Nat → Nat → Int64} {rq : Nat → Nat → Option Nat} : g_X11_go_K40 I J ri rj rq  = ((0 : Int32), I, J, ri, rj, rq) := rfl
set_option maxRecDepth 100000 in
def g_X11_go_K95 (I : Nat → Int32) (J : Nat → Int64) (ri : Nat → Nat → Int32) (rj : Nat → Nat → Int64) (rq : Nat → Nat → Option Nat) : Int32 × vM := ((0 : Int32), I, J, ri, rj, rq)
set_option maxRecDepth 100000 in
theorem g_X11_go_K95_e {I : Nat → Int32} {J : Nat → Int64} {ri : Nat → Nat → Int32} {rj : Nat → Nat → Int64} {rq : Nat → Nat → Option Nat} : g_X11_go_K95 I J ri rj rq  = ((0 : Int32), I, J, ri, rj, rq) := rfl
set_option maxRecDepth 100000 in
def g_X11_go_K81 (I : Nat → Int32) (J : Nat → Int64) (ri : Nat → Nat → Int32) (rj : Nat → Nat → Int64) (rq : Nat → Nat → Option Nat) : Int32 × vM := (g_X11_go_K95 I J ri rj rq )
set_option maxRecDepth 100000 in
theorem g_X11_go_K81_e {I : Nat → Int32} {J : Nat → Int64} {ri : Nat → Nat → Int32} {rj : Nat → Nat → Int64} {rq : Nat → Nat → Option Nat} : g_X11_go_K81 I J ri rj rq  = (g_X11_go_K95 I J ri rj rq ) := rfl
set_option maxRecDepth 100000 in
def g_X11_go_K95_2 (I : Nat → Int32) (J : Nat → Int64) (rj : Nat → Nat → Int64) (rq : Nat → Nat → Option Nat) (ri_138 : Nat → Nat → Int32) : Int32 × vM := ((1 : Int32), I, J, ri_138, rj, rq)
set_option maxRecDepth 100000 in
theorem g_X11_go_K95_2_e {I : Nat → Int32} {J : Nat → Int64} {rj : Nat → Nat → Int64} {rq : Nat → Nat → Option Nat} {ri_138 : Nat → Nat → Int32} : g_X11_go_K95_2 I J rj rq ri_138 = ((1 : Int32), I, J, ri_138, rj, rq) := rfl
set_option maxRecDepth 100000 in
def g_X11_go_K81_2 (a0 : Int32) (a1 : Int32) (I : Nat → Int32) (J : Nat → Int64) (ri : Nat → Nat → Int32) (rj : Nat → Nat → Int64) (rq : Nat → Nat → Option Nat) : Int32 × vM := (ap1 (va_up ri 5 (upd (ri 5) (a0).toNatClampNeg a1)) fun (r_141 : Nat → Nat → Int32) => (g_X11_go_K95_2 I J rj rq r_141))
set_option maxRecDepth 100000 in
theorem g_X11_go_K81_2_e {a0 : Int32} {a1 : Int32} {I : Nat → Int32} {J : Nat → Int64} {ri : Nat → Nat → Int32} {rj : Nat → Nat → Int64} {rq : Nat → Nat → Option Nat} : g_X11_go_K81_2 a0 a1 I J ri rj rq  = (ap1 (va_up ri 5 (upd (ri 5) (a0).toNatClampNeg a1)) fun (r_141 : Nat → Nat → Int32) => (g_X11_go_K95_2 I J rj rq r_141)) := rfl
set_option maxRecDepth 100000 in
def g_X11_go_K76 (a0 : Int32) (a1 : Int32) (I : Nat → Int32) (J : Nat → Int64) (ri : Nat → Nat → Int32) (rj : Nat → Nat → Int64) (rq : Nat → Nat → Option Nat) : Int32 × vM := (g_X11_go_K81_2 a0 a1 I J ri rj rq )
set_option maxRecDepth 100000 in
theorem g_X11_go_K76_e {a0 : Int32} {a1 : Int32} {I : Nat → Int32} {J : Nat → Int64} {ri : Nat → Nat → Int32} {rj : Nat → Nat → Int64} {rq : Nat → Nat → Option Nat} : g_X11_go_K76 a0 a1 I J ri rj rq  = (g_X11_go_K81_2 a0 a1 I J ri rj rq ) := rfl
set_option maxRecDepth 100000 in
def g_X11_go_K80 (I : Nat → Int32) (J : Nat → Int64) (ri : Nat → Nat → Int32) (rj : Nat → Nat → Int64) (rq : Nat → Nat → Option Nat) : Int32 × vM := (g_X11_go_K81 I J ri rj rq )
set_option maxRecDepth 100000 in
theorem g_X11_go_K80_e {I : Nat → Int32} {J : Nat → Int64} {ri : Nat → Nat → Int32} {rj : Nat → Nat → Int64} {rq : Nat → Nat → Option Nat} : g_X11_go_K80 I J ri rj rq  = (g_X11_go_K81 I J ri rj rq ) := rfl
set_option maxRecDepth 100000 in
def g_X11_go (a0 : Int32) (a1 : Int32) (I : Nat → Int32) (J : Nat → Int64) (ri : Nat → Nat → Int32) (rj : Nat → Nat → Int64) (rq : Nat → Nat → Option Nat) : Int32 × vM := (bnI (g_X11_isPerson a0 I J ri rj rq) fun (x_1 : Int32) (_ : Nat → Int32) (_ : Nat → Int64) (_ : Nat → Nat → Int32) (_ : Nat → Nat → Int64) (_ : Nat → Nat → Option Nat) => (if x_1 = (0 : Int32) then ((0 : Int32), I, J, ri, rj, rq) else (ap1 (ri 5 (a0).toNatClampNeg) fun (x_18 : Int32) => (if x_18 = (300 : Int32) then (g_X11_go_K40 I J ri rj rq ) else (if x_18 = a1 then (g_X11_go_K40 I J ri rj rq ) else (bnI (g_X11_isRing a1 I J ri rj rq) fun (x_80 : Int32) (_ : Nat → Int32) (_ : Nat → Int64) (_ : Nat → Nat → Int32) (_ : Nat → Nat → Int64) (_ : Nat → Nat → Option Nat) => (if x_80 = (0 : Int32) then (if a1 = (200 : Int32) then (g_X11_go_K76 a0 a1 I J ri rj rq ) else (bnI (g_X11_isLot a1 I J ri rj rq) fun (x_157 : Int32) (_ : Nat → Int32) (_ : Nat → Int64) (_ : Nat → Nat → Int32) (_ : Nat → Nat → Int64) (_ : Nat → Nat → Option Nat) => (if x_157 = (0 : Int32) then (g_X11_go_K80 I J ri rj rq ) else (ap1 (a1 - (100 : Int32)) fun (x_192 : Int32) => (bnI (g_X0_freeBeds x_192 I J ri rj rq) fun (x_194 : Int32) (_ : Nat → Int32) (_ : Nat → Int64) (_ : Nat → Nat → Int32) (_ : Nat → Nat → Int64) (_ : Nat → Nat → Option Nat) => (if x_194 ≤ (0 : Int32) then (g_X11_go_K80 I J ri rj rq ) else (g_X11_go_K76 a0 a1 I J ri rj rq ))))))) else (g_X11_go_K76 a0 a1 I J ri rj rq ))))))))
set_option maxRecDepth 100000 in
theorem g_X11_go_e {a0 : Int32} {a1 : Int32} {I : Nat → Int32} {J : Nat → Int64} {ri : Nat → Nat → Int32} {rj : Nat → Nat → Int64} {rq : Nat → Nat → Option Nat} : g_X11_go a0 a1 I J ri rj rq = (bnI (g_X11_isPerson a0 I J ri rj rq) fun (x_1 : Int32) (_ : Nat → Int32) (_ : Nat → Int64) (_ : Nat → Nat → Int32) (_ : Nat → Nat → Int64) (_ : Nat → Nat → Option Nat) => (if x_1 = (0 : Int32) then ((0 : Int32), I, J, ri, rj, rq) else (ap1 (ri 5 (a0).toNatClampNeg) fun (x_18 : Int32) => (if x_18 = (300 : Int32) then (g_X11_go_K40 I J ri rj rq ) else (if x_18 = a1 then (g_X11_go_K40 I J ri rj rq ) else (bnI (g_X11_isRing a1 I J ri rj rq) fun (x_80 : Int32) (_ : Nat → Int32) (_ : Nat → Int64) (_ : Nat → Nat → Int32) (_ : Nat → Nat → Int64) (_ : Nat → Nat → Option Nat) => (if x_80 = (0 : Int32) then (if a1 = (200 : Int32) then (g_X11_go_K76 a0 a1 I J ri rj rq ) else (bnI (g_X11_isLot a1 I J ri rj rq) fun (x_157 : Int32) (_ : Nat → Int32) (_ : Nat → Int64) (_ : Nat → Nat → Int32) (_ : Nat → Nat → Int64) (_ : Nat → Nat → Option Nat) => (if x_157 = (0 : Int32) then (g_X11_go_K80 I J ri rj rq ) else (ap1 (a1 - (100 : Int32)) fun (x_192 : Int32) => (bnI (g_X0_freeBeds x_192 I J ri rj rq) fun (x_194 : Int32) (_ : Nat → Int32) (_ : Nat → Int64) (_ : Nat → Nat → Int32) (_ : Nat → Nat → Int64) (_ : Nat → Nat → Option Nat) => (if x_194 ≤ (0 : Int32) then (g_X11_go_K80 I J ri rj rq ) else (g_X11_go_K76 a0 a1 I J ri rj rq ))))))) else (g_X11_go_K76 a0 a1 I J ri rj rq )))))))) := rfl
set_option maxHeartbeats 4000000 in
set_option maxRecDepth 100000 in
theorem s_X11_go (l : Launch) (D : va_G) (t : pq_T) (σ : pq_S) (I : Nat → Nat → Int32) (J : Nat → Nat → Int64) (ri : Nat → Nat → Int32) (rj : Nat → Nat → Int64) (rq : Nat → Nat → Option Nat) (sz : Nat) (tg : Nat → Nat) (hSH : SH σ tg) (hG0 : GS tg σ I ri rq) (this : Nat) (a0 : Int32) (a1 : Int32) (hL_this : this ∈ σ.1) (hK_this : σ.2.1 this = 11) (this_now : Nat) (hR_this_now : σ.2.2.1 352 this = some this_now) (hL_this_now : this_now ∈ σ.1) (hK_this_now : σ.2.1 this_now = 10) : MetI l yX11_go (wa yX11_go cX11_go 5 (some .boolean)) ({ frames := 2, cells := 0, slots := 0, locals := 44 }) [.ref this, .int a0, .int a1] D t σ (I, J, ri, rj, rq) sz 0 0 (fun (r : Int32) (u : pq_S × pq_M) => ∃ ri' : Nat → Nat → Int32, u = (σ, I, J, ri', rj, rq) ∧ GX [1005] tg σ I ri rj I ri' rj rq ∧ g_X11_go a0 a1 (vI 10 σ this_now I) (vJ 10 σ this_now J) (vR 10 σ this_now ri) (vL 10 σ this_now rj) (vQ 10 σ this_now rq) = (r, (vI 10 σ this_now I), (vJ 10 σ this_now J), (vR 10 σ this_now ri'), (vL 10 σ this_now rj), (vQ 10 σ this_now rq)) ∧ FR 10 tg σ this_now (I, J, ri, rj, rq) (I, J, ri', rj, rq) ∧ ((r = 1 ∧ rg a0 0 39 ∧ rg a1 0 200) ∨ (r = 0 ∧ True))) := by
  refine Met.ofW (cc := cX11_go) (maxL := 5) (ret := (some .boolean)) (by decide +kernel) rfl ?_
  intro p e s m args below meth c s₁ B hml hv
  obtain ⟨rfl, hsz, hP, hK, hD0, hN⟩ := hv
  have hx := B.exec
  have hb := B.bytes
  have hr := B.returns
  have hts := atoms_spec (ws := (wa yX11_go cX11_go 5 (some .boolean))) B.pre
  have hown : s.vm.findClass RX11 = some m.cls := findClass_of_methodNamed B.named
  have hlocks := B.notSynchronized
  subst hsz
  have hD : va_D (pq_B t σ (I, J, ri, rj, rq) s.heap.size) (pq_P t σ (I, J, ri, rj, rq)) := hD0.self
  generalize hAe : pq_B t σ (I, J, ri, rj, rq) s.heap.size = A at hD ⊢
  have hA : ∀ q : Nat, s.heap.size ≤ q → A q := fun q h => by rw [← hAe]; exact Or.inr h
  have hS : va_S A s.heap s.heap [] := va_S.rf
  have hG : GX [1005] tg σ I ri rj I ri rj rq := ⟨hG0, fun _ _ _ => rfl, fun _ _ _ _ _ => rfl, fun _ _ _ _ _ => rfl⟩
  have hl := lv_entry ([.ref this, .int a0, .int a1]) (n := 5) (Nat.le_of_ble_eq_true rfl)
  rw [lg_entry_eq]
  generalize (lg_sl ([.ref this, .int a0, .int a1]) ++ List.replicate (5 - (lg_sl ([.ref this, .int a0, .int a1])).length) Slot.unset).toArray = ls at hl ⊢
  have hl : lv_has ls 5 [(0, .ref this), (1, .int a0), (2, .int a1)] := hl
  refine q_gen (fun Q hQ => ?_)
  have go : ∀ (H : Heap) (locs : List Loc) (ls : Array Slot), va_P D vwCl (pq_P t σ (I, J, ri, rj, rq)) H → va_D A (pq_P t σ (I, J, ri, rj, rq)) → va_S A s.heap H locs → lv_has ls 5 [(0, .ref this), (1, .int a0), (2, .int a1)] → W p l e ({ frames := 2, cells := 0, slots := 0, locals := 44 } : Room) s m (List.toArray ([.ref this, .int a0, .int a1] : List Value)) below meth c H locs 0 0 Q (F0 m 0 ls []) := by
    intro H locs ls hP hD hS hl
    have hVT : VT 10 σ tg this_now := vt_10 hSH hL_this_now hK_this_now
    have hFr : FR 10 tg σ this_now (I, J, ri, rj, rq) (I, J, ri, rj, rq) := fr_rf
    have hO_this_now : this_now = vo σ 10 this_now := rfl
    obtain ⟨F, hF0⟩ : ∃ F, F = g_X11_go a0 a1 (vI 10 σ this_now I) (vJ 10 σ this_now J) (vR 10 σ this_now ri) (vL 10 σ this_now rj) (vQ 10 σ this_now rq) := ⟨_, rfl⟩
    have hF := hF0.trans g_X11_go_e
    refine lv_aload_n hx hb dX11_go_0 rfl (lv_at hl 0 rfl) ?_
    refine lv_iload_n hx hb dX11_go_1 rfl (lv_at hl 1 rfl) ?_
    refine pk_i (va_runV (As := [.int a0]) (rest := []) ⟨hx, hb, hml, hown, hts⟩ (s_X11_isPerson l D t σ I J ri rj rq H.size tg hSH hG.1 this a0 hL_this hK_this this_now hR_this_now hL_this_now hK_this_now) (cwV 1 hts (tw_V tw_405 tw_406 tw_407 tw_2 tw_408) rfl rfl rfl cv_yX11_isPerson_1 ⟨Nat.le_of_ble_eq_true rfl, Nat.le_of_ble_eq_true rfl⟩) ⟨pq_blind, pq_recv hK hP hL_this hK_this (by decide +kernel) rfl, pq_pre hK hN hP hD⟩ rfl rfl hl.1 rfl (lv_room (Nat.le_of_ble_eq_true rfl)) dX11_go_2 ⟨Nat.le_of_ble_eq_true rfl, Nat.le_of_ble_eq_true rfl⟩) hD hS hA (fun x_1 σ1 μ1 H locs hw_2 hP hD hS => ?_)
    obtain ⟨hu_3, hfn_6, hr_5⟩ := hw_2
    obtain ⟨hu_3a, hu_3b⟩ := Prod.mk.inj hu_3
    rw [hu_3a, hu_3b] at hP hD
    replace hF := hF.trans (bn_n hfn_6)
    have h_8 : rg x_1 0 1 := by rcases hr_5 with ⟨q, -⟩ | ⟨q, -⟩ <;> rw [q] <;> exact ⟨by decide +kernel, by decide +kernel⟩
    refine lv_if_ne (tgt := 10) hx hb dX11_go_5 (by decide +kernel) (fun c_9 => ?_) (fun c_9 => ?_)
    · replace hF := hF.trans (if_neg c_9)
      have f_14 := (hr_5.resolve_right (fun q => c_9 q.1)).2
      have h_15 : rg x_1 1 1 := rg_ne c_9 h_8 0 rfl (by decide +kernel)
      refine lv_aload_n hx hb dX11_go_10 rfl (lv_at hl 0 rfl) ?_
      refine pg_f (v := .ref this_now) (C := RX11) (T := TX11) (N := 5) hx hb hts (tw_i inlX11) hown hK hP hL_this hK_this (by decide +kernel) rfl 0 (by decide +kernel) (hts _ (tw_c tw_16)) (pq_hv rfl hR_this_now) dX11_go_11 ?_
      obtain ⟨w_16, hR_w_16, hL_w_16, hK_w_16⟩ := sh_o hSH 328 (ci := 10) (kd := 0) rfl hL_this_now hK_this_now
      have hO_w_16 : w_16 = vo σ 0 this_now := vo_k (c := 10) hO_this_now hR_w_16
      refine pg_f (v := .ref w_16) (C := RX10) (T := TX10) (N := 13) hx hb hts (tw_i inlX10) hown hK hP hL_this_now hK_this_now (by decide +kernel) rfl 8 (by decide +kernel) (hts _ (tw_c tw_379)) (pq_hv rfl hR_w_16) dX11_go_14 ?_
      refine lv_astore_n (lv' := [(3, .ref w_16), (0, .ref this), (1, .int a0), (2, .int a1)]) hx hb dX11_go_17 rfl hl (by decide +kernel) rfl (fun ls hl => ?_)
      refine lv_aload_n hx hb dX11_go_18 rfl (lv_at hl 0 rfl) ?_
      obtain ⟨w_17, hR_w_17, hL_w_17, hK_w_17, hN_w_17, hT_w_17⟩ := sh_a hSH 5 (ci := 0) (kd := 13) (len := 40) rfl (by decide +kernel) hL_w_16 hK_w_16
      have hO_w_17 : w_17 = vrow σ 5 this_now := vo_k (c := 0) hO_w_16 hR_w_17
      refine pg_f (v := .ref w_17) (C := RX0) (T := TX0) (N := 16) hx hb hts (tw_i inlX0) hown hK hP hL_w_16 hK_w_16 (by decide +kernel) rfl 5 (by decide +kernel) (hts _ (tw_c tw_404)) (pq_hv rfl hR_w_17) dX11_go_19 ?_
      refine lv_iload_n hx hb dX11_go_22 rfl (lv_at hl 2 rfl) ?_
      refine pl_i hx hb hK hP hL_w_17 hK_w_17 hN_w_17 (rg_in f_14 (by decide +kernel)) dX11_go_23 ?_
      refine lv_topi (fun x_18 ex_18 => ?_)
      replace hF := hF.trans (ap_n (vR_r hO_w_17 (by decide +kernel) ex_18))
      have h_19 : rg x_18 0 300 := rg_of_eq ex_18 (GX.rR hG hT_w_17 rfl)
      refine lv_sipush (v := 300) hx hb dX11_go_24 (by decide +kernel) ?_
      have K_72 : ∀  (H : Heap) (locs : List Loc) (ls : Array Slot), F = g_X11_go_K40 (vI 10 σ this_now I) (vJ 10 σ this_now J) (vR 10 σ this_now ri) (vL 10 σ this_now rj) (vQ 10 σ this_now rq)  → FR 10 tg σ this_now (I, J, ri, rj, rq) (I, J, ri, rj, rq) → GX [1005] tg σ I ri rj I ri rj rq → va_P D vwCl (pq_P t σ (I, J, ri, rj, rq)) H → va_D A (pq_P t σ (I, J, ri, rj, rq)) → va_S A s.heap H locs → lv_has ls 5 [] → W p l e ({ frames := 2, cells := 0, slots := 0, locals := 44 } : Room) s m (List.toArray ([.ref this, .int a0, .int a1] : List Value)) below meth c H locs 0 0 Q (F0 m 40 ls []) := by
        intro H locs ls hF hFr hG hP hD hS hl
        replace hF := hF.trans g_X11_go_K40_e
        refine lv_iconst (v := 0) hx hb dX11_go_40 (by decide +kernel) ?_
        subst hQ
        exact W.zret (v := 0) hx hb hr (by decide +kernel) (fun t1 ht hW => ⟨⟨0, (σ, I, J, ri, rj, rq), rfl, ⟨ri, rfl, hG, (hF0.symm.trans hF), hFr, (Or.inr ⟨rfl, trivial⟩)⟩, by rw [ht]; exact hP, va_K.moved hW.alike hK, hD⟩, hS.F ht⟩) hS.2.2 dX11_go_41
      refine lv_icmp_eq (tgt := 40) hx hb dX11_go_27 (by decide +kernel) (fun c_73 => ?_) (fun c_73 => ?_)
      · replace hF := hF.trans (if_pos c_73)
        have h_76 : rg x_18 300 300 := rg_and h_19 (rg_of_eq c_73 (rg_k (300 : Int32) 300 rfl)) (by decide +kernel)
        exact K_72 _ _ _ hF hFr hG hP hD hS (lv_sub hl [] rfl)
      · replace hF := hF.trans (if_neg c_73)
        have h_77 : rg x_18 0 299 := rg_ne c_73 h_19 300 rfl (by decide +kernel)
        refine lv_aload_n hx hb dX11_go_30 rfl (lv_at hl 0 rfl) ?_
        refine pg_f (v := .ref w_17) (C := RX0) (T := TX0) (N := 16) hx hb hts (tw_i inlX0) hown hK hP hL_w_16 hK_w_16 (by decide +kernel) rfl 5 (by decide +kernel) (hts _ (tw_c tw_404)) (pq_hv rfl hR_w_17) dX11_go_31 ?_
        refine lv_iload_n hx hb dX11_go_34 rfl (lv_at hl 2 rfl) ?_
        refine pl_i hx hb hK hP hL_w_17 hK_w_17 hN_w_17 (rg_in f_14 (by decide +kernel)) dX11_go_35 ?_
        refine lv_tov x_18 ex_18.symm ?_
        refine lv_iload_n hx hb dX11_go_36 rfl (lv_at hl 3 rfl) ?_
        refine lv_icmp_ne (tgt := 42) hx hb dX11_go_37 (by decide +kernel) (fun c_78 => ?_) (fun c_78 => ?_)
        · replace hF := hF.trans (if_neg c_78)
          refine lv_aload_n hx hb dX11_go_42 rfl (lv_at hl 1 rfl) ?_
          refine lv_iload_n hx hb dX11_go_43 rfl (lv_at hl 3 rfl) ?_
          refine pk_i (va_runV (As := [.int a1]) (rest := []) ⟨hx, hb, hml, hown, hts⟩ (s_X11_isRing l D t σ I J ri rj rq H.size tg hSH hG.1 this a1 hL_this hK_this this_now hR_this_now hL_this_now hK_this_now) (cwV 1 hts (tw_V tw_211 tw_212 tw_213 tw_2 tw_214) rfl rfl rfl cv_yX11_isRing_1 ⟨Nat.le_of_ble_eq_true rfl, Nat.le_of_ble_eq_true rfl⟩) ⟨pq_blind, pq_recv hK hP hL_this hK_this (by decide +kernel) rfl, pq_pre hK hN hP hD⟩ rfl rfl hl.1 rfl (lv_room (Nat.le_of_ble_eq_true rfl)) dX11_go_44 ⟨Nat.le_of_ble_eq_true rfl, Nat.le_of_ble_eq_true rfl⟩) hD hS hA (fun x_80 σ1 μ1 H locs hw_81 hP hD hS => ?_)
          obtain ⟨hu_82, hfn_85, hr_84⟩ := hw_81
          obtain ⟨hu_82a, hu_82b⟩ := Prod.mk.inj hu_82
          rw [hu_82a, hu_82b] at hP hD
          replace hF := hF.trans (bn_n hfn_85)
          have h_87 : rg x_80 0 1 := by rcases hr_84 with ⟨q, -⟩ | ⟨q, -⟩ <;> rw [q] <;> exact ⟨by decide +kernel, by decide +kernel⟩
          have K_127 : ∀  (H : Heap) (locs : List Loc) (ls : Array Slot), rg (x_80) 0 0 → F = g_X11_go_K81 (vI 10 σ this_now I) (vJ 10 σ this_now J) (vR 10 σ this_now ri) (vL 10 σ this_now rj) (vQ 10 σ this_now rq)  → FR 10 tg σ this_now (I, J, ri, rj, rq) (I, J, ri, rj, rq) → GX [1005] tg σ I ri rj I ri rj rq → va_P D vwCl (pq_P t σ (I, J, ri, rj, rq)) H → va_D A (pq_P t σ (I, J, ri, rj, rq)) → va_S A s.heap H locs → lv_has ls 5 [(1, .int a0), (2, .int a1), (3, .ref w_16)] → W p l e ({ frames := 2, cells := 0, slots := 0, locals := 44 } : Room) s m (List.toArray ([.ref this, .int a0, .int a1] : List Value)) below meth c H locs 0 0 Q (F0 m 81 ls [.int 0]) := by
            intro H locs ls h_129 hF hFr hG hP hD hS hl
            replace hF := hF.trans g_X11_go_K81_e
            refine lv_istore (lv' := [(4, .int 0), (1, .int a0), (2, .int a1), (3, .ref w_16)]) hx hb dX11_go_81 hl (by decide +kernel) rfl (fun ls hl => ?_)
            refine lv_iload hx hb dX11_go_83 (lv_at hl 0 rfl) ?_
            have K_131 : ∀  (H : Heap) (locs : List Loc) (ls : Array Slot), F = g_X11_go_K95 (vI 10 σ this_now I) (vJ 10 σ this_now J) (vR 10 σ this_now ri) (vL 10 σ this_now rj) (vQ 10 σ this_now rq)  → FR 10 tg σ this_now (I, J, ri, rj, rq) (I, J, ri, rj, rq) → GX [1005] tg σ I ri rj I ri rj rq → va_P D vwCl (pq_P t σ (I, J, ri, rj, rq)) H → va_D A (pq_P t σ (I, J, ri, rj, rq)) → va_S A s.heap H locs → lv_has ls 5 [(4, .int 0)] → W p l e ({ frames := 2, cells := 0, slots := 0, locals := 44 } : Room) s m (List.toArray ([.ref this, .int a0, .int a1] : List Value)) below meth c H locs 0 0 Q (F0 m 95 ls []) := by
              intro H locs ls hF hFr hG hP hD hS hl
              replace hF := hF.trans g_X11_go_K95_e
              refine lv_iload hx hb dX11_go_95 (lv_at hl 0 rfl) ?_
              subst hQ
              exact W.zret (v := 0) hx hb hr (by decide +kernel) (fun t1 ht hW => ⟨⟨0, (σ, I, J, ri, rj, rq), rfl, ⟨ri, rfl, hG, (hF0.symm.trans hF), hFr, (Or.inr ⟨rfl, trivial⟩)⟩, by rw [ht]; exact hP, va_K.moved hW.alike hK, hD⟩, hS.F ht⟩) hS.2.2 dX11_go_97
            refine lv_if_eq (tgt := 95) hx hb dX11_go_85 (by decide +kernel) (fun c_132 => ?_) (fun c_132 => absurd c_132 (by decide +kernel))
            exact K_131 _ _ _ hF hFr hG hP hD hS (lv_sub hl [0] rfl)
          have K_133 : ∀  (H : Heap) (locs : List Loc) (ls : Array Slot), rg (a1) 0 200 → F = g_X11_go_K81_2 a0 a1 (vI 10 σ this_now I) (vJ 10 σ this_now J) (vR 10 σ this_now ri) (vL 10 σ this_now rj) (vQ 10 σ this_now rq)  → FR 10 tg σ this_now (I, J, ri, rj, rq) (I, J, ri, rj, rq) → GX [1005] tg σ I ri rj I ri rj rq → va_P D vwCl (pq_P t σ (I, J, ri, rj, rq)) H → va_D A (pq_P t σ (I, J, ri, rj, rq)) → va_S A s.heap H locs → lv_has ls 5 [(1, .int a0), (2, .int a1), (3, .ref w_16)] → W p l e ({ frames := 2, cells := 0, slots := 0, locals := 44 } : Room) s m (List.toArray ([.ref this, .int a0, .int a1] : List Value)) below meth c H locs 0 0 Q (F0 m 81 ls [.int 1]) := by
            intro H locs ls h_135 hF hFr hG hP hD hS hl
            replace hF := hF.trans g_X11_go_K81_2_e
            refine lv_istore (lv' := [(4, .int 1), (1, .int a0), (2, .int a1), (3, .ref w_16)]) hx hb dX11_go_81 hl (by decide +kernel) rfl (fun ls hl => ?_)
            refine lv_iload hx hb dX11_go_83 (lv_at hl 0 rfl) ?_
            have K_139 : ∀  (ri_138 : Nat → Nat → Int32) (H : Heap) (locs : List Loc) (ls : Array Slot), F = g_X11_go_K95_2 (vI 10 σ this_now I) (vJ 10 σ this_now J) (vL 10 σ this_now rj) (vQ 10 σ this_now rq) (vR 10 σ this_now ri_138) → FR 10 tg σ this_now (I, J, ri, rj, rq) (I, J, ri_138, rj, rq) → GX [1005] tg σ I ri rj I ri_138 rj rq → va_P D vwCl (pq_P t σ (I, J, ri_138, rj, rq)) H → va_D A (pq_P t σ (I, J, ri_138, rj, rq)) → va_S A s.heap H locs → lv_has ls 5 [(4, .int 1)] → W p l e ({ frames := 2, cells := 0, slots := 0, locals := 44 } : Room) s m (List.toArray ([.ref this, .int a0, .int a1] : List Value)) below meth c H locs 0 0 Q (F0 m 95 ls []) := by
              intro ri_138 H locs ls hF hFr hG hP hD hS hl
              replace hF := hF.trans g_X11_go_K95_2_e
              refine lv_iload hx hb dX11_go_95 (lv_at hl 0 rfl) ?_
              subst hQ
              exact W.zret (v := 1) hx hb hr (by decide +kernel) (fun t1 ht hW => ⟨⟨1, (σ, I, J, ri_138, rj, rq), rfl, ⟨ri_138, rfl, hG, (hF0.symm.trans hF), hFr, (Or.inl ⟨rfl, (rg_w f_14 (by decide +kernel)), (rg_w h_135 (by decide +kernel))⟩)⟩, by rw [ht]; exact hP, va_K.moved hW.alike hK, hD⟩, hS.F ht⟩) hS.2.2 dX11_go_97
            refine lv_if_eq (tgt := 95) hx hb dX11_go_85 (by decide +kernel) (fun c_140 => absurd c_140 (by decide +kernel)) (fun c_140 => ?_)
            refine lv_aload_n hx hb dX11_go_88 rfl (lv_at hl 3 rfl) ?_
            refine pg_f (v := .ref w_17) (C := RX0) (T := TX0) (N := 16) hx hb hts (tw_i inlX0) hown hK hP hL_w_16 hK_w_16 (by decide +kernel) rfl 5 (by decide +kernel) (hts _ (tw_c tw_404)) (pq_hv rfl hR_w_17) dX11_go_89 ?_
            refine lv_iload_n hx hb dX11_go_92 rfl (lv_at hl 1 rfl) ?_
            refine lv_iload_n hx hb dX11_go_93 rfl (lv_at hl 2 rfl) ?_
            refine pt_i hx hb hK hP hD hS hL_w_17 hK_w_17 hN_w_17 (rg_in f_14 (by decide +kernel)) dX11_go_94 (fun r_141 H locs er_141 hP hD hS => ?_)
            replace hFr := fr_R hFr hO_w_17 (by decide +kernel) er_141
            replace hF := hF.trans (ap_n (vR_st hVT hO_w_17 (by decide +kernel) er_141))
            have hG := GX.wR hG hSH hT_w_17 rfl er_141 (rg_w h_135 (by decide +kernel)) (by decide +kernel)
            exact K_139 r_141 _ _ _ hF hFr hG hP hD hS (lv_sub hl [0] rfl)
          have K_142 : ∀  (H : Heap) (locs : List Loc) (ls : Array Slot), rg (a1) 0 200 → F = g_X11_go_K76 a0 a1 (vI 10 σ this_now I) (vJ 10 σ this_now J) (vR 10 σ this_now ri) (vL 10 σ this_now rj) (vQ 10 σ this_now rq)  → FR 10 tg σ this_now (I, J, ri, rj, rq) (I, J, ri, rj, rq) → GX [1005] tg σ I ri rj I ri rj rq → va_P D vwCl (pq_P t σ (I, J, ri, rj, rq)) H → va_D A (pq_P t σ (I, J, ri, rj, rq)) → va_S A s.heap H locs → lv_has ls 5 [(1, .int a0), (2, .int a1), (3, .ref w_16)] → W p l e ({ frames := 2, cells := 0, slots := 0, locals := 44 } : Room) s m (List.toArray ([.ref this, .int a0, .int a1] : List Value)) below meth c H locs 0 0 Q (F0 m 76 ls []) := by
            intro H locs ls h_144 hF hFr hG hP hD hS hl
            replace hF := hF.trans g_X11_go_K76_e
            refine lv_iconst (v := 1) hx hb dX11_go_76 (by decide +kernel) ?_
            refine lv_goto (tgt := 81) hx hb dX11_go_77 (by decide +kernel) ?_
            exact K_133 _ _ _ (rg_w h_144 (by decide +kernel)) hF hFr hG hP hD hS (lv_sub hl [0, 1, 2] rfl)
          refine lv_if_ne (tgt := 76) hx hb dX11_go_47 (by decide +kernel) (fun c_145 => ?_) (fun c_145 => ?_)
          · replace hF := hF.trans (if_neg c_145)
            have f_150 := (hr_84.resolve_right (fun q => c_145 q.1)).2
            have h_151 : rg x_80 1 1 := rg_ne c_145 h_87 0 rfl (by decide +kernel)
            exact K_142 _ _ _ (rg_w f_150 (by decide +kernel)) hF hFr hG hP hD hS (lv_sub hl [2, 3, 0] rfl)
          · replace hF := hF.trans (if_pos c_145)
            have f_152 := (hr_84.resolve_left (fun q => absurd (q.1.symm.trans c_145) (by decide +kernel))).2
            have h_153 : rg x_80 0 0 := rg_and h_87 (rg_of_eq c_145 (rg_k (0 : Int32) 0 rfl)) (by decide +kernel)
            refine lv_iload_n hx hb dX11_go_50 rfl (lv_at hl 3 rfl) ?_
            refine lv_sipush (v := 200) hx hb dX11_go_51 (by decide +kernel) ?_
            refine lv_icmp_eq (tgt := 76) hx hb dX11_go_54 (by decide +kernel) (fun c_154 => ?_) (fun c_154 => ?_)
            · replace hF := hF.trans (if_pos c_154)
              have h_156 : rg a1 200 200 := rg_and (rg_full _) (rg_of_eq c_154 (rg_k (200 : Int32) 200 rfl)) (by decide +kernel)
              exact K_142 _ _ _ (rg_w h_156 (by decide +kernel)) hF hFr hG hP hD hS (lv_sub hl [2, 3, 0] rfl)
            · replace hF := hF.trans (if_neg c_154)
              refine lv_aload_n hx hb dX11_go_57 rfl (lv_at hl 1 rfl) ?_
              refine lv_iload_n hx hb dX11_go_58 rfl (lv_at hl 3 rfl) ?_
              refine pk_i (va_runV (As := [.int a1]) (rest := []) ⟨hx, hb, hml, hown, hts⟩ (s_X11_isLot l D t σ I J ri rj rq H.size tg hSH hG.1 this a1 hL_this hK_this this_now hR_this_now hL_this_now hK_this_now) (cwV 1 hts (tw_V tw_409 tw_410 tw_411 tw_2 tw_412) rfl rfl rfl cv_yX11_isLot_1 ⟨Nat.le_of_ble_eq_true rfl, Nat.le_of_ble_eq_true rfl⟩) ⟨pq_blind, pq_recv hK hP hL_this hK_this (by decide +kernel) rfl, pq_pre hK hN hP hD⟩ rfl rfl hl.1 rfl (lv_room (Nat.le_of_ble_eq_true rfl)) dX11_go_59 ⟨Nat.le_of_ble_eq_true rfl, Nat.le_of_ble_eq_true rfl⟩) hD hS hA (fun x_157 σ1 μ1 H locs hw_158 hP hD hS => ?_)
              obtain ⟨hu_159, hfn_162, hr_161⟩ := hw_158
              obtain ⟨hu_159a, hu_159b⟩ := Prod.mk.inj hu_159
              rw [hu_159a, hu_159b] at hP hD
              replace hF := hF.trans (bn_n hfn_162)
              have h_164 : rg x_157 0 1 := by rcases hr_161 with ⟨q, -⟩ | ⟨q, -⟩ <;> rw [q] <;> exact ⟨by decide +kernel, by decide +kernel⟩
              have K_182 : ∀  (H : Heap) (locs : List Loc) (ls : Array Slot), F = g_X11_go_K80 (vI 10 σ this_now I) (vJ 10 σ this_now J) (vR 10 σ this_now ri) (vL 10 σ this_now rj) (vQ 10 σ this_now rq)  → FR 10 tg σ this_now (I, J, ri, rj, rq) (I, J, ri, rj, rq) → GX [1005] tg σ I ri rj I ri rj rq → va_P D vwCl (pq_P t σ (I, J, ri, rj, rq)) H → va_D A (pq_P t σ (I, J, ri, rj, rq)) → va_S A s.heap H locs → lv_has ls 5 [(1, .int a0), (2, .int a1), (3, .ref w_16)] → W p l e ({ frames := 2, cells := 0, slots := 0, locals := 44 } : Room) s m (List.toArray ([.ref this, .int a0, .int a1] : List Value)) below meth c H locs 0 0 Q (F0 m 80 ls []) := by
                intro H locs ls hF hFr hG hP hD hS hl
                replace hF := hF.trans g_X11_go_K80_e
                refine lv_iconst (v := 0) hx hb dX11_go_80 (by decide +kernel) ?_
                exact K_127 _ _ _ (rg_w h_153 (by decide +kernel)) hF hFr hG hP hD hS (lv_sub hl [0, 1, 2] rfl)
              refine lv_if_eq (tgt := 80) hx hb dX11_go_62 (by decide +kernel) (fun c_183 => ?_) (fun c_183 => ?_)
              · replace hF := hF.trans (if_pos c_183)
                have f_188 := (hr_161.resolve_left (fun q => absurd (q.1.symm.trans c_183) (by decide +kernel))).2
                have h_189 : rg x_157 0 0 := rg_and h_164 (rg_of_eq c_183 (rg_k (0 : Int32) 0 rfl)) (by decide +kernel)
                exact K_182 _ _ _ hF hFr hG hP hD hS (lv_sub hl [2, 3, 0] rfl)
              · replace hF := hF.trans (if_neg c_183)
                have f_190 := (hr_161.resolve_right (fun q => c_183 q.1)).2
                have h_191 : rg x_157 1 1 := rg_ne c_183 h_164 0 rfl (by decide +kernel)
                refine lv_aload_n hx hb dX11_go_65 rfl (lv_at hl 0 rfl) ?_
                refine lv_iload_n hx hb dX11_go_66 rfl (lv_at hl 3 rfl) ?_
                refine lv_bipush (v := 100) hx hb dX11_go_67 (by decide +kernel) ?_
                refine lv_isub hx hb dX11_go_69 ?_
                refine lv_topi (fun x_192 ex_192 => ?_)
                replace hF := hF.trans (ap_n ex_192)
                have h_193 : rg x_192 0 4 := rg_of_eq ex_192 (rg_sub f_190 (rg_k (100 : Int32) 100 rfl) (by decide +kernel))
                refine pk_i (va_runV (As := [.int x_192]) (rest := []) ⟨hx, hb, hml, hown, hts⟩ (s_X0_freeBeds l D t σ I J ri rj rq H.size tg hSH hG.1 w_16 x_192 hL_w_16 hK_w_16 (rg_w h_193 (by decide +kernel)) this_now hL_this_now hK_this_now hO_w_16) (cwV 1 hts (tw_V tw_413 tw_414 tw_415 tw_45 tw_416) rfl rfl rfl cv_yX0_freeBeds_1 ⟨Nat.le_of_ble_eq_true rfl, Nat.le_of_ble_eq_true rfl⟩) ⟨pq_blind, pq_recv hK hP hL_w_16 hK_w_16 (by decide +kernel) rfl, pq_pre hK hN hP hD⟩ rfl rfl hl.1 rfl (lv_room (Nat.le_of_ble_eq_true rfl)) dX11_go_70 ⟨Nat.le_of_ble_eq_true rfl, Nat.le_of_ble_eq_true rfl⟩) hD hS hA (fun x_194 σ1 μ1 H locs hw_195 hP hD hS => ?_)
                obtain ⟨hu_196, hfn_199⟩ := hw_195
                obtain ⟨hu_196a, hu_196b⟩ := Prod.mk.inj hu_196
                rw [hu_196a, hu_196b] at hP hD
                replace hF := hF.trans (bn_n hfn_199)
                refine lv_if_le (tgt := 80) hx hb dX11_go_73 (by decide +kernel) (fun c_201 => ?_) (fun c_201 => ?_)
                · replace hF := hF.trans (if_pos c_201)
                  have h_204 : rg x_194 (-2147483648) 0 := rg_le1 c_201 (rg_full _) (rg_k (0 : Int32) 0 rfl) (by decide +kernel)
                  exact K_182 _ _ _ hF hFr hG hP hD hS (lv_sub hl [2, 3, 0] rfl)
                · replace hF := hF.trans (if_neg c_201)
                  have h_205 : rg x_194 1 2147483647 := rg_lt2 (nle c_201) (rg_k (0 : Int32) 0 rfl) (rg_full _) (by decide +kernel)
                  exact K_142 _ _ _ (rg_w f_190 (by decide +kernel)) hF hFr hG hP hD hS (lv_sub hl [2, 3, 0] rfl)
        · replace hF := hF.trans (if_pos c_78)
          have h_206 : rg a1 0 299 := rg_and (rg_full _) (rg_of_eq c_78.symm h_77) (by decide +kernel)
          exact K_72 _ _ _ hF hFr hG hP hD hS (lv_sub hl [] rfl)
    · replace hF := hF.trans (if_pos c_9)
      have f_207 := (hr_5.resolve_left (fun q => absurd (q.1.symm.trans c_9) (by decide +kernel))).2
      have h_208 : rg x_1 0 0 := rg_and h_8 (rg_of_eq c_9 (rg_k (0 : Int32) 0 rfl)) (by decide +kernel)
      refine lv_iconst (v := 0) hx hb dX11_go_8 (by decide +kernel) ?_
      subst hQ
      exact W.zret (v := 0) hx hb hr (by decide +kernel) (fun t1 ht hW => ⟨⟨0, (σ, I, J, ri, rj, rq), rfl, ⟨ri, rfl, hG, (hF0.symm.trans hF), hFr, (Or.inr ⟨rfl, trivial⟩)⟩, by rw [ht]; exact hP, va_K.moved hW.alike hK, hD⟩, hS.F ht⟩) hS.2.2 dX11_go_9
  exact go _ _ _ hP hD hS hl

set_option maxRecDepth 100000 in
def g_X11_death_K26 (I : Nat → Int32) (J : Nat → Int64) (ri : Nat → Nat → Int32) (rj : Nat → Nat → Int64) (rq : Nat → Nat → Option Nat) : Int32 × vM := ((-1 : Int32), I, J, ri, rj, rq)
set_option maxRecDepth 100000 in
theorem g_X11_death_K26_e {I : Nat → Int32} {J : Nat → Int64} {ri : Nat → Nat → Int32} {rj : Nat → Nat → Int64} {rq : Nat → Nat → Option Nat} : g_X11_death_K26 I J ri rj rq  = ((-1 : Int32), I, J, ri, rj, rq) := rfl
set_option maxRecDepth 100000 in
def g_X11_death (tI : Nat → Nat → Int32) (tR : Nat → Nat → Nat → Int32) (a0 : Int32) (I : Nat → Int32) (J : Nat → Int64) (ri : Nat → Nat → Int32) (rj : Nat → Nat → Int64) (rq : Nat → Nat → Option Nat) : Int32 × vM := (bnI (g_X11_isPerson a0 I J ri rj rq) fun (x_1 : Int32) (_ : Nat → Int32) (_ : Nat → Int64) (_ : Nat → Nat → Int32) (_ : Nat → Nat → Int64) (_ : Nat → Nat → Option Nat) => (if x_1 = (0 : Int32) then (g_X11_death_K26 I J ri rj rq ) else (ap1 (ri 5 (a0).toNatClampNeg) fun (x_50 : Int32) => (if x_50 = (300 : Int32) then (g_X11_death_K26 I J ri rj rq ) else (ap1 (va_up ri 5 (upd (ri 5) (a0).toNatClampNeg (300 : Int32))) fun (r_56 : Nat → Nat → Int32) => (bnI (g_X10_heirOf tI tR a0 I J r_56 rj rq) fun (x_57 : Int32) (_ : Nat → Int32) (_ : Nat → Int64) (ri_59 : Nat → Nat → Int32) (_ : Nat → Nat → Int64) (_ : Nat → Nat → Option Nat) => (bnI (g_X10_passTitles a0 x_57 I J ri_59 rj rq) fun (x_65 : Int32) (_ : Nat → Int32) (_ : Nat → Int64) (ri_67 : Nat → Nat → Int32) (_ : Nat → Nat → Int64) (_ : Nat → Nat → Option Nat) => (x_65, I, J, ri_67, rj, rq))))))))
set_option maxRecDepth 100000 in
theorem g_X11_death_e {tI : Nat → Nat → Int32} {tR : Nat → Nat → Nat → Int32} {a0 : Int32} {I : Nat → Int32} {J : Nat → Int64} {ri : Nat → Nat → Int32} {rj : Nat → Nat → Int64} {rq : Nat → Nat → Option Nat} : g_X11_death tI tR a0 I J ri rj rq = (bnI (g_X11_isPerson a0 I J ri rj rq) fun (x_1 : Int32) (_ : Nat → Int32) (_ : Nat → Int64) (_ : Nat → Nat → Int32) (_ : Nat → Nat → Int64) (_ : Nat → Nat → Option Nat) => (if x_1 = (0 : Int32) then (g_X11_death_K26 I J ri rj rq ) else (ap1 (ri 5 (a0).toNatClampNeg) fun (x_50 : Int32) => (if x_50 = (300 : Int32) then (g_X11_death_K26 I J ri rj rq ) else (ap1 (va_up ri 5 (upd (ri 5) (a0).toNatClampNeg (300 : Int32))) fun (r_56 : Nat → Nat → Int32) => (bnI (g_X10_heirOf tI tR a0 I J r_56 rj rq) fun (x_57 : Int32) (_ : Nat → Int32) (_ : Nat → Int64) (ri_59 : Nat → Nat → Int32) (_ : Nat → Nat → Int64) (_ : Nat → Nat → Option Nat) => (bnI (g_X10_passTitles a0 x_57 I J ri_59 rj rq) fun (x_65 : Int32) (_ : Nat → Int32) (_ : Nat → Int64) (ri_67 : Nat → Nat → Int32) (_ : Nat → Nat → Int64) (_ : Nat → Nat → Option Nat) => (x_65, I, J, ri_67, rj, rq)))))))) := rfl
set_option maxHeartbeats 4000000 in
set_option maxRecDepth 100000 in
theorem s_X11_death (l : Launch) (D : va_G) (t : pq_T) (σ : pq_S) (I : Nat → Nat → Int32) (J : Nat → Nat → Int64) (ri : Nat → Nat → Int32) (rj : Nat → Nat → Int64) (rq : Nat → Nat → Option Nat) (sz : Nat) (tg : Nat → Nat) (hSH : SH σ tg) (hG0 : GS tg σ I ri rq) (this : Nat) (a0 : Int32) (hL_this : this ∈ σ.1) (hK_this : σ.2.1 this = 11) (this_now : Nat) (hR_this_now : σ.2.2.1 352 this = some this_now) (hL_this_now : this_now ∈ σ.1) (hK_this_now : σ.2.1 this_now = 10) : MetI l yX11_death (wa yX11_death cX11_death 2 (some .int)) ({ frames := 4, cells := 0, slots := 0, locals := 120 }) [.ref this, .int a0] D t σ (I, J, ri, rj, rq) sz 0 0 (fun (r : Int32) (u : pq_S × pq_M) => ∃ ri' : Nat → Nat → Int32, u = (σ, I, J, ri', rj, rq) ∧ GX [1005] tg σ I ri rj I ri' rj rq ∧ g_X11_death (tI σ I) (tR σ ri) a0 (vI 10 σ this_now I) (vJ 10 σ this_now J) (vR 10 σ this_now ri) (vL 10 σ this_now rj) (vQ 10 σ this_now rq) = (r, (vI 10 σ this_now I), (vJ 10 σ this_now J), (vR 10 σ this_now ri'), (vL 10 σ this_now rj), (vQ 10 σ this_now rq)) ∧ FR 10 tg σ this_now (I, J, ri, rj, rq) (I, J, ri', rj, rq)) := by
  refine Met.ofW (cc := cX11_death) (maxL := 2) (ret := (some .int)) (by decide +kernel) rfl ?_
  intro p e s m args below meth c s₁ B hml hv
  obtain ⟨rfl, hsz, hP, hK, hD0, hN⟩ := hv
  have hx := B.exec
  have hb := B.bytes
  have hr := B.returns
  have hts := atoms_spec (ws := (wa yX11_death cX11_death 2 (some .int))) B.pre
  have hown : s.vm.findClass RX11 = some m.cls := findClass_of_methodNamed B.named
  have hlocks := B.notSynchronized
  subst hsz
  have hD : va_D (pq_B t σ (I, J, ri, rj, rq) s.heap.size) (pq_P t σ (I, J, ri, rj, rq)) := hD0.self
  generalize hAe : pq_B t σ (I, J, ri, rj, rq) s.heap.size = A at hD ⊢
  have hA : ∀ q : Nat, s.heap.size ≤ q → A q := fun q h => by rw [← hAe]; exact Or.inr h
  have hS : va_S A s.heap s.heap [] := va_S.rf
  have hG : GX [1005] tg σ I ri rj I ri rj rq := ⟨hG0, fun _ _ _ => rfl, fun _ _ _ _ _ => rfl, fun _ _ _ _ _ => rfl⟩
  have hl := lv_entry ([.ref this, .int a0]) (n := 2) (Nat.le_of_ble_eq_true rfl)
  rw [lg_entry_eq]
  generalize (lg_sl ([.ref this, .int a0]) ++ List.replicate (2 - (lg_sl ([.ref this, .int a0])).length) Slot.unset).toArray = ls at hl ⊢
  have hl : lv_has ls 2 [(0, .ref this), (1, .int a0)] := hl
  refine q_gen (fun Q hQ => ?_)
  have go : ∀ (H : Heap) (locs : List Loc) (ls : Array Slot), va_P D vwCl (pq_P t σ (I, J, ri, rj, rq)) H → va_D A (pq_P t σ (I, J, ri, rj, rq)) → va_S A s.heap H locs → lv_has ls 2 [(0, .ref this), (1, .int a0)] → W p l e ({ frames := 4, cells := 0, slots := 0, locals := 120 } : Room) s m (List.toArray ([.ref this, .int a0] : List Value)) below meth c H locs 0 0 Q (F0 m 0 ls []) := by
    intro H locs ls hP hD hS hl
    have hVT : VT 10 σ tg this_now := vt_10 hSH hL_this_now hK_this_now
    have hFr : FR 10 tg σ this_now (I, J, ri, rj, rq) (I, J, ri, rj, rq) := fr_rf
    have hO_this_now : this_now = vo σ 10 this_now := rfl
    obtain ⟨F, hF0⟩ : ∃ F, F = g_X11_death (tI σ I) (tR σ ri) a0 (vI 10 σ this_now I) (vJ 10 σ this_now J) (vR 10 σ this_now ri) (vL 10 σ this_now rj) (vQ 10 σ this_now rq) := ⟨_, rfl⟩
    have hF := hF0.trans g_X11_death_e
    refine lv_aload_n hx hb dX11_death_0 rfl (lv_at hl 0 rfl) ?_
    refine lv_iload_n hx hb dX11_death_1 rfl (lv_at hl 1 rfl) ?_
    refine pk_i (va_runV (As := [.int a0]) (rest := []) ⟨hx, hb, hml, hown, hts⟩ (s_X11_isPerson l D t σ I J ri rj rq H.size tg hSH hG.1 this a0 hL_this hK_this this_now hR_this_now hL_this_now hK_this_now) (cwV 1 hts (tw_V tw_405 tw_406 tw_407 tw_2 tw_408) rfl rfl rfl cv_yX11_isPerson_1 ⟨Nat.le_of_ble_eq_true rfl, Nat.le_of_ble_eq_true rfl⟩) ⟨pq_blind, pq_recv hK hP hL_this hK_this (by decide +kernel) rfl, pq_pre hK hN hP hD⟩ rfl rfl hl.1 rfl (lv_room (Nat.le_of_ble_eq_true rfl)) dX11_death_2 ⟨Nat.le_of_ble_eq_true rfl, Nat.le_of_ble_eq_true rfl⟩) hD hS hA (fun x_1 σ1 μ1 H locs hw_2 hP hD hS => ?_)
    obtain ⟨hu_3, hfn_6, hr_5⟩ := hw_2
    obtain ⟨hu_3a, hu_3b⟩ := Prod.mk.inj hu_3
    rw [hu_3a, hu_3b] at hP hD
    replace hF := hF.trans (bn_n hfn_6)
    have h_8 : rg x_1 0 1 := by rcases hr_5 with ⟨q, -⟩ | ⟨q, -⟩ <;> rw [q] <;> exact ⟨by decide +kernel, by decide +kernel⟩
    have K_38 : ∀  (H : Heap) (locs : List Loc) (ls : Array Slot), F = g_X11_death_K26 (vI 10 σ this_now I) (vJ 10 σ this_now J) (vR 10 σ this_now ri) (vL 10 σ this_now rj) (vQ 10 σ this_now rq)  → FR 10 tg σ this_now (I, J, ri, rj, rq) (I, J, ri, rj, rq) → GX [1005] tg σ I ri rj I ri rj rq → va_P D vwCl (pq_P t σ (I, J, ri, rj, rq)) H → va_D A (pq_P t σ (I, J, ri, rj, rq)) → va_S A s.heap H locs → lv_has ls 2 [] → W p l e ({ frames := 4, cells := 0, slots := 0, locals := 120 } : Room) s m (List.toArray ([.ref this, .int a0] : List Value)) below meth c H locs 0 0 Q (F0 m 26 ls []) := by
      intro H locs ls hF hFr hG hP hD hS hl
      replace hF := hF.trans g_X11_death_K26_e
      refine lv_iconst (v := (-1)) hx hb dX11_death_26 (by decide +kernel) ?_
      subst hQ
      exact W.iret (v := (-1)) hx hb hr (fun t1 ht hW => ⟨⟨(-1), (σ, I, J, ri, rj, rq), rfl, ⟨ri, rfl, hG, (hF0.symm.trans hF), hFr⟩, by rw [ht]; exact hP, va_K.moved hW.alike hK, hD⟩, hS.F ht⟩) hS.2.2 dX11_death_27
    refine lv_if_eq (tgt := 26) hx hb dX11_death_5 (by decide +kernel) (fun c_39 => ?_) (fun c_39 => ?_)
    · replace hF := hF.trans (if_pos c_39)
      have f_44 := (hr_5.resolve_left (fun q => absurd (q.1.symm.trans c_39) (by decide +kernel))).2
      have h_45 : rg x_1 0 0 := rg_and h_8 (rg_of_eq c_39 (rg_k (0 : Int32) 0 rfl)) (by decide +kernel)
      exact K_38 _ _ _ hF hFr hG hP hD hS (lv_sub hl [] rfl)
    · replace hF := hF.trans (if_neg c_39)
      have f_46 := (hr_5.resolve_right (fun q => c_39 q.1)).2
      have h_47 : rg x_1 1 1 := rg_ne c_39 h_8 0 rfl (by decide +kernel)
      refine lv_aload_n hx hb dX11_death_8 rfl (lv_at hl 0 rfl) ?_
      refine pg_f (v := .ref this_now) (C := RX11) (T := TX11) (N := 5) hx hb hts (tw_i inlX11) hown hK hP hL_this hK_this (by decide +kernel) rfl 0 (by decide +kernel) (hts _ (tw_c tw_16)) (pq_hv rfl hR_this_now) dX11_death_9 ?_
      obtain ⟨w_48, hR_w_48, hL_w_48, hK_w_48⟩ := sh_o hSH 328 (ci := 10) (kd := 0) rfl hL_this_now hK_this_now
      have hO_w_48 : w_48 = vo σ 0 this_now := vo_k (c := 10) hO_this_now hR_w_48
      refine pg_f (v := .ref w_48) (C := RX10) (T := TX10) (N := 13) hx hb hts (tw_i inlX10) hown hK hP hL_this_now hK_this_now (by decide +kernel) rfl 8 (by decide +kernel) (hts _ (tw_c tw_379)) (pq_hv rfl hR_w_48) dX11_death_12 ?_
      obtain ⟨w_49, hR_w_49, hL_w_49, hK_w_49, hN_w_49, hT_w_49⟩ := sh_a hSH 5 (ci := 0) (kd := 13) (len := 40) rfl (by decide +kernel) hL_w_48 hK_w_48
      have hO_w_49 : w_49 = vrow σ 5 this_now := vo_k (c := 0) hO_w_48 hR_w_49
      refine pg_f (v := .ref w_49) (C := RX0) (T := TX0) (N := 16) hx hb hts (tw_i inlX0) hown hK hP hL_w_48 hK_w_48 (by decide +kernel) rfl 5 (by decide +kernel) (hts _ (tw_c tw_404)) (pq_hv rfl hR_w_49) dX11_death_15 ?_
      refine lv_iload_n hx hb dX11_death_18 rfl (lv_at hl 1 rfl) ?_
      refine pl_i hx hb hK hP hL_w_49 hK_w_49 hN_w_49 (rg_in f_46 (by decide +kernel)) dX11_death_19 ?_
      refine lv_topi (fun x_50 ex_50 => ?_)
      replace hF := hF.trans (ap_n (vR_r hO_w_49 (by decide +kernel) ex_50))
      have h_51 : rg x_50 0 300 := rg_of_eq ex_50 (GX.rR hG hT_w_49 rfl)
      refine lv_sipush (v := 300) hx hb dX11_death_20 (by decide +kernel) ?_
      refine lv_icmp_ne (tgt := 28) hx hb dX11_death_23 (by decide +kernel) (fun c_52 => ?_) (fun c_52 => ?_)
      · replace hF := hF.trans (if_neg c_52)
        have h_55 : rg x_50 0 299 := rg_ne c_52 h_51 300 rfl (by decide +kernel)
        refine lv_aload_n hx hb dX11_death_28 rfl (lv_at hl 0 rfl) ?_
        refine pg_f (v := .ref this_now) (C := RX11) (T := TX11) (N := 5) hx hb hts (tw_i inlX11) hown hK hP hL_this hK_this (by decide +kernel) rfl 0 (by decide +kernel) (hts _ (tw_c tw_16)) (pq_hv rfl hR_this_now) dX11_death_29 ?_
        refine pg_f (v := .ref w_48) (C := RX10) (T := TX10) (N := 13) hx hb hts (tw_i inlX10) hown hK hP hL_this_now hK_this_now (by decide +kernel) rfl 8 (by decide +kernel) (hts _ (tw_c tw_379)) (pq_hv rfl hR_w_48) dX11_death_32 ?_
        refine pg_f (v := .ref w_49) (C := RX0) (T := TX0) (N := 16) hx hb hts (tw_i inlX0) hown hK hP hL_w_48 hK_w_48 (by decide +kernel) rfl 5 (by decide +kernel) (hts _ (tw_c tw_404)) (pq_hv rfl hR_w_49) dX11_death_35 ?_
        refine lv_iload_n hx hb dX11_death_38 rfl (lv_at hl 1 rfl) ?_
        refine lv_sipush (v := 300) hx hb dX11_death_39 (by decide +kernel) ?_
        refine pt_i hx hb hK hP hD hS hL_w_49 hK_w_49 hN_w_49 (rg_in f_46 (by decide +kernel)) dX11_death_42 (fun r_56 H locs er_56 hP hD hS => ?_)
        replace hFr := fr_R hFr hO_w_49 (by decide +kernel) er_56
        replace hF := hF.trans (ap_n (vR_st hVT hO_w_49 (by decide +kernel) er_56))
        have hG := GX.wR hG hSH hT_w_49 rfl er_56 (rg_w (rg_k (300 : Int32) 300 rfl) (by decide +kernel)) (by decide +kernel)
        refine lv_aload_n hx hb dX11_death_43 rfl (lv_at hl 0 rfl) ?_
        refine pg_f (v := .ref this_now) (C := RX11) (T := TX11) (N := 5) hx hb hts (tw_i inlX11) hown hK hP hL_this hK_this (by decide +kernel) rfl 0 (by decide +kernel) (hts _ (tw_c tw_16)) (pq_hv rfl hR_this_now) dX11_death_44 ?_
        refine lv_iload_n hx hb dX11_death_47 rfl (lv_at hl 1 rfl) ?_
        refine lv_aload_n hx hb dX11_death_48 rfl (lv_at hl 0 rfl) ?_
        refine pg_f (v := .ref this_now) (C := RX11) (T := TX11) (N := 5) hx hb hts (tw_i inlX11) hown hK hP hL_this hK_this (by decide +kernel) rfl 0 (by decide +kernel) (hts _ (tw_c tw_16)) (pq_hv rfl hR_this_now) dX11_death_49 ?_
        refine lv_iload_n hx hb dX11_death_52 rfl (lv_at hl 1 rfl) ?_
        refine pk_i (va_runV (As := [.int a0]) (rest := [.int a0, .ref this_now]) ⟨hx, hb, hml, hown, hts⟩ (s_X10_heirOf l D t σ I J r_56 rj rq H.size tg hSH hG.1 this_now a0 hL_this_now hK_this_now (rg_w f_46 (by decide +kernel))) (cwV 1 hts (tw_V tw_453 tw_454 tw_455 tw_15 tw_456) rfl rfl rfl cv_yX10_heirOf_1 ⟨Nat.le_of_ble_eq_true rfl, Nat.le_of_ble_eq_true rfl⟩) ⟨pq_blind, pq_recv hK hP hL_this_now hK_this_now (by decide +kernel) rfl, pq_pre hK hN hP hD⟩ rfl rfl hl.1 rfl (lv_room (Nat.le_of_ble_eq_true rfl)) dX11_death_53 ⟨Nat.le_of_ble_eq_true rfl, Nat.le_of_ble_eq_true rfl⟩) hD hS hA (fun x_57 σ1 μ1 H locs hw_58 hP hD hS => ?_)
        obtain ⟨ri_59, hu_60, hg_61, hfn_63, hfr_64, hr_62⟩ := hw_58
        obtain ⟨hu_60a, hu_60b⟩ := Prod.mk.inj hu_60
        rw [hu_60a, hu_60b] at hP hD
        rw [fr_tI hFr hVT, fr_tR hFr hVT] at hfn_63
        replace hF := hF.trans (bn_n hfn_63)
        replace hFr := fr_tr hFr hfr_64
        have hG := GX.tr hG hg_61 (by decide +kernel)
        refine pk_i (va_runV (As := [.int a0, .int x_57]) (rest := []) ⟨hx, hb, hml, hown, hts⟩ (s_X10_passTitles l D t σ I J ri_59 rj rq H.size tg hSH hG.1 this_now a0 x_57 hL_this_now hK_this_now (rg_w hr_62 (by decide +kernel))) (cwV 2 hts (tw_V tw_494 tw_495 tw_496 tw_15 tw_497) rfl rfl rfl cv_yX10_passTitles_2 ⟨Nat.le_of_ble_eq_true rfl, Nat.le_of_ble_eq_true rfl⟩) ⟨pq_blind, pq_recv hK hP hL_this_now hK_this_now (by decide +kernel) rfl, pq_pre hK hN hP hD⟩ rfl rfl hl.1 rfl (lv_room (Nat.le_of_ble_eq_true rfl)) dX11_death_56 ⟨Nat.le_of_ble_eq_true rfl, Nat.le_of_ble_eq_true rfl⟩) hD hS hA (fun x_65 σ1 μ1 H locs hw_66 hP hD hS => ?_)
        obtain ⟨ri_67, hu_68, hg_69, hfn_71, hfr_72⟩ := hw_66
        obtain ⟨hu_68a, hu_68b⟩ := Prod.mk.inj hu_68
        rw [hu_68a, hu_68b] at hP hD
        replace hF := hF.trans (bn_n hfn_71)
        replace hFr := fr_tr hFr hfr_72
        have hG := GX.tr hG hg_69 (by decide +kernel)
        subst hQ
        exact W.iret (v := x_65) hx hb hr (fun t1 ht hW => ⟨⟨x_65, (σ, I, J, ri_67, rj, rq), rfl, ⟨ri_67, rfl, hG, (hF0.symm.trans hF), hFr⟩, by rw [ht]; exact hP, va_K.moved hW.alike hK, hD⟩, hS.F ht⟩) hS.2.2 dX11_death_59
      · replace hF := hF.trans (if_pos c_52)
        have h_73 : rg x_50 300 300 := rg_and h_51 (rg_of_eq c_52 (rg_k (300 : Int32) 300 rfl)) (by decide +kernel)
        exact K_38 _ _ _ hF hFr hG hP hD hS (lv_sub hl [] rfl)
  exact go _ _ _ hP hD hS hl

set_option maxRecDepth 100000 in
def g_X11_title_K61 (I : Nat → Int32) (J : Nat → Int64) (ri : Nat → Nat → Int32) (rj : Nat → Nat → Int64) (rq : Nat → Nat → Option Nat) : Int32 × vM := ((0 : Int32), I, J, ri, rj, rq)
set_option maxRecDepth 100000 in
theorem g_X11_title_K61_e {I : Nat → Int32} {J : Nat → Int64} {ri : Nat → Nat → Int32} {rj : Nat → Nat → Int64} {rq : Nat → Nat → Option Nat} : g_X11_title_K61 I J ri rj rq  = ((0 : Int32), I, J, ri, rj, rq) := rfl
set_option maxRecDepth 100000 in
def g_X11_title_K46 (I : Nat → Int32) (J : Nat → Int64) (ri : Nat → Nat → Int32) (rj : Nat → Nat → Int64) (rq : Nat → Nat → Option Nat) : Int32 × vM := (g_X11_title_K61 I J ri rj rq )
set_option maxRecDepth 100000 in
theorem g_X11_title_K46_e {I : Nat → Int32} {J : Nat → Int64} {ri : Nat → Nat → Int32} {rj : Nat → Nat → Int64} {rq : Nat → Nat → Option Nat} : g_X11_title_K46 I J ri rj rq  = (g_X11_title_K61 I J ri rj rq ) := rfl
set_option maxRecDepth 100000 in
def g_X11_title_K61_2 (I : Nat → Int32) (J : Nat → Int64) (rj : Nat → Nat → Int64) (rq : Nat → Nat → Option Nat) (ri_55 : Nat → Nat → Int32) : Int32 × vM := ((1 : Int32), I, J, ri_55, rj, rq)
set_option maxRecDepth 100000 in
theorem g_X11_title_K61_2_e {I : Nat → Int32} {J : Nat → Int64} {rj : Nat → Nat → Int64} {rq : Nat → Nat → Option Nat} {ri_55 : Nat → Nat → Int32} : g_X11_title_K61_2 I J rj rq ri_55 = ((1 : Int32), I, J, ri_55, rj, rq) := rfl
set_option maxRecDepth 100000 in
def g_X11_title_K46_2 (a0 : Int32) (a1 : Int32) (I : Nat → Int32) (J : Nat → Int64) (ri : Nat → Nat → Int32) (rj : Nat → Nat → Int64) (rq : Nat → Nat → Option Nat) : Int32 × vM := (ap1 (va_up ri 325 (upd (ri 325) (a0).toNatClampNeg a1)) fun (r_59 : Nat → Nat → Int32) => (g_X11_title_K61_2 I J rj rq r_59))
set_option maxRecDepth 100000 in
theorem g_X11_title_K46_2_e {a0 : Int32} {a1 : Int32} {I : Nat → Int32} {J : Nat → Int64} {ri : Nat → Nat → Int32} {rj : Nat → Nat → Int64} {rq : Nat → Nat → Option Nat} : g_X11_title_K46_2 a0 a1 I J ri rj rq  = (ap1 (va_up ri 325 (upd (ri 325) (a0).toNatClampNeg a1)) fun (r_59 : Nat → Nat → Int32) => (g_X11_title_K61_2 I J rj rq r_59)) := rfl
set_option maxRecDepth 100000 in
def g_X11_title_K41 (a0 : Int32) (a1 : Int32) (I : Nat → Int32) (J : Nat → Int64) (ri : Nat → Nat → Int32) (rj : Nat → Nat → Int64) (rq : Nat → Nat → Option Nat) : Int32 × vM := (g_X11_title_K46_2 a0 a1 I J ri rj rq )
set_option maxRecDepth 100000 in
theorem g_X11_title_K41_e {a0 : Int32} {a1 : Int32} {I : Nat → Int32} {J : Nat → Int64} {ri : Nat → Nat → Int32} {rj : Nat → Nat → Int64} {rq : Nat → Nat → Option Nat} : g_X11_title_K41 a0 a1 I J ri rj rq  = (g_X11_title_K46_2 a0 a1 I J ri rj rq ) := rfl
set_option maxRecDepth 100000 in
def g_X11_title_K45 (I : Nat → Int32) (J : Nat → Int64) (ri : Nat → Nat → Int32) (rj : Nat → Nat → Int64) (rq : Nat → Nat → Option Nat) : Int32 × vM := (g_X11_title_K46 I J ri rj rq )
set_option maxRecDepth 100000 in
theorem g_X11_title_K45_e {I : Nat → Int32} {J : Nat → Int64} {ri : Nat → Nat → Int32} {rj : Nat → Nat → Int64} {rq : Nat → Nat → Option Nat} : g_X11_title_K45 I J ri rj rq  = (g_X11_title_K46 I J ri rj rq ) := rfl
set_option maxRecDepth 100000 in
def g_X11_title (a0 : Int32) (a1 : Int32) (I : Nat → Int32) (J : Nat → Int64) (ri : Nat → Nat → Int32) (rj : Nat → Nat → Int64) (rq : Nat → Nat → Option Nat) : Int32 × vM := (bnI (g_X11_isCell a0 I J ri rj rq) fun (x_1 : Int32) (_ : Nat → Int32) (_ : Nat → Int64) (_ : Nat → Nat → Int32) (_ : Nat → Nat → Int64) (_ : Nat → Nat → Option Nat) => (if x_1 = (0 : Int32) then ((0 : Int32), I, J, ri, rj, rq) else (if a1 = (-1 : Int32) then (g_X11_title_K41 a0 a1 I J ri rj rq ) else (bnI (g_X11_isPerson a1 I J ri rj rq) fun (x_66 : Int32) (_ : Nat → Int32) (_ : Nat → Int64) (_ : Nat → Nat → Int32) (_ : Nat → Nat → Int64) (_ : Nat → Nat → Option Nat) => (if x_66 = (0 : Int32) then (g_X11_title_K45 I J ri rj rq ) else (ap1 (ri 5 (a1).toNatClampNeg) fun (x_98 : Int32) => (if x_98 = (300 : Int32) then (g_X11_title_K45 I J ri rj rq ) else (g_X11_title_K41 a0 a1 I J ri rj rq ))))))))
set_option maxRecDepth 100000 in
theorem g_X11_title_e {a0 : Int32} {a1 : Int32} {I : Nat → Int32} {J : Nat → Int64} {ri : Nat → Nat → Int32} {rj : Nat → Nat → Int64} {rq : Nat → Nat → Option Nat} : g_X11_title a0 a1 I J ri rj rq = (bnI (g_X11_isCell a0 I J ri rj rq) fun (x_1 : Int32) (_ : Nat → Int32) (_ : Nat → Int64) (_ : Nat → Nat → Int32) (_ : Nat → Nat → Int64) (_ : Nat → Nat → Option Nat) => (if x_1 = (0 : Int32) then ((0 : Int32), I, J, ri, rj, rq) else (if a1 = (-1 : Int32) then (g_X11_title_K41 a0 a1 I J ri rj rq ) else (bnI (g_X11_isPerson a1 I J ri rj rq) fun (x_66 : Int32) (_ : Nat → Int32) (_ : Nat → Int64) (_ : Nat → Nat → Int32) (_ : Nat → Nat → Int64) (_ : Nat → Nat → Option Nat) => (if x_66 = (0 : Int32) then (g_X11_title_K45 I J ri rj rq ) else (ap1 (ri 5 (a1).toNatClampNeg) fun (x_98 : Int32) => (if x_98 = (300 : Int32) then (g_X11_title_K45 I J ri rj rq ) else (g_X11_title_K41 a0 a1 I J ri rj rq )))))))) := rfl
set_option maxHeartbeats 4000000 in
set_option maxRecDepth 100000 in
theorem s_X11_title (l : Launch) (D : va_G) (t : pq_T) (σ : pq_S) (I : Nat → Nat → Int32) (J : Nat → Nat → Int64) (ri : Nat → Nat → Int32) (rj : Nat → Nat → Int64) (rq : Nat → Nat → Option Nat) (sz : Nat) (tg : Nat → Nat) (hSH : SH σ tg) (hG0 : GS tg σ I ri rq) (this : Nat) (a0 : Int32) (a1 : Int32) (hL_this : this ∈ σ.1) (hK_this : σ.2.1 this = 11) (this_now : Nat) (hR_this_now : σ.2.2.1 352 this = some this_now) (hL_this_now : this_now ∈ σ.1) (hK_this_now : σ.2.1 this_now = 10) : MetI l yX11_title (wa yX11_title cX11_title 4 (some .boolean)) ({ frames := 2, cells := 0, slots := 0, locals := 43 }) [.ref this, .int a0, .int a1] D t σ (I, J, ri, rj, rq) sz 0 0 (fun (r : Int32) (u : pq_S × pq_M) => ∃ ri' : Nat → Nat → Int32, u = (σ, I, J, ri', rj, rq) ∧ GX [] tg σ I ri rj I ri' rj rq ∧ g_X11_title a0 a1 (vI 10 σ this_now I) (vJ 10 σ this_now J) (vR 10 σ this_now ri) (vL 10 σ this_now rj) (vQ 10 σ this_now rq) = (r, (vI 10 σ this_now I), (vJ 10 σ this_now J), (vR 10 σ this_now ri'), (vL 10 σ this_now rj), (vQ 10 σ this_now rq)) ∧ FR 10 tg σ this_now (I, J, ri, rj, rq) (I, J, ri', rj, rq) ∧ ((r = 1 ∧ rg a0 0 39 ∧ rg a1 (-1) 39) ∨ (r = 0 ∧ True))) := by
  refine Met.ofW (cc := cX11_title) (maxL := 4) (ret := (some .boolean)) (by decide +kernel) rfl ?_
  intro p e s m args below meth c s₁ B hml hv
  obtain ⟨rfl, hsz, hP, hK, hD0, hN⟩ := hv
  have hx := B.exec
  have hb := B.bytes
  have hr := B.returns
  have hts := atoms_spec (ws := (wa yX11_title cX11_title 4 (some .boolean))) B.pre
  have hown : s.vm.findClass RX11 = some m.cls := findClass_of_methodNamed B.named
  have hlocks := B.notSynchronized
  subst hsz
  have hD : va_D (pq_B t σ (I, J, ri, rj, rq) s.heap.size) (pq_P t σ (I, J, ri, rj, rq)) := hD0.self
  generalize hAe : pq_B t σ (I, J, ri, rj, rq) s.heap.size = A at hD ⊢
  have hA : ∀ q : Nat, s.heap.size ≤ q → A q := fun q h => by rw [← hAe]; exact Or.inr h
  have hS : va_S A s.heap s.heap [] := va_S.rf
  have hG : GX [] tg σ I ri rj I ri rj rq := ⟨hG0, fun _ _ _ => rfl, fun _ _ _ _ _ => rfl, fun _ _ _ _ _ => rfl⟩
  have hl := lv_entry ([.ref this, .int a0, .int a1]) (n := 4) (Nat.le_of_ble_eq_true rfl)
  rw [lg_entry_eq]
  generalize (lg_sl ([.ref this, .int a0, .int a1]) ++ List.replicate (4 - (lg_sl ([.ref this, .int a0, .int a1])).length) Slot.unset).toArray = ls at hl ⊢
  have hl : lv_has ls 4 [(0, .ref this), (1, .int a0), (2, .int a1)] := hl
  refine q_gen (fun Q hQ => ?_)
  have go : ∀ (H : Heap) (locs : List Loc) (ls : Array Slot), va_P D vwCl (pq_P t σ (I, J, ri, rj, rq)) H → va_D A (pq_P t σ (I, J, ri, rj, rq)) → va_S A s.heap H locs → lv_has ls 4 [(0, .ref this), (1, .int a0), (2, .int a1)] → W p l e ({ frames := 2, cells := 0, slots := 0, locals := 43 } : Room) s m (List.toArray ([.ref this, .int a0, .int a1] : List Value)) below meth c H locs 0 0 Q (F0 m 0 ls []) := by
    intro H locs ls hP hD hS hl
    have hVT : VT 10 σ tg this_now := vt_10 hSH hL_this_now hK_this_now
    have hFr : FR 10 tg σ this_now (I, J, ri, rj, rq) (I, J, ri, rj, rq) := fr_rf
    have hO_this_now : this_now = vo σ 10 this_now := rfl
    obtain ⟨F, hF0⟩ : ∃ F, F = g_X11_title a0 a1 (vI 10 σ this_now I) (vJ 10 σ this_now J) (vR 10 σ this_now ri) (vL 10 σ this_now rj) (vQ 10 σ this_now rq) := ⟨_, rfl⟩
    have hF := hF0.trans g_X11_title_e
    refine lv_aload_n hx hb dX11_title_0 rfl (lv_at hl 0 rfl) ?_
    refine lv_iload_n hx hb dX11_title_1 rfl (lv_at hl 1 rfl) ?_
    refine pk_i (va_runV (As := [.int a0]) (rest := []) ⟨hx, hb, hml, hown, hts⟩ (s_X11_isCell l D t σ I J ri rj rq H.size tg hSH hG.1 this a0 hL_this hK_this this_now hR_this_now hL_this_now hK_this_now) (cwV 1 hts (tw_V tw_332 tw_333 tw_334 tw_2 tw_335) rfl rfl rfl cv_yX11_isCell_1 ⟨Nat.le_of_ble_eq_true rfl, Nat.le_of_ble_eq_true rfl⟩) ⟨pq_blind, pq_recv hK hP hL_this hK_this (by decide +kernel) rfl, pq_pre hK hN hP hD⟩ rfl rfl hl.1 rfl (lv_room (Nat.le_of_ble_eq_true rfl)) dX11_title_2 ⟨Nat.le_of_ble_eq_true rfl, Nat.le_of_ble_eq_true rfl⟩) hD hS hA (fun x_1 σ1 μ1 H locs hw_2 hP hD hS => ?_)
    obtain ⟨hu_3, hfn_6, hr_5⟩ := hw_2
    obtain ⟨hu_3a, hu_3b⟩ := Prod.mk.inj hu_3
    rw [hu_3a, hu_3b] at hP hD
    replace hF := hF.trans (bn_n hfn_6)
    have h_8 : rg x_1 0 1 := by rcases hr_5 with ⟨q, -⟩ | ⟨q, -⟩ <;> rw [q] <;> exact ⟨by decide +kernel, by decide +kernel⟩
    refine lv_if_ne (tgt := 10) hx hb dX11_title_5 (by decide +kernel) (fun c_9 => ?_) (fun c_9 => ?_)
    · replace hF := hF.trans (if_neg c_9)
      have f_14 := (hr_5.resolve_right (fun q => c_9 q.1)).2
      have h_15 : rg x_1 1 1 := rg_ne c_9 h_8 0 rfl (by decide +kernel)
      refine lv_iload_n hx hb dX11_title_10 rfl (lv_at hl 2 rfl) ?_
      refine lv_iconst (v := (-1)) hx hb dX11_title_11 (by decide +kernel) ?_
      have K_45 : ∀  (H : Heap) (locs : List Loc) (ls : Array Slot), F = g_X11_title_K46 (vI 10 σ this_now I) (vJ 10 σ this_now J) (vR 10 σ this_now ri) (vL 10 σ this_now rj) (vQ 10 σ this_now rq)  → FR 10 tg σ this_now (I, J, ri, rj, rq) (I, J, ri, rj, rq) → GX [] tg σ I ri rj I ri rj rq → va_P D vwCl (pq_P t σ (I, J, ri, rj, rq)) H → va_D A (pq_P t σ (I, J, ri, rj, rq)) → va_S A s.heap H locs → lv_has ls 4 [(0, .ref this), (1, .int a0), (2, .int a1)] → W p l e ({ frames := 2, cells := 0, slots := 0, locals := 43 } : Room) s m (List.toArray ([.ref this, .int a0, .int a1] : List Value)) below meth c H locs 0 0 Q (F0 m 46 ls [.int 0]) := by
        intro H locs ls hF hFr hG hP hD hS hl
        replace hF := hF.trans g_X11_title_K46_e
        refine lv_istore_n (lv' := [(3, .int 0), (0, .ref this), (1, .int a0), (2, .int a1)]) hx hb dX11_title_46 rfl hl (by decide +kernel) rfl (fun ls hl => ?_)
        refine lv_iload_n hx hb dX11_title_47 rfl (lv_at hl 0 rfl) ?_
        have K_47 : ∀  (H : Heap) (locs : List Loc) (ls : Array Slot), F = g_X11_title_K61 (vI 10 σ this_now I) (vJ 10 σ this_now J) (vR 10 σ this_now ri) (vL 10 σ this_now rj) (vQ 10 σ this_now rq)  → FR 10 tg σ this_now (I, J, ri, rj, rq) (I, J, ri, rj, rq) → GX [] tg σ I ri rj I ri rj rq → va_P D vwCl (pq_P t σ (I, J, ri, rj, rq)) H → va_D A (pq_P t σ (I, J, ri, rj, rq)) → va_S A s.heap H locs → lv_has ls 4 [(3, .int 0)] → W p l e ({ frames := 2, cells := 0, slots := 0, locals := 43 } : Room) s m (List.toArray ([.ref this, .int a0, .int a1] : List Value)) below meth c H locs 0 0 Q (F0 m 61 ls []) := by
          intro H locs ls hF hFr hG hP hD hS hl
          replace hF := hF.trans g_X11_title_K61_e
          refine lv_iload_n hx hb dX11_title_61 rfl (lv_at hl 0 rfl) ?_
          subst hQ
          exact W.zret (v := 0) hx hb hr (by decide +kernel) (fun t1 ht hW => ⟨⟨0, (σ, I, J, ri, rj, rq), rfl, ⟨ri, rfl, hG, (hF0.symm.trans hF), hFr, (Or.inr ⟨rfl, trivial⟩)⟩, by rw [ht]; exact hP, va_K.moved hW.alike hK, hD⟩, hS.F ht⟩) hS.2.2 dX11_title_62
        refine lv_if_eq (tgt := 61) hx hb dX11_title_48 (by decide +kernel) (fun c_48 => ?_) (fun c_48 => absurd c_48 (by decide +kernel))
        exact K_47 _ _ _ hF hFr hG hP hD hS (lv_sub hl [0] rfl)
      have K_49 : ∀  (H : Heap) (locs : List Loc) (ls : Array Slot), rg (a1) (-1) 39 → F = g_X11_title_K46_2 a0 a1 (vI 10 σ this_now I) (vJ 10 σ this_now J) (vR 10 σ this_now ri) (vL 10 σ this_now rj) (vQ 10 σ this_now rq)  → FR 10 tg σ this_now (I, J, ri, rj, rq) (I, J, ri, rj, rq) → GX [] tg σ I ri rj I ri rj rq → va_P D vwCl (pq_P t σ (I, J, ri, rj, rq)) H → va_D A (pq_P t σ (I, J, ri, rj, rq)) → va_S A s.heap H locs → lv_has ls 4 [(0, .ref this), (1, .int a0), (2, .int a1)] → W p l e ({ frames := 2, cells := 0, slots := 0, locals := 43 } : Room) s m (List.toArray ([.ref this, .int a0, .int a1] : List Value)) below meth c H locs 0 0 Q (F0 m 46 ls [.int 1]) := by
        intro H locs ls h_51 hF hFr hG hP hD hS hl
        replace hF := hF.trans g_X11_title_K46_2_e
        refine lv_istore_n (lv' := [(3, .int 1), (0, .ref this), (1, .int a0), (2, .int a1)]) hx hb dX11_title_46 rfl hl (by decide +kernel) rfl (fun ls hl => ?_)
        refine lv_iload_n hx hb dX11_title_47 rfl (lv_at hl 0 rfl) ?_
        have K_56 : ∀  (ri_55 : Nat → Nat → Int32) (H : Heap) (locs : List Loc) (ls : Array Slot), F = g_X11_title_K61_2 (vI 10 σ this_now I) (vJ 10 σ this_now J) (vL 10 σ this_now rj) (vQ 10 σ this_now rq) (vR 10 σ this_now ri_55) → FR 10 tg σ this_now (I, J, ri, rj, rq) (I, J, ri_55, rj, rq) → GX [] tg σ I ri rj I ri_55 rj rq → va_P D vwCl (pq_P t σ (I, J, ri_55, rj, rq)) H → va_D A (pq_P t σ (I, J, ri_55, rj, rq)) → va_S A s.heap H locs → lv_has ls 4 [(3, .int 1)] → W p l e ({ frames := 2, cells := 0, slots := 0, locals := 43 } : Room) s m (List.toArray ([.ref this, .int a0, .int a1] : List Value)) below meth c H locs 0 0 Q (F0 m 61 ls []) := by
          intro ri_55 H locs ls hF hFr hG hP hD hS hl
          replace hF := hF.trans g_X11_title_K61_2_e
          refine lv_iload_n hx hb dX11_title_61 rfl (lv_at hl 0 rfl) ?_
          subst hQ
          exact W.zret (v := 1) hx hb hr (by decide +kernel) (fun t1 ht hW => ⟨⟨1, (σ, I, J, ri_55, rj, rq), rfl, ⟨ri_55, rfl, hG, (hF0.symm.trans hF), hFr, (Or.inl ⟨rfl, (rg_w f_14 (by decide +kernel)), (rg_w h_51 (by decide +kernel))⟩)⟩, by rw [ht]; exact hP, va_K.moved hW.alike hK, hD⟩, hS.F ht⟩) hS.2.2 dX11_title_62
        refine lv_if_eq (tgt := 61) hx hb dX11_title_48 (by decide +kernel) (fun c_57 => absurd c_57 (by decide +kernel)) (fun c_57 => ?_)
        refine lv_aload_n hx hb dX11_title_51 rfl (lv_at hl 1 rfl) ?_
        refine pg_f (v := .ref this_now) (C := RX11) (T := TX11) (N := 5) hx hb hts (tw_i inlX11) hown hK hP hL_this hK_this (by decide +kernel) rfl 0 (by decide +kernel) (hts _ (tw_c tw_16)) (pq_hv rfl hR_this_now) dX11_title_52 ?_
        obtain ⟨w_58, hR_w_58, hL_w_58, hK_w_58, hN_w_58, hT_w_58⟩ := sh_a hSH 325 (ci := 10) (kd := 13) (len := 40) rfl (by decide +kernel) hL_this_now hK_this_now
        have hO_w_58 : w_58 = vrow σ 325 this_now := vo_k (c := 10) hO_this_now hR_w_58
        refine pg_f (v := .ref w_58) (C := RX10) (T := TX10) (N := 13) hx hb hts (tw_i inlX10) hown hK hP hL_this_now hK_this_now (by decide +kernel) rfl 5 (by decide +kernel) (hts _ (tw_c tw_536)) (pq_hv rfl hR_w_58) dX11_title_55 ?_
        refine lv_iload_n hx hb dX11_title_58 rfl (lv_at hl 2 rfl) ?_
        refine lv_iload_n hx hb dX11_title_59 rfl (lv_at hl 3 rfl) ?_
        refine pt_i hx hb hK hP hD hS hL_w_58 hK_w_58 hN_w_58 (rg_in f_14 (by decide +kernel)) dX11_title_60 (fun r_59 H locs er_59 hP hD hS => ?_)
        replace hFr := fr_R hFr hO_w_58 (by decide +kernel) er_59
        replace hF := hF.trans (ap_n (vR_st hVT hO_w_58 (by decide +kernel) er_59))
        have hG := GX.wR hG hSH hT_w_58 rfl er_59 (rg_w h_51 (by decide +kernel)) (by decide +kernel)
        exact K_56 r_59 _ _ _ hF hFr hG hP hD hS (lv_sub hl [0] rfl)
      have K_60 : ∀  (H : Heap) (locs : List Loc) (ls : Array Slot), rg (a1) (-1) 39 → F = g_X11_title_K41 a0 a1 (vI 10 σ this_now I) (vJ 10 σ this_now J) (vR 10 σ this_now ri) (vL 10 σ this_now rj) (vQ 10 σ this_now rq)  → FR 10 tg σ this_now (I, J, ri, rj, rq) (I, J, ri, rj, rq) → GX [] tg σ I ri rj I ri rj rq → va_P D vwCl (pq_P t σ (I, J, ri, rj, rq)) H → va_D A (pq_P t σ (I, J, ri, rj, rq)) → va_S A s.heap H locs → lv_has ls 4 [(0, .ref this), (1, .int a0), (2, .int a1)] → W p l e ({ frames := 2, cells := 0, slots := 0, locals := 43 } : Room) s m (List.toArray ([.ref this, .int a0, .int a1] : List Value)) below meth c H locs 0 0 Q (F0 m 41 ls []) := by
        intro H locs ls h_62 hF hFr hG hP hD hS hl
        replace hF := hF.trans g_X11_title_K41_e
        refine lv_iconst (v := 1) hx hb dX11_title_41 (by decide +kernel) ?_
        refine lv_goto (tgt := 46) hx hb dX11_title_42 (by decide +kernel) ?_
        exact K_49 _ _ _ (rg_w h_62 (by decide +kernel)) hF hFr hG hP hD hS (lv_sub hl [0, 1, 2] rfl)
      refine lv_icmp_eq (tgt := 41) hx hb dX11_title_12 (by decide +kernel) (fun c_63 => ?_) (fun c_63 => ?_)
      · replace hF := hF.trans (if_pos c_63)
        have h_65 : rg a1 (-1) (-1) := rg_and (rg_full _) (rg_of_eq c_63 (rg_k (-1 : Int32) (-1) rfl)) (by decide +kernel)
        exact K_60 _ _ _ (rg_w h_65 (by decide +kernel)) hF hFr hG hP hD hS (lv_sub hl [0, 1, 2] rfl)
      · replace hF := hF.trans (if_neg c_63)
        refine lv_aload_n hx hb dX11_title_15 rfl (lv_at hl 0 rfl) ?_
        refine lv_iload_n hx hb dX11_title_16 rfl (lv_at hl 2 rfl) ?_
        refine pk_i (va_runV (As := [.int a1]) (rest := []) ⟨hx, hb, hml, hown, hts⟩ (s_X11_isPerson l D t σ I J ri rj rq H.size tg hSH hG.1 this a1 hL_this hK_this this_now hR_this_now hL_this_now hK_this_now) (cwV 1 hts (tw_V tw_405 tw_406 tw_407 tw_2 tw_408) rfl rfl rfl cv_yX11_isPerson_1 ⟨Nat.le_of_ble_eq_true rfl, Nat.le_of_ble_eq_true rfl⟩) ⟨pq_blind, pq_recv hK hP hL_this hK_this (by decide +kernel) rfl, pq_pre hK hN hP hD⟩ rfl rfl hl.1 rfl (lv_room (Nat.le_of_ble_eq_true rfl)) dX11_title_17 ⟨Nat.le_of_ble_eq_true rfl, Nat.le_of_ble_eq_true rfl⟩) hD hS hA (fun x_66 σ1 μ1 H locs hw_67 hP hD hS => ?_)
        obtain ⟨hu_68, hfn_71, hr_70⟩ := hw_67
        obtain ⟨hu_68a, hu_68b⟩ := Prod.mk.inj hu_68
        rw [hu_68a, hu_68b] at hP hD
        replace hF := hF.trans (bn_n hfn_71)
        have h_73 : rg x_66 0 1 := by rcases hr_70 with ⟨q, -⟩ | ⟨q, -⟩ <;> rw [q] <;> exact ⟨by decide +kernel, by decide +kernel⟩
        have K_86 : ∀  (H : Heap) (locs : List Loc) (ls : Array Slot), F = g_X11_title_K45 (vI 10 σ this_now I) (vJ 10 σ this_now J) (vR 10 σ this_now ri) (vL 10 σ this_now rj) (vQ 10 σ this_now rq)  → FR 10 tg σ this_now (I, J, ri, rj, rq) (I, J, ri, rj, rq) → GX [] tg σ I ri rj I ri rj rq → va_P D vwCl (pq_P t σ (I, J, ri, rj, rq)) H → va_D A (pq_P t σ (I, J, ri, rj, rq)) → va_S A s.heap H locs → lv_has ls 4 [(0, .ref this), (1, .int a0), (2, .int a1)] → W p l e ({ frames := 2, cells := 0, slots := 0, locals := 43 } : Room) s m (List.toArray ([.ref this, .int a0, .int a1] : List Value)) below meth c H locs 0 0 Q (F0 m 45 ls []) := by
          intro H locs ls hF hFr hG hP hD hS hl
          replace hF := hF.trans g_X11_title_K45_e
          refine lv_iconst (v := 0) hx hb dX11_title_45 (by decide +kernel) ?_
          exact K_45 _ _ _ hF hFr hG hP hD hS (lv_sub hl [0, 1, 2] rfl)
        refine lv_if_eq (tgt := 45) hx hb dX11_title_20 (by decide +kernel) (fun c_87 => ?_) (fun c_87 => ?_)
        · replace hF := hF.trans (if_pos c_87)
          have f_92 := (hr_70.resolve_left (fun q => absurd (q.1.symm.trans c_87) (by decide +kernel))).2
          have h_93 : rg x_66 0 0 := rg_and h_73 (rg_of_eq c_87 (rg_k (0 : Int32) 0 rfl)) (by decide +kernel)
          exact K_86 _ _ _ hF hFr hG hP hD hS (lv_sub hl [0, 1, 2] rfl)
        · replace hF := hF.trans (if_neg c_87)
          have f_94 := (hr_70.resolve_right (fun q => c_87 q.1)).2
          have h_95 : rg x_66 1 1 := rg_ne c_87 h_73 0 rfl (by decide +kernel)
          refine lv_aload_n hx hb dX11_title_23 rfl (lv_at hl 0 rfl) ?_
          refine pg_f (v := .ref this_now) (C := RX11) (T := TX11) (N := 5) hx hb hts (tw_i inlX11) hown hK hP hL_this hK_this (by decide +kernel) rfl 0 (by decide +kernel) (hts _ (tw_c tw_16)) (pq_hv rfl hR_this_now) dX11_title_24 ?_
          obtain ⟨w_96, hR_w_96, hL_w_96, hK_w_96⟩ := sh_o hSH 328 (ci := 10) (kd := 0) rfl hL_this_now hK_this_now
          have hO_w_96 : w_96 = vo σ 0 this_now := vo_k (c := 10) hO_this_now hR_w_96
          refine pg_f (v := .ref w_96) (C := RX10) (T := TX10) (N := 13) hx hb hts (tw_i inlX10) hown hK hP hL_this_now hK_this_now (by decide +kernel) rfl 8 (by decide +kernel) (hts _ (tw_c tw_379)) (pq_hv rfl hR_w_96) dX11_title_27 ?_
          obtain ⟨w_97, hR_w_97, hL_w_97, hK_w_97, hN_w_97, hT_w_97⟩ := sh_a hSH 5 (ci := 0) (kd := 13) (len := 40) rfl (by decide +kernel) hL_w_96 hK_w_96
          have hO_w_97 : w_97 = vrow σ 5 this_now := vo_k (c := 0) hO_w_96 hR_w_97
          refine pg_f (v := .ref w_97) (C := RX0) (T := TX0) (N := 16) hx hb hts (tw_i inlX0) hown hK hP hL_w_96 hK_w_96 (by decide +kernel) rfl 5 (by decide +kernel) (hts _ (tw_c tw_404)) (pq_hv rfl hR_w_97) dX11_title_30 ?_
          refine lv_iload_n hx hb dX11_title_33 rfl (lv_at hl 2 rfl) ?_
          refine pl_i hx hb hK hP hL_w_97 hK_w_97 hN_w_97 (rg_in f_94 (by decide +kernel)) dX11_title_34 ?_
          refine lv_topi (fun x_98 ex_98 => ?_)
          replace hF := hF.trans (ap_n (vR_r hO_w_97 (by decide +kernel) ex_98))
          have h_99 : rg x_98 0 300 := rg_of_eq ex_98 (GX.rR hG hT_w_97 rfl)
          refine lv_sipush (v := 300) hx hb dX11_title_35 (by decide +kernel) ?_
          refine lv_icmp_eq (tgt := 45) hx hb dX11_title_38 (by decide +kernel) (fun c_100 => ?_) (fun c_100 => ?_)
          · replace hF := hF.trans (if_pos c_100)
            have h_103 : rg x_98 300 300 := rg_and h_99 (rg_of_eq c_100 (rg_k (300 : Int32) 300 rfl)) (by decide +kernel)
            exact K_86 _ _ _ hF hFr hG hP hD hS (lv_sub hl [0, 1, 2] rfl)
          · replace hF := hF.trans (if_neg c_100)
            have h_104 : rg x_98 0 299 := rg_ne c_100 h_99 300 rfl (by decide +kernel)
            exact K_60 _ _ _ (rg_w f_94 (by decide +kernel)) hF hFr hG hP hD hS (lv_sub hl [0, 1, 2] rfl)
    · replace hF := hF.trans (if_pos c_9)
      have f_105 := (hr_5.resolve_left (fun q => absurd (q.1.symm.trans c_9) (by decide +kernel))).2
      have h_106 : rg x_1 0 0 := rg_and h_8 (rg_of_eq c_9 (rg_k (0 : Int32) 0 rfl)) (by decide +kernel)
      refine lv_iconst (v := 0) hx hb dX11_title_8 (by decide +kernel) ?_
      subst hQ
      exact W.zret (v := 0) hx hb hr (by decide +kernel) (fun t1 ht hW => ⟨⟨0, (σ, I, J, ri, rj, rq), rfl, ⟨ri, rfl, hG, (hF0.symm.trans hF), hFr, (Or.inr ⟨rfl, trivial⟩)⟩, by rw [ht]; exact hP, va_K.moved hW.alike hK, hD⟩, hS.F ht⟩) hS.2.2 dX11_title_9
  exact go _ _ _ hP hD hS hl
