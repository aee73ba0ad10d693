theorem dX11_ring_0 : decode cX11_ring 0 = .ok (.aload_n 0, 1) := by decide +kernel
theorem dX11_ring_1 : decode cX11_ring 1 = .ok (.getfield 10, 3) := by decide +kernel
theorem dX11_ring_4 : decode cX11_ring 4 = .ok (.getfield 36, 3) := by decide +kernel
theorem dX11_ring_7 : decode cX11_ring 7 = .ok (.astore_n 1, 1) := by decide +kernel
theorem dX11_ring_8 : decode cX11_ring 8 = .ok (.aload_n 1, 1) := by decide +kernel
theorem dX11_ring_9 : decode cX11_ring 9 = .ok (.getfield 40, 3) := by decide +kernel
theorem dX11_ring_12 : decode cX11_ring 12 = .ok (.iconst 5, 1) := by decide +kernel
theorem dX11_ring_13 : decode cX11_ring 13 = .ok (.if_icmp .lt 5, 3) := by decide +kernel
theorem dX11_ring_18 : decode cX11_ring 18 = .ok (.aload_n 1, 1) := by decide +kernel
theorem dX11_ring_19 : decode cX11_ring 19 = .ok (.dup, 1) := by decide +kernel
theorem dX11_ring_20 : decode cX11_ring 20 = .ok (.getfield 40, 3) := by decide +kernel
theorem dX11_ring_23 : decode cX11_ring 23 = .ok (.iconst 1, 1) := by decide +kernel
theorem dX11_ring_24 : decode cX11_ring 24 = .ok (.iadd, 1) := by decide +kernel
theorem dX11_ring_25 : decode cX11_ring 25 = .ok (.putfield 40, 3) := by decide +kernel
theorem dX11_ring_28 : decode cX11_ring 28 = .ok (.aload_n 1, 1) := by decide +kernel
theorem dX11_ring_29 : decode cX11_ring 29 = .ok (.getfield 40, 3) := by decide +kernel
theorem dX11_ring_32 : decode cX11_ring 32 = .ok (.iconst 1, 1) := by decide +kernel
theorem dX11_ring_33 : decode cX11_ring 33 = .ok (.isub, 1) := by decide +kernel
theorem dX11_ring_34 : decode cX11_ring 34 = .ok (.ireturn, 1) := by decide +kernel
theorem dX11_cell_0 : decode cX11_cell 0 = .ok (.aload_n 0, 1) := by decide +kernel
theorem dX11_cell_1 : decode cX11_cell 1 = .ok (.iload_n 1, 1) := by decide +kernel
theorem tw_211 : Cond.methodLink RX11 46 yX11_isRing ∈ wsL_law := List.mem_of_getElem? (i := 211) (by decide +kernel)
theorem tw_212 : Cond.instanceMethod yX11_isRing ∈ wsL_law := List.mem_of_getElem? (i := 212) (by decide +kernel)
theorem tw_213 : Cond.selects RX11 yX11_isRing yX11_isRing ∈ wsL_law := List.mem_of_getElem? (i := 213) (by decide +kernel)
theorem tw_214 : Cond.code yX11_isRing cX11_isRing 2 (some .boolean) ∈ wsL_law := List.mem_of_getElem? (i := 214) (by decide +kernel)
theorem dX11_cell_2 : decode cX11_cell 2 = .ok (.invokevirtual 46, 3) := by decide +kernel
theorem dX11_cell_5 : decode cX11_cell 5 = .ok (.ifCond .eq 65, 3) := by decide +kernel
theorem dX11_cell_70 : decode cX11_cell 70 = .ok (.iconst 0, 1) := by decide +kernel
theorem dX11_cell_71 : decode cX11_cell 71 = .ok (.istore 7, 2) := by decide +kernel
theorem dX11_cell_73 : decode cX11_cell 73 = .ok (.iload 7, 2) := by decide +kernel
theorem dX11_cell_75 : decode cX11_cell 75 = .ok (.ifCond .eq 28, 3) := by decide +kernel
theorem dX11_cell_103 : decode cX11_cell 103 = .ok (.iconst (-1), 1) := by decide +kernel
theorem dX11_cell_104 : decode cX11_cell 104 = .ok (.ireturn, 1) := by decide +kernel
theorem dX11_wall_0 : decode cX11_wall 0 = .ok (.aload_n 0, 1) := by decide +kernel
theorem dX11_wall_1 : decode cX11_wall 1 = .ok (.iload_n 1, 1) := by decide +kernel
theorem tw_332 : Cond.methodLink RX11 119 yX11_isCell ∈ wsL_law := List.mem_of_getElem? (i := 332) (by decide +kernel)
theorem tw_333 : Cond.instanceMethod yX11_isCell ∈ wsL_law := List.mem_of_getElem? (i := 333) (by decide +kernel)
theorem tw_334 : Cond.selects RX11 yX11_isCell yX11_isCell ∈ wsL_law := List.mem_of_getElem? (i := 334) (by decide +kernel)
theorem tw_335 : Cond.code yX11_isCell cX11_isCell 2 (some .boolean) ∈ wsL_law := List.mem_of_getElem? (i := 335) (by decide +kernel)
theorem dX11_wall_2 : decode cX11_wall 2 = .ok (.invokevirtual 119, 3) := by decide +kernel
theorem dX11_wall_5 : decode cX11_wall 5 = .ok (.ifCond .eq 14, 3) := by decide +kernel
theorem dX11_wall_19 : decode cX11_wall 19 = .ok (.iconst 0, 1) := by decide +kernel
theorem dX11_wall_20 : decode cX11_wall 20 = .ok (.ireturn, 1) := by decide +kernel
theorem dX11_well_0 : decode cX11_well 0 = .ok (.aload_n 0, 1) := by decide +kernel
theorem dX11_well_1 : decode cX11_well 1 = .ok (.iload_n 1, 1) := by decide +kernel
theorem dX11_well_2 : decode cX11_well 2 = .ok (.invokevirtual 119, 3) := by decide +kernel
theorem dX11_well_5 : decode cX11_well 5 = .ok (.ifCond .eq 39, 3) := by decide +kernel
theorem dX11_well_44 : decode cX11_well 44 = .ok (.iconst 0, 1) := by decide +kernel
theorem dX11_well_45 : decode cX11_well 45 = .ok (.istore 5, 2) := by decide +kernel
theorem dX11_well_47 : decode cX11_well 47 = .ok (.iload 5, 2) := by decide +kernel
theorem dX11_well_49 : decode cX11_well 49 = .ok (.ifCond .eq 20, 3) := by decide +kernel
theorem dX11_well_69 : decode cX11_well 69 = .ok (.iconst 0, 1) := by decide +kernel
theorem dX11_well_70 : decode cX11_well 70 = .ok (.ireturn, 1) := by decide +kernel
theorem dX11_beds_0 : decode cX11_beds 0 = .ok (.aload_n 0, 1) := by decide +kernel
theorem dX11_beds_1 : decode cX11_beds 1 = .ok (.iload_n 1, 1) := by decide +kernel
theorem dX11_beds_2 : decode cX11_beds 2 = .ok (.invokevirtual 119, 3) := by decide +kernel
theorem dX11_beds_5 : decode cX11_beds 5 = .ok (.ifCond .ne 5, 3) := by decide +kernel
theorem dX11_beds_8 : decode cX11_beds 8 = .ok (.iconst (-1), 1) := by decide +kernel
theorem dX11_beds_9 : decode cX11_beds 9 = .ok (.ireturn, 1) := by decide +kernel
theorem dX11_person_0 : decode cX11_person 0 = .ok (.iload_n 1, 1) := by decide +kernel
theorem dX11_person_1 : decode cX11_person 1 = .ok (.iconst 0, 1) := by decide +kernel
theorem dX11_person_2 : decode cX11_person 2 = .ok (.bipush 9, 2) := by decide +kernel
theorem dX11_person_4 : decode cX11_person 4 = .ok (.invokestatic 50, 3) := by decide +kernel
theorem dX11_person_7 : decode cX11_person 7 = .ok (.ifCond .eq 47, 3) := by decide +kernel
theorem dX11_person_10 : decode cX11_person 10 = .ok (.iload_n 2, 1) := by decide +kernel
theorem dX11_person_11 : decode cX11_person 11 = .ok (.iconst 0, 1) := by decide +kernel
theorem dX11_person_12 : decode cX11_person 12 = .ok (.bipush 99, 2) := by decide +kernel
theorem dX11_person_14 : decode cX11_person 14 = .ok (.invokestatic 50, 3) := by decide +kernel
theorem dX11_person_17 : decode cX11_person 17 = .ok (.ifCond .eq 37, 3) := by decide +kernel
theorem dX11_person_20 : decode cX11_person 20 = .ok (.iload_n 3, 1) := by decide +kernel
theorem dX11_person_21 : decode cX11_person 21 = .ok (.iconst 0, 1) := by decide +kernel
theorem dX11_person_22 : decode cX11_person 22 = .ok (.bipush 7, 2) := by decide +kernel
theorem dX11_person_24 : decode cX11_person 24 = .ok (.invokestatic 50, 3) := by decide +kernel
theorem dX11_person_27 : decode cX11_person 27 = .ok (.ifCond .eq 27, 3) := by decide +kernel
theorem dX11_person_30 : decode cX11_person 30 = .ok (.aload_n 0, 1) := by decide +kernel
theorem dX11_person_31 : decode cX11_person 31 = .ok (.iload 4, 2) := by decide +kernel
theorem dX11_person_33 : decode cX11_person 33 = .ok (.invokevirtual 46, 3) := by decide +kernel
theorem dX11_person_36 : decode cX11_person 36 = .ok (.ifCond .eq 18, 3) := by decide +kernel
theorem dX11_person_54 : decode cX11_person 54 = .ok (.iconst 0, 1) := by decide +kernel
theorem dX11_person_55 : decode cX11_person 55 = .ok (.istore 6, 2) := by decide +kernel
theorem dX11_person_57 : decode cX11_person 57 = .ok (.iload 6, 2) := by decide +kernel
theorem dX11_person_59 : decode cX11_person 59 = .ok (.ifCond .eq 18, 3) := by decide +kernel
theorem dX11_person_77 : decode cX11_person 77 = .ok (.iconst (-1), 1) := by decide +kernel
theorem dX11_person_78 : decode cX11_person 78 = .ok (.ireturn, 1) := by decide +kernel
theorem dX11_go_0 : decode cX11_go 0 = .ok (.aload_n 0, 1) := by decide +kernel
theorem dX11_go_1 : decode cX11_go 1 = .ok (.iload_n 1, 1) := by decide +kernel
theorem tw_405 : Cond.methodLink RX11 162 yX11_isPerson ∈ wsL_law := List.mem_of_getElem? (i := 405) (by decide +kernel)
theorem tw_406 : Cond.instanceMethod yX11_isPerson ∈ wsL_law := List.mem_of_getElem? (i := 406) (by decide +kernel)
theorem tw_407 : Cond.selects RX11 yX11_isPerson yX11_isPerson ∈ wsL_law := List.mem_of_getElem? (i := 407) (by decide +kernel)
theorem tw_408 : Cond.code yX11_isPerson cX11_isPerson 2 (some .boolean) ∈ wsL_law := List.mem_of_getElem? (i := 408) (by decide +kernel)
theorem dX11_go_2 : decode cX11_go 2 = .ok (.invokevirtual 162, 3) := by decide +kernel
theorem dX11_go_5 : decode cX11_go 5 = .ok (.ifCond .ne 5, 3) := by decide +kernel
theorem dX11_go_8 : decode cX11_go 8 = .ok (.iconst 0, 1) := by decide +kernel
theorem dX11_go_9 : decode cX11_go 9 = .ok (.ireturn, 1) := by decide +kernel
theorem dX11_death_0 : decode cX11_death 0 = .ok (.aload_n 0, 1) := by decide +kernel
theorem dX11_death_1 : decode cX11_death 1 = .ok (.iload_n 1, 1) := by decide +kernel
theorem dX11_death_2 : decode cX11_death 2 = .ok (.invokevirtual 162, 3) := by decide +kernel
theorem dX11_death_5 : decode cX11_death 5 = .ok (.ifCond .eq 21, 3) := by decide +kernel
theorem dX11_death_26 : decode cX11_death 26 = .ok (.iconst (-1), 1) := by decide +kernel
theorem dX11_death_27 : decode cX11_death 27 = .ok (.ireturn, 1) := by decide +kernel
theorem dX11_title_0 : decode cX11_title 0 = .ok (.aload_n 0, 1) := by decide +kernel
theorem dX11_title_1 : decode cX11_title 1 = .ok (.iload_n 1, 1) := by decide +kernel
theorem dX11_title_2 : decode cX11_title 2 = .ok (.invokevirtual 119, 3) := by decide +kernel
theorem dX11_title_5 : decode cX11_title 5 = .ok (.ifCond .ne 5, 3) := by decide +kernel
theorem dX11_title_8 : decode cX11_title 8 = .ok (.iconst 0, 1) := by decide +kernel
theorem dX11_title_9 : decode cX11_title 9 = .ok (.ireturn, 1) := by decide +kernel
theorem dX11_titleOf_0 : decode cX11_titleOf 0 = .ok (.aload_n 0, 1) := by decide +kernel
theorem dX11_titleOf_1 : decode cX11_titleOf 1 = .ok (.iload_n 1, 1) := by decide +kernel
theorem dX11_titleOf_2 : decode cX11_titleOf 2 = .ok (.invokevirtual 119, 3) := by decide +kernel
theorem dX11_titleOf_5 : decode cX11_titleOf 5 = .ok (.ifCond .ne 5, 3) := by decide +kernel
theorem dX11_titleOf_8 : decode cX11_titleOf 8 = .ok (.iconst (-1), 1) := by decide +kernel
theorem dX11_titleOf_9 : decode cX11_titleOf 9 = .ok (.ireturn, 1) := by decide +kernel
theorem dX11_choose_0 : decode cX11_choose 0 = .ok (.aload_n 0, 1) := by decide +kernel
theorem dX11_choose_1 : decode cX11_choose 1 = .ok (.iload_n 1, 1) := by decide +kernel
theorem dX11_choose_2 : decode cX11_choose 2 = .ok (.invokevirtual 162, 3) := by decide +kernel
theorem dX11_choose_5 : decode cX11_choose 5 = .ok (.ifCond .eq 12, 3) := by decide +kernel
theorem dX11_choose_17 : decode cX11_choose 17 = .ok (.iconst 0, 1) := by decide +kernel
theorem dX11_choose_18 : decode cX11_choose 18 = .ok (.ireturn, 1) := by decide +kernel
theorem dX11_is_0 : decode cX11_is 0 = .ok (.iload_n 1, 1) := by decide +kernel
theorem dX11_is_1 : decode cX11_is 1 = .ok (.iconst 0, 1) := by decide +kernel
theorem dX11_is_2 : decode cX11_is 2 = .ok (.iconst 2, 1) := by decide +kernel
theorem dX11_is_3 : decode cX11_is 3 = .ok (.invokestatic 50, 3) := by decide +kernel
theorem dX11_is_6 : decode cX11_is 6 = .ok (.ifCond .eq 18, 3) := by decide +kernel
theorem dX11_is_9 : decode cX11_is 9 = .ok (.aload_n 0, 1) := by decide +kernel
theorem dX11_is_10 : decode cX11_is 10 = .ok (.iload_n 2, 1) := by decide +kernel
theorem dX11_is_11 : decode cX11_is 11 = .ok (.invokevirtual 162, 3) := by decide +kernel
theorem dX11_is_14 : decode cX11_is 14 = .ok (.ifCond .eq 10, 3) := by decide +kernel
theorem dX11_is_24 : decode cX11_is 24 = .ok (.iconst (-1), 1) := by decide +kernel
theorem dX11_is_25 : decode cX11_is 25 = .ok (.ireturn, 1) := by decide +kernel
theorem dX11_why_0 : decode cX11_why 0 = .ok (.iload_n 1, 1) := by decide +kernel
theorem dX11_why_1 : decode cX11_why 1 = .ok (.iconst 0, 1) := by decide +kernel
theorem dX11_why_2 : decode cX11_why 2 = .ok (.iconst 2, 1) := by decide +kernel
theorem dX11_why_3 : decode cX11_why 3 = .ok (.invokestatic 50, 3) := by decide +kernel
theorem dX11_why_6 : decode cX11_why 6 = .ok (.ifCond .eq 18, 3) := by decide +kernel
theorem dX11_why_9 : decode cX11_why 9 = .ok (.aload_n 0, 1) := by decide +kernel
theorem dX11_why_10 : decode cX11_why 10 = .ok (.iload_n 2, 1) := by decide +kernel
theorem dX11_why_11 : decode cX11_why 11 = .ok (.invokevirtual 162, 3) := by decide +kernel
theorem dX11_why_14 : decode cX11_why 14 = .ok (.ifCond .eq 10, 3) := by decide +kernel
theorem dX11_why_24 : decode cX11_why 24 = .ok (.iconst (-1), 1) := by decide +kernel
theorem dX11_why_25 : decode cX11_why 25 = .ok (.ireturn, 1) := by decide +kernel
theorem dX11_cellOf_0 : decode cX11_cellOf 0 = .ok (.aload_n 0, 1) := by decide +kernel
theorem dX11_cellOf_1 : decode cX11_cellOf 1 = .ok (.iload_n 1, 1) := by decide +kernel
theorem dX11_cellOf_2 : decode cX11_cellOf 2 = .ok (.invokevirtual 119, 3) := by decide +kernel
theorem dX11_cellOf_5 : decode cX11_cellOf 5 = .ok (.ifCond .ne 6, 3) := by decide +kernel
theorem tw_269 : Cond.constant RX11 83 (-1000000) ∈ wsL_law := List.mem_of_getElem? (i := 269) (by decide +kernel)
theorem dX11_cellOf_8 : decode cX11_cellOf 8 = .ok (.ldc 83, 2) := by decide +kernel
theorem dX11_cellOf_10 : decode cX11_cellOf 10 = .ok (.ireturn, 1) := by decide +kernel
theorem dX11_personOf_0 : decode cX11_personOf 0 = .ok (.aload_n 0, 1) := by decide +kernel
theorem dX11_personOf_1 : decode cX11_personOf 1 = .ok (.iload_n 1, 1) := by decide +kernel
theorem dX11_personOf_2 : decode cX11_personOf 2 = .ok (.invokevirtual 162, 3) := by decide +kernel
theorem dX11_personOf_5 : decode cX11_personOf 5 = .ok (.ifCond .ne 5, 3) := by decide +kernel
theorem dX11_personOf_8 : decode cX11_personOf 8 = .ok (.iconst (-1), 1) := by decide +kernel
theorem dX11_personOf_9 : decode cX11_personOf 9 = .ok (.ireturn, 1) := by decide +kernel
theorem dX11_grave_0 : decode cX11_grave 0 = .ok (.aload_n 0, 1) := by decide +kernel
theorem dX11_grave_1 : decode cX11_grave 1 = .ok (.iload_n 1, 1) := by decide +kernel
theorem dX11_grave_2 : decode cX11_grave 2 = .ok (.invokevirtual 119, 3) := by decide +kernel
theorem dX11_grave_5 : decode cX11_grave 5 = .ok (.ifCond .eq 18, 3) := by decide +kernel
theorem dX11_grave_23 : decode cX11_grave 23 = .ok (.iconst (-1), 1) := by decide +kernel
theorem dX11_grave_24 : decode cX11_grave 24 = .ok (.ireturn, 1) := by decide +kernel
theorem dX11_bury_0 : decode cX11_bury 0 = .ok (.iload_n 1, 1) := by decide +kernel
theorem dX11_bury_1 : decode cX11_bury 1 = .ok (.iconst 0, 1) := by decide +kernel
theorem dX11_bury_2 : decode cX11_bury 2 = .ok (.aload_n 0, 1) := by decide +kernel
theorem dX11_bury_3 : decode cX11_bury 3 = .ok (.getfield 10, 3) := by decide +kernel
theorem tw_1499 : Cond.fieldLink RX11 355 "RingsUnder$World" "graves" "LRingsUnder$Graves;" ∈ wsL_law := List.mem_of_getElem? (i := 1499) (by decide +kernel)
theorem dX11_bury_6 : decode cX11_bury 6 = .ok (.getfield 355, 3) := by decide +kernel
theorem tw_1500 : Cond.fieldLink RX11 359 "RingsUnder$Graves" "count" "I" ∈ wsL_law := List.mem_of_getElem? (i := 1500) (by decide +kernel)
theorem dX11_bury_9 : decode cX11_bury 9 = .ok (.getfield 359, 3) := by decide +kernel
theorem dX11_bury_12 : decode cX11_bury 12 = .ok (.iconst 1, 1) := by decide +kernel
theorem dX11_bury_13 : decode cX11_bury 13 = .ok (.isub, 1) := by decide +kernel
theorem dX11_bury_14 : decode cX11_bury 14 = .ok (.invokestatic 50, 3) := by decide +kernel
theorem dX11_bury_17 : decode cX11_bury 17 = .ok (.ifCond .eq 11, 3) := by decide +kernel
theorem dX11_bury_28 : decode cX11_bury 28 = .ok (.iconst 0, 1) := by decide +kernel
theorem dX11_bury_29 : decode cX11_bury 29 = .ok (.ireturn, 1) := by decide +kernel
theorem dX11_found_0 : decode cX11_found 0 = .ok (.aload_n 0, 1) := by decide +kernel
theorem dX11_found_1 : decode cX11_found 1 = .ok (.iload_n 1, 1) := by decide +kernel
theorem dX11_found_2 : decode cX11_found 2 = .ok (.invokevirtual 119, 3) := by decide +kernel
theorem dX11_found_5 : decode cX11_found 5 = .ok (.ifCond .eq 22, 3) := by decide +kernel
theorem dX11_found_27 : decode cX11_found 27 = .ok (.iconst (-1), 1) := by decide +kernel
theorem dX11_found_28 : decode cX11_found 28 = .ok (.ireturn, 1) := by decide +kernel
theorem dX11_force_0 : decode cX11_force 0 = .ok (.aload_n 0, 1) := by decide +kernel
theorem dX11_force_1 : decode cX11_force 1 = .ok (.getfield 10, 3) := by decide +kernel
theorem tw_648 : Cond.fieldLink RX11 208 "RingsUnder$World" "law" "LRingsUnder$Law;" ∈ wsL_law := List.mem_of_getElem? (i := 648) (by decide +kernel)
theorem dX11_force_4 : decode cX11_force 4 = .ok (.getfield 208, 3) := by decide +kernel
theorem dX11_force_7 : decode cX11_force 7 = .ok (.astore 4, 2) := by decide +kernel
theorem dX11_force_9 : decode cX11_force 9 = .ok (.iload_n 1, 1) := by decide +kernel
theorem dX11_force_10 : decode cX11_force 10 = .ok (.iconst 0, 1) := by decide +kernel
theorem dX11_force_11 : decode cX11_force 11 = .ok (.aload 4, 2) := by decide +kernel
theorem tw_649 : Cond.fieldLink RX11 212 "RingsUnder$Law" "textCount" "I" ∈ wsL_law := List.mem_of_getElem? (i := 649) (by decide +kernel)
theorem dX11_force_13 : decode cX11_force 13 = .ok (.getfield 212, 3) := by decide +kernel
theorem dX11_force_16 : decode cX11_force 16 = .ok (.iconst 1, 1) := by decide +kernel
theorem dX11_force_17 : decode cX11_force 17 = .ok (.isub, 1) := by decide +kernel
theorem dX11_force_18 : decode cX11_force 18 = .ok (.invokestatic 50, 3) := by decide +kernel
theorem dX11_force_21 : decode cX11_force 21 = .ok (.ifCond .eq 37, 3) := by decide +kernel
theorem dX11_force_58 : decode cX11_force 58 = .ok (.iconst 0, 1) := by decide +kernel
theorem dX11_force_59 : decode cX11_force 59 = .ok (.istore 5, 2) := by decide +kernel
theorem dX11_force_61 : decode cX11_force 61 = .ok (.iload 5, 2) := by decide +kernel
theorem dX11_force_63 : decode cX11_force 63 = .ok (.ifCond .eq 13, 3) := by decide +kernel
theorem dX11_force_76 : decode cX11_force 76 = .ok (.iconst (-1), 1) := by decide +kernel
theorem dX11_force_77 : decode cX11_force 77 = .ok (.ireturn, 1) := by decide +kernel
theorem dX11_sinks_0 : decode cX11_sinks 0 = .ok (.aload_n 0, 1) := by decide +kernel
theorem dX11_sinks_1 : decode cX11_sinks 1 = .ok (.iload_n 1, 1) := by decide +kernel
theorem dX11_sinks_2 : decode cX11_sinks 2 = .ok (.invokevirtual 119, 3) := by decide +kernel
theorem dX11_sinks_5 : decode cX11_sinks 5 = .ok (.ifCond .eq 14, 3) := by decide +kernel
theorem dX11_sinks_19 : decode cX11_sinks 19 = .ok (.iconst (-1), 1) := by decide +kernel
theorem dX11_sinks_20 : decode cX11_sinks 20 = .ok (.ireturn, 1) := by decide +kernel
theorem dX11_keeps_0 : decode cX11_keeps 0 = .ok (.aload_n 0, 1) := by decide +kernel
theorem dX11_keeps_1 : decode cX11_keeps 1 = .ok (.iload_n 1, 1) := by decide +kernel
theorem dX11_keeps_2 : decode cX11_keeps 2 = .ok (.invokevirtual 119, 3) := by decide +kernel
theorem dX11_keeps_5 : decode cX11_keeps 5 = .ok (.ifCond .eq 27, 3) := by decide +kernel
theorem dX11_keeps_32 : decode cX11_keeps 32 = .ok (.iconst 0, 1) := by decide +kernel
theorem dX11_keeps_33 : decode cX11_keeps 33 = .ok (.istore 5, 2) := by decide +kernel
theorem dX11_keeps_35 : decode cX11_keeps 35 = .ok (.iload 5, 2) := by decide +kernel
theorem dX11_keeps_37 : decode cX11_keeps 37 = .ok (.ifCond .eq 18, 3) := by decide +kernel
theorem dX11_keeps_55 : decode cX11_keeps 55 = .ok (.ldc 83, 2) := by decide +kernel
theorem dX11_keeps_57 : decode cX11_keeps 57 = .ok (.ireturn, 1) := by decide +kernel
set_option maxHeartbeats 4000000 in
set_option maxRecDepth 100000 in
theorem c_X11_ring (l : Launch) (D : va_G) (t : pq_T) (σ : pq_S) (I : Nat → Nat → Int32) (J : Nat → Nat → Int64) (ri : Nat → Nat → Int32) (rj : Nat → Nat → Int64) (rq : Nat → Nat → Option Nat) (sz : Nat) (this : Nat) (hL_this : this ∈ σ.1) (hK_this : σ.2.1 this = 11) (this_now : Nat) (hR_this_now : σ.2.2.1 352 this = some this_now) (hL_this_now : this_now ∈ σ.1) (hK_this_now : σ.2.1 this_now = 10) (this_now_land : Nat) (hR_this_now_land : σ.2.2.1 327 this_now = some this_now_land) (hL_this_now_land : this_now_land ∈ σ.1) (hK_this_now_land : σ.2.1 this_now_land = 2) (hZ : pq_Z I) : MetI l yX11_ring (wa yX11_ring cX11_ring 2 (some .int)) ({ frames := 0, cells := 0, slots := 0, locals := 0 }) [.ref this] D t σ (I, J, ri, rj, rq) sz 0 0 (fun (r : Int32) (u : pq_S × pq_M) => ∃ I' : Nat → Nat → Int32, u = (σ, I', J, ri, rj, rq) ∧ (∀ f, f ∉ ([64] : List Nat) → I' f = I f) ∧ ((r = 0))) := by
  refine Met.ofW (cc := cX11_ring) (maxL := 2) (ret := (some .int)) (by decide) rfl ?_
  intro p e s m args below meth c s₁ B hml hv
  obtain ⟨rfl, hsz, hP, hK, hD0, hN⟩ := hv
  have hx := B.exec
  have hb := B.bytes
  have hr := B.returns
  have hts := atoms_spec (ws := (wa yX11_ring cX11_ring 2 (some .int))) B.pre
  have hown : s.vm.findClass RX11 = some m.cls := findClass_of_methodNamed B.named
  have hlocks := B.notSynchronized
  subst hsz
  have hD : va_D (pq_B t σ (I, J, ri, rj, rq) s.heap.size) (pq_P t σ (I, J, ri, rj, rq)) := hD0.self
  generalize hAe : pq_B t σ (I, J, ri, rj, rq) s.heap.size = A at hD ⊢
  have hA : ∀ q : Nat, s.heap.size ≤ q → A q := fun q h => by rw [← hAe]; exact Or.inr h
  have hS : va_S A s.heap s.heap [] := va_S.rf
  have hl := lv_entry ([.ref this]) (n := 2) (Nat.le_of_ble_eq_true rfl)
  rw [lg_entry_eq]
  generalize (lg_sl ([.ref this]) ++ List.replicate (2 - (lg_sl ([.ref this])).length) Slot.unset).toArray = ls at hl ⊢
  have hl : lv_has ls 2 [(0, .ref this)] := hl
  refine lv_aload_n hx hb dX11_ring_0 rfl (lv_at hl 0 rfl) ?_
  refine pg_f (v := .ref this_now) (C := RX11) (T := TX11) (N := 5) hx hb hts (tw_i inlX11) hown hK hP hL_this hK_this (by decide) rfl 0 (by decide) (hts _ (tw_c tw_16)) (pq_hv rfl hR_this_now) dX11_ring_1 ?_
  refine pg_f (v := .ref this_now_land) (C := RX10) (T := TX10) (N := 13) hx hb hts (tw_i inlX10) hown hK hP hL_this_now hK_this_now (by decide) rfl 7 (by decide) (hts _ (tw_c tw_199)) (pq_hv rfl hR_this_now_land) dX11_ring_4 ?_
  refine lv_astore_n (lv' := [(1, .ref this_now_land), (0, .ref this)]) hx hb dX11_ring_7 rfl hl (by decide) rfl (fun ls hl => ?_)
  refine lv_aload_n hx hb dX11_ring_8 rfl (lv_at hl 0 rfl) ?_
  refine pg_f (v := .int (I 64 this_now_land)) (C := RX2) (T := TX2) (N := 20) hx hb hts (tw_i inlX2) hown hK hP hL_this_now_land hK_this_now_land (by decide) rfl 0 (by decide) (hts _ (tw_c tw_200)) rfl dX11_ring_9 ?_
  refine lv_tov 0 (congrFun (hZ 64 (by decide)) this_now_land) ?_
  refine lv_iconst (v := 5) hx hb dX11_ring_12 (by decide) ?_
  refine lv_icmp_lt (tgt := 18) hx hb dX11_ring_13 (by decide) (fun c_1 => ?_) (fun c_1 => absurd c_1 (by decide))
  refine lv_aload_n hx hb dX11_ring_18 rfl (lv_at hl 0 rfl) ?_
  refine lv_dup hx hb dX11_ring_19 rfl ?_
  refine pg_f (v := .int (I 64 this_now_land)) (C := RX2) (T := TX2) (N := 20) hx hb hts (tw_i inlX2) hown hK hP hL_this_now_land hK_this_now_land (by decide) rfl 0 (by decide) (hts _ (tw_c tw_200)) rfl dX11_ring_20 ?_
  refine lv_tov 0 (congrFun (hZ 64 (by decide)) this_now_land) ?_
  refine lv_iconst (v := 1) hx hb dX11_ring_23 (by decide) ?_
  refine lv_iadd hx hb dX11_ring_24 ?_
  refine lv_tov 1 (by decide) ?_
  refine pp_i (v := 1) (ty := .int) (C := RX2) (T := TX2) (N := 20) hx hb hts (tw_i inlX2) tyX2 tyX2_ok nmX2 hown hK hP hD hS hL_this_now_land hK_this_now_land (by decide) rfl 0 64 (by decide) (hts _ (tw_c tw_200)) rfl (by decide +kernel) rfl rfl (Nat.le_of_ble_eq_true rfl) (ps_64 _ _ _ _ _) dX11_ring_25 (fun I_2 H locs eI_2 hP hD hS => ?_)
  refine lv_aload_n hx hb dX11_ring_28 rfl (lv_at hl 0 rfl) ?_
  refine pg_f (v := .int (I_2 64 this_now_land)) (C := RX2) (T := TX2) (N := 20) hx hb hts (tw_i inlX2) hown hK hP hL_this_now_land hK_this_now_land (by decide) rfl 0 (by decide) (hts _ (tw_c tw_200)) rfl dX11_ring_29 ?_
  refine lv_tov 1 (by rw [eI_2]; exact pq_us _ _ _ _) ?_
  refine lv_iconst (v := 1) hx hb dX11_ring_32 (by decide) ?_
  refine lv_isub hx hb dX11_ring_33 ?_
  refine lv_tov 0 (by decide) ?_
  exact W.iret (v := 0) hx hb hr (fun t1 ht hW => ⟨⟨0, (σ, I_2, J, ri, rj, rq), rfl, ⟨I_2, rfl, (fun f hg => by rw [eI_2, pq_uf _ _ _ (by intro q; subst q; exact hg (by decide))]), rfl⟩, by rw [ht]; exact hP, va_K.moved hW.alike hK, hD⟩, hS.F ht⟩) hS.2.2 dX11_ring_34

set_option maxHeartbeats 4000000 in
set_option maxRecDepth 100000 in
theorem c_X11_cell (l : Launch) (D : va_G) (t : pq_T) (σ : pq_S) (I : Nat → Nat → Int32) (J : Nat → Nat → Int64) (ri : Nat → Nat → Int32) (rj : Nat → Nat → Int64) (rq : Nat → Nat → Option Nat) (sz : Nat) (this : Nat) (a_ring : Int32) (a_height : Int32) (a_x : Int32) (a_y : Int32) (a_sand : Int32) (a_reef : Int32) (hL_this : this ∈ σ.1) (hK_this : σ.2.1 this = 11) (this_now : Nat) (hR_this_now : σ.2.2.1 352 this = some this_now) (hL_this_now : this_now ∈ σ.1) (hK_this_now : σ.2.1 this_now = 10) (this_now_land : Nat) (hR_this_now_land : σ.2.2.1 327 this_now = some this_now_land) (hL_this_now_land : this_now_land ∈ σ.1) (hK_this_now_land : σ.2.1 this_now_land = 2) (hZ : pq_Z I) : MetI l yX11_cell (wa yX11_cell cX11_cell 8 (some .int)) ({ frames := 2, cells := 0, slots := 0, locals := 43 }) [.ref this, .int a_ring, .int a_height, .int a_x, .int a_y, .int a_sand, .int a_reef] D t σ (I, J, ri, rj, rq) sz 0 0 (fun (r : Int32) (u : pq_S × pq_M) => u = (σ, I, J, ri, rj, rq) ∧ ((r = (-1)))) := by
  refine Met.ofW (cc := cX11_cell) (maxL := 8) (ret := (some .int)) (by decide) rfl ?_
  intro p e s m args below meth c s₁ B hml hv
  obtain ⟨rfl, hsz, hP, hK, hD0, hN⟩ := hv
  have hx := B.exec
  have hb := B.bytes
  have hr := B.returns
  have hts := atoms_spec (ws := (wa yX11_cell cX11_cell 8 (some .int))) B.pre
  have hown : s.vm.findClass RX11 = some m.cls := findClass_of_methodNamed B.named
  have hlocks := B.notSynchronized
  subst hsz
  have hD : va_D (pq_B t σ (I, J, ri, rj, rq) s.heap.size) (pq_P t σ (I, J, ri, rj, rq)) := hD0.self
  generalize hAe : pq_B t σ (I, J, ri, rj, rq) s.heap.size = A at hD ⊢
  have hA : ∀ q : Nat, s.heap.size ≤ q → A q := fun q h => by rw [← hAe]; exact Or.inr h
  have hS : va_S A s.heap s.heap [] := va_S.rf
  have hl := lv_entry ([.ref this, .int a_ring, .int a_height, .int a_x, .int a_y, .int a_sand, .int a_reef]) (n := 8) (Nat.le_of_ble_eq_true rfl)
  rw [lg_entry_eq]
  generalize (lg_sl ([.ref this, .int a_ring, .int a_height, .int a_x, .int a_y, .int a_sand, .int a_reef]) ++ List.replicate (8 - (lg_sl ([.ref this, .int a_ring, .int a_height, .int a_x, .int a_y, .int a_sand, .int a_reef])).length) Slot.unset).toArray = ls at hl ⊢
  have hl : lv_has ls 8 [(0, .ref this), (1, .int a_ring), (2, .int a_height), (3, .int a_x), (4, .int a_y), (5, .int a_sand), (6, .int a_reef)] := hl
  refine lv_aload_n hx hb dX11_cell_0 rfl (lv_at hl 0 rfl) ?_
  refine lv_iload_n hx hb dX11_cell_1 rfl (lv_at hl 1 rfl) ?_
  refine pk_i (va_runV (As := [.int a_ring]) (rest := []) ⟨hx, hb, hml, hown, hts⟩ (c_X11_isRing l D t σ I J ri rj rq (Array.size s.heap) this a_ring hL_this hK_this this_now hR_this_now hL_this_now hK_this_now this_now_land hR_this_now_land hL_this_now_land hK_this_now_land hZ) (cwV 1 hts (tw_V tw_211 tw_212 tw_213 tw_2 tw_214) rfl rfl rfl (by decide +kernel) ⟨Nat.le_of_ble_eq_true rfl, Nat.le_of_ble_eq_true rfl⟩) ⟨pq_blind, pq_recv hK hP hL_this hK_this (by decide) rfl, pq_pre hK hN hP hD⟩ rfl rfl hl.1 rfl (lv_room (Nat.le_of_ble_eq_true rfl)) dX11_cell_2 ⟨Nat.le_of_ble_eq_true rfl, Nat.le_of_ble_eq_true rfl⟩) hD hS hA (fun r_1 σ1 μ1 H locs hw_2 hP hD hS => ?_)
  obtain ⟨hu_3, hr_4⟩ := hw_2
  obtain ⟨hu_3a, hu_3b⟩ := Prod.mk.inj hu_3
  rw [hu_3a, hu_3b] at hP hD
  subst hr_4
  refine lv_if_eq (tgt := 70) hx hb dX11_cell_5 (by decide) (fun c_5 => ?_) (fun c_5 => absurd c_5 (by decide))
  refine lv_iconst (v := 0) hx hb dX11_cell_70 (by decide) ?_
  refine lv_istore (lv' := [(7, .int 0), (0, .ref this), (1, .int a_ring), (2, .int a_height), (3, .int a_x), (4, .int a_y), (5, .int a_sand), (6, .int a_reef)]) hx hb dX11_cell_71 hl (by decide) rfl (fun ls hl => ?_)
  refine lv_iload hx hb dX11_cell_73 (lv_at hl 0 rfl) ?_
  refine lv_if_eq (tgt := 103) hx hb dX11_cell_75 (by decide) (fun c_6 => ?_) (fun c_6 => absurd c_6 (by decide))
  refine lv_iconst (v := (-1)) hx hb dX11_cell_103 (by decide) ?_
  exact W.iret (v := (-1)) hx hb hr (fun t1 ht hW => ⟨⟨(-1), (σ, I, J, ri, rj, rq), rfl, ⟨rfl, rfl⟩, by rw [ht]; exact hP, va_K.moved hW.alike hK, hD⟩, hS.F ht⟩) hS.2.2 dX11_cell_104

set_option maxHeartbeats 4000000 in
set_option maxRecDepth 100000 in
theorem c_X11_wall (l : Launch) (D : va_G) (t : pq_T) (σ : pq_S) (I : Nat → Nat → Int32) (J : Nat → Nat → Int64) (ri : Nat → Nat → Int32) (rj : Nat → Nat → Int64) (rq : Nat → Nat → Option Nat) (sz : Nat) (this : Nat) (a_cell : Int32) (a_v : Int32) (hL_this : this ∈ σ.1) (hK_this : σ.2.1 this = 11) (this_now : Nat) (hR_this_now : σ.2.2.1 352 this = some this_now) (hL_this_now : this_now ∈ σ.1) (hK_this_now : σ.2.1 this_now = 10) (this_now_land : Nat) (hR_this_now_land : σ.2.2.1 327 this_now = some this_now_land) (hL_this_now_land : this_now_land ∈ σ.1) (hK_this_now_land : σ.2.1 this_now_land = 2) (hZ : pq_Z I) : MetI l yX11_wall (wa yX11_wall cX11_wall 3 (some .boolean)) ({ frames := 2, cells := 0, slots := 0, locals := 43 }) [.ref this, .int a_cell, .int a_v] D t σ (I, J, ri, rj, rq) sz 0 0 (fun (r : Int32) (u : pq_S × pq_M) => u = (σ, I, J, ri, rj, rq) ∧ ((r = 0))) := by
  refine Met.ofW (cc := cX11_wall) (maxL := 3) (ret := (some .boolean)) (by decide) rfl ?_
  intro p e s m args below meth c s₁ B hml hv
  obtain ⟨rfl, hsz, hP, hK, hD0, hN⟩ := hv
  have hx := B.exec
  have hb := B.bytes
  have hr := B.returns
  have hts := atoms_spec (ws := (wa yX11_wall cX11_wall 3 (some .boolean))) B.pre
  have hown : s.vm.findClass RX11 = some m.cls := findClass_of_methodNamed B.named
  have hlocks := B.notSynchronized
  subst hsz
  have hD : va_D (pq_B t σ (I, J, ri, rj, rq) s.heap.size) (pq_P t σ (I, J, ri, rj, rq)) := hD0.self
  generalize hAe : pq_B t σ (I, J, ri, rj, rq) s.heap.size = A at hD ⊢
  have hA : ∀ q : Nat, s.heap.size ≤ q → A q := fun q h => by rw [← hAe]; exact Or.inr h
  have hS : va_S A s.heap s.heap [] := va_S.rf
  have hl := lv_entry ([.ref this, .int a_cell, .int a_v]) (n := 3) (Nat.le_of_ble_eq_true rfl)
  rw [lg_entry_eq]
  generalize (lg_sl ([.ref this, .int a_cell, .int a_v]) ++ List.replicate (3 - (lg_sl ([.ref this, .int a_cell, .int a_v])).length) Slot.unset).toArray = ls at hl ⊢
  have hl : lv_has ls 3 [(0, .ref this), (1, .int a_cell), (2, .int a_v)] := hl
  refine lv_aload_n hx hb dX11_wall_0 rfl (lv_at hl 0 rfl) ?_
  refine lv_iload_n hx hb dX11_wall_1 rfl (lv_at hl 1 rfl) ?_
  refine pk_i (va_runV (As := [.int a_cell]) (rest := []) ⟨hx, hb, hml, hown, hts⟩ (c_X11_isCell l D t σ I J ri rj rq (Array.size s.heap) this a_cell hL_this hK_this this_now hR_this_now hL_this_now hK_this_now this_now_land hR_this_now_land hL_this_now_land hK_this_now_land hZ) (cwV 1 hts (tw_V tw_332 tw_333 tw_334 tw_2 tw_335) rfl rfl rfl (by decide +kernel) ⟨Nat.le_of_ble_eq_true rfl, Nat.le_of_ble_eq_true rfl⟩) ⟨pq_blind, pq_recv hK hP hL_this hK_this (by decide) rfl, pq_pre hK hN hP hD⟩ rfl rfl hl.1 rfl (lv_room (Nat.le_of_ble_eq_true rfl)) dX11_wall_2 ⟨Nat.le_of_ble_eq_true rfl, Nat.le_of_ble_eq_true rfl⟩) hD hS hA (fun r_1 σ1 μ1 H locs hw_2 hP hD hS => ?_)
  obtain ⟨hu_3, hr_4⟩ := hw_2
  obtain ⟨hu_3a, hu_3b⟩ := Prod.mk.inj hu_3
  rw [hu_3a, hu_3b] at hP hD
  subst hr_4
  refine lv_if_eq (tgt := 19) hx hb dX11_wall_5 (by decide) (fun c_5 => ?_) (fun c_5 => absurd c_5 (by decide))
  refine lv_iconst (v := 0) hx hb dX11_wall_19 (by decide) ?_
  exact W.zret (v := 0) hx hb hr (by decide) (fun t1 ht hW => ⟨⟨0, (σ, I, J, ri, rj, rq), rfl, ⟨rfl, rfl⟩, by rw [ht]; exact hP, va_K.moved hW.alike hK, hD⟩, hS.F ht⟩) hS.2.2 dX11_wall_20

set_option maxHeartbeats 4000000 in
set_option maxRecDepth 100000 in
theorem c_X11_well (l : Launch) (D : va_G) (t : pq_T) (σ : pq_S) (I : Nat → Nat → Int32) (J : Nat → Nat → Int64) (ri : Nat → Nat → Int32) (rj : Nat → Nat → Int64) (rq : Nat → Nat → Option Nat) (sz : Nat) (this : Nat) (a_cell : Int32) (a_ga : Int32) (a_le : Int32) (a_sa : Int32) (hL_this : this ∈ σ.1) (hK_this : σ.2.1 this = 11) (this_now : Nat) (hR_this_now : σ.2.2.1 352 this = some this_now) (hL_this_now : this_now ∈ σ.1) (hK_this_now : σ.2.1 this_now = 10) (this_now_land : Nat) (hR_this_now_land : σ.2.2.1 327 this_now = some this_now_land) (hL_this_now_land : this_now_land ∈ σ.1) (hK_this_now_land : σ.2.1 this_now_land = 2) (hZ : pq_Z I) : MetI l yX11_well (wa yX11_well cX11_well 6 (some .boolean)) ({ frames := 2, cells := 0, slots := 0, locals := 43 }) [.ref this, .int a_cell, .int a_ga, .int a_le, .int a_sa] D t σ (I, J, ri, rj, rq) sz 0 0 (fun (r : Int32) (u : pq_S × pq_M) => u = (σ, I, J, ri, rj, rq) ∧ ((r = 0))) := by
  refine Met.ofW (cc := cX11_well) (maxL := 6) (ret := (some .boolean)) (by decide) rfl ?_
  intro p e s m args below meth c s₁ B hml hv
  obtain ⟨rfl, hsz, hP, hK, hD0, hN⟩ := hv
  have hx := B.exec
  have hb := B.bytes
  have hr := B.returns
  have hts := atoms_spec (ws := (wa yX11_well cX11_well 6 (some .boolean))) B.pre
  have hown : s.vm.findClass RX11 = some m.cls := findClass_of_methodNamed B.named
  have hlocks := B.notSynchronized
  subst hsz
  have hD : va_D (pq_B t σ (I, J, ri, rj, rq) s.heap.size) (pq_P t σ (I, J, ri, rj, rq)) := hD0.self
  generalize hAe : pq_B t σ (I, J, ri, rj, rq) s.heap.size = A at hD ⊢
  have hA : ∀ q : Nat, s.heap.size ≤ q → A q := fun q h => by rw [← hAe]; exact Or.inr h
  have hS : va_S A s.heap s.heap [] := va_S.rf
  have hl := lv_entry ([.ref this, .int a_cell, .int a_ga, .int a_le, .int a_sa]) (n := 6) (Nat.le_of_ble_eq_true rfl)
  rw [lg_entry_eq]
  generalize (lg_sl ([.ref this, .int a_cell, .int a_ga, .int a_le, .int a_sa]) ++ List.replicate (6 - (lg_sl ([.ref this, .int a_cell, .int a_ga, .int a_le, .int a_sa])).length) Slot.unset).toArray = ls at hl ⊢
  have hl : lv_has ls 6 [(0, .ref this), (1, .int a_cell), (2, .int a_ga), (3, .int a_le), (4, .int a_sa)] := hl
  refine lv_aload_n hx hb dX11_well_0 rfl (lv_at hl 0 rfl) ?_
  refine lv_iload_n hx hb dX11_well_1 rfl (lv_at hl 1 rfl) ?_
  refine pk_i (va_runV (As := [.int a_cell]) (rest := []) ⟨hx, hb, hml, hown, hts⟩ (c_X11_isCell l D t σ I J ri rj rq (Array.size s.heap) this a_cell hL_this hK_this this_now hR_this_now hL_this_now hK_this_now this_now_land hR_this_now_land hL_this_now_land hK_this_now_land hZ) (cwV 1 hts (tw_V tw_332 tw_333 tw_334 tw_2 tw_335) rfl rfl rfl (by decide +kernel) ⟨Nat.le_of_ble_eq_true rfl, Nat.le_of_ble_eq_true rfl⟩) ⟨pq_blind, pq_recv hK hP hL_this hK_this (by decide) rfl, pq_pre hK hN hP hD⟩ rfl rfl hl.1 rfl (lv_room (Nat.le_of_ble_eq_true rfl)) dX11_well_2 ⟨Nat.le_of_ble_eq_true rfl, Nat.le_of_ble_eq_true rfl⟩) hD hS hA (fun r_1 σ1 μ1 H locs hw_2 hP hD hS => ?_)
  obtain ⟨hu_3, hr_4⟩ := hw_2
  obtain ⟨hu_3a, hu_3b⟩ := Prod.mk.inj hu_3
  rw [hu_3a, hu_3b] at hP hD
  subst hr_4
  refine lv_if_eq (tgt := 44) hx hb dX11_well_5 (by decide) (fun c_5 => ?_) (fun c_5 => absurd c_5 (by decide))
  refine lv_iconst (v := 0) hx hb dX11_well_44 (by decide) ?_
  refine lv_istore (lv' := [(5, .int 0), (0, .ref this), (1, .int a_cell), (2, .int a_ga), (3, .int a_le), (4, .int a_sa)]) hx hb dX11_well_45 hl (by decide) rfl (fun ls hl => ?_)
  refine lv_iload hx hb dX11_well_47 (lv_at hl 0 rfl) ?_
  refine lv_if_eq (tgt := 69) hx hb dX11_well_49 (by decide) (fun c_6 => ?_) (fun c_6 => absurd c_6 (by decide))
  refine lv_iconst (v := 0) hx hb dX11_well_69 (by decide) ?_
  exact W.zret (v := 0) hx hb hr (by decide) (fun t1 ht hW => ⟨⟨0, (σ, I, J, ri, rj, rq), rfl, ⟨rfl, rfl⟩, by rw [ht]; exact hP, va_K.moved hW.alike hK, hD⟩, hS.F ht⟩) hS.2.2 dX11_well_70

set_option maxHeartbeats 4000000 in
set_option maxRecDepth 100000 in
theorem c_X11_beds (l : Launch) (D : va_G) (t : pq_T) (σ : pq_S) (I : Nat → Nat → Int32) (J : Nat → Nat → Int64) (ri : Nat → Nat → Int32) (rj : Nat → Nat → Int64) (rq : Nat → Nat → Option Nat) (sz : Nat) (this : Nat) (a_cell : Int32) (a_more : Int32) (hL_this : this ∈ σ.1) (hK_this : σ.2.1 this = 11) (this_now : Nat) (hR_this_now : σ.2.2.1 352 this = some this_now) (hL_this_now : this_now ∈ σ.1) (hK_this_now : σ.2.1 this_now = 10) (this_now_land : Nat) (hR_this_now_land : σ.2.2.1 327 this_now = some this_now_land) (hL_this_now_land : this_now_land ∈ σ.1) (hK_this_now_land : σ.2.1 this_now_land = 2) (hZ : pq_Z I) : MetI l yX11_beds (wa yX11_beds cX11_beds 5 (some .int)) ({ frames := 2, cells := 0, slots := 0, locals := 43 }) [.ref this, .int a_cell, .int a_more] D t σ (I, J, ri, rj, rq) sz 0 0 (fun (r : Int32) (u : pq_S × pq_M) => u = (σ, I, J, ri, rj, rq) ∧ ((r = (-1)))) := by
  refine Met.ofW (cc := cX11_beds) (maxL := 5) (ret := (some .int)) (by decide) rfl ?_
  intro p e s m args below meth c s₁ B hml hv
  obtain ⟨rfl, hsz, hP, hK, hD0, hN⟩ := hv
  have hx := B.exec
  have hb := B.bytes
  have hr := B.returns
  have hts := atoms_spec (ws := (wa yX11_beds cX11_beds 5 (some .int))) B.pre
  have hown : s.vm.findClass RX11 = some m.cls := findClass_of_methodNamed B.named
  have hlocks := B.notSynchronized
  subst hsz
  have hD : va_D (pq_B t σ (I, J, ri, rj, rq) s.heap.size) (pq_P t σ (I, J, ri, rj, rq)) := hD0.self
  generalize hAe : pq_B t σ (I, J, ri, rj, rq) s.heap.size = A at hD ⊢
  have hA : ∀ q : Nat, s.heap.size ≤ q → A q := fun q h => by rw [← hAe]; exact Or.inr h
  have hS : va_S A s.heap s.heap [] := va_S.rf
  have hl := lv_entry ([.ref this, .int a_cell, .int a_more]) (n := 5) (Nat.le_of_ble_eq_true rfl)
  rw [lg_entry_eq]
  generalize (lg_sl ([.ref this, .int a_cell, .int a_more]) ++ List.replicate (5 - (lg_sl ([.ref this, .int a_cell, .int a_more])).length) Slot.unset).toArray = ls at hl ⊢
  have hl : lv_has ls 5 [(0, .ref this), (1, .int a_cell), (2, .int a_more)] := hl
  refine lv_aload_n hx hb dX11_beds_0 rfl (lv_at hl 0 rfl) ?_
  refine lv_iload_n hx hb dX11_beds_1 rfl (lv_at hl 1 rfl) ?_
  refine pk_i (va_runV (As := [.int a_cell]) (rest := []) ⟨hx, hb, hml, hown, hts⟩ (c_X11_isCell l D t σ I J ri rj rq (Array.size s.heap) this a_cell hL_this hK_this this_now hR_this_now hL_this_now hK_this_now this_now_land hR_this_now_land hL_this_now_land hK_this_now_land hZ) (cwV 1 hts (tw_V tw_332 tw_333 tw_334 tw_2 tw_335) rfl rfl rfl (by decide +kernel) ⟨Nat.le_of_ble_eq_true rfl, Nat.le_of_ble_eq_true rfl⟩) ⟨pq_blind, pq_recv hK hP hL_this hK_this (by decide) rfl, pq_pre hK hN hP hD⟩ rfl rfl hl.1 rfl (lv_room (Nat.le_of_ble_eq_true rfl)) dX11_beds_2 ⟨Nat.le_of_ble_eq_true rfl, Nat.le_of_ble_eq_true rfl⟩) hD hS hA (fun r_1 σ1 μ1 H locs hw_2 hP hD hS => ?_)
  obtain ⟨hu_3, hr_4⟩ := hw_2
  obtain ⟨hu_3a, hu_3b⟩ := Prod.mk.inj hu_3
  rw [hu_3a, hu_3b] at hP hD
  subst hr_4
  refine lv_if_ne (tgt := 10) hx hb dX11_beds_5 (by decide) (fun c_5 => absurd c_5 (by decide)) (fun c_5 => ?_)
  refine lv_iconst (v := (-1)) hx hb dX11_beds_8 (by decide) ?_
  exact W.iret (v := (-1)) hx hb hr (fun t1 ht hW => ⟨⟨(-1), (σ, I, J, ri, rj, rq), rfl, ⟨rfl, rfl⟩, by rw [ht]; exact hP, va_K.moved hW.alike hK, hD⟩, hS.F ht⟩) hS.2.2 dX11_beds_9

set_option maxHeartbeats 4000000 in
set_option maxRecDepth 100000 in
theorem c_X11_person (l : Launch) (D : va_G) (t : pq_T) (σ : pq_S) (I : Nat → Nat → Int32) (J : Nat → Nat → Int64) (ri : Nat → Nat → Int32) (rj : Nat → Nat → Int64) (rq : Nat → Nat → Option Nat) (sz : Nat) (this : Nat) (a_kin : Int32) (a_age : Int32) (a_craft : Int32) (a_ring : Int32) (a_send : Int32) (hL_this : this ∈ σ.1) (hK_this : σ.2.1 this = 11) (this_now : Nat) (hR_this_now : σ.2.2.1 352 this = some this_now) (hL_this_now : this_now ∈ σ.1) (hK_this_now : σ.2.1 this_now = 10) (this_now_land : Nat) (hR_this_now_land : σ.2.2.1 327 this_now = some this_now_land) (hL_this_now_land : this_now_land ∈ σ.1) (hK_this_now_land : σ.2.1 this_now_land = 2) (hZ : pq_Z I) : MetI l yX11_person (wa yX11_person cX11_person 7 (some .int)) ({ frames := 2, cells := 0, slots := 0, locals := 43 }) [.ref this, .int a_kin, .int a_age, .int a_craft, .int a_ring, .int a_send] D t σ (I, J, ri, rj, rq) sz 0 0 (fun (r : Int32) (u : pq_S × pq_M) => u = (σ, I, J, ri, rj, rq) ∧ ((r = (-1)))) := by
  refine Met.ofW (cc := cX11_person) (maxL := 7) (ret := (some .int)) (by decide) rfl ?_
  intro p e s m args below meth c s₁ B hml hv
  obtain ⟨rfl, hsz, hP, hK, hD0, hN⟩ := hv
  have hx := B.exec
  have hb := B.bytes
  have hr := B.returns
  have hts := atoms_spec (ws := (wa yX11_person cX11_person 7 (some .int))) B.pre
  have hown : s.vm.findClass RX11 = some m.cls := findClass_of_methodNamed B.named
  have hlocks := B.notSynchronized
  subst hsz
  have hD : va_D (pq_B t σ (I, J, ri, rj, rq) s.heap.size) (pq_P t σ (I, J, ri, rj, rq)) := hD0.self
  generalize hAe : pq_B t σ (I, J, ri, rj, rq) s.heap.size = A at hD ⊢
  have hA : ∀ q : Nat, s.heap.size ≤ q → A q := fun q h => by rw [← hAe]; exact Or.inr h
  have hS : va_S A s.heap s.heap [] := va_S.rf
  have hl := lv_entry ([.ref this, .int a_kin, .int a_age, .int a_craft, .int a_ring, .int a_send]) (n := 7) (Nat.le_of_ble_eq_true rfl)
  rw [lg_entry_eq]
  generalize (lg_sl ([.ref this, .int a_kin, .int a_age, .int a_craft, .int a_ring, .int a_send]) ++ List.replicate (7 - (lg_sl ([.ref this, .int a_kin, .int a_age, .int a_craft, .int a_ring, .int a_send])).length) Slot.unset).toArray = ls at hl ⊢
  have hl : lv_has ls 7 [(0, .ref this), (1, .int a_kin), (2, .int a_age), (3, .int a_craft), (4, .int a_ring), (5, .int a_send)] := hl
  refine lv_iload_n hx hb dX11_person_0 rfl (lv_at hl 1 rfl) ?_
  refine lv_iconst (v := 0) hx hb dX11_person_1 (by decide) ?_
  refine lv_bipush (v := 9) hx hb dX11_person_2 (by decide) ?_
  refine pk_i (va_runS (As := [.int a_kin, .int 0, .int 9]) (rest := []) ⟨hx, hb, hml, hown, hts⟩ (c_X11_between l D t σ I J ri rj rq (Array.size s.heap) a_kin (0 : Int32) (9 : Int32)) (va_cwS 3 hts (tw_S tw_215 tw_216 tw_2 tw_217) rfl rfl rfl (by decide +kernel) ⟨Nat.le_of_ble_eq_true rfl, Nat.le_of_ble_eq_true rfl⟩) ⟨pq_blind, pq_pre hK hN hP hD⟩ rfl rfl hl.1 rfl (lv_room (Nat.le_of_ble_eq_true rfl)) dX11_person_4 ⟨Nat.le_of_ble_eq_true rfl, Nat.le_of_ble_eq_true rfl⟩) hD hS hA (fun r_1 σ1 μ1 H locs hw_2 hP hD hS => ?_)
  obtain ⟨hu_3, hr_4⟩ := hw_2
  obtain ⟨hu_3a, hu_3b⟩ := Prod.mk.inj hu_3
  rw [hu_3a, hu_3b] at hP hD
  rcases hr_4 with ⟨rfl, hr_4_0, hr_4_1⟩ | ⟨rfl, hr_4_0⟩
  · refine lv_if_eq (tgt := 54) hx hb dX11_person_7 (by decide) (fun c_5 => absurd c_5 (by decide)) (fun c_5 => ?_)
    refine lv_iload_n hx hb dX11_person_10 rfl (lv_at hl 2 rfl) ?_
    refine lv_iconst (v := 0) hx hb dX11_person_11 (by decide) ?_
    refine lv_bipush (v := 99) hx hb dX11_person_12 (by decide) ?_
    refine pk_i (va_runS (As := [.int a_age, .int 0, .int 99]) (rest := []) ⟨hx, hb, hml, hown, hts⟩ (c_X11_between l D t σ I J ri rj rq H.size a_age (0 : Int32) (99 : Int32)) (va_cwS 3 hts (tw_S tw_215 tw_216 tw_2 tw_217) rfl rfl rfl (by decide +kernel) ⟨Nat.le_of_ble_eq_true rfl, Nat.le_of_ble_eq_true rfl⟩) ⟨pq_blind, pq_pre hK hN hP hD⟩ rfl rfl hl.1 rfl (lv_room (Nat.le_of_ble_eq_true rfl)) dX11_person_14 ⟨Nat.le_of_ble_eq_true rfl, Nat.le_of_ble_eq_true rfl⟩) hD hS hA (fun r_6 σ1 μ1 H locs hw_7 hP hD hS => ?_)
    obtain ⟨hu_8, hr_9⟩ := hw_7
    obtain ⟨hu_8a, hu_8b⟩ := Prod.mk.inj hu_8
    rw [hu_8a, hu_8b] at hP hD
    rcases hr_9 with ⟨rfl, hr_9_0, hr_9_1⟩ | ⟨rfl, hr_9_0⟩
    · refine lv_if_eq (tgt := 54) hx hb dX11_person_17 (by decide) (fun c_10 => absurd c_10 (by decide)) (fun c_10 => ?_)
      refine lv_iload_n hx hb dX11_person_20 rfl (lv_at hl 3 rfl) ?_
      refine lv_iconst (v := 0) hx hb dX11_person_21 (by decide) ?_
      refine lv_bipush (v := 7) hx hb dX11_person_22 (by decide) ?_
      refine pk_i (va_runS (As := [.int a_craft, .int 0, .int 7]) (rest := []) ⟨hx, hb, hml, hown, hts⟩ (c_X11_between l D t σ I J ri rj rq H.size a_craft (0 : Int32) (7 : Int32)) (va_cwS 3 hts (tw_S tw_215 tw_216 tw_2 tw_217) rfl rfl rfl (by decide +kernel) ⟨Nat.le_of_ble_eq_true rfl, Nat.le_of_ble_eq_true rfl⟩) ⟨pq_blind, pq_pre hK hN hP hD⟩ rfl rfl hl.1 rfl (lv_room (Nat.le_of_ble_eq_true rfl)) dX11_person_24 ⟨Nat.le_of_ble_eq_true rfl, Nat.le_of_ble_eq_true rfl⟩) hD hS hA (fun r_11 σ1 μ1 H locs hw_12 hP hD hS => ?_)
      obtain ⟨hu_13, hr_14⟩ := hw_12
      obtain ⟨hu_13a, hu_13b⟩ := Prod.mk.inj hu_13
      rw [hu_13a, hu_13b] at hP hD
      rcases hr_14 with ⟨rfl, hr_14_0, hr_14_1⟩ | ⟨rfl, hr_14_0⟩
      · refine lv_if_eq (tgt := 54) hx hb dX11_person_27 (by decide) (fun c_15 => absurd c_15 (by decide)) (fun c_15 => ?_)
        refine lv_aload_n hx hb dX11_person_30 rfl (lv_at hl 0 rfl) ?_
        refine lv_iload hx hb dX11_person_31 (lv_at hl 4 rfl) ?_
        refine pk_i (va_runV (As := [.int a_ring]) (rest := []) ⟨hx, hb, hml, hown, hts⟩ (c_X11_isRing l D t σ I J ri rj rq H.size this a_ring hL_this hK_this this_now hR_this_now hL_this_now hK_this_now this_now_land hR_this_now_land hL_this_now_land hK_this_now_land hZ) (cwV 1 hts (tw_V tw_211 tw_212 tw_213 tw_2 tw_214) rfl rfl rfl (by decide +kernel) ⟨Nat.le_of_ble_eq_true rfl, Nat.le_of_ble_eq_true rfl⟩) ⟨pq_blind, pq_recv hK hP hL_this hK_this (by decide) rfl, pq_pre hK hN hP hD⟩ rfl rfl hl.1 rfl (lv_room (Nat.le_of_ble_eq_true rfl)) dX11_person_33 ⟨Nat.le_of_ble_eq_true rfl, Nat.le_of_ble_eq_true rfl⟩) hD hS hA (fun r_16 σ1 μ1 H locs hw_17 hP hD hS => ?_)
        obtain ⟨hu_18, hr_19⟩ := hw_17
        obtain ⟨hu_18a, hu_18b⟩ := Prod.mk.inj hu_18
        rw [hu_18a, hu_18b] at hP hD
        subst hr_19
        refine lv_if_eq (tgt := 54) hx hb dX11_person_36 (by decide) (fun c_20 => ?_) (fun c_20 => absurd c_20 (by decide))
        refine lv_iconst (v := 0) hx hb dX11_person_54 (by decide) ?_
        refine lv_istore (lv' := [(6, .int 0), (0, .ref this), (1, .int a_kin), (2, .int a_age), (3, .int a_craft), (4, .int a_ring), (5, .int a_send)]) hx hb dX11_person_55 hl (by decide) rfl (fun ls hl => ?_)
        refine lv_iload hx hb dX11_person_57 (lv_at hl 0 rfl) ?_
        refine lv_if_eq (tgt := 77) hx hb dX11_person_59 (by decide) (fun c_21 => ?_) (fun c_21 => absurd c_21 (by decide))
        refine lv_iconst (v := (-1)) hx hb dX11_person_77 (by decide) ?_
        exact W.iret (v := (-1)) hx hb hr (fun t1 ht hW => ⟨⟨(-1), (σ, I, J, ri, rj, rq), rfl, ⟨rfl, rfl⟩, by rw [ht]; exact hP, va_K.moved hW.alike hK, hD⟩, hS.F ht⟩) hS.2.2 dX11_person_78
      · refine lv_if_eq (tgt := 54) hx hb dX11_person_27 (by decide) (fun c_22 => ?_) (fun c_22 => absurd c_22 (by decide))
        refine lv_iconst (v := 0) hx hb dX11_person_54 (by decide) ?_
        refine lv_istore (lv' := [(6, .int 0), (0, .ref this), (1, .int a_kin), (2, .int a_age), (3, .int a_craft), (4, .int a_ring), (5, .int a_send)]) hx hb dX11_person_55 hl (by decide) rfl (fun ls hl => ?_)
        refine lv_iload hx hb dX11_person_57 (lv_at hl 0 rfl) ?_
        refine lv_if_eq (tgt := 77) hx hb dX11_person_59 (by decide) (fun c_23 => ?_) (fun c_23 => absurd c_23 (by decide))
        refine lv_iconst (v := (-1)) hx hb dX11_person_77 (by decide) ?_
        exact W.iret (v := (-1)) hx hb hr (fun t1 ht hW => ⟨⟨(-1), (σ, I, J, ri, rj, rq), rfl, ⟨rfl, rfl⟩, by rw [ht]; exact hP, va_K.moved hW.alike hK, hD⟩, hS.F ht⟩) hS.2.2 dX11_person_78
    · refine lv_if_eq (tgt := 54) hx hb dX11_person_17 (by decide) (fun c_24 => ?_) (fun c_24 => absurd c_24 (by decide))
      refine lv_iconst (v := 0) hx hb dX11_person_54 (by decide) ?_
      refine lv_istore (lv' := [(6, .int 0), (0, .ref this), (1, .int a_kin), (2, .int a_age), (3, .int a_craft), (4, .int a_ring), (5, .int a_send)]) hx hb dX11_person_55 hl (by decide) rfl (fun ls hl => ?_)
      refine lv_iload hx hb dX11_person_57 (lv_at hl 0 rfl) ?_
      refine lv_if_eq (tgt := 77) hx hb dX11_person_59 (by decide) (fun c_25 => ?_) (fun c_25 => absurd c_25 (by decide))
      refine lv_iconst (v := (-1)) hx hb dX11_person_77 (by decide) ?_
      exact W.iret (v := (-1)) hx hb hr (fun t1 ht hW => ⟨⟨(-1), (σ, I, J, ri, rj, rq), rfl, ⟨rfl, rfl⟩, by rw [ht]; exact hP, va_K.moved hW.alike hK, hD⟩, hS.F ht⟩) hS.2.2 dX11_person_78
  · refine lv_if_eq (tgt := 54) hx hb dX11_person_7 (by decide) (fun c_26 => ?_) (fun c_26 => absurd c_26 (by decide))
    refine lv_iconst (v := 0) hx hb dX11_person_54 (by decide) ?_
    refine lv_istore (lv' := [(6, .int 0), (0, .ref this), (1, .int a_kin), (2, .int a_age), (3, .int a_craft), (4, .int a_ring), (5, .int a_send)]) hx hb dX11_person_55 hl (by decide) rfl (fun ls hl => ?_)
    refine lv_iload hx hb dX11_person_57 (lv_at hl 0 rfl) ?_
    refine lv_if_eq (tgt := 77) hx hb dX11_person_59 (by decide) (fun c_27 => ?_) (fun c_27 => absurd c_27 (by decide))
    refine lv_iconst (v := (-1)) hx hb dX11_person_77 (by decide) ?_
    exact W.iret (v := (-1)) hx hb hr (fun t1 ht hW => ⟨⟨(-1), (σ, I, J, ri, rj, rq), rfl, ⟨rfl, rfl⟩, by rw [ht]; exact hP, va_K.moved hW.alike hK, hD⟩, hS.F ht⟩) hS.2.2 dX11_person_78

set_option maxHeartbeats 4000000 in
set_option maxRecDepth 100000 in
theorem c_X11_go (l : Launch) (D : va_G) (t : pq_T) (σ : pq_S) (I : Nat → Nat → Int32) (J : Nat → Nat → Int64) (ri : Nat → Nat → Int32) (rj : Nat → Nat → Int64) (rq : Nat → Nat → Option Nat) (sz : Nat) (this : Nat) (a_person : Int32) (a_to : Int32) (hL_this : this ∈ σ.1) (hK_this : σ.2.1 this = 11) (this_now : Nat) (hR_this_now : σ.2.2.1 352 this = some this_now) (hL_this_now : this_now ∈ σ.1) (hK_this_now : σ.2.1 this_now = 10) (this_now_folk : Nat) (hR_this_now_folk : σ.2.2.1 328 this_now = some this_now_folk) (hL_this_now_folk : this_now_folk ∈ σ.1) (hK_this_now_folk : σ.2.1 this_now_folk = 0) (hZ : pq_Z I) : MetI l yX11_go (wa yX11_go cX11_go 5 (some .boolean)) ({ frames := 2, cells := 0, slots := 0, locals := 43 }) [.ref this, .int a_person, .int a_to] D t σ (I, J, ri, rj, rq) sz 0 0 (fun (r : Int32) (u : pq_S × pq_M) => u = (σ, I, J, ri, rj, rq) ∧ ((r = 0))) := by
  refine Met.ofW (cc := cX11_go) (maxL := 5) (ret := (some .boolean)) (by decide) rfl ?_
  intro p e s m args below meth c s₁ B hml hv
  obtain ⟨rfl, hsz, hP, hK, hD0, hN⟩ := hv
  have hx := B.exec
  have hb := B.bytes
  have hr := B.returns
  have hts := atoms_spec (ws := (wa yX11_go cX11_go 5 (some .boolean))) B.pre
  have hown : s.vm.findClass RX11 = some m.cls := findClass_of_methodNamed B.named
  have hlocks := B.notSynchronized
  subst hsz
  have hD : va_D (pq_B t σ (I, J, ri, rj, rq) s.heap.size) (pq_P t σ (I, J, ri, rj, rq)) := hD0.self
  generalize hAe : pq_B t σ (I, J, ri, rj, rq) s.heap.size = A at hD ⊢
  have hA : ∀ q : Nat, s.heap.size ≤ q → A q := fun q h => by rw [← hAe]; exact Or.inr h
  have hS : va_S A s.heap s.heap [] := va_S.rf
  have hl := lv_entry ([.ref this, .int a_person, .int a_to]) (n := 5) (Nat.le_of_ble_eq_true rfl)
  rw [lg_entry_eq]
  generalize (lg_sl ([.ref this, .int a_person, .int a_to]) ++ List.replicate (5 - (lg_sl ([.ref this, .int a_person, .int a_to])).length) Slot.unset).toArray = ls at hl ⊢
  have hl : lv_has ls 5 [(0, .ref this), (1, .int a_person), (2, .int a_to)] := hl
  refine lv_aload_n hx hb dX11_go_0 rfl (lv_at hl 0 rfl) ?_
  refine lv_iload_n hx hb dX11_go_1 rfl (lv_at hl 1 rfl) ?_
  refine pk_i (va_runV (As := [.int a_person]) (rest := []) ⟨hx, hb, hml, hown, hts⟩ (c_X11_isPerson l D t σ I J ri rj rq (Array.size s.heap) this a_person hL_this hK_this this_now hR_this_now hL_this_now hK_this_now this_now_folk hR_this_now_folk hL_this_now_folk hK_this_now_folk hZ) (cwV 1 hts (tw_V tw_405 tw_406 tw_407 tw_2 tw_408) rfl rfl rfl (by decide +kernel) ⟨Nat.le_of_ble_eq_true rfl, Nat.le_of_ble_eq_true rfl⟩) ⟨pq_blind, pq_recv hK hP hL_this hK_this (by decide) rfl, pq_pre hK hN hP hD⟩ rfl rfl hl.1 rfl (lv_room (Nat.le_of_ble_eq_true rfl)) dX11_go_2 ⟨Nat.le_of_ble_eq_true rfl, Nat.le_of_ble_eq_true rfl⟩) hD hS hA (fun r_1 σ1 μ1 H locs hw_2 hP hD hS => ?_)
  obtain ⟨hu_3, hr_4⟩ := hw_2
  obtain ⟨hu_3a, hu_3b⟩ := Prod.mk.inj hu_3
  rw [hu_3a, hu_3b] at hP hD
  subst hr_4
  refine lv_if_ne (tgt := 10) hx hb dX11_go_5 (by decide) (fun c_5 => absurd c_5 (by decide)) (fun c_5 => ?_)
  refine lv_iconst (v := 0) hx hb dX11_go_8 (by decide) ?_
  exact W.zret (v := 0) hx hb hr (by decide) (fun t1 ht hW => ⟨⟨0, (σ, I, J, ri, rj, rq), rfl, ⟨rfl, rfl⟩, by rw [ht]; exact hP, va_K.moved hW.alike hK, hD⟩, hS.F ht⟩) hS.2.2 dX11_go_9

set_option maxHeartbeats 4000000 in
set_option maxRecDepth 100000 in
theorem c_X11_death (l : Launch) (D : va_G) (t : pq_T) (σ : pq_S) (I : Nat → Nat → Int32) (J : Nat → Nat → Int64) (ri : Nat → Nat → Int32) (rj : Nat → Nat → Int64) (rq : Nat → Nat → Option Nat) (sz : Nat) (this : Nat) (a_person : Int32) (hL_this : this ∈ σ.1) (hK_this : σ.2.1 this = 11) (this_now : Nat) (hR_this_now : σ.2.2.1 352 this = some this_now) (hL_this_now : this_now ∈ σ.1) (hK_this_now : σ.2.1 this_now = 10) (this_now_folk : Nat) (hR_this_now_folk : σ.2.2.1 328 this_now = some this_now_folk) (hL_this_now_folk : this_now_folk ∈ σ.1) (hK_this_now_folk : σ.2.1 this_now_folk = 0) (hZ : pq_Z I) : MetI l yX11_death (wa yX11_death cX11_death 2 (some .int)) ({ frames := 2, cells := 0, slots := 0, locals := 43 }) [.ref this, .int a_person] D t σ (I, J, ri, rj, rq) sz 0 0 (fun (r : Int32) (u : pq_S × pq_M) => u = (σ, I, J, ri, rj, rq) ∧ ((r = (-1)))) := by
  refine Met.ofW (cc := cX11_death) (maxL := 2) (ret := (some .int)) (by decide) rfl ?_
  intro p e s m args below meth c s₁ B hml hv
  obtain ⟨rfl, hsz, hP, hK, hD0, hN⟩ := hv
  have hx := B.exec
  have hb := B.bytes
  have hr := B.returns
  have hts := atoms_spec (ws := (wa yX11_death cX11_death 2 (some .int))) B.pre
  have hown : s.vm.findClass RX11 = some m.cls := findClass_of_methodNamed B.named
  have hlocks := B.notSynchronized
  subst hsz
  have hD : va_D (pq_B t σ (I, J, ri, rj, rq) s.heap.size) (pq_P t σ (I, J, ri, rj, rq)) := hD0.self
  generalize hAe : pq_B t σ (I, J, ri, rj, rq) s.heap.size = A at hD ⊢
  have hA : ∀ q : Nat, s.heap.size ≤ q → A q := fun q h => by rw [← hAe]; exact Or.inr h
  have hS : va_S A s.heap s.heap [] := va_S.rf
  have hl := lv_entry ([.ref this, .int a_person]) (n := 2) (Nat.le_of_ble_eq_true rfl)
  rw [lg_entry_eq]
  generalize (lg_sl ([.ref this, .int a_person]) ++ List.replicate (2 - (lg_sl ([.ref this, .int a_person])).length) Slot.unset).toArray = ls at hl ⊢
  have hl : lv_has ls 2 [(0, .ref this), (1, .int a_person)] := hl
  refine lv_aload_n hx hb dX11_death_0 rfl (lv_at hl 0 rfl) ?_
  refine lv_iload_n hx hb dX11_death_1 rfl (lv_at hl 1 rfl) ?_
  refine pk_i (va_runV (As := [.int a_person]) (rest := []) ⟨hx, hb, hml, hown, hts⟩ (c_X11_isPerson l D t σ I J ri rj rq (Array.size s.heap) this a_person hL_this hK_this this_now hR_this_now hL_this_now hK_this_now this_now_folk hR_this_now_folk hL_this_now_folk hK_this_now_folk hZ) (cwV 1 hts (tw_V tw_405 tw_406 tw_407 tw_2 tw_408) rfl rfl rfl (by decide +kernel) ⟨Nat.le_of_ble_eq_true rfl, Nat.le_of_ble_eq_true rfl⟩) ⟨pq_blind, pq_recv hK hP hL_this hK_this (by decide) rfl, pq_pre hK hN hP hD⟩ rfl rfl hl.1 rfl (lv_room (Nat.le_of_ble_eq_true rfl)) dX11_death_2 ⟨Nat.le_of_ble_eq_true rfl, Nat.le_of_ble_eq_true rfl⟩) hD hS hA (fun r_1 σ1 μ1 H locs hw_2 hP hD hS => ?_)
  obtain ⟨hu_3, hr_4⟩ := hw_2
  obtain ⟨hu_3a, hu_3b⟩ := Prod.mk.inj hu_3
  rw [hu_3a, hu_3b] at hP hD
  subst hr_4
  refine lv_if_eq (tgt := 26) hx hb dX11_death_5 (by decide) (fun c_5 => ?_) (fun c_5 => absurd c_5 (by decide))
  refine lv_iconst (v := (-1)) hx hb dX11_death_26 (by decide) ?_
  exact W.iret (v := (-1)) hx hb hr (fun t1 ht hW => ⟨⟨(-1), (σ, I, J, ri, rj, rq), rfl, ⟨rfl, rfl⟩, by rw [ht]; exact hP, va_K.moved hW.alike hK, hD⟩, hS.F ht⟩) hS.2.2 dX11_death_27

set_option maxHeartbeats 4000000 in
set_option maxRecDepth 100000 in
theorem c_X11_title (l : Launch) (D : va_G) (t : pq_T) (σ : pq_S) (I : Nat → Nat → Int32) (J : Nat → Nat → Int64) (ri : Nat → Nat → Int32) (rj : Nat → Nat → Int64) (rq : Nat → Nat → Option Nat) (sz : Nat) (this : Nat) (a_cell : Int32) (a_person : Int32) (hL_this : this ∈ σ.1) (hK_this : σ.2.1 this = 11) (this_now : Nat) (hR_this_now : σ.2.2.1 352 this = some this_now) (hL_this_now : this_now ∈ σ.1) (hK_this_now : σ.2.1 this_now = 10) (this_now_land : Nat) (hR_this_now_land : σ.2.2.1 327 this_now = some this_now_land) (hL_this_now_land : this_now_land ∈ σ.1) (hK_this_now_land : σ.2.1 this_now_land = 2) (hZ : pq_Z I) : MetI l yX11_title (wa yX11_title cX11_title 4 (some .boolean)) ({ frames := 2, cells := 0, slots := 0, locals := 43 }) [.ref this, .int a_cell, .int a_person] D t σ (I, J, ri, rj, rq) sz 0 0 (fun (r : Int32) (u : pq_S × pq_M) => u = (σ, I, J, ri, rj, rq) ∧ ((r = 0))) := by
  refine Met.ofW (cc := cX11_title) (maxL := 4) (ret := (some .boolean)) (by decide) rfl ?_
  intro p e s m args below meth c s₁ B hml hv
  obtain ⟨rfl, hsz, hP, hK, hD0, hN⟩ := hv
  have hx := B.exec
  have hb := B.bytes
  have hr := B.returns
  have hts := atoms_spec (ws := (wa yX11_title cX11_title 4 (some .boolean))) B.pre
  have hown : s.vm.findClass RX11 = some m.cls := findClass_of_methodNamed B.named
  have hlocks := B.notSynchronized
  subst hsz
  have hD : va_D (pq_B t σ (I, J, ri, rj, rq) s.heap.size) (pq_P t σ (I, J, ri, rj, rq)) := hD0.self
  generalize hAe : pq_B t σ (I, J, ri, rj, rq) s.heap.size = A at hD ⊢
  have hA : ∀ q : Nat, s.heap.size ≤ q → A q := fun q h => by rw [← hAe]; exact Or.inr h
  have hS : va_S A s.heap s.heap [] := va_S.rf
  have hl := lv_entry ([.ref this, .int a_cell, .int a_person]) (n := 4) (Nat.le_of_ble_eq_true rfl)
  rw [lg_entry_eq]
  generalize (lg_sl ([.ref this, .int a_cell, .int a_person]) ++ List.replicate (4 - (lg_sl ([.ref this, .int a_cell, .int a_person])).length) Slot.unset).toArray = ls at hl ⊢
  have hl : lv_has ls 4 [(0, .ref this), (1, .int a_cell), (2, .int a_person)] := hl
  refine lv_aload_n hx hb dX11_title_0 rfl (lv_at hl 0 rfl) ?_
  refine lv_iload_n hx hb dX11_title_1 rfl (lv_at hl 1 rfl) ?_
  refine pk_i (va_runV (As := [.int a_cell]) (rest := []) ⟨hx, hb, hml, hown, hts⟩ (c_X11_isCell l D t σ I J ri rj rq (Array.size s.heap) this a_cell hL_this hK_this this_now hR_this_now hL_this_now hK_this_now this_now_land hR_this_now_land hL_this_now_land hK_this_now_land hZ) (cwV 1 hts (tw_V tw_332 tw_333 tw_334 tw_2 tw_335) rfl rfl rfl (by decide +kernel) ⟨Nat.le_of_ble_eq_true rfl, Nat.le_of_ble_eq_true rfl⟩) ⟨pq_blind, pq_recv hK hP hL_this hK_this (by decide) rfl, pq_pre hK hN hP hD⟩ rfl rfl hl.1 rfl (lv_room (Nat.le_of_ble_eq_true rfl)) dX11_title_2 ⟨Nat.le_of_ble_eq_true rfl, Nat.le_of_ble_eq_true rfl⟩) hD hS hA (fun r_1 σ1 μ1 H locs hw_2 hP hD hS => ?_)
  obtain ⟨hu_3, hr_4⟩ := hw_2
  obtain ⟨hu_3a, hu_3b⟩ := Prod.mk.inj hu_3
  rw [hu_3a, hu_3b] at hP hD
  subst hr_4
  refine lv_if_ne (tgt := 10) hx hb dX11_title_5 (by decide) (fun c_5 => absurd c_5 (by decide)) (fun c_5 => ?_)
  refine lv_iconst (v := 0) hx hb dX11_title_8 (by decide) ?_
  exact W.zret (v := 0) hx hb hr (by decide) (fun t1 ht hW => ⟨⟨0, (σ, I, J, ri, rj, rq), rfl, ⟨rfl, rfl⟩, by rw [ht]; exact hP, va_K.moved hW.alike hK, hD⟩, hS.F ht⟩) hS.2.2 dX11_title_9

set_option maxHeartbeats 4000000 in
set_option maxRecDepth 100000 in
theorem c_X11_titleOf (l : Launch) (D : va_G) (t : pq_T) (σ : pq_S) (I : Nat → Nat → Int32) (J : Nat → Nat → Int64) (ri : Nat → Nat → Int32) (rj : Nat → Nat → Int64) (rq : Nat → Nat → Option Nat) (sz : Nat) (this : Nat) (a_cell : Int32) (a_what : Int32) (hL_this : this ∈ σ.1) (hK_this : σ.2.1 this = 11) (this_now : Nat) (hR_this_now : σ.2.2.1 352 this = some this_now) (hL_this_now : this_now ∈ σ.1) (hK_this_now : σ.2.1 this_now = 10) (this_now_land : Nat) (hR_this_now_land : σ.2.2.1 327 this_now = some this_now_land) (hL_this_now_land : this_now_land ∈ σ.1) (hK_this_now_land : σ.2.1 this_now_land = 2) (hZ : pq_Z I) : MetI l yX11_titleOf (wa yX11_titleOf cX11_titleOf 3 (some .int)) ({ frames := 2, cells := 0, slots := 0, locals := 43 }) [.ref this, .int a_cell, .int a_what] D t σ (I, J, ri, rj, rq) sz 0 0 (fun (r : Int32) (u : pq_S × pq_M) => u = (σ, I, J, ri, rj, rq) ∧ ((r = (-1)))) := by
  refine Met.ofW (cc := cX11_titleOf) (maxL := 3) (ret := (some .int)) (by decide) rfl ?_
  intro p e s m args below meth c s₁ B hml hv
  obtain ⟨rfl, hsz, hP, hK, hD0, hN⟩ := hv
  have hx := B.exec
  have hb := B.bytes
  have hr := B.returns
  have hts := atoms_spec (ws := (wa yX11_titleOf cX11_titleOf 3 (some .int))) B.pre
  have hown : s.vm.findClass RX11 = some m.cls := findClass_of_methodNamed B.named
  have hlocks := B.notSynchronized
  subst hsz
  have hD : va_D (pq_B t σ (I, J, ri, rj, rq) s.heap.size) (pq_P t σ (I, J, ri, rj, rq)) := hD0.self
  generalize hAe : pq_B t σ (I, J, ri, rj, rq) s.heap.size = A at hD ⊢
  have hA : ∀ q : Nat, s.heap.size ≤ q → A q := fun q h => by rw [← hAe]; exact Or.inr h
  have hS : va_S A s.heap s.heap [] := va_S.rf
  have hl := lv_entry ([.ref this, .int a_cell, .int a_what]) (n := 3) (Nat.le_of_ble_eq_true rfl)
  rw [lg_entry_eq]
  generalize (lg_sl ([.ref this, .int a_cell, .int a_what]) ++ List.replicate (3 - (lg_sl ([.ref this, .int a_cell, .int a_what])).length) Slot.unset).toArray = ls at hl ⊢
  have hl : lv_has ls 3 [(0, .ref this), (1, .int a_cell), (2, .int a_what)] := hl
  refine lv_aload_n hx hb dX11_titleOf_0 rfl (lv_at hl 0 rfl) ?_
  refine lv_iload_n hx hb dX11_titleOf_1 rfl (lv_at hl 1 rfl) ?_
  refine pk_i (va_runV (As := [.int a_cell]) (rest := []) ⟨hx, hb, hml, hown, hts⟩ (c_X11_isCell l D t σ I J ri rj rq (Array.size s.heap) this a_cell hL_this hK_this this_now hR_this_now hL_this_now hK_this_now this_now_land hR_this_now_land hL_this_now_land hK_this_now_land hZ) (cwV 1 hts (tw_V tw_332 tw_333 tw_334 tw_2 tw_335) rfl rfl rfl (by decide +kernel) ⟨Nat.le_of_ble_eq_true rfl, Nat.le_of_ble_eq_true rfl⟩) ⟨pq_blind, pq_recv hK hP hL_this hK_this (by decide) rfl, pq_pre hK hN hP hD⟩ rfl rfl hl.1 rfl (lv_room (Nat.le_of_ble_eq_true rfl)) dX11_titleOf_2 ⟨Nat.le_of_ble_eq_true rfl, Nat.le_of_ble_eq_true rfl⟩) hD hS hA (fun r_1 σ1 μ1 H locs hw_2 hP hD hS => ?_)
  obtain ⟨hu_3, hr_4⟩ := hw_2
  obtain ⟨hu_3a, hu_3b⟩ := Prod.mk.inj hu_3
  rw [hu_3a, hu_3b] at hP hD
  subst hr_4
  refine lv_if_ne (tgt := 10) hx hb dX11_titleOf_5 (by decide) (fun c_5 => absurd c_5 (by decide)) (fun c_5 => ?_)
  refine lv_iconst (v := (-1)) hx hb dX11_titleOf_8 (by decide) ?_
  exact W.iret (v := (-1)) hx hb hr (fun t1 ht hW => ⟨⟨(-1), (σ, I, J, ri, rj, rq), rfl, ⟨rfl, rfl⟩, by rw [ht]; exact hP, va_K.moved hW.alike hK, hD⟩, hS.F ht⟩) hS.2.2 dX11_titleOf_9

set_option maxHeartbeats 4000000 in
set_option maxRecDepth 100000 in
theorem c_X11_choose (l : Launch) (D : va_G) (t : pq_T) (σ : pq_S) (I : Nat → Nat → Int32) (J : Nat → Nat → Int64) (ri : Nat → Nat → Int32) (rj : Nat → Nat → Int64) (rq : Nat → Nat → Option Nat) (sz : Nat) (this : Nat) (a_person : Int32) (a_v : Int32) (hL_this : this ∈ σ.1) (hK_this : σ.2.1 this = 11) (this_now : Nat) (hR_this_now : σ.2.2.1 352 this = some this_now) (hL_this_now : this_now ∈ σ.1) (hK_this_now : σ.2.1 this_now = 10) (this_now_folk : Nat) (hR_this_now_folk : σ.2.2.1 328 this_now = some this_now_folk) (hL_this_now_folk : this_now_folk ∈ σ.1) (hK_this_now_folk : σ.2.1 this_now_folk = 0) (hZ : pq_Z I) : MetI l yX11_choose (wa yX11_choose cX11_choose 3 (some .boolean)) ({ frames := 2, cells := 0, slots := 0, locals := 43 }) [.ref this, .int a_person, .int a_v] D t σ (I, J, ri, rj, rq) sz 0 0 (fun (r : Int32) (u : pq_S × pq_M) => u = (σ, I, J, ri, rj, rq) ∧ ((r = 0))) := by
  refine Met.ofW (cc := cX11_choose) (maxL := 3) (ret := (some .boolean)) (by decide) rfl ?_
  intro p e s m args below meth c s₁ B hml hv
  obtain ⟨rfl, hsz, hP, hK, hD0, hN⟩ := hv
  have hx := B.exec
  have hb := B.bytes
  have hr := B.returns
  have hts := atoms_spec (ws := (wa yX11_choose cX11_choose 3 (some .boolean))) B.pre
  have hown : s.vm.findClass RX11 = some m.cls := findClass_of_methodNamed B.named
  have hlocks := B.notSynchronized
  subst hsz
  have hD : va_D (pq_B t σ (I, J, ri, rj, rq) s.heap.size) (pq_P t σ (I, J, ri, rj, rq)) := hD0.self
  generalize hAe : pq_B t σ (I, J, ri, rj, rq) s.heap.size = A at hD ⊢
  have hA : ∀ q : Nat, s.heap.size ≤ q → A q := fun q h => by rw [← hAe]; exact Or.inr h
  have hS : va_S A s.heap s.heap [] := va_S.rf
  have hl := lv_entry ([.ref this, .int a_person, .int a_v]) (n := 3) (Nat.le_of_ble_eq_true rfl)
  rw [lg_entry_eq]
  generalize (lg_sl ([.ref this, .int a_person, .int a_v]) ++ List.replicate (3 - (lg_sl ([.ref this, .int a_person, .int a_v])).length) Slot.unset).toArray = ls at hl ⊢
  have hl : lv_has ls 3 [(0, .ref this), (1, .int a_person), (2, .int a_v)] := hl
  refine lv_aload_n hx hb dX11_choose_0 rfl (lv_at hl 0 rfl) ?_
  refine lv_iload_n hx hb dX11_choose_1 rfl (lv_at hl 1 rfl) ?_
  refine pk_i (va_runV (As := [.int a_person]) (rest := []) ⟨hx, hb, hml, hown, hts⟩ (c_X11_isPerson l D t σ I J ri rj rq (Array.size s.heap) this a_person hL_this hK_this this_now hR_this_now hL_this_now hK_this_now this_now_folk hR_this_now_folk hL_this_now_folk hK_this_now_folk hZ) (cwV 1 hts (tw_V tw_405 tw_406 tw_407 tw_2 tw_408) rfl rfl rfl (by decide +kernel) ⟨Nat.le_of_ble_eq_true rfl, Nat.le_of_ble_eq_true rfl⟩) ⟨pq_blind, pq_recv hK hP hL_this hK_this (by decide) rfl, pq_pre hK hN hP hD⟩ rfl rfl hl.1 rfl (lv_room (Nat.le_of_ble_eq_true rfl)) dX11_choose_2 ⟨Nat.le_of_ble_eq_true rfl, Nat.le_of_ble_eq_true rfl⟩) hD hS hA (fun r_1 σ1 μ1 H locs hw_2 hP hD hS => ?_)
  obtain ⟨hu_3, hr_4⟩ := hw_2
  obtain ⟨hu_3a, hu_3b⟩ := Prod.mk.inj hu_3
  rw [hu_3a, hu_3b] at hP hD
  subst hr_4
  refine lv_if_eq (tgt := 17) hx hb dX11_choose_5 (by decide) (fun c_5 => ?_) (fun c_5 => absurd c_5 (by decide))
  refine lv_iconst (v := 0) hx hb dX11_choose_17 (by decide) ?_
  exact W.zret (v := 0) hx hb hr (by decide) (fun t1 ht hW => ⟨⟨0, (σ, I, J, ri, rj, rq), rfl, ⟨rfl, rfl⟩, by rw [ht]; exact hP, va_K.moved hW.alike hK, hD⟩, hS.F ht⟩) hS.2.2 dX11_choose_18

set_option maxHeartbeats 4000000 in
set_option maxRecDepth 100000 in
theorem c_X11_is (l : Launch) (D : va_G) (t : pq_T) (σ : pq_S) (I : Nat → Nat → Int32) (J : Nat → Nat → Int64) (ri : Nat → Nat → Int32) (rj : Nat → Nat → Int64) (rq : Nat → Nat → Option Nat) (sz : Nat) (this : Nat) (a_what : Int32) (a_person : Int32) (a_month : Int32) (hL_this : this ∈ σ.1) (hK_this : σ.2.1 this = 11) (this_now : Nat) (hR_this_now : σ.2.2.1 352 this = some this_now) (hL_this_now : this_now ∈ σ.1) (hK_this_now : σ.2.1 this_now = 10) (this_now_folk : Nat) (hR_this_now_folk : σ.2.2.1 328 this_now = some this_now_folk) (hL_this_now_folk : this_now_folk ∈ σ.1) (hK_this_now_folk : σ.2.1 this_now_folk = 0) (hZ : pq_Z I) : MetI l yX11_is (wa yX11_is cX11_is 4 (some .int)) ({ frames := 2, cells := 0, slots := 0, locals := 43 }) [.ref this, .int a_what, .int a_person, .int a_month] D t σ (I, J, ri, rj, rq) sz 0 0 (fun (r : Int32) (u : pq_S × pq_M) => u = (σ, I, J, ri, rj, rq) ∧ ((r = (-1)))) := by
  refine Met.ofW (cc := cX11_is) (maxL := 4) (ret := (some .int)) (by decide) rfl ?_
  intro p e s m args below meth c s₁ B hml hv
  obtain ⟨rfl, hsz, hP, hK, hD0, hN⟩ := hv
  have hx := B.exec
  have hb := B.bytes
  have hr := B.returns
  have hts := atoms_spec (ws := (wa yX11_is cX11_is 4 (some .int))) B.pre
  have hown : s.vm.findClass RX11 = some m.cls := findClass_of_methodNamed B.named
  have hlocks := B.notSynchronized
  subst hsz
  have hD : va_D (pq_B t σ (I, J, ri, rj, rq) s.heap.size) (pq_P t σ (I, J, ri, rj, rq)) := hD0.self
  generalize hAe : pq_B t σ (I, J, ri, rj, rq) s.heap.size = A at hD ⊢
  have hA : ∀ q : Nat, s.heap.size ≤ q → A q := fun q h => by rw [← hAe]; exact Or.inr h
  have hS : va_S A s.heap s.heap [] := va_S.rf
  have hl := lv_entry ([.ref this, .int a_what, .int a_person, .int a_month]) (n := 4) (Nat.le_of_ble_eq_true rfl)
  rw [lg_entry_eq]
  generalize (lg_sl ([.ref this, .int a_what, .int a_person, .int a_month]) ++ List.replicate (4 - (lg_sl ([.ref this, .int a_what, .int a_person, .int a_month])).length) Slot.unset).toArray = ls at hl ⊢
  have hl : lv_has ls 4 [(0, .ref this), (1, .int a_what), (2, .int a_person), (3, .int a_month)] := hl
  refine lv_iload_n hx hb dX11_is_0 rfl (lv_at hl 1 rfl) ?_
  refine lv_iconst (v := 0) hx hb dX11_is_1 (by decide) ?_
  refine lv_iconst (v := 2) hx hb dX11_is_2 (by decide) ?_
  refine pk_i (va_runS (As := [.int a_what, .int 0, .int 2]) (rest := []) ⟨hx, hb, hml, hown, hts⟩ (c_X11_between l D t σ I J ri rj rq (Array.size s.heap) a_what (0 : Int32) (2 : Int32)) (va_cwS 3 hts (tw_S tw_215 tw_216 tw_2 tw_217) rfl rfl rfl (by decide +kernel) ⟨Nat.le_of_ble_eq_true rfl, Nat.le_of_ble_eq_true rfl⟩) ⟨pq_blind, pq_pre hK hN hP hD⟩ rfl rfl hl.1 rfl (lv_room (Nat.le_of_ble_eq_true rfl)) dX11_is_3 ⟨Nat.le_of_ble_eq_true rfl, Nat.le_of_ble_eq_true rfl⟩) hD hS hA (fun r_1 σ1 μ1 H locs hw_2 hP hD hS => ?_)
  obtain ⟨hu_3, hr_4⟩ := hw_2
  obtain ⟨hu_3a, hu_3b⟩ := Prod.mk.inj hu_3
  rw [hu_3a, hu_3b] at hP hD
  rcases hr_4 with ⟨rfl, hr_4_0, hr_4_1⟩ | ⟨rfl, hr_4_0⟩
  · refine lv_if_eq (tgt := 24) hx hb dX11_is_6 (by decide) (fun c_5 => absurd c_5 (by decide)) (fun c_5 => ?_)
    refine lv_aload_n hx hb dX11_is_9 rfl (lv_at hl 0 rfl) ?_
    refine lv_iload_n hx hb dX11_is_10 rfl (lv_at hl 2 rfl) ?_
    refine pk_i (va_runV (As := [.int a_person]) (rest := []) ⟨hx, hb, hml, hown, hts⟩ (c_X11_isPerson l D t σ I J ri rj rq H.size this a_person hL_this hK_this this_now hR_this_now hL_this_now hK_this_now this_now_folk hR_this_now_folk hL_this_now_folk hK_this_now_folk hZ) (cwV 1 hts (tw_V tw_405 tw_406 tw_407 tw_2 tw_408) rfl rfl rfl (by decide +kernel) ⟨Nat.le_of_ble_eq_true rfl, Nat.le_of_ble_eq_true rfl⟩) ⟨pq_blind, pq_recv hK hP hL_this hK_this (by decide) rfl, pq_pre hK hN hP hD⟩ rfl rfl hl.1 rfl (lv_room (Nat.le_of_ble_eq_true rfl)) dX11_is_11 ⟨Nat.le_of_ble_eq_true rfl, Nat.le_of_ble_eq_true rfl⟩) hD hS hA (fun r_6 σ1 μ1 H locs hw_7 hP hD hS => ?_)
    obtain ⟨hu_8, hr_9⟩ := hw_7
    obtain ⟨hu_8a, hu_8b⟩ := Prod.mk.inj hu_8
    rw [hu_8a, hu_8b] at hP hD
    subst hr_9
    refine lv_if_eq (tgt := 24) hx hb dX11_is_14 (by decide) (fun c_10 => ?_) (fun c_10 => absurd c_10 (by decide))
    refine lv_iconst (v := (-1)) hx hb dX11_is_24 (by decide) ?_
    exact W.iret (v := (-1)) hx hb hr (fun t1 ht hW => ⟨⟨(-1), (σ, I, J, ri, rj, rq), rfl, ⟨rfl, rfl⟩, by rw [ht]; exact hP, va_K.moved hW.alike hK, hD⟩, hS.F ht⟩) hS.2.2 dX11_is_25
  · refine lv_if_eq (tgt := 24) hx hb dX11_is_6 (by decide) (fun c_11 => ?_) (fun c_11 => absurd c_11 (by decide))
    refine lv_iconst (v := (-1)) hx hb dX11_is_24 (by decide) ?_
    exact W.iret (v := (-1)) hx hb hr (fun t1 ht hW => ⟨⟨(-1), (σ, I, J, ri, rj, rq), rfl, ⟨rfl, rfl⟩, by rw [ht]; exact hP, va_K.moved hW.alike hK, hD⟩, hS.F ht⟩) hS.2.2 dX11_is_25

set_option maxHeartbeats 4000000 in
set_option maxRecDepth 100000 in
theorem c_X11_why (l : Launch) (D : va_G) (t : pq_T) (σ : pq_S) (I : Nat → Nat → Int32) (J : Nat → Nat → Int64) (ri : Nat → Nat → Int32) (rj : Nat → Nat → Int64) (rq : Nat → Nat → Option Nat) (sz : Nat) (this : Nat) (a_what : Int32) (a_person : Int32) (a_month : Int32) (hL_this : this ∈ σ.1) (hK_this : σ.2.1 this = 11) (this_now : Nat) (hR_this_now : σ.2.2.1 352 this = some this_now) (hL_this_now : this_now ∈ σ.1) (hK_this_now : σ.2.1 this_now = 10) (this_now_folk : Nat) (hR_this_now_folk : σ.2.2.1 328 this_now = some this_now_folk) (hL_this_now_folk : this_now_folk ∈ σ.1) (hK_this_now_folk : σ.2.1 this_now_folk = 0) (hZ : pq_Z I) : MetI l yX11_why (wa yX11_why cX11_why 4 (some .int)) ({ frames := 2, cells := 0, slots := 0, locals := 43 }) [.ref this, .int a_what, .int a_person, .int a_month] D t σ (I, J, ri, rj, rq) sz 0 0 (fun (r : Int32) (u : pq_S × pq_M) => u = (σ, I, J, ri, rj, rq) ∧ ((r = (-1)))) := by
  refine Met.ofW (cc := cX11_why) (maxL := 4) (ret := (some .int)) (by decide) rfl ?_
  intro p e s m args below meth c s₁ B hml hv
  obtain ⟨rfl, hsz, hP, hK, hD0, hN⟩ := hv
  have hx := B.exec
  have hb := B.bytes
  have hr := B.returns
  have hts := atoms_spec (ws := (wa yX11_why cX11_why 4 (some .int))) B.pre
  have hown : s.vm.findClass RX11 = some m.cls := findClass_of_methodNamed B.named
  have hlocks := B.notSynchronized
  subst hsz
  have hD : va_D (pq_B t σ (I, J, ri, rj, rq) s.heap.size) (pq_P t σ (I, J, ri, rj, rq)) := hD0.self
  generalize hAe : pq_B t σ (I, J, ri, rj, rq) s.heap.size = A at hD ⊢
  have hA : ∀ q : Nat, s.heap.size ≤ q → A q := fun q h => by rw [← hAe]; exact Or.inr h
  have hS : va_S A s.heap s.heap [] := va_S.rf
  have hl := lv_entry ([.ref this, .int a_what, .int a_person, .int a_month]) (n := 4) (Nat.le_of_ble_eq_true rfl)
  rw [lg_entry_eq]
  generalize (lg_sl ([.ref this, .int a_what, .int a_person, .int a_month]) ++ List.replicate (4 - (lg_sl ([.ref this, .int a_what, .int a_person, .int a_month])).length) Slot.unset).toArray = ls at hl ⊢
  have hl : lv_has ls 4 [(0, .ref this), (1, .int a_what), (2, .int a_person), (3, .int a_month)] := hl
  refine lv_iload_n hx hb dX11_why_0 rfl (lv_at hl 1 rfl) ?_
  refine lv_iconst (v := 0) hx hb dX11_why_1 (by decide) ?_
  refine lv_iconst (v := 2) hx hb dX11_why_2 (by decide) ?_
  refine pk_i (va_runS (As := [.int a_what, .int 0, .int 2]) (rest := []) ⟨hx, hb, hml, hown, hts⟩ (c_X11_between l D t σ I J ri rj rq (Array.size s.heap) a_what (0 : Int32) (2 : Int32)) (va_cwS 3 hts (tw_S tw_215 tw_216 tw_2 tw_217) rfl rfl rfl (by decide +kernel) ⟨Nat.le_of_ble_eq_true rfl, Nat.le_of_ble_eq_true rfl⟩) ⟨pq_blind, pq_pre hK hN hP hD⟩ rfl rfl hl.1 rfl (lv_room (Nat.le_of_ble_eq_true rfl)) dX11_why_3 ⟨Nat.le_of_ble_eq_true rfl, Nat.le_of_ble_eq_true rfl⟩) hD hS hA (fun r_1 σ1 μ1 H locs hw_2 hP hD hS => ?_)
  obtain ⟨hu_3, hr_4⟩ := hw_2
  obtain ⟨hu_3a, hu_3b⟩ := Prod.mk.inj hu_3
  rw [hu_3a, hu_3b] at hP hD
  rcases hr_4 with ⟨rfl, hr_4_0, hr_4_1⟩ | ⟨rfl, hr_4_0⟩
  · refine lv_if_eq (tgt := 24) hx hb dX11_why_6 (by decide) (fun c_5 => absurd c_5 (by decide)) (fun c_5 => ?_)
    refine lv_aload_n hx hb dX11_why_9 rfl (lv_at hl 0 rfl) ?_
    refine lv_iload_n hx hb dX11_why_10 rfl (lv_at hl 2 rfl) ?_
    refine pk_i (va_runV (As := [.int a_person]) (rest := []) ⟨hx, hb, hml, hown, hts⟩ (c_X11_isPerson l D t σ I J ri rj rq H.size this a_person hL_this hK_this this_now hR_this_now hL_this_now hK_this_now this_now_folk hR_this_now_folk hL_this_now_folk hK_this_now_folk hZ) (cwV 1 hts (tw_V tw_405 tw_406 tw_407 tw_2 tw_408) rfl rfl rfl (by decide +kernel) ⟨Nat.le_of_ble_eq_true rfl, Nat.le_of_ble_eq_true rfl⟩) ⟨pq_blind, pq_recv hK hP hL_this hK_this (by decide) rfl, pq_pre hK hN hP hD⟩ rfl rfl hl.1 rfl (lv_room (Nat.le_of_ble_eq_true rfl)) dX11_why_11 ⟨Nat.le_of_ble_eq_true rfl, Nat.le_of_ble_eq_true rfl⟩) hD hS hA (fun r_6 σ1 μ1 H locs hw_7 hP hD hS => ?_)
    obtain ⟨hu_8, hr_9⟩ := hw_7
    obtain ⟨hu_8a, hu_8b⟩ := Prod.mk.inj hu_8
    rw [hu_8a, hu_8b] at hP hD
    subst hr_9
    refine lv_if_eq (tgt := 24) hx hb dX11_why_14 (by decide) (fun c_10 => ?_) (fun c_10 => absurd c_10 (by decide))
    refine lv_iconst (v := (-1)) hx hb dX11_why_24 (by decide) ?_
    exact W.iret (v := (-1)) hx hb hr (fun t1 ht hW => ⟨⟨(-1), (σ, I, J, ri, rj, rq), rfl, ⟨rfl, rfl⟩, by rw [ht]; exact hP, va_K.moved hW.alike hK, hD⟩, hS.F ht⟩) hS.2.2 dX11_why_25
  · refine lv_if_eq (tgt := 24) hx hb dX11_why_6 (by decide) (fun c_11 => ?_) (fun c_11 => absurd c_11 (by decide))
    refine lv_iconst (v := (-1)) hx hb dX11_why_24 (by decide) ?_
    exact W.iret (v := (-1)) hx hb hr (fun t1 ht hW => ⟨⟨(-1), (σ, I, J, ri, rj, rq), rfl, ⟨rfl, rfl⟩, by rw [ht]; exact hP, va_K.moved hW.alike hK, hD⟩, hS.F ht⟩) hS.2.2 dX11_why_25

set_option maxHeartbeats 4000000 in
set_option maxRecDepth 100000 in
theorem c_X11_cellOf (l : Launch) (D : va_G) (t : pq_T) (σ : pq_S) (I : Nat → Nat → Int32) (J : Nat → Nat → Int64) (ri : Nat → Nat → Int32) (rj : Nat → Nat → Int64) (rq : Nat → Nat → Option Nat) (sz : Nat) (this : Nat) (a_cell : Int32) (a_what : Int32) (hL_this : this ∈ σ.1) (hK_this : σ.2.1 this = 11) (this_now : Nat) (hR_this_now : σ.2.2.1 352 this = some this_now) (hL_this_now : this_now ∈ σ.1) (hK_this_now : σ.2.1 this_now = 10) (this_now_land : Nat) (hR_this_now_land : σ.2.2.1 327 this_now = some this_now_land) (hL_this_now_land : this_now_land ∈ σ.1) (hK_this_now_land : σ.2.1 this_now_land = 2) (hZ : pq_Z I) : MetI l yX11_cellOf (wa yX11_cellOf cX11_cellOf 4 (some .int)) ({ frames := 2, cells := 0, slots := 0, locals := 43 }) [.ref this, .int a_cell, .int a_what] D t σ (I, J, ri, rj, rq) sz 0 0 (fun (r : Int32) (u : pq_S × pq_M) => u = (σ, I, J, ri, rj, rq) ∧ ((r = (-1000000)))) := by
  refine Met.ofW (cc := cX11_cellOf) (maxL := 4) (ret := (some .int)) (by decide) rfl ?_
  intro p e s m args below meth c s₁ B hml hv
  obtain ⟨rfl, hsz, hP, hK, hD0, hN⟩ := hv
  have hx := B.exec
  have hb := B.bytes
  have hr := B.returns
  have hts := atoms_spec (ws := (wa yX11_cellOf cX11_cellOf 4 (some .int))) B.pre
  have hown : s.vm.findClass RX11 = some m.cls := findClass_of_methodNamed B.named
  have hlocks := B.notSynchronized
  subst hsz
  have hD : va_D (pq_B t σ (I, J, ri, rj, rq) s.heap.size) (pq_P t σ (I, J, ri, rj, rq)) := hD0.self
  generalize hAe : pq_B t σ (I, J, ri, rj, rq) s.heap.size = A at hD ⊢
  have hA : ∀ q : Nat, s.heap.size ≤ q → A q := fun q h => by rw [← hAe]; exact Or.inr h
  have hS : va_S A s.heap s.heap [] := va_S.rf
  have hl := lv_entry ([.ref this, .int a_cell, .int a_what]) (n := 4) (Nat.le_of_ble_eq_true rfl)
  rw [lg_entry_eq]
  generalize (lg_sl ([.ref this, .int a_cell, .int a_what]) ++ List.replicate (4 - (lg_sl ([.ref this, .int a_cell, .int a_what])).length) Slot.unset).toArray = ls at hl ⊢
  have hl : lv_has ls 4 [(0, .ref this), (1, .int a_cell), (2, .int a_what)] := hl
  refine lv_aload_n hx hb dX11_cellOf_0 rfl (lv_at hl 0 rfl) ?_
  refine lv_iload_n hx hb dX11_cellOf_1 rfl (lv_at hl 1 rfl) ?_
  refine pk_i (va_runV (As := [.int a_cell]) (rest := []) ⟨hx, hb, hml, hown, hts⟩ (c_X11_isCell l D t σ I J ri rj rq (Array.size s.heap) this a_cell hL_this hK_this this_now hR_this_now hL_this_now hK_this_now this_now_land hR_this_now_land hL_this_now_land hK_this_now_land hZ) (cwV 1 hts (tw_V tw_332 tw_333 tw_334 tw_2 tw_335) rfl rfl rfl (by decide +kernel) ⟨Nat.le_of_ble_eq_true rfl, Nat.le_of_ble_eq_true rfl⟩) ⟨pq_blind, pq_recv hK hP hL_this hK_this (by decide) rfl, pq_pre hK hN hP hD⟩ rfl rfl hl.1 rfl (lv_room (Nat.le_of_ble_eq_true rfl)) dX11_cellOf_2 ⟨Nat.le_of_ble_eq_true rfl, Nat.le_of_ble_eq_true rfl⟩) hD hS hA (fun r_1 σ1 μ1 H locs hw_2 hP hD hS => ?_)
  obtain ⟨hu_3, hr_4⟩ := hw_2
  obtain ⟨hu_3a, hu_3b⟩ := Prod.mk.inj hu_3
  rw [hu_3a, hu_3b] at hP hD
  subst hr_4
  refine lv_if_ne (tgt := 11) hx hb dX11_cellOf_5 (by decide) (fun c_5 => absurd c_5 (by decide)) (fun c_5 => ?_)
  refine lv_ldc hx hb hown (hts _ (tw_c tw_269)) dX11_cellOf_8 ?_
  exact W.iret (v := (-1000000)) hx hb hr (fun t1 ht hW => ⟨⟨(-1000000), (σ, I, J, ri, rj, rq), rfl, ⟨rfl, rfl⟩, by rw [ht]; exact hP, va_K.moved hW.alike hK, hD⟩, hS.F ht⟩) hS.2.2 dX11_cellOf_10

set_option maxHeartbeats 4000000 in
set_option maxRecDepth 100000 in
theorem c_X11_personOf (l : Launch) (D : va_G) (t : pq_T) (σ : pq_S) (I : Nat → Nat → Int32) (J : Nat → Nat → Int64) (ri : Nat → Nat → Int32) (rj : Nat → Nat → Int64) (rq : Nat → Nat → Option Nat) (sz : Nat) (this : Nat) (a_person : Int32) (a_what : Int32) (hL_this : this ∈ σ.1) (hK_this : σ.2.1 this = 11) (this_now : Nat) (hR_this_now : σ.2.2.1 352 this = some this_now) (hL_this_now : this_now ∈ σ.1) (hK_this_now : σ.2.1 this_now = 10) (this_now_folk : Nat) (hR_this_now_folk : σ.2.2.1 328 this_now = some this_now_folk) (hL_this_now_folk : this_now_folk ∈ σ.1) (hK_this_now_folk : σ.2.1 this_now_folk = 0) (hZ : pq_Z I) : MetI l yX11_personOf (wa yX11_personOf cX11_personOf 4 (some .int)) ({ frames := 2, cells := 0, slots := 0, locals := 43 }) [.ref this, .int a_person, .int a_what] D t σ (I, J, ri, rj, rq) sz 0 0 (fun (r : Int32) (u : pq_S × pq_M) => u = (σ, I, J, ri, rj, rq) ∧ ((r = (-1)))) := by
  refine Met.ofW (cc := cX11_personOf) (maxL := 4) (ret := (some .int)) (by decide) rfl ?_
  intro p e s m args below meth c s₁ B hml hv
  obtain ⟨rfl, hsz, hP, hK, hD0, hN⟩ := hv
  have hx := B.exec
  have hb := B.bytes
  have hr := B.returns
  have hts := atoms_spec (ws := (wa yX11_personOf cX11_personOf 4 (some .int))) B.pre
  have hown : s.vm.findClass RX11 = some m.cls := findClass_of_methodNamed B.named
  have hlocks := B.notSynchronized
  subst hsz
  have hD : va_D (pq_B t σ (I, J, ri, rj, rq) s.heap.size) (pq_P t σ (I, J, ri, rj, rq)) := hD0.self
  generalize hAe : pq_B t σ (I, J, ri, rj, rq) s.heap.size = A at hD ⊢
  have hA : ∀ q : Nat, s.heap.size ≤ q → A q := fun q h => by rw [← hAe]; exact Or.inr h
  have hS : va_S A s.heap s.heap [] := va_S.rf
  have hl := lv_entry ([.ref this, .int a_person, .int a_what]) (n := 4) (Nat.le_of_ble_eq_true rfl)
  rw [lg_entry_eq]
  generalize (lg_sl ([.ref this, .int a_person, .int a_what]) ++ List.replicate (4 - (lg_sl ([.ref this, .int a_person, .int a_what])).length) Slot.unset).toArray = ls at hl ⊢
  have hl : lv_has ls 4 [(0, .ref this), (1, .int a_person), (2, .int a_what)] := hl
  refine lv_aload_n hx hb dX11_personOf_0 rfl (lv_at hl 0 rfl) ?_
  refine lv_iload_n hx hb dX11_personOf_1 rfl (lv_at hl 1 rfl) ?_
  refine pk_i (va_runV (As := [.int a_person]) (rest := []) ⟨hx, hb, hml, hown, hts⟩ (c_X11_isPerson l D t σ I J ri rj rq (Array.size s.heap) this a_person hL_this hK_this this_now hR_this_now hL_this_now hK_this_now this_now_folk hR_this_now_folk hL_this_now_folk hK_this_now_folk hZ) (cwV 1 hts (tw_V tw_405 tw_406 tw_407 tw_2 tw_408) rfl rfl rfl (by decide +kernel) ⟨Nat.le_of_ble_eq_true rfl, Nat.le_of_ble_eq_true rfl⟩) ⟨pq_blind, pq_recv hK hP hL_this hK_this (by decide) rfl, pq_pre hK hN hP hD⟩ rfl rfl hl.1 rfl (lv_room (Nat.le_of_ble_eq_true rfl)) dX11_personOf_2 ⟨Nat.le_of_ble_eq_true rfl, Nat.le_of_ble_eq_true rfl⟩) hD hS hA (fun r_1 σ1 μ1 H locs hw_2 hP hD hS => ?_)
  obtain ⟨hu_3, hr_4⟩ := hw_2
  obtain ⟨hu_3a, hu_3b⟩ := Prod.mk.inj hu_3
  rw [hu_3a, hu_3b] at hP hD
  subst hr_4
  refine lv_if_ne (tgt := 10) hx hb dX11_personOf_5 (by decide) (fun c_5 => absurd c_5 (by decide)) (fun c_5 => ?_)
  refine lv_iconst (v := (-1)) hx hb dX11_personOf_8 (by decide) ?_
  exact W.iret (v := (-1)) hx hb hr (fun t1 ht hW => ⟨⟨(-1), (σ, I, J, ri, rj, rq), rfl, ⟨rfl, rfl⟩, by rw [ht]; exact hP, va_K.moved hW.alike hK, hD⟩, hS.F ht⟩) hS.2.2 dX11_personOf_9

set_option maxHeartbeats 4000000 in
set_option maxRecDepth 100000 in
theorem c_X11_grave (l : Launch) (D : va_G) (t : pq_T) (σ : pq_S) (I : Nat → Nat → Int32) (J : Nat → Nat → Int64) (ri : Nat → Nat → Int32) (rj : Nat → Nat → Int64) (rq : Nat → Nat → Option Nat) (sz : Nat) (this : Nat) (a_cell : Int32) (hL_this : this ∈ σ.1) (hK_this : σ.2.1 this = 11) (this_now : Nat) (hR_this_now : σ.2.2.1 352 this = some this_now) (hL_this_now : this_now ∈ σ.1) (hK_this_now : σ.2.1 this_now = 10) (this_now_land : Nat) (hR_this_now_land : σ.2.2.1 327 this_now = some this_now_land) (hL_this_now_land : this_now_land ∈ σ.1) (hK_this_now_land : σ.2.1 this_now_land = 2) (hZ : pq_Z I) : MetI l yX11_grave (wa yX11_grave cX11_grave 2 (some .int)) ({ frames := 2, cells := 0, slots := 0, locals := 43 }) [.ref this, .int a_cell] D t σ (I, J, ri, rj, rq) sz 0 0 (fun (r : Int32) (u : pq_S × pq_M) => u = (σ, I, J, ri, rj, rq) ∧ ((r = (-1)))) := by
  refine Met.ofW (cc := cX11_grave) (maxL := 2) (ret := (some .int)) (by decide) rfl ?_
  intro p e s m args below meth c s₁ B hml hv
  obtain ⟨rfl, hsz, hP, hK, hD0, hN⟩ := hv
  have hx := B.exec
  have hb := B.bytes
  have hr := B.returns
  have hts := atoms_spec (ws := (wa yX11_grave cX11_grave 2 (some .int))) B.pre
  have hown : s.vm.findClass RX11 = some m.cls := findClass_of_methodNamed B.named
  have hlocks := B.notSynchronized
  subst hsz
  have hD : va_D (pq_B t σ (I, J, ri, rj, rq) s.heap.size) (pq_P t σ (I, J, ri, rj, rq)) := hD0.self
  generalize hAe : pq_B t σ (I, J, ri, rj, rq) s.heap.size = A at hD ⊢
  have hA : ∀ q : Nat, s.heap.size ≤ q → A q := fun q h => by rw [← hAe]; exact Or.inr h
  have hS : va_S A s.heap s.heap [] := va_S.rf
  have hl := lv_entry ([.ref this, .int a_cell]) (n := 2) (Nat.le_of_ble_eq_true rfl)
  rw [lg_entry_eq]
  generalize (lg_sl ([.ref this, .int a_cell]) ++ List.replicate (2 - (lg_sl ([.ref this, .int a_cell])).length) Slot.unset).toArray = ls at hl ⊢
  have hl : lv_has ls 2 [(0, .ref this), (1, .int a_cell)] := hl
  refine lv_aload_n hx hb dX11_grave_0 rfl (lv_at hl 0 rfl) ?_
  refine lv_iload_n hx hb dX11_grave_1 rfl (lv_at hl 1 rfl) ?_
  refine pk_i (va_runV (As := [.int a_cell]) (rest := []) ⟨hx, hb, hml, hown, hts⟩ (c_X11_isCell l D t σ I J ri rj rq (Array.size s.heap) this a_cell hL_this hK_this this_now hR_this_now hL_this_now hK_this_now this_now_land hR_this_now_land hL_this_now_land hK_this_now_land hZ) (cwV 1 hts (tw_V tw_332 tw_333 tw_334 tw_2 tw_335) rfl rfl rfl (by decide +kernel) ⟨Nat.le_of_ble_eq_true rfl, Nat.le_of_ble_eq_true rfl⟩) ⟨pq_blind, pq_recv hK hP hL_this hK_this (by decide) rfl, pq_pre hK hN hP hD⟩ rfl rfl hl.1 rfl (lv_room (Nat.le_of_ble_eq_true rfl)) dX11_grave_2 ⟨Nat.le_of_ble_eq_true rfl, Nat.le_of_ble_eq_true rfl⟩) hD hS hA (fun r_1 σ1 μ1 H locs hw_2 hP hD hS => ?_)
  obtain ⟨hu_3, hr_4⟩ := hw_2
  obtain ⟨hu_3a, hu_3b⟩ := Prod.mk.inj hu_3
  rw [hu_3a, hu_3b] at hP hD
  subst hr_4
  refine lv_if_eq (tgt := 23) hx hb dX11_grave_5 (by decide) (fun c_5 => ?_) (fun c_5 => absurd c_5 (by decide))
  refine lv_iconst (v := (-1)) hx hb dX11_grave_23 (by decide) ?_
  exact W.iret (v := (-1)) hx hb hr (fun t1 ht hW => ⟨⟨(-1), (σ, I, J, ri, rj, rq), rfl, ⟨rfl, rfl⟩, by rw [ht]; exact hP, va_K.moved hW.alike hK, hD⟩, hS.F ht⟩) hS.2.2 dX11_grave_24

set_option maxHeartbeats 4000000 in
set_option maxRecDepth 100000 in
theorem c_X11_bury (l : Launch) (D : va_G) (t : pq_T) (σ : pq_S) (I : Nat → Nat → Int32) (J : Nat → Nat → Int64) (ri : Nat → Nat → Int32) (rj : Nat → Nat → Int64) (rq : Nat → Nat → Option Nat) (sz : Nat) (this : Nat) (a_grave : Int32) (a_cell : Int32) (hL_this : this ∈ σ.1) (hK_this : σ.2.1 this = 11) (this_now : Nat) (hR_this_now : σ.2.2.1 352 this = some this_now) (hL_this_now : this_now ∈ σ.1) (hK_this_now : σ.2.1 this_now = 10) (this_now_graves : Nat) (hR_this_now_graves : σ.2.2.1 330 this_now = some this_now_graves) (hL_this_now_graves : this_now_graves ∈ σ.1) (hK_this_now_graves : σ.2.1 this_now_graves = 1) (hZ : pq_Z I) : MetI l yX11_bury (wa yX11_bury cX11_bury 3 (some .boolean)) ({ frames := 1, cells := 0, slots := 0, locals := 22 }) [.ref this, .int a_grave, .int a_cell] D t σ (I, J, ri, rj, rq) sz 0 0 (fun (r : Int32) (u : pq_S × pq_M) => u = (σ, I, J, ri, rj, rq) ∧ ((r = 0))) := by
  refine Met.ofW (cc := cX11_bury) (maxL := 3) (ret := (some .boolean)) (by decide) rfl ?_
  intro p e s m args below meth c s₁ B hml hv
  obtain ⟨rfl, hsz, hP, hK, hD0, hN⟩ := hv
  have hx := B.exec
  have hb := B.bytes
  have hr := B.returns
  have hts := atoms_spec (ws := (wa yX11_bury cX11_bury 3 (some .boolean))) B.pre
  have hown : s.vm.findClass RX11 = some m.cls := findClass_of_methodNamed B.named
  have hlocks := B.notSynchronized
  subst hsz
  have hD : va_D (pq_B t σ (I, J, ri, rj, rq) s.heap.size) (pq_P t σ (I, J, ri, rj, rq)) := hD0.self
  generalize hAe : pq_B t σ (I, J, ri, rj, rq) s.heap.size = A at hD ⊢
  have hA : ∀ q : Nat, s.heap.size ≤ q → A q := fun q h => by rw [← hAe]; exact Or.inr h
  have hS : va_S A s.heap s.heap [] := va_S.rf
  have hl := lv_entry ([.ref this, .int a_grave, .int a_cell]) (n := 3) (Nat.le_of_ble_eq_true rfl)
  rw [lg_entry_eq]
  generalize (lg_sl ([.ref this, .int a_grave, .int a_cell]) ++ List.replicate (3 - (lg_sl ([.ref this, .int a_grave, .int a_cell])).length) Slot.unset).toArray = ls at hl ⊢
  have hl : lv_has ls 3 [(0, .ref this), (1, .int a_grave), (2, .int a_cell)] := hl
  refine lv_iload_n hx hb dX11_bury_0 rfl (lv_at hl 1 rfl) ?_
  refine lv_iconst (v := 0) hx hb dX11_bury_1 (by decide) ?_
  refine lv_aload_n hx hb dX11_bury_2 rfl (lv_at hl 0 rfl) ?_
  refine pg_f (v := .ref this_now) (C := RX11) (T := TX11) (N := 5) hx hb hts (tw_i inlX11) hown hK hP hL_this hK_this (by decide) rfl 0 (by decide) (hts _ (tw_c tw_16)) (pq_hv rfl hR_this_now) dX11_bury_3 ?_
  refine pg_f (v := .ref this_now_graves) (C := RX10) (T := TX10) (N := 13) hx hb hts (tw_i inlX10) hown hK hP hL_this_now hK_this_now (by decide) rfl 10 (by decide) (hts _ (tw_c tw_1499)) (pq_hv rfl hR_this_now_graves) dX11_bury_6 ?_
  refine pg_f (v := .int (I 32 this_now_graves)) (C := RX1) (T := TX1) (N := 3) hx hb hts (tw_i inlX1) hown hK hP hL_this_now_graves hK_this_now_graves (by decide) rfl 0 (by decide) (hts _ (tw_c tw_1500)) rfl dX11_bury_9 ?_
  refine lv_tov 0 (congrFun (hZ 32 (by decide)) this_now_graves) ?_
  refine lv_iconst (v := 1) hx hb dX11_bury_12 (by decide) ?_
  refine lv_isub hx hb dX11_bury_13 ?_
  refine lv_tov (-1) (by decide) ?_
  refine pk_i (va_runS (As := [.int a_grave, .int 0, .int (-1)]) (rest := []) ⟨hx, hb, hml, hown, hts⟩ (c_X11_between l D t σ I J ri rj rq (Array.size s.heap) a_grave (0 : Int32) (-1 : Int32)) (va_cwS 3 hts (tw_S tw_215 tw_216 tw_2 tw_217) rfl rfl rfl (by decide +kernel) ⟨Nat.le_of_ble_eq_true rfl, Nat.le_of_ble_eq_true rfl⟩) ⟨pq_blind, pq_pre hK hN hP hD⟩ rfl rfl hl.1 rfl (lv_room (Nat.le_of_ble_eq_true rfl)) dX11_bury_14 ⟨Nat.le_of_ble_eq_true rfl, Nat.le_of_ble_eq_true rfl⟩) hD hS hA (fun r_1 σ1 μ1 H locs hw_2 hP hD hS => ?_)
  obtain ⟨hu_3, hr_4⟩ := hw_2
  obtain ⟨hu_3a, hu_3b⟩ := Prod.mk.inj hu_3
  rw [hu_3a, hu_3b] at hP hD
  rcases hr_4 with ⟨rfl, hr_4_0, hr_4_1⟩ | ⟨rfl, hr_4_0⟩
  · exact (bt_no hr_4_0 hr_4_1 (by decide)).elim
  · refine lv_if_eq (tgt := 28) hx hb dX11_bury_17 (by decide) (fun c_5 => ?_) (fun c_5 => absurd c_5 (by decide))
    refine lv_iconst (v := 0) hx hb dX11_bury_28 (by decide) ?_
    exact W.zret (v := 0) hx hb hr (by decide) (fun t1 ht hW => ⟨⟨0, (σ, I, J, ri, rj, rq), rfl, ⟨rfl, rfl⟩, by rw [ht]; exact hP, va_K.moved hW.alike hK, hD⟩, hS.F ht⟩) hS.2.2 dX11_bury_29

set_option maxHeartbeats 4000000 in
set_option maxRecDepth 100000 in
theorem c_X11_found (l : Launch) (D : va_G) (t : pq_T) (σ : pq_S) (I : Nat → Nat → Int32) (J : Nat → Nat → Int64) (ri : Nat → Nat → Int32) (rj : Nat → Nat → Int64) (rq : Nat → Nat → Option Nat) (sz : Nat) (this : Nat) (a_cell : Int32) (a_i : Int32) (hL_this : this ∈ σ.1) (hK_this : σ.2.1 this = 11) (this_now : Nat) (hR_this_now : σ.2.2.1 352 this = some this_now) (hL_this_now : this_now ∈ σ.1) (hK_this_now : σ.2.1 this_now = 10) (this_now_land : Nat) (hR_this_now_land : σ.2.2.1 327 this_now = some this_now_land) (hL_this_now_land : this_now_land ∈ σ.1) (hK_this_now_land : σ.2.1 this_now_land = 2) (hZ : pq_Z I) : MetI l yX11_found (wa yX11_found cX11_found 3 (some .int)) ({ frames := 2, cells := 0, slots := 0, locals := 43 }) [.ref this, .int a_cell, .int a_i] D t σ (I, J, ri, rj, rq) sz 0 0 (fun (r : Int32) (u : pq_S × pq_M) => u = (σ, I, J, ri, rj, rq) ∧ ((r = (-1)))) := by
  refine Met.ofW (cc := cX11_found) (maxL := 3) (ret := (some .int)) (by decide) rfl ?_
  intro p e s m args below meth c s₁ B hml hv
  obtain ⟨rfl, hsz, hP, hK, hD0, hN⟩ := hv
  have hx := B.exec
  have hb := B.bytes
  have hr := B.returns
  have hts := atoms_spec (ws := (wa yX11_found cX11_found 3 (some .int))) B.pre
  have hown : s.vm.findClass RX11 = some m.cls := findClass_of_methodNamed B.named
  have hlocks := B.notSynchronized
  subst hsz
  have hD : va_D (pq_B t σ (I, J, ri, rj, rq) s.heap.size) (pq_P t σ (I, J, ri, rj, rq)) := hD0.self
  generalize hAe : pq_B t σ (I, J, ri, rj, rq) s.heap.size = A at hD ⊢
  have hA : ∀ q : Nat, s.heap.size ≤ q → A q := fun q h => by rw [← hAe]; exact Or.inr h
  have hS : va_S A s.heap s.heap [] := va_S.rf
  have hl := lv_entry ([.ref this, .int a_cell, .int a_i]) (n := 3) (Nat.le_of_ble_eq_true rfl)
  rw [lg_entry_eq]
  generalize (lg_sl ([.ref this, .int a_cell, .int a_i]) ++ List.replicate (3 - (lg_sl ([.ref this, .int a_cell, .int a_i])).length) Slot.unset).toArray = ls at hl ⊢
  have hl : lv_has ls 3 [(0, .ref this), (1, .int a_cell), (2, .int a_i)] := hl
  refine lv_aload_n hx hb dX11_found_0 rfl (lv_at hl 0 rfl) ?_
  refine lv_iload_n hx hb dX11_found_1 rfl (lv_at hl 1 rfl) ?_
  refine pk_i (va_runV (As := [.int a_cell]) (rest := []) ⟨hx, hb, hml, hown, hts⟩ (c_X11_isCell l D t σ I J ri rj rq (Array.size s.heap) this a_cell hL_this hK_this this_now hR_this_now hL_this_now hK_this_now this_now_land hR_this_now_land hL_this_now_land hK_this_now_land hZ) (cwV 1 hts (tw_V tw_332 tw_333 tw_334 tw_2 tw_335) rfl rfl rfl (by decide +kernel) ⟨Nat.le_of_ble_eq_true rfl, Nat.le_of_ble_eq_true rfl⟩) ⟨pq_blind, pq_recv hK hP hL_this hK_this (by decide) rfl, pq_pre hK hN hP hD⟩ rfl rfl hl.1 rfl (lv_room (Nat.le_of_ble_eq_true rfl)) dX11_found_2 ⟨Nat.le_of_ble_eq_true rfl, Nat.le_of_ble_eq_true rfl⟩) hD hS hA (fun r_1 σ1 μ1 H locs hw_2 hP hD hS => ?_)
  obtain ⟨hu_3, hr_4⟩ := hw_2
  obtain ⟨hu_3a, hu_3b⟩ := Prod.mk.inj hu_3
  rw [hu_3a, hu_3b] at hP hD
  subst hr_4
  refine lv_if_eq (tgt := 27) hx hb dX11_found_5 (by decide) (fun c_5 => ?_) (fun c_5 => absurd c_5 (by decide))
  refine lv_iconst (v := (-1)) hx hb dX11_found_27 (by decide) ?_
  exact W.iret (v := (-1)) hx hb hr (fun t1 ht hW => ⟨⟨(-1), (σ, I, J, ri, rj, rq), rfl, ⟨rfl, rfl⟩, by rw [ht]; exact hP, va_K.moved hW.alike hK, hD⟩, hS.F ht⟩) hS.2.2 dX11_found_28

set_option maxHeartbeats 4000000 in
set_option maxRecDepth 100000 in
theorem c_X11_force (l : Launch) (D : va_G) (t : pq_T) (σ : pq_S) (I : Nat → Nat → Int32) (J : Nat → Nat → Int64) (ri : Nat → Nat → Int32) (rj : Nat → Nat → Int64) (rq : Nat → Nat → Option Nat) (sz : Nat) (this : Nat) (a_text : Int32) (a_from : Int32) (a_to : Int32) (hL_this : this ∈ σ.1) (hK_this : σ.2.1 this = 11) (this_now : Nat) (hR_this_now : σ.2.2.1 352 this = some this_now) (hL_this_now : this_now ∈ σ.1) (hK_this_now : σ.2.1 this_now = 10) (this_now_law : Nat) (hR_this_now_law : σ.2.2.1 329 this_now = some this_now_law) (hL_this_now_law : this_now_law ∈ σ.1) (hK_this_now_law : σ.2.1 this_now_law = 3) (hZ : pq_Z I) : MetI l yX11_force (wa yX11_force cX11_force 6 (some .int)) ({ frames := 1, cells := 0, slots := 0, locals := 22 }) [.ref this, .int a_text, .int a_from, .int a_to] D t σ (I, J, ri, rj, rq) sz 0 0 (fun (r : Int32) (u : pq_S × pq_M) => u = (σ, I, J, ri, rj, rq) ∧ ((r = (-1)))) := by
  refine Met.ofW (cc := cX11_force) (maxL := 6) (ret := (some .int)) (by decide) rfl ?_
  intro p e s m args below meth c s₁ B hml hv
  obtain ⟨rfl, hsz, hP, hK, hD0, hN⟩ := hv
  have hx := B.exec
  have hb := B.bytes
  have hr := B.returns
  have hts := atoms_spec (ws := (wa yX11_force cX11_force 6 (some .int))) B.pre
  have hown : s.vm.findClass RX11 = some m.cls := findClass_of_methodNamed B.named
  have hlocks := B.notSynchronized
  subst hsz
  have hD : va_D (pq_B t σ (I, J, ri, rj, rq) s.heap.size) (pq_P t σ (I, J, ri, rj, rq)) := hD0.self
  generalize hAe : pq_B t σ (I, J, ri, rj, rq) s.heap.size = A at hD ⊢
  have hA : ∀ q : Nat, s.heap.size ≤ q → A q := fun q h => by rw [← hAe]; exact Or.inr h
  have hS : va_S A s.heap s.heap [] := va_S.rf
  have hl := lv_entry ([.ref this, .int a_text, .int a_from, .int a_to]) (n := 6) (Nat.le_of_ble_eq_true rfl)
  rw [lg_entry_eq]
  generalize (lg_sl ([.ref this, .int a_text, .int a_from, .int a_to]) ++ List.replicate (6 - (lg_sl ([.ref this, .int a_text, .int a_from, .int a_to])).length) Slot.unset).toArray = ls at hl ⊢
  have hl : lv_has ls 6 [(0, .ref this), (1, .int a_text), (2, .int a_from), (3, .int a_to)] := hl
  refine lv_aload_n hx hb dX11_force_0 rfl (lv_at hl 0 rfl) ?_
  refine pg_f (v := .ref this_now) (C := RX11) (T := TX11) (N := 5) hx hb hts (tw_i inlX11) hown hK hP hL_this hK_this (by decide) rfl 0 (by decide) (hts _ (tw_c tw_16)) (pq_hv rfl hR_this_now) dX11_force_1 ?_
  refine pg_f (v := .ref this_now_law) (C := RX10) (T := TX10) (N := 13) hx hb hts (tw_i inlX10) hown hK hP hL_this_now hK_this_now (by decide) rfl 9 (by decide) (hts _ (tw_c tw_648)) (pq_hv rfl hR_this_now_law) dX11_force_4 ?_
  refine lv_astore (lv' := [(4, .ref this_now_law), (0, .ref this), (1, .int a_text), (2, .int a_from), (3, .int a_to)]) hx hb dX11_force_7 hl (by decide) rfl (fun ls hl => ?_)
  refine lv_iload_n hx hb dX11_force_9 rfl (lv_at hl 2 rfl) ?_
  refine lv_iconst (v := 0) hx hb dX11_force_10 (by decide) ?_
  refine lv_aload hx hb dX11_force_11 (lv_at hl 0 rfl) ?_
  refine pg_f (v := .int (I 96 this_now_law)) (C := RX3) (T := TX3) (N := 8) hx hb hts (tw_i inlX3) hown hK hP hL_this_now_law hK_this_now_law (by decide) rfl 0 (by decide) (hts _ (tw_c tw_649)) rfl dX11_force_13 ?_
  refine lv_tov 0 (congrFun (hZ 96 (by decide)) this_now_law) ?_
  refine lv_iconst (v := 1) hx hb dX11_force_16 (by decide) ?_
  refine lv_isub hx hb dX11_force_17 ?_
  refine lv_tov (-1) (by decide) ?_
  refine pk_i (va_runS (As := [.int a_text, .int 0, .int (-1)]) (rest := []) ⟨hx, hb, hml, hown, hts⟩ (c_X11_between l D t σ I J ri rj rq (Array.size s.heap) a_text (0 : Int32) (-1 : Int32)) (va_cwS 3 hts (tw_S tw_215 tw_216 tw_2 tw_217) rfl rfl rfl (by decide +kernel) ⟨Nat.le_of_ble_eq_true rfl, Nat.le_of_ble_eq_true rfl⟩) ⟨pq_blind, pq_pre hK hN hP hD⟩ rfl rfl hl.1 rfl (lv_room (Nat.le_of_ble_eq_true rfl)) dX11_force_18 ⟨Nat.le_of_ble_eq_true rfl, Nat.le_of_ble_eq_true rfl⟩) hD hS hA (fun r_1 σ1 μ1 H locs hw_2 hP hD hS => ?_)
  obtain ⟨hu_3, hr_4⟩ := hw_2
  obtain ⟨hu_3a, hu_3b⟩ := Prod.mk.inj hu_3
  rw [hu_3a, hu_3b] at hP hD
  rcases hr_4 with ⟨rfl, hr_4_0, hr_4_1⟩ | ⟨rfl, hr_4_0⟩
  · exact (bt_no hr_4_0 hr_4_1 (by decide)).elim
  · refine lv_if_eq (tgt := 58) hx hb dX11_force_21 (by decide) (fun c_5 => ?_) (fun c_5 => absurd c_5 (by decide))
    refine lv_iconst (v := 0) hx hb dX11_force_58 (by decide) ?_
    refine lv_istore (lv' := [(5, .int 0), (4, .ref this_now_law), (0, .ref this), (1, .int a_text), (2, .int a_from), (3, .int a_to)]) hx hb dX11_force_59 hl (by decide) rfl (fun ls hl => ?_)
    refine lv_iload hx hb dX11_force_61 (lv_at hl 0 rfl) ?_
    refine lv_if_eq (tgt := 76) hx hb dX11_force_63 (by decide) (fun c_6 => ?_) (fun c_6 => absurd c_6 (by decide))
    refine lv_iconst (v := (-1)) hx hb dX11_force_76 (by decide) ?_
    exact W.iret (v := (-1)) hx hb hr (fun t1 ht hW => ⟨⟨(-1), (σ, I, J, ri, rj, rq), rfl, ⟨rfl, rfl⟩, by rw [ht]; exact hP, va_K.moved hW.alike hK, hD⟩, hS.F ht⟩) hS.2.2 dX11_force_77

set_option maxHeartbeats 4000000 in
set_option maxRecDepth 100000 in
theorem c_X11_sinks (l : Launch) (D : va_G) (t : pq_T) (σ : pq_S) (I : Nat → Nat → Int32) (J : Nat → Nat → Int64) (ri : Nat → Nat → Int32) (rj : Nat → Nat → Int64) (rq : Nat → Nat → Option Nat) (sz : Nat) (this : Nat) (a_cell : Int32) (a_rise : Int32) (a_n : Int32) (hL_this : this ∈ σ.1) (hK_this : σ.2.1 this = 11) (this_now : Nat) (hR_this_now : σ.2.2.1 352 this = some this_now) (hL_this_now : this_now ∈ σ.1) (hK_this_now : σ.2.1 this_now = 10) (this_now_land : Nat) (hR_this_now_land : σ.2.2.1 327 this_now = some this_now_land) (hL_this_now_land : this_now_land ∈ σ.1) (hK_this_now_land : σ.2.1 this_now_land = 2) (hZ : pq_Z I) (hC0 : I 320 this_now = 0) : MetI l yX11_sinks (wa yX11_sinks cX11_sinks 5 (some .int)) ({ frames := 2, cells := 0, slots := 0, locals := 43 }) [.ref this, .int a_cell, .int a_rise, .int a_n] D t σ (I, J, ri, rj, rq) sz 0 0 (fun (r : Int32) (u : pq_S × pq_M) => u = (σ, I, J, ri, rj, rq) ∧ ((r = (-1)))) := by
  refine Met.ofW (cc := cX11_sinks) (maxL := 5) (ret := (some .int)) (by decide) rfl ?_
  intro p e s m args below meth c s₁ B hml hv
  obtain ⟨rfl, hsz, hP, hK, hD0, hN⟩ := hv
  have hx := B.exec
  have hb := B.bytes
  have hr := B.returns
  have hts := atoms_spec (ws := (wa yX11_sinks cX11_sinks 5 (some .int))) B.pre
  have hown : s.vm.findClass RX11 = some m.cls := findClass_of_methodNamed B.named
  have hlocks := B.notSynchronized
  subst hsz
  have hD : va_D (pq_B t σ (I, J, ri, rj, rq) s.heap.size) (pq_P t σ (I, J, ri, rj, rq)) := hD0.self
  generalize hAe : pq_B t σ (I, J, ri, rj, rq) s.heap.size = A at hD ⊢
  have hA : ∀ q : Nat, s.heap.size ≤ q → A q := fun q h => by rw [← hAe]; exact Or.inr h
  have hS : va_S A s.heap s.heap [] := va_S.rf
  have hl := lv_entry ([.ref this, .int a_cell, .int a_rise, .int a_n]) (n := 5) (Nat.le_of_ble_eq_true rfl)
  rw [lg_entry_eq]
  generalize (lg_sl ([.ref this, .int a_cell, .int a_rise, .int a_n]) ++ List.replicate (5 - (lg_sl ([.ref this, .int a_cell, .int a_rise, .int a_n])).length) Slot.unset).toArray = ls at hl ⊢
  have hl : lv_has ls 5 [(0, .ref this), (1, .int a_cell), (2, .int a_rise), (3, .int a_n)] := hl
  refine lv_aload_n hx hb dX11_sinks_0 rfl (lv_at hl 0 rfl) ?_
  refine lv_iload_n hx hb dX11_sinks_1 rfl (lv_at hl 1 rfl) ?_
  refine pk_i (va_runV (As := [.int a_cell]) (rest := []) ⟨hx, hb, hml, hown, hts⟩ (c_X11_isCell l D t σ I J ri rj rq (Array.size s.heap) this a_cell hL_this hK_this this_now hR_this_now hL_this_now hK_this_now this_now_land hR_this_now_land hL_this_now_land hK_this_now_land hZ) (cwV 1 hts (tw_V tw_332 tw_333 tw_334 tw_2 tw_335) rfl rfl rfl (by decide +kernel) ⟨Nat.le_of_ble_eq_true rfl, Nat.le_of_ble_eq_true rfl⟩) ⟨pq_blind, pq_recv hK hP hL_this hK_this (by decide) rfl, pq_pre hK hN hP hD⟩ rfl rfl hl.1 rfl (lv_room (Nat.le_of_ble_eq_true rfl)) dX11_sinks_2 ⟨Nat.le_of_ble_eq_true rfl, Nat.le_of_ble_eq_true rfl⟩) hD hS hA (fun r_1 σ1 μ1 H locs hw_2 hP hD hS => ?_)
  obtain ⟨hu_3, hr_4⟩ := hw_2
  obtain ⟨hu_3a, hu_3b⟩ := Prod.mk.inj hu_3
  rw [hu_3a, hu_3b] at hP hD
  subst hr_4
  refine lv_if_eq (tgt := 19) hx hb dX11_sinks_5 (by decide) (fun c_5 => ?_) (fun c_5 => absurd c_5 (by decide))
  refine lv_iconst (v := (-1)) hx hb dX11_sinks_19 (by decide) ?_
  exact W.iret (v := (-1)) hx hb hr (fun t1 ht hW => ⟨⟨(-1), (σ, I, J, ri, rj, rq), rfl, ⟨rfl, rfl⟩, by rw [ht]; exact hP, va_K.moved hW.alike hK, hD⟩, hS.F ht⟩) hS.2.2 dX11_sinks_20

set_option maxHeartbeats 4000000 in
set_option maxRecDepth 100000 in
theorem c_X11_keeps (l : Launch) (D : va_G) (t : pq_T) (σ : pq_S) (I : Nat → Nat → Int32) (J : Nat → Nat → Int64) (ri : Nat → Nat → Int32) (rj : Nat → Nat → Int64) (rq : Nat → Nat → Option Nat) (sz : Nat) (this : Nat) (a_wall : Int32) (a_cell : Int32) (a_rise : Int32) (a_n : Int32) (hL_this : this ∈ σ.1) (hK_this : σ.2.1 this = 11) (this_now : Nat) (hR_this_now : σ.2.2.1 352 this = some this_now) (hL_this_now : this_now ∈ σ.1) (hK_this_now : σ.2.1 this_now = 10) (this_now_land : Nat) (hR_this_now_land : σ.2.2.1 327 this_now = some this_now_land) (hL_this_now_land : this_now_land ∈ σ.1) (hK_this_now_land : σ.2.1 this_now_land = 2) (hZ : pq_Z I) (hC0 : I 320 this_now = 0) : MetI l yX11_keeps (wa yX11_keeps cX11_keeps 7 (some .int)) ({ frames := 2, cells := 0, slots := 0, locals := 43 }) [.ref this, .int a_wall, .int a_cell, .int a_rise, .int a_n] D t σ (I, J, ri, rj, rq) sz 0 0 (fun (r : Int32) (u : pq_S × pq_M) => u = (σ, I, J, ri, rj, rq) ∧ ((r = (-1000000)))) := by
  refine Met.ofW (cc := cX11_keeps) (maxL := 7) (ret := (some .int)) (by decide) rfl ?_
  intro p e s m args below meth c s₁ B hml hv
  obtain ⟨rfl, hsz, hP, hK, hD0, hN⟩ := hv
  have hx := B.exec
  have hb := B.bytes
  have hr := B.returns
  have hts := atoms_spec (ws := (wa yX11_keeps cX11_keeps 7 (some .int))) B.pre
  have hown : s.vm.findClass RX11 = some m.cls := findClass_of_methodNamed B.named
  have hlocks := B.notSynchronized
  subst hsz
  have hD : va_D (pq_B t σ (I, J, ri, rj, rq) s.heap.size) (pq_P t σ (I, J, ri, rj, rq)) := hD0.self
  generalize hAe : pq_B t σ (I, J, ri, rj, rq) s.heap.size = A at hD ⊢
  have hA : ∀ q : Nat, s.heap.size ≤ q → A q := fun q h => by rw [← hAe]; exact Or.inr h
  have hS : va_S A s.heap s.heap [] := va_S.rf
  have hl := lv_entry ([.ref this, .int a_wall, .int a_cell, .int a_rise, .int a_n]) (n := 7) (Nat.le_of_ble_eq_true rfl)
  rw [lg_entry_eq]
  generalize (lg_sl ([.ref this, .int a_wall, .int a_cell, .int a_rise, .int a_n]) ++ List.replicate (7 - (lg_sl ([.ref this, .int a_wall, .int a_cell, .int a_rise, .int a_n])).length) Slot.unset).toArray = ls at hl ⊢
  have hl : lv_has ls 7 [(0, .ref this), (1, .int a_wall), (2, .int a_cell), (3, .int a_rise), (4, .int a_n)] := hl
  refine lv_aload_n hx hb dX11_keeps_0 rfl (lv_at hl 0 rfl) ?_
  refine lv_iload_n hx hb dX11_keeps_1 rfl (lv_at hl 1 rfl) ?_
  refine pk_i (va_runV (As := [.int a_wall]) (rest := []) ⟨hx, hb, hml, hown, hts⟩ (c_X11_isCell l D t σ I J ri rj rq (Array.size s.heap) this a_wall hL_this hK_this this_now hR_this_now hL_this_now hK_this_now this_now_land hR_this_now_land hL_this_now_land hK_this_now_land hZ) (cwV 1 hts (tw_V tw_332 tw_333 tw_334 tw_2 tw_335) rfl rfl rfl (by decide +kernel) ⟨Nat.le_of_ble_eq_true rfl, Nat.le_of_ble_eq_true rfl⟩) ⟨pq_blind, pq_recv hK hP hL_this hK_this (by decide) rfl, pq_pre hK hN hP hD⟩ rfl rfl hl.1 rfl (lv_room (Nat.le_of_ble_eq_true rfl)) dX11_keeps_2 ⟨Nat.le_of_ble_eq_true rfl, Nat.le_of_ble_eq_true rfl⟩) hD hS hA (fun r_1 σ1 μ1 H locs hw_2 hP hD hS => ?_)
  obtain ⟨hu_3, hr_4⟩ := hw_2
  obtain ⟨hu_3a, hu_3b⟩ := Prod.mk.inj hu_3
  rw [hu_3a, hu_3b] at hP hD
  subst hr_4
  refine lv_if_eq (tgt := 32) hx hb dX11_keeps_5 (by decide) (fun c_5 => ?_) (fun c_5 => absurd c_5 (by decide))
  refine lv_iconst (v := 0) hx hb dX11_keeps_32 (by decide) ?_
  refine lv_istore (lv' := [(5, .int 0), (0, .ref this), (1, .int a_wall), (2, .int a_cell), (3, .int a_rise), (4, .int a_n)]) hx hb dX11_keeps_33 hl (by decide) rfl (fun ls hl => ?_)
  refine lv_iload hx hb dX11_keeps_35 (lv_at hl 0 rfl) ?_
  refine lv_if_eq (tgt := 55) hx hb dX11_keeps_37 (by decide) (fun c_6 => ?_) (fun c_6 => absurd c_6 (by decide))
  refine lv_ldc hx hb hown (hts _ (tw_c tw_269)) dX11_keeps_55 ?_
  exact W.iret (v := (-1000000)) hx hb hr (fun t1 ht hW => ⟨⟨(-1000000), (σ, I, J, ri, rj, rq), rfl, ⟨rfl, rfl⟩, by rw [ht]; exact hP, va_K.moved hW.alike hK, hD⟩, hS.F ht⟩) hS.2.2 dX11_keeps_57
