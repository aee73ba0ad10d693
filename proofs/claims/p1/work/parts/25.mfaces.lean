theorem dX12_ring_0 : decode cX12_ring 0 = .ok (.aload_n 0, 1) := by decide +kernel
theorem dX12_ring_1 : decode cX12_ring 1 = .ok (.getfield 7, 3) := by decide +kernel
theorem dX12_ring_4 : decode cX12_ring 4 = .ok (.iconst 1, 1) := by decide +kernel
theorem dX12_ring_5 : decode cX12_ring 5 = .ok (.iaload, 1) := by decide +kernel
theorem dX12_ring_6 : decode cX12_ring 6 = .ok (.iconst 5, 1) := by decide +kernel
theorem dX12_ring_7 : decode cX12_ring 7 = .ok (.if_icmp .ne 5, 3) := by decide +kernel
theorem dX12_ring_12 : decode cX12_ring 12 = .ok (.aload_n 0, 1) := by decide +kernel
theorem dX12_ring_13 : decode cX12_ring 13 = .ok (.getfield 7, 3) := by decide +kernel
theorem dX12_ring_16 : decode cX12_ring 16 = .ok (.iconst 1, 1) := by decide +kernel
theorem dX12_ring_17 : decode cX12_ring 17 = .ok (.dup2, 1) := by decide +kernel
theorem dX12_ring_18 : decode cX12_ring 18 = .ok (.iaload, 1) := by decide +kernel
theorem dX12_ring_19 : decode cX12_ring 19 = .ok (.iconst 1, 1) := by decide +kernel
theorem dX12_ring_20 : decode cX12_ring 20 = .ok (.iadd, 1) := by decide +kernel
theorem dX12_ring_21 : decode cX12_ring 21 = .ok (.iastore, 1) := by decide +kernel
theorem dX12_ring_22 : decode cX12_ring 22 = .ok (.aload_n 0, 1) := by decide +kernel
theorem dX12_ring_23 : decode cX12_ring 23 = .ok (.getfield 7, 3) := by decide +kernel
theorem dX12_ring_26 : decode cX12_ring 26 = .ok (.iconst 1, 1) := by decide +kernel
theorem dX12_ring_27 : decode cX12_ring 27 = .ok (.iaload, 1) := by decide +kernel
theorem dX12_ring_28 : decode cX12_ring 28 = .ok (.iconst 1, 1) := by decide +kernel
theorem dX12_ring_29 : decode cX12_ring 29 = .ok (.isub, 1) := by decide +kernel
theorem dX12_ring_30 : decode cX12_ring 30 = .ok (.ireturn, 1) := by decide +kernel
theorem dX12_cell_0 : decode cX12_cell 0 = .ok (.aload_n 0, 1) := by decide +kernel
theorem dX12_cell_1 : decode cX12_cell 1 = .ok (.iload_n 1, 1) := by decide +kernel
theorem tw_231 : Cond.methodLink RX12 66 yX12_isRing ∈ wsL_law := List.mem_of_getElem? (i := 231) (by decide +kernel)
theorem tw_232 : Cond.instanceMethod yX12_isRing ∈ wsL_law := List.mem_of_getElem? (i := 232) (by decide +kernel)
theorem tw_233 : Cond.selects RX12 yX12_isRing yX12_isRing ∈ wsL_law := List.mem_of_getElem? (i := 233) (by decide +kernel)
theorem tw_234 : Cond.code yX12_isRing cX12_isRing 2 (some .boolean) ∈ wsL_law := List.mem_of_getElem? (i := 234) (by decide +kernel)
theorem dX12_cell_2 : decode cX12_cell 2 = .ok (.invokevirtual 66, 3) := by decide +kernel
theorem dX12_cell_5 : decode cX12_cell 5 = .ok (.ifCond .eq 81, 3) := by decide +kernel
theorem dX12_cell_86 : decode cX12_cell 86 = .ok (.iconst (-1), 1) := by decide +kernel
theorem dX12_cell_87 : decode cX12_cell 87 = .ok (.ireturn, 1) := by decide +kernel
theorem dX12_wall_0 : decode cX12_wall 0 = .ok (.aload_n 0, 1) := by decide +kernel
theorem dX12_wall_1 : decode cX12_wall 1 = .ok (.iload_n 1, 1) := by decide +kernel
theorem tw_340 : Cond.methodLink RX12 88 yX12_isCell ∈ wsL_law := List.mem_of_getElem? (i := 340) (by decide +kernel)
theorem tw_341 : Cond.instanceMethod yX12_isCell ∈ wsL_law := List.mem_of_getElem? (i := 341) (by decide +kernel)
theorem tw_342 : Cond.selects RX12 yX12_isCell yX12_isCell ∈ wsL_law := List.mem_of_getElem? (i := 342) (by decide +kernel)
theorem tw_343 : Cond.code yX12_isCell cX12_isCell 2 (some .boolean) ∈ wsL_law := List.mem_of_getElem? (i := 343) (by decide +kernel)
theorem dX12_wall_2 : decode cX12_wall 2 = .ok (.invokevirtual 88, 3) := by decide +kernel
theorem dX12_wall_5 : decode cX12_wall 5 = .ok (.ifCond .eq 14, 3) := by decide +kernel
theorem dX12_wall_19 : decode cX12_wall 19 = .ok (.iconst 0, 1) := by decide +kernel
theorem dX12_wall_20 : decode cX12_wall 20 = .ok (.ireturn, 1) := by decide +kernel
theorem dX12_well_0 : decode cX12_well 0 = .ok (.aload_n 0, 1) := by decide +kernel
theorem dX12_well_1 : decode cX12_well 1 = .ok (.iload_n 1, 1) := by decide +kernel
theorem dX12_well_2 : decode cX12_well 2 = .ok (.invokevirtual 88, 3) := by decide +kernel
theorem dX12_well_5 : decode cX12_well 5 = .ok (.ifCond .eq 45, 3) := by decide +kernel
theorem dX12_well_50 : decode cX12_well 50 = .ok (.iconst 0, 1) := by decide +kernel
theorem dX12_well_51 : decode cX12_well 51 = .ok (.ireturn, 1) := by decide +kernel
theorem dX12_beds_0 : decode cX12_beds 0 = .ok (.aload_n 0, 1) := by decide +kernel
theorem dX12_beds_1 : decode cX12_beds 1 = .ok (.iload_n 1, 1) := by decide +kernel
theorem dX12_beds_2 : decode cX12_beds 2 = .ok (.invokevirtual 88, 3) := by decide +kernel
theorem dX12_beds_5 : decode cX12_beds 5 = .ok (.ifCond .eq 21, 3) := by decide +kernel
theorem dX12_beds_26 : decode cX12_beds 26 = .ok (.iconst (-1), 1) := by decide +kernel
theorem dX12_beds_27 : decode cX12_beds 27 = .ok (.ireturn, 1) := by decide +kernel
theorem dX12_person_0 : decode cX12_person 0 = .ok (.iload_n 1, 1) := by decide +kernel
theorem dX12_person_1 : decode cX12_person 1 = .ok (.iconst 0, 1) := by decide +kernel
theorem dX12_person_2 : decode cX12_person 2 = .ok (.bipush 9, 2) := by decide +kernel
theorem dX12_person_4 : decode cX12_person 4 = .ok (.invokestatic 62, 3) := by decide +kernel
theorem dX12_person_7 : decode cX12_person 7 = .ok (.ifCond .eq 54, 3) := by decide +kernel
theorem dX12_person_10 : decode cX12_person 10 = .ok (.iload_n 2, 1) := by decide +kernel
theorem dX12_person_11 : decode cX12_person 11 = .ok (.iconst 0, 1) := by decide +kernel
theorem dX12_person_12 : decode cX12_person 12 = .ok (.bipush 99, 2) := by decide +kernel
theorem dX12_person_14 : decode cX12_person 14 = .ok (.invokestatic 62, 3) := by decide +kernel
theorem dX12_person_17 : decode cX12_person 17 = .ok (.ifCond .eq 44, 3) := by decide +kernel
theorem dX12_person_20 : decode cX12_person 20 = .ok (.iload_n 3, 1) := by decide +kernel
theorem dX12_person_21 : decode cX12_person 21 = .ok (.iconst 0, 1) := by decide +kernel
theorem dX12_person_22 : decode cX12_person 22 = .ok (.bipush 7, 2) := by decide +kernel
theorem dX12_person_24 : decode cX12_person 24 = .ok (.invokestatic 62, 3) := by decide +kernel
theorem dX12_person_27 : decode cX12_person 27 = .ok (.ifCond .eq 34, 3) := by decide +kernel
theorem dX12_person_30 : decode cX12_person 30 = .ok (.aload_n 0, 1) := by decide +kernel
theorem dX12_person_31 : decode cX12_person 31 = .ok (.iload 4, 2) := by decide +kernel
theorem dX12_person_33 : decode cX12_person 33 = .ok (.invokevirtual 66, 3) := by decide +kernel
theorem dX12_person_36 : decode cX12_person 36 = .ok (.ifCond .eq 25, 3) := by decide +kernel
theorem dX12_person_61 : decode cX12_person 61 = .ok (.iconst (-1), 1) := by decide +kernel
theorem dX12_person_62 : decode cX12_person 62 = .ok (.ireturn, 1) := by decide +kernel
theorem dX12_go_0 : decode cX12_go 0 = .ok (.aload_n 0, 1) := by decide +kernel
theorem dX12_go_1 : decode cX12_go 1 = .ok (.iload_n 1, 1) := by decide +kernel
theorem tw_425 : Cond.methodLink RX12 104 yX12_isPerson ∈ wsL_law := List.mem_of_getElem? (i := 425) (by decide +kernel)
theorem tw_426 : Cond.instanceMethod yX12_isPerson ∈ wsL_law := List.mem_of_getElem? (i := 426) (by decide +kernel)
theorem tw_427 : Cond.selects RX12 yX12_isPerson yX12_isPerson ∈ wsL_law := List.mem_of_getElem? (i := 427) (by decide +kernel)
theorem tw_428 : Cond.code yX12_isPerson cX12_isPerson 2 (some .boolean) ∈ wsL_law := List.mem_of_getElem? (i := 428) (by decide +kernel)
theorem dX12_go_2 : decode cX12_go 2 = .ok (.invokevirtual 104, 3) := by decide +kernel
theorem dX12_go_5 : decode cX12_go 5 = .ok (.ifCond .eq 33, 3) := by decide +kernel
theorem dX12_go_38 : decode cX12_go 38 = .ok (.iconst 0, 1) := by decide +kernel
theorem dX12_go_39 : decode cX12_go 39 = .ok (.ireturn, 1) := by decide +kernel
theorem dX12_death_0 : decode cX12_death 0 = .ok (.aload_n 0, 1) := by decide +kernel
theorem dX12_death_1 : decode cX12_death 1 = .ok (.iload_n 1, 1) := by decide +kernel
theorem dX12_death_2 : decode cX12_death 2 = .ok (.invokevirtual 104, 3) := by decide +kernel
theorem dX12_death_5 : decode cX12_death 5 = .ok (.ifCond .eq 15, 3) := by decide +kernel
theorem dX12_death_20 : decode cX12_death 20 = .ok (.iconst (-1), 1) := by decide +kernel
theorem dX12_death_21 : decode cX12_death 21 = .ok (.ireturn, 1) := by decide +kernel
theorem dX12_title_0 : decode cX12_title 0 = .ok (.aload_n 0, 1) := by decide +kernel
theorem dX12_title_1 : decode cX12_title 1 = .ok (.iload_n 1, 1) := by decide +kernel
theorem dX12_title_2 : decode cX12_title 2 = .ok (.invokevirtual 88, 3) := by decide +kernel
theorem dX12_title_5 : decode cX12_title 5 = .ok (.ifCond .eq 28, 3) := by decide +kernel
theorem dX12_title_33 : decode cX12_title 33 = .ok (.iconst 0, 1) := by decide +kernel
theorem dX12_title_34 : decode cX12_title 34 = .ok (.ireturn, 1) := by decide +kernel
theorem dX12_titleOf_0 : decode cX12_titleOf 0 = .ok (.aload_n 0, 1) := by decide +kernel
theorem dX12_titleOf_1 : decode cX12_titleOf 1 = .ok (.iload_n 1, 1) := by decide +kernel
theorem dX12_titleOf_2 : decode cX12_titleOf 2 = .ok (.invokevirtual 88, 3) := by decide +kernel
theorem dX12_titleOf_5 : decode cX12_titleOf 5 = .ok (.ifCond .eq 12, 3) := by decide +kernel
theorem dX12_titleOf_17 : decode cX12_titleOf 17 = .ok (.iconst (-1), 1) := by decide +kernel
theorem dX12_titleOf_18 : decode cX12_titleOf 18 = .ok (.ireturn, 1) := by decide +kernel
theorem dX12_choose_0 : decode cX12_choose 0 = .ok (.aload_n 0, 1) := by decide +kernel
theorem dX12_choose_1 : decode cX12_choose 1 = .ok (.iload_n 1, 1) := by decide +kernel
theorem dX12_choose_2 : decode cX12_choose 2 = .ok (.invokevirtual 104, 3) := by decide +kernel
theorem dX12_choose_5 : decode cX12_choose 5 = .ok (.ifCond .eq 12, 3) := by decide +kernel
theorem dX12_choose_17 : decode cX12_choose 17 = .ok (.iconst 0, 1) := by decide +kernel
theorem dX12_choose_18 : decode cX12_choose 18 = .ok (.ireturn, 1) := by decide +kernel
theorem dX12_is_0 : decode cX12_is 0 = .ok (.iload_n 1, 1) := by decide +kernel
theorem dX12_is_1 : decode cX12_is 1 = .ok (.iconst 0, 1) := by decide +kernel
theorem dX12_is_2 : decode cX12_is 2 = .ok (.iconst 2, 1) := by decide +kernel
theorem dX12_is_3 : decode cX12_is 3 = .ok (.invokestatic 62, 3) := by decide +kernel
theorem dX12_is_6 : decode cX12_is 6 = .ok (.ifCond .eq 38, 3) := by decide +kernel
theorem dX12_is_9 : decode cX12_is 9 = .ok (.aload_n 0, 1) := by decide +kernel
theorem dX12_is_10 : decode cX12_is 10 = .ok (.iload_n 2, 1) := by decide +kernel
theorem dX12_is_11 : decode cX12_is 11 = .ok (.invokevirtual 104, 3) := by decide +kernel
theorem dX12_is_14 : decode cX12_is 14 = .ok (.ifCond .eq 30, 3) := by decide +kernel
theorem dX12_is_44 : decode cX12_is 44 = .ok (.iconst (-1), 1) := by decide +kernel
theorem dX12_is_45 : decode cX12_is 45 = .ok (.ireturn, 1) := by decide +kernel
theorem dX12_why_0 : decode cX12_why 0 = .ok (.iload_n 1, 1) := by decide +kernel
theorem dX12_why_1 : decode cX12_why 1 = .ok (.iconst 0, 1) := by decide +kernel
theorem dX12_why_2 : decode cX12_why 2 = .ok (.iconst 2, 1) := by decide +kernel
theorem dX12_why_3 : decode cX12_why 3 = .ok (.invokestatic 62, 3) := by decide +kernel
theorem dX12_why_6 : decode cX12_why 6 = .ok (.ifCond .eq 31, 3) := by decide +kernel
theorem dX12_why_9 : decode cX12_why 9 = .ok (.aload_n 0, 1) := by decide +kernel
theorem dX12_why_10 : decode cX12_why 10 = .ok (.iload_n 2, 1) := by decide +kernel
theorem dX12_why_11 : decode cX12_why 11 = .ok (.invokevirtual 104, 3) := by decide +kernel
theorem dX12_why_14 : decode cX12_why 14 = .ok (.ifCond .eq 23, 3) := by decide +kernel
theorem dX12_why_37 : decode cX12_why 37 = .ok (.iconst (-1), 1) := by decide +kernel
theorem dX12_why_38 : decode cX12_why 38 = .ok (.ireturn, 1) := by decide +kernel
theorem dX12_cellOf_0 : decode cX12_cellOf 0 = .ok (.aload_n 0, 1) := by decide +kernel
theorem dX12_cellOf_1 : decode cX12_cellOf 1 = .ok (.iload_n 1, 1) := by decide +kernel
theorem dX12_cellOf_2 : decode cX12_cellOf 2 = .ok (.invokevirtual 88, 3) := by decide +kernel
theorem dX12_cellOf_5 : decode cX12_cellOf 5 = .ok (.ifCond .ne 6, 3) := by decide +kernel
theorem tw_288 : Cond.constant RX12 87 (-1000000) ∈ wsL_law := List.mem_of_getElem? (i := 288) (by decide +kernel)
theorem dX12_cellOf_8 : decode cX12_cellOf 8 = .ok (.ldc 87, 2) := by decide +kernel
theorem dX12_cellOf_10 : decode cX12_cellOf 10 = .ok (.ireturn, 1) := by decide +kernel
theorem dX12_personOf_0 : decode cX12_personOf 0 = .ok (.aload_n 0, 1) := by decide +kernel
theorem dX12_personOf_1 : decode cX12_personOf 1 = .ok (.iload_n 1, 1) := by decide +kernel
theorem dX12_personOf_2 : decode cX12_personOf 2 = .ok (.invokevirtual 104, 3) := by decide +kernel
theorem dX12_personOf_5 : decode cX12_personOf 5 = .ok (.ifCond .ne 5, 3) := by decide +kernel
theorem dX12_personOf_8 : decode cX12_personOf 8 = .ok (.iconst (-1), 1) := by decide +kernel
theorem dX12_personOf_9 : decode cX12_personOf 9 = .ok (.ireturn, 1) := by decide +kernel
theorem dX12_grave_0 : decode cX12_grave 0 = .ok (.aload_n 0, 1) := by decide +kernel
theorem dX12_grave_1 : decode cX12_grave 1 = .ok (.iload_n 1, 1) := by decide +kernel
theorem dX12_grave_2 : decode cX12_grave 2 = .ok (.invokevirtual 88, 3) := by decide +kernel
theorem dX12_grave_5 : decode cX12_grave 5 = .ok (.ifCond .eq 15, 3) := by decide +kernel
theorem dX12_grave_20 : decode cX12_grave 20 = .ok (.iconst (-1), 1) := by decide +kernel
theorem dX12_grave_21 : decode cX12_grave 21 = .ok (.ireturn, 1) := by decide +kernel
theorem dX12_bury_0 : decode cX12_bury 0 = .ok (.iload_n 1, 1) := by decide +kernel
theorem dX12_bury_1 : decode cX12_bury 1 = .ok (.iconst 0, 1) := by decide +kernel
theorem dX12_bury_2 : decode cX12_bury 2 = .ok (.aload_n 0, 1) := by decide +kernel
theorem dX12_bury_3 : decode cX12_bury 3 = .ok (.getfield 7, 3) := by decide +kernel
theorem dX12_bury_6 : decode cX12_bury 6 = .ok (.bipush 10, 2) := by decide +kernel
theorem dX12_bury_8 : decode cX12_bury 8 = .ok (.iaload, 1) := by decide +kernel
theorem dX12_bury_9 : decode cX12_bury 9 = .ok (.iconst 1, 1) := by decide +kernel
theorem dX12_bury_10 : decode cX12_bury 10 = .ok (.isub, 1) := by decide +kernel
theorem dX12_bury_11 : decode cX12_bury 11 = .ok (.invokestatic 62, 3) := by decide +kernel
theorem dX12_bury_14 : decode cX12_bury 14 = .ok (.ifCond .eq 27, 3) := by decide +kernel
theorem dX12_bury_41 : decode cX12_bury 41 = .ok (.iconst 0, 1) := by decide +kernel
theorem dX12_bury_42 : decode cX12_bury 42 = .ok (.ireturn, 1) := by decide +kernel
theorem dX12_found_0 : decode cX12_found 0 = .ok (.aload_n 0, 1) := by decide +kernel
theorem dX12_found_1 : decode cX12_found 1 = .ok (.iload_n 1, 1) := by decide +kernel
theorem dX12_found_2 : decode cX12_found 2 = .ok (.invokevirtual 88, 3) := by decide +kernel
theorem dX12_found_5 : decode cX12_found 5 = .ok (.ifCond .eq 7, 3) := by decide +kernel
theorem dX12_found_12 : decode cX12_found 12 = .ok (.iconst (-1), 1) := by decide +kernel
theorem dX12_found_13 : decode cX12_found 13 = .ok (.ireturn, 1) := by decide +kernel
theorem dX12_force_0 : decode cX12_force 0 = .ok (.iload_n 1, 1) := by decide +kernel
theorem dX12_force_1 : decode cX12_force 1 = .ok (.iconst 0, 1) := by decide +kernel
theorem dX12_force_2 : decode cX12_force 2 = .ok (.aload_n 0, 1) := by decide +kernel
theorem dX12_force_3 : decode cX12_force 3 = .ok (.getfield 7, 3) := by decide +kernel
theorem dX12_force_6 : decode cX12_force 6 = .ok (.bipush 6, 2) := by decide +kernel
theorem dX12_force_8 : decode cX12_force 8 = .ok (.iaload, 1) := by decide +kernel
theorem dX12_force_9 : decode cX12_force 9 = .ok (.iconst 1, 1) := by decide +kernel
theorem dX12_force_10 : decode cX12_force 10 = .ok (.isub, 1) := by decide +kernel
theorem dX12_force_11 : decode cX12_force 11 = .ok (.invokestatic 62, 3) := by decide +kernel
theorem dX12_force_14 : decode cX12_force 14 = .ok (.ifCond .eq 42, 3) := by decide +kernel
theorem dX12_force_56 : decode cX12_force 56 = .ok (.iconst (-1), 1) := by decide +kernel
theorem dX12_force_57 : decode cX12_force 57 = .ok (.ireturn, 1) := by decide +kernel
theorem dX12_sinks_0 : decode cX12_sinks 0 = .ok (.aload_n 0, 1) := by decide +kernel
theorem dX12_sinks_1 : decode cX12_sinks 1 = .ok (.iload_n 1, 1) := by decide +kernel
theorem dX12_sinks_2 : decode cX12_sinks 2 = .ok (.invokevirtual 88, 3) := by decide +kernel
theorem dX12_sinks_5 : decode cX12_sinks 5 = .ok (.ifCond .eq 14, 3) := by decide +kernel
theorem dX12_sinks_19 : decode cX12_sinks 19 = .ok (.iconst (-1), 1) := by decide +kernel
theorem dX12_sinks_20 : decode cX12_sinks 20 = .ok (.ireturn, 1) := by decide +kernel
theorem dX12_keeps_0 : decode cX12_keeps 0 = .ok (.aload_n 0, 1) := by decide +kernel
theorem dX12_keeps_1 : decode cX12_keeps 1 = .ok (.iload_n 1, 1) := by decide +kernel
theorem dX12_keeps_2 : decode cX12_keeps 2 = .ok (.invokevirtual 88, 3) := by decide +kernel
theorem dX12_keeps_5 : decode cX12_keeps 5 = .ok (.ifCond .eq 33, 3) := by decide +kernel
theorem dX12_keeps_38 : decode cX12_keeps 38 = .ok (.ldc 87, 2) := by decide +kernel
theorem dX12_keeps_40 : decode cX12_keeps 40 = .ok (.ireturn, 1) := by decide +kernel
set_option maxHeartbeats 4000000 in
set_option maxRecDepth 100000 in
theorem c_X12_ring (l : Launch) (D : va_G) (t : pq_T) (σ : pq_S) (I : Nat → Nat → Int32) (J : Nat → Nat → Int64) (ri : Nat → Nat → Int32) (rj : Nat → Nat → Int64) (rq : Nat → Nat → Option Nat) (sz : Nat) (this : Nat) (hL_this : this ∈ σ.1) (hK_this : σ.2.1 this = 12) (this_a : Nat) (hR_this_a : σ.2.2.1 384 this = some this_a) (hL_this_a : this_a ∈ σ.1) (hK_this_a : σ.2.1 this_a = 13) (hN_this_a : σ.2.2.2 this_a = 12720) (hF : fm (ri this_a) 0) : MetI l yX12_ring (wa yX12_ring cX12_ring 1 (some .int)) ({ frames := 0, cells := 0, slots := 0, locals := 0 }) [.ref this] D t σ (I, J, ri, rj, rq) sz 0 0 (fun (r : Int32) (u : pq_S × pq_M) => ∃ ri' : Nat → Nat → Int32, u = (σ, I, J, ri', rj, rq) ∧ ((r = 0))) := by
  refine Met.ofW (cc := cX12_ring) (maxL := 1) (ret := (some .int)) (by decide) rfl ?_
  intro p e s m args below meth c s₁ B hml hv
  obtain ⟨rfl, hsz, hP, hK, hD0, hN⟩ := hv
  have hx := B.exec
  have hb := B.bytes
  have hr := B.returns
  have hts := atoms_spec (ws := (wa yX12_ring cX12_ring 1 (some .int))) B.pre
  have hown : s.vm.findClass RX12 = some m.cls := findClass_of_methodNamed B.named
  have hlocks := B.notSynchronized
  subst hsz
  have hD : va_D (pq_B t σ (I, J, ri, rj, rq) s.heap.size) (pq_P t σ (I, J, ri, rj, rq)) := hD0.self
  generalize hAe : pq_B t σ (I, J, ri, rj, rq) s.heap.size = A at hD ⊢
  have hA : ∀ q : Nat, s.heap.size ≤ q → A q := fun q h => by rw [← hAe]; exact Or.inr h
  have hS : va_S A s.heap s.heap [] := va_S.rf
  have hl := lv_entry ([.ref this]) (n := 1) (Nat.le_of_ble_eq_true rfl)
  rw [lg_entry_eq]
  generalize (lg_sl ([.ref this]) ++ List.replicate (1 - (lg_sl ([.ref this])).length) Slot.unset).toArray = ls at hl ⊢
  have hl : lv_has ls 1 [(0, .ref this)] := hl
  refine lv_aload_n hx hb dX12_ring_0 rfl (lv_at hl 0 rfl) ?_
  refine pg_f (v := .ref this_a) (C := RX12) (T := TX12) (N := 31) hx hb hts (tw_i inlX12) hown hK hP hL_this hK_this (by decide) rfl 0 (by decide) (hts _ (tw_c tw_176)) (pq_hv rfl hR_this_a) dX12_ring_1 ?_
  refine lv_iconst (v := 1) hx hb dX12_ring_4 (by decide) ?_
  refine pl_i hx hb hK hP hL_this_a hK_this_a hN_this_a (vp_in_iff.mpr (by decide)) dX12_ring_5 ?_
  refine lv_tov 0 (fm_at hF 1 (v := 0) (by decide)) ?_
  refine lv_iconst (v := 5) hx hb dX12_ring_6 (by decide) ?_
  refine lv_icmp_ne (tgt := 12) hx hb dX12_ring_7 (by decide) (fun c_1 => ?_) (fun c_1 => absurd c_1 (by decide))
  refine lv_aload_n hx hb dX12_ring_12 rfl (lv_at hl 0 rfl) ?_
  refine pg_f (v := .ref this_a) (C := RX12) (T := TX12) (N := 31) hx hb hts (tw_i inlX12) hown hK hP hL_this hK_this (by decide) rfl 0 (by decide) (hts _ (tw_c tw_176)) (pq_hv rfl hR_this_a) dX12_ring_13 ?_
  refine lv_iconst (v := 1) hx hb dX12_ring_16 (by decide) ?_
  refine lv_dup2_11 hx hb dX12_ring_17 rfl rfl ?_
  refine pl_i hx hb hK hP hL_this_a hK_this_a hN_this_a (vp_in_iff.mpr (by decide)) dX12_ring_18 ?_
  refine lv_tov 0 (fm_at hF 1 (v := 0) (by decide)) ?_
  refine lv_iconst (v := 1) hx hb dX12_ring_19 (by decide) ?_
  refine lv_iadd hx hb dX12_ring_20 ?_
  refine lv_tov 1 (by decide) ?_
  refine pt_i hx hb hK hP hD hS hL_this_a hK_this_a hN_this_a (vp_in_iff.mpr (by decide)) dX12_ring_21 (fun r_2 H locs er_2 hP hD hS => ?_)
  refine lv_aload_n hx hb dX12_ring_22 rfl (lv_at hl 0 rfl) ?_
  refine pg_f (v := .ref this_a) (C := RX12) (T := TX12) (N := 31) hx hb hts (tw_i inlX12) hown hK hP hL_this hK_this (by decide) rfl 0 (by decide) (hts _ (tw_c tw_176)) (pq_hv rfl hR_this_a) dX12_ring_23 ?_
  refine lv_iconst (v := 1) hx hb dX12_ring_26 (by decide) ?_
  refine pl_i hx hb hK hP hL_this_a hK_this_a hN_this_a (vp_in_iff.mpr (by decide)) dX12_ring_27 ?_
  refine lv_tov 1 (rd_eq er_2) ?_
  refine lv_iconst (v := 1) hx hb dX12_ring_28 (by decide) ?_
  refine lv_isub hx hb dX12_ring_29 ?_
  refine lv_tov 0 (by decide) ?_
  exact W.iret (v := 0) hx hb hr (fun t1 ht hW => ⟨⟨0, (σ, I, J, r_2, rj, rq), rfl, ⟨r_2, rfl, rfl⟩, by rw [ht]; exact hP, va_K.moved hW.alike hK, hD⟩, hS.F ht⟩) hS.2.2 dX12_ring_30

set_option maxHeartbeats 4000000 in
set_option maxRecDepth 100000 in
theorem c_X12_cell (l : Launch) (D : va_G) (t : pq_T) (σ : pq_S) (I : Nat → Nat → Int32) (J : Nat → Nat → Int64) (ri : Nat → Nat → Int32) (rj : Nat → Nat → Int64) (rq : Nat → Nat → Option Nat) (sz : Nat) (this : Nat) (a_ring : Int32) (a_height : Int32) (a_x : Int32) (a_y : Int32) (a_sand : Int32) (a_reef : Int32) (hL_this : this ∈ σ.1) (hK_this : σ.2.1 this = 12) (this_a : Nat) (hR_this_a : σ.2.2.1 384 this = some this_a) (hL_this_a : this_a ∈ σ.1) (hK_this_a : σ.2.1 this_a = 13) (hN_this_a : σ.2.2.2 this_a = 12720) (hF : fm (ri this_a) 0) : MetI l yX12_cell (wa yX12_cell cX12_cell 8 (some .int)) ({ frames := 2, cells := 0, slots := 0, locals := 43 }) [.ref this, .int a_ring, .int a_height, .int a_x, .int a_y, .int a_sand, .int a_reef] D t σ (I, J, ri, rj, rq) sz 0 0 (fun (r : Int32) (u : pq_S × pq_M) => u = (σ, I, J, ri, rj, rq) ∧ ((r = (-1)))) := by
  refine Met.ofW (cc := cX12_cell) (maxL := 8) (ret := (some .int)) (by decide) rfl ?_
  intro p e s m args below meth c s₁ B hml hv
  obtain ⟨rfl, hsz, hP, hK, hD0, hN⟩ := hv
  have hx := B.exec
  have hb := B.bytes
  have hr := B.returns
  have hts := atoms_spec (ws := (wa yX12_cell cX12_cell 8 (some .int))) B.pre
  have hown : s.vm.findClass RX12 = some m.cls := findClass_of_methodNamed B.named
  have hlocks := B.notSynchronized
  subst hsz
  have hD : va_D (pq_B t σ (I, J, ri, rj, rq) s.heap.size) (pq_P t σ (I, J, ri, rj, rq)) := hD0.self
  generalize hAe : pq_B t σ (I, J, ri, rj, rq) s.heap.size = A at hD ⊢
  have hA : ∀ q : Nat, s.heap.size ≤ q → A q := fun q h => by rw [← hAe]; exact Or.inr h
  have hS : va_S A s.heap s.heap [] := va_S.rf
  have hl := lv_entry ([.ref this, .int a_ring, .int a_height, .int a_x, .int a_y, .int a_sand, .int a_reef]) (n := 8) (Nat.le_of_ble_eq_true rfl)
  rw [lg_entry_eq]
  generalize (lg_sl ([.ref this, .int a_ring, .int a_height, .int a_x, .int a_y, .int a_sand, .int a_reef]) ++ List.replicate (8 - (lg_sl ([.ref this, .int a_ring, .int a_height, .int a_x, .int a_y, .int a_sand, .int a_reef])).length) Slot.unset).toArray = ls at hl ⊢
  have hl : lv_has ls 8 [(0, .ref this), (1, .int a_ring), (2, .int a_height), (3, .int a_x), (4, .int a_y), (5, .int a_sand), (6, .int a_reef)] := hl
  refine lv_aload_n hx hb dX12_cell_0 rfl (lv_at hl 0 rfl) ?_
  refine lv_iload_n hx hb dX12_cell_1 rfl (lv_at hl 1 rfl) ?_
  refine pk_i (va_runV (As := [.int a_ring]) (rest := []) ⟨hx, hb, hml, hown, hts⟩ (c_X12_isRing l D t σ I J ri rj rq (Array.size s.heap) this a_ring hL_this hK_this this_a hR_this_a hL_this_a hK_this_a hN_this_a 0 (by decide) hF) (cwV 1 hts (tw_V tw_231 tw_232 tw_233 tw_5 tw_234) rfl rfl rfl (by decide +kernel) ⟨Nat.le_of_ble_eq_true rfl, Nat.le_of_ble_eq_true rfl⟩) ⟨pq_blind, pq_recv hK hP hL_this hK_this (by decide) rfl, pq_pre hK hN hP hD⟩ rfl rfl hl.1 rfl (lv_room (Nat.le_of_ble_eq_true rfl)) dX12_cell_2 ⟨Nat.le_of_ble_eq_true rfl, Nat.le_of_ble_eq_true rfl⟩) hD hS hA (fun r_1 σ1 μ1 H locs hw_2 hP hD hS => ?_)
  obtain ⟨hu_3, hr_4⟩ := hw_2
  obtain ⟨hu_3a, hu_3b⟩ := Prod.mk.inj hu_3
  rw [hu_3a, hu_3b] at hP hD
  subst hr_4
  refine lv_if_eq (tgt := 86) hx hb dX12_cell_5 (by decide) (fun c_5 => ?_) (fun c_5 => absurd c_5 (by decide))
  refine lv_iconst (v := (-1)) hx hb dX12_cell_86 (by decide) ?_
  exact W.iret (v := (-1)) hx hb hr (fun t1 ht hW => ⟨⟨(-1), (σ, I, J, ri, rj, rq), rfl, ⟨rfl, rfl⟩, by rw [ht]; exact hP, va_K.moved hW.alike hK, hD⟩, hS.F ht⟩) hS.2.2 dX12_cell_87

set_option maxHeartbeats 4000000 in
set_option maxRecDepth 100000 in
theorem c_X12_wall (l : Launch) (D : va_G) (t : pq_T) (σ : pq_S) (I : Nat → Nat → Int32) (J : Nat → Nat → Int64) (ri : Nat → Nat → Int32) (rj : Nat → Nat → Int64) (rq : Nat → Nat → Option Nat) (sz : Nat) (this : Nat) (a_cell : Int32) (a_v : Int32) (hL_this : this ∈ σ.1) (hK_this : σ.2.1 this = 12) (this_a : Nat) (hR_this_a : σ.2.2.1 384 this = some this_a) (hL_this_a : this_a ∈ σ.1) (hK_this_a : σ.2.1 this_a = 13) (hN_this_a : σ.2.2.2 this_a = 12720) (hF : fm (ri this_a) 0) : MetI l yX12_wall (wa yX12_wall cX12_wall 3 (some .boolean)) ({ frames := 2, cells := 0, slots := 0, locals := 43 }) [.ref this, .int a_cell, .int a_v] D t σ (I, J, ri, rj, rq) sz 0 0 (fun (r : Int32) (u : pq_S × pq_M) => u = (σ, I, J, ri, rj, rq) ∧ ((r = 0))) := by
  refine Met.ofW (cc := cX12_wall) (maxL := 3) (ret := (some .boolean)) (by decide) rfl ?_
  intro p e s m args below meth c s₁ B hml hv
  obtain ⟨rfl, hsz, hP, hK, hD0, hN⟩ := hv
  have hx := B.exec
  have hb := B.bytes
  have hr := B.returns
  have hts := atoms_spec (ws := (wa yX12_wall cX12_wall 3 (some .boolean))) B.pre
  have hown : s.vm.findClass RX12 = some m.cls := findClass_of_methodNamed B.named
  have hlocks := B.notSynchronized
  subst hsz
  have hD : va_D (pq_B t σ (I, J, ri, rj, rq) s.heap.size) (pq_P t σ (I, J, ri, rj, rq)) := hD0.self
  generalize hAe : pq_B t σ (I, J, ri, rj, rq) s.heap.size = A at hD ⊢
  have hA : ∀ q : Nat, s.heap.size ≤ q → A q := fun q h => by rw [← hAe]; exact Or.inr h
  have hS : va_S A s.heap s.heap [] := va_S.rf
  have hl := lv_entry ([.ref this, .int a_cell, .int a_v]) (n := 3) (Nat.le_of_ble_eq_true rfl)
  rw [lg_entry_eq]
  generalize (lg_sl ([.ref this, .int a_cell, .int a_v]) ++ List.replicate (3 - (lg_sl ([.ref this, .int a_cell, .int a_v])).length) Slot.unset).toArray = ls at hl ⊢
  have hl : lv_has ls 3 [(0, .ref this), (1, .int a_cell), (2, .int a_v)] := hl
  refine lv_aload_n hx hb dX12_wall_0 rfl (lv_at hl 0 rfl) ?_
  refine lv_iload_n hx hb dX12_wall_1 rfl (lv_at hl 1 rfl) ?_
  refine pk_i (va_runV (As := [.int a_cell]) (rest := []) ⟨hx, hb, hml, hown, hts⟩ (c_X12_isCell l D t σ I J ri rj rq (Array.size s.heap) this a_cell hL_this hK_this this_a hR_this_a hL_this_a hK_this_a hN_this_a 0 (by decide) hF) (cwV 1 hts (tw_V tw_340 tw_341 tw_342 tw_5 tw_343) rfl rfl rfl (by decide +kernel) ⟨Nat.le_of_ble_eq_true rfl, Nat.le_of_ble_eq_true rfl⟩) ⟨pq_blind, pq_recv hK hP hL_this hK_this (by decide) rfl, pq_pre hK hN hP hD⟩ rfl rfl hl.1 rfl (lv_room (Nat.le_of_ble_eq_true rfl)) dX12_wall_2 ⟨Nat.le_of_ble_eq_true rfl, Nat.le_of_ble_eq_true rfl⟩) hD hS hA (fun r_1 σ1 μ1 H locs hw_2 hP hD hS => ?_)
  obtain ⟨hu_3, hr_4⟩ := hw_2
  obtain ⟨hu_3a, hu_3b⟩ := Prod.mk.inj hu_3
  rw [hu_3a, hu_3b] at hP hD
  subst hr_4
  refine lv_if_eq (tgt := 19) hx hb dX12_wall_5 (by decide) (fun c_5 => ?_) (fun c_5 => absurd c_5 (by decide))
  refine lv_iconst (v := 0) hx hb dX12_wall_19 (by decide) ?_
  exact W.zret (v := 0) hx hb hr (by decide) (fun t1 ht hW => ⟨⟨0, (σ, I, J, ri, rj, rq), rfl, ⟨rfl, rfl⟩, by rw [ht]; exact hP, va_K.moved hW.alike hK, hD⟩, hS.F ht⟩) hS.2.2 dX12_wall_20

set_option maxHeartbeats 4000000 in
set_option maxRecDepth 100000 in
theorem c_X12_well (l : Launch) (D : va_G) (t : pq_T) (σ : pq_S) (I : Nat → Nat → Int32) (J : Nat → Nat → Int64) (ri : Nat → Nat → Int32) (rj : Nat → Nat → Int64) (rq : Nat → Nat → Option Nat) (sz : Nat) (this : Nat) (a_cell : Int32) (a_ga : Int32) (a_le : Int32) (a_sa : Int32) (hL_this : this ∈ σ.1) (hK_this : σ.2.1 this = 12) (this_a : Nat) (hR_this_a : σ.2.2.1 384 this = some this_a) (hL_this_a : this_a ∈ σ.1) (hK_this_a : σ.2.1 this_a = 13) (hN_this_a : σ.2.2.2 this_a = 12720) (hF : fm (ri this_a) 0) : MetI l yX12_well (wa yX12_well cX12_well 6 (some .boolean)) ({ frames := 2, cells := 0, slots := 0, locals := 43 }) [.ref this, .int a_cell, .int a_ga, .int a_le, .int a_sa] D t σ (I, J, ri, rj, rq) sz 0 0 (fun (r : Int32) (u : pq_S × pq_M) => u = (σ, I, J, ri, rj, rq) ∧ ((r = 0))) := by
  refine Met.ofW (cc := cX12_well) (maxL := 6) (ret := (some .boolean)) (by decide) rfl ?_
  intro p e s m args below meth c s₁ B hml hv
  obtain ⟨rfl, hsz, hP, hK, hD0, hN⟩ := hv
  have hx := B.exec
  have hb := B.bytes
  have hr := B.returns
  have hts := atoms_spec (ws := (wa yX12_well cX12_well 6 (some .boolean))) B.pre
  have hown : s.vm.findClass RX12 = some m.cls := findClass_of_methodNamed B.named
  have hlocks := B.notSynchronized
  subst hsz
  have hD : va_D (pq_B t σ (I, J, ri, rj, rq) s.heap.size) (pq_P t σ (I, J, ri, rj, rq)) := hD0.self
  generalize hAe : pq_B t σ (I, J, ri, rj, rq) s.heap.size = A at hD ⊢
  have hA : ∀ q : Nat, s.heap.size ≤ q → A q := fun q h => by rw [← hAe]; exact Or.inr h
  have hS : va_S A s.heap s.heap [] := va_S.rf
  have hl := lv_entry ([.ref this, .int a_cell, .int a_ga, .int a_le, .int a_sa]) (n := 6) (Nat.le_of_ble_eq_true rfl)
  rw [lg_entry_eq]
  generalize (lg_sl ([.ref this, .int a_cell, .int a_ga, .int a_le, .int a_sa]) ++ List.replicate (6 - (lg_sl ([.ref this, .int a_cell, .int a_ga, .int a_le, .int a_sa])).length) Slot.unset).toArray = ls at hl ⊢
  have hl : lv_has ls 6 [(0, .ref this), (1, .int a_cell), (2, .int a_ga), (3, .int a_le), (4, .int a_sa)] := hl
  refine lv_aload_n hx hb dX12_well_0 rfl (lv_at hl 0 rfl) ?_
  refine lv_iload_n hx hb dX12_well_1 rfl (lv_at hl 1 rfl) ?_
  refine pk_i (va_runV (As := [.int a_cell]) (rest := []) ⟨hx, hb, hml, hown, hts⟩ (c_X12_isCell l D t σ I J ri rj rq (Array.size s.heap) this a_cell hL_this hK_this this_a hR_this_a hL_this_a hK_this_a hN_this_a 0 (by decide) hF) (cwV 1 hts (tw_V tw_340 tw_341 tw_342 tw_5 tw_343) rfl rfl rfl (by decide +kernel) ⟨Nat.le_of_ble_eq_true rfl, Nat.le_of_ble_eq_true rfl⟩) ⟨pq_blind, pq_recv hK hP hL_this hK_this (by decide) rfl, pq_pre hK hN hP hD⟩ rfl rfl hl.1 rfl (lv_room (Nat.le_of_ble_eq_true rfl)) dX12_well_2 ⟨Nat.le_of_ble_eq_true rfl, Nat.le_of_ble_eq_true rfl⟩) hD hS hA (fun r_1 σ1 μ1 H locs hw_2 hP hD hS => ?_)
  obtain ⟨hu_3, hr_4⟩ := hw_2
  obtain ⟨hu_3a, hu_3b⟩ := Prod.mk.inj hu_3
  rw [hu_3a, hu_3b] at hP hD
  subst hr_4
  refine lv_if_eq (tgt := 50) hx hb dX12_well_5 (by decide) (fun c_5 => ?_) (fun c_5 => absurd c_5 (by decide))
  refine lv_iconst (v := 0) hx hb dX12_well_50 (by decide) ?_
  exact W.zret (v := 0) hx hb hr (by decide) (fun t1 ht hW => ⟨⟨0, (σ, I, J, ri, rj, rq), rfl, ⟨rfl, rfl⟩, by rw [ht]; exact hP, va_K.moved hW.alike hK, hD⟩, hS.F ht⟩) hS.2.2 dX12_well_51

set_option maxHeartbeats 4000000 in
set_option maxRecDepth 100000 in
theorem c_X12_beds (l : Launch) (D : va_G) (t : pq_T) (σ : pq_S) (I : Nat → Nat → Int32) (J : Nat → Nat → Int64) (ri : Nat → Nat → Int32) (rj : Nat → Nat → Int64) (rq : Nat → Nat → Option Nat) (sz : Nat) (this : Nat) (a_cell : Int32) (a_more : Int32) (hL_this : this ∈ σ.1) (hK_this : σ.2.1 this = 12) (this_a : Nat) (hR_this_a : σ.2.2.1 384 this = some this_a) (hL_this_a : this_a ∈ σ.1) (hK_this_a : σ.2.1 this_a = 13) (hN_this_a : σ.2.2.2 this_a = 12720) (hF : fm (ri this_a) 0) : MetI l yX12_beds (wa yX12_beds cX12_beds 3 (some .int)) ({ frames := 2, cells := 0, slots := 0, locals := 43 }) [.ref this, .int a_cell, .int a_more] D t σ (I, J, ri, rj, rq) sz 0 0 (fun (r : Int32) (u : pq_S × pq_M) => u = (σ, I, J, ri, rj, rq) ∧ ((r = (-1)))) := by
  refine Met.ofW (cc := cX12_beds) (maxL := 3) (ret := (some .int)) (by decide) rfl ?_
  intro p e s m args below meth c s₁ B hml hv
  obtain ⟨rfl, hsz, hP, hK, hD0, hN⟩ := hv
  have hx := B.exec
  have hb := B.bytes
  have hr := B.returns
  have hts := atoms_spec (ws := (wa yX12_beds cX12_beds 3 (some .int))) B.pre
  have hown : s.vm.findClass RX12 = some m.cls := findClass_of_methodNamed B.named
  have hlocks := B.notSynchronized
  subst hsz
  have hD : va_D (pq_B t σ (I, J, ri, rj, rq) s.heap.size) (pq_P t σ (I, J, ri, rj, rq)) := hD0.self
  generalize hAe : pq_B t σ (I, J, ri, rj, rq) s.heap.size = A at hD ⊢
  have hA : ∀ q : Nat, s.heap.size ≤ q → A q := fun q h => by rw [← hAe]; exact Or.inr h
  have hS : va_S A s.heap s.heap [] := va_S.rf
  have hl := lv_entry ([.ref this, .int a_cell, .int a_more]) (n := 3) (Nat.le_of_ble_eq_true rfl)
  rw [lg_entry_eq]
  generalize (lg_sl ([.ref this, .int a_cell, .int a_more]) ++ List.replicate (3 - (lg_sl ([.ref this, .int a_cell, .int a_more])).length) Slot.unset).toArray = ls at hl ⊢
  have hl : lv_has ls 3 [(0, .ref this), (1, .int a_cell), (2, .int a_more)] := hl
  refine lv_aload_n hx hb dX12_beds_0 rfl (lv_at hl 0 rfl) ?_
  refine lv_iload_n hx hb dX12_beds_1 rfl (lv_at hl 1 rfl) ?_
  refine pk_i (va_runV (As := [.int a_cell]) (rest := []) ⟨hx, hb, hml, hown, hts⟩ (c_X12_isCell l D t σ I J ri rj rq (Array.size s.heap) this a_cell hL_this hK_this this_a hR_this_a hL_this_a hK_this_a hN_this_a 0 (by decide) hF) (cwV 1 hts (tw_V tw_340 tw_341 tw_342 tw_5 tw_343) rfl rfl rfl (by decide +kernel) ⟨Nat.le_of_ble_eq_true rfl, Nat.le_of_ble_eq_true rfl⟩) ⟨pq_blind, pq_recv hK hP hL_this hK_this (by decide) rfl, pq_pre hK hN hP hD⟩ rfl rfl hl.1 rfl (lv_room (Nat.le_of_ble_eq_true rfl)) dX12_beds_2 ⟨Nat.le_of_ble_eq_true rfl, Nat.le_of_ble_eq_true rfl⟩) hD hS hA (fun r_1 σ1 μ1 H locs hw_2 hP hD hS => ?_)
  obtain ⟨hu_3, hr_4⟩ := hw_2
  obtain ⟨hu_3a, hu_3b⟩ := Prod.mk.inj hu_3
  rw [hu_3a, hu_3b] at hP hD
  subst hr_4
  refine lv_if_eq (tgt := 26) hx hb dX12_beds_5 (by decide) (fun c_5 => ?_) (fun c_5 => absurd c_5 (by decide))
  refine lv_iconst (v := (-1)) hx hb dX12_beds_26 (by decide) ?_
  exact W.iret (v := (-1)) hx hb hr (fun t1 ht hW => ⟨⟨(-1), (σ, I, J, ri, rj, rq), rfl, ⟨rfl, rfl⟩, by rw [ht]; exact hP, va_K.moved hW.alike hK, hD⟩, hS.F ht⟩) hS.2.2 dX12_beds_27

set_option maxHeartbeats 4000000 in
set_option maxRecDepth 100000 in
theorem c_X12_person (l : Launch) (D : va_G) (t : pq_T) (σ : pq_S) (I : Nat → Nat → Int32) (J : Nat → Nat → Int64) (ri : Nat → Nat → Int32) (rj : Nat → Nat → Int64) (rq : Nat → Nat → Option Nat) (sz : Nat) (this : Nat) (a_kin : Int32) (a_age : Int32) (a_craft : Int32) (a_ring : Int32) (a_send : Int32) (hL_this : this ∈ σ.1) (hK_this : σ.2.1 this = 12) (this_a : Nat) (hR_this_a : σ.2.2.1 384 this = some this_a) (hL_this_a : this_a ∈ σ.1) (hK_this_a : σ.2.1 this_a = 13) (hN_this_a : σ.2.2.2 this_a = 12720) (hF : fm (ri this_a) 0) : MetI l yX12_person (wa yX12_person cX12_person 7 (some .int)) ({ frames := 2, cells := 0, slots := 0, locals := 43 }) [.ref this, .int a_kin, .int a_age, .int a_craft, .int a_ring, .int a_send] D t σ (I, J, ri, rj, rq) sz 0 0 (fun (r : Int32) (u : pq_S × pq_M) => u = (σ, I, J, ri, rj, rq) ∧ ((r = (-1)))) := by
  refine Met.ofW (cc := cX12_person) (maxL := 7) (ret := (some .int)) (by decide) rfl ?_
  intro p e s m args below meth c s₁ B hml hv
  obtain ⟨rfl, hsz, hP, hK, hD0, hN⟩ := hv
  have hx := B.exec
  have hb := B.bytes
  have hr := B.returns
  have hts := atoms_spec (ws := (wa yX12_person cX12_person 7 (some .int))) B.pre
  have hown : s.vm.findClass RX12 = some m.cls := findClass_of_methodNamed B.named
  have hlocks := B.notSynchronized
  subst hsz
  have hD : va_D (pq_B t σ (I, J, ri, rj, rq) s.heap.size) (pq_P t σ (I, J, ri, rj, rq)) := hD0.self
  generalize hAe : pq_B t σ (I, J, ri, rj, rq) s.heap.size = A at hD ⊢
  have hA : ∀ q : Nat, s.heap.size ≤ q → A q := fun q h => by rw [← hAe]; exact Or.inr h
  have hS : va_S A s.heap s.heap [] := va_S.rf
  have hl := lv_entry ([.ref this, .int a_kin, .int a_age, .int a_craft, .int a_ring, .int a_send]) (n := 7) (Nat.le_of_ble_eq_true rfl)
  rw [lg_entry_eq]
  generalize (lg_sl ([.ref this, .int a_kin, .int a_age, .int a_craft, .int a_ring, .int a_send]) ++ List.replicate (7 - (lg_sl ([.ref this, .int a_kin, .int a_age, .int a_craft, .int a_ring, .int a_send])).length) Slot.unset).toArray = ls at hl ⊢
  have hl : lv_has ls 7 [(0, .ref this), (1, .int a_kin), (2, .int a_age), (3, .int a_craft), (4, .int a_ring), (5, .int a_send)] := hl
  refine lv_iload_n hx hb dX12_person_0 rfl (lv_at hl 1 rfl) ?_
  refine lv_iconst (v := 0) hx hb dX12_person_1 (by decide) ?_
  refine lv_bipush (v := 9) hx hb dX12_person_2 (by decide) ?_
  refine pk_i (va_runS (As := [.int a_kin, .int 0, .int 9]) (rest := []) ⟨hx, hb, hml, hown, hts⟩ (c_X12_isIn l D t σ I J ri rj rq (Array.size s.heap) a_kin (0 : Int32) (9 : Int32)) (va_cwS 3 hts (tw_S tw_235 tw_236 tw_5 tw_237) rfl rfl rfl (by decide +kernel) ⟨Nat.le_of_ble_eq_true rfl, Nat.le_of_ble_eq_true rfl⟩) ⟨pq_blind, pq_pre hK hN hP hD⟩ rfl rfl hl.1 rfl (lv_room (Nat.le_of_ble_eq_true rfl)) dX12_person_4 ⟨Nat.le_of_ble_eq_true rfl, Nat.le_of_ble_eq_true rfl⟩) hD hS hA (fun r_1 σ1 μ1 H locs hw_2 hP hD hS => ?_)
  obtain ⟨hu_3, hr_4⟩ := hw_2
  obtain ⟨hu_3a, hu_3b⟩ := Prod.mk.inj hu_3
  rw [hu_3a, hu_3b] at hP hD
  rcases hr_4 with ⟨rfl, hr_4_0, hr_4_1⟩ | ⟨rfl, hr_4_0⟩
  · refine lv_if_eq (tgt := 61) hx hb dX12_person_7 (by decide) (fun c_5 => absurd c_5 (by decide)) (fun c_5 => ?_)
    refine lv_iload_n hx hb dX12_person_10 rfl (lv_at hl 2 rfl) ?_
    refine lv_iconst (v := 0) hx hb dX12_person_11 (by decide) ?_
    refine lv_bipush (v := 99) hx hb dX12_person_12 (by decide) ?_
    refine pk_i (va_runS (As := [.int a_age, .int 0, .int 99]) (rest := []) ⟨hx, hb, hml, hown, hts⟩ (c_X12_isIn l D t σ I J ri rj rq H.size a_age (0 : Int32) (99 : Int32)) (va_cwS 3 hts (tw_S tw_235 tw_236 tw_5 tw_237) rfl rfl rfl (by decide +kernel) ⟨Nat.le_of_ble_eq_true rfl, Nat.le_of_ble_eq_true rfl⟩) ⟨pq_blind, pq_pre hK hN hP hD⟩ rfl rfl hl.1 rfl (lv_room (Nat.le_of_ble_eq_true rfl)) dX12_person_14 ⟨Nat.le_of_ble_eq_true rfl, Nat.le_of_ble_eq_true rfl⟩) hD hS hA (fun r_6 σ1 μ1 H locs hw_7 hP hD hS => ?_)
    obtain ⟨hu_8, hr_9⟩ := hw_7
    obtain ⟨hu_8a, hu_8b⟩ := Prod.mk.inj hu_8
    rw [hu_8a, hu_8b] at hP hD
    rcases hr_9 with ⟨rfl, hr_9_0, hr_9_1⟩ | ⟨rfl, hr_9_0⟩
    · refine lv_if_eq (tgt := 61) hx hb dX12_person_17 (by decide) (fun c_10 => absurd c_10 (by decide)) (fun c_10 => ?_)
      refine lv_iload_n hx hb dX12_person_20 rfl (lv_at hl 3 rfl) ?_
      refine lv_iconst (v := 0) hx hb dX12_person_21 (by decide) ?_
      refine lv_bipush (v := 7) hx hb dX12_person_22 (by decide) ?_
      refine pk_i (va_runS (As := [.int a_craft, .int 0, .int 7]) (rest := []) ⟨hx, hb, hml, hown, hts⟩ (c_X12_isIn l D t σ I J ri rj rq H.size a_craft (0 : Int32) (7 : Int32)) (va_cwS 3 hts (tw_S tw_235 tw_236 tw_5 tw_237) rfl rfl rfl (by decide +kernel) ⟨Nat.le_of_ble_eq_true rfl, Nat.le_of_ble_eq_true rfl⟩) ⟨pq_blind, pq_pre hK hN hP hD⟩ rfl rfl hl.1 rfl (lv_room (Nat.le_of_ble_eq_true rfl)) dX12_person_24 ⟨Nat.le_of_ble_eq_true rfl, Nat.le_of_ble_eq_true rfl⟩) hD hS hA (fun r_11 σ1 μ1 H locs hw_12 hP hD hS => ?_)
      obtain ⟨hu_13, hr_14⟩ := hw_12
      obtain ⟨hu_13a, hu_13b⟩ := Prod.mk.inj hu_13
      rw [hu_13a, hu_13b] at hP hD
      rcases hr_14 with ⟨rfl, hr_14_0, hr_14_1⟩ | ⟨rfl, hr_14_0⟩
      · refine lv_if_eq (tgt := 61) hx hb dX12_person_27 (by decide) (fun c_15 => absurd c_15 (by decide)) (fun c_15 => ?_)
        refine lv_aload_n hx hb dX12_person_30 rfl (lv_at hl 0 rfl) ?_
        refine lv_iload hx hb dX12_person_31 (lv_at hl 4 rfl) ?_
        refine pk_i (va_runV (As := [.int a_ring]) (rest := []) ⟨hx, hb, hml, hown, hts⟩ (c_X12_isRing l D t σ I J ri rj rq H.size this a_ring hL_this hK_this this_a hR_this_a hL_this_a hK_this_a hN_this_a 0 (by decide) hF) (cwV 1 hts (tw_V tw_231 tw_232 tw_233 tw_5 tw_234) rfl rfl rfl (by decide +kernel) ⟨Nat.le_of_ble_eq_true rfl, Nat.le_of_ble_eq_true rfl⟩) ⟨pq_blind, pq_recv hK hP hL_this hK_this (by decide) rfl, pq_pre hK hN hP hD⟩ rfl rfl hl.1 rfl (lv_room (Nat.le_of_ble_eq_true rfl)) dX12_person_33 ⟨Nat.le_of_ble_eq_true rfl, Nat.le_of_ble_eq_true rfl⟩) hD hS hA (fun r_16 σ1 μ1 H locs hw_17 hP hD hS => ?_)
        obtain ⟨hu_18, hr_19⟩ := hw_17
        obtain ⟨hu_18a, hu_18b⟩ := Prod.mk.inj hu_18
        rw [hu_18a, hu_18b] at hP hD
        subst hr_19
        refine lv_if_eq (tgt := 61) hx hb dX12_person_36 (by decide) (fun c_20 => ?_) (fun c_20 => absurd c_20 (by decide))
        refine lv_iconst (v := (-1)) hx hb dX12_person_61 (by decide) ?_
        exact W.iret (v := (-1)) hx hb hr (fun t1 ht hW => ⟨⟨(-1), (σ, I, J, ri, rj, rq), rfl, ⟨rfl, rfl⟩, by rw [ht]; exact hP, va_K.moved hW.alike hK, hD⟩, hS.F ht⟩) hS.2.2 dX12_person_62
      · refine lv_if_eq (tgt := 61) hx hb dX12_person_27 (by decide) (fun c_21 => ?_) (fun c_21 => absurd c_21 (by decide))
        refine lv_iconst (v := (-1)) hx hb dX12_person_61 (by decide) ?_
        exact W.iret (v := (-1)) hx hb hr (fun t1 ht hW => ⟨⟨(-1), (σ, I, J, ri, rj, rq), rfl, ⟨rfl, rfl⟩, by rw [ht]; exact hP, va_K.moved hW.alike hK, hD⟩, hS.F ht⟩) hS.2.2 dX12_person_62
    · refine lv_if_eq (tgt := 61) hx hb dX12_person_17 (by decide) (fun c_22 => ?_) (fun c_22 => absurd c_22 (by decide))
      refine lv_iconst (v := (-1)) hx hb dX12_person_61 (by decide) ?_
      exact W.iret (v := (-1)) hx hb hr (fun t1 ht hW => ⟨⟨(-1), (σ, I, J, ri, rj, rq), rfl, ⟨rfl, rfl⟩, by rw [ht]; exact hP, va_K.moved hW.alike hK, hD⟩, hS.F ht⟩) hS.2.2 dX12_person_62
  · refine lv_if_eq (tgt := 61) hx hb dX12_person_7 (by decide) (fun c_23 => ?_) (fun c_23 => absurd c_23 (by decide))
    refine lv_iconst (v := (-1)) hx hb dX12_person_61 (by decide) ?_
    exact W.iret (v := (-1)) hx hb hr (fun t1 ht hW => ⟨⟨(-1), (σ, I, J, ri, rj, rq), rfl, ⟨rfl, rfl⟩, by rw [ht]; exact hP, va_K.moved hW.alike hK, hD⟩, hS.F ht⟩) hS.2.2 dX12_person_62

set_option maxHeartbeats 4000000 in
set_option maxRecDepth 100000 in
theorem c_X12_go (l : Launch) (D : va_G) (t : pq_T) (σ : pq_S) (I : Nat → Nat → Int32) (J : Nat → Nat → Int64) (ri : Nat → Nat → Int32) (rj : Nat → Nat → Int64) (rq : Nat → Nat → Option Nat) (sz : Nat) (this : Nat) (a_person : Int32) (a_to : Int32) (hL_this : this ∈ σ.1) (hK_this : σ.2.1 this = 12) (this_a : Nat) (hR_this_a : σ.2.2.1 384 this = some this_a) (hL_this_a : this_a ∈ σ.1) (hK_this_a : σ.2.1 this_a = 13) (hN_this_a : σ.2.2.2 this_a = 12720) (hF : fm (ri this_a) 0) : MetI l yX12_go (wa yX12_go cX12_go 3 (some .boolean)) ({ frames := 2, cells := 0, slots := 0, locals := 43 }) [.ref this, .int a_person, .int a_to] D t σ (I, J, ri, rj, rq) sz 0 0 (fun (r : Int32) (u : pq_S × pq_M) => u = (σ, I, J, ri, rj, rq) ∧ ((r = 0))) := by
  refine Met.ofW (cc := cX12_go) (maxL := 3) (ret := (some .boolean)) (by decide) rfl ?_
  intro p e s m args below meth c s₁ B hml hv
  obtain ⟨rfl, hsz, hP, hK, hD0, hN⟩ := hv
  have hx := B.exec
  have hb := B.bytes
  have hr := B.returns
  have hts := atoms_spec (ws := (wa yX12_go cX12_go 3 (some .boolean))) B.pre
  have hown : s.vm.findClass RX12 = some m.cls := findClass_of_methodNamed B.named
  have hlocks := B.notSynchronized
  subst hsz
  have hD : va_D (pq_B t σ (I, J, ri, rj, rq) s.heap.size) (pq_P t σ (I, J, ri, rj, rq)) := hD0.self
  generalize hAe : pq_B t σ (I, J, ri, rj, rq) s.heap.size = A at hD ⊢
  have hA : ∀ q : Nat, s.heap.size ≤ q → A q := fun q h => by rw [← hAe]; exact Or.inr h
  have hS : va_S A s.heap s.heap [] := va_S.rf
  have hl := lv_entry ([.ref this, .int a_person, .int a_to]) (n := 3) (Nat.le_of_ble_eq_true rfl)
  rw [lg_entry_eq]
  generalize (lg_sl ([.ref this, .int a_person, .int a_to]) ++ List.replicate (3 - (lg_sl ([.ref this, .int a_person, .int a_to])).length) Slot.unset).toArray = ls at hl ⊢
  have hl : lv_has ls 3 [(0, .ref this), (1, .int a_person), (2, .int a_to)] := hl
  refine lv_aload_n hx hb dX12_go_0 rfl (lv_at hl 0 rfl) ?_
  refine lv_iload_n hx hb dX12_go_1 rfl (lv_at hl 1 rfl) ?_
  refine pk_i (va_runV (As := [.int a_person]) (rest := []) ⟨hx, hb, hml, hown, hts⟩ (c_X12_isPerson l D t σ I J ri rj rq (Array.size s.heap) this a_person hL_this hK_this this_a hR_this_a hL_this_a hK_this_a hN_this_a 0 (by decide) hF) (cwV 1 hts (tw_V tw_425 tw_426 tw_427 tw_5 tw_428) rfl rfl rfl (by decide +kernel) ⟨Nat.le_of_ble_eq_true rfl, Nat.le_of_ble_eq_true rfl⟩) ⟨pq_blind, pq_recv hK hP hL_this hK_this (by decide) rfl, pq_pre hK hN hP hD⟩ rfl rfl hl.1 rfl (lv_room (Nat.le_of_ble_eq_true rfl)) dX12_go_2 ⟨Nat.le_of_ble_eq_true rfl, Nat.le_of_ble_eq_true rfl⟩) hD hS hA (fun r_1 σ1 μ1 H locs hw_2 hP hD hS => ?_)
  obtain ⟨hu_3, hr_4⟩ := hw_2
  obtain ⟨hu_3a, hu_3b⟩ := Prod.mk.inj hu_3
  rw [hu_3a, hu_3b] at hP hD
  subst hr_4
  refine lv_if_eq (tgt := 38) hx hb dX12_go_5 (by decide) (fun c_5 => ?_) (fun c_5 => absurd c_5 (by decide))
  refine lv_iconst (v := 0) hx hb dX12_go_38 (by decide) ?_
  exact W.zret (v := 0) hx hb hr (by decide) (fun t1 ht hW => ⟨⟨0, (σ, I, J, ri, rj, rq), rfl, ⟨rfl, rfl⟩, by rw [ht]; exact hP, va_K.moved hW.alike hK, hD⟩, hS.F ht⟩) hS.2.2 dX12_go_39

set_option maxHeartbeats 4000000 in
set_option maxRecDepth 100000 in
theorem c_X12_death (l : Launch) (D : va_G) (t : pq_T) (σ : pq_S) (I : Nat → Nat → Int32) (J : Nat → Nat → Int64) (ri : Nat → Nat → Int32) (rj : Nat → Nat → Int64) (rq : Nat → Nat → Option Nat) (sz : Nat) (this : Nat) (a_person : Int32) (hL_this : this ∈ σ.1) (hK_this : σ.2.1 this = 12) (this_a : Nat) (hR_this_a : σ.2.2.1 384 this = some this_a) (hL_this_a : this_a ∈ σ.1) (hK_this_a : σ.2.1 this_a = 13) (hN_this_a : σ.2.2.2 this_a = 12720) (hF : fm (ri this_a) 0) : MetI l yX12_death (wa yX12_death cX12_death 6 (some .int)) ({ frames := 2, cells := 0, slots := 0, locals := 43 }) [.ref this, .int a_person] D t σ (I, J, ri, rj, rq) sz 0 0 (fun (r : Int32) (u : pq_S × pq_M) => u = (σ, I, J, ri, rj, rq) ∧ ((r = (-1)))) := by
  refine Met.ofW (cc := cX12_death) (maxL := 6) (ret := (some .int)) (by decide) rfl ?_
  intro p e s m args below meth c s₁ B hml hv
  obtain ⟨rfl, hsz, hP, hK, hD0, hN⟩ := hv
  have hx := B.exec
  have hb := B.bytes
  have hr := B.returns
  have hts := atoms_spec (ws := (wa yX12_death cX12_death 6 (some .int))) B.pre
  have hown : s.vm.findClass RX12 = some m.cls := findClass_of_methodNamed B.named
  have hlocks := B.notSynchronized
  subst hsz
  have hD : va_D (pq_B t σ (I, J, ri, rj, rq) s.heap.size) (pq_P t σ (I, J, ri, rj, rq)) := hD0.self
  generalize hAe : pq_B t σ (I, J, ri, rj, rq) s.heap.size = A at hD ⊢
  have hA : ∀ q : Nat, s.heap.size ≤ q → A q := fun q h => by rw [← hAe]; exact Or.inr h
  have hS : va_S A s.heap s.heap [] := va_S.rf
  have hl := lv_entry ([.ref this, .int a_person]) (n := 6) (Nat.le_of_ble_eq_true rfl)
  rw [lg_entry_eq]
  generalize (lg_sl ([.ref this, .int a_person]) ++ List.replicate (6 - (lg_sl ([.ref this, .int a_person])).length) Slot.unset).toArray = ls at hl ⊢
  have hl : lv_has ls 6 [(0, .ref this), (1, .int a_person)] := hl
  refine lv_aload_n hx hb dX12_death_0 rfl (lv_at hl 0 rfl) ?_
  refine lv_iload_n hx hb dX12_death_1 rfl (lv_at hl 1 rfl) ?_
  refine pk_i (va_runV (As := [.int a_person]) (rest := []) ⟨hx, hb, hml, hown, hts⟩ (c_X12_isPerson l D t σ I J ri rj rq (Array.size s.heap) this a_person hL_this hK_this this_a hR_this_a hL_this_a hK_this_a hN_this_a 0 (by decide) hF) (cwV 1 hts (tw_V tw_425 tw_426 tw_427 tw_5 tw_428) rfl rfl rfl (by decide +kernel) ⟨Nat.le_of_ble_eq_true rfl, Nat.le_of_ble_eq_true rfl⟩) ⟨pq_blind, pq_recv hK hP hL_this hK_this (by decide) rfl, pq_pre hK hN hP hD⟩ rfl rfl hl.1 rfl (lv_room (Nat.le_of_ble_eq_true rfl)) dX12_death_2 ⟨Nat.le_of_ble_eq_true rfl, Nat.le_of_ble_eq_true rfl⟩) hD hS hA (fun r_1 σ1 μ1 H locs hw_2 hP hD hS => ?_)
  obtain ⟨hu_3, hr_4⟩ := hw_2
  obtain ⟨hu_3a, hu_3b⟩ := Prod.mk.inj hu_3
  rw [hu_3a, hu_3b] at hP hD
  subst hr_4
  refine lv_if_eq (tgt := 20) hx hb dX12_death_5 (by decide) (fun c_5 => ?_) (fun c_5 => absurd c_5 (by decide))
  refine lv_iconst (v := (-1)) hx hb dX12_death_20 (by decide) ?_
  exact W.iret (v := (-1)) hx hb hr (fun t1 ht hW => ⟨⟨(-1), (σ, I, J, ri, rj, rq), rfl, ⟨rfl, rfl⟩, by rw [ht]; exact hP, va_K.moved hW.alike hK, hD⟩, hS.F ht⟩) hS.2.2 dX12_death_21

set_option maxHeartbeats 4000000 in
set_option maxRecDepth 100000 in
theorem c_X12_title (l : Launch) (D : va_G) (t : pq_T) (σ : pq_S) (I : Nat → Nat → Int32) (J : Nat → Nat → Int64) (ri : Nat → Nat → Int32) (rj : Nat → Nat → Int64) (rq : Nat → Nat → Option Nat) (sz : Nat) (this : Nat) (a_cell : Int32) (a_person : Int32) (hL_this : this ∈ σ.1) (hK_this : σ.2.1 this = 12) (this_a : Nat) (hR_this_a : σ.2.2.1 384 this = some this_a) (hL_this_a : this_a ∈ σ.1) (hK_this_a : σ.2.1 this_a = 13) (hN_this_a : σ.2.2.2 this_a = 12720) (hF : fm (ri this_a) 0) : MetI l yX12_title (wa yX12_title cX12_title 3 (some .boolean)) ({ frames := 2, cells := 0, slots := 0, locals := 43 }) [.ref this, .int a_cell, .int a_person] D t σ (I, J, ri, rj, rq) sz 0 0 (fun (r : Int32) (u : pq_S × pq_M) => u = (σ, I, J, ri, rj, rq) ∧ ((r = 0))) := by
  refine Met.ofW (cc := cX12_title) (maxL := 3) (ret := (some .boolean)) (by decide) rfl ?_
  intro p e s m args below meth c s₁ B hml hv
  obtain ⟨rfl, hsz, hP, hK, hD0, hN⟩ := hv
  have hx := B.exec
  have hb := B.bytes
  have hr := B.returns
  have hts := atoms_spec (ws := (wa yX12_title cX12_title 3 (some .boolean))) B.pre
  have hown : s.vm.findClass RX12 = some m.cls := findClass_of_methodNamed B.named
  have hlocks := B.notSynchronized
  subst hsz
  have hD : va_D (pq_B t σ (I, J, ri, rj, rq) s.heap.size) (pq_P t σ (I, J, ri, rj, rq)) := hD0.self
  generalize hAe : pq_B t σ (I, J, ri, rj, rq) s.heap.size = A at hD ⊢
  have hA : ∀ q : Nat, s.heap.size ≤ q → A q := fun q h => by rw [← hAe]; exact Or.inr h
  have hS : va_S A s.heap s.heap [] := va_S.rf
  have hl := lv_entry ([.ref this, .int a_cell, .int a_person]) (n := 3) (Nat.le_of_ble_eq_true rfl)
  rw [lg_entry_eq]
  generalize (lg_sl ([.ref this, .int a_cell, .int a_person]) ++ List.replicate (3 - (lg_sl ([.ref this, .int a_cell, .int a_person])).length) Slot.unset).toArray = ls at hl ⊢
  have hl : lv_has ls 3 [(0, .ref this), (1, .int a_cell), (2, .int a_person)] := hl
  refine lv_aload_n hx hb dX12_title_0 rfl (lv_at hl 0 rfl) ?_
  refine lv_iload_n hx hb dX12_title_1 rfl (lv_at hl 1 rfl) ?_
  refine pk_i (va_runV (As := [.int a_cell]) (rest := []) ⟨hx, hb, hml, hown, hts⟩ (c_X12_isCell l D t σ I J ri rj rq (Array.size s.heap) this a_cell hL_this hK_this this_a hR_this_a hL_this_a hK_this_a hN_this_a 0 (by decide) hF) (cwV 1 hts (tw_V tw_340 tw_341 tw_342 tw_5 tw_343) rfl rfl rfl (by decide +kernel) ⟨Nat.le_of_ble_eq_true rfl, Nat.le_of_ble_eq_true rfl⟩) ⟨pq_blind, pq_recv hK hP hL_this hK_this (by decide) rfl, pq_pre hK hN hP hD⟩ rfl rfl hl.1 rfl (lv_room (Nat.le_of_ble_eq_true rfl)) dX12_title_2 ⟨Nat.le_of_ble_eq_true rfl, Nat.le_of_ble_eq_true rfl⟩) hD hS hA (fun r_1 σ1 μ1 H locs hw_2 hP hD hS => ?_)
  obtain ⟨hu_3, hr_4⟩ := hw_2
  obtain ⟨hu_3a, hu_3b⟩ := Prod.mk.inj hu_3
  rw [hu_3a, hu_3b] at hP hD
  subst hr_4
  refine lv_if_eq (tgt := 33) hx hb dX12_title_5 (by decide) (fun c_5 => ?_) (fun c_5 => absurd c_5 (by decide))
  refine lv_iconst (v := 0) hx hb dX12_title_33 (by decide) ?_
  exact W.zret (v := 0) hx hb hr (by decide) (fun t1 ht hW => ⟨⟨0, (σ, I, J, ri, rj, rq), rfl, ⟨rfl, rfl⟩, by rw [ht]; exact hP, va_K.moved hW.alike hK, hD⟩, hS.F ht⟩) hS.2.2 dX12_title_34

set_option maxHeartbeats 4000000 in
set_option maxRecDepth 100000 in
theorem c_X12_titleOf (l : Launch) (D : va_G) (t : pq_T) (σ : pq_S) (I : Nat → Nat → Int32) (J : Nat → Nat → Int64) (ri : Nat → Nat → Int32) (rj : Nat → Nat → Int64) (rq : Nat → Nat → Option Nat) (sz : Nat) (this : Nat) (a_cell : Int32) (a_what : Int32) (hL_this : this ∈ σ.1) (hK_this : σ.2.1 this = 12) (this_a : Nat) (hR_this_a : σ.2.2.1 384 this = some this_a) (hL_this_a : this_a ∈ σ.1) (hK_this_a : σ.2.1 this_a = 13) (hN_this_a : σ.2.2.2 this_a = 12720) (hF : fm (ri this_a) 0) : MetI l yX12_titleOf (wa yX12_titleOf cX12_titleOf 3 (some .int)) ({ frames := 2, cells := 0, slots := 0, locals := 43 }) [.ref this, .int a_cell, .int a_what] D t σ (I, J, ri, rj, rq) sz 0 0 (fun (r : Int32) (u : pq_S × pq_M) => u = (σ, I, J, ri, rj, rq) ∧ ((r = (-1)))) := by
  refine Met.ofW (cc := cX12_titleOf) (maxL := 3) (ret := (some .int)) (by decide) rfl ?_
  intro p e s m args below meth c s₁ B hml hv
  obtain ⟨rfl, hsz, hP, hK, hD0, hN⟩ := hv
  have hx := B.exec
  have hb := B.bytes
  have hr := B.returns
  have hts := atoms_spec (ws := (wa yX12_titleOf cX12_titleOf 3 (some .int))) B.pre
  have hown : s.vm.findClass RX12 = some m.cls := findClass_of_methodNamed B.named
  have hlocks := B.notSynchronized
  subst hsz
  have hD : va_D (pq_B t σ (I, J, ri, rj, rq) s.heap.size) (pq_P t σ (I, J, ri, rj, rq)) := hD0.self
  generalize hAe : pq_B t σ (I, J, ri, rj, rq) s.heap.size = A at hD ⊢
  have hA : ∀ q : Nat, s.heap.size ≤ q → A q := fun q h => by rw [← hAe]; exact Or.inr h
  have hS : va_S A s.heap s.heap [] := va_S.rf
  have hl := lv_entry ([.ref this, .int a_cell, .int a_what]) (n := 3) (Nat.le_of_ble_eq_true rfl)
  rw [lg_entry_eq]
  generalize (lg_sl ([.ref this, .int a_cell, .int a_what]) ++ List.replicate (3 - (lg_sl ([.ref this, .int a_cell, .int a_what])).length) Slot.unset).toArray = ls at hl ⊢
  have hl : lv_has ls 3 [(0, .ref this), (1, .int a_cell), (2, .int a_what)] := hl
  refine lv_aload_n hx hb dX12_titleOf_0 rfl (lv_at hl 0 rfl) ?_
  refine lv_iload_n hx hb dX12_titleOf_1 rfl (lv_at hl 1 rfl) ?_
  refine pk_i (va_runV (As := [.int a_cell]) (rest := []) ⟨hx, hb, hml, hown, hts⟩ (c_X12_isCell l D t σ I J ri rj rq (Array.size s.heap) this a_cell hL_this hK_this this_a hR_this_a hL_this_a hK_this_a hN_this_a 0 (by decide) hF) (cwV 1 hts (tw_V tw_340 tw_341 tw_342 tw_5 tw_343) rfl rfl rfl (by decide +kernel) ⟨Nat.le_of_ble_eq_true rfl, Nat.le_of_ble_eq_true rfl⟩) ⟨pq_blind, pq_recv hK hP hL_this hK_this (by decide) rfl, pq_pre hK hN hP hD⟩ rfl rfl hl.1 rfl (lv_room (Nat.le_of_ble_eq_true rfl)) dX12_titleOf_2 ⟨Nat.le_of_ble_eq_true rfl, Nat.le_of_ble_eq_true rfl⟩) hD hS hA (fun r_1 σ1 μ1 H locs hw_2 hP hD hS => ?_)
  obtain ⟨hu_3, hr_4⟩ := hw_2
  obtain ⟨hu_3a, hu_3b⟩ := Prod.mk.inj hu_3
  rw [hu_3a, hu_3b] at hP hD
  subst hr_4
  refine lv_if_eq (tgt := 17) hx hb dX12_titleOf_5 (by decide) (fun c_5 => ?_) (fun c_5 => absurd c_5 (by decide))
  refine lv_iconst (v := (-1)) hx hb dX12_titleOf_17 (by decide) ?_
  exact W.iret (v := (-1)) hx hb hr (fun t1 ht hW => ⟨⟨(-1), (σ, I, J, ri, rj, rq), rfl, ⟨rfl, rfl⟩, by rw [ht]; exact hP, va_K.moved hW.alike hK, hD⟩, hS.F ht⟩) hS.2.2 dX12_titleOf_18

set_option maxHeartbeats 4000000 in
set_option maxRecDepth 100000 in
theorem c_X12_choose (l : Launch) (D : va_G) (t : pq_T) (σ : pq_S) (I : Nat → Nat → Int32) (J : Nat → Nat → Int64) (ri : Nat → Nat → Int32) (rj : Nat → Nat → Int64) (rq : Nat → Nat → Option Nat) (sz : Nat) (this : Nat) (a_person : Int32) (a_v : Int32) (hL_this : this ∈ σ.1) (hK_this : σ.2.1 this = 12) (this_a : Nat) (hR_this_a : σ.2.2.1 384 this = some this_a) (hL_this_a : this_a ∈ σ.1) (hK_this_a : σ.2.1 this_a = 13) (hN_this_a : σ.2.2.2 this_a = 12720) (hF : fm (ri this_a) 0) : MetI l yX12_choose (wa yX12_choose cX12_choose 3 (some .boolean)) ({ frames := 2, cells := 0, slots := 0, locals := 43 }) [.ref this, .int a_person, .int a_v] D t σ (I, J, ri, rj, rq) sz 0 0 (fun (r : Int32) (u : pq_S × pq_M) => u = (σ, I, J, ri, rj, rq) ∧ ((r = 0))) := by
  refine Met.ofW (cc := cX12_choose) (maxL := 3) (ret := (some .boolean)) (by decide) rfl ?_
  intro p e s m args below meth c s₁ B hml hv
  obtain ⟨rfl, hsz, hP, hK, hD0, hN⟩ := hv
  have hx := B.exec
  have hb := B.bytes
  have hr := B.returns
  have hts := atoms_spec (ws := (wa yX12_choose cX12_choose 3 (some .boolean))) B.pre
  have hown : s.vm.findClass RX12 = some m.cls := findClass_of_methodNamed B.named
  have hlocks := B.notSynchronized
  subst hsz
  have hD : va_D (pq_B t σ (I, J, ri, rj, rq) s.heap.size) (pq_P t σ (I, J, ri, rj, rq)) := hD0.self
  generalize hAe : pq_B t σ (I, J, ri, rj, rq) s.heap.size = A at hD ⊢
  have hA : ∀ q : Nat, s.heap.size ≤ q → A q := fun q h => by rw [← hAe]; exact Or.inr h
  have hS : va_S A s.heap s.heap [] := va_S.rf
  have hl := lv_entry ([.ref this, .int a_person, .int a_v]) (n := 3) (Nat.le_of_ble_eq_true rfl)
  rw [lg_entry_eq]
  generalize (lg_sl ([.ref this, .int a_person, .int a_v]) ++ List.replicate (3 - (lg_sl ([.ref this, .int a_person, .int a_v])).length) Slot.unset).toArray = ls at hl ⊢
  have hl : lv_has ls 3 [(0, .ref this), (1, .int a_person), (2, .int a_v)] := hl
  refine lv_aload_n hx hb dX12_choose_0 rfl (lv_at hl 0 rfl) ?_
  refine lv_iload_n hx hb dX12_choose_1 rfl (lv_at hl 1 rfl) ?_
  refine pk_i (va_runV (As := [.int a_person]) (rest := []) ⟨hx, hb, hml, hown, hts⟩ (c_X12_isPerson l D t σ I J ri rj rq (Array.size s.heap) this a_person hL_this hK_this this_a hR_this_a hL_this_a hK_this_a hN_this_a 0 (by decide) hF) (cwV 1 hts (tw_V tw_425 tw_426 tw_427 tw_5 tw_428) rfl rfl rfl (by decide +kernel) ⟨Nat.le_of_ble_eq_true rfl, Nat.le_of_ble_eq_true rfl⟩) ⟨pq_blind, pq_recv hK hP hL_this hK_this (by decide) rfl, pq_pre hK hN hP hD⟩ rfl rfl hl.1 rfl (lv_room (Nat.le_of_ble_eq_true rfl)) dX12_choose_2 ⟨Nat.le_of_ble_eq_true rfl, Nat.le_of_ble_eq_true rfl⟩) hD hS hA (fun r_1 σ1 μ1 H locs hw_2 hP hD hS => ?_)
  obtain ⟨hu_3, hr_4⟩ := hw_2
  obtain ⟨hu_3a, hu_3b⟩ := Prod.mk.inj hu_3
  rw [hu_3a, hu_3b] at hP hD
  subst hr_4
  refine lv_if_eq (tgt := 17) hx hb dX12_choose_5 (by decide) (fun c_5 => ?_) (fun c_5 => absurd c_5 (by decide))
  refine lv_iconst (v := 0) hx hb dX12_choose_17 (by decide) ?_
  exact W.zret (v := 0) hx hb hr (by decide) (fun t1 ht hW => ⟨⟨0, (σ, I, J, ri, rj, rq), rfl, ⟨rfl, rfl⟩, by rw [ht]; exact hP, va_K.moved hW.alike hK, hD⟩, hS.F ht⟩) hS.2.2 dX12_choose_18

set_option maxHeartbeats 4000000 in
set_option maxRecDepth 100000 in
theorem c_X12_is (l : Launch) (D : va_G) (t : pq_T) (σ : pq_S) (I : Nat → Nat → Int32) (J : Nat → Nat → Int64) (ri : Nat → Nat → Int32) (rj : Nat → Nat → Int64) (rq : Nat → Nat → Option Nat) (sz : Nat) (this : Nat) (a_what : Int32) (a_person : Int32) (a_month : Int32) (hL_this : this ∈ σ.1) (hK_this : σ.2.1 this = 12) (this_a : Nat) (hR_this_a : σ.2.2.1 384 this = some this_a) (hL_this_a : this_a ∈ σ.1) (hK_this_a : σ.2.1 this_a = 13) (hN_this_a : σ.2.2.2 this_a = 12720) (hF : fm (ri this_a) 0) : MetI l yX12_is (wa yX12_is cX12_is 4 (some .int)) ({ frames := 2, cells := 0, slots := 0, locals := 43 }) [.ref this, .int a_what, .int a_person, .int a_month] D t σ (I, J, ri, rj, rq) sz 0 0 (fun (r : Int32) (u : pq_S × pq_M) => u = (σ, I, J, ri, rj, rq) ∧ ((r = (-1)))) := by
  refine Met.ofW (cc := cX12_is) (maxL := 4) (ret := (some .int)) (by decide) rfl ?_
  intro p e s m args below meth c s₁ B hml hv
  obtain ⟨rfl, hsz, hP, hK, hD0, hN⟩ := hv
  have hx := B.exec
  have hb := B.bytes
  have hr := B.returns
  have hts := atoms_spec (ws := (wa yX12_is cX12_is 4 (some .int))) B.pre
  have hown : s.vm.findClass RX12 = some m.cls := findClass_of_methodNamed B.named
  have hlocks := B.notSynchronized
  subst hsz
  have hD : va_D (pq_B t σ (I, J, ri, rj, rq) s.heap.size) (pq_P t σ (I, J, ri, rj, rq)) := hD0.self
  generalize hAe : pq_B t σ (I, J, ri, rj, rq) s.heap.size = A at hD ⊢
  have hA : ∀ q : Nat, s.heap.size ≤ q → A q := fun q h => by rw [← hAe]; exact Or.inr h
  have hS : va_S A s.heap s.heap [] := va_S.rf
  have hl := lv_entry ([.ref this, .int a_what, .int a_person, .int a_month]) (n := 4) (Nat.le_of_ble_eq_true rfl)
  rw [lg_entry_eq]
  generalize (lg_sl ([.ref this, .int a_what, .int a_person, .int a_month]) ++ List.replicate (4 - (lg_sl ([.ref this, .int a_what, .int a_person, .int a_month])).length) Slot.unset).toArray = ls at hl ⊢
  have hl : lv_has ls 4 [(0, .ref this), (1, .int a_what), (2, .int a_person), (3, .int a_month)] := hl
  refine lv_iload_n hx hb dX12_is_0 rfl (lv_at hl 1 rfl) ?_
  refine lv_iconst (v := 0) hx hb dX12_is_1 (by decide) ?_
  refine lv_iconst (v := 2) hx hb dX12_is_2 (by decide) ?_
  refine pk_i (va_runS (As := [.int a_what, .int 0, .int 2]) (rest := []) ⟨hx, hb, hml, hown, hts⟩ (c_X12_isIn l D t σ I J ri rj rq (Array.size s.heap) a_what (0 : Int32) (2 : Int32)) (va_cwS 3 hts (tw_S tw_235 tw_236 tw_5 tw_237) rfl rfl rfl (by decide +kernel) ⟨Nat.le_of_ble_eq_true rfl, Nat.le_of_ble_eq_true rfl⟩) ⟨pq_blind, pq_pre hK hN hP hD⟩ rfl rfl hl.1 rfl (lv_room (Nat.le_of_ble_eq_true rfl)) dX12_is_3 ⟨Nat.le_of_ble_eq_true rfl, Nat.le_of_ble_eq_true rfl⟩) hD hS hA (fun r_1 σ1 μ1 H locs hw_2 hP hD hS => ?_)
  obtain ⟨hu_3, hr_4⟩ := hw_2
  obtain ⟨hu_3a, hu_3b⟩ := Prod.mk.inj hu_3
  rw [hu_3a, hu_3b] at hP hD
  rcases hr_4 with ⟨rfl, hr_4_0, hr_4_1⟩ | ⟨rfl, hr_4_0⟩
  · refine lv_if_eq (tgt := 44) hx hb dX12_is_6 (by decide) (fun c_5 => absurd c_5 (by decide)) (fun c_5 => ?_)
    refine lv_aload_n hx hb dX12_is_9 rfl (lv_at hl 0 rfl) ?_
    refine lv_iload_n hx hb dX12_is_10 rfl (lv_at hl 2 rfl) ?_
    refine pk_i (va_runV (As := [.int a_person]) (rest := []) ⟨hx, hb, hml, hown, hts⟩ (c_X12_isPerson l D t σ I J ri rj rq H.size this a_person hL_this hK_this this_a hR_this_a hL_this_a hK_this_a hN_this_a 0 (by decide) hF) (cwV 1 hts (tw_V tw_425 tw_426 tw_427 tw_5 tw_428) rfl rfl rfl (by decide +kernel) ⟨Nat.le_of_ble_eq_true rfl, Nat.le_of_ble_eq_true rfl⟩) ⟨pq_blind, pq_recv hK hP hL_this hK_this (by decide) rfl, pq_pre hK hN hP hD⟩ rfl rfl hl.1 rfl (lv_room (Nat.le_of_ble_eq_true rfl)) dX12_is_11 ⟨Nat.le_of_ble_eq_true rfl, Nat.le_of_ble_eq_true rfl⟩) hD hS hA (fun r_6 σ1 μ1 H locs hw_7 hP hD hS => ?_)
    obtain ⟨hu_8, hr_9⟩ := hw_7
    obtain ⟨hu_8a, hu_8b⟩ := Prod.mk.inj hu_8
    rw [hu_8a, hu_8b] at hP hD
    subst hr_9
    refine lv_if_eq (tgt := 44) hx hb dX12_is_14 (by decide) (fun c_10 => ?_) (fun c_10 => absurd c_10 (by decide))
    refine lv_iconst (v := (-1)) hx hb dX12_is_44 (by decide) ?_
    exact W.iret (v := (-1)) hx hb hr (fun t1 ht hW => ⟨⟨(-1), (σ, I, J, ri, rj, rq), rfl, ⟨rfl, rfl⟩, by rw [ht]; exact hP, va_K.moved hW.alike hK, hD⟩, hS.F ht⟩) hS.2.2 dX12_is_45
  · refine lv_if_eq (tgt := 44) hx hb dX12_is_6 (by decide) (fun c_11 => ?_) (fun c_11 => absurd c_11 (by decide))
    refine lv_iconst (v := (-1)) hx hb dX12_is_44 (by decide) ?_
    exact W.iret (v := (-1)) hx hb hr (fun t1 ht hW => ⟨⟨(-1), (σ, I, J, ri, rj, rq), rfl, ⟨rfl, rfl⟩, by rw [ht]; exact hP, va_K.moved hW.alike hK, hD⟩, hS.F ht⟩) hS.2.2 dX12_is_45

set_option maxHeartbeats 4000000 in
set_option maxRecDepth 100000 in
theorem c_X12_why (l : Launch) (D : va_G) (t : pq_T) (σ : pq_S) (I : Nat → Nat → Int32) (J : Nat → Nat → Int64) (ri : Nat → Nat → Int32) (rj : Nat → Nat → Int64) (rq : Nat → Nat → Option Nat) (sz : Nat) (this : Nat) (a_what : Int32) (a_person : Int32) (a_month : Int32) (hL_this : this ∈ σ.1) (hK_this : σ.2.1 this = 12) (this_a : Nat) (hR_this_a : σ.2.2.1 384 this = some this_a) (hL_this_a : this_a ∈ σ.1) (hK_this_a : σ.2.1 this_a = 13) (hN_this_a : σ.2.2.2 this_a = 12720) (hF : fm (ri this_a) 0) : MetI l yX12_why (wa yX12_why cX12_why 4 (some .int)) ({ frames := 2, cells := 0, slots := 0, locals := 43 }) [.ref this, .int a_what, .int a_person, .int a_month] D t σ (I, J, ri, rj, rq) sz 0 0 (fun (r : Int32) (u : pq_S × pq_M) => u = (σ, I, J, ri, rj, rq) ∧ ((r = (-1)))) := by
  refine Met.ofW (cc := cX12_why) (maxL := 4) (ret := (some .int)) (by decide) rfl ?_
  intro p e s m args below meth c s₁ B hml hv
  obtain ⟨rfl, hsz, hP, hK, hD0, hN⟩ := hv
  have hx := B.exec
  have hb := B.bytes
  have hr := B.returns
  have hts := atoms_spec (ws := (wa yX12_why cX12_why 4 (some .int))) B.pre
  have hown : s.vm.findClass RX12 = some m.cls := findClass_of_methodNamed B.named
  have hlocks := B.notSynchronized
  subst hsz
  have hD : va_D (pq_B t σ (I, J, ri, rj, rq) s.heap.size) (pq_P t σ (I, J, ri, rj, rq)) := hD0.self
  generalize hAe : pq_B t σ (I, J, ri, rj, rq) s.heap.size = A at hD ⊢
  have hA : ∀ q : Nat, s.heap.size ≤ q → A q := fun q h => by rw [← hAe]; exact Or.inr h
  have hS : va_S A s.heap s.heap [] := va_S.rf
  have hl := lv_entry ([.ref this, .int a_what, .int a_person, .int a_month]) (n := 4) (Nat.le_of_ble_eq_true rfl)
  rw [lg_entry_eq]
  generalize (lg_sl ([.ref this, .int a_what, .int a_person, .int a_month]) ++ List.replicate (4 - (lg_sl ([.ref this, .int a_what, .int a_person, .int a_month])).length) Slot.unset).toArray = ls at hl ⊢
  have hl : lv_has ls 4 [(0, .ref this), (1, .int a_what), (2, .int a_person), (3, .int a_month)] := hl
  refine lv_iload_n hx hb dX12_why_0 rfl (lv_at hl 1 rfl) ?_
  refine lv_iconst (v := 0) hx hb dX12_why_1 (by decide) ?_
  refine lv_iconst (v := 2) hx hb dX12_why_2 (by decide) ?_
  refine pk_i (va_runS (As := [.int a_what, .int 0, .int 2]) (rest := []) ⟨hx, hb, hml, hown, hts⟩ (c_X12_isIn l D t σ I J ri rj rq (Array.size s.heap) a_what (0 : Int32) (2 : Int32)) (va_cwS 3 hts (tw_S tw_235 tw_236 tw_5 tw_237) rfl rfl rfl (by decide +kernel) ⟨Nat.le_of_ble_eq_true rfl, Nat.le_of_ble_eq_true rfl⟩) ⟨pq_blind, pq_pre hK hN hP hD⟩ rfl rfl hl.1 rfl (lv_room (Nat.le_of_ble_eq_true rfl)) dX12_why_3 ⟨Nat.le_of_ble_eq_true rfl, Nat.le_of_ble_eq_true rfl⟩) hD hS hA (fun r_1 σ1 μ1 H locs hw_2 hP hD hS => ?_)
  obtain ⟨hu_3, hr_4⟩ := hw_2
  obtain ⟨hu_3a, hu_3b⟩ := Prod.mk.inj hu_3
  rw [hu_3a, hu_3b] at hP hD
  rcases hr_4 with ⟨rfl, hr_4_0, hr_4_1⟩ | ⟨rfl, hr_4_0⟩
  · refine lv_if_eq (tgt := 37) hx hb dX12_why_6 (by decide) (fun c_5 => absurd c_5 (by decide)) (fun c_5 => ?_)
    refine lv_aload_n hx hb dX12_why_9 rfl (lv_at hl 0 rfl) ?_
    refine lv_iload_n hx hb dX12_why_10 rfl (lv_at hl 2 rfl) ?_
    refine pk_i (va_runV (As := [.int a_person]) (rest := []) ⟨hx, hb, hml, hown, hts⟩ (c_X12_isPerson l D t σ I J ri rj rq H.size this a_person hL_this hK_this this_a hR_this_a hL_this_a hK_this_a hN_this_a 0 (by decide) hF) (cwV 1 hts (tw_V tw_425 tw_426 tw_427 tw_5 tw_428) rfl rfl rfl (by decide +kernel) ⟨Nat.le_of_ble_eq_true rfl, Nat.le_of_ble_eq_true rfl⟩) ⟨pq_blind, pq_recv hK hP hL_this hK_this (by decide) rfl, pq_pre hK hN hP hD⟩ rfl rfl hl.1 rfl (lv_room (Nat.le_of_ble_eq_true rfl)) dX12_why_11 ⟨Nat.le_of_ble_eq_true rfl, Nat.le_of_ble_eq_true rfl⟩) hD hS hA (fun r_6 σ1 μ1 H locs hw_7 hP hD hS => ?_)
    obtain ⟨hu_8, hr_9⟩ := hw_7
    obtain ⟨hu_8a, hu_8b⟩ := Prod.mk.inj hu_8
    rw [hu_8a, hu_8b] at hP hD
    subst hr_9
    refine lv_if_eq (tgt := 37) hx hb dX12_why_14 (by decide) (fun c_10 => ?_) (fun c_10 => absurd c_10 (by decide))
    refine lv_iconst (v := (-1)) hx hb dX12_why_37 (by decide) ?_
    exact W.iret (v := (-1)) hx hb hr (fun t1 ht hW => ⟨⟨(-1), (σ, I, J, ri, rj, rq), rfl, ⟨rfl, rfl⟩, by rw [ht]; exact hP, va_K.moved hW.alike hK, hD⟩, hS.F ht⟩) hS.2.2 dX12_why_38
  · refine lv_if_eq (tgt := 37) hx hb dX12_why_6 (by decide) (fun c_11 => ?_) (fun c_11 => absurd c_11 (by decide))
    refine lv_iconst (v := (-1)) hx hb dX12_why_37 (by decide) ?_
    exact W.iret (v := (-1)) hx hb hr (fun t1 ht hW => ⟨⟨(-1), (σ, I, J, ri, rj, rq), rfl, ⟨rfl, rfl⟩, by rw [ht]; exact hP, va_K.moved hW.alike hK, hD⟩, hS.F ht⟩) hS.2.2 dX12_why_38

set_option maxHeartbeats 4000000 in
set_option maxRecDepth 100000 in
theorem c_X12_cellOf (l : Launch) (D : va_G) (t : pq_T) (σ : pq_S) (I : Nat → Nat → Int32) (J : Nat → Nat → Int64) (ri : Nat → Nat → Int32) (rj : Nat → Nat → Int64) (rq : Nat → Nat → Option Nat) (sz : Nat) (this : Nat) (a_cell : Int32) (a_what : Int32) (hL_this : this ∈ σ.1) (hK_this : σ.2.1 this = 12) (this_a : Nat) (hR_this_a : σ.2.2.1 384 this = some this_a) (hL_this_a : this_a ∈ σ.1) (hK_this_a : σ.2.1 this_a = 13) (hN_this_a : σ.2.2.2 this_a = 12720) (hF : fm (ri this_a) 0) : MetI l yX12_cellOf (wa yX12_cellOf cX12_cellOf 3 (some .int)) ({ frames := 2, cells := 0, slots := 0, locals := 43 }) [.ref this, .int a_cell, .int a_what] D t σ (I, J, ri, rj, rq) sz 0 0 (fun (r : Int32) (u : pq_S × pq_M) => u = (σ, I, J, ri, rj, rq) ∧ ((r = (-1000000)))) := by
  refine Met.ofW (cc := cX12_cellOf) (maxL := 3) (ret := (some .int)) (by decide) rfl ?_
  intro p e s m args below meth c s₁ B hml hv
  obtain ⟨rfl, hsz, hP, hK, hD0, hN⟩ := hv
  have hx := B.exec
  have hb := B.bytes
  have hr := B.returns
  have hts := atoms_spec (ws := (wa yX12_cellOf cX12_cellOf 3 (some .int))) B.pre
  have hown : s.vm.findClass RX12 = some m.cls := findClass_of_methodNamed B.named
  have hlocks := B.notSynchronized
  subst hsz
  have hD : va_D (pq_B t σ (I, J, ri, rj, rq) s.heap.size) (pq_P t σ (I, J, ri, rj, rq)) := hD0.self
  generalize hAe : pq_B t σ (I, J, ri, rj, rq) s.heap.size = A at hD ⊢
  have hA : ∀ q : Nat, s.heap.size ≤ q → A q := fun q h => by rw [← hAe]; exact Or.inr h
  have hS : va_S A s.heap s.heap [] := va_S.rf
  have hl := lv_entry ([.ref this, .int a_cell, .int a_what]) (n := 3) (Nat.le_of_ble_eq_true rfl)
  rw [lg_entry_eq]
  generalize (lg_sl ([.ref this, .int a_cell, .int a_what]) ++ List.replicate (3 - (lg_sl ([.ref this, .int a_cell, .int a_what])).length) Slot.unset).toArray = ls at hl ⊢
  have hl : lv_has ls 3 [(0, .ref this), (1, .int a_cell), (2, .int a_what)] := hl
  refine lv_aload_n hx hb dX12_cellOf_0 rfl (lv_at hl 0 rfl) ?_
  refine lv_iload_n hx hb dX12_cellOf_1 rfl (lv_at hl 1 rfl) ?_
  refine pk_i (va_runV (As := [.int a_cell]) (rest := []) ⟨hx, hb, hml, hown, hts⟩ (c_X12_isCell l D t σ I J ri rj rq (Array.size s.heap) this a_cell hL_this hK_this this_a hR_this_a hL_this_a hK_this_a hN_this_a 0 (by decide) hF) (cwV 1 hts (tw_V tw_340 tw_341 tw_342 tw_5 tw_343) rfl rfl rfl (by decide +kernel) ⟨Nat.le_of_ble_eq_true rfl, Nat.le_of_ble_eq_true rfl⟩) ⟨pq_blind, pq_recv hK hP hL_this hK_this (by decide) rfl, pq_pre hK hN hP hD⟩ rfl rfl hl.1 rfl (lv_room (Nat.le_of_ble_eq_true rfl)) dX12_cellOf_2 ⟨Nat.le_of_ble_eq_true rfl, Nat.le_of_ble_eq_true rfl⟩) hD hS hA (fun r_1 σ1 μ1 H locs hw_2 hP hD hS => ?_)
  obtain ⟨hu_3, hr_4⟩ := hw_2
  obtain ⟨hu_3a, hu_3b⟩ := Prod.mk.inj hu_3
  rw [hu_3a, hu_3b] at hP hD
  subst hr_4
  refine lv_if_ne (tgt := 11) hx hb dX12_cellOf_5 (by decide) (fun c_5 => absurd c_5 (by decide)) (fun c_5 => ?_)
  refine lv_ldc hx hb hown (hts _ (tw_c tw_288)) dX12_cellOf_8 ?_
  exact W.iret (v := (-1000000)) hx hb hr (fun t1 ht hW => ⟨⟨(-1000000), (σ, I, J, ri, rj, rq), rfl, ⟨rfl, rfl⟩, by rw [ht]; exact hP, va_K.moved hW.alike hK, hD⟩, hS.F ht⟩) hS.2.2 dX12_cellOf_10

set_option maxHeartbeats 4000000 in
set_option maxRecDepth 100000 in
theorem c_X12_personOf (l : Launch) (D : va_G) (t : pq_T) (σ : pq_S) (I : Nat → Nat → Int32) (J : Nat → Nat → Int64) (ri : Nat → Nat → Int32) (rj : Nat → Nat → Int64) (rq : Nat → Nat → Option Nat) (sz : Nat) (this : Nat) (a_person : Int32) (a_what : Int32) (hL_this : this ∈ σ.1) (hK_this : σ.2.1 this = 12) (this_a : Nat) (hR_this_a : σ.2.2.1 384 this = some this_a) (hL_this_a : this_a ∈ σ.1) (hK_this_a : σ.2.1 this_a = 13) (hN_this_a : σ.2.2.2 this_a = 12720) (hF : fm (ri this_a) 0) : MetI l yX12_personOf (wa yX12_personOf cX12_personOf 3 (some .int)) ({ frames := 2, cells := 0, slots := 0, locals := 43 }) [.ref this, .int a_person, .int a_what] D t σ (I, J, ri, rj, rq) sz 0 0 (fun (r : Int32) (u : pq_S × pq_M) => u = (σ, I, J, ri, rj, rq) ∧ ((r = (-1)))) := by
  refine Met.ofW (cc := cX12_personOf) (maxL := 3) (ret := (some .int)) (by decide) rfl ?_
  intro p e s m args below meth c s₁ B hml hv
  obtain ⟨rfl, hsz, hP, hK, hD0, hN⟩ := hv
  have hx := B.exec
  have hb := B.bytes
  have hr := B.returns
  have hts := atoms_spec (ws := (wa yX12_personOf cX12_personOf 3 (some .int))) B.pre
  have hown : s.vm.findClass RX12 = some m.cls := findClass_of_methodNamed B.named
  have hlocks := B.notSynchronized
  subst hsz
  have hD : va_D (pq_B t σ (I, J, ri, rj, rq) s.heap.size) (pq_P t σ (I, J, ri, rj, rq)) := hD0.self
  generalize hAe : pq_B t σ (I, J, ri, rj, rq) s.heap.size = A at hD ⊢
  have hA : ∀ q : Nat, s.heap.size ≤ q → A q := fun q h => by rw [← hAe]; exact Or.inr h
  have hS : va_S A s.heap s.heap [] := va_S.rf
  have hl := lv_entry ([.ref this, .int a_person, .int a_what]) (n := 3) (Nat.le_of_ble_eq_true rfl)
  rw [lg_entry_eq]
  generalize (lg_sl ([.ref this, .int a_person, .int a_what]) ++ List.replicate (3 - (lg_sl ([.ref this, .int a_person, .int a_what])).length) Slot.unset).toArray = ls at hl ⊢
  have hl : lv_has ls 3 [(0, .ref this), (1, .int a_person), (2, .int a_what)] := hl
  refine lv_aload_n hx hb dX12_personOf_0 rfl (lv_at hl 0 rfl) ?_
  refine lv_iload_n hx hb dX12_personOf_1 rfl (lv_at hl 1 rfl) ?_
  refine pk_i (va_runV (As := [.int a_person]) (rest := []) ⟨hx, hb, hml, hown, hts⟩ (c_X12_isPerson l D t σ I J ri rj rq (Array.size s.heap) this a_person hL_this hK_this this_a hR_this_a hL_this_a hK_this_a hN_this_a 0 (by decide) hF) (cwV 1 hts (tw_V tw_425 tw_426 tw_427 tw_5 tw_428) rfl rfl rfl (by decide +kernel) ⟨Nat.le_of_ble_eq_true rfl, Nat.le_of_ble_eq_true rfl⟩) ⟨pq_blind, pq_recv hK hP hL_this hK_this (by decide) rfl, pq_pre hK hN hP hD⟩ rfl rfl hl.1 rfl (lv_room (Nat.le_of_ble_eq_true rfl)) dX12_personOf_2 ⟨Nat.le_of_ble_eq_true rfl, Nat.le_of_ble_eq_true rfl⟩) hD hS hA (fun r_1 σ1 μ1 H locs hw_2 hP hD hS => ?_)
  obtain ⟨hu_3, hr_4⟩ := hw_2
  obtain ⟨hu_3a, hu_3b⟩ := Prod.mk.inj hu_3
  rw [hu_3a, hu_3b] at hP hD
  subst hr_4
  refine lv_if_ne (tgt := 10) hx hb dX12_personOf_5 (by decide) (fun c_5 => absurd c_5 (by decide)) (fun c_5 => ?_)
  refine lv_iconst (v := (-1)) hx hb dX12_personOf_8 (by decide) ?_
  exact W.iret (v := (-1)) hx hb hr (fun t1 ht hW => ⟨⟨(-1), (σ, I, J, ri, rj, rq), rfl, ⟨rfl, rfl⟩, by rw [ht]; exact hP, va_K.moved hW.alike hK, hD⟩, hS.F ht⟩) hS.2.2 dX12_personOf_9

set_option maxHeartbeats 4000000 in
set_option maxRecDepth 100000 in
theorem c_X12_grave (l : Launch) (D : va_G) (t : pq_T) (σ : pq_S) (I : Nat → Nat → Int32) (J : Nat → Nat → Int64) (ri : Nat → Nat → Int32) (rj : Nat → Nat → Int64) (rq : Nat → Nat → Option Nat) (sz : Nat) (this : Nat) (a_cell : Int32) (hL_this : this ∈ σ.1) (hK_this : σ.2.1 this = 12) (this_a : Nat) (hR_this_a : σ.2.2.1 384 this = some this_a) (hL_this_a : this_a ∈ σ.1) (hK_this_a : σ.2.1 this_a = 13) (hN_this_a : σ.2.2.2 this_a = 12720) (hF : fm (ri this_a) 0) : MetI l yX12_grave (wa yX12_grave cX12_grave 2 (some .int)) ({ frames := 2, cells := 0, slots := 0, locals := 43 }) [.ref this, .int a_cell] D t σ (I, J, ri, rj, rq) sz 0 0 (fun (r : Int32) (u : pq_S × pq_M) => u = (σ, I, J, ri, rj, rq) ∧ ((r = (-1)))) := by
  refine Met.ofW (cc := cX12_grave) (maxL := 2) (ret := (some .int)) (by decide) rfl ?_
  intro p e s m args below meth c s₁ B hml hv
  obtain ⟨rfl, hsz, hP, hK, hD0, hN⟩ := hv
  have hx := B.exec
  have hb := B.bytes
  have hr := B.returns
  have hts := atoms_spec (ws := (wa yX12_grave cX12_grave 2 (some .int))) B.pre
  have hown : s.vm.findClass RX12 = some m.cls := findClass_of_methodNamed B.named
  have hlocks := B.notSynchronized
  subst hsz
  have hD : va_D (pq_B t σ (I, J, ri, rj, rq) s.heap.size) (pq_P t σ (I, J, ri, rj, rq)) := hD0.self
  generalize hAe : pq_B t σ (I, J, ri, rj, rq) s.heap.size = A at hD ⊢
  have hA : ∀ q : Nat, s.heap.size ≤ q → A q := fun q h => by rw [← hAe]; exact Or.inr h
  have hS : va_S A s.heap s.heap [] := va_S.rf
  have hl := lv_entry ([.ref this, .int a_cell]) (n := 2) (Nat.le_of_ble_eq_true rfl)
  rw [lg_entry_eq]
  generalize (lg_sl ([.ref this, .int a_cell]) ++ List.replicate (2 - (lg_sl ([.ref this, .int a_cell])).length) Slot.unset).toArray = ls at hl ⊢
  have hl : lv_has ls 2 [(0, .ref this), (1, .int a_cell)] := hl
  refine lv_aload_n hx hb dX12_grave_0 rfl (lv_at hl 0 rfl) ?_
  refine lv_iload_n hx hb dX12_grave_1 rfl (lv_at hl 1 rfl) ?_
  refine pk_i (va_runV (As := [.int a_cell]) (rest := []) ⟨hx, hb, hml, hown, hts⟩ (c_X12_isCell l D t σ I J ri rj rq (Array.size s.heap) this a_cell hL_this hK_this this_a hR_this_a hL_this_a hK_this_a hN_this_a 0 (by decide) hF) (cwV 1 hts (tw_V tw_340 tw_341 tw_342 tw_5 tw_343) rfl rfl rfl (by decide +kernel) ⟨Nat.le_of_ble_eq_true rfl, Nat.le_of_ble_eq_true rfl⟩) ⟨pq_blind, pq_recv hK hP hL_this hK_this (by decide) rfl, pq_pre hK hN hP hD⟩ rfl rfl hl.1 rfl (lv_room (Nat.le_of_ble_eq_true rfl)) dX12_grave_2 ⟨Nat.le_of_ble_eq_true rfl, Nat.le_of_ble_eq_true rfl⟩) hD hS hA (fun r_1 σ1 μ1 H locs hw_2 hP hD hS => ?_)
  obtain ⟨hu_3, hr_4⟩ := hw_2
  obtain ⟨hu_3a, hu_3b⟩ := Prod.mk.inj hu_3
  rw [hu_3a, hu_3b] at hP hD
  subst hr_4
  refine lv_if_eq (tgt := 20) hx hb dX12_grave_5 (by decide) (fun c_5 => ?_) (fun c_5 => absurd c_5 (by decide))
  refine lv_iconst (v := (-1)) hx hb dX12_grave_20 (by decide) ?_
  exact W.iret (v := (-1)) hx hb hr (fun t1 ht hW => ⟨⟨(-1), (σ, I, J, ri, rj, rq), rfl, ⟨rfl, rfl⟩, by rw [ht]; exact hP, va_K.moved hW.alike hK, hD⟩, hS.F ht⟩) hS.2.2 dX12_grave_21

set_option maxHeartbeats 4000000 in
set_option maxRecDepth 100000 in
theorem c_X12_bury (l : Launch) (D : va_G) (t : pq_T) (σ : pq_S) (I : Nat → Nat → Int32) (J : Nat → Nat → Int64) (ri : Nat → Nat → Int32) (rj : Nat → Nat → Int64) (rq : Nat → Nat → Option Nat) (sz : Nat) (this : Nat) (a_grave : Int32) (a_cell : Int32) (hL_this : this ∈ σ.1) (hK_this : σ.2.1 this = 12) (this_a : Nat) (hR_this_a : σ.2.2.1 384 this = some this_a) (hL_this_a : this_a ∈ σ.1) (hK_this_a : σ.2.1 this_a = 13) (hN_this_a : σ.2.2.2 this_a = 12720) (hF : fm (ri this_a) 0) : MetI l yX12_bury (wa yX12_bury cX12_bury 3 (some .boolean)) ({ frames := 1, cells := 0, slots := 0, locals := 22 }) [.ref this, .int a_grave, .int a_cell] D t σ (I, J, ri, rj, rq) sz 0 0 (fun (r : Int32) (u : pq_S × pq_M) => u = (σ, I, J, ri, rj, rq) ∧ ((r = 0))) := by
  refine Met.ofW (cc := cX12_bury) (maxL := 3) (ret := (some .boolean)) (by decide) rfl ?_
  intro p e s m args below meth c s₁ B hml hv
  obtain ⟨rfl, hsz, hP, hK, hD0, hN⟩ := hv
  have hx := B.exec
  have hb := B.bytes
  have hr := B.returns
  have hts := atoms_spec (ws := (wa yX12_bury cX12_bury 3 (some .boolean))) B.pre
  have hown : s.vm.findClass RX12 = some m.cls := findClass_of_methodNamed B.named
  have hlocks := B.notSynchronized
  subst hsz
  have hD : va_D (pq_B t σ (I, J, ri, rj, rq) s.heap.size) (pq_P t σ (I, J, ri, rj, rq)) := hD0.self
  generalize hAe : pq_B t σ (I, J, ri, rj, rq) s.heap.size = A at hD ⊢
  have hA : ∀ q : Nat, s.heap.size ≤ q → A q := fun q h => by rw [← hAe]; exact Or.inr h
  have hS : va_S A s.heap s.heap [] := va_S.rf
  have hl := lv_entry ([.ref this, .int a_grave, .int a_cell]) (n := 3) (Nat.le_of_ble_eq_true rfl)
  rw [lg_entry_eq]
  generalize (lg_sl ([.ref this, .int a_grave, .int a_cell]) ++ List.replicate (3 - (lg_sl ([.ref this, .int a_grave, .int a_cell])).length) Slot.unset).toArray = ls at hl ⊢
  have hl : lv_has ls 3 [(0, .ref this), (1, .int a_grave), (2, .int a_cell)] := hl
  refine lv_iload_n hx hb dX12_bury_0 rfl (lv_at hl 1 rfl) ?_
  refine lv_iconst (v := 0) hx hb dX12_bury_1 (by decide) ?_
  refine lv_aload_n hx hb dX12_bury_2 rfl (lv_at hl 0 rfl) ?_
  refine pg_f (v := .ref this_a) (C := RX12) (T := TX12) (N := 31) hx hb hts (tw_i inlX12) hown hK hP hL_this hK_this (by decide) rfl 0 (by decide) (hts _ (tw_c tw_176)) (pq_hv rfl hR_this_a) dX12_bury_3 ?_
  refine lv_bipush (v := 10) hx hb dX12_bury_6 (by decide) ?_
  refine pl_i hx hb hK hP hL_this_a hK_this_a hN_this_a (vp_in_iff.mpr (by decide)) dX12_bury_8 ?_
  refine lv_tov 0 (fm_at hF 10 (v := 0) (by decide)) ?_
  refine lv_iconst (v := 1) hx hb dX12_bury_9 (by decide) ?_
  refine lv_isub hx hb dX12_bury_10 ?_
  refine lv_tov (-1) (by decide) ?_
  refine pk_i (va_runS (As := [.int a_grave, .int 0, .int (-1)]) (rest := []) ⟨hx, hb, hml, hown, hts⟩ (c_X12_isIn l D t σ I J ri rj rq (Array.size s.heap) a_grave (0 : Int32) (-1 : Int32)) (va_cwS 3 hts (tw_S tw_235 tw_236 tw_5 tw_237) rfl rfl rfl (by decide +kernel) ⟨Nat.le_of_ble_eq_true rfl, Nat.le_of_ble_eq_true rfl⟩) ⟨pq_blind, pq_pre hK hN hP hD⟩ rfl rfl hl.1 rfl (lv_room (Nat.le_of_ble_eq_true rfl)) dX12_bury_11 ⟨Nat.le_of_ble_eq_true rfl, Nat.le_of_ble_eq_true rfl⟩) hD hS hA (fun r_1 σ1 μ1 H locs hw_2 hP hD hS => ?_)
  obtain ⟨hu_3, hr_4⟩ := hw_2
  obtain ⟨hu_3a, hu_3b⟩ := Prod.mk.inj hu_3
  rw [hu_3a, hu_3b] at hP hD
  rcases hr_4 with ⟨rfl, hr_4_0, hr_4_1⟩ | ⟨rfl, hr_4_0⟩
  · exact (bt_no hr_4_0 hr_4_1 (by decide)).elim
  · refine lv_if_eq (tgt := 41) hx hb dX12_bury_14 (by decide) (fun c_5 => ?_) (fun c_5 => absurd c_5 (by decide))
    refine lv_iconst (v := 0) hx hb dX12_bury_41 (by decide) ?_
    exact W.zret (v := 0) hx hb hr (by decide) (fun t1 ht hW => ⟨⟨0, (σ, I, J, ri, rj, rq), rfl, ⟨rfl, rfl⟩, by rw [ht]; exact hP, va_K.moved hW.alike hK, hD⟩, hS.F ht⟩) hS.2.2 dX12_bury_42

set_option maxHeartbeats 4000000 in
set_option maxRecDepth 100000 in
theorem c_X12_found (l : Launch) (D : va_G) (t : pq_T) (σ : pq_S) (I : Nat → Nat → Int32) (J : Nat → Nat → Int64) (ri : Nat → Nat → Int32) (rj : Nat → Nat → Int64) (rq : Nat → Nat → Option Nat) (sz : Nat) (this : Nat) (a_cell : Int32) (a_i : Int32) (hL_this : this ∈ σ.1) (hK_this : σ.2.1 this = 12) (this_a : Nat) (hR_this_a : σ.2.2.1 384 this = some this_a) (hL_this_a : this_a ∈ σ.1) (hK_this_a : σ.2.1 this_a = 13) (hN_this_a : σ.2.2.2 this_a = 12720) (hF : fm (ri this_a) 0) : MetI l yX12_found (wa yX12_found cX12_found 7 (some .int)) ({ frames := 2, cells := 0, slots := 0, locals := 43 }) [.ref this, .int a_cell, .int a_i] D t σ (I, J, ri, rj, rq) sz 0 0 (fun (r : Int32) (u : pq_S × pq_M) => u = (σ, I, J, ri, rj, rq) ∧ ((r = (-1)))) := by
  refine Met.ofW (cc := cX12_found) (maxL := 7) (ret := (some .int)) (by decide) rfl ?_
  intro p e s m args below meth c s₁ B hml hv
  obtain ⟨rfl, hsz, hP, hK, hD0, hN⟩ := hv
  have hx := B.exec
  have hb := B.bytes
  have hr := B.returns
  have hts := atoms_spec (ws := (wa yX12_found cX12_found 7 (some .int))) B.pre
  have hown : s.vm.findClass RX12 = some m.cls := findClass_of_methodNamed B.named
  have hlocks := B.notSynchronized
  subst hsz
  have hD : va_D (pq_B t σ (I, J, ri, rj, rq) s.heap.size) (pq_P t σ (I, J, ri, rj, rq)) := hD0.self
  generalize hAe : pq_B t σ (I, J, ri, rj, rq) s.heap.size = A at hD ⊢
  have hA : ∀ q : Nat, s.heap.size ≤ q → A q := fun q h => by rw [← hAe]; exact Or.inr h
  have hS : va_S A s.heap s.heap [] := va_S.rf
  have hl := lv_entry ([.ref this, .int a_cell, .int a_i]) (n := 7) (Nat.le_of_ble_eq_true rfl)
  rw [lg_entry_eq]
  generalize (lg_sl ([.ref this, .int a_cell, .int a_i]) ++ List.replicate (7 - (lg_sl ([.ref this, .int a_cell, .int a_i])).length) Slot.unset).toArray = ls at hl ⊢
  have hl : lv_has ls 7 [(0, .ref this), (1, .int a_cell), (2, .int a_i)] := hl
  refine lv_aload_n hx hb dX12_found_0 rfl (lv_at hl 0 rfl) ?_
  refine lv_iload_n hx hb dX12_found_1 rfl (lv_at hl 1 rfl) ?_
  refine pk_i (va_runV (As := [.int a_cell]) (rest := []) ⟨hx, hb, hml, hown, hts⟩ (c_X12_isCell l D t σ I J ri rj rq (Array.size s.heap) this a_cell hL_this hK_this this_a hR_this_a hL_this_a hK_this_a hN_this_a 0 (by decide) hF) (cwV 1 hts (tw_V tw_340 tw_341 tw_342 tw_5 tw_343) rfl rfl rfl (by decide +kernel) ⟨Nat.le_of_ble_eq_true rfl, Nat.le_of_ble_eq_true rfl⟩) ⟨pq_blind, pq_recv hK hP hL_this hK_this (by decide) rfl, pq_pre hK hN hP hD⟩ rfl rfl hl.1 rfl (lv_room (Nat.le_of_ble_eq_true rfl)) dX12_found_2 ⟨Nat.le_of_ble_eq_true rfl, Nat.le_of_ble_eq_true rfl⟩) hD hS hA (fun r_1 σ1 μ1 H locs hw_2 hP hD hS => ?_)
  obtain ⟨hu_3, hr_4⟩ := hw_2
  obtain ⟨hu_3a, hu_3b⟩ := Prod.mk.inj hu_3
  rw [hu_3a, hu_3b] at hP hD
  subst hr_4
  refine lv_if_eq (tgt := 12) hx hb dX12_found_5 (by decide) (fun c_5 => ?_) (fun c_5 => absurd c_5 (by decide))
  refine lv_iconst (v := (-1)) hx hb dX12_found_12 (by decide) ?_
  exact W.iret (v := (-1)) hx hb hr (fun t1 ht hW => ⟨⟨(-1), (σ, I, J, ri, rj, rq), rfl, ⟨rfl, rfl⟩, by rw [ht]; exact hP, va_K.moved hW.alike hK, hD⟩, hS.F ht⟩) hS.2.2 dX12_found_13

set_option maxHeartbeats 4000000 in
set_option maxRecDepth 100000 in
theorem c_X12_force (l : Launch) (D : va_G) (t : pq_T) (σ : pq_S) (I : Nat → Nat → Int32) (J : Nat → Nat → Int64) (ri : Nat → Nat → Int32) (rj : Nat → Nat → Int64) (rq : Nat → Nat → Option Nat) (sz : Nat) (this : Nat) (a_text : Int32) (a_from : Int32) (a_to : Int32) (hL_this : this ∈ σ.1) (hK_this : σ.2.1 this = 12) (this_a : Nat) (hR_this_a : σ.2.2.1 384 this = some this_a) (hL_this_a : this_a ∈ σ.1) (hK_this_a : σ.2.1 this_a = 13) (hN_this_a : σ.2.2.2 this_a = 12720) (hF : fm (ri this_a) 0) : MetI l yX12_force (wa yX12_force cX12_force 5 (some .int)) ({ frames := 1, cells := 0, slots := 0, locals := 22 }) [.ref this, .int a_text, .int a_from, .int a_to] D t σ (I, J, ri, rj, rq) sz 0 0 (fun (r : Int32) (u : pq_S × pq_M) => u = (σ, I, J, ri, rj, rq) ∧ ((r = (-1)))) := by
  refine Met.ofW (cc := cX12_force) (maxL := 5) (ret := (some .int)) (by decide) rfl ?_
  intro p e s m args below meth c s₁ B hml hv
  obtain ⟨rfl, hsz, hP, hK, hD0, hN⟩ := hv
  have hx := B.exec
  have hb := B.bytes
  have hr := B.returns
  have hts := atoms_spec (ws := (wa yX12_force cX12_force 5 (some .int))) B.pre
  have hown : s.vm.findClass RX12 = some m.cls := findClass_of_methodNamed B.named
  have hlocks := B.notSynchronized
  subst hsz
  have hD : va_D (pq_B t σ (I, J, ri, rj, rq) s.heap.size) (pq_P t σ (I, J, ri, rj, rq)) := hD0.self
  generalize hAe : pq_B t σ (I, J, ri, rj, rq) s.heap.size = A at hD ⊢
  have hA : ∀ q : Nat, s.heap.size ≤ q → A q := fun q h => by rw [← hAe]; exact Or.inr h
  have hS : va_S A s.heap s.heap [] := va_S.rf
  have hl := lv_entry ([.ref this, .int a_text, .int a_from, .int a_to]) (n := 5) (Nat.le_of_ble_eq_true rfl)
  rw [lg_entry_eq]
  generalize (lg_sl ([.ref this, .int a_text, .int a_from, .int a_to]) ++ List.replicate (5 - (lg_sl ([.ref this, .int a_text, .int a_from, .int a_to])).length) Slot.unset).toArray = ls at hl ⊢
  have hl : lv_has ls 5 [(0, .ref this), (1, .int a_text), (2, .int a_from), (3, .int a_to)] := hl
  refine lv_iload_n hx hb dX12_force_0 rfl (lv_at hl 1 rfl) ?_
  refine lv_iconst (v := 0) hx hb dX12_force_1 (by decide) ?_
  refine lv_aload_n hx hb dX12_force_2 rfl (lv_at hl 0 rfl) ?_
  refine pg_f (v := .ref this_a) (C := RX12) (T := TX12) (N := 31) hx hb hts (tw_i inlX12) hown hK hP hL_this hK_this (by decide) rfl 0 (by decide) (hts _ (tw_c tw_176)) (pq_hv rfl hR_this_a) dX12_force_3 ?_
  refine lv_bipush (v := 6) hx hb dX12_force_6 (by decide) ?_
  refine pl_i hx hb hK hP hL_this_a hK_this_a hN_this_a (vp_in_iff.mpr (by decide)) dX12_force_8 ?_
  refine lv_tov 0 (fm_at hF 6 (v := 0) (by decide)) ?_
  refine lv_iconst (v := 1) hx hb dX12_force_9 (by decide) ?_
  refine lv_isub hx hb dX12_force_10 ?_
  refine lv_tov (-1) (by decide) ?_
  refine pk_i (va_runS (As := [.int a_text, .int 0, .int (-1)]) (rest := []) ⟨hx, hb, hml, hown, hts⟩ (c_X12_isIn l D t σ I J ri rj rq (Array.size s.heap) a_text (0 : Int32) (-1 : Int32)) (va_cwS 3 hts (tw_S tw_235 tw_236 tw_5 tw_237) rfl rfl rfl (by decide +kernel) ⟨Nat.le_of_ble_eq_true rfl, Nat.le_of_ble_eq_true rfl⟩) ⟨pq_blind, pq_pre hK hN hP hD⟩ rfl rfl hl.1 rfl (lv_room (Nat.le_of_ble_eq_true rfl)) dX12_force_11 ⟨Nat.le_of_ble_eq_true rfl, Nat.le_of_ble_eq_true rfl⟩) hD hS hA (fun r_1 σ1 μ1 H locs hw_2 hP hD hS => ?_)
  obtain ⟨hu_3, hr_4⟩ := hw_2
  obtain ⟨hu_3a, hu_3b⟩ := Prod.mk.inj hu_3
  rw [hu_3a, hu_3b] at hP hD
  rcases hr_4 with ⟨rfl, hr_4_0, hr_4_1⟩ | ⟨rfl, hr_4_0⟩
  · exact (bt_no hr_4_0 hr_4_1 (by decide)).elim
  · refine lv_if_eq (tgt := 56) hx hb dX12_force_14 (by decide) (fun c_5 => ?_) (fun c_5 => absurd c_5 (by decide))
    refine lv_iconst (v := (-1)) hx hb dX12_force_56 (by decide) ?_
    exact W.iret (v := (-1)) hx hb hr (fun t1 ht hW => ⟨⟨(-1), (σ, I, J, ri, rj, rq), rfl, ⟨rfl, rfl⟩, by rw [ht]; exact hP, va_K.moved hW.alike hK, hD⟩, hS.F ht⟩) hS.2.2 dX12_force_57

set_option maxHeartbeats 4000000 in
set_option maxRecDepth 100000 in
theorem c_X12_sinks (l : Launch) (D : va_G) (t : pq_T) (σ : pq_S) (I : Nat → Nat → Int32) (J : Nat → Nat → Int64) (ri : Nat → Nat → Int32) (rj : Nat → Nat → Int64) (rq : Nat → Nat → Option Nat) (sz : Nat) (this : Nat) (a_cell : Int32) (a_rise : Int32) (a_n : Int32) (hL_this : this ∈ σ.1) (hK_this : σ.2.1 this = 12) (this_a : Nat) (hR_this_a : σ.2.2.1 384 this = some this_a) (hL_this_a : this_a ∈ σ.1) (hK_this_a : σ.2.1 this_a = 13) (hN_this_a : σ.2.2.2 this_a = 12720) (hF : fm (ri this_a) 0) : MetI l yX12_sinks (wa yX12_sinks cX12_sinks 6 (some .int)) ({ frames := 2, cells := 0, slots := 0, locals := 43 }) [.ref this, .int a_cell, .int a_rise, .int a_n] D t σ (I, J, ri, rj, rq) sz 0 0 (fun (r : Int32) (u : pq_S × pq_M) => u = (σ, I, J, ri, rj, rq) ∧ ((r = (-1)))) := by
  refine Met.ofW (cc := cX12_sinks) (maxL := 6) (ret := (some .int)) (by decide) rfl ?_
  intro p e s m args below meth c s₁ B hml hv
  obtain ⟨rfl, hsz, hP, hK, hD0, hN⟩ := hv
  have hx := B.exec
  have hb := B.bytes
  have hr := B.returns
  have hts := atoms_spec (ws := (wa yX12_sinks cX12_sinks 6 (some .int))) B.pre
  have hown : s.vm.findClass RX12 = some m.cls := findClass_of_methodNamed B.named
  have hlocks := B.notSynchronized
  subst hsz
  have hD : va_D (pq_B t σ (I, J, ri, rj, rq) s.heap.size) (pq_P t σ (I, J, ri, rj, rq)) := hD0.self
  generalize hAe : pq_B t σ (I, J, ri, rj, rq) s.heap.size = A at hD ⊢
  have hA : ∀ q : Nat, s.heap.size ≤ q → A q := fun q h => by rw [← hAe]; exact Or.inr h
  have hS : va_S A s.heap s.heap [] := va_S.rf
  have hl := lv_entry ([.ref this, .int a_cell, .int a_rise, .int a_n]) (n := 6) (Nat.le_of_ble_eq_true rfl)
  rw [lg_entry_eq]
  generalize (lg_sl ([.ref this, .int a_cell, .int a_rise, .int a_n]) ++ List.replicate (6 - (lg_sl ([.ref this, .int a_cell, .int a_rise, .int a_n])).length) Slot.unset).toArray = ls at hl ⊢
  have hl : lv_has ls 6 [(0, .ref this), (1, .int a_cell), (2, .int a_rise), (3, .int a_n)] := hl
  refine lv_aload_n hx hb dX12_sinks_0 rfl (lv_at hl 0 rfl) ?_
  refine lv_iload_n hx hb dX12_sinks_1 rfl (lv_at hl 1 rfl) ?_
  refine pk_i (va_runV (As := [.int a_cell]) (rest := []) ⟨hx, hb, hml, hown, hts⟩ (c_X12_isCell l D t σ I J ri rj rq (Array.size s.heap) this a_cell hL_this hK_this this_a hR_this_a hL_this_a hK_this_a hN_this_a 0 (by decide) hF) (cwV 1 hts (tw_V tw_340 tw_341 tw_342 tw_5 tw_343) rfl rfl rfl (by decide +kernel) ⟨Nat.le_of_ble_eq_true rfl, Nat.le_of_ble_eq_true rfl⟩) ⟨pq_blind, pq_recv hK hP hL_this hK_this (by decide) rfl, pq_pre hK hN hP hD⟩ rfl rfl hl.1 rfl (lv_room (Nat.le_of_ble_eq_true rfl)) dX12_sinks_2 ⟨Nat.le_of_ble_eq_true rfl, Nat.le_of_ble_eq_true rfl⟩) hD hS hA (fun r_1 σ1 μ1 H locs hw_2 hP hD hS => ?_)
  obtain ⟨hu_3, hr_4⟩ := hw_2
  obtain ⟨hu_3a, hu_3b⟩ := Prod.mk.inj hu_3
  rw [hu_3a, hu_3b] at hP hD
  subst hr_4
  refine lv_if_eq (tgt := 19) hx hb dX12_sinks_5 (by decide) (fun c_5 => ?_) (fun c_5 => absurd c_5 (by decide))
  refine lv_iconst (v := (-1)) hx hb dX12_sinks_19 (by decide) ?_
  exact W.iret (v := (-1)) hx hb hr (fun t1 ht hW => ⟨⟨(-1), (σ, I, J, ri, rj, rq), rfl, ⟨rfl, rfl⟩, by rw [ht]; exact hP, va_K.moved hW.alike hK, hD⟩, hS.F ht⟩) hS.2.2 dX12_sinks_20

set_option maxHeartbeats 4000000 in
set_option maxRecDepth 100000 in
theorem c_X12_keeps (l : Launch) (D : va_G) (t : pq_T) (σ : pq_S) (I : Nat → Nat → Int32) (J : Nat → Nat → Int64) (ri : Nat → Nat → Int32) (rj : Nat → Nat → Int64) (rq : Nat → Nat → Option Nat) (sz : Nat) (this : Nat) (a_wall : Int32) (a_cell : Int32) (a_rise : Int32) (a_n : Int32) (hL_this : this ∈ σ.1) (hK_this : σ.2.1 this = 12) (this_a : Nat) (hR_this_a : σ.2.2.1 384 this = some this_a) (hL_this_a : this_a ∈ σ.1) (hK_this_a : σ.2.1 this_a = 13) (hN_this_a : σ.2.2.2 this_a = 12720) (hF : fm (ri this_a) 0) : MetI l yX12_keeps (wa yX12_keeps cX12_keeps 6 (some .int)) ({ frames := 2, cells := 0, slots := 0, locals := 43 }) [.ref this, .int a_wall, .int a_cell, .int a_rise, .int a_n] D t σ (I, J, ri, rj, rq) sz 0 0 (fun (r : Int32) (u : pq_S × pq_M) => u = (σ, I, J, ri, rj, rq) ∧ ((r = (-1000000)))) := by
  refine Met.ofW (cc := cX12_keeps) (maxL := 6) (ret := (some .int)) (by decide) rfl ?_
  intro p e s m args below meth c s₁ B hml hv
  obtain ⟨rfl, hsz, hP, hK, hD0, hN⟩ := hv
  have hx := B.exec
  have hb := B.bytes
  have hr := B.returns
  have hts := atoms_spec (ws := (wa yX12_keeps cX12_keeps 6 (some .int))) B.pre
  have hown : s.vm.findClass RX12 = some m.cls := findClass_of_methodNamed B.named
  have hlocks := B.notSynchronized
  subst hsz
  have hD : va_D (pq_B t σ (I, J, ri, rj, rq) s.heap.size) (pq_P t σ (I, J, ri, rj, rq)) := hD0.self
  generalize hAe : pq_B t σ (I, J, ri, rj, rq) s.heap.size = A at hD ⊢
  have hA : ∀ q : Nat, s.heap.size ≤ q → A q := fun q h => by rw [← hAe]; exact Or.inr h
  have hS : va_S A s.heap s.heap [] := va_S.rf
  have hl := lv_entry ([.ref this, .int a_wall, .int a_cell, .int a_rise, .int a_n]) (n := 6) (Nat.le_of_ble_eq_true rfl)
  rw [lg_entry_eq]
  generalize (lg_sl ([.ref this, .int a_wall, .int a_cell, .int a_rise, .int a_n]) ++ List.replicate (6 - (lg_sl ([.ref this, .int a_wall, .int a_cell, .int a_rise, .int a_n])).length) Slot.unset).toArray = ls at hl ⊢
  have hl : lv_has ls 6 [(0, .ref this), (1, .int a_wall), (2, .int a_cell), (3, .int a_rise), (4, .int a_n)] := hl
  refine lv_aload_n hx hb dX12_keeps_0 rfl (lv_at hl 0 rfl) ?_
  refine lv_iload_n hx hb dX12_keeps_1 rfl (lv_at hl 1 rfl) ?_
  refine pk_i (va_runV (As := [.int a_wall]) (rest := []) ⟨hx, hb, hml, hown, hts⟩ (c_X12_isCell l D t σ I J ri rj rq (Array.size s.heap) this a_wall hL_this hK_this this_a hR_this_a hL_this_a hK_this_a hN_this_a 0 (by decide) hF) (cwV 1 hts (tw_V tw_340 tw_341 tw_342 tw_5 tw_343) rfl rfl rfl (by decide +kernel) ⟨Nat.le_of_ble_eq_true rfl, Nat.le_of_ble_eq_true rfl⟩) ⟨pq_blind, pq_recv hK hP hL_this hK_this (by decide) rfl, pq_pre hK hN hP hD⟩ rfl rfl hl.1 rfl (lv_room (Nat.le_of_ble_eq_true rfl)) dX12_keeps_2 ⟨Nat.le_of_ble_eq_true rfl, Nat.le_of_ble_eq_true rfl⟩) hD hS hA (fun r_1 σ1 μ1 H locs hw_2 hP hD hS => ?_)
  obtain ⟨hu_3, hr_4⟩ := hw_2
  obtain ⟨hu_3a, hu_3b⟩ := Prod.mk.inj hu_3
  rw [hu_3a, hu_3b] at hP hD
  subst hr_4
  refine lv_if_eq (tgt := 38) hx hb dX12_keeps_5 (by decide) (fun c_5 => ?_) (fun c_5 => absurd c_5 (by decide))
  refine lv_ldc hx hb hown (hts _ (tw_c tw_288)) dX12_keeps_38 ?_
  exact W.iret (v := (-1000000)) hx hb hr (fun t1 ht hW => ⟨⟨(-1000000), (σ, I, J, ri, rj, rq), rfl, ⟨rfl, rfl⟩, by rw [ht]; exact hP, va_K.moved hW.alike hK, hD⟩, hS.F ht⟩) hS.2.2 dX12_keeps_40
