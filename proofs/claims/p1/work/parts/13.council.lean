theorem dX10_decide_0 : decode cX10_decide 0 = .ok (.aload_n 0, 1) := by decide +kernel
theorem dX10_decide_1 : decode cX10_decide 1 = .ok (.getfield 39, 3) := by decide +kernel
theorem tw_1338 : Cond.methodLink RX10 246 yX0_notDead ∈ wsL_law := List.mem_of_getElem? (i := 1338) (by decide +kernel)
theorem tw_1339 : Cond.instanceMethod yX0_notDead ∈ wsL_law := List.mem_of_getElem? (i := 1339) (by decide +kernel)
theorem tw_1340 : Cond.selects RX0 yX0_notDead yX0_notDead ∈ wsL_law := List.mem_of_getElem? (i := 1340) (by decide +kernel)
theorem tw_1341 : Cond.code yX0_notDead cX0_notDead 4 (some .long) ∈ wsL_law := List.mem_of_getElem? (i := 1341) (by decide +kernel)
theorem dX10_decide_4 : decode cX10_decide 4 = .ok (.invokevirtual 246, 3) := by decide +kernel
theorem dX10_decide_7 : decode cX10_decide 7 = .ok (.lstore_n 3, 1) := by decide +kernel
theorem dX10_decide_8 : decode cX10_decide 8 = .ok (.aload_n 0, 1) := by decide +kernel
theorem dX10_decide_9 : decode cX10_decide 9 = .ok (.getfield 46, 3) := by decide +kernel
theorem dX10_decide_12 : decode cX10_decide 12 = .ok (.iconst 1, 1) := by decide +kernel
theorem dX10_decide_13 : decode cX10_decide 13 = .ok (.aload_n 0, 1) := by decide +kernel
theorem dX10_decide_14 : decode cX10_decide 14 = .ok (.getfield 67, 3) := by decide +kernel
theorem dX10_decide_17 : decode cX10_decide 17 = .ok (.aload_n 0, 1) := by decide +kernel
theorem dX10_decide_18 : decode cX10_decide 18 = .ok (.getfield 39, 3) := by decide +kernel
theorem dX10_decide_21 : decode cX10_decide 21 = .ok (.lload_n 3, 1) := by decide +kernel
theorem tw_1166 : Cond.methodLink RX10 142 yX3_whoIsSo ∈ wsL_law := List.mem_of_getElem? (i := 1166) (by decide +kernel)
theorem tw_964 : Cond.instanceMethod yX3_whoIsSo ∈ wsL_law := List.mem_of_getElem? (i := 964) (by decide +kernel)
theorem tw_965 : Cond.selects RX3 yX3_whoIsSo yX3_whoIsSo ∈ wsL_law := List.mem_of_getElem? (i := 965) (by decide +kernel)
theorem tw_966 : Cond.code yX3_whoIsSo cX3_whoIsSo 10 (some .long) ∈ wsL_law := List.mem_of_getElem? (i := 966) (by decide +kernel)
theorem dX10_decide_22 : decode cX10_decide 22 = .ok (.invokevirtual 142, 3) := by decide +kernel
theorem dX10_decide_25 : decode cX10_decide 25 = .ok (.aload_n 0, 1) := by decide +kernel
theorem dX10_decide_26 : decode cX10_decide 26 = .ok (.getfield 46, 3) := by decide +kernel
theorem dX10_decide_29 : decode cX10_decide 29 = .ok (.iconst 3, 1) := by decide +kernel
theorem dX10_decide_30 : decode cX10_decide 30 = .ok (.aload_n 0, 1) := by decide +kernel
theorem dX10_decide_31 : decode cX10_decide 31 = .ok (.getfield 67, 3) := by decide +kernel
theorem dX10_decide_34 : decode cX10_decide 34 = .ok (.aload_n 0, 1) := by decide +kernel
theorem dX10_decide_35 : decode cX10_decide 35 = .ok (.getfield 39, 3) := by decide +kernel
theorem dX10_decide_38 : decode cX10_decide 38 = .ok (.lload_n 3, 1) := by decide +kernel
theorem dX10_decide_39 : decode cX10_decide 39 = .ok (.invokevirtual 142, 3) := by decide +kernel
theorem dX10_decide_42 : decode cX10_decide 42 = .ok (.land, 1) := by decide +kernel
theorem dX10_decide_43 : decode cX10_decide 43 = .ok (.lstore 5, 2) := by decide +kernel
theorem dX10_decide_45 : decode cX10_decide 45 = .ok (.lload 5, 2) := by decide +kernel
theorem dX10_decide_47 : decode cX10_decide 47 = .ok (.lload_n 1, 1) := by decide +kernel
theorem dX10_decide_48 : decode cX10_decide 48 = .ok (.land, 1) := by decide +kernel
theorem tw_1342 : Cond.methodLink RX10 249 yJ13_bitCount_95d88 ∈ wsL_law := List.mem_of_getElem? (i := 1342) (by decide +kernel)
theorem tw_1343 : Cond.static yJ13_bitCount_95d88 ∈ wsL_law := List.mem_of_getElem? (i := 1343) (by decide +kernel)
theorem tw_1344 : Cond.initialized RJ13 ∈ wsL_law := List.mem_of_getElem? (i := 1344) (by decide +kernel)
theorem tw_1345 : Cond.code yJ13_bitCount_95d88 cJ13_bitCount_95d88 2 (some .int) ∈ wsL_law := List.mem_of_getElem? (i := 1345) (by decide +kernel)
theorem dX10_decide_49 : decode cX10_decide 49 = .ok (.invokestatic 249, 3) := by decide +kernel
theorem dX10_decide_52 : decode cX10_decide 52 = .ok (.istore 7, 2) := by decide +kernel
theorem dX10_decide_54 : decode cX10_decide 54 = .ok (.bipush 100, 2) := by decide +kernel
theorem dX10_decide_56 : decode cX10_decide 56 = .ok (.iload 7, 2) := by decide +kernel
theorem dX10_decide_58 : decode cX10_decide 58 = .ok (.imul, 1) := by decide +kernel
theorem dX10_decide_59 : decode cX10_decide 59 = .ok (.aload_n 0, 1) := by decide +kernel
theorem dX10_decide_60 : decode cX10_decide 60 = .ok (.getfield 46, 3) := by decide +kernel
theorem dX10_decide_63 : decode cX10_decide 63 = .ok (.aload_n 0, 1) := by decide +kernel
theorem dX10_decide_64 : decode cX10_decide 64 = .ok (.getfield 67, 3) := by decide +kernel
theorem tw_1349 : Cond.methodLink RX10 255 yX3_councilIn ∈ wsL_law := List.mem_of_getElem? (i := 1349) (by decide +kernel)
theorem tw_992 : Cond.instanceMethod yX3_councilIn ∈ wsL_law := List.mem_of_getElem? (i := 992) (by decide +kernel)
theorem tw_993 : Cond.selects RX3 yX3_councilIn yX3_councilIn ∈ wsL_law := List.mem_of_getElem? (i := 993) (by decide +kernel)
theorem tw_994 : Cond.code yX3_councilIn cX3_councilIn 2 (some .int) ∈ wsL_law := List.mem_of_getElem? (i := 994) (by decide +kernel)
theorem dX10_decide_67 : decode cX10_decide 67 = .ok (.invokevirtual 255, 3) := by decide +kernel
theorem dX10_decide_70 : decode cX10_decide 70 = .ok (.lload 5, 2) := by decide +kernel
theorem dX10_decide_72 : decode cX10_decide 72 = .ok (.invokestatic 249, 3) := by decide +kernel
theorem dX10_decide_75 : decode cX10_decide 75 = .ok (.imul, 1) := by decide +kernel
theorem dX10_decide_76 : decode cX10_decide 76 = .ok (.if_icmp .ge 5, 3) := by decide +kernel
theorem dX10_decide_81 : decode cX10_decide 81 = .ok (.aload_n 0, 1) := by decide +kernel
theorem dX10_decide_82 : decode cX10_decide 82 = .ok (.getfield 39, 3) := by decide +kernel
theorem dX10_decide_85 : decode cX10_decide 85 = .ok (.lload 5, 2) := by decide +kernel
theorem dX10_decide_87 : decode cX10_decide 87 = .ok (.lload_n 1, 1) := by decide +kernel
theorem dX10_decide_88 : decode cX10_decide 88 = .ok (.land, 1) := by decide +kernel
theorem dX10_decide_89 : decode cX10_decide 89 = .ok (.iconst 1, 1) := by decide +kernel
theorem tw_1350 : Cond.methodLink RX10 258 yX0_countVotes ∈ wsL_law := List.mem_of_getElem? (i := 1350) (by decide +kernel)
theorem tw_1351 : Cond.instanceMethod yX0_countVotes ∈ wsL_law := List.mem_of_getElem? (i := 1351) (by decide +kernel)
theorem tw_1352 : Cond.selects RX0 yX0_countVotes yX0_countVotes ∈ wsL_law := List.mem_of_getElem? (i := 1352) (by decide +kernel)
theorem tw_1353 : Cond.code yX0_countVotes cX0_countVotes 6 (some .int) ∈ wsL_law := List.mem_of_getElem? (i := 1353) (by decide +kernel)
theorem dX10_decide_90 : decode cX10_decide 90 = .ok (.invokevirtual 258, 3) := by decide +kernel
theorem dX10_decide_93 : decode cX10_decide 93 = .ok (.aload_n 0, 1) := by decide +kernel
theorem dX10_decide_94 : decode cX10_decide 94 = .ok (.getfield 39, 3) := by decide +kernel
theorem dX10_decide_97 : decode cX10_decide 97 = .ok (.lload 5, 2) := by decide +kernel
theorem dX10_decide_99 : decode cX10_decide 99 = .ok (.lload_n 1, 1) := by decide +kernel
theorem dX10_decide_100 : decode cX10_decide 100 = .ok (.land, 1) := by decide +kernel
theorem dX10_decide_101 : decode cX10_decide 101 = .ok (.iconst 0, 1) := by decide +kernel
theorem dX10_decide_102 : decode cX10_decide 102 = .ok (.invokevirtual 258, 3) := by decide +kernel
theorem dX10_decide_105 : decode cX10_decide 105 = .ok (.if_icmp .le 7, 3) := by decide +kernel
theorem dX10_decide_112 : decode cX10_decide 112 = .ok (.iconst 0, 1) := by decide +kernel
theorem dX10_decide_113 : decode cX10_decide 113 = .ok (.ireturn, 1) := by decide +kernel
set_option maxHeartbeats 4000000 in
set_option maxRecDepth 100000 in
theorem c_X10_decide (l : Launch) (D : va_G) (t : pq_T) (σ : pq_S) (I : Nat → Nat → Int32) (J : Nat → Nat → Int64) (ri : Nat → Nat → Int32) (rj : Nat → Nat → Int64) (rq : Nat → Nat → Option Nat) (sz : Nat) (this : Nat) (hL_this : this ∈ σ.1) (hK_this : σ.2.1 this = 10) (this_folk : Nat) (hR_this_folk : σ.2.2.1 328 this = some this_folk) (hL_this_folk : this_folk ∈ σ.1) (hK_this_folk : σ.2.1 this_folk = 0) (this_law : Nat) (hR_this_law : σ.2.2.1 329 this = some this_law) (hL_this_law : this_law ∈ σ.1) (hK_this_law : σ.2.1 this_law = 3) (hZ : pq_Z I) : MetI l yX10_decide (wa yX10_decide cX10_decide 8 (some .int)) ({ frames := 3, cells := 0, slots := 0, locals := 69 }) [.ref this, .long 0] D t σ (I, J, ri, rj, rq) sz 0 0 (fun (r : Int32) (u : pq_S × pq_M) => u = (σ, I, J, ri, rj, rq) ∧ ((r = 0))) := by
  refine Met.ofW (cc := cX10_decide) (maxL := 8) (ret := (some .int)) (by decide) rfl ?_
  intro p e s m args below meth c s₁ B hml hv
  obtain ⟨rfl, hsz, hP, hK, hD0, hN⟩ := hv
  have hx := B.exec
  have hb := B.bytes
  have hr := B.returns
  have hts := atoms_spec (ws := (wa yX10_decide cX10_decide 8 (some .int))) B.pre
  have hown : s.vm.findClass RX10 = some m.cls := findClass_of_methodNamed B.named
  have hlocks := B.notSynchronized
  subst hsz
  have hD : va_D (pq_B t σ (I, J, ri, rj, rq) s.heap.size) (pq_P t σ (I, J, ri, rj, rq)) := hD0.self
  generalize hAe : pq_B t σ (I, J, ri, rj, rq) s.heap.size = A at hD ⊢
  have hA : ∀ q : Nat, s.heap.size ≤ q → A q := fun q h => by rw [← hAe]; exact Or.inr h
  have hS : va_S A s.heap s.heap [] := va_S.rf
  have hl := lv_entry ([.ref this, .long 0]) (n := 8) (Nat.le_of_ble_eq_true rfl)
  rw [lg_entry_eq]
  generalize (lg_sl ([.ref this, .long 0]) ++ List.replicate (8 - (lg_sl ([.ref this, .long 0])).length) Slot.unset).toArray = ls at hl ⊢
  have hl : lv_has ls 8 [(0, .ref this), (1, .long 0)] := hl
  refine lv_aload_n hx hb dX10_decide_0 rfl (lv_at hl 0 rfl) ?_
  refine pg_f (v := .ref this_folk) (C := RX10) (T := TX10) (N := 13) hx hb hts (tw_i inlX10) hown hK hP hL_this hK_this (by decide) rfl 8 (by decide) (hts _ (tw_c tw_46)) (pq_hv rfl hR_this_folk) dX10_decide_1 ?_
  refine pk_l (va_runV (As := []) (rest := []) ⟨hx, hb, hml, hown, hts⟩ (c_X0_notDead l D t σ I J ri rj rq (Array.size s.heap) this_folk hL_this_folk hK_this_folk hZ) (cwV 0 hts (tw_V tw_1338 tw_1339 tw_1340 tw_45 tw_1341) rfl rfl rfl (by decide +kernel) ⟨Nat.le_of_ble_eq_true rfl, Nat.le_of_ble_eq_true rfl⟩) ⟨pq_blind, pq_recv hK hP hL_this_folk hK_this_folk (by decide) rfl, pq_pre hK hN hP hD⟩ rfl rfl hl.1 rfl (lv_room (Nat.le_of_ble_eq_true rfl)) dX10_decide_4 ⟨Nat.le_of_ble_eq_true rfl, Nat.le_of_ble_eq_true rfl⟩) hD hS hA (fun r_1 σ1 μ1 H locs hw_2 hP hD hS => ?_)
  obtain ⟨hu_3, hr_4⟩ := hw_2
  obtain ⟨hu_3a, hu_3b⟩ := Prod.mk.inj hu_3
  rw [hu_3a, hu_3b] at hP hD
  subst hr_4
  refine lv_lstore_n (lv' := [(3, .long 0), (0, .ref this), (1, .long 0)]) hx hb dX10_decide_7 rfl hl (by decide) rfl (fun ls hl => ?_)
  refine lv_aload_n hx hb dX10_decide_8 rfl (lv_at hl 1 rfl) ?_
  refine pg_f (v := .ref this_law) (C := RX10) (T := TX10) (N := 13) hx hb hts (tw_i inlX10) hown hK hP hL_this hK_this (by decide) rfl 9 (by decide) (hts _ (tw_c tw_50)) (pq_hv rfl hR_this_law) dX10_decide_9 ?_
  refine lv_iconst (v := 1) hx hb dX10_decide_12 (by decide) ?_
  refine lv_aload_n hx hb dX10_decide_13 rfl (lv_at hl 1 rfl) ?_
  refine pg_f (v := .int (I 320 this)) (C := RX10) (T := TX10) (N := 13) hx hb hts (tw_i inlX10) hown hK hP hL_this hK_this (by decide) rfl 0 (by decide) (hts _ (tw_c tw_457)) rfl dX10_decide_14 ?_
  refine lv_aload_n hx hb dX10_decide_17 rfl (lv_at hl 1 rfl) ?_
  refine pg_f (v := .ref this_folk) (C := RX10) (T := TX10) (N := 13) hx hb hts (tw_i inlX10) hown hK hP hL_this hK_this (by decide) rfl 8 (by decide) (hts _ (tw_c tw_46)) (pq_hv rfl hR_this_folk) dX10_decide_18 ?_
  refine lv_lload_n hx hb dX10_decide_21 rfl (lv_at hl 0 rfl) ?_
  refine pk_l (va_runV (As := [.int 1, .int (I 320 this), .ref this_folk, .long 0]) (rest := []) ⟨hx, hb, hml, hown, hts⟩ (c_X3_whoIsSo l D t σ I J ri rj rq H.size this_law (1 : Int32) (I 320 this) this_folk (0 : Int64) hL_this_law hK_this_law hL_this_folk hK_this_folk hZ) (cwV 4 hts (tw_V tw_1166 tw_964 tw_965 tw_49 tw_966) rfl rfl rfl (by decide +kernel) ⟨Nat.le_of_ble_eq_true rfl, Nat.le_of_ble_eq_true rfl⟩) ⟨pq_blind, pq_recv hK hP hL_this_law hK_this_law (by decide) rfl, pq_pre hK hN hP hD⟩ rfl rfl hl.1 rfl (lv_room (Nat.le_of_ble_eq_true rfl)) dX10_decide_22 ⟨Nat.le_of_ble_eq_true rfl, Nat.le_of_ble_eq_true rfl⟩) hD hS hA (fun r_5 σ1 μ1 H locs hw_6 hP hD hS => ?_)
  obtain ⟨hu_7, hr_8⟩ := hw_6
  obtain ⟨hu_7a, hu_7b⟩ := Prod.mk.inj hu_7
  rw [hu_7a, hu_7b] at hP hD
  refine lv_tovl (0 : Int64) hr_8 ?_
  refine lv_aload_n hx hb dX10_decide_25 rfl (lv_at hl 1 rfl) ?_
  refine pg_f (v := .ref this_law) (C := RX10) (T := TX10) (N := 13) hx hb hts (tw_i inlX10) hown hK hP hL_this hK_this (by decide) rfl 9 (by decide) (hts _ (tw_c tw_50)) (pq_hv rfl hR_this_law) dX10_decide_26 ?_
  refine lv_iconst (v := 3) hx hb dX10_decide_29 (by decide) ?_
  refine lv_aload_n hx hb dX10_decide_30 rfl (lv_at hl 1 rfl) ?_
  refine pg_f (v := .int (I 320 this)) (C := RX10) (T := TX10) (N := 13) hx hb hts (tw_i inlX10) hown hK hP hL_this hK_this (by decide) rfl 0 (by decide) (hts _ (tw_c tw_457)) rfl dX10_decide_31 ?_
  refine lv_aload_n hx hb dX10_decide_34 rfl (lv_at hl 1 rfl) ?_
  refine pg_f (v := .ref this_folk) (C := RX10) (T := TX10) (N := 13) hx hb hts (tw_i inlX10) hown hK hP hL_this hK_this (by decide) rfl 8 (by decide) (hts _ (tw_c tw_46)) (pq_hv rfl hR_this_folk) dX10_decide_35 ?_
  refine lv_lload_n hx hb dX10_decide_38 rfl (lv_at hl 0 rfl) ?_
  refine pk_l (va_runV (As := [.int 3, .int (I 320 this), .ref this_folk, .long 0]) (rest := [.long 0]) ⟨hx, hb, hml, hown, hts⟩ (c_X3_whoIsSo l D t σ I J ri rj rq H.size this_law (3 : Int32) (I 320 this) this_folk (0 : Int64) hL_this_law hK_this_law hL_this_folk hK_this_folk hZ) (cwV 4 hts (tw_V tw_1166 tw_964 tw_965 tw_49 tw_966) rfl rfl rfl (by decide +kernel) ⟨Nat.le_of_ble_eq_true rfl, Nat.le_of_ble_eq_true rfl⟩) ⟨pq_blind, pq_recv hK hP hL_this_law hK_this_law (by decide) rfl, pq_pre hK hN hP hD⟩ rfl rfl hl.1 rfl (lv_room (Nat.le_of_ble_eq_true rfl)) dX10_decide_39 ⟨Nat.le_of_ble_eq_true rfl, Nat.le_of_ble_eq_true rfl⟩) hD hS hA (fun r_9 σ1 μ1 H locs hw_10 hP hD hS => ?_)
  obtain ⟨hu_11, hr_12⟩ := hw_10
  obtain ⟨hu_11a, hu_11b⟩ := Prod.mk.inj hu_11
  rw [hu_11a, hu_11b] at hP hD
  refine lv_tovl (0 : Int64) hr_12 ?_
  refine lv_land hx hb dX10_decide_42 ?_
  refine lv_tovl 0 (by decide) ?_
  refine lv_lstore (lv' := [(5, .long 0), (3, .long 0), (0, .ref this), (1, .long 0)]) hx hb dX10_decide_43 hl (by decide) rfl (fun ls hl => ?_)
  refine lv_lload hx hb dX10_decide_45 (lv_at hl 0 rfl) ?_
  refine lv_lload_n hx hb dX10_decide_47 rfl (lv_at hl 3 rfl) ?_
  refine lv_land hx hb dX10_decide_48 ?_
  refine lv_tovl 0 (by decide) ?_
  refine pk_i (va_runS (As := [.long 0]) (rest := []) ⟨hx, hb, hml, hown, hts⟩ (c_J13_bitCount_95d88 l D t σ I J ri rj rq H.size) (va_cwS 1 hts (tw_S tw_1342 tw_1343 tw_1344 tw_1345) rfl rfl rfl (by decide +kernel) ⟨Nat.le_of_ble_eq_true rfl, Nat.le_of_ble_eq_true rfl⟩) ⟨pq_blind, pq_pre hK hN hP hD⟩ rfl rfl hl.1 rfl (lv_room (Nat.le_of_ble_eq_true rfl)) dX10_decide_49 ⟨Nat.le_of_ble_eq_true rfl, Nat.le_of_ble_eq_true rfl⟩) hD hS hA (fun r_13 σ1 μ1 H locs hw_14 hP hD hS => ?_)
  obtain ⟨hu_15, hr_16⟩ := hw_14
  obtain ⟨hu_15a, hu_15b⟩ := Prod.mk.inj hu_15
  rw [hu_15a, hu_15b] at hP hD
  subst hr_16
  refine lv_istore (lv' := [(7, .int 0), (5, .long 0), (3, .long 0), (0, .ref this), (1, .long 0)]) hx hb dX10_decide_52 hl (by decide) rfl (fun ls hl => ?_)
  refine lv_bipush (v := 100) hx hb dX10_decide_54 (by decide) ?_
  refine lv_iload hx hb dX10_decide_56 (lv_at hl 0 rfl) ?_
  refine lv_imul hx hb dX10_decide_58 ?_
  refine lv_tov 0 (by decide) ?_
  refine lv_aload_n hx hb dX10_decide_59 rfl (lv_at hl 3 rfl) ?_
  refine pg_f (v := .ref this_law) (C := RX10) (T := TX10) (N := 13) hx hb hts (tw_i inlX10) hown hK hP hL_this hK_this (by decide) rfl 9 (by decide) (hts _ (tw_c tw_50)) (pq_hv rfl hR_this_law) dX10_decide_60 ?_
  refine lv_aload_n hx hb dX10_decide_63 rfl (lv_at hl 3 rfl) ?_
  refine pg_f (v := .int (I 320 this)) (C := RX10) (T := TX10) (N := 13) hx hb hts (tw_i inlX10) hown hK hP hL_this hK_this (by decide) rfl 0 (by decide) (hts _ (tw_c tw_457)) rfl dX10_decide_64 ?_
  refine pk_i (va_runV (As := [.int (I 320 this)]) (rest := [.int 0]) ⟨hx, hb, hml, hown, hts⟩ (c_X3_councilIn l D t σ I J ri rj rq H.size this_law (I 320 this) hL_this_law hK_this_law hZ) (cwV 1 hts (tw_V tw_1349 tw_992 tw_993 tw_49 tw_994) rfl rfl rfl (by decide +kernel) ⟨Nat.le_of_ble_eq_true rfl, Nat.le_of_ble_eq_true rfl⟩) ⟨pq_blind, pq_recv hK hP hL_this_law hK_this_law (by decide) rfl, pq_pre hK hN hP hD⟩ rfl rfl hl.1 rfl (lv_room (Nat.le_of_ble_eq_true rfl)) dX10_decide_67 ⟨Nat.le_of_ble_eq_true rfl, Nat.le_of_ble_eq_true rfl⟩) hD hS hA (fun r_17 σ1 μ1 H locs hw_18 hP hD hS => ?_)
  obtain ⟨hu_19, hr_20⟩ := hw_18
  obtain ⟨hu_19a, hu_19b⟩ := Prod.mk.inj hu_19
  rw [hu_19a, hu_19b] at hP hD
  subst hr_20
  refine lv_lload hx hb dX10_decide_70 (lv_at hl 1 rfl) ?_
  refine pk_i (va_runS (As := [.long 0]) (rest := [.int 50, .int 0]) ⟨hx, hb, hml, hown, hts⟩ (c_J13_bitCount_95d88 l D t σ I J ri rj rq H.size) (va_cwS 1 hts (tw_S tw_1342 tw_1343 tw_1344 tw_1345) rfl rfl rfl (by decide +kernel) ⟨Nat.le_of_ble_eq_true rfl, Nat.le_of_ble_eq_true rfl⟩) ⟨pq_blind, pq_pre hK hN hP hD⟩ rfl rfl hl.1 rfl (lv_room (Nat.le_of_ble_eq_true rfl)) dX10_decide_72 ⟨Nat.le_of_ble_eq_true rfl, Nat.le_of_ble_eq_true rfl⟩) hD hS hA (fun r_21 σ1 μ1 H locs hw_22 hP hD hS => ?_)
  obtain ⟨hu_23, hr_24⟩ := hw_22
  obtain ⟨hu_23a, hu_23b⟩ := Prod.mk.inj hu_23
  rw [hu_23a, hu_23b] at hP hD
  subst hr_24
  refine lv_imul hx hb dX10_decide_75 ?_
  refine lv_tov 0 (by decide) ?_
  refine lv_icmp_ge (tgt := 81) hx hb dX10_decide_76 (by decide) (fun c_25 => ?_) (fun c_25 => absurd c_25 (by decide))
  refine lv_aload_n hx hb dX10_decide_81 rfl (lv_at hl 3 rfl) ?_
  refine pg_f (v := .ref this_folk) (C := RX10) (T := TX10) (N := 13) hx hb hts (tw_i inlX10) hown hK hP hL_this hK_this (by decide) rfl 8 (by decide) (hts _ (tw_c tw_46)) (pq_hv rfl hR_this_folk) dX10_decide_82 ?_
  refine lv_lload hx hb dX10_decide_85 (lv_at hl 1 rfl) ?_
  refine lv_lload_n hx hb dX10_decide_87 rfl (lv_at hl 4 rfl) ?_
  refine lv_land hx hb dX10_decide_88 ?_
  refine lv_tovl 0 (by decide) ?_
  refine lv_iconst (v := 1) hx hb dX10_decide_89 (by decide) ?_
  refine pk_i (va_runV (As := [.long 0, .int 1]) (rest := []) ⟨hx, hb, hml, hown, hts⟩ (c_X0_countVotes l D t σ I J ri rj rq H.size this_folk (0 : Int64) (1 : Int32) hL_this_folk hK_this_folk hZ) (cwV 2 hts (tw_V tw_1350 tw_1351 tw_1352 tw_45 tw_1353) rfl rfl rfl (by decide +kernel) ⟨Nat.le_of_ble_eq_true rfl, Nat.le_of_ble_eq_true rfl⟩) ⟨pq_blind, pq_recv hK hP hL_this_folk hK_this_folk (by decide) rfl, pq_pre hK hN hP hD⟩ rfl rfl hl.1 rfl (lv_room (Nat.le_of_ble_eq_true rfl)) dX10_decide_90 ⟨Nat.le_of_ble_eq_true rfl, Nat.le_of_ble_eq_true rfl⟩) hD hS hA (fun r_26 σ1 μ1 H locs hw_27 hP hD hS => ?_)
  obtain ⟨hu_28, hr_29⟩ := hw_27
  obtain ⟨hu_28a, hu_28b⟩ := Prod.mk.inj hu_28
  rw [hu_28a, hu_28b] at hP hD
  subst hr_29
  refine lv_aload_n hx hb dX10_decide_93 rfl (lv_at hl 3 rfl) ?_
  refine pg_f (v := .ref this_folk) (C := RX10) (T := TX10) (N := 13) hx hb hts (tw_i inlX10) hown hK hP hL_this hK_this (by decide) rfl 8 (by decide) (hts _ (tw_c tw_46)) (pq_hv rfl hR_this_folk) dX10_decide_94 ?_
  refine lv_lload hx hb dX10_decide_97 (lv_at hl 1 rfl) ?_
  refine lv_lload_n hx hb dX10_decide_99 rfl (lv_at hl 4 rfl) ?_
  refine lv_land hx hb dX10_decide_100 ?_
  refine lv_tovl 0 (by decide) ?_
  refine lv_iconst (v := 0) hx hb dX10_decide_101 (by decide) ?_
  refine pk_i (va_runV (As := [.long 0, .int 0]) (rest := [.int 0]) ⟨hx, hb, hml, hown, hts⟩ (c_X0_countVotes l D t σ I J ri rj rq H.size this_folk (0 : Int64) (0 : Int32) hL_this_folk hK_this_folk hZ) (cwV 2 hts (tw_V tw_1350 tw_1351 tw_1352 tw_45 tw_1353) rfl rfl rfl (by decide +kernel) ⟨Nat.le_of_ble_eq_true rfl, Nat.le_of_ble_eq_true rfl⟩) ⟨pq_blind, pq_recv hK hP hL_this_folk hK_this_folk (by decide) rfl, pq_pre hK hN hP hD⟩ rfl rfl hl.1 rfl (lv_room (Nat.le_of_ble_eq_true rfl)) dX10_decide_102 ⟨Nat.le_of_ble_eq_true rfl, Nat.le_of_ble_eq_true rfl⟩) hD hS hA (fun r_30 σ1 μ1 H locs hw_31 hP hD hS => ?_)
  obtain ⟨hu_32, hr_33⟩ := hw_31
  obtain ⟨hu_32a, hu_32b⟩ := Prod.mk.inj hu_32
  rw [hu_32a, hu_32b] at hP hD
  subst hr_33
  refine lv_icmp_le (tgt := 112) hx hb dX10_decide_105 (by decide) (fun c_34 => ?_) (fun c_34 => absurd c_34 (by decide))
  refine lv_iconst (v := 0) hx hb dX10_decide_112 (by decide) ?_
  exact W.iret (v := 0) hx hb hr (fun t1 ht hW => ⟨⟨0, (σ, I, J, ri, rj, rq), rfl, ⟨rfl, rfl⟩, by rw [ht]; exact hP, va_K.moved hW.alike hK, hD⟩, hS.F ht⟩) hS.2.2 dX10_decide_113
