theorem dX12_stands_0 : decode cX12_stands 0 = .ok (.aload_n 0, 1) := by decide +kernel
theorem dX12_stands_1 : decode cX12_stands 1 = .ok (.iload_n 1, 1) := by decide +kernel
theorem dX12_stands_2 : decode cX12_stands 2 = .ok (.bipush 14, 2) := by decide +kernel
theorem dX12_stands_4 : decode cX12_stands 4 = .ok (.invokevirtual 91, 3) := by decide +kernel
theorem dX12_stands_7 : decode cX12_stands 7 = .ok (.istore_n 2, 1) := by decide +kernel
theorem dX12_stands_8 : decode cX12_stands 8 = .ok (.iload_n 2, 1) := by decide +kernel
theorem dX12_stands_9 : decode cX12_stands 9 = .ok (.ifCond .ge 5, 3) := by decide +kernel
theorem dX12_stands_14 : decode cX12_stands 14 = .ok (.aload_n 0, 1) := by decide +kernel
theorem dX12_stands_15 : decode cX12_stands 15 = .ok (.getfield 7, 3) := by decide +kernel
theorem dX12_stands_18 : decode cX12_stands 18 = .ok (.iconst 0, 1) := by decide +kernel
theorem dX12_stands_19 : decode cX12_stands 19 = .ok (.iaload, 1) := by decide +kernel
theorem dX12_stands_56 : decode cX12_stands 56 = .ok (.iconst 1, 1) := by decide +kernel
theorem dX12_stands_57 : decode cX12_stands 57 = .ok (.goto 4, 3) := by decide +kernel
theorem dX12_stands_61 : decode cX12_stands 61 = .ok (.ireturn, 1) := by decide +kernel
theorem dX12_stands_20 : decode cX12_stands 20 = .ok (.ifCond .eq 36, 3) := by decide +kernel
theorem dX12_stands_23 : decode cX12_stands 23 = .ok (.aload_n 0, 1) := by decide +kernel
theorem dX12_stands_24 : decode cX12_stands 24 = .ok (.iload_n 1, 1) := by decide +kernel
theorem dX12_stands_25 : decode cX12_stands 25 = .ok (.bipush 12, 2) := by decide +kernel
theorem dX12_stands_27 : decode cX12_stands 27 = .ok (.invokevirtual 91, 3) := by decide +kernel
theorem dX12_stands_30 : decode cX12_stands 30 = .ok (.iconst 1, 1) := by decide +kernel
theorem dX12_stands_31 : decode cX12_stands 31 = .ok (.if_icmp .eq 25, 3) := by decide +kernel
theorem dX12_stands_34 : decode cX12_stands 34 = .ok (.aload_n 0, 1) := by decide +kernel
theorem dX12_stands_35 : decode cX12_stands 35 = .ok (.iconst 1, 1) := by decide +kernel
theorem dX12_stands_36 : decode cX12_stands 36 = .ok (.iload_n 2, 1) := by decide +kernel
theorem dX12_stands_37 : decode cX12_stands 37 = .ok (.aload_n 0, 1) := by decide +kernel
theorem dX12_stands_38 : decode cX12_stands 38 = .ok (.getfield 7, 3) := by decide +kernel
theorem dX12_stands_41 : decode cX12_stands 41 = .ok (.iconst 0, 1) := by decide +kernel
theorem dX12_stands_42 : decode cX12_stands 42 = .ok (.iaload, 1) := by decide +kernel
theorem dX12_stands_43 : decode cX12_stands 43 = .ok (.aload_n 0, 1) := by decide +kernel
theorem dX12_stands_44 : decode cX12_stands 44 = .ok (.iload_n 1, 1) := by decide +kernel
theorem dX12_stands_45 : decode cX12_stands 45 = .ok (.bipush 11, 2) := by decide +kernel
theorem dX12_stands_47 : decode cX12_stands 47 = .ok (.invokevirtual 91, 3) := by decide +kernel
theorem tw_597 : Cond.methodLink RX12 120 yX12_firstSo ∈ wsL_law := List.mem_of_getElem? (i := 597) (by decide +kernel)
theorem tw_598 : Cond.instanceMethod yX12_firstSo ∈ wsL_law := List.mem_of_getElem? (i := 598) (by decide +kernel)
theorem tw_599 : Cond.selects RX12 yX12_firstSo yX12_firstSo ∈ wsL_law := List.mem_of_getElem? (i := 599) (by decide +kernel)
theorem tw_600 : Cond.code yX12_firstSo cX12_firstSo 7 (some .int) ∈ wsL_law := List.mem_of_getElem? (i := 600) (by decide +kernel)
theorem dX12_stands_50 : decode cX12_stands 50 = .ok (.invokevirtual 120, 3) := by decide +kernel
theorem dX12_stands_53 : decode cX12_stands 53 = .ok (.ifCond .lt 7, 3) := by decide +kernel
theorem dX12_stands_60 : decode cX12_stands 60 = .ok (.iconst 0, 1) := by decide +kernel
theorem dX12_stands_12 : decode cX12_stands 12 = .ok (.iconst 0, 1) := by decide +kernel
theorem dX12_stands_13 : decode cX12_stands 13 = .ok (.ireturn, 1) := by decide +kernel
theorem dX12_titleOf_0 : decode cX12_titleOf 0 = .ok (.aload_n 0, 1) := by decide +kernel
theorem dX12_titleOf_1 : decode cX12_titleOf 1 = .ok (.iload_n 1, 1) := by decide +kernel
theorem dX12_titleOf_2 : decode cX12_titleOf 2 = .ok (.invokevirtual 88, 3) := by decide +kernel
theorem dX12_titleOf_17 : decode cX12_titleOf 17 = .ok (.iconst (-1), 1) := by decide +kernel
theorem dX12_titleOf_18 : decode cX12_titleOf 18 = .ok (.ireturn, 1) := by decide +kernel
theorem dX12_titleOf_5 : decode cX12_titleOf 5 = .ok (.ifCond .eq 12, 3) := by decide +kernel
theorem dX12_titleOf_8 : decode cX12_titleOf 8 = .ok (.iload_n 2, 1) := by decide +kernel
theorem dX12_titleOf_9 : decode cX12_titleOf 9 = .ok (.iconst 0, 1) := by decide +kernel
theorem dX12_titleOf_10 : decode cX12_titleOf 10 = .ok (.iconst 1, 1) := by decide +kernel
theorem dX12_titleOf_11 : decode cX12_titleOf 11 = .ok (.invokestatic 62, 3) := by decide +kernel
theorem dX12_titleOf_14 : decode cX12_titleOf 14 = .ok (.ifCond .ne 5, 3) := by decide +kernel
theorem dX12_titleOf_19 : decode cX12_titleOf 19 = .ok (.iload_n 2, 1) := by decide +kernel
theorem dX12_titleOf_20 : decode cX12_titleOf 20 = .ok (.ifCond .ne 13, 3) := by decide +kernel
theorem dX12_titleOf_33 : decode cX12_titleOf 33 = .ok (.aload_n 0, 1) := by decide +kernel
theorem dX12_titleOf_34 : decode cX12_titleOf 34 = .ok (.iload_n 1, 1) := by decide +kernel
theorem tw_593 : Cond.methodLink RX12 124 yX12_stands ∈ wsL_law := List.mem_of_getElem? (i := 593) (by decide +kernel)
theorem tw_594 : Cond.instanceMethod yX12_stands ∈ wsL_law := List.mem_of_getElem? (i := 594) (by decide +kernel)
theorem tw_595 : Cond.selects RX12 yX12_stands yX12_stands ∈ wsL_law := List.mem_of_getElem? (i := 595) (by decide +kernel)
theorem tw_596 : Cond.code yX12_stands cX12_stands 3 (some .boolean) ∈ wsL_law := List.mem_of_getElem? (i := 596) (by decide +kernel)
theorem dX12_titleOf_35 : decode cX12_titleOf 35 = .ok (.invokevirtual 124, 3) := by decide +kernel
theorem dX12_titleOf_38 : decode cX12_titleOf 38 = .ok (.ifCond .eq 7, 3) := by decide +kernel
theorem dX12_titleOf_45 : decode cX12_titleOf 45 = .ok (.iconst 0, 1) := by decide +kernel
theorem dX12_titleOf_46 : decode cX12_titleOf 46 = .ok (.ireturn, 1) := by decide +kernel
theorem dX12_titleOf_41 : decode cX12_titleOf 41 = .ok (.iconst 1, 1) := by decide +kernel
theorem dX12_titleOf_42 : decode cX12_titleOf 42 = .ok (.goto 4, 3) := by decide +kernel
theorem dX12_titleOf_23 : decode cX12_titleOf 23 = .ok (.aload_n 0, 1) := by decide +kernel
theorem dX12_titleOf_24 : decode cX12_titleOf 24 = .ok (.iload_n 1, 1) := by decide +kernel
theorem dX12_titleOf_25 : decode cX12_titleOf 25 = .ok (.bipush 14, 2) := by decide +kernel
theorem dX12_titleOf_27 : decode cX12_titleOf 27 = .ok (.invokevirtual 91, 3) := by decide +kernel
theorem dX12_titleOf_30 : decode cX12_titleOf 30 = .ok (.goto 16, 3) := by decide +kernel
theorem dX12_four_0 : decode cX12_four 0 = .ok (.bipush 24, 2) := by decide +kernel
theorem dX12_four_2 : decode cX12_four 2 = .ok (.istore_n 2, 1) := by decide +kernel
theorem dX12_four_3 : decode cX12_four 3 = .ok (.iload_n 2, 1) := by decide +kernel
theorem dX12_four_4 : decode cX12_four 4 = .ok (.ifCond .lt 35, 3) := by decide +kernel
theorem dX12_four_39 : decode cX12_four 39 = .ok (.return_, 1) := by decide +kernel
theorem dX12_four_7 : decode cX12_four 7 = .ok (.aload_n 0, 1) := by decide +kernel
theorem dX12_four_8 : decode cX12_four 8 = .ok (.getfield 19, 3) := by decide +kernel
theorem dX12_four_11 : decode cX12_four 11 = .ok (.aload_n 0, 1) := by decide +kernel
theorem dX12_four_12 : decode cX12_four 12 = .ok (.getfield 127, 3) := by decide +kernel
theorem dX12_four_15 : decode cX12_four 15 = .ok (.iload_n 1, 1) := by decide +kernel
theorem dX12_four_16 : decode cX12_four 16 = .ok (.iload_n 2, 1) := by decide +kernel
theorem dX12_four_17 : decode cX12_four 17 = .ok (.ishr, 1) := by decide +kernel
theorem dX12_four_18 : decode cX12_four 18 = .ok (.sipush 255, 3) := by decide +kernel
theorem dX12_four_21 : decode cX12_four 21 = .ok (.iand, 1) := by decide +kernel
theorem dX12_four_22 : decode cX12_four 22 = .ok (.iastore, 1) := by decide +kernel
theorem dX12_four_23 : decode cX12_four 23 = .ok (.aload_n 0, 1) := by decide +kernel
theorem dX12_four_24 : decode cX12_four 24 = .ok (.dup, 1) := by decide +kernel
theorem dX12_four_25 : decode cX12_four 25 = .ok (.getfield 127, 3) := by decide +kernel
theorem dX12_four_28 : decode cX12_four 28 = .ok (.iconst 1, 1) := by decide +kernel
theorem dX12_four_29 : decode cX12_four 29 = .ok (.iadd, 1) := by decide +kernel
theorem dX12_four_30 : decode cX12_four 30 = .ok (.putfield 127, 3) := by decide +kernel
theorem dX12_four_33 : decode cX12_four 33 = .ok (.iinc 2 (-8), 3) := by decide +kernel
theorem dX12_four_36 : decode cX12_four 36 = .ok (.goto (-33), 3) := by decide +kernel
theorem dX12_feed_0 : decode cX12_feed 0 = .ok (.aload_n 0, 1) := by decide +kernel
theorem dX12_feed_1 : decode cX12_feed 1 = .ok (.getfield 127, 3) := by decide +kernel
theorem dX12_feed_4 : decode cX12_feed 4 = .ok (.bipush 20, 2) := by decide +kernel
theorem dX12_feed_6 : decode cX12_feed 6 = .ok (.iadd, 1) := by decide +kernel
theorem dX12_feed_7 : decode cX12_feed 7 = .ok (.sipush 300, 3) := by decide +kernel
theorem dX12_feed_10 : decode cX12_feed 10 = .ok (.if_icmp .le 5, 3) := by decide +kernel
theorem dX12_feed_15 : decode cX12_feed 15 = .ok (.aload_n 0, 1) := by decide +kernel
theorem dX12_feed_16 : decode cX12_feed 16 = .ok (.iload_n 1, 1) := by decide +kernel
theorem tw_632 : Cond.methodLink RX12 130 yX12_four ∈ wsL_law := List.mem_of_getElem? (i := 632) (by decide +kernel)
theorem tw_633 : Cond.instanceMethod yX12_four ∈ wsL_law := List.mem_of_getElem? (i := 633) (by decide +kernel)
theorem tw_634 : Cond.selects RX12 yX12_four yX12_four ∈ wsL_law := List.mem_of_getElem? (i := 634) (by decide +kernel)
theorem tw_635 : Cond.code yX12_four cX12_four 3 none ∈ wsL_law := List.mem_of_getElem? (i := 635) (by decide +kernel)
theorem dX12_feed_17 : decode cX12_feed 17 = .ok (.invokevirtual 130, 3) := by decide +kernel
theorem dX12_feed_20 : decode cX12_feed 20 = .ok (.aload_n 0, 1) := by decide +kernel
theorem dX12_feed_21 : decode cX12_feed 21 = .ok (.iload_n 2, 1) := by decide +kernel
theorem dX12_feed_22 : decode cX12_feed 22 = .ok (.invokevirtual 130, 3) := by decide +kernel
theorem dX12_feed_25 : decode cX12_feed 25 = .ok (.aload_n 0, 1) := by decide +kernel
theorem dX12_feed_26 : decode cX12_feed 26 = .ok (.iload_n 3, 1) := by decide +kernel
theorem dX12_feed_27 : decode cX12_feed 27 = .ok (.invokevirtual 130, 3) := by decide +kernel
theorem dX12_feed_30 : decode cX12_feed 30 = .ok (.aload_n 0, 1) := by decide +kernel
theorem dX12_feed_31 : decode cX12_feed 31 = .ok (.iload 4, 2) := by decide +kernel
theorem dX12_feed_33 : decode cX12_feed 33 = .ok (.invokevirtual 130, 3) := by decide +kernel
theorem dX12_feed_36 : decode cX12_feed 36 = .ok (.aload_n 0, 1) := by decide +kernel
theorem dX12_feed_37 : decode cX12_feed 37 = .ok (.iload 5, 2) := by decide +kernel
theorem dX12_feed_39 : decode cX12_feed 39 = .ok (.invokevirtual 130, 3) := by decide +kernel
theorem dX12_feed_42 : decode cX12_feed 42 = .ok (.aload_n 0, 1) := by decide +kernel
theorem dX12_feed_43 : decode cX12_feed 43 = .ok (.getfield 127, 3) := by decide +kernel
theorem dX12_feed_46 : decode cX12_feed 46 = .ok (.ireturn, 1) := by decide +kernel
theorem dX12_feed_13 : decode cX12_feed 13 = .ok (.iconst (-1), 1) := by decide +kernel
theorem dX12_feed_14 : decode cX12_feed 14 = .ok (.ireturn, 1) := by decide +kernel
theorem dX12_end_0 : decode cX12_end 0 = .ok (.iload_n 1, 1) := by decide +kernel
theorem dX12_end_1 : decode cX12_end 1 = .ok (.iconst 0, 1) := by decide +kernel
theorem dX12_end_2 : decode cX12_end 2 = .ok (.aload_n 0, 1) := by decide +kernel
theorem dX12_end_3 : decode cX12_end 3 = .ok (.getfield 127, 3) := by decide +kernel
theorem dX12_end_6 : decode cX12_end 6 = .ok (.invokestatic 62, 3) := by decide +kernel
theorem dX12_end_9 : decode cX12_end 9 = .ok (.ifCond .ne 5, 3) := by decide +kernel
theorem dX12_end_14 : decode cX12_end 14 = .ok (.aload_n 0, 1) := by decide +kernel
theorem dX12_end_15 : decode cX12_end 15 = .ok (.iload_n 1, 1) := by decide +kernel
theorem dX12_end_16 : decode cX12_end 16 = .ok (.putfield 127, 3) := by decide +kernel
theorem dX12_end_19 : decode cX12_end 19 = .ok (.iload_n 1, 1) := by decide +kernel
theorem dX12_end_20 : decode cX12_end 20 = .ok (.ireturn, 1) := by decide +kernel
theorem dX12_end_12 : decode cX12_end 12 = .ok (.iconst (-1), 1) := by decide +kernel
theorem dX12_end_13 : decode cX12_end 13 = .ok (.ireturn, 1) := by decide +kernel
set_option maxHeartbeats 4000000 in
set_option maxRecDepth 100000 in
theorem s_X12_stands (l : Launch) (D : va_G) (t : pq_T) (σ : pq_S) (I : Nat → Nat → Int32) (J : Nat → Nat → Int64) (ri : Nat → Nat → Int32) (rj : Nat → Nat → Int64) (rq : Nat → Nat → Option Nat) (sz : Nat) (tg : Nat → Nat) (hSH : SH σ tg) (hG0 : GT tg I ri) (this : Nat) (a0 : Int32) (hL_this : this ∈ σ.1) (hK_this : σ.2.1 this = 12) (h_a0 : rg a0 0 39) : MetI l yX12_stands (wa yX12_stands cX12_stands 3 (some .boolean)) ({ frames := 4, cells := 0, slots := 0, locals := 102 }) [.ref this, .int a0] D t σ (I, J, ri, rj, rq) sz 0 0 (fun (r : Int32) (u : pq_S × pq_M) => ∃ ri' : Nat → Nat → Int32, ∃ rj' : Nat → Nat → Int64, u = (σ, I, J, ri', rj', rq) ∧ GM [] tg σ I ri I ri' rq ∧ ((r = 1 ∧ True) ∨ (r = 0 ∧ True))) := by
  refine Met.ofW (cc := cX12_stands) (maxL := 3) (ret := (some .boolean)) (by decide) rfl ?_
  intro p e s m args below meth c s₁ B hml hv
  obtain ⟨rfl, hsz, hP, hK, hD0, hN⟩ := hv
  have hx := B.exec
  have hb := B.bytes
  have hr := B.returns
  have hts := atoms_spec (ws := (wa yX12_stands cX12_stands 3 (some .boolean))) B.pre
  have hown : s.vm.findClass RX12 = some m.cls := findClass_of_methodNamed B.named
  have hlocks := B.notSynchronized
  subst hsz
  have hD : va_D (pq_B t σ (I, J, ri, rj, rq) s.heap.size) (pq_P t σ (I, J, ri, rj, rq)) := hD0.self
  generalize hAe : pq_B t σ (I, J, ri, rj, rq) s.heap.size = A at hD ⊢
  have hA : ∀ q : Nat, s.heap.size ≤ q → A q := fun q h => by rw [← hAe]; exact Or.inr h
  have hS : va_S A s.heap s.heap [] := va_S.rf
  have hG : GM [] tg σ I ri I ri rq := ⟨hG0, fun _ _ _ => rfl, fun _ _ _ _ _ => rfl, fun _ _ _ _ _ _ => rfl⟩
  have hl := lv_entry ([.ref this, .int a0]) (n := 3) (Nat.le_of_ble_eq_true rfl)
  rw [lg_entry_eq]
  generalize (lg_sl ([.ref this, .int a0]) ++ List.replicate (3 - (lg_sl ([.ref this, .int a0])).length) Slot.unset).toArray = ls at hl ⊢
  have hl : lv_has ls 3 [(0, .ref this), (1, .int a0)] := hl
  refine q_gen (fun Q hQ => ?_)
  have go : ∀ (H : Heap) (locs : List Loc) (ls : Array Slot), va_P D vwCl (pq_P t σ (I, J, ri, rj, rq)) H → va_D A (pq_P t σ (I, J, ri, rj, rq)) → va_S A s.heap H locs → lv_has ls 3 [(0, .ref this), (1, .int a0)] → W p l e ({ frames := 4, cells := 0, slots := 0, locals := 102 } : Room) s m (List.toArray ([.ref this, .int a0] : List Value)) below meth c H locs 0 0 Q (F0 m 0 ls []) := by
    intro H locs ls hP hD hS hl
    refine lv_aload_n hx hb dX12_stands_0 rfl (lv_at hl 0 rfl) ?_
    refine lv_iload_n hx hb dX12_stands_1 rfl (lv_at hl 1 rfl) ?_
    refine lv_bipush (v := 14) hx hb dX12_stands_2 (by decide) ?_
    refine pk_i (va_runV (As := [.int a0, .int 14]) (rest := []) ⟨hx, hb, hml, hown, hts⟩ (s_X12_cellAt_c14 l D t σ I J ri rj rq H.size tg hSH hG.1 this a0 hL_this hK_this (rg_w h_a0 (by decide))) (cwV 2 hts (tw_V tw_361 tw_362 tw_363 tw_5 tw_364) rfl rfl rfl (by decide +kernel) ⟨Nat.le_of_ble_eq_true rfl, Nat.le_of_ble_eq_true rfl⟩) ⟨pq_blind, pq_recv hK hP hL_this hK_this (by decide) rfl, pq_pre hK hN hP hD⟩ rfl rfl hl.1 rfl (lv_room (Nat.le_of_ble_eq_true rfl)) dX12_stands_4 ⟨Nat.le_of_ble_eq_true rfl, Nat.le_of_ble_eq_true rfl⟩) hD hS hA (fun x_1 σ1 μ1 H locs hw_2 hP hD hS => ?_)
    obtain ⟨hu_3, hr_5⟩ := hw_2
    obtain ⟨hu_3a, hu_3b⟩ := Prod.mk.inj hu_3
    rw [hu_3a, hu_3b] at hP hD
    refine lv_istore_n (lv' := [(2, .int x_1), (0, .ref this), (1, .int a0)]) hx hb dX12_stands_7 rfl hl (by decide) rfl (fun ls hl => ?_)
    refine lv_iload_n hx hb dX12_stands_8 rfl (lv_at hl 0 rfl) ?_
    refine lv_if_ge (tgt := 14) hx hb dX12_stands_9 (by decide) (fun c_6 => ?_) (fun c_6 => ?_)
    · have tc_7 : 0 ≤ (x_1).toInt := Int32.le_iff_toInt_le.mp c_6
      have h_8 : rg x_1 0 39 := rg_le2 c_6 (rg_k (0 : Int32) 0 rfl) hr_5 (by decide)
      have uh_8 := h_8.1
      have vh_8 := h_8.2
      refine lv_aload_n hx hb dX12_stands_14 rfl (lv_at hl 1 rfl) ?_
      obtain ⟨w_9, hR_w_9, hL_w_9, hK_w_9, hN_w_9, hT_w_9⟩ := sh_a hSH 384 (ci := 12) (kd := 13) (len := 12720) rfl (by decide) hL_this hK_this
      refine pg_f (v := .ref w_9) (C := RX12) (T := TX12) (N := 31) hx hb hts (tw_i inlX12) hown hK hP hL_this hK_this (by decide) rfl 0 (by decide) (hts _ (tw_c tw_176)) (pq_hv rfl hR_w_9) dX12_stands_15 ?_
      refine lv_iconst (v := 0) hx hb dX12_stands_18 (by decide) ?_
      refine pl_i hx hb hK hP hL_w_9 hK_w_9 hN_w_9 (vp_in_iff.mpr (by decide)) dX12_stands_19 ?_
      refine lv_tov (ri w_9 0) rfl ?_
      have h_10 : rg (ri w_9 0) 0 600 := GM.z0 hG0 (by rw [hT_w_9]; decide) (i := 0) (k := 0) (by decide) rfl
      have uh_10 := h_10.1
      have vh_10 := h_10.2
      have K_45 : ∀  (ri_43 : Nat → Nat → Int32) (rj_44 : Nat → Nat → Int64) (H : Heap) (locs : List Loc) (ls : Array Slot), GM [] tg σ I ri I ri_43 rq → va_P D vwCl (pq_P t σ (I, J, ri_43, rj_44, rq)) H → va_D A (pq_P t σ (I, J, ri_43, rj_44, rq)) → va_S A s.heap H locs → lv_has ls 3 [] → W p l e ({ frames := 4, cells := 0, slots := 0, locals := 102 } : Room) s m (List.toArray ([.ref this, .int a0] : List Value)) below meth c H locs 0 0 Q (F0 m 56 ls []) := by
        intro ri_43 rj_44 H locs ls hG hP hD hS hl
        refine lv_iconst (v := 1) hx hb dX12_stands_56 (by decide) ?_
        refine lv_goto (tgt := 61) hx hb dX12_stands_57 (by decide) ?_
        subst hQ
        exact W.zret (v := 1) hx hb hr (by decide) (fun t1 ht hW => ⟨⟨1, (σ, I, J, ri_43, rj_44, rq), rfl, ⟨ri_43, rj_44, rfl, hG, (Or.inl ⟨rfl, trivial⟩)⟩, by rw [ht]; exact hP, va_K.moved hW.alike hK, hD⟩, hS.F ht⟩) hS.2.2 dX12_stands_61
      refine lv_if_eq (tgt := 56) hx hb dX12_stands_20 (by decide) (fun c_46 => ?_) (fun c_46 => ?_)
      · have tc_47 : (ri w_9 0).toInt = 0 := congrArg Int32.toInt c_46
        have h_48 : rg (ri w_9 0) 0 0 := rg_and h_10 (rg_of_eq c_46 (rg_k (0 : Int32) 0 rfl)) (by decide)
        have uh_48 := h_48.1
        have vh_48 := h_48.2
        exact K_45 ri rj _ _ _ hG hP hD hS (lv_sub hl [] rfl)
      · have tc_49 : (ri w_9 0).toInt ≠ 0 := fun q => c_46 (Int32.toInt_inj.mp q)
        have h_50 : rg (ri w_9 0) 1 600 := rg_ne c_46 h_10 0 rfl (by decide)
        have uh_50 := h_50.1
        have vh_50 := h_50.2
        refine lv_aload_n hx hb dX12_stands_23 rfl (lv_at hl 1 rfl) ?_
        refine lv_iload_n hx hb dX12_stands_24 rfl (lv_at hl 2 rfl) ?_
        refine lv_bipush (v := 12) hx hb dX12_stands_25 (by decide) ?_
        refine pk_i (va_runV (As := [.int a0, .int 12]) (rest := []) ⟨hx, hb, hml, hown, hts⟩ (s_X12_cellAt_c12 l D t σ I J ri rj rq H.size tg hSH hG.1 this a0 hL_this hK_this (rg_w h_a0 (by decide))) (cwV 2 hts (tw_V tw_361 tw_362 tw_363 tw_5 tw_364) rfl rfl rfl (by decide +kernel) ⟨Nat.le_of_ble_eq_true rfl, Nat.le_of_ble_eq_true rfl⟩) ⟨pq_blind, pq_recv hK hP hL_this hK_this (by decide) rfl, pq_pre hK hN hP hD⟩ rfl rfl hl.1 rfl (lv_room (Nat.le_of_ble_eq_true rfl)) dX12_stands_27 ⟨Nat.le_of_ble_eq_true rfl, Nat.le_of_ble_eq_true rfl⟩) hD hS hA (fun x_51 σ1 μ1 H locs hw_52 hP hD hS => ?_)
        have hu_53 := hw_52
        obtain ⟨hu_53a, hu_53b⟩ := Prod.mk.inj hu_53
        rw [hu_53a, hu_53b] at hP hD
        refine lv_iconst (v := 1) hx hb dX12_stands_30 (by decide) ?_
        refine lv_icmp_eq (tgt := 56) hx hb dX12_stands_31 (by decide) (fun c_56 => ?_) (fun c_56 => ?_)
        · have tc_57 : (x_51).toInt = 1 := congrArg Int32.toInt c_56
          have h_58 : rg x_51 1 1 := rg_and (rg_full _) (rg_of_eq c_56 (rg_k (1 : Int32) 1 rfl)) (by decide)
          have uh_58 := h_58.1
          have vh_58 := h_58.2
          exact K_45 ri rj _ _ _ hG hP hD hS (lv_sub hl [] rfl)
        · have tc_59 : (x_51).toInt ≠ 1 := fun q => c_56 (Int32.toInt_inj.mp q)
          refine lv_aload_n hx hb dX12_stands_34 rfl (lv_at hl 1 rfl) ?_
          refine lv_iconst (v := 1) hx hb dX12_stands_35 (by decide) ?_
          refine lv_iload_n hx hb dX12_stands_36 rfl (lv_at hl 0 rfl) ?_
          refine lv_aload_n hx hb dX12_stands_37 rfl (lv_at hl 1 rfl) ?_
          refine pg_f (v := .ref w_9) (C := RX12) (T := TX12) (N := 31) hx hb hts (tw_i inlX12) hown hK hP hL_this hK_this (by decide) rfl 0 (by decide) (hts _ (tw_c tw_176)) (pq_hv rfl hR_w_9) dX12_stands_38 ?_
          refine lv_iconst (v := 0) hx hb dX12_stands_41 (by decide) ?_
          refine pl_i hx hb hK hP hL_w_9 hK_w_9 hN_w_9 (vp_in_iff.mpr (by decide)) dX12_stands_42 ?_
          refine lv_tov (ri w_9 0) rfl ?_
          refine lv_aload_n hx hb dX12_stands_43 rfl (lv_at hl 1 rfl) ?_
          refine lv_iload_n hx hb dX12_stands_44 rfl (lv_at hl 2 rfl) ?_
          refine lv_bipush (v := 11) hx hb dX12_stands_45 (by decide) ?_
          refine pk_i (va_runV (As := [.int a0, .int 11]) (rest := [.int (ri w_9 0), .int x_1, .int 1, .ref this]) ⟨hx, hb, hml, hown, hts⟩ (s_X12_cellAt_c11 l D t σ I J ri rj rq H.size tg hSH hG.1 this a0 hL_this hK_this (rg_w h_a0 (by decide))) (cwV 2 hts (tw_V tw_361 tw_362 tw_363 tw_5 tw_364) rfl rfl rfl (by decide +kernel) ⟨Nat.le_of_ble_eq_true rfl, Nat.le_of_ble_eq_true rfl⟩) ⟨pq_blind, pq_recv hK hP hL_this hK_this (by decide) rfl, pq_pre hK hN hP hD⟩ rfl rfl hl.1 rfl (lv_room (Nat.le_of_ble_eq_true rfl)) dX12_stands_47 ⟨Nat.le_of_ble_eq_true rfl, Nat.le_of_ble_eq_true rfl⟩) hD hS hA (fun x_60 σ1 μ1 H locs hw_61 hP hD hS => ?_)
          have hu_62 := hw_61
          obtain ⟨hu_62a, hu_62b⟩ := Prod.mk.inj hu_62
          rw [hu_62a, hu_62b] at hP hD
          refine pk_i (va_runV (As := [.int 1, .int x_1, .int (ri w_9 0), .int x_60]) (rest := []) ⟨hx, hb, hml, hown, hts⟩ (s_X12_firstSo l D t σ I J ri rj rq H.size tg hSH hG.1 this (1 : Int32) x_1 (ri w_9 0) x_60 hL_this hK_this (rg_w (rg_k (1 : Int32) 1 rfl) (by decide)) (rg_w h_8 (by decide)) w_9 hR_w_9 hL_w_9 hK_w_9 hN_w_9 hT_w_9) (cwV 4 hts (tw_V tw_597 tw_598 tw_599 tw_5 tw_600) rfl rfl rfl (by decide +kernel) ⟨Nat.le_of_ble_eq_true rfl, Nat.le_of_ble_eq_true rfl⟩) ⟨pq_blind, pq_recv hK hP hL_this hK_this (by decide) rfl, pq_pre hK hN hP hD⟩ rfl rfl hl.1 rfl (lv_room (Nat.le_of_ble_eq_true rfl)) dX12_stands_50 ⟨Nat.le_of_ble_eq_true rfl, Nat.le_of_ble_eq_true rfl⟩) hD hS hA (fun x_65 σ1 μ1 H locs hw_66 hP hD hS => ?_)
          obtain ⟨ri_67, rj_68, hu_69, hg_70, hp_72, hr_71⟩ := hw_66
          obtain ⟨hu_69a, hu_69b⟩ := Prod.mk.inj hu_69
          rw [hu_69a, hu_69b] at hP hD
          have hG := GM.tr hG hg_70 (by decide)
          refine lv_if_lt (tgt := 60) hx hb dX12_stands_53 (by decide) (fun c_73 => ?_) (fun c_73 => ?_)
          · have tc_74 : (x_65).toInt < 0 := Int32.lt_iff_toInt_lt.mp c_73
            have h_75 : rg x_65 (-1) (-1) := rg_lt1 c_73 hr_71 (rg_k (0 : Int32) 0 rfl) (by decide)
            have uh_75 := h_75.1
            have vh_75 := h_75.2
            refine lv_iconst (v := 0) hx hb dX12_stands_60 (by decide) ?_
            subst hQ
            exact W.zret (v := 0) hx hb hr (by decide) (fun t1 ht hW => ⟨⟨0, (σ, I, J, ri_67, rj_68, rq), rfl, ⟨ri_67, rj_68, rfl, hG, (Or.inr ⟨rfl, trivial⟩)⟩, by rw [ht]; exact hP, va_K.moved hW.alike hK, hD⟩, hS.F ht⟩) hS.2.2 dX12_stands_61
          · have tc_76 : 0 ≤ (x_65).toInt := Int32.le_iff_toInt_le.mp (nlt c_73)
            have h_77 : rg x_65 0 19 := rg_le2 (nlt c_73) (rg_k (0 : Int32) 0 rfl) hr_71 (by decide)
            have uh_77 := h_77.1
            have vh_77 := h_77.2
            exact K_45 ri_67 rj_68 _ _ _ hG hP hD hS (lv_sub hl [] rfl)
    · have tc_78 : (x_1).toInt < 0 := Int32.lt_iff_toInt_lt.mp (nle c_6)
      have h_79 : rg x_1 (-1) (-1) := rg_lt1 (nle c_6) hr_5 (rg_k (0 : Int32) 0 rfl) (by decide)
      have uh_79 := h_79.1
      have vh_79 := h_79.2
      refine lv_iconst (v := 0) hx hb dX12_stands_12 (by decide) ?_
      subst hQ
      exact W.zret (v := 0) hx hb hr (by decide) (fun t1 ht hW => ⟨⟨0, (σ, I, J, ri, rj, rq), rfl, ⟨ri, rj, rfl, hG, (Or.inr ⟨rfl, trivial⟩)⟩, by rw [ht]; exact hP, va_K.moved hW.alike hK, hD⟩, hS.F ht⟩) hS.2.2 dX12_stands_13
  exact go _ _ _ hP hD hS hl

set_option maxHeartbeats 4000000 in
set_option maxRecDepth 100000 in
theorem s_X12_titleOf (l : Launch) (D : va_G) (t : pq_T) (σ : pq_S) (I : Nat → Nat → Int32) (J : Nat → Nat → Int64) (ri : Nat → Nat → Int32) (rj : Nat → Nat → Int64) (rq : Nat → Nat → Option Nat) (sz : Nat) (tg : Nat → Nat) (hSH : SH σ tg) (hG0 : GT tg I ri) (this : Nat) (a0 : Int32) (a1 : Int32) (hL_this : this ∈ σ.1) (hK_this : σ.2.1 this = 12) : MetI l yX12_titleOf (wa yX12_titleOf cX12_titleOf 3 (some .int)) ({ frames := 5, cells := 0, slots := 0, locals := 124 }) [.ref this, .int a0, .int a1] D t σ (I, J, ri, rj, rq) sz 0 0 (fun (r : Int32) (u : pq_S × pq_M) => ∃ ri' : Nat → Nat → Int32, ∃ rj' : Nat → Nat → Int64, u = (σ, I, J, ri', rj', rq) ∧ GM [] tg σ I ri I ri' rq ∧ rg r (-1) 39) := by
  refine Met.ofW (cc := cX12_titleOf) (maxL := 3) (ret := (some .int)) (by decide) rfl ?_
  intro p e s m args below meth c s₁ B hml hv
  obtain ⟨rfl, hsz, hP, hK, hD0, hN⟩ := hv
  have hx := B.exec
  have hb := B.bytes
  have hr := B.returns
  have hts := atoms_spec (ws := (wa yX12_titleOf cX12_titleOf 3 (some .int))) B.pre
  have hown : s.vm.findClass RX12 = some m.cls := findClass_of_methodNamed B.named
  have hlocks := B.notSynchronized
  subst hsz
  have hD : va_D (pq_B t σ (I, J, ri, rj, rq) s.heap.size) (pq_P t σ (I, J, ri, rj, rq)) := hD0.self
  generalize hAe : pq_B t σ (I, J, ri, rj, rq) s.heap.size = A at hD ⊢
  have hA : ∀ q : Nat, s.heap.size ≤ q → A q := fun q h => by rw [← hAe]; exact Or.inr h
  have hS : va_S A s.heap s.heap [] := va_S.rf
  have hG : GM [] tg σ I ri I ri rq := ⟨hG0, fun _ _ _ => rfl, fun _ _ _ _ _ => rfl, fun _ _ _ _ _ _ => rfl⟩
  have hl := lv_entry ([.ref this, .int a0, .int a1]) (n := 3) (Nat.le_of_ble_eq_true rfl)
  rw [lg_entry_eq]
  generalize (lg_sl ([.ref this, .int a0, .int a1]) ++ List.replicate (3 - (lg_sl ([.ref this, .int a0, .int a1])).length) Slot.unset).toArray = ls at hl ⊢
  have hl : lv_has ls 3 [(0, .ref this), (1, .int a0), (2, .int a1)] := hl
  refine q_gen (fun Q hQ => ?_)
  have go : ∀ (H : Heap) (locs : List Loc) (ls : Array Slot), va_P D vwCl (pq_P t σ (I, J, ri, rj, rq)) H → va_D A (pq_P t σ (I, J, ri, rj, rq)) → va_S A s.heap H locs → lv_has ls 3 [(0, .ref this), (1, .int a0), (2, .int a1)] → W p l e ({ frames := 5, cells := 0, slots := 0, locals := 124 } : Room) s m (List.toArray ([.ref this, .int a0, .int a1] : List Value)) below meth c H locs 0 0 Q (F0 m 0 ls []) := by
    intro H locs ls hP hD hS hl
    refine lv_aload_n hx hb dX12_titleOf_0 rfl (lv_at hl 0 rfl) ?_
    refine lv_iload_n hx hb dX12_titleOf_1 rfl (lv_at hl 1 rfl) ?_
    refine pk_i (va_runV (As := [.int a0]) (rest := []) ⟨hx, hb, hml, hown, hts⟩ (s_X12_isCell l D t σ I J ri rj rq H.size tg hSH hG.1 this a0 hL_this hK_this) (cwV 1 hts (tw_V tw_340 tw_341 tw_342 tw_5 tw_343) rfl rfl rfl (by decide +kernel) ⟨Nat.le_of_ble_eq_true rfl, Nat.le_of_ble_eq_true rfl⟩) ⟨pq_blind, pq_recv hK hP hL_this hK_this (by decide) rfl, pq_pre hK hN hP hD⟩ rfl rfl hl.1 rfl (lv_room (Nat.le_of_ble_eq_true rfl)) dX12_titleOf_2 ⟨Nat.le_of_ble_eq_true rfl, Nat.le_of_ble_eq_true rfl⟩) hD hS hA (fun x_1 σ1 μ1 H locs hw_2 hP hD hS => ?_)
    obtain ⟨hu_3, hr_5⟩ := hw_2
    obtain ⟨hu_3a, hu_3b⟩ := Prod.mk.inj hu_3
    rw [hu_3a, hu_3b] at hP hD
    have h_6 : rg x_1 0 1 := by rcases hr_5 with ⟨q, -⟩ | ⟨q, -⟩ <;> rw [q] <;> exact ⟨by decide, by decide⟩
    have uh_6 := h_6.1
    have vh_6 := h_6.2
    have K_55 : ∀  (H : Heap) (locs : List Loc) (ls : Array Slot), GM [] tg σ I ri I ri rq → va_P D vwCl (pq_P t σ (I, J, ri, rj, rq)) H → va_D A (pq_P t σ (I, J, ri, rj, rq)) → va_S A s.heap H locs → lv_has ls 3 [] → W p l e ({ frames := 5, cells := 0, slots := 0, locals := 124 } : Room) s m (List.toArray ([.ref this, .int a0, .int a1] : List Value)) below meth c H locs 0 0 Q (F0 m 17 ls []) := by
      intro H locs ls hG hP hD hS hl
      refine lv_iconst (v := (-1)) hx hb dX12_titleOf_17 (by decide) ?_
      subst hQ
      exact W.iret (v := (-1)) hx hb hr (fun t1 ht hW => ⟨⟨(-1), (σ, I, J, ri, rj, rq), rfl, ⟨ri, rj, rfl, hG, (rg_w (rg_k (-1 : Int32) (-1) rfl) (by decide))⟩, by rw [ht]; exact hP, va_K.moved hW.alike hK, hD⟩, hS.F ht⟩) hS.2.2 dX12_titleOf_18
    refine lv_if_eq (tgt := 17) hx hb dX12_titleOf_5 (by decide) (fun c_56 => ?_) (fun c_56 => ?_)
    · have f_57 := (hr_5.resolve_left (fun q => absurd (q.1.symm.trans c_56) (by decide))).2
      have tc_58 : (x_1).toInt = 0 := congrArg Int32.toInt c_56
      have h_59 : rg x_1 0 0 := rg_and h_6 (rg_of_eq c_56 (rg_k (0 : Int32) 0 rfl)) (by decide)
      have uh_59 := h_59.1
      have vh_59 := h_59.2
      exact K_55 _ _ _ hG hP hD hS (lv_sub hl [] rfl)
    · have f_60 := (hr_5.resolve_right (fun q => c_56 q.1)).2
      have uf_60 := f_60.1
      have vf_60 := f_60.2
      have tc_61 : (x_1).toInt ≠ 0 := fun q => c_56 (Int32.toInt_inj.mp q)
      have h_62 : rg x_1 1 1 := rg_ne c_56 h_6 0 rfl (by decide)
      have uh_62 := h_62.1
      have vh_62 := h_62.2
      refine lv_iload_n hx hb dX12_titleOf_8 rfl (lv_at hl 2 rfl) ?_
      refine lv_iconst (v := 0) hx hb dX12_titleOf_9 (by decide) ?_
      refine lv_iconst (v := 1) hx hb dX12_titleOf_10 (by decide) ?_
      refine pk_i (va_runS (As := [.int a1, .int 0, .int 1]) (rest := []) ⟨hx, hb, hml, hown, hts⟩ (s_X12_isIn l D t σ I J ri rj rq H.size tg hSH hG.1 a1 (0 : Int32) (1 : Int32)) (va_cwS 3 hts (tw_S tw_235 tw_236 tw_5 tw_237) rfl rfl rfl (by decide +kernel) ⟨Nat.le_of_ble_eq_true rfl, Nat.le_of_ble_eq_true rfl⟩) ⟨pq_blind, pq_pre hK hN hP hD⟩ rfl rfl hl.1 rfl (lv_room (Nat.le_of_ble_eq_true rfl)) dX12_titleOf_11 ⟨Nat.le_of_ble_eq_true rfl, Nat.le_of_ble_eq_true rfl⟩) hD hS hA (fun x_63 σ1 μ1 H locs hw_64 hP hD hS => ?_)
      obtain ⟨hu_65, hr_67⟩ := hw_64
      obtain ⟨hu_65a, hu_65b⟩ := Prod.mk.inj hu_65
      rw [hu_65a, hu_65b] at hP hD
      have h_68 : rg x_63 0 1 := by rcases hr_67 with ⟨q, -⟩ | ⟨q, -⟩ <;> rw [q] <;> exact ⟨by decide, by decide⟩
      have uh_68 := h_68.1
      have vh_68 := h_68.2
      refine lv_if_ne (tgt := 19) hx hb dX12_titleOf_14 (by decide) (fun c_69 => ?_) (fun c_69 => ?_)
      · obtain ⟨f_70, f_71⟩ := (hr_67.resolve_right (fun q => c_69 q.1)).2
        have tc_72 : 0 ≤ (a1).toInt := Int32.le_iff_toInt_le.mp f_70
        have h_73 : rg a1 0 2147483647 := rg_le2 f_70 (rg_k (0 : Int32) 0 rfl) (rg_full _) (by decide)
        have uh_73 := h_73.1
        have vh_73 := h_73.2
        have tc_74 : (a1).toInt ≤ 1 := Int32.le_iff_toInt_le.mp f_71
        have h_75 : rg a1 0 1 := rg_le1 f_71 h_73 (rg_k (1 : Int32) 1 rfl) (by decide)
        have uh_75 := h_75.1
        have vh_75 := h_75.2
        have tc_76 : (x_63).toInt ≠ 0 := fun q => c_69 (Int32.toInt_inj.mp q)
        have h_77 : rg x_63 1 1 := rg_ne c_69 h_68 0 rfl (by decide)
        have uh_77 := h_77.1
        have vh_77 := h_77.2
        refine lv_iload_n hx hb dX12_titleOf_19 rfl (lv_at hl 2 rfl) ?_
        refine lv_if_ne (tgt := 33) hx hb dX12_titleOf_20 (by decide) (fun c_78 => ?_) (fun c_78 => ?_)
        · have tc_79 : (a1).toInt ≠ 0 := fun q => c_78 (Int32.toInt_inj.mp q)
          have h_80 : rg a1 1 1 := rg_ne c_78 h_75 0 rfl (by decide)
          have uh_80 := h_80.1
          have vh_80 := h_80.2
          refine lv_aload_n hx hb dX12_titleOf_33 rfl (lv_at hl 0 rfl) ?_
          refine lv_iload_n hx hb dX12_titleOf_34 rfl (lv_at hl 1 rfl) ?_
          refine pk_i (va_runV (As := [.int a0]) (rest := []) ⟨hx, hb, hml, hown, hts⟩ (s_X12_stands l D t σ I J ri rj rq H.size tg hSH hG.1 this a0 hL_this hK_this (rg_w f_60 (by decide))) (cwV 1 hts (tw_V tw_593 tw_594 tw_595 tw_5 tw_596) rfl rfl rfl (by decide +kernel) ⟨Nat.le_of_ble_eq_true rfl, Nat.le_of_ble_eq_true rfl⟩) ⟨pq_blind, pq_recv hK hP hL_this hK_this (by decide) rfl, pq_pre hK hN hP hD⟩ rfl rfl hl.1 rfl (lv_room (Nat.le_of_ble_eq_true rfl)) dX12_titleOf_35 ⟨Nat.le_of_ble_eq_true rfl, Nat.le_of_ble_eq_true rfl⟩) hD hS hA (fun x_81 σ1 μ1 H locs hw_82 hP hD hS => ?_)
          obtain ⟨ri_83, rj_84, hu_85, hg_86, hr_87⟩ := hw_82
          obtain ⟨hu_85a, hu_85b⟩ := Prod.mk.inj hu_85
          rw [hu_85a, hu_85b] at hP hD
          have hG := GM.tr hG hg_86 (by decide)
          have h_88 : rg x_81 0 1 := by rcases hr_87 with ⟨q, -⟩ | ⟨q, -⟩ <;> rw [q] <;> exact ⟨by decide, by decide⟩
          have uh_88 := h_88.1
          have vh_88 := h_88.2
          refine lv_if_eq (tgt := 45) hx hb dX12_titleOf_38 (by decide) (fun c_89 => ?_) (fun c_89 => ?_)
          · have tc_90 : (x_81).toInt = 0 := congrArg Int32.toInt c_89
            have h_91 : rg x_81 0 0 := rg_and h_88 (rg_of_eq c_89 (rg_k (0 : Int32) 0 rfl)) (by decide)
            have uh_91 := h_91.1
            have vh_91 := h_91.2
            refine lv_iconst (v := 0) hx hb dX12_titleOf_45 (by decide) ?_
            subst hQ
            exact W.iret (v := 0) hx hb hr (fun t1 ht hW => ⟨⟨0, (σ, I, J, ri_83, rj_84, rq), rfl, ⟨ri_83, rj_84, rfl, hG, (rg_w (rg_k (0 : Int32) 0 rfl) (by decide))⟩, by rw [ht]; exact hP, va_K.moved hW.alike hK, hD⟩, hS.F ht⟩) hS.2.2 dX12_titleOf_46
          · have tc_92 : (x_81).toInt ≠ 0 := fun q => c_89 (Int32.toInt_inj.mp q)
            have h_93 : rg x_81 1 1 := rg_ne c_89 h_88 0 rfl (by decide)
            have uh_93 := h_93.1
            have vh_93 := h_93.2
            refine lv_iconst (v := 1) hx hb dX12_titleOf_41 (by decide) ?_
            refine lv_goto (tgt := 46) hx hb dX12_titleOf_42 (by decide) ?_
            subst hQ
            exact W.iret (v := 1) hx hb hr (fun t1 ht hW => ⟨⟨1, (σ, I, J, ri_83, rj_84, rq), rfl, ⟨ri_83, rj_84, rfl, hG, (rg_w (rg_k (1 : Int32) 1 rfl) (by decide))⟩, by rw [ht]; exact hP, va_K.moved hW.alike hK, hD⟩, hS.F ht⟩) hS.2.2 dX12_titleOf_46
        · have tc_94 : (a1).toInt = 0 := congrArg Int32.toInt c_78
          have h_95 : rg a1 0 0 := rg_and h_75 (rg_of_eq c_78 (rg_k (0 : Int32) 0 rfl)) (by decide)
          have uh_95 := h_95.1
          have vh_95 := h_95.2
          refine lv_aload_n hx hb dX12_titleOf_23 rfl (lv_at hl 0 rfl) ?_
          refine lv_iload_n hx hb dX12_titleOf_24 rfl (lv_at hl 1 rfl) ?_
          refine lv_bipush (v := 14) hx hb dX12_titleOf_25 (by decide) ?_
          refine pk_i (va_runV (As := [.int a0, .int 14]) (rest := []) ⟨hx, hb, hml, hown, hts⟩ (s_X12_cellAt_c14 l D t σ I J ri rj rq H.size tg hSH hG.1 this a0 hL_this hK_this (rg_w f_60 (by decide))) (cwV 2 hts (tw_V tw_361 tw_362 tw_363 tw_5 tw_364) rfl rfl rfl (by decide +kernel) ⟨Nat.le_of_ble_eq_true rfl, Nat.le_of_ble_eq_true rfl⟩) ⟨pq_blind, pq_recv hK hP hL_this hK_this (by decide) rfl, pq_pre hK hN hP hD⟩ rfl rfl hl.1 rfl (lv_room (Nat.le_of_ble_eq_true rfl)) dX12_titleOf_27 ⟨Nat.le_of_ble_eq_true rfl, Nat.le_of_ble_eq_true rfl⟩) hD hS hA (fun x_96 σ1 μ1 H locs hw_97 hP hD hS => ?_)
          obtain ⟨hu_98, hr_100⟩ := hw_97
          obtain ⟨hu_98a, hu_98b⟩ := Prod.mk.inj hu_98
          rw [hu_98a, hu_98b] at hP hD
          refine lv_goto (tgt := 46) hx hb dX12_titleOf_30 (by decide) ?_
          subst hQ
          exact W.iret (v := x_96) hx hb hr (fun t1 ht hW => ⟨⟨x_96, (σ, I, J, ri, rj, rq), rfl, ⟨ri, rj, rfl, hG, (rg_w hr_100 (by decide))⟩, by rw [ht]; exact hP, va_K.moved hW.alike hK, hD⟩, hS.F ht⟩) hS.2.2 dX12_titleOf_46
      · have f_101 := (hr_67.resolve_left (fun q => absurd (q.1.symm.trans c_69) (by decide))).2
        have tc_102 : (x_63).toInt = 0 := congrArg Int32.toInt c_69
        have h_103 : rg x_63 0 0 := rg_and h_68 (rg_of_eq c_69 (rg_k (0 : Int32) 0 rfl)) (by decide)
        have uh_103 := h_103.1
        have vh_103 := h_103.2
        exact K_55 _ _ _ hG hP hD hS (lv_sub hl [] rfl)
  exact go _ _ _ hP hD hS hl

set_option maxHeartbeats 4000000 in
set_option maxRecDepth 100000 in
theorem s_X12_four (l : Launch) (D : va_G) (t : pq_T) (σ : pq_S) (I : Nat → Nat → Int32) (J : Nat → Nat → Int64) (ri : Nat → Nat → Int32) (rj : Nat → Nat → Int64) (rq : Nat → Nat → Option Nat) (sz : Nat) (tg : Nat → Nat) (hSH : SH σ tg) (hG0 : GT tg I ri) (this : Nat) (a0 : Int32) (hL_this : this ∈ σ.1) (hK_this : σ.2.1 this = 12) (hct : (I 388 this).toInt + 4 ≤ 300) : MetV l yX12_four (wa yX12_four cX12_four 3 none) ({ frames := 0, cells := 0, slots := 0, locals := 0 }) [.ref this, .int a0] D t σ (I, J, ri, rj, rq) sz 0 0 (fun (u : pq_S × pq_M) => ∃ I' : Nat → Nat → Int32, ∃ ri' : Nat → Nat → Int32, u = (σ, I', J, ri', rj, rq) ∧ GM [388] tg σ I ri I' ri' rq ∧ ((I' 388 this).toInt = (I 388 this).toInt + 4)) := by
  refine Met.ofW (cc := cX12_four) (maxL := 3) (ret := none) (by decide) rfl ?_
  intro p e s m args below meth c s₁ B hml hv
  obtain ⟨rfl, hsz, hP, hK, hD0, hN⟩ := hv
  have hx := B.exec
  have hb := B.bytes
  have hr := B.returns
  have hts := atoms_spec (ws := (wa yX12_four cX12_four 3 none)) B.pre
  have hown : s.vm.findClass RX12 = some m.cls := findClass_of_methodNamed B.named
  have hlocks := B.notSynchronized
  subst hsz
  have hD : va_D (pq_B t σ (I, J, ri, rj, rq) s.heap.size) (pq_P t σ (I, J, ri, rj, rq)) := hD0.self
  generalize hAe : pq_B t σ (I, J, ri, rj, rq) s.heap.size = A at hD ⊢
  have hA : ∀ q : Nat, s.heap.size ≤ q → A q := fun q h => by rw [← hAe]; exact Or.inr h
  have hS : va_S A s.heap s.heap [] := va_S.rf
  have hG : GM [388] tg σ I ri I ri rq := ⟨hG0, fun _ _ _ => rfl, fun _ _ _ _ _ => rfl, fun _ _ _ _ _ _ => rfl⟩
  have hl := lv_entry ([.ref this, .int a0]) (n := 3) (Nat.le_of_ble_eq_true rfl)
  rw [lg_entry_eq]
  generalize (lg_sl ([.ref this, .int a0]) ++ List.replicate (3 - (lg_sl ([.ref this, .int a0])).length) Slot.unset).toArray = ls at hl ⊢
  have hl : lv_has ls 3 [(0, .ref this), (1, .int a0)] := hl
  refine q_gen (fun Q hQ => ?_)
  have go : ∀ (H : Heap) (locs : List Loc) (ls : Array Slot), va_P D vwCl (pq_P t σ (I, J, ri, rj, rq)) H → va_D A (pq_P t σ (I, J, ri, rj, rq)) → va_S A s.heap H locs → lv_has ls 3 [(0, .ref this), (1, .int a0)] → W p l e ({ frames := 0, cells := 0, slots := 0, locals := 0 } : Room) s m (List.toArray ([.ref this, .int a0] : List Value)) below meth c H locs 0 0 Q (F0 m 0 ls []) := by
    intro H locs ls hP hD hS hl
    refine lv_bipush (v := 24) hx hb dX12_four_0 (by decide) ?_
    refine lv_istore_n (lv' := [(2, .int 24), (0, .ref this), (1, .int a0)]) hx hb dX12_four_2 rfl hl (by decide) rfl (fun ls hl => ?_)
    have L_194 : ∀ (n_193 : Nat) (x_169 : Int32) (I_170 : Nat → Nat → Int32) (ri_171 : Nat → Nat → Int32) (H : Heap) (locs : List Loc) (ls : Array Slot), rg x_169 (-8) 24 → (8 * ((I_170 388 this).toInt - (I 388 this).toInt) + (x_169).toInt = 24) → ((x_169).toInt - (-8)).toNat < n_193 → GM [388] tg σ I ri I_170 ri_171 rq → va_P D vwCl (pq_P t σ (I_170, J, ri_171, rj, rq)) H → va_D A (pq_P t σ (I_170, J, ri_171, rj, rq)) → va_S A s.heap H locs → lv_has ls 3 [(0, .ref this), (1, .int a0), (2, .int x_169)] → W p l e ({ frames := 0, cells := 0, slots := 0, locals := 0 } : Room) s m (List.toArray ([.ref this, .int a0] : List Value)) below meth c H locs 0 0 Q (F0 m 3 ls []) := by
      intro n_193
      induction n_193 with
      | zero => intro x_169 I_170 ri_171 H locs ls h_198 hrel_199 hm_192 hG hP hD hS hl; exact absurd hm_192 (Nat.not_lt_zero _)
      | succ n_193 ih_195 =>
        intro x_169 I_170 ri_171 H locs ls h_198 hrel_199 hm_192 hG hP hD hS hl
        have uh_198 := h_198.1
        have vh_198 := h_198.2
        refine lv_iload_n hx hb dX12_four_3 rfl (lv_at hl 2 rfl) ?_
        refine lv_if_lt (tgt := 39) hx hb dX12_four_4 (by decide) (fun c_200 => ?_) (fun c_200 => ?_)
        · have tc_201 : (x_169).toInt < 0 := Int32.lt_iff_toInt_lt.mp c_200
          have h_202 : rg x_169 (-8) (-1) := rg_lt1 c_200 h_198 (rg_k (0 : Int32) 0 rfl) (by decide)
          have uh_202 := h_202.1
          have vh_202 := h_202.2
          subst hQ
          exact W.vret hx hb hr (fun t1 ht hW => ⟨⟨(σ, I_170, J, ri_171, rj, rq), rfl, ⟨I_170, ri_171, rfl, hG, (by omega)⟩, by rw [ht]; exact hP, va_K.moved hW.alike hK, hD⟩, hS.F ht⟩) hS.2.2 dX12_four_39
        · have tc_203 : 0 ≤ (x_169).toInt := Int32.le_iff_toInt_le.mp (nlt c_200)
          have h_204 : rg x_169 0 24 := rg_le2 (nlt c_200) (rg_k (0 : Int32) 0 rfl) h_198 (by decide)
          have uh_204 := h_204.1
          have vh_204 := h_204.2
          refine lv_aload_n hx hb dX12_four_7 rfl (lv_at hl 0 rfl) ?_
          obtain ⟨w_205, hR_w_205, hL_w_205, hK_w_205, hN_w_205, hT_w_205⟩ := sh_a hSH 387 (ci := 12) (kd := 13) (len := 300) rfl (by decide) hL_this hK_this
          refine pg_f (v := .ref w_205) (C := RX12) (T := TX12) (N := 31) hx hb hts (tw_i inlX12) hown hK hP hL_this hK_this (by decide) rfl 3 (by decide) (hts _ (tw_c tw_179)) (pq_hv rfl hR_w_205) dX12_four_8 ?_
          refine lv_aload_n hx hb dX12_four_11 rfl (lv_at hl 0 rfl) ?_
          refine pg_f (v := .int (I_170 388 this)) (C := RX12) (T := TX12) (N := 31) hx hb hts (tw_i inlX12) hown hK hP hL_this hK_this (by decide) rfl 4 (by decide) (hts _ (tw_c tw_631)) rfl dX12_four_12 ?_
          have h_206 : rg (I_170 388 this) 0 300 := GM.rI hG 388 rfl
          have uh_206 := h_206.1
          have vh_206 := h_206.2
          refine lv_iload_n hx hb dX12_four_15 rfl (lv_at hl 1 rfl) ?_
          refine lv_iload_n hx hb dX12_four_16 rfl (lv_at hl 2 rfl) ?_
          refine lv_ishr hx hb dX12_four_17 ?_
          refine lv_topi (fun x_207 ex_207 => ?_)
          refine lv_sipush (v := 255) hx hb dX12_four_18 (by decide) ?_
          refine lv_iand hx hb dX12_four_21 ?_
          refine lv_topi (fun x_208 ex_208 => ?_)
          have h_209 : rg x_208 0 255 := rg_of_eq ex_208 (rg_m255 _)
          have uh_209 := h_209.1
          have vh_209 := h_209.2
          have h_211 : rg (I_170 388 this) 0 299 := ⟨by omega, by omega⟩
          have uh_211 := h_211.1
          have vh_211 := h_211.2
          refine pt_i hx hb hK hP hD hS hL_w_205 hK_w_205 hN_w_205 (rg_in h_211 (by decide)) dX12_four_22 (fun r_210 H locs er_210 hP hD hS => ?_)
          have hG := GM.wR hG hSH hT_w_205 rfl er_210 (rg_w h_209 (by decide)) (by decide)
          refine lv_aload_n hx hb dX12_four_23 rfl (lv_at hl 0 rfl) ?_
          refine lv_dup hx hb dX12_four_24 rfl ?_
          refine pg_f (v := .int (I_170 388 this)) (C := RX12) (T := TX12) (N := 31) hx hb hts (tw_i inlX12) hown hK hP hL_this hK_this (by decide) rfl 4 (by decide) (hts _ (tw_c tw_631)) rfl dX12_four_25 ?_
          refine lv_iconst (v := 1) hx hb dX12_four_28 (by decide) ?_
          refine lv_iadd hx hb dX12_four_29 ?_
          refine lv_topi (fun x_212 ex_212 => ?_)
          have h_213 : rg x_212 1 300 := rg_of_eq ex_212 (rg_add h_211 (rg_k (1 : Int32) 1 rfl) (by decide))
          have uh_213 := h_213.1
          have vh_213 := h_213.2
          have tx_212 : (x_212).toInt = (I_170 388 this).toInt + 1 := by rw [ex_212]; exact i_add_rg (a2 := (I_170 388 this).toInt) (b2 := 1) rfl rfl h_211 (rg_k (1 : Int32) 1 rfl) (by decide)
          refine pp_i (v := x_212) (ty := .int) (C := RX12) (T := TX12) (N := 31) hx hb hts (tw_i inlX12) tyX12 tyX12_ok nmX12 hown hK hP hD hS hL_this hK_this (by decide) rfl 4 388 (by decide) (hts _ (tw_c tw_631)) rfl (by decide +kernel) rfl rfl (Nat.le_of_ble_eq_true rfl) (ps_388 _ _ _ _ _) dX12_four_30 (fun I_214 H locs eI_214 hP hD hS => ?_)
          have hG := GM.wI hG 388 rfl eI_214 (rg_w h_213 (by decide)) (by decide)
          have tt_215 : (I_214 388 this).toInt = (x_212).toInt := by rw [eI_214, pq_us]
          obtain ⟨x_216, ex_216⟩ : ∃ y : Int32, y = x_169 + Int32.ofInt (-8) := ⟨_, rfl⟩
          have h_217 : rg x_216 (-8) 16 := rg_of_eq ex_216 (rg_add h_204 (rg_k (Int32.ofInt (-8)) (-8) rfl) (by decide))
          have uh_217 := h_217.1
          have vh_217 := h_217.2
          have tx_216 : (x_216).toInt = (x_169).toInt + (-8) := by rw [ex_216]; exact i_add_rg (a2 := (x_169).toInt) (b2 := (-8)) rfl rfl h_204 (rg_k (Int32.ofInt (-8)) (-8) rfl) (by decide)
          refine lv_iinc (v := x_216) (lv' := [(2, .int x_216), (0, .ref this), (1, .int a0)]) hx hb dX12_four_33 hl (k := 2) rfl ex_216.symm (by decide) rfl (fun ls hl => ?_)
          refine lv_goto (tgt := 3) hx hb dX12_four_36 (by decide) ?_
          exact ih_195 x_216 I_214 r_210 _ _ _ (rg_w h_217 (by decide)) (by omega) (ms_dn 8 hm_192 ex_216 rfl (by decide) h_204 (by decide) (by decide)) hG hP hD hS (lv_sub hl [1, 2, 0] rfl)
    exact L_194 _ (24 : Int32) I ri _ _ _ (rg_w (rg_k (24 : Int32) 24 rfl) (by decide)) (by have k0 : (24 : Int32).toInt = 24 := rfl; omega) (Nat.lt_succ_self _) hG hP hD hS (lv_sub hl [1, 2, 0] rfl)
  exact go _ _ _ hP hD hS hl

set_option maxHeartbeats 4000000 in
set_option maxRecDepth 100000 in
theorem s_X12_feed (l : Launch) (D : va_G) (t : pq_T) (σ : pq_S) (I : Nat → Nat → Int32) (J : Nat → Nat → Int64) (ri : Nat → Nat → Int32) (rj : Nat → Nat → Int64) (rq : Nat → Nat → Option Nat) (sz : Nat) (tg : Nat → Nat) (hSH : SH σ tg) (hG0 : GT tg I ri) (this : Nat) (a0 : Int32) (a1 : Int32) (a2 : Int32) (a3 : Int32) (a4 : Int32) (hL_this : this ∈ σ.1) (hK_this : σ.2.1 this = 12) : MetI l yX12_feed (wa yX12_feed cX12_feed 6 (some .int)) ({ frames := 1, cells := 0, slots := 0, locals := 22 }) [.ref this, .int a0, .int a1, .int a2, .int a3, .int a4] D t σ (I, J, ri, rj, rq) sz 0 0 (fun (r : Int32) (u : pq_S × pq_M) => ∃ I' : Nat → Nat → Int32, ∃ ri' : Nat → Nat → Int32, u = (σ, I', J, ri', rj, rq) ∧ GM [388] tg σ I ri I' ri' rq ∧ rg r (-1) 300) := by
  refine Met.ofW (cc := cX12_feed) (maxL := 6) (ret := (some .int)) (by decide) rfl ?_
  intro p e s m args below meth c s₁ B hml hv
  obtain ⟨rfl, hsz, hP, hK, hD0, hN⟩ := hv
  have hx := B.exec
  have hb := B.bytes
  have hr := B.returns
  have hts := atoms_spec (ws := (wa yX12_feed cX12_feed 6 (some .int))) B.pre
  have hown : s.vm.findClass RX12 = some m.cls := findClass_of_methodNamed B.named
  have hlocks := B.notSynchronized
  subst hsz
  have hD : va_D (pq_B t σ (I, J, ri, rj, rq) s.heap.size) (pq_P t σ (I, J, ri, rj, rq)) := hD0.self
  generalize hAe : pq_B t σ (I, J, ri, rj, rq) s.heap.size = A at hD ⊢
  have hA : ∀ q : Nat, s.heap.size ≤ q → A q := fun q h => by rw [← hAe]; exact Or.inr h
  have hS : va_S A s.heap s.heap [] := va_S.rf
  have hG : GM [388] tg σ I ri I ri rq := ⟨hG0, fun _ _ _ => rfl, fun _ _ _ _ _ => rfl, fun _ _ _ _ _ _ => rfl⟩
  have hl := lv_entry ([.ref this, .int a0, .int a1, .int a2, .int a3, .int a4]) (n := 6) (Nat.le_of_ble_eq_true rfl)
  rw [lg_entry_eq]
  generalize (lg_sl ([.ref this, .int a0, .int a1, .int a2, .int a3, .int a4]) ++ List.replicate (6 - (lg_sl ([.ref this, .int a0, .int a1, .int a2, .int a3, .int a4])).length) Slot.unset).toArray = ls at hl ⊢
  have hl : lv_has ls 6 [(0, .ref this), (1, .int a0), (2, .int a1), (3, .int a2), (4, .int a3), (5, .int a4)] := hl
  refine q_gen (fun Q hQ => ?_)
  have go : ∀ (H : Heap) (locs : List Loc) (ls : Array Slot), va_P D vwCl (pq_P t σ (I, J, ri, rj, rq)) H → va_D A (pq_P t σ (I, J, ri, rj, rq)) → va_S A s.heap H locs → lv_has ls 6 [(0, .ref this), (1, .int a0), (2, .int a1), (3, .int a2), (4, .int a3), (5, .int a4)] → W p l e ({ frames := 1, cells := 0, slots := 0, locals := 22 } : Room) s m (List.toArray ([.ref this, .int a0, .int a1, .int a2, .int a3, .int a4] : List Value)) below meth c H locs 0 0 Q (F0 m 0 ls []) := by
    intro H locs ls hP hD hS hl
    refine lv_aload_n hx hb dX12_feed_0 rfl (lv_at hl 0 rfl) ?_
    refine pg_f (v := .int (I 388 this)) (C := RX12) (T := TX12) (N := 31) hx hb hts (tw_i inlX12) hown hK hP hL_this hK_this (by decide) rfl 4 (by decide) (hts _ (tw_c tw_631)) rfl dX12_feed_1 ?_
    have h_1 : rg (I 388 this) 0 300 := GM.rI hG 388 rfl
    have uh_1 := h_1.1
    have vh_1 := h_1.2
    refine lv_bipush (v := 20) hx hb dX12_feed_4 (by decide) ?_
    refine lv_iadd hx hb dX12_feed_6 ?_
    refine lv_topi (fun x_2 ex_2 => ?_)
    have h_3 : rg x_2 20 320 := rg_of_eq ex_2 (rg_add h_1 (rg_k (20 : Int32) 20 rfl) (by decide))
    have uh_3 := h_3.1
    have vh_3 := h_3.2
    have tx_2 : (x_2).toInt = (I 388 this).toInt + 20 := by rw [ex_2]; exact i_add_rg (a2 := (I 388 this).toInt) (b2 := 20) rfl rfl h_1 (rg_k (20 : Int32) 20 rfl) (by decide)
    refine lv_sipush (v := 300) hx hb dX12_feed_7 (by decide) ?_
    refine lv_icmp_le (tgt := 15) hx hb dX12_feed_10 (by decide) (fun c_4 => ?_) (fun c_4 => ?_)
    · have tc_5 : (x_2).toInt ≤ 300 := Int32.le_iff_toInt_le.mp c_4
      have h_6 : rg x_2 20 300 := rg_le1 c_4 h_3 (rg_k (300 : Int32) 300 rfl) (by decide)
      have uh_6 := h_6.1
      have vh_6 := h_6.2
      refine lv_aload_n hx hb dX12_feed_15 rfl (lv_at hl 0 rfl) ?_
      refine lv_iload_n hx hb dX12_feed_16 rfl (lv_at hl 1 rfl) ?_
      refine pk_v (va_runV (As := [.int a0]) (rest := []) ⟨hx, hb, hml, hown, hts⟩ (s_X12_four l D t σ I J ri rj rq H.size tg hSH hG.1 this a0 hL_this hK_this (by omega)) (cwV 1 hts (tw_V tw_632 tw_633 tw_634 tw_5 tw_635) rfl rfl rfl (by decide +kernel) ⟨Nat.le_of_ble_eq_true rfl, Nat.le_of_ble_eq_true rfl⟩) ⟨pq_blind, pq_recv hK hP hL_this hK_this (by decide) rfl, pq_pre hK hN hP hD⟩ rfl rfl hl.1 rfl (lv_room (Nat.le_of_ble_eq_true rfl)) dX12_feed_17 ⟨Nat.le_of_ble_eq_true rfl, Nat.le_of_ble_eq_true rfl⟩) hD hS hA (fun σ1 μ1 H locs hw_8 hP hD hS => ?_)
      obtain ⟨I_9, ri_10, hu_11, hg_12, hp_14⟩ := hw_8
      obtain ⟨hu_11a, hu_11b⟩ := Prod.mk.inj hu_11
      rw [hu_11a, hu_11b] at hP hD
      have tt_15 := hp_14
      have hG := GM.tr hG hg_12 (by decide)
      refine lv_aload_n hx hb dX12_feed_20 rfl (lv_at hl 0 rfl) ?_
      refine lv_iload_n hx hb dX12_feed_21 rfl (lv_at hl 2 rfl) ?_
      refine pk_v (va_runV (As := [.int a1]) (rest := []) ⟨hx, hb, hml, hown, hts⟩ (s_X12_four l D t σ I_9 J ri_10 rj rq H.size tg hSH hG.1 this a1 hL_this hK_this (by omega)) (cwV 1 hts (tw_V tw_632 tw_633 tw_634 tw_5 tw_635) rfl rfl rfl (by decide +kernel) ⟨Nat.le_of_ble_eq_true rfl, Nat.le_of_ble_eq_true rfl⟩) ⟨pq_blind, pq_recv hK hP hL_this hK_this (by decide) rfl, pq_pre hK hN hP hD⟩ rfl rfl hl.1 rfl (lv_room (Nat.le_of_ble_eq_true rfl)) dX12_feed_22 ⟨Nat.le_of_ble_eq_true rfl, Nat.le_of_ble_eq_true rfl⟩) hD hS hA (fun σ1 μ1 H locs hw_17 hP hD hS => ?_)
      obtain ⟨I_18, ri_19, hu_20, hg_21, hp_23⟩ := hw_17
      obtain ⟨hu_20a, hu_20b⟩ := Prod.mk.inj hu_20
      rw [hu_20a, hu_20b] at hP hD
      have tt_24 := hp_23
      have hG := GM.tr hG hg_21 (by decide)
      refine lv_aload_n hx hb dX12_feed_25 rfl (lv_at hl 0 rfl) ?_
      refine lv_iload_n hx hb dX12_feed_26 rfl (lv_at hl 3 rfl) ?_
      refine pk_v (va_runV (As := [.int a2]) (rest := []) ⟨hx, hb, hml, hown, hts⟩ (s_X12_four l D t σ I_18 J ri_19 rj rq H.size tg hSH hG.1 this a2 hL_this hK_this (by omega)) (cwV 1 hts (tw_V tw_632 tw_633 tw_634 tw_5 tw_635) rfl rfl rfl (by decide +kernel) ⟨Nat.le_of_ble_eq_true rfl, Nat.le_of_ble_eq_true rfl⟩) ⟨pq_blind, pq_recv hK hP hL_this hK_this (by decide) rfl, pq_pre hK hN hP hD⟩ rfl rfl hl.1 rfl (lv_room (Nat.le_of_ble_eq_true rfl)) dX12_feed_27 ⟨Nat.le_of_ble_eq_true rfl, Nat.le_of_ble_eq_true rfl⟩) hD hS hA (fun σ1 μ1 H locs hw_26 hP hD hS => ?_)
      obtain ⟨I_27, ri_28, hu_29, hg_30, hp_32⟩ := hw_26
      obtain ⟨hu_29a, hu_29b⟩ := Prod.mk.inj hu_29
      rw [hu_29a, hu_29b] at hP hD
      have tt_33 := hp_32
      have hG := GM.tr hG hg_30 (by decide)
      refine lv_aload_n hx hb dX12_feed_30 rfl (lv_at hl 0 rfl) ?_
      refine lv_iload hx hb dX12_feed_31 (lv_at hl 4 rfl) ?_
      refine pk_v (va_runV (As := [.int a3]) (rest := []) ⟨hx, hb, hml, hown, hts⟩ (s_X12_four l D t σ I_27 J ri_28 rj rq H.size tg hSH hG.1 this a3 hL_this hK_this (by omega)) (cwV 1 hts (tw_V tw_632 tw_633 tw_634 tw_5 tw_635) rfl rfl rfl (by decide +kernel) ⟨Nat.le_of_ble_eq_true rfl, Nat.le_of_ble_eq_true rfl⟩) ⟨pq_blind, pq_recv hK hP hL_this hK_this (by decide) rfl, pq_pre hK hN hP hD⟩ rfl rfl hl.1 rfl (lv_room (Nat.le_of_ble_eq_true rfl)) dX12_feed_33 ⟨Nat.le_of_ble_eq_true rfl, Nat.le_of_ble_eq_true rfl⟩) hD hS hA (fun σ1 μ1 H locs hw_35 hP hD hS => ?_)
      obtain ⟨I_36, ri_37, hu_38, hg_39, hp_41⟩ := hw_35
      obtain ⟨hu_38a, hu_38b⟩ := Prod.mk.inj hu_38
      rw [hu_38a, hu_38b] at hP hD
      have tt_42 := hp_41
      have hG := GM.tr hG hg_39 (by decide)
      refine lv_aload_n hx hb dX12_feed_36 rfl (lv_at hl 0 rfl) ?_
      refine lv_iload hx hb dX12_feed_37 (lv_at hl 5 rfl) ?_
      refine pk_v (va_runV (As := [.int a4]) (rest := []) ⟨hx, hb, hml, hown, hts⟩ (s_X12_four l D t σ I_36 J ri_37 rj rq H.size tg hSH hG.1 this a4 hL_this hK_this (by omega)) (cwV 1 hts (tw_V tw_632 tw_633 tw_634 tw_5 tw_635) rfl rfl rfl (by decide +kernel) ⟨Nat.le_of_ble_eq_true rfl, Nat.le_of_ble_eq_true rfl⟩) ⟨pq_blind, pq_recv hK hP hL_this hK_this (by decide) rfl, pq_pre hK hN hP hD⟩ rfl rfl hl.1 rfl (lv_room (Nat.le_of_ble_eq_true rfl)) dX12_feed_39 ⟨Nat.le_of_ble_eq_true rfl, Nat.le_of_ble_eq_true rfl⟩) hD hS hA (fun σ1 μ1 H locs hw_44 hP hD hS => ?_)
      obtain ⟨I_45, ri_46, hu_47, hg_48, hp_50⟩ := hw_44
      obtain ⟨hu_47a, hu_47b⟩ := Prod.mk.inj hu_47
      rw [hu_47a, hu_47b] at hP hD
      have tt_51 := hp_50
      have hG := GM.tr hG hg_48 (by decide)
      refine lv_aload_n hx hb dX12_feed_42 rfl (lv_at hl 0 rfl) ?_
      refine pg_f (v := .int (I_45 388 this)) (C := RX12) (T := TX12) (N := 31) hx hb hts (tw_i inlX12) hown hK hP hL_this hK_this (by decide) rfl 4 (by decide) (hts _ (tw_c tw_631)) rfl dX12_feed_43 ?_
      have h_52 : rg (I_45 388 this) 0 300 := GM.rI hG 388 rfl
      have uh_52 := h_52.1
      have vh_52 := h_52.2
      subst hQ
      exact W.iret (v := (I_45 388 this)) hx hb hr (fun t1 ht hW => ⟨⟨(I_45 388 this), (σ, I_45, J, ri_46, rj, rq), rfl, ⟨I_45, ri_46, rfl, hG, (rg_w h_52 (by decide))⟩, by rw [ht]; exact hP, va_K.moved hW.alike hK, hD⟩, hS.F ht⟩) hS.2.2 dX12_feed_46
    · have tc_53 : 300 < (x_2).toInt := Int32.lt_iff_toInt_lt.mp (nle c_4)
      have h_54 : rg x_2 301 320 := rg_lt2 (nle c_4) (rg_k (300 : Int32) 300 rfl) h_3 (by decide)
      have uh_54 := h_54.1
      have vh_54 := h_54.2
      refine lv_iconst (v := (-1)) hx hb dX12_feed_13 (by decide) ?_
      subst hQ
      exact W.iret (v := (-1)) hx hb hr (fun t1 ht hW => ⟨⟨(-1), (σ, I, J, ri, rj, rq), rfl, ⟨I, ri, rfl, hG, (rg_w (rg_k (-1 : Int32) (-1) rfl) (by decide))⟩, by rw [ht]; exact hP, va_K.moved hW.alike hK, hD⟩, hS.F ht⟩) hS.2.2 dX12_feed_14
  exact go _ _ _ hP hD hS hl

set_option maxHeartbeats 4000000 in
set_option maxRecDepth 100000 in
theorem s_X12_end (l : Launch) (D : va_G) (t : pq_T) (σ : pq_S) (I : Nat → Nat → Int32) (J : Nat → Nat → Int64) (ri : Nat → Nat → Int32) (rj : Nat → Nat → Int64) (rq : Nat → Nat → Option Nat) (sz : Nat) (tg : Nat → Nat) (hSH : SH σ tg) (hG0 : GT tg I ri) (this : Nat) (a0 : Int32) (hL_this : this ∈ σ.1) (hK_this : σ.2.1 this = 12) : MetI l yX12_end (wa yX12_end cX12_end 2 (some .int)) ({ frames := 1, cells := 0, slots := 0, locals := 22 }) [.ref this, .int a0] D t σ (I, J, ri, rj, rq) sz 0 0 (fun (r : Int32) (u : pq_S × pq_M) => ∃ I' : Nat → Nat → Int32, u = (σ, I', J, ri, rj, rq) ∧ GM [388] tg σ I ri I' ri rq ∧ rg r (-1) 300) := by
  refine Met.ofW (cc := cX12_end) (maxL := 2) (ret := (some .int)) (by decide) rfl ?_
  intro p e s m args below meth c s₁ B hml hv
  obtain ⟨rfl, hsz, hP, hK, hD0, hN⟩ := hv
  have hx := B.exec
  have hb := B.bytes
  have hr := B.returns
  have hts := atoms_spec (ws := (wa yX12_end cX12_end 2 (some .int))) B.pre
  have hown : s.vm.findClass RX12 = some m.cls := findClass_of_methodNamed B.named
  have hlocks := B.notSynchronized
  subst hsz
  have hD : va_D (pq_B t σ (I, J, ri, rj, rq) s.heap.size) (pq_P t σ (I, J, ri, rj, rq)) := hD0.self
  generalize hAe : pq_B t σ (I, J, ri, rj, rq) s.heap.size = A at hD ⊢
  have hA : ∀ q : Nat, s.heap.size ≤ q → A q := fun q h => by rw [← hAe]; exact Or.inr h
  have hS : va_S A s.heap s.heap [] := va_S.rf
  have hG : GM [388] tg σ I ri I ri rq := ⟨hG0, fun _ _ _ => rfl, fun _ _ _ _ _ => rfl, fun _ _ _ _ _ _ => rfl⟩
  have hl := lv_entry ([.ref this, .int a0]) (n := 2) (Nat.le_of_ble_eq_true rfl)
  rw [lg_entry_eq]
  generalize (lg_sl ([.ref this, .int a0]) ++ List.replicate (2 - (lg_sl ([.ref this, .int a0])).length) Slot.unset).toArray = ls at hl ⊢
  have hl : lv_has ls 2 [(0, .ref this), (1, .int a0)] := hl
  refine q_gen (fun Q hQ => ?_)
  have go : ∀ (H : Heap) (locs : List Loc) (ls : Array Slot), va_P D vwCl (pq_P t σ (I, J, ri, rj, rq)) H → va_D A (pq_P t σ (I, J, ri, rj, rq)) → va_S A s.heap H locs → lv_has ls 2 [(0, .ref this), (1, .int a0)] → W p l e ({ frames := 1, cells := 0, slots := 0, locals := 22 } : Room) s m (List.toArray ([.ref this, .int a0] : List Value)) below meth c H locs 0 0 Q (F0 m 0 ls []) := by
    intro H locs ls hP hD hS hl
    refine lv_iload_n hx hb dX12_end_0 rfl (lv_at hl 1 rfl) ?_
    refine lv_iconst (v := 0) hx hb dX12_end_1 (by decide) ?_
    refine lv_aload_n hx hb dX12_end_2 rfl (lv_at hl 0 rfl) ?_
    refine pg_f (v := .int (I 388 this)) (C := RX12) (T := TX12) (N := 31) hx hb hts (tw_i inlX12) hown hK hP hL_this hK_this (by decide) rfl 4 (by decide) (hts _ (tw_c tw_631)) rfl dX12_end_3 ?_
    have h_1 : rg (I 388 this) 0 300 := GM.rI hG 388 rfl
    have uh_1 := h_1.1
    have vh_1 := h_1.2
    refine pk_i (va_runS (As := [.int a0, .int 0, .int (I 388 this)]) (rest := []) ⟨hx, hb, hml, hown, hts⟩ (s_X12_isIn l D t σ I J ri rj rq H.size tg hSH hG.1 a0 (0 : Int32) (I 388 this)) (va_cwS 3 hts (tw_S tw_235 tw_236 tw_5 tw_237) rfl rfl rfl (by decide +kernel) ⟨Nat.le_of_ble_eq_true rfl, Nat.le_of_ble_eq_true rfl⟩) ⟨pq_blind, pq_pre hK hN hP hD⟩ rfl rfl hl.1 rfl (lv_room (Nat.le_of_ble_eq_true rfl)) dX12_end_6 ⟨Nat.le_of_ble_eq_true rfl, Nat.le_of_ble_eq_true rfl⟩) hD hS hA (fun x_2 σ1 μ1 H locs hw_3 hP hD hS => ?_)
    obtain ⟨hu_4, hr_6⟩ := hw_3
    obtain ⟨hu_4a, hu_4b⟩ := Prod.mk.inj hu_4
    rw [hu_4a, hu_4b] at hP hD
    have h_7 : rg x_2 0 1 := by rcases hr_6 with ⟨q, -⟩ | ⟨q, -⟩ <;> rw [q] <;> exact ⟨by decide, by decide⟩
    have uh_7 := h_7.1
    have vh_7 := h_7.2
    refine lv_if_ne (tgt := 14) hx hb dX12_end_9 (by decide) (fun c_8 => ?_) (fun c_8 => ?_)
    · obtain ⟨f_9, f_10⟩ := (hr_6.resolve_right (fun q => c_8 q.1)).2
      have tc_11 : 0 ≤ (a0).toInt := Int32.le_iff_toInt_le.mp f_9
      have h_12 : rg a0 0 2147483647 := rg_le2 f_9 (rg_k (0 : Int32) 0 rfl) (rg_full _) (by decide)
      have uh_12 := h_12.1
      have vh_12 := h_12.2
      have tc_13 : (a0).toInt ≤ (I 388 this).toInt := Int32.le_iff_toInt_le.mp f_10
      have h_14 : rg a0 0 300 := rg_le1 f_10 h_12 h_1 (by decide)
      have uh_14 := h_14.1
      have vh_14 := h_14.2
      have tc_15 : (x_2).toInt ≠ 0 := fun q => c_8 (Int32.toInt_inj.mp q)
      have h_16 : rg x_2 1 1 := rg_ne c_8 h_7 0 rfl (by decide)
      have uh_16 := h_16.1
      have vh_16 := h_16.2
      refine lv_aload_n hx hb dX12_end_14 rfl (lv_at hl 0 rfl) ?_
      refine lv_iload_n hx hb dX12_end_15 rfl (lv_at hl 1 rfl) ?_
      refine pp_i (v := a0) (ty := .int) (C := RX12) (T := TX12) (N := 31) hx hb hts (tw_i inlX12) tyX12 tyX12_ok nmX12 hown hK hP hD hS hL_this hK_this (by decide) rfl 4 388 (by decide) (hts _ (tw_c tw_631)) rfl (by decide +kernel) rfl rfl (Nat.le_of_ble_eq_true rfl) (ps_388 _ _ _ _ _) dX12_end_16 (fun I_17 H locs eI_17 hP hD hS => ?_)
      have hG := GM.wI hG 388 rfl eI_17 (rg_w h_14 (by decide)) (by decide)
      refine lv_iload_n hx hb dX12_end_19 rfl (lv_at hl 1 rfl) ?_
      subst hQ
      exact W.iret (v := a0) hx hb hr (fun t1 ht hW => ⟨⟨a0, (σ, I_17, J, ri, rj, rq), rfl, ⟨I_17, rfl, hG, (rg_w h_14 (by decide))⟩, by rw [ht]; exact hP, va_K.moved hW.alike hK, hD⟩, hS.F ht⟩) hS.2.2 dX12_end_20
    · have f_18 := (hr_6.resolve_left (fun q => absurd (q.1.symm.trans c_8) (by decide))).2
      have tc_19 : (x_2).toInt = 0 := congrArg Int32.toInt c_8
      have h_20 : rg x_2 0 0 := rg_and h_7 (rg_of_eq c_8 (rg_k (0 : Int32) 0 rfl)) (by decide)
      have uh_20 := h_20.1
      have vh_20 := h_20.2
      refine lv_iconst (v := (-1)) hx hb dX12_end_12 (by decide) ?_
      subst hQ
      exact W.iret (v := (-1)) hx hb hr (fun t1 ht hW => ⟨⟨(-1), (σ, I, J, ri, rj, rq), rfl, ⟨I, rfl, hG, (rg_w (rg_k (-1 : Int32) (-1) rfl) (by decide))⟩, by rw [ht]; exact hP, va_K.moved hW.alike hK, hD⟩, hS.F ht⟩) hS.2.2 dX12_end_13
  exact go _ _ _ hP hD hS hl

set_option maxHeartbeats 4000000 in
set_option maxRecDepth 100000 in
theorem s_X12_see (l : Launch) (D : va_G) (t : pq_T) (σ : pq_S) (I : Nat → Nat → Int32) (J : Nat → Nat → Int64) (ri : Nat → Nat → Int32) (rj : Nat → Nat → Int64) (rq : Nat → Nat → Option Nat) (sz : Nat) (tg : Nat → Nat) (hSH : SH σ tg) (hG0 : GT tg I ri) (this : Nat) (a0 : Int32) (hL_this : this ∈ σ.1) (hK_this : σ.2.1 this = 12) (h_a0 : rg a0 0 300) : MetI l yX12_see (wa yX12_see cX12_see 2 (some .int)) ({ frames := 0, cells := 0, slots := 0, locals := 0 }) [.ref this, .int a0] D t σ (I, J, ri, rj, rq) sz 0 0 (fun (r : Int32) (u : pq_S × pq_M) => u = (σ, I, J, ri, rj, rq) ∧ ((r.toInt = -1 ∧ (I 388 this).toInt ≤ a0.toInt) ∨ (0 ≤ r.toInt ∧ a0.toInt < (I 388 this).toInt)) ∧ rg r (-1) 255) := by
  refine Met.ofW (cc := cX12_see) (maxL := 2) (ret := (some .int)) (by decide) rfl ?_
  intro p e s m args below meth c s₁ B hml hv
  obtain ⟨rfl, hsz, hP, hK, hD0, hN⟩ := hv
  have hx := B.exec
  have hb := B.bytes
  have hr := B.returns
  have hts := atoms_spec (ws := (wa yX12_see cX12_see 2 (some .int))) B.pre
  have hown : s.vm.findClass RX12 = some m.cls := findClass_of_methodNamed B.named
  have hlocks := B.notSynchronized
  subst hsz
  have hD : va_D (pq_B t σ (I, J, ri, rj, rq) s.heap.size) (pq_P t σ (I, J, ri, rj, rq)) := hD0.self
  generalize hAe : pq_B t σ (I, J, ri, rj, rq) s.heap.size = A at hD ⊢
  have hA : ∀ q : Nat, s.heap.size ≤ q → A q := fun q h => by rw [← hAe]; exact Or.inr h
  have hS : va_S A s.heap s.heap [] := va_S.rf
  have hG : GM [] tg σ I ri I ri rq := ⟨hG0, fun _ _ _ => rfl, fun _ _ _ _ _ => rfl, fun _ _ _ _ _ _ => rfl⟩
  have hl := lv_entry ([.ref this, .int a0]) (n := 2) (Nat.le_of_ble_eq_true rfl)
  rw [lg_entry_eq]
  generalize (lg_sl ([.ref this, .int a0]) ++ List.replicate (2 - (lg_sl ([.ref this, .int a0])).length) Slot.unset).toArray = ls at hl ⊢
  have hl : lv_has ls 2 [(0, .ref this), (1, .int a0)] := hl
  refine q_gen (fun Q hQ => ?_)
  have go : ∀ (H : Heap) (locs : List Loc) (ls : Array Slot), va_P D vwCl (pq_P t σ (I, J, ri, rj, rq)) H → va_D A (pq_P t σ (I, J, ri, rj, rq)) → va_S A s.heap H locs → lv_has ls 2 [(0, .ref this), (1, .int a0)] → W p l e ({ frames := 0, cells := 0, slots := 0, locals := 0 } : Room) s m (List.toArray ([.ref this, .int a0] : List Value)) below meth c H locs 0 0 Q (F0 m 0 ls []) := by
    intro H locs ls hP hD hS hl
    refine lv_iload_n hx hb dX12_see_0 rfl (lv_at hl 1 rfl) ?_
    refine lv_aload_n hx hb dX12_see_1 rfl (lv_at hl 0 rfl) ?_
    refine pg_f (v := .int (I 388 this)) (C := RX12) (T := TX12) (N := 31) hx hb hts (tw_i inlX12) hown hK hP hL_this hK_this (by decide) rfl 4 (by decide) (hts _ (tw_c tw_631)) rfl dX12_see_2 ?_
    have h_1 : rg (I 388 this) 0 300 := GM.rI hG 388 rfl
    have uh_1 := h_1.1
    have vh_1 := h_1.2
    refine lv_icmp_ge (tgt := 17) hx hb dX12_see_5 (by decide) (fun c_2 => ?_) (fun c_2 => ?_)
    · have tc_3 : (I 388 this).toInt ≤ (a0).toInt := Int32.le_iff_toInt_le.mp c_2
      refine lv_iconst (v := (-1)) hx hb dX12_see_17 (by decide) ?_
      subst hQ
      exact W.iret (v := (-1)) hx hb hr (fun t1 ht hW => ⟨⟨(-1), (σ, I, J, ri, rj, rq), rfl, ⟨rfl, (Or.inl ⟨rfl, by omega⟩), (rg_w (rg_k (-1 : Int32) (-1) rfl) (by decide))⟩, by rw [ht]; exact hP, va_K.moved hW.alike hK, hD⟩, hS.F ht⟩) hS.2.2 dX12_see_18
    · have tc_4 : (a0).toInt < (I 388 this).toInt := Int32.lt_iff_toInt_lt.mp (nle c_2)
      have h_5 : rg a0 0 299 := rg_lt1 (nle c_2) h_a0 h_1 (by decide)
      have uh_5 := h_5.1
      have vh_5 := h_5.2
      have h_6 : rg (I 388 this) 1 300 := rg_lt2 (nle c_2) h_a0 h_1 (by decide)
      have uh_6 := h_6.1
      have vh_6 := h_6.2
      refine lv_aload_n hx hb dX12_see_8 rfl (lv_at hl 0 rfl) ?_
      obtain ⟨w_7, hR_w_7, hL_w_7, hK_w_7, hN_w_7, hT_w_7⟩ := sh_a hSH 387 (ci := 12) (kd := 13) (len := 300) rfl (by decide) hL_this hK_this
      refine pg_f (v := .ref w_7) (C := RX12) (T := TX12) (N := 31) hx hb hts (tw_i inlX12) hown hK hP hL_this hK_this (by decide) rfl 3 (by decide) (hts _ (tw_c tw_179)) (pq_hv rfl hR_w_7) dX12_see_9 ?_
      refine lv_iload_n hx hb dX12_see_12 rfl (lv_at hl 1 rfl) ?_
      refine pl_i hx hb hK hP hL_w_7 hK_w_7 hN_w_7 (rg_in h_5 (by decide)) dX12_see_13 ?_
      refine lv_topi (fun x_8 ex_8 => ?_)
      have h_9 : rg x_8 0 255 := rg_of_eq ex_8 (GM.rR hG hT_w_7 rfl)
      have uh_9 := h_9.1
      have vh_9 := h_9.2
      refine lv_goto (tgt := 18) hx hb dX12_see_14 (by decide) ?_
      subst hQ
      exact W.iret (v := x_8) hx hb hr (fun t1 ht hW => ⟨⟨x_8, (σ, I, J, ri, rj, rq), rfl, ⟨rfl, (by omega), (rg_w h_9 (by decide))⟩, by rw [ht]; exact hP, va_K.moved hW.alike hK, hD⟩, hS.F ht⟩) hS.2.2 dX12_see_18
  exact go _ _ _ hP hD hS hl

set_option maxHeartbeats 4000000 in
set_option maxRecDepth 100000 in
theorem s_X12_isLetter (l : Launch) (D : va_G) (t : pq_T) (σ : pq_S) (I : Nat → Nat → Int32) (J : Nat → Nat → Int64) (ri : Nat → Nat → Int32) (rj : Nat → Nat → Int64) (rq : Nat → Nat → Option Nat) (sz : Nat) (tg : Nat → Nat) (hSH : SH σ tg) (hG0 : GT tg I ri) (a0 : Int32) : MetI l yX12_isLetter (wa yX12_isLetter cX12_isLetter 1 (some .boolean)) ({ frames := 1, cells := 0, slots := 0, locals := 22 }) [.int a0] D t σ (I, J, ri, rj, rq) sz 0 0 (fun (r : Int32) (u : pq_S × pq_M) => u = (σ, I, J, ri, rj, rq) ∧ ((r = 1 ∧ rg a0 65 122) ∨ (r = 0 ∧ True))) := by
  refine Met.ofW (cc := cX12_isLetter) (maxL := 1) (ret := (some .boolean)) (by decide) rfl ?_
  intro p e s m args below meth c s₁ B hml hv
  obtain ⟨rfl, hsz, hP, hK, hD0, hN⟩ := hv
  have hx := B.exec
  have hb := B.bytes
  have hr := B.returns
  have hts := atoms_spec (ws := (wa yX12_isLetter cX12_isLetter 1 (some .boolean))) B.pre
  have hown : s.vm.findClass RX12 = some m.cls := findClass_of_methodNamed B.named
  have hlocks := B.notSynchronized
  subst hsz
  have hD : va_D (pq_B t σ (I, J, ri, rj, rq) s.heap.size) (pq_P t σ (I, J, ri, rj, rq)) := hD0.self
  generalize hAe : pq_B t σ (I, J, ri, rj, rq) s.heap.size = A at hD ⊢
  have hA : ∀ q : Nat, s.heap.size ≤ q → A q := fun q h => by rw [← hAe]; exact Or.inr h
  have hS : va_S A s.heap s.heap [] := va_S.rf
  have hG : GM [] tg σ I ri I ri rq := ⟨hG0, fun _ _ _ => rfl, fun _ _ _ _ _ => rfl, fun _ _ _ _ _ _ => rfl⟩
  have hl := lv_entry ([.int a0]) (n := 1) (Nat.le_of_ble_eq_true rfl)
  rw [lg_entry_eq]
  generalize (lg_sl ([.int a0]) ++ List.replicate (1 - (lg_sl ([.int a0])).length) Slot.unset).toArray = ls at hl ⊢
  have hl : lv_has ls 1 [(0, .int a0)] := hl
  refine q_gen (fun Q hQ => ?_)
  have go : ∀ (H : Heap) (locs : List Loc) (ls : Array Slot), va_P D vwCl (pq_P t σ (I, J, ri, rj, rq)) H → va_D A (pq_P t σ (I, J, ri, rj, rq)) → va_S A s.heap H locs → lv_has ls 1 [(0, .int a0)] → W p l e ({ frames := 1, cells := 0, slots := 0, locals := 22 } : Room) s m (List.toArray ([.int a0] : List Value)) below meth c H locs 0 0 Q (F0 m 0 ls []) := by
    intro H locs ls hP hD hS hl
    refine lv_iload_n hx hb dX12_isLetter_0 rfl (lv_at hl 0 rfl) ?_
    refine lv_bipush (v := 97) hx hb dX12_isLetter_1 (by decide) ?_
    refine lv_bipush (v := 122) hx hb dX12_isLetter_3 (by decide) ?_
    refine pk_i (va_runS (As := [.int a0, .int 97, .int 122]) (rest := []) ⟨hx, hb, hml, hown, hts⟩ (s_X12_isIn l D t σ I J ri rj rq H.size tg hSH hG.1 a0 (97 : Int32) (122 : Int32)) (va_cwS 3 hts (tw_S tw_235 tw_236 tw_5 tw_237) rfl rfl rfl (by decide +kernel) ⟨Nat.le_of_ble_eq_true rfl, Nat.le_of_ble_eq_true rfl⟩) ⟨pq_blind, pq_pre hK hN hP hD⟩ rfl rfl hl.1 rfl (lv_room (Nat.le_of_ble_eq_true rfl)) dX12_isLetter_5 ⟨Nat.le_of_ble_eq_true rfl, Nat.le_of_ble_eq_true rfl⟩) hD hS hA (fun x_1 σ1 μ1 H locs hw_2 hP hD hS => ?_)
    obtain ⟨hu_3, hr_5⟩ := hw_2
    obtain ⟨hu_3a, hu_3b⟩ := Prod.mk.inj hu_3
    rw [hu_3a, hu_3b] at hP hD
    have h_6 : rg x_1 0 1 := by rcases hr_5 with ⟨q, -⟩ | ⟨q, -⟩ <;> rw [q] <;> exact ⟨by decide, by decide⟩
    have uh_6 := h_6.1
    have vh_6 := h_6.2
    have K_38 : ∀  (H : Heap) (locs : List Loc) (ls : Array Slot), rg (a0) 65 122 → GM [] tg σ I ri I ri rq → va_P D vwCl (pq_P t σ (I, J, ri, rj, rq)) H → va_D A (pq_P t σ (I, J, ri, rj, rq)) → va_S A s.heap H locs → lv_has ls 1 [] → W p l e ({ frames := 1, cells := 0, slots := 0, locals := 22 } : Room) s m (List.toArray ([.int a0] : List Value)) below meth c H locs 0 0 Q (F0 m 22 ls []) := by
      intro H locs ls h_40 hG hP hD hS hl
      have uh_40 := h_40.1
      have vh_40 := h_40.2
      refine lv_iconst (v := 1) hx hb dX12_isLetter_22 (by decide) ?_
      refine lv_goto (tgt := 27) hx hb dX12_isLetter_23 (by decide) ?_
      subst hQ
      exact W.zret (v := 1) hx hb hr (by decide) (fun t1 ht hW => ⟨⟨1, (σ, I, J, ri, rj, rq), rfl, ⟨rfl, (Or.inl ⟨rfl, (rg_w h_40 (by decide))⟩)⟩, by rw [ht]; exact hP, va_K.moved hW.alike hK, hD⟩, hS.F ht⟩) hS.2.2 dX12_isLetter_27
    refine lv_if_ne (tgt := 22) hx hb dX12_isLetter_8 (by decide) (fun c_41 => ?_) (fun c_41 => ?_)
    · obtain ⟨f_42, f_43⟩ := (hr_5.resolve_right (fun q => c_41 q.1)).2
      have tc_44 : 97 ≤ (a0).toInt := Int32.le_iff_toInt_le.mp f_42
      have h_45 : rg a0 97 2147483647 := rg_le2 f_42 (rg_k (97 : Int32) 97 rfl) (rg_full _) (by decide)
      have uh_45 := h_45.1
      have vh_45 := h_45.2
      have tc_46 : (a0).toInt ≤ 122 := Int32.le_iff_toInt_le.mp f_43
      have h_47 : rg a0 97 122 := rg_le1 f_43 h_45 (rg_k (122 : Int32) 122 rfl) (by decide)
      have uh_47 := h_47.1
      have vh_47 := h_47.2
      have tc_48 : (x_1).toInt ≠ 0 := fun q => c_41 (Int32.toInt_inj.mp q)
      have h_49 : rg x_1 1 1 := rg_ne c_41 h_6 0 rfl (by decide)
      have uh_49 := h_49.1
      have vh_49 := h_49.2
      exact K_38 _ _ _ (rg_w h_47 (by decide)) hG hP hD hS (lv_sub hl [] rfl)
    · have f_50 := (hr_5.resolve_left (fun q => absurd (q.1.symm.trans c_41) (by decide))).2
      have tc_51 : (x_1).toInt = 0 := congrArg Int32.toInt c_41
      have h_52 : rg x_1 0 0 := rg_and h_6 (rg_of_eq c_41 (rg_k (0 : Int32) 0 rfl)) (by decide)
      have uh_52 := h_52.1
      have vh_52 := h_52.2
      refine lv_iload_n hx hb dX12_isLetter_11 rfl (lv_at hl 0 rfl) ?_
      refine lv_bipush (v := 65) hx hb dX12_isLetter_12 (by decide) ?_
      refine lv_bipush (v := 90) hx hb dX12_isLetter_14 (by decide) ?_
      refine pk_i (va_runS (As := [.int a0, .int 65, .int 90]) (rest := []) ⟨hx, hb, hml, hown, hts⟩ (s_X12_isIn l D t σ I J ri rj rq H.size tg hSH hG.1 a0 (65 : Int32) (90 : Int32)) (va_cwS 3 hts (tw_S tw_235 tw_236 tw_5 tw_237) rfl rfl rfl (by decide +kernel) ⟨Nat.le_of_ble_eq_true rfl, Nat.le_of_ble_eq_true rfl⟩) ⟨pq_blind, pq_pre hK hN hP hD⟩ rfl rfl hl.1 rfl (lv_room (Nat.le_of_ble_eq_true rfl)) dX12_isLetter_16 ⟨Nat.le_of_ble_eq_true rfl, Nat.le_of_ble_eq_true rfl⟩) hD hS hA (fun x_53 σ1 μ1 H locs hw_54 hP hD hS => ?_)
      obtain ⟨hu_55, hr_57⟩ := hw_54
      obtain ⟨hu_55a, hu_55b⟩ := Prod.mk.inj hu_55
      rw [hu_55a, hu_55b] at hP hD
      have h_58 : rg x_53 0 1 := by rcases hr_57 with ⟨q, -⟩ | ⟨q, -⟩ <;> rw [q] <;> exact ⟨by decide, by decide⟩
      have uh_58 := h_58.1
      have vh_58 := h_58.2
      refine lv_if_eq (tgt := 26) hx hb dX12_isLetter_19 (by decide) (fun c_59 => ?_) (fun c_59 => ?_)
      · have f_60 := (hr_57.resolve_left (fun q => absurd (q.1.symm.trans c_59) (by decide))).2
        have tc_61 : (x_53).toInt = 0 := congrArg Int32.toInt c_59
        have h_62 : rg x_53 0 0 := rg_and h_58 (rg_of_eq c_59 (rg_k (0 : Int32) 0 rfl)) (by decide)
        have uh_62 := h_62.1
        have vh_62 := h_62.2
        refine lv_iconst (v := 0) hx hb dX12_isLetter_26 (by decide) ?_
        subst hQ
        exact W.zret (v := 0) hx hb hr (by decide) (fun t1 ht hW => ⟨⟨0, (σ, I, J, ri, rj, rq), rfl, ⟨rfl, (Or.inr ⟨rfl, trivial⟩)⟩, by rw [ht]; exact hP, va_K.moved hW.alike hK, hD⟩, hS.F ht⟩) hS.2.2 dX12_isLetter_27
      · obtain ⟨f_63, f_64⟩ := (hr_57.resolve_right (fun q => c_59 q.1)).2
        have tc_65 : 65 ≤ (a0).toInt := Int32.le_iff_toInt_le.mp f_63
        have h_66 : rg a0 65 2147483647 := rg_le2 f_63 (rg_k (65 : Int32) 65 rfl) (rg_full _) (by decide)
        have uh_66 := h_66.1
        have vh_66 := h_66.2
        have tc_67 : (a0).toInt ≤ 90 := Int32.le_iff_toInt_le.mp f_64
        have h_68 : rg a0 65 90 := rg_le1 f_64 h_66 (rg_k (90 : Int32) 90 rfl) (by decide)
        have uh_68 := h_68.1
        have vh_68 := h_68.2
        have tc_69 : (x_53).toInt ≠ 0 := fun q => c_59 (Int32.toInt_inj.mp q)
        have h_70 : rg x_53 1 1 := rg_ne c_59 h_58 0 rfl (by decide)
        have uh_70 := h_70.1
        have vh_70 := h_70.2
        exact K_38 _ _ _ (rg_w h_68 (by decide)) hG hP hD hS (lv_sub hl [] rfl)
  exact go _ _ _ hP hD hS hl

set_option maxHeartbeats 4000000 in
set_option maxRecDepth 100000 in
theorem s_X12_isDigit (l : Launch) (D : va_G) (t : pq_T) (σ : pq_S) (I : Nat → Nat → Int32) (J : Nat → Nat → Int64) (ri : Nat → Nat → Int32) (rj : Nat → Nat → Int64) (rq : Nat → Nat → Option Nat) (sz : Nat) (tg : Nat → Nat) (hSH : SH σ tg) (hG0 : GT tg I ri) (a0 : Int32) : MetI l yX12_isDigit (wa yX12_isDigit cX12_isDigit 1 (some .boolean)) ({ frames := 1, cells := 0, slots := 0, locals := 22 }) [.int a0] D t σ (I, J, ri, rj, rq) sz 0 0 (fun (r : Int32) (u : pq_S × pq_M) => u = (σ, I, J, ri, rj, rq) ∧ ((r = 1 ∧ rg a0 48 57) ∨ (r = 0 ∧ True))) := by
  refine Met.ofW (cc := cX12_isDigit) (maxL := 1) (ret := (some .boolean)) (by decide) rfl ?_
  intro p e s m args below meth c s₁ B hml hv
  obtain ⟨rfl, hsz, hP, hK, hD0, hN⟩ := hv
  have hx := B.exec
  have hb := B.bytes
  have hr := B.returns
  have hts := atoms_spec (ws := (wa yX12_isDigit cX12_isDigit 1 (some .boolean))) B.pre
  have hown : s.vm.findClass RX12 = some m.cls := findClass_of_methodNamed B.named
  have hlocks := B.notSynchronized
  subst hsz
  have hD : va_D (pq_B t σ (I, J, ri, rj, rq) s.heap.size) (pq_P t σ (I, J, ri, rj, rq)) := hD0.self
  generalize hAe : pq_B t σ (I, J, ri, rj, rq) s.heap.size = A at hD ⊢
  have hA : ∀ q : Nat, s.heap.size ≤ q → A q := fun q h => by rw [← hAe]; exact Or.inr h
  have hS : va_S A s.heap s.heap [] := va_S.rf
  have hG : GM [] tg σ I ri I ri rq := ⟨hG0, fun _ _ _ => rfl, fun _ _ _ _ _ => rfl, fun _ _ _ _ _ _ => rfl⟩
  have hl := lv_entry ([.int a0]) (n := 1) (Nat.le_of_ble_eq_true rfl)
  rw [lg_entry_eq]
  generalize (lg_sl ([.int a0]) ++ List.replicate (1 - (lg_sl ([.int a0])).length) Slot.unset).toArray = ls at hl ⊢
  have hl : lv_has ls 1 [(0, .int a0)] := hl
  refine q_gen (fun Q hQ => ?_)
  have go : ∀ (H : Heap) (locs : List Loc) (ls : Array Slot), va_P D vwCl (pq_P t σ (I, J, ri, rj, rq)) H → va_D A (pq_P t σ (I, J, ri, rj, rq)) → va_S A s.heap H locs → lv_has ls 1 [(0, .int a0)] → W p l e ({ frames := 1, cells := 0, slots := 0, locals := 22 } : Room) s m (List.toArray ([.int a0] : List Value)) below meth c H locs 0 0 Q (F0 m 0 ls []) := by
    intro H locs ls hP hD hS hl
    refine lv_iload_n hx hb dX12_isDigit_0 rfl (lv_at hl 0 rfl) ?_
    refine lv_bipush (v := 48) hx hb dX12_isDigit_1 (by decide) ?_
    refine lv_bipush (v := 57) hx hb dX12_isDigit_3 (by decide) ?_
    refine pk_i (va_runS (As := [.int a0, .int 48, .int 57]) (rest := []) ⟨hx, hb, hml, hown, hts⟩ (s_X12_isIn l D t σ I J ri rj rq H.size tg hSH hG.1 a0 (48 : Int32) (57 : Int32)) (va_cwS 3 hts (tw_S tw_235 tw_236 tw_5 tw_237) rfl rfl rfl (by decide +kernel) ⟨Nat.le_of_ble_eq_true rfl, Nat.le_of_ble_eq_true rfl⟩) ⟨pq_blind, pq_pre hK hN hP hD⟩ rfl rfl hl.1 rfl (lv_room (Nat.le_of_ble_eq_true rfl)) dX12_isDigit_5 ⟨Nat.le_of_ble_eq_true rfl, Nat.le_of_ble_eq_true rfl⟩) hD hS hA (fun x_1 σ1 μ1 H locs hw_2 hP hD hS => ?_)
    obtain ⟨hu_3, hr_5⟩ := hw_2
    obtain ⟨hu_3a, hu_3b⟩ := Prod.mk.inj hu_3
    rw [hu_3a, hu_3b] at hP hD
    have h_6 : rg x_1 0 1 := by rcases hr_5 with ⟨q, -⟩ | ⟨q, -⟩ <;> rw [q] <;> exact ⟨by decide, by decide⟩
    have uh_6 := h_6.1
    have vh_6 := h_6.2
    rcases hr_5 with ⟨e_10, f_7, f_8⟩ | ⟨e_10, f_9⟩
    · refine lv_tov 1 e_10 ?_
      have tc_11 : 48 ≤ (a0).toInt := Int32.le_iff_toInt_le.mp f_7
      have h_12 : rg a0 48 2147483647 := rg_le2 f_7 (rg_k (48 : Int32) 48 rfl) (rg_full _) (by decide)
      have uh_12 := h_12.1
      have vh_12 := h_12.2
      have tc_13 : (a0).toInt ≤ 57 := Int32.le_iff_toInt_le.mp f_8
      have h_14 : rg a0 48 57 := rg_le1 f_8 h_12 (rg_k (57 : Int32) 57 rfl) (by decide)
      have uh_14 := h_14.1
      have vh_14 := h_14.2
      subst hQ
      exact W.zret (v := 1) hx hb hr (by decide) (fun t1 ht hW => ⟨⟨1, (σ, I, J, ri, rj, rq), rfl, ⟨rfl, (Or.inl ⟨rfl, (rg_w h_14 (by decide))⟩)⟩, by rw [ht]; exact hP, va_K.moved hW.alike hK, hD⟩, hS.F ht⟩) hS.2.2 dX12_isDigit_8
    · refine lv_tov 0 e_10 ?_
      subst hQ
      exact W.zret (v := 0) hx hb hr (by decide) (fun t1 ht hW => ⟨⟨0, (σ, I, J, ri, rj, rq), rfl, ⟨rfl, (Or.inr ⟨rfl, trivial⟩)⟩, by rw [ht]; exact hP, va_K.moved hW.alike hK, hD⟩, hS.F ht⟩) hS.2.2 dX12_isDigit_8
  exact go _ _ _ hP hD hS hl

set_option maxHeartbeats 4000000 in
set_option maxRecDepth 100000 in
theorem s_X12_nextToken (l : Launch) (D : va_G) (t : pq_T) (σ : pq_S) (I : Nat → Nat → Int32) (J : Nat → Nat → Int64) (ri : Nat → Nat → Int32) (rj : Nat → Nat → Int64) (rq : Nat → Nat → Option Nat) (sz : Nat) (tg : Nat → Nat) (hSH : SH σ tg) (hG0 : GT tg I ri) (this : Nat) (hL_this : this ∈ σ.1) (hK_this : σ.2.1 this = 12) : MetV l yX12_nextToken (wa yX12_nextToken cX12_nextToken 3 none) ({ frames := 2, cells := 0, slots := 0, locals := 42 }) [.ref this] D t σ (I, J, ri, rj, rq) sz 0 0 (fun (u : pq_S × pq_M) => ∃ I' : Nat → Nat → Int32, ∃ J' : Nat → Nat → Int64, u = (σ, I', J', ri, rj, rq) ∧ GM [391, 392, 393] tg σ I ri I' ri rq) := by
  refine Met.ofW (cc := cX12_nextToken) (maxL := 3) (ret := none) (by decide) rfl ?_
  intro p e s m args below meth c s₁ B hml hv
  obtain ⟨rfl, hsz, hP, hK, hD0, hN⟩ := hv
  have hx := B.exec
  have hb := B.bytes
  have hr := B.returns
  have hts := atoms_spec (ws := (wa yX12_nextToken cX12_nextToken 3 none)) B.pre
  have hown : s.vm.findClass RX12 = some m.cls := findClass_of_methodNamed B.named
  have hlocks := B.notSynchronized
  subst hsz
  have hD : va_D (pq_B t σ (I, J, ri, rj, rq) s.heap.size) (pq_P t σ (I, J, ri, rj, rq)) := hD0.self
  generalize hAe : pq_B t σ (I, J, ri, rj, rq) s.heap.size = A at hD ⊢
  have hA : ∀ q : Nat, s.heap.size ≤ q → A q := fun q h => by rw [← hAe]; exact Or.inr h
  have hS : va_S A s.heap s.heap [] := va_S.rf
  have hG : GM [391, 392, 393] tg σ I ri I ri rq := ⟨hG0, fun _ _ _ => rfl, fun _ _ _ _ _ => rfl, fun _ _ _ _ _ _ => rfl⟩
  have hl := lv_entry ([.ref this]) (n := 3) (Nat.le_of_ble_eq_true rfl)
  rw [lg_entry_eq]
  generalize (lg_sl ([.ref this]) ++ List.replicate (3 - (lg_sl ([.ref this])).length) Slot.unset).toArray = ls at hl ⊢
  have hl : lv_has ls 3 [(0, .ref this)] := hl
  refine q_gen (fun Q hQ => ?_)
  have go : ∀ (H : Heap) (locs : List Loc) (ls : Array Slot), va_P D vwCl (pq_P t σ (I, J, ri, rj, rq)) H → va_D A (pq_P t σ (I, J, ri, rj, rq)) → va_S A s.heap H locs → lv_has ls 3 [(0, .ref this)] → W p l e ({ frames := 2, cells := 0, slots := 0, locals := 42 } : Room) s m (List.toArray ([.ref this] : List Value)) below meth c H locs 0 0 Q (F0 m 0 ls []) := by
    intro H locs ls hP hD hS hl
    refine lv_aload_n hx hb dX12_nextToken_0 rfl (lv_at hl 0 rfl) ?_
    refine lv_aload_n hx hb dX12_nextToken_1 rfl (lv_at hl 0 rfl) ?_
    refine pg_f (v := .int (I 391 this)) (C := RX12) (T := TX12) (N := 31) hx hb hts (tw_i inlX12) hown hK hP hL_this hK_this (by decide) rfl 7 (by decide) (hts _ (tw_c tw_830)) rfl dX12_nextToken_2 ?_
    have h_1 : rg (I 391 this) 0 300 := GM.rI hG 391 rfl
    have uh_1 := h_1.1
    have vh_1 := h_1.2
    refine pk_i (va_runV (As := [.int (I 391 this)]) (rest := []) ⟨hx, hb, hml, hown, hts⟩ (s_X12_see l D t σ I J ri rj rq H.size tg hSH hG.1 this (I 391 this) hL_this hK_this (rg_w h_1 (by decide))) (cwV 1 hts (tw_V tw_839 tw_840 tw_841 tw_5 tw_842) rfl rfl rfl (by decide +kernel) ⟨Nat.le_of_ble_eq_true rfl, Nat.le_of_ble_eq_true rfl⟩) ⟨pq_blind, pq_recv hK hP hL_this hK_this (by decide) rfl, pq_pre hK hN hP hD⟩ rfl rfl hl.1 rfl (lv_room (Nat.le_of_ble_eq_true rfl)) dX12_nextToken_5 ⟨Nat.le_of_ble_eq_true rfl, Nat.le_of_ble_eq_true rfl⟩) hD hS hA (fun x_2 σ1 μ1 H locs hw_3 hP hD hS => ?_)
    obtain ⟨hu_4, hp_7, hr_6⟩ := hw_3
    obtain ⟨hu_4a, hu_4b⟩ := Prod.mk.inj hu_4
    rw [hu_4a, hu_4b] at hP hD
    have tt_8 := hp_7
    have tt_9 := (GM.rI hG 388 (a := this) (lo := 0) (hi := 300) rfl).2
    refine lv_bipush (v := 32) hx hb dX12_nextToken_8 (by decide) ?_
    refine lv_icmp_eq (tgt := 26) hx hb dX12_nextToken_10 (by decide) (fun c_10 => ?_) (fun c_10 => ?_)
    · have tc_11 : (x_2).toInt = 32 := congrArg Int32.toInt c_10
      have h_12 : rg x_2 32 32 := rg_and hr_6 (rg_of_eq c_10 (rg_k (32 : Int32) 32 rfl)) (by decide)
      have uh_12 := h_12.1
      have vh_12 := h_12.2
      refine lv_aload_n hx hb dX12_nextToken_26 rfl (lv_at hl 0 rfl) ?_
      refine lv_dup hx hb dX12_nextToken_27 rfl ?_
      refine pg_f (v := .int (I 391 this)) (C := RX12) (T := TX12) (N := 31) hx hb hts (tw_i inlX12) hown hK hP hL_this hK_this (by decide) rfl 7 (by decide) (hts _ (tw_c tw_830)) rfl dX12_nextToken_28 ?_
      refine lv_iconst (v := 1) hx hb dX12_nextToken_31 (by decide) ?_
      have h_13 : rg (I 391 this) 0 299 := ⟨by omega, by omega⟩
      have uh_13 := h_13.1
      have vh_13 := h_13.2
      refine lv_iadd hx hb dX12_nextToken_32 ?_
      refine lv_topi (fun x_14 ex_14 => ?_)
      have h_15 : rg x_14 1 300 := rg_of_eq ex_14 (rg_add h_13 (rg_k (1 : Int32) 1 rfl) (by decide))
      have uh_15 := h_15.1
      have vh_15 := h_15.2
      have tx_14 : (x_14).toInt = (I 391 this).toInt + 1 := by rw [ex_14]; exact i_add_rg (a2 := (I 391 this).toInt) (b2 := 1) rfl rfl h_13 (rg_k (1 : Int32) 1 rfl) (by decide)
      refine pp_i (v := x_14) (ty := .int) (C := RX12) (T := TX12) (N := 31) hx hb hts (tw_i inlX12) tyX12 tyX12_ok nmX12 hown hK hP hD hS hL_this hK_this (by decide) rfl 7 391 (by decide) (hts _ (tw_c tw_830)) rfl (by decide +kernel) rfl rfl (Nat.le_of_ble_eq_true rfl) (ps_391 _ _ _ _ _) dX12_nextToken_33 (fun I_16 H locs eI_16 hP hD hS => ?_)
      have hG := GM.wI hG 391 rfl eI_16 (rg_w h_15 (by decide)) (by decide)
      have tt_17 : (I_16 391 this).toInt = (x_14).toInt := by rw [eI_16, pq_us]
      have tt_18 : (I_16 388 this).toInt = (I 388 this).toInt := by rw [eI_16, pq_uf _ _ _ (by decide)]
      have tt_19 : (I_16 392 this).toInt = (I 392 this).toInt := by rw [eI_16, pq_uf _ _ _ (by decide)]
      refine lv_goto (tgt := 0) hx hb dX12_nextToken_36 (by decide) ?_
      have L_3521 : ∀ (n_3520 : Nat) (I_2644 : Nat → Nat → Int32) (H : Heap) (locs : List Loc) (ls : Array Slot), (300 - (I_2644 391 this).toInt).toNat < n_3520 → GM [391, 392, 393] tg σ I ri I_2644 ri rq → va_P D vwCl (pq_P t σ (I_2644, J, ri, rj, rq)) H → va_D A (pq_P t σ (I_2644, J, ri, rj, rq)) → va_S A s.heap H locs → lv_has ls 3 [(0, .ref this)] → W p l e ({ frames := 2, cells := 0, slots := 0, locals := 42 } : Room) s m (List.toArray ([.ref this] : List Value)) below meth c H locs 0 0 Q (F0 m 0 ls []) := by
        intro n_3520
        induction n_3520 with
        | zero => intro I_2644 H locs ls hm_3519 hG hP hD hS hl; exact absurd hm_3519 (Nat.not_lt_zero _)
        | succ n_3520 ih_3522 =>
          intro I_2644 H locs ls hm_3519 hG hP hD hS hl
          refine lv_aload_n hx hb dX12_nextToken_0 rfl (lv_at hl 0 rfl) ?_
          refine lv_aload_n hx hb dX12_nextToken_1 rfl (lv_at hl 0 rfl) ?_
          refine pg_f (v := .int (I_2644 391 this)) (C := RX12) (T := TX12) (N := 31) hx hb hts (tw_i inlX12) hown hK hP hL_this hK_this (by decide) rfl 7 (by decide) (hts _ (tw_c tw_830)) rfl dX12_nextToken_2 ?_
          have h_3523 : rg (I_2644 391 this) 0 300 := GM.rI hG 391 rfl
          have uh_3523 := h_3523.1
          have vh_3523 := h_3523.2
          refine pk_i (va_runV (As := [.int (I_2644 391 this)]) (rest := []) ⟨hx, hb, hml, hown, hts⟩ (s_X12_see l D t σ I_2644 J ri rj rq H.size tg hSH hG.1 this (I_2644 391 this) hL_this hK_this (rg_w h_3523 (by decide))) (cwV 1 hts (tw_V tw_839 tw_840 tw_841 tw_5 tw_842) rfl rfl rfl (by decide +kernel) ⟨Nat.le_of_ble_eq_true rfl, Nat.le_of_ble_eq_true rfl⟩) ⟨pq_blind, pq_recv hK hP hL_this hK_this (by decide) rfl, pq_pre hK hN hP hD⟩ rfl rfl hl.1 rfl (lv_room (Nat.le_of_ble_eq_true rfl)) dX12_nextToken_5 ⟨Nat.le_of_ble_eq_true rfl, Nat.le_of_ble_eq_true rfl⟩) hD hS hA (fun x_3524 σ1 μ1 H locs hw_3525 hP hD hS => ?_)
          obtain ⟨hu_3526, hp_3529, hr_3528⟩ := hw_3525
          obtain ⟨hu_3526a, hu_3526b⟩ := Prod.mk.inj hu_3526
          rw [hu_3526a, hu_3526b] at hP hD
          have tt_3530 := hp_3529
          have tt_3531 := (GM.rI hG 388 (a := this) (lo := 0) (hi := 300) rfl).2
          refine lv_bipush (v := 32) hx hb dX12_nextToken_8 (by decide) ?_
          refine lv_icmp_eq (tgt := 26) hx hb dX12_nextToken_10 (by decide) (fun c_3532 => ?_) (fun c_3532 => ?_)
          · have tc_3533 : (x_3524).toInt = 32 := congrArg Int32.toInt c_3532
            have h_3534 : rg x_3524 32 32 := rg_and hr_3528 (rg_of_eq c_3532 (rg_k (32 : Int32) 32 rfl)) (by decide)
            have uh_3534 := h_3534.1
            have vh_3534 := h_3534.2
            refine lv_aload_n hx hb dX12_nextToken_26 rfl (lv_at hl 0 rfl) ?_
            refine lv_dup hx hb dX12_nextToken_27 rfl ?_
            refine pg_f (v := .int (I_2644 391 this)) (C := RX12) (T := TX12) (N := 31) hx hb hts (tw_i inlX12) hown hK hP hL_this hK_this (by decide) rfl 7 (by decide) (hts _ (tw_c tw_830)) rfl dX12_nextToken_28 ?_
            refine lv_iconst (v := 1) hx hb dX12_nextToken_31 (by decide) ?_
            have h_3535 : rg (I_2644 391 this) 0 299 := ⟨by omega, by omega⟩
            have uh_3535 := h_3535.1
            have vh_3535 := h_3535.2
            refine lv_iadd hx hb dX12_nextToken_32 ?_
            refine lv_topi (fun x_3536 ex_3536 => ?_)
            have h_3537 : rg x_3536 1 300 := rg_of_eq ex_3536 (rg_add h_3535 (rg_k (1 : Int32) 1 rfl) (by decide))
            have uh_3537 := h_3537.1
            have vh_3537 := h_3537.2
            have tx_3536 : (x_3536).toInt = (I_2644 391 this).toInt + 1 := by rw [ex_3536]; exact i_add_rg (a2 := (I_2644 391 this).toInt) (b2 := 1) rfl rfl h_3535 (rg_k (1 : Int32) 1 rfl) (by decide)
            refine pp_i (v := x_3536) (ty := .int) (C := RX12) (T := TX12) (N := 31) hx hb hts (tw_i inlX12) tyX12 tyX12_ok nmX12 hown hK hP hD hS hL_this hK_this (by decide) rfl 7 391 (by decide) (hts _ (tw_c tw_830)) rfl (by decide +kernel) rfl rfl (Nat.le_of_ble_eq_true rfl) (ps_391 _ _ _ _ _) dX12_nextToken_33 (fun I_3538 H locs eI_3538 hP hD hS => ?_)
            have hG := GM.wI hG 391 rfl eI_3538 (rg_w h_3537 (by decide)) (by decide)
            have tt_3539 : (I_3538 391 this).toInt = (x_3536).toInt := by rw [eI_3538, pq_us]
            have tt_3540 : (I_3538 388 this).toInt = (I_2644 388 this).toInt := by rw [eI_3538, pq_uf _ _ _ (by decide)]
            have tt_3541 : (I_3538 392 this).toInt = (I_2644 392 this).toInt := by rw [eI_3538, pq_uf _ _ _ (by decide)]
            refine lv_goto (tgt := 0) hx hb dX12_nextToken_36 (by decide) ?_
            exact ih_3522 I_3538 _ _ _ (ms_fu_iadd hm_3519 (by rw [eI_3538]; exact pq_us _ _ _ _) ex_3536 rfl (kk := 1) rfl (by decide) h_3535 (by decide) (by decide)) hG hP hD hS (lv_sub hl [0] rfl)
          · have tc_3542 : (x_3524).toInt ≠ 32 := fun q => c_3532 (Int32.toInt_inj.mp q)
            refine lv_aload_n hx hb dX12_nextToken_13 rfl (lv_at hl 0 rfl) ?_
            refine lv_aload_n hx hb dX12_nextToken_14 rfl (lv_at hl 0 rfl) ?_
            refine pg_f (v := .int (I_2644 391 this)) (C := RX12) (T := TX12) (N := 31) hx hb hts (tw_i inlX12) hown hK hP hL_this hK_this (by decide) rfl 7 (by decide) (hts _ (tw_c tw_830)) rfl dX12_nextToken_15 ?_
            refine pk_i (va_runV (As := [.int (I_2644 391 this)]) (rest := []) ⟨hx, hb, hml, hown, hts⟩ (s_X12_see l D t σ I_2644 J ri rj rq H.size tg hSH hG.1 this (I_2644 391 this) hL_this hK_this (rg_w h_3523 (by decide))) (cwV 1 hts (tw_V tw_839 tw_840 tw_841 tw_5 tw_842) rfl rfl rfl (by decide +kernel) ⟨Nat.le_of_ble_eq_true rfl, Nat.le_of_ble_eq_true rfl⟩) ⟨pq_blind, pq_recv hK hP hL_this hK_this (by decide) rfl, pq_pre hK hN hP hD⟩ rfl rfl hl.1 rfl (lv_room (Nat.le_of_ble_eq_true rfl)) dX12_nextToken_18 ⟨Nat.le_of_ble_eq_true rfl, Nat.le_of_ble_eq_true rfl⟩) hD hS hA (fun x_3543 σ1 μ1 H locs hw_3544 hP hD hS => ?_)
            obtain ⟨hu_3545, hp_3548, hr_3547⟩ := hw_3544
            obtain ⟨hu_3545a, hu_3545b⟩ := Prod.mk.inj hu_3545
            rw [hu_3545a, hu_3545b] at hP hD
            have tt_3549 := hp_3548
            have tt_3550 := (GM.rI hG 388 (a := this) (lo := 0) (hi := 300) rfl).2
            refine lv_bipush (v := 10) hx hb dX12_nextToken_21 (by decide) ?_
            refine lv_icmp_ne (tgt := 39) hx hb dX12_nextToken_23 (by decide) (fun c_3551 => ?_) (fun c_3551 => ?_)
            · have tc_3552 : (x_3543).toInt ≠ 10 := fun q => c_3551 (Int32.toInt_inj.mp q)
              refine lv_aload_n hx hb dX12_nextToken_39 rfl (lv_at hl 0 rfl) ?_
              refine lv_aload_n hx hb dX12_nextToken_40 rfl (lv_at hl 0 rfl) ?_
              refine pg_f (v := .int (I_2644 391 this)) (C := RX12) (T := TX12) (N := 31) hx hb hts (tw_i inlX12) hown hK hP hL_this hK_this (by decide) rfl 7 (by decide) (hts _ (tw_c tw_830)) rfl dX12_nextToken_41 ?_
              refine pp_i (v := (I_2644 391 this)) (ty := .int) (C := RX12) (T := TX12) (N := 31) hx hb hts (tw_i inlX12) tyX12 tyX12_ok nmX12 hown hK hP hD hS hL_this hK_this (by decide) rfl 8 392 (by decide) (hts _ (tw_c tw_820)) rfl (by decide +kernel) rfl rfl (Nat.le_of_ble_eq_true rfl) (ps_392 _ _ _ _ _) dX12_nextToken_44 (fun I_3553 H locs eI_3553 hP hD hS => ?_)
              have hG := GM.wI hG 392 rfl eI_3553 (rg_w h_3523 (by decide)) (by decide)
              have tt_3554 : (I_3553 391 this).toInt = (I_2644 391 this).toInt := by rw [eI_3553, pq_uf _ _ _ (by decide)]
              have tt_3555 : (I_3553 388 this).toInt = (I_2644 388 this).toInt := by rw [eI_3553, pq_uf _ _ _ (by decide)]
              have tt_3556 : (I_3553 392 this).toInt = (I_2644 391 this).toInt := by rw [eI_3553, pq_us]
              refine lv_aload_n hx hb dX12_nextToken_47 rfl (lv_at hl 0 rfl) ?_
              refine lv_aload_n hx hb dX12_nextToken_48 rfl (lv_at hl 0 rfl) ?_
              refine pg_f (v := .int (I_3553 391 this)) (C := RX12) (T := TX12) (N := 31) hx hb hts (tw_i inlX12) hown hK hP hL_this hK_this (by decide) rfl 7 (by decide) (hts _ (tw_c tw_830)) rfl dX12_nextToken_49 ?_
              have h_3557 : rg (I_3553 391 this) 0 300 := GM.rI hG 391 rfl
              have uh_3557 := h_3557.1
              have vh_3557 := h_3557.2
              refine pk_i (va_runV (As := [.int (I_3553 391 this)]) (rest := []) ⟨hx, hb, hml, hown, hts⟩ (s_X12_see l D t σ I_3553 J ri rj rq H.size tg hSH hG.1 this (I_3553 391 this) hL_this hK_this (rg_w h_3557 (by decide))) (cwV 1 hts (tw_V tw_839 tw_840 tw_841 tw_5 tw_842) rfl rfl rfl (by decide +kernel) ⟨Nat.le_of_ble_eq_true rfl, Nat.le_of_ble_eq_true rfl⟩) ⟨pq_blind, pq_recv hK hP hL_this hK_this (by decide) rfl, pq_pre hK hN hP hD⟩ rfl rfl hl.1 rfl (lv_room (Nat.le_of_ble_eq_true rfl)) dX12_nextToken_52 ⟨Nat.le_of_ble_eq_true rfl, Nat.le_of_ble_eq_true rfl⟩) hD hS hA (fun x_3558 σ1 μ1 H locs hw_3559 hP hD hS => ?_)
              obtain ⟨hu_3560, hp_3563, hr_3562⟩ := hw_3559
              obtain ⟨hu_3560a, hu_3560b⟩ := Prod.mk.inj hu_3560
              rw [hu_3560a, hu_3560b] at hP hD
              have tt_3564 := hp_3563
              have tt_3565 := (GM.rI hG 388 (a := this) (lo := 0) (hi := 300) rfl).2
              refine lv_istore_n (lv' := [(1, .int x_3558), (0, .ref this)]) hx hb dX12_nextToken_55 rfl hl (by decide) rfl (fun ls hl => ?_)
              refine lv_iload_n hx hb dX12_nextToken_56 rfl (lv_at hl 0 rfl) ?_
              refine lv_if_ge (tgt := 68) hx hb dX12_nextToken_57 (by decide) (fun c_3566 => ?_) (fun c_3566 => ?_)
              · have tc_3567 : 0 ≤ (x_3558).toInt := Int32.le_iff_toInt_le.mp c_3566
                have h_3568 : rg x_3558 0 255 := rg_le2 c_3566 (rg_k (0 : Int32) 0 rfl) hr_3562 (by decide)
                have uh_3568 := h_3568.1
                have vh_3568 := h_3568.2
                refine lv_iload_n hx hb dX12_nextToken_68 rfl (lv_at hl 0 rfl) ?_
                refine pk_i (va_runS (As := [.int x_3558]) (rest := []) ⟨hx, hb, hml, hown, hts⟩ (s_X12_isDigit l D t σ I_3553 J ri rj rq H.size tg hSH hG.1 x_3558) (va_cwS 1 hts (tw_S tw_843 tw_844 tw_5 tw_845) rfl rfl rfl (by decide +kernel) ⟨Nat.le_of_ble_eq_true rfl, Nat.le_of_ble_eq_true rfl⟩) ⟨pq_blind, pq_pre hK hN hP hD⟩ rfl rfl hl.1 rfl (lv_room (Nat.le_of_ble_eq_true rfl)) dX12_nextToken_69 ⟨Nat.le_of_ble_eq_true rfl, Nat.le_of_ble_eq_true rfl⟩) hD hS hA (fun x_3569 σ1 μ1 H locs hw_3570 hP hD hS => ?_)
                obtain ⟨hu_3571, hr_3573⟩ := hw_3570
                obtain ⟨hu_3571a, hu_3571b⟩ := Prod.mk.inj hu_3571
                rw [hu_3571a, hu_3571b] at hP hD
                have h_3574 : rg x_3569 0 1 := by rcases hr_3573 with ⟨q, -⟩ | ⟨q, -⟩ <;> rw [q] <;> exact ⟨by decide, by decide⟩
                have uh_3574 := h_3574.1
                have vh_3574 := h_3574.2
                refine lv_if_eq (tgt := 144) hx hb dX12_nextToken_72 (by decide) (fun c_3575 => ?_) (fun c_3575 => ?_)
                · have f_3576 := (hr_3573.resolve_left (fun q => absurd (q.1.symm.trans c_3575) (by decide))).2
                  have tc_3577 : (x_3569).toInt = 0 := congrArg Int32.toInt c_3575
                  have h_3578 : rg x_3569 0 0 := rg_and h_3574 (rg_of_eq c_3575 (rg_k (0 : Int32) 0 rfl)) (by decide)
                  have uh_3578 := h_3578.1
                  have vh_3578 := h_3578.2
                  refine lv_iload_n hx hb dX12_nextToken_144 rfl (lv_at hl 0 rfl) ?_
                  refine pk_i (va_runS (As := [.int x_3558]) (rest := []) ⟨hx, hb, hml, hown, hts⟩ (s_X12_isLetter l D t σ I_3553 J ri rj rq H.size tg hSH hG.1 x_3558) (va_cwS 1 hts (tw_S tw_846 tw_847 tw_5 tw_848) rfl rfl rfl (by decide +kernel) ⟨Nat.le_of_ble_eq_true rfl, Nat.le_of_ble_eq_true rfl⟩) ⟨pq_blind, pq_pre hK hN hP hD⟩ rfl rfl hl.1 rfl (lv_room (Nat.le_of_ble_eq_true rfl)) dX12_nextToken_145 ⟨Nat.le_of_ble_eq_true rfl, Nat.le_of_ble_eq_true rfl⟩) hD hS hA (fun x_3579 σ1 μ1 H locs hw_3580 hP hD hS => ?_)
                  obtain ⟨hu_3581, hr_3583⟩ := hw_3580
                  obtain ⟨hu_3581a, hu_3581b⟩ := Prod.mk.inj hu_3581
                  rw [hu_3581a, hu_3581b] at hP hD
                  have h_3584 : rg x_3579 0 1 := by rcases hr_3583 with ⟨q, -⟩ | ⟨q, -⟩ <;> rw [q] <;> exact ⟨by decide, by decide⟩
                  have uh_3584 := h_3584.1
                  have vh_3584 := h_3584.2
                  refine lv_if_eq (tgt := 245) hx hb dX12_nextToken_148 (by decide) (fun c_3585 => ?_) (fun c_3585 => ?_)
                  · have f_3586 := (hr_3583.resolve_left (fun q => absurd (q.1.symm.trans c_3585) (by decide))).2
                    have tc_3587 : (x_3579).toInt = 0 := congrArg Int32.toInt c_3585
                    have h_3588 : rg x_3579 0 0 := rg_and h_3584 (rg_of_eq c_3585 (rg_k (0 : Int32) 0 rfl)) (by decide)
                    have uh_3588 := h_3588.1
                    have vh_3588 := h_3588.2
                    refine lv_aload_n hx hb dX12_nextToken_245 rfl (lv_at hl 1 rfl) ?_
                    refine lv_dup hx hb dX12_nextToken_246 rfl ?_
                    refine pg_f (v := .int (I_3553 391 this)) (C := RX12) (T := TX12) (N := 31) hx hb hts (tw_i inlX12) hown hK hP hL_this hK_this (by decide) rfl 7 (by decide) (hts _ (tw_c tw_830)) rfl dX12_nextToken_247 ?_
                    refine lv_iconst (v := 1) hx hb dX12_nextToken_250 (by decide) ?_
                    have h_3589 : rg (I_3553 391 this) 0 299 := ⟨by omega, by omega⟩
                    have uh_3589 := h_3589.1
                    have vh_3589 := h_3589.2
                    refine lv_iadd hx hb dX12_nextToken_251 ?_
                    refine lv_topi (fun x_3590 ex_3590 => ?_)
                    have h_3591 : rg x_3590 1 300 := rg_of_eq ex_3590 (rg_add h_3589 (rg_k (1 : Int32) 1 rfl) (by decide))
                    have uh_3591 := h_3591.1
                    have vh_3591 := h_3591.2
                    have tx_3590 : (x_3590).toInt = (I_3553 391 this).toInt + 1 := by rw [ex_3590]; exact i_add_rg (a2 := (I_3553 391 this).toInt) (b2 := 1) rfl rfl h_3589 (rg_k (1 : Int32) 1 rfl) (by decide)
                    refine pp_i (v := x_3590) (ty := .int) (C := RX12) (T := TX12) (N := 31) hx hb hts (tw_i inlX12) tyX12 tyX12_ok nmX12 hown hK hP hD hS hL_this hK_this (by decide) rfl 7 391 (by decide) (hts _ (tw_c tw_830)) rfl (by decide +kernel) rfl rfl (Nat.le_of_ble_eq_true rfl) (ps_391 _ _ _ _ _) dX12_nextToken_252 (fun I_3592 H locs eI_3592 hP hD hS => ?_)
                    have hG := GM.wI hG 391 rfl eI_3592 (rg_w h_3591 (by decide)) (by decide)
                    have tt_3593 : (I_3592 391 this).toInt = (x_3590).toInt := by rw [eI_3592, pq_us]
                    have tt_3594 : (I_3592 388 this).toInt = (I_3553 388 this).toInt := by rw [eI_3592, pq_uf _ _ _ (by decide)]
                    have tt_3595 : (I_3592 392 this).toInt = (I_3553 392 this).toInt := by rw [eI_3592, pq_uf _ _ _ (by decide)]
                    refine lv_iload_n hx hb dX12_nextToken_255 rfl (lv_at hl 0 rfl) ?_
                    refine lv_bipush (v := 60) hx hb dX12_nextToken_256 (by decide) ?_
                    have K_3745 : ∀  (H : Heap) (locs : List Loc) (ls : Array Slot), GM [391, 392, 393] tg σ I ri I_3592 ri rq → va_P D vwCl (pq_P t σ (I_3592, J, ri, rj, rq)) H → va_D A (pq_P t σ (I_3592, J, ri, rj, rq)) → va_S A s.heap H locs → lv_has ls 3 [(0, .ref this), (1, .int x_3558)] → W p l e ({ frames := 2, cells := 0, slots := 0, locals := 42 } : Room) s m (List.toArray ([.ref this] : List Value)) below meth c H locs 0 0 Q (F0 m 332 ls [.int 0]) := by
                      intro H locs ls hG hP hD hS hl
                      refine lv_istore_n (lv' := [(2, .int 0), (0, .ref this), (1, .int x_3558)]) hx hb dX12_nextToken_332 rfl hl (by decide) rfl (fun ls hl => ?_)
                      refine lv_aload_n hx hb dX12_nextToken_333 rfl (lv_at hl 1 rfl) ?_
                      refine lv_iload_n hx hb dX12_nextToken_334 rfl (lv_at hl 0 rfl) ?_
                      have K_3795 : ∀  (H : Heap) (locs : List Loc) (ls : Array Slot), GM [391, 392, 393] tg σ I ri I_3592 ri rq → va_P D vwCl (pq_P t σ (I_3592, J, ri, rj, rq)) H → va_D A (pq_P t σ (I_3592, J, ri, rj, rq)) → va_S A s.heap H locs → lv_has ls 3 [(0, .ref this), (1, .int x_3558)] → W p l e ({ frames := 2, cells := 0, slots := 0, locals := 42 } : Room) s m (List.toArray ([.ref this] : List Value)) below meth c H locs 0 0 Q (F0 m 343 ls [.int 3, .ref this]) := by
                        intro H locs ls hG hP hD hS hl
                        refine pp_i (v := 3) (ty := .int) (C := RX12) (T := TX12) (N := 31) hx hb hts (tw_i inlX12) tyX12 tyX12_ok nmX12 hown hK hP hD hS hL_this hK_this (by decide) rfl 9 393 (by decide) (hts _ (tw_c tw_831)) rfl (by decide +kernel) rfl rfl (Nat.le_of_ble_eq_true rfl) (ps_393 _ _ _ _ _) dX12_nextToken_343 (fun I_3796 H locs eI_3796 hP hD hS => ?_)
                        have hG := GM.wI hG 393 rfl eI_3796 (rg_w (rg_k (3 : Int32) 3 rfl) (by decide)) (by decide)
                        have tt_3797 : (I_3796 391 this).toInt = (I_3592 391 this).toInt := by rw [eI_3796, pq_uf _ _ _ (by decide)]
                        have tt_3798 : (I_3796 388 this).toInt = (I_3592 388 this).toInt := by rw [eI_3796, pq_uf _ _ _ (by decide)]
                        have tt_3799 : (I_3796 392 this).toInt = (I_3592 392 this).toInt := by rw [eI_3796, pq_uf _ _ _ (by decide)]
                        refine lv_iload_n hx hb dX12_nextToken_346 rfl (lv_at hl 1 rfl) ?_
                        refine lv_bipush (v := 60) hx hb dX12_nextToken_347 (by decide) ?_
                        have K_3844 : ∀  (H : Heap) (locs : List Loc) (ls : Array Slot), rg (x_3558) 60 62 → GM [391, 392, 393] tg σ I ri I_3796 ri rq → va_P D vwCl (pq_P t σ (I_3796, J, ri, rj, rq)) H → va_D A (pq_P t σ (I_3796, J, ri, rj, rq)) → va_S A s.heap H locs → lv_has ls 3 [(0, .ref this), (1, .int x_3558)] → W p l e ({ frames := 2, cells := 0, slots := 0, locals := 42 } : Room) s m (List.toArray ([.ref this] : List Value)) below meth c H locs 0 0 Q (F0 m 358 ls []) := by
                          intro H locs ls h_3846 hG hP hD hS hl
                          have uh_3846 := h_3846.1
                          have vh_3846 := h_3846.2
                          refine lv_aload_n hx hb dX12_nextToken_358 rfl (lv_at hl 0 rfl) ?_
                          refine lv_aload_n hx hb dX12_nextToken_359 rfl (lv_at hl 0 rfl) ?_
                          refine pg_f (v := .int (I_3796 391 this)) (C := RX12) (T := TX12) (N := 31) hx hb hts (tw_i inlX12) hown hK hP hL_this hK_this (by decide) rfl 7 (by decide) (hts _ (tw_c tw_830)) rfl dX12_nextToken_360 ?_
                          have h_3847 : rg (I_3796 391 this) 1 300 := (by rw [eI_3796, pq_uf _ _ _ (by decide)]; exact (by rw [eI_3592, pq_us]; exact h_3591))
                          have uh_3847 := h_3847.1
                          have vh_3847 := h_3847.2
                          refine pk_i (va_runV (As := [.int (I_3796 391 this)]) (rest := []) ⟨hx, hb, hml, hown, hts⟩ (s_X12_see l D t σ I_3796 J ri rj rq H.size tg hSH hG.1 this (I_3796 391 this) hL_this hK_this (rg_w h_3847 (by decide))) (cwV 1 hts (tw_V tw_839 tw_840 tw_841 tw_5 tw_842) rfl rfl rfl (by decide +kernel) ⟨Nat.le_of_ble_eq_true rfl, Nat.le_of_ble_eq_true rfl⟩) ⟨pq_blind, pq_recv hK hP hL_this hK_this (by decide) rfl, pq_pre hK hN hP hD⟩ rfl rfl hl.1 rfl (lv_room (Nat.le_of_ble_eq_true rfl)) dX12_nextToken_363 ⟨Nat.le_of_ble_eq_true rfl, Nat.le_of_ble_eq_true rfl⟩) hD hS hA (fun x_3848 σ1 μ1 H locs hw_3849 hP hD hS => ?_)
                          obtain ⟨hu_3850, hp_3853, hr_3852⟩ := hw_3849
                          obtain ⟨hu_3850a, hu_3850b⟩ := Prod.mk.inj hu_3850
                          rw [hu_3850a, hu_3850b] at hP hD
                          have tt_3854 := hp_3853
                          have tt_3855 := (GM.rI hG 388 (a := this) (lo := 0) (hi := 300) rfl).2
                          refine lv_bipush (v := 61) hx hb dX12_nextToken_366 (by decide) ?_
                          refine lv_icmp_ne (tgt := 396) hx hb dX12_nextToken_368 (by decide) (fun c_3856 => ?_) (fun c_3856 => ?_)
                          · have tc_3857 : (x_3848).toInt ≠ 61 := fun q => c_3856 (Int32.toInt_inj.mp q)
                            subst hQ
                            exact W.vret hx hb hr (fun t1 ht hW => ⟨⟨(σ, I_3796, J, ri, rj, rq), rfl, ⟨I_3796, J, rfl, hG⟩, by rw [ht]; exact hP, va_K.moved hW.alike hK, hD⟩, hS.F ht⟩) hS.2.2 dX12_nextToken_396
                          · have tc_3858 : (x_3848).toInt = 61 := congrArg Int32.toInt c_3856
                            have h_3859 : rg x_3848 61 61 := rg_and hr_3852 (rg_of_eq c_3856 (rg_k (61 : Int32) 61 rfl)) (by decide)
                            have uh_3859 := h_3859.1
                            have vh_3859 := h_3859.2
                            refine lv_aload_n hx hb dX12_nextToken_371 rfl (lv_at hl 0 rfl) ?_
                            refine lv_dup hx hb dX12_nextToken_372 rfl ?_
                            refine pg_f (v := .int (I_3796 391 this)) (C := RX12) (T := TX12) (N := 31) hx hb hts (tw_i inlX12) hown hK hP hL_this hK_this (by decide) rfl 7 (by decide) (hts _ (tw_c tw_830)) rfl dX12_nextToken_373 ?_
                            refine lv_iconst (v := 1) hx hb dX12_nextToken_376 (by decide) ?_
                            have h_3860 : rg (I_3796 391 this) 0 299 := ⟨by omega, by omega⟩
                            have uh_3860 := h_3860.1
                            have vh_3860 := h_3860.2
                            refine lv_iadd hx hb dX12_nextToken_377 ?_
                            refine lv_topi (fun x_3861 ex_3861 => ?_)
                            have h_3862 : rg x_3861 1 300 := rg_of_eq ex_3861 (rg_add h_3860 (rg_k (1 : Int32) 1 rfl) (by decide))
                            have uh_3862 := h_3862.1
                            have vh_3862 := h_3862.2
                            have tx_3861 : (x_3861).toInt = (I_3796 391 this).toInt + 1 := by rw [ex_3861]; exact i_add_rg (a2 := (I_3796 391 this).toInt) (b2 := 1) rfl rfl h_3860 (rg_k (1 : Int32) 1 rfl) (by decide)
                            refine pp_i (v := x_3861) (ty := .int) (C := RX12) (T := TX12) (N := 31) hx hb hts (tw_i inlX12) tyX12 tyX12_ok nmX12 hown hK hP hD hS hL_this hK_this (by decide) rfl 7 391 (by decide) (hts _ (tw_c tw_830)) rfl (by decide +kernel) rfl rfl (Nat.le_of_ble_eq_true rfl) (ps_391 _ _ _ _ _) dX12_nextToken_378 (fun I_3863 H locs eI_3863 hP hD hS => ?_)
                            have hG := GM.wI hG 391 rfl eI_3863 (rg_w h_3862 (by decide)) (by decide)
                            have tt_3864 : (I_3863 391 this).toInt = (x_3861).toInt := by rw [eI_3863, pq_us]
                            have tt_3865 : (I_3863 388 this).toInt = (I_3796 388 this).toInt := by rw [eI_3863, pq_uf _ _ _ (by decide)]
                            have tt_3866 : (I_3863 392 this).toInt = (I_3796 392 this).toInt := by rw [eI_3863, pq_uf _ _ _ (by decide)]
                            refine lv_aload_n hx hb dX12_nextToken_381 rfl (lv_at hl 0 rfl) ?_
                            refine lv_iload_n hx hb dX12_nextToken_382 rfl (lv_at hl 1 rfl) ?_
                            refine lv_bipush (v := 60) hx hb dX12_nextToken_383 (by decide) ?_
                            have K_3882 : ∀  (H : Heap) (locs : List Loc) (ls : Array Slot), rg (x_3558) 61 62 → GM [391, 392, 393] tg σ I ri I_3863 ri rq → va_P D vwCl (pq_P t σ (I_3863, J, ri, rj, rq)) H → va_D A (pq_P t σ (I_3863, J, ri, rj, rq)) → va_S A s.heap H locs → lv_has ls 3 [] → W p l e ({ frames := 2, cells := 0, slots := 0, locals := 42 } : Room) s m (List.toArray ([.ref this] : List Value)) below meth c H locs 0 0 Q (F0 m 393 ls [.int 5, .ref this]) := by
                              intro H locs ls h_3884 hG hP hD hS hl
                              have uh_3884 := h_3884.1
                              have vh_3884 := h_3884.2
                              refine pp_i (v := 5) (ty := .int) (C := RX12) (T := TX12) (N := 31) hx hb hts (tw_i inlX12) tyX12 tyX12_ok nmX12 hown hK hP hD hS hL_this hK_this (by decide) rfl 9 393 (by decide) (hts _ (tw_c tw_831)) rfl (by decide +kernel) rfl rfl (Nat.le_of_ble_eq_true rfl) (ps_393 _ _ _ _ _) dX12_nextToken_393 (fun I_3885 H locs eI_3885 hP hD hS => ?_)
                              have hG := GM.wI hG 393 rfl eI_3885 (rg_w (rg_k (5 : Int32) 5 rfl) (by decide)) (by decide)
                              have tt_3886 : (I_3885 391 this).toInt = (I_3863 391 this).toInt := by rw [eI_3885, pq_uf _ _ _ (by decide)]
                              have tt_3887 : (I_3885 388 this).toInt = (I_3863 388 this).toInt := by rw [eI_3885, pq_uf _ _ _ (by decide)]
                              have tt_3888 : (I_3885 392 this).toInt = (I_3863 392 this).toInt := by rw [eI_3885, pq_uf _ _ _ (by decide)]
                              subst hQ
                              exact W.vret hx hb hr (fun t1 ht hW => ⟨⟨(σ, I_3885, J, ri, rj, rq), rfl, ⟨I_3885, J, rfl, hG⟩, by rw [ht]; exact hP, va_K.moved hW.alike hK, hD⟩, hS.F ht⟩) hS.2.2 dX12_nextToken_396
                            have K_3889 : ∀  (H : Heap) (locs : List Loc) (ls : Array Slot), rg (x_3558) 60 60 → GM [391, 392, 393] tg σ I ri I_3863 ri rq → va_P D vwCl (pq_P t σ (I_3863, J, ri, rj, rq)) H → va_D A (pq_P t σ (I_3863, J, ri, rj, rq)) → va_S A s.heap H locs → lv_has ls 3 [] → W p l e ({ frames := 2, cells := 0, slots := 0, locals := 42 } : Room) s m (List.toArray ([.ref this] : List Value)) below meth c H locs 0 0 Q (F0 m 393 ls [.int 4, .ref this]) := by
                              intro H locs ls h_3891 hG hP hD hS hl
                              have uh_3891 := h_3891.1
                              have vh_3891 := h_3891.2
                              refine pp_i (v := 4) (ty := .int) (C := RX12) (T := TX12) (N := 31) hx hb hts (tw_i inlX12) tyX12 tyX12_ok nmX12 hown hK hP hD hS hL_this hK_this (by decide) rfl 9 393 (by decide) (hts _ (tw_c tw_831)) rfl (by decide +kernel) rfl rfl (Nat.le_of_ble_eq_true rfl) (ps_393 _ _ _ _ _) dX12_nextToken_393 (fun I_3892 H locs eI_3892 hP hD hS => ?_)
                              have hG := GM.wI hG 393 rfl eI_3892 (rg_w (rg_k (4 : Int32) 4 rfl) (by decide)) (by decide)
                              have tt_3893 : (I_3892 391 this).toInt = (I_3863 391 this).toInt := by rw [eI_3892, pq_uf _ _ _ (by decide)]
                              have tt_3894 : (I_3892 388 this).toInt = (I_3863 388 this).toInt := by rw [eI_3892, pq_uf _ _ _ (by decide)]
                              have tt_3895 : (I_3892 392 this).toInt = (I_3863 392 this).toInt := by rw [eI_3892, pq_uf _ _ _ (by decide)]
                              subst hQ
                              exact W.vret hx hb hr (fun t1 ht hW => ⟨⟨(σ, I_3892, J, ri, rj, rq), rfl, ⟨I_3892, J, rfl, hG⟩, by rw [ht]; exact hP, va_K.moved hW.alike hK, hD⟩, hS.F ht⟩) hS.2.2 dX12_nextToken_396
                            refine lv_icmp_ne (tgt := 392) hx hb dX12_nextToken_385 (by decide) (fun c_3896 => ?_) (fun c_3896 => ?_)
                            · have tc_3897 : (x_3558).toInt ≠ 60 := fun q => c_3896 (Int32.toInt_inj.mp q)
                              have h_3898 : rg x_3558 61 62 := rg_ne c_3896 h_3846 60 rfl (by decide)
                              have uh_3898 := h_3898.1
                              have vh_3898 := h_3898.2
                              refine lv_iconst (v := 5) hx hb dX12_nextToken_392 (by decide) ?_
                              exact K_3882 _ _ _ (rg_w h_3898 (by decide)) hG hP hD hS (lv_sub hl [] rfl)
                            · have tc_3899 : (x_3558).toInt = 60 := congrArg Int32.toInt c_3896
                              have h_3900 : rg x_3558 60 60 := rg_and h_3846 (rg_of_eq c_3896 (rg_k (60 : Int32) 60 rfl)) (by decide)
                              have uh_3900 := h_3900.1
                              have vh_3900 := h_3900.2
                              refine lv_iconst (v := 4) hx hb dX12_nextToken_388 (by decide) ?_
                              refine lv_goto (tgt := 393) hx hb dX12_nextToken_389 (by decide) ?_
                              exact K_3889 _ _ _ (rg_w h_3900 (by decide)) hG hP hD hS (lv_sub hl [] rfl)
                        refine lv_icmp_eq (tgt := 358) hx hb dX12_nextToken_349 (by decide) (fun c_3901 => ?_) (fun c_3901 => ?_)
                        · have tc_3902 : (x_3558).toInt = 60 := congrArg Int32.toInt c_3901
                          have h_3903 : rg x_3558 60 60 := rg_and h_3568 (rg_of_eq c_3901 (rg_k (60 : Int32) 60 rfl)) (by decide)
                          have uh_3903 := h_3903.1
                          have vh_3903 := h_3903.2
                          exact K_3844 _ _ _ (rg_w h_3903 (by decide)) hG hP hD hS (lv_sub hl [0, 1] rfl)
                        · have tc_3904 : (x_3558).toInt ≠ 60 := fun q => c_3901 (Int32.toInt_inj.mp q)
                          refine lv_iload_n hx hb dX12_nextToken_352 rfl (lv_at hl 1 rfl) ?_
                          refine lv_bipush (v := 62) hx hb dX12_nextToken_353 (by decide) ?_
                          refine lv_icmp_ne (tgt := 396) hx hb dX12_nextToken_355 (by decide) (fun c_3905 => ?_) (fun c_3905 => ?_)
                          · have tc_3906 : (x_3558).toInt ≠ 62 := fun q => c_3905 (Int32.toInt_inj.mp q)
                            subst hQ
                            exact W.vret hx hb hr (fun t1 ht hW => ⟨⟨(σ, I_3796, J, ri, rj, rq), rfl, ⟨I_3796, J, rfl, hG⟩, by rw [ht]; exact hP, va_K.moved hW.alike hK, hD⟩, hS.F ht⟩) hS.2.2 dX12_nextToken_396
                          · have tc_3907 : (x_3558).toInt = 62 := congrArg Int32.toInt c_3905
                            have h_3908 : rg x_3558 62 62 := rg_and h_3568 (rg_of_eq c_3905 (rg_k (62 : Int32) 62 rfl)) (by decide)
                            have uh_3908 := h_3908.1
                            have vh_3908 := h_3908.2
                            exact K_3844 _ _ _ (rg_w h_3908 (by decide)) hG hP hD hS (lv_sub hl [0, 1] rfl)
                      refine lv_if_eq (tgt := 342) hx hb dX12_nextToken_335 (by decide) (fun c_3909 => ?_) (fun c_3909 => absurd c_3909 (by decide))
                      refine lv_iconst (v := 3) hx hb dX12_nextToken_342 (by decide) ?_
                      exact K_3795 _ _ _ hG hP hD hS (lv_sub hl [1, 2] rfl)
                    have K_3910 : ∀  (H : Heap) (locs : List Loc) (ls : Array Slot), rg (x_3558) 35 62 → GM [391, 392, 393] tg σ I ri I_3592 ri rq → va_P D vwCl (pq_P t σ (I_3592, J, ri, rj, rq)) H → va_D A (pq_P t σ (I_3592, J, ri, rj, rq)) → va_S A s.heap H locs → lv_has ls 3 [(0, .ref this), (1, .int x_3558)] → W p l e ({ frames := 2, cells := 0, slots := 0, locals := 42 } : Room) s m (List.toArray ([.ref this] : List Value)) below meth c H locs 0 0 Q (F0 m 332 ls [.int 1]) := by
                      intro H locs ls h_3912 hG hP hD hS hl
                      have uh_3912 := h_3912.1
                      have vh_3912 := h_3912.2
                      refine lv_istore_n (lv' := [(2, .int 1), (0, .ref this), (1, .int x_3558)]) hx hb dX12_nextToken_332 rfl hl (by decide) rfl (fun ls hl => ?_)
                      refine lv_aload_n hx hb dX12_nextToken_333 rfl (lv_at hl 1 rfl) ?_
                      refine lv_iload_n hx hb dX12_nextToken_334 rfl (lv_at hl 0 rfl) ?_
                      have K_3963 : ∀  (H : Heap) (locs : List Loc) (ls : Array Slot), GM [391, 392, 393] tg σ I ri I_3592 ri rq → va_P D vwCl (pq_P t σ (I_3592, J, ri, rj, rq)) H → va_D A (pq_P t σ (I_3592, J, ri, rj, rq)) → va_S A s.heap H locs → lv_has ls 3 [(0, .ref this), (1, .int x_3558)] → W p l e ({ frames := 2, cells := 0, slots := 0, locals := 42 } : Room) s m (List.toArray ([.ref this] : List Value)) below meth c H locs 0 0 Q (F0 m 343 ls [.int x_3558, .ref this]) := by
                        intro H locs ls hG hP hD hS hl
                        refine pp_i (v := x_3558) (ty := .int) (C := RX12) (T := TX12) (N := 31) hx hb hts (tw_i inlX12) tyX12 tyX12_ok nmX12 hown hK hP hD hS hL_this hK_this (by decide) rfl 9 393 (by decide) (hts _ (tw_c tw_831)) rfl (by decide +kernel) rfl rfl (Nat.le_of_ble_eq_true rfl) (ps_393 _ _ _ _ _) dX12_nextToken_343 (fun I_3964 H locs eI_3964 hP hD hS => ?_)
                        have hG := GM.wI hG 393 rfl eI_3964 (rg_w h_3912 (by decide)) (by decide)
                        have tt_3965 : (I_3964 391 this).toInt = (I_3592 391 this).toInt := by rw [eI_3964, pq_uf _ _ _ (by decide)]
                        have tt_3966 : (I_3964 388 this).toInt = (I_3592 388 this).toInt := by rw [eI_3964, pq_uf _ _ _ (by decide)]
                        have tt_3967 : (I_3964 392 this).toInt = (I_3592 392 this).toInt := by rw [eI_3964, pq_uf _ _ _ (by decide)]
                        refine lv_iload_n hx hb dX12_nextToken_346 rfl (lv_at hl 1 rfl) ?_
                        refine lv_bipush (v := 60) hx hb dX12_nextToken_347 (by decide) ?_
                        have K_4013 : ∀  (H : Heap) (locs : List Loc) (ls : Array Slot), rg (x_3558) 60 62 → GM [391, 392, 393] tg σ I ri I_3964 ri rq → va_P D vwCl (pq_P t σ (I_3964, J, ri, rj, rq)) H → va_D A (pq_P t σ (I_3964, J, ri, rj, rq)) → va_S A s.heap H locs → lv_has ls 3 [(0, .ref this), (1, .int x_3558)] → W p l e ({ frames := 2, cells := 0, slots := 0, locals := 42 } : Room) s m (List.toArray ([.ref this] : List Value)) below meth c H locs 0 0 Q (F0 m 358 ls []) := by
                          intro H locs ls h_4015 hG hP hD hS hl
                          have uh_4015 := h_4015.1
                          have vh_4015 := h_4015.2
                          refine lv_aload_n hx hb dX12_nextToken_358 rfl (lv_at hl 0 rfl) ?_
                          refine lv_aload_n hx hb dX12_nextToken_359 rfl (lv_at hl 0 rfl) ?_
                          refine pg_f (v := .int (I_3964 391 this)) (C := RX12) (T := TX12) (N := 31) hx hb hts (tw_i inlX12) hown hK hP hL_this hK_this (by decide) rfl 7 (by decide) (hts _ (tw_c tw_830)) rfl dX12_nextToken_360 ?_
                          have h_4016 : rg (I_3964 391 this) 1 300 := (by rw [eI_3964, pq_uf _ _ _ (by decide)]; exact (by rw [eI_3592, pq_us]; exact h_3591))
                          have uh_4016 := h_4016.1
                          have vh_4016 := h_4016.2
                          refine pk_i (va_runV (As := [.int (I_3964 391 this)]) (rest := []) ⟨hx, hb, hml, hown, hts⟩ (s_X12_see l D t σ I_3964 J ri rj rq H.size tg hSH hG.1 this (I_3964 391 this) hL_this hK_this (rg_w h_4016 (by decide))) (cwV 1 hts (tw_V tw_839 tw_840 tw_841 tw_5 tw_842) rfl rfl rfl (by decide +kernel) ⟨Nat.le_of_ble_eq_true rfl, Nat.le_of_ble_eq_true rfl⟩) ⟨pq_blind, pq_recv hK hP hL_this hK_this (by decide) rfl, pq_pre hK hN hP hD⟩ rfl rfl hl.1 rfl (lv_room (Nat.le_of_ble_eq_true rfl)) dX12_nextToken_363 ⟨Nat.le_of_ble_eq_true rfl, Nat.le_of_ble_eq_true rfl⟩) hD hS hA (fun x_4017 σ1 μ1 H locs hw_4018 hP hD hS => ?_)
                          obtain ⟨hu_4019, hp_4022, hr_4021⟩ := hw_4018
                          obtain ⟨hu_4019a, hu_4019b⟩ := Prod.mk.inj hu_4019
                          rw [hu_4019a, hu_4019b] at hP hD
                          have tt_4023 := hp_4022
                          have tt_4024 := (GM.rI hG 388 (a := this) (lo := 0) (hi := 300) rfl).2
                          refine lv_bipush (v := 61) hx hb dX12_nextToken_366 (by decide) ?_
                          refine lv_icmp_ne (tgt := 396) hx hb dX12_nextToken_368 (by decide) (fun c_4025 => ?_) (fun c_4025 => ?_)
                          · have tc_4026 : (x_4017).toInt ≠ 61 := fun q => c_4025 (Int32.toInt_inj.mp q)
                            subst hQ
                            exact W.vret hx hb hr (fun t1 ht hW => ⟨⟨(σ, I_3964, J, ri, rj, rq), rfl, ⟨I_3964, J, rfl, hG⟩, by rw [ht]; exact hP, va_K.moved hW.alike hK, hD⟩, hS.F ht⟩) hS.2.2 dX12_nextToken_396
                          · have tc_4027 : (x_4017).toInt = 61 := congrArg Int32.toInt c_4025
                            have h_4028 : rg x_4017 61 61 := rg_and hr_4021 (rg_of_eq c_4025 (rg_k (61 : Int32) 61 rfl)) (by decide)
                            have uh_4028 := h_4028.1
                            have vh_4028 := h_4028.2
                            refine lv_aload_n hx hb dX12_nextToken_371 rfl (lv_at hl 0 rfl) ?_
                            refine lv_dup hx hb dX12_nextToken_372 rfl ?_
                            refine pg_f (v := .int (I_3964 391 this)) (C := RX12) (T := TX12) (N := 31) hx hb hts (tw_i inlX12) hown hK hP hL_this hK_this (by decide) rfl 7 (by decide) (hts _ (tw_c tw_830)) rfl dX12_nextToken_373 ?_
                            refine lv_iconst (v := 1) hx hb dX12_nextToken_376 (by decide) ?_
                            have h_4029 : rg (I_3964 391 this) 0 299 := ⟨by omega, by omega⟩
                            have uh_4029 := h_4029.1
                            have vh_4029 := h_4029.2
                            refine lv_iadd hx hb dX12_nextToken_377 ?_
                            refine lv_topi (fun x_4030 ex_4030 => ?_)
                            have h_4031 : rg x_4030 1 300 := rg_of_eq ex_4030 (rg_add h_4029 (rg_k (1 : Int32) 1 rfl) (by decide))
                            have uh_4031 := h_4031.1
                            have vh_4031 := h_4031.2
                            have tx_4030 : (x_4030).toInt = (I_3964 391 this).toInt + 1 := by rw [ex_4030]; exact i_add_rg (a2 := (I_3964 391 this).toInt) (b2 := 1) rfl rfl h_4029 (rg_k (1 : Int32) 1 rfl) (by decide)
                            refine pp_i (v := x_4030) (ty := .int) (C := RX12) (T := TX12) (N := 31) hx hb hts (tw_i inlX12) tyX12 tyX12_ok nmX12 hown hK hP hD hS hL_this hK_this (by decide) rfl 7 391 (by decide) (hts _ (tw_c tw_830)) rfl (by decide +kernel) rfl rfl (Nat.le_of_ble_eq_true rfl) (ps_391 _ _ _ _ _) dX12_nextToken_378 (fun I_4032 H locs eI_4032 hP hD hS => ?_)
                            have hG := GM.wI hG 391 rfl eI_4032 (rg_w h_4031 (by decide)) (by decide)
                            have tt_4033 : (I_4032 391 this).toInt = (x_4030).toInt := by rw [eI_4032, pq_us]
                            have tt_4034 : (I_4032 388 this).toInt = (I_3964 388 this).toInt := by rw [eI_4032, pq_uf _ _ _ (by decide)]
                            have tt_4035 : (I_4032 392 this).toInt = (I_3964 392 this).toInt := by rw [eI_4032, pq_uf _ _ _ (by decide)]
                            refine lv_aload_n hx hb dX12_nextToken_381 rfl (lv_at hl 0 rfl) ?_
                            refine lv_iload_n hx hb dX12_nextToken_382 rfl (lv_at hl 1 rfl) ?_
                            refine lv_bipush (v := 60) hx hb dX12_nextToken_383 (by decide) ?_
                            have K_4051 : ∀  (H : Heap) (locs : List Loc) (ls : Array Slot), rg (x_3558) 61 62 → GM [391, 392, 393] tg σ I ri I_4032 ri rq → va_P D vwCl (pq_P t σ (I_4032, J, ri, rj, rq)) H → va_D A (pq_P t σ (I_4032, J, ri, rj, rq)) → va_S A s.heap H locs → lv_has ls 3 [] → W p l e ({ frames := 2, cells := 0, slots := 0, locals := 42 } : Room) s m (List.toArray ([.ref this] : List Value)) below meth c H locs 0 0 Q (F0 m 393 ls [.int 5, .ref this]) := by
                              intro H locs ls h_4053 hG hP hD hS hl
                              have uh_4053 := h_4053.1
                              have vh_4053 := h_4053.2
                              refine pp_i (v := 5) (ty := .int) (C := RX12) (T := TX12) (N := 31) hx hb hts (tw_i inlX12) tyX12 tyX12_ok nmX12 hown hK hP hD hS hL_this hK_this (by decide) rfl 9 393 (by decide) (hts _ (tw_c tw_831)) rfl (by decide +kernel) rfl rfl (Nat.le_of_ble_eq_true rfl) (ps_393 _ _ _ _ _) dX12_nextToken_393 (fun I_4054 H locs eI_4054 hP hD hS => ?_)
                              have hG := GM.wI hG 393 rfl eI_4054 (rg_w (rg_k (5 : Int32) 5 rfl) (by decide)) (by decide)
                              have tt_4055 : (I_4054 391 this).toInt = (I_4032 391 this).toInt := by rw [eI_4054, pq_uf _ _ _ (by decide)]
                              have tt_4056 : (I_4054 388 this).toInt = (I_4032 388 this).toInt := by rw [eI_4054, pq_uf _ _ _ (by decide)]
                              have tt_4057 : (I_4054 392 this).toInt = (I_4032 392 this).toInt := by rw [eI_4054, pq_uf _ _ _ (by decide)]
                              subst hQ
                              exact W.vret hx hb hr (fun t1 ht hW => ⟨⟨(σ, I_4054, J, ri, rj, rq), rfl, ⟨I_4054, J, rfl, hG⟩, by rw [ht]; exact hP, va_K.moved hW.alike hK, hD⟩, hS.F ht⟩) hS.2.2 dX12_nextToken_396
                            have K_4058 : ∀  (H : Heap) (locs : List Loc) (ls : Array Slot), rg (x_3558) 60 60 → GM [391, 392, 393] tg σ I ri I_4032 ri rq → va_P D vwCl (pq_P t σ (I_4032, J, ri, rj, rq)) H → va_D A (pq_P t σ (I_4032, J, ri, rj, rq)) → va_S A s.heap H locs → lv_has ls 3 [] → W p l e ({ frames := 2, cells := 0, slots := 0, locals := 42 } : Room) s m (List.toArray ([.ref this] : List Value)) below meth c H locs 0 0 Q (F0 m 393 ls [.int 4, .ref this]) := by
                              intro H locs ls h_4060 hG hP hD hS hl
                              have uh_4060 := h_4060.1
                              have vh_4060 := h_4060.2
                              refine pp_i (v := 4) (ty := .int) (C := RX12) (T := TX12) (N := 31) hx hb hts (tw_i inlX12) tyX12 tyX12_ok nmX12 hown hK hP hD hS hL_this hK_this (by decide) rfl 9 393 (by decide) (hts _ (tw_c tw_831)) rfl (by decide +kernel) rfl rfl (Nat.le_of_ble_eq_true rfl) (ps_393 _ _ _ _ _) dX12_nextToken_393 (fun I_4061 H locs eI_4061 hP hD hS => ?_)
                              have hG := GM.wI hG 393 rfl eI_4061 (rg_w (rg_k (4 : Int32) 4 rfl) (by decide)) (by decide)
                              have tt_4062 : (I_4061 391 this).toInt = (I_4032 391 this).toInt := by rw [eI_4061, pq_uf _ _ _ (by decide)]
                              have tt_4063 : (I_4061 388 this).toInt = (I_4032 388 this).toInt := by rw [eI_4061, pq_uf _ _ _ (by decide)]
                              have tt_4064 : (I_4061 392 this).toInt = (I_4032 392 this).toInt := by rw [eI_4061, pq_uf _ _ _ (by decide)]
                              subst hQ
                              exact W.vret hx hb hr (fun t1 ht hW => ⟨⟨(σ, I_4061, J, ri, rj, rq), rfl, ⟨I_4061, J, rfl, hG⟩, by rw [ht]; exact hP, va_K.moved hW.alike hK, hD⟩, hS.F ht⟩) hS.2.2 dX12_nextToken_396
                            refine lv_icmp_ne (tgt := 392) hx hb dX12_nextToken_385 (by decide) (fun c_4065 => ?_) (fun c_4065 => ?_)
                            · have tc_4066 : (x_3558).toInt ≠ 60 := fun q => c_4065 (Int32.toInt_inj.mp q)
                              have h_4067 : rg x_3558 61 62 := rg_ne c_4065 h_4015 60 rfl (by decide)
                              have uh_4067 := h_4067.1
                              have vh_4067 := h_4067.2
                              refine lv_iconst (v := 5) hx hb dX12_nextToken_392 (by decide) ?_
                              exact K_4051 _ _ _ (rg_w h_4067 (by decide)) hG hP hD hS (lv_sub hl [] rfl)
                            · have tc_4068 : (x_3558).toInt = 60 := congrArg Int32.toInt c_4065
                              have h_4069 : rg x_3558 60 60 := rg_and h_4015 (rg_of_eq c_4065 (rg_k (60 : Int32) 60 rfl)) (by decide)
                              have uh_4069 := h_4069.1
                              have vh_4069 := h_4069.2
                              refine lv_iconst (v := 4) hx hb dX12_nextToken_388 (by decide) ?_
                              refine lv_goto (tgt := 393) hx hb dX12_nextToken_389 (by decide) ?_
                              exact K_4058 _ _ _ (rg_w h_4069 (by decide)) hG hP hD hS (lv_sub hl [] rfl)
                        refine lv_icmp_eq (tgt := 358) hx hb dX12_nextToken_349 (by decide) (fun c_4070 => ?_) (fun c_4070 => ?_)
                        · have tc_4071 : (x_3558).toInt = 60 := congrArg Int32.toInt c_4070
                          have h_4072 : rg x_3558 60 60 := rg_and h_3912 (rg_of_eq c_4070 (rg_k (60 : Int32) 60 rfl)) (by decide)
                          have uh_4072 := h_4072.1
                          have vh_4072 := h_4072.2
                          exact K_4013 _ _ _ (rg_w h_4072 (by decide)) hG hP hD hS (lv_sub hl [0, 1] rfl)
                        · have tc_4073 : (x_3558).toInt ≠ 60 := fun q => c_4070 (Int32.toInt_inj.mp q)
                          refine lv_iload_n hx hb dX12_nextToken_352 rfl (lv_at hl 1 rfl) ?_
                          refine lv_bipush (v := 62) hx hb dX12_nextToken_353 (by decide) ?_
                          refine lv_icmp_ne (tgt := 396) hx hb dX12_nextToken_355 (by decide) (fun c_4074 => ?_) (fun c_4074 => ?_)
                          · have tc_4075 : (x_3558).toInt ≠ 62 := fun q => c_4074 (Int32.toInt_inj.mp q)
                            have h_4076 : rg x_3558 35 61 := rg_ne c_4074 h_3912 62 rfl (by decide)
                            have uh_4076 := h_4076.1
                            have vh_4076 := h_4076.2
                            subst hQ
                            exact W.vret hx hb hr (fun t1 ht hW => ⟨⟨(σ, I_3964, J, ri, rj, rq), rfl, ⟨I_3964, J, rfl, hG⟩, by rw [ht]; exact hP, va_K.moved hW.alike hK, hD⟩, hS.F ht⟩) hS.2.2 dX12_nextToken_396
                          · have tc_4077 : (x_3558).toInt = 62 := congrArg Int32.toInt c_4074
                            have h_4078 : rg x_3558 62 62 := rg_and h_3912 (rg_of_eq c_4074 (rg_k (62 : Int32) 62 rfl)) (by decide)
                            have uh_4078 := h_4078.1
                            have vh_4078 := h_4078.2
                            exact K_4013 _ _ _ (rg_w h_4078 (by decide)) hG hP hD hS (lv_sub hl [0, 1] rfl)
                      refine lv_if_eq (tgt := 342) hx hb dX12_nextToken_335 (by decide) (fun c_4079 => absurd c_4079 (by decide)) (fun c_4079 => ?_)
                      refine lv_iload_n hx hb dX12_nextToken_338 rfl (lv_at hl 2 rfl) ?_
                      refine lv_goto (tgt := 343) hx hb dX12_nextToken_339 (by decide) ?_
                      exact K_3963 _ _ _ hG hP hD hS (lv_sub hl [1, 2] rfl)
                    have K_4080 : ∀  (H : Heap) (locs : List Loc) (ls : Array Slot), rg (x_3558) 35 62 → GM [391, 392, 393] tg σ I ri I_3592 ri rq → va_P D vwCl (pq_P t σ (I_3592, J, ri, rj, rq)) H → va_D A (pq_P t σ (I_3592, J, ri, rj, rq)) → va_S A s.heap H locs → lv_has ls 3 [(0, .ref this), (1, .int x_3558)] → W p l e ({ frames := 2, cells := 0, slots := 0, locals := 42 } : Room) s m (List.toArray ([.ref this] : List Value)) below meth c H locs 0 0 Q (F0 m 327 ls []) := by
                      intro H locs ls h_4082 hG hP hD hS hl
                      have uh_4082 := h_4082.1
                      have vh_4082 := h_4082.2
                      refine lv_iconst (v := 1) hx hb dX12_nextToken_327 (by decide) ?_
                      refine lv_goto (tgt := 332) hx hb dX12_nextToken_328 (by decide) ?_
                      exact K_3910 _ _ _ (rg_w h_4082 (by decide)) hG hP hD hS (lv_sub hl [0, 1] rfl)
                    refine lv_icmp_eq (tgt := 327) hx hb dX12_nextToken_258 (by decide) (fun c_4083 => ?_) (fun c_4083 => ?_)
                    · have tc_4084 : (x_3558).toInt = 60 := congrArg Int32.toInt c_4083
                      have h_4085 : rg x_3558 60 60 := rg_and h_3568 (rg_of_eq c_4083 (rg_k (60 : Int32) 60 rfl)) (by decide)
                      have uh_4085 := h_4085.1
                      have vh_4085 := h_4085.2
                      exact K_4080 _ _ _ (rg_w h_4085 (by decide)) hG hP hD hS (lv_sub hl [1, 0] rfl)
                    · have tc_4086 : (x_3558).toInt ≠ 60 := fun q => c_4083 (Int32.toInt_inj.mp q)
                      refine lv_iload_n hx hb dX12_nextToken_261 rfl (lv_at hl 0 rfl) ?_
                      refine lv_bipush (v := 62) hx hb dX12_nextToken_262 (by decide) ?_
                      refine lv_icmp_eq (tgt := 327) hx hb dX12_nextToken_264 (by decide) (fun c_4087 => ?_) (fun c_4087 => ?_)
                      · have tc_4088 : (x_3558).toInt = 62 := congrArg Int32.toInt c_4087
                        have h_4089 : rg x_3558 62 62 := rg_and h_3568 (rg_of_eq c_4087 (rg_k (62 : Int32) 62 rfl)) (by decide)
                        have uh_4089 := h_4089.1
                        have vh_4089 := h_4089.2
                        exact K_4080 _ _ _ (rg_w h_4089 (by decide)) hG hP hD hS (lv_sub hl [1, 0] rfl)
                      · have tc_4090 : (x_3558).toInt ≠ 62 := fun q => c_4087 (Int32.toInt_inj.mp q)
                        refine lv_iload_n hx hb dX12_nextToken_267 rfl (lv_at hl 0 rfl) ?_
                        refine lv_bipush (v := 61) hx hb dX12_nextToken_268 (by decide) ?_
                        refine lv_icmp_eq (tgt := 327) hx hb dX12_nextToken_270 (by decide) (fun c_4091 => ?_) (fun c_4091 => ?_)
                        · have tc_4092 : (x_3558).toInt = 61 := congrArg Int32.toInt c_4091
                          have h_4093 : rg x_3558 61 61 := rg_and h_3568 (rg_of_eq c_4091 (rg_k (61 : Int32) 61 rfl)) (by decide)
                          have uh_4093 := h_4093.1
                          have vh_4093 := h_4093.2
                          exact K_4080 _ _ _ (rg_w h_4093 (by decide)) hG hP hD hS (lv_sub hl [1, 0] rfl)
                        · have tc_4094 : (x_3558).toInt ≠ 61 := fun q => c_4091 (Int32.toInt_inj.mp q)
                          refine lv_iload_n hx hb dX12_nextToken_273 rfl (lv_at hl 0 rfl) ?_
                          refine lv_bipush (v := 35) hx hb dX12_nextToken_274 (by decide) ?_
                          refine lv_icmp_eq (tgt := 327) hx hb dX12_nextToken_276 (by decide) (fun c_4095 => ?_) (fun c_4095 => ?_)
                          · have tc_4096 : (x_3558).toInt = 35 := congrArg Int32.toInt c_4095
                            have h_4097 : rg x_3558 35 35 := rg_and h_3568 (rg_of_eq c_4095 (rg_k (35 : Int32) 35 rfl)) (by decide)
                            have uh_4097 := h_4097.1
                            have vh_4097 := h_4097.2
                            exact K_4080 _ _ _ (rg_w h_4097 (by decide)) hG hP hD hS (lv_sub hl [1, 0] rfl)
                          · have tc_4098 : (x_3558).toInt ≠ 35 := fun q => c_4095 (Int32.toInt_inj.mp q)
                            refine lv_iload_n hx hb dX12_nextToken_279 rfl (lv_at hl 0 rfl) ?_
                            refine lv_bipush (v := 43) hx hb dX12_nextToken_280 (by decide) ?_
                            refine lv_icmp_eq (tgt := 327) hx hb dX12_nextToken_282 (by decide) (fun c_4099 => ?_) (fun c_4099 => ?_)
                            · have tc_4100 : (x_3558).toInt = 43 := congrArg Int32.toInt c_4099
                              have h_4101 : rg x_3558 43 43 := rg_and h_3568 (rg_of_eq c_4099 (rg_k (43 : Int32) 43 rfl)) (by decide)
                              have uh_4101 := h_4101.1
                              have vh_4101 := h_4101.2
                              exact K_4080 _ _ _ (rg_w h_4101 (by decide)) hG hP hD hS (lv_sub hl [1, 0] rfl)
                            · have tc_4102 : (x_3558).toInt ≠ 43 := fun q => c_4099 (Int32.toInt_inj.mp q)
                              refine lv_iload_n hx hb dX12_nextToken_285 rfl (lv_at hl 0 rfl) ?_
                              refine lv_bipush (v := 45) hx hb dX12_nextToken_286 (by decide) ?_
                              refine lv_icmp_eq (tgt := 327) hx hb dX12_nextToken_288 (by decide) (fun c_4103 => ?_) (fun c_4103 => ?_)
                              · have tc_4104 : (x_3558).toInt = 45 := congrArg Int32.toInt c_4103
                                have h_4105 : rg x_3558 45 45 := rg_and h_3568 (rg_of_eq c_4103 (rg_k (45 : Int32) 45 rfl)) (by decide)
                                have uh_4105 := h_4105.1
                                have vh_4105 := h_4105.2
                                exact K_4080 _ _ _ (rg_w h_4105 (by decide)) hG hP hD hS (lv_sub hl [1, 0] rfl)
                              · have tc_4106 : (x_3558).toInt ≠ 45 := fun q => c_4103 (Int32.toInt_inj.mp q)
                                refine lv_iload_n hx hb dX12_nextToken_291 rfl (lv_at hl 0 rfl) ?_
                                refine lv_bipush (v := 42) hx hb dX12_nextToken_292 (by decide) ?_
                                refine lv_icmp_eq (tgt := 327) hx hb dX12_nextToken_294 (by decide) (fun c_4107 => ?_) (fun c_4107 => ?_)
                                · have tc_4108 : (x_3558).toInt = 42 := congrArg Int32.toInt c_4107
                                  have h_4109 : rg x_3558 42 42 := rg_and h_3568 (rg_of_eq c_4107 (rg_k (42 : Int32) 42 rfl)) (by decide)
                                  have uh_4109 := h_4109.1
                                  have vh_4109 := h_4109.2
                                  exact K_4080 _ _ _ (rg_w h_4109 (by decide)) hG hP hD hS (lv_sub hl [1, 0] rfl)
                                · have tc_4110 : (x_3558).toInt ≠ 42 := fun q => c_4107 (Int32.toInt_inj.mp q)
                                  refine lv_iload_n hx hb dX12_nextToken_297 rfl (lv_at hl 0 rfl) ?_
                                  refine lv_bipush (v := 47) hx hb dX12_nextToken_298 (by decide) ?_
                                  refine lv_icmp_eq (tgt := 327) hx hb dX12_nextToken_300 (by decide) (fun c_4111 => ?_) (fun c_4111 => ?_)
                                  · have tc_4112 : (x_3558).toInt = 47 := congrArg Int32.toInt c_4111
                                    have h_4113 : rg x_3558 47 47 := rg_and h_3568 (rg_of_eq c_4111 (rg_k (47 : Int32) 47 rfl)) (by decide)
                                    have uh_4113 := h_4113.1
                                    have vh_4113 := h_4113.2
                                    exact K_4080 _ _ _ (rg_w h_4113 (by decide)) hG hP hD hS (lv_sub hl [1, 0] rfl)
                                  · have tc_4114 : (x_3558).toInt ≠ 47 := fun q => c_4111 (Int32.toInt_inj.mp q)
                                    refine lv_iload_n hx hb dX12_nextToken_303 rfl (lv_at hl 0 rfl) ?_
                                    refine lv_bipush (v := 40) hx hb dX12_nextToken_304 (by decide) ?_
                                    refine lv_icmp_eq (tgt := 327) hx hb dX12_nextToken_306 (by decide) (fun c_4115 => ?_) (fun c_4115 => ?_)
                                    · have tc_4116 : (x_3558).toInt = 40 := congrArg Int32.toInt c_4115
                                      have h_4117 : rg x_3558 40 40 := rg_and h_3568 (rg_of_eq c_4115 (rg_k (40 : Int32) 40 rfl)) (by decide)
                                      have uh_4117 := h_4117.1
                                      have vh_4117 := h_4117.2
                                      exact K_4080 _ _ _ (rg_w h_4117 (by decide)) hG hP hD hS (lv_sub hl [1, 0] rfl)
                                    · have tc_4118 : (x_3558).toInt ≠ 40 := fun q => c_4115 (Int32.toInt_inj.mp q)
                                      refine lv_iload_n hx hb dX12_nextToken_309 rfl (lv_at hl 0 rfl) ?_
                                      refine lv_bipush (v := 41) hx hb dX12_nextToken_310 (by decide) ?_
                                      refine lv_icmp_eq (tgt := 327) hx hb dX12_nextToken_312 (by decide) (fun c_4119 => ?_) (fun c_4119 => ?_)
                                      · have tc_4120 : (x_3558).toInt = 41 := congrArg Int32.toInt c_4119
                                        have h_4121 : rg x_3558 41 41 := rg_and h_3568 (rg_of_eq c_4119 (rg_k (41 : Int32) 41 rfl)) (by decide)
                                        have uh_4121 := h_4121.1
                                        have vh_4121 := h_4121.2
                                        exact K_4080 _ _ _ (rg_w h_4121 (by decide)) hG hP hD hS (lv_sub hl [1, 0] rfl)
                                      · have tc_4122 : (x_3558).toInt ≠ 41 := fun q => c_4119 (Int32.toInt_inj.mp q)
                                        refine lv_iload_n hx hb dX12_nextToken_315 rfl (lv_at hl 0 rfl) ?_
                                        refine lv_bipush (v := 44) hx hb dX12_nextToken_316 (by decide) ?_
                                        refine lv_icmp_eq (tgt := 327) hx hb dX12_nextToken_318 (by decide) (fun c_4123 => ?_) (fun c_4123 => ?_)
                                        · have tc_4124 : (x_3558).toInt = 44 := congrArg Int32.toInt c_4123
                                          have h_4125 : rg x_3558 44 44 := rg_and h_3568 (rg_of_eq c_4123 (rg_k (44 : Int32) 44 rfl)) (by decide)
                                          have uh_4125 := h_4125.1
                                          have vh_4125 := h_4125.2
                                          exact K_4080 _ _ _ (rg_w h_4125 (by decide)) hG hP hD hS (lv_sub hl [1, 0] rfl)
                                        · have tc_4126 : (x_3558).toInt ≠ 44 := fun q => c_4123 (Int32.toInt_inj.mp q)
                                          refine lv_iload_n hx hb dX12_nextToken_321 rfl (lv_at hl 0 rfl) ?_
                                          refine lv_bipush (v := 59) hx hb dX12_nextToken_322 (by decide) ?_
                                          refine lv_icmp_ne (tgt := 331) hx hb dX12_nextToken_324 (by decide) (fun c_4127 => ?_) (fun c_4127 => ?_)
                                          · have tc_4128 : (x_3558).toInt ≠ 59 := fun q => c_4127 (Int32.toInt_inj.mp q)
                                            refine lv_iconst (v := 0) hx hb dX12_nextToken_331 (by decide) ?_
                                            exact K_3745 _ _ _ hG hP hD hS (lv_sub hl [1, 0] rfl)
                                          · have tc_4129 : (x_3558).toInt = 59 := congrArg Int32.toInt c_4127
                                            have h_4130 : rg x_3558 59 59 := rg_and h_3568 (rg_of_eq c_4127 (rg_k (59 : Int32) 59 rfl)) (by decide)
                                            have uh_4130 := h_4130.1
                                            have vh_4130 := h_4130.2
                                            exact K_4080 _ _ _ (rg_w h_4130 (by decide)) hG hP hD hS (lv_sub hl [1, 0] rfl)
                  · have f_4131 := (hr_3583.resolve_right (fun q => c_3585 q.1)).2
                    have uf_4131 := f_4131.1
                    have vf_4131 := f_4131.2
                    have tc_4132 : (x_3579).toInt ≠ 0 := fun q => c_3585 (Int32.toInt_inj.mp q)
                    have h_4133 : rg x_3579 1 1 := rg_ne c_3585 h_3584 0 rfl (by decide)
                    have uh_4133 := h_4133.1
                    have vh_4133 := h_4133.2
                    refine lv_aload_n hx hb dX12_nextToken_151 rfl (lv_at hl 1 rfl) ?_
                    refine lv_iconst (v := 2) hx hb dX12_nextToken_152 (by decide) ?_
                    refine pp_i (v := 2) (ty := .int) (C := RX12) (T := TX12) (N := 31) hx hb hts (tw_i inlX12) tyX12 tyX12_ok nmX12 hown hK hP hD hS hL_this hK_this (by decide) rfl 9 393 (by decide) (hts _ (tw_c tw_831)) rfl (by decide +kernel) rfl rfl (Nat.le_of_ble_eq_true rfl) (ps_393 _ _ _ _ _) dX12_nextToken_153 (fun I_4134 H locs eI_4134 hP hD hS => ?_)
                    have hG := GM.wI hG 393 rfl eI_4134 (rg_w (rg_k (2 : Int32) 2 rfl) (by decide)) (by decide)
                    have tt_4135 : (I_4134 391 this).toInt = (I_3553 391 this).toInt := by rw [eI_4134, pq_uf _ _ _ (by decide)]
                    have tt_4136 : (I_4134 388 this).toInt = (I_3553 388 this).toInt := by rw [eI_4134, pq_uf _ _ _ (by decide)]
                    have tt_4137 : (I_4134 392 this).toInt = (I_3553 392 this).toInt := by rw [eI_4134, pq_uf _ _ _ (by decide)]
                    refine lv_aload_n hx hb dX12_nextToken_156 rfl (lv_at hl 1 rfl) ?_
                    refine lv_lconst (v := 0) hx hb dX12_nextToken_157 (by decide) ?_
                    refine pp_l (v := 0) (C := RX12) (T := TX12) (N := 31) hx hb hts (tw_i inlX12) tyX12 tyX12_ok nmX12 hown hK hP hD hS hL_this hK_this (by decide) rfl 11 395 (by decide) (hts _ (tw_c tw_838)) rfl (by decide +kernel) (Nat.le_of_ble_eq_true rfl) (ps_395 _ _ _ _ _) dX12_nextToken_158 (fun J_4138 H locs eJ_4138 hP hD hS => ?_)
                    have L_4407 : ∀ (n_4406 : Nat) (I_4338 : Nat → Nat → Int32) (J_4339 : Nat → Nat → Int64) (H : Heap) (locs : List Loc) (ls : Array Slot), (300 - (I_4338 391 this).toInt).toNat < n_4406 → GM [391, 392, 393] tg σ I ri I_4338 ri rq → va_P D vwCl (pq_P t σ (I_4338, J_4339, ri, rj, rq)) H → va_D A (pq_P t σ (I_4338, J_4339, ri, rj, rq)) → va_S A s.heap H locs → lv_has ls 3 [(0, .ref this)] → W p l e ({ frames := 2, cells := 0, slots := 0, locals := 42 } : Room) s m (List.toArray ([.ref this] : List Value)) below meth c H locs 0 0 Q (F0 m 161 ls []) := by
                      intro n_4406
                      induction n_4406 with
                      | zero => intro I_4338 J_4339 H locs ls hm_4405 hG hP hD hS hl; exact absurd hm_4405 (Nat.not_lt_zero _)
                      | succ n_4406 ih_4408 =>
                        intro I_4338 J_4339 H locs ls hm_4405 hG hP hD hS hl
                        refine lv_aload_n hx hb dX12_nextToken_161 rfl (lv_at hl 0 rfl) ?_
                        refine lv_aload_n hx hb dX12_nextToken_162 rfl (lv_at hl 0 rfl) ?_
                        refine pg_f (v := .int (I_4338 391 this)) (C := RX12) (T := TX12) (N := 31) hx hb hts (tw_i inlX12) hown hK hP hL_this hK_this (by decide) rfl 7 (by decide) (hts _ (tw_c tw_830)) rfl dX12_nextToken_163 ?_
                        have h_4409 : rg (I_4338 391 this) 0 300 := GM.rI hG 391 rfl
                        have uh_4409 := h_4409.1
                        have vh_4409 := h_4409.2
                        refine pk_i (va_runV (As := [.int (I_4338 391 this)]) (rest := []) ⟨hx, hb, hml, hown, hts⟩ (s_X12_see l D t σ I_4338 J_4339 ri rj rq H.size tg hSH hG.1 this (I_4338 391 this) hL_this hK_this (rg_w h_4409 (by decide))) (cwV 1 hts (tw_V tw_839 tw_840 tw_841 tw_5 tw_842) rfl rfl rfl (by decide +kernel) ⟨Nat.le_of_ble_eq_true rfl, Nat.le_of_ble_eq_true rfl⟩) ⟨pq_blind, pq_recv hK hP hL_this hK_this (by decide) rfl, pq_pre hK hN hP hD⟩ rfl rfl hl.1 rfl (lv_room (Nat.le_of_ble_eq_true rfl)) dX12_nextToken_166 ⟨Nat.le_of_ble_eq_true rfl, Nat.le_of_ble_eq_true rfl⟩) hD hS hA (fun x_4410 σ1 μ1 H locs hw_4411 hP hD hS => ?_)
                        obtain ⟨hu_4412, hp_4415, hr_4414⟩ := hw_4411
                        obtain ⟨hu_4412a, hu_4412b⟩ := Prod.mk.inj hu_4412
                        rw [hu_4412a, hu_4412b] at hP hD
                        have tt_4416 := hp_4415
                        have tt_4417 := (GM.rI hG 388 (a := this) (lo := 0) (hi := 300) rfl).2
                        refine pk_i (va_runS (As := [.int x_4410]) (rest := []) ⟨hx, hb, hml, hown, hts⟩ (s_X12_isLetter l D t σ I_4338 J_4339 ri rj rq H.size tg hSH hG.1 x_4410) (va_cwS 1 hts (tw_S tw_846 tw_847 tw_5 tw_848) rfl rfl rfl (by decide +kernel) ⟨Nat.le_of_ble_eq_true rfl, Nat.le_of_ble_eq_true rfl⟩) ⟨pq_blind, pq_pre hK hN hP hD⟩ rfl rfl hl.1 rfl (lv_room (Nat.le_of_ble_eq_true rfl)) dX12_nextToken_169 ⟨Nat.le_of_ble_eq_true rfl, Nat.le_of_ble_eq_true rfl⟩) hD hS hA (fun x_4418 σ1 μ1 H locs hw_4419 hP hD hS => ?_)
                        obtain ⟨hu_4420, hr_4422⟩ := hw_4419
                        obtain ⟨hu_4420a, hu_4420b⟩ := Prod.mk.inj hu_4420
                        rw [hu_4420a, hu_4420b] at hP hD
                        have h_4423 : rg x_4418 0 1 := by rcases hr_4422 with ⟨q, -⟩ | ⟨q, -⟩ <;> rw [q] <;> exact ⟨by decide, by decide⟩
                        have uh_4423 := h_4423.1
                        have vh_4423 := h_4423.2
                        refine lv_if_eq (tgt := 223) hx hb dX12_nextToken_172 (by decide) (fun c_4424 => ?_) (fun c_4424 => ?_)
                        · have f_4425 := (hr_4422.resolve_left (fun q => absurd (q.1.symm.trans c_4424) (by decide))).2
                          have tc_4426 : (x_4418).toInt = 0 := congrArg Int32.toInt c_4424
                          have h_4427 : rg x_4418 0 0 := rg_and h_4423 (rg_of_eq c_4424 (rg_k (0 : Int32) 0 rfl)) (by decide)
                          have uh_4427 := h_4427.1
                          have vh_4427 := h_4427.2
                          refine lv_aload_n hx hb dX12_nextToken_223 rfl (lv_at hl 0 rfl) ?_
                          refine pg_f (v := .int (I_4338 391 this)) (C := RX12) (T := TX12) (N := 31) hx hb hts (tw_i inlX12) hown hK hP hL_this hK_this (by decide) rfl 7 (by decide) (hts _ (tw_c tw_830)) rfl dX12_nextToken_224 ?_
                          refine lv_aload_n hx hb dX12_nextToken_227 rfl (lv_at hl 0 rfl) ?_
                          refine pg_f (v := .int (I_4338 392 this)) (C := RX12) (T := TX12) (N := 31) hx hb hts (tw_i inlX12) hown hK hP hL_this hK_this (by decide) rfl 8 (by decide) (hts _ (tw_c tw_820)) rfl dX12_nextToken_228 ?_
                          have h_4428 : rg (I_4338 392 this) 0 300 := GM.rI hG 392 rfl
                          have uh_4428 := h_4428.1
                          have vh_4428 := h_4428.2
                          refine lv_isub hx hb dX12_nextToken_231 ?_
                          refine lv_topi (fun x_4429 ex_4429 => ?_)
                          have h_4430 : rg x_4429 (-300) 300 := rg_of_eq ex_4429 (rg_sub h_4409 h_4428 (by decide))
                          have uh_4430 := h_4430.1
                          have vh_4430 := h_4430.2
                          have tx_4429 : (x_4429).toInt = (I_4338 391 this).toInt - (I_4338 392 this).toInt := by rw [ex_4429]; exact i_sub_rg (a2 := (I_4338 391 this).toInt) (b2 := (I_4338 392 this).toInt) rfl rfl h_4409 h_4428 (by decide)
                          refine lv_bipush (v := 7) hx hb dX12_nextToken_232 (by decide) ?_
                          refine lv_icmp_le (tgt := 396) hx hb dX12_nextToken_234 (by decide) (fun c_4431 => ?_) (fun c_4431 => ?_)
                          · have tc_4432 : (x_4429).toInt ≤ 7 := Int32.le_iff_toInt_le.mp c_4431
                            have h_4433 : rg x_4429 (-300) 7 := rg_le1 c_4431 h_4430 (rg_k (7 : Int32) 7 rfl) (by decide)
                            have uh_4433 := h_4433.1
                            have vh_4433 := h_4433.2
                            subst hQ
                            exact W.vret hx hb hr (fun t1 ht hW => ⟨⟨(σ, I_4338, J_4339, ri, rj, rq), rfl, ⟨I_4338, J_4339, rfl, hG⟩, by rw [ht]; exact hP, va_K.moved hW.alike hK, hD⟩, hS.F ht⟩) hS.2.2 dX12_nextToken_396
                          · have tc_4434 : 7 < (x_4429).toInt := Int32.lt_iff_toInt_lt.mp (nle c_4431)
                            have h_4435 : rg x_4429 8 300 := rg_lt2 (nle c_4431) (rg_k (7 : Int32) 7 rfl) h_4430 (by decide)
                            have uh_4435 := h_4435.1
                            have vh_4435 := h_4435.2
                            refine lv_aload_n hx hb dX12_nextToken_237 rfl (lv_at hl 0 rfl) ?_
                            refine lv_lconst (v := 0) hx hb dX12_nextToken_238 (by decide) ?_
                            refine pp_l (v := 0) (C := RX12) (T := TX12) (N := 31) hx hb hts (tw_i inlX12) tyX12 tyX12_ok nmX12 hown hK hP hD hS hL_this hK_this (by decide) rfl 11 395 (by decide) (hts _ (tw_c tw_838)) rfl (by decide +kernel) (Nat.le_of_ble_eq_true rfl) (ps_395 _ _ _ _ _) dX12_nextToken_239 (fun J_4436 H locs eJ_4436 hP hD hS => ?_)
                            refine lv_goto (tgt := 396) hx hb dX12_nextToken_242 (by decide) ?_
                            subst hQ
                            exact W.vret hx hb hr (fun t1 ht hW => ⟨⟨(σ, I_4338, J_4436, ri, rj, rq), rfl, ⟨I_4338, J_4436, rfl, hG⟩, by rw [ht]; exact hP, va_K.moved hW.alike hK, hD⟩, hS.F ht⟩) hS.2.2 dX12_nextToken_396
                        · have f_4437 := (hr_4422.resolve_right (fun q => c_4424 q.1)).2
                          have uf_4437 := f_4437.1
                          have vf_4437 := f_4437.2
                          have tc_4438 : (x_4418).toInt ≠ 0 := fun q => c_4424 (Int32.toInt_inj.mp q)
                          have h_4439 : rg x_4418 1 1 := rg_ne c_4424 h_4423 0 rfl (by decide)
                          have uh_4439 := h_4439.1
                          have vh_4439 := h_4439.2
                          refine lv_aload_n hx hb dX12_nextToken_175 rfl (lv_at hl 0 rfl) ?_
                          refine pg_f (v := .int (I_4338 391 this)) (C := RX12) (T := TX12) (N := 31) hx hb hts (tw_i inlX12) hown hK hP hL_this hK_this (by decide) rfl 7 (by decide) (hts _ (tw_c tw_830)) rfl dX12_nextToken_176 ?_
                          refine lv_aload_n hx hb dX12_nextToken_179 rfl (lv_at hl 0 rfl) ?_
                          refine pg_f (v := .int (I_4338 392 this)) (C := RX12) (T := TX12) (N := 31) hx hb hts (tw_i inlX12) hown hK hP hL_this hK_this (by decide) rfl 8 (by decide) (hts _ (tw_c tw_820)) rfl dX12_nextToken_180 ?_
                          have h_4440 : rg (I_4338 392 this) 0 300 := GM.rI hG 392 rfl
                          have uh_4440 := h_4440.1
                          have vh_4440 := h_4440.2
                          refine lv_isub hx hb dX12_nextToken_183 ?_
                          refine lv_topi (fun x_4441 ex_4441 => ?_)
                          have h_4442 : rg x_4441 (-300) 300 := rg_of_eq ex_4441 (rg_sub h_4409 h_4440 (by decide))
                          have uh_4442 := h_4442.1
                          have vh_4442 := h_4442.2
                          have tx_4441 : (x_4441).toInt = (I_4338 391 this).toInt - (I_4338 392 this).toInt := by rw [ex_4441]; exact i_sub_rg (a2 := (I_4338 391 this).toInt) (b2 := (I_4338 392 this).toInt) rfl rfl h_4409 h_4440 (by decide)
                          refine lv_bipush (v := 7) hx hb dX12_nextToken_184 (by decide) ?_
                          refine lv_icmp_ge (tgt := 210) hx hb dX12_nextToken_186 (by decide) (fun c_4443 => ?_) (fun c_4443 => ?_)
                          · have tc_4444 : 7 ≤ (x_4441).toInt := Int32.le_iff_toInt_le.mp c_4443
                            have h_4445 : rg x_4441 7 300 := rg_le2 c_4443 (rg_k (7 : Int32) 7 rfl) h_4442 (by decide)
                            have uh_4445 := h_4445.1
                            have vh_4445 := h_4445.2
                            refine lv_aload_n hx hb dX12_nextToken_210 rfl (lv_at hl 0 rfl) ?_
                            refine lv_dup hx hb dX12_nextToken_211 rfl ?_
                            refine pg_f (v := .int (I_4338 391 this)) (C := RX12) (T := TX12) (N := 31) hx hb hts (tw_i inlX12) hown hK hP hL_this hK_this (by decide) rfl 7 (by decide) (hts _ (tw_c tw_830)) rfl dX12_nextToken_212 ?_
                            refine lv_iconst (v := 1) hx hb dX12_nextToken_215 (by decide) ?_
                            have h_4446 : rg (I_4338 391 this) 0 299 := ⟨by omega, by omega⟩
                            have uh_4446 := h_4446.1
                            have vh_4446 := h_4446.2
                            refine lv_iadd hx hb dX12_nextToken_216 ?_
                            refine lv_topi (fun x_4447 ex_4447 => ?_)
                            have h_4448 : rg x_4447 1 300 := rg_of_eq ex_4447 (rg_add h_4446 (rg_k (1 : Int32) 1 rfl) (by decide))
                            have uh_4448 := h_4448.1
                            have vh_4448 := h_4448.2
                            have tx_4447 : (x_4447).toInt = (I_4338 391 this).toInt + 1 := by rw [ex_4447]; exact i_add_rg (a2 := (I_4338 391 this).toInt) (b2 := 1) rfl rfl h_4446 (rg_k (1 : Int32) 1 rfl) (by decide)
                            refine pp_i (v := x_4447) (ty := .int) (C := RX12) (T := TX12) (N := 31) hx hb hts (tw_i inlX12) tyX12 tyX12_ok nmX12 hown hK hP hD hS hL_this hK_this (by decide) rfl 7 391 (by decide) (hts _ (tw_c tw_830)) rfl (by decide +kernel) rfl rfl (Nat.le_of_ble_eq_true rfl) (ps_391 _ _ _ _ _) dX12_nextToken_217 (fun I_4449 H locs eI_4449 hP hD hS => ?_)
                            have hG := GM.wI hG 391 rfl eI_4449 (rg_w h_4448 (by decide)) (by decide)
                            have tt_4450 : (I_4449 391 this).toInt = (x_4447).toInt := by rw [eI_4449, pq_us]
                            have tt_4451 : (I_4449 388 this).toInt = (I_4338 388 this).toInt := by rw [eI_4449, pq_uf _ _ _ (by decide)]
                            have tt_4452 : (I_4449 392 this).toInt = (I_4338 392 this).toInt := by rw [eI_4449, pq_uf _ _ _ (by decide)]
                            refine lv_goto (tgt := 161) hx hb dX12_nextToken_220 (by decide) ?_
                            exact ih_4408 I_4449 J_4339 _ _ _ (ms_fu_iadd hm_4405 (by rw [eI_4449]; exact pq_us _ _ _ _) ex_4447 rfl (kk := 1) rfl (by decide) h_4446 (by decide) (by decide)) hG hP hD hS (lv_sub hl [0] rfl)
                          · have tc_4453 : (x_4441).toInt < 7 := Int32.lt_iff_toInt_lt.mp (nle c_4443)
                            have h_4454 : rg x_4441 (-300) 6 := rg_lt1 (nle c_4443) h_4442 (rg_k (7 : Int32) 7 rfl) (by decide)
                            have uh_4454 := h_4454.1
                            have vh_4454 := h_4454.2
                            refine lv_aload_n hx hb dX12_nextToken_189 rfl (lv_at hl 0 rfl) ?_
                            refine lv_aload_n hx hb dX12_nextToken_190 rfl (lv_at hl 0 rfl) ?_
                            refine pg_f (v := .long (J_4339 395 this)) (C := RX12) (T := TX12) (N := 31) hx hb hts (tw_i inlX12) hown hK hP hL_this hK_this (by decide) rfl 11 (by decide) (hts _ (tw_c tw_838)) rfl dX12_nextToken_191 ?_
                            refine lv_bipush (v := 8) hx hb dX12_nextToken_194 (by decide) ?_
                            refine lv_lshl hx hb dX12_nextToken_196 rfl ?_
                            refine lv_topl (fun x_4455 ex_4455 => ?_)
                            refine lv_aload_n hx hb dX12_nextToken_197 rfl (lv_at hl 0 rfl) ?_
                            refine lv_aload_n hx hb dX12_nextToken_198 rfl (lv_at hl 0 rfl) ?_
                            refine pg_f (v := .int (I_4338 391 this)) (C := RX12) (T := TX12) (N := 31) hx hb hts (tw_i inlX12) hown hK hP hL_this hK_this (by decide) rfl 7 (by decide) (hts _ (tw_c tw_830)) rfl dX12_nextToken_199 ?_
                            refine pk_i (va_runV (As := [.int (I_4338 391 this)]) (rest := [.long x_4455, .ref this]) ⟨hx, hb, hml, hown, hts⟩ (s_X12_see l D t σ I_4338 J_4339 ri rj rq H.size tg hSH hG.1 this (I_4338 391 this) hL_this hK_this (rg_w h_4409 (by decide))) (cwV 1 hts (tw_V tw_839 tw_840 tw_841 tw_5 tw_842) rfl rfl rfl (by decide +kernel) ⟨Nat.le_of_ble_eq_true rfl, Nat.le_of_ble_eq_true rfl⟩) ⟨pq_blind, pq_recv hK hP hL_this hK_this (by decide) rfl, pq_pre hK hN hP hD⟩ rfl rfl hl.1 rfl (lv_room (Nat.le_of_ble_eq_true rfl)) dX12_nextToken_202 ⟨Nat.le_of_ble_eq_true rfl, Nat.le_of_ble_eq_true rfl⟩) hD hS hA (fun x_4456 σ1 μ1 H locs hw_4457 hP hD hS => ?_)
                            obtain ⟨hu_4458, hp_4461, hr_4460⟩ := hw_4457
                            obtain ⟨hu_4458a, hu_4458b⟩ := Prod.mk.inj hu_4458
                            rw [hu_4458a, hu_4458b] at hP hD
                            have tt_4462 := hp_4461
                            have tt_4463 := (GM.rI hG 388 (a := this) (lo := 0) (hi := 300) rfl).2
                            refine lv_i2l hx hb dX12_nextToken_205 rfl ?_
                            refine lv_topl (fun x_4464 ex_4464 => ?_)
                            refine lv_lor hx hb dX12_nextToken_206 ?_
                            refine lv_topl (fun x_4465 ex_4465 => ?_)
                            refine pp_l (v := x_4465) (C := RX12) (T := TX12) (N := 31) hx hb hts (tw_i inlX12) tyX12 tyX12_ok nmX12 hown hK hP hD hS hL_this hK_this (by decide) rfl 11 395 (by decide) (hts _ (tw_c tw_838)) rfl (by decide +kernel) (Nat.le_of_ble_eq_true rfl) (ps_395 _ _ _ _ _) dX12_nextToken_207 (fun J_4466 H locs eJ_4466 hP hD hS => ?_)
                            refine lv_aload_n hx hb dX12_nextToken_210 rfl (lv_at hl 0 rfl) ?_
                            refine lv_dup hx hb dX12_nextToken_211 rfl ?_
                            refine pg_f (v := .int (I_4338 391 this)) (C := RX12) (T := TX12) (N := 31) hx hb hts (tw_i inlX12) hown hK hP hL_this hK_this (by decide) rfl 7 (by decide) (hts _ (tw_c tw_830)) rfl dX12_nextToken_212 ?_
                            refine lv_iconst (v := 1) hx hb dX12_nextToken_215 (by decide) ?_
                            have h_4467 : rg (I_4338 391 this) 0 299 := ⟨by omega, by omega⟩
                            have uh_4467 := h_4467.1
                            have vh_4467 := h_4467.2
                            refine lv_iadd hx hb dX12_nextToken_216 ?_
                            refine lv_topi (fun x_4468 ex_4468 => ?_)
                            have h_4469 : rg x_4468 1 300 := rg_of_eq ex_4468 (rg_add h_4467 (rg_k (1 : Int32) 1 rfl) (by decide))
                            have uh_4469 := h_4469.1
                            have vh_4469 := h_4469.2
                            have tx_4468 : (x_4468).toInt = (I_4338 391 this).toInt + 1 := by rw [ex_4468]; exact i_add_rg (a2 := (I_4338 391 this).toInt) (b2 := 1) rfl rfl h_4467 (rg_k (1 : Int32) 1 rfl) (by decide)
                            refine pp_i (v := x_4468) (ty := .int) (C := RX12) (T := TX12) (N := 31) hx hb hts (tw_i inlX12) tyX12 tyX12_ok nmX12 hown hK hP hD hS hL_this hK_this (by decide) rfl 7 391 (by decide) (hts _ (tw_c tw_830)) rfl (by decide +kernel) rfl rfl (Nat.le_of_ble_eq_true rfl) (ps_391 _ _ _ _ _) dX12_nextToken_217 (fun I_4470 H locs eI_4470 hP hD hS => ?_)
                            have hG := GM.wI hG 391 rfl eI_4470 (rg_w h_4469 (by decide)) (by decide)
                            have tt_4471 : (I_4470 391 this).toInt = (x_4468).toInt := by rw [eI_4470, pq_us]
                            have tt_4472 : (I_4470 388 this).toInt = (I_4338 388 this).toInt := by rw [eI_4470, pq_uf _ _ _ (by decide)]
                            have tt_4473 : (I_4470 392 this).toInt = (I_4338 392 this).toInt := by rw [eI_4470, pq_uf _ _ _ (by decide)]
                            refine lv_goto (tgt := 161) hx hb dX12_nextToken_220 (by decide) ?_
                            exact ih_4408 I_4470 J_4466 _ _ _ (ms_fu_iadd hm_4405 (by rw [eI_4470]; exact pq_us _ _ _ _) ex_4468 rfl (kk := 1) rfl (by decide) h_4467 (by decide) (by decide)) hG hP hD hS (lv_sub hl [0] rfl)
                    exact L_4407 _ I_4134 J_4138 _ _ _ (Nat.lt_succ_self _) hG hP hD hS (lv_sub hl [1] rfl)
                · have f_4474 := (hr_3573.resolve_right (fun q => c_3575 q.1)).2
                  have uf_4474 := f_4474.1
                  have vf_4474 := f_4474.2
                  have tc_4475 : (x_3569).toInt ≠ 0 := fun q => c_3575 (Int32.toInt_inj.mp q)
                  have h_4476 : rg x_3569 1 1 := rg_ne c_3575 h_3574 0 rfl (by decide)
                  have uh_4476 := h_4476.1
                  have vh_4476 := h_4476.2
                  refine lv_aload_n hx hb dX12_nextToken_75 rfl (lv_at hl 1 rfl) ?_
                  refine lv_iconst (v := 1) hx hb dX12_nextToken_76 (by decide) ?_
                  refine pp_i (v := 1) (ty := .int) (C := RX12) (T := TX12) (N := 31) hx hb hts (tw_i inlX12) tyX12 tyX12_ok nmX12 hown hK hP hD hS hL_this hK_this (by decide) rfl 9 393 (by decide) (hts _ (tw_c tw_831)) rfl (by decide +kernel) rfl rfl (Nat.le_of_ble_eq_true rfl) (ps_393 _ _ _ _ _) dX12_nextToken_77 (fun I_4477 H locs eI_4477 hP hD hS => ?_)
                  have hG := GM.wI hG 393 rfl eI_4477 (rg_w (rg_k (1 : Int32) 1 rfl) (by decide)) (by decide)
                  have tt_4478 : (I_4477 391 this).toInt = (I_3553 391 this).toInt := by rw [eI_4477, pq_uf _ _ _ (by decide)]
                  have tt_4479 : (I_4477 388 this).toInt = (I_3553 388 this).toInt := by rw [eI_4477, pq_uf _ _ _ (by decide)]
                  have tt_4480 : (I_4477 392 this).toInt = (I_3553 392 this).toInt := by rw [eI_4477, pq_uf _ _ _ (by decide)]
                  refine lv_aload_n hx hb dX12_nextToken_80 rfl (lv_at hl 1 rfl) ?_
                  refine lv_iconst (v := 0) hx hb dX12_nextToken_81 (by decide) ?_
                  refine pp_i (v := 0) (ty := .int) (C := RX12) (T := TX12) (N := 31) hx hb hts (tw_i inlX12) tyX12 tyX12_ok nmX12 hown hK hP hD hS hL_this hK_this (by decide) rfl 10 394 (by decide) (hts _ (tw_c tw_836)) rfl (by decide +kernel) rfl rfl (Nat.le_of_ble_eq_true rfl) (ps_394 _ _ _ _ _) dX12_nextToken_82 (fun I_4481 H locs eI_4481 hP hD hS => ?_)
                  have hG := GM.wI hG 394 rfl eI_4481 (rg_w (rg_k (0 : Int32) 0 rfl) (by decide)) (by decide)
                  have tt_4482 : (I_4481 391 this).toInt = (I_4477 391 this).toInt := by rw [eI_4481, pq_uf _ _ _ (by decide)]
                  have tt_4483 : (I_4481 388 this).toInt = (I_4477 388 this).toInt := by rw [eI_4481, pq_uf _ _ _ (by decide)]
                  have tt_4484 : (I_4481 392 this).toInt = (I_4477 392 this).toInt := by rw [eI_4481, pq_uf _ _ _ (by decide)]
                  have L_4713 : ∀ (n_4712 : Nat) (I_4653 : Nat → Nat → Int32) (H : Heap) (locs : List Loc) (ls : Array Slot), (300 - (I_4653 391 this).toInt).toNat < n_4712 → GM [391, 392, 393] tg σ I ri I_4653 ri rq → va_P D vwCl (pq_P t σ (I_4653, J, ri, rj, rq)) H → va_D A (pq_P t σ (I_4653, J, ri, rj, rq)) → va_S A s.heap H locs → lv_has ls 3 [(0, .ref this)] → W p l e ({ frames := 2, cells := 0, slots := 0, locals := 42 } : Room) s m (List.toArray ([.ref this] : List Value)) below meth c H locs 0 0 Q (F0 m 85 ls []) := by
                    intro n_4712
                    induction n_4712 with
                    | zero => intro I_4653 H locs ls hm_4711 hG hP hD hS hl; exact absurd hm_4711 (Nat.not_lt_zero _)
                    | succ n_4712 ih_4714 =>
                      intro I_4653 H locs ls hm_4711 hG hP hD hS hl
                      refine lv_aload_n hx hb dX12_nextToken_85 rfl (lv_at hl 0 rfl) ?_
                      refine lv_aload_n hx hb dX12_nextToken_86 rfl (lv_at hl 0 rfl) ?_
                      refine pg_f (v := .int (I_4653 391 this)) (C := RX12) (T := TX12) (N := 31) hx hb hts (tw_i inlX12) hown hK hP hL_this hK_this (by decide) rfl 7 (by decide) (hts _ (tw_c tw_830)) rfl dX12_nextToken_87 ?_
                      have h_4715 : rg (I_4653 391 this) 0 300 := GM.rI hG 391 rfl
                      have uh_4715 := h_4715.1
                      have vh_4715 := h_4715.2
                      refine pk_i (va_runV (As := [.int (I_4653 391 this)]) (rest := []) ⟨hx, hb, hml, hown, hts⟩ (s_X12_see l D t σ I_4653 J ri rj rq H.size tg hSH hG.1 this (I_4653 391 this) hL_this hK_this (rg_w h_4715 (by decide))) (cwV 1 hts (tw_V tw_839 tw_840 tw_841 tw_5 tw_842) rfl rfl rfl (by decide +kernel) ⟨Nat.le_of_ble_eq_true rfl, Nat.le_of_ble_eq_true rfl⟩) ⟨pq_blind, pq_recv hK hP hL_this hK_this (by decide) rfl, pq_pre hK hN hP hD⟩ rfl rfl hl.1 rfl (lv_room (Nat.le_of_ble_eq_true rfl)) dX12_nextToken_90 ⟨Nat.le_of_ble_eq_true rfl, Nat.le_of_ble_eq_true rfl⟩) hD hS hA (fun x_4716 σ1 μ1 H locs hw_4717 hP hD hS => ?_)
                      obtain ⟨hu_4718, hp_4721, hr_4720⟩ := hw_4717
                      obtain ⟨hu_4718a, hu_4718b⟩ := Prod.mk.inj hu_4718
                      rw [hu_4718a, hu_4718b] at hP hD
                      have tt_4722 := hp_4721
                      have tt_4723 := (GM.rI hG 388 (a := this) (lo := 0) (hi := 300) rfl).2
                      refine pk_i (va_runS (As := [.int x_4716]) (rest := []) ⟨hx, hb, hml, hown, hts⟩ (s_X12_isDigit l D t σ I_4653 J ri rj rq H.size tg hSH hG.1 x_4716) (va_cwS 1 hts (tw_S tw_843 tw_844 tw_5 tw_845) rfl rfl rfl (by decide +kernel) ⟨Nat.le_of_ble_eq_true rfl, Nat.le_of_ble_eq_true rfl⟩) ⟨pq_blind, pq_pre hK hN hP hD⟩ rfl rfl hl.1 rfl (lv_room (Nat.le_of_ble_eq_true rfl)) dX12_nextToken_93 ⟨Nat.le_of_ble_eq_true rfl, Nat.le_of_ble_eq_true rfl⟩) hD hS hA (fun x_4724 σ1 μ1 H locs hw_4725 hP hD hS => ?_)
                      obtain ⟨hu_4726, hr_4728⟩ := hw_4725
                      obtain ⟨hu_4726a, hu_4726b⟩ := Prod.mk.inj hu_4726
                      rw [hu_4726a, hu_4726b] at hP hD
                      have h_4729 : rg x_4724 0 1 := by rcases hr_4728 with ⟨q, -⟩ | ⟨q, -⟩ <;> rw [q] <;> exact ⟨by decide, by decide⟩
                      have uh_4729 := h_4729.1
                      have vh_4729 := h_4729.2
                      refine lv_if_eq (tgt := 396) hx hb dX12_nextToken_96 (by decide) (fun c_4730 => ?_) (fun c_4730 => ?_)
                      · have f_4731 := (hr_4728.resolve_left (fun q => absurd (q.1.symm.trans c_4730) (by decide))).2
                        have tc_4732 : (x_4724).toInt = 0 := congrArg Int32.toInt c_4730
                        have h_4733 : rg x_4724 0 0 := rg_and h_4729 (rg_of_eq c_4730 (rg_k (0 : Int32) 0 rfl)) (by decide)
                        have uh_4733 := h_4733.1
                        have vh_4733 := h_4733.2
                        subst hQ
                        exact W.vret hx hb hr (fun t1 ht hW => ⟨⟨(σ, I_4653, J, ri, rj, rq), rfl, ⟨I_4653, J, rfl, hG⟩, by rw [ht]; exact hP, va_K.moved hW.alike hK, hD⟩, hS.F ht⟩) hS.2.2 dX12_nextToken_396
                      · have f_4734 := (hr_4728.resolve_right (fun q => c_4730 q.1)).2
                        have uf_4734 := f_4734.1
                        have vf_4734 := f_4734.2
                        have tc_4735 : (x_4724).toInt ≠ 0 := fun q => c_4730 (Int32.toInt_inj.mp q)
                        have h_4736 : rg x_4724 1 1 := rg_ne c_4730 h_4729 0 rfl (by decide)
                        have uh_4736 := h_4736.1
                        have vh_4736 := h_4736.2
                        refine lv_aload_n hx hb dX12_nextToken_99 rfl (lv_at hl 0 rfl) ?_
                        refine pg_f (v := .int (I_4653 394 this)) (C := RX12) (T := TX12) (N := 31) hx hb hts (tw_i inlX12) hown hK hP hL_this hK_this (by decide) rfl 10 (by decide) (hts _ (tw_c tw_836)) rfl dX12_nextToken_100 ?_
                        refine lv_ldc hx hb hown (hts _ (tw_c tw_837)) dX12_nextToken_103 ?_
                        refine lv_icmp_ge (tgt := 131) hx hb dX12_nextToken_105 (by decide) (fun c_4737 => ?_) (fun c_4737 => ?_)
                        · have tc_4738 : 100000 ≤ (I_4653 394 this).toInt := Int32.le_iff_toInt_le.mp c_4737
                          have h_4739 : rg (I_4653 394 this) 100000 2147483647 := rg_le2 c_4737 (rg_k (100000 : Int32) 100000 rfl) (rg_full _) (by decide)
                          have uh_4739 := h_4739.1
                          have vh_4739 := h_4739.2
                          refine lv_aload_n hx hb dX12_nextToken_131 rfl (lv_at hl 0 rfl) ?_
                          refine lv_dup hx hb dX12_nextToken_132 rfl ?_
                          refine pg_f (v := .int (I_4653 391 this)) (C := RX12) (T := TX12) (N := 31) hx hb hts (tw_i inlX12) hown hK hP hL_this hK_this (by decide) rfl 7 (by decide) (hts _ (tw_c tw_830)) rfl dX12_nextToken_133 ?_
                          refine lv_iconst (v := 1) hx hb dX12_nextToken_136 (by decide) ?_
                          have h_4740 : rg (I_4653 391 this) 0 299 := ⟨by omega, by omega⟩
                          have uh_4740 := h_4740.1
                          have vh_4740 := h_4740.2
                          refine lv_iadd hx hb dX12_nextToken_137 ?_
                          refine lv_topi (fun x_4741 ex_4741 => ?_)
                          have h_4742 : rg x_4741 1 300 := rg_of_eq ex_4741 (rg_add h_4740 (rg_k (1 : Int32) 1 rfl) (by decide))
                          have uh_4742 := h_4742.1
                          have vh_4742 := h_4742.2
                          have tx_4741 : (x_4741).toInt = (I_4653 391 this).toInt + 1 := by rw [ex_4741]; exact i_add_rg (a2 := (I_4653 391 this).toInt) (b2 := 1) rfl rfl h_4740 (rg_k (1 : Int32) 1 rfl) (by decide)
                          refine pp_i (v := x_4741) (ty := .int) (C := RX12) (T := TX12) (N := 31) hx hb hts (tw_i inlX12) tyX12 tyX12_ok nmX12 hown hK hP hD hS hL_this hK_this (by decide) rfl 7 391 (by decide) (hts _ (tw_c tw_830)) rfl (by decide +kernel) rfl rfl (Nat.le_of_ble_eq_true rfl) (ps_391 _ _ _ _ _) dX12_nextToken_138 (fun I_4743 H locs eI_4743 hP hD hS => ?_)
                          have hG := GM.wI hG 391 rfl eI_4743 (rg_w h_4742 (by decide)) (by decide)
                          have tt_4744 : (I_4743 391 this).toInt = (x_4741).toInt := by rw [eI_4743, pq_us]
                          have tt_4745 : (I_4743 388 this).toInt = (I_4653 388 this).toInt := by rw [eI_4743, pq_uf _ _ _ (by decide)]
                          have tt_4746 : (I_4743 392 this).toInt = (I_4653 392 this).toInt := by rw [eI_4743, pq_uf _ _ _ (by decide)]
                          refine lv_goto (tgt := 85) hx hb dX12_nextToken_141 (by decide) ?_
                          exact ih_4714 I_4743 _ _ _ (ms_fu_iadd hm_4711 (by rw [eI_4743]; exact pq_us _ _ _ _) ex_4741 rfl (kk := 1) rfl (by decide) h_4740 (by decide) (by decide)) hG hP hD hS (lv_sub hl [0] rfl)
                        · have tc_4747 : (I_4653 394 this).toInt < 100000 := Int32.lt_iff_toInt_lt.mp (nle c_4737)
                          have h_4748 : rg (I_4653 394 this) (-2147483648) 99999 := rg_lt1 (nle c_4737) (rg_full _) (rg_k (100000 : Int32) 100000 rfl) (by decide)
                          have uh_4748 := h_4748.1
                          have vh_4748 := h_4748.2
                          refine lv_aload_n hx hb dX12_nextToken_108 rfl (lv_at hl 0 rfl) ?_
                          refine lv_bipush (v := 10) hx hb dX12_nextToken_109 (by decide) ?_
                          refine lv_aload_n hx hb dX12_nextToken_111 rfl (lv_at hl 0 rfl) ?_
                          refine pg_f (v := .int (I_4653 394 this)) (C := RX12) (T := TX12) (N := 31) hx hb hts (tw_i inlX12) hown hK hP hL_this hK_this (by decide) rfl 10 (by decide) (hts _ (tw_c tw_836)) rfl dX12_nextToken_112 ?_
                          refine lv_imul hx hb dX12_nextToken_115 ?_
                          refine lv_topi (fun x_4749 ex_4749 => ?_)
                          refine lv_aload_n hx hb dX12_nextToken_116 rfl (lv_at hl 0 rfl) ?_
                          refine lv_aload_n hx hb dX12_nextToken_117 rfl (lv_at hl 0 rfl) ?_
                          refine pg_f (v := .int (I_4653 391 this)) (C := RX12) (T := TX12) (N := 31) hx hb hts (tw_i inlX12) hown hK hP hL_this hK_this (by decide) rfl 7 (by decide) (hts _ (tw_c tw_830)) rfl dX12_nextToken_118 ?_
                          refine pk_i (va_runV (As := [.int (I_4653 391 this)]) (rest := [.int x_4749, .ref this]) ⟨hx, hb, hml, hown, hts⟩ (s_X12_see l D t σ I_4653 J ri rj rq H.size tg hSH hG.1 this (I_4653 391 this) hL_this hK_this (rg_w h_4715 (by decide))) (cwV 1 hts (tw_V tw_839 tw_840 tw_841 tw_5 tw_842) rfl rfl rfl (by decide +kernel) ⟨Nat.le_of_ble_eq_true rfl, Nat.le_of_ble_eq_true rfl⟩) ⟨pq_blind, pq_recv hK hP hL_this hK_this (by decide) rfl, pq_pre hK hN hP hD⟩ rfl rfl hl.1 rfl (lv_room (Nat.le_of_ble_eq_true rfl)) dX12_nextToken_121 ⟨Nat.le_of_ble_eq_true rfl, Nat.le_of_ble_eq_true rfl⟩) hD hS hA (fun x_4750 σ1 μ1 H locs hw_4751 hP hD hS => ?_)
                          obtain ⟨hu_4752, hp_4755, hr_4754⟩ := hw_4751
                          obtain ⟨hu_4752a, hu_4752b⟩ := Prod.mk.inj hu_4752
                          rw [hu_4752a, hu_4752b] at hP hD
                          have tt_4756 := hp_4755
                          have tt_4757 := (GM.rI hG 388 (a := this) (lo := 0) (hi := 300) rfl).2
                          refine lv_iadd hx hb dX12_nextToken_124 ?_
                          refine lv_topi (fun x_4758 ex_4758 => ?_)
                          refine lv_bipush (v := 48) hx hb dX12_nextToken_125 (by decide) ?_
                          refine lv_isub hx hb dX12_nextToken_127 ?_
                          refine lv_topi (fun x_4759 ex_4759 => ?_)
                          refine pp_i (v := x_4759) (ty := .int) (C := RX12) (T := TX12) (N := 31) hx hb hts (tw_i inlX12) tyX12 tyX12_ok nmX12 hown hK hP hD hS hL_this hK_this (by decide) rfl 10 394 (by decide) (hts _ (tw_c tw_836)) rfl (by decide +kernel) rfl rfl (Nat.le_of_ble_eq_true rfl) (ps_394 _ _ _ _ _) dX12_nextToken_128 (fun I_4760 H locs eI_4760 hP hD hS => ?_)
                          have hG := GM.wI hG 394 rfl eI_4760 (rg_w (rg_full _) (by decide)) (by decide)
                          have tt_4761 : (I_4760 391 this).toInt = (I_4653 391 this).toInt := by rw [eI_4760, pq_uf _ _ _ (by decide)]
                          have tt_4762 : (I_4760 388 this).toInt = (I_4653 388 this).toInt := by rw [eI_4760, pq_uf _ _ _ (by decide)]
                          have tt_4763 : (I_4760 392 this).toInt = (I_4653 392 this).toInt := by rw [eI_4760, pq_uf _ _ _ (by decide)]
                          refine lv_aload_n hx hb dX12_nextToken_131 rfl (lv_at hl 0 rfl) ?_
                          refine lv_dup hx hb dX12_nextToken_132 rfl ?_
                          refine pg_f (v := .int (I_4760 391 this)) (C := RX12) (T := TX12) (N := 31) hx hb hts (tw_i inlX12) hown hK hP hL_this hK_this (by decide) rfl 7 (by decide) (hts _ (tw_c tw_830)) rfl dX12_nextToken_133 ?_
                          have h_4764 : rg (I_4760 391 this) 0 300 := GM.rI hG 391 rfl
                          have uh_4764 := h_4764.1
                          have vh_4764 := h_4764.2
                          refine lv_iconst (v := 1) hx hb dX12_nextToken_136 (by decide) ?_
                          have h_4765 : rg (I_4760 391 this) 0 299 := ⟨by omega, by omega⟩
                          have uh_4765 := h_4765.1
                          have vh_4765 := h_4765.2
                          refine lv_iadd hx hb dX12_nextToken_137 ?_
                          refine lv_topi (fun x_4766 ex_4766 => ?_)
                          have h_4767 : rg x_4766 1 300 := rg_of_eq ex_4766 (rg_add h_4765 (rg_k (1 : Int32) 1 rfl) (by decide))
                          have uh_4767 := h_4767.1
                          have vh_4767 := h_4767.2
                          have tx_4766 : (x_4766).toInt = (I_4760 391 this).toInt + 1 := by rw [ex_4766]; exact i_add_rg (a2 := (I_4760 391 this).toInt) (b2 := 1) rfl rfl h_4765 (rg_k (1 : Int32) 1 rfl) (by decide)
                          refine pp_i (v := x_4766) (ty := .int) (C := RX12) (T := TX12) (N := 31) hx hb hts (tw_i inlX12) tyX12 tyX12_ok nmX12 hown hK hP hD hS hL_this hK_this (by decide) rfl 7 391 (by decide) (hts _ (tw_c tw_830)) rfl (by decide +kernel) rfl rfl (Nat.le_of_ble_eq_true rfl) (ps_391 _ _ _ _ _) dX12_nextToken_138 (fun I_4768 H locs eI_4768 hP hD hS => ?_)
                          have hG := GM.wI hG 391 rfl eI_4768 (rg_w h_4767 (by decide)) (by decide)
                          have tt_4769 : (I_4768 391 this).toInt = (x_4766).toInt := by rw [eI_4768, pq_us]
                          have tt_4770 : (I_4768 388 this).toInt = (I_4760 388 this).toInt := by rw [eI_4768, pq_uf _ _ _ (by decide)]
                          have tt_4771 : (I_4768 392 this).toInt = (I_4760 392 this).toInt := by rw [eI_4768, pq_uf _ _ _ (by decide)]
                          refine lv_goto (tgt := 85) hx hb dX12_nextToken_141 (by decide) ?_
                          exact ih_4714 I_4768 _ _ _ (ms_fu_iadd hm_4711 (by rw [eI_4768]; exact pq_us _ _ _ _) ex_4766 ((congrFun (show I_4760 391 = I_4653 391 from by rw [eI_4760]; exact pq_uf _ _ _ (by decide)) this).trans rfl) (kk := 1) rfl (by decide) h_4765 (by decide) (by decide)) hG hP hD hS (lv_sub hl [0] rfl)
                  exact L_4713 _ I_4481 _ _ _ (Nat.lt_succ_self _) hG hP hD hS (lv_sub hl [1] rfl)
              · have tc_4772 : (x_3558).toInt < 0 := Int32.lt_iff_toInt_lt.mp (nle c_3566)
                have h_4773 : rg x_3558 (-1) (-1) := rg_lt1 (nle c_3566) hr_3562 (rg_k (0 : Int32) 0 rfl) (by decide)
                have uh_4773 := h_4773.1
                have vh_4773 := h_4773.2
                refine lv_aload_n hx hb dX12_nextToken_60 rfl (lv_at hl 1 rfl) ?_
                refine lv_iconst (v := 0) hx hb dX12_nextToken_61 (by decide) ?_
                refine pp_i (v := 0) (ty := .int) (C := RX12) (T := TX12) (N := 31) hx hb hts (tw_i inlX12) tyX12 tyX12_ok nmX12 hown hK hP hD hS hL_this hK_this (by decide) rfl 9 393 (by decide) (hts _ (tw_c tw_831)) rfl (by decide +kernel) rfl rfl (Nat.le_of_ble_eq_true rfl) (ps_393 _ _ _ _ _) dX12_nextToken_62 (fun I_4774 H locs eI_4774 hP hD hS => ?_)
                have hG := GM.wI hG 393 rfl eI_4774 (rg_w (rg_k (0 : Int32) 0 rfl) (by decide)) (by decide)
                have tt_4775 : (I_4774 391 this).toInt = (I_3553 391 this).toInt := by rw [eI_4774, pq_uf _ _ _ (by decide)]
                have tt_4776 : (I_4774 388 this).toInt = (I_3553 388 this).toInt := by rw [eI_4774, pq_uf _ _ _ (by decide)]
                have tt_4777 : (I_4774 392 this).toInt = (I_3553 392 this).toInt := by rw [eI_4774, pq_uf _ _ _ (by decide)]
                refine lv_goto (tgt := 396) hx hb dX12_nextToken_65 (by decide) ?_
                subst hQ
                exact W.vret hx hb hr (fun t1 ht hW => ⟨⟨(σ, I_4774, J, ri, rj, rq), rfl, ⟨I_4774, J, rfl, hG⟩, by rw [ht]; exact hP, va_K.moved hW.alike hK, hD⟩, hS.F ht⟩) hS.2.2 dX12_nextToken_396
            · have tc_4778 : (x_3543).toInt = 10 := congrArg Int32.toInt c_3551
              have h_4779 : rg x_3543 10 10 := rg_and hr_3547 (rg_of_eq c_3551 (rg_k (10 : Int32) 10 rfl)) (by decide)
              have uh_4779 := h_4779.1
              have vh_4779 := h_4779.2
              refine lv_aload_n hx hb dX12_nextToken_26 rfl (lv_at hl 0 rfl) ?_
              refine lv_dup hx hb dX12_nextToken_27 rfl ?_
              refine pg_f (v := .int (I_2644 391 this)) (C := RX12) (T := TX12) (N := 31) hx hb hts (tw_i inlX12) hown hK hP hL_this hK_this (by decide) rfl 7 (by decide) (hts _ (tw_c tw_830)) rfl dX12_nextToken_28 ?_
              refine lv_iconst (v := 1) hx hb dX12_nextToken_31 (by decide) ?_
              have h_4780 : rg (I_2644 391 this) 0 299 := ⟨by omega, by omega⟩
              have uh_4780 := h_4780.1
              have vh_4780 := h_4780.2
              refine lv_iadd hx hb dX12_nextToken_32 ?_
              refine lv_topi (fun x_4781 ex_4781 => ?_)
              have h_4782 : rg x_4781 1 300 := rg_of_eq ex_4781 (rg_add h_4780 (rg_k (1 : Int32) 1 rfl) (by decide))
              have uh_4782 := h_4782.1
              have vh_4782 := h_4782.2
              have tx_4781 : (x_4781).toInt = (I_2644 391 this).toInt + 1 := by rw [ex_4781]; exact i_add_rg (a2 := (I_2644 391 this).toInt) (b2 := 1) rfl rfl h_4780 (rg_k (1 : Int32) 1 rfl) (by decide)
              refine pp_i (v := x_4781) (ty := .int) (C := RX12) (T := TX12) (N := 31) hx hb hts (tw_i inlX12) tyX12 tyX12_ok nmX12 hown hK hP hD hS hL_this hK_this (by decide) rfl 7 391 (by decide) (hts _ (tw_c tw_830)) rfl (by decide +kernel) rfl rfl (Nat.le_of_ble_eq_true rfl) (ps_391 _ _ _ _ _) dX12_nextToken_33 (fun I_4783 H locs eI_4783 hP hD hS => ?_)
              have hG := GM.wI hG 391 rfl eI_4783 (rg_w h_4782 (by decide)) (by decide)
              have tt_4784 : (I_4783 391 this).toInt = (x_4781).toInt := by rw [eI_4783, pq_us]
              have tt_4785 : (I_4783 388 this).toInt = (I_2644 388 this).toInt := by rw [eI_4783, pq_uf _ _ _ (by decide)]
              have tt_4786 : (I_4783 392 this).toInt = (I_2644 392 this).toInt := by rw [eI_4783, pq_uf _ _ _ (by decide)]
              refine lv_goto (tgt := 0) hx hb dX12_nextToken_36 (by decide) ?_
              exact ih_3522 I_4783 _ _ _ (ms_fu_iadd hm_3519 (by rw [eI_4783]; exact pq_us _ _ _ _) ex_4781 rfl (kk := 1) rfl (by decide) h_4780 (by decide) (by decide)) hG hP hD hS (lv_sub hl [0] rfl)
      exact L_3521 _ I_16 _ _ _ (Nat.lt_succ_self _) hG hP hD hS (lv_sub hl [0] rfl)
    · have tc_4787 : (x_2).toInt ≠ 32 := fun q => c_10 (Int32.toInt_inj.mp q)
      refine lv_aload_n hx hb dX12_nextToken_13 rfl (lv_at hl 0 rfl) ?_
      refine lv_aload_n hx hb dX12_nextToken_14 rfl (lv_at hl 0 rfl) ?_
      refine pg_f (v := .int (I 391 this)) (C := RX12) (T := TX12) (N := 31) hx hb hts (tw_i inlX12) hown hK hP hL_this hK_this (by decide) rfl 7 (by decide) (hts _ (tw_c tw_830)) rfl dX12_nextToken_15 ?_
      refine pk_i (va_runV (As := [.int (I 391 this)]) (rest := []) ⟨hx, hb, hml, hown, hts⟩ (s_X12_see l D t σ I J ri rj rq H.size tg hSH hG.1 this (I 391 this) hL_this hK_this (rg_w h_1 (by decide))) (cwV 1 hts (tw_V tw_839 tw_840 tw_841 tw_5 tw_842) rfl rfl rfl (by decide +kernel) ⟨Nat.le_of_ble_eq_true rfl, Nat.le_of_ble_eq_true rfl⟩) ⟨pq_blind, pq_recv hK hP hL_this hK_this (by decide) rfl, pq_pre hK hN hP hD⟩ rfl rfl hl.1 rfl (lv_room (Nat.le_of_ble_eq_true rfl)) dX12_nextToken_18 ⟨Nat.le_of_ble_eq_true rfl, Nat.le_of_ble_eq_true rfl⟩) hD hS hA (fun x_4788 σ1 μ1 H locs hw_4789 hP hD hS => ?_)
      obtain ⟨hu_4790, hp_4793, hr_4792⟩ := hw_4789
      obtain ⟨hu_4790a, hu_4790b⟩ := Prod.mk.inj hu_4790
      rw [hu_4790a, hu_4790b] at hP hD
      have tt_4794 := hp_4793
      have tt_4795 := (GM.rI hG 388 (a := this) (lo := 0) (hi := 300) rfl).2
      refine lv_bipush (v := 10) hx hb dX12_nextToken_21 (by decide) ?_
      refine lv_icmp_ne (tgt := 39) hx hb dX12_nextToken_23 (by decide) (fun c_4796 => ?_) (fun c_4796 => ?_)
      · have tc_4797 : (x_4788).toInt ≠ 10 := fun q => c_4796 (Int32.toInt_inj.mp q)
        refine lv_aload_n hx hb dX12_nextToken_39 rfl (lv_at hl 0 rfl) ?_
        refine lv_aload_n hx hb dX12_nextToken_40 rfl (lv_at hl 0 rfl) ?_
        refine pg_f (v := .int (I 391 this)) (C := RX12) (T := TX12) (N := 31) hx hb hts (tw_i inlX12) hown hK hP hL_this hK_this (by decide) rfl 7 (by decide) (hts _ (tw_c tw_830)) rfl dX12_nextToken_41 ?_
        refine pp_i (v := (I 391 this)) (ty := .int) (C := RX12) (T := TX12) (N := 31) hx hb hts (tw_i inlX12) tyX12 tyX12_ok nmX12 hown hK hP hD hS hL_this hK_this (by decide) rfl 8 392 (by decide) (hts _ (tw_c tw_820)) rfl (by decide +kernel) rfl rfl (Nat.le_of_ble_eq_true rfl) (ps_392 _ _ _ _ _) dX12_nextToken_44 (fun I_4798 H locs eI_4798 hP hD hS => ?_)
        have hG := GM.wI hG 392 rfl eI_4798 (rg_w h_1 (by decide)) (by decide)
        have tt_4799 : (I_4798 391 this).toInt = (I 391 this).toInt := by rw [eI_4798, pq_uf _ _ _ (by decide)]
        have tt_4800 : (I_4798 388 this).toInt = (I 388 this).toInt := by rw [eI_4798, pq_uf _ _ _ (by decide)]
        have tt_4801 : (I_4798 392 this).toInt = (I 391 this).toInt := by rw [eI_4798, pq_us]
        refine lv_aload_n hx hb dX12_nextToken_47 rfl (lv_at hl 0 rfl) ?_
        refine lv_aload_n hx hb dX12_nextToken_48 rfl (lv_at hl 0 rfl) ?_
        refine pg_f (v := .int (I_4798 391 this)) (C := RX12) (T := TX12) (N := 31) hx hb hts (tw_i inlX12) hown hK hP hL_this hK_this (by decide) rfl 7 (by decide) (hts _ (tw_c tw_830)) rfl dX12_nextToken_49 ?_
        have h_4802 : rg (I_4798 391 this) 0 300 := GM.rI hG 391 rfl
        have uh_4802 := h_4802.1
        have vh_4802 := h_4802.2
        refine pk_i (va_runV (As := [.int (I_4798 391 this)]) (rest := []) ⟨hx, hb, hml, hown, hts⟩ (s_X12_see l D t σ I_4798 J ri rj rq H.size tg hSH hG.1 this (I_4798 391 this) hL_this hK_this (rg_w h_4802 (by decide))) (cwV 1 hts (tw_V tw_839 tw_840 tw_841 tw_5 tw_842) rfl rfl rfl (by decide +kernel) ⟨Nat.le_of_ble_eq_true rfl, Nat.le_of_ble_eq_true rfl⟩) ⟨pq_blind, pq_recv hK hP hL_this hK_this (by decide) rfl, pq_pre hK hN hP hD⟩ rfl rfl hl.1 rfl (lv_room (Nat.le_of_ble_eq_true rfl)) dX12_nextToken_52 ⟨Nat.le_of_ble_eq_true rfl, Nat.le_of_ble_eq_true rfl⟩) hD hS hA (fun x_4803 σ1 μ1 H locs hw_4804 hP hD hS => ?_)
        obtain ⟨hu_4805, hp_4808, hr_4807⟩ := hw_4804
        obtain ⟨hu_4805a, hu_4805b⟩ := Prod.mk.inj hu_4805
        rw [hu_4805a, hu_4805b] at hP hD
        have tt_4809 := hp_4808
        have tt_4810 := (GM.rI hG 388 (a := this) (lo := 0) (hi := 300) rfl).2
        refine lv_istore_n (lv' := [(1, .int x_4803), (0, .ref this)]) hx hb dX12_nextToken_55 rfl hl (by decide) rfl (fun ls hl => ?_)
        refine lv_iload_n hx hb dX12_nextToken_56 rfl (lv_at hl 0 rfl) ?_
        refine lv_if_ge (tgt := 68) hx hb dX12_nextToken_57 (by decide) (fun c_4811 => ?_) (fun c_4811 => ?_)
        · have tc_4812 : 0 ≤ (x_4803).toInt := Int32.le_iff_toInt_le.mp c_4811
          have h_4813 : rg x_4803 0 255 := rg_le2 c_4811 (rg_k (0 : Int32) 0 rfl) hr_4807 (by decide)
          have uh_4813 := h_4813.1
          have vh_4813 := h_4813.2
          refine lv_iload_n hx hb dX12_nextToken_68 rfl (lv_at hl 0 rfl) ?_
          refine pk_i (va_runS (As := [.int x_4803]) (rest := []) ⟨hx, hb, hml, hown, hts⟩ (s_X12_isDigit l D t σ I_4798 J ri rj rq H.size tg hSH hG.1 x_4803) (va_cwS 1 hts (tw_S tw_843 tw_844 tw_5 tw_845) rfl rfl rfl (by decide +kernel) ⟨Nat.le_of_ble_eq_true rfl, Nat.le_of_ble_eq_true rfl⟩) ⟨pq_blind, pq_pre hK hN hP hD⟩ rfl rfl hl.1 rfl (lv_room (Nat.le_of_ble_eq_true rfl)) dX12_nextToken_69 ⟨Nat.le_of_ble_eq_true rfl, Nat.le_of_ble_eq_true rfl⟩) hD hS hA (fun x_4814 σ1 μ1 H locs hw_4815 hP hD hS => ?_)
          obtain ⟨hu_4816, hr_4818⟩ := hw_4815
          obtain ⟨hu_4816a, hu_4816b⟩ := Prod.mk.inj hu_4816
          rw [hu_4816a, hu_4816b] at hP hD
          have h_4819 : rg x_4814 0 1 := by rcases hr_4818 with ⟨q, -⟩ | ⟨q, -⟩ <;> rw [q] <;> exact ⟨by decide, by decide⟩
          have uh_4819 := h_4819.1
          have vh_4819 := h_4819.2
          refine lv_if_eq (tgt := 144) hx hb dX12_nextToken_72 (by decide) (fun c_4820 => ?_) (fun c_4820 => ?_)
          · have f_4821 := (hr_4818.resolve_left (fun q => absurd (q.1.symm.trans c_4820) (by decide))).2
            have tc_4822 : (x_4814).toInt = 0 := congrArg Int32.toInt c_4820
            have h_4823 : rg x_4814 0 0 := rg_and h_4819 (rg_of_eq c_4820 (rg_k (0 : Int32) 0 rfl)) (by decide)
            have uh_4823 := h_4823.1
            have vh_4823 := h_4823.2
            refine lv_iload_n hx hb dX12_nextToken_144 rfl (lv_at hl 0 rfl) ?_
            refine pk_i (va_runS (As := [.int x_4803]) (rest := []) ⟨hx, hb, hml, hown, hts⟩ (s_X12_isLetter l D t σ I_4798 J ri rj rq H.size tg hSH hG.1 x_4803) (va_cwS 1 hts (tw_S tw_846 tw_847 tw_5 tw_848) rfl rfl rfl (by decide +kernel) ⟨Nat.le_of_ble_eq_true rfl, Nat.le_of_ble_eq_true rfl⟩) ⟨pq_blind, pq_pre hK hN hP hD⟩ rfl rfl hl.1 rfl (lv_room (Nat.le_of_ble_eq_true rfl)) dX12_nextToken_145 ⟨Nat.le_of_ble_eq_true rfl, Nat.le_of_ble_eq_true rfl⟩) hD hS hA (fun x_4824 σ1 μ1 H locs hw_4825 hP hD hS => ?_)
            obtain ⟨hu_4826, hr_4828⟩ := hw_4825
            obtain ⟨hu_4826a, hu_4826b⟩ := Prod.mk.inj hu_4826
            rw [hu_4826a, hu_4826b] at hP hD
            have h_4829 : rg x_4824 0 1 := by rcases hr_4828 with ⟨q, -⟩ | ⟨q, -⟩ <;> rw [q] <;> exact ⟨by decide, by decide⟩
            have uh_4829 := h_4829.1
            have vh_4829 := h_4829.2
            refine lv_if_eq (tgt := 245) hx hb dX12_nextToken_148 (by decide) (fun c_4830 => ?_) (fun c_4830 => ?_)
            · have f_4831 := (hr_4828.resolve_left (fun q => absurd (q.1.symm.trans c_4830) (by decide))).2
              have tc_4832 : (x_4824).toInt = 0 := congrArg Int32.toInt c_4830
              have h_4833 : rg x_4824 0 0 := rg_and h_4829 (rg_of_eq c_4830 (rg_k (0 : Int32) 0 rfl)) (by decide)
              have uh_4833 := h_4833.1
              have vh_4833 := h_4833.2
              refine lv_aload_n hx hb dX12_nextToken_245 rfl (lv_at hl 1 rfl) ?_
              refine lv_dup hx hb dX12_nextToken_246 rfl ?_
              refine pg_f (v := .int (I_4798 391 this)) (C := RX12) (T := TX12) (N := 31) hx hb hts (tw_i inlX12) hown hK hP hL_this hK_this (by decide) rfl 7 (by decide) (hts _ (tw_c tw_830)) rfl dX12_nextToken_247 ?_
              refine lv_iconst (v := 1) hx hb dX12_nextToken_250 (by decide) ?_
              have h_4834 : rg (I_4798 391 this) 0 299 := ⟨by omega, by omega⟩
              have uh_4834 := h_4834.1
              have vh_4834 := h_4834.2
              refine lv_iadd hx hb dX12_nextToken_251 ?_
              refine lv_topi (fun x_4835 ex_4835 => ?_)
              have h_4836 : rg x_4835 1 300 := rg_of_eq ex_4835 (rg_add h_4834 (rg_k (1 : Int32) 1 rfl) (by decide))
              have uh_4836 := h_4836.1
              have vh_4836 := h_4836.2
              have tx_4835 : (x_4835).toInt = (I_4798 391 this).toInt + 1 := by rw [ex_4835]; exact i_add_rg (a2 := (I_4798 391 this).toInt) (b2 := 1) rfl rfl h_4834 (rg_k (1 : Int32) 1 rfl) (by decide)
              refine pp_i (v := x_4835) (ty := .int) (C := RX12) (T := TX12) (N := 31) hx hb hts (tw_i inlX12) tyX12 tyX12_ok nmX12 hown hK hP hD hS hL_this hK_this (by decide) rfl 7 391 (by decide) (hts _ (tw_c tw_830)) rfl (by decide +kernel) rfl rfl (Nat.le_of_ble_eq_true rfl) (ps_391 _ _ _ _ _) dX12_nextToken_252 (fun I_4837 H locs eI_4837 hP hD hS => ?_)
              have hG := GM.wI hG 391 rfl eI_4837 (rg_w h_4836 (by decide)) (by decide)
              have tt_4838 : (I_4837 391 this).toInt = (x_4835).toInt := by rw [eI_4837, pq_us]
              have tt_4839 : (I_4837 388 this).toInt = (I_4798 388 this).toInt := by rw [eI_4837, pq_uf _ _ _ (by decide)]
              have tt_4840 : (I_4837 392 this).toInt = (I_4798 392 this).toInt := by rw [eI_4837, pq_uf _ _ _ (by decide)]
              refine lv_iload_n hx hb dX12_nextToken_255 rfl (lv_at hl 0 rfl) ?_
              refine lv_bipush (v := 60) hx hb dX12_nextToken_256 (by decide) ?_
              have K_4990 : ∀  (H : Heap) (locs : List Loc) (ls : Array Slot), GM [391, 392, 393] tg σ I ri I_4837 ri rq → va_P D vwCl (pq_P t σ (I_4837, J, ri, rj, rq)) H → va_D A (pq_P t σ (I_4837, J, ri, rj, rq)) → va_S A s.heap H locs → lv_has ls 3 [(0, .ref this), (1, .int x_4803)] → W p l e ({ frames := 2, cells := 0, slots := 0, locals := 42 } : Room) s m (List.toArray ([.ref this] : List Value)) below meth c H locs 0 0 Q (F0 m 332 ls [.int 0]) := by
                intro H locs ls hG hP hD hS hl
                refine lv_istore_n (lv' := [(2, .int 0), (0, .ref this), (1, .int x_4803)]) hx hb dX12_nextToken_332 rfl hl (by decide) rfl (fun ls hl => ?_)
                refine lv_aload_n hx hb dX12_nextToken_333 rfl (lv_at hl 1 rfl) ?_
                refine lv_iload_n hx hb dX12_nextToken_334 rfl (lv_at hl 0 rfl) ?_
                have K_5040 : ∀  (H : Heap) (locs : List Loc) (ls : Array Slot), GM [391, 392, 393] tg σ I ri I_4837 ri rq → va_P D vwCl (pq_P t σ (I_4837, J, ri, rj, rq)) H → va_D A (pq_P t σ (I_4837, J, ri, rj, rq)) → va_S A s.heap H locs → lv_has ls 3 [(0, .ref this), (1, .int x_4803)] → W p l e ({ frames := 2, cells := 0, slots := 0, locals := 42 } : Room) s m (List.toArray ([.ref this] : List Value)) below meth c H locs 0 0 Q (F0 m 343 ls [.int 3, .ref this]) := by
                  intro H locs ls hG hP hD hS hl
                  refine pp_i (v := 3) (ty := .int) (C := RX12) (T := TX12) (N := 31) hx hb hts (tw_i inlX12) tyX12 tyX12_ok nmX12 hown hK hP hD hS hL_this hK_this (by decide) rfl 9 393 (by decide) (hts _ (tw_c tw_831)) rfl (by decide +kernel) rfl rfl (Nat.le_of_ble_eq_true rfl) (ps_393 _ _ _ _ _) dX12_nextToken_343 (fun I_5041 H locs eI_5041 hP hD hS => ?_)
                  have hG := GM.wI hG 393 rfl eI_5041 (rg_w (rg_k (3 : Int32) 3 rfl) (by decide)) (by decide)
                  have tt_5042 : (I_5041 391 this).toInt = (I_4837 391 this).toInt := by rw [eI_5041, pq_uf _ _ _ (by decide)]
                  have tt_5043 : (I_5041 388 this).toInt = (I_4837 388 this).toInt := by rw [eI_5041, pq_uf _ _ _ (by decide)]
                  have tt_5044 : (I_5041 392 this).toInt = (I_4837 392 this).toInt := by rw [eI_5041, pq_uf _ _ _ (by decide)]
                  refine lv_iload_n hx hb dX12_nextToken_346 rfl (lv_at hl 1 rfl) ?_
                  refine lv_bipush (v := 60) hx hb dX12_nextToken_347 (by decide) ?_
                  have K_5089 : ∀  (H : Heap) (locs : List Loc) (ls : Array Slot), rg (x_4803) 60 62 → GM [391, 392, 393] tg σ I ri I_5041 ri rq → va_P D vwCl (pq_P t σ (I_5041, J, ri, rj, rq)) H → va_D A (pq_P t σ (I_5041, J, ri, rj, rq)) → va_S A s.heap H locs → lv_has ls 3 [(0, .ref this), (1, .int x_4803)] → W p l e ({ frames := 2, cells := 0, slots := 0, locals := 42 } : Room) s m (List.toArray ([.ref this] : List Value)) below meth c H locs 0 0 Q (F0 m 358 ls []) := by
                    intro H locs ls h_5091 hG hP hD hS hl
                    have uh_5091 := h_5091.1
                    have vh_5091 := h_5091.2
                    refine lv_aload_n hx hb dX12_nextToken_358 rfl (lv_at hl 0 rfl) ?_
                    refine lv_aload_n hx hb dX12_nextToken_359 rfl (lv_at hl 0 rfl) ?_
                    refine pg_f (v := .int (I_5041 391 this)) (C := RX12) (T := TX12) (N := 31) hx hb hts (tw_i inlX12) hown hK hP hL_this hK_this (by decide) rfl 7 (by decide) (hts _ (tw_c tw_830)) rfl dX12_nextToken_360 ?_
                    have h_5092 : rg (I_5041 391 this) 1 300 := (by rw [eI_5041, pq_uf _ _ _ (by decide)]; exact (by rw [eI_4837, pq_us]; exact h_4836))
                    have uh_5092 := h_5092.1
                    have vh_5092 := h_5092.2
                    refine pk_i (va_runV (As := [.int (I_5041 391 this)]) (rest := []) ⟨hx, hb, hml, hown, hts⟩ (s_X12_see l D t σ I_5041 J ri rj rq H.size tg hSH hG.1 this (I_5041 391 this) hL_this hK_this (rg_w h_5092 (by decide))) (cwV 1 hts (tw_V tw_839 tw_840 tw_841 tw_5 tw_842) rfl rfl rfl (by decide +kernel) ⟨Nat.le_of_ble_eq_true rfl, Nat.le_of_ble_eq_true rfl⟩) ⟨pq_blind, pq_recv hK hP hL_this hK_this (by decide) rfl, pq_pre hK hN hP hD⟩ rfl rfl hl.1 rfl (lv_room (Nat.le_of_ble_eq_true rfl)) dX12_nextToken_363 ⟨Nat.le_of_ble_eq_true rfl, Nat.le_of_ble_eq_true rfl⟩) hD hS hA (fun x_5093 σ1 μ1 H locs hw_5094 hP hD hS => ?_)
                    obtain ⟨hu_5095, hp_5098, hr_5097⟩ := hw_5094
                    obtain ⟨hu_5095a, hu_5095b⟩ := Prod.mk.inj hu_5095
                    rw [hu_5095a, hu_5095b] at hP hD
                    have tt_5099 := hp_5098
                    have tt_5100 := (GM.rI hG 388 (a := this) (lo := 0) (hi := 300) rfl).2
                    refine lv_bipush (v := 61) hx hb dX12_nextToken_366 (by decide) ?_
                    refine lv_icmp_ne (tgt := 396) hx hb dX12_nextToken_368 (by decide) (fun c_5101 => ?_) (fun c_5101 => ?_)
                    · have tc_5102 : (x_5093).toInt ≠ 61 := fun q => c_5101 (Int32.toInt_inj.mp q)
                      subst hQ
                      exact W.vret hx hb hr (fun t1 ht hW => ⟨⟨(σ, I_5041, J, ri, rj, rq), rfl, ⟨I_5041, J, rfl, hG⟩, by rw [ht]; exact hP, va_K.moved hW.alike hK, hD⟩, hS.F ht⟩) hS.2.2 dX12_nextToken_396
                    · have tc_5103 : (x_5093).toInt = 61 := congrArg Int32.toInt c_5101
                      have h_5104 : rg x_5093 61 61 := rg_and hr_5097 (rg_of_eq c_5101 (rg_k (61 : Int32) 61 rfl)) (by decide)
                      have uh_5104 := h_5104.1
                      have vh_5104 := h_5104.2
                      refine lv_aload_n hx hb dX12_nextToken_371 rfl (lv_at hl 0 rfl) ?_
                      refine lv_dup hx hb dX12_nextToken_372 rfl ?_
                      refine pg_f (v := .int (I_5041 391 this)) (C := RX12) (T := TX12) (N := 31) hx hb hts (tw_i inlX12) hown hK hP hL_this hK_this (by decide) rfl 7 (by decide) (hts _ (tw_c tw_830)) rfl dX12_nextToken_373 ?_
                      refine lv_iconst (v := 1) hx hb dX12_nextToken_376 (by decide) ?_
                      have h_5105 : rg (I_5041 391 this) 0 299 := ⟨by omega, by omega⟩
                      have uh_5105 := h_5105.1
                      have vh_5105 := h_5105.2
                      refine lv_iadd hx hb dX12_nextToken_377 ?_
                      refine lv_topi (fun x_5106 ex_5106 => ?_)
                      have h_5107 : rg x_5106 1 300 := rg_of_eq ex_5106 (rg_add h_5105 (rg_k (1 : Int32) 1 rfl) (by decide))
                      have uh_5107 := h_5107.1
                      have vh_5107 := h_5107.2
                      have tx_5106 : (x_5106).toInt = (I_5041 391 this).toInt + 1 := by rw [ex_5106]; exact i_add_rg (a2 := (I_5041 391 this).toInt) (b2 := 1) rfl rfl h_5105 (rg_k (1 : Int32) 1 rfl) (by decide)
                      refine pp_i (v := x_5106) (ty := .int) (C := RX12) (T := TX12) (N := 31) hx hb hts (tw_i inlX12) tyX12 tyX12_ok nmX12 hown hK hP hD hS hL_this hK_this (by decide) rfl 7 391 (by decide) (hts _ (tw_c tw_830)) rfl (by decide +kernel) rfl rfl (Nat.le_of_ble_eq_true rfl) (ps_391 _ _ _ _ _) dX12_nextToken_378 (fun I_5108 H locs eI_5108 hP hD hS => ?_)
                      have hG := GM.wI hG 391 rfl eI_5108 (rg_w h_5107 (by decide)) (by decide)
                      have tt_5109 : (I_5108 391 this).toInt = (x_5106).toInt := by rw [eI_5108, pq_us]
                      have tt_5110 : (I_5108 388 this).toInt = (I_5041 388 this).toInt := by rw [eI_5108, pq_uf _ _ _ (by decide)]
                      have tt_5111 : (I_5108 392 this).toInt = (I_5041 392 this).toInt := by rw [eI_5108, pq_uf _ _ _ (by decide)]
                      refine lv_aload_n hx hb dX12_nextToken_381 rfl (lv_at hl 0 rfl) ?_
                      refine lv_iload_n hx hb dX12_nextToken_382 rfl (lv_at hl 1 rfl) ?_
                      refine lv_bipush (v := 60) hx hb dX12_nextToken_383 (by decide) ?_
                      have K_5127 : ∀  (H : Heap) (locs : List Loc) (ls : Array Slot), rg (x_4803) 61 62 → GM [391, 392, 393] tg σ I ri I_5108 ri rq → va_P D vwCl (pq_P t σ (I_5108, J, ri, rj, rq)) H → va_D A (pq_P t σ (I_5108, J, ri, rj, rq)) → va_S A s.heap H locs → lv_has ls 3 [] → W p l e ({ frames := 2, cells := 0, slots := 0, locals := 42 } : Room) s m (List.toArray ([.ref this] : List Value)) below meth c H locs 0 0 Q (F0 m 393 ls [.int 5, .ref this]) := by
                        intro H locs ls h_5129 hG hP hD hS hl
                        have uh_5129 := h_5129.1
                        have vh_5129 := h_5129.2
                        refine pp_i (v := 5) (ty := .int) (C := RX12) (T := TX12) (N := 31) hx hb hts (tw_i inlX12) tyX12 tyX12_ok nmX12 hown hK hP hD hS hL_this hK_this (by decide) rfl 9 393 (by decide) (hts _ (tw_c tw_831)) rfl (by decide +kernel) rfl rfl (Nat.le_of_ble_eq_true rfl) (ps_393 _ _ _ _ _) dX12_nextToken_393 (fun I_5130 H locs eI_5130 hP hD hS => ?_)
                        have hG := GM.wI hG 393 rfl eI_5130 (rg_w (rg_k (5 : Int32) 5 rfl) (by decide)) (by decide)
                        have tt_5131 : (I_5130 391 this).toInt = (I_5108 391 this).toInt := by rw [eI_5130, pq_uf _ _ _ (by decide)]
                        have tt_5132 : (I_5130 388 this).toInt = (I_5108 388 this).toInt := by rw [eI_5130, pq_uf _ _ _ (by decide)]
                        have tt_5133 : (I_5130 392 this).toInt = (I_5108 392 this).toInt := by rw [eI_5130, pq_uf _ _ _ (by decide)]
                        subst hQ
                        exact W.vret hx hb hr (fun t1 ht hW => ⟨⟨(σ, I_5130, J, ri, rj, rq), rfl, ⟨I_5130, J, rfl, hG⟩, by rw [ht]; exact hP, va_K.moved hW.alike hK, hD⟩, hS.F ht⟩) hS.2.2 dX12_nextToken_396
                      have K_5134 : ∀  (H : Heap) (locs : List Loc) (ls : Array Slot), rg (x_4803) 60 60 → GM [391, 392, 393] tg σ I ri I_5108 ri rq → va_P D vwCl (pq_P t σ (I_5108, J, ri, rj, rq)) H → va_D A (pq_P t σ (I_5108, J, ri, rj, rq)) → va_S A s.heap H locs → lv_has ls 3 [] → W p l e ({ frames := 2, cells := 0, slots := 0, locals := 42 } : Room) s m (List.toArray ([.ref this] : List Value)) below meth c H locs 0 0 Q (F0 m 393 ls [.int 4, .ref this]) := by
                        intro H locs ls h_5136 hG hP hD hS hl
                        have uh_5136 := h_5136.1
                        have vh_5136 := h_5136.2
                        refine pp_i (v := 4) (ty := .int) (C := RX12) (T := TX12) (N := 31) hx hb hts (tw_i inlX12) tyX12 tyX12_ok nmX12 hown hK hP hD hS hL_this hK_this (by decide) rfl 9 393 (by decide) (hts _ (tw_c tw_831)) rfl (by decide +kernel) rfl rfl (Nat.le_of_ble_eq_true rfl) (ps_393 _ _ _ _ _) dX12_nextToken_393 (fun I_5137 H locs eI_5137 hP hD hS => ?_)
                        have hG := GM.wI hG 393 rfl eI_5137 (rg_w (rg_k (4 : Int32) 4 rfl) (by decide)) (by decide)
                        have tt_5138 : (I_5137 391 this).toInt = (I_5108 391 this).toInt := by rw [eI_5137, pq_uf _ _ _ (by decide)]
                        have tt_5139 : (I_5137 388 this).toInt = (I_5108 388 this).toInt := by rw [eI_5137, pq_uf _ _ _ (by decide)]
                        have tt_5140 : (I_5137 392 this).toInt = (I_5108 392 this).toInt := by rw [eI_5137, pq_uf _ _ _ (by decide)]
                        subst hQ
                        exact W.vret hx hb hr (fun t1 ht hW => ⟨⟨(σ, I_5137, J, ri, rj, rq), rfl, ⟨I_5137, J, rfl, hG⟩, by rw [ht]; exact hP, va_K.moved hW.alike hK, hD⟩, hS.F ht⟩) hS.2.2 dX12_nextToken_396
                      refine lv_icmp_ne (tgt := 392) hx hb dX12_nextToken_385 (by decide) (fun c_5141 => ?_) (fun c_5141 => ?_)
                      · have tc_5142 : (x_4803).toInt ≠ 60 := fun q => c_5141 (Int32.toInt_inj.mp q)
                        have h_5143 : rg x_4803 61 62 := rg_ne c_5141 h_5091 60 rfl (by decide)
                        have uh_5143 := h_5143.1
                        have vh_5143 := h_5143.2
                        refine lv_iconst (v := 5) hx hb dX12_nextToken_392 (by decide) ?_
                        exact K_5127 _ _ _ (rg_w h_5143 (by decide)) hG hP hD hS (lv_sub hl [] rfl)
                      · have tc_5144 : (x_4803).toInt = 60 := congrArg Int32.toInt c_5141
                        have h_5145 : rg x_4803 60 60 := rg_and h_5091 (rg_of_eq c_5141 (rg_k (60 : Int32) 60 rfl)) (by decide)
                        have uh_5145 := h_5145.1
                        have vh_5145 := h_5145.2
                        refine lv_iconst (v := 4) hx hb dX12_nextToken_388 (by decide) ?_
                        refine lv_goto (tgt := 393) hx hb dX12_nextToken_389 (by decide) ?_
                        exact K_5134 _ _ _ (rg_w h_5145 (by decide)) hG hP hD hS (lv_sub hl [] rfl)
                  refine lv_icmp_eq (tgt := 358) hx hb dX12_nextToken_349 (by decide) (fun c_5146 => ?_) (fun c_5146 => ?_)
                  · have tc_5147 : (x_4803).toInt = 60 := congrArg Int32.toInt c_5146
                    have h_5148 : rg x_4803 60 60 := rg_and h_4813 (rg_of_eq c_5146 (rg_k (60 : Int32) 60 rfl)) (by decide)
                    have uh_5148 := h_5148.1
                    have vh_5148 := h_5148.2
                    exact K_5089 _ _ _ (rg_w h_5148 (by decide)) hG hP hD hS (lv_sub hl [0, 1] rfl)
                  · have tc_5149 : (x_4803).toInt ≠ 60 := fun q => c_5146 (Int32.toInt_inj.mp q)
                    refine lv_iload_n hx hb dX12_nextToken_352 rfl (lv_at hl 1 rfl) ?_
                    refine lv_bipush (v := 62) hx hb dX12_nextToken_353 (by decide) ?_
                    refine lv_icmp_ne (tgt := 396) hx hb dX12_nextToken_355 (by decide) (fun c_5150 => ?_) (fun c_5150 => ?_)
                    · have tc_5151 : (x_4803).toInt ≠ 62 := fun q => c_5150 (Int32.toInt_inj.mp q)
                      subst hQ
                      exact W.vret hx hb hr (fun t1 ht hW => ⟨⟨(σ, I_5041, J, ri, rj, rq), rfl, ⟨I_5041, J, rfl, hG⟩, by rw [ht]; exact hP, va_K.moved hW.alike hK, hD⟩, hS.F ht⟩) hS.2.2 dX12_nextToken_396
                    · have tc_5152 : (x_4803).toInt = 62 := congrArg Int32.toInt c_5150
                      have h_5153 : rg x_4803 62 62 := rg_and h_4813 (rg_of_eq c_5150 (rg_k (62 : Int32) 62 rfl)) (by decide)
                      have uh_5153 := h_5153.1
                      have vh_5153 := h_5153.2
                      exact K_5089 _ _ _ (rg_w h_5153 (by decide)) hG hP hD hS (lv_sub hl [0, 1] rfl)
                refine lv_if_eq (tgt := 342) hx hb dX12_nextToken_335 (by decide) (fun c_5154 => ?_) (fun c_5154 => absurd c_5154 (by decide))
                refine lv_iconst (v := 3) hx hb dX12_nextToken_342 (by decide) ?_
                exact K_5040 _ _ _ hG hP hD hS (lv_sub hl [1, 2] rfl)
              have K_5155 : ∀  (H : Heap) (locs : List Loc) (ls : Array Slot), rg (x_4803) 35 62 → GM [391, 392, 393] tg σ I ri I_4837 ri rq → va_P D vwCl (pq_P t σ (I_4837, J, ri, rj, rq)) H → va_D A (pq_P t σ (I_4837, J, ri, rj, rq)) → va_S A s.heap H locs → lv_has ls 3 [(0, .ref this), (1, .int x_4803)] → W p l e ({ frames := 2, cells := 0, slots := 0, locals := 42 } : Room) s m (List.toArray ([.ref this] : List Value)) below meth c H locs 0 0 Q (F0 m 332 ls [.int 1]) := by
                intro H locs ls h_5157 hG hP hD hS hl
                have uh_5157 := h_5157.1
                have vh_5157 := h_5157.2
                refine lv_istore_n (lv' := [(2, .int 1), (0, .ref this), (1, .int x_4803)]) hx hb dX12_nextToken_332 rfl hl (by decide) rfl (fun ls hl => ?_)
                refine lv_aload_n hx hb dX12_nextToken_333 rfl (lv_at hl 1 rfl) ?_
                refine lv_iload_n hx hb dX12_nextToken_334 rfl (lv_at hl 0 rfl) ?_
                have K_5208 : ∀  (H : Heap) (locs : List Loc) (ls : Array Slot), GM [391, 392, 393] tg σ I ri I_4837 ri rq → va_P D vwCl (pq_P t σ (I_4837, J, ri, rj, rq)) H → va_D A (pq_P t σ (I_4837, J, ri, rj, rq)) → va_S A s.heap H locs → lv_has ls 3 [(0, .ref this), (1, .int x_4803)] → W p l e ({ frames := 2, cells := 0, slots := 0, locals := 42 } : Room) s m (List.toArray ([.ref this] : List Value)) below meth c H locs 0 0 Q (F0 m 343 ls [.int x_4803, .ref this]) := by
                  intro H locs ls hG hP hD hS hl
                  refine pp_i (v := x_4803) (ty := .int) (C := RX12) (T := TX12) (N := 31) hx hb hts (tw_i inlX12) tyX12 tyX12_ok nmX12 hown hK hP hD hS hL_this hK_this (by decide) rfl 9 393 (by decide) (hts _ (tw_c tw_831)) rfl (by decide +kernel) rfl rfl (Nat.le_of_ble_eq_true rfl) (ps_393 _ _ _ _ _) dX12_nextToken_343 (fun I_5209 H locs eI_5209 hP hD hS => ?_)
                  have hG := GM.wI hG 393 rfl eI_5209 (rg_w h_5157 (by decide)) (by decide)
                  have tt_5210 : (I_5209 391 this).toInt = (I_4837 391 this).toInt := by rw [eI_5209, pq_uf _ _ _ (by decide)]
                  have tt_5211 : (I_5209 388 this).toInt = (I_4837 388 this).toInt := by rw [eI_5209, pq_uf _ _ _ (by decide)]
                  have tt_5212 : (I_5209 392 this).toInt = (I_4837 392 this).toInt := by rw [eI_5209, pq_uf _ _ _ (by decide)]
                  refine lv_iload_n hx hb dX12_nextToken_346 rfl (lv_at hl 1 rfl) ?_
                  refine lv_bipush (v := 60) hx hb dX12_nextToken_347 (by decide) ?_
                  have K_5258 : ∀  (H : Heap) (locs : List Loc) (ls : Array Slot), rg (x_4803) 60 62 → GM [391, 392, 393] tg σ I ri I_5209 ri rq → va_P D vwCl (pq_P t σ (I_5209, J, ri, rj, rq)) H → va_D A (pq_P t σ (I_5209, J, ri, rj, rq)) → va_S A s.heap H locs → lv_has ls 3 [(0, .ref this), (1, .int x_4803)] → W p l e ({ frames := 2, cells := 0, slots := 0, locals := 42 } : Room) s m (List.toArray ([.ref this] : List Value)) below meth c H locs 0 0 Q (F0 m 358 ls []) := by
                    intro H locs ls h_5260 hG hP hD hS hl
                    have uh_5260 := h_5260.1
                    have vh_5260 := h_5260.2
                    refine lv_aload_n hx hb dX12_nextToken_358 rfl (lv_at hl 0 rfl) ?_
                    refine lv_aload_n hx hb dX12_nextToken_359 rfl (lv_at hl 0 rfl) ?_
                    refine pg_f (v := .int (I_5209 391 this)) (C := RX12) (T := TX12) (N := 31) hx hb hts (tw_i inlX12) hown hK hP hL_this hK_this (by decide) rfl 7 (by decide) (hts _ (tw_c tw_830)) rfl dX12_nextToken_360 ?_
                    have h_5261 : rg (I_5209 391 this) 1 300 := (by rw [eI_5209, pq_uf _ _ _ (by decide)]; exact (by rw [eI_4837, pq_us]; exact h_4836))
                    have uh_5261 := h_5261.1
                    have vh_5261 := h_5261.2
                    refine pk_i (va_runV (As := [.int (I_5209 391 this)]) (rest := []) ⟨hx, hb, hml, hown, hts⟩ (s_X12_see l D t σ I_5209 J ri rj rq H.size tg hSH hG.1 this (I_5209 391 this) hL_this hK_this (rg_w h_5261 (by decide))) (cwV 1 hts (tw_V tw_839 tw_840 tw_841 tw_5 tw_842) rfl rfl rfl (by decide +kernel) ⟨Nat.le_of_ble_eq_true rfl, Nat.le_of_ble_eq_true rfl⟩) ⟨pq_blind, pq_recv hK hP hL_this hK_this (by decide) rfl, pq_pre hK hN hP hD⟩ rfl rfl hl.1 rfl (lv_room (Nat.le_of_ble_eq_true rfl)) dX12_nextToken_363 ⟨Nat.le_of_ble_eq_true rfl, Nat.le_of_ble_eq_true rfl⟩) hD hS hA (fun x_5262 σ1 μ1 H locs hw_5263 hP hD hS => ?_)
                    obtain ⟨hu_5264, hp_5267, hr_5266⟩ := hw_5263
                    obtain ⟨hu_5264a, hu_5264b⟩ := Prod.mk.inj hu_5264
                    rw [hu_5264a, hu_5264b] at hP hD
                    have tt_5268 := hp_5267
                    have tt_5269 := (GM.rI hG 388 (a := this) (lo := 0) (hi := 300) rfl).2
                    refine lv_bipush (v := 61) hx hb dX12_nextToken_366 (by decide) ?_
                    refine lv_icmp_ne (tgt := 396) hx hb dX12_nextToken_368 (by decide) (fun c_5270 => ?_) (fun c_5270 => ?_)
                    · have tc_5271 : (x_5262).toInt ≠ 61 := fun q => c_5270 (Int32.toInt_inj.mp q)
                      subst hQ
                      exact W.vret hx hb hr (fun t1 ht hW => ⟨⟨(σ, I_5209, J, ri, rj, rq), rfl, ⟨I_5209, J, rfl, hG⟩, by rw [ht]; exact hP, va_K.moved hW.alike hK, hD⟩, hS.F ht⟩) hS.2.2 dX12_nextToken_396
                    · have tc_5272 : (x_5262).toInt = 61 := congrArg Int32.toInt c_5270
                      have h_5273 : rg x_5262 61 61 := rg_and hr_5266 (rg_of_eq c_5270 (rg_k (61 : Int32) 61 rfl)) (by decide)
                      have uh_5273 := h_5273.1
                      have vh_5273 := h_5273.2
                      refine lv_aload_n hx hb dX12_nextToken_371 rfl (lv_at hl 0 rfl) ?_
                      refine lv_dup hx hb dX12_nextToken_372 rfl ?_
                      refine pg_f (v := .int (I_5209 391 this)) (C := RX12) (T := TX12) (N := 31) hx hb hts (tw_i inlX12) hown hK hP hL_this hK_this (by decide) rfl 7 (by decide) (hts _ (tw_c tw_830)) rfl dX12_nextToken_373 ?_
                      refine lv_iconst (v := 1) hx hb dX12_nextToken_376 (by decide) ?_
                      have h_5274 : rg (I_5209 391 this) 0 299 := ⟨by omega, by omega⟩
                      have uh_5274 := h_5274.1
                      have vh_5274 := h_5274.2
                      refine lv_iadd hx hb dX12_nextToken_377 ?_
                      refine lv_topi (fun x_5275 ex_5275 => ?_)
                      have h_5276 : rg x_5275 1 300 := rg_of_eq ex_5275 (rg_add h_5274 (rg_k (1 : Int32) 1 rfl) (by decide))
                      have uh_5276 := h_5276.1
                      have vh_5276 := h_5276.2
                      have tx_5275 : (x_5275).toInt = (I_5209 391 this).toInt + 1 := by rw [ex_5275]; exact i_add_rg (a2 := (I_5209 391 this).toInt) (b2 := 1) rfl rfl h_5274 (rg_k (1 : Int32) 1 rfl) (by decide)
                      refine pp_i (v := x_5275) (ty := .int) (C := RX12) (T := TX12) (N := 31) hx hb hts (tw_i inlX12) tyX12 tyX12_ok nmX12 hown hK hP hD hS hL_this hK_this (by decide) rfl 7 391 (by decide) (hts _ (tw_c tw_830)) rfl (by decide +kernel) rfl rfl (Nat.le_of_ble_eq_true rfl) (ps_391 _ _ _ _ _) dX12_nextToken_378 (fun I_5277 H locs eI_5277 hP hD hS => ?_)
                      have hG := GM.wI hG 391 rfl eI_5277 (rg_w h_5276 (by decide)) (by decide)
                      have tt_5278 : (I_5277 391 this).toInt = (x_5275).toInt := by rw [eI_5277, pq_us]
                      have tt_5279 : (I_5277 388 this).toInt = (I_5209 388 this).toInt := by rw [eI_5277, pq_uf _ _ _ (by decide)]
                      have tt_5280 : (I_5277 392 this).toInt = (I_5209 392 this).toInt := by rw [eI_5277, pq_uf _ _ _ (by decide)]
                      refine lv_aload_n hx hb dX12_nextToken_381 rfl (lv_at hl 0 rfl) ?_
                      refine lv_iload_n hx hb dX12_nextToken_382 rfl (lv_at hl 1 rfl) ?_
                      refine lv_bipush (v := 60) hx hb dX12_nextToken_383 (by decide) ?_
                      have K_5296 : ∀  (H : Heap) (locs : List Loc) (ls : Array Slot), rg (x_4803) 61 62 → GM [391, 392, 393] tg σ I ri I_5277 ri rq → va_P D vwCl (pq_P t σ (I_5277, J, ri, rj, rq)) H → va_D A (pq_P t σ (I_5277, J, ri, rj, rq)) → va_S A s.heap H locs → lv_has ls 3 [] → W p l e ({ frames := 2, cells := 0, slots := 0, locals := 42 } : Room) s m (List.toArray ([.ref this] : List Value)) below meth c H locs 0 0 Q (F0 m 393 ls [.int 5, .ref this]) := by
                        intro H locs ls h_5298 hG hP hD hS hl
                        have uh_5298 := h_5298.1
                        have vh_5298 := h_5298.2
                        refine pp_i (v := 5) (ty := .int) (C := RX12) (T := TX12) (N := 31) hx hb hts (tw_i inlX12) tyX12 tyX12_ok nmX12 hown hK hP hD hS hL_this hK_this (by decide) rfl 9 393 (by decide) (hts _ (tw_c tw_831)) rfl (by decide +kernel) rfl rfl (Nat.le_of_ble_eq_true rfl) (ps_393 _ _ _ _ _) dX12_nextToken_393 (fun I_5299 H locs eI_5299 hP hD hS => ?_)
                        have hG := GM.wI hG 393 rfl eI_5299 (rg_w (rg_k (5 : Int32) 5 rfl) (by decide)) (by decide)
                        have tt_5300 : (I_5299 391 this).toInt = (I_5277 391 this).toInt := by rw [eI_5299, pq_uf _ _ _ (by decide)]
                        have tt_5301 : (I_5299 388 this).toInt = (I_5277 388 this).toInt := by rw [eI_5299, pq_uf _ _ _ (by decide)]
                        have tt_5302 : (I_5299 392 this).toInt = (I_5277 392 this).toInt := by rw [eI_5299, pq_uf _ _ _ (by decide)]
                        subst hQ
                        exact W.vret hx hb hr (fun t1 ht hW => ⟨⟨(σ, I_5299, J, ri, rj, rq), rfl, ⟨I_5299, J, rfl, hG⟩, by rw [ht]; exact hP, va_K.moved hW.alike hK, hD⟩, hS.F ht⟩) hS.2.2 dX12_nextToken_396
                      have K_5303 : ∀  (H : Heap) (locs : List Loc) (ls : Array Slot), rg (x_4803) 60 60 → GM [391, 392, 393] tg σ I ri I_5277 ri rq → va_P D vwCl (pq_P t σ (I_5277, J, ri, rj, rq)) H → va_D A (pq_P t σ (I_5277, J, ri, rj, rq)) → va_S A s.heap H locs → lv_has ls 3 [] → W p l e ({ frames := 2, cells := 0, slots := 0, locals := 42 } : Room) s m (List.toArray ([.ref this] : List Value)) below meth c H locs 0 0 Q (F0 m 393 ls [.int 4, .ref this]) := by
                        intro H locs ls h_5305 hG hP hD hS hl
                        have uh_5305 := h_5305.1
                        have vh_5305 := h_5305.2
                        refine pp_i (v := 4) (ty := .int) (C := RX12) (T := TX12) (N := 31) hx hb hts (tw_i inlX12) tyX12 tyX12_ok nmX12 hown hK hP hD hS hL_this hK_this (by decide) rfl 9 393 (by decide) (hts _ (tw_c tw_831)) rfl (by decide +kernel) rfl rfl (Nat.le_of_ble_eq_true rfl) (ps_393 _ _ _ _ _) dX12_nextToken_393 (fun I_5306 H locs eI_5306 hP hD hS => ?_)
                        have hG := GM.wI hG 393 rfl eI_5306 (rg_w (rg_k (4 : Int32) 4 rfl) (by decide)) (by decide)
                        have tt_5307 : (I_5306 391 this).toInt = (I_5277 391 this).toInt := by rw [eI_5306, pq_uf _ _ _ (by decide)]
                        have tt_5308 : (I_5306 388 this).toInt = (I_5277 388 this).toInt := by rw [eI_5306, pq_uf _ _ _ (by decide)]
                        have tt_5309 : (I_5306 392 this).toInt = (I_5277 392 this).toInt := by rw [eI_5306, pq_uf _ _ _ (by decide)]
                        subst hQ
                        exact W.vret hx hb hr (fun t1 ht hW => ⟨⟨(σ, I_5306, J, ri, rj, rq), rfl, ⟨I_5306, J, rfl, hG⟩, by rw [ht]; exact hP, va_K.moved hW.alike hK, hD⟩, hS.F ht⟩) hS.2.2 dX12_nextToken_396
                      refine lv_icmp_ne (tgt := 392) hx hb dX12_nextToken_385 (by decide) (fun c_5310 => ?_) (fun c_5310 => ?_)
                      · have tc_5311 : (x_4803).toInt ≠ 60 := fun q => c_5310 (Int32.toInt_inj.mp q)
                        have h_5312 : rg x_4803 61 62 := rg_ne c_5310 h_5260 60 rfl (by decide)
                        have uh_5312 := h_5312.1
                        have vh_5312 := h_5312.2
                        refine lv_iconst (v := 5) hx hb dX12_nextToken_392 (by decide) ?_
                        exact K_5296 _ _ _ (rg_w h_5312 (by decide)) hG hP hD hS (lv_sub hl [] rfl)
                      · have tc_5313 : (x_4803).toInt = 60 := congrArg Int32.toInt c_5310
                        have h_5314 : rg x_4803 60 60 := rg_and h_5260 (rg_of_eq c_5310 (rg_k (60 : Int32) 60 rfl)) (by decide)
                        have uh_5314 := h_5314.1
                        have vh_5314 := h_5314.2
                        refine lv_iconst (v := 4) hx hb dX12_nextToken_388 (by decide) ?_
                        refine lv_goto (tgt := 393) hx hb dX12_nextToken_389 (by decide) ?_
                        exact K_5303 _ _ _ (rg_w h_5314 (by decide)) hG hP hD hS (lv_sub hl [] rfl)
                  refine lv_icmp_eq (tgt := 358) hx hb dX12_nextToken_349 (by decide) (fun c_5315 => ?_) (fun c_5315 => ?_)
                  · have tc_5316 : (x_4803).toInt = 60 := congrArg Int32.toInt c_5315
                    have h_5317 : rg x_4803 60 60 := rg_and h_5157 (rg_of_eq c_5315 (rg_k (60 : Int32) 60 rfl)) (by decide)
                    have uh_5317 := h_5317.1
                    have vh_5317 := h_5317.2
                    exact K_5258 _ _ _ (rg_w h_5317 (by decide)) hG hP hD hS (lv_sub hl [0, 1] rfl)
                  · have tc_5318 : (x_4803).toInt ≠ 60 := fun q => c_5315 (Int32.toInt_inj.mp q)
                    refine lv_iload_n hx hb dX12_nextToken_352 rfl (lv_at hl 1 rfl) ?_
                    refine lv_bipush (v := 62) hx hb dX12_nextToken_353 (by decide) ?_
                    refine lv_icmp_ne (tgt := 396) hx hb dX12_nextToken_355 (by decide) (fun c_5319 => ?_) (fun c_5319 => ?_)
                    · have tc_5320 : (x_4803).toInt ≠ 62 := fun q => c_5319 (Int32.toInt_inj.mp q)
                      have h_5321 : rg x_4803 35 61 := rg_ne c_5319 h_5157 62 rfl (by decide)
                      have uh_5321 := h_5321.1
                      have vh_5321 := h_5321.2
                      subst hQ
                      exact W.vret hx hb hr (fun t1 ht hW => ⟨⟨(σ, I_5209, J, ri, rj, rq), rfl, ⟨I_5209, J, rfl, hG⟩, by rw [ht]; exact hP, va_K.moved hW.alike hK, hD⟩, hS.F ht⟩) hS.2.2 dX12_nextToken_396
                    · have tc_5322 : (x_4803).toInt = 62 := congrArg Int32.toInt c_5319
                      have h_5323 : rg x_4803 62 62 := rg_and h_5157 (rg_of_eq c_5319 (rg_k (62 : Int32) 62 rfl)) (by decide)
                      have uh_5323 := h_5323.1
                      have vh_5323 := h_5323.2
                      exact K_5258 _ _ _ (rg_w h_5323 (by decide)) hG hP hD hS (lv_sub hl [0, 1] rfl)
                refine lv_if_eq (tgt := 342) hx hb dX12_nextToken_335 (by decide) (fun c_5324 => absurd c_5324 (by decide)) (fun c_5324 => ?_)
                refine lv_iload_n hx hb dX12_nextToken_338 rfl (lv_at hl 2 rfl) ?_
                refine lv_goto (tgt := 343) hx hb dX12_nextToken_339 (by decide) ?_
                exact K_5208 _ _ _ hG hP hD hS (lv_sub hl [1, 2] rfl)
              have K_5325 : ∀  (H : Heap) (locs : List Loc) (ls : Array Slot), rg (x_4803) 35 62 → GM [391, 392, 393] tg σ I ri I_4837 ri rq → va_P D vwCl (pq_P t σ (I_4837, J, ri, rj, rq)) H → va_D A (pq_P t σ (I_4837, J, ri, rj, rq)) → va_S A s.heap H locs → lv_has ls 3 [(0, .ref this), (1, .int x_4803)] → W p l e ({ frames := 2, cells := 0, slots := 0, locals := 42 } : Room) s m (List.toArray ([.ref this] : List Value)) below meth c H locs 0 0 Q (F0 m 327 ls []) := by
                intro H locs ls h_5327 hG hP hD hS hl
                have uh_5327 := h_5327.1
                have vh_5327 := h_5327.2
                refine lv_iconst (v := 1) hx hb dX12_nextToken_327 (by decide) ?_
                refine lv_goto (tgt := 332) hx hb dX12_nextToken_328 (by decide) ?_
                exact K_5155 _ _ _ (rg_w h_5327 (by decide)) hG hP hD hS (lv_sub hl [0, 1] rfl)
              refine lv_icmp_eq (tgt := 327) hx hb dX12_nextToken_258 (by decide) (fun c_5328 => ?_) (fun c_5328 => ?_)
              · have tc_5329 : (x_4803).toInt = 60 := congrArg Int32.toInt c_5328
                have h_5330 : rg x_4803 60 60 := rg_and h_4813 (rg_of_eq c_5328 (rg_k (60 : Int32) 60 rfl)) (by decide)
                have uh_5330 := h_5330.1
                have vh_5330 := h_5330.2
                exact K_5325 _ _ _ (rg_w h_5330 (by decide)) hG hP hD hS (lv_sub hl [1, 0] rfl)
              · have tc_5331 : (x_4803).toInt ≠ 60 := fun q => c_5328 (Int32.toInt_inj.mp q)
                refine lv_iload_n hx hb dX12_nextToken_261 rfl (lv_at hl 0 rfl) ?_
                refine lv_bipush (v := 62) hx hb dX12_nextToken_262 (by decide) ?_
                refine lv_icmp_eq (tgt := 327) hx hb dX12_nextToken_264 (by decide) (fun c_5332 => ?_) (fun c_5332 => ?_)
                · have tc_5333 : (x_4803).toInt = 62 := congrArg Int32.toInt c_5332
                  have h_5334 : rg x_4803 62 62 := rg_and h_4813 (rg_of_eq c_5332 (rg_k (62 : Int32) 62 rfl)) (by decide)
                  have uh_5334 := h_5334.1
                  have vh_5334 := h_5334.2
                  exact K_5325 _ _ _ (rg_w h_5334 (by decide)) hG hP hD hS (lv_sub hl [1, 0] rfl)
                · have tc_5335 : (x_4803).toInt ≠ 62 := fun q => c_5332 (Int32.toInt_inj.mp q)
                  refine lv_iload_n hx hb dX12_nextToken_267 rfl (lv_at hl 0 rfl) ?_
                  refine lv_bipush (v := 61) hx hb dX12_nextToken_268 (by decide) ?_
                  refine lv_icmp_eq (tgt := 327) hx hb dX12_nextToken_270 (by decide) (fun c_5336 => ?_) (fun c_5336 => ?_)
                  · have tc_5337 : (x_4803).toInt = 61 := congrArg Int32.toInt c_5336
                    have h_5338 : rg x_4803 61 61 := rg_and h_4813 (rg_of_eq c_5336 (rg_k (61 : Int32) 61 rfl)) (by decide)
                    have uh_5338 := h_5338.1
                    have vh_5338 := h_5338.2
                    exact K_5325 _ _ _ (rg_w h_5338 (by decide)) hG hP hD hS (lv_sub hl [1, 0] rfl)
                  · have tc_5339 : (x_4803).toInt ≠ 61 := fun q => c_5336 (Int32.toInt_inj.mp q)
                    refine lv_iload_n hx hb dX12_nextToken_273 rfl (lv_at hl 0 rfl) ?_
                    refine lv_bipush (v := 35) hx hb dX12_nextToken_274 (by decide) ?_
                    refine lv_icmp_eq (tgt := 327) hx hb dX12_nextToken_276 (by decide) (fun c_5340 => ?_) (fun c_5340 => ?_)
                    · have tc_5341 : (x_4803).toInt = 35 := congrArg Int32.toInt c_5340
                      have h_5342 : rg x_4803 35 35 := rg_and h_4813 (rg_of_eq c_5340 (rg_k (35 : Int32) 35 rfl)) (by decide)
                      have uh_5342 := h_5342.1
                      have vh_5342 := h_5342.2
                      exact K_5325 _ _ _ (rg_w h_5342 (by decide)) hG hP hD hS (lv_sub hl [1, 0] rfl)
                    · have tc_5343 : (x_4803).toInt ≠ 35 := fun q => c_5340 (Int32.toInt_inj.mp q)
                      refine lv_iload_n hx hb dX12_nextToken_279 rfl (lv_at hl 0 rfl) ?_
                      refine lv_bipush (v := 43) hx hb dX12_nextToken_280 (by decide) ?_
                      refine lv_icmp_eq (tgt := 327) hx hb dX12_nextToken_282 (by decide) (fun c_5344 => ?_) (fun c_5344 => ?_)
                      · have tc_5345 : (x_4803).toInt = 43 := congrArg Int32.toInt c_5344
                        have h_5346 : rg x_4803 43 43 := rg_and h_4813 (rg_of_eq c_5344 (rg_k (43 : Int32) 43 rfl)) (by decide)
                        have uh_5346 := h_5346.1
                        have vh_5346 := h_5346.2
                        exact K_5325 _ _ _ (rg_w h_5346 (by decide)) hG hP hD hS (lv_sub hl [1, 0] rfl)
                      · have tc_5347 : (x_4803).toInt ≠ 43 := fun q => c_5344 (Int32.toInt_inj.mp q)
                        refine lv_iload_n hx hb dX12_nextToken_285 rfl (lv_at hl 0 rfl) ?_
                        refine lv_bipush (v := 45) hx hb dX12_nextToken_286 (by decide) ?_
                        refine lv_icmp_eq (tgt := 327) hx hb dX12_nextToken_288 (by decide) (fun c_5348 => ?_) (fun c_5348 => ?_)
                        · have tc_5349 : (x_4803).toInt = 45 := congrArg Int32.toInt c_5348
                          have h_5350 : rg x_4803 45 45 := rg_and h_4813 (rg_of_eq c_5348 (rg_k (45 : Int32) 45 rfl)) (by decide)
                          have uh_5350 := h_5350.1
                          have vh_5350 := h_5350.2
                          exact K_5325 _ _ _ (rg_w h_5350 (by decide)) hG hP hD hS (lv_sub hl [1, 0] rfl)
                        · have tc_5351 : (x_4803).toInt ≠ 45 := fun q => c_5348 (Int32.toInt_inj.mp q)
                          refine lv_iload_n hx hb dX12_nextToken_291 rfl (lv_at hl 0 rfl) ?_
                          refine lv_bipush (v := 42) hx hb dX12_nextToken_292 (by decide) ?_
                          refine lv_icmp_eq (tgt := 327) hx hb dX12_nextToken_294 (by decide) (fun c_5352 => ?_) (fun c_5352 => ?_)
                          · have tc_5353 : (x_4803).toInt = 42 := congrArg Int32.toInt c_5352
                            have h_5354 : rg x_4803 42 42 := rg_and h_4813 (rg_of_eq c_5352 (rg_k (42 : Int32) 42 rfl)) (by decide)
                            have uh_5354 := h_5354.1
                            have vh_5354 := h_5354.2
                            exact K_5325 _ _ _ (rg_w h_5354 (by decide)) hG hP hD hS (lv_sub hl [1, 0] rfl)
                          · have tc_5355 : (x_4803).toInt ≠ 42 := fun q => c_5352 (Int32.toInt_inj.mp q)
                            refine lv_iload_n hx hb dX12_nextToken_297 rfl (lv_at hl 0 rfl) ?_
                            refine lv_bipush (v := 47) hx hb dX12_nextToken_298 (by decide) ?_
                            refine lv_icmp_eq (tgt := 327) hx hb dX12_nextToken_300 (by decide) (fun c_5356 => ?_) (fun c_5356 => ?_)
                            · have tc_5357 : (x_4803).toInt = 47 := congrArg Int32.toInt c_5356
                              have h_5358 : rg x_4803 47 47 := rg_and h_4813 (rg_of_eq c_5356 (rg_k (47 : Int32) 47 rfl)) (by decide)
                              have uh_5358 := h_5358.1
                              have vh_5358 := h_5358.2
                              exact K_5325 _ _ _ (rg_w h_5358 (by decide)) hG hP hD hS (lv_sub hl [1, 0] rfl)
                            · have tc_5359 : (x_4803).toInt ≠ 47 := fun q => c_5356 (Int32.toInt_inj.mp q)
                              refine lv_iload_n hx hb dX12_nextToken_303 rfl (lv_at hl 0 rfl) ?_
                              refine lv_bipush (v := 40) hx hb dX12_nextToken_304 (by decide) ?_
                              refine lv_icmp_eq (tgt := 327) hx hb dX12_nextToken_306 (by decide) (fun c_5360 => ?_) (fun c_5360 => ?_)
                              · have tc_5361 : (x_4803).toInt = 40 := congrArg Int32.toInt c_5360
                                have h_5362 : rg x_4803 40 40 := rg_and h_4813 (rg_of_eq c_5360 (rg_k (40 : Int32) 40 rfl)) (by decide)
                                have uh_5362 := h_5362.1
                                have vh_5362 := h_5362.2
                                exact K_5325 _ _ _ (rg_w h_5362 (by decide)) hG hP hD hS (lv_sub hl [1, 0] rfl)
                              · have tc_5363 : (x_4803).toInt ≠ 40 := fun q => c_5360 (Int32.toInt_inj.mp q)
                                refine lv_iload_n hx hb dX12_nextToken_309 rfl (lv_at hl 0 rfl) ?_
                                refine lv_bipush (v := 41) hx hb dX12_nextToken_310 (by decide) ?_
                                refine lv_icmp_eq (tgt := 327) hx hb dX12_nextToken_312 (by decide) (fun c_5364 => ?_) (fun c_5364 => ?_)
                                · have tc_5365 : (x_4803).toInt = 41 := congrArg Int32.toInt c_5364
                                  have h_5366 : rg x_4803 41 41 := rg_and h_4813 (rg_of_eq c_5364 (rg_k (41 : Int32) 41 rfl)) (by decide)
                                  have uh_5366 := h_5366.1
                                  have vh_5366 := h_5366.2
                                  exact K_5325 _ _ _ (rg_w h_5366 (by decide)) hG hP hD hS (lv_sub hl [1, 0] rfl)
                                · have tc_5367 : (x_4803).toInt ≠ 41 := fun q => c_5364 (Int32.toInt_inj.mp q)
                                  refine lv_iload_n hx hb dX12_nextToken_315 rfl (lv_at hl 0 rfl) ?_
                                  refine lv_bipush (v := 44) hx hb dX12_nextToken_316 (by decide) ?_
                                  refine lv_icmp_eq (tgt := 327) hx hb dX12_nextToken_318 (by decide) (fun c_5368 => ?_) (fun c_5368 => ?_)
                                  · have tc_5369 : (x_4803).toInt = 44 := congrArg Int32.toInt c_5368
                                    have h_5370 : rg x_4803 44 44 := rg_and h_4813 (rg_of_eq c_5368 (rg_k (44 : Int32) 44 rfl)) (by decide)
                                    have uh_5370 := h_5370.1
                                    have vh_5370 := h_5370.2
                                    exact K_5325 _ _ _ (rg_w h_5370 (by decide)) hG hP hD hS (lv_sub hl [1, 0] rfl)
                                  · have tc_5371 : (x_4803).toInt ≠ 44 := fun q => c_5368 (Int32.toInt_inj.mp q)
                                    refine lv_iload_n hx hb dX12_nextToken_321 rfl (lv_at hl 0 rfl) ?_
                                    refine lv_bipush (v := 59) hx hb dX12_nextToken_322 (by decide) ?_
                                    refine lv_icmp_ne (tgt := 331) hx hb dX12_nextToken_324 (by decide) (fun c_5372 => ?_) (fun c_5372 => ?_)
                                    · have tc_5373 : (x_4803).toInt ≠ 59 := fun q => c_5372 (Int32.toInt_inj.mp q)
                                      refine lv_iconst (v := 0) hx hb dX12_nextToken_331 (by decide) ?_
                                      exact K_4990 _ _ _ hG hP hD hS (lv_sub hl [1, 0] rfl)
                                    · have tc_5374 : (x_4803).toInt = 59 := congrArg Int32.toInt c_5372
                                      have h_5375 : rg x_4803 59 59 := rg_and h_4813 (rg_of_eq c_5372 (rg_k (59 : Int32) 59 rfl)) (by decide)
                                      have uh_5375 := h_5375.1
                                      have vh_5375 := h_5375.2
                                      exact K_5325 _ _ _ (rg_w h_5375 (by decide)) hG hP hD hS (lv_sub hl [1, 0] rfl)
            · have f_5376 := (hr_4828.resolve_right (fun q => c_4830 q.1)).2
              have uf_5376 := f_5376.1
              have vf_5376 := f_5376.2
              have tc_5377 : (x_4824).toInt ≠ 0 := fun q => c_4830 (Int32.toInt_inj.mp q)
              have h_5378 : rg x_4824 1 1 := rg_ne c_4830 h_4829 0 rfl (by decide)
              have uh_5378 := h_5378.1
              have vh_5378 := h_5378.2
              refine lv_aload_n hx hb dX12_nextToken_151 rfl (lv_at hl 1 rfl) ?_
              refine lv_iconst (v := 2) hx hb dX12_nextToken_152 (by decide) ?_
              refine pp_i (v := 2) (ty := .int) (C := RX12) (T := TX12) (N := 31) hx hb hts (tw_i inlX12) tyX12 tyX12_ok nmX12 hown hK hP hD hS hL_this hK_this (by decide) rfl 9 393 (by decide) (hts _ (tw_c tw_831)) rfl (by decide +kernel) rfl rfl (Nat.le_of_ble_eq_true rfl) (ps_393 _ _ _ _ _) dX12_nextToken_153 (fun I_5379 H locs eI_5379 hP hD hS => ?_)
              have hG := GM.wI hG 393 rfl eI_5379 (rg_w (rg_k (2 : Int32) 2 rfl) (by decide)) (by decide)
              have tt_5380 : (I_5379 391 this).toInt = (I_4798 391 this).toInt := by rw [eI_5379, pq_uf _ _ _ (by decide)]
              have tt_5381 : (I_5379 388 this).toInt = (I_4798 388 this).toInt := by rw [eI_5379, pq_uf _ _ _ (by decide)]
              have tt_5382 : (I_5379 392 this).toInt = (I_4798 392 this).toInt := by rw [eI_5379, pq_uf _ _ _ (by decide)]
              refine lv_aload_n hx hb dX12_nextToken_156 rfl (lv_at hl 1 rfl) ?_
              refine lv_lconst (v := 0) hx hb dX12_nextToken_157 (by decide) ?_
              refine pp_l (v := 0) (C := RX12) (T := TX12) (N := 31) hx hb hts (tw_i inlX12) tyX12 tyX12_ok nmX12 hown hK hP hD hS hL_this hK_this (by decide) rfl 11 395 (by decide) (hts _ (tw_c tw_838)) rfl (by decide +kernel) (Nat.le_of_ble_eq_true rfl) (ps_395 _ _ _ _ _) dX12_nextToken_158 (fun J_5383 H locs eJ_5383 hP hD hS => ?_)
              have L_5652 : ∀ (n_5651 : Nat) (I_5583 : Nat → Nat → Int32) (J_5584 : Nat → Nat → Int64) (H : Heap) (locs : List Loc) (ls : Array Slot), (300 - (I_5583 391 this).toInt).toNat < n_5651 → GM [391, 392, 393] tg σ I ri I_5583 ri rq → va_P D vwCl (pq_P t σ (I_5583, J_5584, ri, rj, rq)) H → va_D A (pq_P t σ (I_5583, J_5584, ri, rj, rq)) → va_S A s.heap H locs → lv_has ls 3 [(0, .ref this)] → W p l e ({ frames := 2, cells := 0, slots := 0, locals := 42 } : Room) s m (List.toArray ([.ref this] : List Value)) below meth c H locs 0 0 Q (F0 m 161 ls []) := by
                intro n_5651
                induction n_5651 with
                | zero => intro I_5583 J_5584 H locs ls hm_5650 hG hP hD hS hl; exact absurd hm_5650 (Nat.not_lt_zero _)
                | succ n_5651 ih_5653 =>
                  intro I_5583 J_5584 H locs ls hm_5650 hG hP hD hS hl
                  refine lv_aload_n hx hb dX12_nextToken_161 rfl (lv_at hl 0 rfl) ?_
                  refine lv_aload_n hx hb dX12_nextToken_162 rfl (lv_at hl 0 rfl) ?_
                  refine pg_f (v := .int (I_5583 391 this)) (C := RX12) (T := TX12) (N := 31) hx hb hts (tw_i inlX12) hown hK hP hL_this hK_this (by decide) rfl 7 (by decide) (hts _ (tw_c tw_830)) rfl dX12_nextToken_163 ?_
                  have h_5654 : rg (I_5583 391 this) 0 300 := GM.rI hG 391 rfl
                  have uh_5654 := h_5654.1
                  have vh_5654 := h_5654.2
                  refine pk_i (va_runV (As := [.int (I_5583 391 this)]) (rest := []) ⟨hx, hb, hml, hown, hts⟩ (s_X12_see l D t σ I_5583 J_5584 ri rj rq H.size tg hSH hG.1 this (I_5583 391 this) hL_this hK_this (rg_w h_5654 (by decide))) (cwV 1 hts (tw_V tw_839 tw_840 tw_841 tw_5 tw_842) rfl rfl rfl (by decide +kernel) ⟨Nat.le_of_ble_eq_true rfl, Nat.le_of_ble_eq_true rfl⟩) ⟨pq_blind, pq_recv hK hP hL_this hK_this (by decide) rfl, pq_pre hK hN hP hD⟩ rfl rfl hl.1 rfl (lv_room (Nat.le_of_ble_eq_true rfl)) dX12_nextToken_166 ⟨Nat.le_of_ble_eq_true rfl, Nat.le_of_ble_eq_true rfl⟩) hD hS hA (fun x_5655 σ1 μ1 H locs hw_5656 hP hD hS => ?_)
                  obtain ⟨hu_5657, hp_5660, hr_5659⟩ := hw_5656
                  obtain ⟨hu_5657a, hu_5657b⟩ := Prod.mk.inj hu_5657
                  rw [hu_5657a, hu_5657b] at hP hD
                  have tt_5661 := hp_5660
                  have tt_5662 := (GM.rI hG 388 (a := this) (lo := 0) (hi := 300) rfl).2
                  refine pk_i (va_runS (As := [.int x_5655]) (rest := []) ⟨hx, hb, hml, hown, hts⟩ (s_X12_isLetter l D t σ I_5583 J_5584 ri rj rq H.size tg hSH hG.1 x_5655) (va_cwS 1 hts (tw_S tw_846 tw_847 tw_5 tw_848) rfl rfl rfl (by decide +kernel) ⟨Nat.le_of_ble_eq_true rfl, Nat.le_of_ble_eq_true rfl⟩) ⟨pq_blind, pq_pre hK hN hP hD⟩ rfl rfl hl.1 rfl (lv_room (Nat.le_of_ble_eq_true rfl)) dX12_nextToken_169 ⟨Nat.le_of_ble_eq_true rfl, Nat.le_of_ble_eq_true rfl⟩) hD hS hA (fun x_5663 σ1 μ1 H locs hw_5664 hP hD hS => ?_)
                  obtain ⟨hu_5665, hr_5667⟩ := hw_5664
                  obtain ⟨hu_5665a, hu_5665b⟩ := Prod.mk.inj hu_5665
                  rw [hu_5665a, hu_5665b] at hP hD
                  have h_5668 : rg x_5663 0 1 := by rcases hr_5667 with ⟨q, -⟩ | ⟨q, -⟩ <;> rw [q] <;> exact ⟨by decide, by decide⟩
                  have uh_5668 := h_5668.1
                  have vh_5668 := h_5668.2
                  refine lv_if_eq (tgt := 223) hx hb dX12_nextToken_172 (by decide) (fun c_5669 => ?_) (fun c_5669 => ?_)
                  · have f_5670 := (hr_5667.resolve_left (fun q => absurd (q.1.symm.trans c_5669) (by decide))).2
                    have tc_5671 : (x_5663).toInt = 0 := congrArg Int32.toInt c_5669
                    have h_5672 : rg x_5663 0 0 := rg_and h_5668 (rg_of_eq c_5669 (rg_k (0 : Int32) 0 rfl)) (by decide)
                    have uh_5672 := h_5672.1
                    have vh_5672 := h_5672.2
                    refine lv_aload_n hx hb dX12_nextToken_223 rfl (lv_at hl 0 rfl) ?_
                    refine pg_f (v := .int (I_5583 391 this)) (C := RX12) (T := TX12) (N := 31) hx hb hts (tw_i inlX12) hown hK hP hL_this hK_this (by decide) rfl 7 (by decide) (hts _ (tw_c tw_830)) rfl dX12_nextToken_224 ?_
                    refine lv_aload_n hx hb dX12_nextToken_227 rfl (lv_at hl 0 rfl) ?_
                    refine pg_f (v := .int (I_5583 392 this)) (C := RX12) (T := TX12) (N := 31) hx hb hts (tw_i inlX12) hown hK hP hL_this hK_this (by decide) rfl 8 (by decide) (hts _ (tw_c tw_820)) rfl dX12_nextToken_228 ?_
                    have h_5673 : rg (I_5583 392 this) 0 300 := GM.rI hG 392 rfl
                    have uh_5673 := h_5673.1
                    have vh_5673 := h_5673.2
                    refine lv_isub hx hb dX12_nextToken_231 ?_
                    refine lv_topi (fun x_5674 ex_5674 => ?_)
                    have h_5675 : rg x_5674 (-300) 300 := rg_of_eq ex_5674 (rg_sub h_5654 h_5673 (by decide))
                    have uh_5675 := h_5675.1
                    have vh_5675 := h_5675.2
                    have tx_5674 : (x_5674).toInt = (I_5583 391 this).toInt - (I_5583 392 this).toInt := by rw [ex_5674]; exact i_sub_rg (a2 := (I_5583 391 this).toInt) (b2 := (I_5583 392 this).toInt) rfl rfl h_5654 h_5673 (by decide)
                    refine lv_bipush (v := 7) hx hb dX12_nextToken_232 (by decide) ?_
                    refine lv_icmp_le (tgt := 396) hx hb dX12_nextToken_234 (by decide) (fun c_5676 => ?_) (fun c_5676 => ?_)
                    · have tc_5677 : (x_5674).toInt ≤ 7 := Int32.le_iff_toInt_le.mp c_5676
                      have h_5678 : rg x_5674 (-300) 7 := rg_le1 c_5676 h_5675 (rg_k (7 : Int32) 7 rfl) (by decide)
                      have uh_5678 := h_5678.1
                      have vh_5678 := h_5678.2
                      subst hQ
                      exact W.vret hx hb hr (fun t1 ht hW => ⟨⟨(σ, I_5583, J_5584, ri, rj, rq), rfl, ⟨I_5583, J_5584, rfl, hG⟩, by rw [ht]; exact hP, va_K.moved hW.alike hK, hD⟩, hS.F ht⟩) hS.2.2 dX12_nextToken_396
                    · have tc_5679 : 7 < (x_5674).toInt := Int32.lt_iff_toInt_lt.mp (nle c_5676)
                      have h_5680 : rg x_5674 8 300 := rg_lt2 (nle c_5676) (rg_k (7 : Int32) 7 rfl) h_5675 (by decide)
                      have uh_5680 := h_5680.1
                      have vh_5680 := h_5680.2
                      refine lv_aload_n hx hb dX12_nextToken_237 rfl (lv_at hl 0 rfl) ?_
                      refine lv_lconst (v := 0) hx hb dX12_nextToken_238 (by decide) ?_
                      refine pp_l (v := 0) (C := RX12) (T := TX12) (N := 31) hx hb hts (tw_i inlX12) tyX12 tyX12_ok nmX12 hown hK hP hD hS hL_this hK_this (by decide) rfl 11 395 (by decide) (hts _ (tw_c tw_838)) rfl (by decide +kernel) (Nat.le_of_ble_eq_true rfl) (ps_395 _ _ _ _ _) dX12_nextToken_239 (fun J_5681 H locs eJ_5681 hP hD hS => ?_)
                      refine lv_goto (tgt := 396) hx hb dX12_nextToken_242 (by decide) ?_
                      subst hQ
                      exact W.vret hx hb hr (fun t1 ht hW => ⟨⟨(σ, I_5583, J_5681, ri, rj, rq), rfl, ⟨I_5583, J_5681, rfl, hG⟩, by rw [ht]; exact hP, va_K.moved hW.alike hK, hD⟩, hS.F ht⟩) hS.2.2 dX12_nextToken_396
                  · have f_5682 := (hr_5667.resolve_right (fun q => c_5669 q.1)).2
                    have uf_5682 := f_5682.1
                    have vf_5682 := f_5682.2
                    have tc_5683 : (x_5663).toInt ≠ 0 := fun q => c_5669 (Int32.toInt_inj.mp q)
                    have h_5684 : rg x_5663 1 1 := rg_ne c_5669 h_5668 0 rfl (by decide)
                    have uh_5684 := h_5684.1
                    have vh_5684 := h_5684.2
                    refine lv_aload_n hx hb dX12_nextToken_175 rfl (lv_at hl 0 rfl) ?_
                    refine pg_f (v := .int (I_5583 391 this)) (C := RX12) (T := TX12) (N := 31) hx hb hts (tw_i inlX12) hown hK hP hL_this hK_this (by decide) rfl 7 (by decide) (hts _ (tw_c tw_830)) rfl dX12_nextToken_176 ?_
                    refine lv_aload_n hx hb dX12_nextToken_179 rfl (lv_at hl 0 rfl) ?_
                    refine pg_f (v := .int (I_5583 392 this)) (C := RX12) (T := TX12) (N := 31) hx hb hts (tw_i inlX12) hown hK hP hL_this hK_this (by decide) rfl 8 (by decide) (hts _ (tw_c tw_820)) rfl dX12_nextToken_180 ?_
                    have h_5685 : rg (I_5583 392 this) 0 300 := GM.rI hG 392 rfl
                    have uh_5685 := h_5685.1
                    have vh_5685 := h_5685.2
                    refine lv_isub hx hb dX12_nextToken_183 ?_
                    refine lv_topi (fun x_5686 ex_5686 => ?_)
                    have h_5687 : rg x_5686 (-300) 300 := rg_of_eq ex_5686 (rg_sub h_5654 h_5685 (by decide))
                    have uh_5687 := h_5687.1
                    have vh_5687 := h_5687.2
                    have tx_5686 : (x_5686).toInt = (I_5583 391 this).toInt - (I_5583 392 this).toInt := by rw [ex_5686]; exact i_sub_rg (a2 := (I_5583 391 this).toInt) (b2 := (I_5583 392 this).toInt) rfl rfl h_5654 h_5685 (by decide)
                    refine lv_bipush (v := 7) hx hb dX12_nextToken_184 (by decide) ?_
                    refine lv_icmp_ge (tgt := 210) hx hb dX12_nextToken_186 (by decide) (fun c_5688 => ?_) (fun c_5688 => ?_)
                    · have tc_5689 : 7 ≤ (x_5686).toInt := Int32.le_iff_toInt_le.mp c_5688
                      have h_5690 : rg x_5686 7 300 := rg_le2 c_5688 (rg_k (7 : Int32) 7 rfl) h_5687 (by decide)
                      have uh_5690 := h_5690.1
                      have vh_5690 := h_5690.2
                      refine lv_aload_n hx hb dX12_nextToken_210 rfl (lv_at hl 0 rfl) ?_
                      refine lv_dup hx hb dX12_nextToken_211 rfl ?_
                      refine pg_f (v := .int (I_5583 391 this)) (C := RX12) (T := TX12) (N := 31) hx hb hts (tw_i inlX12) hown hK hP hL_this hK_this (by decide) rfl 7 (by decide) (hts _ (tw_c tw_830)) rfl dX12_nextToken_212 ?_
                      refine lv_iconst (v := 1) hx hb dX12_nextToken_215 (by decide) ?_
                      have h_5691 : rg (I_5583 391 this) 0 299 := ⟨by omega, by omega⟩
                      have uh_5691 := h_5691.1
                      have vh_5691 := h_5691.2
                      refine lv_iadd hx hb dX12_nextToken_216 ?_
                      refine lv_topi (fun x_5692 ex_5692 => ?_)
                      have h_5693 : rg x_5692 1 300 := rg_of_eq ex_5692 (rg_add h_5691 (rg_k (1 : Int32) 1 rfl) (by decide))
                      have uh_5693 := h_5693.1
                      have vh_5693 := h_5693.2
                      have tx_5692 : (x_5692).toInt = (I_5583 391 this).toInt + 1 := by rw [ex_5692]; exact i_add_rg (a2 := (I_5583 391 this).toInt) (b2 := 1) rfl rfl h_5691 (rg_k (1 : Int32) 1 rfl) (by decide)
                      refine pp_i (v := x_5692) (ty := .int) (C := RX12) (T := TX12) (N := 31) hx hb hts (tw_i inlX12) tyX12 tyX12_ok nmX12 hown hK hP hD hS hL_this hK_this (by decide) rfl 7 391 (by decide) (hts _ (tw_c tw_830)) rfl (by decide +kernel) rfl rfl (Nat.le_of_ble_eq_true rfl) (ps_391 _ _ _ _ _) dX12_nextToken_217 (fun I_5694 H locs eI_5694 hP hD hS => ?_)
                      have hG := GM.wI hG 391 rfl eI_5694 (rg_w h_5693 (by decide)) (by decide)
                      have tt_5695 : (I_5694 391 this).toInt = (x_5692).toInt := by rw [eI_5694, pq_us]
                      have tt_5696 : (I_5694 388 this).toInt = (I_5583 388 this).toInt := by rw [eI_5694, pq_uf _ _ _ (by decide)]
                      have tt_5697 : (I_5694 392 this).toInt = (I_5583 392 this).toInt := by rw [eI_5694, pq_uf _ _ _ (by decide)]
                      refine lv_goto (tgt := 161) hx hb dX12_nextToken_220 (by decide) ?_
                      exact ih_5653 I_5694 J_5584 _ _ _ (ms_fu_iadd hm_5650 (by rw [eI_5694]; exact pq_us _ _ _ _) ex_5692 rfl (kk := 1) rfl (by decide) h_5691 (by decide) (by decide)) hG hP hD hS (lv_sub hl [0] rfl)
                    · have tc_5698 : (x_5686).toInt < 7 := Int32.lt_iff_toInt_lt.mp (nle c_5688)
                      have h_5699 : rg x_5686 (-300) 6 := rg_lt1 (nle c_5688) h_5687 (rg_k (7 : Int32) 7 rfl) (by decide)
                      have uh_5699 := h_5699.1
                      have vh_5699 := h_5699.2
                      refine lv_aload_n hx hb dX12_nextToken_189 rfl (lv_at hl 0 rfl) ?_
                      refine lv_aload_n hx hb dX12_nextToken_190 rfl (lv_at hl 0 rfl) ?_
                      refine pg_f (v := .long (J_5584 395 this)) (C := RX12) (T := TX12) (N := 31) hx hb hts (tw_i inlX12) hown hK hP hL_this hK_this (by decide) rfl 11 (by decide) (hts _ (tw_c tw_838)) rfl dX12_nextToken_191 ?_
                      refine lv_bipush (v := 8) hx hb dX12_nextToken_194 (by decide) ?_
                      refine lv_lshl hx hb dX12_nextToken_196 rfl ?_
                      refine lv_topl (fun x_5700 ex_5700 => ?_)
                      refine lv_aload_n hx hb dX12_nextToken_197 rfl (lv_at hl 0 rfl) ?_
                      refine lv_aload_n hx hb dX12_nextToken_198 rfl (lv_at hl 0 rfl) ?_
                      refine pg_f (v := .int (I_5583 391 this)) (C := RX12) (T := TX12) (N := 31) hx hb hts (tw_i inlX12) hown hK hP hL_this hK_this (by decide) rfl 7 (by decide) (hts _ (tw_c tw_830)) rfl dX12_nextToken_199 ?_
                      refine pk_i (va_runV (As := [.int (I_5583 391 this)]) (rest := [.long x_5700, .ref this]) ⟨hx, hb, hml, hown, hts⟩ (s_X12_see l D t σ I_5583 J_5584 ri rj rq H.size tg hSH hG.1 this (I_5583 391 this) hL_this hK_this (rg_w h_5654 (by decide))) (cwV 1 hts (tw_V tw_839 tw_840 tw_841 tw_5 tw_842) rfl rfl rfl (by decide +kernel) ⟨Nat.le_of_ble_eq_true rfl, Nat.le_of_ble_eq_true rfl⟩) ⟨pq_blind, pq_recv hK hP hL_this hK_this (by decide) rfl, pq_pre hK hN hP hD⟩ rfl rfl hl.1 rfl (lv_room (Nat.le_of_ble_eq_true rfl)) dX12_nextToken_202 ⟨Nat.le_of_ble_eq_true rfl, Nat.le_of_ble_eq_true rfl⟩) hD hS hA (fun x_5701 σ1 μ1 H locs hw_5702 hP hD hS => ?_)
                      obtain ⟨hu_5703, hp_5706, hr_5705⟩ := hw_5702
                      obtain ⟨hu_5703a, hu_5703b⟩ := Prod.mk.inj hu_5703
                      rw [hu_5703a, hu_5703b] at hP hD
                      have tt_5707 := hp_5706
                      have tt_5708 := (GM.rI hG 388 (a := this) (lo := 0) (hi := 300) rfl).2
                      refine lv_i2l hx hb dX12_nextToken_205 rfl ?_
                      refine lv_topl (fun x_5709 ex_5709 => ?_)
                      refine lv_lor hx hb dX12_nextToken_206 ?_
                      refine lv_topl (fun x_5710 ex_5710 => ?_)
                      refine pp_l (v := x_5710) (C := RX12) (T := TX12) (N := 31) hx hb hts (tw_i inlX12) tyX12 tyX12_ok nmX12 hown hK hP hD hS hL_this hK_this (by decide) rfl 11 395 (by decide) (hts _ (tw_c tw_838)) rfl (by decide +kernel) (Nat.le_of_ble_eq_true rfl) (ps_395 _ _ _ _ _) dX12_nextToken_207 (fun J_5711 H locs eJ_5711 hP hD hS => ?_)
                      refine lv_aload_n hx hb dX12_nextToken_210 rfl (lv_at hl 0 rfl) ?_
                      refine lv_dup hx hb dX12_nextToken_211 rfl ?_
                      refine pg_f (v := .int (I_5583 391 this)) (C := RX12) (T := TX12) (N := 31) hx hb hts (tw_i inlX12) hown hK hP hL_this hK_this (by decide) rfl 7 (by decide) (hts _ (tw_c tw_830)) rfl dX12_nextToken_212 ?_
                      refine lv_iconst (v := 1) hx hb dX12_nextToken_215 (by decide) ?_
                      have h_5712 : rg (I_5583 391 this) 0 299 := ⟨by omega, by omega⟩
                      have uh_5712 := h_5712.1
                      have vh_5712 := h_5712.2
                      refine lv_iadd hx hb dX12_nextToken_216 ?_
                      refine lv_topi (fun x_5713 ex_5713 => ?_)
                      have h_5714 : rg x_5713 1 300 := rg_of_eq ex_5713 (rg_add h_5712 (rg_k (1 : Int32) 1 rfl) (by decide))
                      have uh_5714 := h_5714.1
                      have vh_5714 := h_5714.2
                      have tx_5713 : (x_5713).toInt = (I_5583 391 this).toInt + 1 := by rw [ex_5713]; exact i_add_rg (a2 := (I_5583 391 this).toInt) (b2 := 1) rfl rfl h_5712 (rg_k (1 : Int32) 1 rfl) (by decide)
                      refine pp_i (v := x_5713) (ty := .int) (C := RX12) (T := TX12) (N := 31) hx hb hts (tw_i inlX12) tyX12 tyX12_ok nmX12 hown hK hP hD hS hL_this hK_this (by decide) rfl 7 391 (by decide) (hts _ (tw_c tw_830)) rfl (by decide +kernel) rfl rfl (Nat.le_of_ble_eq_true rfl) (ps_391 _ _ _ _ _) dX12_nextToken_217 (fun I_5715 H locs eI_5715 hP hD hS => ?_)
                      have hG := GM.wI hG 391 rfl eI_5715 (rg_w h_5714 (by decide)) (by decide)
                      have tt_5716 : (I_5715 391 this).toInt = (x_5713).toInt := by rw [eI_5715, pq_us]
                      have tt_5717 : (I_5715 388 this).toInt = (I_5583 388 this).toInt := by rw [eI_5715, pq_uf _ _ _ (by decide)]
                      have tt_5718 : (I_5715 392 this).toInt = (I_5583 392 this).toInt := by rw [eI_5715, pq_uf _ _ _ (by decide)]
                      refine lv_goto (tgt := 161) hx hb dX12_nextToken_220 (by decide) ?_
                      exact ih_5653 I_5715 J_5711 _ _ _ (ms_fu_iadd hm_5650 (by rw [eI_5715]; exact pq_us _ _ _ _) ex_5713 rfl (kk := 1) rfl (by decide) h_5712 (by decide) (by decide)) hG hP hD hS (lv_sub hl [0] rfl)
              exact L_5652 _ I_5379 J_5383 _ _ _ (Nat.lt_succ_self _) hG hP hD hS (lv_sub hl [1] rfl)
          · have f_5719 := (hr_4818.resolve_right (fun q => c_4820 q.1)).2
            have uf_5719 := f_5719.1
            have vf_5719 := f_5719.2
            have tc_5720 : (x_4814).toInt ≠ 0 := fun q => c_4820 (Int32.toInt_inj.mp q)
            have h_5721 : rg x_4814 1 1 := rg_ne c_4820 h_4819 0 rfl (by decide)
            have uh_5721 := h_5721.1
            have vh_5721 := h_5721.2
            refine lv_aload_n hx hb dX12_nextToken_75 rfl (lv_at hl 1 rfl) ?_
            refine lv_iconst (v := 1) hx hb dX12_nextToken_76 (by decide) ?_
            refine pp_i (v := 1) (ty := .int) (C := RX12) (T := TX12) (N := 31) hx hb hts (tw_i inlX12) tyX12 tyX12_ok nmX12 hown hK hP hD hS hL_this hK_this (by decide) rfl 9 393 (by decide) (hts _ (tw_c tw_831)) rfl (by decide +kernel) rfl rfl (Nat.le_of_ble_eq_true rfl) (ps_393 _ _ _ _ _) dX12_nextToken_77 (fun I_5722 H locs eI_5722 hP hD hS => ?_)
            have hG := GM.wI hG 393 rfl eI_5722 (rg_w (rg_k (1 : Int32) 1 rfl) (by decide)) (by decide)
            have tt_5723 : (I_5722 391 this).toInt = (I_4798 391 this).toInt := by rw [eI_5722, pq_uf _ _ _ (by decide)]
            have tt_5724 : (I_5722 388 this).toInt = (I_4798 388 this).toInt := by rw [eI_5722, pq_uf _ _ _ (by decide)]
            have tt_5725 : (I_5722 392 this).toInt = (I_4798 392 this).toInt := by rw [eI_5722, pq_uf _ _ _ (by decide)]
            refine lv_aload_n hx hb dX12_nextToken_80 rfl (lv_at hl 1 rfl) ?_
            refine lv_iconst (v := 0) hx hb dX12_nextToken_81 (by decide) ?_
            refine pp_i (v := 0) (ty := .int) (C := RX12) (T := TX12) (N := 31) hx hb hts (tw_i inlX12) tyX12 tyX12_ok nmX12 hown hK hP hD hS hL_this hK_this (by decide) rfl 10 394 (by decide) (hts _ (tw_c tw_836)) rfl (by decide +kernel) rfl rfl (Nat.le_of_ble_eq_true rfl) (ps_394 _ _ _ _ _) dX12_nextToken_82 (fun I_5726 H locs eI_5726 hP hD hS => ?_)
            have hG := GM.wI hG 394 rfl eI_5726 (rg_w (rg_k (0 : Int32) 0 rfl) (by decide)) (by decide)
            have tt_5727 : (I_5726 391 this).toInt = (I_5722 391 this).toInt := by rw [eI_5726, pq_uf _ _ _ (by decide)]
            have tt_5728 : (I_5726 388 this).toInt = (I_5722 388 this).toInt := by rw [eI_5726, pq_uf _ _ _ (by decide)]
            have tt_5729 : (I_5726 392 this).toInt = (I_5722 392 this).toInt := by rw [eI_5726, pq_uf _ _ _ (by decide)]
            have L_5958 : ∀ (n_5957 : Nat) (I_5898 : Nat → Nat → Int32) (H : Heap) (locs : List Loc) (ls : Array Slot), (300 - (I_5898 391 this).toInt).toNat < n_5957 → GM [391, 392, 393] tg σ I ri I_5898 ri rq → va_P D vwCl (pq_P t σ (I_5898, J, ri, rj, rq)) H → va_D A (pq_P t σ (I_5898, J, ri, rj, rq)) → va_S A s.heap H locs → lv_has ls 3 [(0, .ref this)] → W p l e ({ frames := 2, cells := 0, slots := 0, locals := 42 } : Room) s m (List.toArray ([.ref this] : List Value)) below meth c H locs 0 0 Q (F0 m 85 ls []) := by
              intro n_5957
              induction n_5957 with
              | zero => intro I_5898 H locs ls hm_5956 hG hP hD hS hl; exact absurd hm_5956 (Nat.not_lt_zero _)
              | succ n_5957 ih_5959 =>
                intro I_5898 H locs ls hm_5956 hG hP hD hS hl
                refine lv_aload_n hx hb dX12_nextToken_85 rfl (lv_at hl 0 rfl) ?_
                refine lv_aload_n hx hb dX12_nextToken_86 rfl (lv_at hl 0 rfl) ?_
                refine pg_f (v := .int (I_5898 391 this)) (C := RX12) (T := TX12) (N := 31) hx hb hts (tw_i inlX12) hown hK hP hL_this hK_this (by decide) rfl 7 (by decide) (hts _ (tw_c tw_830)) rfl dX12_nextToken_87 ?_
                have h_5960 : rg (I_5898 391 this) 0 300 := GM.rI hG 391 rfl
                have uh_5960 := h_5960.1
                have vh_5960 := h_5960.2
                refine pk_i (va_runV (As := [.int (I_5898 391 this)]) (rest := []) ⟨hx, hb, hml, hown, hts⟩ (s_X12_see l D t σ I_5898 J ri rj rq H.size tg hSH hG.1 this (I_5898 391 this) hL_this hK_this (rg_w h_5960 (by decide))) (cwV 1 hts (tw_V tw_839 tw_840 tw_841 tw_5 tw_842) rfl rfl rfl (by decide +kernel) ⟨Nat.le_of_ble_eq_true rfl, Nat.le_of_ble_eq_true rfl⟩) ⟨pq_blind, pq_recv hK hP hL_this hK_this (by decide) rfl, pq_pre hK hN hP hD⟩ rfl rfl hl.1 rfl (lv_room (Nat.le_of_ble_eq_true rfl)) dX12_nextToken_90 ⟨Nat.le_of_ble_eq_true rfl, Nat.le_of_ble_eq_true rfl⟩) hD hS hA (fun x_5961 σ1 μ1 H locs hw_5962 hP hD hS => ?_)
                obtain ⟨hu_5963, hp_5966, hr_5965⟩ := hw_5962
                obtain ⟨hu_5963a, hu_5963b⟩ := Prod.mk.inj hu_5963
                rw [hu_5963a, hu_5963b] at hP hD
                have tt_5967 := hp_5966
                have tt_5968 := (GM.rI hG 388 (a := this) (lo := 0) (hi := 300) rfl).2
                refine pk_i (va_runS (As := [.int x_5961]) (rest := []) ⟨hx, hb, hml, hown, hts⟩ (s_X12_isDigit l D t σ I_5898 J ri rj rq H.size tg hSH hG.1 x_5961) (va_cwS 1 hts (tw_S tw_843 tw_844 tw_5 tw_845) rfl rfl rfl (by decide +kernel) ⟨Nat.le_of_ble_eq_true rfl, Nat.le_of_ble_eq_true rfl⟩) ⟨pq_blind, pq_pre hK hN hP hD⟩ rfl rfl hl.1 rfl (lv_room (Nat.le_of_ble_eq_true rfl)) dX12_nextToken_93 ⟨Nat.le_of_ble_eq_true rfl, Nat.le_of_ble_eq_true rfl⟩) hD hS hA (fun x_5969 σ1 μ1 H locs hw_5970 hP hD hS => ?_)
                obtain ⟨hu_5971, hr_5973⟩ := hw_5970
                obtain ⟨hu_5971a, hu_5971b⟩ := Prod.mk.inj hu_5971
                rw [hu_5971a, hu_5971b] at hP hD
                have h_5974 : rg x_5969 0 1 := by rcases hr_5973 with ⟨q, -⟩ | ⟨q, -⟩ <;> rw [q] <;> exact ⟨by decide, by decide⟩
                have uh_5974 := h_5974.1
                have vh_5974 := h_5974.2
                refine lv_if_eq (tgt := 396) hx hb dX12_nextToken_96 (by decide) (fun c_5975 => ?_) (fun c_5975 => ?_)
                · have f_5976 := (hr_5973.resolve_left (fun q => absurd (q.1.symm.trans c_5975) (by decide))).2
                  have tc_5977 : (x_5969).toInt = 0 := congrArg Int32.toInt c_5975
                  have h_5978 : rg x_5969 0 0 := rg_and h_5974 (rg_of_eq c_5975 (rg_k (0 : Int32) 0 rfl)) (by decide)
                  have uh_5978 := h_5978.1
                  have vh_5978 := h_5978.2
                  subst hQ
                  exact W.vret hx hb hr (fun t1 ht hW => ⟨⟨(σ, I_5898, J, ri, rj, rq), rfl, ⟨I_5898, J, rfl, hG⟩, by rw [ht]; exact hP, va_K.moved hW.alike hK, hD⟩, hS.F ht⟩) hS.2.2 dX12_nextToken_396
                · have f_5979 := (hr_5973.resolve_right (fun q => c_5975 q.1)).2
                  have uf_5979 := f_5979.1
                  have vf_5979 := f_5979.2
                  have tc_5980 : (x_5969).toInt ≠ 0 := fun q => c_5975 (Int32.toInt_inj.mp q)
                  have h_5981 : rg x_5969 1 1 := rg_ne c_5975 h_5974 0 rfl (by decide)
                  have uh_5981 := h_5981.1
                  have vh_5981 := h_5981.2
                  refine lv_aload_n hx hb dX12_nextToken_99 rfl (lv_at hl 0 rfl) ?_
                  refine pg_f (v := .int (I_5898 394 this)) (C := RX12) (T := TX12) (N := 31) hx hb hts (tw_i inlX12) hown hK hP hL_this hK_this (by decide) rfl 10 (by decide) (hts _ (tw_c tw_836)) rfl dX12_nextToken_100 ?_
                  refine lv_ldc hx hb hown (hts _ (tw_c tw_837)) dX12_nextToken_103 ?_
                  refine lv_icmp_ge (tgt := 131) hx hb dX12_nextToken_105 (by decide) (fun c_5982 => ?_) (fun c_5982 => ?_)
                  · have tc_5983 : 100000 ≤ (I_5898 394 this).toInt := Int32.le_iff_toInt_le.mp c_5982
                    have h_5984 : rg (I_5898 394 this) 100000 2147483647 := rg_le2 c_5982 (rg_k (100000 : Int32) 100000 rfl) (rg_full _) (by decide)
                    have uh_5984 := h_5984.1
                    have vh_5984 := h_5984.2
                    refine lv_aload_n hx hb dX12_nextToken_131 rfl (lv_at hl 0 rfl) ?_
                    refine lv_dup hx hb dX12_nextToken_132 rfl ?_
                    refine pg_f (v := .int (I_5898 391 this)) (C := RX12) (T := TX12) (N := 31) hx hb hts (tw_i inlX12) hown hK hP hL_this hK_this (by decide) rfl 7 (by decide) (hts _ (tw_c tw_830)) rfl dX12_nextToken_133 ?_
                    refine lv_iconst (v := 1) hx hb dX12_nextToken_136 (by decide) ?_
                    have h_5985 : rg (I_5898 391 this) 0 299 := ⟨by omega, by omega⟩
                    have uh_5985 := h_5985.1
                    have vh_5985 := h_5985.2
                    refine lv_iadd hx hb dX12_nextToken_137 ?_
                    refine lv_topi (fun x_5986 ex_5986 => ?_)
                    have h_5987 : rg x_5986 1 300 := rg_of_eq ex_5986 (rg_add h_5985 (rg_k (1 : Int32) 1 rfl) (by decide))
                    have uh_5987 := h_5987.1
                    have vh_5987 := h_5987.2
                    have tx_5986 : (x_5986).toInt = (I_5898 391 this).toInt + 1 := by rw [ex_5986]; exact i_add_rg (a2 := (I_5898 391 this).toInt) (b2 := 1) rfl rfl h_5985 (rg_k (1 : Int32) 1 rfl) (by decide)
                    refine pp_i (v := x_5986) (ty := .int) (C := RX12) (T := TX12) (N := 31) hx hb hts (tw_i inlX12) tyX12 tyX12_ok nmX12 hown hK hP hD hS hL_this hK_this (by decide) rfl 7 391 (by decide) (hts _ (tw_c tw_830)) rfl (by decide +kernel) rfl rfl (Nat.le_of_ble_eq_true rfl) (ps_391 _ _ _ _ _) dX12_nextToken_138 (fun I_5988 H locs eI_5988 hP hD hS => ?_)
                    have hG := GM.wI hG 391 rfl eI_5988 (rg_w h_5987 (by decide)) (by decide)
                    have tt_5989 : (I_5988 391 this).toInt = (x_5986).toInt := by rw [eI_5988, pq_us]
                    have tt_5990 : (I_5988 388 this).toInt = (I_5898 388 this).toInt := by rw [eI_5988, pq_uf _ _ _ (by decide)]
                    have tt_5991 : (I_5988 392 this).toInt = (I_5898 392 this).toInt := by rw [eI_5988, pq_uf _ _ _ (by decide)]
                    refine lv_goto (tgt := 85) hx hb dX12_nextToken_141 (by decide) ?_
                    exact ih_5959 I_5988 _ _ _ (ms_fu_iadd hm_5956 (by rw [eI_5988]; exact pq_us _ _ _ _) ex_5986 rfl (kk := 1) rfl (by decide) h_5985 (by decide) (by decide)) hG hP hD hS (lv_sub hl [0] rfl)
                  · have tc_5992 : (I_5898 394 this).toInt < 100000 := Int32.lt_iff_toInt_lt.mp (nle c_5982)
                    have h_5993 : rg (I_5898 394 this) (-2147483648) 99999 := rg_lt1 (nle c_5982) (rg_full _) (rg_k (100000 : Int32) 100000 rfl) (by decide)
                    have uh_5993 := h_5993.1
                    have vh_5993 := h_5993.2
                    refine lv_aload_n hx hb dX12_nextToken_108 rfl (lv_at hl 0 rfl) ?_
                    refine lv_bipush (v := 10) hx hb dX12_nextToken_109 (by decide) ?_
                    refine lv_aload_n hx hb dX12_nextToken_111 rfl (lv_at hl 0 rfl) ?_
                    refine pg_f (v := .int (I_5898 394 this)) (C := RX12) (T := TX12) (N := 31) hx hb hts (tw_i inlX12) hown hK hP hL_this hK_this (by decide) rfl 10 (by decide) (hts _ (tw_c tw_836)) rfl dX12_nextToken_112 ?_
                    refine lv_imul hx hb dX12_nextToken_115 ?_
                    refine lv_topi (fun x_5994 ex_5994 => ?_)
                    refine lv_aload_n hx hb dX12_nextToken_116 rfl (lv_at hl 0 rfl) ?_
                    refine lv_aload_n hx hb dX12_nextToken_117 rfl (lv_at hl 0 rfl) ?_
                    refine pg_f (v := .int (I_5898 391 this)) (C := RX12) (T := TX12) (N := 31) hx hb hts (tw_i inlX12) hown hK hP hL_this hK_this (by decide) rfl 7 (by decide) (hts _ (tw_c tw_830)) rfl dX12_nextToken_118 ?_
                    refine pk_i (va_runV (As := [.int (I_5898 391 this)]) (rest := [.int x_5994, .ref this]) ⟨hx, hb, hml, hown, hts⟩ (s_X12_see l D t σ I_5898 J ri rj rq H.size tg hSH hG.1 this (I_5898 391 this) hL_this hK_this (rg_w h_5960 (by decide))) (cwV 1 hts (tw_V tw_839 tw_840 tw_841 tw_5 tw_842) rfl rfl rfl (by decide +kernel) ⟨Nat.le_of_ble_eq_true rfl, Nat.le_of_ble_eq_true rfl⟩) ⟨pq_blind, pq_recv hK hP hL_this hK_this (by decide) rfl, pq_pre hK hN hP hD⟩ rfl rfl hl.1 rfl (lv_room (Nat.le_of_ble_eq_true rfl)) dX12_nextToken_121 ⟨Nat.le_of_ble_eq_true rfl, Nat.le_of_ble_eq_true rfl⟩) hD hS hA (fun x_5995 σ1 μ1 H locs hw_5996 hP hD hS => ?_)
                    obtain ⟨hu_5997, hp_6000, hr_5999⟩ := hw_5996
                    obtain ⟨hu_5997a, hu_5997b⟩ := Prod.mk.inj hu_5997
                    rw [hu_5997a, hu_5997b] at hP hD
                    have tt_6001 := hp_6000
                    have tt_6002 := (GM.rI hG 388 (a := this) (lo := 0) (hi := 300) rfl).2
                    refine lv_iadd hx hb dX12_nextToken_124 ?_
                    refine lv_topi (fun x_6003 ex_6003 => ?_)
                    refine lv_bipush (v := 48) hx hb dX12_nextToken_125 (by decide) ?_
                    refine lv_isub hx hb dX12_nextToken_127 ?_
                    refine lv_topi (fun x_6004 ex_6004 => ?_)
                    refine pp_i (v := x_6004) (ty := .int) (C := RX12) (T := TX12) (N := 31) hx hb hts (tw_i inlX12) tyX12 tyX12_ok nmX12 hown hK hP hD hS hL_this hK_this (by decide) rfl 10 394 (by decide) (hts _ (tw_c tw_836)) rfl (by decide +kernel) rfl rfl (Nat.le_of_ble_eq_true rfl) (ps_394 _ _ _ _ _) dX12_nextToken_128 (fun I_6005 H locs eI_6005 hP hD hS => ?_)
                    have hG := GM.wI hG 394 rfl eI_6005 (rg_w (rg_full _) (by decide)) (by decide)
                    have tt_6006 : (I_6005 391 this).toInt = (I_5898 391 this).toInt := by rw [eI_6005, pq_uf _ _ _ (by decide)]
                    have tt_6007 : (I_6005 388 this).toInt = (I_5898 388 this).toInt := by rw [eI_6005, pq_uf _ _ _ (by decide)]
                    have tt_6008 : (I_6005 392 this).toInt = (I_5898 392 this).toInt := by rw [eI_6005, pq_uf _ _ _ (by decide)]
                    refine lv_aload_n hx hb dX12_nextToken_131 rfl (lv_at hl 0 rfl) ?_
                    refine lv_dup hx hb dX12_nextToken_132 rfl ?_
                    refine pg_f (v := .int (I_6005 391 this)) (C := RX12) (T := TX12) (N := 31) hx hb hts (tw_i inlX12) hown hK hP hL_this hK_this (by decide) rfl 7 (by decide) (hts _ (tw_c tw_830)) rfl dX12_nextToken_133 ?_
                    have h_6009 : rg (I_6005 391 this) 0 300 := GM.rI hG 391 rfl
                    have uh_6009 := h_6009.1
                    have vh_6009 := h_6009.2
                    refine lv_iconst (v := 1) hx hb dX12_nextToken_136 (by decide) ?_
                    have h_6010 : rg (I_6005 391 this) 0 299 := ⟨by omega, by omega⟩
                    have uh_6010 := h_6010.1
                    have vh_6010 := h_6010.2
                    refine lv_iadd hx hb dX12_nextToken_137 ?_
                    refine lv_topi (fun x_6011 ex_6011 => ?_)
                    have h_6012 : rg x_6011 1 300 := rg_of_eq ex_6011 (rg_add h_6010 (rg_k (1 : Int32) 1 rfl) (by decide))
                    have uh_6012 := h_6012.1
                    have vh_6012 := h_6012.2
                    have tx_6011 : (x_6011).toInt = (I_6005 391 this).toInt + 1 := by rw [ex_6011]; exact i_add_rg (a2 := (I_6005 391 this).toInt) (b2 := 1) rfl rfl h_6010 (rg_k (1 : Int32) 1 rfl) (by decide)
                    refine pp_i (v := x_6011) (ty := .int) (C := RX12) (T := TX12) (N := 31) hx hb hts (tw_i inlX12) tyX12 tyX12_ok nmX12 hown hK hP hD hS hL_this hK_this (by decide) rfl 7 391 (by decide) (hts _ (tw_c tw_830)) rfl (by decide +kernel) rfl rfl (Nat.le_of_ble_eq_true rfl) (ps_391 _ _ _ _ _) dX12_nextToken_138 (fun I_6013 H locs eI_6013 hP hD hS => ?_)
                    have hG := GM.wI hG 391 rfl eI_6013 (rg_w h_6012 (by decide)) (by decide)
                    have tt_6014 : (I_6013 391 this).toInt = (x_6011).toInt := by rw [eI_6013, pq_us]
                    have tt_6015 : (I_6013 388 this).toInt = (I_6005 388 this).toInt := by rw [eI_6013, pq_uf _ _ _ (by decide)]
                    have tt_6016 : (I_6013 392 this).toInt = (I_6005 392 this).toInt := by rw [eI_6013, pq_uf _ _ _ (by decide)]
                    refine lv_goto (tgt := 85) hx hb dX12_nextToken_141 (by decide) ?_
                    exact ih_5959 I_6013 _ _ _ (ms_fu_iadd hm_5956 (by rw [eI_6013]; exact pq_us _ _ _ _) ex_6011 ((congrFun (show I_6005 391 = I_5898 391 from by rw [eI_6005]; exact pq_uf _ _ _ (by decide)) this).trans rfl) (kk := 1) rfl (by decide) h_6010 (by decide) (by decide)) hG hP hD hS (lv_sub hl [0] rfl)
            exact L_5958 _ I_5726 _ _ _ (Nat.lt_succ_self _) hG hP hD hS (lv_sub hl [1] rfl)
        · have tc_6017 : (x_4803).toInt < 0 := Int32.lt_iff_toInt_lt.mp (nle c_4811)
          have h_6018 : rg x_4803 (-1) (-1) := rg_lt1 (nle c_4811) hr_4807 (rg_k (0 : Int32) 0 rfl) (by decide)
          have uh_6018 := h_6018.1
          have vh_6018 := h_6018.2
          refine lv_aload_n hx hb dX12_nextToken_60 rfl (lv_at hl 1 rfl) ?_
          refine lv_iconst (v := 0) hx hb dX12_nextToken_61 (by decide) ?_
          refine pp_i (v := 0) (ty := .int) (C := RX12) (T := TX12) (N := 31) hx hb hts (tw_i inlX12) tyX12 tyX12_ok nmX12 hown hK hP hD hS hL_this hK_this (by decide) rfl 9 393 (by decide) (hts _ (tw_c tw_831)) rfl (by decide +kernel) rfl rfl (Nat.le_of_ble_eq_true rfl) (ps_393 _ _ _ _ _) dX12_nextToken_62 (fun I_6019 H locs eI_6019 hP hD hS => ?_)
          have hG := GM.wI hG 393 rfl eI_6019 (rg_w (rg_k (0 : Int32) 0 rfl) (by decide)) (by decide)
          have tt_6020 : (I_6019 391 this).toInt = (I_4798 391 this).toInt := by rw [eI_6019, pq_uf _ _ _ (by decide)]
          have tt_6021 : (I_6019 388 this).toInt = (I_4798 388 this).toInt := by rw [eI_6019, pq_uf _ _ _ (by decide)]
          have tt_6022 : (I_6019 392 this).toInt = (I_4798 392 this).toInt := by rw [eI_6019, pq_uf _ _ _ (by decide)]
          refine lv_goto (tgt := 396) hx hb dX12_nextToken_65 (by decide) ?_
          subst hQ
          exact W.vret hx hb hr (fun t1 ht hW => ⟨⟨(σ, I_6019, J, ri, rj, rq), rfl, ⟨I_6019, J, rfl, hG⟩, by rw [ht]; exact hP, va_K.moved hW.alike hK, hD⟩, hS.F ht⟩) hS.2.2 dX12_nextToken_396
      · have tc_6023 : (x_4788).toInt = 10 := congrArg Int32.toInt c_4796
        have h_6024 : rg x_4788 10 10 := rg_and hr_4792 (rg_of_eq c_4796 (rg_k (10 : Int32) 10 rfl)) (by decide)
        have uh_6024 := h_6024.1
        have vh_6024 := h_6024.2
        refine lv_aload_n hx hb dX12_nextToken_26 rfl (lv_at hl 0 rfl) ?_
        refine lv_dup hx hb dX12_nextToken_27 rfl ?_
        refine pg_f (v := .int (I 391 this)) (C := RX12) (T := TX12) (N := 31) hx hb hts (tw_i inlX12) hown hK hP hL_this hK_this (by decide) rfl 7 (by decide) (hts _ (tw_c tw_830)) rfl dX12_nextToken_28 ?_
        refine lv_iconst (v := 1) hx hb dX12_nextToken_31 (by decide) ?_
        have h_6025 : rg (I 391 this) 0 299 := ⟨by omega, by omega⟩
        have uh_6025 := h_6025.1
        have vh_6025 := h_6025.2
        refine lv_iadd hx hb dX12_nextToken_32 ?_
        refine lv_topi (fun x_6026 ex_6026 => ?_)
        have h_6027 : rg x_6026 1 300 := rg_of_eq ex_6026 (rg_add h_6025 (rg_k (1 : Int32) 1 rfl) (by decide))
        have uh_6027 := h_6027.1
        have vh_6027 := h_6027.2
        have tx_6026 : (x_6026).toInt = (I 391 this).toInt + 1 := by rw [ex_6026]; exact i_add_rg (a2 := (I 391 this).toInt) (b2 := 1) rfl rfl h_6025 (rg_k (1 : Int32) 1 rfl) (by decide)
        refine pp_i (v := x_6026) (ty := .int) (C := RX12) (T := TX12) (N := 31) hx hb hts (tw_i inlX12) tyX12 tyX12_ok nmX12 hown hK hP hD hS hL_this hK_this (by decide) rfl 7 391 (by decide) (hts _ (tw_c tw_830)) rfl (by decide +kernel) rfl rfl (Nat.le_of_ble_eq_true rfl) (ps_391 _ _ _ _ _) dX12_nextToken_33 (fun I_6028 H locs eI_6028 hP hD hS => ?_)
        have hG := GM.wI hG 391 rfl eI_6028 (rg_w h_6027 (by decide)) (by decide)
        have tt_6029 : (I_6028 391 this).toInt = (x_6026).toInt := by rw [eI_6028, pq_us]
        have tt_6030 : (I_6028 388 this).toInt = (I 388 this).toInt := by rw [eI_6028, pq_uf _ _ _ (by decide)]
        have tt_6031 : (I_6028 392 this).toInt = (I 392 this).toInt := by rw [eI_6028, pq_uf _ _ _ (by decide)]
        refine lv_goto (tgt := 0) hx hb dX12_nextToken_36 (by decide) ?_
        have L_9533 : ∀ (n_9532 : Nat) (I_8656 : Nat → Nat → Int32) (H : Heap) (locs : List Loc) (ls : Array Slot), (300 - (I_8656 391 this).toInt).toNat < n_9532 → GM [391, 392, 393] tg σ I ri I_8656 ri rq → va_P D vwCl (pq_P t σ (I_8656, J, ri, rj, rq)) H → va_D A (pq_P t σ (I_8656, J, ri, rj, rq)) → va_S A s.heap H locs → lv_has ls 3 [(0, .ref this)] → W p l e ({ frames := 2, cells := 0, slots := 0, locals := 42 } : Room) s m (List.toArray ([.ref this] : List Value)) below meth c H locs 0 0 Q (F0 m 0 ls []) := by
          intro n_9532
          induction n_9532 with
          | zero => intro I_8656 H locs ls hm_9531 hG hP hD hS hl; exact absurd hm_9531 (Nat.not_lt_zero _)
          | succ n_9532 ih_9534 =>
            intro I_8656 H locs ls hm_9531 hG hP hD hS hl
            refine lv_aload_n hx hb dX12_nextToken_0 rfl (lv_at hl 0 rfl) ?_
            refine lv_aload_n hx hb dX12_nextToken_1 rfl (lv_at hl 0 rfl) ?_
            refine pg_f (v := .int (I_8656 391 this)) (C := RX12) (T := TX12) (N := 31) hx hb hts (tw_i inlX12) hown hK hP hL_this hK_this (by decide) rfl 7 (by decide) (hts _ (tw_c tw_830)) rfl dX12_nextToken_2 ?_
            have h_9535 : rg (I_8656 391 this) 0 300 := GM.rI hG 391 rfl
            have uh_9535 := h_9535.1
            have vh_9535 := h_9535.2
            refine pk_i (va_runV (As := [.int (I_8656 391 this)]) (rest := []) ⟨hx, hb, hml, hown, hts⟩ (s_X12_see l D t σ I_8656 J ri rj rq H.size tg hSH hG.1 this (I_8656 391 this) hL_this hK_this (rg_w h_9535 (by decide))) (cwV 1 hts (tw_V tw_839 tw_840 tw_841 tw_5 tw_842) rfl rfl rfl (by decide +kernel) ⟨Nat.le_of_ble_eq_true rfl, Nat.le_of_ble_eq_true rfl⟩) ⟨pq_blind, pq_recv hK hP hL_this hK_this (by decide) rfl, pq_pre hK hN hP hD⟩ rfl rfl hl.1 rfl (lv_room (Nat.le_of_ble_eq_true rfl)) dX12_nextToken_5 ⟨Nat.le_of_ble_eq_true rfl, Nat.le_of_ble_eq_true rfl⟩) hD hS hA (fun x_9536 σ1 μ1 H locs hw_9537 hP hD hS => ?_)
            obtain ⟨hu_9538, hp_9541, hr_9540⟩ := hw_9537
            obtain ⟨hu_9538a, hu_9538b⟩ := Prod.mk.inj hu_9538
            rw [hu_9538a, hu_9538b] at hP hD
            have tt_9542 := hp_9541
            have tt_9543 := (GM.rI hG 388 (a := this) (lo := 0) (hi := 300) rfl).2
            refine lv_bipush (v := 32) hx hb dX12_nextToken_8 (by decide) ?_
            refine lv_icmp_eq (tgt := 26) hx hb dX12_nextToken_10 (by decide) (fun c_9544 => ?_) (fun c_9544 => ?_)
            · have tc_9545 : (x_9536).toInt = 32 := congrArg Int32.toInt c_9544
              have h_9546 : rg x_9536 32 32 := rg_and hr_9540 (rg_of_eq c_9544 (rg_k (32 : Int32) 32 rfl)) (by decide)
              have uh_9546 := h_9546.1
              have vh_9546 := h_9546.2
              refine lv_aload_n hx hb dX12_nextToken_26 rfl (lv_at hl 0 rfl) ?_
              refine lv_dup hx hb dX12_nextToken_27 rfl ?_
              refine pg_f (v := .int (I_8656 391 this)) (C := RX12) (T := TX12) (N := 31) hx hb hts (tw_i inlX12) hown hK hP hL_this hK_this (by decide) rfl 7 (by decide) (hts _ (tw_c tw_830)) rfl dX12_nextToken_28 ?_
              refine lv_iconst (v := 1) hx hb dX12_nextToken_31 (by decide) ?_
              have h_9547 : rg (I_8656 391 this) 0 299 := ⟨by omega, by omega⟩
              have uh_9547 := h_9547.1
              have vh_9547 := h_9547.2
              refine lv_iadd hx hb dX12_nextToken_32 ?_
              refine lv_topi (fun x_9548 ex_9548 => ?_)
              have h_9549 : rg x_9548 1 300 := rg_of_eq ex_9548 (rg_add h_9547 (rg_k (1 : Int32) 1 rfl) (by decide))
              have uh_9549 := h_9549.1
              have vh_9549 := h_9549.2
              have tx_9548 : (x_9548).toInt = (I_8656 391 this).toInt + 1 := by rw [ex_9548]; exact i_add_rg (a2 := (I_8656 391 this).toInt) (b2 := 1) rfl rfl h_9547 (rg_k (1 : Int32) 1 rfl) (by decide)
              refine pp_i (v := x_9548) (ty := .int) (C := RX12) (T := TX12) (N := 31) hx hb hts (tw_i inlX12) tyX12 tyX12_ok nmX12 hown hK hP hD hS hL_this hK_this (by decide) rfl 7 391 (by decide) (hts _ (tw_c tw_830)) rfl (by decide +kernel) rfl rfl (Nat.le_of_ble_eq_true rfl) (ps_391 _ _ _ _ _) dX12_nextToken_33 (fun I_9550 H locs eI_9550 hP hD hS => ?_)
              have hG := GM.wI hG 391 rfl eI_9550 (rg_w h_9549 (by decide)) (by decide)
              have tt_9551 : (I_9550 391 this).toInt = (x_9548).toInt := by rw [eI_9550, pq_us]
              have tt_9552 : (I_9550 388 this).toInt = (I_8656 388 this).toInt := by rw [eI_9550, pq_uf _ _ _ (by decide)]
              have tt_9553 : (I_9550 392 this).toInt = (I_8656 392 this).toInt := by rw [eI_9550, pq_uf _ _ _ (by decide)]
              refine lv_goto (tgt := 0) hx hb dX12_nextToken_36 (by decide) ?_
              exact ih_9534 I_9550 _ _ _ (ms_fu_iadd hm_9531 (by rw [eI_9550]; exact pq_us _ _ _ _) ex_9548 rfl (kk := 1) rfl (by decide) h_9547 (by decide) (by decide)) hG hP hD hS (lv_sub hl [0] rfl)
            · have tc_9554 : (x_9536).toInt ≠ 32 := fun q => c_9544 (Int32.toInt_inj.mp q)
              refine lv_aload_n hx hb dX12_nextToken_13 rfl (lv_at hl 0 rfl) ?_
              refine lv_aload_n hx hb dX12_nextToken_14 rfl (lv_at hl 0 rfl) ?_
              refine pg_f (v := .int (I_8656 391 this)) (C := RX12) (T := TX12) (N := 31) hx hb hts (tw_i inlX12) hown hK hP hL_this hK_this (by decide) rfl 7 (by decide) (hts _ (tw_c tw_830)) rfl dX12_nextToken_15 ?_
              refine pk_i (va_runV (As := [.int (I_8656 391 this)]) (rest := []) ⟨hx, hb, hml, hown, hts⟩ (s_X12_see l D t σ I_8656 J ri rj rq H.size tg hSH hG.1 this (I_8656 391 this) hL_this hK_this (rg_w h_9535 (by decide))) (cwV 1 hts (tw_V tw_839 tw_840 tw_841 tw_5 tw_842) rfl rfl rfl (by decide +kernel) ⟨Nat.le_of_ble_eq_true rfl, Nat.le_of_ble_eq_true rfl⟩) ⟨pq_blind, pq_recv hK hP hL_this hK_this (by decide) rfl, pq_pre hK hN hP hD⟩ rfl rfl hl.1 rfl (lv_room (Nat.le_of_ble_eq_true rfl)) dX12_nextToken_18 ⟨Nat.le_of_ble_eq_true rfl, Nat.le_of_ble_eq_true rfl⟩) hD hS hA (fun x_9555 σ1 μ1 H locs hw_9556 hP hD hS => ?_)
              obtain ⟨hu_9557, hp_9560, hr_9559⟩ := hw_9556
              obtain ⟨hu_9557a, hu_9557b⟩ := Prod.mk.inj hu_9557
              rw [hu_9557a, hu_9557b] at hP hD
              have tt_9561 := hp_9560
              have tt_9562 := (GM.rI hG 388 (a := this) (lo := 0) (hi := 300) rfl).2
              refine lv_bipush (v := 10) hx hb dX12_nextToken_21 (by decide) ?_
              refine lv_icmp_ne (tgt := 39) hx hb dX12_nextToken_23 (by decide) (fun c_9563 => ?_) (fun c_9563 => ?_)
              · have tc_9564 : (x_9555).toInt ≠ 10 := fun q => c_9563 (Int32.toInt_inj.mp q)
                refine lv_aload_n hx hb dX12_nextToken_39 rfl (lv_at hl 0 rfl) ?_
                refine lv_aload_n hx hb dX12_nextToken_40 rfl (lv_at hl 0 rfl) ?_
                refine pg_f (v := .int (I_8656 391 this)) (C := RX12) (T := TX12) (N := 31) hx hb hts (tw_i inlX12) hown hK hP hL_this hK_this (by decide) rfl 7 (by decide) (hts _ (tw_c tw_830)) rfl dX12_nextToken_41 ?_
                refine pp_i (v := (I_8656 391 this)) (ty := .int) (C := RX12) (T := TX12) (N := 31) hx hb hts (tw_i inlX12) tyX12 tyX12_ok nmX12 hown hK hP hD hS hL_this hK_this (by decide) rfl 8 392 (by decide) (hts _ (tw_c tw_820)) rfl (by decide +kernel) rfl rfl (Nat.le_of_ble_eq_true rfl) (ps_392 _ _ _ _ _) dX12_nextToken_44 (fun I_9565 H locs eI_9565 hP hD hS => ?_)
                have hG := GM.wI hG 392 rfl eI_9565 (rg_w h_9535 (by decide)) (by decide)
                have tt_9566 : (I_9565 391 this).toInt = (I_8656 391 this).toInt := by rw [eI_9565, pq_uf _ _ _ (by decide)]
                have tt_9567 : (I_9565 388 this).toInt = (I_8656 388 this).toInt := by rw [eI_9565, pq_uf _ _ _ (by decide)]
                have tt_9568 : (I_9565 392 this).toInt = (I_8656 391 this).toInt := by rw [eI_9565, pq_us]
                refine lv_aload_n hx hb dX12_nextToken_47 rfl (lv_at hl 0 rfl) ?_
                refine lv_aload_n hx hb dX12_nextToken_48 rfl (lv_at hl 0 rfl) ?_
                refine pg_f (v := .int (I_9565 391 this)) (C := RX12) (T := TX12) (N := 31) hx hb hts (tw_i inlX12) hown hK hP hL_this hK_this (by decide) rfl 7 (by decide) (hts _ (tw_c tw_830)) rfl dX12_nextToken_49 ?_
                have h_9569 : rg (I_9565 391 this) 0 300 := GM.rI hG 391 rfl
                have uh_9569 := h_9569.1
                have vh_9569 := h_9569.2
                refine pk_i (va_runV (As := [.int (I_9565 391 this)]) (rest := []) ⟨hx, hb, hml, hown, hts⟩ (s_X12_see l D t σ I_9565 J ri rj rq H.size tg hSH hG.1 this (I_9565 391 this) hL_this hK_this (rg_w h_9569 (by decide))) (cwV 1 hts (tw_V tw_839 tw_840 tw_841 tw_5 tw_842) rfl rfl rfl (by decide +kernel) ⟨Nat.le_of_ble_eq_true rfl, Nat.le_of_ble_eq_true rfl⟩) ⟨pq_blind, pq_recv hK hP hL_this hK_this (by decide) rfl, pq_pre hK hN hP hD⟩ rfl rfl hl.1 rfl (lv_room (Nat.le_of_ble_eq_true rfl)) dX12_nextToken_52 ⟨Nat.le_of_ble_eq_true rfl, Nat.le_of_ble_eq_true rfl⟩) hD hS hA (fun x_9570 σ1 μ1 H locs hw_9571 hP hD hS => ?_)
                obtain ⟨hu_9572, hp_9575, hr_9574⟩ := hw_9571
                obtain ⟨hu_9572a, hu_9572b⟩ := Prod.mk.inj hu_9572
                rw [hu_9572a, hu_9572b] at hP hD
                have tt_9576 := hp_9575
                have tt_9577 := (GM.rI hG 388 (a := this) (lo := 0) (hi := 300) rfl).2
                refine lv_istore_n (lv' := [(1, .int x_9570), (0, .ref this)]) hx hb dX12_nextToken_55 rfl hl (by decide) rfl (fun ls hl => ?_)
                refine lv_iload_n hx hb dX12_nextToken_56 rfl (lv_at hl 0 rfl) ?_
                refine lv_if_ge (tgt := 68) hx hb dX12_nextToken_57 (by decide) (fun c_9578 => ?_) (fun c_9578 => ?_)
                · have tc_9579 : 0 ≤ (x_9570).toInt := Int32.le_iff_toInt_le.mp c_9578
                  have h_9580 : rg x_9570 0 255 := rg_le2 c_9578 (rg_k (0 : Int32) 0 rfl) hr_9574 (by decide)
                  have uh_9580 := h_9580.1
                  have vh_9580 := h_9580.2
                  refine lv_iload_n hx hb dX12_nextToken_68 rfl (lv_at hl 0 rfl) ?_
                  refine pk_i (va_runS (As := [.int x_9570]) (rest := []) ⟨hx, hb, hml, hown, hts⟩ (s_X12_isDigit l D t σ I_9565 J ri rj rq H.size tg hSH hG.1 x_9570) (va_cwS 1 hts (tw_S tw_843 tw_844 tw_5 tw_845) rfl rfl rfl (by decide +kernel) ⟨Nat.le_of_ble_eq_true rfl, Nat.le_of_ble_eq_true rfl⟩) ⟨pq_blind, pq_pre hK hN hP hD⟩ rfl rfl hl.1 rfl (lv_room (Nat.le_of_ble_eq_true rfl)) dX12_nextToken_69 ⟨Nat.le_of_ble_eq_true rfl, Nat.le_of_ble_eq_true rfl⟩) hD hS hA (fun x_9581 σ1 μ1 H locs hw_9582 hP hD hS => ?_)
                  obtain ⟨hu_9583, hr_9585⟩ := hw_9582
                  obtain ⟨hu_9583a, hu_9583b⟩ := Prod.mk.inj hu_9583
                  rw [hu_9583a, hu_9583b] at hP hD
                  have h_9586 : rg x_9581 0 1 := by rcases hr_9585 with ⟨q, -⟩ | ⟨q, -⟩ <;> rw [q] <;> exact ⟨by decide, by decide⟩
                  have uh_9586 := h_9586.1
                  have vh_9586 := h_9586.2
                  refine lv_if_eq (tgt := 144) hx hb dX12_nextToken_72 (by decide) (fun c_9587 => ?_) (fun c_9587 => ?_)
                  · have f_9588 := (hr_9585.resolve_left (fun q => absurd (q.1.symm.trans c_9587) (by decide))).2
                    have tc_9589 : (x_9581).toInt = 0 := congrArg Int32.toInt c_9587
                    have h_9590 : rg x_9581 0 0 := rg_and h_9586 (rg_of_eq c_9587 (rg_k (0 : Int32) 0 rfl)) (by decide)
                    have uh_9590 := h_9590.1
                    have vh_9590 := h_9590.2
                    refine lv_iload_n hx hb dX12_nextToken_144 rfl (lv_at hl 0 rfl) ?_
                    refine pk_i (va_runS (As := [.int x_9570]) (rest := []) ⟨hx, hb, hml, hown, hts⟩ (s_X12_isLetter l D t σ I_9565 J ri rj rq H.size tg hSH hG.1 x_9570) (va_cwS 1 hts (tw_S tw_846 tw_847 tw_5 tw_848) rfl rfl rfl (by decide +kernel) ⟨Nat.le_of_ble_eq_true rfl, Nat.le_of_ble_eq_true rfl⟩) ⟨pq_blind, pq_pre hK hN hP hD⟩ rfl rfl hl.1 rfl (lv_room (Nat.le_of_ble_eq_true rfl)) dX12_nextToken_145 ⟨Nat.le_of_ble_eq_true rfl, Nat.le_of_ble_eq_true rfl⟩) hD hS hA (fun x_9591 σ1 μ1 H locs hw_9592 hP hD hS => ?_)
                    obtain ⟨hu_9593, hr_9595⟩ := hw_9592
                    obtain ⟨hu_9593a, hu_9593b⟩ := Prod.mk.inj hu_9593
                    rw [hu_9593a, hu_9593b] at hP hD
                    have h_9596 : rg x_9591 0 1 := by rcases hr_9595 with ⟨q, -⟩ | ⟨q, -⟩ <;> rw [q] <;> exact ⟨by decide, by decide⟩
                    have uh_9596 := h_9596.1
                    have vh_9596 := h_9596.2
                    refine lv_if_eq (tgt := 245) hx hb dX12_nextToken_148 (by decide) (fun c_9597 => ?_) (fun c_9597 => ?_)
                    · have f_9598 := (hr_9595.resolve_left (fun q => absurd (q.1.symm.trans c_9597) (by decide))).2
                      have tc_9599 : (x_9591).toInt = 0 := congrArg Int32.toInt c_9597
                      have h_9600 : rg x_9591 0 0 := rg_and h_9596 (rg_of_eq c_9597 (rg_k (0 : Int32) 0 rfl)) (by decide)
                      have uh_9600 := h_9600.1
                      have vh_9600 := h_9600.2
                      refine lv_aload_n hx hb dX12_nextToken_245 rfl (lv_at hl 1 rfl) ?_
                      refine lv_dup hx hb dX12_nextToken_246 rfl ?_
                      refine pg_f (v := .int (I_9565 391 this)) (C := RX12) (T := TX12) (N := 31) hx hb hts (tw_i inlX12) hown hK hP hL_this hK_this (by decide) rfl 7 (by decide) (hts _ (tw_c tw_830)) rfl dX12_nextToken_247 ?_
                      refine lv_iconst (v := 1) hx hb dX12_nextToken_250 (by decide) ?_
                      have h_9601 : rg (I_9565 391 this) 0 299 := ⟨by omega, by omega⟩
                      have uh_9601 := h_9601.1
                      have vh_9601 := h_9601.2
                      refine lv_iadd hx hb dX12_nextToken_251 ?_
                      refine lv_topi (fun x_9602 ex_9602 => ?_)
                      have h_9603 : rg x_9602 1 300 := rg_of_eq ex_9602 (rg_add h_9601 (rg_k (1 : Int32) 1 rfl) (by decide))
                      have uh_9603 := h_9603.1
                      have vh_9603 := h_9603.2
                      have tx_9602 : (x_9602).toInt = (I_9565 391 this).toInt + 1 := by rw [ex_9602]; exact i_add_rg (a2 := (I_9565 391 this).toInt) (b2 := 1) rfl rfl h_9601 (rg_k (1 : Int32) 1 rfl) (by decide)
                      refine pp_i (v := x_9602) (ty := .int) (C := RX12) (T := TX12) (N := 31) hx hb hts (tw_i inlX12) tyX12 tyX12_ok nmX12 hown hK hP hD hS hL_this hK_this (by decide) rfl 7 391 (by decide) (hts _ (tw_c tw_830)) rfl (by decide +kernel) rfl rfl (Nat.le_of_ble_eq_true rfl) (ps_391 _ _ _ _ _) dX12_nextToken_252 (fun I_9604 H locs eI_9604 hP hD hS => ?_)
                      have hG := GM.wI hG 391 rfl eI_9604 (rg_w h_9603 (by decide)) (by decide)
                      have tt_9605 : (I_9604 391 this).toInt = (x_9602).toInt := by rw [eI_9604, pq_us]
                      have tt_9606 : (I_9604 388 this).toInt = (I_9565 388 this).toInt := by rw [eI_9604, pq_uf _ _ _ (by decide)]
                      have tt_9607 : (I_9604 392 this).toInt = (I_9565 392 this).toInt := by rw [eI_9604, pq_uf _ _ _ (by decide)]
                      refine lv_iload_n hx hb dX12_nextToken_255 rfl (lv_at hl 0 rfl) ?_
                      refine lv_bipush (v := 60) hx hb dX12_nextToken_256 (by decide) ?_
                      have K_9757 : ∀  (H : Heap) (locs : List Loc) (ls : Array Slot), GM [391, 392, 393] tg σ I ri I_9604 ri rq → va_P D vwCl (pq_P t σ (I_9604, J, ri, rj, rq)) H → va_D A (pq_P t σ (I_9604, J, ri, rj, rq)) → va_S A s.heap H locs → lv_has ls 3 [(0, .ref this), (1, .int x_9570)] → W p l e ({ frames := 2, cells := 0, slots := 0, locals := 42 } : Room) s m (List.toArray ([.ref this] : List Value)) below meth c H locs 0 0 Q (F0 m 332 ls [.int 0]) := by
                        intro H locs ls hG hP hD hS hl
                        refine lv_istore_n (lv' := [(2, .int 0), (0, .ref this), (1, .int x_9570)]) hx hb dX12_nextToken_332 rfl hl (by decide) rfl (fun ls hl => ?_)
                        refine lv_aload_n hx hb dX12_nextToken_333 rfl (lv_at hl 1 rfl) ?_
                        refine lv_iload_n hx hb dX12_nextToken_334 rfl (lv_at hl 0 rfl) ?_
                        have K_9807 : ∀  (H : Heap) (locs : List Loc) (ls : Array Slot), GM [391, 392, 393] tg σ I ri I_9604 ri rq → va_P D vwCl (pq_P t σ (I_9604, J, ri, rj, rq)) H → va_D A (pq_P t σ (I_9604, J, ri, rj, rq)) → va_S A s.heap H locs → lv_has ls 3 [(0, .ref this), (1, .int x_9570)] → W p l e ({ frames := 2, cells := 0, slots := 0, locals := 42 } : Room) s m (List.toArray ([.ref this] : List Value)) below meth c H locs 0 0 Q (F0 m 343 ls [.int 3, .ref this]) := by
                          intro H locs ls hG hP hD hS hl
                          refine pp_i (v := 3) (ty := .int) (C := RX12) (T := TX12) (N := 31) hx hb hts (tw_i inlX12) tyX12 tyX12_ok nmX12 hown hK hP hD hS hL_this hK_this (by decide) rfl 9 393 (by decide) (hts _ (tw_c tw_831)) rfl (by decide +kernel) rfl rfl (Nat.le_of_ble_eq_true rfl) (ps_393 _ _ _ _ _) dX12_nextToken_343 (fun I_9808 H locs eI_9808 hP hD hS => ?_)
                          have hG := GM.wI hG 393 rfl eI_9808 (rg_w (rg_k (3 : Int32) 3 rfl) (by decide)) (by decide)
                          have tt_9809 : (I_9808 391 this).toInt = (I_9604 391 this).toInt := by rw [eI_9808, pq_uf _ _ _ (by decide)]
                          have tt_9810 : (I_9808 388 this).toInt = (I_9604 388 this).toInt := by rw [eI_9808, pq_uf _ _ _ (by decide)]
                          have tt_9811 : (I_9808 392 this).toInt = (I_9604 392 this).toInt := by rw [eI_9808, pq_uf _ _ _ (by decide)]
                          refine lv_iload_n hx hb dX12_nextToken_346 rfl (lv_at hl 1 rfl) ?_
                          refine lv_bipush (v := 60) hx hb dX12_nextToken_347 (by decide) ?_
                          have K_9856 : ∀  (H : Heap) (locs : List Loc) (ls : Array Slot), rg (x_9570) 60 62 → GM [391, 392, 393] tg σ I ri I_9808 ri rq → va_P D vwCl (pq_P t σ (I_9808, J, ri, rj, rq)) H → va_D A (pq_P t σ (I_9808, J, ri, rj, rq)) → va_S A s.heap H locs → lv_has ls 3 [(0, .ref this), (1, .int x_9570)] → W p l e ({ frames := 2, cells := 0, slots := 0, locals := 42 } : Room) s m (List.toArray ([.ref this] : List Value)) below meth c H locs 0 0 Q (F0 m 358 ls []) := by
                            intro H locs ls h_9858 hG hP hD hS hl
                            have uh_9858 := h_9858.1
                            have vh_9858 := h_9858.2
                            refine lv_aload_n hx hb dX12_nextToken_358 rfl (lv_at hl 0 rfl) ?_
                            refine lv_aload_n hx hb dX12_nextToken_359 rfl (lv_at hl 0 rfl) ?_
                            refine pg_f (v := .int (I_9808 391 this)) (C := RX12) (T := TX12) (N := 31) hx hb hts (tw_i inlX12) hown hK hP hL_this hK_this (by decide) rfl 7 (by decide) (hts _ (tw_c tw_830)) rfl dX12_nextToken_360 ?_
                            have h_9859 : rg (I_9808 391 this) 1 300 := (by rw [eI_9808, pq_uf _ _ _ (by decide)]; exact (by rw [eI_9604, pq_us]; exact h_9603))
                            have uh_9859 := h_9859.1
                            have vh_9859 := h_9859.2
                            refine pk_i (va_runV (As := [.int (I_9808 391 this)]) (rest := []) ⟨hx, hb, hml, hown, hts⟩ (s_X12_see l D t σ I_9808 J ri rj rq H.size tg hSH hG.1 this (I_9808 391 this) hL_this hK_this (rg_w h_9859 (by decide))) (cwV 1 hts (tw_V tw_839 tw_840 tw_841 tw_5 tw_842) rfl rfl rfl (by decide +kernel) ⟨Nat.le_of_ble_eq_true rfl, Nat.le_of_ble_eq_true rfl⟩) ⟨pq_blind, pq_recv hK hP hL_this hK_this (by decide) rfl, pq_pre hK hN hP hD⟩ rfl rfl hl.1 rfl (lv_room (Nat.le_of_ble_eq_true rfl)) dX12_nextToken_363 ⟨Nat.le_of_ble_eq_true rfl, Nat.le_of_ble_eq_true rfl⟩) hD hS hA (fun x_9860 σ1 μ1 H locs hw_9861 hP hD hS => ?_)
                            obtain ⟨hu_9862, hp_9865, hr_9864⟩ := hw_9861
                            obtain ⟨hu_9862a, hu_9862b⟩ := Prod.mk.inj hu_9862
                            rw [hu_9862a, hu_9862b] at hP hD
                            have tt_9866 := hp_9865
                            have tt_9867 := (GM.rI hG 388 (a := this) (lo := 0) (hi := 300) rfl).2
                            refine lv_bipush (v := 61) hx hb dX12_nextToken_366 (by decide) ?_
                            refine lv_icmp_ne (tgt := 396) hx hb dX12_nextToken_368 (by decide) (fun c_9868 => ?_) (fun c_9868 => ?_)
                            · have tc_9869 : (x_9860).toInt ≠ 61 := fun q => c_9868 (Int32.toInt_inj.mp q)
                              subst hQ
                              exact W.vret hx hb hr (fun t1 ht hW => ⟨⟨(σ, I_9808, J, ri, rj, rq), rfl, ⟨I_9808, J, rfl, hG⟩, by rw [ht]; exact hP, va_K.moved hW.alike hK, hD⟩, hS.F ht⟩) hS.2.2 dX12_nextToken_396
                            · have tc_9870 : (x_9860).toInt = 61 := congrArg Int32.toInt c_9868
                              have h_9871 : rg x_9860 61 61 := rg_and hr_9864 (rg_of_eq c_9868 (rg_k (61 : Int32) 61 rfl)) (by decide)
                              have uh_9871 := h_9871.1
                              have vh_9871 := h_9871.2
                              refine lv_aload_n hx hb dX12_nextToken_371 rfl (lv_at hl 0 rfl) ?_
                              refine lv_dup hx hb dX12_nextToken_372 rfl ?_
                              refine pg_f (v := .int (I_9808 391 this)) (C := RX12) (T := TX12) (N := 31) hx hb hts (tw_i inlX12) hown hK hP hL_this hK_this (by decide) rfl 7 (by decide) (hts _ (tw_c tw_830)) rfl dX12_nextToken_373 ?_
                              refine lv_iconst (v := 1) hx hb dX12_nextToken_376 (by decide) ?_
                              have h_9872 : rg (I_9808 391 this) 0 299 := ⟨by omega, by omega⟩
                              have uh_9872 := h_9872.1
                              have vh_9872 := h_9872.2
                              refine lv_iadd hx hb dX12_nextToken_377 ?_
                              refine lv_topi (fun x_9873 ex_9873 => ?_)
                              have h_9874 : rg x_9873 1 300 := rg_of_eq ex_9873 (rg_add h_9872 (rg_k (1 : Int32) 1 rfl) (by decide))
                              have uh_9874 := h_9874.1
                              have vh_9874 := h_9874.2
                              have tx_9873 : (x_9873).toInt = (I_9808 391 this).toInt + 1 := by rw [ex_9873]; exact i_add_rg (a2 := (I_9808 391 this).toInt) (b2 := 1) rfl rfl h_9872 (rg_k (1 : Int32) 1 rfl) (by decide)
                              refine pp_i (v := x_9873) (ty := .int) (C := RX12) (T := TX12) (N := 31) hx hb hts (tw_i inlX12) tyX12 tyX12_ok nmX12 hown hK hP hD hS hL_this hK_this (by decide) rfl 7 391 (by decide) (hts _ (tw_c tw_830)) rfl (by decide +kernel) rfl rfl (Nat.le_of_ble_eq_true rfl) (ps_391 _ _ _ _ _) dX12_nextToken_378 (fun I_9875 H locs eI_9875 hP hD hS => ?_)
                              have hG := GM.wI hG 391 rfl eI_9875 (rg_w h_9874 (by decide)) (by decide)
                              have tt_9876 : (I_9875 391 this).toInt = (x_9873).toInt := by rw [eI_9875, pq_us]
                              have tt_9877 : (I_9875 388 this).toInt = (I_9808 388 this).toInt := by rw [eI_9875, pq_uf _ _ _ (by decide)]
                              have tt_9878 : (I_9875 392 this).toInt = (I_9808 392 this).toInt := by rw [eI_9875, pq_uf _ _ _ (by decide)]
                              refine lv_aload_n hx hb dX12_nextToken_381 rfl (lv_at hl 0 rfl) ?_
                              refine lv_iload_n hx hb dX12_nextToken_382 rfl (lv_at hl 1 rfl) ?_
                              refine lv_bipush (v := 60) hx hb dX12_nextToken_383 (by decide) ?_
                              have K_9894 : ∀  (H : Heap) (locs : List Loc) (ls : Array Slot), rg (x_9570) 61 62 → GM [391, 392, 393] tg σ I ri I_9875 ri rq → va_P D vwCl (pq_P t σ (I_9875, J, ri, rj, rq)) H → va_D A (pq_P t σ (I_9875, J, ri, rj, rq)) → va_S A s.heap H locs → lv_has ls 3 [] → W p l e ({ frames := 2, cells := 0, slots := 0, locals := 42 } : Room) s m (List.toArray ([.ref this] : List Value)) below meth c H locs 0 0 Q (F0 m 393 ls [.int 5, .ref this]) := by
                                intro H locs ls h_9896 hG hP hD hS hl
                                have uh_9896 := h_9896.1
                                have vh_9896 := h_9896.2
                                refine pp_i (v := 5) (ty := .int) (C := RX12) (T := TX12) (N := 31) hx hb hts (tw_i inlX12) tyX12 tyX12_ok nmX12 hown hK hP hD hS hL_this hK_this (by decide) rfl 9 393 (by decide) (hts _ (tw_c tw_831)) rfl (by decide +kernel) rfl rfl (Nat.le_of_ble_eq_true rfl) (ps_393 _ _ _ _ _) dX12_nextToken_393 (fun I_9897 H locs eI_9897 hP hD hS => ?_)
                                have hG := GM.wI hG 393 rfl eI_9897 (rg_w (rg_k (5 : Int32) 5 rfl) (by decide)) (by decide)
                                have tt_9898 : (I_9897 391 this).toInt = (I_9875 391 this).toInt := by rw [eI_9897, pq_uf _ _ _ (by decide)]
                                have tt_9899 : (I_9897 388 this).toInt = (I_9875 388 this).toInt := by rw [eI_9897, pq_uf _ _ _ (by decide)]
                                have tt_9900 : (I_9897 392 this).toInt = (I_9875 392 this).toInt := by rw [eI_9897, pq_uf _ _ _ (by decide)]
                                subst hQ
                                exact W.vret hx hb hr (fun t1 ht hW => ⟨⟨(σ, I_9897, J, ri, rj, rq), rfl, ⟨I_9897, J, rfl, hG⟩, by rw [ht]; exact hP, va_K.moved hW.alike hK, hD⟩, hS.F ht⟩) hS.2.2 dX12_nextToken_396
                              have K_9901 : ∀  (H : Heap) (locs : List Loc) (ls : Array Slot), rg (x_9570) 60 60 → GM [391, 392, 393] tg σ I ri I_9875 ri rq → va_P D vwCl (pq_P t σ (I_9875, J, ri, rj, rq)) H → va_D A (pq_P t σ (I_9875, J, ri, rj, rq)) → va_S A s.heap H locs → lv_has ls 3 [] → W p l e ({ frames := 2, cells := 0, slots := 0, locals := 42 } : Room) s m (List.toArray ([.ref this] : List Value)) below meth c H locs 0 0 Q (F0 m 393 ls [.int 4, .ref this]) := by
                                intro H locs ls h_9903 hG hP hD hS hl
                                have uh_9903 := h_9903.1
                                have vh_9903 := h_9903.2
                                refine pp_i (v := 4) (ty := .int) (C := RX12) (T := TX12) (N := 31) hx hb hts (tw_i inlX12) tyX12 tyX12_ok nmX12 hown hK hP hD hS hL_this hK_this (by decide) rfl 9 393 (by decide) (hts _ (tw_c tw_831)) rfl (by decide +kernel) rfl rfl (Nat.le_of_ble_eq_true rfl) (ps_393 _ _ _ _ _) dX12_nextToken_393 (fun I_9904 H locs eI_9904 hP hD hS => ?_)
                                have hG := GM.wI hG 393 rfl eI_9904 (rg_w (rg_k (4 : Int32) 4 rfl) (by decide)) (by decide)
                                have tt_9905 : (I_9904 391 this).toInt = (I_9875 391 this).toInt := by rw [eI_9904, pq_uf _ _ _ (by decide)]
                                have tt_9906 : (I_9904 388 this).toInt = (I_9875 388 this).toInt := by rw [eI_9904, pq_uf _ _ _ (by decide)]
                                have tt_9907 : (I_9904 392 this).toInt = (I_9875 392 this).toInt := by rw [eI_9904, pq_uf _ _ _ (by decide)]
                                subst hQ
                                exact W.vret hx hb hr (fun t1 ht hW => ⟨⟨(σ, I_9904, J, ri, rj, rq), rfl, ⟨I_9904, J, rfl, hG⟩, by rw [ht]; exact hP, va_K.moved hW.alike hK, hD⟩, hS.F ht⟩) hS.2.2 dX12_nextToken_396
                              refine lv_icmp_ne (tgt := 392) hx hb dX12_nextToken_385 (by decide) (fun c_9908 => ?_) (fun c_9908 => ?_)
                              · have tc_9909 : (x_9570).toInt ≠ 60 := fun q => c_9908 (Int32.toInt_inj.mp q)
                                have h_9910 : rg x_9570 61 62 := rg_ne c_9908 h_9858 60 rfl (by decide)
                                have uh_9910 := h_9910.1
                                have vh_9910 := h_9910.2
                                refine lv_iconst (v := 5) hx hb dX12_nextToken_392 (by decide) ?_
                                exact K_9894 _ _ _ (rg_w h_9910 (by decide)) hG hP hD hS (lv_sub hl [] rfl)
                              · have tc_9911 : (x_9570).toInt = 60 := congrArg Int32.toInt c_9908
                                have h_9912 : rg x_9570 60 60 := rg_and h_9858 (rg_of_eq c_9908 (rg_k (60 : Int32) 60 rfl)) (by decide)
                                have uh_9912 := h_9912.1
                                have vh_9912 := h_9912.2
                                refine lv_iconst (v := 4) hx hb dX12_nextToken_388 (by decide) ?_
                                refine lv_goto (tgt := 393) hx hb dX12_nextToken_389 (by decide) ?_
                                exact K_9901 _ _ _ (rg_w h_9912 (by decide)) hG hP hD hS (lv_sub hl [] rfl)
                          refine lv_icmp_eq (tgt := 358) hx hb dX12_nextToken_349 (by decide) (fun c_9913 => ?_) (fun c_9913 => ?_)
                          · have tc_9914 : (x_9570).toInt = 60 := congrArg Int32.toInt c_9913
                            have h_9915 : rg x_9570 60 60 := rg_and h_9580 (rg_of_eq c_9913 (rg_k (60 : Int32) 60 rfl)) (by decide)
                            have uh_9915 := h_9915.1
                            have vh_9915 := h_9915.2
                            exact K_9856 _ _ _ (rg_w h_9915 (by decide)) hG hP hD hS (lv_sub hl [0, 1] rfl)
                          · have tc_9916 : (x_9570).toInt ≠ 60 := fun q => c_9913 (Int32.toInt_inj.mp q)
                            refine lv_iload_n hx hb dX12_nextToken_352 rfl (lv_at hl 1 rfl) ?_
                            refine lv_bipush (v := 62) hx hb dX12_nextToken_353 (by decide) ?_
                            refine lv_icmp_ne (tgt := 396) hx hb dX12_nextToken_355 (by decide) (fun c_9917 => ?_) (fun c_9917 => ?_)
                            · have tc_9918 : (x_9570).toInt ≠ 62 := fun q => c_9917 (Int32.toInt_inj.mp q)
                              subst hQ
                              exact W.vret hx hb hr (fun t1 ht hW => ⟨⟨(σ, I_9808, J, ri, rj, rq), rfl, ⟨I_9808, J, rfl, hG⟩, by rw [ht]; exact hP, va_K.moved hW.alike hK, hD⟩, hS.F ht⟩) hS.2.2 dX12_nextToken_396
                            · have tc_9919 : (x_9570).toInt = 62 := congrArg Int32.toInt c_9917
                              have h_9920 : rg x_9570 62 62 := rg_and h_9580 (rg_of_eq c_9917 (rg_k (62 : Int32) 62 rfl)) (by decide)
                              have uh_9920 := h_9920.1
                              have vh_9920 := h_9920.2
                              exact K_9856 _ _ _ (rg_w h_9920 (by decide)) hG hP hD hS (lv_sub hl [0, 1] rfl)
                        refine lv_if_eq (tgt := 342) hx hb dX12_nextToken_335 (by decide) (fun c_9921 => ?_) (fun c_9921 => absurd c_9921 (by decide))
                        refine lv_iconst (v := 3) hx hb dX12_nextToken_342 (by decide) ?_
                        exact K_9807 _ _ _ hG hP hD hS (lv_sub hl [1, 2] rfl)
                      have K_9922 : ∀  (H : Heap) (locs : List Loc) (ls : Array Slot), rg (x_9570) 35 62 → GM [391, 392, 393] tg σ I ri I_9604 ri rq → va_P D vwCl (pq_P t σ (I_9604, J, ri, rj, rq)) H → va_D A (pq_P t σ (I_9604, J, ri, rj, rq)) → va_S A s.heap H locs → lv_has ls 3 [(0, .ref this), (1, .int x_9570)] → W p l e ({ frames := 2, cells := 0, slots := 0, locals := 42 } : Room) s m (List.toArray ([.ref this] : List Value)) below meth c H locs 0 0 Q (F0 m 332 ls [.int 1]) := by
                        intro H locs ls h_9924 hG hP hD hS hl
                        have uh_9924 := h_9924.1
                        have vh_9924 := h_9924.2
                        refine lv_istore_n (lv' := [(2, .int 1), (0, .ref this), (1, .int x_9570)]) hx hb dX12_nextToken_332 rfl hl (by decide) rfl (fun ls hl => ?_)
                        refine lv_aload_n hx hb dX12_nextToken_333 rfl (lv_at hl 1 rfl) ?_
                        refine lv_iload_n hx hb dX12_nextToken_334 rfl (lv_at hl 0 rfl) ?_
                        have K_9975 : ∀  (H : Heap) (locs : List Loc) (ls : Array Slot), GM [391, 392, 393] tg σ I ri I_9604 ri rq → va_P D vwCl (pq_P t σ (I_9604, J, ri, rj, rq)) H → va_D A (pq_P t σ (I_9604, J, ri, rj, rq)) → va_S A s.heap H locs → lv_has ls 3 [(0, .ref this), (1, .int x_9570)] → W p l e ({ frames := 2, cells := 0, slots := 0, locals := 42 } : Room) s m (List.toArray ([.ref this] : List Value)) below meth c H locs 0 0 Q (F0 m 343 ls [.int x_9570, .ref this]) := by
                          intro H locs ls hG hP hD hS hl
                          refine pp_i (v := x_9570) (ty := .int) (C := RX12) (T := TX12) (N := 31) hx hb hts (tw_i inlX12) tyX12 tyX12_ok nmX12 hown hK hP hD hS hL_this hK_this (by decide) rfl 9 393 (by decide) (hts _ (tw_c tw_831)) rfl (by decide +kernel) rfl rfl (Nat.le_of_ble_eq_true rfl) (ps_393 _ _ _ _ _) dX12_nextToken_343 (fun I_9976 H locs eI_9976 hP hD hS => ?_)
                          have hG := GM.wI hG 393 rfl eI_9976 (rg_w h_9924 (by decide)) (by decide)
                          have tt_9977 : (I_9976 391 this).toInt = (I_9604 391 this).toInt := by rw [eI_9976, pq_uf _ _ _ (by decide)]
                          have tt_9978 : (I_9976 388 this).toInt = (I_9604 388 this).toInt := by rw [eI_9976, pq_uf _ _ _ (by decide)]
                          have tt_9979 : (I_9976 392 this).toInt = (I_9604 392 this).toInt := by rw [eI_9976, pq_uf _ _ _ (by decide)]
                          refine lv_iload_n hx hb dX12_nextToken_346 rfl (lv_at hl 1 rfl) ?_
                          refine lv_bipush (v := 60) hx hb dX12_nextToken_347 (by decide) ?_
                          have K_10025 : ∀  (H : Heap) (locs : List Loc) (ls : Array Slot), rg (x_9570) 60 62 → GM [391, 392, 393] tg σ I ri I_9976 ri rq → va_P D vwCl (pq_P t σ (I_9976, J, ri, rj, rq)) H → va_D A (pq_P t σ (I_9976, J, ri, rj, rq)) → va_S A s.heap H locs → lv_has ls 3 [(0, .ref this), (1, .int x_9570)] → W p l e ({ frames := 2, cells := 0, slots := 0, locals := 42 } : Room) s m (List.toArray ([.ref this] : List Value)) below meth c H locs 0 0 Q (F0 m 358 ls []) := by
                            intro H locs ls h_10027 hG hP hD hS hl
                            have uh_10027 := h_10027.1
                            have vh_10027 := h_10027.2
                            refine lv_aload_n hx hb dX12_nextToken_358 rfl (lv_at hl 0 rfl) ?_
                            refine lv_aload_n hx hb dX12_nextToken_359 rfl (lv_at hl 0 rfl) ?_
                            refine pg_f (v := .int (I_9976 391 this)) (C := RX12) (T := TX12) (N := 31) hx hb hts (tw_i inlX12) hown hK hP hL_this hK_this (by decide) rfl 7 (by decide) (hts _ (tw_c tw_830)) rfl dX12_nextToken_360 ?_
                            have h_10028 : rg (I_9976 391 this) 1 300 := (by rw [eI_9976, pq_uf _ _ _ (by decide)]; exact (by rw [eI_9604, pq_us]; exact h_9603))
                            have uh_10028 := h_10028.1
                            have vh_10028 := h_10028.2
                            refine pk_i (va_runV (As := [.int (I_9976 391 this)]) (rest := []) ⟨hx, hb, hml, hown, hts⟩ (s_X12_see l D t σ I_9976 J ri rj rq H.size tg hSH hG.1 this (I_9976 391 this) hL_this hK_this (rg_w h_10028 (by decide))) (cwV 1 hts (tw_V tw_839 tw_840 tw_841 tw_5 tw_842) rfl rfl rfl (by decide +kernel) ⟨Nat.le_of_ble_eq_true rfl, Nat.le_of_ble_eq_true rfl⟩) ⟨pq_blind, pq_recv hK hP hL_this hK_this (by decide) rfl, pq_pre hK hN hP hD⟩ rfl rfl hl.1 rfl (lv_room (Nat.le_of_ble_eq_true rfl)) dX12_nextToken_363 ⟨Nat.le_of_ble_eq_true rfl, Nat.le_of_ble_eq_true rfl⟩) hD hS hA (fun x_10029 σ1 μ1 H locs hw_10030 hP hD hS => ?_)
                            obtain ⟨hu_10031, hp_10034, hr_10033⟩ := hw_10030
                            obtain ⟨hu_10031a, hu_10031b⟩ := Prod.mk.inj hu_10031
                            rw [hu_10031a, hu_10031b] at hP hD
                            have tt_10035 := hp_10034
                            have tt_10036 := (GM.rI hG 388 (a := this) (lo := 0) (hi := 300) rfl).2
                            refine lv_bipush (v := 61) hx hb dX12_nextToken_366 (by decide) ?_
                            refine lv_icmp_ne (tgt := 396) hx hb dX12_nextToken_368 (by decide) (fun c_10037 => ?_) (fun c_10037 => ?_)
                            · have tc_10038 : (x_10029).toInt ≠ 61 := fun q => c_10037 (Int32.toInt_inj.mp q)
                              subst hQ
                              exact W.vret hx hb hr (fun t1 ht hW => ⟨⟨(σ, I_9976, J, ri, rj, rq), rfl, ⟨I_9976, J, rfl, hG⟩, by rw [ht]; exact hP, va_K.moved hW.alike hK, hD⟩, hS.F ht⟩) hS.2.2 dX12_nextToken_396
                            · have tc_10039 : (x_10029).toInt = 61 := congrArg Int32.toInt c_10037
                              have h_10040 : rg x_10029 61 61 := rg_and hr_10033 (rg_of_eq c_10037 (rg_k (61 : Int32) 61 rfl)) (by decide)
                              have uh_10040 := h_10040.1
                              have vh_10040 := h_10040.2
                              refine lv_aload_n hx hb dX12_nextToken_371 rfl (lv_at hl 0 rfl) ?_
                              refine lv_dup hx hb dX12_nextToken_372 rfl ?_
                              refine pg_f (v := .int (I_9976 391 this)) (C := RX12) (T := TX12) (N := 31) hx hb hts (tw_i inlX12) hown hK hP hL_this hK_this (by decide) rfl 7 (by decide) (hts _ (tw_c tw_830)) rfl dX12_nextToken_373 ?_
                              refine lv_iconst (v := 1) hx hb dX12_nextToken_376 (by decide) ?_
                              have h_10041 : rg (I_9976 391 this) 0 299 := ⟨by omega, by omega⟩
                              have uh_10041 := h_10041.1
                              have vh_10041 := h_10041.2
                              refine lv_iadd hx hb dX12_nextToken_377 ?_
                              refine lv_topi (fun x_10042 ex_10042 => ?_)
                              have h_10043 : rg x_10042 1 300 := rg_of_eq ex_10042 (rg_add h_10041 (rg_k (1 : Int32) 1 rfl) (by decide))
                              have uh_10043 := h_10043.1
                              have vh_10043 := h_10043.2
                              have tx_10042 : (x_10042).toInt = (I_9976 391 this).toInt + 1 := by rw [ex_10042]; exact i_add_rg (a2 := (I_9976 391 this).toInt) (b2 := 1) rfl rfl h_10041 (rg_k (1 : Int32) 1 rfl) (by decide)
                              refine pp_i (v := x_10042) (ty := .int) (C := RX12) (T := TX12) (N := 31) hx hb hts (tw_i inlX12) tyX12 tyX12_ok nmX12 hown hK hP hD hS hL_this hK_this (by decide) rfl 7 391 (by decide) (hts _ (tw_c tw_830)) rfl (by decide +kernel) rfl rfl (Nat.le_of_ble_eq_true rfl) (ps_391 _ _ _ _ _) dX12_nextToken_378 (fun I_10044 H locs eI_10044 hP hD hS => ?_)
                              have hG := GM.wI hG 391 rfl eI_10044 (rg_w h_10043 (by decide)) (by decide)
                              have tt_10045 : (I_10044 391 this).toInt = (x_10042).toInt := by rw [eI_10044, pq_us]
                              have tt_10046 : (I_10044 388 this).toInt = (I_9976 388 this).toInt := by rw [eI_10044, pq_uf _ _ _ (by decide)]
                              have tt_10047 : (I_10044 392 this).toInt = (I_9976 392 this).toInt := by rw [eI_10044, pq_uf _ _ _ (by decide)]
                              refine lv_aload_n hx hb dX12_nextToken_381 rfl (lv_at hl 0 rfl) ?_
                              refine lv_iload_n hx hb dX12_nextToken_382 rfl (lv_at hl 1 rfl) ?_
                              refine lv_bipush (v := 60) hx hb dX12_nextToken_383 (by decide) ?_
                              have K_10063 : ∀  (H : Heap) (locs : List Loc) (ls : Array Slot), rg (x_9570) 61 62 → GM [391, 392, 393] tg σ I ri I_10044 ri rq → va_P D vwCl (pq_P t σ (I_10044, J, ri, rj, rq)) H → va_D A (pq_P t σ (I_10044, J, ri, rj, rq)) → va_S A s.heap H locs → lv_has ls 3 [] → W p l e ({ frames := 2, cells := 0, slots := 0, locals := 42 } : Room) s m (List.toArray ([.ref this] : List Value)) below meth c H locs 0 0 Q (F0 m 393 ls [.int 5, .ref this]) := by
                                intro H locs ls h_10065 hG hP hD hS hl
                                have uh_10065 := h_10065.1
                                have vh_10065 := h_10065.2
                                refine pp_i (v := 5) (ty := .int) (C := RX12) (T := TX12) (N := 31) hx hb hts (tw_i inlX12) tyX12 tyX12_ok nmX12 hown hK hP hD hS hL_this hK_this (by decide) rfl 9 393 (by decide) (hts _ (tw_c tw_831)) rfl (by decide +kernel) rfl rfl (Nat.le_of_ble_eq_true rfl) (ps_393 _ _ _ _ _) dX12_nextToken_393 (fun I_10066 H locs eI_10066 hP hD hS => ?_)
                                have hG := GM.wI hG 393 rfl eI_10066 (rg_w (rg_k (5 : Int32) 5 rfl) (by decide)) (by decide)
                                have tt_10067 : (I_10066 391 this).toInt = (I_10044 391 this).toInt := by rw [eI_10066, pq_uf _ _ _ (by decide)]
                                have tt_10068 : (I_10066 388 this).toInt = (I_10044 388 this).toInt := by rw [eI_10066, pq_uf _ _ _ (by decide)]
                                have tt_10069 : (I_10066 392 this).toInt = (I_10044 392 this).toInt := by rw [eI_10066, pq_uf _ _ _ (by decide)]
                                subst hQ
                                exact W.vret hx hb hr (fun t1 ht hW => ⟨⟨(σ, I_10066, J, ri, rj, rq), rfl, ⟨I_10066, J, rfl, hG⟩, by rw [ht]; exact hP, va_K.moved hW.alike hK, hD⟩, hS.F ht⟩) hS.2.2 dX12_nextToken_396
                              have K_10070 : ∀  (H : Heap) (locs : List Loc) (ls : Array Slot), rg (x_9570) 60 60 → GM [391, 392, 393] tg σ I ri I_10044 ri rq → va_P D vwCl (pq_P t σ (I_10044, J, ri, rj, rq)) H → va_D A (pq_P t σ (I_10044, J, ri, rj, rq)) → va_S A s.heap H locs → lv_has ls 3 [] → W p l e ({ frames := 2, cells := 0, slots := 0, locals := 42 } : Room) s m (List.toArray ([.ref this] : List Value)) below meth c H locs 0 0 Q (F0 m 393 ls [.int 4, .ref this]) := by
                                intro H locs ls h_10072 hG hP hD hS hl
                                have uh_10072 := h_10072.1
                                have vh_10072 := h_10072.2
                                refine pp_i (v := 4) (ty := .int) (C := RX12) (T := TX12) (N := 31) hx hb hts (tw_i inlX12) tyX12 tyX12_ok nmX12 hown hK hP hD hS hL_this hK_this (by decide) rfl 9 393 (by decide) (hts _ (tw_c tw_831)) rfl (by decide +kernel) rfl rfl (Nat.le_of_ble_eq_true rfl) (ps_393 _ _ _ _ _) dX12_nextToken_393 (fun I_10073 H locs eI_10073 hP hD hS => ?_)
                                have hG := GM.wI hG 393 rfl eI_10073 (rg_w (rg_k (4 : Int32) 4 rfl) (by decide)) (by decide)
                                have tt_10074 : (I_10073 391 this).toInt = (I_10044 391 this).toInt := by rw [eI_10073, pq_uf _ _ _ (by decide)]
                                have tt_10075 : (I_10073 388 this).toInt = (I_10044 388 this).toInt := by rw [eI_10073, pq_uf _ _ _ (by decide)]
                                have tt_10076 : (I_10073 392 this).toInt = (I_10044 392 this).toInt := by rw [eI_10073, pq_uf _ _ _ (by decide)]
                                subst hQ
                                exact W.vret hx hb hr (fun t1 ht hW => ⟨⟨(σ, I_10073, J, ri, rj, rq), rfl, ⟨I_10073, J, rfl, hG⟩, by rw [ht]; exact hP, va_K.moved hW.alike hK, hD⟩, hS.F ht⟩) hS.2.2 dX12_nextToken_396
                              refine lv_icmp_ne (tgt := 392) hx hb dX12_nextToken_385 (by decide) (fun c_10077 => ?_) (fun c_10077 => ?_)
                              · have tc_10078 : (x_9570).toInt ≠ 60 := fun q => c_10077 (Int32.toInt_inj.mp q)
                                have h_10079 : rg x_9570 61 62 := rg_ne c_10077 h_10027 60 rfl (by decide)
                                have uh_10079 := h_10079.1
                                have vh_10079 := h_10079.2
                                refine lv_iconst (v := 5) hx hb dX12_nextToken_392 (by decide) ?_
                                exact K_10063 _ _ _ (rg_w h_10079 (by decide)) hG hP hD hS (lv_sub hl [] rfl)
                              · have tc_10080 : (x_9570).toInt = 60 := congrArg Int32.toInt c_10077
                                have h_10081 : rg x_9570 60 60 := rg_and h_10027 (rg_of_eq c_10077 (rg_k (60 : Int32) 60 rfl)) (by decide)
                                have uh_10081 := h_10081.1
                                have vh_10081 := h_10081.2
                                refine lv_iconst (v := 4) hx hb dX12_nextToken_388 (by decide) ?_
                                refine lv_goto (tgt := 393) hx hb dX12_nextToken_389 (by decide) ?_
                                exact K_10070 _ _ _ (rg_w h_10081 (by decide)) hG hP hD hS (lv_sub hl [] rfl)
                          refine lv_icmp_eq (tgt := 358) hx hb dX12_nextToken_349 (by decide) (fun c_10082 => ?_) (fun c_10082 => ?_)
                          · have tc_10083 : (x_9570).toInt = 60 := congrArg Int32.toInt c_10082
                            have h_10084 : rg x_9570 60 60 := rg_and h_9924 (rg_of_eq c_10082 (rg_k (60 : Int32) 60 rfl)) (by decide)
                            have uh_10084 := h_10084.1
                            have vh_10084 := h_10084.2
                            exact K_10025 _ _ _ (rg_w h_10084 (by decide)) hG hP hD hS (lv_sub hl [0, 1] rfl)
                          · have tc_10085 : (x_9570).toInt ≠ 60 := fun q => c_10082 (Int32.toInt_inj.mp q)
                            refine lv_iload_n hx hb dX12_nextToken_352 rfl (lv_at hl 1 rfl) ?_
                            refine lv_bipush (v := 62) hx hb dX12_nextToken_353 (by decide) ?_
                            refine lv_icmp_ne (tgt := 396) hx hb dX12_nextToken_355 (by decide) (fun c_10086 => ?_) (fun c_10086 => ?_)
                            · have tc_10087 : (x_9570).toInt ≠ 62 := fun q => c_10086 (Int32.toInt_inj.mp q)
                              have h_10088 : rg x_9570 35 61 := rg_ne c_10086 h_9924 62 rfl (by decide)
                              have uh_10088 := h_10088.1
                              have vh_10088 := h_10088.2
                              subst hQ
                              exact W.vret hx hb hr (fun t1 ht hW => ⟨⟨(σ, I_9976, J, ri, rj, rq), rfl, ⟨I_9976, J, rfl, hG⟩, by rw [ht]; exact hP, va_K.moved hW.alike hK, hD⟩, hS.F ht⟩) hS.2.2 dX12_nextToken_396
                            · have tc_10089 : (x_9570).toInt = 62 := congrArg Int32.toInt c_10086
                              have h_10090 : rg x_9570 62 62 := rg_and h_9924 (rg_of_eq c_10086 (rg_k (62 : Int32) 62 rfl)) (by decide)
                              have uh_10090 := h_10090.1
                              have vh_10090 := h_10090.2
                              exact K_10025 _ _ _ (rg_w h_10090 (by decide)) hG hP hD hS (lv_sub hl [0, 1] rfl)
                        refine lv_if_eq (tgt := 342) hx hb dX12_nextToken_335 (by decide) (fun c_10091 => absurd c_10091 (by decide)) (fun c_10091 => ?_)
                        refine lv_iload_n hx hb dX12_nextToken_338 rfl (lv_at hl 2 rfl) ?_
                        refine lv_goto (tgt := 343) hx hb dX12_nextToken_339 (by decide) ?_
                        exact K_9975 _ _ _ hG hP hD hS (lv_sub hl [1, 2] rfl)
                      have K_10092 : ∀  (H : Heap) (locs : List Loc) (ls : Array Slot), rg (x_9570) 35 62 → GM [391, 392, 393] tg σ I ri I_9604 ri rq → va_P D vwCl (pq_P t σ (I_9604, J, ri, rj, rq)) H → va_D A (pq_P t σ (I_9604, J, ri, rj, rq)) → va_S A s.heap H locs → lv_has ls 3 [(0, .ref this), (1, .int x_9570)] → W p l e ({ frames := 2, cells := 0, slots := 0, locals := 42 } : Room) s m (List.toArray ([.ref this] : List Value)) below meth c H locs 0 0 Q (F0 m 327 ls []) := by
                        intro H locs ls h_10094 hG hP hD hS hl
                        have uh_10094 := h_10094.1
                        have vh_10094 := h_10094.2
                        refine lv_iconst (v := 1) hx hb dX12_nextToken_327 (by decide) ?_
                        refine lv_goto (tgt := 332) hx hb dX12_nextToken_328 (by decide) ?_
                        exact K_9922 _ _ _ (rg_w h_10094 (by decide)) hG hP hD hS (lv_sub hl [0, 1] rfl)
                      refine lv_icmp_eq (tgt := 327) hx hb dX12_nextToken_258 (by decide) (fun c_10095 => ?_) (fun c_10095 => ?_)
                      · have tc_10096 : (x_9570).toInt = 60 := congrArg Int32.toInt c_10095
                        have h_10097 : rg x_9570 60 60 := rg_and h_9580 (rg_of_eq c_10095 (rg_k (60 : Int32) 60 rfl)) (by decide)
                        have uh_10097 := h_10097.1
                        have vh_10097 := h_10097.2
                        exact K_10092 _ _ _ (rg_w h_10097 (by decide)) hG hP hD hS (lv_sub hl [1, 0] rfl)
                      · have tc_10098 : (x_9570).toInt ≠ 60 := fun q => c_10095 (Int32.toInt_inj.mp q)
                        refine lv_iload_n hx hb dX12_nextToken_261 rfl (lv_at hl 0 rfl) ?_
                        refine lv_bipush (v := 62) hx hb dX12_nextToken_262 (by decide) ?_
                        refine lv_icmp_eq (tgt := 327) hx hb dX12_nextToken_264 (by decide) (fun c_10099 => ?_) (fun c_10099 => ?_)
                        · have tc_10100 : (x_9570).toInt = 62 := congrArg Int32.toInt c_10099
                          have h_10101 : rg x_9570 62 62 := rg_and h_9580 (rg_of_eq c_10099 (rg_k (62 : Int32) 62 rfl)) (by decide)
                          have uh_10101 := h_10101.1
                          have vh_10101 := h_10101.2
                          exact K_10092 _ _ _ (rg_w h_10101 (by decide)) hG hP hD hS (lv_sub hl [1, 0] rfl)
                        · have tc_10102 : (x_9570).toInt ≠ 62 := fun q => c_10099 (Int32.toInt_inj.mp q)
                          refine lv_iload_n hx hb dX12_nextToken_267 rfl (lv_at hl 0 rfl) ?_
                          refine lv_bipush (v := 61) hx hb dX12_nextToken_268 (by decide) ?_
                          refine lv_icmp_eq (tgt := 327) hx hb dX12_nextToken_270 (by decide) (fun c_10103 => ?_) (fun c_10103 => ?_)
                          · have tc_10104 : (x_9570).toInt = 61 := congrArg Int32.toInt c_10103
                            have h_10105 : rg x_9570 61 61 := rg_and h_9580 (rg_of_eq c_10103 (rg_k (61 : Int32) 61 rfl)) (by decide)
                            have uh_10105 := h_10105.1
                            have vh_10105 := h_10105.2
                            exact K_10092 _ _ _ (rg_w h_10105 (by decide)) hG hP hD hS (lv_sub hl [1, 0] rfl)
                          · have tc_10106 : (x_9570).toInt ≠ 61 := fun q => c_10103 (Int32.toInt_inj.mp q)
                            refine lv_iload_n hx hb dX12_nextToken_273 rfl (lv_at hl 0 rfl) ?_
                            refine lv_bipush (v := 35) hx hb dX12_nextToken_274 (by decide) ?_
                            refine lv_icmp_eq (tgt := 327) hx hb dX12_nextToken_276 (by decide) (fun c_10107 => ?_) (fun c_10107 => ?_)
                            · have tc_10108 : (x_9570).toInt = 35 := congrArg Int32.toInt c_10107
                              have h_10109 : rg x_9570 35 35 := rg_and h_9580 (rg_of_eq c_10107 (rg_k (35 : Int32) 35 rfl)) (by decide)
                              have uh_10109 := h_10109.1
                              have vh_10109 := h_10109.2
                              exact K_10092 _ _ _ (rg_w h_10109 (by decide)) hG hP hD hS (lv_sub hl [1, 0] rfl)
                            · have tc_10110 : (x_9570).toInt ≠ 35 := fun q => c_10107 (Int32.toInt_inj.mp q)
                              refine lv_iload_n hx hb dX12_nextToken_279 rfl (lv_at hl 0 rfl) ?_
                              refine lv_bipush (v := 43) hx hb dX12_nextToken_280 (by decide) ?_
                              refine lv_icmp_eq (tgt := 327) hx hb dX12_nextToken_282 (by decide) (fun c_10111 => ?_) (fun c_10111 => ?_)
                              · have tc_10112 : (x_9570).toInt = 43 := congrArg Int32.toInt c_10111
                                have h_10113 : rg x_9570 43 43 := rg_and h_9580 (rg_of_eq c_10111 (rg_k (43 : Int32) 43 rfl)) (by decide)
                                have uh_10113 := h_10113.1
                                have vh_10113 := h_10113.2
                                exact K_10092 _ _ _ (rg_w h_10113 (by decide)) hG hP hD hS (lv_sub hl [1, 0] rfl)
                              · have tc_10114 : (x_9570).toInt ≠ 43 := fun q => c_10111 (Int32.toInt_inj.mp q)
                                refine lv_iload_n hx hb dX12_nextToken_285 rfl (lv_at hl 0 rfl) ?_
                                refine lv_bipush (v := 45) hx hb dX12_nextToken_286 (by decide) ?_
                                refine lv_icmp_eq (tgt := 327) hx hb dX12_nextToken_288 (by decide) (fun c_10115 => ?_) (fun c_10115 => ?_)
                                · have tc_10116 : (x_9570).toInt = 45 := congrArg Int32.toInt c_10115
                                  have h_10117 : rg x_9570 45 45 := rg_and h_9580 (rg_of_eq c_10115 (rg_k (45 : Int32) 45 rfl)) (by decide)
                                  have uh_10117 := h_10117.1
                                  have vh_10117 := h_10117.2
                                  exact K_10092 _ _ _ (rg_w h_10117 (by decide)) hG hP hD hS (lv_sub hl [1, 0] rfl)
                                · have tc_10118 : (x_9570).toInt ≠ 45 := fun q => c_10115 (Int32.toInt_inj.mp q)
                                  refine lv_iload_n hx hb dX12_nextToken_291 rfl (lv_at hl 0 rfl) ?_
                                  refine lv_bipush (v := 42) hx hb dX12_nextToken_292 (by decide) ?_
                                  refine lv_icmp_eq (tgt := 327) hx hb dX12_nextToken_294 (by decide) (fun c_10119 => ?_) (fun c_10119 => ?_)
                                  · have tc_10120 : (x_9570).toInt = 42 := congrArg Int32.toInt c_10119
                                    have h_10121 : rg x_9570 42 42 := rg_and h_9580 (rg_of_eq c_10119 (rg_k (42 : Int32) 42 rfl)) (by decide)
                                    have uh_10121 := h_10121.1
                                    have vh_10121 := h_10121.2
                                    exact K_10092 _ _ _ (rg_w h_10121 (by decide)) hG hP hD hS (lv_sub hl [1, 0] rfl)
                                  · have tc_10122 : (x_9570).toInt ≠ 42 := fun q => c_10119 (Int32.toInt_inj.mp q)
                                    refine lv_iload_n hx hb dX12_nextToken_297 rfl (lv_at hl 0 rfl) ?_
                                    refine lv_bipush (v := 47) hx hb dX12_nextToken_298 (by decide) ?_
                                    refine lv_icmp_eq (tgt := 327) hx hb dX12_nextToken_300 (by decide) (fun c_10123 => ?_) (fun c_10123 => ?_)
                                    · have tc_10124 : (x_9570).toInt = 47 := congrArg Int32.toInt c_10123
                                      have h_10125 : rg x_9570 47 47 := rg_and h_9580 (rg_of_eq c_10123 (rg_k (47 : Int32) 47 rfl)) (by decide)
                                      have uh_10125 := h_10125.1
                                      have vh_10125 := h_10125.2
                                      exact K_10092 _ _ _ (rg_w h_10125 (by decide)) hG hP hD hS (lv_sub hl [1, 0] rfl)
                                    · have tc_10126 : (x_9570).toInt ≠ 47 := fun q => c_10123 (Int32.toInt_inj.mp q)
                                      refine lv_iload_n hx hb dX12_nextToken_303 rfl (lv_at hl 0 rfl) ?_
                                      refine lv_bipush (v := 40) hx hb dX12_nextToken_304 (by decide) ?_
                                      refine lv_icmp_eq (tgt := 327) hx hb dX12_nextToken_306 (by decide) (fun c_10127 => ?_) (fun c_10127 => ?_)
                                      · have tc_10128 : (x_9570).toInt = 40 := congrArg Int32.toInt c_10127
                                        have h_10129 : rg x_9570 40 40 := rg_and h_9580 (rg_of_eq c_10127 (rg_k (40 : Int32) 40 rfl)) (by decide)
                                        have uh_10129 := h_10129.1
                                        have vh_10129 := h_10129.2
                                        exact K_10092 _ _ _ (rg_w h_10129 (by decide)) hG hP hD hS (lv_sub hl [1, 0] rfl)
                                      · have tc_10130 : (x_9570).toInt ≠ 40 := fun q => c_10127 (Int32.toInt_inj.mp q)
                                        refine lv_iload_n hx hb dX12_nextToken_309 rfl (lv_at hl 0 rfl) ?_
                                        refine lv_bipush (v := 41) hx hb dX12_nextToken_310 (by decide) ?_
                                        refine lv_icmp_eq (tgt := 327) hx hb dX12_nextToken_312 (by decide) (fun c_10131 => ?_) (fun c_10131 => ?_)
                                        · have tc_10132 : (x_9570).toInt = 41 := congrArg Int32.toInt c_10131
                                          have h_10133 : rg x_9570 41 41 := rg_and h_9580 (rg_of_eq c_10131 (rg_k (41 : Int32) 41 rfl)) (by decide)
                                          have uh_10133 := h_10133.1
                                          have vh_10133 := h_10133.2
                                          exact K_10092 _ _ _ (rg_w h_10133 (by decide)) hG hP hD hS (lv_sub hl [1, 0] rfl)
                                        · have tc_10134 : (x_9570).toInt ≠ 41 := fun q => c_10131 (Int32.toInt_inj.mp q)
                                          refine lv_iload_n hx hb dX12_nextToken_315 rfl (lv_at hl 0 rfl) ?_
                                          refine lv_bipush (v := 44) hx hb dX12_nextToken_316 (by decide) ?_
                                          refine lv_icmp_eq (tgt := 327) hx hb dX12_nextToken_318 (by decide) (fun c_10135 => ?_) (fun c_10135 => ?_)
                                          · have tc_10136 : (x_9570).toInt = 44 := congrArg Int32.toInt c_10135
                                            have h_10137 : rg x_9570 44 44 := rg_and h_9580 (rg_of_eq c_10135 (rg_k (44 : Int32) 44 rfl)) (by decide)
                                            have uh_10137 := h_10137.1
                                            have vh_10137 := h_10137.2
                                            exact K_10092 _ _ _ (rg_w h_10137 (by decide)) hG hP hD hS (lv_sub hl [1, 0] rfl)
                                          · have tc_10138 : (x_9570).toInt ≠ 44 := fun q => c_10135 (Int32.toInt_inj.mp q)
                                            refine lv_iload_n hx hb dX12_nextToken_321 rfl (lv_at hl 0 rfl) ?_
                                            refine lv_bipush (v := 59) hx hb dX12_nextToken_322 (by decide) ?_
                                            refine lv_icmp_ne (tgt := 331) hx hb dX12_nextToken_324 (by decide) (fun c_10139 => ?_) (fun c_10139 => ?_)
                                            · have tc_10140 : (x_9570).toInt ≠ 59 := fun q => c_10139 (Int32.toInt_inj.mp q)
                                              refine lv_iconst (v := 0) hx hb dX12_nextToken_331 (by decide) ?_
                                              exact K_9757 _ _ _ hG hP hD hS (lv_sub hl [1, 0] rfl)
                                            · have tc_10141 : (x_9570).toInt = 59 := congrArg Int32.toInt c_10139
                                              have h_10142 : rg x_9570 59 59 := rg_and h_9580 (rg_of_eq c_10139 (rg_k (59 : Int32) 59 rfl)) (by decide)
                                              have uh_10142 := h_10142.1
                                              have vh_10142 := h_10142.2
                                              exact K_10092 _ _ _ (rg_w h_10142 (by decide)) hG hP hD hS (lv_sub hl [1, 0] rfl)
                    · have f_10143 := (hr_9595.resolve_right (fun q => c_9597 q.1)).2
                      have uf_10143 := f_10143.1
                      have vf_10143 := f_10143.2
                      have tc_10144 : (x_9591).toInt ≠ 0 := fun q => c_9597 (Int32.toInt_inj.mp q)
                      have h_10145 : rg x_9591 1 1 := rg_ne c_9597 h_9596 0 rfl (by decide)
                      have uh_10145 := h_10145.1
                      have vh_10145 := h_10145.2
                      refine lv_aload_n hx hb dX12_nextToken_151 rfl (lv_at hl 1 rfl) ?_
                      refine lv_iconst (v := 2) hx hb dX12_nextToken_152 (by decide) ?_
                      refine pp_i (v := 2) (ty := .int) (C := RX12) (T := TX12) (N := 31) hx hb hts (tw_i inlX12) tyX12 tyX12_ok nmX12 hown hK hP hD hS hL_this hK_this (by decide) rfl 9 393 (by decide) (hts _ (tw_c tw_831)) rfl (by decide +kernel) rfl rfl (Nat.le_of_ble_eq_true rfl) (ps_393 _ _ _ _ _) dX12_nextToken_153 (fun I_10146 H locs eI_10146 hP hD hS => ?_)
                      have hG := GM.wI hG 393 rfl eI_10146 (rg_w (rg_k (2 : Int32) 2 rfl) (by decide)) (by decide)
                      have tt_10147 : (I_10146 391 this).toInt = (I_9565 391 this).toInt := by rw [eI_10146, pq_uf _ _ _ (by decide)]
                      have tt_10148 : (I_10146 388 this).toInt = (I_9565 388 this).toInt := by rw [eI_10146, pq_uf _ _ _ (by decide)]
                      have tt_10149 : (I_10146 392 this).toInt = (I_9565 392 this).toInt := by rw [eI_10146, pq_uf _ _ _ (by decide)]
                      refine lv_aload_n hx hb dX12_nextToken_156 rfl (lv_at hl 1 rfl) ?_
                      refine lv_lconst (v := 0) hx hb dX12_nextToken_157 (by decide) ?_
                      refine pp_l (v := 0) (C := RX12) (T := TX12) (N := 31) hx hb hts (tw_i inlX12) tyX12 tyX12_ok nmX12 hown hK hP hD hS hL_this hK_this (by decide) rfl 11 395 (by decide) (hts _ (tw_c tw_838)) rfl (by decide +kernel) (Nat.le_of_ble_eq_true rfl) (ps_395 _ _ _ _ _) dX12_nextToken_158 (fun J_10150 H locs eJ_10150 hP hD hS => ?_)
                      have L_10419 : ∀ (n_10418 : Nat) (I_10350 : Nat → Nat → Int32) (J_10351 : Nat → Nat → Int64) (H : Heap) (locs : List Loc) (ls : Array Slot), (300 - (I_10350 391 this).toInt).toNat < n_10418 → GM [391, 392, 393] tg σ I ri I_10350 ri rq → va_P D vwCl (pq_P t σ (I_10350, J_10351, ri, rj, rq)) H → va_D A (pq_P t σ (I_10350, J_10351, ri, rj, rq)) → va_S A s.heap H locs → lv_has ls 3 [(0, .ref this)] → W p l e ({ frames := 2, cells := 0, slots := 0, locals := 42 } : Room) s m (List.toArray ([.ref this] : List Value)) below meth c H locs 0 0 Q (F0 m 161 ls []) := by
                        intro n_10418
                        induction n_10418 with
                        | zero => intro I_10350 J_10351 H locs ls hm_10417 hG hP hD hS hl; exact absurd hm_10417 (Nat.not_lt_zero _)
                        | succ n_10418 ih_10420 =>
                          intro I_10350 J_10351 H locs ls hm_10417 hG hP hD hS hl
                          refine lv_aload_n hx hb dX12_nextToken_161 rfl (lv_at hl 0 rfl) ?_
                          refine lv_aload_n hx hb dX12_nextToken_162 rfl (lv_at hl 0 rfl) ?_
                          refine pg_f (v := .int (I_10350 391 this)) (C := RX12) (T := TX12) (N := 31) hx hb hts (tw_i inlX12) hown hK hP hL_this hK_this (by decide) rfl 7 (by decide) (hts _ (tw_c tw_830)) rfl dX12_nextToken_163 ?_
                          have h_10421 : rg (I_10350 391 this) 0 300 := GM.rI hG 391 rfl
                          have uh_10421 := h_10421.1
                          have vh_10421 := h_10421.2
                          refine pk_i (va_runV (As := [.int (I_10350 391 this)]) (rest := []) ⟨hx, hb, hml, hown, hts⟩ (s_X12_see l D t σ I_10350 J_10351 ri rj rq H.size tg hSH hG.1 this (I_10350 391 this) hL_this hK_this (rg_w h_10421 (by decide))) (cwV 1 hts (tw_V tw_839 tw_840 tw_841 tw_5 tw_842) rfl rfl rfl (by decide +kernel) ⟨Nat.le_of_ble_eq_true rfl, Nat.le_of_ble_eq_true rfl⟩) ⟨pq_blind, pq_recv hK hP hL_this hK_this (by decide) rfl, pq_pre hK hN hP hD⟩ rfl rfl hl.1 rfl (lv_room (Nat.le_of_ble_eq_true rfl)) dX12_nextToken_166 ⟨Nat.le_of_ble_eq_true rfl, Nat.le_of_ble_eq_true rfl⟩) hD hS hA (fun x_10422 σ1 μ1 H locs hw_10423 hP hD hS => ?_)
                          obtain ⟨hu_10424, hp_10427, hr_10426⟩ := hw_10423
                          obtain ⟨hu_10424a, hu_10424b⟩ := Prod.mk.inj hu_10424
                          rw [hu_10424a, hu_10424b] at hP hD
                          have tt_10428 := hp_10427
                          have tt_10429 := (GM.rI hG 388 (a := this) (lo := 0) (hi := 300) rfl).2
                          refine pk_i (va_runS (As := [.int x_10422]) (rest := []) ⟨hx, hb, hml, hown, hts⟩ (s_X12_isLetter l D t σ I_10350 J_10351 ri rj rq H.size tg hSH hG.1 x_10422) (va_cwS 1 hts (tw_S tw_846 tw_847 tw_5 tw_848) rfl rfl rfl (by decide +kernel) ⟨Nat.le_of_ble_eq_true rfl, Nat.le_of_ble_eq_true rfl⟩) ⟨pq_blind, pq_pre hK hN hP hD⟩ rfl rfl hl.1 rfl (lv_room (Nat.le_of_ble_eq_true rfl)) dX12_nextToken_169 ⟨Nat.le_of_ble_eq_true rfl, Nat.le_of_ble_eq_true rfl⟩) hD hS hA (fun x_10430 σ1 μ1 H locs hw_10431 hP hD hS => ?_)
                          obtain ⟨hu_10432, hr_10434⟩ := hw_10431
                          obtain ⟨hu_10432a, hu_10432b⟩ := Prod.mk.inj hu_10432
                          rw [hu_10432a, hu_10432b] at hP hD
                          have h_10435 : rg x_10430 0 1 := by rcases hr_10434 with ⟨q, -⟩ | ⟨q, -⟩ <;> rw [q] <;> exact ⟨by decide, by decide⟩
                          have uh_10435 := h_10435.1
                          have vh_10435 := h_10435.2
                          refine lv_if_eq (tgt := 223) hx hb dX12_nextToken_172 (by decide) (fun c_10436 => ?_) (fun c_10436 => ?_)
                          · have f_10437 := (hr_10434.resolve_left (fun q => absurd (q.1.symm.trans c_10436) (by decide))).2
                            have tc_10438 : (x_10430).toInt = 0 := congrArg Int32.toInt c_10436
                            have h_10439 : rg x_10430 0 0 := rg_and h_10435 (rg_of_eq c_10436 (rg_k (0 : Int32) 0 rfl)) (by decide)
                            have uh_10439 := h_10439.1
                            have vh_10439 := h_10439.2
                            refine lv_aload_n hx hb dX12_nextToken_223 rfl (lv_at hl 0 rfl) ?_
                            refine pg_f (v := .int (I_10350 391 this)) (C := RX12) (T := TX12) (N := 31) hx hb hts (tw_i inlX12) hown hK hP hL_this hK_this (by decide) rfl 7 (by decide) (hts _ (tw_c tw_830)) rfl dX12_nextToken_224 ?_
                            refine lv_aload_n hx hb dX12_nextToken_227 rfl (lv_at hl 0 rfl) ?_
                            refine pg_f (v := .int (I_10350 392 this)) (C := RX12) (T := TX12) (N := 31) hx hb hts (tw_i inlX12) hown hK hP hL_this hK_this (by decide) rfl 8 (by decide) (hts _ (tw_c tw_820)) rfl dX12_nextToken_228 ?_
                            have h_10440 : rg (I_10350 392 this) 0 300 := GM.rI hG 392 rfl
                            have uh_10440 := h_10440.1
                            have vh_10440 := h_10440.2
                            refine lv_isub hx hb dX12_nextToken_231 ?_
                            refine lv_topi (fun x_10441 ex_10441 => ?_)
                            have h_10442 : rg x_10441 (-300) 300 := rg_of_eq ex_10441 (rg_sub h_10421 h_10440 (by decide))
                            have uh_10442 := h_10442.1
                            have vh_10442 := h_10442.2
                            have tx_10441 : (x_10441).toInt = (I_10350 391 this).toInt - (I_10350 392 this).toInt := by rw [ex_10441]; exact i_sub_rg (a2 := (I_10350 391 this).toInt) (b2 := (I_10350 392 this).toInt) rfl rfl h_10421 h_10440 (by decide)
                            refine lv_bipush (v := 7) hx hb dX12_nextToken_232 (by decide) ?_
                            refine lv_icmp_le (tgt := 396) hx hb dX12_nextToken_234 (by decide) (fun c_10443 => ?_) (fun c_10443 => ?_)
                            · have tc_10444 : (x_10441).toInt ≤ 7 := Int32.le_iff_toInt_le.mp c_10443
                              have h_10445 : rg x_10441 (-300) 7 := rg_le1 c_10443 h_10442 (rg_k (7 : Int32) 7 rfl) (by decide)
                              have uh_10445 := h_10445.1
                              have vh_10445 := h_10445.2
                              subst hQ
                              exact W.vret hx hb hr (fun t1 ht hW => ⟨⟨(σ, I_10350, J_10351, ri, rj, rq), rfl, ⟨I_10350, J_10351, rfl, hG⟩, by rw [ht]; exact hP, va_K.moved hW.alike hK, hD⟩, hS.F ht⟩) hS.2.2 dX12_nextToken_396
                            · have tc_10446 : 7 < (x_10441).toInt := Int32.lt_iff_toInt_lt.mp (nle c_10443)
                              have h_10447 : rg x_10441 8 300 := rg_lt2 (nle c_10443) (rg_k (7 : Int32) 7 rfl) h_10442 (by decide)
                              have uh_10447 := h_10447.1
                              have vh_10447 := h_10447.2
                              refine lv_aload_n hx hb dX12_nextToken_237 rfl (lv_at hl 0 rfl) ?_
                              refine lv_lconst (v := 0) hx hb dX12_nextToken_238 (by decide) ?_
                              refine pp_l (v := 0) (C := RX12) (T := TX12) (N := 31) hx hb hts (tw_i inlX12) tyX12 tyX12_ok nmX12 hown hK hP hD hS hL_this hK_this (by decide) rfl 11 395 (by decide) (hts _ (tw_c tw_838)) rfl (by decide +kernel) (Nat.le_of_ble_eq_true rfl) (ps_395 _ _ _ _ _) dX12_nextToken_239 (fun J_10448 H locs eJ_10448 hP hD hS => ?_)
                              refine lv_goto (tgt := 396) hx hb dX12_nextToken_242 (by decide) ?_
                              subst hQ
                              exact W.vret hx hb hr (fun t1 ht hW => ⟨⟨(σ, I_10350, J_10448, ri, rj, rq), rfl, ⟨I_10350, J_10448, rfl, hG⟩, by rw [ht]; exact hP, va_K.moved hW.alike hK, hD⟩, hS.F ht⟩) hS.2.2 dX12_nextToken_396
                          · have f_10449 := (hr_10434.resolve_right (fun q => c_10436 q.1)).2
                            have uf_10449 := f_10449.1
                            have vf_10449 := f_10449.2
                            have tc_10450 : (x_10430).toInt ≠ 0 := fun q => c_10436 (Int32.toInt_inj.mp q)
                            have h_10451 : rg x_10430 1 1 := rg_ne c_10436 h_10435 0 rfl (by decide)
                            have uh_10451 := h_10451.1
                            have vh_10451 := h_10451.2
                            refine lv_aload_n hx hb dX12_nextToken_175 rfl (lv_at hl 0 rfl) ?_
                            refine pg_f (v := .int (I_10350 391 this)) (C := RX12) (T := TX12) (N := 31) hx hb hts (tw_i inlX12) hown hK hP hL_this hK_this (by decide) rfl 7 (by decide) (hts _ (tw_c tw_830)) rfl dX12_nextToken_176 ?_
                            refine lv_aload_n hx hb dX12_nextToken_179 rfl (lv_at hl 0 rfl) ?_
                            refine pg_f (v := .int (I_10350 392 this)) (C := RX12) (T := TX12) (N := 31) hx hb hts (tw_i inlX12) hown hK hP hL_this hK_this (by decide) rfl 8 (by decide) (hts _ (tw_c tw_820)) rfl dX12_nextToken_180 ?_
                            have h_10452 : rg (I_10350 392 this) 0 300 := GM.rI hG 392 rfl
                            have uh_10452 := h_10452.1
                            have vh_10452 := h_10452.2
                            refine lv_isub hx hb dX12_nextToken_183 ?_
                            refine lv_topi (fun x_10453 ex_10453 => ?_)
                            have h_10454 : rg x_10453 (-300) 300 := rg_of_eq ex_10453 (rg_sub h_10421 h_10452 (by decide))
                            have uh_10454 := h_10454.1
                            have vh_10454 := h_10454.2
                            have tx_10453 : (x_10453).toInt = (I_10350 391 this).toInt - (I_10350 392 this).toInt := by rw [ex_10453]; exact i_sub_rg (a2 := (I_10350 391 this).toInt) (b2 := (I_10350 392 this).toInt) rfl rfl h_10421 h_10452 (by decide)
                            refine lv_bipush (v := 7) hx hb dX12_nextToken_184 (by decide) ?_
                            refine lv_icmp_ge (tgt := 210) hx hb dX12_nextToken_186 (by decide) (fun c_10455 => ?_) (fun c_10455 => ?_)
                            · have tc_10456 : 7 ≤ (x_10453).toInt := Int32.le_iff_toInt_le.mp c_10455
                              have h_10457 : rg x_10453 7 300 := rg_le2 c_10455 (rg_k (7 : Int32) 7 rfl) h_10454 (by decide)
                              have uh_10457 := h_10457.1
                              have vh_10457 := h_10457.2
                              refine lv_aload_n hx hb dX12_nextToken_210 rfl (lv_at hl 0 rfl) ?_
                              refine lv_dup hx hb dX12_nextToken_211 rfl ?_
                              refine pg_f (v := .int (I_10350 391 this)) (C := RX12) (T := TX12) (N := 31) hx hb hts (tw_i inlX12) hown hK hP hL_this hK_this (by decide) rfl 7 (by decide) (hts _ (tw_c tw_830)) rfl dX12_nextToken_212 ?_
                              refine lv_iconst (v := 1) hx hb dX12_nextToken_215 (by decide) ?_
                              have h_10458 : rg (I_10350 391 this) 0 299 := ⟨by omega, by omega⟩
                              have uh_10458 := h_10458.1
                              have vh_10458 := h_10458.2
                              refine lv_iadd hx hb dX12_nextToken_216 ?_
                              refine lv_topi (fun x_10459 ex_10459 => ?_)
                              have h_10460 : rg x_10459 1 300 := rg_of_eq ex_10459 (rg_add h_10458 (rg_k (1 : Int32) 1 rfl) (by decide))
                              have uh_10460 := h_10460.1
                              have vh_10460 := h_10460.2
                              have tx_10459 : (x_10459).toInt = (I_10350 391 this).toInt + 1 := by rw [ex_10459]; exact i_add_rg (a2 := (I_10350 391 this).toInt) (b2 := 1) rfl rfl h_10458 (rg_k (1 : Int32) 1 rfl) (by decide)
                              refine pp_i (v := x_10459) (ty := .int) (C := RX12) (T := TX12) (N := 31) hx hb hts (tw_i inlX12) tyX12 tyX12_ok nmX12 hown hK hP hD hS hL_this hK_this (by decide) rfl 7 391 (by decide) (hts _ (tw_c tw_830)) rfl (by decide +kernel) rfl rfl (Nat.le_of_ble_eq_true rfl) (ps_391 _ _ _ _ _) dX12_nextToken_217 (fun I_10461 H locs eI_10461 hP hD hS => ?_)
                              have hG := GM.wI hG 391 rfl eI_10461 (rg_w h_10460 (by decide)) (by decide)
                              have tt_10462 : (I_10461 391 this).toInt = (x_10459).toInt := by rw [eI_10461, pq_us]
                              have tt_10463 : (I_10461 388 this).toInt = (I_10350 388 this).toInt := by rw [eI_10461, pq_uf _ _ _ (by decide)]
                              have tt_10464 : (I_10461 392 this).toInt = (I_10350 392 this).toInt := by rw [eI_10461, pq_uf _ _ _ (by decide)]
                              refine lv_goto (tgt := 161) hx hb dX12_nextToken_220 (by decide) ?_
                              exact ih_10420 I_10461 J_10351 _ _ _ (ms_fu_iadd hm_10417 (by rw [eI_10461]; exact pq_us _ _ _ _) ex_10459 rfl (kk := 1) rfl (by decide) h_10458 (by decide) (by decide)) hG hP hD hS (lv_sub hl [0] rfl)
                            · have tc_10465 : (x_10453).toInt < 7 := Int32.lt_iff_toInt_lt.mp (nle c_10455)
                              have h_10466 : rg x_10453 (-300) 6 := rg_lt1 (nle c_10455) h_10454 (rg_k (7 : Int32) 7 rfl) (by decide)
                              have uh_10466 := h_10466.1
                              have vh_10466 := h_10466.2
                              refine lv_aload_n hx hb dX12_nextToken_189 rfl (lv_at hl 0 rfl) ?_
                              refine lv_aload_n hx hb dX12_nextToken_190 rfl (lv_at hl 0 rfl) ?_
                              refine pg_f (v := .long (J_10351 395 this)) (C := RX12) (T := TX12) (N := 31) hx hb hts (tw_i inlX12) hown hK hP hL_this hK_this (by decide) rfl 11 (by decide) (hts _ (tw_c tw_838)) rfl dX12_nextToken_191 ?_
                              refine lv_bipush (v := 8) hx hb dX12_nextToken_194 (by decide) ?_
                              refine lv_lshl hx hb dX12_nextToken_196 rfl ?_
                              refine lv_topl (fun x_10467 ex_10467 => ?_)
                              refine lv_aload_n hx hb dX12_nextToken_197 rfl (lv_at hl 0 rfl) ?_
                              refine lv_aload_n hx hb dX12_nextToken_198 rfl (lv_at hl 0 rfl) ?_
                              refine pg_f (v := .int (I_10350 391 this)) (C := RX12) (T := TX12) (N := 31) hx hb hts (tw_i inlX12) hown hK hP hL_this hK_this (by decide) rfl 7 (by decide) (hts _ (tw_c tw_830)) rfl dX12_nextToken_199 ?_
                              refine pk_i (va_runV (As := [.int (I_10350 391 this)]) (rest := [.long x_10467, .ref this]) ⟨hx, hb, hml, hown, hts⟩ (s_X12_see l D t σ I_10350 J_10351 ri rj rq H.size tg hSH hG.1 this (I_10350 391 this) hL_this hK_this (rg_w h_10421 (by decide))) (cwV 1 hts (tw_V tw_839 tw_840 tw_841 tw_5 tw_842) rfl rfl rfl (by decide +kernel) ⟨Nat.le_of_ble_eq_true rfl, Nat.le_of_ble_eq_true rfl⟩) ⟨pq_blind, pq_recv hK hP hL_this hK_this (by decide) rfl, pq_pre hK hN hP hD⟩ rfl rfl hl.1 rfl (lv_room (Nat.le_of_ble_eq_true rfl)) dX12_nextToken_202 ⟨Nat.le_of_ble_eq_true rfl, Nat.le_of_ble_eq_true rfl⟩) hD hS hA (fun x_10468 σ1 μ1 H locs hw_10469 hP hD hS => ?_)
                              obtain ⟨hu_10470, hp_10473, hr_10472⟩ := hw_10469
                              obtain ⟨hu_10470a, hu_10470b⟩ := Prod.mk.inj hu_10470
                              rw [hu_10470a, hu_10470b] at hP hD
                              have tt_10474 := hp_10473
                              have tt_10475 := (GM.rI hG 388 (a := this) (lo := 0) (hi := 300) rfl).2
                              refine lv_i2l hx hb dX12_nextToken_205 rfl ?_
                              refine lv_topl (fun x_10476 ex_10476 => ?_)
                              refine lv_lor hx hb dX12_nextToken_206 ?_
                              refine lv_topl (fun x_10477 ex_10477 => ?_)
                              refine pp_l (v := x_10477) (C := RX12) (T := TX12) (N := 31) hx hb hts (tw_i inlX12) tyX12 tyX12_ok nmX12 hown hK hP hD hS hL_this hK_this (by decide) rfl 11 395 (by decide) (hts _ (tw_c tw_838)) rfl (by decide +kernel) (Nat.le_of_ble_eq_true rfl) (ps_395 _ _ _ _ _) dX12_nextToken_207 (fun J_10478 H locs eJ_10478 hP hD hS => ?_)
                              refine lv_aload_n hx hb dX12_nextToken_210 rfl (lv_at hl 0 rfl) ?_
                              refine lv_dup hx hb dX12_nextToken_211 rfl ?_
                              refine pg_f (v := .int (I_10350 391 this)) (C := RX12) (T := TX12) (N := 31) hx hb hts (tw_i inlX12) hown hK hP hL_this hK_this (by decide) rfl 7 (by decide) (hts _ (tw_c tw_830)) rfl dX12_nextToken_212 ?_
                              refine lv_iconst (v := 1) hx hb dX12_nextToken_215 (by decide) ?_
                              have h_10479 : rg (I_10350 391 this) 0 299 := ⟨by omega, by omega⟩
                              have uh_10479 := h_10479.1
                              have vh_10479 := h_10479.2
                              refine lv_iadd hx hb dX12_nextToken_216 ?_
                              refine lv_topi (fun x_10480 ex_10480 => ?_)
                              have h_10481 : rg x_10480 1 300 := rg_of_eq ex_10480 (rg_add h_10479 (rg_k (1 : Int32) 1 rfl) (by decide))
                              have uh_10481 := h_10481.1
                              have vh_10481 := h_10481.2
                              have tx_10480 : (x_10480).toInt = (I_10350 391 this).toInt + 1 := by rw [ex_10480]; exact i_add_rg (a2 := (I_10350 391 this).toInt) (b2 := 1) rfl rfl h_10479 (rg_k (1 : Int32) 1 rfl) (by decide)
                              refine pp_i (v := x_10480) (ty := .int) (C := RX12) (T := TX12) (N := 31) hx hb hts (tw_i inlX12) tyX12 tyX12_ok nmX12 hown hK hP hD hS hL_this hK_this (by decide) rfl 7 391 (by decide) (hts _ (tw_c tw_830)) rfl (by decide +kernel) rfl rfl (Nat.le_of_ble_eq_true rfl) (ps_391 _ _ _ _ _) dX12_nextToken_217 (fun I_10482 H locs eI_10482 hP hD hS => ?_)
                              have hG := GM.wI hG 391 rfl eI_10482 (rg_w h_10481 (by decide)) (by decide)
                              have tt_10483 : (I_10482 391 this).toInt = (x_10480).toInt := by rw [eI_10482, pq_us]
                              have tt_10484 : (I_10482 388 this).toInt = (I_10350 388 this).toInt := by rw [eI_10482, pq_uf _ _ _ (by decide)]
                              have tt_10485 : (I_10482 392 this).toInt = (I_10350 392 this).toInt := by rw [eI_10482, pq_uf _ _ _ (by decide)]
                              refine lv_goto (tgt := 161) hx hb dX12_nextToken_220 (by decide) ?_
                              exact ih_10420 I_10482 J_10478 _ _ _ (ms_fu_iadd hm_10417 (by rw [eI_10482]; exact pq_us _ _ _ _) ex_10480 rfl (kk := 1) rfl (by decide) h_10479 (by decide) (by decide)) hG hP hD hS (lv_sub hl [0] rfl)
                      exact L_10419 _ I_10146 J_10150 _ _ _ (Nat.lt_succ_self _) hG hP hD hS (lv_sub hl [1] rfl)
                  · have f_10486 := (hr_9585.resolve_right (fun q => c_9587 q.1)).2
                    have uf_10486 := f_10486.1
                    have vf_10486 := f_10486.2
                    have tc_10487 : (x_9581).toInt ≠ 0 := fun q => c_9587 (Int32.toInt_inj.mp q)
                    have h_10488 : rg x_9581 1 1 := rg_ne c_9587 h_9586 0 rfl (by decide)
                    have uh_10488 := h_10488.1
                    have vh_10488 := h_10488.2
                    refine lv_aload_n hx hb dX12_nextToken_75 rfl (lv_at hl 1 rfl) ?_
                    refine lv_iconst (v := 1) hx hb dX12_nextToken_76 (by decide) ?_
                    refine pp_i (v := 1) (ty := .int) (C := RX12) (T := TX12) (N := 31) hx hb hts (tw_i inlX12) tyX12 tyX12_ok nmX12 hown hK hP hD hS hL_this hK_this (by decide) rfl 9 393 (by decide) (hts _ (tw_c tw_831)) rfl (by decide +kernel) rfl rfl (Nat.le_of_ble_eq_true rfl) (ps_393 _ _ _ _ _) dX12_nextToken_77 (fun I_10489 H locs eI_10489 hP hD hS => ?_)
                    have hG := GM.wI hG 393 rfl eI_10489 (rg_w (rg_k (1 : Int32) 1 rfl) (by decide)) (by decide)
                    have tt_10490 : (I_10489 391 this).toInt = (I_9565 391 this).toInt := by rw [eI_10489, pq_uf _ _ _ (by decide)]
                    have tt_10491 : (I_10489 388 this).toInt = (I_9565 388 this).toInt := by rw [eI_10489, pq_uf _ _ _ (by decide)]
                    have tt_10492 : (I_10489 392 this).toInt = (I_9565 392 this).toInt := by rw [eI_10489, pq_uf _ _ _ (by decide)]
                    refine lv_aload_n hx hb dX12_nextToken_80 rfl (lv_at hl 1 rfl) ?_
                    refine lv_iconst (v := 0) hx hb dX12_nextToken_81 (by decide) ?_
                    refine pp_i (v := 0) (ty := .int) (C := RX12) (T := TX12) (N := 31) hx hb hts (tw_i inlX12) tyX12 tyX12_ok nmX12 hown hK hP hD hS hL_this hK_this (by decide) rfl 10 394 (by decide) (hts _ (tw_c tw_836)) rfl (by decide +kernel) rfl rfl (Nat.le_of_ble_eq_true rfl) (ps_394 _ _ _ _ _) dX12_nextToken_82 (fun I_10493 H locs eI_10493 hP hD hS => ?_)
                    have hG := GM.wI hG 394 rfl eI_10493 (rg_w (rg_k (0 : Int32) 0 rfl) (by decide)) (by decide)
                    have tt_10494 : (I_10493 391 this).toInt = (I_10489 391 this).toInt := by rw [eI_10493, pq_uf _ _ _ (by decide)]
                    have tt_10495 : (I_10493 388 this).toInt = (I_10489 388 this).toInt := by rw [eI_10493, pq_uf _ _ _ (by decide)]
                    have tt_10496 : (I_10493 392 this).toInt = (I_10489 392 this).toInt := by rw [eI_10493, pq_uf _ _ _ (by decide)]
                    have L_10725 : ∀ (n_10724 : Nat) (I_10665 : Nat → Nat → Int32) (H : Heap) (locs : List Loc) (ls : Array Slot), (300 - (I_10665 391 this).toInt).toNat < n_10724 → GM [391, 392, 393] tg σ I ri I_10665 ri rq → va_P D vwCl (pq_P t σ (I_10665, J, ri, rj, rq)) H → va_D A (pq_P t σ (I_10665, J, ri, rj, rq)) → va_S A s.heap H locs → lv_has ls 3 [(0, .ref this)] → W p l e ({ frames := 2, cells := 0, slots := 0, locals := 42 } : Room) s m (List.toArray ([.ref this] : List Value)) below meth c H locs 0 0 Q (F0 m 85 ls []) := by
                      intro n_10724
                      induction n_10724 with
                      | zero => intro I_10665 H locs ls hm_10723 hG hP hD hS hl; exact absurd hm_10723 (Nat.not_lt_zero _)
                      | succ n_10724 ih_10726 =>
                        intro I_10665 H locs ls hm_10723 hG hP hD hS hl
                        refine lv_aload_n hx hb dX12_nextToken_85 rfl (lv_at hl 0 rfl) ?_
                        refine lv_aload_n hx hb dX12_nextToken_86 rfl (lv_at hl 0 rfl) ?_
                        refine pg_f (v := .int (I_10665 391 this)) (C := RX12) (T := TX12) (N := 31) hx hb hts (tw_i inlX12) hown hK hP hL_this hK_this (by decide) rfl 7 (by decide) (hts _ (tw_c tw_830)) rfl dX12_nextToken_87 ?_
                        have h_10727 : rg (I_10665 391 this) 0 300 := GM.rI hG 391 rfl
                        have uh_10727 := h_10727.1
                        have vh_10727 := h_10727.2
                        refine pk_i (va_runV (As := [.int (I_10665 391 this)]) (rest := []) ⟨hx, hb, hml, hown, hts⟩ (s_X12_see l D t σ I_10665 J ri rj rq H.size tg hSH hG.1 this (I_10665 391 this) hL_this hK_this (rg_w h_10727 (by decide))) (cwV 1 hts (tw_V tw_839 tw_840 tw_841 tw_5 tw_842) rfl rfl rfl (by decide +kernel) ⟨Nat.le_of_ble_eq_true rfl, Nat.le_of_ble_eq_true rfl⟩) ⟨pq_blind, pq_recv hK hP hL_this hK_this (by decide) rfl, pq_pre hK hN hP hD⟩ rfl rfl hl.1 rfl (lv_room (Nat.le_of_ble_eq_true rfl)) dX12_nextToken_90 ⟨Nat.le_of_ble_eq_true rfl, Nat.le_of_ble_eq_true rfl⟩) hD hS hA (fun x_10728 σ1 μ1 H locs hw_10729 hP hD hS => ?_)
                        obtain ⟨hu_10730, hp_10733, hr_10732⟩ := hw_10729
                        obtain ⟨hu_10730a, hu_10730b⟩ := Prod.mk.inj hu_10730
                        rw [hu_10730a, hu_10730b] at hP hD
                        have tt_10734 := hp_10733
                        have tt_10735 := (GM.rI hG 388 (a := this) (lo := 0) (hi := 300) rfl).2
                        refine pk_i (va_runS (As := [.int x_10728]) (rest := []) ⟨hx, hb, hml, hown, hts⟩ (s_X12_isDigit l D t σ I_10665 J ri rj rq H.size tg hSH hG.1 x_10728) (va_cwS 1 hts (tw_S tw_843 tw_844 tw_5 tw_845) rfl rfl rfl (by decide +kernel) ⟨Nat.le_of_ble_eq_true rfl, Nat.le_of_ble_eq_true rfl⟩) ⟨pq_blind, pq_pre hK hN hP hD⟩ rfl rfl hl.1 rfl (lv_room (Nat.le_of_ble_eq_true rfl)) dX12_nextToken_93 ⟨Nat.le_of_ble_eq_true rfl, Nat.le_of_ble_eq_true rfl⟩) hD hS hA (fun x_10736 σ1 μ1 H locs hw_10737 hP hD hS => ?_)
                        obtain ⟨hu_10738, hr_10740⟩ := hw_10737
                        obtain ⟨hu_10738a, hu_10738b⟩ := Prod.mk.inj hu_10738
                        rw [hu_10738a, hu_10738b] at hP hD
                        have h_10741 : rg x_10736 0 1 := by rcases hr_10740 with ⟨q, -⟩ | ⟨q, -⟩ <;> rw [q] <;> exact ⟨by decide, by decide⟩
                        have uh_10741 := h_10741.1
                        have vh_10741 := h_10741.2
                        refine lv_if_eq (tgt := 396) hx hb dX12_nextToken_96 (by decide) (fun c_10742 => ?_) (fun c_10742 => ?_)
                        · have f_10743 := (hr_10740.resolve_left (fun q => absurd (q.1.symm.trans c_10742) (by decide))).2
                          have tc_10744 : (x_10736).toInt = 0 := congrArg Int32.toInt c_10742
                          have h_10745 : rg x_10736 0 0 := rg_and h_10741 (rg_of_eq c_10742 (rg_k (0 : Int32) 0 rfl)) (by decide)
                          have uh_10745 := h_10745.1
                          have vh_10745 := h_10745.2
                          subst hQ
                          exact W.vret hx hb hr (fun t1 ht hW => ⟨⟨(σ, I_10665, J, ri, rj, rq), rfl, ⟨I_10665, J, rfl, hG⟩, by rw [ht]; exact hP, va_K.moved hW.alike hK, hD⟩, hS.F ht⟩) hS.2.2 dX12_nextToken_396
                        · have f_10746 := (hr_10740.resolve_right (fun q => c_10742 q.1)).2
                          have uf_10746 := f_10746.1
                          have vf_10746 := f_10746.2
                          have tc_10747 : (x_10736).toInt ≠ 0 := fun q => c_10742 (Int32.toInt_inj.mp q)
                          have h_10748 : rg x_10736 1 1 := rg_ne c_10742 h_10741 0 rfl (by decide)
                          have uh_10748 := h_10748.1
                          have vh_10748 := h_10748.2
                          refine lv_aload_n hx hb dX12_nextToken_99 rfl (lv_at hl 0 rfl) ?_
                          refine pg_f (v := .int (I_10665 394 this)) (C := RX12) (T := TX12) (N := 31) hx hb hts (tw_i inlX12) hown hK hP hL_this hK_this (by decide) rfl 10 (by decide) (hts _ (tw_c tw_836)) rfl dX12_nextToken_100 ?_
                          refine lv_ldc hx hb hown (hts _ (tw_c tw_837)) dX12_nextToken_103 ?_
                          refine lv_icmp_ge (tgt := 131) hx hb dX12_nextToken_105 (by decide) (fun c_10749 => ?_) (fun c_10749 => ?_)
                          · have tc_10750 : 100000 ≤ (I_10665 394 this).toInt := Int32.le_iff_toInt_le.mp c_10749
                            have h_10751 : rg (I_10665 394 this) 100000 2147483647 := rg_le2 c_10749 (rg_k (100000 : Int32) 100000 rfl) (rg_full _) (by decide)
                            have uh_10751 := h_10751.1
                            have vh_10751 := h_10751.2
                            refine lv_aload_n hx hb dX12_nextToken_131 rfl (lv_at hl 0 rfl) ?_
                            refine lv_dup hx hb dX12_nextToken_132 rfl ?_
                            refine pg_f (v := .int (I_10665 391 this)) (C := RX12) (T := TX12) (N := 31) hx hb hts (tw_i inlX12) hown hK hP hL_this hK_this (by decide) rfl 7 (by decide) (hts _ (tw_c tw_830)) rfl dX12_nextToken_133 ?_
                            refine lv_iconst (v := 1) hx hb dX12_nextToken_136 (by decide) ?_
                            have h_10752 : rg (I_10665 391 this) 0 299 := ⟨by omega, by omega⟩
                            have uh_10752 := h_10752.1
                            have vh_10752 := h_10752.2
                            refine lv_iadd hx hb dX12_nextToken_137 ?_
                            refine lv_topi (fun x_10753 ex_10753 => ?_)
                            have h_10754 : rg x_10753 1 300 := rg_of_eq ex_10753 (rg_add h_10752 (rg_k (1 : Int32) 1 rfl) (by decide))
                            have uh_10754 := h_10754.1
                            have vh_10754 := h_10754.2
                            have tx_10753 : (x_10753).toInt = (I_10665 391 this).toInt + 1 := by rw [ex_10753]; exact i_add_rg (a2 := (I_10665 391 this).toInt) (b2 := 1) rfl rfl h_10752 (rg_k (1 : Int32) 1 rfl) (by decide)
                            refine pp_i (v := x_10753) (ty := .int) (C := RX12) (T := TX12) (N := 31) hx hb hts (tw_i inlX12) tyX12 tyX12_ok nmX12 hown hK hP hD hS hL_this hK_this (by decide) rfl 7 391 (by decide) (hts _ (tw_c tw_830)) rfl (by decide +kernel) rfl rfl (Nat.le_of_ble_eq_true rfl) (ps_391 _ _ _ _ _) dX12_nextToken_138 (fun I_10755 H locs eI_10755 hP hD hS => ?_)
                            have hG := GM.wI hG 391 rfl eI_10755 (rg_w h_10754 (by decide)) (by decide)
                            have tt_10756 : (I_10755 391 this).toInt = (x_10753).toInt := by rw [eI_10755, pq_us]
                            have tt_10757 : (I_10755 388 this).toInt = (I_10665 388 this).toInt := by rw [eI_10755, pq_uf _ _ _ (by decide)]
                            have tt_10758 : (I_10755 392 this).toInt = (I_10665 392 this).toInt := by rw [eI_10755, pq_uf _ _ _ (by decide)]
                            refine lv_goto (tgt := 85) hx hb dX12_nextToken_141 (by decide) ?_
                            exact ih_10726 I_10755 _ _ _ (ms_fu_iadd hm_10723 (by rw [eI_10755]; exact pq_us _ _ _ _) ex_10753 rfl (kk := 1) rfl (by decide) h_10752 (by decide) (by decide)) hG hP hD hS (lv_sub hl [0] rfl)
                          · have tc_10759 : (I_10665 394 this).toInt < 100000 := Int32.lt_iff_toInt_lt.mp (nle c_10749)
                            have h_10760 : rg (I_10665 394 this) (-2147483648) 99999 := rg_lt1 (nle c_10749) (rg_full _) (rg_k (100000 : Int32) 100000 rfl) (by decide)
                            have uh_10760 := h_10760.1
                            have vh_10760 := h_10760.2
                            refine lv_aload_n hx hb dX12_nextToken_108 rfl (lv_at hl 0 rfl) ?_
                            refine lv_bipush (v := 10) hx hb dX12_nextToken_109 (by decide) ?_
                            refine lv_aload_n hx hb dX12_nextToken_111 rfl (lv_at hl 0 rfl) ?_
                            refine pg_f (v := .int (I_10665 394 this)) (C := RX12) (T := TX12) (N := 31) hx hb hts (tw_i inlX12) hown hK hP hL_this hK_this (by decide) rfl 10 (by decide) (hts _ (tw_c tw_836)) rfl dX12_nextToken_112 ?_
                            refine lv_imul hx hb dX12_nextToken_115 ?_
                            refine lv_topi (fun x_10761 ex_10761 => ?_)
                            refine lv_aload_n hx hb dX12_nextToken_116 rfl (lv_at hl 0 rfl) ?_
                            refine lv_aload_n hx hb dX12_nextToken_117 rfl (lv_at hl 0 rfl) ?_
                            refine pg_f (v := .int (I_10665 391 this)) (C := RX12) (T := TX12) (N := 31) hx hb hts (tw_i inlX12) hown hK hP hL_this hK_this (by decide) rfl 7 (by decide) (hts _ (tw_c tw_830)) rfl dX12_nextToken_118 ?_
                            refine pk_i (va_runV (As := [.int (I_10665 391 this)]) (rest := [.int x_10761, .ref this]) ⟨hx, hb, hml, hown, hts⟩ (s_X12_see l D t σ I_10665 J ri rj rq H.size tg hSH hG.1 this (I_10665 391 this) hL_this hK_this (rg_w h_10727 (by decide))) (cwV 1 hts (tw_V tw_839 tw_840 tw_841 tw_5 tw_842) rfl rfl rfl (by decide +kernel) ⟨Nat.le_of_ble_eq_true rfl, Nat.le_of_ble_eq_true rfl⟩) ⟨pq_blind, pq_recv hK hP hL_this hK_this (by decide) rfl, pq_pre hK hN hP hD⟩ rfl rfl hl.1 rfl (lv_room (Nat.le_of_ble_eq_true rfl)) dX12_nextToken_121 ⟨Nat.le_of_ble_eq_true rfl, Nat.le_of_ble_eq_true rfl⟩) hD hS hA (fun x_10762 σ1 μ1 H locs hw_10763 hP hD hS => ?_)
                            obtain ⟨hu_10764, hp_10767, hr_10766⟩ := hw_10763
                            obtain ⟨hu_10764a, hu_10764b⟩ := Prod.mk.inj hu_10764
                            rw [hu_10764a, hu_10764b] at hP hD
                            have tt_10768 := hp_10767
                            have tt_10769 := (GM.rI hG 388 (a := this) (lo := 0) (hi := 300) rfl).2
                            refine lv_iadd hx hb dX12_nextToken_124 ?_
                            refine lv_topi (fun x_10770 ex_10770 => ?_)
                            refine lv_bipush (v := 48) hx hb dX12_nextToken_125 (by decide) ?_
                            refine lv_isub hx hb dX12_nextToken_127 ?_
                            refine lv_topi (fun x_10771 ex_10771 => ?_)
                            refine pp_i (v := x_10771) (ty := .int) (C := RX12) (T := TX12) (N := 31) hx hb hts (tw_i inlX12) tyX12 tyX12_ok nmX12 hown hK hP hD hS hL_this hK_this (by decide) rfl 10 394 (by decide) (hts _ (tw_c tw_836)) rfl (by decide +kernel) rfl rfl (Nat.le_of_ble_eq_true rfl) (ps_394 _ _ _ _ _) dX12_nextToken_128 (fun I_10772 H locs eI_10772 hP hD hS => ?_)
                            have hG := GM.wI hG 394 rfl eI_10772 (rg_w (rg_full _) (by decide)) (by decide)
                            have tt_10773 : (I_10772 391 this).toInt = (I_10665 391 this).toInt := by rw [eI_10772, pq_uf _ _ _ (by decide)]
                            have tt_10774 : (I_10772 388 this).toInt = (I_10665 388 this).toInt := by rw [eI_10772, pq_uf _ _ _ (by decide)]
                            have tt_10775 : (I_10772 392 this).toInt = (I_10665 392 this).toInt := by rw [eI_10772, pq_uf _ _ _ (by decide)]
                            refine lv_aload_n hx hb dX12_nextToken_131 rfl (lv_at hl 0 rfl) ?_
                            refine lv_dup hx hb dX12_nextToken_132 rfl ?_
                            refine pg_f (v := .int (I_10772 391 this)) (C := RX12) (T := TX12) (N := 31) hx hb hts (tw_i inlX12) hown hK hP hL_this hK_this (by decide) rfl 7 (by decide) (hts _ (tw_c tw_830)) rfl dX12_nextToken_133 ?_
                            have h_10776 : rg (I_10772 391 this) 0 300 := GM.rI hG 391 rfl
                            have uh_10776 := h_10776.1
                            have vh_10776 := h_10776.2
                            refine lv_iconst (v := 1) hx hb dX12_nextToken_136 (by decide) ?_
                            have h_10777 : rg (I_10772 391 this) 0 299 := ⟨by omega, by omega⟩
                            have uh_10777 := h_10777.1
                            have vh_10777 := h_10777.2
                            refine lv_iadd hx hb dX12_nextToken_137 ?_
                            refine lv_topi (fun x_10778 ex_10778 => ?_)
                            have h_10779 : rg x_10778 1 300 := rg_of_eq ex_10778 (rg_add h_10777 (rg_k (1 : Int32) 1 rfl) (by decide))
                            have uh_10779 := h_10779.1
                            have vh_10779 := h_10779.2
                            have tx_10778 : (x_10778).toInt = (I_10772 391 this).toInt + 1 := by rw [ex_10778]; exact i_add_rg (a2 := (I_10772 391 this).toInt) (b2 := 1) rfl rfl h_10777 (rg_k (1 : Int32) 1 rfl) (by decide)
                            refine pp_i (v := x_10778) (ty := .int) (C := RX12) (T := TX12) (N := 31) hx hb hts (tw_i inlX12) tyX12 tyX12_ok nmX12 hown hK hP hD hS hL_this hK_this (by decide) rfl 7 391 (by decide) (hts _ (tw_c tw_830)) rfl (by decide +kernel) rfl rfl (Nat.le_of_ble_eq_true rfl) (ps_391 _ _ _ _ _) dX12_nextToken_138 (fun I_10780 H locs eI_10780 hP hD hS => ?_)
                            have hG := GM.wI hG 391 rfl eI_10780 (rg_w h_10779 (by decide)) (by decide)
                            have tt_10781 : (I_10780 391 this).toInt = (x_10778).toInt := by rw [eI_10780, pq_us]
                            have tt_10782 : (I_10780 388 this).toInt = (I_10772 388 this).toInt := by rw [eI_10780, pq_uf _ _ _ (by decide)]
                            have tt_10783 : (I_10780 392 this).toInt = (I_10772 392 this).toInt := by rw [eI_10780, pq_uf _ _ _ (by decide)]
                            refine lv_goto (tgt := 85) hx hb dX12_nextToken_141 (by decide) ?_
                            exact ih_10726 I_10780 _ _ _ (ms_fu_iadd hm_10723 (by rw [eI_10780]; exact pq_us _ _ _ _) ex_10778 ((congrFun (show I_10772 391 = I_10665 391 from by rw [eI_10772]; exact pq_uf _ _ _ (by decide)) this).trans rfl) (kk := 1) rfl (by decide) h_10777 (by decide) (by decide)) hG hP hD hS (lv_sub hl [0] rfl)
                    exact L_10725 _ I_10493 _ _ _ (Nat.lt_succ_self _) hG hP hD hS (lv_sub hl [1] rfl)
                · have tc_10784 : (x_9570).toInt < 0 := Int32.lt_iff_toInt_lt.mp (nle c_9578)
                  have h_10785 : rg x_9570 (-1) (-1) := rg_lt1 (nle c_9578) hr_9574 (rg_k (0 : Int32) 0 rfl) (by decide)
                  have uh_10785 := h_10785.1
                  have vh_10785 := h_10785.2
                  refine lv_aload_n hx hb dX12_nextToken_60 rfl (lv_at hl 1 rfl) ?_
                  refine lv_iconst (v := 0) hx hb dX12_nextToken_61 (by decide) ?_
                  refine pp_i (v := 0) (ty := .int) (C := RX12) (T := TX12) (N := 31) hx hb hts (tw_i inlX12) tyX12 tyX12_ok nmX12 hown hK hP hD hS hL_this hK_this (by decide) rfl 9 393 (by decide) (hts _ (tw_c tw_831)) rfl (by decide +kernel) rfl rfl (Nat.le_of_ble_eq_true rfl) (ps_393 _ _ _ _ _) dX12_nextToken_62 (fun I_10786 H locs eI_10786 hP hD hS => ?_)
                  have hG := GM.wI hG 393 rfl eI_10786 (rg_w (rg_k (0 : Int32) 0 rfl) (by decide)) (by decide)
                  have tt_10787 : (I_10786 391 this).toInt = (I_9565 391 this).toInt := by rw [eI_10786, pq_uf _ _ _ (by decide)]
                  have tt_10788 : (I_10786 388 this).toInt = (I_9565 388 this).toInt := by rw [eI_10786, pq_uf _ _ _ (by decide)]
                  have tt_10789 : (I_10786 392 this).toInt = (I_9565 392 this).toInt := by rw [eI_10786, pq_uf _ _ _ (by decide)]
                  refine lv_goto (tgt := 396) hx hb dX12_nextToken_65 (by decide) ?_
                  subst hQ
                  exact W.vret hx hb hr (fun t1 ht hW => ⟨⟨(σ, I_10786, J, ri, rj, rq), rfl, ⟨I_10786, J, rfl, hG⟩, by rw [ht]; exact hP, va_K.moved hW.alike hK, hD⟩, hS.F ht⟩) hS.2.2 dX12_nextToken_396
              · have tc_10790 : (x_9555).toInt = 10 := congrArg Int32.toInt c_9563
                have h_10791 : rg x_9555 10 10 := rg_and hr_9559 (rg_of_eq c_9563 (rg_k (10 : Int32) 10 rfl)) (by decide)
                have uh_10791 := h_10791.1
                have vh_10791 := h_10791.2
                refine lv_aload_n hx hb dX12_nextToken_26 rfl (lv_at hl 0 rfl) ?_
                refine lv_dup hx hb dX12_nextToken_27 rfl ?_
                refine pg_f (v := .int (I_8656 391 this)) (C := RX12) (T := TX12) (N := 31) hx hb hts (tw_i inlX12) hown hK hP hL_this hK_this (by decide) rfl 7 (by decide) (hts _ (tw_c tw_830)) rfl dX12_nextToken_28 ?_
                refine lv_iconst (v := 1) hx hb dX12_nextToken_31 (by decide) ?_
                have h_10792 : rg (I_8656 391 this) 0 299 := ⟨by omega, by omega⟩
                have uh_10792 := h_10792.1
                have vh_10792 := h_10792.2
                refine lv_iadd hx hb dX12_nextToken_32 ?_
                refine lv_topi (fun x_10793 ex_10793 => ?_)
                have h_10794 : rg x_10793 1 300 := rg_of_eq ex_10793 (rg_add h_10792 (rg_k (1 : Int32) 1 rfl) (by decide))
                have uh_10794 := h_10794.1
                have vh_10794 := h_10794.2
                have tx_10793 : (x_10793).toInt = (I_8656 391 this).toInt + 1 := by rw [ex_10793]; exact i_add_rg (a2 := (I_8656 391 this).toInt) (b2 := 1) rfl rfl h_10792 (rg_k (1 : Int32) 1 rfl) (by decide)
                refine pp_i (v := x_10793) (ty := .int) (C := RX12) (T := TX12) (N := 31) hx hb hts (tw_i inlX12) tyX12 tyX12_ok nmX12 hown hK hP hD hS hL_this hK_this (by decide) rfl 7 391 (by decide) (hts _ (tw_c tw_830)) rfl (by decide +kernel) rfl rfl (Nat.le_of_ble_eq_true rfl) (ps_391 _ _ _ _ _) dX12_nextToken_33 (fun I_10795 H locs eI_10795 hP hD hS => ?_)
                have hG := GM.wI hG 391 rfl eI_10795 (rg_w h_10794 (by decide)) (by decide)
                have tt_10796 : (I_10795 391 this).toInt = (x_10793).toInt := by rw [eI_10795, pq_us]
                have tt_10797 : (I_10795 388 this).toInt = (I_8656 388 this).toInt := by rw [eI_10795, pq_uf _ _ _ (by decide)]
                have tt_10798 : (I_10795 392 this).toInt = (I_8656 392 this).toInt := by rw [eI_10795, pq_uf _ _ _ (by decide)]
                refine lv_goto (tgt := 0) hx hb dX12_nextToken_36 (by decide) ?_
                exact ih_9534 I_10795 _ _ _ (ms_fu_iadd hm_9531 (by rw [eI_10795]; exact pq_us _ _ _ _) ex_10793 rfl (kk := 1) rfl (by decide) h_10792 (by decide) (by decide)) hG hP hD hS (lv_sub hl [0] rfl)
        exact L_9533 _ I_6028 _ _ _ (Nat.lt_succ_self _) hG hP hD hS (lv_sub hl [0] rfl)
  exact go _ _ _ hP hD hS hl
