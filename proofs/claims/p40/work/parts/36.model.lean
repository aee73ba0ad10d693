theorem dX12_stands_0 : decode cX12_stands 0 = .ok (.aload_n 0, 1) := oc_42 (by decide +kernel)
theorem dX12_stands_1 : decode cX12_stands 1 = .ok (.iload_n 1, 1) := oc_27 (by decide +kernel)
theorem dX12_stands_2 : decode cX12_stands 2 = .ok (.bipush 14, 2) := oc_16 (a := 14) (by decide +kernel)
theorem dX12_stands_4 : decode cX12_stands 4 = .ok (.invokevirtual 91, 3) := oc_182 (a := 0) (b := 91) (by decide +kernel)
theorem dX12_stands_7 : decode cX12_stands 7 = .ok (.istore_n 2, 1) := oc_61 (by decide +kernel)
theorem dX12_stands_8 : decode cX12_stands 8 = .ok (.iload_n 2, 1) := oc_28 (by decide +kernel)
theorem dX12_stands_9 : decode cX12_stands 9 = .ok (.ifCond .ge 5, 3) := oc_156 (a := 0) (b := 5) (by decide +kernel)
theorem dX12_stands_14 : decode cX12_stands 14 = .ok (.aload_n 0, 1) := oc_42 (by decide +kernel)
theorem dX12_stands_15 : decode cX12_stands 15 = .ok (.getfield 7, 3) := oc_180 (a := 0) (b := 7) (by decide +kernel)
theorem dX12_stands_18 : decode cX12_stands 18 = .ok (.iconst 0, 1) := oc_3 (by decide +kernel)
theorem dX12_stands_19 : decode cX12_stands 19 = .ok (.iaload, 1) := oc_46 (by decide +kernel)
theorem dX12_stands_56 : decode cX12_stands 56 = .ok (.iconst 1, 1) := oc_4 (by decide +kernel)
theorem dX12_stands_57 : decode cX12_stands 57 = .ok (.goto 4, 3) := oc_167 (a := 0) (b := 4) (by decide +kernel)
theorem dX12_stands_61 : decode cX12_stands 61 = .ok (.ireturn, 1) := oc_172 (by decide +kernel)
theorem dX12_stands_20 : decode cX12_stands 20 = .ok (.ifCond .eq 36, 3) := oc_153 (a := 0) (b := 36) (by decide +kernel)
theorem dX12_stands_23 : decode cX12_stands 23 = .ok (.aload_n 0, 1) := oc_42 (by decide +kernel)
theorem dX12_stands_24 : decode cX12_stands 24 = .ok (.iload_n 1, 1) := oc_27 (by decide +kernel)
theorem dX12_stands_25 : decode cX12_stands 25 = .ok (.bipush 12, 2) := oc_16 (a := 12) (by decide +kernel)
theorem dX12_stands_27 : decode cX12_stands 27 = .ok (.invokevirtual 91, 3) := oc_182 (a := 0) (b := 91) (by decide +kernel)
theorem dX12_stands_30 : decode cX12_stands 30 = .ok (.iconst 1, 1) := oc_4 (by decide +kernel)
theorem dX12_stands_31 : decode cX12_stands 31 = .ok (.if_icmp .eq 25, 3) := oc_159 (a := 0) (b := 25) (by decide +kernel)
theorem dX12_stands_34 : decode cX12_stands 34 = .ok (.aload_n 0, 1) := oc_42 (by decide +kernel)
theorem dX12_stands_35 : decode cX12_stands 35 = .ok (.iconst 1, 1) := oc_4 (by decide +kernel)
theorem dX12_stands_36 : decode cX12_stands 36 = .ok (.iload_n 2, 1) := oc_28 (by decide +kernel)
theorem dX12_stands_37 : decode cX12_stands 37 = .ok (.aload_n 0, 1) := oc_42 (by decide +kernel)
theorem dX12_stands_38 : decode cX12_stands 38 = .ok (.getfield 7, 3) := oc_180 (a := 0) (b := 7) (by decide +kernel)
theorem dX12_stands_41 : decode cX12_stands 41 = .ok (.iconst 0, 1) := oc_3 (by decide +kernel)
theorem dX12_stands_42 : decode cX12_stands 42 = .ok (.iaload, 1) := oc_46 (by decide +kernel)
theorem dX12_stands_43 : decode cX12_stands 43 = .ok (.aload_n 0, 1) := oc_42 (by decide +kernel)
theorem dX12_stands_44 : decode cX12_stands 44 = .ok (.iload_n 1, 1) := oc_27 (by decide +kernel)
theorem dX12_stands_45 : decode cX12_stands 45 = .ok (.bipush 11, 2) := oc_16 (a := 11) (by decide +kernel)
theorem dX12_stands_47 : decode cX12_stands 47 = .ok (.invokevirtual 91, 3) := oc_182 (a := 0) (b := 91) (by decide +kernel)
theorem tw_597 : Cond.methodLink RX12 120 yX12_firstSo ∈ wsL_law := sg_25 _ (List.mem_of_getElem? (i := 21) rfl)
theorem tw_598 : Cond.instanceMethod yX12_firstSo ∈ wsL_law := sg_25 _ (List.mem_of_getElem? (i := 22) rfl)
theorem tw_599 : Cond.selects RX12 yX12_firstSo yX12_firstSo ∈ wsL_law := sg_25 _ (List.mem_of_getElem? (i := 23) rfl)
theorem tw_600 : Cond.code yX12_firstSo cX12_firstSo 7 (some .int) ∈ wsL_law := sg_26 _ (List.mem_of_getElem? (i := 0) rfl)
theorem dX12_stands_50 : decode cX12_stands 50 = .ok (.invokevirtual 120, 3) := oc_182 (a := 0) (b := 120) (by decide +kernel)
theorem dX12_stands_53 : decode cX12_stands 53 = .ok (.ifCond .lt 7, 3) := oc_155 (a := 0) (b := 7) (by decide +kernel)
theorem dX12_stands_60 : decode cX12_stands 60 = .ok (.iconst 0, 1) := oc_3 (by decide +kernel)
theorem dX12_stands_12 : decode cX12_stands 12 = .ok (.iconst 0, 1) := oc_3 (by decide +kernel)
theorem dX12_stands_13 : decode cX12_stands 13 = .ok (.ireturn, 1) := oc_172 (by decide +kernel)
theorem dX12_titleOf_0 : decode cX12_titleOf 0 = .ok (.aload_n 0, 1) := oc_42 (by decide +kernel)
theorem dX12_titleOf_1 : decode cX12_titleOf 1 = .ok (.iload_n 1, 1) := oc_27 (by decide +kernel)
theorem dX12_titleOf_2 : decode cX12_titleOf 2 = .ok (.invokevirtual 88, 3) := oc_182 (a := 0) (b := 88) (by decide +kernel)
theorem dX12_titleOf_17 : decode cX12_titleOf 17 = .ok (.iconst (-1), 1) := oc_2 (by decide +kernel)
theorem dX12_titleOf_18 : decode cX12_titleOf 18 = .ok (.ireturn, 1) := oc_172 (by decide +kernel)
theorem dX12_titleOf_5 : decode cX12_titleOf 5 = .ok (.ifCond .eq 12, 3) := oc_153 (a := 0) (b := 12) (by decide +kernel)
theorem dX12_titleOf_8 : decode cX12_titleOf 8 = .ok (.iload_n 2, 1) := oc_28 (by decide +kernel)
theorem dX12_titleOf_9 : decode cX12_titleOf 9 = .ok (.iconst 0, 1) := oc_3 (by decide +kernel)
theorem dX12_titleOf_10 : decode cX12_titleOf 10 = .ok (.iconst 1, 1) := oc_4 (by decide +kernel)
theorem dX12_titleOf_11 : decode cX12_titleOf 11 = .ok (.invokestatic 62, 3) := oc_184 (a := 0) (b := 62) (by decide +kernel)
theorem dX12_titleOf_14 : decode cX12_titleOf 14 = .ok (.ifCond .ne 5, 3) := oc_154 (a := 0) (b := 5) (by decide +kernel)
theorem dX12_titleOf_19 : decode cX12_titleOf 19 = .ok (.iload_n 2, 1) := oc_28 (by decide +kernel)
theorem dX12_titleOf_20 : decode cX12_titleOf 20 = .ok (.ifCond .ne 13, 3) := oc_154 (a := 0) (b := 13) (by decide +kernel)
theorem dX12_titleOf_33 : decode cX12_titleOf 33 = .ok (.aload_n 0, 1) := oc_42 (by decide +kernel)
theorem dX12_titleOf_34 : decode cX12_titleOf 34 = .ok (.iload_n 1, 1) := oc_27 (by decide +kernel)
theorem tw_593 : Cond.methodLink RX12 124 yX12_stands ∈ wsL_law := sg_25 _ (List.mem_of_getElem? (i := 17) rfl)
theorem tw_594 : Cond.instanceMethod yX12_stands ∈ wsL_law := sg_25 _ (List.mem_of_getElem? (i := 18) rfl)
theorem tw_595 : Cond.selects RX12 yX12_stands yX12_stands ∈ wsL_law := sg_25 _ (List.mem_of_getElem? (i := 19) rfl)
theorem tw_596 : Cond.code yX12_stands cX12_stands 3 (some .boolean) ∈ wsL_law := sg_25 _ (List.mem_of_getElem? (i := 20) rfl)
theorem dX12_titleOf_35 : decode cX12_titleOf 35 = .ok (.invokevirtual 124, 3) := oc_182 (a := 0) (b := 124) (by decide +kernel)
theorem dX12_titleOf_38 : decode cX12_titleOf 38 = .ok (.ifCond .eq 7, 3) := oc_153 (a := 0) (b := 7) (by decide +kernel)
theorem dX12_titleOf_45 : decode cX12_titleOf 45 = .ok (.iconst 0, 1) := oc_3 (by decide +kernel)
theorem dX12_titleOf_46 : decode cX12_titleOf 46 = .ok (.ireturn, 1) := oc_172 (by decide +kernel)
theorem dX12_titleOf_41 : decode cX12_titleOf 41 = .ok (.iconst 1, 1) := oc_4 (by decide +kernel)
theorem dX12_titleOf_42 : decode cX12_titleOf 42 = .ok (.goto 4, 3) := oc_167 (a := 0) (b := 4) (by decide +kernel)
theorem dX12_titleOf_23 : decode cX12_titleOf 23 = .ok (.aload_n 0, 1) := oc_42 (by decide +kernel)
theorem dX12_titleOf_24 : decode cX12_titleOf 24 = .ok (.iload_n 1, 1) := oc_27 (by decide +kernel)
theorem dX12_titleOf_25 : decode cX12_titleOf 25 = .ok (.bipush 14, 2) := oc_16 (a := 14) (by decide +kernel)
theorem dX12_titleOf_27 : decode cX12_titleOf 27 = .ok (.invokevirtual 91, 3) := oc_182 (a := 0) (b := 91) (by decide +kernel)
theorem dX12_titleOf_30 : decode cX12_titleOf 30 = .ok (.goto 16, 3) := oc_167 (a := 0) (b := 16) (by decide +kernel)
theorem dX12_four_0 : decode cX12_four 0 = .ok (.bipush 24, 2) := oc_16 (a := 24) (by decide +kernel)
theorem dX12_four_2 : decode cX12_four 2 = .ok (.istore_n 2, 1) := oc_61 (by decide +kernel)
theorem dX12_four_3 : decode cX12_four 3 = .ok (.iload_n 2, 1) := oc_28 (by decide +kernel)
theorem dX12_four_4 : decode cX12_four 4 = .ok (.ifCond .lt 35, 3) := oc_155 (a := 0) (b := 35) (by decide +kernel)
theorem dX12_four_39 : decode cX12_four 39 = .ok (.return_, 1) := oc_177 (by decide +kernel)
theorem dX12_four_7 : decode cX12_four 7 = .ok (.aload_n 0, 1) := oc_42 (by decide +kernel)
theorem dX12_four_8 : decode cX12_four 8 = .ok (.getfield 19, 3) := oc_180 (a := 0) (b := 19) (by decide +kernel)
theorem dX12_four_11 : decode cX12_four 11 = .ok (.aload_n 0, 1) := oc_42 (by decide +kernel)
theorem dX12_four_12 : decode cX12_four 12 = .ok (.getfield 127, 3) := oc_180 (a := 0) (b := 127) (by decide +kernel)
theorem dX12_four_15 : decode cX12_four 15 = .ok (.iload_n 1, 1) := oc_27 (by decide +kernel)
theorem dX12_four_16 : decode cX12_four 16 = .ok (.iload_n 2, 1) := oc_28 (by decide +kernel)
theorem dX12_four_17 : decode cX12_four 17 = .ok (.ishr, 1) := oc_122 (by decide +kernel)
theorem dX12_four_18 : decode cX12_four 18 = .ok (.sipush 255, 3) := oc_17 (a := 0) (b := 255) (by decide +kernel)
theorem dX12_four_21 : decode cX12_four 21 = .ok (.iand, 1) := oc_126 (by decide +kernel)
theorem dX12_four_22 : decode cX12_four 22 = .ok (.iastore, 1) := oc_79 (by decide +kernel)
theorem dX12_four_23 : decode cX12_four 23 = .ok (.aload_n 0, 1) := oc_42 (by decide +kernel)
theorem dX12_four_24 : decode cX12_four 24 = .ok (.dup, 1) := oc_89 (by decide +kernel)
theorem dX12_four_25 : decode cX12_four 25 = .ok (.getfield 127, 3) := oc_180 (a := 0) (b := 127) (by decide +kernel)
theorem dX12_four_28 : decode cX12_four 28 = .ok (.iconst 1, 1) := oc_4 (by decide +kernel)
theorem dX12_four_29 : decode cX12_four 29 = .ok (.iadd, 1) := oc_96 (by decide +kernel)
theorem dX12_four_30 : decode cX12_four 30 = .ok (.putfield 127, 3) := oc_181 (a := 0) (b := 127) (by decide +kernel)
theorem dX12_four_33 : decode cX12_four 33 = .ok (.iinc 2 (-8), 3) := oc_132 (b := 248) (by decide +kernel)
theorem dX12_four_36 : decode cX12_four 36 = .ok (.goto (-33), 3) := oc_167 (a := 255) (b := 223) (by decide +kernel)
theorem dX12_feed_0 : decode cX12_feed 0 = .ok (.aload_n 0, 1) := oc_42 (by decide +kernel)
theorem dX12_feed_1 : decode cX12_feed 1 = .ok (.getfield 127, 3) := oc_180 (a := 0) (b := 127) (by decide +kernel)
theorem dX12_feed_4 : decode cX12_feed 4 = .ok (.bipush 20, 2) := oc_16 (a := 20) (by decide +kernel)
theorem dX12_feed_6 : decode cX12_feed 6 = .ok (.iadd, 1) := oc_96 (by decide +kernel)
theorem dX12_feed_7 : decode cX12_feed 7 = .ok (.sipush 300, 3) := oc_17 (a := 1) (b := 44) (by decide +kernel)
theorem dX12_feed_10 : decode cX12_feed 10 = .ok (.if_icmp .le 5, 3) := oc_164 (a := 0) (b := 5) (by decide +kernel)
theorem dX12_feed_15 : decode cX12_feed 15 = .ok (.aload_n 0, 1) := oc_42 (by decide +kernel)
theorem dX12_feed_16 : decode cX12_feed 16 = .ok (.iload_n 1, 1) := oc_27 (by decide +kernel)
theorem tw_632 : Cond.methodLink RX12 130 yX12_four ∈ wsL_law := sg_27 _ (List.mem_of_getElem? (i := 8) rfl)
theorem tw_633 : Cond.instanceMethod yX12_four ∈ wsL_law := sg_27 _ (List.mem_of_getElem? (i := 9) rfl)
theorem tw_634 : Cond.selects RX12 yX12_four yX12_four ∈ wsL_law := sg_27 _ (List.mem_of_getElem? (i := 10) rfl)
theorem tw_635 : Cond.code yX12_four cX12_four 3 none ∈ wsL_law := sg_27 _ (List.mem_of_getElem? (i := 11) rfl)
theorem dX12_feed_17 : decode cX12_feed 17 = .ok (.invokevirtual 130, 3) := oc_182 (a := 0) (b := 130) (by decide +kernel)
theorem dX12_feed_20 : decode cX12_feed 20 = .ok (.aload_n 0, 1) := oc_42 (by decide +kernel)
theorem dX12_feed_21 : decode cX12_feed 21 = .ok (.iload_n 2, 1) := oc_28 (by decide +kernel)
theorem dX12_feed_22 : decode cX12_feed 22 = .ok (.invokevirtual 130, 3) := oc_182 (a := 0) (b := 130) (by decide +kernel)
theorem dX12_feed_25 : decode cX12_feed 25 = .ok (.aload_n 0, 1) := oc_42 (by decide +kernel)
theorem dX12_feed_26 : decode cX12_feed 26 = .ok (.iload_n 3, 1) := oc_29 (by decide +kernel)
theorem dX12_feed_27 : decode cX12_feed 27 = .ok (.invokevirtual 130, 3) := oc_182 (a := 0) (b := 130) (by decide +kernel)
theorem dX12_feed_30 : decode cX12_feed 30 = .ok (.aload_n 0, 1) := oc_42 (by decide +kernel)
theorem dX12_feed_31 : decode cX12_feed 31 = .ok (.iload 4, 2) := oc_21 (by decide +kernel)
theorem dX12_feed_33 : decode cX12_feed 33 = .ok (.invokevirtual 130, 3) := oc_182 (a := 0) (b := 130) (by decide +kernel)
theorem dX12_feed_36 : decode cX12_feed 36 = .ok (.aload_n 0, 1) := oc_42 (by decide +kernel)
theorem dX12_feed_37 : decode cX12_feed 37 = .ok (.iload 5, 2) := oc_21 (by decide +kernel)
theorem dX12_feed_39 : decode cX12_feed 39 = .ok (.invokevirtual 130, 3) := oc_182 (a := 0) (b := 130) (by decide +kernel)
theorem dX12_feed_42 : decode cX12_feed 42 = .ok (.aload_n 0, 1) := oc_42 (by decide +kernel)
theorem dX12_feed_43 : decode cX12_feed 43 = .ok (.getfield 127, 3) := oc_180 (a := 0) (b := 127) (by decide +kernel)
theorem dX12_feed_46 : decode cX12_feed 46 = .ok (.ireturn, 1) := oc_172 (by decide +kernel)
theorem dX12_feed_13 : decode cX12_feed 13 = .ok (.iconst (-1), 1) := oc_2 (by decide +kernel)
theorem dX12_feed_14 : decode cX12_feed 14 = .ok (.ireturn, 1) := oc_172 (by decide +kernel)
theorem dX12_end_0 : decode cX12_end 0 = .ok (.iload_n 1, 1) := oc_27 (by decide +kernel)
theorem dX12_end_1 : decode cX12_end 1 = .ok (.iconst 0, 1) := oc_3 (by decide +kernel)
theorem dX12_end_2 : decode cX12_end 2 = .ok (.aload_n 0, 1) := oc_42 (by decide +kernel)
theorem dX12_end_3 : decode cX12_end 3 = .ok (.getfield 127, 3) := oc_180 (a := 0) (b := 127) (by decide +kernel)
theorem dX12_end_6 : decode cX12_end 6 = .ok (.invokestatic 62, 3) := oc_184 (a := 0) (b := 62) (by decide +kernel)
theorem dX12_end_9 : decode cX12_end 9 = .ok (.ifCond .ne 5, 3) := oc_154 (a := 0) (b := 5) (by decide +kernel)
theorem dX12_end_14 : decode cX12_end 14 = .ok (.aload_n 0, 1) := oc_42 (by decide +kernel)
theorem dX12_end_15 : decode cX12_end 15 = .ok (.iload_n 1, 1) := oc_27 (by decide +kernel)
theorem dX12_end_16 : decode cX12_end 16 = .ok (.putfield 127, 3) := oc_181 (a := 0) (b := 127) (by decide +kernel)
theorem dX12_end_19 : decode cX12_end 19 = .ok (.iload_n 1, 1) := oc_27 (by decide +kernel)
theorem dX12_end_20 : decode cX12_end 20 = .ok (.ireturn, 1) := oc_172 (by decide +kernel)
theorem dX12_end_12 : decode cX12_end 12 = .ok (.iconst (-1), 1) := oc_2 (by decide +kernel)
theorem dX12_end_13 : decode cX12_end 13 = .ok (.ireturn, 1) := oc_172 (by decide +kernel)
set_option maxHeartbeats 4000000 in
set_option maxRecDepth 100000 in
theorem s_X12_stands (l : Launch) (D : va_G) (t : pq_T) (σ : pq_S) (I : Nat → Nat → Int32) (J : Nat → Nat → Int64) (ri : Nat → Nat → Int32) (rj : Nat → Nat → Int64) (rq : Nat → Nat → Option Nat) (sz : Nat) (tg : Nat → Nat) (hSH : SH σ tg) (hG0 : GT tg I ri) (this : Nat) (a0 : Int32) (hL_this : this ∈ σ.1) (hK_this : σ.2.1 this = 12) (h_a0 : rg a0 0 39) : MetI l yX12_stands (wa yX12_stands cX12_stands 3 (some .boolean)) ({ frames := 4, cells := 0, slots := 0, locals := 102 }) [.ref this, .int a0] D t σ (I, J, ri, rj, rq) sz 0 0 (fun (r : Int32) (u : pq_S × pq_M) => ∃ ri' : Nat → Nat → Int32, ∃ rj' : Nat → Nat → Int64, u = (σ, I, J, ri', rj', rq) ∧ GM [] tg σ I ri I ri' rq ∧ ((r = 1 ∧ True) ∨ (r = 0 ∧ True))) := by
  refine Met.ofW (cc := cX12_stands) (maxL := 3) (ret := (some .boolean)) (by decide) rfl ?_
  intro p e s m args below meth c s₁ B hml hv
  obtain ⟨rfl, hsz, hP, hK, hD0, hN⟩ := hv
  have hx := B.exec
  have hb := B.bytes
  have hr := B.returns
  have hts := atoms_spec (ws := (wa yX12_stands cX12_stands 3 (some .boolean))) B.pre
  have hown : s.vm.findClass RX12 = some m.cls := findClass_of_methodNamed B.named
  have hlocks := B.notSynchronized
  subst hsz
  have hD : va_D (pq_B t σ (I, J, ri, rj, rq) s.heap.size) (pq_P t σ (I, J, ri, rj, rq)) := hD0.self
  generalize hAe : pq_B t σ (I, J, ri, rj, rq) s.heap.size = A at hD ⊢
  have hA : ∀ q : Nat, s.heap.size ≤ q → A q := fun q h => by rw [← hAe]; exact Or.inr h
  have hS : va_S A s.heap s.heap [] := va_S.rf
  have hG : GM [] tg σ I ri I ri rq := ⟨hG0, fun _ _ _ => rfl, fun _ _ _ _ _ => rfl, fun _ _ _ _ _ _ => rfl⟩
  have hl := lv_entry ([.ref this, .int a0]) (n := 3) (Nat.le_of_ble_eq_true rfl)
  rw [lg_entry_eq]
  generalize (lg_sl ([.ref this, .int a0]) ++ List.replicate (3 - (lg_sl ([.ref this, .int a0])).length) Slot.unset).toArray = ls at hl ⊢
  have hl : lv_has ls 3 [(0, .ref this), (1, .int a0)] := hl
  refine q_gen (fun Q hQ => ?_)
  have go : ∀ (H : Heap) (locs : List Loc) (ls : Array Slot), va_P D vwCl (pq_P t σ (I, J, ri, rj, rq)) H → va_D A (pq_P t σ (I, J, ri, rj, rq)) → va_S A s.heap H locs → lv_has ls 3 [(0, .ref this), (1, .int a0)] → W p l e ({ frames := 4, cells := 0, slots := 0, locals := 102 } : Room) s m (List.toArray ([.ref this, .int a0] : List Value)) below meth c H locs 0 0 Q (F0 m 0 ls []) := by
    intro H locs ls hP hD hS hl
    refine lv_aload_n hx hb dX12_stands_0 rfl (lv_at hl 0 rfl) ?_
    refine lv_iload_n hx hb dX12_stands_1 rfl (lv_at hl 1 rfl) ?_
    refine lv_bipush (v := 14) hx hb dX12_stands_2 (by decide) ?_
    refine pk_i (va_runV (As := [.int a0, .int 14]) (rest := []) ⟨hx, hb, hml, hown, hts⟩ (s_X12_cellAt_c14 l D t σ I J ri rj rq H.size tg hSH hG.1 this a0 hL_this hK_this (rg_w h_a0 (by decide))) (cwV 2 hts (tw_V tw_361 tw_362 tw_363 tw_5 tw_364) rfl rfl rfl cv_yX12_cellAt_2 ⟨Nat.le_of_ble_eq_true rfl, Nat.le_of_ble_eq_true rfl⟩) ⟨pq_blind, pq_recv hK hP hL_this hK_this (by decide) rfl, pq_pre hK hN hP hD⟩ rfl rfl hl.1 rfl (lv_room (Nat.le_of_ble_eq_true rfl)) dX12_stands_4 ⟨Nat.le_of_ble_eq_true rfl, Nat.le_of_ble_eq_true rfl⟩) hD hS hA (fun x_1 σ1 μ1 H locs hw_2 hP hD hS => ?_)
    obtain ⟨hu_3, hr_5⟩ := hw_2
    obtain ⟨hu_3a, hu_3b⟩ := Prod.mk.inj hu_3
    rw [hu_3a, hu_3b] at hP hD
    refine lv_istore_n (lv' := [(2, .int x_1), (0, .ref this), (1, .int a0)]) hx hb dX12_stands_7 rfl hl (by decide) rfl (fun ls hl => ?_)
    refine lv_iload_n hx hb dX12_stands_8 rfl (lv_at hl 0 rfl) ?_
    refine lv_if_ge (tgt := 14) hx hb dX12_stands_9 (by decide) (fun c_6 => ?_) (fun c_6 => ?_)
    · have tc_7 : 0 ≤ (x_1).toInt := Int32.le_iff_toInt_le.mp c_6
      have h_8 : rg x_1 0 39 := rg_le2 c_6 (rg_k (0 : Int32) 0 rfl) hr_5 (by decide)
      have uh_8 := h_8.1
      have vh_8 := h_8.2
      refine lv_aload_n hx hb dX12_stands_14 rfl (lv_at hl 1 rfl) ?_
      obtain ⟨w_9, hR_w_9, hL_w_9, hK_w_9, hN_w_9, hT_w_9⟩ := sh_a hSH 384 (ci := 12) (kd := 13) (len := 12720) rfl (by decide) hL_this hK_this
      refine pg_f (v := .ref w_9) (C := RX12) (T := TX12) (N := 31) hx hb hts (tw_i inlX12) hown hK hP hL_this hK_this (by decide) rfl 0 (by decide) (hts _ (tw_c tw_176)) (pq_hv rfl hR_w_9) dX12_stands_15 ?_
      refine lv_iconst (v := 0) hx hb dX12_stands_18 (by decide) ?_
      refine pl_i hx hb hK hP hL_w_9 hK_w_9 hN_w_9 (vp_in_iff.mpr (by decide)) dX12_stands_19 ?_
      refine lv_tov (ri w_9 0) rfl ?_
      have h_10 : rg (ri w_9 0) 0 600 := GM.z0 hG0 (by rw [hT_w_9]; decide) (i := 0) (k := 0) (by decide) rfl
      have uh_10 := h_10.1
      have vh_10 := h_10.2
      have K_45 : ∀  (ri_43 : Nat → Nat → Int32) (rj_44 : Nat → Nat → Int64) (H : Heap) (locs : List Loc) (ls : Array Slot), GM [] tg σ I ri I ri_43 rq → va_P D vwCl (pq_P t σ (I, J, ri_43, rj_44, rq)) H → va_D A (pq_P t σ (I, J, ri_43, rj_44, rq)) → va_S A s.heap H locs → lv_has ls 3 [] → W p l e ({ frames := 4, cells := 0, slots := 0, locals := 102 } : Room) s m (List.toArray ([.ref this, .int a0] : List Value)) below meth c H locs 0 0 Q (F0 m 56 ls []) := by
        intro ri_43 rj_44 H locs ls hG hP hD hS hl
        refine lv_iconst (v := 1) hx hb dX12_stands_56 (by decide) ?_
        refine lv_goto (tgt := 61) hx hb dX12_stands_57 (by decide) ?_
        subst hQ
        exact W.zret (v := 1) hx hb hr (by decide) (fun t1 ht hW => ⟨⟨1, (σ, I, J, ri_43, rj_44, rq), rfl, ⟨ri_43, rj_44, rfl, hG, (Or.inl ⟨rfl, trivial⟩)⟩, by rw [ht]; exact hP, va_K.moved hW.alike hK, hD⟩, hS.F ht⟩) hS.2.2 dX12_stands_61
      refine lv_if_eq (tgt := 56) hx hb dX12_stands_20 (by decide) (fun c_46 => ?_) (fun c_46 => ?_)
      · have tc_47 : (ri w_9 0).toInt = 0 := congrArg Int32.toInt c_46
        have h_48 : rg (ri w_9 0) 0 0 := rg_and h_10 (rg_of_eq c_46 (rg_k (0 : Int32) 0 rfl)) (by decide)
        have uh_48 := h_48.1
        have vh_48 := h_48.2
        exact K_45 ri rj _ _ _ hG hP hD hS (lv_sub hl [] rfl)
      · have tc_49 : (ri w_9 0).toInt ≠ 0 := fun q => c_46 (Int32.toInt_inj.mp q)
        have h_50 : rg (ri w_9 0) 1 600 := rg_ne c_46 h_10 0 rfl (by decide)
        have uh_50 := h_50.1
        have vh_50 := h_50.2
        refine lv_aload_n hx hb dX12_stands_23 rfl (lv_at hl 1 rfl) ?_
        refine lv_iload_n hx hb dX12_stands_24 rfl (lv_at hl 2 rfl) ?_
        refine lv_bipush (v := 12) hx hb dX12_stands_25 (by decide) ?_
        refine pk_i (va_runV (As := [.int a0, .int 12]) (rest := []) ⟨hx, hb, hml, hown, hts⟩ (s_X12_cellAt_c12 l D t σ I J ri rj rq H.size tg hSH hG.1 this a0 hL_this hK_this (rg_w h_a0 (by decide))) (cwV 2 hts (tw_V tw_361 tw_362 tw_363 tw_5 tw_364) rfl rfl rfl cv_yX12_cellAt_2 ⟨Nat.le_of_ble_eq_true rfl, Nat.le_of_ble_eq_true rfl⟩) ⟨pq_blind, pq_recv hK hP hL_this hK_this (by decide) rfl, pq_pre hK hN hP hD⟩ rfl rfl hl.1 rfl (lv_room (Nat.le_of_ble_eq_true rfl)) dX12_stands_27 ⟨Nat.le_of_ble_eq_true rfl, Nat.le_of_ble_eq_true rfl⟩) hD hS hA (fun x_51 σ1 μ1 H locs hw_52 hP hD hS => ?_)
        have hu_53 := hw_52
        obtain ⟨hu_53a, hu_53b⟩ := Prod.mk.inj hu_53
        rw [hu_53a, hu_53b] at hP hD
        refine lv_iconst (v := 1) hx hb dX12_stands_30 (by decide) ?_
        refine lv_icmp_eq (tgt := 56) hx hb dX12_stands_31 (by decide) (fun c_56 => ?_) (fun c_56 => ?_)
        · have tc_57 : (x_51).toInt = 1 := congrArg Int32.toInt c_56
          have h_58 : rg x_51 1 1 := rg_and (rg_full _) (rg_of_eq c_56 (rg_k (1 : Int32) 1 rfl)) (by decide)
          have uh_58 := h_58.1
          have vh_58 := h_58.2
          exact K_45 ri rj _ _ _ hG hP hD hS (lv_sub hl [] rfl)
        · have tc_59 : (x_51).toInt ≠ 1 := fun q => c_56 (Int32.toInt_inj.mp q)
          refine lv_aload_n hx hb dX12_stands_34 rfl (lv_at hl 1 rfl) ?_
          refine lv_iconst (v := 1) hx hb dX12_stands_35 (by decide) ?_
          refine lv_iload_n hx hb dX12_stands_36 rfl (lv_at hl 0 rfl) ?_
          refine lv_aload_n hx hb dX12_stands_37 rfl (lv_at hl 1 rfl) ?_
          refine pg_f (v := .ref w_9) (C := RX12) (T := TX12) (N := 31) hx hb hts (tw_i inlX12) hown hK hP hL_this hK_this (by decide) rfl 0 (by decide) (hts _ (tw_c tw_176)) (pq_hv rfl hR_w_9) dX12_stands_38 ?_
          refine lv_iconst (v := 0) hx hb dX12_stands_41 (by decide) ?_
          refine pl_i hx hb hK hP hL_w_9 hK_w_9 hN_w_9 (vp_in_iff.mpr (by decide)) dX12_stands_42 ?_
          refine lv_tov (ri w_9 0) rfl ?_
          refine lv_aload_n hx hb dX12_stands_43 rfl (lv_at hl 1 rfl) ?_
          refine lv_iload_n hx hb dX12_stands_44 rfl (lv_at hl 2 rfl) ?_
          refine lv_bipush (v := 11) hx hb dX12_stands_45 (by decide) ?_
          refine pk_i (va_runV (As := [.int a0, .int 11]) (rest := [.int (ri w_9 0), .int x_1, .int 1, .ref this]) ⟨hx, hb, hml, hown, hts⟩ (s_X12_cellAt_c11 l D t σ I J ri rj rq H.size tg hSH hG.1 this a0 hL_this hK_this (rg_w h_a0 (by decide))) (cwV 2 hts (tw_V tw_361 tw_362 tw_363 tw_5 tw_364) rfl rfl rfl cv_yX12_cellAt_2 ⟨Nat.le_of_ble_eq_true rfl, Nat.le_of_ble_eq_true rfl⟩) ⟨pq_blind, pq_recv hK hP hL_this hK_this (by decide) rfl, pq_pre hK hN hP hD⟩ rfl rfl hl.1 rfl (lv_room (Nat.le_of_ble_eq_true rfl)) dX12_stands_47 ⟨Nat.le_of_ble_eq_true rfl, Nat.le_of_ble_eq_true rfl⟩) hD hS hA (fun x_60 σ1 μ1 H locs hw_61 hP hD hS => ?_)
          have hu_62 := hw_61
          obtain ⟨hu_62a, hu_62b⟩ := Prod.mk.inj hu_62
          rw [hu_62a, hu_62b] at hP hD
          refine pk_i (va_runV (As := [.int 1, .int x_1, .int (ri w_9 0), .int x_60]) (rest := []) ⟨hx, hb, hml, hown, hts⟩ (s_X12_firstSo l D t σ I J ri rj rq H.size tg hSH hG.1 this (1 : Int32) x_1 (ri w_9 0) x_60 hL_this hK_this (rg_w (rg_k (1 : Int32) 1 rfl) (by decide)) (rg_w h_8 (by decide)) w_9 hR_w_9 hL_w_9 hK_w_9 hN_w_9 hT_w_9) (cwV 4 hts (tw_V tw_597 tw_598 tw_599 tw_5 tw_600) rfl rfl rfl cv_yX12_firstSo_4 ⟨Nat.le_of_ble_eq_true rfl, Nat.le_of_ble_eq_true rfl⟩) ⟨pq_blind, pq_recv hK hP hL_this hK_this (by decide) rfl, pq_pre hK hN hP hD⟩ rfl rfl hl.1 rfl (lv_room (Nat.le_of_ble_eq_true rfl)) dX12_stands_50 ⟨Nat.le_of_ble_eq_true rfl, Nat.le_of_ble_eq_true rfl⟩) hD hS hA (fun x_65 σ1 μ1 H locs hw_66 hP hD hS => ?_)
          obtain ⟨ri_67, rj_68, hu_69, hg_70, hp_72, hr_71⟩ := hw_66
          obtain ⟨hu_69a, hu_69b⟩ := Prod.mk.inj hu_69
          rw [hu_69a, hu_69b] at hP hD
          have hG := GM.tr hG hg_70 (by decide)
          refine lv_if_lt (tgt := 60) hx hb dX12_stands_53 (by decide) (fun c_73 => ?_) (fun c_73 => ?_)
          · have tc_74 : (x_65).toInt < 0 := Int32.lt_iff_toInt_lt.mp c_73
            have h_75 : rg x_65 (-1) (-1) := rg_lt1 c_73 hr_71 (rg_k (0 : Int32) 0 rfl) (by decide)
            have uh_75 := h_75.1
            have vh_75 := h_75.2
            refine lv_iconst (v := 0) hx hb dX12_stands_60 (by decide) ?_
            subst hQ
            exact W.zret (v := 0) hx hb hr (by decide) (fun t1 ht hW => ⟨⟨0, (σ, I, J, ri_67, rj_68, rq), rfl, ⟨ri_67, rj_68, rfl, hG, (Or.inr ⟨rfl, trivial⟩)⟩, by rw [ht]; exact hP, va_K.moved hW.alike hK, hD⟩, hS.F ht⟩) hS.2.2 dX12_stands_61
          · have tc_76 : 0 ≤ (x_65).toInt := Int32.le_iff_toInt_le.mp (nlt c_73)
            have h_77 : rg x_65 0 19 := rg_le2 (nlt c_73) (rg_k (0 : Int32) 0 rfl) hr_71 (by decide)
            have uh_77 := h_77.1
            have vh_77 := h_77.2
            exact K_45 ri_67 rj_68 _ _ _ hG hP hD hS (lv_sub hl [] rfl)
    · have tc_78 : (x_1).toInt < 0 := Int32.lt_iff_toInt_lt.mp (nle c_6)
      have h_79 : rg x_1 (-1) (-1) := rg_lt1 (nle c_6) hr_5 (rg_k (0 : Int32) 0 rfl) (by decide)
      have uh_79 := h_79.1
      have vh_79 := h_79.2
      refine lv_iconst (v := 0) hx hb dX12_stands_12 (by decide) ?_
      subst hQ
      exact W.zret (v := 0) hx hb hr (by decide) (fun t1 ht hW => ⟨⟨0, (σ, I, J, ri, rj, rq), rfl, ⟨ri, rj, rfl, hG, (Or.inr ⟨rfl, trivial⟩)⟩, by rw [ht]; exact hP, va_K.moved hW.alike hK, hD⟩, hS.F ht⟩) hS.2.2 dX12_stands_13
  exact go _ _ _ hP hD hS hl

set_option maxHeartbeats 4000000 in
set_option maxRecDepth 100000 in
theorem s_X12_titleOf (l : Launch) (D : va_G) (t : pq_T) (σ : pq_S) (I : Nat → Nat → Int32) (J : Nat → Nat → Int64) (ri : Nat → Nat → Int32) (rj : Nat → Nat → Int64) (rq : Nat → Nat → Option Nat) (sz : Nat) (tg : Nat → Nat) (hSH : SH σ tg) (hG0 : GT tg I ri) (this : Nat) (a0 : Int32) (a1 : Int32) (hL_this : this ∈ σ.1) (hK_this : σ.2.1 this = 12) : MetI l yX12_titleOf (wa yX12_titleOf cX12_titleOf 3 (some .int)) ({ frames := 5, cells := 0, slots := 0, locals := 124 }) [.ref this, .int a0, .int a1] D t σ (I, J, ri, rj, rq) sz 0 0 (fun (r : Int32) (u : pq_S × pq_M) => ∃ ri' : Nat → Nat → Int32, ∃ rj' : Nat → Nat → Int64, u = (σ, I, J, ri', rj', rq) ∧ GM [] tg σ I ri I ri' rq ∧ rg r (-1) 39) := by
  refine Met.ofW (cc := cX12_titleOf) (maxL := 3) (ret := (some .int)) (by decide) rfl ?_
  intro p e s m args below meth c s₁ B hml hv
  obtain ⟨rfl, hsz, hP, hK, hD0, hN⟩ := hv
  have hx := B.exec
  have hb := B.bytes
  have hr := B.returns
  have hts := atoms_spec (ws := (wa yX12_titleOf cX12_titleOf 3 (some .int))) B.pre
  have hown : s.vm.findClass RX12 = some m.cls := findClass_of_methodNamed B.named
  have hlocks := B.notSynchronized
  subst hsz
  have hD : va_D (pq_B t σ (I, J, ri, rj, rq) s.heap.size) (pq_P t σ (I, J, ri, rj, rq)) := hD0.self
  generalize hAe : pq_B t σ (I, J, ri, rj, rq) s.heap.size = A at hD ⊢
  have hA : ∀ q : Nat, s.heap.size ≤ q → A q := fun q h => by rw [← hAe]; exact Or.inr h
  have hS : va_S A s.heap s.heap [] := va_S.rf
  have hG : GM [] tg σ I ri I ri rq := ⟨hG0, fun _ _ _ => rfl, fun _ _ _ _ _ => rfl, fun _ _ _ _ _ _ => rfl⟩
  have hl := lv_entry ([.ref this, .int a0, .int a1]) (n := 3) (Nat.le_of_ble_eq_true rfl)
  rw [lg_entry_eq]
  generalize (lg_sl ([.ref this, .int a0, .int a1]) ++ List.replicate (3 - (lg_sl ([.ref this, .int a0, .int a1])).length) Slot.unset).toArray = ls at hl ⊢
  have hl : lv_has ls 3 [(0, .ref this), (1, .int a0), (2, .int a1)] := hl
  refine q_gen (fun Q hQ => ?_)
  have go : ∀ (H : Heap) (locs : List Loc) (ls : Array Slot), va_P D vwCl (pq_P t σ (I, J, ri, rj, rq)) H → va_D A (pq_P t σ (I, J, ri, rj, rq)) → va_S A s.heap H locs → lv_has ls 3 [(0, .ref this), (1, .int a0), (2, .int a1)] → W p l e ({ frames := 5, cells := 0, slots := 0, locals := 124 } : Room) s m (List.toArray ([.ref this, .int a0, .int a1] : List Value)) below meth c H locs 0 0 Q (F0 m 0 ls []) := by
    intro H locs ls hP hD hS hl
    refine lv_aload_n hx hb dX12_titleOf_0 rfl (lv_at hl 0 rfl) ?_
    refine lv_iload_n hx hb dX12_titleOf_1 rfl (lv_at hl 1 rfl) ?_
    refine pk_i (va_runV (As := [.int a0]) (rest := []) ⟨hx, hb, hml, hown, hts⟩ (s_X12_isCell l D t σ I J ri rj rq H.size tg hSH hG.1 this a0 hL_this hK_this) (cwV 1 hts (tw_V tw_340 tw_341 tw_342 tw_5 tw_343) rfl rfl rfl cv_yX12_isCell_1 ⟨Nat.le_of_ble_eq_true rfl, Nat.le_of_ble_eq_true rfl⟩) ⟨pq_blind, pq_recv hK hP hL_this hK_this (by decide) rfl, pq_pre hK hN hP hD⟩ rfl rfl hl.1 rfl (lv_room (Nat.le_of_ble_eq_true rfl)) dX12_titleOf_2 ⟨Nat.le_of_ble_eq_true rfl, Nat.le_of_ble_eq_true rfl⟩) hD hS hA (fun x_1 σ1 μ1 H locs hw_2 hP hD hS => ?_)
    obtain ⟨hu_3, hr_5⟩ := hw_2
    obtain ⟨hu_3a, hu_3b⟩ := Prod.mk.inj hu_3
    rw [hu_3a, hu_3b] at hP hD
    have h_6 : rg x_1 0 1 := by rcases hr_5 with ⟨q, -⟩ | ⟨q, -⟩ <;> rw [q] <;> exact ⟨by decide, by decide⟩
    have uh_6 := h_6.1
    have vh_6 := h_6.2
    have K_55 : ∀  (H : Heap) (locs : List Loc) (ls : Array Slot), GM [] tg σ I ri I ri rq → va_P D vwCl (pq_P t σ (I, J, ri, rj, rq)) H → va_D A (pq_P t σ (I, J, ri, rj, rq)) → va_S A s.heap H locs → lv_has ls 3 [] → W p l e ({ frames := 5, cells := 0, slots := 0, locals := 124 } : Room) s m (List.toArray ([.ref this, .int a0, .int a1] : List Value)) below meth c H locs 0 0 Q (F0 m 17 ls []) := by
      intro H locs ls hG hP hD hS hl
      refine lv_iconst (v := (-1)) hx hb dX12_titleOf_17 (by decide) ?_
      subst hQ
      exact W.iret (v := (-1)) hx hb hr (fun t1 ht hW => ⟨⟨(-1), (σ, I, J, ri, rj, rq), rfl, ⟨ri, rj, rfl, hG, (rg_w (rg_k (-1 : Int32) (-1) rfl) (by decide))⟩, by rw [ht]; exact hP, va_K.moved hW.alike hK, hD⟩, hS.F ht⟩) hS.2.2 dX12_titleOf_18
    refine lv_if_eq (tgt := 17) hx hb dX12_titleOf_5 (by decide) (fun c_56 => ?_) (fun c_56 => ?_)
    · have f_57 := (hr_5.resolve_left (fun q => absurd (q.1.symm.trans c_56) (by decide))).2
      have tc_58 : (x_1).toInt = 0 := congrArg Int32.toInt c_56
      have h_59 : rg x_1 0 0 := rg_and h_6 (rg_of_eq c_56 (rg_k (0 : Int32) 0 rfl)) (by decide)
      have uh_59 := h_59.1
      have vh_59 := h_59.2
      exact K_55 _ _ _ hG hP hD hS (lv_sub hl [] rfl)
    · have f_60 := (hr_5.resolve_right (fun q => c_56 q.1)).2
      have uf_60 := f_60.1
      have vf_60 := f_60.2
      have tc_61 : (x_1).toInt ≠ 0 := fun q => c_56 (Int32.toInt_inj.mp q)
      have h_62 : rg x_1 1 1 := rg_ne c_56 h_6 0 rfl (by decide)
      have uh_62 := h_62.1
      have vh_62 := h_62.2
      refine lv_iload_n hx hb dX12_titleOf_8 rfl (lv_at hl 2 rfl) ?_
      refine lv_iconst (v := 0) hx hb dX12_titleOf_9 (by decide) ?_
      refine lv_iconst (v := 1) hx hb dX12_titleOf_10 (by decide) ?_
      refine pk_i (va_runS (As := [.int a1, .int 0, .int 1]) (rest := []) ⟨hx, hb, hml, hown, hts⟩ (s_X12_isIn l D t σ I J ri rj rq H.size tg hSH hG.1 a1 (0 : Int32) (1 : Int32)) (va_cwS 3 hts (tw_S tw_235 tw_236 tw_5 tw_237) rfl rfl rfl cd_yX12_isIn_3 ⟨Nat.le_of_ble_eq_true rfl, Nat.le_of_ble_eq_true rfl⟩) ⟨pq_blind, pq_pre hK hN hP hD⟩ rfl rfl hl.1 rfl (lv_room (Nat.le_of_ble_eq_true rfl)) dX12_titleOf_11 ⟨Nat.le_of_ble_eq_true rfl, Nat.le_of_ble_eq_true rfl⟩) hD hS hA (fun x_63 σ1 μ1 H locs hw_64 hP hD hS => ?_)
      obtain ⟨hu_65, hr_67⟩ := hw_64
      obtain ⟨hu_65a, hu_65b⟩ := Prod.mk.inj hu_65
      rw [hu_65a, hu_65b] at hP hD
      have h_68 : rg x_63 0 1 := by rcases hr_67 with ⟨q, -⟩ | ⟨q, -⟩ <;> rw [q] <;> exact ⟨by decide, by decide⟩
      have uh_68 := h_68.1
      have vh_68 := h_68.2
      refine lv_if_ne (tgt := 19) hx hb dX12_titleOf_14 (by decide) (fun c_69 => ?_) (fun c_69 => ?_)
      · obtain ⟨f_70, f_71⟩ := (hr_67.resolve_right (fun q => c_69 q.1)).2
        have tc_72 : 0 ≤ (a1).toInt := Int32.le_iff_toInt_le.mp f_70
        have h_73 : rg a1 0 2147483647 := rg_le2 f_70 (rg_k (0 : Int32) 0 rfl) (rg_full _) (by decide)
        have uh_73 := h_73.1
        have vh_73 := h_73.2
        have tc_74 : (a1).toInt ≤ 1 := Int32.le_iff_toInt_le.mp f_71
        have h_75 : rg a1 0 1 := rg_le1 f_71 h_73 (rg_k (1 : Int32) 1 rfl) (by decide)
        have uh_75 := h_75.1
        have vh_75 := h_75.2
        have tc_76 : (x_63).toInt ≠ 0 := fun q => c_69 (Int32.toInt_inj.mp q)
        have h_77 : rg x_63 1 1 := rg_ne c_69 h_68 0 rfl (by decide)
        have uh_77 := h_77.1
        have vh_77 := h_77.2
        refine lv_iload_n hx hb dX12_titleOf_19 rfl (lv_at hl 2 rfl) ?_
        refine lv_if_ne (tgt := 33) hx hb dX12_titleOf_20 (by decide) (fun c_78 => ?_) (fun c_78 => ?_)
        · have tc_79 : (a1).toInt ≠ 0 := fun q => c_78 (Int32.toInt_inj.mp q)
          have h_80 : rg a1 1 1 := rg_ne c_78 h_75 0 rfl (by decide)
          have uh_80 := h_80.1
          have vh_80 := h_80.2
          refine lv_aload_n hx hb dX12_titleOf_33 rfl (lv_at hl 0 rfl) ?_
          refine lv_iload_n hx hb dX12_titleOf_34 rfl (lv_at hl 1 rfl) ?_
          refine pk_i (va_runV (As := [.int a0]) (rest := []) ⟨hx, hb, hml, hown, hts⟩ (s_X12_stands l D t σ I J ri rj rq H.size tg hSH hG.1 this a0 hL_this hK_this (rg_w f_60 (by decide))) (cwV 1 hts (tw_V tw_593 tw_594 tw_595 tw_5 tw_596) rfl rfl rfl cv_yX12_stands_1 ⟨Nat.le_of_ble_eq_true rfl, Nat.le_of_ble_eq_true rfl⟩) ⟨pq_blind, pq_recv hK hP hL_this hK_this (by decide) rfl, pq_pre hK hN hP hD⟩ rfl rfl hl.1 rfl (lv_room (Nat.le_of_ble_eq_true rfl)) dX12_titleOf_35 ⟨Nat.le_of_ble_eq_true rfl, Nat.le_of_ble_eq_true rfl⟩) hD hS hA (fun x_81 σ1 μ1 H locs hw_82 hP hD hS => ?_)
          obtain ⟨ri_83, rj_84, hu_85, hg_86, hr_87⟩ := hw_82
          obtain ⟨hu_85a, hu_85b⟩ := Prod.mk.inj hu_85
          rw [hu_85a, hu_85b] at hP hD
          have hG := GM.tr hG hg_86 (by decide)
          have h_88 : rg x_81 0 1 := by rcases hr_87 with ⟨q, -⟩ | ⟨q, -⟩ <;> rw [q] <;> exact ⟨by decide, by decide⟩
          have uh_88 := h_88.1
          have vh_88 := h_88.2
          refine lv_if_eq (tgt := 45) hx hb dX12_titleOf_38 (by decide) (fun c_89 => ?_) (fun c_89 => ?_)
          · have tc_90 : (x_81).toInt = 0 := congrArg Int32.toInt c_89
            have h_91 : rg x_81 0 0 := rg_and h_88 (rg_of_eq c_89 (rg_k (0 : Int32) 0 rfl)) (by decide)
            have uh_91 := h_91.1
            have vh_91 := h_91.2
            refine lv_iconst (v := 0) hx hb dX12_titleOf_45 (by decide) ?_
            subst hQ
            exact W.iret (v := 0) hx hb hr (fun t1 ht hW => ⟨⟨0, (σ, I, J, ri_83, rj_84, rq), rfl, ⟨ri_83, rj_84, rfl, hG, (rg_w (rg_k (0 : Int32) 0 rfl) (by decide))⟩, by rw [ht]; exact hP, va_K.moved hW.alike hK, hD⟩, hS.F ht⟩) hS.2.2 dX12_titleOf_46
          · have tc_92 : (x_81).toInt ≠ 0 := fun q => c_89 (Int32.toInt_inj.mp q)
            have h_93 : rg x_81 1 1 := rg_ne c_89 h_88 0 rfl (by decide)
            have uh_93 := h_93.1
            have vh_93 := h_93.2
            refine lv_iconst (v := 1) hx hb dX12_titleOf_41 (by decide) ?_
            refine lv_goto (tgt := 46) hx hb dX12_titleOf_42 (by decide) ?_
            subst hQ
            exact W.iret (v := 1) hx hb hr (fun t1 ht hW => ⟨⟨1, (σ, I, J, ri_83, rj_84, rq), rfl, ⟨ri_83, rj_84, rfl, hG, (rg_w (rg_k (1 : Int32) 1 rfl) (by decide))⟩, by rw [ht]; exact hP, va_K.moved hW.alike hK, hD⟩, hS.F ht⟩) hS.2.2 dX12_titleOf_46
        · have tc_94 : (a1).toInt = 0 := congrArg Int32.toInt c_78
          have h_95 : rg a1 0 0 := rg_and h_75 (rg_of_eq c_78 (rg_k (0 : Int32) 0 rfl)) (by decide)
          have uh_95 := h_95.1
          have vh_95 := h_95.2
          refine lv_aload_n hx hb dX12_titleOf_23 rfl (lv_at hl 0 rfl) ?_
          refine lv_iload_n hx hb dX12_titleOf_24 rfl (lv_at hl 1 rfl) ?_
          refine lv_bipush (v := 14) hx hb dX12_titleOf_25 (by decide) ?_
          refine pk_i (va_runV (As := [.int a0, .int 14]) (rest := []) ⟨hx, hb, hml, hown, hts⟩ (s_X12_cellAt_c14 l D t σ I J ri rj rq H.size tg hSH hG.1 this a0 hL_this hK_this (rg_w f_60 (by decide))) (cwV 2 hts (tw_V tw_361 tw_362 tw_363 tw_5 tw_364) rfl rfl rfl cv_yX12_cellAt_2 ⟨Nat.le_of_ble_eq_true rfl, Nat.le_of_ble_eq_true rfl⟩) ⟨pq_blind, pq_recv hK hP hL_this hK_this (by decide) rfl, pq_pre hK hN hP hD⟩ rfl rfl hl.1 rfl (lv_room (Nat.le_of_ble_eq_true rfl)) dX12_titleOf_27 ⟨Nat.le_of_ble_eq_true rfl, Nat.le_of_ble_eq_true rfl⟩) hD hS hA (fun x_96 σ1 μ1 H locs hw_97 hP hD hS => ?_)
          obtain ⟨hu_98, hr_100⟩ := hw_97
          obtain ⟨hu_98a, hu_98b⟩ := Prod.mk.inj hu_98
          rw [hu_98a, hu_98b] at hP hD
          refine lv_goto (tgt := 46) hx hb dX12_titleOf_30 (by decide) ?_
          subst hQ
          exact W.iret (v := x_96) hx hb hr (fun t1 ht hW => ⟨⟨x_96, (σ, I, J, ri, rj, rq), rfl, ⟨ri, rj, rfl, hG, (rg_w hr_100 (by decide))⟩, by rw [ht]; exact hP, va_K.moved hW.alike hK, hD⟩, hS.F ht⟩) hS.2.2 dX12_titleOf_46
      · have f_101 := (hr_67.resolve_left (fun q => absurd (q.1.symm.trans c_69) (by decide))).2
        have tc_102 : (x_63).toInt = 0 := congrArg Int32.toInt c_69
        have h_103 : rg x_63 0 0 := rg_and h_68 (rg_of_eq c_69 (rg_k (0 : Int32) 0 rfl)) (by decide)
        have uh_103 := h_103.1
        have vh_103 := h_103.2
        exact K_55 _ _ _ hG hP hD hS (lv_sub hl [] rfl)
  exact go _ _ _ hP hD hS hl

set_option maxHeartbeats 4000000 in
set_option maxRecDepth 100000 in
theorem s_X12_four (l : Launch) (D : va_G) (t : pq_T) (σ : pq_S) (I : Nat → Nat → Int32) (J : Nat → Nat → Int64) (ri : Nat → Nat → Int32) (rj : Nat → Nat → Int64) (rq : Nat → Nat → Option Nat) (sz : Nat) (tg : Nat → Nat) (hSH : SH σ tg) (hG0 : GT tg I ri) (this : Nat) (a0 : Int32) (hL_this : this ∈ σ.1) (hK_this : σ.2.1 this = 12) (hct : (I 388 this).toInt + 4 ≤ 300) : MetV l yX12_four (wa yX12_four cX12_four 3 none) ({ frames := 0, cells := 0, slots := 0, locals := 0 }) [.ref this, .int a0] D t σ (I, J, ri, rj, rq) sz 0 0 (fun (u : pq_S × pq_M) => ∃ I' : Nat → Nat → Int32, ∃ ri' : Nat → Nat → Int32, u = (σ, I', J, ri', rj, rq) ∧ GM [388] tg σ I ri I' ri' rq ∧ ((I' 388 this).toInt = (I 388 this).toInt + 4)) := by
  refine Met.ofW (cc := cX12_four) (maxL := 3) (ret := none) (by decide) rfl ?_
  intro p e s m args below meth c s₁ B hml hv
  obtain ⟨rfl, hsz, hP, hK, hD0, hN⟩ := hv
  have hx := B.exec
  have hb := B.bytes
  have hr := B.returns
  have hts := atoms_spec (ws := (wa yX12_four cX12_four 3 none)) B.pre
  have hown : s.vm.findClass RX12 = some m.cls := findClass_of_methodNamed B.named
  have hlocks := B.notSynchronized
  subst hsz
  have hD : va_D (pq_B t σ (I, J, ri, rj, rq) s.heap.size) (pq_P t σ (I, J, ri, rj, rq)) := hD0.self
  generalize hAe : pq_B t σ (I, J, ri, rj, rq) s.heap.size = A at hD ⊢
  have hA : ∀ q : Nat, s.heap.size ≤ q → A q := fun q h => by rw [← hAe]; exact Or.inr h
  have hS : va_S A s.heap s.heap [] := va_S.rf
  have hG : GM [388] tg σ I ri I ri rq := ⟨hG0, fun _ _ _ => rfl, fun _ _ _ _ _ => rfl, fun _ _ _ _ _ _ => rfl⟩
  have hl := lv_entry ([.ref this, .int a0]) (n := 3) (Nat.le_of_ble_eq_true rfl)
  rw [lg_entry_eq]
  generalize (lg_sl ([.ref this, .int a0]) ++ List.replicate (3 - (lg_sl ([.ref this, .int a0])).length) Slot.unset).toArray = ls at hl ⊢
  have hl : lv_has ls 3 [(0, .ref this), (1, .int a0)] := hl
  refine q_gen (fun Q hQ => ?_)
  have go : ∀ (H : Heap) (locs : List Loc) (ls : Array Slot), va_P D vwCl (pq_P t σ (I, J, ri, rj, rq)) H → va_D A (pq_P t σ (I, J, ri, rj, rq)) → va_S A s.heap H locs → lv_has ls 3 [(0, .ref this), (1, .int a0)] → W p l e ({ frames := 0, cells := 0, slots := 0, locals := 0 } : Room) s m (List.toArray ([.ref this, .int a0] : List Value)) below meth c H locs 0 0 Q (F0 m 0 ls []) := by
    intro H locs ls hP hD hS hl
    refine lv_bipush (v := 24) hx hb dX12_four_0 (by decide) ?_
    refine lv_istore_n (lv' := [(2, .int 24), (0, .ref this), (1, .int a0)]) hx hb dX12_four_2 rfl hl (by decide) rfl (fun ls hl => ?_)
    have L_194 : ∀ (n_193 : Nat) (x_169 : Int32) (I_170 : Nat → Nat → Int32) (ri_171 : Nat → Nat → Int32) (H : Heap) (locs : List Loc) (ls : Array Slot), rg x_169 (-8) 24 → (8 * ((I_170 388 this).toInt - (I 388 this).toInt) + (x_169).toInt = 24) → ((x_169).toInt - (-8)).toNat < n_193 → GM [388] tg σ I ri I_170 ri_171 rq → va_P D vwCl (pq_P t σ (I_170, J, ri_171, rj, rq)) H → va_D A (pq_P t σ (I_170, J, ri_171, rj, rq)) → va_S A s.heap H locs → lv_has ls 3 [(0, .ref this), (1, .int a0), (2, .int x_169)] → W p l e ({ frames := 0, cells := 0, slots := 0, locals := 0 } : Room) s m (List.toArray ([.ref this, .int a0] : List Value)) below meth c H locs 0 0 Q (F0 m 3 ls []) := by
      intro n_193
      induction n_193 with
      | zero => intro x_169 I_170 ri_171 H locs ls h_198 hrel_199 hm_192 hG hP hD hS hl; exact absurd hm_192 (Nat.not_lt_zero _)
      | succ n_193 ih_195 =>
        intro x_169 I_170 ri_171 H locs ls h_198 hrel_199 hm_192 hG hP hD hS hl
        have uh_198 := h_198.1
        have vh_198 := h_198.2
        refine lv_iload_n hx hb dX12_four_3 rfl (lv_at hl 2 rfl) ?_
        refine lv_if_lt (tgt := 39) hx hb dX12_four_4 (by decide) (fun c_200 => ?_) (fun c_200 => ?_)
        · have tc_201 : (x_169).toInt < 0 := Int32.lt_iff_toInt_lt.mp c_200
          have h_202 : rg x_169 (-8) (-1) := rg_lt1 c_200 h_198 (rg_k (0 : Int32) 0 rfl) (by decide)
          have uh_202 := h_202.1
          have vh_202 := h_202.2
          subst hQ
          exact W.vret hx hb hr (fun t1 ht hW => ⟨⟨(σ, I_170, J, ri_171, rj, rq), rfl, ⟨I_170, ri_171, rfl, hG, (by omega)⟩, by rw [ht]; exact hP, va_K.moved hW.alike hK, hD⟩, hS.F ht⟩) hS.2.2 dX12_four_39
        · have tc_203 : 0 ≤ (x_169).toInt := Int32.le_iff_toInt_le.mp (nlt c_200)
          have h_204 : rg x_169 0 24 := rg_le2 (nlt c_200) (rg_k (0 : Int32) 0 rfl) h_198 (by decide)
          have uh_204 := h_204.1
          have vh_204 := h_204.2
          refine lv_aload_n hx hb dX12_four_7 rfl (lv_at hl 0 rfl) ?_
          obtain ⟨w_205, hR_w_205, hL_w_205, hK_w_205, hN_w_205, hT_w_205⟩ := sh_a hSH 387 (ci := 12) (kd := 13) (len := 300) rfl (by decide) hL_this hK_this
          refine pg_f (v := .ref w_205) (C := RX12) (T := TX12) (N := 31) hx hb hts (tw_i inlX12) hown hK hP hL_this hK_this (by decide) rfl 3 (by decide) (hts _ (tw_c tw_179)) (pq_hv rfl hR_w_205) dX12_four_8 ?_
          refine lv_aload_n hx hb dX12_four_11 rfl (lv_at hl 0 rfl) ?_
          refine pg_f (v := .int (I_170 388 this)) (C := RX12) (T := TX12) (N := 31) hx hb hts (tw_i inlX12) hown hK hP hL_this hK_this (by decide) rfl 4 (by decide) (hts _ (tw_c tw_631)) rfl dX12_four_12 ?_
          have h_206 : rg (I_170 388 this) 0 300 := GM.rI hG 388 rfl
          have uh_206 := h_206.1
          have vh_206 := h_206.2
          refine lv_iload_n hx hb dX12_four_15 rfl (lv_at hl 1 rfl) ?_
          refine lv_iload_n hx hb dX12_four_16 rfl (lv_at hl 2 rfl) ?_
          refine lv_ishr hx hb dX12_four_17 ?_
          refine lv_topi (fun x_207 ex_207 => ?_)
          refine lv_sipush (v := 255) hx hb dX12_four_18 (by decide) ?_
          refine lv_iand hx hb dX12_four_21 ?_
          refine lv_topi (fun x_208 ex_208 => ?_)
          have h_209 : rg x_208 0 255 := rg_of_eq ex_208 (rg_m255 _)
          have uh_209 := h_209.1
          have vh_209 := h_209.2
          have h_211 : rg (I_170 388 this) 0 299 := ⟨by omega, by omega⟩
          have uh_211 := h_211.1
          have vh_211 := h_211.2
          refine pt_i hx hb hK hP hD hS hL_w_205 hK_w_205 hN_w_205 (rg_in h_211 (by decide)) dX12_four_22 (fun r_210 H locs er_210 hP hD hS => ?_)
          have hG := GM.wR hG hSH hT_w_205 rfl er_210 (rg_w h_209 (by decide)) (by decide)
          refine lv_aload_n hx hb dX12_four_23 rfl (lv_at hl 0 rfl) ?_
          refine lv_dup hx hb dX12_four_24 rfl ?_
          refine pg_f (v := .int (I_170 388 this)) (C := RX12) (T := TX12) (N := 31) hx hb hts (tw_i inlX12) hown hK hP hL_this hK_this (by decide) rfl 4 (by decide) (hts _ (tw_c tw_631)) rfl dX12_four_25 ?_
          refine lv_iconst (v := 1) hx hb dX12_four_28 (by decide) ?_
          refine lv_iadd hx hb dX12_four_29 ?_
          refine lv_topi (fun x_212 ex_212 => ?_)
          have h_213 : rg x_212 1 300 := rg_of_eq ex_212 (rg_add h_211 (rg_k (1 : Int32) 1 rfl) (by decide))
          have uh_213 := h_213.1
          have vh_213 := h_213.2
          have tx_212 : (x_212).toInt = (I_170 388 this).toInt + 1 := by rw [ex_212]; exact i_add_rg (a2 := (I_170 388 this).toInt) (b2 := 1) rfl rfl h_211 (rg_k (1 : Int32) 1 rfl) (by decide)
          refine pp_i (v := x_212) (ty := .int) (C := RX12) (T := TX12) (N := 31) hx hb hts (tw_i inlX12) tyX12 tyX12_ok nmX12 hown hK hP hD hS hL_this hK_this (by decide) rfl 4 388 (by decide) (hts _ (tw_c tw_631)) rfl (tyX12_ok 4 (by decide)) rfl rfl (Nat.le_of_ble_eq_true rfl) (ps_388 _ _ _ _ _) dX12_four_30 (fun I_214 H locs eI_214 hP hD hS => ?_)
          have hG := GM.wI hG 388 rfl eI_214 (rg_w h_213 (by decide)) (by decide)
          have tt_215 : (I_214 388 this).toInt = (x_212).toInt := by rw [eI_214, pq_us]
          obtain ⟨x_216, ex_216⟩ : ∃ y : Int32, y = x_169 + Int32.ofInt (-8) := ⟨_, rfl⟩
          have h_217 : rg x_216 (-8) 16 := rg_of_eq ex_216 (rg_add h_204 (rg_k (Int32.ofInt (-8)) (-8) rfl) (by decide))
          have uh_217 := h_217.1
          have vh_217 := h_217.2
          have tx_216 : (x_216).toInt = (x_169).toInt + (-8) := by rw [ex_216]; exact i_add_rg (a2 := (x_169).toInt) (b2 := (-8)) rfl rfl h_204 (rg_k (Int32.ofInt (-8)) (-8) rfl) (by decide)
          refine lv_iinc (v := x_216) (lv' := [(2, .int x_216), (0, .ref this), (1, .int a0)]) hx hb dX12_four_33 hl (k := 2) rfl ex_216.symm (by decide) rfl (fun ls hl => ?_)
          refine lv_goto (tgt := 3) hx hb dX12_four_36 (by decide) ?_
          exact ih_195 x_216 I_214 r_210 _ _ _ (rg_w h_217 (by decide)) (by omega) (ms_dn 8 hm_192 ex_216 rfl (by decide) h_204 (by decide) (by decide)) hG hP hD hS (lv_sub hl [1, 2, 0] rfl)
    exact L_194 _ (24 : Int32) I ri _ _ _ (rg_w (rg_k (24 : Int32) 24 rfl) (by decide)) (by have k0 : (24 : Int32).toInt = 24 := rfl; omega) (Nat.lt_succ_self _) hG hP hD hS (lv_sub hl [1, 2, 0] rfl)
  exact go _ _ _ hP hD hS hl

set_option maxHeartbeats 4000000 in
set_option maxRecDepth 100000 in
theorem s_X12_feed (l : Launch) (D : va_G) (t : pq_T) (σ : pq_S) (I : Nat → Nat → Int32) (J : Nat → Nat → Int64) (ri : Nat → Nat → Int32) (rj : Nat → Nat → Int64) (rq : Nat → Nat → Option Nat) (sz : Nat) (tg : Nat → Nat) (hSH : SH σ tg) (hG0 : GT tg I ri) (this : Nat) (a0 : Int32) (a1 : Int32) (a2 : Int32) (a3 : Int32) (a4 : Int32) (hL_this : this ∈ σ.1) (hK_this : σ.2.1 this = 12) : MetI l yX12_feed (wa yX12_feed cX12_feed 6 (some .int)) ({ frames := 1, cells := 0, slots := 0, locals := 22 }) [.ref this, .int a0, .int a1, .int a2, .int a3, .int a4] D t σ (I, J, ri, rj, rq) sz 0 0 (fun (r : Int32) (u : pq_S × pq_M) => ∃ I' : Nat → Nat → Int32, ∃ ri' : Nat → Nat → Int32, u = (σ, I', J, ri', rj, rq) ∧ GM [388] tg σ I ri I' ri' rq ∧ rg r (-1) 300) := by
  refine Met.ofW (cc := cX12_feed) (maxL := 6) (ret := (some .int)) (by decide) rfl ?_
  intro p e s m args below meth c s₁ B hml hv
  obtain ⟨rfl, hsz, hP, hK, hD0, hN⟩ := hv
  have hx := B.exec
  have hb := B.bytes
  have hr := B.returns
  have hts := atoms_spec (ws := (wa yX12_feed cX12_feed 6 (some .int))) B.pre
  have hown : s.vm.findClass RX12 = some m.cls := findClass_of_methodNamed B.named
  have hlocks := B.notSynchronized
  subst hsz
  have hD : va_D (pq_B t σ (I, J, ri, rj, rq) s.heap.size) (pq_P t σ (I, J, ri, rj, rq)) := hD0.self
  generalize hAe : pq_B t σ (I, J, ri, rj, rq) s.heap.size = A at hD ⊢
  have hA : ∀ q : Nat, s.heap.size ≤ q → A q := fun q h => by rw [← hAe]; exact Or.inr h
  have hS : va_S A s.heap s.heap [] := va_S.rf
  have hG : GM [388] tg σ I ri I ri rq := ⟨hG0, fun _ _ _ => rfl, fun _ _ _ _ _ => rfl, fun _ _ _ _ _ _ => rfl⟩
  have hl := lv_entry ([.ref this, .int a0, .int a1, .int a2, .int a3, .int a4]) (n := 6) (Nat.le_of_ble_eq_true rfl)
  rw [lg_entry_eq]
  generalize (lg_sl ([.ref this, .int a0, .int a1, .int a2, .int a3, .int a4]) ++ List.replicate (6 - (lg_sl ([.ref this, .int a0, .int a1, .int a2, .int a3, .int a4])).length) Slot.unset).toArray = ls at hl ⊢
  have hl : lv_has ls 6 [(0, .ref this), (1, .int a0), (2, .int a1), (3, .int a2), (4, .int a3), (5, .int a4)] := hl
  refine q_gen (fun Q hQ => ?_)
  have go : ∀ (H : Heap) (locs : List Loc) (ls : Array Slot), va_P D vwCl (pq_P t σ (I, J, ri, rj, rq)) H → va_D A (pq_P t σ (I, J, ri, rj, rq)) → va_S A s.heap H locs → lv_has ls 6 [(0, .ref this), (1, .int a0), (2, .int a1), (3, .int a2), (4, .int a3), (5, .int a4)] → W p l e ({ frames := 1, cells := 0, slots := 0, locals := 22 } : Room) s m (List.toArray ([.ref this, .int a0, .int a1, .int a2, .int a3, .int a4] : List Value)) below meth c H locs 0 0 Q (F0 m 0 ls []) := by
    intro H locs ls hP hD hS hl
    refine lv_aload_n hx hb dX12_feed_0 rfl (lv_at hl 0 rfl) ?_
    refine pg_f (v := .int (I 388 this)) (C := RX12) (T := TX12) (N := 31) hx hb hts (tw_i inlX12) hown hK hP hL_this hK_this (by decide) rfl 4 (by decide) (hts _ (tw_c tw_631)) rfl dX12_feed_1 ?_
    have h_1 : rg (I 388 this) 0 300 := GM.rI hG 388 rfl
    have uh_1 := h_1.1
    have vh_1 := h_1.2
    refine lv_bipush (v := 20) hx hb dX12_feed_4 (by decide) ?_
    refine lv_iadd hx hb dX12_feed_6 ?_
    refine lv_topi (fun x_2 ex_2 => ?_)
    have h_3 : rg x_2 20 320 := rg_of_eq ex_2 (rg_add h_1 (rg_k (20 : Int32) 20 rfl) (by decide))
    have uh_3 := h_3.1
    have vh_3 := h_3.2
    have tx_2 : (x_2).toInt = (I 388 this).toInt + 20 := by rw [ex_2]; exact i_add_rg (a2 := (I 388 this).toInt) (b2 := 20) rfl rfl h_1 (rg_k (20 : Int32) 20 rfl) (by decide)
    refine lv_sipush (v := 300) hx hb dX12_feed_7 (by decide) ?_
    refine lv_icmp_le (tgt := 15) hx hb dX12_feed_10 (by decide) (fun c_4 => ?_) (fun c_4 => ?_)
    · have tc_5 : (x_2).toInt ≤ 300 := Int32.le_iff_toInt_le.mp c_4
      have h_6 : rg x_2 20 300 := rg_le1 c_4 h_3 (rg_k (300 : Int32) 300 rfl) (by decide)
      have uh_6 := h_6.1
      have vh_6 := h_6.2
      refine lv_aload_n hx hb dX12_feed_15 rfl (lv_at hl 0 rfl) ?_
      refine lv_iload_n hx hb dX12_feed_16 rfl (lv_at hl 1 rfl) ?_
      refine pk_v (va_runV (As := [.int a0]) (rest := []) ⟨hx, hb, hml, hown, hts⟩ (s_X12_four l D t σ I J ri rj rq H.size tg hSH hG.1 this a0 hL_this hK_this (by omega)) (cwV 1 hts (tw_V tw_632 tw_633 tw_634 tw_5 tw_635) rfl rfl rfl cv_yX12_four_1 ⟨Nat.le_of_ble_eq_true rfl, Nat.le_of_ble_eq_true rfl⟩) ⟨pq_blind, pq_recv hK hP hL_this hK_this (by decide) rfl, pq_pre hK hN hP hD⟩ rfl rfl hl.1 rfl (lv_room (Nat.le_of_ble_eq_true rfl)) dX12_feed_17 ⟨Nat.le_of_ble_eq_true rfl, Nat.le_of_ble_eq_true rfl⟩) hD hS hA (fun σ1 μ1 H locs hw_8 hP hD hS => ?_)
      obtain ⟨I_9, ri_10, hu_11, hg_12, hp_14⟩ := hw_8
      obtain ⟨hu_11a, hu_11b⟩ := Prod.mk.inj hu_11
      rw [hu_11a, hu_11b] at hP hD
      have tt_15 := hp_14
      have hG := GM.tr hG hg_12 (by decide)
      refine lv_aload_n hx hb dX12_feed_20 rfl (lv_at hl 0 rfl) ?_
      refine lv_iload_n hx hb dX12_feed_21 rfl (lv_at hl 2 rfl) ?_
      refine pk_v (va_runV (As := [.int a1]) (rest := []) ⟨hx, hb, hml, hown, hts⟩ (s_X12_four l D t σ I_9 J ri_10 rj rq H.size tg hSH hG.1 this a1 hL_this hK_this (by omega)) (cwV 1 hts (tw_V tw_632 tw_633 tw_634 tw_5 tw_635) rfl rfl rfl cv_yX12_four_1 ⟨Nat.le_of_ble_eq_true rfl, Nat.le_of_ble_eq_true rfl⟩) ⟨pq_blind, pq_recv hK hP hL_this hK_this (by decide) rfl, pq_pre hK hN hP hD⟩ rfl rfl hl.1 rfl (lv_room (Nat.le_of_ble_eq_true rfl)) dX12_feed_22 ⟨Nat.le_of_ble_eq_true rfl, Nat.le_of_ble_eq_true rfl⟩) hD hS hA (fun σ1 μ1 H locs hw_17 hP hD hS => ?_)
      obtain ⟨I_18, ri_19, hu_20, hg_21, hp_23⟩ := hw_17
      obtain ⟨hu_20a, hu_20b⟩ := Prod.mk.inj hu_20
      rw [hu_20a, hu_20b] at hP hD
      have tt_24 := hp_23
      have hG := GM.tr hG hg_21 (by decide)
      refine lv_aload_n hx hb dX12_feed_25 rfl (lv_at hl 0 rfl) ?_
      refine lv_iload_n hx hb dX12_feed_26 rfl (lv_at hl 3 rfl) ?_
      refine pk_v (va_runV (As := [.int a2]) (rest := []) ⟨hx, hb, hml, hown, hts⟩ (s_X12_four l D t σ I_18 J ri_19 rj rq H.size tg hSH hG.1 this a2 hL_this hK_this (by omega)) (cwV 1 hts (tw_V tw_632 tw_633 tw_634 tw_5 tw_635) rfl rfl rfl cv_yX12_four_1 ⟨Nat.le_of_ble_eq_true rfl, Nat.le_of_ble_eq_true rfl⟩) ⟨pq_blind, pq_recv hK hP hL_this hK_this (by decide) rfl, pq_pre hK hN hP hD⟩ rfl rfl hl.1 rfl (lv_room (Nat.le_of_ble_eq_true rfl)) dX12_feed_27 ⟨Nat.le_of_ble_eq_true rfl, Nat.le_of_ble_eq_true rfl⟩) hD hS hA (fun σ1 μ1 H locs hw_26 hP hD hS => ?_)
      obtain ⟨I_27, ri_28, hu_29, hg_30, hp_32⟩ := hw_26
      obtain ⟨hu_29a, hu_29b⟩ := Prod.mk.inj hu_29
      rw [hu_29a, hu_29b] at hP hD
      have tt_33 := hp_32
      have hG := GM.tr hG hg_30 (by decide)
      refine lv_aload_n hx hb dX12_feed_30 rfl (lv_at hl 0 rfl) ?_
      refine lv_iload hx hb dX12_feed_31 (lv_at hl 4 rfl) ?_
      refine pk_v (va_runV (As := [.int a3]) (rest := []) ⟨hx, hb, hml, hown, hts⟩ (s_X12_four l D t σ I_27 J ri_28 rj rq H.size tg hSH hG.1 this a3 hL_this hK_this (by omega)) (cwV 1 hts (tw_V tw_632 tw_633 tw_634 tw_5 tw_635) rfl rfl rfl cv_yX12_four_1 ⟨Nat.le_of_ble_eq_true rfl, Nat.le_of_ble_eq_true rfl⟩) ⟨pq_blind, pq_recv hK hP hL_this hK_this (by decide) rfl, pq_pre hK hN hP hD⟩ rfl rfl hl.1 rfl (lv_room (Nat.le_of_ble_eq_true rfl)) dX12_feed_33 ⟨Nat.le_of_ble_eq_true rfl, Nat.le_of_ble_eq_true rfl⟩) hD hS hA (fun σ1 μ1 H locs hw_35 hP hD hS => ?_)
      obtain ⟨I_36, ri_37, hu_38, hg_39, hp_41⟩ := hw_35
      obtain ⟨hu_38a, hu_38b⟩ := Prod.mk.inj hu_38
      rw [hu_38a, hu_38b] at hP hD
      have tt_42 := hp_41
      have hG := GM.tr hG hg_39 (by decide)
      refine lv_aload_n hx hb dX12_feed_36 rfl (lv_at hl 0 rfl) ?_
      refine lv_iload hx hb dX12_feed_37 (lv_at hl 5 rfl) ?_
      refine pk_v (va_runV (As := [.int a4]) (rest := []) ⟨hx, hb, hml, hown, hts⟩ (s_X12_four l D t σ I_36 J ri_37 rj rq H.size tg hSH hG.1 this a4 hL_this hK_this (by omega)) (cwV 1 hts (tw_V tw_632 tw_633 tw_634 tw_5 tw_635) rfl rfl rfl cv_yX12_four_1 ⟨Nat.le_of_ble_eq_true rfl, Nat.le_of_ble_eq_true rfl⟩) ⟨pq_blind, pq_recv hK hP hL_this hK_this (by decide) rfl, pq_pre hK hN hP hD⟩ rfl rfl hl.1 rfl (lv_room (Nat.le_of_ble_eq_true rfl)) dX12_feed_39 ⟨Nat.le_of_ble_eq_true rfl, Nat.le_of_ble_eq_true rfl⟩) hD hS hA (fun σ1 μ1 H locs hw_44 hP hD hS => ?_)
      obtain ⟨I_45, ri_46, hu_47, hg_48, hp_50⟩ := hw_44
      obtain ⟨hu_47a, hu_47b⟩ := Prod.mk.inj hu_47
      rw [hu_47a, hu_47b] at hP hD
      have tt_51 := hp_50
      have hG := GM.tr hG hg_48 (by decide)
      refine lv_aload_n hx hb dX12_feed_42 rfl (lv_at hl 0 rfl) ?_
      refine pg_f (v := .int (I_45 388 this)) (C := RX12) (T := TX12) (N := 31) hx hb hts (tw_i inlX12) hown hK hP hL_this hK_this (by decide) rfl 4 (by decide) (hts _ (tw_c tw_631)) rfl dX12_feed_43 ?_
      have h_52 : rg (I_45 388 this) 0 300 := GM.rI hG 388 rfl
      have uh_52 := h_52.1
      have vh_52 := h_52.2
      subst hQ
      exact W.iret (v := (I_45 388 this)) hx hb hr (fun t1 ht hW => ⟨⟨(I_45 388 this), (σ, I_45, J, ri_46, rj, rq), rfl, ⟨I_45, ri_46, rfl, hG, (rg_w h_52 (by decide))⟩, by rw [ht]; exact hP, va_K.moved hW.alike hK, hD⟩, hS.F ht⟩) hS.2.2 dX12_feed_46
    · have tc_53 : 300 < (x_2).toInt := Int32.lt_iff_toInt_lt.mp (nle c_4)
      have h_54 : rg x_2 301 320 := rg_lt2 (nle c_4) (rg_k (300 : Int32) 300 rfl) h_3 (by decide)
      have uh_54 := h_54.1
      have vh_54 := h_54.2
      refine lv_iconst (v := (-1)) hx hb dX12_feed_13 (by decide) ?_
      subst hQ
      exact W.iret (v := (-1)) hx hb hr (fun t1 ht hW => ⟨⟨(-1), (σ, I, J, ri, rj, rq), rfl, ⟨I, ri, rfl, hG, (rg_w (rg_k (-1 : Int32) (-1) rfl) (by decide))⟩, by rw [ht]; exact hP, va_K.moved hW.alike hK, hD⟩, hS.F ht⟩) hS.2.2 dX12_feed_14
  exact go _ _ _ hP hD hS hl

set_option maxHeartbeats 4000000 in
set_option maxRecDepth 100000 in
theorem s_X12_end (l : Launch) (D : va_G) (t : pq_T) (σ : pq_S) (I : Nat → Nat → Int32) (J : Nat → Nat → Int64) (ri : Nat → Nat → Int32) (rj : Nat → Nat → Int64) (rq : Nat → Nat → Option Nat) (sz : Nat) (tg : Nat → Nat) (hSH : SH σ tg) (hG0 : GT tg I ri) (this : Nat) (a0 : Int32) (hL_this : this ∈ σ.1) (hK_this : σ.2.1 this = 12) : MetI l yX12_end (wa yX12_end cX12_end 2 (some .int)) ({ frames := 1, cells := 0, slots := 0, locals := 22 }) [.ref this, .int a0] D t σ (I, J, ri, rj, rq) sz 0 0 (fun (r : Int32) (u : pq_S × pq_M) => ∃ I' : Nat → Nat → Int32, u = (σ, I', J, ri, rj, rq) ∧ GM [388] tg σ I ri I' ri rq ∧ rg r (-1) 300) := by
  refine Met.ofW (cc := cX12_end) (maxL := 2) (ret := (some .int)) (by decide) rfl ?_
  intro p e s m args below meth c s₁ B hml hv
  obtain ⟨rfl, hsz, hP, hK, hD0, hN⟩ := hv
  have hx := B.exec
  have hb := B.bytes
  have hr := B.returns
  have hts := atoms_spec (ws := (wa yX12_end cX12_end 2 (some .int))) B.pre
  have hown : s.vm.findClass RX12 = some m.cls := findClass_of_methodNamed B.named
  have hlocks := B.notSynchronized
  subst hsz
  have hD : va_D (pq_B t σ (I, J, ri, rj, rq) s.heap.size) (pq_P t σ (I, J, ri, rj, rq)) := hD0.self
  generalize hAe : pq_B t σ (I, J, ri, rj, rq) s.heap.size = A at hD ⊢
  have hA : ∀ q : Nat, s.heap.size ≤ q → A q := fun q h => by rw [← hAe]; exact Or.inr h
  have hS : va_S A s.heap s.heap [] := va_S.rf
  have hG : GM [388] tg σ I ri I ri rq := ⟨hG0, fun _ _ _ => rfl, fun _ _ _ _ _ => rfl, fun _ _ _ _ _ _ => rfl⟩
  have hl := lv_entry ([.ref this, .int a0]) (n := 2) (Nat.le_of_ble_eq_true rfl)
  rw [lg_entry_eq]
  generalize (lg_sl ([.ref this, .int a0]) ++ List.replicate (2 - (lg_sl ([.ref this, .int a0])).length) Slot.unset).toArray = ls at hl ⊢
  have hl : lv_has ls 2 [(0, .ref this), (1, .int a0)] := hl
  refine q_gen (fun Q hQ => ?_)
  have go : ∀ (H : Heap) (locs : List Loc) (ls : Array Slot), va_P D vwCl (pq_P t σ (I, J, ri, rj, rq)) H → va_D A (pq_P t σ (I, J, ri, rj, rq)) → va_S A s.heap H locs → lv_has ls 2 [(0, .ref this), (1, .int a0)] → W p l e ({ frames := 1, cells := 0, slots := 0, locals := 22 } : Room) s m (List.toArray ([.ref this, .int a0] : List Value)) below meth c H locs 0 0 Q (F0 m 0 ls []) := by
    intro H locs ls hP hD hS hl
    refine lv_iload_n hx hb dX12_end_0 rfl (lv_at hl 1 rfl) ?_
    refine lv_iconst (v := 0) hx hb dX12_end_1 (by decide) ?_
    refine lv_aload_n hx hb dX12_end_2 rfl (lv_at hl 0 rfl) ?_
    refine pg_f (v := .int (I 388 this)) (C := RX12) (T := TX12) (N := 31) hx hb hts (tw_i inlX12) hown hK hP hL_this hK_this (by decide) rfl 4 (by decide) (hts _ (tw_c tw_631)) rfl dX12_end_3 ?_
    have h_1 : rg (I 388 this) 0 300 := GM.rI hG 388 rfl
    have uh_1 := h_1.1
    have vh_1 := h_1.2
    refine pk_i (va_runS (As := [.int a0, .int 0, .int (I 388 this)]) (rest := []) ⟨hx, hb, hml, hown, hts⟩ (s_X12_isIn l D t σ I J ri rj rq H.size tg hSH hG.1 a0 (0 : Int32) (I 388 this)) (va_cwS 3 hts (tw_S tw_235 tw_236 tw_5 tw_237) rfl rfl rfl cd_yX12_isIn_3 ⟨Nat.le_of_ble_eq_true rfl, Nat.le_of_ble_eq_true rfl⟩) ⟨pq_blind, pq_pre hK hN hP hD⟩ rfl rfl hl.1 rfl (lv_room (Nat.le_of_ble_eq_true rfl)) dX12_end_6 ⟨Nat.le_of_ble_eq_true rfl, Nat.le_of_ble_eq_true rfl⟩) hD hS hA (fun x_2 σ1 μ1 H locs hw_3 hP hD hS => ?_)
    obtain ⟨hu_4, hr_6⟩ := hw_3
    obtain ⟨hu_4a, hu_4b⟩ := Prod.mk.inj hu_4
    rw [hu_4a, hu_4b] at hP hD
    have h_7 : rg x_2 0 1 := by rcases hr_6 with ⟨q, -⟩ | ⟨q, -⟩ <;> rw [q] <;> exact ⟨by decide, by decide⟩
    have uh_7 := h_7.1
    have vh_7 := h_7.2
    refine lv_if_ne (tgt := 14) hx hb dX12_end_9 (by decide) (fun c_8 => ?_) (fun c_8 => ?_)
    · obtain ⟨f_9, f_10⟩ := (hr_6.resolve_right (fun q => c_8 q.1)).2
      have tc_11 : 0 ≤ (a0).toInt := Int32.le_iff_toInt_le.mp f_9
      have h_12 : rg a0 0 2147483647 := rg_le2 f_9 (rg_k (0 : Int32) 0 rfl) (rg_full _) (by decide)
      have uh_12 := h_12.1
      have vh_12 := h_12.2
      have tc_13 : (a0).toInt ≤ (I 388 this).toInt := Int32.le_iff_toInt_le.mp f_10
      have h_14 : rg a0 0 300 := rg_le1 f_10 h_12 h_1 (by decide)
      have uh_14 := h_14.1
      have vh_14 := h_14.2
      have tc_15 : (x_2).toInt ≠ 0 := fun q => c_8 (Int32.toInt_inj.mp q)
      have h_16 : rg x_2 1 1 := rg_ne c_8 h_7 0 rfl (by decide)
      have uh_16 := h_16.1
      have vh_16 := h_16.2
      refine lv_aload_n hx hb dX12_end_14 rfl (lv_at hl 0 rfl) ?_
      refine lv_iload_n hx hb dX12_end_15 rfl (lv_at hl 1 rfl) ?_
      refine pp_i (v := a0) (ty := .int) (C := RX12) (T := TX12) (N := 31) hx hb hts (tw_i inlX12) tyX12 tyX12_ok nmX12 hown hK hP hD hS hL_this hK_this (by decide) rfl 4 388 (by decide) (hts _ (tw_c tw_631)) rfl (tyX12_ok 4 (by decide)) rfl rfl (Nat.le_of_ble_eq_true rfl) (ps_388 _ _ _ _ _) dX12_end_16 (fun I_17 H locs eI_17 hP hD hS => ?_)
      have hG := GM.wI hG 388 rfl eI_17 (rg_w h_14 (by decide)) (by decide)
      refine lv_iload_n hx hb dX12_end_19 rfl (lv_at hl 1 rfl) ?_
      subst hQ
      exact W.iret (v := a0) hx hb hr (fun t1 ht hW => ⟨⟨a0, (σ, I_17, J, ri, rj, rq), rfl, ⟨I_17, rfl, hG, (rg_w h_14 (by decide))⟩, by rw [ht]; exact hP, va_K.moved hW.alike hK, hD⟩, hS.F ht⟩) hS.2.2 dX12_end_20
    · have f_18 := (hr_6.resolve_left (fun q => absurd (q.1.symm.trans c_8) (by decide))).2
      have tc_19 : (x_2).toInt = 0 := congrArg Int32.toInt c_8
      have h_20 : rg x_2 0 0 := rg_and h_7 (rg_of_eq c_8 (rg_k (0 : Int32) 0 rfl)) (by decide)
      have uh_20 := h_20.1
      have vh_20 := h_20.2
      refine lv_iconst (v := (-1)) hx hb dX12_end_12 (by decide) ?_
      subst hQ
      exact W.iret (v := (-1)) hx hb hr (fun t1 ht hW => ⟨⟨(-1), (σ, I, J, ri, rj, rq), rfl, ⟨I, rfl, hG, (rg_w (rg_k (-1 : Int32) (-1) rfl) (by decide))⟩, by rw [ht]; exact hP, va_K.moved hW.alike hK, hD⟩, hS.F ht⟩) hS.2.2 dX12_end_13
  exact go _ _ _ hP hD hS hl
