theorem dX11_bury_0 : decode cX11_bury 0 = .ok (.iload_n 1, 1) := oc_27 (by decide +kernel)
theorem dX11_bury_1 : decode cX11_bury 1 = .ok (.iconst 0, 1) := oc_3 (by decide +kernel)
theorem dX11_bury_2 : decode cX11_bury 2 = .ok (.aload_n 0, 1) := oc_42 (by decide +kernel)
theorem dX11_bury_3 : decode cX11_bury 3 = .ok (.getfield 10, 3) := oc_180 (a := 0) (b := 10) (by decide +kernel)
theorem dX11_bury_6 : decode cX11_bury 6 = .ok (.getfield 355, 3) := oc_180 (a := 1) (b := 99) (by decide +kernel)
theorem dX11_bury_9 : decode cX11_bury 9 = .ok (.getfield 359, 3) := oc_180 (a := 1) (b := 103) (by decide +kernel)
theorem dX11_bury_12 : decode cX11_bury 12 = .ok (.iconst 1, 1) := oc_4 (by decide +kernel)
theorem dX11_bury_13 : decode cX11_bury 13 = .ok (.isub, 1) := oc_100 (by decide +kernel)
theorem dX11_bury_14 : decode cX11_bury 14 = .ok (.invokestatic 50, 3) := oc_184 (a := 0) (b := 50) (by decide +kernel)
theorem dX11_bury_28 : decode cX11_bury 28 = .ok (.iconst 0, 1) := oc_3 (by decide +kernel)
theorem dX11_bury_29 : decode cX11_bury 29 = .ok (.ireturn, 1) := oc_172 (by decide +kernel)
theorem dX11_bury_17 : decode cX11_bury 17 = .ok (.ifCond .eq 11, 3) := oc_153 (a := 0) (b := 11) (by decide +kernel)
theorem dX11_bury_20 : decode cX11_bury 20 = .ok (.aload_n 0, 1) := oc_42 (by decide +kernel)
theorem dX11_bury_21 : decode cX11_bury 21 = .ok (.iload_n 2, 1) := oc_28 (by decide +kernel)
theorem dX11_bury_22 : decode cX11_bury 22 = .ok (.invokevirtual 119, 3) := oc_182 (a := 0) (b := 119) (by decide +kernel)
theorem dX11_bury_25 : decode cX11_bury 25 = .ok (.ifCond .ne 5, 3) := oc_154 (a := 0) (b := 5) (by decide +kernel)
theorem dX11_bury_30 : decode cX11_bury 30 = .ok (.aload_n 0, 1) := oc_42 (by decide +kernel)
theorem dX11_bury_31 : decode cX11_bury 31 = .ok (.getfield 10, 3) := oc_180 (a := 0) (b := 10) (by decide +kernel)
theorem dX11_bury_34 : decode cX11_bury 34 = .ok (.getfield 355, 3) := oc_180 (a := 1) (b := 99) (by decide +kernel)
theorem dX11_bury_37 : decode cX11_bury 37 = .ok (.iload_n 1, 1) := oc_27 (by decide +kernel)
theorem dX11_bury_38 : decode cX11_bury 38 = .ok (.iload_n 2, 1) := oc_28 (by decide +kernel)
theorem tw_1517 : Cond.methodLink RX11 371 yX1_carry ∈ wsL_law := sg_64 _ (List.mem_of_getElem? (i := 5) rfl)
theorem tw_1518 : Cond.instanceMethod yX1_carry ∈ wsL_law := sg_64 _ (List.mem_of_getElem? (i := 6) rfl)
theorem tw_1519 : Cond.selects RX1 yX1_carry yX1_carry ∈ wsL_law := sg_64 _ (List.mem_of_getElem? (i := 7) rfl)
theorem tw_1520 : Cond.code yX1_carry cX1_carry 3 (some .boolean) ∈ wsL_law := sg_64 _ (List.mem_of_getElem? (i := 8) rfl)
theorem dX11_bury_39 : decode cX11_bury 39 = .ok (.invokevirtual 371, 3) := oc_182 (a := 1) (b := 115) (by decide +kernel)
theorem dX11_bury_42 : decode cX11_bury 42 = .ok (.ireturn, 1) := oc_172 (by decide +kernel)
theorem dX11_found_0 : decode cX11_found 0 = .ok (.aload_n 0, 1) := oc_42 (by decide +kernel)
theorem dX11_found_1 : decode cX11_found 1 = .ok (.iload_n 1, 1) := oc_27 (by decide +kernel)
theorem dX11_found_2 : decode cX11_found 2 = .ok (.invokevirtual 119, 3) := oc_182 (a := 0) (b := 119) (by decide +kernel)
theorem dX11_found_27 : decode cX11_found 27 = .ok (.iconst (-1), 1) := oc_2 (by decide +kernel)
theorem dX11_found_28 : decode cX11_found 28 = .ok (.ireturn, 1) := oc_172 (by decide +kernel)
theorem dX11_found_5 : decode cX11_found 5 = .ok (.ifCond .eq 22, 3) := oc_153 (a := 0) (b := 22) (by decide +kernel)
theorem dX11_found_8 : decode cX11_found 8 = .ok (.iload_n 2, 1) := oc_28 (by decide +kernel)
theorem dX11_found_9 : decode cX11_found 9 = .ok (.ifCond .lt 18, 3) := oc_155 (a := 0) (b := 18) (by decide +kernel)
theorem dX11_found_12 : decode cX11_found 12 = .ok (.aload_n 0, 1) := oc_42 (by decide +kernel)
theorem dX11_found_13 : decode cX11_found 13 = .ok (.getfield 10, 3) := oc_180 (a := 0) (b := 10) (by decide +kernel)
theorem dX11_found_16 : decode cX11_found 16 = .ok (.getfield 355, 3) := oc_180 (a := 1) (b := 99) (by decide +kernel)
theorem dX11_found_19 : decode cX11_found 19 = .ok (.iload_n 1, 1) := oc_27 (by decide +kernel)
theorem dX11_found_20 : decode cX11_found 20 = .ok (.iload_n 2, 1) := oc_28 (by decide +kernel)
theorem tw_1529 : Cond.methodLink RX11 375 yX1_whereNow ∈ wsL_law := sg_64 _ (List.mem_of_getElem? (i := 17) rfl)
theorem tw_1530 : Cond.instanceMethod yX1_whereNow ∈ wsL_law := sg_64 _ (List.mem_of_getElem? (i := 18) rfl)
theorem tw_1531 : Cond.selects RX1 yX1_whereNow yX1_whereNow ∈ wsL_law := sg_64 _ (List.mem_of_getElem? (i := 19) rfl)
theorem tw_1532 : Cond.code yX1_whereNow cX1_whereNow 5 (some .int) ∈ wsL_law := sg_64 _ (List.mem_of_getElem? (i := 20) rfl)
theorem dX11_found_21 : decode cX11_found 21 = .ok (.invokevirtual 375, 3) := oc_182 (a := 1) (b := 119) (by decide +kernel)
theorem dX11_found_24 : decode cX11_found 24 = .ok (.goto 4, 3) := oc_167 (a := 0) (b := 4) (by decide +kernel)
theorem dX11_image_0 : decode cX11_image 0 = .ok (.aload_n 0, 1) := oc_42 (by decide +kernel)
theorem tw_17 : Cond.fieldLink RX11 16 "RingsUnder" "kept" "LRingsUnder$World;" ∈ wsL_law := sg_1 _ (List.mem_of_getElem? (i := 17) rfl)
theorem dX11_image_1 : decode cX11_image 1 = .ok (.getfield 16, 3) := oc_180 (a := 0) (b := 16) (by decide +kernel)
theorem dX11_image_4 : decode cX11_image 4 = .ok (.aload_n 0, 1) := oc_42 (by decide +kernel)
theorem dX11_image_5 : decode cX11_image 5 = .ok (.getfield 10, 3) := oc_180 (a := 0) (b := 10) (by decide +kernel)
theorem dX11_image_8 : decode cX11_image 8 = .ok (.invokevirtual 266, 3) := oc_182 (a := 1) (b := 10) (by decide +kernel)
theorem dX11_image_11 : decode cX11_image 11 = .ok (.aload_n 0, 1) := oc_42 (by decide +kernel)
theorem dX11_image_12 : decode cX11_image 12 = .ok (.getfield 10, 3) := oc_180 (a := 0) (b := 10) (by decide +kernel)
theorem dX11_image_15 : decode cX11_image 15 = .ok (.getfield 54, 3) := oc_180 (a := 0) (b := 54) (by decide +kernel)
theorem dX11_image_18 : decode cX11_image 18 = .ok (.ireturn, 1) := oc_172 (by decide +kernel)
theorem dX11_back_0 : decode cX11_back 0 = .ok (.aload_n 0, 1) := oc_42 (by decide +kernel)
theorem dX11_back_1 : decode cX11_back 1 = .ok (.getfield 10, 3) := oc_180 (a := 0) (b := 10) (by decide +kernel)
theorem dX11_back_4 : decode cX11_back 4 = .ok (.aload_n 0, 1) := oc_42 (by decide +kernel)
theorem dX11_back_5 : decode cX11_back 5 = .ok (.getfield 16, 3) := oc_180 (a := 0) (b := 16) (by decide +kernel)
theorem dX11_back_8 : decode cX11_back 8 = .ok (.invokevirtual 266, 3) := oc_182 (a := 1) (b := 10) (by decide +kernel)
theorem dX11_back_11 : decode cX11_back 11 = .ok (.aload_n 0, 1) := oc_42 (by decide +kernel)
theorem dX11_back_12 : decode cX11_back 12 = .ok (.getfield 10, 3) := oc_180 (a := 0) (b := 10) (by decide +kernel)
theorem dX11_back_15 : decode cX11_back 15 = .ok (.getfield 54, 3) := oc_180 (a := 0) (b := 54) (by decide +kernel)
theorem dX11_back_18 : decode cX11_back 18 = .ok (.ireturn, 1) := oc_172 (by decide +kernel)
set_option maxHeartbeats 4000000 in
set_option maxRecDepth 100000 in
theorem s_X11_found (l : Launch) (D : va_G) (t : pq_T) (σ : pq_S) (I : Nat → Nat → Int32) (J : Nat → Nat → Int64) (ri : Nat → Nat → Int32) (rj : Nat → Nat → Int64) (rq : Nat → Nat → Option Nat) (sz : Nat) (tg : Nat → Nat) (hSH : SH σ tg) (hG0 : GS tg σ I ri rq) (this : Nat) (a0 : Int32) (a1 : Int32) (hL_this : this ∈ σ.1) (hK_this : σ.2.1 this = 11) : MetI l yX11_found (wa yX11_found cX11_found 3 (some .int)) ({ frames := 2, cells := 0, slots := 0, locals := 46 }) [.ref this, .int a0, .int a1] D t σ (I, J, ri, rj, rq) sz 0 0 (fun (r : Int32) (u : pq_S × pq_M) => u = (σ, I, J, ri, rj, rq) ∧ rg r (-1) 39) := by
  refine Met.ofW (cc := cX11_found) (maxL := 3) (ret := (some .int)) (by decide) rfl ?_
  intro p e s m args below meth c s₁ B hml hv
  obtain ⟨rfl, hsz, hP, hK, hD0, hN⟩ := hv
  have hx := B.exec
  have hb := B.bytes
  have hr := B.returns
  have hts := atoms_spec (ws := (wa yX11_found cX11_found 3 (some .int))) B.pre
  have hown : s.vm.findClass RX11 = some m.cls := findClass_of_methodNamed B.named
  have hlocks := B.notSynchronized
  subst hsz
  have hD : va_D (pq_B t σ (I, J, ri, rj, rq) s.heap.size) (pq_P t σ (I, J, ri, rj, rq)) := hD0.self
  generalize hAe : pq_B t σ (I, J, ri, rj, rq) s.heap.size = A at hD ⊢
  have hA : ∀ q : Nat, s.heap.size ≤ q → A q := fun q h => by rw [← hAe]; exact Or.inr h
  have hS : va_S A s.heap s.heap [] := va_S.rf
  have hG : GX [] tg σ I ri rj I ri rj rq := ⟨hG0, fun _ _ _ => rfl, fun _ _ _ _ _ => rfl, fun _ _ _ _ _ => rfl⟩
  have hl := lv_entry ([.ref this, .int a0, .int a1]) (n := 3) (Nat.le_of_ble_eq_true rfl)
  rw [lg_entry_eq]
  generalize (lg_sl ([.ref this, .int a0, .int a1]) ++ List.replicate (3 - (lg_sl ([.ref this, .int a0, .int a1])).length) Slot.unset).toArray = ls at hl ⊢
  have hl : lv_has ls 3 [(0, .ref this), (1, .int a0), (2, .int a1)] := hl
  refine q_gen (fun Q hQ => ?_)
  have go : ∀ (H : Heap) (locs : List Loc) (ls : Array Slot), va_P D vwCl (pq_P t σ (I, J, ri, rj, rq)) H → va_D A (pq_P t σ (I, J, ri, rj, rq)) → va_S A s.heap H locs → lv_has ls 3 [(0, .ref this), (1, .int a0), (2, .int a1)] → W p l e ({ frames := 2, cells := 0, slots := 0, locals := 46 } : Room) s m (List.toArray ([.ref this, .int a0, .int a1] : List Value)) below meth c H locs 0 0 Q (F0 m 0 ls []) := by
    intro H locs ls hP hD hS hl
    refine lv_aload_n hx hb dX11_found_0 rfl (lv_at hl 0 rfl) ?_
    refine lv_iload_n hx hb dX11_found_1 rfl (lv_at hl 1 rfl) ?_
    refine pk_i (va_runV (As := [.int a0]) (rest := []) ⟨hx, hb, hml, hown, hts⟩ (s_X11_isCell l D t σ I J ri rj rq H.size tg hSH hG.1 this a0 hL_this hK_this) (cwV 1 hts (tw_V tw_332 tw_333 tw_334 tw_2 tw_335) rfl rfl rfl cv_yX11_isCell_1 ⟨Nat.le_of_ble_eq_true rfl, Nat.le_of_ble_eq_true rfl⟩) ⟨pq_blind, pq_recv hK hP hL_this hK_this (by decide) rfl, pq_pre hK hN hP hD⟩ rfl rfl hl.1 rfl (lv_room (Nat.le_of_ble_eq_true rfl)) dX11_found_2 ⟨Nat.le_of_ble_eq_true rfl, Nat.le_of_ble_eq_true rfl⟩) hD hS hA (fun x_1 σ1 μ1 H locs hw_2 hP hD hS => ?_)
    obtain ⟨hu_3, hr_5⟩ := hw_2
    obtain ⟨hu_3a, hu_3b⟩ := Prod.mk.inj hu_3
    rw [hu_3a, hu_3b] at hP hD
    have h_6 : rg x_1 0 1 := by rcases hr_5 with ⟨q, -⟩ | ⟨q, -⟩ <;> rw [q] <;> exact ⟨by decide, by decide⟩
    have K_22 : ∀  (H : Heap) (locs : List Loc) (ls : Array Slot), GX [] tg σ I ri rj I ri rj rq → va_P D vwCl (pq_P t σ (I, J, ri, rj, rq)) H → va_D A (pq_P t σ (I, J, ri, rj, rq)) → va_S A s.heap H locs → lv_has ls 3 [] → W p l e ({ frames := 2, cells := 0, slots := 0, locals := 46 } : Room) s m (List.toArray ([.ref this, .int a0, .int a1] : List Value)) below meth c H locs 0 0 Q (F0 m 27 ls []) := by
      intro H locs ls hG hP hD hS hl
      refine lv_iconst (v := (-1)) hx hb dX11_found_27 (by decide) ?_
      subst hQ
      exact W.iret (v := (-1)) hx hb hr (fun t1 ht hW => ⟨⟨(-1), (σ, I, J, ri, rj, rq), rfl, ⟨rfl, (rg_w (rg_k (-1 : Int32) (-1) rfl) (by decide))⟩, by rw [ht]; exact hP, va_K.moved hW.alike hK, hD⟩, hS.F ht⟩) hS.2.2 dX11_found_28
    refine lv_if_eq (tgt := 27) hx hb dX11_found_5 (by decide) (fun c_23 => ?_) (fun c_23 => ?_)
    · have f_24 := (hr_5.resolve_left (fun q => absurd (q.1.symm.trans c_23) (by decide))).2
      have h_25 : rg x_1 0 0 := rg_and h_6 (rg_of_eq c_23 (rg_k (0 : Int32) 0 rfl)) (by decide)
      exact K_22 _ _ _ hG hP hD hS (lv_sub hl [] rfl)
    · have f_26 := (hr_5.resolve_right (fun q => c_23 q.1)).2
      have h_27 : rg x_1 1 1 := rg_ne c_23 h_6 0 rfl (by decide)
      refine lv_iload_n hx hb dX11_found_8 rfl (lv_at hl 2 rfl) ?_
      refine lv_if_lt (tgt := 27) hx hb dX11_found_9 (by decide) (fun c_28 => ?_) (fun c_28 => ?_)
      · have h_29 : rg a1 (-2147483648) (-1) := rg_lt1 c_28 (rg_full _) (rg_k (0 : Int32) 0 rfl) (by decide)
        exact K_22 _ _ _ hG hP hD hS (lv_sub hl [] rfl)
      · have h_30 : rg a1 0 2147483647 := rg_le2 (nlt c_28) (rg_k (0 : Int32) 0 rfl) (rg_full _) (by decide)
        refine lv_aload_n hx hb dX11_found_12 rfl (lv_at hl 0 rfl) ?_
        obtain ⟨w_31, hR_w_31, hL_w_31, hK_w_31⟩ := sh_o hSH 352 (ci := 11) (kd := 10) rfl hL_this hK_this
        refine pg_f (v := .ref w_31) (C := RX11) (T := TX11) (N := 5) hx hb hts (tw_i inlX11) hown hK hP hL_this hK_this (by decide) rfl 0 (by decide) (hts _ (tw_c tw_16)) (pq_hv rfl hR_w_31) dX11_found_13 ?_
        obtain ⟨w_32, hR_w_32, hL_w_32, hK_w_32⟩ := sh_o hSH 330 (ci := 10) (kd := 1) rfl hL_w_31 hK_w_31
        refine pg_f (v := .ref w_32) (C := RX10) (T := TX10) (N := 13) hx hb hts (tw_i inlX10) hown hK hP hL_w_31 hK_w_31 (by decide) rfl 10 (by decide) (hts _ (tw_c tw_1499)) (pq_hv rfl hR_w_32) dX11_found_16 ?_
        refine lv_iload_n hx hb dX11_found_19 rfl (lv_at hl 1 rfl) ?_
        refine lv_iload_n hx hb dX11_found_20 rfl (lv_at hl 2 rfl) ?_
        refine pk_i (va_runV (As := [.int a0, .int a1]) (rest := []) ⟨hx, hb, hml, hown, hts⟩ (s_X1_whereNow l D t σ I J ri rj rq H.size tg hSH hG.1 w_32 a0 a1 hL_w_32 hK_w_32) (cwV 2 hts (tw_V tw_1529 tw_1530 tw_1531 tw_53 tw_1532) rfl rfl rfl cv_yX1_whereNow_2 ⟨Nat.le_of_ble_eq_true rfl, Nat.le_of_ble_eq_true rfl⟩) ⟨pq_blind, pq_recv hK hP hL_w_32 hK_w_32 (by decide) rfl, pq_pre hK hN hP hD⟩ rfl rfl hl.1 rfl (lv_room (Nat.le_of_ble_eq_true rfl)) dX11_found_21 ⟨Nat.le_of_ble_eq_true rfl, Nat.le_of_ble_eq_true rfl⟩) hD hS hA (fun x_33 σ1 μ1 H locs hw_34 hP hD hS => ?_)
        obtain ⟨hu_35, hr_37⟩ := hw_34
        obtain ⟨hu_35a, hu_35b⟩ := Prod.mk.inj hu_35
        rw [hu_35a, hu_35b] at hP hD
        refine lv_goto (tgt := 28) hx hb dX11_found_24 (by decide) ?_
        subst hQ
        exact W.iret (v := x_33) hx hb hr (fun t1 ht hW => ⟨⟨x_33, (σ, I, J, ri, rj, rq), rfl, ⟨rfl, (rg_w hr_37 (by decide))⟩, by rw [ht]; exact hP, va_K.moved hW.alike hK, hD⟩, hS.F ht⟩) hS.2.2 dX11_found_28
  exact go _ _ _ hP hD hS hl
