theorem dX11_bury_0 : decode cX11_bury 0 = .ok (.iload_n 1, 1) := by decide +kernel
theorem dX11_bury_1 : decode cX11_bury 1 = .ok (.iconst 0, 1) := by decide +kernel
theorem dX11_bury_2 : decode cX11_bury 2 = .ok (.aload_n 0, 1) := by decide +kernel
theorem dX11_bury_3 : decode cX11_bury 3 = .ok (.getfield 10, 3) := by decide +kernel
theorem dX11_bury_6 : decode cX11_bury 6 = .ok (.getfield 355, 3) := by decide +kernel
theorem dX11_bury_9 : decode cX11_bury 9 = .ok (.getfield 359, 3) := by decide +kernel
theorem dX11_bury_12 : decode cX11_bury 12 = .ok (.iconst 1, 1) := by decide +kernel
theorem dX11_bury_13 : decode cX11_bury 13 = .ok (.isub, 1) := by decide +kernel
theorem dX11_bury_14 : decode cX11_bury 14 = .ok (.invokestatic 50, 3) := by decide +kernel
theorem dX11_bury_28 : decode cX11_bury 28 = .ok (.iconst 0, 1) := by decide +kernel
theorem dX11_bury_29 : decode cX11_bury 29 = .ok (.ireturn, 1) := by decide +kernel
theorem dX11_bury_17 : decode cX11_bury 17 = .ok (.ifCond .eq 11, 3) := by decide +kernel
theorem dX11_bury_20 : decode cX11_bury 20 = .ok (.aload_n 0, 1) := by decide +kernel
theorem dX11_bury_21 : decode cX11_bury 21 = .ok (.iload_n 2, 1) := by decide +kernel
theorem dX11_bury_22 : decode cX11_bury 22 = .ok (.invokevirtual 119, 3) := by decide +kernel
theorem dX11_bury_25 : decode cX11_bury 25 = .ok (.ifCond .ne 5, 3) := by decide +kernel
theorem dX11_bury_30 : decode cX11_bury 30 = .ok (.aload_n 0, 1) := by decide +kernel
theorem dX11_bury_31 : decode cX11_bury 31 = .ok (.getfield 10, 3) := by decide +kernel
theorem dX11_bury_34 : decode cX11_bury 34 = .ok (.getfield 355, 3) := by decide +kernel
theorem dX11_bury_37 : decode cX11_bury 37 = .ok (.iload_n 1, 1) := by decide +kernel
theorem dX11_bury_38 : decode cX11_bury 38 = .ok (.iload_n 2, 1) := by decide +kernel
theorem tw_1517 : Cond.methodLink RX11 371 yX1_carry ∈ wsL_law := List.mem_of_getElem? (i := 1517) (by decide +kernel)
theorem tw_1518 : Cond.instanceMethod yX1_carry ∈ wsL_law := List.mem_of_getElem? (i := 1518) (by decide +kernel)
theorem tw_1519 : Cond.selects RX1 yX1_carry yX1_carry ∈ wsL_law := List.mem_of_getElem? (i := 1519) (by decide +kernel)
theorem tw_1520 : Cond.code yX1_carry cX1_carry 3 (some .boolean) ∈ wsL_law := List.mem_of_getElem? (i := 1520) (by decide +kernel)
theorem dX11_bury_39 : decode cX11_bury 39 = .ok (.invokevirtual 371, 3) := by decide +kernel
theorem dX11_bury_42 : decode cX11_bury 42 = .ok (.ireturn, 1) := by decide +kernel
theorem dX11_found_0 : decode cX11_found 0 = .ok (.aload_n 0, 1) := by decide +kernel
theorem dX11_found_1 : decode cX11_found 1 = .ok (.iload_n 1, 1) := by decide +kernel
theorem dX11_found_2 : decode cX11_found 2 = .ok (.invokevirtual 119, 3) := by decide +kernel
theorem dX11_found_27 : decode cX11_found 27 = .ok (.iconst (-1), 1) := by decide +kernel
theorem dX11_found_28 : decode cX11_found 28 = .ok (.ireturn, 1) := by decide +kernel
theorem dX11_found_5 : decode cX11_found 5 = .ok (.ifCond .eq 22, 3) := by decide +kernel
theorem dX11_found_8 : decode cX11_found 8 = .ok (.iload_n 2, 1) := by decide +kernel
theorem dX11_found_9 : decode cX11_found 9 = .ok (.ifCond .lt 18, 3) := by decide +kernel
theorem dX11_found_12 : decode cX11_found 12 = .ok (.aload_n 0, 1) := by decide +kernel
theorem dX11_found_13 : decode cX11_found 13 = .ok (.getfield 10, 3) := by decide +kernel
theorem dX11_found_16 : decode cX11_found 16 = .ok (.getfield 355, 3) := by decide +kernel
theorem dX11_found_19 : decode cX11_found 19 = .ok (.iload_n 1, 1) := by decide +kernel
theorem dX11_found_20 : decode cX11_found 20 = .ok (.iload_n 2, 1) := by decide +kernel
theorem tw_1529 : Cond.methodLink RX11 375 yX1_whereNow ∈ wsL_law := List.mem_of_getElem? (i := 1529) (by decide +kernel)
theorem tw_1530 : Cond.instanceMethod yX1_whereNow ∈ wsL_law := List.mem_of_getElem? (i := 1530) (by decide +kernel)
theorem tw_1531 : Cond.selects RX1 yX1_whereNow yX1_whereNow ∈ wsL_law := List.mem_of_getElem? (i := 1531) (by decide +kernel)
theorem tw_1532 : Cond.code yX1_whereNow cX1_whereNow 5 (some .int) ∈ wsL_law := List.mem_of_getElem? (i := 1532) (by decide +kernel)
theorem dX11_found_21 : decode cX11_found 21 = .ok (.invokevirtual 375, 3) := by decide +kernel
theorem dX11_found_24 : decode cX11_found 24 = .ok (.goto 4, 3) := by decide +kernel
theorem dX11_image_0 : decode cX11_image 0 = .ok (.aload_n 0, 1) := by decide +kernel
theorem tw_17 : Cond.fieldLink RX11 16 "RingsUnder" "kept" "LRingsUnder$World;" ∈ wsL_law := List.mem_of_getElem? (i := 17) (by decide +kernel)
theorem dX11_image_1 : decode cX11_image 1 = .ok (.getfield 16, 3) := by decide +kernel
theorem dX11_image_4 : decode cX11_image 4 = .ok (.aload_n 0, 1) := by decide +kernel
theorem dX11_image_5 : decode cX11_image 5 = .ok (.getfield 10, 3) := by decide +kernel
theorem dX11_image_8 : decode cX11_image 8 = .ok (.invokevirtual 266, 3) := by decide +kernel
theorem dX11_image_11 : decode cX11_image 11 = .ok (.aload_n 0, 1) := by decide +kernel
theorem dX11_image_12 : decode cX11_image 12 = .ok (.getfield 10, 3) := by decide +kernel
theorem dX11_image_15 : decode cX11_image 15 = .ok (.getfield 54, 3) := by decide +kernel
theorem dX11_image_18 : decode cX11_image 18 = .ok (.ireturn, 1) := by decide +kernel
theorem dX11_back_0 : decode cX11_back 0 = .ok (.aload_n 0, 1) := by decide +kernel
theorem dX11_back_1 : decode cX11_back 1 = .ok (.getfield 10, 3) := by decide +kernel
theorem dX11_back_4 : decode cX11_back 4 = .ok (.aload_n 0, 1) := by decide +kernel
theorem dX11_back_5 : decode cX11_back 5 = .ok (.getfield 16, 3) := by decide +kernel
theorem dX11_back_8 : decode cX11_back 8 = .ok (.invokevirtual 266, 3) := by decide +kernel
theorem dX11_back_11 : decode cX11_back 11 = .ok (.aload_n 0, 1) := by decide +kernel
theorem dX11_back_12 : decode cX11_back 12 = .ok (.getfield 10, 3) := by decide +kernel
theorem dX11_back_15 : decode cX11_back 15 = .ok (.getfield 54, 3) := by decide +kernel
theorem dX11_back_18 : decode cX11_back 18 = .ok (.ireturn, 1) := by decide +kernel
set_option maxHeartbeats 4000000 in
set_option maxRecDepth 100000 in
theorem s_X11_bury (l : Launch) (D : va_G) (t : pq_T) (σ : pq_S) (I : Nat → Nat → Int32) (J : Nat → Nat → Int64) (ri : Nat → Nat → Int32) (rj : Nat → Nat → Int64) (rq : Nat → Nat → Option Nat) (sz : Nat) (tg : Nat → Nat) (hSH : SH σ tg) (hG0 : GS tg σ I ri rq) (this : Nat) (a0 : Int32) (a1 : Int32) (hL_this : this ∈ σ.1) (hK_this : σ.2.1 this = 11) : MetI l yX11_bury (wa yX11_bury cX11_bury 3 (some .boolean)) ({ frames := 2, cells := 0, slots := 0, locals := 43 }) [.ref this, .int a0, .int a1] D t σ (I, J, ri, rj, rq) sz 0 0 (fun (r : Int32) (u : pq_S × pq_M) => ∃ ri' : Nat → Nat → Int32, ∃ rj' : Nat → Nat → Int64, u = (σ, I, J, ri', rj', rq) ∧ GX [1033, 1034] tg σ I ri rj I ri' rj' rq ∧ ((r = 1 ∧ rg a0 0 29 ∧ rg a1 0 39) ∨ (r = 0 ∧ True))) := by
  refine Met.ofW (cc := cX11_bury) (maxL := 3) (ret := (some .boolean)) (by decide) rfl ?_
  intro p e s m args below meth c s₁ B hml hv
  obtain ⟨rfl, hsz, hP, hK, hD0, hN⟩ := hv
  have hx := B.exec
  have hb := B.bytes
  have hr := B.returns
  have hts := atoms_spec (ws := (wa yX11_bury cX11_bury 3 (some .boolean))) B.pre
  have hown : s.vm.findClass RX11 = some m.cls := findClass_of_methodNamed B.named
  have hlocks := B.notSynchronized
  subst hsz
  have hD : va_D (pq_B t σ (I, J, ri, rj, rq) s.heap.size) (pq_P t σ (I, J, ri, rj, rq)) := hD0.self
  generalize hAe : pq_B t σ (I, J, ri, rj, rq) s.heap.size = A at hD ⊢
  have hA : ∀ q : Nat, s.heap.size ≤ q → A q := fun q h => by rw [← hAe]; exact Or.inr h
  have hS : va_S A s.heap s.heap [] := va_S.rf
  have hG : GX [1033, 1034] tg σ I ri rj I ri rj rq := ⟨hG0, fun _ _ _ => rfl, fun _ _ _ _ _ => rfl, fun _ _ _ _ _ => rfl⟩
  have hl := lv_entry ([.ref this, .int a0, .int a1]) (n := 3) (Nat.le_of_ble_eq_true rfl)
  rw [lg_entry_eq]
  generalize (lg_sl ([.ref this, .int a0, .int a1]) ++ List.replicate (3 - (lg_sl ([.ref this, .int a0, .int a1])).length) Slot.unset).toArray = ls at hl ⊢
  have hl : lv_has ls 3 [(0, .ref this), (1, .int a0), (2, .int a1)] := hl
  refine q_gen (fun Q hQ => ?_)
  have go : ∀ (H : Heap) (locs : List Loc) (ls : Array Slot), va_P D vwCl (pq_P t σ (I, J, ri, rj, rq)) H → va_D A (pq_P t σ (I, J, ri, rj, rq)) → va_S A s.heap H locs → lv_has ls 3 [(0, .ref this), (1, .int a0), (2, .int a1)] → W p l e ({ frames := 2, cells := 0, slots := 0, locals := 43 } : Room) s m (List.toArray ([.ref this, .int a0, .int a1] : List Value)) below meth c H locs 0 0 Q (F0 m 0 ls []) := by
    intro H locs ls hP hD hS hl
    refine lv_iload_n hx hb dX11_bury_0 rfl (lv_at hl 1 rfl) ?_
    refine lv_iconst (v := 0) hx hb dX11_bury_1 (by decide) ?_
    refine lv_aload_n hx hb dX11_bury_2 rfl (lv_at hl 0 rfl) ?_
    obtain ⟨w_1, hR_w_1, hL_w_1, hK_w_1⟩ := sh_o hSH 352 (ci := 11) (kd := 10) rfl hL_this hK_this
    refine pg_f (v := .ref w_1) (C := RX11) (T := TX11) (N := 5) hx hb hts (tw_i inlX11) hown hK hP hL_this hK_this (by decide) rfl 0 (by decide) (hts _ (tw_c tw_16)) (pq_hv rfl hR_w_1) dX11_bury_3 ?_
    obtain ⟨w_2, hR_w_2, hL_w_2, hK_w_2⟩ := sh_o hSH 330 (ci := 10) (kd := 1) rfl hL_w_1 hK_w_1
    refine pg_f (v := .ref w_2) (C := RX10) (T := TX10) (N := 13) hx hb hts (tw_i inlX10) hown hK hP hL_w_1 hK_w_1 (by decide) rfl 10 (by decide) (hts _ (tw_c tw_1499)) (pq_hv rfl hR_w_2) dX11_bury_6 ?_
    refine pg_f (v := .int (I 32 w_2)) (C := RX1) (T := TX1) (N := 3) hx hb hts (tw_i inlX1) hown hK hP hL_w_2 hK_w_2 (by decide) rfl 0 (by decide) (hts _ (tw_c tw_1500)) rfl dX11_bury_9 ?_
    have h_3 : rg (I 32 w_2) 0 30 := GX.rI hG 32 rfl
    refine lv_iconst (v := 1) hx hb dX11_bury_12 (by decide) ?_
    refine lv_isub hx hb dX11_bury_13 ?_
    refine lv_topi (fun x_4 ex_4 => ?_)
    have h_5 : rg x_4 (-1) 29 := rg_of_eq ex_4 (rg_sub h_3 (rg_k (1 : Int32) 1 rfl) (by decide))
    refine pk_i (va_runS (As := [.int a0, .int 0, .int x_4]) (rest := []) ⟨hx, hb, hml, hown, hts⟩ (s_X11_between l D t σ I J ri rj rq H.size tg hSH hG.1 a0 (0 : Int32) x_4) (va_cwS 3 hts (tw_S tw_215 tw_216 tw_2 tw_217) rfl rfl rfl (by decide +kernel) ⟨Nat.le_of_ble_eq_true rfl, Nat.le_of_ble_eq_true rfl⟩) ⟨pq_blind, pq_pre hK hN hP hD⟩ rfl rfl hl.1 rfl (lv_room (Nat.le_of_ble_eq_true rfl)) dX11_bury_14 ⟨Nat.le_of_ble_eq_true rfl, Nat.le_of_ble_eq_true rfl⟩) hD hS hA (fun x_6 σ1 μ1 H locs hw_7 hP hD hS => ?_)
    obtain ⟨hu_8, hr_10⟩ := hw_7
    obtain ⟨hu_8a, hu_8b⟩ := Prod.mk.inj hu_8
    rw [hu_8a, hu_8b] at hP hD
    have h_11 : rg x_6 0 1 := by rcases hr_10 with ⟨q, -⟩ | ⟨q, -⟩ <;> rw [q] <;> exact ⟨by decide, by decide⟩
    have K_41 : ∀  (H : Heap) (locs : List Loc) (ls : Array Slot), GX [1033, 1034] tg σ I ri rj I ri rj rq → va_P D vwCl (pq_P t σ (I, J, ri, rj, rq)) H → va_D A (pq_P t σ (I, J, ri, rj, rq)) → va_S A s.heap H locs → lv_has ls 3 [] → W p l e ({ frames := 2, cells := 0, slots := 0, locals := 43 } : Room) s m (List.toArray ([.ref this, .int a0, .int a1] : List Value)) below meth c H locs 0 0 Q (F0 m 28 ls []) := by
      intro H locs ls hG hP hD hS hl
      refine lv_iconst (v := 0) hx hb dX11_bury_28 (by decide) ?_
      subst hQ
      exact W.zret (v := 0) hx hb hr (by decide) (fun t1 ht hW => ⟨⟨0, (σ, I, J, ri, rj, rq), rfl, ⟨ri, rj, rfl, hG, (Or.inr ⟨rfl, trivial⟩)⟩, by rw [ht]; exact hP, va_K.moved hW.alike hK, hD⟩, hS.F ht⟩) hS.2.2 dX11_bury_29
    refine lv_if_eq (tgt := 28) hx hb dX11_bury_17 (by decide) (fun c_42 => ?_) (fun c_42 => ?_)
    · have f_43 := (hr_10.resolve_left (fun q => absurd (q.1.symm.trans c_42) (by decide))).2
      have h_44 : rg x_6 0 0 := rg_and h_11 (rg_of_eq c_42 (rg_k (0 : Int32) 0 rfl)) (by decide)
      exact K_41 _ _ _ hG hP hD hS (lv_sub hl [] rfl)
    · obtain ⟨f_45, f_46⟩ := (hr_10.resolve_right (fun q => c_42 q.1)).2
      have h_47 : rg a0 0 2147483647 := rg_le2 f_45 (rg_k (0 : Int32) 0 rfl) (rg_full _) (by decide)
      have h_48 : rg a0 0 29 := rg_le1 f_46 h_47 h_5 (by decide)
      have h_49 : rg x_4 0 29 := rg_le2 f_46 h_47 h_5 (by decide)
      have h_50 : rg x_6 1 1 := rg_ne c_42 h_11 0 rfl (by decide)
      refine lv_aload_n hx hb dX11_bury_20 rfl (lv_at hl 0 rfl) ?_
      refine lv_iload_n hx hb dX11_bury_21 rfl (lv_at hl 2 rfl) ?_
      refine pk_i (va_runV (As := [.int a1]) (rest := []) ⟨hx, hb, hml, hown, hts⟩ (s_X11_isCell l D t σ I J ri rj rq H.size tg hSH hG.1 this a1 hL_this hK_this) (cwV 1 hts (tw_V tw_332 tw_333 tw_334 tw_2 tw_335) rfl rfl rfl (by decide +kernel) ⟨Nat.le_of_ble_eq_true rfl, Nat.le_of_ble_eq_true rfl⟩) ⟨pq_blind, pq_recv hK hP hL_this hK_this (by decide) rfl, pq_pre hK hN hP hD⟩ rfl rfl hl.1 rfl (lv_room (Nat.le_of_ble_eq_true rfl)) dX11_bury_22 ⟨Nat.le_of_ble_eq_true rfl, Nat.le_of_ble_eq_true rfl⟩) hD hS hA (fun x_51 σ1 μ1 H locs hw_52 hP hD hS => ?_)
      obtain ⟨hu_53, hr_55⟩ := hw_52
      obtain ⟨hu_53a, hu_53b⟩ := Prod.mk.inj hu_53
      rw [hu_53a, hu_53b] at hP hD
      have h_56 : rg x_51 0 1 := by rcases hr_55 with ⟨q, -⟩ | ⟨q, -⟩ <;> rw [q] <;> exact ⟨by decide, by decide⟩
      refine lv_if_ne (tgt := 30) hx hb dX11_bury_25 (by decide) (fun c_57 => ?_) (fun c_57 => ?_)
      · have f_58 := (hr_55.resolve_right (fun q => c_57 q.1)).2
        have h_59 : rg x_51 1 1 := rg_ne c_57 h_56 0 rfl (by decide)
        refine lv_aload_n hx hb dX11_bury_30 rfl (lv_at hl 0 rfl) ?_
        refine pg_f (v := .ref w_1) (C := RX11) (T := TX11) (N := 5) hx hb hts (tw_i inlX11) hown hK hP hL_this hK_this (by decide) rfl 0 (by decide) (hts _ (tw_c tw_16)) (pq_hv rfl hR_w_1) dX11_bury_31 ?_
        refine pg_f (v := .ref w_2) (C := RX10) (T := TX10) (N := 13) hx hb hts (tw_i inlX10) hown hK hP hL_w_1 hK_w_1 (by decide) rfl 10 (by decide) (hts _ (tw_c tw_1499)) (pq_hv rfl hR_w_2) dX11_bury_34 ?_
        refine lv_iload_n hx hb dX11_bury_37 rfl (lv_at hl 1 rfl) ?_
        refine lv_iload_n hx hb dX11_bury_38 rfl (lv_at hl 2 rfl) ?_
        refine pk_i (va_runV (As := [.int a0, .int a1]) (rest := []) ⟨hx, hb, hml, hown, hts⟩ (s_X1_carry l D t σ I J ri rj rq H.size tg hSH hG.1 w_2 a0 a1 hL_w_2 hK_w_2 (rg_w h_48 (by decide)) (rg_w f_58 (by decide))) (cwV 2 hts (tw_V tw_1517 tw_1518 tw_1519 tw_53 tw_1520) rfl rfl rfl (by decide +kernel) ⟨Nat.le_of_ble_eq_true rfl, Nat.le_of_ble_eq_true rfl⟩) ⟨pq_blind, pq_recv hK hP hL_w_2 hK_w_2 (by decide) rfl, pq_pre hK hN hP hD⟩ rfl rfl hl.1 rfl (lv_room (Nat.le_of_ble_eq_true rfl)) dX11_bury_39 ⟨Nat.le_of_ble_eq_true rfl, Nat.le_of_ble_eq_true rfl⟩) hD hS hA (fun x_60 σ1 μ1 H locs hw_61 hP hD hS => ?_)
        obtain ⟨ri_62, rj_63, hu_64, hg_65, hr_66⟩ := hw_61
        obtain ⟨hu_64a, hu_64b⟩ := Prod.mk.inj hu_64
        rw [hu_64a, hu_64b] at hP hD
        have hG := GX.tr hG hg_65 (by decide)
        have h_67 : rg x_60 0 1 := by rcases hr_66 with ⟨q, -⟩ | ⟨q, -⟩ <;> rw [q] <;> exact ⟨by decide, by decide⟩
        rcases bool01 (rg_w h_67 (by decide)) with e_68 | e_68
        · refine lv_tov 0 e_68 ?_
          subst hQ
          exact W.zret (v := 0) hx hb hr (by decide) (fun t1 ht hW => ⟨⟨0, (σ, I, J, ri_62, rj_63, rq), rfl, ⟨ri_62, rj_63, rfl, hG, (Or.inr ⟨rfl, trivial⟩)⟩, by rw [ht]; exact hP, va_K.moved hW.alike hK, hD⟩, hS.F ht⟩) hS.2.2 dX11_bury_42
        · refine lv_tov 1 e_68 ?_
          subst hQ
          exact W.zret (v := 1) hx hb hr (by decide) (fun t1 ht hW => ⟨⟨1, (σ, I, J, ri_62, rj_63, rq), rfl, ⟨ri_62, rj_63, rfl, hG, (Or.inl ⟨rfl, (rg_w h_48 (by decide)), (rg_w f_58 (by decide))⟩)⟩, by rw [ht]; exact hP, va_K.moved hW.alike hK, hD⟩, hS.F ht⟩) hS.2.2 dX11_bury_42
      · have f_69 := (hr_55.resolve_left (fun q => absurd (q.1.symm.trans c_57) (by decide))).2
        have h_70 : rg x_51 0 0 := rg_and h_56 (rg_of_eq c_57 (rg_k (0 : Int32) 0 rfl)) (by decide)
        exact K_41 _ _ _ hG hP hD hS (lv_sub hl [] rfl)
  exact go _ _ _ hP hD hS hl

set_option maxHeartbeats 4000000 in
set_option maxRecDepth 100000 in
theorem s_X11_found (l : Launch) (D : va_G) (t : pq_T) (σ : pq_S) (I : Nat → Nat → Int32) (J : Nat → Nat → Int64) (ri : Nat → Nat → Int32) (rj : Nat → Nat → Int64) (rq : Nat → Nat → Option Nat) (sz : Nat) (tg : Nat → Nat) (hSH : SH σ tg) (hG0 : GS tg σ I ri rq) (this : Nat) (a0 : Int32) (a1 : Int32) (hL_this : this ∈ σ.1) (hK_this : σ.2.1 this = 11) : MetI l yX11_found (wa yX11_found cX11_found 3 (some .int)) ({ frames := 2, cells := 0, slots := 0, locals := 46 }) [.ref this, .int a0, .int a1] D t σ (I, J, ri, rj, rq) sz 0 0 (fun (r : Int32) (u : pq_S × pq_M) => u = (σ, I, J, ri, rj, rq) ∧ rg r (-1) 39) := by
  refine Met.ofW (cc := cX11_found) (maxL := 3) (ret := (some .int)) (by decide) rfl ?_
  intro p e s m args below meth c s₁ B hml hv
  obtain ⟨rfl, hsz, hP, hK, hD0, hN⟩ := hv
  have hx := B.exec
  have hb := B.bytes
  have hr := B.returns
  have hts := atoms_spec (ws := (wa yX11_found cX11_found 3 (some .int))) B.pre
  have hown : s.vm.findClass RX11 = some m.cls := findClass_of_methodNamed B.named
  have hlocks := B.notSynchronized
  subst hsz
  have hD : va_D (pq_B t σ (I, J, ri, rj, rq) s.heap.size) (pq_P t σ (I, J, ri, rj, rq)) := hD0.self
  generalize hAe : pq_B t σ (I, J, ri, rj, rq) s.heap.size = A at hD ⊢
  have hA : ∀ q : Nat, s.heap.size ≤ q → A q := fun q h => by rw [← hAe]; exact Or.inr h
  have hS : va_S A s.heap s.heap [] := va_S.rf
  have hG : GX [] tg σ I ri rj I ri rj rq := ⟨hG0, fun _ _ _ => rfl, fun _ _ _ _ _ => rfl, fun _ _ _ _ _ => rfl⟩
  have hl := lv_entry ([.ref this, .int a0, .int a1]) (n := 3) (Nat.le_of_ble_eq_true rfl)
  rw [lg_entry_eq]
  generalize (lg_sl ([.ref this, .int a0, .int a1]) ++ List.replicate (3 - (lg_sl ([.ref this, .int a0, .int a1])).length) Slot.unset).toArray = ls at hl ⊢
  have hl : lv_has ls 3 [(0, .ref this), (1, .int a0), (2, .int a1)] := hl
  refine q_gen (fun Q hQ => ?_)
  have go : ∀ (H : Heap) (locs : List Loc) (ls : Array Slot), va_P D vwCl (pq_P t σ (I, J, ri, rj, rq)) H → va_D A (pq_P t σ (I, J, ri, rj, rq)) → va_S A s.heap H locs → lv_has ls 3 [(0, .ref this), (1, .int a0), (2, .int a1)] → W p l e ({ frames := 2, cells := 0, slots := 0, locals := 46 } : Room) s m (List.toArray ([.ref this, .int a0, .int a1] : List Value)) below meth c H locs 0 0 Q (F0 m 0 ls []) := by
    intro H locs ls hP hD hS hl
    refine lv_aload_n hx hb dX11_found_0 rfl (lv_at hl 0 rfl) ?_
    refine lv_iload_n hx hb dX11_found_1 rfl (lv_at hl 1 rfl) ?_
    refine pk_i (va_runV (As := [.int a0]) (rest := []) ⟨hx, hb, hml, hown, hts⟩ (s_X11_isCell l D t σ I J ri rj rq H.size tg hSH hG.1 this a0 hL_this hK_this) (cwV 1 hts (tw_V tw_332 tw_333 tw_334 tw_2 tw_335) rfl rfl rfl (by decide +kernel) ⟨Nat.le_of_ble_eq_true rfl, Nat.le_of_ble_eq_true rfl⟩) ⟨pq_blind, pq_recv hK hP hL_this hK_this (by decide) rfl, pq_pre hK hN hP hD⟩ rfl rfl hl.1 rfl (lv_room (Nat.le_of_ble_eq_true rfl)) dX11_found_2 ⟨Nat.le_of_ble_eq_true rfl, Nat.le_of_ble_eq_true rfl⟩) hD hS hA (fun x_1 σ1 μ1 H locs hw_2 hP hD hS => ?_)
    obtain ⟨hu_3, hr_5⟩ := hw_2
    obtain ⟨hu_3a, hu_3b⟩ := Prod.mk.inj hu_3
    rw [hu_3a, hu_3b] at hP hD
    have h_6 : rg x_1 0 1 := by rcases hr_5 with ⟨q, -⟩ | ⟨q, -⟩ <;> rw [q] <;> exact ⟨by decide, by decide⟩
    have K_22 : ∀  (H : Heap) (locs : List Loc) (ls : Array Slot), GX [] tg σ I ri rj I ri rj rq → va_P D vwCl (pq_P t σ (I, J, ri, rj, rq)) H → va_D A (pq_P t σ (I, J, ri, rj, rq)) → va_S A s.heap H locs → lv_has ls 3 [] → W p l e ({ frames := 2, cells := 0, slots := 0, locals := 46 } : Room) s m (List.toArray ([.ref this, .int a0, .int a1] : List Value)) below meth c H locs 0 0 Q (F0 m 27 ls []) := by
      intro H locs ls hG hP hD hS hl
      refine lv_iconst (v := (-1)) hx hb dX11_found_27 (by decide) ?_
      subst hQ
      exact W.iret (v := (-1)) hx hb hr (fun t1 ht hW => ⟨⟨(-1), (σ, I, J, ri, rj, rq), rfl, ⟨rfl, (rg_w (rg_k (-1 : Int32) (-1) rfl) (by decide))⟩, by rw [ht]; exact hP, va_K.moved hW.alike hK, hD⟩, hS.F ht⟩) hS.2.2 dX11_found_28
    refine lv_if_eq (tgt := 27) hx hb dX11_found_5 (by decide) (fun c_23 => ?_) (fun c_23 => ?_)
    · have f_24 := (hr_5.resolve_left (fun q => absurd (q.1.symm.trans c_23) (by decide))).2
      have h_25 : rg x_1 0 0 := rg_and h_6 (rg_of_eq c_23 (rg_k (0 : Int32) 0 rfl)) (by decide)
      exact K_22 _ _ _ hG hP hD hS (lv_sub hl [] rfl)
    · have f_26 := (hr_5.resolve_right (fun q => c_23 q.1)).2
      have h_27 : rg x_1 1 1 := rg_ne c_23 h_6 0 rfl (by decide)
      refine lv_iload_n hx hb dX11_found_8 rfl (lv_at hl 2 rfl) ?_
      refine lv_if_lt (tgt := 27) hx hb dX11_found_9 (by decide) (fun c_28 => ?_) (fun c_28 => ?_)
      · have h_29 : rg a1 (-2147483648) (-1) := rg_lt1 c_28 (rg_full _) (rg_k (0 : Int32) 0 rfl) (by decide)
        exact K_22 _ _ _ hG hP hD hS (lv_sub hl [] rfl)
      · have h_30 : rg a1 0 2147483647 := rg_le2 (nlt c_28) (rg_k (0 : Int32) 0 rfl) (rg_full _) (by decide)
        refine lv_aload_n hx hb dX11_found_12 rfl (lv_at hl 0 rfl) ?_
        obtain ⟨w_31, hR_w_31, hL_w_31, hK_w_31⟩ := sh_o hSH 352 (ci := 11) (kd := 10) rfl hL_this hK_this
        refine pg_f (v := .ref w_31) (C := RX11) (T := TX11) (N := 5) hx hb hts (tw_i inlX11) hown hK hP hL_this hK_this (by decide) rfl 0 (by decide) (hts _ (tw_c tw_16)) (pq_hv rfl hR_w_31) dX11_found_13 ?_
        obtain ⟨w_32, hR_w_32, hL_w_32, hK_w_32⟩ := sh_o hSH 330 (ci := 10) (kd := 1) rfl hL_w_31 hK_w_31
        refine pg_f (v := .ref w_32) (C := RX10) (T := TX10) (N := 13) hx hb hts (tw_i inlX10) hown hK hP hL_w_31 hK_w_31 (by decide) rfl 10 (by decide) (hts _ (tw_c tw_1499)) (pq_hv rfl hR_w_32) dX11_found_16 ?_
        refine lv_iload_n hx hb dX11_found_19 rfl (lv_at hl 1 rfl) ?_
        refine lv_iload_n hx hb dX11_found_20 rfl (lv_at hl 2 rfl) ?_
        refine pk_i (va_runV (As := [.int a0, .int a1]) (rest := []) ⟨hx, hb, hml, hown, hts⟩ (s_X1_whereNow l D t σ I J ri rj rq H.size tg hSH hG.1 w_32 a0 a1 hL_w_32 hK_w_32) (cwV 2 hts (tw_V tw_1529 tw_1530 tw_1531 tw_53 tw_1532) rfl rfl rfl (by decide +kernel) ⟨Nat.le_of_ble_eq_true rfl, Nat.le_of_ble_eq_true rfl⟩) ⟨pq_blind, pq_recv hK hP hL_w_32 hK_w_32 (by decide) rfl, pq_pre hK hN hP hD⟩ rfl rfl hl.1 rfl (lv_room (Nat.le_of_ble_eq_true rfl)) dX11_found_21 ⟨Nat.le_of_ble_eq_true rfl, Nat.le_of_ble_eq_true rfl⟩) hD hS hA (fun x_33 σ1 μ1 H locs hw_34 hP hD hS => ?_)
        obtain ⟨hu_35, hr_37⟩ := hw_34
        obtain ⟨hu_35a, hu_35b⟩ := Prod.mk.inj hu_35
        rw [hu_35a, hu_35b] at hP hD
        refine lv_goto (tgt := 28) hx hb dX11_found_24 (by decide) ?_
        subst hQ
        exact W.iret (v := x_33) hx hb hr (fun t1 ht hW => ⟨⟨x_33, (σ, I, J, ri, rj, rq), rfl, ⟨rfl, (rg_w hr_37 (by decide))⟩, by rw [ht]; exact hP, va_K.moved hW.alike hK, hD⟩, hS.F ht⟩) hS.2.2 dX11_found_28
  exact go _ _ _ hP hD hS hl

set_option maxHeartbeats 4000000 in
set_option maxRecDepth 100000 in
theorem s_X11_image (l : Launch) (D : va_G) (t : pq_T) (σ : pq_S) (I : Nat → Nat → Int32) (J : Nat → Nat → Int64) (ri : Nat → Nat → Int32) (rj : Nat → Nat → Int64) (rq : Nat → Nat → Option Nat) (sz : Nat) (tg : Nat → Nat) (hSH : SH σ tg) (hG0 : GS tg σ I ri rq) (this : Nat) (hL_this : this ∈ σ.1) (hK_this : σ.2.1 this = 11) : MetI l yX11_image (wa yX11_image cX11_image 1 (some .int)) ({ frames := 5, cells := 0, slots := 0, locals := 144 }) [.ref this] D t σ (I, J, ri, rj, rq) sz 0 0 (fun (r : Int32) (u : pq_S × pq_M) => ∃ I' : Nat → Nat → Int32, ∃ J' : Nat → Nat → Int64, ∃ ri' : Nat → Nat → Int32, ∃ rj' : Nat → Nat → Int64, ∃ rq' : Nat → Nat → Option Nat, u = (σ, I', J', ri', rj', rq') ∧ GX [320, 224, 1225, 1226, 1227, 1228, 1229, 1230, 1231, 1232, 1233, 234, 235, 236, 64, 65, 1069, 1070, 1073, 1074, 1075, 1288, 1079, 0, 1005, 10, 96, 98, 32, 1033, 1034] tg σ I ri rj I' ri' rj' rq' ∧ rg r 0 600) := by
  refine Met.ofW (cc := cX11_image) (maxL := 1) (ret := (some .int)) (by decide) rfl ?_
  intro p e s m args below meth c s₁ B hml hv
  obtain ⟨rfl, hsz, hP, hK, hD0, hN⟩ := hv
  have hx := B.exec
  have hb := B.bytes
  have hr := B.returns
  have hts := atoms_spec (ws := (wa yX11_image cX11_image 1 (some .int))) B.pre
  have hown : s.vm.findClass RX11 = some m.cls := findClass_of_methodNamed B.named
  have hlocks := B.notSynchronized
  subst hsz
  have hD : va_D (pq_B t σ (I, J, ri, rj, rq) s.heap.size) (pq_P t σ (I, J, ri, rj, rq)) := hD0.self
  generalize hAe : pq_B t σ (I, J, ri, rj, rq) s.heap.size = A at hD ⊢
  have hA : ∀ q : Nat, s.heap.size ≤ q → A q := fun q h => by rw [← hAe]; exact Or.inr h
  have hS : va_S A s.heap s.heap [] := va_S.rf
  have hG : GX [320, 224, 1225, 1226, 1227, 1228, 1229, 1230, 1231, 1232, 1233, 234, 235, 236, 64, 65, 1069, 1070, 1073, 1074, 1075, 1288, 1079, 0, 1005, 10, 96, 98, 32, 1033, 1034] tg σ I ri rj I ri rj rq := ⟨hG0, fun _ _ _ => rfl, fun _ _ _ _ _ => rfl, fun _ _ _ _ _ => rfl⟩
  have hl := lv_entry ([.ref this]) (n := 1) (Nat.le_of_ble_eq_true rfl)
  rw [lg_entry_eq]
  generalize (lg_sl ([.ref this]) ++ List.replicate (1 - (lg_sl ([.ref this])).length) Slot.unset).toArray = ls at hl ⊢
  have hl : lv_has ls 1 [(0, .ref this)] := hl
  refine q_gen (fun Q hQ => ?_)
  have go : ∀ (H : Heap) (locs : List Loc) (ls : Array Slot), va_P D vwCl (pq_P t σ (I, J, ri, rj, rq)) H → va_D A (pq_P t σ (I, J, ri, rj, rq)) → va_S A s.heap H locs → lv_has ls 1 [(0, .ref this)] → W p l e ({ frames := 5, cells := 0, slots := 0, locals := 144 } : Room) s m (List.toArray ([.ref this] : List Value)) below meth c H locs 0 0 Q (F0 m 0 ls []) := by
    intro H locs ls hP hD hS hl
    refine lv_aload_n hx hb dX11_image_0 rfl (lv_at hl 0 rfl) ?_
    obtain ⟨w_1, hR_w_1, hL_w_1, hK_w_1⟩ := sh_o hSH 353 (ci := 11) (kd := 10) rfl hL_this hK_this
    refine pg_f (v := .ref w_1) (C := RX11) (T := TX11) (N := 5) hx hb hts (tw_i inlX11) hown hK hP hL_this hK_this (by decide) rfl 1 (by decide) (hts _ (tw_c tw_17)) (pq_hv rfl hR_w_1) dX11_image_1 ?_
    refine lv_aload_n hx hb dX11_image_4 rfl (lv_at hl 0 rfl) ?_
    obtain ⟨w_2, hR_w_2, hL_w_2, hK_w_2⟩ := sh_o hSH 352 (ci := 11) (kd := 10) rfl hL_this hK_this
    refine pg_f (v := .ref w_2) (C := RX11) (T := TX11) (N := 5) hx hb hts (tw_i inlX11) hown hK hP hL_this hK_this (by decide) rfl 0 (by decide) (hts _ (tw_c tw_16)) (pq_hv rfl hR_w_2) dX11_image_5 ?_
    refine pk_v (va_runV (As := [.ref w_2]) (rest := []) ⟨hx, hb, hml, hown, hts⟩ (s_X10_copyFrom l D t σ I J ri rj rq H.size tg hSH hG.1 w_1 w_2 hL_w_1 hK_w_1 hL_w_2 hK_w_2) (cwV 1 hts (tw_V tw_1362 tw_1363 tw_1364 tw_15 tw_1365) rfl rfl rfl (by decide +kernel) ⟨Nat.le_of_ble_eq_true rfl, Nat.le_of_ble_eq_true rfl⟩) ⟨pq_blind, pq_recv hK hP hL_w_1 hK_w_1 (by decide) rfl, pq_pre hK hN hP hD⟩ rfl rfl hl.1 rfl (lv_room (Nat.le_of_ble_eq_true rfl)) dX11_image_8 ⟨Nat.le_of_ble_eq_true rfl, Nat.le_of_ble_eq_true rfl⟩) hD hS hA (fun σ1 μ1 H locs hw_4 hP hD hS => ?_)
    obtain ⟨I_5, J_6, ri_7, rj_8, rq_9, hu_10, hg_11, hp_13⟩ := hw_4
    obtain ⟨hu_10a, hu_10b⟩ := Prod.mk.inj hu_10
    rw [hu_10a, hu_10b] at hP hD
    have hG := GX.tr hG hg_11 (by decide)
    refine lv_aload_n hx hb dX11_image_11 rfl (lv_at hl 0 rfl) ?_
    refine pg_f (v := .ref w_2) (C := RX11) (T := TX11) (N := 5) hx hb hts (tw_i inlX11) hown hK hP hL_this hK_this (by decide) rfl 0 (by decide) (hts _ (tw_c tw_16)) (pq_hv rfl hR_w_2) dX11_image_12 ?_
    refine pg_f (v := .int (I_5 320 w_2)) (C := RX10) (T := TX10) (N := 13) hx hb hts (tw_i inlX10) hown hK hP hL_w_2 hK_w_2 (by decide) rfl 0 (by decide) (hts _ (tw_c tw_209)) rfl dX11_image_15 ?_
    have h_14 : rg (I_5 320 w_2) 0 600 := GX.rI hG 320 rfl
    subst hQ
    exact W.iret (v := (I_5 320 w_2)) hx hb hr (fun t1 ht hW => ⟨⟨(I_5 320 w_2), (σ, I_5, J_6, ri_7, rj_8, rq_9), rfl, ⟨I_5, J_6, ri_7, rj_8, rq_9, rfl, hG, (rg_w h_14 (by decide))⟩, by rw [ht]; exact hP, va_K.moved hW.alike hK, hD⟩, hS.F ht⟩) hS.2.2 dX11_image_18
  exact go _ _ _ hP hD hS hl

set_option maxHeartbeats 4000000 in
set_option maxRecDepth 100000 in
theorem s_X11_back (l : Launch) (D : va_G) (t : pq_T) (σ : pq_S) (I : Nat → Nat → Int32) (J : Nat → Nat → Int64) (ri : Nat → Nat → Int32) (rj : Nat → Nat → Int64) (rq : Nat → Nat → Option Nat) (sz : Nat) (tg : Nat → Nat) (hSH : SH σ tg) (hG0 : GS tg σ I ri rq) (this : Nat) (hL_this : this ∈ σ.1) (hK_this : σ.2.1 this = 11) : MetI l yX11_back (wa yX11_back cX11_back 1 (some .int)) ({ frames := 5, cells := 0, slots := 0, locals := 144 }) [.ref this] D t σ (I, J, ri, rj, rq) sz 0 0 (fun (r : Int32) (u : pq_S × pq_M) => ∃ I' : Nat → Nat → Int32, ∃ J' : Nat → Nat → Int64, ∃ ri' : Nat → Nat → Int32, ∃ rj' : Nat → Nat → Int64, ∃ rq' : Nat → Nat → Option Nat, u = (σ, I', J', ri', rj', rq') ∧ GX [320, 224, 1225, 1226, 1227, 1228, 1229, 1230, 1231, 1232, 1233, 234, 235, 236, 64, 65, 1069, 1070, 1073, 1074, 1075, 1288, 1079, 0, 1005, 10, 96, 98, 32, 1033, 1034] tg σ I ri rj I' ri' rj' rq' ∧ rg r 0 600) := by
  refine Met.ofW (cc := cX11_back) (maxL := 1) (ret := (some .int)) (by decide) rfl ?_
  intro p e s m args below meth c s₁ B hml hv
  obtain ⟨rfl, hsz, hP, hK, hD0, hN⟩ := hv
  have hx := B.exec
  have hb := B.bytes
  have hr := B.returns
  have hts := atoms_spec (ws := (wa yX11_back cX11_back 1 (some .int))) B.pre
  have hown : s.vm.findClass RX11 = some m.cls := findClass_of_methodNamed B.named
  have hlocks := B.notSynchronized
  subst hsz
  have hD : va_D (pq_B t σ (I, J, ri, rj, rq) s.heap.size) (pq_P t σ (I, J, ri, rj, rq)) := hD0.self
  generalize hAe : pq_B t σ (I, J, ri, rj, rq) s.heap.size = A at hD ⊢
  have hA : ∀ q : Nat, s.heap.size ≤ q → A q := fun q h => by rw [← hAe]; exact Or.inr h
  have hS : va_S A s.heap s.heap [] := va_S.rf
  have hG : GX [320, 224, 1225, 1226, 1227, 1228, 1229, 1230, 1231, 1232, 1233, 234, 235, 236, 64, 65, 1069, 1070, 1073, 1074, 1075, 1288, 1079, 0, 1005, 10, 96, 98, 32, 1033, 1034] tg σ I ri rj I ri rj rq := ⟨hG0, fun _ _ _ => rfl, fun _ _ _ _ _ => rfl, fun _ _ _ _ _ => rfl⟩
  have hl := lv_entry ([.ref this]) (n := 1) (Nat.le_of_ble_eq_true rfl)
  rw [lg_entry_eq]
  generalize (lg_sl ([.ref this]) ++ List.replicate (1 - (lg_sl ([.ref this])).length) Slot.unset).toArray = ls at hl ⊢
  have hl : lv_has ls 1 [(0, .ref this)] := hl
  refine q_gen (fun Q hQ => ?_)
  have go : ∀ (H : Heap) (locs : List Loc) (ls : Array Slot), va_P D vwCl (pq_P t σ (I, J, ri, rj, rq)) H → va_D A (pq_P t σ (I, J, ri, rj, rq)) → va_S A s.heap H locs → lv_has ls 1 [(0, .ref this)] → W p l e ({ frames := 5, cells := 0, slots := 0, locals := 144 } : Room) s m (List.toArray ([.ref this] : List Value)) below meth c H locs 0 0 Q (F0 m 0 ls []) := by
    intro H locs ls hP hD hS hl
    refine lv_aload_n hx hb dX11_back_0 rfl (lv_at hl 0 rfl) ?_
    obtain ⟨w_1, hR_w_1, hL_w_1, hK_w_1⟩ := sh_o hSH 352 (ci := 11) (kd := 10) rfl hL_this hK_this
    refine pg_f (v := .ref w_1) (C := RX11) (T := TX11) (N := 5) hx hb hts (tw_i inlX11) hown hK hP hL_this hK_this (by decide) rfl 0 (by decide) (hts _ (tw_c tw_16)) (pq_hv rfl hR_w_1) dX11_back_1 ?_
    refine lv_aload_n hx hb dX11_back_4 rfl (lv_at hl 0 rfl) ?_
    obtain ⟨w_2, hR_w_2, hL_w_2, hK_w_2⟩ := sh_o hSH 353 (ci := 11) (kd := 10) rfl hL_this hK_this
    refine pg_f (v := .ref w_2) (C := RX11) (T := TX11) (N := 5) hx hb hts (tw_i inlX11) hown hK hP hL_this hK_this (by decide) rfl 1 (by decide) (hts _ (tw_c tw_17)) (pq_hv rfl hR_w_2) dX11_back_5 ?_
    refine pk_v (va_runV (As := [.ref w_2]) (rest := []) ⟨hx, hb, hml, hown, hts⟩ (s_X10_copyFrom l D t σ I J ri rj rq H.size tg hSH hG.1 w_1 w_2 hL_w_1 hK_w_1 hL_w_2 hK_w_2) (cwV 1 hts (tw_V tw_1362 tw_1363 tw_1364 tw_15 tw_1365) rfl rfl rfl (by decide +kernel) ⟨Nat.le_of_ble_eq_true rfl, Nat.le_of_ble_eq_true rfl⟩) ⟨pq_blind, pq_recv hK hP hL_w_1 hK_w_1 (by decide) rfl, pq_pre hK hN hP hD⟩ rfl rfl hl.1 rfl (lv_room (Nat.le_of_ble_eq_true rfl)) dX11_back_8 ⟨Nat.le_of_ble_eq_true rfl, Nat.le_of_ble_eq_true rfl⟩) hD hS hA (fun σ1 μ1 H locs hw_4 hP hD hS => ?_)
    obtain ⟨I_5, J_6, ri_7, rj_8, rq_9, hu_10, hg_11, hp_13⟩ := hw_4
    obtain ⟨hu_10a, hu_10b⟩ := Prod.mk.inj hu_10
    rw [hu_10a, hu_10b] at hP hD
    have hG := GX.tr hG hg_11 (by decide)
    refine lv_aload_n hx hb dX11_back_11 rfl (lv_at hl 0 rfl) ?_
    refine pg_f (v := .ref w_1) (C := RX11) (T := TX11) (N := 5) hx hb hts (tw_i inlX11) hown hK hP hL_this hK_this (by decide) rfl 0 (by decide) (hts _ (tw_c tw_16)) (pq_hv rfl hR_w_1) dX11_back_12 ?_
    refine pg_f (v := .int (I_5 320 w_1)) (C := RX10) (T := TX10) (N := 13) hx hb hts (tw_i inlX10) hown hK hP hL_w_1 hK_w_1 (by decide) rfl 0 (by decide) (hts _ (tw_c tw_209)) rfl dX11_back_15 ?_
    have h_14 : rg (I_5 320 w_1) 0 600 := GX.rI hG 320 rfl
    subst hQ
    exact W.iret (v := (I_5 320 w_1)) hx hb hr (fun t1 ht hW => ⟨⟨(I_5 320 w_1), (σ, I_5, J_6, ri_7, rj_8, rq_9), rfl, ⟨I_5, J_6, ri_7, rj_8, rq_9, rfl, hG, (rg_w h_14 (by decide))⟩, by rw [ht]; exact hP, va_K.moved hW.alike hK, hD⟩, hS.F ht⟩) hS.2.2 dX11_back_18
  exact go _ _ _ hP hD hS hl
