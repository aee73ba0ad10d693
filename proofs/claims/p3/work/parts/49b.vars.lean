set_option maxHeartbeats 4000000 in
set_option maxRecDepth 100000 in
theorem s_X12_isIn_v (l : Launch) (D : va_G) (t : pq_T) (σ : pq_S) (I : Nat → Nat → Int32) (J : Nat → Nat → Int64) (ri : Nat → Nat → Int32) (rj : Nat → Nat → Int64) (rq : Nat → Nat → Option Nat) (sz : Nat) (tg : Nat → Nat) (hSH : SH σ tg) (hG0 : GT tg I ri) (a0 : Int32) (a1 : Int32) (a2 : Int32) : MetI l yX12_isIn (wa yX12_isIn cX12_isIn 3 (some .boolean)) ({ frames := 0, cells := 0, slots := 0, locals := 0 }) [.int a0, .int a1, .int a2] D t σ (I, J, ri, rj, rq) sz 0 0 (fun (r : Int32) (u : pq_S × pq_M) => u = (σ, I, J, ri, rj, rq) ∧ ((r = 1 ∧ a1 ≤ a0 ∧ a0 ≤ a2) ∨ (r = 0 ∧ (a0.toInt < a1.toInt ∨ a2.toInt < a0.toInt)))) := by
  refine Met.ofW (cc := cX12_isIn) (maxL := 3) (ret := (some .boolean)) (by decide) rfl ?_
  intro p e s m args below meth c s₁ B hml hv
  obtain ⟨rfl, hsz, hP, hK, hD0, hN⟩ := hv
  have hx := B.exec
  have hb := B.bytes
  have hr := B.returns
  have hts := atoms_spec (ws := (wa yX12_isIn cX12_isIn 3 (some .boolean))) B.pre
  have hown : s.vm.findClass RX12 = some m.cls := findClass_of_methodNamed B.named
  have hlocks := B.notSynchronized
  subst hsz
  have hD : va_D (pq_B t σ (I, J, ri, rj, rq) s.heap.size) (pq_P t σ (I, J, ri, rj, rq)) := hD0.self
  generalize hAe : pq_B t σ (I, J, ri, rj, rq) s.heap.size = A at hD ⊢
  have hA : ∀ q : Nat, s.heap.size ≤ q → A q := fun q h => by rw [← hAe]; exact Or.inr h
  have hS : va_S A s.heap s.heap [] := va_S.rf
  have hG : GM [] tg σ I ri I ri rq := ⟨hG0, fun _ _ _ => rfl, fun _ _ _ _ _ => rfl, fun _ _ _ _ _ _ => rfl⟩
  have hl := lv_entry ([.int a0, .int a1, .int a2]) (n := 3) (Nat.le_of_ble_eq_true rfl)
  rw [lg_entry_eq]
  generalize (lg_sl ([.int a0, .int a1, .int a2]) ++ List.replicate (3 - (lg_sl ([.int a0, .int a1, .int a2])).length) Slot.unset).toArray = ls at hl ⊢
  have hl : lv_has ls 3 [(0, .int a0), (1, .int a1), (2, .int a2)] := hl
  refine q_gen (fun Q hQ => ?_)
  have go : ∀ (H : Heap) (locs : List Loc) (ls : Array Slot), va_P D vwCl (pq_P t σ (I, J, ri, rj, rq)) H → va_D A (pq_P t σ (I, J, ri, rj, rq)) → va_S A s.heap H locs → lv_has ls 3 [(0, .int a0), (1, .int a1), (2, .int a2)] → W p l e ({ frames := 0, cells := 0, slots := 0, locals := 0 } : Room) s m (List.toArray ([.int a0, .int a1, .int a2] : List Value)) below meth c H locs 0 0 Q (F0 m 0 ls []) := by
    intro H locs ls hP hD hS hl
    refine lv_iload_n hx hb dX12_isIn_0 rfl (lv_at hl 0 rfl) ?_
    refine lv_iload_n hx hb dX12_isIn_1 rfl (lv_at hl 1 rfl) ?_
    refine lv_icmp_lt (tgt := 14) hx hb dX12_isIn_2 (by decide) (fun c_1 => ?_) (fun c_1 => ?_)
    · have tc_2 : (a0).toInt < (a1).toInt := Int32.lt_iff_toInt_lt.mp c_1
      have h_3 : rg a0 (-2147483648) 2147483646 := rg_lt1 c_1 (rg_full _) (rg_full _) (by decide)
      have uh_3 := h_3.1
      have vh_3 := h_3.2
      have h_4 : rg a1 (-2147483647) 2147483647 := rg_lt2 c_1 (rg_full _) (rg_full _) (by decide)
      have uh_4 := h_4.1
      have vh_4 := h_4.2
      refine lv_iconst (v := 0) hx hb dX12_isIn_14 (by decide) ?_
      subst hQ
      exact W.zret (v := 0) hx hb hr (by decide) (fun t1 ht hW => ⟨⟨0, (σ, I, J, ri, rj, rq), rfl, ⟨rfl, (Or.inr ⟨rfl, (by omega)⟩)⟩, by rw [ht]; exact hP, va_K.moved hW.alike hK, hD⟩, hS.F ht⟩) hS.2.2 dX12_isIn_15
    · have tc_5 : (a1).toInt ≤ (a0).toInt := Int32.le_iff_toInt_le.mp (nlt c_1)
      refine lv_iload_n hx hb dX12_isIn_5 rfl (lv_at hl 0 rfl) ?_
      refine lv_iload_n hx hb dX12_isIn_6 rfl (lv_at hl 2 rfl) ?_
      refine lv_icmp_gt (tgt := 14) hx hb dX12_isIn_7 (by decide) (fun c_6 => ?_) (fun c_6 => ?_)
      · have tc_7 : (a2).toInt < (a0).toInt := Int32.lt_iff_toInt_lt.mp c_6
        have h_8 : rg a2 (-2147483648) 2147483646 := rg_lt1 c_6 (rg_full _) (rg_full _) (by decide)
        have uh_8 := h_8.1
        have vh_8 := h_8.2
        have h_9 : rg a0 (-2147483647) 2147483647 := rg_lt2 c_6 (rg_full _) (rg_full _) (by decide)
        have uh_9 := h_9.1
        have vh_9 := h_9.2
        refine lv_iconst (v := 0) hx hb dX12_isIn_14 (by decide) ?_
        subst hQ
        exact W.zret (v := 0) hx hb hr (by decide) (fun t1 ht hW => ⟨⟨0, (σ, I, J, ri, rj, rq), rfl, ⟨rfl, (Or.inr ⟨rfl, (by omega)⟩)⟩, by rw [ht]; exact hP, va_K.moved hW.alike hK, hD⟩, hS.F ht⟩) hS.2.2 dX12_isIn_15
      · have tc_10 : (a0).toInt ≤ (a2).toInt := Int32.le_iff_toInt_le.mp (nlt c_6)
        refine lv_iconst (v := 1) hx hb dX12_isIn_10 (by decide) ?_
        refine lv_goto (tgt := 15) hx hb dX12_isIn_11 (by decide) ?_
        subst hQ
        exact W.zret (v := 1) hx hb hr (by decide) (fun t1 ht hW => ⟨⟨1, (σ, I, J, ri, rj, rq), rfl, ⟨rfl, (Or.inl ⟨rfl, (nlt c_1), (nlt c_6)⟩)⟩, by rw [ht]; exact hP, va_K.moved hW.alike hK, hD⟩, hS.F ht⟩) hS.2.2 dX12_isIn_15
  exact go _ _ _ hP hD hS hl

set_option maxHeartbeats 4000000 in
set_option maxRecDepth 100000 in
theorem s_X12_table_v (l : Launch) (D : va_G) (t : pq_T) (σ : pq_S) (I : Nat → Nat → Int32) (J : Nat → Nat → Int64) (ri : Nat → Nat → Int32) (rj : Nat → Nat → Int64) (rq : Nat → Nat → Option Nat) (sz : Nat) (tg : Nat → Nat) (hSH : SH σ tg) (hG0 : GT tg I ri) (this : Nat) (a0 : Int32) (a1 : Int32) (a2 : Int32) (a3 : Int32) (a4 : Int32) (a5 : Int32) (hL_this : this ∈ σ.1) (hK_this : σ.2.1 this = 12) : MetI l yX12_table (wa yX12_table cX12_table 8 (some .boolean)) ({ frames := 1, cells := 0, slots := 0, locals := 22 }) [.ref this, .int a0, .int a1, .int a2, .int a3, .int a4, .int a5] D t σ (I, J, ri, rj, rq) sz 0 0 (fun (r : Int32) (u : pq_S × pq_M) => ∃ ri' : Nat → Nat → Int32, u = (σ, I, J, ri', rj, rq) ∧ GM [1100, 1101, 1102, 1103, 1104] tg σ I ri I ri' rq ∧ ((r = 1 ∧ rg a0 0 11 ∧ rg a1 0 2000 ∧ rg a2 0 2000 ∧ rg a3 0 40 ∧ rg a4 0 50 ∧ rg a5 0 100 ∧ (0 ≤ a0.toInt ∧ a0.toInt ≤ 11 ∧ 0 ≤ a1.toInt ∧ a1.toInt ≤ 2000 ∧ a1.toInt ≤ a2.toInt ∧ a2.toInt ≤ 2000 ∧ 0 ≤ a3.toInt ∧ a3.toInt ≤ 40 ∧ 0 ≤ a4.toInt ∧ a4.toInt ≤ 50 ∧ 0 ≤ a5.toInt ∧ a5.toInt ≤ 100)) ∨ (r = 0 ∧ (¬ (0 ≤ a0.toInt ∧ a0.toInt ≤ 11 ∧ 0 ≤ a1.toInt ∧ a1.toInt ≤ 2000 ∧ a1.toInt ≤ a2.toInt ∧ a2.toInt ≤ 2000 ∧ 0 ≤ a3.toInt ∧ a3.toInt ≤ 40 ∧ 0 ≤ a4.toInt ∧ a4.toInt ≤ 50 ∧ 0 ≤ a5.toInt ∧ a5.toInt ≤ 100))))) := by
  refine Met.ofW (cc := cX12_table) (maxL := 8) (ret := (some .boolean)) (by decide) rfl ?_
  intro p e s m args below meth c s₁ B hml hv
  obtain ⟨rfl, hsz, hP, hK, hD0, hN⟩ := hv
  have hx := B.exec
  have hb := B.bytes
  have hr := B.returns
  have hts := atoms_spec (ws := (wa yX12_table cX12_table 8 (some .boolean))) B.pre
  have hown : s.vm.findClass RX12 = some m.cls := findClass_of_methodNamed B.named
  have hlocks := B.notSynchronized
  subst hsz
  have hD : va_D (pq_B t σ (I, J, ri, rj, rq) s.heap.size) (pq_P t σ (I, J, ri, rj, rq)) := hD0.self
  generalize hAe : pq_B t σ (I, J, ri, rj, rq) s.heap.size = A at hD ⊢
  have hA : ∀ q : Nat, s.heap.size ≤ q → A q := fun q h => by rw [← hAe]; exact Or.inr h
  have hS : va_S A s.heap s.heap [] := va_S.rf
  have hG : GM [1100, 1101, 1102, 1103, 1104] tg σ I ri I ri rq := ⟨hG0, fun _ _ _ => rfl, fun _ _ _ _ _ => rfl, fun _ _ _ _ _ _ => rfl⟩
  have hl := lv_entry ([.ref this, .int a0, .int a1, .int a2, .int a3, .int a4, .int a5]) (n := 8) (Nat.le_of_ble_eq_true rfl)
  rw [lg_entry_eq]
  generalize (lg_sl ([.ref this, .int a0, .int a1, .int a2, .int a3, .int a4, .int a5]) ++ List.replicate (8 - (lg_sl ([.ref this, .int a0, .int a1, .int a2, .int a3, .int a4, .int a5])).length) Slot.unset).toArray = ls at hl ⊢
  have hl : lv_has ls 8 [(0, .ref this), (1, .int a0), (2, .int a1), (3, .int a2), (4, .int a3), (5, .int a4), (6, .int a5)] := hl
  refine q_gen (fun Q hQ => ?_)
  have go : ∀ (H : Heap) (locs : List Loc) (ls : Array Slot), va_P D vwCl (pq_P t σ (I, J, ri, rj, rq)) H → va_D A (pq_P t σ (I, J, ri, rj, rq)) → va_S A s.heap H locs → lv_has ls 8 [(0, .ref this), (1, .int a0), (2, .int a1), (3, .int a2), (4, .int a3), (5, .int a4), (6, .int a5)] → W p l e ({ frames := 1, cells := 0, slots := 0, locals := 22 } : Room) s m (List.toArray ([.ref this, .int a0, .int a1, .int a2, .int a3, .int a4, .int a5] : List Value)) below meth c H locs 0 0 Q (F0 m 0 ls []) := by
    intro H locs ls hP hD hS hl
    refine lv_iload_n hx hb dX12_table_0 rfl (lv_at hl 1 rfl) ?_
    refine lv_iconst (v := 0) hx hb dX12_table_1 (by decide) ?_
    refine lv_bipush (v := 11) hx hb dX12_table_2 (by decide) ?_
    refine pk_i (va_runS (As := [.int a0, .int 0, .int 11]) (rest := []) ⟨hx, hb, hml, hown, hts⟩ (s_X12_isIn_v l D t σ I J ri rj rq H.size tg hSH hG.1 a0 (0 : Int32) (11 : Int32)) (va_cwS 3 hts (tw_S tw_235 tw_236 tw_5 tw_237) rfl rfl rfl (by decide +kernel) ⟨Nat.le_of_ble_eq_true rfl, Nat.le_of_ble_eq_true rfl⟩) ⟨pq_blind, pq_pre hK hN hP hD⟩ rfl rfl hl.1 rfl (lv_room (Nat.le_of_ble_eq_true rfl)) dX12_table_4 ⟨Nat.le_of_ble_eq_true rfl, Nat.le_of_ble_eq_true rfl⟩) hD hS hA (fun x_1 σ1 μ1 H locs hw_2 hP hD hS => ?_)
    obtain ⟨hu_3, hr_5⟩ := hw_2
    obtain ⟨hu_3a, hu_3b⟩ := Prod.mk.inj hu_3
    rw [hu_3a, hu_3b] at hP hD
    have h_6 : rg x_1 0 1 := by rcases hr_5 with ⟨q, -⟩ | ⟨q, -⟩ <;> rw [q] <;> exact ⟨by decide, by decide⟩
    have uh_6 := h_6.1
    have vh_6 := h_6.2
    refine lv_if_eq (tgt := 65) hx hb dX12_table_7 (by decide) (fun c_7 => ?_) (fun c_7 => ?_)
    · have f_8 := (hr_5.resolve_left (fun q => absurd (q.1.symm.trans c_7) (by decide))).2
      have zk_9 : (0 : Int32).toInt = 0 := rfl
      have zk_10 : (11 : Int32).toInt = 11 := rfl
      have tc_11 : (x_1).toInt = 0 := congrArg Int32.toInt c_7
      have h_12 : rg x_1 0 0 := rg_and h_6 (rg_of_eq c_7 (rg_k (0 : Int32) 0 rfl)) (by decide)
      have uh_12 := h_12.1
      have vh_12 := h_12.2
      refine lv_iconst (v := 0) hx hb dX12_table_65 (by decide) ?_
      subst hQ
      exact W.zret (v := 0) hx hb hr (by decide) (fun t1 ht hW => ⟨⟨0, (σ, I, J, ri, rj, rq), rfl, ⟨ri, rfl, hG, (Or.inr ⟨rfl, (by omega)⟩)⟩, by rw [ht]; exact hP, va_K.moved hW.alike hK, hD⟩, hS.F ht⟩) hS.2.2 dX12_table_66
    · obtain ⟨f_13, f_14⟩ := (hr_5.resolve_right (fun q => c_7 q.1)).2
      have tc_15 : 0 ≤ (a0).toInt := Int32.le_iff_toInt_le.mp f_13
      have h_16 : rg a0 0 2147483647 := rg_le2 f_13 (rg_k (0 : Int32) 0 rfl) (rg_full _) (by decide)
      have uh_16 := h_16.1
      have vh_16 := h_16.2
      have tc_17 : (a0).toInt ≤ 11 := Int32.le_iff_toInt_le.mp f_14
      have h_18 : rg a0 0 11 := rg_le1 f_14 h_16 (rg_k (11 : Int32) 11 rfl) (by decide)
      have uh_18 := h_18.1
      have vh_18 := h_18.2
      have tc_19 : (x_1).toInt ≠ 0 := fun q => c_7 (Int32.toInt_inj.mp q)
      have h_20 : rg x_1 1 1 := rg_ne c_7 h_6 0 rfl (by decide)
      have uh_20 := h_20.1
      have vh_20 := h_20.2
      refine lv_iload_n hx hb dX12_table_10 rfl (lv_at hl 2 rfl) ?_
      refine lv_iconst (v := 0) hx hb dX12_table_11 (by decide) ?_
      refine lv_sipush (v := 2000) hx hb dX12_table_12 (by decide) ?_
      refine pk_i (va_runS (As := [.int a1, .int 0, .int 2000]) (rest := []) ⟨hx, hb, hml, hown, hts⟩ (s_X12_isIn_v l D t σ I J ri rj rq H.size tg hSH hG.1 a1 (0 : Int32) (2000 : Int32)) (va_cwS 3 hts (tw_S tw_235 tw_236 tw_5 tw_237) rfl rfl rfl (by decide +kernel) ⟨Nat.le_of_ble_eq_true rfl, Nat.le_of_ble_eq_true rfl⟩) ⟨pq_blind, pq_pre hK hN hP hD⟩ rfl rfl hl.1 rfl (lv_room (Nat.le_of_ble_eq_true rfl)) dX12_table_15 ⟨Nat.le_of_ble_eq_true rfl, Nat.le_of_ble_eq_true rfl⟩) hD hS hA (fun x_21 σ1 μ1 H locs hw_22 hP hD hS => ?_)
      obtain ⟨hu_23, hr_25⟩ := hw_22
      obtain ⟨hu_23a, hu_23b⟩ := Prod.mk.inj hu_23
      rw [hu_23a, hu_23b] at hP hD
      have h_26 : rg x_21 0 1 := by rcases hr_25 with ⟨q, -⟩ | ⟨q, -⟩ <;> rw [q] <;> exact ⟨by decide, by decide⟩
      have uh_26 := h_26.1
      have vh_26 := h_26.2
      refine lv_if_eq (tgt := 65) hx hb dX12_table_18 (by decide) (fun c_27 => ?_) (fun c_27 => ?_)
      · have f_28 := (hr_25.resolve_left (fun q => absurd (q.1.symm.trans c_27) (by decide))).2
        have zk_29 : (0 : Int32).toInt = 0 := rfl
        have zk_30 : (2000 : Int32).toInt = 2000 := rfl
        have tc_31 : (x_21).toInt = 0 := congrArg Int32.toInt c_27
        have h_32 : rg x_21 0 0 := rg_and h_26 (rg_of_eq c_27 (rg_k (0 : Int32) 0 rfl)) (by decide)
        have uh_32 := h_32.1
        have vh_32 := h_32.2
        refine lv_iconst (v := 0) hx hb dX12_table_65 (by decide) ?_
        subst hQ
        exact W.zret (v := 0) hx hb hr (by decide) (fun t1 ht hW => ⟨⟨0, (σ, I, J, ri, rj, rq), rfl, ⟨ri, rfl, hG, (Or.inr ⟨rfl, (by omega)⟩)⟩, by rw [ht]; exact hP, va_K.moved hW.alike hK, hD⟩, hS.F ht⟩) hS.2.2 dX12_table_66
      · obtain ⟨f_33, f_34⟩ := (hr_25.resolve_right (fun q => c_27 q.1)).2
        have tc_35 : 0 ≤ (a1).toInt := Int32.le_iff_toInt_le.mp f_33
        have h_36 : rg a1 0 2147483647 := rg_le2 f_33 (rg_k (0 : Int32) 0 rfl) (rg_full _) (by decide)
        have uh_36 := h_36.1
        have vh_36 := h_36.2
        have tc_37 : (a1).toInt ≤ 2000 := Int32.le_iff_toInt_le.mp f_34
        have h_38 : rg a1 0 2000 := rg_le1 f_34 h_36 (rg_k (2000 : Int32) 2000 rfl) (by decide)
        have uh_38 := h_38.1
        have vh_38 := h_38.2
        have tc_39 : (x_21).toInt ≠ 0 := fun q => c_27 (Int32.toInt_inj.mp q)
        have h_40 : rg x_21 1 1 := rg_ne c_27 h_26 0 rfl (by decide)
        have uh_40 := h_40.1
        have vh_40 := h_40.2
        refine lv_iload_n hx hb dX12_table_21 rfl (lv_at hl 3 rfl) ?_
        refine lv_iload_n hx hb dX12_table_22 rfl (lv_at hl 2 rfl) ?_
        refine lv_sipush (v := 2000) hx hb dX12_table_23 (by decide) ?_
        refine pk_i (va_runS (As := [.int a2, .int a1, .int 2000]) (rest := []) ⟨hx, hb, hml, hown, hts⟩ (s_X12_isIn_v l D t σ I J ri rj rq H.size tg hSH hG.1 a2 a1 (2000 : Int32)) (va_cwS 3 hts (tw_S tw_235 tw_236 tw_5 tw_237) rfl rfl rfl (by decide +kernel) ⟨Nat.le_of_ble_eq_true rfl, Nat.le_of_ble_eq_true rfl⟩) ⟨pq_blind, pq_pre hK hN hP hD⟩ rfl rfl hl.1 rfl (lv_room (Nat.le_of_ble_eq_true rfl)) dX12_table_26 ⟨Nat.le_of_ble_eq_true rfl, Nat.le_of_ble_eq_true rfl⟩) hD hS hA (fun x_41 σ1 μ1 H locs hw_42 hP hD hS => ?_)
        obtain ⟨hu_43, hr_45⟩ := hw_42
        obtain ⟨hu_43a, hu_43b⟩ := Prod.mk.inj hu_43
        rw [hu_43a, hu_43b] at hP hD
        have h_46 : rg x_41 0 1 := by rcases hr_45 with ⟨q, -⟩ | ⟨q, -⟩ <;> rw [q] <;> exact ⟨by decide, by decide⟩
        have uh_46 := h_46.1
        have vh_46 := h_46.2
        refine lv_if_eq (tgt := 65) hx hb dX12_table_29 (by decide) (fun c_47 => ?_) (fun c_47 => ?_)
        · have f_48 := (hr_45.resolve_left (fun q => absurd (q.1.symm.trans c_47) (by decide))).2
          have zk_49 : (2000 : Int32).toInt = 2000 := rfl
          have tc_50 : (x_41).toInt = 0 := congrArg Int32.toInt c_47
          have h_51 : rg x_41 0 0 := rg_and h_46 (rg_of_eq c_47 (rg_k (0 : Int32) 0 rfl)) (by decide)
          have uh_51 := h_51.1
          have vh_51 := h_51.2
          refine lv_iconst (v := 0) hx hb dX12_table_65 (by decide) ?_
          subst hQ
          exact W.zret (v := 0) hx hb hr (by decide) (fun t1 ht hW => ⟨⟨0, (σ, I, J, ri, rj, rq), rfl, ⟨ri, rfl, hG, (Or.inr ⟨rfl, (by omega)⟩)⟩, by rw [ht]; exact hP, va_K.moved hW.alike hK, hD⟩, hS.F ht⟩) hS.2.2 dX12_table_66
        · obtain ⟨f_52, f_53⟩ := (hr_45.resolve_right (fun q => c_47 q.1)).2
          have tc_54 : (a1).toInt ≤ (a2).toInt := Int32.le_iff_toInt_le.mp f_52
          have h_55 : rg a2 0 2147483647 := rg_le2 f_52 h_38 (rg_full _) (by decide)
          have uh_55 := h_55.1
          have vh_55 := h_55.2
          have tc_56 : (a2).toInt ≤ 2000 := Int32.le_iff_toInt_le.mp f_53
          have h_57 : rg a2 0 2000 := rg_le1 f_53 h_55 (rg_k (2000 : Int32) 2000 rfl) (by decide)
          have uh_57 := h_57.1
          have vh_57 := h_57.2
          have tc_58 : (x_41).toInt ≠ 0 := fun q => c_47 (Int32.toInt_inj.mp q)
          have h_59 : rg x_41 1 1 := rg_ne c_47 h_46 0 rfl (by decide)
          have uh_59 := h_59.1
          have vh_59 := h_59.2
          refine lv_iload hx hb dX12_table_32 (lv_at hl 4 rfl) ?_
          refine lv_iconst (v := 0) hx hb dX12_table_34 (by decide) ?_
          refine lv_bipush (v := 40) hx hb dX12_table_35 (by decide) ?_
          refine pk_i (va_runS (As := [.int a3, .int 0, .int 40]) (rest := []) ⟨hx, hb, hml, hown, hts⟩ (s_X12_isIn_v l D t σ I J ri rj rq H.size tg hSH hG.1 a3 (0 : Int32) (40 : Int32)) (va_cwS 3 hts (tw_S tw_235 tw_236 tw_5 tw_237) rfl rfl rfl (by decide +kernel) ⟨Nat.le_of_ble_eq_true rfl, Nat.le_of_ble_eq_true rfl⟩) ⟨pq_blind, pq_pre hK hN hP hD⟩ rfl rfl hl.1 rfl (lv_room (Nat.le_of_ble_eq_true rfl)) dX12_table_37 ⟨Nat.le_of_ble_eq_true rfl, Nat.le_of_ble_eq_true rfl⟩) hD hS hA (fun x_60 σ1 μ1 H locs hw_61 hP hD hS => ?_)
          obtain ⟨hu_62, hr_64⟩ := hw_61
          obtain ⟨hu_62a, hu_62b⟩ := Prod.mk.inj hu_62
          rw [hu_62a, hu_62b] at hP hD
          have h_65 : rg x_60 0 1 := by rcases hr_64 with ⟨q, -⟩ | ⟨q, -⟩ <;> rw [q] <;> exact ⟨by decide, by decide⟩
          have uh_65 := h_65.1
          have vh_65 := h_65.2
          refine lv_if_eq (tgt := 65) hx hb dX12_table_40 (by decide) (fun c_66 => ?_) (fun c_66 => ?_)
          · have f_67 := (hr_64.resolve_left (fun q => absurd (q.1.symm.trans c_66) (by decide))).2
            have zk_68 : (0 : Int32).toInt = 0 := rfl
            have zk_69 : (40 : Int32).toInt = 40 := rfl
            have tc_70 : (x_60).toInt = 0 := congrArg Int32.toInt c_66
            have h_71 : rg x_60 0 0 := rg_and h_65 (rg_of_eq c_66 (rg_k (0 : Int32) 0 rfl)) (by decide)
            have uh_71 := h_71.1
            have vh_71 := h_71.2
            refine lv_iconst (v := 0) hx hb dX12_table_65 (by decide) ?_
            subst hQ
            exact W.zret (v := 0) hx hb hr (by decide) (fun t1 ht hW => ⟨⟨0, (σ, I, J, ri, rj, rq), rfl, ⟨ri, rfl, hG, (Or.inr ⟨rfl, (by omega)⟩)⟩, by rw [ht]; exact hP, va_K.moved hW.alike hK, hD⟩, hS.F ht⟩) hS.2.2 dX12_table_66
          · obtain ⟨f_72, f_73⟩ := (hr_64.resolve_right (fun q => c_66 q.1)).2
            have tc_74 : 0 ≤ (a3).toInt := Int32.le_iff_toInt_le.mp f_72
            have h_75 : rg a3 0 2147483647 := rg_le2 f_72 (rg_k (0 : Int32) 0 rfl) (rg_full _) (by decide)
            have uh_75 := h_75.1
            have vh_75 := h_75.2
            have tc_76 : (a3).toInt ≤ 40 := Int32.le_iff_toInt_le.mp f_73
            have h_77 : rg a3 0 40 := rg_le1 f_73 h_75 (rg_k (40 : Int32) 40 rfl) (by decide)
            have uh_77 := h_77.1
            have vh_77 := h_77.2
            have tc_78 : (x_60).toInt ≠ 0 := fun q => c_66 (Int32.toInt_inj.mp q)
            have h_79 : rg x_60 1 1 := rg_ne c_66 h_65 0 rfl (by decide)
            have uh_79 := h_79.1
            have vh_79 := h_79.2
            refine lv_iload hx hb dX12_table_43 (lv_at hl 5 rfl) ?_
            refine lv_iconst (v := 0) hx hb dX12_table_45 (by decide) ?_
            refine lv_bipush (v := 50) hx hb dX12_table_46 (by decide) ?_
            refine pk_i (va_runS (As := [.int a4, .int 0, .int 50]) (rest := []) ⟨hx, hb, hml, hown, hts⟩ (s_X12_isIn_v l D t σ I J ri rj rq H.size tg hSH hG.1 a4 (0 : Int32) (50 : Int32)) (va_cwS 3 hts (tw_S tw_235 tw_236 tw_5 tw_237) rfl rfl rfl (by decide +kernel) ⟨Nat.le_of_ble_eq_true rfl, Nat.le_of_ble_eq_true rfl⟩) ⟨pq_blind, pq_pre hK hN hP hD⟩ rfl rfl hl.1 rfl (lv_room (Nat.le_of_ble_eq_true rfl)) dX12_table_48 ⟨Nat.le_of_ble_eq_true rfl, Nat.le_of_ble_eq_true rfl⟩) hD hS hA (fun x_80 σ1 μ1 H locs hw_81 hP hD hS => ?_)
            obtain ⟨hu_82, hr_84⟩ := hw_81
            obtain ⟨hu_82a, hu_82b⟩ := Prod.mk.inj hu_82
            rw [hu_82a, hu_82b] at hP hD
            have h_85 : rg x_80 0 1 := by rcases hr_84 with ⟨q, -⟩ | ⟨q, -⟩ <;> rw [q] <;> exact ⟨by decide, by decide⟩
            have uh_85 := h_85.1
            have vh_85 := h_85.2
            refine lv_if_eq (tgt := 65) hx hb dX12_table_51 (by decide) (fun c_86 => ?_) (fun c_86 => ?_)
            · have f_87 := (hr_84.resolve_left (fun q => absurd (q.1.symm.trans c_86) (by decide))).2
              have zk_88 : (0 : Int32).toInt = 0 := rfl
              have zk_89 : (50 : Int32).toInt = 50 := rfl
              have tc_90 : (x_80).toInt = 0 := congrArg Int32.toInt c_86
              have h_91 : rg x_80 0 0 := rg_and h_85 (rg_of_eq c_86 (rg_k (0 : Int32) 0 rfl)) (by decide)
              have uh_91 := h_91.1
              have vh_91 := h_91.2
              refine lv_iconst (v := 0) hx hb dX12_table_65 (by decide) ?_
              subst hQ
              exact W.zret (v := 0) hx hb hr (by decide) (fun t1 ht hW => ⟨⟨0, (σ, I, J, ri, rj, rq), rfl, ⟨ri, rfl, hG, (Or.inr ⟨rfl, (by omega)⟩)⟩, by rw [ht]; exact hP, va_K.moved hW.alike hK, hD⟩, hS.F ht⟩) hS.2.2 dX12_table_66
            · obtain ⟨f_92, f_93⟩ := (hr_84.resolve_right (fun q => c_86 q.1)).2
              have tc_94 : 0 ≤ (a4).toInt := Int32.le_iff_toInt_le.mp f_92
              have h_95 : rg a4 0 2147483647 := rg_le2 f_92 (rg_k (0 : Int32) 0 rfl) (rg_full _) (by decide)
              have uh_95 := h_95.1
              have vh_95 := h_95.2
              have tc_96 : (a4).toInt ≤ 50 := Int32.le_iff_toInt_le.mp f_93
              have h_97 : rg a4 0 50 := rg_le1 f_93 h_95 (rg_k (50 : Int32) 50 rfl) (by decide)
              have uh_97 := h_97.1
              have vh_97 := h_97.2
              have tc_98 : (x_80).toInt ≠ 0 := fun q => c_86 (Int32.toInt_inj.mp q)
              have h_99 : rg x_80 1 1 := rg_ne c_86 h_85 0 rfl (by decide)
              have uh_99 := h_99.1
              have vh_99 := h_99.2
              refine lv_iload hx hb dX12_table_54 (lv_at hl 6 rfl) ?_
              refine lv_iconst (v := 0) hx hb dX12_table_56 (by decide) ?_
              refine lv_bipush (v := 100) hx hb dX12_table_57 (by decide) ?_
              refine pk_i (va_runS (As := [.int a5, .int 0, .int 100]) (rest := []) ⟨hx, hb, hml, hown, hts⟩ (s_X12_isIn_v l D t σ I J ri rj rq H.size tg hSH hG.1 a5 (0 : Int32) (100 : Int32)) (va_cwS 3 hts (tw_S tw_235 tw_236 tw_5 tw_237) rfl rfl rfl (by decide +kernel) ⟨Nat.le_of_ble_eq_true rfl, Nat.le_of_ble_eq_true rfl⟩) ⟨pq_blind, pq_pre hK hN hP hD⟩ rfl rfl hl.1 rfl (lv_room (Nat.le_of_ble_eq_true rfl)) dX12_table_59 ⟨Nat.le_of_ble_eq_true rfl, Nat.le_of_ble_eq_true rfl⟩) hD hS hA (fun x_100 σ1 μ1 H locs hw_101 hP hD hS => ?_)
              obtain ⟨hu_102, hr_104⟩ := hw_101
              obtain ⟨hu_102a, hu_102b⟩ := Prod.mk.inj hu_102
              rw [hu_102a, hu_102b] at hP hD
              have h_105 : rg x_100 0 1 := by rcases hr_104 with ⟨q, -⟩ | ⟨q, -⟩ <;> rw [q] <;> exact ⟨by decide, by decide⟩
              have uh_105 := h_105.1
              have vh_105 := h_105.2
              refine lv_if_ne (tgt := 67) hx hb dX12_table_62 (by decide) (fun c_106 => ?_) (fun c_106 => ?_)
              · obtain ⟨f_107, f_108⟩ := (hr_104.resolve_right (fun q => c_106 q.1)).2
                have tc_109 : 0 ≤ (a5).toInt := Int32.le_iff_toInt_le.mp f_107
                have h_110 : rg a5 0 2147483647 := rg_le2 f_107 (rg_k (0 : Int32) 0 rfl) (rg_full _) (by decide)
                have uh_110 := h_110.1
                have vh_110 := h_110.2
                have tc_111 : (a5).toInt ≤ 100 := Int32.le_iff_toInt_le.mp f_108
                have h_112 : rg a5 0 100 := rg_le1 f_108 h_110 (rg_k (100 : Int32) 100 rfl) (by decide)
                have uh_112 := h_112.1
                have vh_112 := h_112.2
                have tc_113 : (x_100).toInt ≠ 0 := fun q => c_106 (Int32.toInt_inj.mp q)
                have h_114 : rg x_100 1 1 := rg_ne c_106 h_105 0 rfl (by decide)
                have uh_114 := h_114.1
                have vh_114 := h_114.2
                refine lv_bipush (v := 20) hx hb dX12_table_67 (by decide) ?_
                refine lv_iconst (v := 5) hx hb dX12_table_69 (by decide) ?_
                refine lv_iload_n hx hb dX12_table_70 rfl (lv_at hl 1 rfl) ?_
                refine lv_imul hx hb dX12_table_71 ?_
                refine lv_topi (fun x_115 ex_115 => ?_)
                have h_116 : rg x_115 0 55 := rg_of_eq ex_115 (rg_mul (rg_k (5 : Int32) 5 rfl) h_18 (by decide))
                have uh_116 := h_116.1
                have vh_116 := h_116.2
                have tx_115 : (x_115).toInt = 5 * (a0).toInt := by rw [ex_115]; exact i_mul_rg (a2 := 5) (b2 := (a0).toInt) rfl rfl (rg_k (5 : Int32) 5 rfl) h_18 (by decide)
                refine lv_iadd hx hb dX12_table_72 ?_
                refine lv_topi (fun x_117 ex_117 => ?_)
                have h_118 : rg x_117 20 75 := rg_of_eq ex_117 (rg_add (rg_k (20 : Int32) 20 rfl) h_116 (by decide))
                have uh_118 := h_118.1
                have vh_118 := h_118.2
                have tx_117 : (x_117).toInt = 20 + (x_115).toInt := by rw [ex_117]; exact i_add_rg (a2 := 20) (b2 := (x_115).toInt) rfl rfl (rg_k (20 : Int32) 20 rfl) h_116 (by decide)
                refine lv_istore (lv' := [(7, .int x_117), (0, .ref this), (1, .int a0), (2, .int a1), (3, .int a2), (4, .int a3), (5, .int a4), (6, .int a5)]) hx hb dX12_table_73 hl (by decide) rfl (fun ls hl => ?_)
                refine lv_aload_n hx hb dX12_table_75 rfl (lv_at hl 1 rfl) ?_
                obtain ⟨w_119, hR_w_119, hL_w_119, hK_w_119, hN_w_119, hT_w_119⟩ := sh_a hSH 384 (ci := 12) (kd := 13) (len := 12720) rfl (by decide) hL_this hK_this
                refine pg_f (v := .ref w_119) (C := RX12) (T := TX12) (N := 31) hx hb hts (tw_i inlX12) hown hK hP hL_this hK_this (by decide) rfl 0 (by decide) (hts _ (tw_c tw_176)) (pq_hv rfl hR_w_119) dX12_table_76 ?_
                refine lv_iload hx hb dX12_table_79 (lv_at hl 0 rfl) ?_
                refine lv_iconst (v := 0) hx hb dX12_table_81 (by decide) ?_
                refine lv_iadd hx hb dX12_table_82 ?_
                refine lv_topi (fun x_120 ex_120 => ?_)
                have h_121 : rg x_120 20 75 := rg_of_eq ex_120 (rg_add h_118 (rg_k (0 : Int32) 0 rfl) (by decide))
                have uh_121 := h_121.1
                have vh_121 := h_121.2
                have tx_120 : (x_120).toInt = (x_117).toInt + 0 := by rw [ex_120]; exact i_add_rg (a2 := (x_117).toInt) (b2 := 0) rfl rfl h_118 (rg_k (0 : Int32) 0 rfl) (by decide)
                refine lv_iload_n hx hb dX12_table_83 rfl (lv_at hl 3 rfl) ?_
                refine pt_i hx hb hK hP hD hS hL_w_119 hK_w_119 hN_w_119 (rg_in h_121 (by decide)) dX12_table_84 (fun r_122 H locs er_122 hP hD hS => ?_)
                have hG := GM.wz hG hT_w_119 (by decide) er_122 (zn_TABLE (c := a0.toNatClampNeg) (k := 0) (by have z_i := clampE x_120; have z_0 := clampE a0; omega) (rg_cl1 h_18 (by decide)) (by decide)) rfl (rg_w h_38 (by decide)) (by decide)
                refine lv_aload_n hx hb dX12_table_85 rfl (lv_at hl 1 rfl) ?_
                refine pg_f (v := .ref w_119) (C := RX12) (T := TX12) (N := 31) hx hb hts (tw_i inlX12) hown hK hP hL_this hK_this (by decide) rfl 0 (by decide) (hts _ (tw_c tw_176)) (pq_hv rfl hR_w_119) dX12_table_86 ?_
                refine lv_iload hx hb dX12_table_89 (lv_at hl 0 rfl) ?_
                refine lv_iconst (v := 1) hx hb dX12_table_91 (by decide) ?_
                refine lv_iadd hx hb dX12_table_92 ?_
                refine lv_topi (fun x_123 ex_123 => ?_)
                have h_124 : rg x_123 21 76 := rg_of_eq ex_123 (rg_add h_118 (rg_k (1 : Int32) 1 rfl) (by decide))
                have uh_124 := h_124.1
                have vh_124 := h_124.2
                have tx_123 : (x_123).toInt = (x_117).toInt + 1 := by rw [ex_123]; exact i_add_rg (a2 := (x_117).toInt) (b2 := 1) rfl rfl h_118 (rg_k (1 : Int32) 1 rfl) (by decide)
                refine lv_iload_n hx hb dX12_table_93 rfl (lv_at hl 4 rfl) ?_
                refine pt_i hx hb hK hP hD hS hL_w_119 hK_w_119 hN_w_119 (rg_in h_124 (by decide)) dX12_table_94 (fun r_125 H locs er_125 hP hD hS => ?_)
                have hG := GM.wz hG hT_w_119 (by decide) er_125 (zn_TABLE (c := a0.toNatClampNeg) (k := 1) (by have z_i := clampE x_123; have z_0 := clampE a0; omega) (rg_cl1 h_18 (by decide)) (by decide)) rfl (rg_w h_57 (by decide)) (by decide)
                refine lv_aload_n hx hb dX12_table_95 rfl (lv_at hl 1 rfl) ?_
                refine pg_f (v := .ref w_119) (C := RX12) (T := TX12) (N := 31) hx hb hts (tw_i inlX12) hown hK hP hL_this hK_this (by decide) rfl 0 (by decide) (hts _ (tw_c tw_176)) (pq_hv rfl hR_w_119) dX12_table_96 ?_
                refine lv_iload hx hb dX12_table_99 (lv_at hl 0 rfl) ?_
                refine lv_iconst (v := 2) hx hb dX12_table_101 (by decide) ?_
                refine lv_iadd hx hb dX12_table_102 ?_
                refine lv_topi (fun x_126 ex_126 => ?_)
                have h_127 : rg x_126 22 77 := rg_of_eq ex_126 (rg_add h_118 (rg_k (2 : Int32) 2 rfl) (by decide))
                have uh_127 := h_127.1
                have vh_127 := h_127.2
                have tx_126 : (x_126).toInt = (x_117).toInt + 2 := by rw [ex_126]; exact i_add_rg (a2 := (x_117).toInt) (b2 := 2) rfl rfl h_118 (rg_k (2 : Int32) 2 rfl) (by decide)
                refine lv_iload hx hb dX12_table_103 (lv_at hl 5 rfl) ?_
                refine pt_i hx hb hK hP hD hS hL_w_119 hK_w_119 hN_w_119 (rg_in h_127 (by decide)) dX12_table_105 (fun r_128 H locs er_128 hP hD hS => ?_)
                have hG := GM.wz hG hT_w_119 (by decide) er_128 (zn_TABLE (c := a0.toNatClampNeg) (k := 2) (by have z_i := clampE x_126; have z_0 := clampE a0; omega) (rg_cl1 h_18 (by decide)) (by decide)) rfl (rg_w h_77 (by decide)) (by decide)
                refine lv_aload_n hx hb dX12_table_106 rfl (lv_at hl 1 rfl) ?_
                refine pg_f (v := .ref w_119) (C := RX12) (T := TX12) (N := 31) hx hb hts (tw_i inlX12) hown hK hP hL_this hK_this (by decide) rfl 0 (by decide) (hts _ (tw_c tw_176)) (pq_hv rfl hR_w_119) dX12_table_107 ?_
                refine lv_iload hx hb dX12_table_110 (lv_at hl 0 rfl) ?_
                refine lv_iconst (v := 3) hx hb dX12_table_112 (by decide) ?_
                refine lv_iadd hx hb dX12_table_113 ?_
                refine lv_topi (fun x_129 ex_129 => ?_)
                have h_130 : rg x_129 23 78 := rg_of_eq ex_129 (rg_add h_118 (rg_k (3 : Int32) 3 rfl) (by decide))
                have uh_130 := h_130.1
                have vh_130 := h_130.2
                have tx_129 : (x_129).toInt = (x_117).toInt + 3 := by rw [ex_129]; exact i_add_rg (a2 := (x_117).toInt) (b2 := 3) rfl rfl h_118 (rg_k (3 : Int32) 3 rfl) (by decide)
                refine lv_iload hx hb dX12_table_114 (lv_at hl 6 rfl) ?_
                refine pt_i hx hb hK hP hD hS hL_w_119 hK_w_119 hN_w_119 (rg_in h_130 (by decide)) dX12_table_116 (fun r_131 H locs er_131 hP hD hS => ?_)
                have hG := GM.wz hG hT_w_119 (by decide) er_131 (zn_TABLE (c := a0.toNatClampNeg) (k := 3) (by have z_i := clampE x_129; have z_0 := clampE a0; omega) (rg_cl1 h_18 (by decide)) (by decide)) rfl (rg_w h_97 (by decide)) (by decide)
                refine lv_aload_n hx hb dX12_table_117 rfl (lv_at hl 1 rfl) ?_
                refine pg_f (v := .ref w_119) (C := RX12) (T := TX12) (N := 31) hx hb hts (tw_i inlX12) hown hK hP hL_this hK_this (by decide) rfl 0 (by decide) (hts _ (tw_c tw_176)) (pq_hv rfl hR_w_119) dX12_table_118 ?_
                refine lv_iload hx hb dX12_table_121 (lv_at hl 0 rfl) ?_
                refine lv_iconst (v := 4) hx hb dX12_table_123 (by decide) ?_
                refine lv_iadd hx hb dX12_table_124 ?_
                refine lv_topi (fun x_132 ex_132 => ?_)
                have h_133 : rg x_132 24 79 := rg_of_eq ex_132 (rg_add h_118 (rg_k (4 : Int32) 4 rfl) (by decide))
                have uh_133 := h_133.1
                have vh_133 := h_133.2
                have tx_132 : (x_132).toInt = (x_117).toInt + 4 := by rw [ex_132]; exact i_add_rg (a2 := (x_117).toInt) (b2 := 4) rfl rfl h_118 (rg_k (4 : Int32) 4 rfl) (by decide)
                refine lv_iload hx hb dX12_table_125 (lv_at hl 7 rfl) ?_
                refine pt_i hx hb hK hP hD hS hL_w_119 hK_w_119 hN_w_119 (rg_in h_133 (by decide)) dX12_table_127 (fun r_134 H locs er_134 hP hD hS => ?_)
                have hG := GM.wz hG hT_w_119 (by decide) er_134 (zn_TABLE (c := a0.toNatClampNeg) (k := 4) (by have z_i := clampE x_132; have z_0 := clampE a0; omega) (rg_cl1 h_18 (by decide)) (by decide)) rfl (rg_w h_112 (by decide)) (by decide)
                refine lv_iconst (v := 1) hx hb dX12_table_128 (by decide) ?_
                subst hQ
                exact W.zret (v := 1) hx hb hr (by decide) (fun t1 ht hW => ⟨⟨1, (σ, I, J, r_134, rj, rq), rfl, ⟨r_134, rfl, hG, (Or.inl ⟨rfl, (rg_w h_18 (by decide)), (rg_w h_38 (by decide)), (rg_w h_57 (by decide)), (rg_w h_77 (by decide)), (rg_w h_97 (by decide)), (rg_w h_112 (by decide)), (by omega)⟩)⟩, by rw [ht]; exact hP, va_K.moved hW.alike hK, hD⟩, hS.F ht⟩) hS.2.2 dX12_table_129
              · have f_135 := (hr_104.resolve_left (fun q => absurd (q.1.symm.trans c_106) (by decide))).2
                have zk_136 : (0 : Int32).toInt = 0 := rfl
                have zk_137 : (100 : Int32).toInt = 100 := rfl
                have tc_138 : (x_100).toInt = 0 := congrArg Int32.toInt c_106
                have h_139 : rg x_100 0 0 := rg_and h_105 (rg_of_eq c_106 (rg_k (0 : Int32) 0 rfl)) (by decide)
                have uh_139 := h_139.1
                have vh_139 := h_139.2
                refine lv_iconst (v := 0) hx hb dX12_table_65 (by decide) ?_
                subst hQ
                exact W.zret (v := 0) hx hb hr (by decide) (fun t1 ht hW => ⟨⟨0, (σ, I, J, ri, rj, rq), rfl, ⟨ri, rfl, hG, (Or.inr ⟨rfl, (by omega)⟩)⟩, by rw [ht]; exact hP, va_K.moved hW.alike hK, hD⟩, hS.F ht⟩) hS.2.2 dX12_table_66
  exact go _ _ _ hP hD hS hl

set_option maxHeartbeats 4000000 in
set_option maxRecDepth 100000 in
theorem s_X12_rules_v (l : Launch) (D : va_G) (t : pq_T) (σ : pq_S) (I : Nat → Nat → Int32) (J : Nat → Nat → Int64) (ri : Nat → Nat → Int32) (rj : Nat → Nat → Int64) (rq : Nat → Nat → Option Nat) (sz : Nat) (tg : Nat → Nat) (hSH : SH σ tg) (hG0 : GT tg I ri) (this : Nat) (a0 : Int32) (a1 : Int32) (a2 : Int32) (a3 : Int32) (a4 : Int32) (hL_this : this ∈ σ.1) (hK_this : σ.2.1 this = 12) : MetI l yX12_rules (wa yX12_rules cX12_rules 6 (some .boolean)) ({ frames := 1, cells := 0, slots := 0, locals := 22 }) [.ref this, .int a0, .int a1, .int a2, .int a3, .int a4] D t σ (I, J, ri, rj, rq) sz 0 0 (fun (r : Int32) (u : pq_S × pq_M) => ∃ ri' : Nat → Nat → Int32, u = (σ, I, J, ri', rj, rq) ∧ GM [1013, 1014, 1015] tg σ I ri I ri' rq ∧ ((r = 1 ∧ rg a0 0 40 ∧ rg a1 0 5 ∧ rg a2 0 50 ∧ rg a3 1 20 ∧ rg a4 0 100 ∧ (0 ≤ a0.toInt ∧ a0.toInt ≤ 40 ∧ 0 ≤ a1.toInt ∧ a1.toInt ≤ 5 ∧ 0 ≤ a2.toInt ∧ a2.toInt ≤ 50 ∧ 1 ≤ a3.toInt ∧ a3.toInt ≤ 20 ∧ 0 ≤ a4.toInt ∧ a4.toInt ≤ 100)) ∨ (r = 0 ∧ (¬ (0 ≤ a0.toInt ∧ a0.toInt ≤ 40 ∧ 0 ≤ a1.toInt ∧ a1.toInt ≤ 5 ∧ 0 ≤ a2.toInt ∧ a2.toInt ≤ 50 ∧ 1 ≤ a3.toInt ∧ a3.toInt ≤ 20 ∧ 0 ≤ a4.toInt ∧ a4.toInt ≤ 100))))) := by
  refine Met.ofW (cc := cX12_rules) (maxL := 6) (ret := (some .boolean)) (by decide) rfl ?_
  intro p e s m args below meth c s₁ B hml hv
  obtain ⟨rfl, hsz, hP, hK, hD0, hN⟩ := hv
  have hx := B.exec
  have hb := B.bytes
  have hr := B.returns
  have hts := atoms_spec (ws := (wa yX12_rules cX12_rules 6 (some .boolean))) B.pre
  have hown : s.vm.findClass RX12 = some m.cls := findClass_of_methodNamed B.named
  have hlocks := B.notSynchronized
  subst hsz
  have hD : va_D (pq_B t σ (I, J, ri, rj, rq) s.heap.size) (pq_P t σ (I, J, ri, rj, rq)) := hD0.self
  generalize hAe : pq_B t σ (I, J, ri, rj, rq) s.heap.size = A at hD ⊢
  have hA : ∀ q : Nat, s.heap.size ≤ q → A q := fun q h => by rw [← hAe]; exact Or.inr h
  have hS : va_S A s.heap s.heap [] := va_S.rf
  have hG : GM [1013, 1014, 1015] tg σ I ri I ri rq := ⟨hG0, fun _ _ _ => rfl, fun _ _ _ _ _ => rfl, fun _ _ _ _ _ _ => rfl⟩
  have hl := lv_entry ([.ref this, .int a0, .int a1, .int a2, .int a3, .int a4]) (n := 6) (Nat.le_of_ble_eq_true rfl)
  rw [lg_entry_eq]
  generalize (lg_sl ([.ref this, .int a0, .int a1, .int a2, .int a3, .int a4]) ++ List.replicate (6 - (lg_sl ([.ref this, .int a0, .int a1, .int a2, .int a3, .int a4])).length) Slot.unset).toArray = ls at hl ⊢
  have hl : lv_has ls 6 [(0, .ref this), (1, .int a0), (2, .int a1), (3, .int a2), (4, .int a3), (5, .int a4)] := hl
  refine q_gen (fun Q hQ => ?_)
  have go : ∀ (H : Heap) (locs : List Loc) (ls : Array Slot), va_P D vwCl (pq_P t σ (I, J, ri, rj, rq)) H → va_D A (pq_P t σ (I, J, ri, rj, rq)) → va_S A s.heap H locs → lv_has ls 6 [(0, .ref this), (1, .int a0), (2, .int a1), (3, .int a2), (4, .int a3), (5, .int a4)] → W p l e ({ frames := 1, cells := 0, slots := 0, locals := 22 } : Room) s m (List.toArray ([.ref this, .int a0, .int a1, .int a2, .int a3, .int a4] : List Value)) below meth c H locs 0 0 Q (F0 m 0 ls []) := by
    intro H locs ls hP hD hS hl
    refine lv_iload_n hx hb dX12_rules_0 rfl (lv_at hl 1 rfl) ?_
    refine lv_iconst (v := 0) hx hb dX12_rules_1 (by decide) ?_
    refine lv_bipush (v := 40) hx hb dX12_rules_2 (by decide) ?_
    refine pk_i (va_runS (As := [.int a0, .int 0, .int 40]) (rest := []) ⟨hx, hb, hml, hown, hts⟩ (s_X12_isIn_v l D t σ I J ri rj rq H.size tg hSH hG.1 a0 (0 : Int32) (40 : Int32)) (va_cwS 3 hts (tw_S tw_235 tw_236 tw_5 tw_237) rfl rfl rfl (by decide +kernel) ⟨Nat.le_of_ble_eq_true rfl, Nat.le_of_ble_eq_true rfl⟩) ⟨pq_blind, pq_pre hK hN hP hD⟩ rfl rfl hl.1 rfl (lv_room (Nat.le_of_ble_eq_true rfl)) dX12_rules_4 ⟨Nat.le_of_ble_eq_true rfl, Nat.le_of_ble_eq_true rfl⟩) hD hS hA (fun x_1 σ1 μ1 H locs hw_2 hP hD hS => ?_)
    obtain ⟨hu_3, hr_5⟩ := hw_2
    obtain ⟨hu_3a, hu_3b⟩ := Prod.mk.inj hu_3
    rw [hu_3a, hu_3b] at hP hD
    have h_6 : rg x_1 0 1 := by rcases hr_5 with ⟨q, -⟩ | ⟨q, -⟩ <;> rw [q] <;> exact ⟨by decide, by decide⟩
    have uh_6 := h_6.1
    have vh_6 := h_6.2
    refine lv_if_eq (tgt := 51) hx hb dX12_rules_7 (by decide) (fun c_7 => ?_) (fun c_7 => ?_)
    · have f_8 := (hr_5.resolve_left (fun q => absurd (q.1.symm.trans c_7) (by decide))).2
      have zk_9 : (0 : Int32).toInt = 0 := rfl
      have zk_10 : (40 : Int32).toInt = 40 := rfl
      have tc_11 : (x_1).toInt = 0 := congrArg Int32.toInt c_7
      have h_12 : rg x_1 0 0 := rg_and h_6 (rg_of_eq c_7 (rg_k (0 : Int32) 0 rfl)) (by decide)
      have uh_12 := h_12.1
      have vh_12 := h_12.2
      refine lv_iconst (v := 0) hx hb dX12_rules_51 (by decide) ?_
      subst hQ
      exact W.zret (v := 0) hx hb hr (by decide) (fun t1 ht hW => ⟨⟨0, (σ, I, J, ri, rj, rq), rfl, ⟨ri, rfl, hG, (Or.inr ⟨rfl, (by omega)⟩)⟩, by rw [ht]; exact hP, va_K.moved hW.alike hK, hD⟩, hS.F ht⟩) hS.2.2 dX12_rules_52
    · obtain ⟨f_13, f_14⟩ := (hr_5.resolve_right (fun q => c_7 q.1)).2
      have tc_15 : 0 ≤ (a0).toInt := Int32.le_iff_toInt_le.mp f_13
      have h_16 : rg a0 0 2147483647 := rg_le2 f_13 (rg_k (0 : Int32) 0 rfl) (rg_full _) (by decide)
      have uh_16 := h_16.1
      have vh_16 := h_16.2
      have tc_17 : (a0).toInt ≤ 40 := Int32.le_iff_toInt_le.mp f_14
      have h_18 : rg a0 0 40 := rg_le1 f_14 h_16 (rg_k (40 : Int32) 40 rfl) (by decide)
      have uh_18 := h_18.1
      have vh_18 := h_18.2
      have tc_19 : (x_1).toInt ≠ 0 := fun q => c_7 (Int32.toInt_inj.mp q)
      have h_20 : rg x_1 1 1 := rg_ne c_7 h_6 0 rfl (by decide)
      have uh_20 := h_20.1
      have vh_20 := h_20.2
      refine lv_iload_n hx hb dX12_rules_10 rfl (lv_at hl 2 rfl) ?_
      refine lv_iconst (v := 0) hx hb dX12_rules_11 (by decide) ?_
      refine lv_iconst (v := 5) hx hb dX12_rules_12 (by decide) ?_
      refine pk_i (va_runS (As := [.int a1, .int 0, .int 5]) (rest := []) ⟨hx, hb, hml, hown, hts⟩ (s_X12_isIn_v l D t σ I J ri rj rq H.size tg hSH hG.1 a1 (0 : Int32) (5 : Int32)) (va_cwS 3 hts (tw_S tw_235 tw_236 tw_5 tw_237) rfl rfl rfl (by decide +kernel) ⟨Nat.le_of_ble_eq_true rfl, Nat.le_of_ble_eq_true rfl⟩) ⟨pq_blind, pq_pre hK hN hP hD⟩ rfl rfl hl.1 rfl (lv_room (Nat.le_of_ble_eq_true rfl)) dX12_rules_13 ⟨Nat.le_of_ble_eq_true rfl, Nat.le_of_ble_eq_true rfl⟩) hD hS hA (fun x_21 σ1 μ1 H locs hw_22 hP hD hS => ?_)
      obtain ⟨hu_23, hr_25⟩ := hw_22
      obtain ⟨hu_23a, hu_23b⟩ := Prod.mk.inj hu_23
      rw [hu_23a, hu_23b] at hP hD
      have h_26 : rg x_21 0 1 := by rcases hr_25 with ⟨q, -⟩ | ⟨q, -⟩ <;> rw [q] <;> exact ⟨by decide, by decide⟩
      have uh_26 := h_26.1
      have vh_26 := h_26.2
      refine lv_if_eq (tgt := 51) hx hb dX12_rules_16 (by decide) (fun c_27 => ?_) (fun c_27 => ?_)
      · have f_28 := (hr_25.resolve_left (fun q => absurd (q.1.symm.trans c_27) (by decide))).2
        have zk_29 : (0 : Int32).toInt = 0 := rfl
        have zk_30 : (5 : Int32).toInt = 5 := rfl
        have tc_31 : (x_21).toInt = 0 := congrArg Int32.toInt c_27
        have h_32 : rg x_21 0 0 := rg_and h_26 (rg_of_eq c_27 (rg_k (0 : Int32) 0 rfl)) (by decide)
        have uh_32 := h_32.1
        have vh_32 := h_32.2
        refine lv_iconst (v := 0) hx hb dX12_rules_51 (by decide) ?_
        subst hQ
        exact W.zret (v := 0) hx hb hr (by decide) (fun t1 ht hW => ⟨⟨0, (σ, I, J, ri, rj, rq), rfl, ⟨ri, rfl, hG, (Or.inr ⟨rfl, (by omega)⟩)⟩, by rw [ht]; exact hP, va_K.moved hW.alike hK, hD⟩, hS.F ht⟩) hS.2.2 dX12_rules_52
      · obtain ⟨f_33, f_34⟩ := (hr_25.resolve_right (fun q => c_27 q.1)).2
        have tc_35 : 0 ≤ (a1).toInt := Int32.le_iff_toInt_le.mp f_33
        have h_36 : rg a1 0 2147483647 := rg_le2 f_33 (rg_k (0 : Int32) 0 rfl) (rg_full _) (by decide)
        have uh_36 := h_36.1
        have vh_36 := h_36.2
        have tc_37 : (a1).toInt ≤ 5 := Int32.le_iff_toInt_le.mp f_34
        have h_38 : rg a1 0 5 := rg_le1 f_34 h_36 (rg_k (5 : Int32) 5 rfl) (by decide)
        have uh_38 := h_38.1
        have vh_38 := h_38.2
        have tc_39 : (x_21).toInt ≠ 0 := fun q => c_27 (Int32.toInt_inj.mp q)
        have h_40 : rg x_21 1 1 := rg_ne c_27 h_26 0 rfl (by decide)
        have uh_40 := h_40.1
        have vh_40 := h_40.2
        refine lv_iload_n hx hb dX12_rules_19 rfl (lv_at hl 3 rfl) ?_
        refine lv_iconst (v := 0) hx hb dX12_rules_20 (by decide) ?_
        refine lv_bipush (v := 50) hx hb dX12_rules_21 (by decide) ?_
        refine pk_i (va_runS (As := [.int a2, .int 0, .int 50]) (rest := []) ⟨hx, hb, hml, hown, hts⟩ (s_X12_isIn_v l D t σ I J ri rj rq H.size tg hSH hG.1 a2 (0 : Int32) (50 : Int32)) (va_cwS 3 hts (tw_S tw_235 tw_236 tw_5 tw_237) rfl rfl rfl (by decide +kernel) ⟨Nat.le_of_ble_eq_true rfl, Nat.le_of_ble_eq_true rfl⟩) ⟨pq_blind, pq_pre hK hN hP hD⟩ rfl rfl hl.1 rfl (lv_room (Nat.le_of_ble_eq_true rfl)) dX12_rules_23 ⟨Nat.le_of_ble_eq_true rfl, Nat.le_of_ble_eq_true rfl⟩) hD hS hA (fun x_41 σ1 μ1 H locs hw_42 hP hD hS => ?_)
        obtain ⟨hu_43, hr_45⟩ := hw_42
        obtain ⟨hu_43a, hu_43b⟩ := Prod.mk.inj hu_43
        rw [hu_43a, hu_43b] at hP hD
        have h_46 : rg x_41 0 1 := by rcases hr_45 with ⟨q, -⟩ | ⟨q, -⟩ <;> rw [q] <;> exact ⟨by decide, by decide⟩
        have uh_46 := h_46.1
        have vh_46 := h_46.2
        refine lv_if_eq (tgt := 51) hx hb dX12_rules_26 (by decide) (fun c_47 => ?_) (fun c_47 => ?_)
        · have f_48 := (hr_45.resolve_left (fun q => absurd (q.1.symm.trans c_47) (by decide))).2
          have zk_49 : (0 : Int32).toInt = 0 := rfl
          have zk_50 : (50 : Int32).toInt = 50 := rfl
          have tc_51 : (x_41).toInt = 0 := congrArg Int32.toInt c_47
          have h_52 : rg x_41 0 0 := rg_and h_46 (rg_of_eq c_47 (rg_k (0 : Int32) 0 rfl)) (by decide)
          have uh_52 := h_52.1
          have vh_52 := h_52.2
          refine lv_iconst (v := 0) hx hb dX12_rules_51 (by decide) ?_
          subst hQ
          exact W.zret (v := 0) hx hb hr (by decide) (fun t1 ht hW => ⟨⟨0, (σ, I, J, ri, rj, rq), rfl, ⟨ri, rfl, hG, (Or.inr ⟨rfl, (by omega)⟩)⟩, by rw [ht]; exact hP, va_K.moved hW.alike hK, hD⟩, hS.F ht⟩) hS.2.2 dX12_rules_52
        · obtain ⟨f_53, f_54⟩ := (hr_45.resolve_right (fun q => c_47 q.1)).2
          have tc_55 : 0 ≤ (a2).toInt := Int32.le_iff_toInt_le.mp f_53
          have h_56 : rg a2 0 2147483647 := rg_le2 f_53 (rg_k (0 : Int32) 0 rfl) (rg_full _) (by decide)
          have uh_56 := h_56.1
          have vh_56 := h_56.2
          have tc_57 : (a2).toInt ≤ 50 := Int32.le_iff_toInt_le.mp f_54
          have h_58 : rg a2 0 50 := rg_le1 f_54 h_56 (rg_k (50 : Int32) 50 rfl) (by decide)
          have uh_58 := h_58.1
          have vh_58 := h_58.2
          have tc_59 : (x_41).toInt ≠ 0 := fun q => c_47 (Int32.toInt_inj.mp q)
          have h_60 : rg x_41 1 1 := rg_ne c_47 h_46 0 rfl (by decide)
          have uh_60 := h_60.1
          have vh_60 := h_60.2
          refine lv_iload hx hb dX12_rules_29 (lv_at hl 4 rfl) ?_
          refine lv_iconst (v := 1) hx hb dX12_rules_31 (by decide) ?_
          refine lv_bipush (v := 20) hx hb dX12_rules_32 (by decide) ?_
          refine pk_i (va_runS (As := [.int a3, .int 1, .int 20]) (rest := []) ⟨hx, hb, hml, hown, hts⟩ (s_X12_isIn_v l D t σ I J ri rj rq H.size tg hSH hG.1 a3 (1 : Int32) (20 : Int32)) (va_cwS 3 hts (tw_S tw_235 tw_236 tw_5 tw_237) rfl rfl rfl (by decide +kernel) ⟨Nat.le_of_ble_eq_true rfl, Nat.le_of_ble_eq_true rfl⟩) ⟨pq_blind, pq_pre hK hN hP hD⟩ rfl rfl hl.1 rfl (lv_room (Nat.le_of_ble_eq_true rfl)) dX12_rules_34 ⟨Nat.le_of_ble_eq_true rfl, Nat.le_of_ble_eq_true rfl⟩) hD hS hA (fun x_61 σ1 μ1 H locs hw_62 hP hD hS => ?_)
          obtain ⟨hu_63, hr_65⟩ := hw_62
          obtain ⟨hu_63a, hu_63b⟩ := Prod.mk.inj hu_63
          rw [hu_63a, hu_63b] at hP hD
          have h_66 : rg x_61 0 1 := by rcases hr_65 with ⟨q, -⟩ | ⟨q, -⟩ <;> rw [q] <;> exact ⟨by decide, by decide⟩
          have uh_66 := h_66.1
          have vh_66 := h_66.2
          refine lv_if_eq (tgt := 51) hx hb dX12_rules_37 (by decide) (fun c_67 => ?_) (fun c_67 => ?_)
          · have f_68 := (hr_65.resolve_left (fun q => absurd (q.1.symm.trans c_67) (by decide))).2
            have zk_69 : (1 : Int32).toInt = 1 := rfl
            have zk_70 : (20 : Int32).toInt = 20 := rfl
            have tc_71 : (x_61).toInt = 0 := congrArg Int32.toInt c_67
            have h_72 : rg x_61 0 0 := rg_and h_66 (rg_of_eq c_67 (rg_k (0 : Int32) 0 rfl)) (by decide)
            have uh_72 := h_72.1
            have vh_72 := h_72.2
            refine lv_iconst (v := 0) hx hb dX12_rules_51 (by decide) ?_
            subst hQ
            exact W.zret (v := 0) hx hb hr (by decide) (fun t1 ht hW => ⟨⟨0, (σ, I, J, ri, rj, rq), rfl, ⟨ri, rfl, hG, (Or.inr ⟨rfl, (by omega)⟩)⟩, by rw [ht]; exact hP, va_K.moved hW.alike hK, hD⟩, hS.F ht⟩) hS.2.2 dX12_rules_52
          · obtain ⟨f_73, f_74⟩ := (hr_65.resolve_right (fun q => c_67 q.1)).2
            have tc_75 : 1 ≤ (a3).toInt := Int32.le_iff_toInt_le.mp f_73
            have h_76 : rg a3 1 2147483647 := rg_le2 f_73 (rg_k (1 : Int32) 1 rfl) (rg_full _) (by decide)
            have uh_76 := h_76.1
            have vh_76 := h_76.2
            have tc_77 : (a3).toInt ≤ 20 := Int32.le_iff_toInt_le.mp f_74
            have h_78 : rg a3 1 20 := rg_le1 f_74 h_76 (rg_k (20 : Int32) 20 rfl) (by decide)
            have uh_78 := h_78.1
            have vh_78 := h_78.2
            have tc_79 : (x_61).toInt ≠ 0 := fun q => c_67 (Int32.toInt_inj.mp q)
            have h_80 : rg x_61 1 1 := rg_ne c_67 h_66 0 rfl (by decide)
            have uh_80 := h_80.1
            have vh_80 := h_80.2
            refine lv_iload hx hb dX12_rules_40 (lv_at hl 5 rfl) ?_
            refine lv_iconst (v := 0) hx hb dX12_rules_42 (by decide) ?_
            refine lv_bipush (v := 100) hx hb dX12_rules_43 (by decide) ?_
            refine pk_i (va_runS (As := [.int a4, .int 0, .int 100]) (rest := []) ⟨hx, hb, hml, hown, hts⟩ (s_X12_isIn_v l D t σ I J ri rj rq H.size tg hSH hG.1 a4 (0 : Int32) (100 : Int32)) (va_cwS 3 hts (tw_S tw_235 tw_236 tw_5 tw_237) rfl rfl rfl (by decide +kernel) ⟨Nat.le_of_ble_eq_true rfl, Nat.le_of_ble_eq_true rfl⟩) ⟨pq_blind, pq_pre hK hN hP hD⟩ rfl rfl hl.1 rfl (lv_room (Nat.le_of_ble_eq_true rfl)) dX12_rules_45 ⟨Nat.le_of_ble_eq_true rfl, Nat.le_of_ble_eq_true rfl⟩) hD hS hA (fun x_81 σ1 μ1 H locs hw_82 hP hD hS => ?_)
            obtain ⟨hu_83, hr_85⟩ := hw_82
            obtain ⟨hu_83a, hu_83b⟩ := Prod.mk.inj hu_83
            rw [hu_83a, hu_83b] at hP hD
            have h_86 : rg x_81 0 1 := by rcases hr_85 with ⟨q, -⟩ | ⟨q, -⟩ <;> rw [q] <;> exact ⟨by decide, by decide⟩
            have uh_86 := h_86.1
            have vh_86 := h_86.2
            refine lv_if_ne (tgt := 53) hx hb dX12_rules_48 (by decide) (fun c_87 => ?_) (fun c_87 => ?_)
            · obtain ⟨f_88, f_89⟩ := (hr_85.resolve_right (fun q => c_87 q.1)).2
              have tc_90 : 0 ≤ (a4).toInt := Int32.le_iff_toInt_le.mp f_88
              have h_91 : rg a4 0 2147483647 := rg_le2 f_88 (rg_k (0 : Int32) 0 rfl) (rg_full _) (by decide)
              have uh_91 := h_91.1
              have vh_91 := h_91.2
              have tc_92 : (a4).toInt ≤ 100 := Int32.le_iff_toInt_le.mp f_89
              have h_93 : rg a4 0 100 := rg_le1 f_89 h_91 (rg_k (100 : Int32) 100 rfl) (by decide)
              have uh_93 := h_93.1
              have vh_93 := h_93.2
              have tc_94 : (x_81).toInt ≠ 0 := fun q => c_87 (Int32.toInt_inj.mp q)
              have h_95 : rg x_81 1 1 := rg_ne c_87 h_86 0 rfl (by decide)
              have uh_95 := h_95.1
              have vh_95 := h_95.2
              refine lv_aload_n hx hb dX12_rules_53 rfl (lv_at hl 0 rfl) ?_
              obtain ⟨w_96, hR_w_96, hL_w_96, hK_w_96, hN_w_96, hT_w_96⟩ := sh_a hSH 384 (ci := 12) (kd := 13) (len := 12720) rfl (by decide) hL_this hK_this
              refine pg_f (v := .ref w_96) (C := RX12) (T := TX12) (N := 31) hx hb hts (tw_i inlX12) hown hK hP hL_this hK_this (by decide) rfl 0 (by decide) (hts _ (tw_c tw_176)) (pq_hv rfl hR_w_96) dX12_rules_54 ?_
              refine lv_bipush (v := 13) hx hb dX12_rules_57 (by decide) ?_
              refine lv_iload_n hx hb dX12_rules_59 rfl (lv_at hl 1 rfl) ?_
              refine pt_i hx hb hK hP hD hS hL_w_96 hK_w_96 hN_w_96 (vp_in_iff.mpr (by decide)) dX12_rules_60 (fun r_97 H locs er_97 hP hD hS => ?_)
              have hG := GM.wz hG hT_w_96 (by decide) er_97 (show zn ((13 : Int32)).toNatClampNeg = 13 from by decide) rfl (rg_w h_18 (by decide)) (by decide)
              refine lv_aload_n hx hb dX12_rules_61 rfl (lv_at hl 0 rfl) ?_
              refine pg_f (v := .ref w_96) (C := RX12) (T := TX12) (N := 31) hx hb hts (tw_i inlX12) hown hK hP hL_this hK_this (by decide) rfl 0 (by decide) (hts _ (tw_c tw_176)) (pq_hv rfl hR_w_96) dX12_rules_62 ?_
              refine lv_bipush (v := 14) hx hb dX12_rules_65 (by decide) ?_
              refine lv_iload_n hx hb dX12_rules_67 rfl (lv_at hl 2 rfl) ?_
              refine pt_i hx hb hK hP hD hS hL_w_96 hK_w_96 hN_w_96 (vp_in_iff.mpr (by decide)) dX12_rules_68 (fun r_98 H locs er_98 hP hD hS => ?_)
              have hG := GM.wz hG hT_w_96 (by decide) er_98 (show zn ((14 : Int32)).toNatClampNeg = 14 from by decide) rfl (rg_w h_38 (by decide)) (by decide)
              refine lv_aload_n hx hb dX12_rules_69 rfl (lv_at hl 0 rfl) ?_
              refine pg_f (v := .ref w_96) (C := RX12) (T := TX12) (N := 31) hx hb hts (tw_i inlX12) hown hK hP hL_this hK_this (by decide) rfl 0 (by decide) (hts _ (tw_c tw_176)) (pq_hv rfl hR_w_96) dX12_rules_70 ?_
              refine lv_bipush (v := 15) hx hb dX12_rules_73 (by decide) ?_
              refine lv_iload_n hx hb dX12_rules_75 rfl (lv_at hl 3 rfl) ?_
              refine pt_i hx hb hK hP hD hS hL_w_96 hK_w_96 hN_w_96 (vp_in_iff.mpr (by decide)) dX12_rules_76 (fun r_99 H locs er_99 hP hD hS => ?_)
              have hG := GM.wz hG hT_w_96 (by decide) er_99 (show zn ((15 : Int32)).toNatClampNeg = 15 from by decide) rfl (rg_w h_58 (by decide)) (by decide)
              refine lv_aload_n hx hb dX12_rules_77 rfl (lv_at hl 0 rfl) ?_
              refine pg_f (v := .ref w_96) (C := RX12) (T := TX12) (N := 31) hx hb hts (tw_i inlX12) hown hK hP hL_this hK_this (by decide) rfl 0 (by decide) (hts _ (tw_c tw_176)) (pq_hv rfl hR_w_96) dX12_rules_78 ?_
              refine lv_bipush (v := 16) hx hb dX12_rules_81 (by decide) ?_
              refine lv_iload hx hb dX12_rules_83 (lv_at hl 4 rfl) ?_
              refine pt_i hx hb hK hP hD hS hL_w_96 hK_w_96 hN_w_96 (vp_in_iff.mpr (by decide)) dX12_rules_85 (fun r_100 H locs er_100 hP hD hS => ?_)
              have hG := GM.wz hG hT_w_96 (by decide) er_100 (show zn ((16 : Int32)).toNatClampNeg = 16 from by decide) rfl (rg_w h_78 (by decide)) (by decide)
              refine lv_aload_n hx hb dX12_rules_86 rfl (lv_at hl 0 rfl) ?_
              refine pg_f (v := .ref w_96) (C := RX12) (T := TX12) (N := 31) hx hb hts (tw_i inlX12) hown hK hP hL_this hK_this (by decide) rfl 0 (by decide) (hts _ (tw_c tw_176)) (pq_hv rfl hR_w_96) dX12_rules_87 ?_
              refine lv_bipush (v := 17) hx hb dX12_rules_90 (by decide) ?_
              refine lv_iload hx hb dX12_rules_92 (lv_at hl 5 rfl) ?_
              refine pt_i hx hb hK hP hD hS hL_w_96 hK_w_96 hN_w_96 (vp_in_iff.mpr (by decide)) dX12_rules_94 (fun r_101 H locs er_101 hP hD hS => ?_)
              have hG := GM.wz hG hT_w_96 (by decide) er_101 (show zn ((17 : Int32)).toNatClampNeg = 17 from by decide) rfl (rg_w h_93 (by decide)) (by decide)
              refine lv_iconst (v := 1) hx hb dX12_rules_95 (by decide) ?_
              subst hQ
              exact W.zret (v := 1) hx hb hr (by decide) (fun t1 ht hW => ⟨⟨1, (σ, I, J, r_101, rj, rq), rfl, ⟨r_101, rfl, hG, (Or.inl ⟨rfl, (rg_w h_18 (by decide)), (rg_w h_38 (by decide)), (rg_w h_58 (by decide)), (rg_w h_78 (by decide)), (rg_w h_93 (by decide)), (by omega)⟩)⟩, by rw [ht]; exact hP, va_K.moved hW.alike hK, hD⟩, hS.F ht⟩) hS.2.2 dX12_rules_96
            · have f_102 := (hr_85.resolve_left (fun q => absurd (q.1.symm.trans c_87) (by decide))).2
              have zk_103 : (0 : Int32).toInt = 0 := rfl
              have zk_104 : (100 : Int32).toInt = 100 := rfl
              have tc_105 : (x_81).toInt = 0 := congrArg Int32.toInt c_87
              have h_106 : rg x_81 0 0 := rg_and h_86 (rg_of_eq c_87 (rg_k (0 : Int32) 0 rfl)) (by decide)
              have uh_106 := h_106.1
              have vh_106 := h_106.2
              refine lv_iconst (v := 0) hx hb dX12_rules_51 (by decide) ?_
              subst hQ
              exact W.zret (v := 0) hx hb hr (by decide) (fun t1 ht hW => ⟨⟨0, (σ, I, J, ri, rj, rq), rfl, ⟨ri, rfl, hG, (Or.inr ⟨rfl, (by omega)⟩)⟩, by rw [ht]; exact hP, va_K.moved hW.alike hK, hD⟩, hS.F ht⟩) hS.2.2 dX12_rules_52
  exact go _ _ _ hP hD hS hl

set_option maxHeartbeats 4000000 in
set_option maxRecDepth 100000 in
theorem s_X12_sail_v (l : Launch) (D : va_G) (t : pq_T) (σ : pq_S) (I : Nat → Nat → Int32) (J : Nat → Nat → Int64) (ri : Nat → Nat → Int32) (rj : Nat → Nat → Int64) (rq : Nat → Nat → Option Nat) (sz : Nat) (tg : Nat → Nat) (hSH : SH σ tg) (hG0 : GT tg I ri) (this : Nat) (a0 : Int32) (a1 : Int32) (hL_this : this ∈ σ.1) (hK_this : σ.2.1 this = 12) : MetI l yX12_sail (wa yX12_sail cX12_sail 3 (some .boolean)) ({ frames := 1, cells := 0, slots := 0, locals := 22 }) [.ref this, .int a0, .int a1] D t σ (I, J, ri, rj, rq) sz 0 0 (fun (r : Int32) (u : pq_S × pq_M) => ∃ ri' : Nat → Nat → Int32, u = (σ, I, J, ri', rj, rq) ∧ GM [] tg σ I ri I ri' rq ∧ ((r = 1 ∧ rg a0 0 40 ∧ rg a1 0 100000 ∧ (0 ≤ a0.toInt ∧ a0.toInt ≤ 40 ∧ 0 ≤ a1.toInt ∧ a1.toInt ≤ 100000)) ∨ (r = 0 ∧ (¬ (0 ≤ a0.toInt ∧ a0.toInt ≤ 40 ∧ 0 ≤ a1.toInt ∧ a1.toInt ≤ 100000))))) := by
  refine Met.ofW (cc := cX12_sail) (maxL := 3) (ret := (some .boolean)) (by decide) rfl ?_
  intro p e s m args below meth c s₁ B hml hv
  obtain ⟨rfl, hsz, hP, hK, hD0, hN⟩ := hv
  have hx := B.exec
  have hb := B.bytes
  have hr := B.returns
  have hts := atoms_spec (ws := (wa yX12_sail cX12_sail 3 (some .boolean))) B.pre
  have hown : s.vm.findClass RX12 = some m.cls := findClass_of_methodNamed B.named
  have hlocks := B.notSynchronized
  subst hsz
  have hD : va_D (pq_B t σ (I, J, ri, rj, rq) s.heap.size) (pq_P t σ (I, J, ri, rj, rq)) := hD0.self
  generalize hAe : pq_B t σ (I, J, ri, rj, rq) s.heap.size = A at hD ⊢
  have hA : ∀ q : Nat, s.heap.size ≤ q → A q := fun q h => by rw [← hAe]; exact Or.inr h
  have hS : va_S A s.heap s.heap [] := va_S.rf
  have hG : GM [] tg σ I ri I ri rq := ⟨hG0, fun _ _ _ => rfl, fun _ _ _ _ _ => rfl, fun _ _ _ _ _ _ => rfl⟩
  have hl := lv_entry ([.ref this, .int a0, .int a1]) (n := 3) (Nat.le_of_ble_eq_true rfl)
  rw [lg_entry_eq]
  generalize (lg_sl ([.ref this, .int a0, .int a1]) ++ List.replicate (3 - (lg_sl ([.ref this, .int a0, .int a1])).length) Slot.unset).toArray = ls at hl ⊢
  have hl : lv_has ls 3 [(0, .ref this), (1, .int a0), (2, .int a1)] := hl
  refine q_gen (fun Q hQ => ?_)
  have go : ∀ (H : Heap) (locs : List Loc) (ls : Array Slot), va_P D vwCl (pq_P t σ (I, J, ri, rj, rq)) H → va_D A (pq_P t σ (I, J, ri, rj, rq)) → va_S A s.heap H locs → lv_has ls 3 [(0, .ref this), (1, .int a0), (2, .int a1)] → W p l e ({ frames := 1, cells := 0, slots := 0, locals := 22 } : Room) s m (List.toArray ([.ref this, .int a0, .int a1] : List Value)) below meth c H locs 0 0 Q (F0 m 0 ls []) := by
    intro H locs ls hP hD hS hl
    refine lv_iload_n hx hb dX12_sail_0 rfl (lv_at hl 1 rfl) ?_
    refine lv_iconst (v := 0) hx hb dX12_sail_1 (by decide) ?_
    refine lv_bipush (v := 40) hx hb dX12_sail_2 (by decide) ?_
    refine pk_i (va_runS (As := [.int a0, .int 0, .int 40]) (rest := []) ⟨hx, hb, hml, hown, hts⟩ (s_X12_isIn_v l D t σ I J ri rj rq H.size tg hSH hG.1 a0 (0 : Int32) (40 : Int32)) (va_cwS 3 hts (tw_S tw_235 tw_236 tw_5 tw_237) rfl rfl rfl (by decide +kernel) ⟨Nat.le_of_ble_eq_true rfl, Nat.le_of_ble_eq_true rfl⟩) ⟨pq_blind, pq_pre hK hN hP hD⟩ rfl rfl hl.1 rfl (lv_room (Nat.le_of_ble_eq_true rfl)) dX12_sail_4 ⟨Nat.le_of_ble_eq_true rfl, Nat.le_of_ble_eq_true rfl⟩) hD hS hA (fun x_1 σ1 μ1 H locs hw_2 hP hD hS => ?_)
    obtain ⟨hu_3, hr_5⟩ := hw_2
    obtain ⟨hu_3a, hu_3b⟩ := Prod.mk.inj hu_3
    rw [hu_3a, hu_3b] at hP hD
    have h_6 : rg x_1 0 1 := by rcases hr_5 with ⟨q, -⟩ | ⟨q, -⟩ <;> rw [q] <;> exact ⟨by decide, by decide⟩
    have uh_6 := h_6.1
    have vh_6 := h_6.2
    refine lv_if_eq (tgt := 20) hx hb dX12_sail_7 (by decide) (fun c_7 => ?_) (fun c_7 => ?_)
    · have f_8 := (hr_5.resolve_left (fun q => absurd (q.1.symm.trans c_7) (by decide))).2
      have zk_9 : (0 : Int32).toInt = 0 := rfl
      have zk_10 : (40 : Int32).toInt = 40 := rfl
      have tc_11 : (x_1).toInt = 0 := congrArg Int32.toInt c_7
      have h_12 : rg x_1 0 0 := rg_and h_6 (rg_of_eq c_7 (rg_k (0 : Int32) 0 rfl)) (by decide)
      have uh_12 := h_12.1
      have vh_12 := h_12.2
      refine lv_iconst (v := 0) hx hb dX12_sail_20 (by decide) ?_
      subst hQ
      exact W.zret (v := 0) hx hb hr (by decide) (fun t1 ht hW => ⟨⟨0, (σ, I, J, ri, rj, rq), rfl, ⟨ri, rfl, hG, (Or.inr ⟨rfl, (by omega)⟩)⟩, by rw [ht]; exact hP, va_K.moved hW.alike hK, hD⟩, hS.F ht⟩) hS.2.2 dX12_sail_21
    · obtain ⟨f_13, f_14⟩ := (hr_5.resolve_right (fun q => c_7 q.1)).2
      have tc_15 : 0 ≤ (a0).toInt := Int32.le_iff_toInt_le.mp f_13
      have h_16 : rg a0 0 2147483647 := rg_le2 f_13 (rg_k (0 : Int32) 0 rfl) (rg_full _) (by decide)
      have uh_16 := h_16.1
      have vh_16 := h_16.2
      have tc_17 : (a0).toInt ≤ 40 := Int32.le_iff_toInt_le.mp f_14
      have h_18 : rg a0 0 40 := rg_le1 f_14 h_16 (rg_k (40 : Int32) 40 rfl) (by decide)
      have uh_18 := h_18.1
      have vh_18 := h_18.2
      have tc_19 : (x_1).toInt ≠ 0 := fun q => c_7 (Int32.toInt_inj.mp q)
      have h_20 : rg x_1 1 1 := rg_ne c_7 h_6 0 rfl (by decide)
      have uh_20 := h_20.1
      have vh_20 := h_20.2
      refine lv_iload_n hx hb dX12_sail_10 rfl (lv_at hl 2 rfl) ?_
      refine lv_iconst (v := 0) hx hb dX12_sail_11 (by decide) ?_
      refine lv_ldc hx hb hown (hts _ (tw_c tw_837)) dX12_sail_12 ?_
      refine pk_i (va_runS (As := [.int a1, .int 0, .int 100000]) (rest := []) ⟨hx, hb, hml, hown, hts⟩ (s_X12_isIn_v l D t σ I J ri rj rq H.size tg hSH hG.1 a1 (0 : Int32) (100000 : Int32)) (va_cwS 3 hts (tw_S tw_235 tw_236 tw_5 tw_237) rfl rfl rfl (by decide +kernel) ⟨Nat.le_of_ble_eq_true rfl, Nat.le_of_ble_eq_true rfl⟩) ⟨pq_blind, pq_pre hK hN hP hD⟩ rfl rfl hl.1 rfl (lv_room (Nat.le_of_ble_eq_true rfl)) dX12_sail_14 ⟨Nat.le_of_ble_eq_true rfl, Nat.le_of_ble_eq_true rfl⟩) hD hS hA (fun x_21 σ1 μ1 H locs hw_22 hP hD hS => ?_)
      obtain ⟨hu_23, hr_25⟩ := hw_22
      obtain ⟨hu_23a, hu_23b⟩ := Prod.mk.inj hu_23
      rw [hu_23a, hu_23b] at hP hD
      have h_26 : rg x_21 0 1 := by rcases hr_25 with ⟨q, -⟩ | ⟨q, -⟩ <;> rw [q] <;> exact ⟨by decide, by decide⟩
      have uh_26 := h_26.1
      have vh_26 := h_26.2
      refine lv_if_ne (tgt := 22) hx hb dX12_sail_17 (by decide) (fun c_27 => ?_) (fun c_27 => ?_)
      · obtain ⟨f_28, f_29⟩ := (hr_25.resolve_right (fun q => c_27 q.1)).2
        have tc_30 : 0 ≤ (a1).toInt := Int32.le_iff_toInt_le.mp f_28
        have h_31 : rg a1 0 2147483647 := rg_le2 f_28 (rg_k (0 : Int32) 0 rfl) (rg_full _) (by decide)
        have uh_31 := h_31.1
        have vh_31 := h_31.2
        have tc_32 : (a1).toInt ≤ 100000 := Int32.le_iff_toInt_le.mp f_29
        have h_33 : rg a1 0 100000 := rg_le1 f_29 h_31 (rg_k (100000 : Int32) 100000 rfl) (by decide)
        have uh_33 := h_33.1
        have vh_33 := h_33.2
        have tc_34 : (x_21).toInt ≠ 0 := fun q => c_27 (Int32.toInt_inj.mp q)
        have h_35 : rg x_21 1 1 := rg_ne c_27 h_26 0 rfl (by decide)
        have uh_35 := h_35.1
        have vh_35 := h_35.2
        refine lv_aload_n hx hb dX12_sail_22 rfl (lv_at hl 0 rfl) ?_
        obtain ⟨w_36, hR_w_36, hL_w_36, hK_w_36, hN_w_36, hT_w_36⟩ := sh_a hSH 384 (ci := 12) (kd := 13) (len := 12720) rfl (by decide) hL_this hK_this
        refine pg_f (v := .ref w_36) (C := RX12) (T := TX12) (N := 31) hx hb hts (tw_i inlX12) hown hK hP hL_this hK_this (by decide) rfl 0 (by decide) (hts _ (tw_c tw_176)) (pq_hv rfl hR_w_36) dX12_sail_23 ?_
        refine lv_bipush (v := 11) hx hb dX12_sail_26 (by decide) ?_
        refine lv_iload_n hx hb dX12_sail_28 rfl (lv_at hl 1 rfl) ?_
        refine pt_i hx hb hK hP hD hS hL_w_36 hK_w_36 hN_w_36 (vp_in_iff.mpr (by decide)) dX12_sail_29 (fun r_37 H locs er_37 hP hD hS => ?_)
        have hG := GM.wz hG hT_w_36 (by decide) er_37 (show zn ((11 : Int32)).toNatClampNeg = 11 from by decide) rfl (rg_w h_18 (by decide)) (by decide)
        refine lv_aload_n hx hb dX12_sail_30 rfl (lv_at hl 0 rfl) ?_
        refine pg_f (v := .ref w_36) (C := RX12) (T := TX12) (N := 31) hx hb hts (tw_i inlX12) hown hK hP hL_this hK_this (by decide) rfl 0 (by decide) (hts _ (tw_c tw_176)) (pq_hv rfl hR_w_36) dX12_sail_31 ?_
        refine lv_bipush (v := 8) hx hb dX12_sail_34 (by decide) ?_
        refine lv_dup2_11 hx hb dX12_sail_36 rfl rfl ?_
        refine pl_i hx hb hK hP hL_w_36 hK_w_36 hN_w_36 (vp_in_iff.mpr (by decide)) dX12_sail_37 ?_
        refine lv_topi (fun x_38 ex_38 => ?_)
        have ex_38 : x_38 = r_37 w_36 ((8 : Int32)).toNatClampNeg := ex_38
        refine lv_iload_n hx hb dX12_sail_38 rfl (lv_at hl 2 rfl) ?_
        refine lv_iadd hx hb dX12_sail_39 ?_
        refine lv_topi (fun x_39 ex_39 => ?_)
        refine pt_i hx hb hK hP hD hS hL_w_36 hK_w_36 hN_w_36 (vp_in_iff.mpr (by decide)) dX12_sail_40 (fun r_40 H locs er_40 hP hD hS => ?_)
        have hG := GM.wz hG hT_w_36 (by decide) er_40 (show zn ((8 : Int32)).toNatClampNeg = 8 from by decide) rfl (rg_w (rg_full _) (by decide)) (by decide)
        refine lv_iconst (v := 1) hx hb dX12_sail_41 (by decide) ?_
        subst hQ
        exact W.zret (v := 1) hx hb hr (by decide) (fun t1 ht hW => ⟨⟨1, (σ, I, J, r_40, rj, rq), rfl, ⟨r_40, rfl, hG, (Or.inl ⟨rfl, (rg_w h_18 (by decide)), (rg_w h_33 (by decide)), (by omega)⟩)⟩, by rw [ht]; exact hP, va_K.moved hW.alike hK, hD⟩, hS.F ht⟩) hS.2.2 dX12_sail_42
      · have f_41 := (hr_25.resolve_left (fun q => absurd (q.1.symm.trans c_27) (by decide))).2
        have zk_42 : (0 : Int32).toInt = 0 := rfl
        have zk_43 : (100000 : Int32).toInt = 100000 := rfl
        have tc_44 : (x_21).toInt = 0 := congrArg Int32.toInt c_27
        have h_45 : rg x_21 0 0 := rg_and h_26 (rg_of_eq c_27 (rg_k (0 : Int32) 0 rfl)) (by decide)
        have uh_45 := h_45.1
        have vh_45 := h_45.2
        refine lv_iconst (v := 0) hx hb dX12_sail_20 (by decide) ?_
        subst hQ
        exact W.zret (v := 0) hx hb hr (by decide) (fun t1 ht hW => ⟨⟨0, (σ, I, J, ri, rj, rq), rfl, ⟨ri, rfl, hG, (Or.inr ⟨rfl, (by omega)⟩)⟩, by rw [ht]; exact hP, va_K.moved hW.alike hK, hD⟩, hS.F ht⟩) hS.2.2 dX12_sail_21
  exact go _ _ _ hP hD hS hl
