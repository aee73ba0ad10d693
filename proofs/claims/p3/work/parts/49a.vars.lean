theorem lw_eq {r1 r2 : Int32} {P1 P2 C : Prop} (h1 : (r1 = 1 ∧ P1) ∨ (r1 = 0 ∧ ¬ C)) (h2 : (r2 = 1 ∧ P2) ∨ (r2 = 0 ∧ ¬ C)) (k1 : P1 → C) (k2 : P2 → C) : r1 = r2 := by
  rcases h1 with ⟨a, b⟩ | ⟨a, b⟩ <;> rcases h2 with ⟨c, d⟩ | ⟨c, d⟩
  · exact a.trans c.symm
  · exact absurd (k1 b) d
  · exact absurd (k2 d) b
  · exact a.trans c.symm
set_option maxHeartbeats 4000000 in
set_option maxRecDepth 100000 in
theorem s_X11_between_v (l : Launch) (D : va_G) (t : pq_T) (σ : pq_S) (I : Nat → Nat → Int32) (J : Nat → Nat → Int64) (ri : Nat → Nat → Int32) (rj : Nat → Nat → Int64) (rq : Nat → Nat → Option Nat) (sz : Nat) (tg : Nat → Nat) (hSH : SH σ tg) (hG0 : GS tg σ I ri rq) (a0 : Int32) (a1 : Int32) (a2 : Int32) : MetI l yX11_between (wa yX11_between cX11_between 3 (some .boolean)) ({ frames := 0, cells := 0, slots := 0, locals := 0 }) [.int a0, .int a1, .int a2] D t σ (I, J, ri, rj, rq) sz 0 0 (fun (r : Int32) (u : pq_S × pq_M) => u = (σ, I, J, ri, rj, rq) ∧ ((r = 1 ∧ a1 ≤ a0 ∧ a0 ≤ a2) ∨ (r = 0 ∧ (a0.toInt < a1.toInt ∨ a2.toInt < a0.toInt)))) := by
  refine Met.ofW (cc := cX11_between) (maxL := 3) (ret := (some .boolean)) (by decide) rfl ?_
  intro p e s m args below meth c s₁ B hml hv
  obtain ⟨rfl, hsz, hP, hK, hD0, hN⟩ := hv
  have hx := B.exec
  have hb := B.bytes
  have hr := B.returns
  have hts := atoms_spec (ws := (wa yX11_between cX11_between 3 (some .boolean))) B.pre
  have hown : s.vm.findClass RX11 = some m.cls := findClass_of_methodNamed B.named
  have hlocks := B.notSynchronized
  subst hsz
  have hD : va_D (pq_B t σ (I, J, ri, rj, rq) s.heap.size) (pq_P t σ (I, J, ri, rj, rq)) := hD0.self
  generalize hAe : pq_B t σ (I, J, ri, rj, rq) s.heap.size = A at hD ⊢
  have hA : ∀ q : Nat, s.heap.size ≤ q → A q := fun q h => by rw [← hAe]; exact Or.inr h
  have hS : va_S A s.heap s.heap [] := va_S.rf
  have hG : GX [] tg σ I ri rj I ri rj rq := ⟨hG0, fun _ _ _ => rfl, fun _ _ _ _ _ => rfl, fun _ _ _ _ _ => rfl⟩
  have hl := lv_entry ([.int a0, .int a1, .int a2]) (n := 3) (Nat.le_of_ble_eq_true rfl)
  rw [lg_entry_eq]
  generalize (lg_sl ([.int a0, .int a1, .int a2]) ++ List.replicate (3 - (lg_sl ([.int a0, .int a1, .int a2])).length) Slot.unset).toArray = ls at hl ⊢
  have hl : lv_has ls 3 [(0, .int a0), (1, .int a1), (2, .int a2)] := hl
  refine q_gen (fun Q hQ => ?_)
  have go : ∀ (H : Heap) (locs : List Loc) (ls : Array Slot), va_P D vwCl (pq_P t σ (I, J, ri, rj, rq)) H → va_D A (pq_P t σ (I, J, ri, rj, rq)) → va_S A s.heap H locs → lv_has ls 3 [(0, .int a0), (1, .int a1), (2, .int a2)] → W p l e ({ frames := 0, cells := 0, slots := 0, locals := 0 } : Room) s m (List.toArray ([.int a0, .int a1, .int a2] : List Value)) below meth c H locs 0 0 Q (F0 m 0 ls []) := by
    intro H locs ls hP hD hS hl
    refine lv_iload_n hx hb dX11_between_0 rfl (lv_at hl 0 rfl) ?_
    refine lv_iload_n hx hb dX11_between_1 rfl (lv_at hl 1 rfl) ?_
    refine lv_icmp_lt (tgt := 14) hx hb dX11_between_2 (by decide) (fun c_1 => ?_) (fun c_1 => ?_)
    · have tc_2 : (a0).toInt < (a1).toInt := Int32.lt_iff_toInt_lt.mp c_1
      have h_3 : rg a0 (-2147483648) 2147483646 := rg_lt1 c_1 (rg_full _) (rg_full _) (by decide)
      have uh_3 := h_3.1
      have vh_3 := h_3.2
      have h_4 : rg a1 (-2147483647) 2147483647 := rg_lt2 c_1 (rg_full _) (rg_full _) (by decide)
      have uh_4 := h_4.1
      have vh_4 := h_4.2
      refine lv_iconst (v := 0) hx hb dX11_between_14 (by decide) ?_
      subst hQ
      exact W.zret (v := 0) hx hb hr (by decide) (fun t1 ht hW => ⟨⟨0, (σ, I, J, ri, rj, rq), rfl, ⟨rfl, (Or.inr ⟨rfl, (by omega)⟩)⟩, by rw [ht]; exact hP, va_K.moved hW.alike hK, hD⟩, hS.F ht⟩) hS.2.2 dX11_between_15
    · have tc_5 : (a1).toInt ≤ (a0).toInt := Int32.le_iff_toInt_le.mp (nlt c_1)
      refine lv_iload_n hx hb dX11_between_5 rfl (lv_at hl 0 rfl) ?_
      refine lv_iload_n hx hb dX11_between_6 rfl (lv_at hl 2 rfl) ?_
      refine lv_icmp_gt (tgt := 14) hx hb dX11_between_7 (by decide) (fun c_6 => ?_) (fun c_6 => ?_)
      · have tc_7 : (a2).toInt < (a0).toInt := Int32.lt_iff_toInt_lt.mp c_6
        have h_8 : rg a2 (-2147483648) 2147483646 := rg_lt1 c_6 (rg_full _) (rg_full _) (by decide)
        have uh_8 := h_8.1
        have vh_8 := h_8.2
        have h_9 : rg a0 (-2147483647) 2147483647 := rg_lt2 c_6 (rg_full _) (rg_full _) (by decide)
        have uh_9 := h_9.1
        have vh_9 := h_9.2
        refine lv_iconst (v := 0) hx hb dX11_between_14 (by decide) ?_
        subst hQ
        exact W.zret (v := 0) hx hb hr (by decide) (fun t1 ht hW => ⟨⟨0, (σ, I, J, ri, rj, rq), rfl, ⟨rfl, (Or.inr ⟨rfl, (by omega)⟩)⟩, by rw [ht]; exact hP, va_K.moved hW.alike hK, hD⟩, hS.F ht⟩) hS.2.2 dX11_between_15
      · have tc_10 : (a0).toInt ≤ (a2).toInt := Int32.le_iff_toInt_le.mp (nlt c_6)
        refine lv_iconst (v := 1) hx hb dX11_between_10 (by decide) ?_
        refine lv_goto (tgt := 15) hx hb dX11_between_11 (by decide) ?_
        subst hQ
        exact W.zret (v := 1) hx hb hr (by decide) (fun t1 ht hW => ⟨⟨1, (σ, I, J, ri, rj, rq), rfl, ⟨rfl, (Or.inl ⟨rfl, (nlt c_1), (nlt c_6)⟩)⟩, by rw [ht]; exact hP, va_K.moved hW.alike hK, hD⟩, hS.F ht⟩) hS.2.2 dX11_between_15
  exact go _ _ _ hP hD hS hl

set_option maxHeartbeats 4000000 in
set_option maxRecDepth 100000 in
theorem s_X11_table_v (l : Launch) (D : va_G) (t : pq_T) (σ : pq_S) (I : Nat → Nat → Int32) (J : Nat → Nat → Int64) (ri : Nat → Nat → Int32) (rj : Nat → Nat → Int64) (rq : Nat → Nat → Option Nat) (sz : Nat) (tg : Nat → Nat) (hSH : SH σ tg) (hG0 : GS tg σ I ri rq) (this : Nat) (a0 : Int32) (a1 : Int32) (a2 : Int32) (a3 : Int32) (a4 : Int32) (a5 : Int32) (hL_this : this ∈ σ.1) (hK_this : σ.2.1 this = 11) : MetI l yX11_table (wa yX11_table cX11_table 9 (some .boolean)) ({ frames := 1, cells := 0, slots := 0, locals := 22 }) [.ref this, .int a0, .int a1, .int a2, .int a3, .int a4, .int a5] D t σ (I, J, ri, rj, rq) sz 0 0 (fun (r : Int32) (u : pq_S × pq_M) => ∃ ri' : Nat → Nat → Int32, u = (σ, I, J, ri', rj, rq) ∧ GX [1229, 1230, 1231, 1232, 1233] tg σ I ri rj I ri' rj rq ∧ ((r = 1 ∧ rg a0 0 11 ∧ rg a1 0 2000 ∧ rg a2 0 2000 ∧ rg a3 0 40 ∧ rg a4 0 50 ∧ rg a5 0 100 ∧ (0 ≤ a0.toInt ∧ a0.toInt ≤ 11 ∧ 0 ≤ a1.toInt ∧ a1.toInt ≤ 2000 ∧ a1.toInt ≤ a2.toInt ∧ a2.toInt ≤ 2000 ∧ 0 ≤ a3.toInt ∧ a3.toInt ≤ 40 ∧ 0 ≤ a4.toInt ∧ a4.toInt ≤ 50 ∧ 0 ≤ a5.toInt ∧ a5.toInt ≤ 100)) ∨ (r = 0 ∧ (¬ (0 ≤ a0.toInt ∧ a0.toInt ≤ 11 ∧ 0 ≤ a1.toInt ∧ a1.toInt ≤ 2000 ∧ a1.toInt ≤ a2.toInt ∧ a2.toInt ≤ 2000 ∧ 0 ≤ a3.toInt ∧ a3.toInt ≤ 40 ∧ 0 ≤ a4.toInt ∧ a4.toInt ≤ 50 ∧ 0 ≤ a5.toInt ∧ a5.toInt ≤ 100))))) := by
  refine Met.ofW (cc := cX11_table) (maxL := 9) (ret := (some .boolean)) (by decide) rfl ?_
  intro p e s m args below meth c s₁ B hml hv
  obtain ⟨rfl, hsz, hP, hK, hD0, hN⟩ := hv
  have hx := B.exec
  have hb := B.bytes
  have hr := B.returns
  have hts := atoms_spec (ws := (wa yX11_table cX11_table 9 (some .boolean))) B.pre
  have hown : s.vm.findClass RX11 = some m.cls := findClass_of_methodNamed B.named
  have hlocks := B.notSynchronized
  subst hsz
  have hD : va_D (pq_B t σ (I, J, ri, rj, rq) s.heap.size) (pq_P t σ (I, J, ri, rj, rq)) := hD0.self
  generalize hAe : pq_B t σ (I, J, ri, rj, rq) s.heap.size = A at hD ⊢
  have hA : ∀ q : Nat, s.heap.size ≤ q → A q := fun q h => by rw [← hAe]; exact Or.inr h
  have hS : va_S A s.heap s.heap [] := va_S.rf
  have hG : GX [1229, 1230, 1231, 1232, 1233] tg σ I ri rj I ri rj rq := ⟨hG0, fun _ _ _ => rfl, fun _ _ _ _ _ => rfl, fun _ _ _ _ _ => rfl⟩
  have hl := lv_entry ([.ref this, .int a0, .int a1, .int a2, .int a3, .int a4, .int a5]) (n := 9) (Nat.le_of_ble_eq_true rfl)
  rw [lg_entry_eq]
  generalize (lg_sl ([.ref this, .int a0, .int a1, .int a2, .int a3, .int a4, .int a5]) ++ List.replicate (9 - (lg_sl ([.ref this, .int a0, .int a1, .int a2, .int a3, .int a4, .int a5])).length) Slot.unset).toArray = ls at hl ⊢
  have hl : lv_has ls 9 [(0, .ref this), (1, .int a0), (2, .int a1), (3, .int a2), (4, .int a3), (5, .int a4), (6, .int a5)] := hl
  refine q_gen (fun Q hQ => ?_)
  have go : ∀ (H : Heap) (locs : List Loc) (ls : Array Slot), va_P D vwCl (pq_P t σ (I, J, ri, rj, rq)) H → va_D A (pq_P t σ (I, J, ri, rj, rq)) → va_S A s.heap H locs → lv_has ls 9 [(0, .ref this), (1, .int a0), (2, .int a1), (3, .int a2), (4, .int a3), (5, .int a4), (6, .int a5)] → W p l e ({ frames := 1, cells := 0, slots := 0, locals := 22 } : Room) s m (List.toArray ([.ref this, .int a0, .int a1, .int a2, .int a3, .int a4, .int a5] : List Value)) below meth c H locs 0 0 Q (F0 m 0 ls []) := by
    intro H locs ls hP hD hS hl
    refine lv_iload_n hx hb dX11_table_0 rfl (lv_at hl 1 rfl) ?_
    refine lv_iconst (v := 0) hx hb dX11_table_1 (by decide) ?_
    refine lv_bipush (v := 11) hx hb dX11_table_2 (by decide) ?_
    refine pk_i (va_runS (As := [.int a0, .int 0, .int 11]) (rest := []) ⟨hx, hb, hml, hown, hts⟩ (s_X11_between_v l D t σ I J ri rj rq H.size tg hSH hG.1 a0 (0 : Int32) (11 : Int32)) (va_cwS 3 hts (tw_S tw_215 tw_216 tw_2 tw_217) rfl rfl rfl (by decide +kernel) ⟨Nat.le_of_ble_eq_true rfl, Nat.le_of_ble_eq_true rfl⟩) ⟨pq_blind, pq_pre hK hN hP hD⟩ rfl rfl hl.1 rfl (lv_room (Nat.le_of_ble_eq_true rfl)) dX11_table_4 ⟨Nat.le_of_ble_eq_true rfl, Nat.le_of_ble_eq_true rfl⟩) hD hS hA (fun x_1 σ1 μ1 H locs hw_2 hP hD hS => ?_)
    obtain ⟨hu_3, hr_5⟩ := hw_2
    obtain ⟨hu_3a, hu_3b⟩ := Prod.mk.inj hu_3
    rw [hu_3a, hu_3b] at hP hD
    have h_6 : rg x_1 0 1 := by rcases hr_5 with ⟨q, -⟩ | ⟨q, -⟩ <;> rw [q] <;> exact ⟨by decide, by decide⟩
    have uh_6 := h_6.1
    have vh_6 := h_6.2
    refine lv_if_eq (tgt := 69) hx hb dX11_table_7 (by decide) (fun c_7 => ?_) (fun c_7 => ?_)
    · have f_8 := (hr_5.resolve_left (fun q => absurd (q.1.symm.trans c_7) (by decide))).2
      have zk_9 : (0 : Int32).toInt = 0 := rfl
      have zk_10 : (11 : Int32).toInt = 11 := rfl
      have tc_11 : (x_1).toInt = 0 := congrArg Int32.toInt c_7
      have h_12 : rg x_1 0 0 := rg_and h_6 (rg_of_eq c_7 (rg_k (0 : Int32) 0 rfl)) (by decide)
      have uh_12 := h_12.1
      have vh_12 := h_12.2
      refine lv_iconst (v := 0) hx hb dX11_table_69 (by decide) ?_
      refine lv_istore (lv' := [(7, .int 0), (0, .ref this), (1, .int a0), (2, .int a1), (3, .int a2), (4, .int a3), (5, .int a4), (6, .int a5)]) hx hb dX11_table_70 hl (by decide) rfl (fun ls hl => ?_)
      refine lv_iload hx hb dX11_table_72 (lv_at hl 0 rfl) ?_
      refine lv_if_ne (tgt := 79) hx hb dX11_table_74 (by decide) (fun c_13 => absurd c_13 (by decide)) (fun c_13 => ?_)
      refine lv_iconst (v := 0) hx hb dX11_table_77 (by decide) ?_
      subst hQ
      exact W.zret (v := 0) hx hb hr (by decide) (fun t1 ht hW => ⟨⟨0, (σ, I, J, ri, rj, rq), rfl, ⟨ri, rfl, hG, (Or.inr ⟨rfl, (by omega)⟩)⟩, by rw [ht]; exact hP, va_K.moved hW.alike hK, hD⟩, hS.F ht⟩) hS.2.2 dX11_table_78
    · obtain ⟨f_14, f_15⟩ := (hr_5.resolve_right (fun q => c_7 q.1)).2
      have tc_16 : 0 ≤ (a0).toInt := Int32.le_iff_toInt_le.mp f_14
      have h_17 : rg a0 0 2147483647 := rg_le2 f_14 (rg_k (0 : Int32) 0 rfl) (rg_full _) (by decide)
      have uh_17 := h_17.1
      have vh_17 := h_17.2
      have tc_18 : (a0).toInt ≤ 11 := Int32.le_iff_toInt_le.mp f_15
      have h_19 : rg a0 0 11 := rg_le1 f_15 h_17 (rg_k (11 : Int32) 11 rfl) (by decide)
      have uh_19 := h_19.1
      have vh_19 := h_19.2
      have tc_20 : (x_1).toInt ≠ 0 := fun q => c_7 (Int32.toInt_inj.mp q)
      have h_21 : rg x_1 1 1 := rg_ne c_7 h_6 0 rfl (by decide)
      have uh_21 := h_21.1
      have vh_21 := h_21.2
      refine lv_iload_n hx hb dX11_table_10 rfl (lv_at hl 2 rfl) ?_
      refine lv_iconst (v := 0) hx hb dX11_table_11 (by decide) ?_
      refine lv_sipush (v := 2000) hx hb dX11_table_12 (by decide) ?_
      refine pk_i (va_runS (As := [.int a1, .int 0, .int 2000]) (rest := []) ⟨hx, hb, hml, hown, hts⟩ (s_X11_between_v l D t σ I J ri rj rq H.size tg hSH hG.1 a1 (0 : Int32) (2000 : Int32)) (va_cwS 3 hts (tw_S tw_215 tw_216 tw_2 tw_217) rfl rfl rfl (by decide +kernel) ⟨Nat.le_of_ble_eq_true rfl, Nat.le_of_ble_eq_true rfl⟩) ⟨pq_blind, pq_pre hK hN hP hD⟩ rfl rfl hl.1 rfl (lv_room (Nat.le_of_ble_eq_true rfl)) dX11_table_15 ⟨Nat.le_of_ble_eq_true rfl, Nat.le_of_ble_eq_true rfl⟩) hD hS hA (fun x_22 σ1 μ1 H locs hw_23 hP hD hS => ?_)
      obtain ⟨hu_24, hr_26⟩ := hw_23
      obtain ⟨hu_24a, hu_24b⟩ := Prod.mk.inj hu_24
      rw [hu_24a, hu_24b] at hP hD
      have h_27 : rg x_22 0 1 := by rcases hr_26 with ⟨q, -⟩ | ⟨q, -⟩ <;> rw [q] <;> exact ⟨by decide, by decide⟩
      have uh_27 := h_27.1
      have vh_27 := h_27.2
      refine lv_if_eq (tgt := 69) hx hb dX11_table_18 (by decide) (fun c_28 => ?_) (fun c_28 => ?_)
      · have f_29 := (hr_26.resolve_left (fun q => absurd (q.1.symm.trans c_28) (by decide))).2
        have zk_30 : (0 : Int32).toInt = 0 := rfl
        have zk_31 : (2000 : Int32).toInt = 2000 := rfl
        have tc_32 : (x_22).toInt = 0 := congrArg Int32.toInt c_28
        have h_33 : rg x_22 0 0 := rg_and h_27 (rg_of_eq c_28 (rg_k (0 : Int32) 0 rfl)) (by decide)
        have uh_33 := h_33.1
        have vh_33 := h_33.2
        refine lv_iconst (v := 0) hx hb dX11_table_69 (by decide) ?_
        refine lv_istore (lv' := [(7, .int 0), (0, .ref this), (1, .int a0), (2, .int a1), (3, .int a2), (4, .int a3), (5, .int a4), (6, .int a5)]) hx hb dX11_table_70 hl (by decide) rfl (fun ls hl => ?_)
        refine lv_iload hx hb dX11_table_72 (lv_at hl 0 rfl) ?_
        refine lv_if_ne (tgt := 79) hx hb dX11_table_74 (by decide) (fun c_34 => absurd c_34 (by decide)) (fun c_34 => ?_)
        refine lv_iconst (v := 0) hx hb dX11_table_77 (by decide) ?_
        subst hQ
        exact W.zret (v := 0) hx hb hr (by decide) (fun t1 ht hW => ⟨⟨0, (σ, I, J, ri, rj, rq), rfl, ⟨ri, rfl, hG, (Or.inr ⟨rfl, (by omega)⟩)⟩, by rw [ht]; exact hP, va_K.moved hW.alike hK, hD⟩, hS.F ht⟩) hS.2.2 dX11_table_78
      · obtain ⟨f_35, f_36⟩ := (hr_26.resolve_right (fun q => c_28 q.1)).2
        have tc_37 : 0 ≤ (a1).toInt := Int32.le_iff_toInt_le.mp f_35
        have h_38 : rg a1 0 2147483647 := rg_le2 f_35 (rg_k (0 : Int32) 0 rfl) (rg_full _) (by decide)
        have uh_38 := h_38.1
        have vh_38 := h_38.2
        have tc_39 : (a1).toInt ≤ 2000 := Int32.le_iff_toInt_le.mp f_36
        have h_40 : rg a1 0 2000 := rg_le1 f_36 h_38 (rg_k (2000 : Int32) 2000 rfl) (by decide)
        have uh_40 := h_40.1
        have vh_40 := h_40.2
        have tc_41 : (x_22).toInt ≠ 0 := fun q => c_28 (Int32.toInt_inj.mp q)
        have h_42 : rg x_22 1 1 := rg_ne c_28 h_27 0 rfl (by decide)
        have uh_42 := h_42.1
        have vh_42 := h_42.2
        refine lv_iload_n hx hb dX11_table_21 rfl (lv_at hl 3 rfl) ?_
        refine lv_iload_n hx hb dX11_table_22 rfl (lv_at hl 2 rfl) ?_
        refine lv_sipush (v := 2000) hx hb dX11_table_23 (by decide) ?_
        refine pk_i (va_runS (As := [.int a2, .int a1, .int 2000]) (rest := []) ⟨hx, hb, hml, hown, hts⟩ (s_X11_between_v l D t σ I J ri rj rq H.size tg hSH hG.1 a2 a1 (2000 : Int32)) (va_cwS 3 hts (tw_S tw_215 tw_216 tw_2 tw_217) rfl rfl rfl (by decide +kernel) ⟨Nat.le_of_ble_eq_true rfl, Nat.le_of_ble_eq_true rfl⟩) ⟨pq_blind, pq_pre hK hN hP hD⟩ rfl rfl hl.1 rfl (lv_room (Nat.le_of_ble_eq_true rfl)) dX11_table_26 ⟨Nat.le_of_ble_eq_true rfl, Nat.le_of_ble_eq_true rfl⟩) hD hS hA (fun x_43 σ1 μ1 H locs hw_44 hP hD hS => ?_)
        obtain ⟨hu_45, hr_47⟩ := hw_44
        obtain ⟨hu_45a, hu_45b⟩ := Prod.mk.inj hu_45
        rw [hu_45a, hu_45b] at hP hD
        have h_48 : rg x_43 0 1 := by rcases hr_47 with ⟨q, -⟩ | ⟨q, -⟩ <;> rw [q] <;> exact ⟨by decide, by decide⟩
        have uh_48 := h_48.1
        have vh_48 := h_48.2
        refine lv_if_eq (tgt := 69) hx hb dX11_table_29 (by decide) (fun c_49 => ?_) (fun c_49 => ?_)
        · have f_50 := (hr_47.resolve_left (fun q => absurd (q.1.symm.trans c_49) (by decide))).2
          have zk_51 : (2000 : Int32).toInt = 2000 := rfl
          have tc_52 : (x_43).toInt = 0 := congrArg Int32.toInt c_49
          have h_53 : rg x_43 0 0 := rg_and h_48 (rg_of_eq c_49 (rg_k (0 : Int32) 0 rfl)) (by decide)
          have uh_53 := h_53.1
          have vh_53 := h_53.2
          refine lv_iconst (v := 0) hx hb dX11_table_69 (by decide) ?_
          refine lv_istore (lv' := [(7, .int 0), (0, .ref this), (1, .int a0), (2, .int a1), (3, .int a2), (4, .int a3), (5, .int a4), (6, .int a5)]) hx hb dX11_table_70 hl (by decide) rfl (fun ls hl => ?_)
          refine lv_iload hx hb dX11_table_72 (lv_at hl 0 rfl) ?_
          refine lv_if_ne (tgt := 79) hx hb dX11_table_74 (by decide) (fun c_54 => absurd c_54 (by decide)) (fun c_54 => ?_)
          refine lv_iconst (v := 0) hx hb dX11_table_77 (by decide) ?_
          subst hQ
          exact W.zret (v := 0) hx hb hr (by decide) (fun t1 ht hW => ⟨⟨0, (σ, I, J, ri, rj, rq), rfl, ⟨ri, rfl, hG, (Or.inr ⟨rfl, (by omega)⟩)⟩, by rw [ht]; exact hP, va_K.moved hW.alike hK, hD⟩, hS.F ht⟩) hS.2.2 dX11_table_78
        · obtain ⟨f_55, f_56⟩ := (hr_47.resolve_right (fun q => c_49 q.1)).2
          have tc_57 : (a1).toInt ≤ (a2).toInt := Int32.le_iff_toInt_le.mp f_55
          have h_58 : rg a2 0 2147483647 := rg_le2 f_55 h_40 (rg_full _) (by decide)
          have uh_58 := h_58.1
          have vh_58 := h_58.2
          have tc_59 : (a2).toInt ≤ 2000 := Int32.le_iff_toInt_le.mp f_56
          have h_60 : rg a2 0 2000 := rg_le1 f_56 h_58 (rg_k (2000 : Int32) 2000 rfl) (by decide)
          have uh_60 := h_60.1
          have vh_60 := h_60.2
          have tc_61 : (x_43).toInt ≠ 0 := fun q => c_49 (Int32.toInt_inj.mp q)
          have h_62 : rg x_43 1 1 := rg_ne c_49 h_48 0 rfl (by decide)
          have uh_62 := h_62.1
          have vh_62 := h_62.2
          refine lv_iload hx hb dX11_table_32 (lv_at hl 4 rfl) ?_
          refine lv_iconst (v := 0) hx hb dX11_table_34 (by decide) ?_
          refine lv_bipush (v := 40) hx hb dX11_table_35 (by decide) ?_
          refine pk_i (va_runS (As := [.int a3, .int 0, .int 40]) (rest := []) ⟨hx, hb, hml, hown, hts⟩ (s_X11_between_v l D t σ I J ri rj rq H.size tg hSH hG.1 a3 (0 : Int32) (40 : Int32)) (va_cwS 3 hts (tw_S tw_215 tw_216 tw_2 tw_217) rfl rfl rfl (by decide +kernel) ⟨Nat.le_of_ble_eq_true rfl, Nat.le_of_ble_eq_true rfl⟩) ⟨pq_blind, pq_pre hK hN hP hD⟩ rfl rfl hl.1 rfl (lv_room (Nat.le_of_ble_eq_true rfl)) dX11_table_37 ⟨Nat.le_of_ble_eq_true rfl, Nat.le_of_ble_eq_true rfl⟩) hD hS hA (fun x_63 σ1 μ1 H locs hw_64 hP hD hS => ?_)
          obtain ⟨hu_65, hr_67⟩ := hw_64
          obtain ⟨hu_65a, hu_65b⟩ := Prod.mk.inj hu_65
          rw [hu_65a, hu_65b] at hP hD
          have h_68 : rg x_63 0 1 := by rcases hr_67 with ⟨q, -⟩ | ⟨q, -⟩ <;> rw [q] <;> exact ⟨by decide, by decide⟩
          have uh_68 := h_68.1
          have vh_68 := h_68.2
          refine lv_if_eq (tgt := 69) hx hb dX11_table_40 (by decide) (fun c_69 => ?_) (fun c_69 => ?_)
          · have f_70 := (hr_67.resolve_left (fun q => absurd (q.1.symm.trans c_69) (by decide))).2
            have zk_71 : (0 : Int32).toInt = 0 := rfl
            have zk_72 : (40 : Int32).toInt = 40 := rfl
            have tc_73 : (x_63).toInt = 0 := congrArg Int32.toInt c_69
            have h_74 : rg x_63 0 0 := rg_and h_68 (rg_of_eq c_69 (rg_k (0 : Int32) 0 rfl)) (by decide)
            have uh_74 := h_74.1
            have vh_74 := h_74.2
            refine lv_iconst (v := 0) hx hb dX11_table_69 (by decide) ?_
            refine lv_istore (lv' := [(7, .int 0), (0, .ref this), (1, .int a0), (2, .int a1), (3, .int a2), (4, .int a3), (5, .int a4), (6, .int a5)]) hx hb dX11_table_70 hl (by decide) rfl (fun ls hl => ?_)
            refine lv_iload hx hb dX11_table_72 (lv_at hl 0 rfl) ?_
            refine lv_if_ne (tgt := 79) hx hb dX11_table_74 (by decide) (fun c_75 => absurd c_75 (by decide)) (fun c_75 => ?_)
            refine lv_iconst (v := 0) hx hb dX11_table_77 (by decide) ?_
            subst hQ
            exact W.zret (v := 0) hx hb hr (by decide) (fun t1 ht hW => ⟨⟨0, (σ, I, J, ri, rj, rq), rfl, ⟨ri, rfl, hG, (Or.inr ⟨rfl, (by omega)⟩)⟩, by rw [ht]; exact hP, va_K.moved hW.alike hK, hD⟩, hS.F ht⟩) hS.2.2 dX11_table_78
          · obtain ⟨f_76, f_77⟩ := (hr_67.resolve_right (fun q => c_69 q.1)).2
            have tc_78 : 0 ≤ (a3).toInt := Int32.le_iff_toInt_le.mp f_76
            have h_79 : rg a3 0 2147483647 := rg_le2 f_76 (rg_k (0 : Int32) 0 rfl) (rg_full _) (by decide)
            have uh_79 := h_79.1
            have vh_79 := h_79.2
            have tc_80 : (a3).toInt ≤ 40 := Int32.le_iff_toInt_le.mp f_77
            have h_81 : rg a3 0 40 := rg_le1 f_77 h_79 (rg_k (40 : Int32) 40 rfl) (by decide)
            have uh_81 := h_81.1
            have vh_81 := h_81.2
            have tc_82 : (x_63).toInt ≠ 0 := fun q => c_69 (Int32.toInt_inj.mp q)
            have h_83 : rg x_63 1 1 := rg_ne c_69 h_68 0 rfl (by decide)
            have uh_83 := h_83.1
            have vh_83 := h_83.2
            refine lv_iload hx hb dX11_table_43 (lv_at hl 5 rfl) ?_
            refine lv_iconst (v := 0) hx hb dX11_table_45 (by decide) ?_
            refine lv_bipush (v := 50) hx hb dX11_table_46 (by decide) ?_
            refine pk_i (va_runS (As := [.int a4, .int 0, .int 50]) (rest := []) ⟨hx, hb, hml, hown, hts⟩ (s_X11_between_v l D t σ I J ri rj rq H.size tg hSH hG.1 a4 (0 : Int32) (50 : Int32)) (va_cwS 3 hts (tw_S tw_215 tw_216 tw_2 tw_217) rfl rfl rfl (by decide +kernel) ⟨Nat.le_of_ble_eq_true rfl, Nat.le_of_ble_eq_true rfl⟩) ⟨pq_blind, pq_pre hK hN hP hD⟩ rfl rfl hl.1 rfl (lv_room (Nat.le_of_ble_eq_true rfl)) dX11_table_48 ⟨Nat.le_of_ble_eq_true rfl, Nat.le_of_ble_eq_true rfl⟩) hD hS hA (fun x_84 σ1 μ1 H locs hw_85 hP hD hS => ?_)
            obtain ⟨hu_86, hr_88⟩ := hw_85
            obtain ⟨hu_86a, hu_86b⟩ := Prod.mk.inj hu_86
            rw [hu_86a, hu_86b] at hP hD
            have h_89 : rg x_84 0 1 := by rcases hr_88 with ⟨q, -⟩ | ⟨q, -⟩ <;> rw [q] <;> exact ⟨by decide, by decide⟩
            have uh_89 := h_89.1
            have vh_89 := h_89.2
            refine lv_if_eq (tgt := 69) hx hb dX11_table_51 (by decide) (fun c_90 => ?_) (fun c_90 => ?_)
            · have f_91 := (hr_88.resolve_left (fun q => absurd (q.1.symm.trans c_90) (by decide))).2
              have zk_92 : (0 : Int32).toInt = 0 := rfl
              have zk_93 : (50 : Int32).toInt = 50 := rfl
              have tc_94 : (x_84).toInt = 0 := congrArg Int32.toInt c_90
              have h_95 : rg x_84 0 0 := rg_and h_89 (rg_of_eq c_90 (rg_k (0 : Int32) 0 rfl)) (by decide)
              have uh_95 := h_95.1
              have vh_95 := h_95.2
              refine lv_iconst (v := 0) hx hb dX11_table_69 (by decide) ?_
              refine lv_istore (lv' := [(7, .int 0), (0, .ref this), (1, .int a0), (2, .int a1), (3, .int a2), (4, .int a3), (5, .int a4), (6, .int a5)]) hx hb dX11_table_70 hl (by decide) rfl (fun ls hl => ?_)
              refine lv_iload hx hb dX11_table_72 (lv_at hl 0 rfl) ?_
              refine lv_if_ne (tgt := 79) hx hb dX11_table_74 (by decide) (fun c_96 => absurd c_96 (by decide)) (fun c_96 => ?_)
              refine lv_iconst (v := 0) hx hb dX11_table_77 (by decide) ?_
              subst hQ
              exact W.zret (v := 0) hx hb hr (by decide) (fun t1 ht hW => ⟨⟨0, (σ, I, J, ri, rj, rq), rfl, ⟨ri, rfl, hG, (Or.inr ⟨rfl, (by omega)⟩)⟩, by rw [ht]; exact hP, va_K.moved hW.alike hK, hD⟩, hS.F ht⟩) hS.2.2 dX11_table_78
            · obtain ⟨f_97, f_98⟩ := (hr_88.resolve_right (fun q => c_90 q.1)).2
              have tc_99 : 0 ≤ (a4).toInt := Int32.le_iff_toInt_le.mp f_97
              have h_100 : rg a4 0 2147483647 := rg_le2 f_97 (rg_k (0 : Int32) 0 rfl) (rg_full _) (by decide)
              have uh_100 := h_100.1
              have vh_100 := h_100.2
              have tc_101 : (a4).toInt ≤ 50 := Int32.le_iff_toInt_le.mp f_98
              have h_102 : rg a4 0 50 := rg_le1 f_98 h_100 (rg_k (50 : Int32) 50 rfl) (by decide)
              have uh_102 := h_102.1
              have vh_102 := h_102.2
              have tc_103 : (x_84).toInt ≠ 0 := fun q => c_90 (Int32.toInt_inj.mp q)
              have h_104 : rg x_84 1 1 := rg_ne c_90 h_89 0 rfl (by decide)
              have uh_104 := h_104.1
              have vh_104 := h_104.2
              refine lv_iload hx hb dX11_table_54 (lv_at hl 6 rfl) ?_
              refine lv_iconst (v := 0) hx hb dX11_table_56 (by decide) ?_
              refine lv_bipush (v := 100) hx hb dX11_table_57 (by decide) ?_
              refine pk_i (va_runS (As := [.int a5, .int 0, .int 100]) (rest := []) ⟨hx, hb, hml, hown, hts⟩ (s_X11_between_v l D t σ I J ri rj rq H.size tg hSH hG.1 a5 (0 : Int32) (100 : Int32)) (va_cwS 3 hts (tw_S tw_215 tw_216 tw_2 tw_217) rfl rfl rfl (by decide +kernel) ⟨Nat.le_of_ble_eq_true rfl, Nat.le_of_ble_eq_true rfl⟩) ⟨pq_blind, pq_pre hK hN hP hD⟩ rfl rfl hl.1 rfl (lv_room (Nat.le_of_ble_eq_true rfl)) dX11_table_59 ⟨Nat.le_of_ble_eq_true rfl, Nat.le_of_ble_eq_true rfl⟩) hD hS hA (fun x_105 σ1 μ1 H locs hw_106 hP hD hS => ?_)
              obtain ⟨hu_107, hr_109⟩ := hw_106
              obtain ⟨hu_107a, hu_107b⟩ := Prod.mk.inj hu_107
              rw [hu_107a, hu_107b] at hP hD
              have h_110 : rg x_105 0 1 := by rcases hr_109 with ⟨q, -⟩ | ⟨q, -⟩ <;> rw [q] <;> exact ⟨by decide, by decide⟩
              have uh_110 := h_110.1
              have vh_110 := h_110.2
              refine lv_if_eq (tgt := 69) hx hb dX11_table_62 (by decide) (fun c_111 => ?_) (fun c_111 => ?_)
              · have f_112 := (hr_109.resolve_left (fun q => absurd (q.1.symm.trans c_111) (by decide))).2
                have zk_113 : (0 : Int32).toInt = 0 := rfl
                have zk_114 : (100 : Int32).toInt = 100 := rfl
                have tc_115 : (x_105).toInt = 0 := congrArg Int32.toInt c_111
                have h_116 : rg x_105 0 0 := rg_and h_110 (rg_of_eq c_111 (rg_k (0 : Int32) 0 rfl)) (by decide)
                have uh_116 := h_116.1
                have vh_116 := h_116.2
                refine lv_iconst (v := 0) hx hb dX11_table_69 (by decide) ?_
                refine lv_istore (lv' := [(7, .int 0), (0, .ref this), (1, .int a0), (2, .int a1), (3, .int a2), (4, .int a3), (5, .int a4), (6, .int a5)]) hx hb dX11_table_70 hl (by decide) rfl (fun ls hl => ?_)
                refine lv_iload hx hb dX11_table_72 (lv_at hl 0 rfl) ?_
                refine lv_if_ne (tgt := 79) hx hb dX11_table_74 (by decide) (fun c_117 => absurd c_117 (by decide)) (fun c_117 => ?_)
                refine lv_iconst (v := 0) hx hb dX11_table_77 (by decide) ?_
                subst hQ
                exact W.zret (v := 0) hx hb hr (by decide) (fun t1 ht hW => ⟨⟨0, (σ, I, J, ri, rj, rq), rfl, ⟨ri, rfl, hG, (Or.inr ⟨rfl, (by omega)⟩)⟩, by rw [ht]; exact hP, va_K.moved hW.alike hK, hD⟩, hS.F ht⟩) hS.2.2 dX11_table_78
              · obtain ⟨f_118, f_119⟩ := (hr_109.resolve_right (fun q => c_111 q.1)).2
                have tc_120 : 0 ≤ (a5).toInt := Int32.le_iff_toInt_le.mp f_118
                have h_121 : rg a5 0 2147483647 := rg_le2 f_118 (rg_k (0 : Int32) 0 rfl) (rg_full _) (by decide)
                have uh_121 := h_121.1
                have vh_121 := h_121.2
                have tc_122 : (a5).toInt ≤ 100 := Int32.le_iff_toInt_le.mp f_119
                have h_123 : rg a5 0 100 := rg_le1 f_119 h_121 (rg_k (100 : Int32) 100 rfl) (by decide)
                have uh_123 := h_123.1
                have vh_123 := h_123.2
                have tc_124 : (x_105).toInt ≠ 0 := fun q => c_111 (Int32.toInt_inj.mp q)
                have h_125 : rg x_105 1 1 := rg_ne c_111 h_110 0 rfl (by decide)
                have uh_125 := h_125.1
                have vh_125 := h_125.2
                refine lv_iconst (v := 1) hx hb dX11_table_65 (by decide) ?_
                refine lv_goto (tgt := 70) hx hb dX11_table_66 (by decide) ?_
                refine lv_istore (lv' := [(7, .int 1), (0, .ref this), (1, .int a0), (2, .int a1), (3, .int a2), (4, .int a3), (5, .int a4), (6, .int a5)]) hx hb dX11_table_70 hl (by decide) rfl (fun ls hl => ?_)
                refine lv_iload hx hb dX11_table_72 (lv_at hl 0 rfl) ?_
                refine lv_if_ne (tgt := 79) hx hb dX11_table_74 (by decide) (fun c_126 => ?_) (fun c_126 => absurd c_126 (by decide))
                refine lv_aload_n hx hb dX11_table_79 rfl (lv_at hl 1 rfl) ?_
                obtain ⟨w_127, hR_w_127, hL_w_127, hK_w_127⟩ := sh_o hSH 352 (ci := 11) (kd := 10) rfl hL_this hK_this
                refine pg_f (v := .ref w_127) (C := RX11) (T := TX11) (N := 5) hx hb hts (tw_i inlX11) hown hK hP hL_this hK_this (by decide) rfl 0 (by decide) (hts _ (tw_c tw_16)) (pq_hv rfl hR_w_127) dX11_table_80 ?_
                obtain ⟨w_128, hR_w_128, hL_w_128, hK_w_128⟩ := sh_o hSH 326 (ci := 10) (kd := 7) rfl hL_w_127 hK_w_127
                refine pg_f (v := .ref w_128) (C := RX10) (T := TX10) (N := 13) hx hb hts (tw_i inlX10) hown hK hP hL_w_127 hK_w_127 (by decide) rfl 6 (by decide) (hts _ (tw_c tw_242)) (pq_hv rfl hR_w_128) dX11_table_83 ?_
                refine lv_astore (lv' := [(8, .ref w_128), (7, .int 1), (0, .ref this), (1, .int a0), (2, .int a1), (3, .int a2), (4, .int a3), (5, .int a4), (6, .int a5)]) hx hb dX11_table_86 hl (by decide) rfl (fun ls hl => ?_)
                refine lv_aload hx hb dX11_table_88 (lv_at hl 0 rfl) ?_
                obtain ⟨w_129, hR_w_129, hL_w_129, hK_w_129, hN_w_129, hT_w_129⟩ := sh_a hSH 229 (ci := 7) (kd := 13) (len := 12) rfl (by decide) hL_w_128 hK_w_128
                refine pg_f (v := .ref w_129) (C := RX7) (T := TX7) (N := 15) hx hb hts (tw_i inlX7) hown hK hP hL_w_128 hK_w_128 (by decide) rfl 5 (by decide) (hts _ (tw_c tw_305)) (pq_hv rfl hR_w_129) dX11_table_90 ?_
                refine lv_iload_n hx hb dX11_table_93 rfl (lv_at hl 3 rfl) ?_
                refine lv_iload_n hx hb dX11_table_94 rfl (lv_at hl 4 rfl) ?_
                refine pt_i hx hb hK hP hD hS hL_w_129 hK_w_129 hN_w_129 (rg_in h_19 (by decide)) dX11_table_95 (fun r_130 H locs er_130 hP hD hS => ?_)
                have hG := GX.wR hG hSH hT_w_129 rfl er_130 (rg_w h_40 (by decide)) (by decide)
                refine lv_aload hx hb dX11_table_96 (lv_at hl 0 rfl) ?_
                obtain ⟨w_131, hR_w_131, hL_w_131, hK_w_131, hN_w_131, hT_w_131⟩ := sh_a hSH 230 (ci := 7) (kd := 13) (len := 12) rfl (by decide) hL_w_128 hK_w_128
                refine pg_f (v := .ref w_131) (C := RX7) (T := TX7) (N := 15) hx hb hts (tw_i inlX7) hown hK hP hL_w_128 hK_w_128 (by decide) rfl 6 (by decide) (hts _ (tw_c tw_306)) (pq_hv rfl hR_w_131) dX11_table_98 ?_
                refine lv_iload_n hx hb dX11_table_101 rfl (lv_at hl 3 rfl) ?_
                refine lv_iload_n hx hb dX11_table_102 rfl (lv_at hl 5 rfl) ?_
                refine pt_i hx hb hK hP hD hS hL_w_131 hK_w_131 hN_w_131 (rg_in h_19 (by decide)) dX11_table_103 (fun r_132 H locs er_132 hP hD hS => ?_)
                have hG := GX.wR hG hSH hT_w_131 rfl er_132 (rg_w h_60 (by decide)) (by decide)
                refine lv_aload hx hb dX11_table_104 (lv_at hl 0 rfl) ?_
                obtain ⟨w_133, hR_w_133, hL_w_133, hK_w_133, hN_w_133, hT_w_133⟩ := sh_a hSH 231 (ci := 7) (kd := 13) (len := 12) rfl (by decide) hL_w_128 hK_w_128
                refine pg_f (v := .ref w_133) (C := RX7) (T := TX7) (N := 15) hx hb hts (tw_i inlX7) hown hK hP hL_w_128 hK_w_128 (by decide) rfl 7 (by decide) (hts _ (tw_c tw_307)) (pq_hv rfl hR_w_133) dX11_table_106 ?_
                refine lv_iload_n hx hb dX11_table_109 rfl (lv_at hl 3 rfl) ?_
                refine lv_iload hx hb dX11_table_110 (lv_at hl 6 rfl) ?_
                refine pt_i hx hb hK hP hD hS hL_w_133 hK_w_133 hN_w_133 (rg_in h_19 (by decide)) dX11_table_112 (fun r_134 H locs er_134 hP hD hS => ?_)
                have hG := GX.wR hG hSH hT_w_133 rfl er_134 (rg_w h_81 (by decide)) (by decide)
                refine lv_aload hx hb dX11_table_113 (lv_at hl 0 rfl) ?_
                obtain ⟨w_135, hR_w_135, hL_w_135, hK_w_135, hN_w_135, hT_w_135⟩ := sh_a hSH 232 (ci := 7) (kd := 13) (len := 12) rfl (by decide) hL_w_128 hK_w_128
                refine pg_f (v := .ref w_135) (C := RX7) (T := TX7) (N := 15) hx hb hts (tw_i inlX7) hown hK hP hL_w_128 hK_w_128 (by decide) rfl 8 (by decide) (hts _ (tw_c tw_308)) (pq_hv rfl hR_w_135) dX11_table_115 ?_
                refine lv_iload_n hx hb dX11_table_118 rfl (lv_at hl 3 rfl) ?_
                refine lv_iload hx hb dX11_table_119 (lv_at hl 7 rfl) ?_
                refine pt_i hx hb hK hP hD hS hL_w_135 hK_w_135 hN_w_135 (rg_in h_19 (by decide)) dX11_table_121 (fun r_136 H locs er_136 hP hD hS => ?_)
                have hG := GX.wR hG hSH hT_w_135 rfl er_136 (rg_w h_102 (by decide)) (by decide)
                refine lv_aload hx hb dX11_table_122 (lv_at hl 0 rfl) ?_
                obtain ⟨w_137, hR_w_137, hL_w_137, hK_w_137, hN_w_137, hT_w_137⟩ := sh_a hSH 233 (ci := 7) (kd := 13) (len := 12) rfl (by decide) hL_w_128 hK_w_128
                refine pg_f (v := .ref w_137) (C := RX7) (T := TX7) (N := 15) hx hb hts (tw_i inlX7) hown hK hP hL_w_128 hK_w_128 (by decide) rfl 9 (by decide) (hts _ (tw_c tw_309)) (pq_hv rfl hR_w_137) dX11_table_124 ?_
                refine lv_iload_n hx hb dX11_table_127 rfl (lv_at hl 3 rfl) ?_
                refine lv_iload hx hb dX11_table_128 (lv_at hl 8 rfl) ?_
                refine pt_i hx hb hK hP hD hS hL_w_137 hK_w_137 hN_w_137 (rg_in h_19 (by decide)) dX11_table_130 (fun r_138 H locs er_138 hP hD hS => ?_)
                have hG := GX.wR hG hSH hT_w_137 rfl er_138 (rg_w h_123 (by decide)) (by decide)
                refine lv_iconst (v := 1) hx hb dX11_table_131 (by decide) ?_
                subst hQ
                exact W.zret (v := 1) hx hb hr (by decide) (fun t1 ht hW => ⟨⟨1, (σ, I, J, r_138, rj, rq), rfl, ⟨r_138, rfl, hG, (Or.inl ⟨rfl, (rg_w h_19 (by decide)), (rg_w h_40 (by decide)), (rg_w h_60 (by decide)), (rg_w h_81 (by decide)), (rg_w h_102 (by decide)), (rg_w h_123 (by decide)), (by omega)⟩)⟩, by rw [ht]; exact hP, va_K.moved hW.alike hK, hD⟩, hS.F ht⟩) hS.2.2 dX11_table_132
  exact go _ _ _ hP hD hS hl

set_option maxHeartbeats 4000000 in
set_option maxRecDepth 100000 in
theorem s_X11_rules_v (l : Launch) (D : va_G) (t : pq_T) (σ : pq_S) (I : Nat → Nat → Int32) (J : Nat → Nat → Int64) (ri : Nat → Nat → Int32) (rj : Nat → Nat → Int64) (rq : Nat → Nat → Option Nat) (sz : Nat) (tg : Nat → Nat) (hSH : SH σ tg) (hG0 : GS tg σ I ri rq) (this : Nat) (a0 : Int32) (a1 : Int32) (a2 : Int32) (a3 : Int32) (a4 : Int32) (hL_this : this ∈ σ.1) (hK_this : σ.2.1 this = 11) : MetI l yX11_rules (wa yX11_rules cX11_rules 8 (some .boolean)) ({ frames := 1, cells := 0, slots := 0, locals := 22 }) [.ref this, .int a0, .int a1, .int a2, .int a3, .int a4] D t σ (I, J, ri, rj, rq) sz 0 0 (fun (r : Int32) (u : pq_S × pq_M) => ∃ I' : Nat → Nat → Int32, u = (σ, I', J, ri, rj, rq) ∧ GX [234, 235, 236] tg σ I ri rj I' ri rj rq ∧ ((r = 1 ∧ rg a0 0 40 ∧ rg a1 0 5 ∧ rg a2 0 50 ∧ rg a3 1 20 ∧ rg a4 0 100 ∧ (0 ≤ a0.toInt ∧ a0.toInt ≤ 40 ∧ 0 ≤ a1.toInt ∧ a1.toInt ≤ 5 ∧ 0 ≤ a2.toInt ∧ a2.toInt ≤ 50 ∧ 1 ≤ a3.toInt ∧ a3.toInt ≤ 20 ∧ 0 ≤ a4.toInt ∧ a4.toInt ≤ 100)) ∨ (r = 0 ∧ (¬ (0 ≤ a0.toInt ∧ a0.toInt ≤ 40 ∧ 0 ≤ a1.toInt ∧ a1.toInt ≤ 5 ∧ 0 ≤ a2.toInt ∧ a2.toInt ≤ 50 ∧ 1 ≤ a3.toInt ∧ a3.toInt ≤ 20 ∧ 0 ≤ a4.toInt ∧ a4.toInt ≤ 100))))) := by
  refine Met.ofW (cc := cX11_rules) (maxL := 8) (ret := (some .boolean)) (by decide) rfl ?_
  intro p e s m args below meth c s₁ B hml hv
  obtain ⟨rfl, hsz, hP, hK, hD0, hN⟩ := hv
  have hx := B.exec
  have hb := B.bytes
  have hr := B.returns
  have hts := atoms_spec (ws := (wa yX11_rules cX11_rules 8 (some .boolean))) B.pre
  have hown : s.vm.findClass RX11 = some m.cls := findClass_of_methodNamed B.named
  have hlocks := B.notSynchronized
  subst hsz
  have hD : va_D (pq_B t σ (I, J, ri, rj, rq) s.heap.size) (pq_P t σ (I, J, ri, rj, rq)) := hD0.self
  generalize hAe : pq_B t σ (I, J, ri, rj, rq) s.heap.size = A at hD ⊢
  have hA : ∀ q : Nat, s.heap.size ≤ q → A q := fun q h => by rw [← hAe]; exact Or.inr h
  have hS : va_S A s.heap s.heap [] := va_S.rf
  have hG : GX [234, 235, 236] tg σ I ri rj I ri rj rq := ⟨hG0, fun _ _ _ => rfl, fun _ _ _ _ _ => rfl, fun _ _ _ _ _ => rfl⟩
  have hl := lv_entry ([.ref this, .int a0, .int a1, .int a2, .int a3, .int a4]) (n := 8) (Nat.le_of_ble_eq_true rfl)
  rw [lg_entry_eq]
  generalize (lg_sl ([.ref this, .int a0, .int a1, .int a2, .int a3, .int a4]) ++ List.replicate (8 - (lg_sl ([.ref this, .int a0, .int a1, .int a2, .int a3, .int a4])).length) Slot.unset).toArray = ls at hl ⊢
  have hl : lv_has ls 8 [(0, .ref this), (1, .int a0), (2, .int a1), (3, .int a2), (4, .int a3), (5, .int a4)] := hl
  refine q_gen (fun Q hQ => ?_)
  have go : ∀ (H : Heap) (locs : List Loc) (ls : Array Slot), va_P D vwCl (pq_P t σ (I, J, ri, rj, rq)) H → va_D A (pq_P t σ (I, J, ri, rj, rq)) → va_S A s.heap H locs → lv_has ls 8 [(0, .ref this), (1, .int a0), (2, .int a1), (3, .int a2), (4, .int a3), (5, .int a4)] → W p l e ({ frames := 1, cells := 0, slots := 0, locals := 22 } : Room) s m (List.toArray ([.ref this, .int a0, .int a1, .int a2, .int a3, .int a4] : List Value)) below meth c H locs 0 0 Q (F0 m 0 ls []) := by
    intro H locs ls hP hD hS hl
    refine lv_iload_n hx hb dX11_rules_0 rfl (lv_at hl 1 rfl) ?_
    refine lv_iconst (v := 0) hx hb dX11_rules_1 (by decide) ?_
    refine lv_bipush (v := 40) hx hb dX11_rules_2 (by decide) ?_
    refine pk_i (va_runS (As := [.int a0, .int 0, .int 40]) (rest := []) ⟨hx, hb, hml, hown, hts⟩ (s_X11_between_v l D t σ I J ri rj rq H.size tg hSH hG.1 a0 (0 : Int32) (40 : Int32)) (va_cwS 3 hts (tw_S tw_215 tw_216 tw_2 tw_217) rfl rfl rfl (by decide +kernel) ⟨Nat.le_of_ble_eq_true rfl, Nat.le_of_ble_eq_true rfl⟩) ⟨pq_blind, pq_pre hK hN hP hD⟩ rfl rfl hl.1 rfl (lv_room (Nat.le_of_ble_eq_true rfl)) dX11_rules_4 ⟨Nat.le_of_ble_eq_true rfl, Nat.le_of_ble_eq_true rfl⟩) hD hS hA (fun x_1 σ1 μ1 H locs hw_2 hP hD hS => ?_)
    obtain ⟨hu_3, hr_5⟩ := hw_2
    obtain ⟨hu_3a, hu_3b⟩ := Prod.mk.inj hu_3
    rw [hu_3a, hu_3b] at hP hD
    have h_6 : rg x_1 0 1 := by rcases hr_5 with ⟨q, -⟩ | ⟨q, -⟩ <;> rw [q] <;> exact ⟨by decide, by decide⟩
    have uh_6 := h_6.1
    have vh_6 := h_6.2
    refine lv_if_eq (tgt := 55) hx hb dX11_rules_7 (by decide) (fun c_7 => ?_) (fun c_7 => ?_)
    · have f_8 := (hr_5.resolve_left (fun q => absurd (q.1.symm.trans c_7) (by decide))).2
      have zk_9 : (0 : Int32).toInt = 0 := rfl
      have zk_10 : (40 : Int32).toInt = 40 := rfl
      have tc_11 : (x_1).toInt = 0 := congrArg Int32.toInt c_7
      have h_12 : rg x_1 0 0 := rg_and h_6 (rg_of_eq c_7 (rg_k (0 : Int32) 0 rfl)) (by decide)
      have uh_12 := h_12.1
      have vh_12 := h_12.2
      refine lv_iconst (v := 0) hx hb dX11_rules_55 (by decide) ?_
      refine lv_istore (lv' := [(6, .int 0), (0, .ref this), (1, .int a0), (2, .int a1), (3, .int a2), (4, .int a3), (5, .int a4)]) hx hb dX11_rules_56 hl (by decide) rfl (fun ls hl => ?_)
      refine lv_iload hx hb dX11_rules_58 (lv_at hl 0 rfl) ?_
      refine lv_if_ne (tgt := 65) hx hb dX11_rules_60 (by decide) (fun c_13 => absurd c_13 (by decide)) (fun c_13 => ?_)
      refine lv_iconst (v := 0) hx hb dX11_rules_63 (by decide) ?_
      subst hQ
      exact W.zret (v := 0) hx hb hr (by decide) (fun t1 ht hW => ⟨⟨0, (σ, I, J, ri, rj, rq), rfl, ⟨I, rfl, hG, (Or.inr ⟨rfl, (by omega)⟩)⟩, by rw [ht]; exact hP, va_K.moved hW.alike hK, hD⟩, hS.F ht⟩) hS.2.2 dX11_rules_64
    · obtain ⟨f_14, f_15⟩ := (hr_5.resolve_right (fun q => c_7 q.1)).2
      have tc_16 : 0 ≤ (a0).toInt := Int32.le_iff_toInt_le.mp f_14
      have h_17 : rg a0 0 2147483647 := rg_le2 f_14 (rg_k (0 : Int32) 0 rfl) (rg_full _) (by decide)
      have uh_17 := h_17.1
      have vh_17 := h_17.2
      have tc_18 : (a0).toInt ≤ 40 := Int32.le_iff_toInt_le.mp f_15
      have h_19 : rg a0 0 40 := rg_le1 f_15 h_17 (rg_k (40 : Int32) 40 rfl) (by decide)
      have uh_19 := h_19.1
      have vh_19 := h_19.2
      have tc_20 : (x_1).toInt ≠ 0 := fun q => c_7 (Int32.toInt_inj.mp q)
      have h_21 : rg x_1 1 1 := rg_ne c_7 h_6 0 rfl (by decide)
      have uh_21 := h_21.1
      have vh_21 := h_21.2
      refine lv_iload_n hx hb dX11_rules_10 rfl (lv_at hl 2 rfl) ?_
      refine lv_iconst (v := 0) hx hb dX11_rules_11 (by decide) ?_
      refine lv_iconst (v := 5) hx hb dX11_rules_12 (by decide) ?_
      refine pk_i (va_runS (As := [.int a1, .int 0, .int 5]) (rest := []) ⟨hx, hb, hml, hown, hts⟩ (s_X11_between_v l D t σ I J ri rj rq H.size tg hSH hG.1 a1 (0 : Int32) (5 : Int32)) (va_cwS 3 hts (tw_S tw_215 tw_216 tw_2 tw_217) rfl rfl rfl (by decide +kernel) ⟨Nat.le_of_ble_eq_true rfl, Nat.le_of_ble_eq_true rfl⟩) ⟨pq_blind, pq_pre hK hN hP hD⟩ rfl rfl hl.1 rfl (lv_room (Nat.le_of_ble_eq_true rfl)) dX11_rules_13 ⟨Nat.le_of_ble_eq_true rfl, Nat.le_of_ble_eq_true rfl⟩) hD hS hA (fun x_22 σ1 μ1 H locs hw_23 hP hD hS => ?_)
      obtain ⟨hu_24, hr_26⟩ := hw_23
      obtain ⟨hu_24a, hu_24b⟩ := Prod.mk.inj hu_24
      rw [hu_24a, hu_24b] at hP hD
      have h_27 : rg x_22 0 1 := by rcases hr_26 with ⟨q, -⟩ | ⟨q, -⟩ <;> rw [q] <;> exact ⟨by decide, by decide⟩
      have uh_27 := h_27.1
      have vh_27 := h_27.2
      refine lv_if_eq (tgt := 55) hx hb dX11_rules_16 (by decide) (fun c_28 => ?_) (fun c_28 => ?_)
      · have f_29 := (hr_26.resolve_left (fun q => absurd (q.1.symm.trans c_28) (by decide))).2
        have zk_30 : (0 : Int32).toInt = 0 := rfl
        have zk_31 : (5 : Int32).toInt = 5 := rfl
        have tc_32 : (x_22).toInt = 0 := congrArg Int32.toInt c_28
        have h_33 : rg x_22 0 0 := rg_and h_27 (rg_of_eq c_28 (rg_k (0 : Int32) 0 rfl)) (by decide)
        have uh_33 := h_33.1
        have vh_33 := h_33.2
        refine lv_iconst (v := 0) hx hb dX11_rules_55 (by decide) ?_
        refine lv_istore (lv' := [(6, .int 0), (0, .ref this), (1, .int a0), (2, .int a1), (3, .int a2), (4, .int a3), (5, .int a4)]) hx hb dX11_rules_56 hl (by decide) rfl (fun ls hl => ?_)
        refine lv_iload hx hb dX11_rules_58 (lv_at hl 0 rfl) ?_
        refine lv_if_ne (tgt := 65) hx hb dX11_rules_60 (by decide) (fun c_34 => absurd c_34 (by decide)) (fun c_34 => ?_)
        refine lv_iconst (v := 0) hx hb dX11_rules_63 (by decide) ?_
        subst hQ
        exact W.zret (v := 0) hx hb hr (by decide) (fun t1 ht hW => ⟨⟨0, (σ, I, J, ri, rj, rq), rfl, ⟨I, rfl, hG, (Or.inr ⟨rfl, (by omega)⟩)⟩, by rw [ht]; exact hP, va_K.moved hW.alike hK, hD⟩, hS.F ht⟩) hS.2.2 dX11_rules_64
      · obtain ⟨f_35, f_36⟩ := (hr_26.resolve_right (fun q => c_28 q.1)).2
        have tc_37 : 0 ≤ (a1).toInt := Int32.le_iff_toInt_le.mp f_35
        have h_38 : rg a1 0 2147483647 := rg_le2 f_35 (rg_k (0 : Int32) 0 rfl) (rg_full _) (by decide)
        have uh_38 := h_38.1
        have vh_38 := h_38.2
        have tc_39 : (a1).toInt ≤ 5 := Int32.le_iff_toInt_le.mp f_36
        have h_40 : rg a1 0 5 := rg_le1 f_36 h_38 (rg_k (5 : Int32) 5 rfl) (by decide)
        have uh_40 := h_40.1
        have vh_40 := h_40.2
        have tc_41 : (x_22).toInt ≠ 0 := fun q => c_28 (Int32.toInt_inj.mp q)
        have h_42 : rg x_22 1 1 := rg_ne c_28 h_27 0 rfl (by decide)
        have uh_42 := h_42.1
        have vh_42 := h_42.2
        refine lv_iload_n hx hb dX11_rules_19 rfl (lv_at hl 3 rfl) ?_
        refine lv_iconst (v := 0) hx hb dX11_rules_20 (by decide) ?_
        refine lv_bipush (v := 50) hx hb dX11_rules_21 (by decide) ?_
        refine pk_i (va_runS (As := [.int a2, .int 0, .int 50]) (rest := []) ⟨hx, hb, hml, hown, hts⟩ (s_X11_between_v l D t σ I J ri rj rq H.size tg hSH hG.1 a2 (0 : Int32) (50 : Int32)) (va_cwS 3 hts (tw_S tw_215 tw_216 tw_2 tw_217) rfl rfl rfl (by decide +kernel) ⟨Nat.le_of_ble_eq_true rfl, Nat.le_of_ble_eq_true rfl⟩) ⟨pq_blind, pq_pre hK hN hP hD⟩ rfl rfl hl.1 rfl (lv_room (Nat.le_of_ble_eq_true rfl)) dX11_rules_23 ⟨Nat.le_of_ble_eq_true rfl, Nat.le_of_ble_eq_true rfl⟩) hD hS hA (fun x_43 σ1 μ1 H locs hw_44 hP hD hS => ?_)
        obtain ⟨hu_45, hr_47⟩ := hw_44
        obtain ⟨hu_45a, hu_45b⟩ := Prod.mk.inj hu_45
        rw [hu_45a, hu_45b] at hP hD
        have h_48 : rg x_43 0 1 := by rcases hr_47 with ⟨q, -⟩ | ⟨q, -⟩ <;> rw [q] <;> exact ⟨by decide, by decide⟩
        have uh_48 := h_48.1
        have vh_48 := h_48.2
        refine lv_if_eq (tgt := 55) hx hb dX11_rules_26 (by decide) (fun c_49 => ?_) (fun c_49 => ?_)
        · have f_50 := (hr_47.resolve_left (fun q => absurd (q.1.symm.trans c_49) (by decide))).2
          have zk_51 : (0 : Int32).toInt = 0 := rfl
          have zk_52 : (50 : Int32).toInt = 50 := rfl
          have tc_53 : (x_43).toInt = 0 := congrArg Int32.toInt c_49
          have h_54 : rg x_43 0 0 := rg_and h_48 (rg_of_eq c_49 (rg_k (0 : Int32) 0 rfl)) (by decide)
          have uh_54 := h_54.1
          have vh_54 := h_54.2
          refine lv_iconst (v := 0) hx hb dX11_rules_55 (by decide) ?_
          refine lv_istore (lv' := [(6, .int 0), (0, .ref this), (1, .int a0), (2, .int a1), (3, .int a2), (4, .int a3), (5, .int a4)]) hx hb dX11_rules_56 hl (by decide) rfl (fun ls hl => ?_)
          refine lv_iload hx hb dX11_rules_58 (lv_at hl 0 rfl) ?_
          refine lv_if_ne (tgt := 65) hx hb dX11_rules_60 (by decide) (fun c_55 => absurd c_55 (by decide)) (fun c_55 => ?_)
          refine lv_iconst (v := 0) hx hb dX11_rules_63 (by decide) ?_
          subst hQ
          exact W.zret (v := 0) hx hb hr (by decide) (fun t1 ht hW => ⟨⟨0, (σ, I, J, ri, rj, rq), rfl, ⟨I, rfl, hG, (Or.inr ⟨rfl, (by omega)⟩)⟩, by rw [ht]; exact hP, va_K.moved hW.alike hK, hD⟩, hS.F ht⟩) hS.2.2 dX11_rules_64
        · obtain ⟨f_56, f_57⟩ := (hr_47.resolve_right (fun q => c_49 q.1)).2
          have tc_58 : 0 ≤ (a2).toInt := Int32.le_iff_toInt_le.mp f_56
          have h_59 : rg a2 0 2147483647 := rg_le2 f_56 (rg_k (0 : Int32) 0 rfl) (rg_full _) (by decide)
          have uh_59 := h_59.1
          have vh_59 := h_59.2
          have tc_60 : (a2).toInt ≤ 50 := Int32.le_iff_toInt_le.mp f_57
          have h_61 : rg a2 0 50 := rg_le1 f_57 h_59 (rg_k (50 : Int32) 50 rfl) (by decide)
          have uh_61 := h_61.1
          have vh_61 := h_61.2
          have tc_62 : (x_43).toInt ≠ 0 := fun q => c_49 (Int32.toInt_inj.mp q)
          have h_63 : rg x_43 1 1 := rg_ne c_49 h_48 0 rfl (by decide)
          have uh_63 := h_63.1
          have vh_63 := h_63.2
          refine lv_iload hx hb dX11_rules_29 (lv_at hl 4 rfl) ?_
          refine lv_iconst (v := 1) hx hb dX11_rules_31 (by decide) ?_
          refine lv_bipush (v := 20) hx hb dX11_rules_32 (by decide) ?_
          refine pk_i (va_runS (As := [.int a3, .int 1, .int 20]) (rest := []) ⟨hx, hb, hml, hown, hts⟩ (s_X11_between_v l D t σ I J ri rj rq H.size tg hSH hG.1 a3 (1 : Int32) (20 : Int32)) (va_cwS 3 hts (tw_S tw_215 tw_216 tw_2 tw_217) rfl rfl rfl (by decide +kernel) ⟨Nat.le_of_ble_eq_true rfl, Nat.le_of_ble_eq_true rfl⟩) ⟨pq_blind, pq_pre hK hN hP hD⟩ rfl rfl hl.1 rfl (lv_room (Nat.le_of_ble_eq_true rfl)) dX11_rules_34 ⟨Nat.le_of_ble_eq_true rfl, Nat.le_of_ble_eq_true rfl⟩) hD hS hA (fun x_64 σ1 μ1 H locs hw_65 hP hD hS => ?_)
          obtain ⟨hu_66, hr_68⟩ := hw_65
          obtain ⟨hu_66a, hu_66b⟩ := Prod.mk.inj hu_66
          rw [hu_66a, hu_66b] at hP hD
          have h_69 : rg x_64 0 1 := by rcases hr_68 with ⟨q, -⟩ | ⟨q, -⟩ <;> rw [q] <;> exact ⟨by decide, by decide⟩
          have uh_69 := h_69.1
          have vh_69 := h_69.2
          refine lv_if_eq (tgt := 55) hx hb dX11_rules_37 (by decide) (fun c_70 => ?_) (fun c_70 => ?_)
          · have f_71 := (hr_68.resolve_left (fun q => absurd (q.1.symm.trans c_70) (by decide))).2
            have zk_72 : (1 : Int32).toInt = 1 := rfl
            have zk_73 : (20 : Int32).toInt = 20 := rfl
            have tc_74 : (x_64).toInt = 0 := congrArg Int32.toInt c_70
            have h_75 : rg x_64 0 0 := rg_and h_69 (rg_of_eq c_70 (rg_k (0 : Int32) 0 rfl)) (by decide)
            have uh_75 := h_75.1
            have vh_75 := h_75.2
            refine lv_iconst (v := 0) hx hb dX11_rules_55 (by decide) ?_
            refine lv_istore (lv' := [(6, .int 0), (0, .ref this), (1, .int a0), (2, .int a1), (3, .int a2), (4, .int a3), (5, .int a4)]) hx hb dX11_rules_56 hl (by decide) rfl (fun ls hl => ?_)
            refine lv_iload hx hb dX11_rules_58 (lv_at hl 0 rfl) ?_
            refine lv_if_ne (tgt := 65) hx hb dX11_rules_60 (by decide) (fun c_76 => absurd c_76 (by decide)) (fun c_76 => ?_)
            refine lv_iconst (v := 0) hx hb dX11_rules_63 (by decide) ?_
            subst hQ
            exact W.zret (v := 0) hx hb hr (by decide) (fun t1 ht hW => ⟨⟨0, (σ, I, J, ri, rj, rq), rfl, ⟨I, rfl, hG, (Or.inr ⟨rfl, (by omega)⟩)⟩, by rw [ht]; exact hP, va_K.moved hW.alike hK, hD⟩, hS.F ht⟩) hS.2.2 dX11_rules_64
          · obtain ⟨f_77, f_78⟩ := (hr_68.resolve_right (fun q => c_70 q.1)).2
            have tc_79 : 1 ≤ (a3).toInt := Int32.le_iff_toInt_le.mp f_77
            have h_80 : rg a3 1 2147483647 := rg_le2 f_77 (rg_k (1 : Int32) 1 rfl) (rg_full _) (by decide)
            have uh_80 := h_80.1
            have vh_80 := h_80.2
            have tc_81 : (a3).toInt ≤ 20 := Int32.le_iff_toInt_le.mp f_78
            have h_82 : rg a3 1 20 := rg_le1 f_78 h_80 (rg_k (20 : Int32) 20 rfl) (by decide)
            have uh_82 := h_82.1
            have vh_82 := h_82.2
            have tc_83 : (x_64).toInt ≠ 0 := fun q => c_70 (Int32.toInt_inj.mp q)
            have h_84 : rg x_64 1 1 := rg_ne c_70 h_69 0 rfl (by decide)
            have uh_84 := h_84.1
            have vh_84 := h_84.2
            refine lv_iload hx hb dX11_rules_40 (lv_at hl 5 rfl) ?_
            refine lv_iconst (v := 0) hx hb dX11_rules_42 (by decide) ?_
            refine lv_bipush (v := 100) hx hb dX11_rules_43 (by decide) ?_
            refine pk_i (va_runS (As := [.int a4, .int 0, .int 100]) (rest := []) ⟨hx, hb, hml, hown, hts⟩ (s_X11_between_v l D t σ I J ri rj rq H.size tg hSH hG.1 a4 (0 : Int32) (100 : Int32)) (va_cwS 3 hts (tw_S tw_215 tw_216 tw_2 tw_217) rfl rfl rfl (by decide +kernel) ⟨Nat.le_of_ble_eq_true rfl, Nat.le_of_ble_eq_true rfl⟩) ⟨pq_blind, pq_pre hK hN hP hD⟩ rfl rfl hl.1 rfl (lv_room (Nat.le_of_ble_eq_true rfl)) dX11_rules_45 ⟨Nat.le_of_ble_eq_true rfl, Nat.le_of_ble_eq_true rfl⟩) hD hS hA (fun x_85 σ1 μ1 H locs hw_86 hP hD hS => ?_)
            obtain ⟨hu_87, hr_89⟩ := hw_86
            obtain ⟨hu_87a, hu_87b⟩ := Prod.mk.inj hu_87
            rw [hu_87a, hu_87b] at hP hD
            have h_90 : rg x_85 0 1 := by rcases hr_89 with ⟨q, -⟩ | ⟨q, -⟩ <;> rw [q] <;> exact ⟨by decide, by decide⟩
            have uh_90 := h_90.1
            have vh_90 := h_90.2
            refine lv_if_eq (tgt := 55) hx hb dX11_rules_48 (by decide) (fun c_91 => ?_) (fun c_91 => ?_)
            · have f_92 := (hr_89.resolve_left (fun q => absurd (q.1.symm.trans c_91) (by decide))).2
              have zk_93 : (0 : Int32).toInt = 0 := rfl
              have zk_94 : (100 : Int32).toInt = 100 := rfl
              have tc_95 : (x_85).toInt = 0 := congrArg Int32.toInt c_91
              have h_96 : rg x_85 0 0 := rg_and h_90 (rg_of_eq c_91 (rg_k (0 : Int32) 0 rfl)) (by decide)
              have uh_96 := h_96.1
              have vh_96 := h_96.2
              refine lv_iconst (v := 0) hx hb dX11_rules_55 (by decide) ?_
              refine lv_istore (lv' := [(6, .int 0), (0, .ref this), (1, .int a0), (2, .int a1), (3, .int a2), (4, .int a3), (5, .int a4)]) hx hb dX11_rules_56 hl (by decide) rfl (fun ls hl => ?_)
              refine lv_iload hx hb dX11_rules_58 (lv_at hl 0 rfl) ?_
              refine lv_if_ne (tgt := 65) hx hb dX11_rules_60 (by decide) (fun c_97 => absurd c_97 (by decide)) (fun c_97 => ?_)
              refine lv_iconst (v := 0) hx hb dX11_rules_63 (by decide) ?_
              subst hQ
              exact W.zret (v := 0) hx hb hr (by decide) (fun t1 ht hW => ⟨⟨0, (σ, I, J, ri, rj, rq), rfl, ⟨I, rfl, hG, (Or.inr ⟨rfl, (by omega)⟩)⟩, by rw [ht]; exact hP, va_K.moved hW.alike hK, hD⟩, hS.F ht⟩) hS.2.2 dX11_rules_64
            · obtain ⟨f_98, f_99⟩ := (hr_89.resolve_right (fun q => c_91 q.1)).2
              have tc_100 : 0 ≤ (a4).toInt := Int32.le_iff_toInt_le.mp f_98
              have h_101 : rg a4 0 2147483647 := rg_le2 f_98 (rg_k (0 : Int32) 0 rfl) (rg_full _) (by decide)
              have uh_101 := h_101.1
              have vh_101 := h_101.2
              have tc_102 : (a4).toInt ≤ 100 := Int32.le_iff_toInt_le.mp f_99
              have h_103 : rg a4 0 100 := rg_le1 f_99 h_101 (rg_k (100 : Int32) 100 rfl) (by decide)
              have uh_103 := h_103.1
              have vh_103 := h_103.2
              have tc_104 : (x_85).toInt ≠ 0 := fun q => c_91 (Int32.toInt_inj.mp q)
              have h_105 : rg x_85 1 1 := rg_ne c_91 h_90 0 rfl (by decide)
              have uh_105 := h_105.1
              have vh_105 := h_105.2
              refine lv_iconst (v := 1) hx hb dX11_rules_51 (by decide) ?_
              refine lv_goto (tgt := 56) hx hb dX11_rules_52 (by decide) ?_
              refine lv_istore (lv' := [(6, .int 1), (0, .ref this), (1, .int a0), (2, .int a1), (3, .int a2), (4, .int a3), (5, .int a4)]) hx hb dX11_rules_56 hl (by decide) rfl (fun ls hl => ?_)
              refine lv_iload hx hb dX11_rules_58 (lv_at hl 0 rfl) ?_
              refine lv_if_ne (tgt := 65) hx hb dX11_rules_60 (by decide) (fun c_106 => ?_) (fun c_106 => absurd c_106 (by decide))
              refine lv_aload_n hx hb dX11_rules_65 rfl (lv_at hl 1 rfl) ?_
              obtain ⟨w_107, hR_w_107, hL_w_107, hK_w_107⟩ := sh_o hSH 352 (ci := 11) (kd := 10) rfl hL_this hK_this
              refine pg_f (v := .ref w_107) (C := RX11) (T := TX11) (N := 5) hx hb hts (tw_i inlX11) hown hK hP hL_this hK_this (by decide) rfl 0 (by decide) (hts _ (tw_c tw_16)) (pq_hv rfl hR_w_107) dX11_rules_66 ?_
              obtain ⟨w_108, hR_w_108, hL_w_108, hK_w_108⟩ := sh_o hSH 326 (ci := 10) (kd := 7) rfl hL_w_107 hK_w_107
              refine pg_f (v := .ref w_108) (C := RX10) (T := TX10) (N := 13) hx hb hts (tw_i inlX10) hown hK hP hL_w_107 hK_w_107 (by decide) rfl 6 (by decide) (hts _ (tw_c tw_242)) (pq_hv rfl hR_w_108) dX11_rules_69 ?_
              refine lv_astore (lv' := [(7, .ref w_108), (6, .int 1), (0, .ref this), (1, .int a0), (2, .int a1), (3, .int a2), (4, .int a3), (5, .int a4)]) hx hb dX11_rules_72 hl (by decide) rfl (fun ls hl => ?_)
              refine lv_aload hx hb dX11_rules_74 (lv_at hl 0 rfl) ?_
              refine lv_iload_n hx hb dX11_rules_76 rfl (lv_at hl 3 rfl) ?_
              refine pp_i (v := a0) (ty := .int) (C := RX7) (T := TX7) (N := 15) hx hb hts (tw_i inlX7) tyX7 tyX7_ok nmX7 hown hK hP hD hS hL_w_108 hK_w_108 (by decide) rfl 10 234 (by decide) (hts _ (tw_c tw_318)) rfl (by decide +kernel) rfl rfl (Nat.le_of_ble_eq_true rfl) (ps_234 _ _ _ _ _) dX11_rules_77 (fun I_109 H locs eI_109 hP hD hS => ?_)
              have hG := GX.wI hG 234 rfl eI_109 (rg_w h_19 (by decide)) (by decide)
              refine lv_aload hx hb dX11_rules_80 (lv_at hl 0 rfl) ?_
              refine lv_iload_n hx hb dX11_rules_82 rfl (lv_at hl 4 rfl) ?_
              refine pp_i (v := a1) (ty := .int) (C := RX7) (T := TX7) (N := 15) hx hb hts (tw_i inlX7) tyX7 tyX7_ok nmX7 hown hK hP hD hS hL_w_108 hK_w_108 (by decide) rfl 11 235 (by decide) (hts _ (tw_c tw_319)) rfl (by decide +kernel) rfl rfl (Nat.le_of_ble_eq_true rfl) (ps_235 _ _ _ _ _) dX11_rules_83 (fun I_110 H locs eI_110 hP hD hS => ?_)
              have hG := GX.wI hG 235 rfl eI_110 (rg_w h_40 (by decide)) (by decide)
              refine lv_aload hx hb dX11_rules_86 (lv_at hl 0 rfl) ?_
              refine lv_iload_n hx hb dX11_rules_88 rfl (lv_at hl 5 rfl) ?_
              refine pp_i (v := a2) (ty := .int) (C := RX7) (T := TX7) (N := 15) hx hb hts (tw_i inlX7) tyX7 tyX7_ok nmX7 hown hK hP hD hS hL_w_108 hK_w_108 (by decide) rfl 12 236 (by decide) (hts _ (tw_c tw_320)) rfl (by decide +kernel) rfl rfl (Nat.le_of_ble_eq_true rfl) (ps_236 _ _ _ _ _) dX11_rules_89 (fun I_111 H locs eI_111 hP hD hS => ?_)
              have hG := GX.wI hG 236 rfl eI_111 (rg_w h_61 (by decide)) (by decide)
              refine lv_aload hx hb dX11_rules_92 (lv_at hl 0 rfl) ?_
              refine lv_iload hx hb dX11_rules_94 (lv_at hl 6 rfl) ?_
              refine pp_i (v := a3) (ty := .int) (C := RX7) (T := TX7) (N := 15) hx hb hts (tw_i inlX7) tyX7 tyX7_ok nmX7 hown hK hP hD hS hL_w_108 hK_w_108 (by decide) rfl 13 237 (by decide) (hts _ (tw_c tw_321)) rfl (by decide +kernel) rfl rfl (Nat.le_of_ble_eq_true rfl) (ps_237 _ _ _ _ _) dX11_rules_96 (fun I_112 H locs eI_112 hP hD hS => ?_)
              have hG := GX.wI hG 237 rfl eI_112 (rg_w h_82 (by decide)) (by decide)
              refine lv_aload hx hb dX11_rules_99 (lv_at hl 0 rfl) ?_
              refine lv_iload hx hb dX11_rules_101 (lv_at hl 7 rfl) ?_
              refine pp_i (v := a4) (ty := .int) (C := RX7) (T := TX7) (N := 15) hx hb hts (tw_i inlX7) tyX7 tyX7_ok nmX7 hown hK hP hD hS hL_w_108 hK_w_108 (by decide) rfl 14 238 (by decide) (hts _ (tw_c tw_322)) rfl (by decide +kernel) rfl rfl (Nat.le_of_ble_eq_true rfl) (ps_238 _ _ _ _ _) dX11_rules_103 (fun I_113 H locs eI_113 hP hD hS => ?_)
              have hG := GX.wI hG 238 rfl eI_113 (rg_w h_103 (by decide)) (by decide)
              refine lv_iconst (v := 1) hx hb dX11_rules_106 (by decide) ?_
              subst hQ
              exact W.zret (v := 1) hx hb hr (by decide) (fun t1 ht hW => ⟨⟨1, (σ, I_113, J, ri, rj, rq), rfl, ⟨I_113, rfl, hG, (Or.inl ⟨rfl, (rg_w h_19 (by decide)), (rg_w h_40 (by decide)), (rg_w h_61 (by decide)), (rg_w h_82 (by decide)), (rg_w h_103 (by decide)), (by omega)⟩)⟩, by rw [ht]; exact hP, va_K.moved hW.alike hK, hD⟩, hS.F ht⟩) hS.2.2 dX11_rules_107
  exact go _ _ _ hP hD hS hl

set_option maxHeartbeats 4000000 in
set_option maxRecDepth 100000 in
theorem s_X11_sail_v (l : Launch) (D : va_G) (t : pq_T) (σ : pq_S) (I : Nat → Nat → Int32) (J : Nat → Nat → Int64) (ri : Nat → Nat → Int32) (rj : Nat → Nat → Int64) (rq : Nat → Nat → Option Nat) (sz : Nat) (tg : Nat → Nat) (hSH : SH σ tg) (hG0 : GS tg σ I ri rq) (this : Nat) (a0 : Int32) (a1 : Int32) (hL_this : this ∈ σ.1) (hK_this : σ.2.1 this = 11) : MetI l yX11_sail (wa yX11_sail cX11_sail 3 (some .boolean)) ({ frames := 1, cells := 0, slots := 0, locals := 22 }) [.ref this, .int a0, .int a1] D t σ (I, J, ri, rj, rq) sz 0 0 (fun (r : Int32) (u : pq_S × pq_M) => ∃ I' : Nat → Nat → Int32, u = (σ, I', J, ri, rj, rq) ∧ GX [] tg σ I ri rj I' ri rj rq ∧ ((r = 1 ∧ rg a0 0 40 ∧ rg a1 0 100000 ∧ (0 ≤ a0.toInt ∧ a0.toInt ≤ 40 ∧ 0 ≤ a1.toInt ∧ a1.toInt ≤ 100000)) ∨ (r = 0 ∧ (¬ (0 ≤ a0.toInt ∧ a0.toInt ≤ 40 ∧ 0 ≤ a1.toInt ∧ a1.toInt ≤ 100000))))) := by
  refine Met.ofW (cc := cX11_sail) (maxL := 3) (ret := (some .boolean)) (by decide) rfl ?_
  intro p e s m args below meth c s₁ B hml hv
  obtain ⟨rfl, hsz, hP, hK, hD0, hN⟩ := hv
  have hx := B.exec
  have hb := B.bytes
  have hr := B.returns
  have hts := atoms_spec (ws := (wa yX11_sail cX11_sail 3 (some .boolean))) B.pre
  have hown : s.vm.findClass RX11 = some m.cls := findClass_of_methodNamed B.named
  have hlocks := B.notSynchronized
  subst hsz
  have hD : va_D (pq_B t σ (I, J, ri, rj, rq) s.heap.size) (pq_P t σ (I, J, ri, rj, rq)) := hD0.self
  generalize hAe : pq_B t σ (I, J, ri, rj, rq) s.heap.size = A at hD ⊢
  have hA : ∀ q : Nat, s.heap.size ≤ q → A q := fun q h => by rw [← hAe]; exact Or.inr h
  have hS : va_S A s.heap s.heap [] := va_S.rf
  have hG : GX [] tg σ I ri rj I ri rj rq := ⟨hG0, fun _ _ _ => rfl, fun _ _ _ _ _ => rfl, fun _ _ _ _ _ => rfl⟩
  have hl := lv_entry ([.ref this, .int a0, .int a1]) (n := 3) (Nat.le_of_ble_eq_true rfl)
  rw [lg_entry_eq]
  generalize (lg_sl ([.ref this, .int a0, .int a1]) ++ List.replicate (3 - (lg_sl ([.ref this, .int a0, .int a1])).length) Slot.unset).toArray = ls at hl ⊢
  have hl : lv_has ls 3 [(0, .ref this), (1, .int a0), (2, .int a1)] := hl
  refine q_gen (fun Q hQ => ?_)
  have go : ∀ (H : Heap) (locs : List Loc) (ls : Array Slot), va_P D vwCl (pq_P t σ (I, J, ri, rj, rq)) H → va_D A (pq_P t σ (I, J, ri, rj, rq)) → va_S A s.heap H locs → lv_has ls 3 [(0, .ref this), (1, .int a0), (2, .int a1)] → W p l e ({ frames := 1, cells := 0, slots := 0, locals := 22 } : Room) s m (List.toArray ([.ref this, .int a0, .int a1] : List Value)) below meth c H locs 0 0 Q (F0 m 0 ls []) := by
    intro H locs ls hP hD hS hl
    refine lv_iload_n hx hb dX11_sail_0 rfl (lv_at hl 1 rfl) ?_
    refine lv_iconst (v := 0) hx hb dX11_sail_1 (by decide) ?_
    refine lv_bipush (v := 40) hx hb dX11_sail_2 (by decide) ?_
    refine pk_i (va_runS (As := [.int a0, .int 0, .int 40]) (rest := []) ⟨hx, hb, hml, hown, hts⟩ (s_X11_between_v l D t σ I J ri rj rq H.size tg hSH hG.1 a0 (0 : Int32) (40 : Int32)) (va_cwS 3 hts (tw_S tw_215 tw_216 tw_2 tw_217) rfl rfl rfl (by decide +kernel) ⟨Nat.le_of_ble_eq_true rfl, Nat.le_of_ble_eq_true rfl⟩) ⟨pq_blind, pq_pre hK hN hP hD⟩ rfl rfl hl.1 rfl (lv_room (Nat.le_of_ble_eq_true rfl)) dX11_sail_4 ⟨Nat.le_of_ble_eq_true rfl, Nat.le_of_ble_eq_true rfl⟩) hD hS hA (fun x_1 σ1 μ1 H locs hw_2 hP hD hS => ?_)
    obtain ⟨hu_3, hr_5⟩ := hw_2
    obtain ⟨hu_3a, hu_3b⟩ := Prod.mk.inj hu_3
    rw [hu_3a, hu_3b] at hP hD
    have h_6 : rg x_1 0 1 := by rcases hr_5 with ⟨q, -⟩ | ⟨q, -⟩ <;> rw [q] <;> exact ⟨by decide, by decide⟩
    have uh_6 := h_6.1
    have vh_6 := h_6.2
    refine lv_if_eq (tgt := 20) hx hb dX11_sail_7 (by decide) (fun c_7 => ?_) (fun c_7 => ?_)
    · have f_8 := (hr_5.resolve_left (fun q => absurd (q.1.symm.trans c_7) (by decide))).2
      have zk_9 : (0 : Int32).toInt = 0 := rfl
      have zk_10 : (40 : Int32).toInt = 40 := rfl
      have tc_11 : (x_1).toInt = 0 := congrArg Int32.toInt c_7
      have h_12 : rg x_1 0 0 := rg_and h_6 (rg_of_eq c_7 (rg_k (0 : Int32) 0 rfl)) (by decide)
      have uh_12 := h_12.1
      have vh_12 := h_12.2
      refine lv_iconst (v := 0) hx hb dX11_sail_20 (by decide) ?_
      subst hQ
      exact W.zret (v := 0) hx hb hr (by decide) (fun t1 ht hW => ⟨⟨0, (σ, I, J, ri, rj, rq), rfl, ⟨I, rfl, hG, (Or.inr ⟨rfl, (by omega)⟩)⟩, by rw [ht]; exact hP, va_K.moved hW.alike hK, hD⟩, hS.F ht⟩) hS.2.2 dX11_sail_21
    · obtain ⟨f_13, f_14⟩ := (hr_5.resolve_right (fun q => c_7 q.1)).2
      have tc_15 : 0 ≤ (a0).toInt := Int32.le_iff_toInt_le.mp f_13
      have h_16 : rg a0 0 2147483647 := rg_le2 f_13 (rg_k (0 : Int32) 0 rfl) (rg_full _) (by decide)
      have uh_16 := h_16.1
      have vh_16 := h_16.2
      have tc_17 : (a0).toInt ≤ 40 := Int32.le_iff_toInt_le.mp f_14
      have h_18 : rg a0 0 40 := rg_le1 f_14 h_16 (rg_k (40 : Int32) 40 rfl) (by decide)
      have uh_18 := h_18.1
      have vh_18 := h_18.2
      have tc_19 : (x_1).toInt ≠ 0 := fun q => c_7 (Int32.toInt_inj.mp q)
      have h_20 : rg x_1 1 1 := rg_ne c_7 h_6 0 rfl (by decide)
      have uh_20 := h_20.1
      have vh_20 := h_20.2
      refine lv_iload_n hx hb dX11_sail_10 rfl (lv_at hl 2 rfl) ?_
      refine lv_iconst (v := 0) hx hb dX11_sail_11 (by decide) ?_
      refine lv_ldc hx hb hown (hts _ (tw_c tw_1024)) dX11_sail_12 ?_
      refine pk_i (va_runS (As := [.int a1, .int 0, .int 100000]) (rest := []) ⟨hx, hb, hml, hown, hts⟩ (s_X11_between_v l D t σ I J ri rj rq H.size tg hSH hG.1 a1 (0 : Int32) (100000 : Int32)) (va_cwS 3 hts (tw_S tw_215 tw_216 tw_2 tw_217) rfl rfl rfl (by decide +kernel) ⟨Nat.le_of_ble_eq_true rfl, Nat.le_of_ble_eq_true rfl⟩) ⟨pq_blind, pq_pre hK hN hP hD⟩ rfl rfl hl.1 rfl (lv_room (Nat.le_of_ble_eq_true rfl)) dX11_sail_14 ⟨Nat.le_of_ble_eq_true rfl, Nat.le_of_ble_eq_true rfl⟩) hD hS hA (fun x_21 σ1 μ1 H locs hw_22 hP hD hS => ?_)
      obtain ⟨hu_23, hr_25⟩ := hw_22
      obtain ⟨hu_23a, hu_23b⟩ := Prod.mk.inj hu_23
      rw [hu_23a, hu_23b] at hP hD
      have h_26 : rg x_21 0 1 := by rcases hr_25 with ⟨q, -⟩ | ⟨q, -⟩ <;> rw [q] <;> exact ⟨by decide, by decide⟩
      have uh_26 := h_26.1
      have vh_26 := h_26.2
      refine lv_if_ne (tgt := 22) hx hb dX11_sail_17 (by decide) (fun c_27 => ?_) (fun c_27 => ?_)
      · obtain ⟨f_28, f_29⟩ := (hr_25.resolve_right (fun q => c_27 q.1)).2
        have tc_30 : 0 ≤ (a1).toInt := Int32.le_iff_toInt_le.mp f_28
        have h_31 : rg a1 0 2147483647 := rg_le2 f_28 (rg_k (0 : Int32) 0 rfl) (rg_full _) (by decide)
        have uh_31 := h_31.1
        have vh_31 := h_31.2
        have tc_32 : (a1).toInt ≤ 100000 := Int32.le_iff_toInt_le.mp f_29
        have h_33 : rg a1 0 100000 := rg_le1 f_29 h_31 (rg_k (100000 : Int32) 100000 rfl) (by decide)
        have uh_33 := h_33.1
        have vh_33 := h_33.2
        have tc_34 : (x_21).toInt ≠ 0 := fun q => c_27 (Int32.toInt_inj.mp q)
        have h_35 : rg x_21 1 1 := rg_ne c_27 h_26 0 rfl (by decide)
        have uh_35 := h_35.1
        have vh_35 := h_35.2
        refine lv_aload_n hx hb dX11_sail_22 rfl (lv_at hl 0 rfl) ?_
        obtain ⟨w_36, hR_w_36, hL_w_36, hK_w_36⟩ := sh_o hSH 352 (ci := 11) (kd := 10) rfl hL_this hK_this
        refine pg_f (v := .ref w_36) (C := RX11) (T := TX11) (N := 5) hx hb hts (tw_i inlX11) hown hK hP hL_this hK_this (by decide) rfl 0 (by decide) (hts _ (tw_c tw_16)) (pq_hv rfl hR_w_36) dX11_sail_23 ?_
        refine lv_iload_n hx hb dX11_sail_26 rfl (lv_at hl 1 rfl) ?_
        refine pp_i (v := a0) (ty := .int) (C := RX10) (T := TX10) (N := 13) hx hb hts (tw_i inlX10) tyX10 tyX10_ok nmX10 hown hK hP hD hS hL_w_36 hK_w_36 (by decide) rfl 2 322 (by decide) (hts _ (tw_c tw_1025)) rfl (by decide +kernel) rfl rfl (Nat.le_of_ble_eq_true rfl) (ps_322 _ _ _ _ _) dX11_sail_27 (fun I_37 H locs eI_37 hP hD hS => ?_)
        have hG := GX.wI hG 322 rfl eI_37 (rg_w h_18 (by decide)) (by decide)
        refine lv_aload_n hx hb dX11_sail_30 rfl (lv_at hl 0 rfl) ?_
        refine pg_f (v := .ref w_36) (C := RX11) (T := TX11) (N := 5) hx hb hts (tw_i inlX11) hown hK hP hL_this hK_this (by decide) rfl 0 (by decide) (hts _ (tw_c tw_16)) (pq_hv rfl hR_w_36) dX11_sail_31 ?_
        refine lv_dup hx hb dX11_sail_34 rfl ?_
        refine pg_f (v := .int (I_37 321 w_36)) (C := RX10) (T := TX10) (N := 13) hx hb hts (tw_i inlX10) hown hK hP hL_w_36 hK_w_36 (by decide) rfl 1 (by decide) (hts _ (tw_c tw_1026)) rfl dX11_sail_35 ?_
        refine lv_iload_n hx hb dX11_sail_38 rfl (lv_at hl 2 rfl) ?_
        refine lv_iadd hx hb dX11_sail_39 ?_
        refine lv_topi (fun x_38 ex_38 => ?_)
        refine pp_i (v := x_38) (ty := .int) (C := RX10) (T := TX10) (N := 13) hx hb hts (tw_i inlX10) tyX10 tyX10_ok nmX10 hown hK hP hD hS hL_w_36 hK_w_36 (by decide) rfl 1 321 (by decide) (hts _ (tw_c tw_1026)) rfl (by decide +kernel) rfl rfl (Nat.le_of_ble_eq_true rfl) (ps_321 _ _ _ _ _) dX11_sail_40 (fun I_39 H locs eI_39 hP hD hS => ?_)
        have hG := GX.wI hG 321 rfl eI_39 (rg_w (rg_full _) (by decide)) (by decide)
        refine lv_iconst (v := 1) hx hb dX11_sail_43 (by decide) ?_
        subst hQ
        exact W.zret (v := 1) hx hb hr (by decide) (fun t1 ht hW => ⟨⟨1, (σ, I_39, J, ri, rj, rq), rfl, ⟨I_39, rfl, hG, (Or.inl ⟨rfl, (rg_w h_18 (by decide)), (rg_w h_33 (by decide)), (by omega)⟩)⟩, by rw [ht]; exact hP, va_K.moved hW.alike hK, hD⟩, hS.F ht⟩) hS.2.2 dX11_sail_44
      · have f_40 := (hr_25.resolve_left (fun q => absurd (q.1.symm.trans c_27) (by decide))).2
        have zk_41 : (0 : Int32).toInt = 0 := rfl
        have zk_42 : (100000 : Int32).toInt = 100000 := rfl
        have tc_43 : (x_21).toInt = 0 := congrArg Int32.toInt c_27
        have h_44 : rg x_21 0 0 := rg_and h_26 (rg_of_eq c_27 (rg_k (0 : Int32) 0 rfl)) (by decide)
        have uh_44 := h_44.1
        have vh_44 := h_44.2
        refine lv_iconst (v := 0) hx hb dX11_sail_20 (by decide) ?_
        subst hQ
        exact W.zret (v := 0) hx hb hr (by decide) (fun t1 ht hW => ⟨⟨0, (σ, I, J, ri, rj, rq), rfl, ⟨I, rfl, hG, (Or.inr ⟨rfl, (by omega)⟩)⟩, by rw [ht]; exact hP, va_K.moved hW.alike hK, hD⟩, hS.F ht⟩) hS.2.2 dX11_sail_21
  exact go _ _ _ hP hD hS hl
