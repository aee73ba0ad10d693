set_option maxHeartbeats 4000000 in
set_option maxRecDepth 100000 in
theorem s_X12_w3_d (l : Launch) (D : va_G) (t : pq_T) (σ : pq_S) (I : Nat → Nat → Int32) (J : Nat → Nat → Int64) (ri : Nat → Nat → Int32) (rj : Nat → Nat → Int64) (rq : Nat → Nat → Option Nat) (sz : Nat) (tg : Nat → Nat) (hSH : SH σ tg) (hG0 : GT tg I ri) (a0 : Int32) (a1 : Int32) (a2 : Int32) : MetL l yX12_w3 (wa yX12_w3 cX12_w3 3 (some .long)) ({ frames := 0, cells := 0, slots := 0, locals := 0 }) [.int a0, .int a1, .int a2] D t σ (I, J, ri, rj, rq) sz 0 0 (fun (r : Int64) (u : pq_S × pq_M) => u = (σ, I, J, ri, rj, rq) ∧ (r = w3f a0 a1 a2)) := by
  refine Met.ofW (cc := cX12_w3) (maxL := 3) (ret := (some .long)) (by decide) rfl ?_
  intro p e s m args below meth c s₁ B hml hv
  obtain ⟨rfl, hsz, hP, hK, hD0, hN⟩ := hv
  have hx := B.exec
  have hb := B.bytes
  have hr := B.returns
  have hts := atoms_spec (ws := (wa yX12_w3 cX12_w3 3 (some .long))) B.pre
  have hown : s.vm.findClass RX12 = some m.cls := findClass_of_methodNamed B.named
  have hlocks := B.notSynchronized
  subst hsz
  have hD : va_D (pq_B t σ (I, J, ri, rj, rq) s.heap.size) (pq_P t σ (I, J, ri, rj, rq)) := hD0.self
  generalize hAe : pq_B t σ (I, J, ri, rj, rq) s.heap.size = A at hD ⊢
  have hA : ∀ q : Nat, s.heap.size ≤ q → A q := fun q h => by rw [← hAe]; exact Or.inr h
  have hS : va_S A s.heap s.heap [] := va_S.rf
  have hG : GM [] tg σ I ri I ri rq := ⟨hG0, fun _ _ _ => rfl, fun _ _ _ _ _ => rfl, fun _ _ _ _ _ _ => rfl⟩
  have hl := lv_entry ([.int a0, .int a1, .int a2]) (n := 3) (Nat.le_of_ble_eq_true rfl)
  rw [lg_entry_eq]
  generalize (lg_sl ([.int a0, .int a1, .int a2]) ++ List.replicate (3 - (lg_sl ([.int a0, .int a1, .int a2])).length) Slot.unset).toArray = ls at hl ⊢
  have hl : lv_has ls 3 [(0, .int a0), (1, .int a1), (2, .int a2)] := hl
  refine q_gen (fun Q hQ => ?_)
  have go : ∀ (H : Heap) (locs : List Loc) (ls : Array Slot), va_P D vwCl (pq_P t σ (I, J, ri, rj, rq)) H → va_D A (pq_P t σ (I, J, ri, rj, rq)) → va_S A s.heap H locs → lv_has ls 3 [(0, .int a0), (1, .int a1), (2, .int a2)] → W p l e ({ frames := 0, cells := 0, slots := 0, locals := 0 } : Room) s m (List.toArray ([.int a0, .int a1, .int a2] : List Value)) below meth c H locs 0 0 Q (F0 m 0 ls []) := by
    intro H locs ls hP hD hS hl
    refine lv_iload_n hx hb dX12_w3_0 rfl (lv_at hl 0 rfl) ?_
    refine lv_i2l hx hb dX12_w3_1 rfl ?_
    refine lv_topl (fun x_1 ex_1 => ?_)
    refine lv_bipush (v := 8) hx hb dX12_w3_2 (by decide) ?_
    refine lv_lshl hx hb dX12_w3_4 rfl ?_
    refine lv_topl (fun x_2 ex_2 => ?_)
    refine lv_iload_n hx hb dX12_w3_5 rfl (lv_at hl 1 rfl) ?_
    refine lv_i2l hx hb dX12_w3_6 rfl ?_
    refine lv_topl (fun x_3 ex_3 => ?_)
    refine lv_lor hx hb dX12_w3_7 ?_
    refine lv_topl (fun x_4 ex_4 => ?_)
    refine lv_bipush (v := 8) hx hb dX12_w3_8 (by decide) ?_
    refine lv_lshl hx hb dX12_w3_10 rfl ?_
    refine lv_topl (fun x_5 ex_5 => ?_)
    refine lv_iload_n hx hb dX12_w3_11 rfl (lv_at hl 2 rfl) ?_
    refine lv_i2l hx hb dX12_w3_12 rfl ?_
    refine lv_topl (fun x_6 ex_6 => ?_)
    refine lv_lor hx hb dX12_w3_13 ?_
    refine lv_topl (fun x_7 ex_7 => ?_)
    subst hQ
    exact W.lret (v := x_7) hx hb hr (fun t1 ht hW => ⟨⟨x_7, (σ, I, J, ri, rj, rq), rfl, ⟨rfl, (by subst_vars; rfl)⟩, by rw [ht]; exact hP, va_K.moved hW.alike hK, hD⟩, hS.F ht⟩) hS.2.2 dX12_w3_14
  exact go _ _ _ hP hD hS hl

set_option maxHeartbeats 4000000 in
set_option maxRecDepth 100000 in
theorem s_X12_w4_d (l : Launch) (D : va_G) (t : pq_T) (σ : pq_S) (I : Nat → Nat → Int32) (J : Nat → Nat → Int64) (ri : Nat → Nat → Int32) (rj : Nat → Nat → Int64) (rq : Nat → Nat → Option Nat) (sz : Nat) (tg : Nat → Nat) (hSH : SH σ tg) (hG0 : GT tg I ri) (a0 : Int32) (a1 : Int32) (a2 : Int32) (a3 : Int32) : MetL l yX12_w4 (wa yX12_w4 cX12_w4 4 (some .long)) ({ frames := 1, cells := 0, slots := 0, locals := 22 }) [.int a0, .int a1, .int a2, .int a3] D t σ (I, J, ri, rj, rq) sz 0 0 (fun (r : Int64) (u : pq_S × pq_M) => u = (σ, I, J, ri, rj, rq) ∧ (r = w4f a0 a1 a2 a3)) := by
  refine Met.ofW (cc := cX12_w4) (maxL := 4) (ret := (some .long)) (by decide) rfl ?_
  intro p e s m args below meth c s₁ B hml hv
  obtain ⟨rfl, hsz, hP, hK, hD0, hN⟩ := hv
  have hx := B.exec
  have hb := B.bytes
  have hr := B.returns
  have hts := atoms_spec (ws := (wa yX12_w4 cX12_w4 4 (some .long))) B.pre
  have hown : s.vm.findClass RX12 = some m.cls := findClass_of_methodNamed B.named
  have hlocks := B.notSynchronized
  subst hsz
  have hD : va_D (pq_B t σ (I, J, ri, rj, rq) s.heap.size) (pq_P t σ (I, J, ri, rj, rq)) := hD0.self
  generalize hAe : pq_B t σ (I, J, ri, rj, rq) s.heap.size = A at hD ⊢
  have hA : ∀ q : Nat, s.heap.size ≤ q → A q := fun q h => by rw [← hAe]; exact Or.inr h
  have hS : va_S A s.heap s.heap [] := va_S.rf
  have hG : GM [] tg σ I ri I ri rq := ⟨hG0, fun _ _ _ => rfl, fun _ _ _ _ _ => rfl, fun _ _ _ _ _ _ => rfl⟩
  have hl := lv_entry ([.int a0, .int a1, .int a2, .int a3]) (n := 4) (Nat.le_of_ble_eq_true rfl)
  rw [lg_entry_eq]
  generalize (lg_sl ([.int a0, .int a1, .int a2, .int a3]) ++ List.replicate (4 - (lg_sl ([.int a0, .int a1, .int a2, .int a3])).length) Slot.unset).toArray = ls at hl ⊢
  have hl : lv_has ls 4 [(0, .int a0), (1, .int a1), (2, .int a2), (3, .int a3)] := hl
  refine q_gen (fun Q hQ => ?_)
  have go : ∀ (H : Heap) (locs : List Loc) (ls : Array Slot), va_P D vwCl (pq_P t σ (I, J, ri, rj, rq)) H → va_D A (pq_P t σ (I, J, ri, rj, rq)) → va_S A s.heap H locs → lv_has ls 4 [(0, .int a0), (1, .int a1), (2, .int a2), (3, .int a3)] → W p l e ({ frames := 1, cells := 0, slots := 0, locals := 22 } : Room) s m (List.toArray ([.int a0, .int a1, .int a2, .int a3] : List Value)) below meth c H locs 0 0 Q (F0 m 0 ls []) := by
    intro H locs ls hP hD hS hl
    refine lv_iload_n hx hb dX12_w4_0 rfl (lv_at hl 0 rfl) ?_
    refine lv_iload_n hx hb dX12_w4_1 rfl (lv_at hl 1 rfl) ?_
    refine lv_iload_n hx hb dX12_w4_2 rfl (lv_at hl 2 rfl) ?_
    refine pk_l (va_runS (As := [.int a0, .int a1, .int a2]) (rest := []) ⟨hx, hb, hml, hown, hts⟩ (s_X12_w3_d l D t σ I J ri rj rq H.size tg hSH hG.1 a0 a1 a2) (va_cwS 3 hts (tw_S tw_864 tw_865 tw_5 tw_866) rfl rfl rfl cd_yX12_w3_3 ⟨Nat.le_of_ble_eq_true rfl, Nat.le_of_ble_eq_true rfl⟩) ⟨pq_blind, pq_pre hK hN hP hD⟩ rfl rfl hl.1 rfl (lv_room (Nat.le_of_ble_eq_true rfl)) dX12_w4_3 ⟨Nat.le_of_ble_eq_true rfl, Nat.le_of_ble_eq_true rfl⟩) hD hS hA (fun x_1 σ1 μ1 H locs hw_2 hP hD hS => ?_)
    obtain ⟨hu_3, hp_6⟩ := hw_2
    obtain ⟨hu_3a, hu_3b⟩ := Prod.mk.inj hu_3
    rw [hu_3a, hu_3b] at hP hD
    refine lv_bipush (v := 8) hx hb dX12_w4_6 (by decide) ?_
    refine lv_lshl hx hb dX12_w4_8 rfl ?_
    refine lv_topl (fun x_7 ex_7 => ?_)
    refine lv_iload_n hx hb dX12_w4_9 rfl (lv_at hl 3 rfl) ?_
    refine lv_i2l hx hb dX12_w4_10 rfl ?_
    refine lv_topl (fun x_8 ex_8 => ?_)
    refine lv_lor hx hb dX12_w4_11 ?_
    refine lv_topl (fun x_9 ex_9 => ?_)
    subst hQ
    exact W.lret (v := x_9) hx hb hr (fun t1 ht hW => ⟨⟨x_9, (σ, I, J, ri, rj, rq), rfl, ⟨rfl, (by subst_vars; rfl)⟩, by rw [ht]; exact hP, va_K.moved hW.alike hK, hD⟩, hS.F ht⟩) hS.2.2 dX12_w4_12
  exact go _ _ _ hP hD hS hl

set_option maxHeartbeats 4000000 in
set_option maxRecDepth 100000 in
theorem s_X12_w5_d (l : Launch) (D : va_G) (t : pq_T) (σ : pq_S) (I : Nat → Nat → Int32) (J : Nat → Nat → Int64) (ri : Nat → Nat → Int32) (rj : Nat → Nat → Int64) (rq : Nat → Nat → Option Nat) (sz : Nat) (tg : Nat → Nat) (hSH : SH σ tg) (hG0 : GT tg I ri) (a0 : Int32) (a1 : Int32) (a2 : Int32) (a3 : Int32) (a4 : Int32) : MetL l yX12_w5 (wa yX12_w5 cX12_w5 5 (some .long)) ({ frames := 2, cells := 0, slots := 0, locals := 45 }) [.int a0, .int a1, .int a2, .int a3, .int a4] D t σ (I, J, ri, rj, rq) sz 0 0 (fun (r : Int64) (u : pq_S × pq_M) => u = (σ, I, J, ri, rj, rq) ∧ (r = w5f a0 a1 a2 a3 a4)) := by
  refine Met.ofW (cc := cX12_w5) (maxL := 5) (ret := (some .long)) (by decide) rfl ?_
  intro p e s m args below meth c s₁ B hml hv
  obtain ⟨rfl, hsz, hP, hK, hD0, hN⟩ := hv
  have hx := B.exec
  have hb := B.bytes
  have hr := B.returns
  have hts := atoms_spec (ws := (wa yX12_w5 cX12_w5 5 (some .long))) B.pre
  have hown : s.vm.findClass RX12 = some m.cls := findClass_of_methodNamed B.named
  have hlocks := B.notSynchronized
  subst hsz
  have hD : va_D (pq_B t σ (I, J, ri, rj, rq) s.heap.size) (pq_P t σ (I, J, ri, rj, rq)) := hD0.self
  generalize hAe : pq_B t σ (I, J, ri, rj, rq) s.heap.size = A at hD ⊢
  have hA : ∀ q : Nat, s.heap.size ≤ q → A q := fun q h => by rw [← hAe]; exact Or.inr h
  have hS : va_S A s.heap s.heap [] := va_S.rf
  have hG : GM [] tg σ I ri I ri rq := ⟨hG0, fun _ _ _ => rfl, fun _ _ _ _ _ => rfl, fun _ _ _ _ _ _ => rfl⟩
  have hl := lv_entry ([.int a0, .int a1, .int a2, .int a3, .int a4]) (n := 5) (Nat.le_of_ble_eq_true rfl)
  rw [lg_entry_eq]
  generalize (lg_sl ([.int a0, .int a1, .int a2, .int a3, .int a4]) ++ List.replicate (5 - (lg_sl ([.int a0, .int a1, .int a2, .int a3, .int a4])).length) Slot.unset).toArray = ls at hl ⊢
  have hl : lv_has ls 5 [(0, .int a0), (1, .int a1), (2, .int a2), (3, .int a3), (4, .int a4)] := hl
  refine q_gen (fun Q hQ => ?_)
  have go : ∀ (H : Heap) (locs : List Loc) (ls : Array Slot), va_P D vwCl (pq_P t σ (I, J, ri, rj, rq)) H → va_D A (pq_P t σ (I, J, ri, rj, rq)) → va_S A s.heap H locs → lv_has ls 5 [(0, .int a0), (1, .int a1), (2, .int a2), (3, .int a3), (4, .int a4)] → W p l e ({ frames := 2, cells := 0, slots := 0, locals := 45 } : Room) s m (List.toArray ([.int a0, .int a1, .int a2, .int a3, .int a4] : List Value)) below meth c H locs 0 0 Q (F0 m 0 ls []) := by
    intro H locs ls hP hD hS hl
    refine lv_iload_n hx hb dX12_w5_0 rfl (lv_at hl 0 rfl) ?_
    refine lv_iload_n hx hb dX12_w5_1 rfl (lv_at hl 1 rfl) ?_
    refine lv_iload_n hx hb dX12_w5_2 rfl (lv_at hl 2 rfl) ?_
    refine lv_iload_n hx hb dX12_w5_3 rfl (lv_at hl 3 rfl) ?_
    refine pk_l (va_runS (As := [.int a0, .int a1, .int a2, .int a3]) (rest := []) ⟨hx, hb, hml, hown, hts⟩ (s_X12_w4_d l D t σ I J ri rj rq H.size tg hSH hG.1 a0 a1 a2 a3) (va_cwS 4 hts (tw_S tw_861 tw_862 tw_5 tw_863) rfl rfl rfl cd_yX12_w4_4 ⟨Nat.le_of_ble_eq_true rfl, Nat.le_of_ble_eq_true rfl⟩) ⟨pq_blind, pq_pre hK hN hP hD⟩ rfl rfl hl.1 rfl (lv_room (Nat.le_of_ble_eq_true rfl)) dX12_w5_4 ⟨Nat.le_of_ble_eq_true rfl, Nat.le_of_ble_eq_true rfl⟩) hD hS hA (fun x_1 σ1 μ1 H locs hw_2 hP hD hS => ?_)
    obtain ⟨hu_3, hp_6⟩ := hw_2
    obtain ⟨hu_3a, hu_3b⟩ := Prod.mk.inj hu_3
    rw [hu_3a, hu_3b] at hP hD
    refine lv_bipush (v := 8) hx hb dX12_w5_7 (by decide) ?_
    refine lv_lshl hx hb dX12_w5_9 rfl ?_
    refine lv_topl (fun x_7 ex_7 => ?_)
    refine lv_iload hx hb dX12_w5_10 (lv_at hl 4 rfl) ?_
    refine lv_i2l hx hb dX12_w5_12 rfl ?_
    refine lv_topl (fun x_8 ex_8 => ?_)
    refine lv_lor hx hb dX12_w5_13 ?_
    refine lv_topl (fun x_9 ex_9 => ?_)
    subst hQ
    exact W.lret (v := x_9) hx hb hr (fun t1 ht hW => ⟨⟨x_9, (σ, I, J, ri, rj, rq), rfl, ⟨rfl, (by subst_vars; rfl)⟩, by rw [ht]; exact hP, va_K.moved hW.alike hK, hD⟩, hS.F ht⟩) hS.2.2 dX12_w5_14
  exact go _ _ _ hP hD hS hl

set_option maxHeartbeats 4000000 in
set_option maxRecDepth 100000 in
theorem s_X12_nameOf_d (l : Launch) (D : va_G) (t : pq_T) (σ : pq_S) (I : Nat → Nat → Int32) (J : Nat → Nat → Int64) (ri : Nat → Nat → Int32) (rj : Nat → Nat → Int64) (rq : Nat → Nat → Option Nat) (sz : Nat) (tg : Nat → Nat) (hSH : SH σ tg) (hG0 : GT tg I ri) (this : Nat) (hL_this : this ∈ σ.1) (hK_this : σ.2.1 this = 12) : MetI l yX12_nameOf (wa yX12_nameOf cX12_nameOf 1 (some .int)) ({ frames := 3, cells := 0, slots := 0, locals := 69 }) [.ref this] D t σ (I, J, ri, rj, rq) sz 0 0 (fun (r : Int32) (u : pq_S × pq_M) => u = (σ, I, J, ri, rj, rq) ∧ (NMP r (I 393 this).toInt (J 395 this)) ∧ rg r (-1) 5) := by
  refine Met.ofW (cc := cX12_nameOf) (maxL := 1) (ret := (some .int)) (by decide) rfl ?_
  intro p e s m args below meth c s₁ B hml hv
  obtain ⟨rfl, hsz, hP, hK, hD0, hN⟩ := hv
  have hx := B.exec
  have hb := B.bytes
  have hr := B.returns
  have hts := atoms_spec (ws := (wa yX12_nameOf cX12_nameOf 1 (some .int))) B.pre
  have hown : s.vm.findClass RX12 = some m.cls := findClass_of_methodNamed B.named
  have hlocks := B.notSynchronized
  subst hsz
  have hD : va_D (pq_B t σ (I, J, ri, rj, rq) s.heap.size) (pq_P t σ (I, J, ri, rj, rq)) := hD0.self
  generalize hAe : pq_B t σ (I, J, ri, rj, rq) s.heap.size = A at hD ⊢
  have hA : ∀ q : Nat, s.heap.size ≤ q → A q := fun q h => by rw [← hAe]; exact Or.inr h
  have hS : va_S A s.heap s.heap [] := va_S.rf
  have hG : GM [] tg σ I ri I ri rq := ⟨hG0, fun _ _ _ => rfl, fun _ _ _ _ _ => rfl, fun _ _ _ _ _ _ => rfl⟩
  have hl := lv_entry ([.ref this]) (n := 1) (Nat.le_of_ble_eq_true rfl)
  rw [lg_entry_eq]
  generalize (lg_sl ([.ref this]) ++ List.replicate (1 - (lg_sl ([.ref this])).length) Slot.unset).toArray = ls at hl ⊢
  have hl : lv_has ls 1 [(0, .ref this)] := hl
  refine q_gen (fun Q hQ => ?_)
  have go : ∀ (H : Heap) (locs : List Loc) (ls : Array Slot), va_P D vwCl (pq_P t σ (I, J, ri, rj, rq)) H → va_D A (pq_P t σ (I, J, ri, rj, rq)) → va_S A s.heap H locs → lv_has ls 1 [(0, .ref this)] → W p l e ({ frames := 3, cells := 0, slots := 0, locals := 69 } : Room) s m (List.toArray ([.ref this] : List Value)) below meth c H locs 0 0 Q (F0 m 0 ls []) := by
    intro H locs ls hP hD hS hl
    refine lv_aload_n hx hb dX12_nameOf_0 rfl (lv_at hl 0 rfl) ?_
    refine pg_f (v := .int (I 393 this)) (C := RX12) (T := TX12) (N := 31) hx hb hts (tw_i inlX12) hown hK hP hL_this hK_this (by decide) rfl 9 (by decide) (hts _ (tw_c tw_831)) rfl dX12_nameOf_1 ?_
    refine lv_iconst (v := 2) hx hb dX12_nameOf_4 (by decide) ?_
    refine lv_icmp_eq (tgt := 10) hx hb dX12_nameOf_5 (by decide) (fun c_1 => ?_) (fun c_1 => ?_)
    · have tc_2 : (I 393 this).toInt = 2 := congrArg Int32.toInt c_1
      have h_3 : rg (I 393 this) 2 2 := rg_and (rg_full _) (rg_of_eq c_1 (rg_k (2 : Int32) 2 rfl)) (by decide)
      have uh_3 := h_3.1
      have vh_3 := h_3.2
      refine lv_aload_n hx hb dX12_nameOf_10 rfl (lv_at hl 0 rfl) ?_
      refine pg_f (v := .long (J 395 this)) (C := RX12) (T := TX12) (N := 31) hx hb hts (tw_i inlX12) hown hK hP hL_this hK_this (by decide) rfl 11 (by decide) (hts _ (tw_c tw_838)) rfl dX12_nameOf_11 ?_
      refine lv_bipush (v := 97) hx hb dX12_nameOf_14 (by decide) ?_
      refine lv_bipush (v := 103) hx hb dX12_nameOf_16 (by decide) ?_
      refine lv_bipush (v := 101) hx hb dX12_nameOf_18 (by decide) ?_
      refine pk_l (va_runS (As := [.int 97, .int 103, .int 101]) (rest := [.long (J 395 this)]) ⟨hx, hb, hml, hown, hts⟩ (s_X12_w3_d l D t σ I J ri rj rq H.size tg hSH hG.1 (97 : Int32) (103 : Int32) (101 : Int32)) (va_cwS 3 hts (tw_S tw_864 tw_865 tw_5 tw_866) rfl rfl rfl cd_yX12_w3_3 ⟨Nat.le_of_ble_eq_true rfl, Nat.le_of_ble_eq_true rfl⟩) ⟨pq_blind, pq_pre hK hN hP hD⟩ rfl rfl hl.1 rfl (lv_room (Nat.le_of_ble_eq_true rfl)) dX12_nameOf_20 ⟨Nat.le_of_ble_eq_true rfl, Nat.le_of_ble_eq_true rfl⟩) hD hS hA (fun x_4 σ1 μ1 H locs hw_5 hP hD hS => ?_)
      obtain ⟨hu_6, hp_9⟩ := hw_5
      obtain ⟨hu_6a, hu_6b⟩ := Prod.mk.inj hu_6
      rw [hu_6a, hu_6b] at hP hD
      refine W.lcmp hx hb dX12_nameOf_23 ?_
      refine lv_topi (fun x_10 ex_10 => ?_)
      have hz_11 : x_10 = 0 ↔ J 395 this = w3f 97 103 101 := by rw [ex_10, hp_9]; exact cmp_iff
      refine lv_if_ne (tgt := 29) hx hb dX12_nameOf_24 (by decide) (fun c_12 => ?_) (fun c_12 => ?_)
      · have tc_13 : (x_10).toInt ≠ 0 := fun q => c_12 (Int32.toInt_inj.mp q)
        refine lv_aload_n hx hb dX12_nameOf_29 rfl (lv_at hl 0 rfl) ?_
        refine pg_f (v := .long (J 395 this)) (C := RX12) (T := TX12) (N := 31) hx hb hts (tw_i inlX12) hown hK hP hL_this hK_this (by decide) rfl 11 (by decide) (hts _ (tw_c tw_838)) rfl dX12_nameOf_30 ?_
        refine lv_bipush (v := 107) hx hb dX12_nameOf_33 (by decide) ?_
        refine lv_bipush (v := 105) hx hb dX12_nameOf_35 (by decide) ?_
        refine lv_bipush (v := 110) hx hb dX12_nameOf_37 (by decide) ?_
        refine pk_l (va_runS (As := [.int 107, .int 105, .int 110]) (rest := [.long (J 395 this)]) ⟨hx, hb, hml, hown, hts⟩ (s_X12_w3_d l D t σ I J ri rj rq H.size tg hSH hG.1 (107 : Int32) (105 : Int32) (110 : Int32)) (va_cwS 3 hts (tw_S tw_864 tw_865 tw_5 tw_866) rfl rfl rfl cd_yX12_w3_3 ⟨Nat.le_of_ble_eq_true rfl, Nat.le_of_ble_eq_true rfl⟩) ⟨pq_blind, pq_pre hK hN hP hD⟩ rfl rfl hl.1 rfl (lv_room (Nat.le_of_ble_eq_true rfl)) dX12_nameOf_39 ⟨Nat.le_of_ble_eq_true rfl, Nat.le_of_ble_eq_true rfl⟩) hD hS hA (fun x_14 σ1 μ1 H locs hw_15 hP hD hS => ?_)
        obtain ⟨hu_16, hp_19⟩ := hw_15
        obtain ⟨hu_16a, hu_16b⟩ := Prod.mk.inj hu_16
        rw [hu_16a, hu_16b] at hP hD
        refine W.lcmp hx hb dX12_nameOf_42 ?_
        refine lv_topi (fun x_20 ex_20 => ?_)
        have hz_21 : x_20 = 0 ↔ J 395 this = w3f 107 105 110 := by rw [ex_20, hp_19]; exact cmp_iff
        refine lv_if_ne (tgt := 48) hx hb dX12_nameOf_43 (by decide) (fun c_22 => ?_) (fun c_22 => ?_)
        · have tc_23 : (x_20).toInt ≠ 0 := fun q => c_22 (Int32.toInt_inj.mp q)
          refine lv_aload_n hx hb dX12_nameOf_48 rfl (lv_at hl 0 rfl) ?_
          refine pg_f (v := .long (J 395 this)) (C := RX12) (T := TX12) (N := 31) hx hb hts (tw_i inlX12) hown hK hP hL_this hK_this (by decide) rfl 11 (by decide) (hts _ (tw_c tw_838)) rfl dX12_nameOf_49 ?_
          refine lv_bipush (v := 99) hx hb dX12_nameOf_52 (by decide) ?_
          refine lv_bipush (v := 114) hx hb dX12_nameOf_54 (by decide) ?_
          refine lv_bipush (v := 97) hx hb dX12_nameOf_56 (by decide) ?_
          refine lv_bipush (v := 102) hx hb dX12_nameOf_58 (by decide) ?_
          refine lv_bipush (v := 116) hx hb dX12_nameOf_60 (by decide) ?_
          refine pk_l (va_runS (As := [.int 99, .int 114, .int 97, .int 102, .int 116]) (rest := [.long (J 395 this)]) ⟨hx, hb, hml, hown, hts⟩ (s_X12_w5_d l D t σ I J ri rj rq H.size tg hSH hG.1 (99 : Int32) (114 : Int32) (97 : Int32) (102 : Int32) (116 : Int32)) (va_cwS 5 hts (tw_S tw_858 tw_859 tw_5 tw_860) rfl rfl rfl cd_yX12_w5_5 ⟨Nat.le_of_ble_eq_true rfl, Nat.le_of_ble_eq_true rfl⟩) ⟨pq_blind, pq_pre hK hN hP hD⟩ rfl rfl hl.1 rfl (lv_room (Nat.le_of_ble_eq_true rfl)) dX12_nameOf_62 ⟨Nat.le_of_ble_eq_true rfl, Nat.le_of_ble_eq_true rfl⟩) hD hS hA (fun x_24 σ1 μ1 H locs hw_25 hP hD hS => ?_)
          obtain ⟨hu_26, hp_29⟩ := hw_25
          obtain ⟨hu_26a, hu_26b⟩ := Prod.mk.inj hu_26
          rw [hu_26a, hu_26b] at hP hD
          refine W.lcmp hx hb dX12_nameOf_65 ?_
          refine lv_topi (fun x_30 ex_30 => ?_)
          have hz_31 : x_30 = 0 ↔ J 395 this = w5f 99 114 97 102 116 := by rw [ex_30, hp_29]; exact cmp_iff
          refine lv_if_ne (tgt := 71) hx hb dX12_nameOf_66 (by decide) (fun c_32 => ?_) (fun c_32 => ?_)
          · have tc_33 : (x_30).toInt ≠ 0 := fun q => c_32 (Int32.toInt_inj.mp q)
            refine lv_aload_n hx hb dX12_nameOf_71 rfl (lv_at hl 0 rfl) ?_
            refine pg_f (v := .long (J 395 this)) (C := RX12) (T := TX12) (N := 31) hx hb hts (tw_i inlX12) hown hK hP hL_this hK_this (by decide) rfl 11 (by decide) (hts _ (tw_c tw_838)) rfl dX12_nameOf_72 ?_
            refine lv_bipush (v := 112) hx hb dX12_nameOf_75 (by decide) ?_
            refine lv_bipush (v := 108) hx hb dX12_nameOf_77 (by decide) ?_
            refine lv_bipush (v := 97) hx hb dX12_nameOf_79 (by decide) ?_
            refine lv_bipush (v := 99) hx hb dX12_nameOf_81 (by decide) ?_
            refine lv_bipush (v := 101) hx hb dX12_nameOf_83 (by decide) ?_
            refine pk_l (va_runS (As := [.int 112, .int 108, .int 97, .int 99, .int 101]) (rest := [.long (J 395 this)]) ⟨hx, hb, hml, hown, hts⟩ (s_X12_w5_d l D t σ I J ri rj rq H.size tg hSH hG.1 (112 : Int32) (108 : Int32) (97 : Int32) (99 : Int32) (101 : Int32)) (va_cwS 5 hts (tw_S tw_858 tw_859 tw_5 tw_860) rfl rfl rfl cd_yX12_w5_5 ⟨Nat.le_of_ble_eq_true rfl, Nat.le_of_ble_eq_true rfl⟩) ⟨pq_blind, pq_pre hK hN hP hD⟩ rfl rfl hl.1 rfl (lv_room (Nat.le_of_ble_eq_true rfl)) dX12_nameOf_85 ⟨Nat.le_of_ble_eq_true rfl, Nat.le_of_ble_eq_true rfl⟩) hD hS hA (fun x_34 σ1 μ1 H locs hw_35 hP hD hS => ?_)
            obtain ⟨hu_36, hp_39⟩ := hw_35
            obtain ⟨hu_36a, hu_36b⟩ := Prod.mk.inj hu_36
            rw [hu_36a, hu_36b] at hP hD
            refine W.lcmp hx hb dX12_nameOf_88 ?_
            refine lv_topi (fun x_40 ex_40 => ?_)
            have hz_41 : x_40 = 0 ↔ J 395 this = w5f 112 108 97 99 101 := by rw [ex_40, hp_39]; exact cmp_iff
            refine lv_if_ne (tgt := 94) hx hb dX12_nameOf_89 (by decide) (fun c_42 => ?_) (fun c_42 => ?_)
            · have tc_43 : (x_40).toInt ≠ 0 := fun q => c_42 (Int32.toInt_inj.mp q)
              refine lv_aload_n hx hb dX12_nameOf_94 rfl (lv_at hl 0 rfl) ?_
              refine pg_f (v := .long (J 395 this)) (C := RX12) (T := TX12) (N := 31) hx hb hts (tw_i inlX12) hown hK hP hL_this hK_this (by decide) rfl 11 (by decide) (hts _ (tw_c tw_838)) rfl dX12_nameOf_95 ?_
              refine lv_bipush (v := 109) hx hb dX12_nameOf_98 (by decide) ?_
              refine lv_bipush (v := 111) hx hb dX12_nameOf_100 (by decide) ?_
              refine lv_bipush (v := 110) hx hb dX12_nameOf_102 (by decide) ?_
              refine lv_bipush (v := 116) hx hb dX12_nameOf_104 (by decide) ?_
              refine lv_bipush (v := 104) hx hb dX12_nameOf_106 (by decide) ?_
              refine pk_l (va_runS (As := [.int 109, .int 111, .int 110, .int 116, .int 104]) (rest := [.long (J 395 this)]) ⟨hx, hb, hml, hown, hts⟩ (s_X12_w5_d l D t σ I J ri rj rq H.size tg hSH hG.1 (109 : Int32) (111 : Int32) (110 : Int32) (116 : Int32) (104 : Int32)) (va_cwS 5 hts (tw_S tw_858 tw_859 tw_5 tw_860) rfl rfl rfl cd_yX12_w5_5 ⟨Nat.le_of_ble_eq_true rfl, Nat.le_of_ble_eq_true rfl⟩) ⟨pq_blind, pq_pre hK hN hP hD⟩ rfl rfl hl.1 rfl (lv_room (Nat.le_of_ble_eq_true rfl)) dX12_nameOf_108 ⟨Nat.le_of_ble_eq_true rfl, Nat.le_of_ble_eq_true rfl⟩) hD hS hA (fun x_44 σ1 μ1 H locs hw_45 hP hD hS => ?_)
              obtain ⟨hu_46, hp_49⟩ := hw_45
              obtain ⟨hu_46a, hu_46b⟩ := Prod.mk.inj hu_46
              rw [hu_46a, hu_46b] at hP hD
              refine W.lcmp hx hb dX12_nameOf_111 ?_
              refine lv_topi (fun x_50 ex_50 => ?_)
              have hz_51 : x_50 = 0 ↔ J 395 this = w5f 109 111 110 116 104 := by rw [ex_50, hp_49]; exact cmp_iff
              refine lv_if_ne (tgt := 119) hx hb dX12_nameOf_112 (by decide) (fun c_52 => ?_) (fun c_52 => ?_)
              · have tc_53 : (x_50).toInt ≠ 0 := fun q => c_52 (Int32.toInt_inj.mp q)
                refine lv_aload_n hx hb dX12_nameOf_119 rfl (lv_at hl 0 rfl) ?_
                refine pg_f (v := .long (J 395 this)) (C := RX12) (T := TX12) (N := 31) hx hb hts (tw_i inlX12) hown hK hP hL_this hK_this (by decide) rfl 11 (by decide) (hts _ (tw_c tw_838)) rfl dX12_nameOf_120 ?_
                refine lv_bipush (v := 117) hx hb dX12_nameOf_123 (by decide) ?_
                refine lv_bipush (v := 110) hx hb dX12_nameOf_125 (by decide) ?_
                refine lv_bipush (v := 100) hx hb dX12_nameOf_127 (by decide) ?_
                refine lv_bipush (v := 101) hx hb dX12_nameOf_129 (by decide) ?_
                refine lv_bipush (v := 114) hx hb dX12_nameOf_131 (by decide) ?_
                refine pk_l (va_runS (As := [.int 117, .int 110, .int 100, .int 101, .int 114]) (rest := [.long (J 395 this)]) ⟨hx, hb, hml, hown, hts⟩ (s_X12_w5_d l D t σ I J ri rj rq H.size tg hSH hG.1 (117 : Int32) (110 : Int32) (100 : Int32) (101 : Int32) (114 : Int32)) (va_cwS 5 hts (tw_S tw_858 tw_859 tw_5 tw_860) rfl rfl rfl cd_yX12_w5_5 ⟨Nat.le_of_ble_eq_true rfl, Nat.le_of_ble_eq_true rfl⟩) ⟨pq_blind, pq_pre hK hN hP hD⟩ rfl rfl hl.1 rfl (lv_room (Nat.le_of_ble_eq_true rfl)) dX12_nameOf_133 ⟨Nat.le_of_ble_eq_true rfl, Nat.le_of_ble_eq_true rfl⟩) hD hS hA (fun x_54 σ1 μ1 H locs hw_55 hP hD hS => ?_)
                obtain ⟨hu_56, hp_59⟩ := hw_55
                obtain ⟨hu_56a, hu_56b⟩ := Prod.mk.inj hu_56
                rw [hu_56a, hu_56b] at hP hD
                refine W.lcmp hx hb dX12_nameOf_136 ?_
                refine lv_topi (fun x_60 ex_60 => ?_)
                have hz_61 : x_60 = 0 ↔ J 395 this = w5f 117 110 100 101 114 := by rw [ex_60, hp_59]; exact cmp_iff
                refine lv_if_ne (tgt := 144) hx hb dX12_nameOf_137 (by decide) (fun c_62 => ?_) (fun c_62 => ?_)
                · have tc_63 : (x_60).toInt ≠ 0 := fun q => c_62 (Int32.toInt_inj.mp q)
                  refine lv_iconst (v := (-1)) hx hb dX12_nameOf_144 (by decide) ?_
                  subst hQ
                  exact W.iret (v := (-1)) hx hb hr (fun t1 ht hW => ⟨⟨(-1), (σ, I, J, ri, rj, rq), rfl, ⟨rfl, ⟨fun q => absurd q (by decide), fun _ _ => (fun q => q.elim (fun q => absurd (hz_11.mpr q) (by assumption)) (fun q => q.elim (fun q => absurd (hz_21.mpr q) (by assumption)) (fun q => q.elim (fun q => absurd (hz_31.mpr q) (by assumption)) (fun q => q.elim (fun q => absurd (hz_41.mpr q) (by assumption)) (fun q => q.elim (fun q => absurd (hz_51.mpr q) (by assumption)) (fun q => absurd (hz_61.mpr q) (by assumption)))))))⟩, (rg_w (rg_k (-1 : Int32) (-1) rfl) (by decide))⟩, by rw [ht]; exact hP, va_K.moved hW.alike hK, hD⟩, hS.F ht⟩) hS.2.2 dX12_nameOf_145
                · have tc_64 : (x_60).toInt = 0 := congrArg Int32.toInt c_62
                  have h_65 : rg x_60 0 0 := rg_and (rg_full _) (rg_of_eq c_62 (rg_k (0 : Int32) 0 rfl)) (by decide)
                  have uh_65 := h_65.1
                  have vh_65 := h_65.2
                  refine lv_iconst (v := 5) hx hb dX12_nameOf_140 (by decide) ?_
                  refine lv_goto (tgt := 145) hx hb dX12_nameOf_141 (by decide) ?_
                  subst hQ
                  exact W.iret (v := 5) hx hb hr (fun t1 ht hW => ⟨⟨5, (σ, I, J, ri, rj, rq), rfl, ⟨rfl, ⟨fun _ => ⟨by omega, (Or.inr (Or.inr (Or.inr (Or.inr (Or.inr (hz_61.mp (by assumption)))))))⟩, fun q => absurd q (by decide)⟩, (rg_w (rg_k (5 : Int32) 5 rfl) (by decide))⟩, by rw [ht]; exact hP, va_K.moved hW.alike hK, hD⟩, hS.F ht⟩) hS.2.2 dX12_nameOf_145
              · have tc_66 : (x_50).toInt = 0 := congrArg Int32.toInt c_52
                have h_67 : rg x_50 0 0 := rg_and (rg_full _) (rg_of_eq c_52 (rg_k (0 : Int32) 0 rfl)) (by decide)
                have uh_67 := h_67.1
                have vh_67 := h_67.2
                refine lv_iconst (v := 4) hx hb dX12_nameOf_115 (by decide) ?_
                refine lv_goto (tgt := 145) hx hb dX12_nameOf_116 (by decide) ?_
                subst hQ
                exact W.iret (v := 4) hx hb hr (fun t1 ht hW => ⟨⟨4, (σ, I, J, ri, rj, rq), rfl, ⟨rfl, ⟨fun _ => ⟨by omega, (Or.inr (Or.inr (Or.inr (Or.inr (Or.inl (hz_51.mp (by assumption)))))))⟩, fun q => absurd q (by decide)⟩, (rg_w (rg_k (4 : Int32) 4 rfl) (by decide))⟩, by rw [ht]; exact hP, va_K.moved hW.alike hK, hD⟩, hS.F ht⟩) hS.2.2 dX12_nameOf_145
            · have tc_68 : (x_40).toInt = 0 := congrArg Int32.toInt c_42
              have h_69 : rg x_40 0 0 := rg_and (rg_full _) (rg_of_eq c_42 (rg_k (0 : Int32) 0 rfl)) (by decide)
              have uh_69 := h_69.1
              have vh_69 := h_69.2
              refine lv_iconst (v := 3) hx hb dX12_nameOf_92 (by decide) ?_
              subst hQ
              exact W.iret (v := 3) hx hb hr (fun t1 ht hW => ⟨⟨3, (σ, I, J, ri, rj, rq), rfl, ⟨rfl, ⟨fun _ => ⟨by omega, (Or.inr (Or.inr (Or.inr (Or.inl (hz_41.mp (by assumption))))))⟩, fun q => absurd q (by decide)⟩, (rg_w (rg_k (3 : Int32) 3 rfl) (by decide))⟩, by rw [ht]; exact hP, va_K.moved hW.alike hK, hD⟩, hS.F ht⟩) hS.2.2 dX12_nameOf_93
          · have tc_70 : (x_30).toInt = 0 := congrArg Int32.toInt c_32
            have h_71 : rg x_30 0 0 := rg_and (rg_full _) (rg_of_eq c_32 (rg_k (0 : Int32) 0 rfl)) (by decide)
            have uh_71 := h_71.1
            have vh_71 := h_71.2
            refine lv_iconst (v := 2) hx hb dX12_nameOf_69 (by decide) ?_
            subst hQ
            exact W.iret (v := 2) hx hb hr (fun t1 ht hW => ⟨⟨2, (σ, I, J, ri, rj, rq), rfl, ⟨rfl, ⟨fun _ => ⟨by omega, (Or.inr (Or.inr (Or.inl (hz_31.mp (by assumption)))))⟩, fun q => absurd q (by decide)⟩, (rg_w (rg_k (2 : Int32) 2 rfl) (by decide))⟩, by rw [ht]; exact hP, va_K.moved hW.alike hK, hD⟩, hS.F ht⟩) hS.2.2 dX12_nameOf_70
        · have tc_72 : (x_20).toInt = 0 := congrArg Int32.toInt c_22
          have h_73 : rg x_20 0 0 := rg_and (rg_full _) (rg_of_eq c_22 (rg_k (0 : Int32) 0 rfl)) (by decide)
          have uh_73 := h_73.1
          have vh_73 := h_73.2
          refine lv_iconst (v := 1) hx hb dX12_nameOf_46 (by decide) ?_
          subst hQ
          exact W.iret (v := 1) hx hb hr (fun t1 ht hW => ⟨⟨1, (σ, I, J, ri, rj, rq), rfl, ⟨rfl, ⟨fun _ => ⟨by omega, (Or.inr (Or.inl (hz_21.mp (by assumption))))⟩, fun q => absurd q (by decide)⟩, (rg_w (rg_k (1 : Int32) 1 rfl) (by decide))⟩, by rw [ht]; exact hP, va_K.moved hW.alike hK, hD⟩, hS.F ht⟩) hS.2.2 dX12_nameOf_47
      · have tc_74 : (x_10).toInt = 0 := congrArg Int32.toInt c_12
        have h_75 : rg x_10 0 0 := rg_and (rg_full _) (rg_of_eq c_12 (rg_k (0 : Int32) 0 rfl)) (by decide)
        have uh_75 := h_75.1
        have vh_75 := h_75.2
        refine lv_iconst (v := 0) hx hb dX12_nameOf_27 (by decide) ?_
        subst hQ
        exact W.iret (v := 0) hx hb hr (fun t1 ht hW => ⟨⟨0, (σ, I, J, ri, rj, rq), rfl, ⟨rfl, ⟨fun _ => ⟨by omega, (Or.inl (hz_11.mp (by assumption)))⟩, fun q => absurd q (by decide)⟩, (rg_w (rg_k (0 : Int32) 0 rfl) (by decide))⟩, by rw [ht]; exact hP, va_K.moved hW.alike hK, hD⟩, hS.F ht⟩) hS.2.2 dX12_nameOf_28
    · have tc_76 : (I 393 this).toInt ≠ 2 := fun q => c_1 (Int32.toInt_inj.mp q)
      refine lv_iconst (v := (-1)) hx hb dX12_nameOf_8 (by decide) ?_
      subst hQ
      exact W.iret (v := (-1)) hx hb hr (fun t1 ht hW => ⟨⟨(-1), (σ, I, J, ri, rj, rq), rfl, ⟨rfl, ⟨fun q => absurd q (by decide), fun _ q => absurd q (by omega)⟩, (rg_w (rg_k (-1 : Int32) (-1) rfl) (by decide))⟩, by rw [ht]; exact hP, va_K.moved hW.alike hK, hD⟩, hS.F ht⟩) hS.2.2 dX12_nameOf_9
  exact go _ _ _ hP hD hS hl
