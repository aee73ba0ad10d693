set_option maxRecDepth 100000 in
def g_X12_w3_d (a0 : Int32) (a1 : Int32) (a2 : Int32) : Int64 := (ap1 (a0.toInt64) fun (x_1 : Int64) => (ap1 (x_1 <<< ((8 : Int32).toInt64 &&& 63)) fun (x_2 : Int64) => (ap1 (a1.toInt64) fun (x_3 : Int64) => (ap1 (x_2 ||| x_3) fun (x_4 : Int64) => (ap1 (x_4 <<< ((8 : Int32).toInt64 &&& 63)) fun (x_5 : Int64) => (ap1 (a2.toInt64) fun (x_6 : Int64) => (ap1 (x_5 ||| x_6) fun (x_7 : Int64) => x_7)))))))
set_option maxRecDepth 100000 in
theorem g_X12_w3_d_e {a0 : Int32} {a1 : Int32} {a2 : Int32} : g_X12_w3_d a0 a1 a2 = (ap1 (a0.toInt64) fun (x_1 : Int64) => (ap1 (x_1 <<< ((8 : Int32).toInt64 &&& 63)) fun (x_2 : Int64) => (ap1 (a1.toInt64) fun (x_3 : Int64) => (ap1 (x_2 ||| x_3) fun (x_4 : Int64) => (ap1 (x_4 <<< ((8 : Int32).toInt64 &&& 63)) fun (x_5 : Int64) => (ap1 (a2.toInt64) fun (x_6 : Int64) => (ap1 (x_5 ||| x_6) fun (x_7 : Int64) => x_7))))))) := rfl
set_option maxHeartbeats 4000000 in
set_option maxRecDepth 100000 in
theorem s_X12_w3_d (l : Launch) (D : va_G) (t : pq_T) (σ : pq_S) (I : Nat → Nat → Int32) (J : Nat → Nat → Int64) (ri : Nat → Nat → Int32) (rj : Nat → Nat → Int64) (rq : Nat → Nat → Option Nat) (sz : Nat) (tg : Nat → Nat) (hSH : SH σ tg) (hG0 : GT tg I ri) (a0 : Int32) (a1 : Int32) (a2 : Int32) : MetL l yX12_w3 (wa yX12_w3 cX12_w3 3 (some .long)) ({ frames := 0, cells := 0, slots := 0, locals := 0 }) [.int a0, .int a1, .int a2] D t σ (I, J, ri, rj, rq) sz 0 0 (fun (r : Int64) (u : pq_S × pq_M) => u = (σ, I, J, ri, rj, rq) ∧ (r = w3f a0 a1 a2) ∧ g_X12_w3_d a0 a1 a2 = r) := by
  refine Met.ofW (cc := cX12_w3) (maxL := 3) (ret := (some .long)) (by decide) rfl ?_
  intro p e s m args below meth c s₁ B hml hv
  obtain ⟨rfl, hsz, hP, hK, hD0, hN⟩ := hv
  have hx := B.exec
  have hb := B.bytes
  have hr := B.returns
  have hts := atoms_spec (ws := (wa yX12_w3 cX12_w3 3 (some .long))) B.pre
  have hown : s.vm.findClass RX12 = some m.cls := findClass_of_methodNamed B.named
  have hlocks := B.notSynchronized
  subst hsz
  have hD : va_D (pq_B t σ (I, J, ri, rj, rq) s.heap.size) (pq_P t σ (I, J, ri, rj, rq)) := hD0.self
  generalize hAe : pq_B t σ (I, J, ri, rj, rq) s.heap.size = A at hD ⊢
  have hA : ∀ q : Nat, s.heap.size ≤ q → A q := fun q h => by rw [← hAe]; exact Or.inr h
  have hS : va_S A s.heap s.heap [] := va_S.rf
  have hG : GM [] tg σ I ri I ri rq := ⟨hG0, fun _ _ _ => rfl, fun _ _ _ _ _ => rfl, fun _ _ _ _ _ _ => rfl⟩
  have hl := lv_entry ([.int a0, .int a1, .int a2]) (n := 3) (Nat.le_of_ble_eq_true rfl)
  rw [lg_entry_eq]
  generalize (lg_sl ([.int a0, .int a1, .int a2]) ++ List.replicate (3 - (lg_sl ([.int a0, .int a1, .int a2])).length) Slot.unset).toArray = ls at hl ⊢
  have hl : lv_has ls 3 [(0, .int a0), (1, .int a1), (2, .int a2)] := hl
  refine q_gen (fun Q hQ => ?_)
  have go : ∀ (H : Heap) (locs : List Loc) (ls : Array Slot), va_P D vwCl (pq_P t σ (I, J, ri, rj, rq)) H → va_D A (pq_P t σ (I, J, ri, rj, rq)) → va_S A s.heap H locs → lv_has ls 3 [(0, .int a0), (1, .int a1), (2, .int a2)] → W p l e ({ frames := 0, cells := 0, slots := 0, locals := 0 } : Room) s m (List.toArray ([.int a0, .int a1, .int a2] : List Value)) below meth c H locs 0 0 Q (F0 m 0 ls []) := by
    intro H locs ls hP hD hS hl
    obtain ⟨F, hF0⟩ : ∃ F, F = g_X12_w3_d a0 a1 a2 := ⟨_, rfl⟩
    have hF := hF0.trans g_X12_w3_d_e
    refine lv_iload_n hx hb dX12_w3_0 rfl (lv_at hl 0 rfl) ?_
    refine lv_i2l hx hb dX12_w3_1 rfl ?_
    refine lv_topl (fun x_1 ex_1 => ?_)
    replace hF := hF.trans (ap_n ex_1)
    refine lv_bipush (v := 8) hx hb dX12_w3_2 (by decide) ?_
    refine lv_lshl hx hb dX12_w3_4 rfl ?_
    refine lv_topl (fun x_2 ex_2 => ?_)
    replace hF := hF.trans (ap_n ex_2)
    refine lv_iload_n hx hb dX12_w3_5 rfl (lv_at hl 1 rfl) ?_
    refine lv_i2l hx hb dX12_w3_6 rfl ?_
    refine lv_topl (fun x_3 ex_3 => ?_)
    replace hF := hF.trans (ap_n ex_3)
    refine lv_lor hx hb dX12_w3_7 ?_
    refine lv_topl (fun x_4 ex_4 => ?_)
    replace hF := hF.trans (ap_n ex_4)
    refine lv_bipush (v := 8) hx hb dX12_w3_8 (by decide) ?_
    refine lv_lshl hx hb dX12_w3_10 rfl ?_
    refine lv_topl (fun x_5 ex_5 => ?_)
    replace hF := hF.trans (ap_n ex_5)
    refine lv_iload_n hx hb dX12_w3_11 rfl (lv_at hl 2 rfl) ?_
    refine lv_i2l hx hb dX12_w3_12 rfl ?_
    refine lv_topl (fun x_6 ex_6 => ?_)
    replace hF := hF.trans (ap_n ex_6)
    refine lv_lor hx hb dX12_w3_13 ?_
    refine lv_topl (fun x_7 ex_7 => ?_)
    replace hF := hF.trans (ap_n ex_7)
    subst hQ
    exact W.lret (v := x_7) hx hb hr (fun t1 ht hW => ⟨⟨x_7, (σ, I, J, ri, rj, rq), rfl, ⟨rfl, (by subst_vars; rfl), (hF0.symm.trans hF)⟩, by rw [ht]; exact hP, va_K.moved hW.alike hK, hD⟩, hS.F ht⟩) hS.2.2 dX12_w3_14
  exact go _ _ _ hP hD hS hl

set_option maxRecDepth 100000 in
def g_X12_w4_d (a0 : Int32) (a1 : Int32) (a2 : Int32) (a3 : Int32) : Int64 := (ap1 (g_X12_w3_d a0 a1 a2) fun (x_1 : Int64) => (ap1 (x_1 <<< ((8 : Int32).toInt64 &&& 63)) fun (x_9 : Int64) => (ap1 (a3.toInt64) fun (x_10 : Int64) => (ap1 (x_9 ||| x_10) fun (x_11 : Int64) => x_11))))
set_option maxRecDepth 100000 in
theorem g_X12_w4_d_e {a0 : Int32} {a1 : Int32} {a2 : Int32} {a3 : Int32} : g_X12_w4_d a0 a1 a2 a3 = (ap1 (g_X12_w3_d a0 a1 a2) fun (x_1 : Int64) => (ap1 (x_1 <<< ((8 : Int32).toInt64 &&& 63)) fun (x_9 : Int64) => (ap1 (a3.toInt64) fun (x_10 : Int64) => (ap1 (x_9 ||| x_10) fun (x_11 : Int64) => x_11)))) := rfl
set_option maxHeartbeats 4000000 in
set_option maxRecDepth 100000 in
theorem s_X12_w4_d (l : Launch) (D : va_G) (t : pq_T) (σ : pq_S) (I : Nat → Nat → Int32) (J : Nat → Nat → Int64) (ri : Nat → Nat → Int32) (rj : Nat → Nat → Int64) (rq : Nat → Nat → Option Nat) (sz : Nat) (tg : Nat → Nat) (hSH : SH σ tg) (hG0 : GT tg I ri) (a0 : Int32) (a1 : Int32) (a2 : Int32) (a3 : Int32) : MetL l yX12_w4 (wa yX12_w4 cX12_w4 4 (some .long)) ({ frames := 1, cells := 0, slots := 0, locals := 22 }) [.int a0, .int a1, .int a2, .int a3] D t σ (I, J, ri, rj, rq) sz 0 0 (fun (r : Int64) (u : pq_S × pq_M) => u = (σ, I, J, ri, rj, rq) ∧ (r = w4f a0 a1 a2 a3) ∧ g_X12_w4_d a0 a1 a2 a3 = r) := by
  refine Met.ofW (cc := cX12_w4) (maxL := 4) (ret := (some .long)) (by decide) rfl ?_
  intro p e s m args below meth c s₁ B hml hv
  obtain ⟨rfl, hsz, hP, hK, hD0, hN⟩ := hv
  have hx := B.exec
  have hb := B.bytes
  have hr := B.returns
  have hts := atoms_spec (ws := (wa yX12_w4 cX12_w4 4 (some .long))) B.pre
  have hown : s.vm.findClass RX12 = some m.cls := findClass_of_methodNamed B.named
  have hlocks := B.notSynchronized
  subst hsz
  have hD : va_D (pq_B t σ (I, J, ri, rj, rq) s.heap.size) (pq_P t σ (I, J, ri, rj, rq)) := hD0.self
  generalize hAe : pq_B t σ (I, J, ri, rj, rq) s.heap.size = A at hD ⊢
  have hA : ∀ q : Nat, s.heap.size ≤ q → A q := fun q h => by rw [← hAe]; exact Or.inr h
  have hS : va_S A s.heap s.heap [] := va_S.rf
  have hG : GM [] tg σ I ri I ri rq := ⟨hG0, fun _ _ _ => rfl, fun _ _ _ _ _ => rfl, fun _ _ _ _ _ _ => rfl⟩
  have hl := lv_entry ([.int a0, .int a1, .int a2, .int a3]) (n := 4) (Nat.le_of_ble_eq_true rfl)
  rw [lg_entry_eq]
  generalize (lg_sl ([.int a0, .int a1, .int a2, .int a3]) ++ List.replicate (4 - (lg_sl ([.int a0, .int a1, .int a2, .int a3])).length) Slot.unset).toArray = ls at hl ⊢
  have hl : lv_has ls 4 [(0, .int a0), (1, .int a1), (2, .int a2), (3, .int a3)] := hl
  refine q_gen (fun Q hQ => ?_)
  have go : ∀ (H : Heap) (locs : List Loc) (ls : Array Slot), va_P D vwCl (pq_P t σ (I, J, ri, rj, rq)) H → va_D A (pq_P t σ (I, J, ri, rj, rq)) → va_S A s.heap H locs → lv_has ls 4 [(0, .int a0), (1, .int a1), (2, .int a2), (3, .int a3)] → W p l e ({ frames := 1, cells := 0, slots := 0, locals := 22 } : Room) s m (List.toArray ([.int a0, .int a1, .int a2, .int a3] : List Value)) below meth c H locs 0 0 Q (F0 m 0 ls []) := by
    intro H locs ls hP hD hS hl
    obtain ⟨F, hF0⟩ : ∃ F, F = g_X12_w4_d a0 a1 a2 a3 := ⟨_, rfl⟩
    have hF := hF0.trans g_X12_w4_d_e
    refine lv_iload_n hx hb dX12_w4_0 rfl (lv_at hl 0 rfl) ?_
    refine lv_iload_n hx hb dX12_w4_1 rfl (lv_at hl 1 rfl) ?_
    refine lv_iload_n hx hb dX12_w4_2 rfl (lv_at hl 2 rfl) ?_
    refine pk_l (va_runS (As := [.int a0, .int a1, .int a2]) (rest := []) ⟨hx, hb, hml, hown, hts⟩ (s_X12_w3_d l D t σ I J ri rj rq H.size tg hSH hG.1 a0 a1 a2) (va_cwS 3 hts (tw_S tw_864 tw_865 tw_5 tw_866) rfl rfl rfl cd_yX12_w3_3 ⟨Nat.le_of_ble_eq_true rfl, Nat.le_of_ble_eq_true rfl⟩) ⟨pq_blind, pq_pre hK hN hP hD⟩ rfl rfl hl.1 rfl (lv_room (Nat.le_of_ble_eq_true rfl)) dX12_w4_3 ⟨Nat.le_of_ble_eq_true rfl, Nat.le_of_ble_eq_true rfl⟩) hD hS hA (fun x_1 σ1 μ1 H locs hw_2 hP hD hS => ?_)
    obtain ⟨hu_3, hp_6, hfn_7⟩ := hw_2
    obtain ⟨hu_3a, hu_3b⟩ := Prod.mk.inj hu_3
    rw [hu_3a, hu_3b] at hP hD
    replace hF := hF.trans (ap_n hfn_7.symm)
    refine lv_bipush (v := 8) hx hb dX12_w4_6 (by decide) ?_
    refine lv_lshl hx hb dX12_w4_8 rfl ?_
    refine lv_topl (fun x_9 ex_9 => ?_)
    replace hF := hF.trans (ap_n ex_9)
    refine lv_iload_n hx hb dX12_w4_9 rfl (lv_at hl 3 rfl) ?_
    refine lv_i2l hx hb dX12_w4_10 rfl ?_
    refine lv_topl (fun x_10 ex_10 => ?_)
    replace hF := hF.trans (ap_n ex_10)
    refine lv_lor hx hb dX12_w4_11 ?_
    refine lv_topl (fun x_11 ex_11 => ?_)
    replace hF := hF.trans (ap_n ex_11)
    subst hQ
    exact W.lret (v := x_11) hx hb hr (fun t1 ht hW => ⟨⟨x_11, (σ, I, J, ri, rj, rq), rfl, ⟨rfl, (by subst_vars; rfl), (hF0.symm.trans hF)⟩, by rw [ht]; exact hP, va_K.moved hW.alike hK, hD⟩, hS.F ht⟩) hS.2.2 dX12_w4_12
  exact go _ _ _ hP hD hS hl

set_option maxRecDepth 100000 in
def g_X12_w5_d (a0 : Int32) (a1 : Int32) (a2 : Int32) (a3 : Int32) (a4 : Int32) : Int64 := (ap1 (g_X12_w4_d a0 a1 a2 a3) fun (x_1 : Int64) => (ap1 (x_1 <<< ((8 : Int32).toInt64 &&& 63)) fun (x_9 : Int64) => (ap1 (a4.toInt64) fun (x_10 : Int64) => (ap1 (x_9 ||| x_10) fun (x_11 : Int64) => x_11))))
set_option maxRecDepth 100000 in
theorem g_X12_w5_d_e {a0 : Int32} {a1 : Int32} {a2 : Int32} {a3 : Int32} {a4 : Int32} : g_X12_w5_d a0 a1 a2 a3 a4 = (ap1 (g_X12_w4_d a0 a1 a2 a3) fun (x_1 : Int64) => (ap1 (x_1 <<< ((8 : Int32).toInt64 &&& 63)) fun (x_9 : Int64) => (ap1 (a4.toInt64) fun (x_10 : Int64) => (ap1 (x_9 ||| x_10) fun (x_11 : Int64) => x_11)))) := rfl
set_option maxHeartbeats 4000000 in
set_option maxRecDepth 100000 in
theorem s_X12_w5_d (l : Launch) (D : va_G) (t : pq_T) (σ : pq_S) (I : Nat → Nat → Int32) (J : Nat → Nat → Int64) (ri : Nat → Nat → Int32) (rj : Nat → Nat → Int64) (rq : Nat → Nat → Option Nat) (sz : Nat) (tg : Nat → Nat) (hSH : SH σ tg) (hG0 : GT tg I ri) (a0 : Int32) (a1 : Int32) (a2 : Int32) (a3 : Int32) (a4 : Int32) : MetL l yX12_w5 (wa yX12_w5 cX12_w5 5 (some .long)) ({ frames := 2, cells := 0, slots := 0, locals := 45 }) [.int a0, .int a1, .int a2, .int a3, .int a4] D t σ (I, J, ri, rj, rq) sz 0 0 (fun (r : Int64) (u : pq_S × pq_M) => u = (σ, I, J, ri, rj, rq) ∧ (r = w5f a0 a1 a2 a3 a4) ∧ g_X12_w5_d a0 a1 a2 a3 a4 = r) := by
  refine Met.ofW (cc := cX12_w5) (maxL := 5) (ret := (some .long)) (by decide) rfl ?_
  intro p e s m args below meth c s₁ B hml hv
  obtain ⟨rfl, hsz, hP, hK, hD0, hN⟩ := hv
  have hx := B.exec
  have hb := B.bytes
  have hr := B.returns
  have hts := atoms_spec (ws := (wa yX12_w5 cX12_w5 5 (some .long))) B.pre
  have hown : s.vm.findClass RX12 = some m.cls := findClass_of_methodNamed B.named
  have hlocks := B.notSynchronized
  subst hsz
  have hD : va_D (pq_B t σ (I, J, ri, rj, rq) s.heap.size) (pq_P t σ (I, J, ri, rj, rq)) := hD0.self
  generalize hAe : pq_B t σ (I, J, ri, rj, rq) s.heap.size = A at hD ⊢
  have hA : ∀ q : Nat, s.heap.size ≤ q → A q := fun q h => by rw [← hAe]; exact Or.inr h
  have hS : va_S A s.heap s.heap [] := va_S.rf
  have hG : GM [] tg σ I ri I ri rq := ⟨hG0, fun _ _ _ => rfl, fun _ _ _ _ _ => rfl, fun _ _ _ _ _ _ => rfl⟩
  have hl := lv_entry ([.int a0, .int a1, .int a2, .int a3, .int a4]) (n := 5) (Nat.le_of_ble_eq_true rfl)
  rw [lg_entry_eq]
  generalize (lg_sl ([.int a0, .int a1, .int a2, .int a3, .int a4]) ++ List.replicate (5 - (lg_sl ([.int a0, .int a1, .int a2, .int a3, .int a4])).length) Slot.unset).toArray = ls at hl ⊢
  have hl : lv_has ls 5 [(0, .int a0), (1, .int a1), (2, .int a2), (3, .int a3), (4, .int a4)] := hl
  refine q_gen (fun Q hQ => ?_)
  have go : ∀ (H : Heap) (locs : List Loc) (ls : Array Slot), va_P D vwCl (pq_P t σ (I, J, ri, rj, rq)) H → va_D A (pq_P t σ (I, J, ri, rj, rq)) → va_S A s.heap H locs → lv_has ls 5 [(0, .int a0), (1, .int a1), (2, .int a2), (3, .int a3), (4, .int a4)] → W p l e ({ frames := 2, cells := 0, slots := 0, locals := 45 } : Room) s m (List.toArray ([.int a0, .int a1, .int a2, .int a3, .int a4] : List Value)) below meth c H locs 0 0 Q (F0 m 0 ls []) := by
    intro H locs ls hP hD hS hl
    obtain ⟨F, hF0⟩ : ∃ F, F = g_X12_w5_d a0 a1 a2 a3 a4 := ⟨_, rfl⟩
    have hF := hF0.trans g_X12_w5_d_e
    refine lv_iload_n hx hb dX12_w5_0 rfl (lv_at hl 0 rfl) ?_
    refine lv_iload_n hx hb dX12_w5_1 rfl (lv_at hl 1 rfl) ?_
    refine lv_iload_n hx hb dX12_w5_2 rfl (lv_at hl 2 rfl) ?_
    refine lv_iload_n hx hb dX12_w5_3 rfl (lv_at hl 3 rfl) ?_
    refine pk_l (va_runS (As := [.int a0, .int a1, .int a2, .int a3]) (rest := []) ⟨hx, hb, hml, hown, hts⟩ (s_X12_w4_d l D t σ I J ri rj rq H.size tg hSH hG.1 a0 a1 a2 a3) (va_cwS 4 hts (tw_S tw_861 tw_862 tw_5 tw_863) rfl rfl rfl cd_yX12_w4_4 ⟨Nat.le_of_ble_eq_true rfl, Nat.le_of_ble_eq_true rfl⟩) ⟨pq_blind, pq_pre hK hN hP hD⟩ rfl rfl hl.1 rfl (lv_room (Nat.le_of_ble_eq_true rfl)) dX12_w5_4 ⟨Nat.le_of_ble_eq_true rfl, Nat.le_of_ble_eq_true rfl⟩) hD hS hA (fun x_1 σ1 μ1 H locs hw_2 hP hD hS => ?_)
    obtain ⟨hu_3, hp_6, hfn_7⟩ := hw_2
    obtain ⟨hu_3a, hu_3b⟩ := Prod.mk.inj hu_3
    rw [hu_3a, hu_3b] at hP hD
    replace hF := hF.trans (ap_n hfn_7.symm)
    refine lv_bipush (v := 8) hx hb dX12_w5_7 (by decide) ?_
    refine lv_lshl hx hb dX12_w5_9 rfl ?_
    refine lv_topl (fun x_9 ex_9 => ?_)
    replace hF := hF.trans (ap_n ex_9)
    refine lv_iload hx hb dX12_w5_10 (lv_at hl 4 rfl) ?_
    refine lv_i2l hx hb dX12_w5_12 rfl ?_
    refine lv_topl (fun x_10 ex_10 => ?_)
    replace hF := hF.trans (ap_n ex_10)
    refine lv_lor hx hb dX12_w5_13 ?_
    refine lv_topl (fun x_11 ex_11 => ?_)
    replace hF := hF.trans (ap_n ex_11)
    subst hQ
    exact W.lret (v := x_11) hx hb hr (fun t1 ht hW => ⟨⟨x_11, (σ, I, J, ri, rj, rq), rfl, ⟨rfl, (by subst_vars; rfl), (hF0.symm.trans hF)⟩, by rw [ht]; exact hP, va_K.moved hW.alike hK, hD⟩, hS.F ht⟩) hS.2.2 dX12_w5_14
  exact go _ _ _ hP hD hS hl

set_option maxRecDepth 100000 in
def g_X12_nameOf_d (I : Nat → Int32) (J : Nat → Int64) (ri : Nat → Nat → Int32) (rj : Nat → Nat → Int64) (rq : Nat → Nat → Option Nat) : Int32 × vM := (ap1 (I 393) fun (y_1 : Int32) => (if (y_1) = (2 : Int32) then (ap1 (J 395) fun (y_8 : Int64) => (ap1 (g_X12_w3_d (97 : Int32) (103 : Int32) (101 : Int32)) fun (x_9 : Int64) => (ap1 (lg_cmp (y_8) x_9) fun (x_17 : Int32) => (if x_17 = (0 : Int32) then ((0 : Int32), I, J, ri, rj, rq) else (ap1 (g_X12_w3_d (107 : Int32) (105 : Int32) (110 : Int32)) fun (x_24 : Int64) => (ap1 (lg_cmp (y_8) x_24) fun (x_32 : Int32) => (if x_32 = (0 : Int32) then ((1 : Int32), I, J, ri, rj, rq) else (ap1 (g_X12_w5_d (99 : Int32) (114 : Int32) (97 : Int32) (102 : Int32) (116 : Int32)) fun (x_39 : Int64) => (ap1 (lg_cmp (y_8) x_39) fun (x_47 : Int32) => (if x_47 = (0 : Int32) then ((2 : Int32), I, J, ri, rj, rq) else (ap1 (g_X12_w5_d (112 : Int32) (108 : Int32) (97 : Int32) (99 : Int32) (101 : Int32)) fun (x_54 : Int64) => (ap1 (lg_cmp (y_8) x_54) fun (x_62 : Int32) => (if x_62 = (0 : Int32) then ((3 : Int32), I, J, ri, rj, rq) else (ap1 (g_X12_w5_d (109 : Int32) (111 : Int32) (110 : Int32) (116 : Int32) (104 : Int32)) fun (x_69 : Int64) => (ap1 (lg_cmp (y_8) x_69) fun (x_77 : Int32) => (if x_77 = (0 : Int32) then ((4 : Int32), I, J, ri, rj, rq) else (ap1 (g_X12_w5_d (117 : Int32) (110 : Int32) (100 : Int32) (101 : Int32) (114 : Int32)) fun (x_84 : Int64) => (ap1 (lg_cmp (y_8) x_84) fun (x_92 : Int32) => (if x_92 = (0 : Int32) then ((5 : Int32), I, J, ri, rj, rq) else ((-1 : Int32), I, J, ri, rj, rq)))))))))))))))))))) else ((-1 : Int32), I, J, ri, rj, rq)))
set_option maxRecDepth 100000 in
theorem g_X12_nameOf_d_e {I : Nat → Int32} {J : Nat → Int64} {ri : Nat → Nat → Int32} {rj : Nat → Nat → Int64} {rq : Nat → Nat → Option Nat} : g_X12_nameOf_d I J ri rj rq = (ap1 (I 393) fun (y_1 : Int32) => (if (y_1) = (2 : Int32) then (ap1 (J 395) fun (y_8 : Int64) => (ap1 (g_X12_w3_d (97 : Int32) (103 : Int32) (101 : Int32)) fun (x_9 : Int64) => (ap1 (lg_cmp (y_8) x_9) fun (x_17 : Int32) => (if x_17 = (0 : Int32) then ((0 : Int32), I, J, ri, rj, rq) else (ap1 (g_X12_w3_d (107 : Int32) (105 : Int32) (110 : Int32)) fun (x_24 : Int64) => (ap1 (lg_cmp (y_8) x_24) fun (x_32 : Int32) => (if x_32 = (0 : Int32) then ((1 : Int32), I, J, ri, rj, rq) else (ap1 (g_X12_w5_d (99 : Int32) (114 : Int32) (97 : Int32) (102 : Int32) (116 : Int32)) fun (x_39 : Int64) => (ap1 (lg_cmp (y_8) x_39) fun (x_47 : Int32) => (if x_47 = (0 : Int32) then ((2 : Int32), I, J, ri, rj, rq) else (ap1 (g_X12_w5_d (112 : Int32) (108 : Int32) (97 : Int32) (99 : Int32) (101 : Int32)) fun (x_54 : Int64) => (ap1 (lg_cmp (y_8) x_54) fun (x_62 : Int32) => (if x_62 = (0 : Int32) then ((3 : Int32), I, J, ri, rj, rq) else (ap1 (g_X12_w5_d (109 : Int32) (111 : Int32) (110 : Int32) (116 : Int32) (104 : Int32)) fun (x_69 : Int64) => (ap1 (lg_cmp (y_8) x_69) fun (x_77 : Int32) => (if x_77 = (0 : Int32) then ((4 : Int32), I, J, ri, rj, rq) else (ap1 (g_X12_w5_d (117 : Int32) (110 : Int32) (100 : Int32) (101 : Int32) (114 : Int32)) fun (x_84 : Int64) => (ap1 (lg_cmp (y_8) x_84) fun (x_92 : Int32) => (if x_92 = (0 : Int32) then ((5 : Int32), I, J, ri, rj, rq) else ((-1 : Int32), I, J, ri, rj, rq)))))))))))))))))))) else ((-1 : Int32), I, J, ri, rj, rq))) := rfl
set_option maxHeartbeats 4000000 in
set_option maxRecDepth 100000 in
theorem s_X12_nameOf_d (l : Launch) (D : va_G) (t : pq_T) (σ : pq_S) (I : Nat → Nat → Int32) (J : Nat → Nat → Int64) (ri : Nat → Nat → Int32) (rj : Nat → Nat → Int64) (rq : Nat → Nat → Option Nat) (sz : Nat) (tg : Nat → Nat) (hSH : SH σ tg) (hG0 : GT tg I ri) (this : Nat) (hL_this : this ∈ σ.1) (hK_this : σ.2.1 this = 12) : MetI l yX12_nameOf (wa yX12_nameOf cX12_nameOf 1 (some .int)) ({ frames := 3, cells := 0, slots := 0, locals := 69 }) [.ref this] D t σ (I, J, ri, rj, rq) sz 0 0 (fun (r : Int32) (u : pq_S × pq_M) => u = (σ, I, J, ri, rj, rq) ∧ (NMP r (I 393 this).toInt (J 395 this)) ∧ g_X12_nameOf_d (vI 12 σ this I) (vJ 12 σ this J) (vR 12 σ this ri) (vL 12 σ this rj) (vQ 12 σ this rq) = (r, (vI 12 σ this I), (vJ 12 σ this J), (vR 12 σ this ri), (vL 12 σ this rj), (vQ 12 σ this rq)) ∧ rg r (-1) 5) := by
  refine Met.ofW (cc := cX12_nameOf) (maxL := 1) (ret := (some .int)) (by decide) rfl ?_
  intro p e s m args below meth c s₁ B hml hv
  obtain ⟨rfl, hsz, hP, hK, hD0, hN⟩ := hv
  have hx := B.exec
  have hb := B.bytes
  have hr := B.returns
  have hts := atoms_spec (ws := (wa yX12_nameOf cX12_nameOf 1 (some .int))) B.pre
  have hown : s.vm.findClass RX12 = some m.cls := findClass_of_methodNamed B.named
  have hlocks := B.notSynchronized
  subst hsz
  have hD : va_D (pq_B t σ (I, J, ri, rj, rq) s.heap.size) (pq_P t σ (I, J, ri, rj, rq)) := hD0.self
  generalize hAe : pq_B t σ (I, J, ri, rj, rq) s.heap.size = A at hD ⊢
  have hA : ∀ q : Nat, s.heap.size ≤ q → A q := fun q h => by rw [← hAe]; exact Or.inr h
  have hS : va_S A s.heap s.heap [] := va_S.rf
  have hG : GM [] tg σ I ri I ri rq := ⟨hG0, fun _ _ _ => rfl, fun _ _ _ _ _ => rfl, fun _ _ _ _ _ _ => rfl⟩
  have hl := lv_entry ([.ref this]) (n := 1) (Nat.le_of_ble_eq_true rfl)
  rw [lg_entry_eq]
  generalize (lg_sl ([.ref this]) ++ List.replicate (1 - (lg_sl ([.ref this])).length) Slot.unset).toArray = ls at hl ⊢
  have hl : lv_has ls 1 [(0, .ref this)] := hl
  refine q_gen (fun Q hQ => ?_)
  have go : ∀ (H : Heap) (locs : List Loc) (ls : Array Slot), va_P D vwCl (pq_P t σ (I, J, ri, rj, rq)) H → va_D A (pq_P t σ (I, J, ri, rj, rq)) → va_S A s.heap H locs → lv_has ls 1 [(0, .ref this)] → W p l e ({ frames := 3, cells := 0, slots := 0, locals := 69 } : Room) s m (List.toArray ([.ref this] : List Value)) below meth c H locs 0 0 Q (F0 m 0 ls []) := by
    intro H locs ls hP hD hS hl
    have hO_this : this = vo σ 12 this := rfl
    have hVT : VT 12 σ tg this := vt_12 hSH hL_this hK_this
    have hFr : FR 12 tg σ this (I, J, ri, rj, rq) (I, J, ri, rj, rq) := fr_rf
    obtain ⟨F, hF0⟩ : ∃ F, F = g_X12_nameOf_d (vI 12 σ this I) (vJ 12 σ this J) (vR 12 σ this ri) (vL 12 σ this rj) (vQ 12 σ this rq) := ⟨_, rfl⟩
    have hF := hF0.trans g_X12_nameOf_d_e
    refine lv_aload_n hx hb dX12_nameOf_0 rfl (lv_at hl 0 rfl) ?_
    refine pg_f (v := .int (I 393 this)) (C := RX12) (T := TX12) (N := 31) hx hb hts (tw_i inlX12) hown hK hP hL_this hK_this (by decide) rfl 9 (by decide) (hts _ (tw_c tw_831)) rfl dX12_nameOf_1 ?_
    replace hF := hF.trans (ap_n (vI_e (f := 393) hO_this (by decide)))
    refine lv_iconst (v := 2) hx hb dX12_nameOf_4 (by decide) ?_
    refine lv_icmp_eq (tgt := 10) hx hb dX12_nameOf_5 (by decide) (fun c_2 => ?_) (fun c_2 => ?_)
    · replace hF := hF.trans (if_pos c_2)
      have tc_6 : (I 393 this).toInt = 2 := congrArg Int32.toInt c_2
      have h_7 : rg (I 393 this) 2 2 := rg_and (rg_full _) (rg_of_eq c_2 (rg_k (2 : Int32) 2 rfl)) (by decide)
      have uh_7 := h_7.1
      have vh_7 := h_7.2
      refine lv_aload_n hx hb dX12_nameOf_10 rfl (lv_at hl 0 rfl) ?_
      refine pg_f (v := .long (J 395 this)) (C := RX12) (T := TX12) (N := 31) hx hb hts (tw_i inlX12) hown hK hP hL_this hK_this (by decide) rfl 11 (by decide) (hts _ (tw_c tw_838)) rfl dX12_nameOf_11 ?_
      replace hF := hF.trans (ap_n (vJ_e (f := 395) hO_this (by decide)))
      refine lv_bipush (v := 97) hx hb dX12_nameOf_14 (by decide) ?_
      refine lv_bipush (v := 103) hx hb dX12_nameOf_16 (by decide) ?_
      refine lv_bipush (v := 101) hx hb dX12_nameOf_18 (by decide) ?_
      refine pk_l (va_runS (As := [.int 97, .int 103, .int 101]) (rest := [.long (J 395 this)]) ⟨hx, hb, hml, hown, hts⟩ (s_X12_w3_d l D t σ I J ri rj rq H.size tg hSH hG.1 (97 : Int32) (103 : Int32) (101 : Int32)) (va_cwS 3 hts (tw_S tw_864 tw_865 tw_5 tw_866) rfl rfl rfl cd_yX12_w3_3 ⟨Nat.le_of_ble_eq_true rfl, Nat.le_of_ble_eq_true rfl⟩) ⟨pq_blind, pq_pre hK hN hP hD⟩ rfl rfl hl.1 rfl (lv_room (Nat.le_of_ble_eq_true rfl)) dX12_nameOf_20 ⟨Nat.le_of_ble_eq_true rfl, Nat.le_of_ble_eq_true rfl⟩) hD hS hA (fun x_9 σ1 μ1 H locs hw_10 hP hD hS => ?_)
      obtain ⟨hu_11, hp_14, hfn_15⟩ := hw_10
      obtain ⟨hu_11a, hu_11b⟩ := Prod.mk.inj hu_11
      rw [hu_11a, hu_11b] at hP hD
      replace hF := hF.trans (ap_n hfn_15.symm)
      refine W.lcmp hx hb dX12_nameOf_23 ?_
      refine lv_topi (fun x_17 ex_17 => ?_)
      replace hF := hF.trans (ap_n ex_17)
      have hz_18 : x_17 = 0 ↔ J 395 this = w3f 97 103 101 := by rw [ex_17, hp_14]; exact cmp_iff
      refine lv_if_ne (tgt := 29) hx hb dX12_nameOf_24 (by decide) (fun c_19 => ?_) (fun c_19 => ?_)
      · replace hF := hF.trans (if_neg c_19)
        have tc_23 : (x_17).toInt ≠ 0 := fun q => c_19 (Int32.toInt_inj.mp q)
        refine lv_aload_n hx hb dX12_nameOf_29 rfl (lv_at hl 0 rfl) ?_
        refine pg_f (v := .long (J 395 this)) (C := RX12) (T := TX12) (N := 31) hx hb hts (tw_i inlX12) hown hK hP hL_this hK_this (by decide) rfl 11 (by decide) (hts _ (tw_c tw_838)) rfl dX12_nameOf_30 ?_
        refine lv_bipush (v := 107) hx hb dX12_nameOf_33 (by decide) ?_
        refine lv_bipush (v := 105) hx hb dX12_nameOf_35 (by decide) ?_
        refine lv_bipush (v := 110) hx hb dX12_nameOf_37 (by decide) ?_
        refine pk_l (va_runS (As := [.int 107, .int 105, .int 110]) (rest := [.long (J 395 this)]) ⟨hx, hb, hml, hown, hts⟩ (s_X12_w3_d l D t σ I J ri rj rq H.size tg hSH hG.1 (107 : Int32) (105 : Int32) (110 : Int32)) (va_cwS 3 hts (tw_S tw_864 tw_865 tw_5 tw_866) rfl rfl rfl cd_yX12_w3_3 ⟨Nat.le_of_ble_eq_true rfl, Nat.le_of_ble_eq_true rfl⟩) ⟨pq_blind, pq_pre hK hN hP hD⟩ rfl rfl hl.1 rfl (lv_room (Nat.le_of_ble_eq_true rfl)) dX12_nameOf_39 ⟨Nat.le_of_ble_eq_true rfl, Nat.le_of_ble_eq_true rfl⟩) hD hS hA (fun x_24 σ1 μ1 H locs hw_25 hP hD hS => ?_)
        obtain ⟨hu_26, hp_29, hfn_30⟩ := hw_25
        obtain ⟨hu_26a, hu_26b⟩ := Prod.mk.inj hu_26
        rw [hu_26a, hu_26b] at hP hD
        replace hF := hF.trans (ap_n hfn_30.symm)
        refine W.lcmp hx hb dX12_nameOf_42 ?_
        refine lv_topi (fun x_32 ex_32 => ?_)
        replace hF := hF.trans (ap_n ex_32)
        have hz_33 : x_32 = 0 ↔ J 395 this = w3f 107 105 110 := by rw [ex_32, hp_29]; exact cmp_iff
        refine lv_if_ne (tgt := 48) hx hb dX12_nameOf_43 (by decide) (fun c_34 => ?_) (fun c_34 => ?_)
        · replace hF := hF.trans (if_neg c_34)
          have tc_38 : (x_32).toInt ≠ 0 := fun q => c_34 (Int32.toInt_inj.mp q)
          refine lv_aload_n hx hb dX12_nameOf_48 rfl (lv_at hl 0 rfl) ?_
          refine pg_f (v := .long (J 395 this)) (C := RX12) (T := TX12) (N := 31) hx hb hts (tw_i inlX12) hown hK hP hL_this hK_this (by decide) rfl 11 (by decide) (hts _ (tw_c tw_838)) rfl dX12_nameOf_49 ?_
          refine lv_bipush (v := 99) hx hb dX12_nameOf_52 (by decide) ?_
          refine lv_bipush (v := 114) hx hb dX12_nameOf_54 (by decide) ?_
          refine lv_bipush (v := 97) hx hb dX12_nameOf_56 (by decide) ?_
          refine lv_bipush (v := 102) hx hb dX12_nameOf_58 (by decide) ?_
          refine lv_bipush (v := 116) hx hb dX12_nameOf_60 (by decide) ?_
          refine pk_l (va_runS (As := [.int 99, .int 114, .int 97, .int 102, .int 116]) (rest := [.long (J 395 this)]) ⟨hx, hb, hml, hown, hts⟩ (s_X12_w5_d l D t σ I J ri rj rq H.size tg hSH hG.1 (99 : Int32) (114 : Int32) (97 : Int32) (102 : Int32) (116 : Int32)) (va_cwS 5 hts (tw_S tw_858 tw_859 tw_5 tw_860) rfl rfl rfl cd_yX12_w5_5 ⟨Nat.le_of_ble_eq_true rfl, Nat.le_of_ble_eq_true rfl⟩) ⟨pq_blind, pq_pre hK hN hP hD⟩ rfl rfl hl.1 rfl (lv_room (Nat.le_of_ble_eq_true rfl)) dX12_nameOf_62 ⟨Nat.le_of_ble_eq_true rfl, Nat.le_of_ble_eq_true rfl⟩) hD hS hA (fun x_39 σ1 μ1 H locs hw_40 hP hD hS => ?_)
          obtain ⟨hu_41, hp_44, hfn_45⟩ := hw_40
          obtain ⟨hu_41a, hu_41b⟩ := Prod.mk.inj hu_41
          rw [hu_41a, hu_41b] at hP hD
          replace hF := hF.trans (ap_n hfn_45.symm)
          refine W.lcmp hx hb dX12_nameOf_65 ?_
          refine lv_topi (fun x_47 ex_47 => ?_)
          replace hF := hF.trans (ap_n ex_47)
          have hz_48 : x_47 = 0 ↔ J 395 this = w5f 99 114 97 102 116 := by rw [ex_47, hp_44]; exact cmp_iff
          refine lv_if_ne (tgt := 71) hx hb dX12_nameOf_66 (by decide) (fun c_49 => ?_) (fun c_49 => ?_)
          · replace hF := hF.trans (if_neg c_49)
            have tc_53 : (x_47).toInt ≠ 0 := fun q => c_49 (Int32.toInt_inj.mp q)
            refine lv_aload_n hx hb dX12_nameOf_71 rfl (lv_at hl 0 rfl) ?_
            refine pg_f (v := .long (J 395 this)) (C := RX12) (T := TX12) (N := 31) hx hb hts (tw_i inlX12) hown hK hP hL_this hK_this (by decide) rfl 11 (by decide) (hts _ (tw_c tw_838)) rfl dX12_nameOf_72 ?_
            refine lv_bipush (v := 112) hx hb dX12_nameOf_75 (by decide) ?_
            refine lv_bipush (v := 108) hx hb dX12_nameOf_77 (by decide) ?_
            refine lv_bipush (v := 97) hx hb dX12_nameOf_79 (by decide) ?_
            refine lv_bipush (v := 99) hx hb dX12_nameOf_81 (by decide) ?_
            refine lv_bipush (v := 101) hx hb dX12_nameOf_83 (by decide) ?_
            refine pk_l (va_runS (As := [.int 112, .int 108, .int 97, .int 99, .int 101]) (rest := [.long (J 395 this)]) ⟨hx, hb, hml, hown, hts⟩ (s_X12_w5_d l D t σ I J ri rj rq H.size tg hSH hG.1 (112 : Int32) (108 : Int32) (97 : Int32) (99 : Int32) (101 : Int32)) (va_cwS 5 hts (tw_S tw_858 tw_859 tw_5 tw_860) rfl rfl rfl cd_yX12_w5_5 ⟨Nat.le_of_ble_eq_true rfl, Nat.le_of_ble_eq_true rfl⟩) ⟨pq_blind, pq_pre hK hN hP hD⟩ rfl rfl hl.1 rfl (lv_room (Nat.le_of_ble_eq_true rfl)) dX12_nameOf_85 ⟨Nat.le_of_ble_eq_true rfl, Nat.le_of_ble_eq_true rfl⟩) hD hS hA (fun x_54 σ1 μ1 H locs hw_55 hP hD hS => ?_)
            obtain ⟨hu_56, hp_59, hfn_60⟩ := hw_55
            obtain ⟨hu_56a, hu_56b⟩ := Prod.mk.inj hu_56
            rw [hu_56a, hu_56b] at hP hD
            replace hF := hF.trans (ap_n hfn_60.symm)
            refine W.lcmp hx hb dX12_nameOf_88 ?_
            refine lv_topi (fun x_62 ex_62 => ?_)
            replace hF := hF.trans (ap_n ex_62)
            have hz_63 : x_62 = 0 ↔ J 395 this = w5f 112 108 97 99 101 := by rw [ex_62, hp_59]; exact cmp_iff
            refine lv_if_ne (tgt := 94) hx hb dX12_nameOf_89 (by decide) (fun c_64 => ?_) (fun c_64 => ?_)
            · replace hF := hF.trans (if_neg c_64)
              have tc_68 : (x_62).toInt ≠ 0 := fun q => c_64 (Int32.toInt_inj.mp q)
              refine lv_aload_n hx hb dX12_nameOf_94 rfl (lv_at hl 0 rfl) ?_
              refine pg_f (v := .long (J 395 this)) (C := RX12) (T := TX12) (N := 31) hx hb hts (tw_i inlX12) hown hK hP hL_this hK_this (by decide) rfl 11 (by decide) (hts _ (tw_c tw_838)) rfl dX12_nameOf_95 ?_
              refine lv_bipush (v := 109) hx hb dX12_nameOf_98 (by decide) ?_
              refine lv_bipush (v := 111) hx hb dX12_nameOf_100 (by decide) ?_
              refine lv_bipush (v := 110) hx hb dX12_nameOf_102 (by decide) ?_
              refine lv_bipush (v := 116) hx hb dX12_nameOf_104 (by decide) ?_
              refine lv_bipush (v := 104) hx hb dX12_nameOf_106 (by decide) ?_
              refine pk_l (va_runS (As := [.int 109, .int 111, .int 110, .int 116, .int 104]) (rest := [.long (J 395 this)]) ⟨hx, hb, hml, hown, hts⟩ (s_X12_w5_d l D t σ I J ri rj rq H.size tg hSH hG.1 (109 : Int32) (111 : Int32) (110 : Int32) (116 : Int32) (104 : Int32)) (va_cwS 5 hts (tw_S tw_858 tw_859 tw_5 tw_860) rfl rfl rfl cd_yX12_w5_5 ⟨Nat.le_of_ble_eq_true rfl, Nat.le_of_ble_eq_true rfl⟩) ⟨pq_blind, pq_pre hK hN hP hD⟩ rfl rfl hl.1 rfl (lv_room (Nat.le_of_ble_eq_true rfl)) dX12_nameOf_108 ⟨Nat.le_of_ble_eq_true rfl, Nat.le_of_ble_eq_true rfl⟩) hD hS hA (fun x_69 σ1 μ1 H locs hw_70 hP hD hS => ?_)
              obtain ⟨hu_71, hp_74, hfn_75⟩ := hw_70
              obtain ⟨hu_71a, hu_71b⟩ := Prod.mk.inj hu_71
              rw [hu_71a, hu_71b] at hP hD
              replace hF := hF.trans (ap_n hfn_75.symm)
              refine W.lcmp hx hb dX12_nameOf_111 ?_
              refine lv_topi (fun x_77 ex_77 => ?_)
              replace hF := hF.trans (ap_n ex_77)
              have hz_78 : x_77 = 0 ↔ J 395 this = w5f 109 111 110 116 104 := by rw [ex_77, hp_74]; exact cmp_iff
              refine lv_if_ne (tgt := 119) hx hb dX12_nameOf_112 (by decide) (fun c_79 => ?_) (fun c_79 => ?_)
              · replace hF := hF.trans (if_neg c_79)
                have tc_83 : (x_77).toInt ≠ 0 := fun q => c_79 (Int32.toInt_inj.mp q)
                refine lv_aload_n hx hb dX12_nameOf_119 rfl (lv_at hl 0 rfl) ?_
                refine pg_f (v := .long (J 395 this)) (C := RX12) (T := TX12) (N := 31) hx hb hts (tw_i inlX12) hown hK hP hL_this hK_this (by decide) rfl 11 (by decide) (hts _ (tw_c tw_838)) rfl dX12_nameOf_120 ?_
                refine lv_bipush (v := 117) hx hb dX12_nameOf_123 (by decide) ?_
                refine lv_bipush (v := 110) hx hb dX12_nameOf_125 (by decide) ?_
                refine lv_bipush (v := 100) hx hb dX12_nameOf_127 (by decide) ?_
                refine lv_bipush (v := 101) hx hb dX12_nameOf_129 (by decide) ?_
                refine lv_bipush (v := 114) hx hb dX12_nameOf_131 (by decide) ?_
                refine pk_l (va_runS (As := [.int 117, .int 110, .int 100, .int 101, .int 114]) (rest := [.long (J 395 this)]) ⟨hx, hb, hml, hown, hts⟩ (s_X12_w5_d l D t σ I J ri rj rq H.size tg hSH hG.1 (117 : Int32) (110 : Int32) (100 : Int32) (101 : Int32) (114 : Int32)) (va_cwS 5 hts (tw_S tw_858 tw_859 tw_5 tw_860) rfl rfl rfl cd_yX12_w5_5 ⟨Nat.le_of_ble_eq_true rfl, Nat.le_of_ble_eq_true rfl⟩) ⟨pq_blind, pq_pre hK hN hP hD⟩ rfl rfl hl.1 rfl (lv_room (Nat.le_of_ble_eq_true rfl)) dX12_nameOf_133 ⟨Nat.le_of_ble_eq_true rfl, Nat.le_of_ble_eq_true rfl⟩) hD hS hA (fun x_84 σ1 μ1 H locs hw_85 hP hD hS => ?_)
                obtain ⟨hu_86, hp_89, hfn_90⟩ := hw_85
                obtain ⟨hu_86a, hu_86b⟩ := Prod.mk.inj hu_86
                rw [hu_86a, hu_86b] at hP hD
                replace hF := hF.trans (ap_n hfn_90.symm)
                refine W.lcmp hx hb dX12_nameOf_136 ?_
                refine lv_topi (fun x_92 ex_92 => ?_)
                replace hF := hF.trans (ap_n ex_92)
                have hz_93 : x_92 = 0 ↔ J 395 this = w5f 117 110 100 101 114 := by rw [ex_92, hp_89]; exact cmp_iff
                refine lv_if_ne (tgt := 144) hx hb dX12_nameOf_137 (by decide) (fun c_94 => ?_) (fun c_94 => ?_)
                · replace hF := hF.trans (if_neg c_94)
                  have tc_98 : (x_92).toInt ≠ 0 := fun q => c_94 (Int32.toInt_inj.mp q)
                  refine lv_iconst (v := (-1)) hx hb dX12_nameOf_144 (by decide) ?_
                  subst hQ
                  exact W.iret (v := (-1)) hx hb hr (fun t1 ht hW => ⟨⟨(-1), (σ, I, J, ri, rj, rq), rfl, ⟨rfl, ⟨fun q => absurd q (by decide), fun _ _ => (fun q => q.elim (fun q => absurd (hz_18.mpr q) (by assumption)) (fun q => q.elim (fun q => absurd (hz_33.mpr q) (by assumption)) (fun q => q.elim (fun q => absurd (hz_48.mpr q) (by assumption)) (fun q => q.elim (fun q => absurd (hz_63.mpr q) (by assumption)) (fun q => q.elim (fun q => absurd (hz_78.mpr q) (by assumption)) (fun q => absurd (hz_93.mpr q) (by assumption)))))))⟩, (hF0.symm.trans hF), (rg_w (rg_k (-1 : Int32) (-1) rfl) (by decide))⟩, by rw [ht]; exact hP, va_K.moved hW.alike hK, hD⟩, hS.F ht⟩) hS.2.2 dX12_nameOf_145
                · replace hF := hF.trans (if_pos c_94)
                  have tc_99 : (x_92).toInt = 0 := congrArg Int32.toInt c_94
                  have h_100 : rg x_92 0 0 := rg_and (rg_full _) (rg_of_eq c_94 (rg_k (0 : Int32) 0 rfl)) (by decide)
                  have uh_100 := h_100.1
                  have vh_100 := h_100.2
                  refine lv_iconst (v := 5) hx hb dX12_nameOf_140 (by decide) ?_
                  refine lv_goto (tgt := 145) hx hb dX12_nameOf_141 (by decide) ?_
                  subst hQ
                  exact W.iret (v := 5) hx hb hr (fun t1 ht hW => ⟨⟨5, (σ, I, J, ri, rj, rq), rfl, ⟨rfl, ⟨fun _ => ⟨by omega, (Or.inr (Or.inr (Or.inr (Or.inr (Or.inr (hz_93.mp (by assumption)))))))⟩, fun q => absurd q (by decide)⟩, (hF0.symm.trans hF), (rg_w (rg_k (5 : Int32) 5 rfl) (by decide))⟩, by rw [ht]; exact hP, va_K.moved hW.alike hK, hD⟩, hS.F ht⟩) hS.2.2 dX12_nameOf_145
              · replace hF := hF.trans (if_pos c_79)
                have tc_101 : (x_77).toInt = 0 := congrArg Int32.toInt c_79
                have h_102 : rg x_77 0 0 := rg_and (rg_full _) (rg_of_eq c_79 (rg_k (0 : Int32) 0 rfl)) (by decide)
                have uh_102 := h_102.1
                have vh_102 := h_102.2
                refine lv_iconst (v := 4) hx hb dX12_nameOf_115 (by decide) ?_
                refine lv_goto (tgt := 145) hx hb dX12_nameOf_116 (by decide) ?_
                subst hQ
                exact W.iret (v := 4) hx hb hr (fun t1 ht hW => ⟨⟨4, (σ, I, J, ri, rj, rq), rfl, ⟨rfl, ⟨fun _ => ⟨by omega, (Or.inr (Or.inr (Or.inr (Or.inr (Or.inl (hz_78.mp (by assumption)))))))⟩, fun q => absurd q (by decide)⟩, (hF0.symm.trans hF), (rg_w (rg_k (4 : Int32) 4 rfl) (by decide))⟩, by rw [ht]; exact hP, va_K.moved hW.alike hK, hD⟩, hS.F ht⟩) hS.2.2 dX12_nameOf_145
            · replace hF := hF.trans (if_pos c_64)
              have tc_103 : (x_62).toInt = 0 := congrArg Int32.toInt c_64
              have h_104 : rg x_62 0 0 := rg_and (rg_full _) (rg_of_eq c_64 (rg_k (0 : Int32) 0 rfl)) (by decide)
              have uh_104 := h_104.1
              have vh_104 := h_104.2
              refine lv_iconst (v := 3) hx hb dX12_nameOf_92 (by decide) ?_
              subst hQ
              exact W.iret (v := 3) hx hb hr (fun t1 ht hW => ⟨⟨3, (σ, I, J, ri, rj, rq), rfl, ⟨rfl, ⟨fun _ => ⟨by omega, (Or.inr (Or.inr (Or.inr (Or.inl (hz_63.mp (by assumption))))))⟩, fun q => absurd q (by decide)⟩, (hF0.symm.trans hF), (rg_w (rg_k (3 : Int32) 3 rfl) (by decide))⟩, by rw [ht]; exact hP, va_K.moved hW.alike hK, hD⟩, hS.F ht⟩) hS.2.2 dX12_nameOf_93
          · replace hF := hF.trans (if_pos c_49)
            have tc_105 : (x_47).toInt = 0 := congrArg Int32.toInt c_49
            have h_106 : rg x_47 0 0 := rg_and (rg_full _) (rg_of_eq c_49 (rg_k (0 : Int32) 0 rfl)) (by decide)
            have uh_106 := h_106.1
            have vh_106 := h_106.2
            refine lv_iconst (v := 2) hx hb dX12_nameOf_69 (by decide) ?_
            subst hQ
            exact W.iret (v := 2) hx hb hr (fun t1 ht hW => ⟨⟨2, (σ, I, J, ri, rj, rq), rfl, ⟨rfl, ⟨fun _ => ⟨by omega, (Or.inr (Or.inr (Or.inl (hz_48.mp (by assumption)))))⟩, fun q => absurd q (by decide)⟩, (hF0.symm.trans hF), (rg_w (rg_k (2 : Int32) 2 rfl) (by decide))⟩, by rw [ht]; exact hP, va_K.moved hW.alike hK, hD⟩, hS.F ht⟩) hS.2.2 dX12_nameOf_70
        · replace hF := hF.trans (if_pos c_34)
          have tc_107 : (x_32).toInt = 0 := congrArg Int32.toInt c_34
          have h_108 : rg x_32 0 0 := rg_and (rg_full _) (rg_of_eq c_34 (rg_k (0 : Int32) 0 rfl)) (by decide)
          have uh_108 := h_108.1
          have vh_108 := h_108.2
          refine lv_iconst (v := 1) hx hb dX12_nameOf_46 (by decide) ?_
          subst hQ
          exact W.iret (v := 1) hx hb hr (fun t1 ht hW => ⟨⟨1, (σ, I, J, ri, rj, rq), rfl, ⟨rfl, ⟨fun _ => ⟨by omega, (Or.inr (Or.inl (hz_33.mp (by assumption))))⟩, fun q => absurd q (by decide)⟩, (hF0.symm.trans hF), (rg_w (rg_k (1 : Int32) 1 rfl) (by decide))⟩, by rw [ht]; exact hP, va_K.moved hW.alike hK, hD⟩, hS.F ht⟩) hS.2.2 dX12_nameOf_47
      · replace hF := hF.trans (if_pos c_19)
        have tc_109 : (x_17).toInt = 0 := congrArg Int32.toInt c_19
        have h_110 : rg x_17 0 0 := rg_and (rg_full _) (rg_of_eq c_19 (rg_k (0 : Int32) 0 rfl)) (by decide)
        have uh_110 := h_110.1
        have vh_110 := h_110.2
        refine lv_iconst (v := 0) hx hb dX12_nameOf_27 (by decide) ?_
        subst hQ
        exact W.iret (v := 0) hx hb hr (fun t1 ht hW => ⟨⟨0, (σ, I, J, ri, rj, rq), rfl, ⟨rfl, ⟨fun _ => ⟨by omega, (Or.inl (hz_18.mp (by assumption)))⟩, fun q => absurd q (by decide)⟩, (hF0.symm.trans hF), (rg_w (rg_k (0 : Int32) 0 rfl) (by decide))⟩, by rw [ht]; exact hP, va_K.moved hW.alike hK, hD⟩, hS.F ht⟩) hS.2.2 dX12_nameOf_28
    · replace hF := hF.trans (if_neg c_2)
      have tc_111 : (I 393 this).toInt ≠ 2 := fun q => c_2 (Int32.toInt_inj.mp q)
      refine lv_iconst (v := (-1)) hx hb dX12_nameOf_8 (by decide) ?_
      subst hQ
      exact W.iret (v := (-1)) hx hb hr (fun t1 ht hW => ⟨⟨(-1), (σ, I, J, ri, rj, rq), rfl, ⟨rfl, ⟨fun q => absurd q (by decide), fun _ q => absurd q (by omega)⟩, (hF0.symm.trans hF), (rg_w (rg_k (-1 : Int32) (-1) rfl) (by decide))⟩, by rw [ht]; exact hP, va_K.moved hW.alike hK, hD⟩, hS.F ht⟩) hS.2.2 dX12_nameOf_9
  exact go _ _ _ hP hD hS hl
