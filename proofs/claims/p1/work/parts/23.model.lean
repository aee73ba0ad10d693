theorem dX12_isIn_0 : decode cX12_isIn 0 = .ok (.iload_n 0, 1) := by decide +kernel
theorem dX12_isIn_1 : decode cX12_isIn 1 = .ok (.iload_n 1, 1) := by decide +kernel
theorem dX12_isIn_2 : decode cX12_isIn 2 = .ok (.if_icmp .lt 12, 3) := by decide +kernel
theorem dX12_isIn_14 : decode cX12_isIn 14 = .ok (.iconst 0, 1) := by decide +kernel
theorem dX12_isIn_15 : decode cX12_isIn 15 = .ok (.ireturn, 1) := by decide +kernel
theorem dX12_isIn_5 : decode cX12_isIn 5 = .ok (.iload_n 0, 1) := by decide +kernel
theorem dX12_isIn_6 : decode cX12_isIn 6 = .ok (.iload_n 2, 1) := by decide +kernel
theorem dX12_isIn_7 : decode cX12_isIn 7 = .ok (.if_icmp .gt 7, 3) := by decide +kernel
theorem dX12_isIn_10 : decode cX12_isIn 10 = .ok (.iconst 1, 1) := by decide +kernel
theorem dX12_isIn_11 : decode cX12_isIn 11 = .ok (.goto 4, 3) := by decide +kernel
theorem dX12_isMonth_0 : decode cX12_isMonth 0 = .ok (.iload_n 0, 1) := by decide +kernel
theorem dX12_isMonth_1 : decode cX12_isMonth 1 = .ok (.iconst 0, 1) := by decide +kernel
theorem dX12_isMonth_2 : decode cX12_isMonth 2 = .ok (.sipush 599, 3) := by decide +kernel
theorem tw_235 : Cond.methodLink RX12 62 yX12_isIn ∈ wsL_law := List.mem_of_getElem? (i := 235) (by decide +kernel)
theorem tw_236 : Cond.static yX12_isIn ∈ wsL_law := List.mem_of_getElem? (i := 236) (by decide +kernel)
theorem tw_5 : Cond.initialized RX12 ∈ wsL_law := List.mem_of_getElem? (i := 5) (by decide +kernel)
theorem tw_237 : Cond.code yX12_isIn cX12_isIn 3 (some .boolean) ∈ wsL_law := List.mem_of_getElem? (i := 237) (by decide +kernel)
theorem dX12_isMonth_5 : decode cX12_isMonth 5 = .ok (.invokestatic 62, 3) := by decide +kernel
theorem dX12_isMonth_8 : decode cX12_isMonth 8 = .ok (.ireturn, 1) := by decide +kernel
theorem dX12_isRise_0 : decode cX12_isRise 0 = .ok (.iload_n 0, 1) := by decide +kernel
theorem dX12_isRise_1 : decode cX12_isRise 1 = .ok (.iconst 0, 1) := by decide +kernel
theorem dX12_isRise_2 : decode cX12_isRise 2 = .ok (.iconst 2, 1) := by decide +kernel
theorem dX12_isRise_3 : decode cX12_isRise 3 = .ok (.invokestatic 62, 3) := by decide +kernel
theorem dX12_isRise_6 : decode cX12_isRise 6 = .ok (.ireturn, 1) := by decide +kernel
theorem dX12_isRing_0 : decode cX12_isRing 0 = .ok (.iload_n 1, 1) := by decide +kernel
theorem dX12_isRing_1 : decode cX12_isRing 1 = .ok (.iconst 0, 1) := by decide +kernel
theorem dX12_isRing_2 : decode cX12_isRing 2 = .ok (.aload_n 0, 1) := by decide +kernel
theorem tw_176 : Cond.fieldLink RX12 7 "RingsUnderModel" "a" "[I" ∈ wsL_law := List.mem_of_getElem? (i := 176) (by decide +kernel)
theorem dX12_isRing_3 : decode cX12_isRing 3 = .ok (.getfield 7, 3) := by decide +kernel
theorem dX12_isRing_6 : decode cX12_isRing 6 = .ok (.iconst 1, 1) := by decide +kernel
theorem dX12_isRing_7 : decode cX12_isRing 7 = .ok (.iaload, 1) := by decide +kernel
theorem dX12_isRing_8 : decode cX12_isRing 8 = .ok (.iconst 1, 1) := by decide +kernel
theorem dX12_isRing_9 : decode cX12_isRing 9 = .ok (.isub, 1) := by decide +kernel
theorem dX12_isRing_10 : decode cX12_isRing 10 = .ok (.invokestatic 62, 3) := by decide +kernel
theorem dX12_isRing_13 : decode cX12_isRing 13 = .ok (.ireturn, 1) := by decide +kernel
theorem dX12_isCell_0 : decode cX12_isCell 0 = .ok (.iload_n 1, 1) := by decide +kernel
theorem dX12_isCell_1 : decode cX12_isCell 1 = .ok (.iconst 0, 1) := by decide +kernel
theorem dX12_isCell_2 : decode cX12_isCell 2 = .ok (.aload_n 0, 1) := by decide +kernel
theorem dX12_isCell_3 : decode cX12_isCell 3 = .ok (.getfield 7, 3) := by decide +kernel
theorem dX12_isCell_6 : decode cX12_isCell 6 = .ok (.iconst 2, 1) := by decide +kernel
theorem dX12_isCell_7 : decode cX12_isCell 7 = .ok (.iaload, 1) := by decide +kernel
theorem dX12_isCell_8 : decode cX12_isCell 8 = .ok (.iconst 1, 1) := by decide +kernel
theorem dX12_isCell_9 : decode cX12_isCell 9 = .ok (.isub, 1) := by decide +kernel
theorem dX12_isCell_10 : decode cX12_isCell 10 = .ok (.invokestatic 62, 3) := by decide +kernel
theorem dX12_isCell_13 : decode cX12_isCell 13 = .ok (.ireturn, 1) := by decide +kernel
theorem dX12_isPerson_0 : decode cX12_isPerson 0 = .ok (.iload_n 1, 1) := by decide +kernel
theorem dX12_isPerson_1 : decode cX12_isPerson 1 = .ok (.iconst 0, 1) := by decide +kernel
theorem dX12_isPerson_2 : decode cX12_isPerson 2 = .ok (.aload_n 0, 1) := by decide +kernel
theorem dX12_isPerson_3 : decode cX12_isPerson 3 = .ok (.getfield 7, 3) := by decide +kernel
theorem dX12_isPerson_6 : decode cX12_isPerson 6 = .ok (.iconst 5, 1) := by decide +kernel
theorem dX12_isPerson_7 : decode cX12_isPerson 7 = .ok (.iaload, 1) := by decide +kernel
theorem dX12_isPerson_8 : decode cX12_isPerson 8 = .ok (.iconst 1, 1) := by decide +kernel
theorem dX12_isPerson_9 : decode cX12_isPerson 9 = .ok (.isub, 1) := by decide +kernel
theorem dX12_isPerson_10 : decode cX12_isPerson 10 = .ok (.invokestatic 62, 3) := by decide +kernel
theorem dX12_isPerson_13 : decode cX12_isPerson 13 = .ok (.ireturn, 1) := by decide +kernel
theorem dX12_isLot_0 : decode cX12_isLot 0 = .ok (.iload_n 1, 1) := by decide +kernel
theorem dX12_isLot_1 : decode cX12_isLot 1 = .ok (.bipush 100, 2) := by decide +kernel
theorem dX12_isLot_3 : decode cX12_isLot 3 = .ok (.bipush 100, 2) := by decide +kernel
theorem dX12_isLot_5 : decode cX12_isLot 5 = .ok (.aload_n 0, 1) := by decide +kernel
theorem dX12_isLot_6 : decode cX12_isLot 6 = .ok (.getfield 7, 3) := by decide +kernel
theorem dX12_isLot_9 : decode cX12_isLot 9 = .ok (.iconst 4, 1) := by decide +kernel
theorem dX12_isLot_10 : decode cX12_isLot 10 = .ok (.iaload, 1) := by decide +kernel
theorem dX12_isLot_11 : decode cX12_isLot 11 = .ok (.iadd, 1) := by decide +kernel
theorem dX12_isLot_12 : decode cX12_isLot 12 = .ok (.iconst 1, 1) := by decide +kernel
theorem dX12_isLot_13 : decode cX12_isLot 13 = .ok (.isub, 1) := by decide +kernel
theorem dX12_isLot_14 : decode cX12_isLot 14 = .ok (.invokestatic 62, 3) := by decide +kernel
theorem dX12_isLot_17 : decode cX12_isLot 17 = .ok (.ireturn, 1) := by decide +kernel
theorem dX12_copy_2 : decode cX12_copy 2 = .ok (.iload_n 2, 1) := by decide +kernel
theorem dX12_copy_3 : decode cX12_copy 3 = .ok (.sipush 12720, 3) := by decide +kernel
theorem dX12_copy_6 : decode cX12_copy 6 = .ok (.if_icmp .ge 15, 3) := by decide +kernel
theorem dX12_copy_9 : decode cX12_copy 9 = .ok (.aload_n 1, 1) := by decide +kernel
theorem dX12_copy_10 : decode cX12_copy 10 = .ok (.iload_n 2, 1) := by decide +kernel
theorem dX12_copy_11 : decode cX12_copy 11 = .ok (.aload_n 0, 1) := by decide +kernel
theorem dX12_copy_12 : decode cX12_copy 12 = .ok (.iload_n 2, 1) := by decide +kernel
theorem dX12_copy_13 : decode cX12_copy 13 = .ok (.iaload, 1) := by decide +kernel
theorem dX12_copy_14 : decode cX12_copy 14 = .ok (.iastore, 1) := by decide +kernel
theorem dX12_copy_15 : decode cX12_copy 15 = .ok (.iinc 2 1, 3) := by decide +kernel
theorem dX12_copy_18 : decode cX12_copy 18 = .ok (.goto (-16), 3) := by decide +kernel
theorem dX12_copy_0 : decode cX12_copy 0 = .ok (.iconst 0, 1) := by decide +kernel
theorem dX12_copy_1 : decode cX12_copy 1 = .ok (.istore_n 2, 1) := by decide +kernel
theorem dX12_copy_21 : decode cX12_copy 21 = .ok (.return_, 1) := by decide +kernel
set_option maxHeartbeats 4000000 in
set_option maxRecDepth 100000 in
theorem c_X12_isIn (l : Launch) (D : va_G) (t : pq_T) (σ : pq_S) (I : Nat → Nat → Int32) (J : Nat → Nat → Int64) (ri : Nat → Nat → Int32) (rj : Nat → Nat → Int64) (rq : Nat → Nat → Option Nat) (sz : Nat) (v : Int32) (lo : Int32) (hi : Int32) : MetI l yX12_isIn (wa yX12_isIn cX12_isIn 3 (some .boolean)) ({ frames := 0, cells := 0, slots := 0, locals := 0 }) [.int v, .int lo, .int hi] D t σ (I, J, ri, rj, rq) sz 0 0 (fun (r : Int32) (u : pq_S × pq_M) => u = (σ, I, J, ri, rj, rq) ∧ ((r = 1 ∧ lo ≤ v ∧ v ≤ hi) ∨ (r = 0 ∧ ¬ (lo ≤ v ∧ v ≤ hi)))) := by
  refine Met.ofW (cc := cX12_isIn) (maxL := 3) (ret := (some .boolean)) (by decide) rfl ?_
  intro p e s m args below meth c s₁ B hml hv
  obtain ⟨rfl, hsz, hP, hK, hD0, hN⟩ := hv
  have hx := B.exec
  have hb := B.bytes
  have hr := B.returns
  have hts := atoms_spec (ws := (wa yX12_isIn cX12_isIn 3 (some .boolean))) B.pre
  have hown : s.vm.findClass RX12 = some m.cls := findClass_of_methodNamed B.named
  have hlocks := B.notSynchronized
  subst hsz
  have hD : va_D (pq_B t σ (I, J, ri, rj, rq) s.heap.size) (pq_P t σ (I, J, ri, rj, rq)) := hD0.self
  generalize hAe : pq_B t σ (I, J, ri, rj, rq) s.heap.size = A at hD ⊢
  have hA : ∀ q : Nat, s.heap.size ≤ q → A q := fun q h => by rw [← hAe]; exact Or.inr h
  have hS : va_S A s.heap s.heap [] := va_S.rf
  have hl := lv_entry ([.int v, .int lo, .int hi]) (n := 3) (Nat.le_of_ble_eq_true rfl)
  rw [lg_entry_eq]
  generalize (lg_sl ([.int v, .int lo, .int hi]) ++ List.replicate (3 - (lg_sl ([.int v, .int lo, .int hi])).length) Slot.unset).toArray = ls at hl ⊢
  have hl : lv_has ls 3 [(0, .int v), (1, .int lo), (2, .int hi)] := hl
  refine lv_iload_n hx hb dX12_isIn_0 rfl (lv_at hl 0 rfl) ?_
  refine lv_iload_n hx hb dX12_isIn_1 rfl (lv_at hl 1 rfl) ?_
  refine lv_icmp_lt (tgt := 14) hx hb dX12_isIn_2 (by decide) (fun c_1 => ?_) (fun c_1 => ?_)
  · refine lv_iconst (v := 0) hx hb dX12_isIn_14 (by decide) ?_
    exact W.zret (v := 0) hx hb hr (by decide) (fun t1 ht hW => ⟨⟨0, (σ, I, J, ri, rj, rq), rfl, ⟨rfl, (Or.inr ⟨rfl, bt_c1 c_1⟩)⟩, by rw [ht]; exact hP, va_K.moved hW.alike hK, hD⟩, hS.F ht⟩) hS.2.2 dX12_isIn_15
  · refine lv_iload_n hx hb dX12_isIn_5 rfl (lv_at hl 0 rfl) ?_
    refine lv_iload_n hx hb dX12_isIn_6 rfl (lv_at hl 2 rfl) ?_
    refine lv_icmp_gt (tgt := 14) hx hb dX12_isIn_7 (by decide) (fun c_2 => ?_) (fun c_2 => ?_)
    · refine lv_iconst (v := 0) hx hb dX12_isIn_14 (by decide) ?_
      exact W.zret (v := 0) hx hb hr (by decide) (fun t1 ht hW => ⟨⟨0, (σ, I, J, ri, rj, rq), rfl, ⟨rfl, (Or.inr ⟨rfl, bt_c2 c_2⟩)⟩, by rw [ht]; exact hP, va_K.moved hW.alike hK, hD⟩, hS.F ht⟩) hS.2.2 dX12_isIn_15
    · refine lv_iconst (v := 1) hx hb dX12_isIn_10 (by decide) ?_
      refine lv_goto (tgt := 15) hx hb dX12_isIn_11 (by decide) ?_
      exact W.zret (v := 1) hx hb hr (by decide) (fun t1 ht hW => ⟨⟨1, (σ, I, J, ri, rj, rq), rfl, ⟨rfl, (Or.inl ⟨rfl, nl_of c_1, nl_of c_2⟩)⟩, by rw [ht]; exact hP, va_K.moved hW.alike hK, hD⟩, hS.F ht⟩) hS.2.2 dX12_isIn_15

set_option maxHeartbeats 4000000 in
set_option maxRecDepth 100000 in
theorem c_X12_isMonth (l : Launch) (D : va_G) (t : pq_T) (σ : pq_S) (I : Nat → Nat → Int32) (J : Nat → Nat → Int64) (ri : Nat → Nat → Int32) (rj : Nat → Nat → Int64) (rq : Nat → Nat → Option Nat) (sz : Nat) (v : Int32) : MetI l yX12_isMonth (wa yX12_isMonth cX12_isMonth 1 (some .boolean)) ({ frames := 1, cells := 0, slots := 0, locals := 22 }) [.int v] D t σ (I, J, ri, rj, rq) sz 0 0 (fun (r : Int32) (u : pq_S × pq_M) => u = (σ, I, J, ri, rj, rq) ∧ ((r = 1 ∧ 0 ≤ v ∧ v ≤ 599) ∨ (r = 0 ∧ ¬ (0 ≤ v ∧ v ≤ 599)))) := by
  refine Met.ofW (cc := cX12_isMonth) (maxL := 1) (ret := (some .boolean)) (by decide) rfl ?_
  intro p e s m args below meth c s₁ B hml hv
  obtain ⟨rfl, hsz, hP, hK, hD0, hN⟩ := hv
  have hx := B.exec
  have hb := B.bytes
  have hr := B.returns
  have hts := atoms_spec (ws := (wa yX12_isMonth cX12_isMonth 1 (some .boolean))) B.pre
  have hown : s.vm.findClass RX12 = some m.cls := findClass_of_methodNamed B.named
  have hlocks := B.notSynchronized
  subst hsz
  have hD : va_D (pq_B t σ (I, J, ri, rj, rq) s.heap.size) (pq_P t σ (I, J, ri, rj, rq)) := hD0.self
  generalize hAe : pq_B t σ (I, J, ri, rj, rq) s.heap.size = A at hD ⊢
  have hA : ∀ q : Nat, s.heap.size ≤ q → A q := fun q h => by rw [← hAe]; exact Or.inr h
  have hS : va_S A s.heap s.heap [] := va_S.rf
  have hl := lv_entry ([.int v]) (n := 1) (Nat.le_of_ble_eq_true rfl)
  rw [lg_entry_eq]
  generalize (lg_sl ([.int v]) ++ List.replicate (1 - (lg_sl ([.int v])).length) Slot.unset).toArray = ls at hl ⊢
  have hl : lv_has ls 1 [(0, .int v)] := hl
  refine lv_iload_n hx hb dX12_isMonth_0 rfl (lv_at hl 0 rfl) ?_
  refine lv_iconst (v := 0) hx hb dX12_isMonth_1 (by decide) ?_
  refine lv_sipush (v := 599) hx hb dX12_isMonth_2 (by decide) ?_
  refine pk_i (va_runS (As := [.int v, .int 0, .int 599]) (rest := []) ⟨hx, hb, hml, hown, hts⟩ (c_X12_isIn l D t σ I J ri rj rq (Array.size s.heap) v (0 : Int32) (599 : Int32)) (va_cwS 3 hts (tw_S tw_235 tw_236 tw_5 tw_237) rfl rfl rfl (by decide +kernel) ⟨Nat.le_of_ble_eq_true rfl, Nat.le_of_ble_eq_true rfl⟩) ⟨pq_blind, pq_pre hK hN hP hD⟩ rfl rfl hl.1 rfl (lv_room (Nat.le_of_ble_eq_true rfl)) dX12_isMonth_5 ⟨Nat.le_of_ble_eq_true rfl, Nat.le_of_ble_eq_true rfl⟩) hD hS hA (fun r_1 σ1 μ1 H locs hw_2 hP hD hS => ?_)
  obtain ⟨hu_3, hr_4⟩ := hw_2
  obtain ⟨hu_3a, hu_3b⟩ := Prod.mk.inj hu_3
  rw [hu_3a, hu_3b] at hP hD
  rcases hr_4 with ⟨rfl, hr_4_0, hr_4_1⟩ | ⟨rfl, hr_4_0⟩
  · exact W.zret (v := 1) hx hb hr (by decide) (fun t1 ht hW => ⟨⟨1, (σ, I, J, ri, rj, rq), rfl, ⟨rfl, (Or.inl ⟨rfl, hr_4_0, hr_4_1⟩)⟩, by rw [ht]; exact hP, va_K.moved hW.alike hK, hD⟩, hS.F ht⟩) hS.2.2 dX12_isMonth_8
  · exact W.zret (v := 0) hx hb hr (by decide) (fun t1 ht hW => ⟨⟨0, (σ, I, J, ri, rj, rq), rfl, ⟨rfl, (Or.inr ⟨rfl, hr_4_0⟩)⟩, by rw [ht]; exact hP, va_K.moved hW.alike hK, hD⟩, hS.F ht⟩) hS.2.2 dX12_isMonth_8

set_option maxHeartbeats 4000000 in
set_option maxRecDepth 100000 in
theorem c_X12_isRise (l : Launch) (D : va_G) (t : pq_T) (σ : pq_S) (I : Nat → Nat → Int32) (J : Nat → Nat → Int64) (ri : Nat → Nat → Int32) (rj : Nat → Nat → Int64) (rq : Nat → Nat → Option Nat) (sz : Nat) (v : Int32) : MetI l yX12_isRise (wa yX12_isRise cX12_isRise 1 (some .boolean)) ({ frames := 1, cells := 0, slots := 0, locals := 22 }) [.int v] D t σ (I, J, ri, rj, rq) sz 0 0 (fun (r : Int32) (u : pq_S × pq_M) => u = (σ, I, J, ri, rj, rq) ∧ ((r = 1 ∧ 0 ≤ v ∧ v ≤ 2) ∨ (r = 0 ∧ ¬ (0 ≤ v ∧ v ≤ 2)))) := by
  refine Met.ofW (cc := cX12_isRise) (maxL := 1) (ret := (some .boolean)) (by decide) rfl ?_
  intro p e s m args below meth c s₁ B hml hv
  obtain ⟨rfl, hsz, hP, hK, hD0, hN⟩ := hv
  have hx := B.exec
  have hb := B.bytes
  have hr := B.returns
  have hts := atoms_spec (ws := (wa yX12_isRise cX12_isRise 1 (some .boolean))) B.pre
  have hown : s.vm.findClass RX12 = some m.cls := findClass_of_methodNamed B.named
  have hlocks := B.notSynchronized
  subst hsz
  have hD : va_D (pq_B t σ (I, J, ri, rj, rq) s.heap.size) (pq_P t σ (I, J, ri, rj, rq)) := hD0.self
  generalize hAe : pq_B t σ (I, J, ri, rj, rq) s.heap.size = A at hD ⊢
  have hA : ∀ q : Nat, s.heap.size ≤ q → A q := fun q h => by rw [← hAe]; exact Or.inr h
  have hS : va_S A s.heap s.heap [] := va_S.rf
  have hl := lv_entry ([.int v]) (n := 1) (Nat.le_of_ble_eq_true rfl)
  rw [lg_entry_eq]
  generalize (lg_sl ([.int v]) ++ List.replicate (1 - (lg_sl ([.int v])).length) Slot.unset).toArray = ls at hl ⊢
  have hl : lv_has ls 1 [(0, .int v)] := hl
  refine lv_iload_n hx hb dX12_isRise_0 rfl (lv_at hl 0 rfl) ?_
  refine lv_iconst (v := 0) hx hb dX12_isRise_1 (by decide) ?_
  refine lv_iconst (v := 2) hx hb dX12_isRise_2 (by decide) ?_
  refine pk_i (va_runS (As := [.int v, .int 0, .int 2]) (rest := []) ⟨hx, hb, hml, hown, hts⟩ (c_X12_isIn l D t σ I J ri rj rq (Array.size s.heap) v (0 : Int32) (2 : Int32)) (va_cwS 3 hts (tw_S tw_235 tw_236 tw_5 tw_237) rfl rfl rfl (by decide +kernel) ⟨Nat.le_of_ble_eq_true rfl, Nat.le_of_ble_eq_true rfl⟩) ⟨pq_blind, pq_pre hK hN hP hD⟩ rfl rfl hl.1 rfl (lv_room (Nat.le_of_ble_eq_true rfl)) dX12_isRise_3 ⟨Nat.le_of_ble_eq_true rfl, Nat.le_of_ble_eq_true rfl⟩) hD hS hA (fun r_1 σ1 μ1 H locs hw_2 hP hD hS => ?_)
  obtain ⟨hu_3, hr_4⟩ := hw_2
  obtain ⟨hu_3a, hu_3b⟩ := Prod.mk.inj hu_3
  rw [hu_3a, hu_3b] at hP hD
  rcases hr_4 with ⟨rfl, hr_4_0, hr_4_1⟩ | ⟨rfl, hr_4_0⟩
  · exact W.zret (v := 1) hx hb hr (by decide) (fun t1 ht hW => ⟨⟨1, (σ, I, J, ri, rj, rq), rfl, ⟨rfl, (Or.inl ⟨rfl, hr_4_0, hr_4_1⟩)⟩, by rw [ht]; exact hP, va_K.moved hW.alike hK, hD⟩, hS.F ht⟩) hS.2.2 dX12_isRise_6
  · exact W.zret (v := 0) hx hb hr (by decide) (fun t1 ht hW => ⟨⟨0, (σ, I, J, ri, rj, rq), rfl, ⟨rfl, (Or.inr ⟨rfl, hr_4_0⟩)⟩, by rw [ht]; exact hP, va_K.moved hW.alike hK, hD⟩, hS.F ht⟩) hS.2.2 dX12_isRise_6

set_option maxHeartbeats 4000000 in
set_option maxRecDepth 100000 in
theorem c_X12_isRing (l : Launch) (D : va_G) (t : pq_T) (σ : pq_S) (I : Nat → Nat → Int32) (J : Nat → Nat → Int64) (ri : Nat → Nat → Int32) (rj : Nat → Nat → Int64) (rq : Nat → Nat → Option Nat) (sz : Nat) (this : Nat) (v : Int32) (hL_this : this ∈ σ.1) (hK_this : σ.2.1 this = 12) (this_a : Nat) (hR_this_a : σ.2.2.1 384 this = some this_a) (hL_this_a : this_a ∈ σ.1) (hK_this_a : σ.2.1 this_a = 13) (hN_this_a : σ.2.2.2 this_a = 12720) (k : Nat) (hk : k < 600) (hF : fm (ri this_a) k) : MetI l yX12_isRing (wa yX12_isRing cX12_isRing 2 (some .boolean)) ({ frames := 1, cells := 0, slots := 0, locals := 22 }) [.ref this, .int v] D t σ (I, J, ri, rj, rq) sz 0 0 (fun (r : Int32) (u : pq_S × pq_M) => u = (σ, I, J, ri, rj, rq) ∧ ((r = 0))) := by
  refine Met.ofW (cc := cX12_isRing) (maxL := 2) (ret := (some .boolean)) (by decide) rfl ?_
  intro p e s m args below meth c s₁ B hml hv
  obtain ⟨rfl, hsz, hP, hK, hD0, hN⟩ := hv
  have hx := B.exec
  have hb := B.bytes
  have hr := B.returns
  have hts := atoms_spec (ws := (wa yX12_isRing cX12_isRing 2 (some .boolean))) B.pre
  have hown : s.vm.findClass RX12 = some m.cls := findClass_of_methodNamed B.named
  have hlocks := B.notSynchronized
  subst hsz
  have hD : va_D (pq_B t σ (I, J, ri, rj, rq) s.heap.size) (pq_P t σ (I, J, ri, rj, rq)) := hD0.self
  generalize hAe : pq_B t σ (I, J, ri, rj, rq) s.heap.size = A at hD ⊢
  have hA : ∀ q : Nat, s.heap.size ≤ q → A q := fun q h => by rw [← hAe]; exact Or.inr h
  have hS : va_S A s.heap s.heap [] := va_S.rf
  have hl := lv_entry ([.ref this, .int v]) (n := 2) (Nat.le_of_ble_eq_true rfl)
  rw [lg_entry_eq]
  generalize (lg_sl ([.ref this, .int v]) ++ List.replicate (2 - (lg_sl ([.ref this, .int v])).length) Slot.unset).toArray = ls at hl ⊢
  have hl : lv_has ls 2 [(0, .ref this), (1, .int v)] := hl
  refine lv_iload_n hx hb dX12_isRing_0 rfl (lv_at hl 1 rfl) ?_
  refine lv_iconst (v := 0) hx hb dX12_isRing_1 (by decide) ?_
  refine lv_aload_n hx hb dX12_isRing_2 rfl (lv_at hl 0 rfl) ?_
  refine pg_f (v := .ref this_a) (C := RX12) (T := TX12) (N := 31) hx hb hts (tw_i inlX12) hown hK hP hL_this hK_this (by decide) rfl 0 (by decide) (hts _ (tw_c tw_176)) (pq_hv rfl hR_this_a) dX12_isRing_3 ?_
  refine lv_iconst (v := 1) hx hb dX12_isRing_6 (by decide) ?_
  refine pl_i hx hb hK hP hL_this_a hK_this_a hN_this_a (vp_in_iff.mpr (by decide)) dX12_isRing_7 ?_
  refine lv_tov 0 (fm_at hF 1 (v := 0) (by decide)) ?_
  refine lv_iconst (v := 1) hx hb dX12_isRing_8 (by decide) ?_
  refine lv_isub hx hb dX12_isRing_9 ?_
  refine lv_tov (-1) (by decide) ?_
  refine pk_i (va_runS (As := [.int v, .int 0, .int (-1)]) (rest := []) ⟨hx, hb, hml, hown, hts⟩ (c_X12_isIn l D t σ I J ri rj rq (Array.size s.heap) v (0 : Int32) (-1 : Int32)) (va_cwS 3 hts (tw_S tw_235 tw_236 tw_5 tw_237) rfl rfl rfl (by decide +kernel) ⟨Nat.le_of_ble_eq_true rfl, Nat.le_of_ble_eq_true rfl⟩) ⟨pq_blind, pq_pre hK hN hP hD⟩ rfl rfl hl.1 rfl (lv_room (Nat.le_of_ble_eq_true rfl)) dX12_isRing_10 ⟨Nat.le_of_ble_eq_true rfl, Nat.le_of_ble_eq_true rfl⟩) hD hS hA (fun r_1 σ1 μ1 H locs hw_2 hP hD hS => ?_)
  obtain ⟨hu_3, hr_4⟩ := hw_2
  obtain ⟨hu_3a, hu_3b⟩ := Prod.mk.inj hu_3
  rw [hu_3a, hu_3b] at hP hD
  rcases hr_4 with ⟨rfl, hr_4_0, hr_4_1⟩ | ⟨rfl, hr_4_0⟩
  · exact (bt_no hr_4_0 hr_4_1 (by decide)).elim
  · exact W.zret (v := 0) hx hb hr (by decide) (fun t1 ht hW => ⟨⟨0, (σ, I, J, ri, rj, rq), rfl, ⟨rfl, rfl⟩, by rw [ht]; exact hP, va_K.moved hW.alike hK, hD⟩, hS.F ht⟩) hS.2.2 dX12_isRing_13

set_option maxHeartbeats 4000000 in
set_option maxRecDepth 100000 in
theorem c_X12_isCell (l : Launch) (D : va_G) (t : pq_T) (σ : pq_S) (I : Nat → Nat → Int32) (J : Nat → Nat → Int64) (ri : Nat → Nat → Int32) (rj : Nat → Nat → Int64) (rq : Nat → Nat → Option Nat) (sz : Nat) (this : Nat) (v : Int32) (hL_this : this ∈ σ.1) (hK_this : σ.2.1 this = 12) (this_a : Nat) (hR_this_a : σ.2.2.1 384 this = some this_a) (hL_this_a : this_a ∈ σ.1) (hK_this_a : σ.2.1 this_a = 13) (hN_this_a : σ.2.2.2 this_a = 12720) (k : Nat) (hk : k < 600) (hF : fm (ri this_a) k) : MetI l yX12_isCell (wa yX12_isCell cX12_isCell 2 (some .boolean)) ({ frames := 1, cells := 0, slots := 0, locals := 22 }) [.ref this, .int v] D t σ (I, J, ri, rj, rq) sz 0 0 (fun (r : Int32) (u : pq_S × pq_M) => u = (σ, I, J, ri, rj, rq) ∧ ((r = 0))) := by
  refine Met.ofW (cc := cX12_isCell) (maxL := 2) (ret := (some .boolean)) (by decide) rfl ?_
  intro p e s m args below meth c s₁ B hml hv
  obtain ⟨rfl, hsz, hP, hK, hD0, hN⟩ := hv
  have hx := B.exec
  have hb := B.bytes
  have hr := B.returns
  have hts := atoms_spec (ws := (wa yX12_isCell cX12_isCell 2 (some .boolean))) B.pre
  have hown : s.vm.findClass RX12 = some m.cls := findClass_of_methodNamed B.named
  have hlocks := B.notSynchronized
  subst hsz
  have hD : va_D (pq_B t σ (I, J, ri, rj, rq) s.heap.size) (pq_P t σ (I, J, ri, rj, rq)) := hD0.self
  generalize hAe : pq_B t σ (I, J, ri, rj, rq) s.heap.size = A at hD ⊢
  have hA : ∀ q : Nat, s.heap.size ≤ q → A q := fun q h => by rw [← hAe]; exact Or.inr h
  have hS : va_S A s.heap s.heap [] := va_S.rf
  have hl := lv_entry ([.ref this, .int v]) (n := 2) (Nat.le_of_ble_eq_true rfl)
  rw [lg_entry_eq]
  generalize (lg_sl ([.ref this, .int v]) ++ List.replicate (2 - (lg_sl ([.ref this, .int v])).length) Slot.unset).toArray = ls at hl ⊢
  have hl : lv_has ls 2 [(0, .ref this), (1, .int v)] := hl
  refine lv_iload_n hx hb dX12_isCell_0 rfl (lv_at hl 1 rfl) ?_
  refine lv_iconst (v := 0) hx hb dX12_isCell_1 (by decide) ?_
  refine lv_aload_n hx hb dX12_isCell_2 rfl (lv_at hl 0 rfl) ?_
  refine pg_f (v := .ref this_a) (C := RX12) (T := TX12) (N := 31) hx hb hts (tw_i inlX12) hown hK hP hL_this hK_this (by decide) rfl 0 (by decide) (hts _ (tw_c tw_176)) (pq_hv rfl hR_this_a) dX12_isCell_3 ?_
  refine lv_iconst (v := 2) hx hb dX12_isCell_6 (by decide) ?_
  refine pl_i hx hb hK hP hL_this_a hK_this_a hN_this_a (vp_in_iff.mpr (by decide)) dX12_isCell_7 ?_
  refine lv_tov 0 (fm_at hF 2 (v := 0) (by decide)) ?_
  refine lv_iconst (v := 1) hx hb dX12_isCell_8 (by decide) ?_
  refine lv_isub hx hb dX12_isCell_9 ?_
  refine lv_tov (-1) (by decide) ?_
  refine pk_i (va_runS (As := [.int v, .int 0, .int (-1)]) (rest := []) ⟨hx, hb, hml, hown, hts⟩ (c_X12_isIn l D t σ I J ri rj rq (Array.size s.heap) v (0 : Int32) (-1 : Int32)) (va_cwS 3 hts (tw_S tw_235 tw_236 tw_5 tw_237) rfl rfl rfl (by decide +kernel) ⟨Nat.le_of_ble_eq_true rfl, Nat.le_of_ble_eq_true rfl⟩) ⟨pq_blind, pq_pre hK hN hP hD⟩ rfl rfl hl.1 rfl (lv_room (Nat.le_of_ble_eq_true rfl)) dX12_isCell_10 ⟨Nat.le_of_ble_eq_true rfl, Nat.le_of_ble_eq_true rfl⟩) hD hS hA (fun r_1 σ1 μ1 H locs hw_2 hP hD hS => ?_)
  obtain ⟨hu_3, hr_4⟩ := hw_2
  obtain ⟨hu_3a, hu_3b⟩ := Prod.mk.inj hu_3
  rw [hu_3a, hu_3b] at hP hD
  rcases hr_4 with ⟨rfl, hr_4_0, hr_4_1⟩ | ⟨rfl, hr_4_0⟩
  · exact (bt_no hr_4_0 hr_4_1 (by decide)).elim
  · exact W.zret (v := 0) hx hb hr (by decide) (fun t1 ht hW => ⟨⟨0, (σ, I, J, ri, rj, rq), rfl, ⟨rfl, rfl⟩, by rw [ht]; exact hP, va_K.moved hW.alike hK, hD⟩, hS.F ht⟩) hS.2.2 dX12_isCell_13

set_option maxHeartbeats 4000000 in
set_option maxRecDepth 100000 in
theorem c_X12_isPerson (l : Launch) (D : va_G) (t : pq_T) (σ : pq_S) (I : Nat → Nat → Int32) (J : Nat → Nat → Int64) (ri : Nat → Nat → Int32) (rj : Nat → Nat → Int64) (rq : Nat → Nat → Option Nat) (sz : Nat) (this : Nat) (v : Int32) (hL_this : this ∈ σ.1) (hK_this : σ.2.1 this = 12) (this_a : Nat) (hR_this_a : σ.2.2.1 384 this = some this_a) (hL_this_a : this_a ∈ σ.1) (hK_this_a : σ.2.1 this_a = 13) (hN_this_a : σ.2.2.2 this_a = 12720) (k : Nat) (hk : k < 600) (hF : fm (ri this_a) k) : MetI l yX12_isPerson (wa yX12_isPerson cX12_isPerson 2 (some .boolean)) ({ frames := 1, cells := 0, slots := 0, locals := 22 }) [.ref this, .int v] D t σ (I, J, ri, rj, rq) sz 0 0 (fun (r : Int32) (u : pq_S × pq_M) => u = (σ, I, J, ri, rj, rq) ∧ ((r = 0))) := by
  refine Met.ofW (cc := cX12_isPerson) (maxL := 2) (ret := (some .boolean)) (by decide) rfl ?_
  intro p e s m args below meth c s₁ B hml hv
  obtain ⟨rfl, hsz, hP, hK, hD0, hN⟩ := hv
  have hx := B.exec
  have hb := B.bytes
  have hr := B.returns
  have hts := atoms_spec (ws := (wa yX12_isPerson cX12_isPerson 2 (some .boolean))) B.pre
  have hown : s.vm.findClass RX12 = some m.cls := findClass_of_methodNamed B.named
  have hlocks := B.notSynchronized
  subst hsz
  have hD : va_D (pq_B t σ (I, J, ri, rj, rq) s.heap.size) (pq_P t σ (I, J, ri, rj, rq)) := hD0.self
  generalize hAe : pq_B t σ (I, J, ri, rj, rq) s.heap.size = A at hD ⊢
  have hA : ∀ q : Nat, s.heap.size ≤ q → A q := fun q h => by rw [← hAe]; exact Or.inr h
  have hS : va_S A s.heap s.heap [] := va_S.rf
  have hl := lv_entry ([.ref this, .int v]) (n := 2) (Nat.le_of_ble_eq_true rfl)
  rw [lg_entry_eq]
  generalize (lg_sl ([.ref this, .int v]) ++ List.replicate (2 - (lg_sl ([.ref this, .int v])).length) Slot.unset).toArray = ls at hl ⊢
  have hl : lv_has ls 2 [(0, .ref this), (1, .int v)] := hl
  refine lv_iload_n hx hb dX12_isPerson_0 rfl (lv_at hl 1 rfl) ?_
  refine lv_iconst (v := 0) hx hb dX12_isPerson_1 (by decide) ?_
  refine lv_aload_n hx hb dX12_isPerson_2 rfl (lv_at hl 0 rfl) ?_
  refine pg_f (v := .ref this_a) (C := RX12) (T := TX12) (N := 31) hx hb hts (tw_i inlX12) hown hK hP hL_this hK_this (by decide) rfl 0 (by decide) (hts _ (tw_c tw_176)) (pq_hv rfl hR_this_a) dX12_isPerson_3 ?_
  refine lv_iconst (v := 5) hx hb dX12_isPerson_6 (by decide) ?_
  refine pl_i hx hb hK hP hL_this_a hK_this_a hN_this_a (vp_in_iff.mpr (by decide)) dX12_isPerson_7 ?_
  refine lv_tov 0 (fm_at hF 5 (v := 0) (by decide)) ?_
  refine lv_iconst (v := 1) hx hb dX12_isPerson_8 (by decide) ?_
  refine lv_isub hx hb dX12_isPerson_9 ?_
  refine lv_tov (-1) (by decide) ?_
  refine pk_i (va_runS (As := [.int v, .int 0, .int (-1)]) (rest := []) ⟨hx, hb, hml, hown, hts⟩ (c_X12_isIn l D t σ I J ri rj rq (Array.size s.heap) v (0 : Int32) (-1 : Int32)) (va_cwS 3 hts (tw_S tw_235 tw_236 tw_5 tw_237) rfl rfl rfl (by decide +kernel) ⟨Nat.le_of_ble_eq_true rfl, Nat.le_of_ble_eq_true rfl⟩) ⟨pq_blind, pq_pre hK hN hP hD⟩ rfl rfl hl.1 rfl (lv_room (Nat.le_of_ble_eq_true rfl)) dX12_isPerson_10 ⟨Nat.le_of_ble_eq_true rfl, Nat.le_of_ble_eq_true rfl⟩) hD hS hA (fun r_1 σ1 μ1 H locs hw_2 hP hD hS => ?_)
  obtain ⟨hu_3, hr_4⟩ := hw_2
  obtain ⟨hu_3a, hu_3b⟩ := Prod.mk.inj hu_3
  rw [hu_3a, hu_3b] at hP hD
  rcases hr_4 with ⟨rfl, hr_4_0, hr_4_1⟩ | ⟨rfl, hr_4_0⟩
  · exact (bt_no hr_4_0 hr_4_1 (by decide)).elim
  · exact W.zret (v := 0) hx hb hr (by decide) (fun t1 ht hW => ⟨⟨0, (σ, I, J, ri, rj, rq), rfl, ⟨rfl, rfl⟩, by rw [ht]; exact hP, va_K.moved hW.alike hK, hD⟩, hS.F ht⟩) hS.2.2 dX12_isPerson_13

set_option maxHeartbeats 4000000 in
set_option maxRecDepth 100000 in
theorem c_X12_isLot (l : Launch) (D : va_G) (t : pq_T) (σ : pq_S) (I : Nat → Nat → Int32) (J : Nat → Nat → Int64) (ri : Nat → Nat → Int32) (rj : Nat → Nat → Int64) (rq : Nat → Nat → Option Nat) (sz : Nat) (this : Nat) (v : Int32) (hL_this : this ∈ σ.1) (hK_this : σ.2.1 this = 12) (this_a : Nat) (hR_this_a : σ.2.2.1 384 this = some this_a) (hL_this_a : this_a ∈ σ.1) (hK_this_a : σ.2.1 this_a = 13) (hN_this_a : σ.2.2.2 this_a = 12720) (k : Nat) (hk : k < 600) (hF : fm (ri this_a) k) : MetI l yX12_isLot (wa yX12_isLot cX12_isLot 2 (some .boolean)) ({ frames := 1, cells := 0, slots := 0, locals := 22 }) [.ref this, .int v] D t σ (I, J, ri, rj, rq) sz 0 0 (fun (r : Int32) (u : pq_S × pq_M) => u = (σ, I, J, ri, rj, rq) ∧ ((r = 0))) := by
  refine Met.ofW (cc := cX12_isLot) (maxL := 2) (ret := (some .boolean)) (by decide) rfl ?_
  intro p e s m args below meth c s₁ B hml hv
  obtain ⟨rfl, hsz, hP, hK, hD0, hN⟩ := hv
  have hx := B.exec
  have hb := B.bytes
  have hr := B.returns
  have hts := atoms_spec (ws := (wa yX12_isLot cX12_isLot 2 (some .boolean))) B.pre
  have hown : s.vm.findClass RX12 = some m.cls := findClass_of_methodNamed B.named
  have hlocks := B.notSynchronized
  subst hsz
  have hD : va_D (pq_B t σ (I, J, ri, rj, rq) s.heap.size) (pq_P t σ (I, J, ri, rj, rq)) := hD0.self
  generalize hAe : pq_B t σ (I, J, ri, rj, rq) s.heap.size = A at hD ⊢
  have hA : ∀ q : Nat, s.heap.size ≤ q → A q := fun q h => by rw [← hAe]; exact Or.inr h
  have hS : va_S A s.heap s.heap [] := va_S.rf
  have hl := lv_entry ([.ref this, .int v]) (n := 2) (Nat.le_of_ble_eq_true rfl)
  rw [lg_entry_eq]
  generalize (lg_sl ([.ref this, .int v]) ++ List.replicate (2 - (lg_sl ([.ref this, .int v])).length) Slot.unset).toArray = ls at hl ⊢
  have hl : lv_has ls 2 [(0, .ref this), (1, .int v)] := hl
  refine lv_iload_n hx hb dX12_isLot_0 rfl (lv_at hl 1 rfl) ?_
  refine lv_bipush (v := 100) hx hb dX12_isLot_1 (by decide) ?_
  refine lv_bipush (v := 100) hx hb dX12_isLot_3 (by decide) ?_
  refine lv_aload_n hx hb dX12_isLot_5 rfl (lv_at hl 0 rfl) ?_
  refine pg_f (v := .ref this_a) (C := RX12) (T := TX12) (N := 31) hx hb hts (tw_i inlX12) hown hK hP hL_this hK_this (by decide) rfl 0 (by decide) (hts _ (tw_c tw_176)) (pq_hv rfl hR_this_a) dX12_isLot_6 ?_
  refine lv_iconst (v := 4) hx hb dX12_isLot_9 (by decide) ?_
  refine pl_i hx hb hK hP hL_this_a hK_this_a hN_this_a (vp_in_iff.mpr (by decide)) dX12_isLot_10 ?_
  refine lv_tov 0 (fm_at hF 4 (v := 0) (by decide)) ?_
  refine lv_iadd hx hb dX12_isLot_11 ?_
  refine lv_tov 100 (by decide) ?_
  refine lv_iconst (v := 1) hx hb dX12_isLot_12 (by decide) ?_
  refine lv_isub hx hb dX12_isLot_13 ?_
  refine lv_tov 99 (by decide) ?_
  refine pk_i (va_runS (As := [.int v, .int 100, .int 99]) (rest := []) ⟨hx, hb, hml, hown, hts⟩ (c_X12_isIn l D t σ I J ri rj rq (Array.size s.heap) v (100 : Int32) (99 : Int32)) (va_cwS 3 hts (tw_S tw_235 tw_236 tw_5 tw_237) rfl rfl rfl (by decide +kernel) ⟨Nat.le_of_ble_eq_true rfl, Nat.le_of_ble_eq_true rfl⟩) ⟨pq_blind, pq_pre hK hN hP hD⟩ rfl rfl hl.1 rfl (lv_room (Nat.le_of_ble_eq_true rfl)) dX12_isLot_14 ⟨Nat.le_of_ble_eq_true rfl, Nat.le_of_ble_eq_true rfl⟩) hD hS hA (fun r_1 σ1 μ1 H locs hw_2 hP hD hS => ?_)
  obtain ⟨hu_3, hr_4⟩ := hw_2
  obtain ⟨hu_3a, hu_3b⟩ := Prod.mk.inj hu_3
  rw [hu_3a, hu_3b] at hP hD
  rcases hr_4 with ⟨rfl, hr_4_0, hr_4_1⟩ | ⟨rfl, hr_4_0⟩
  · exact (bt_no hr_4_0 hr_4_1 (by decide)).elim
  · exact W.zret (v := 0) hx hb hr (by decide) (fun t1 ht hW => ⟨⟨0, (σ, I, J, ri, rj, rq), rfl, ⟨rfl, rfl⟩, by rw [ht]; exact hP, va_K.moved hW.alike hK, hD⟩, hS.F ht⟩) hS.2.2 dX12_isLot_17

set_option maxHeartbeats 4000000 in
set_option maxRecDepth 100000 in
theorem lp_X12_copy_2 (l : Launch) (D : va_G) (t : pq_T) (σ : pq_S) (I : Nat → Nat → Int32) (J : Nat → Nat → Int64) (ri : Nat → Nat → Int32) (rj : Nat → Nat → Int64) (rq : Nat → Nat → Option Nat) (fr : Nat) (to : Nat) (n_a : Nat) (hL_fr : fr ∈ σ.1) (hK_fr : σ.2.1 fr = 13) (hN_fr : σ.2.2.2 fr = n_a) (hL_to : to ∈ σ.1) (hK_to : σ.2.1 to = 13) (hN_to : σ.2.2.2 to = n_a) (hn : n_a = 12720) (hab : fr ≠ to) {p : Program} {e : Env} {s : State} {m : MethodId} {args : Array Value} {below : List Frame} {meth : Method} {c : Code} {cells slots : Nat} {Q : State → Prop} {A : Nat → Prop} (hx : p.tables.exec = Jvm.exec) (hb : c.code = cX12_copy) (hml : c.maxLocals = 3) (hts : ∀ w ∈ (wa yX12_copy cX12_copy 3 none), w.before args s = true) (hown : s.vm.findClass RX12 = some m.cls) (hK : va_K D vwCl (pq_ty t) s) (hN : pq_N s) (hA : ∀ q : Nat, s.heap.size ≤ q → A q) (hcs : cells = 0 ∧ slots = 0)
    (kk : ∀ (i : Nat) (ri' : Nat → Nat → Int32) (H : Heap) (locs : List Loc) (ls : Array Slot), (i ≤ 12720) → ((∀ j, j < i → ri' to j = ri fr j) ∧ ∀ b, b ≠ to → ri' b = ri b) → (12720 ≤ i) → va_P D vwCl (pq_P t σ (I, J, ri', rj, rq)) H → va_D A (pq_P t σ (I, J, ri', rj, rq)) → va_S A s.heap H locs → lv_has ls 3 [(2, .int (nI i)), (0, .ref fr), (1, .ref to)] → W p l e ({ frames := 0, cells := 0, slots := 0, locals := 0 } : Room) s m args below meth c H locs cells slots Q (F0 m 21 ls [])) :
    ∀ (n : Nat) (i : Nat) (ri' : Nat → Nat → Int32) (H : Heap) (locs : List Loc) (ls : Array Slot), (i ≤ 12720) → ((∀ j, j < i → ri' to j = ri fr j) ∧ ∀ b, b ≠ to → ri' b = ri b) → (12720 - i) < n → va_P D vwCl (pq_P t σ (I, J, ri', rj, rq)) H → va_D A (pq_P t σ (I, J, ri', rj, rq)) → va_S A s.heap H locs → lv_has ls 3 [(2, .int (nI i)), (0, .ref fr), (1, .ref to)] → W p l e ({ frames := 0, cells := 0, slots := 0, locals := 0 } : Room) s m args below meth c H locs cells slots Q (F0 m 2 ls []) := by
  obtain ⟨rfl, rfl⟩ := hcs
  intro n
  induction n with
  | zero => intro i ri' H locs ls hi hf hm; exact absurd hm (Nat.not_lt_zero _)
  | succ n ih =>
    intro i ri' H locs ls hi hf hm hP hD hS hl
    refine lv_iload_n hx hb dX12_copy_2 rfl (lv_at hl 0 rfl) ?_
    refine lv_sipush (v := 12720) hx hb dX12_copy_3 (by decide) ?_
    refine lv_icmp_ge (tgt := 21) hx hb dX12_copy_6 (by decide) (fun c_1 => ?_) (fun c_1 => ?_)
    · have nc_1 := nq_le (a := 12720) (b := i) (by omega) (by omega) c_1
      exact kk i ri' _ _ _ hi hf nc_1 hP hD hS (lv_sub hl [0, 1, 2] rfl)
    · have nc_1 := nq_nle (a := 12720) (b := i) (by omega) (by omega) c_1
      refine lv_aload_n hx hb dX12_copy_9 rfl (lv_at hl 2 rfl) ?_
      refine lv_iload_n hx hb dX12_copy_10 rfl (lv_at hl 0 rfl) ?_
      refine lv_aload_n hx hb dX12_copy_11 rfl (lv_at hl 1 rfl) ?_
      refine lv_iload_n hx hb dX12_copy_12 rfl (lv_at hl 0 rfl) ?_
      refine pl_i hx hb hK hP hL_fr hK_fr hN_fr (nI_in (c := i) (by omega) (by omega)) dX12_copy_13 ?_
      refine lv_topi (fun x_2 ex_2 => ?_)
      refine pt_i hx hb hK hP hD hS hL_to hK_to hN_to (nI_in (c := i) (by omega) (by omega)) dX12_copy_14 (fun r_3 H locs er_3 hP hD hS => ?_)
      refine lv_iinc (v := (nI (i + 1))) (lv' := [(2, .int (nI (i + 1))), (0, .ref fr), (1, .ref to)]) hx hb dX12_copy_15 hl (k := 0) rfl (nI_1 i) (by decide) rfl (fun ls hl => ?_)
      refine lv_goto (tgt := 2) hx hb dX12_copy_18 (by decide) ?_
      exact ih (i + 1) r_3 _ _ _ (by omega) (pq_c1 hab hf (by omega) (by rw [ex_2] at er_3; exact er_3)) (by omega) hP hD hS (lv_sub hl [0, 1, 2] rfl)

set_option maxHeartbeats 4000000 in
set_option maxRecDepth 100000 in
theorem c_X12_copy (l : Launch) (D : va_G) (t : pq_T) (σ : pq_S) (I : Nat → Nat → Int32) (J : Nat → Nat → Int64) (ri : Nat → Nat → Int32) (rj : Nat → Nat → Int64) (rq : Nat → Nat → Option Nat) (sz : Nat) (fr : Nat) (to : Nat) (n_a : Nat) (hL_fr : fr ∈ σ.1) (hK_fr : σ.2.1 fr = 13) (hN_fr : σ.2.2.2 fr = n_a) (hL_to : to ∈ σ.1) (hK_to : σ.2.1 to = 13) (hN_to : σ.2.2.2 to = n_a) (hn : n_a = 12720) (hab : fr ≠ to) : MetV l yX12_copy (wa yX12_copy cX12_copy 3 none) ({ frames := 0, cells := 0, slots := 0, locals := 0 }) [.ref fr, .ref to] D t σ (I, J, ri, rj, rq) sz 0 0 (fun (u : pq_S × pq_M) => ∃ ri' : Nat → Nat → Int32, u = (σ, I, J, ri', rj, rq) ∧ ((∀ j, j < 12720 → ri' to j = ri fr j) ∧ ∀ b, b ≠ to → ri' b = ri b)) := by
  refine Met.ofW (cc := cX12_copy) (maxL := 3) (ret := none) (by decide) rfl ?_
  intro p e s m args below meth c s₁ B hml hv
  obtain ⟨rfl, hsz, hP, hK, hD0, hN⟩ := hv
  have hx := B.exec
  have hb := B.bytes
  have hr := B.returns
  have hts := atoms_spec (ws := (wa yX12_copy cX12_copy 3 none)) B.pre
  have hown : s.vm.findClass RX12 = some m.cls := findClass_of_methodNamed B.named
  have hlocks := B.notSynchronized
  subst hsz
  have hD : va_D (pq_B t σ (I, J, ri, rj, rq) s.heap.size) (pq_P t σ (I, J, ri, rj, rq)) := hD0.self
  generalize hAe : pq_B t σ (I, J, ri, rj, rq) s.heap.size = A at hD ⊢
  have hA : ∀ q : Nat, s.heap.size ≤ q → A q := fun q h => by rw [← hAe]; exact Or.inr h
  have hS : va_S A s.heap s.heap [] := va_S.rf
  have hl := lv_entry ([.ref fr, .ref to]) (n := 3) (Nat.le_of_ble_eq_true rfl)
  rw [lg_entry_eq]
  generalize (lg_sl ([.ref fr, .ref to]) ++ List.replicate (3 - (lg_sl ([.ref fr, .ref to])).length) Slot.unset).toArray = ls at hl ⊢
  have hl : lv_has ls 3 [(0, .ref fr), (1, .ref to)] := hl
  refine lv_iconst (v := 0) hx hb dX12_copy_0 (by decide) ?_
  refine lv_istore_n (lv' := [(2, .int 0), (0, .ref fr), (1, .ref to)]) hx hb dX12_copy_1 rfl hl (by decide) rfl (fun ls hl => ?_)
  refine lp_X12_copy_2 l D t σ I J ri rj rq fr to n_a hL_fr hK_fr hN_fr hL_to hK_to hN_to hn hab hx hb hml hts hown hK hN hA ⟨rfl, rfl⟩ (fun i_2 ri_1 H locs ls hi_3 hf_4 hx1_5 hP hD hS hl => ?_) _ 0 ri _ _ _ (Nat.zero_le _) ⟨fun j hj => absurd hj (Nat.not_lt_zero _), fun _ _ => rfl⟩ (Nat.lt_succ_self _) hP hD hS (lv_sub hl [0, 1, 2] rfl)
  exact W.vret hx hb hr (fun t1 ht hW => ⟨⟨(σ, I, J, ri_1, rj, rq), rfl, ⟨ri_1, rfl, ⟨fun j hj => hf_4.1 j (by omega), hf_4.2⟩⟩, by rw [ht]; exact hP, va_K.moved hW.alike hK, hD⟩, hS.F ht⟩) hS.2.2 dX12_copy_21
