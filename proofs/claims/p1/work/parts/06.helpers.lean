theorem dX11_between_0 : decode cX11_between 0 = .ok (.iload_n 0, 1) := by decide +kernel
theorem dX11_between_1 : decode cX11_between 1 = .ok (.iload_n 1, 1) := by decide +kernel
theorem dX11_between_2 : decode cX11_between 2 = .ok (.if_icmp .lt 12, 3) := by decide +kernel
theorem dX11_between_14 : decode cX11_between 14 = .ok (.iconst 0, 1) := by decide +kernel
theorem dX11_between_15 : decode cX11_between 15 = .ok (.ireturn, 1) := by decide +kernel
theorem dX11_between_5 : decode cX11_between 5 = .ok (.iload_n 0, 1) := by decide +kernel
theorem dX11_between_6 : decode cX11_between 6 = .ok (.iload_n 2, 1) := by decide +kernel
theorem dX11_between_7 : decode cX11_between 7 = .ok (.if_icmp .gt 7, 3) := by decide +kernel
theorem dX11_between_10 : decode cX11_between 10 = .ok (.iconst 1, 1) := by decide +kernel
theorem dX11_between_11 : decode cX11_between 11 = .ok (.goto 4, 3) := by decide +kernel
theorem dX11_isRise_0 : decode cX11_isRise 0 = .ok (.iload_n 0, 1) := by decide +kernel
theorem dX11_isRise_1 : decode cX11_isRise 1 = .ok (.iconst 0, 1) := by decide +kernel
theorem dX11_isRise_2 : decode cX11_isRise 2 = .ok (.iconst 2, 1) := by decide +kernel
theorem tw_215 : Cond.methodLink RX11 50 yX11_between ∈ wsL_law := List.mem_of_getElem? (i := 215) (by decide +kernel)
theorem tw_216 : Cond.static yX11_between ∈ wsL_law := List.mem_of_getElem? (i := 216) (by decide +kernel)
theorem tw_2 : Cond.initialized RX11 ∈ wsL_law := List.mem_of_getElem? (i := 2) (by decide +kernel)
theorem tw_217 : Cond.code yX11_between cX11_between 3 (some .boolean) ∈ wsL_law := List.mem_of_getElem? (i := 217) (by decide +kernel)
theorem dX11_isRise_3 : decode cX11_isRise 3 = .ok (.invokestatic 50, 3) := by decide +kernel
theorem dX11_isRise_6 : decode cX11_isRise 6 = .ok (.ireturn, 1) := by decide +kernel
theorem dX11_isMonth_0 : decode cX11_isMonth 0 = .ok (.iload_n 0, 1) := by decide +kernel
theorem dX11_isMonth_1 : decode cX11_isMonth 1 = .ok (.iconst 0, 1) := by decide +kernel
theorem dX11_isMonth_2 : decode cX11_isMonth 2 = .ok (.sipush 599, 3) := by decide +kernel
theorem dX11_isMonth_5 : decode cX11_isMonth 5 = .ok (.invokestatic 50, 3) := by decide +kernel
theorem dX11_isMonth_8 : decode cX11_isMonth 8 = .ok (.ireturn, 1) := by decide +kernel
theorem dX11_isRing_0 : decode cX11_isRing 0 = .ok (.iload_n 1, 1) := by decide +kernel
theorem dX11_isRing_1 : decode cX11_isRing 1 = .ok (.iconst 0, 1) := by decide +kernel
theorem dX11_isRing_2 : decode cX11_isRing 2 = .ok (.aload_n 0, 1) := by decide +kernel
theorem tw_16 : Cond.fieldLink RX11 10 "RingsUnder" "now" "LRingsUnder$World;" ∈ wsL_law := List.mem_of_getElem? (i := 16) (by decide +kernel)
theorem dX11_isRing_3 : decode cX11_isRing 3 = .ok (.getfield 10, 3) := by decide +kernel
theorem tw_199 : Cond.fieldLink RX11 36 "RingsUnder$World" "land" "LRingsUnder$Land;" ∈ wsL_law := List.mem_of_getElem? (i := 199) (by decide +kernel)
theorem dX11_isRing_6 : decode cX11_isRing 6 = .ok (.getfield 36, 3) := by decide +kernel
theorem tw_200 : Cond.fieldLink RX11 40 "RingsUnder$Land" "rings" "I" ∈ wsL_law := List.mem_of_getElem? (i := 200) (by decide +kernel)
theorem dX11_isRing_9 : decode cX11_isRing 9 = .ok (.getfield 40, 3) := by decide +kernel
theorem dX11_isRing_12 : decode cX11_isRing 12 = .ok (.iconst 1, 1) := by decide +kernel
theorem dX11_isRing_13 : decode cX11_isRing 13 = .ok (.isub, 1) := by decide +kernel
theorem dX11_isRing_14 : decode cX11_isRing 14 = .ok (.invokestatic 50, 3) := by decide +kernel
theorem dX11_isRing_17 : decode cX11_isRing 17 = .ok (.ireturn, 1) := by decide +kernel
theorem dX11_isCell_0 : decode cX11_isCell 0 = .ok (.iload_n 1, 1) := by decide +kernel
theorem dX11_isCell_1 : decode cX11_isCell 1 = .ok (.iconst 0, 1) := by decide +kernel
theorem dX11_isCell_2 : decode cX11_isCell 2 = .ok (.aload_n 0, 1) := by decide +kernel
theorem dX11_isCell_3 : decode cX11_isCell 3 = .ok (.getfield 10, 3) := by decide +kernel
theorem dX11_isCell_6 : decode cX11_isCell 6 = .ok (.getfield 36, 3) := by decide +kernel
theorem tw_210 : Cond.fieldLink RX11 57 "RingsUnder$Land" "cells" "I" ∈ wsL_law := List.mem_of_getElem? (i := 210) (by decide +kernel)
theorem dX11_isCell_9 : decode cX11_isCell 9 = .ok (.getfield 57, 3) := by decide +kernel
theorem dX11_isCell_12 : decode cX11_isCell 12 = .ok (.iconst 1, 1) := by decide +kernel
theorem dX11_isCell_13 : decode cX11_isCell 13 = .ok (.isub, 1) := by decide +kernel
theorem dX11_isCell_14 : decode cX11_isCell 14 = .ok (.invokestatic 50, 3) := by decide +kernel
theorem dX11_isCell_17 : decode cX11_isCell 17 = .ok (.ireturn, 1) := by decide +kernel
theorem dX11_isPerson_0 : decode cX11_isPerson 0 = .ok (.iload_n 1, 1) := by decide +kernel
theorem dX11_isPerson_1 : decode cX11_isPerson 1 = .ok (.iconst 0, 1) := by decide +kernel
theorem dX11_isPerson_2 : decode cX11_isPerson 2 = .ok (.aload_n 0, 1) := by decide +kernel
theorem dX11_isPerson_3 : decode cX11_isPerson 3 = .ok (.getfield 10, 3) := by decide +kernel
theorem tw_379 : Cond.fieldLink RX11 143 "RingsUnder$World" "folk" "LRingsUnder$Folk;" ∈ wsL_law := List.mem_of_getElem? (i := 379) (by decide +kernel)
theorem dX11_isPerson_6 : decode cX11_isPerson 6 = .ok (.getfield 143, 3) := by decide +kernel
theorem tw_390 : Cond.fieldLink RX11 155 "RingsUnder$Folk" "persons" "I" ∈ wsL_law := List.mem_of_getElem? (i := 390) (by decide +kernel)
theorem dX11_isPerson_9 : decode cX11_isPerson 9 = .ok (.getfield 155, 3) := by decide +kernel
theorem dX11_isPerson_12 : decode cX11_isPerson 12 = .ok (.iconst 1, 1) := by decide +kernel
theorem dX11_isPerson_13 : decode cX11_isPerson 13 = .ok (.isub, 1) := by decide +kernel
theorem dX11_isPerson_14 : decode cX11_isPerson 14 = .ok (.invokestatic 50, 3) := by decide +kernel
theorem dX11_isPerson_17 : decode cX11_isPerson 17 = .ok (.ireturn, 1) := by decide +kernel
theorem dX11_isLot_0 : decode cX11_isLot 0 = .ok (.iload_n 1, 1) := by decide +kernel
theorem dX11_isLot_1 : decode cX11_isLot 1 = .ok (.bipush 100, 2) := by decide +kernel
theorem dX11_isLot_3 : decode cX11_isLot 3 = .ok (.bipush 100, 2) := by decide +kernel
theorem dX11_isLot_5 : decode cX11_isLot 5 = .ok (.aload_n 0, 1) := by decide +kernel
theorem dX11_isLot_6 : decode cX11_isLot 6 = .ok (.getfield 10, 3) := by decide +kernel
theorem dX11_isLot_9 : decode cX11_isLot 9 = .ok (.getfield 143, 3) := by decide +kernel
theorem tw_380 : Cond.fieldLink RX11 147 "RingsUnder$Folk" "lots" "I" ∈ wsL_law := List.mem_of_getElem? (i := 380) (by decide +kernel)
theorem dX11_isLot_12 : decode cX11_isLot 12 = .ok (.getfield 147, 3) := by decide +kernel
theorem dX11_isLot_15 : decode cX11_isLot 15 = .ok (.iadd, 1) := by decide +kernel
theorem dX11_isLot_16 : decode cX11_isLot 16 = .ok (.iconst 1, 1) := by decide +kernel
theorem dX11_isLot_17 : decode cX11_isLot 17 = .ok (.isub, 1) := by decide +kernel
theorem dX11_isLot_18 : decode cX11_isLot 18 = .ok (.invokestatic 50, 3) := by decide +kernel
theorem dX11_isLot_21 : decode cX11_isLot 21 = .ok (.ireturn, 1) := by decide +kernel
set_option maxHeartbeats 4000000 in
set_option maxRecDepth 100000 in
theorem c_X11_between (l : Launch) (D : va_G) (t : pq_T) (σ : pq_S) (I : Nat → Nat → Int32) (J : Nat → Nat → Int64) (ri : Nat → Nat → Int32) (rj : Nat → Nat → Int64) (rq : Nat → Nat → Option Nat) (sz : Nat) (v : Int32) (lo : Int32) (hi : Int32) : MetI l yX11_between (wa yX11_between cX11_between 3 (some .boolean)) ({ frames := 0, cells := 0, slots := 0, locals := 0 }) [.int v, .int lo, .int hi] D t σ (I, J, ri, rj, rq) sz 0 0 (fun (r : Int32) (u : pq_S × pq_M) => u = (σ, I, J, ri, rj, rq) ∧ ((r = 1 ∧ lo ≤ v ∧ v ≤ hi) ∨ (r = 0 ∧ ¬ (lo ≤ v ∧ v ≤ hi)))) := by
  refine Met.ofW (cc := cX11_between) (maxL := 3) (ret := (some .boolean)) (by decide) rfl ?_
  intro p e s m args below meth c s₁ B hml hv
  obtain ⟨rfl, hsz, hP, hK, hD0, hN⟩ := hv
  have hx := B.exec
  have hb := B.bytes
  have hr := B.returns
  have hts := atoms_spec (ws := (wa yX11_between cX11_between 3 (some .boolean))) B.pre
  have hown : s.vm.findClass RX11 = some m.cls := findClass_of_methodNamed B.named
  have hlocks := B.notSynchronized
  subst hsz
  have hD : va_D (pq_B t σ (I, J, ri, rj, rq) s.heap.size) (pq_P t σ (I, J, ri, rj, rq)) := hD0.self
  generalize hAe : pq_B t σ (I, J, ri, rj, rq) s.heap.size = A at hD ⊢
  have hA : ∀ q : Nat, s.heap.size ≤ q → A q := fun q h => by rw [← hAe]; exact Or.inr h
  have hS : va_S A s.heap s.heap [] := va_S.rf
  have hl := lv_entry ([.int v, .int lo, .int hi]) (n := 3) (Nat.le_of_ble_eq_true rfl)
  rw [lg_entry_eq]
  generalize (lg_sl ([.int v, .int lo, .int hi]) ++ List.replicate (3 - (lg_sl ([.int v, .int lo, .int hi])).length) Slot.unset).toArray = ls at hl ⊢
  have hl : lv_has ls 3 [(0, .int v), (1, .int lo), (2, .int hi)] := hl
  refine lv_iload_n hx hb dX11_between_0 rfl (lv_at hl 0 rfl) ?_
  refine lv_iload_n hx hb dX11_between_1 rfl (lv_at hl 1 rfl) ?_
  refine lv_icmp_lt (tgt := 14) hx hb dX11_between_2 (by decide) (fun c_1 => ?_) (fun c_1 => ?_)
  · refine lv_iconst (v := 0) hx hb dX11_between_14 (by decide) ?_
    exact W.zret (v := 0) hx hb hr (by decide) (fun t1 ht hW => ⟨⟨0, (σ, I, J, ri, rj, rq), rfl, ⟨rfl, (Or.inr ⟨rfl, bt_c1 c_1⟩)⟩, by rw [ht]; exact hP, va_K.moved hW.alike hK, hD⟩, hS.F ht⟩) hS.2.2 dX11_between_15
  · refine lv_iload_n hx hb dX11_between_5 rfl (lv_at hl 0 rfl) ?_
    refine lv_iload_n hx hb dX11_between_6 rfl (lv_at hl 2 rfl) ?_
    refine lv_icmp_gt (tgt := 14) hx hb dX11_between_7 (by decide) (fun c_2 => ?_) (fun c_2 => ?_)
    · refine lv_iconst (v := 0) hx hb dX11_between_14 (by decide) ?_
      exact W.zret (v := 0) hx hb hr (by decide) (fun t1 ht hW => ⟨⟨0, (σ, I, J, ri, rj, rq), rfl, ⟨rfl, (Or.inr ⟨rfl, bt_c2 c_2⟩)⟩, by rw [ht]; exact hP, va_K.moved hW.alike hK, hD⟩, hS.F ht⟩) hS.2.2 dX11_between_15
    · refine lv_iconst (v := 1) hx hb dX11_between_10 (by decide) ?_
      refine lv_goto (tgt := 15) hx hb dX11_between_11 (by decide) ?_
      exact W.zret (v := 1) hx hb hr (by decide) (fun t1 ht hW => ⟨⟨1, (σ, I, J, ri, rj, rq), rfl, ⟨rfl, (Or.inl ⟨rfl, nl_of c_1, nl_of c_2⟩)⟩, by rw [ht]; exact hP, va_K.moved hW.alike hK, hD⟩, hS.F ht⟩) hS.2.2 dX11_between_15

set_option maxHeartbeats 4000000 in
set_option maxRecDepth 100000 in
theorem c_X11_isRise (l : Launch) (D : va_G) (t : pq_T) (σ : pq_S) (I : Nat → Nat → Int32) (J : Nat → Nat → Int64) (ri : Nat → Nat → Int32) (rj : Nat → Nat → Int64) (rq : Nat → Nat → Option Nat) (sz : Nat) (v : Int32) : MetI l yX11_isRise (wa yX11_isRise cX11_isRise 1 (some .boolean)) ({ frames := 1, cells := 0, slots := 0, locals := 22 }) [.int v] D t σ (I, J, ri, rj, rq) sz 0 0 (fun (r : Int32) (u : pq_S × pq_M) => u = (σ, I, J, ri, rj, rq) ∧ ((r = 1 ∧ 0 ≤ v ∧ v ≤ 2) ∨ (r = 0 ∧ ¬ (0 ≤ v ∧ v ≤ 2)))) := by
  refine Met.ofW (cc := cX11_isRise) (maxL := 1) (ret := (some .boolean)) (by decide) rfl ?_
  intro p e s m args below meth c s₁ B hml hv
  obtain ⟨rfl, hsz, hP, hK, hD0, hN⟩ := hv
  have hx := B.exec
  have hb := B.bytes
  have hr := B.returns
  have hts := atoms_spec (ws := (wa yX11_isRise cX11_isRise 1 (some .boolean))) B.pre
  have hown : s.vm.findClass RX11 = some m.cls := findClass_of_methodNamed B.named
  have hlocks := B.notSynchronized
  subst hsz
  have hD : va_D (pq_B t σ (I, J, ri, rj, rq) s.heap.size) (pq_P t σ (I, J, ri, rj, rq)) := hD0.self
  generalize hAe : pq_B t σ (I, J, ri, rj, rq) s.heap.size = A at hD ⊢
  have hA : ∀ q : Nat, s.heap.size ≤ q → A q := fun q h => by rw [← hAe]; exact Or.inr h
  have hS : va_S A s.heap s.heap [] := va_S.rf
  have hl := lv_entry ([.int v]) (n := 1) (Nat.le_of_ble_eq_true rfl)
  rw [lg_entry_eq]
  generalize (lg_sl ([.int v]) ++ List.replicate (1 - (lg_sl ([.int v])).length) Slot.unset).toArray = ls at hl ⊢
  have hl : lv_has ls 1 [(0, .int v)] := hl
  refine lv_iload_n hx hb dX11_isRise_0 rfl (lv_at hl 0 rfl) ?_
  refine lv_iconst (v := 0) hx hb dX11_isRise_1 (by decide) ?_
  refine lv_iconst (v := 2) hx hb dX11_isRise_2 (by decide) ?_
  refine pk_i (va_runS (As := [.int v, .int 0, .int 2]) (rest := []) ⟨hx, hb, hml, hown, hts⟩ (c_X11_between l D t σ I J ri rj rq (Array.size s.heap) v (0 : Int32) (2 : Int32)) (va_cwS 3 hts (tw_S tw_215 tw_216 tw_2 tw_217) rfl rfl rfl (by decide +kernel) ⟨Nat.le_of_ble_eq_true rfl, Nat.le_of_ble_eq_true rfl⟩) ⟨pq_blind, pq_pre hK hN hP hD⟩ rfl rfl hl.1 rfl (lv_room (Nat.le_of_ble_eq_true rfl)) dX11_isRise_3 ⟨Nat.le_of_ble_eq_true rfl, Nat.le_of_ble_eq_true rfl⟩) hD hS hA (fun r_1 σ1 μ1 H locs hw_2 hP hD hS => ?_)
  obtain ⟨hu_3, hr_4⟩ := hw_2
  obtain ⟨hu_3a, hu_3b⟩ := Prod.mk.inj hu_3
  rw [hu_3a, hu_3b] at hP hD
  rcases hr_4 with ⟨rfl, hr_4_0, hr_4_1⟩ | ⟨rfl, hr_4_0⟩
  · exact W.zret (v := 1) hx hb hr (by decide) (fun t1 ht hW => ⟨⟨1, (σ, I, J, ri, rj, rq), rfl, ⟨rfl, (Or.inl ⟨rfl, hr_4_0, hr_4_1⟩)⟩, by rw [ht]; exact hP, va_K.moved hW.alike hK, hD⟩, hS.F ht⟩) hS.2.2 dX11_isRise_6
  · exact W.zret (v := 0) hx hb hr (by decide) (fun t1 ht hW => ⟨⟨0, (σ, I, J, ri, rj, rq), rfl, ⟨rfl, (Or.inr ⟨rfl, hr_4_0⟩)⟩, by rw [ht]; exact hP, va_K.moved hW.alike hK, hD⟩, hS.F ht⟩) hS.2.2 dX11_isRise_6

set_option maxHeartbeats 4000000 in
set_option maxRecDepth 100000 in
theorem c_X11_isMonth (l : Launch) (D : va_G) (t : pq_T) (σ : pq_S) (I : Nat → Nat → Int32) (J : Nat → Nat → Int64) (ri : Nat → Nat → Int32) (rj : Nat → Nat → Int64) (rq : Nat → Nat → Option Nat) (sz : Nat) (v : Int32) : MetI l yX11_isMonth (wa yX11_isMonth cX11_isMonth 1 (some .boolean)) ({ frames := 1, cells := 0, slots := 0, locals := 22 }) [.int v] D t σ (I, J, ri, rj, rq) sz 0 0 (fun (r : Int32) (u : pq_S × pq_M) => u = (σ, I, J, ri, rj, rq) ∧ ((r = 1 ∧ 0 ≤ v ∧ v ≤ 599) ∨ (r = 0 ∧ ¬ (0 ≤ v ∧ v ≤ 599)))) := by
  refine Met.ofW (cc := cX11_isMonth) (maxL := 1) (ret := (some .boolean)) (by decide) rfl ?_
  intro p e s m args below meth c s₁ B hml hv
  obtain ⟨rfl, hsz, hP, hK, hD0, hN⟩ := hv
  have hx := B.exec
  have hb := B.bytes
  have hr := B.returns
  have hts := atoms_spec (ws := (wa yX11_isMonth cX11_isMonth 1 (some .boolean))) B.pre
  have hown : s.vm.findClass RX11 = some m.cls := findClass_of_methodNamed B.named
  have hlocks := B.notSynchronized
  subst hsz
  have hD : va_D (pq_B t σ (I, J, ri, rj, rq) s.heap.size) (pq_P t σ (I, J, ri, rj, rq)) := hD0.self
  generalize hAe : pq_B t σ (I, J, ri, rj, rq) s.heap.size = A at hD ⊢
  have hA : ∀ q : Nat, s.heap.size ≤ q → A q := fun q h => by rw [← hAe]; exact Or.inr h
  have hS : va_S A s.heap s.heap [] := va_S.rf
  have hl := lv_entry ([.int v]) (n := 1) (Nat.le_of_ble_eq_true rfl)
  rw [lg_entry_eq]
  generalize (lg_sl ([.int v]) ++ List.replicate (1 - (lg_sl ([.int v])).length) Slot.unset).toArray = ls at hl ⊢
  have hl : lv_has ls 1 [(0, .int v)] := hl
  refine lv_iload_n hx hb dX11_isMonth_0 rfl (lv_at hl 0 rfl) ?_
  refine lv_iconst (v := 0) hx hb dX11_isMonth_1 (by decide) ?_
  refine lv_sipush (v := 599) hx hb dX11_isMonth_2 (by decide) ?_
  refine pk_i (va_runS (As := [.int v, .int 0, .int 599]) (rest := []) ⟨hx, hb, hml, hown, hts⟩ (c_X11_between l D t σ I J ri rj rq (Array.size s.heap) v (0 : Int32) (599 : Int32)) (va_cwS 3 hts (tw_S tw_215 tw_216 tw_2 tw_217) rfl rfl rfl (by decide +kernel) ⟨Nat.le_of_ble_eq_true rfl, Nat.le_of_ble_eq_true rfl⟩) ⟨pq_blind, pq_pre hK hN hP hD⟩ rfl rfl hl.1 rfl (lv_room (Nat.le_of_ble_eq_true rfl)) dX11_isMonth_5 ⟨Nat.le_of_ble_eq_true rfl, Nat.le_of_ble_eq_true rfl⟩) hD hS hA (fun r_1 σ1 μ1 H locs hw_2 hP hD hS => ?_)
  obtain ⟨hu_3, hr_4⟩ := hw_2
  obtain ⟨hu_3a, hu_3b⟩ := Prod.mk.inj hu_3
  rw [hu_3a, hu_3b] at hP hD
  rcases hr_4 with ⟨rfl, hr_4_0, hr_4_1⟩ | ⟨rfl, hr_4_0⟩
  · exact W.zret (v := 1) hx hb hr (by decide) (fun t1 ht hW => ⟨⟨1, (σ, I, J, ri, rj, rq), rfl, ⟨rfl, (Or.inl ⟨rfl, hr_4_0, hr_4_1⟩)⟩, by rw [ht]; exact hP, va_K.moved hW.alike hK, hD⟩, hS.F ht⟩) hS.2.2 dX11_isMonth_8
  · exact W.zret (v := 0) hx hb hr (by decide) (fun t1 ht hW => ⟨⟨0, (σ, I, J, ri, rj, rq), rfl, ⟨rfl, (Or.inr ⟨rfl, hr_4_0⟩)⟩, by rw [ht]; exact hP, va_K.moved hW.alike hK, hD⟩, hS.F ht⟩) hS.2.2 dX11_isMonth_8

set_option maxHeartbeats 4000000 in
set_option maxRecDepth 100000 in
theorem c_X11_isRing (l : Launch) (D : va_G) (t : pq_T) (σ : pq_S) (I : Nat → Nat → Int32) (J : Nat → Nat → Int64) (ri : Nat → Nat → Int32) (rj : Nat → Nat → Int64) (rq : Nat → Nat → Option Nat) (sz : Nat) (this : Nat) (v : Int32) (hL_this : this ∈ σ.1) (hK_this : σ.2.1 this = 11) (this_now : Nat) (hR_this_now : σ.2.2.1 352 this = some this_now) (hL_this_now : this_now ∈ σ.1) (hK_this_now : σ.2.1 this_now = 10) (this_now_land : Nat) (hR_this_now_land : σ.2.2.1 327 this_now = some this_now_land) (hL_this_now_land : this_now_land ∈ σ.1) (hK_this_now_land : σ.2.1 this_now_land = 2) (hZ : pq_Z I) : MetI l yX11_isRing (wa yX11_isRing cX11_isRing 2 (some .boolean)) ({ frames := 1, cells := 0, slots := 0, locals := 22 }) [.ref this, .int v] D t σ (I, J, ri, rj, rq) sz 0 0 (fun (r : Int32) (u : pq_S × pq_M) => u = (σ, I, J, ri, rj, rq) ∧ ((r = 0))) := by
  refine Met.ofW (cc := cX11_isRing) (maxL := 2) (ret := (some .boolean)) (by decide) rfl ?_
  intro p e s m args below meth c s₁ B hml hv
  obtain ⟨rfl, hsz, hP, hK, hD0, hN⟩ := hv
  have hx := B.exec
  have hb := B.bytes
  have hr := B.returns
  have hts := atoms_spec (ws := (wa yX11_isRing cX11_isRing 2 (some .boolean))) B.pre
  have hown : s.vm.findClass RX11 = some m.cls := findClass_of_methodNamed B.named
  have hlocks := B.notSynchronized
  subst hsz
  have hD : va_D (pq_B t σ (I, J, ri, rj, rq) s.heap.size) (pq_P t σ (I, J, ri, rj, rq)) := hD0.self
  generalize hAe : pq_B t σ (I, J, ri, rj, rq) s.heap.size = A at hD ⊢
  have hA : ∀ q : Nat, s.heap.size ≤ q → A q := fun q h => by rw [← hAe]; exact Or.inr h
  have hS : va_S A s.heap s.heap [] := va_S.rf
  have hl := lv_entry ([.ref this, .int v]) (n := 2) (Nat.le_of_ble_eq_true rfl)
  rw [lg_entry_eq]
  generalize (lg_sl ([.ref this, .int v]) ++ List.replicate (2 - (lg_sl ([.ref this, .int v])).length) Slot.unset).toArray = ls at hl ⊢
  have hl : lv_has ls 2 [(0, .ref this), (1, .int v)] := hl
  refine lv_iload_n hx hb dX11_isRing_0 rfl (lv_at hl 1 rfl) ?_
  refine lv_iconst (v := 0) hx hb dX11_isRing_1 (by decide) ?_
  refine lv_aload_n hx hb dX11_isRing_2 rfl (lv_at hl 0 rfl) ?_
  refine pg_f (v := .ref this_now) (C := RX11) (T := TX11) (N := 5) hx hb hts (tw_i inlX11) hown hK hP hL_this hK_this (by decide) rfl 0 (by decide) (hts _ (tw_c tw_16)) (pq_hv rfl hR_this_now) dX11_isRing_3 ?_
  refine pg_f (v := .ref this_now_land) (C := RX10) (T := TX10) (N := 13) hx hb hts (tw_i inlX10) hown hK hP hL_this_now hK_this_now (by decide) rfl 7 (by decide) (hts _ (tw_c tw_199)) (pq_hv rfl hR_this_now_land) dX11_isRing_6 ?_
  refine pg_f (v := .int (I 64 this_now_land)) (C := RX2) (T := TX2) (N := 20) hx hb hts (tw_i inlX2) hown hK hP hL_this_now_land hK_this_now_land (by decide) rfl 0 (by decide) (hts _ (tw_c tw_200)) rfl dX11_isRing_9 ?_
  refine lv_tov 0 (congrFun (hZ 64 (by decide)) this_now_land) ?_
  refine lv_iconst (v := 1) hx hb dX11_isRing_12 (by decide) ?_
  refine lv_isub hx hb dX11_isRing_13 ?_
  refine lv_tov (-1) (by decide) ?_
  refine pk_i (va_runS (As := [.int v, .int 0, .int (-1)]) (rest := []) ⟨hx, hb, hml, hown, hts⟩ (c_X11_between l D t σ I J ri rj rq (Array.size s.heap) v (0 : Int32) (-1 : Int32)) (va_cwS 3 hts (tw_S tw_215 tw_216 tw_2 tw_217) rfl rfl rfl (by decide +kernel) ⟨Nat.le_of_ble_eq_true rfl, Nat.le_of_ble_eq_true rfl⟩) ⟨pq_blind, pq_pre hK hN hP hD⟩ rfl rfl hl.1 rfl (lv_room (Nat.le_of_ble_eq_true rfl)) dX11_isRing_14 ⟨Nat.le_of_ble_eq_true rfl, Nat.le_of_ble_eq_true rfl⟩) hD hS hA (fun r_1 σ1 μ1 H locs hw_2 hP hD hS => ?_)
  obtain ⟨hu_3, hr_4⟩ := hw_2
  obtain ⟨hu_3a, hu_3b⟩ := Prod.mk.inj hu_3
  rw [hu_3a, hu_3b] at hP hD
  rcases hr_4 with ⟨rfl, hr_4_0, hr_4_1⟩ | ⟨rfl, hr_4_0⟩
  · exact (bt_no hr_4_0 hr_4_1 (by decide)).elim
  · exact W.zret (v := 0) hx hb hr (by decide) (fun t1 ht hW => ⟨⟨0, (σ, I, J, ri, rj, rq), rfl, ⟨rfl, rfl⟩, by rw [ht]; exact hP, va_K.moved hW.alike hK, hD⟩, hS.F ht⟩) hS.2.2 dX11_isRing_17

set_option maxHeartbeats 4000000 in
set_option maxRecDepth 100000 in
theorem c_X11_isCell (l : Launch) (D : va_G) (t : pq_T) (σ : pq_S) (I : Nat → Nat → Int32) (J : Nat → Nat → Int64) (ri : Nat → Nat → Int32) (rj : Nat → Nat → Int64) (rq : Nat → Nat → Option Nat) (sz : Nat) (this : Nat) (v : Int32) (hL_this : this ∈ σ.1) (hK_this : σ.2.1 this = 11) (this_now : Nat) (hR_this_now : σ.2.2.1 352 this = some this_now) (hL_this_now : this_now ∈ σ.1) (hK_this_now : σ.2.1 this_now = 10) (this_now_land : Nat) (hR_this_now_land : σ.2.2.1 327 this_now = some this_now_land) (hL_this_now_land : this_now_land ∈ σ.1) (hK_this_now_land : σ.2.1 this_now_land = 2) (hZ : pq_Z I) : MetI l yX11_isCell (wa yX11_isCell cX11_isCell 2 (some .boolean)) ({ frames := 1, cells := 0, slots := 0, locals := 22 }) [.ref this, .int v] D t σ (I, J, ri, rj, rq) sz 0 0 (fun (r : Int32) (u : pq_S × pq_M) => u = (σ, I, J, ri, rj, rq) ∧ ((r = 0))) := by
  refine Met.ofW (cc := cX11_isCell) (maxL := 2) (ret := (some .boolean)) (by decide) rfl ?_
  intro p e s m args below meth c s₁ B hml hv
  obtain ⟨rfl, hsz, hP, hK, hD0, hN⟩ := hv
  have hx := B.exec
  have hb := B.bytes
  have hr := B.returns
  have hts := atoms_spec (ws := (wa yX11_isCell cX11_isCell 2 (some .boolean))) B.pre
  have hown : s.vm.findClass RX11 = some m.cls := findClass_of_methodNamed B.named
  have hlocks := B.notSynchronized
  subst hsz
  have hD : va_D (pq_B t σ (I, J, ri, rj, rq) s.heap.size) (pq_P t σ (I, J, ri, rj, rq)) := hD0.self
  generalize hAe : pq_B t σ (I, J, ri, rj, rq) s.heap.size = A at hD ⊢
  have hA : ∀ q : Nat, s.heap.size ≤ q → A q := fun q h => by rw [← hAe]; exact Or.inr h
  have hS : va_S A s.heap s.heap [] := va_S.rf
  have hl := lv_entry ([.ref this, .int v]) (n := 2) (Nat.le_of_ble_eq_true rfl)
  rw [lg_entry_eq]
  generalize (lg_sl ([.ref this, .int v]) ++ List.replicate (2 - (lg_sl ([.ref this, .int v])).length) Slot.unset).toArray = ls at hl ⊢
  have hl : lv_has ls 2 [(0, .ref this), (1, .int v)] := hl
  refine lv_iload_n hx hb dX11_isCell_0 rfl (lv_at hl 1 rfl) ?_
  refine lv_iconst (v := 0) hx hb dX11_isCell_1 (by decide) ?_
  refine lv_aload_n hx hb dX11_isCell_2 rfl (lv_at hl 0 rfl) ?_
  refine pg_f (v := .ref this_now) (C := RX11) (T := TX11) (N := 5) hx hb hts (tw_i inlX11) hown hK hP hL_this hK_this (by decide) rfl 0 (by decide) (hts _ (tw_c tw_16)) (pq_hv rfl hR_this_now) dX11_isCell_3 ?_
  refine pg_f (v := .ref this_now_land) (C := RX10) (T := TX10) (N := 13) hx hb hts (tw_i inlX10) hown hK hP hL_this_now hK_this_now (by decide) rfl 7 (by decide) (hts _ (tw_c tw_199)) (pq_hv rfl hR_this_now_land) dX11_isCell_6 ?_
  refine pg_f (v := .int (I 65 this_now_land)) (C := RX2) (T := TX2) (N := 20) hx hb hts (tw_i inlX2) hown hK hP hL_this_now_land hK_this_now_land (by decide) rfl 1 (by decide) (hts _ (tw_c tw_210)) rfl dX11_isCell_9 ?_
  refine lv_tov 0 (congrFun (hZ 65 (by decide)) this_now_land) ?_
  refine lv_iconst (v := 1) hx hb dX11_isCell_12 (by decide) ?_
  refine lv_isub hx hb dX11_isCell_13 ?_
  refine lv_tov (-1) (by decide) ?_
  refine pk_i (va_runS (As := [.int v, .int 0, .int (-1)]) (rest := []) ⟨hx, hb, hml, hown, hts⟩ (c_X11_between l D t σ I J ri rj rq (Array.size s.heap) v (0 : Int32) (-1 : Int32)) (va_cwS 3 hts (tw_S tw_215 tw_216 tw_2 tw_217) rfl rfl rfl (by decide +kernel) ⟨Nat.le_of_ble_eq_true rfl, Nat.le_of_ble_eq_true rfl⟩) ⟨pq_blind, pq_pre hK hN hP hD⟩ rfl rfl hl.1 rfl (lv_room (Nat.le_of_ble_eq_true rfl)) dX11_isCell_14 ⟨Nat.le_of_ble_eq_true rfl, Nat.le_of_ble_eq_true rfl⟩) hD hS hA (fun r_1 σ1 μ1 H locs hw_2 hP hD hS => ?_)
  obtain ⟨hu_3, hr_4⟩ := hw_2
  obtain ⟨hu_3a, hu_3b⟩ := Prod.mk.inj hu_3
  rw [hu_3a, hu_3b] at hP hD
  rcases hr_4 with ⟨rfl, hr_4_0, hr_4_1⟩ | ⟨rfl, hr_4_0⟩
  · exact (bt_no hr_4_0 hr_4_1 (by decide)).elim
  · exact W.zret (v := 0) hx hb hr (by decide) (fun t1 ht hW => ⟨⟨0, (σ, I, J, ri, rj, rq), rfl, ⟨rfl, rfl⟩, by rw [ht]; exact hP, va_K.moved hW.alike hK, hD⟩, hS.F ht⟩) hS.2.2 dX11_isCell_17

set_option maxHeartbeats 4000000 in
set_option maxRecDepth 100000 in
theorem c_X11_isPerson (l : Launch) (D : va_G) (t : pq_T) (σ : pq_S) (I : Nat → Nat → Int32) (J : Nat → Nat → Int64) (ri : Nat → Nat → Int32) (rj : Nat → Nat → Int64) (rq : Nat → Nat → Option Nat) (sz : Nat) (this : Nat) (v : Int32) (hL_this : this ∈ σ.1) (hK_this : σ.2.1 this = 11) (this_now : Nat) (hR_this_now : σ.2.2.1 352 this = some this_now) (hL_this_now : this_now ∈ σ.1) (hK_this_now : σ.2.1 this_now = 10) (this_now_folk : Nat) (hR_this_now_folk : σ.2.2.1 328 this_now = some this_now_folk) (hL_this_now_folk : this_now_folk ∈ σ.1) (hK_this_now_folk : σ.2.1 this_now_folk = 0) (hZ : pq_Z I) : MetI l yX11_isPerson (wa yX11_isPerson cX11_isPerson 2 (some .boolean)) ({ frames := 1, cells := 0, slots := 0, locals := 22 }) [.ref this, .int v] D t σ (I, J, ri, rj, rq) sz 0 0 (fun (r : Int32) (u : pq_S × pq_M) => u = (σ, I, J, ri, rj, rq) ∧ ((r = 0))) := by
  refine Met.ofW (cc := cX11_isPerson) (maxL := 2) (ret := (some .boolean)) (by decide) rfl ?_
  intro p e s m args below meth c s₁ B hml hv
  obtain ⟨rfl, hsz, hP, hK, hD0, hN⟩ := hv
  have hx := B.exec
  have hb := B.bytes
  have hr := B.returns
  have hts := atoms_spec (ws := (wa yX11_isPerson cX11_isPerson 2 (some .boolean))) B.pre
  have hown : s.vm.findClass RX11 = some m.cls := findClass_of_methodNamed B.named
  have hlocks := B.notSynchronized
  subst hsz
  have hD : va_D (pq_B t σ (I, J, ri, rj, rq) s.heap.size) (pq_P t σ (I, J, ri, rj, rq)) := hD0.self
  generalize hAe : pq_B t σ (I, J, ri, rj, rq) s.heap.size = A at hD ⊢
  have hA : ∀ q : Nat, s.heap.size ≤ q → A q := fun q h => by rw [← hAe]; exact Or.inr h
  have hS : va_S A s.heap s.heap [] := va_S.rf
  have hl := lv_entry ([.ref this, .int v]) (n := 2) (Nat.le_of_ble_eq_true rfl)
  rw [lg_entry_eq]
  generalize (lg_sl ([.ref this, .int v]) ++ List.replicate (2 - (lg_sl ([.ref this, .int v])).length) Slot.unset).toArray = ls at hl ⊢
  have hl : lv_has ls 2 [(0, .ref this), (1, .int v)] := hl
  refine lv_iload_n hx hb dX11_isPerson_0 rfl (lv_at hl 1 rfl) ?_
  refine lv_iconst (v := 0) hx hb dX11_isPerson_1 (by decide) ?_
  refine lv_aload_n hx hb dX11_isPerson_2 rfl (lv_at hl 0 rfl) ?_
  refine pg_f (v := .ref this_now) (C := RX11) (T := TX11) (N := 5) hx hb hts (tw_i inlX11) hown hK hP hL_this hK_this (by decide) rfl 0 (by decide) (hts _ (tw_c tw_16)) (pq_hv rfl hR_this_now) dX11_isPerson_3 ?_
  refine pg_f (v := .ref this_now_folk) (C := RX10) (T := TX10) (N := 13) hx hb hts (tw_i inlX10) hown hK hP hL_this_now hK_this_now (by decide) rfl 8 (by decide) (hts _ (tw_c tw_379)) (pq_hv rfl hR_this_now_folk) dX11_isPerson_6 ?_
  refine pg_f (v := .int (I 0 this_now_folk)) (C := RX0) (T := TX0) (N := 16) hx hb hts (tw_i inlX0) hown hK hP hL_this_now_folk hK_this_now_folk (by decide) rfl 0 (by decide) (hts _ (tw_c tw_390)) rfl dX11_isPerson_9 ?_
  refine lv_tov 0 (congrFun (hZ 0 (by decide)) this_now_folk) ?_
  refine lv_iconst (v := 1) hx hb dX11_isPerson_12 (by decide) ?_
  refine lv_isub hx hb dX11_isPerson_13 ?_
  refine lv_tov (-1) (by decide) ?_
  refine pk_i (va_runS (As := [.int v, .int 0, .int (-1)]) (rest := []) ⟨hx, hb, hml, hown, hts⟩ (c_X11_between l D t σ I J ri rj rq (Array.size s.heap) v (0 : Int32) (-1 : Int32)) (va_cwS 3 hts (tw_S tw_215 tw_216 tw_2 tw_217) rfl rfl rfl (by decide +kernel) ⟨Nat.le_of_ble_eq_true rfl, Nat.le_of_ble_eq_true rfl⟩) ⟨pq_blind, pq_pre hK hN hP hD⟩ rfl rfl hl.1 rfl (lv_room (Nat.le_of_ble_eq_true rfl)) dX11_isPerson_14 ⟨Nat.le_of_ble_eq_true rfl, Nat.le_of_ble_eq_true rfl⟩) hD hS hA (fun r_1 σ1 μ1 H locs hw_2 hP hD hS => ?_)
  obtain ⟨hu_3, hr_4⟩ := hw_2
  obtain ⟨hu_3a, hu_3b⟩ := Prod.mk.inj hu_3
  rw [hu_3a, hu_3b] at hP hD
  rcases hr_4 with ⟨rfl, hr_4_0, hr_4_1⟩ | ⟨rfl, hr_4_0⟩
  · exact (bt_no hr_4_0 hr_4_1 (by decide)).elim
  · exact W.zret (v := 0) hx hb hr (by decide) (fun t1 ht hW => ⟨⟨0, (σ, I, J, ri, rj, rq), rfl, ⟨rfl, rfl⟩, by rw [ht]; exact hP, va_K.moved hW.alike hK, hD⟩, hS.F ht⟩) hS.2.2 dX11_isPerson_17

set_option maxHeartbeats 4000000 in
set_option maxRecDepth 100000 in
theorem c_X11_isLot (l : Launch) (D : va_G) (t : pq_T) (σ : pq_S) (I : Nat → Nat → Int32) (J : Nat → Nat → Int64) (ri : Nat → Nat → Int32) (rj : Nat → Nat → Int64) (rq : Nat → Nat → Option Nat) (sz : Nat) (this : Nat) (v : Int32) (hL_this : this ∈ σ.1) (hK_this : σ.2.1 this = 11) (this_now : Nat) (hR_this_now : σ.2.2.1 352 this = some this_now) (hL_this_now : this_now ∈ σ.1) (hK_this_now : σ.2.1 this_now = 10) (this_now_folk : Nat) (hR_this_now_folk : σ.2.2.1 328 this_now = some this_now_folk) (hL_this_now_folk : this_now_folk ∈ σ.1) (hK_this_now_folk : σ.2.1 this_now_folk = 0) (hZ : pq_Z I) : MetI l yX11_isLot (wa yX11_isLot cX11_isLot 2 (some .boolean)) ({ frames := 1, cells := 0, slots := 0, locals := 22 }) [.ref this, .int v] D t σ (I, J, ri, rj, rq) sz 0 0 (fun (r : Int32) (u : pq_S × pq_M) => u = (σ, I, J, ri, rj, rq) ∧ ((r = 0))) := by
  refine Met.ofW (cc := cX11_isLot) (maxL := 2) (ret := (some .boolean)) (by decide) rfl ?_
  intro p e s m args below meth c s₁ B hml hv
  obtain ⟨rfl, hsz, hP, hK, hD0, hN⟩ := hv
  have hx := B.exec
  have hb := B.bytes
  have hr := B.returns
  have hts := atoms_spec (ws := (wa yX11_isLot cX11_isLot 2 (some .boolean))) B.pre
  have hown : s.vm.findClass RX11 = some m.cls := findClass_of_methodNamed B.named
  have hlocks := B.notSynchronized
  subst hsz
  have hD : va_D (pq_B t σ (I, J, ri, rj, rq) s.heap.size) (pq_P t σ (I, J, ri, rj, rq)) := hD0.self
  generalize hAe : pq_B t σ (I, J, ri, rj, rq) s.heap.size = A at hD ⊢
  have hA : ∀ q : Nat, s.heap.size ≤ q → A q := fun q h => by rw [← hAe]; exact Or.inr h
  have hS : va_S A s.heap s.heap [] := va_S.rf
  have hl := lv_entry ([.ref this, .int v]) (n := 2) (Nat.le_of_ble_eq_true rfl)
  rw [lg_entry_eq]
  generalize (lg_sl ([.ref this, .int v]) ++ List.replicate (2 - (lg_sl ([.ref this, .int v])).length) Slot.unset).toArray = ls at hl ⊢
  have hl : lv_has ls 2 [(0, .ref this), (1, .int v)] := hl
  refine lv_iload_n hx hb dX11_isLot_0 rfl (lv_at hl 1 rfl) ?_
  refine lv_bipush (v := 100) hx hb dX11_isLot_1 (by decide) ?_
  refine lv_bipush (v := 100) hx hb dX11_isLot_3 (by decide) ?_
  refine lv_aload_n hx hb dX11_isLot_5 rfl (lv_at hl 0 rfl) ?_
  refine pg_f (v := .ref this_now) (C := RX11) (T := TX11) (N := 5) hx hb hts (tw_i inlX11) hown hK hP hL_this hK_this (by decide) rfl 0 (by decide) (hts _ (tw_c tw_16)) (pq_hv rfl hR_this_now) dX11_isLot_6 ?_
  refine pg_f (v := .ref this_now_folk) (C := RX10) (T := TX10) (N := 13) hx hb hts (tw_i inlX10) hown hK hP hL_this_now hK_this_now (by decide) rfl 8 (by decide) (hts _ (tw_c tw_379)) (pq_hv rfl hR_this_now_folk) dX11_isLot_9 ?_
  refine pg_f (v := .int (I 10 this_now_folk)) (C := RX0) (T := TX0) (N := 16) hx hb hts (tw_i inlX0) hown hK hP hL_this_now_folk hK_this_now_folk (by decide) rfl 10 (by decide) (hts _ (tw_c tw_380)) rfl dX11_isLot_12 ?_
  refine lv_tov 0 (congrFun (hZ 10 (by decide)) this_now_folk) ?_
  refine lv_iadd hx hb dX11_isLot_15 ?_
  refine lv_tov 100 (by decide) ?_
  refine lv_iconst (v := 1) hx hb dX11_isLot_16 (by decide) ?_
  refine lv_isub hx hb dX11_isLot_17 ?_
  refine lv_tov 99 (by decide) ?_
  refine pk_i (va_runS (As := [.int v, .int 100, .int 99]) (rest := []) ⟨hx, hb, hml, hown, hts⟩ (c_X11_between l D t σ I J ri rj rq (Array.size s.heap) v (100 : Int32) (99 : Int32)) (va_cwS 3 hts (tw_S tw_215 tw_216 tw_2 tw_217) rfl rfl rfl (by decide +kernel) ⟨Nat.le_of_ble_eq_true rfl, Nat.le_of_ble_eq_true rfl⟩) ⟨pq_blind, pq_pre hK hN hP hD⟩ rfl rfl hl.1 rfl (lv_room (Nat.le_of_ble_eq_true rfl)) dX11_isLot_18 ⟨Nat.le_of_ble_eq_true rfl, Nat.le_of_ble_eq_true rfl⟩) hD hS hA (fun r_1 σ1 μ1 H locs hw_2 hP hD hS => ?_)
  obtain ⟨hu_3, hr_4⟩ := hw_2
  obtain ⟨hu_3a, hu_3b⟩ := Prod.mk.inj hu_3
  rw [hu_3a, hu_3b] at hP hD
  rcases hr_4 with ⟨rfl, hr_4_0, hr_4_1⟩ | ⟨rfl, hr_4_0⟩
  · exact (bt_no hr_4_0 hr_4_1 (by decide)).elim
  · exact W.zret (v := 0) hx hb hr (by decide) (fun t1 ht hW => ⟨⟨0, (σ, I, J, ri, rj, rq), rfl, ⟨rfl, rfl⟩, by rw [ht]; exact hP, va_K.moved hW.alike hK, hD⟩, hS.F ht⟩) hS.2.2 dX11_isLot_21
