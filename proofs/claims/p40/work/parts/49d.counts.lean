/-! ===== the reference's counts ===== -/
theorem zl_lt {j : Nat} (h : zn j ∈ ztl) : j < 12720 := by
  by_cases hj : j < 12720
  · exact hj
  · exfalso
    have e : zn j = 999 := by
      unfold zn
      repeat (first | rw [if_neg (by omega)] | rw [if_pos (by omega)])
    rw [e] at h
    exact absurd h (by decide)
theorem zl_x {X : List Nat} {j : Nat} (h : zn j ∈ ztl) (hX : ∀ z, z ∈ ztl → 1000 + z ∉ X) : 1000 + zn j ∉ X := hX _ h
abbrev zrl : List Nat := [0, 1, 2, 3, 4, 5, 6, 7, 10, 308, 403, 500, 501, 502, 503, 504, 700, 701, 702]
theorem zrl_z {j : Nat} (h : zn j ∈ zrl) : zn j ∈ ztl := (by decide : ∀ z, z ∈ zrl → z ∈ ztl) _ h
theorem zrl_x {X : List Nat} {j : Nat} (h : zn j ∈ zrl) (hX : ∀ z, z ∈ zrl → 1000 + z ∉ X) : 1000 + zn j ∉ X := hX _ h
theorem row_s {f g h : Nat → Int32} (e : f = g) (k : ∀ j, zn j ∈ ztl → g j = h j) : ∀ j, zn j ∈ ztl → f j = h j := fun j hj => (congrFun e j).trans (k j hj)
theorem row_c {f g h : Nat → Int32} (e : ∀ j, j < 12720 → f j = g j) (k : ∀ j, zn j ∈ ztl → g j = h j) : ∀ j, zn j ∈ ztl → f j = h j := fun j hj => (e j (zl_lt hj)).trans (k j hj)
theorem row_j {f g h : Nat → Int32} (e : ∀ j, zn j ∈ ztl → f j = g j) (k : ∀ j, zn j ∈ ztl → g j = h j) : ∀ j, zn j ∈ ztl → f j = h j := fun j hj => (e j hj).trans (k j hj)
/-! ===== the reference's rows ===== -/
theorem zw_c {r r1 : Nat → Nat → Int32} {q b s n : Nat} {v x : Int32} (e : r1 = va_up r q (upd (r q) v.toNatClampNeg x)) (hv : v.toNatClampNeg = b + s * n) (hs : 0 < s) : ∀ c, r1 q (b + s * c) = if c = n then x else r q (b + s * c) := fun c => by
  rw [e, va_up_self]
  unfold upd
  by_cases h : c = n
  · rw [if_pos h, if_pos (by rw [hv, h])]
  · rw [if_neg h, if_neg (fun y => h (by rw [hv] at y; exact Nat.eq_of_mul_eq_mul_left hs (by omega)))]
theorem zo_c {r r1 : Nat → Nat → Int32} {q b s N k k2 : Nat} {v x : Int32} (e : r1 = va_up r q (upd (r q) v.toNatClampNeg x)) (ez : zn v.toNatClampNeg = k) (hz : ∀ c, c < N → zn (b + s * c) = k2) (hk : k ≠ k2) : ∀ c, c < N → r1 q (b + s * c) = r q (b + s * c) := fun c hc => by
  rw [e, va_up_self]
  exact GA_ne ez (by rw [hz c hc]; exact fun y => hk y.symm)
theorem zv_c {r r1 r2 : Nat → Int32} {b s N n : Nat} {x : Int32} (h : ∀ c, c < N → r1 (b + s * c) = if c = n then x else r (b + s * c)) (k : ∀ c, c < N → r2 (b + s * c) = r1 (b + s * c)) : ∀ c, c < N → r2 (b + s * c) = if c = n then x else r (b + s * c) := fun c hc => (k c hc).trans (h c hc)
theorem z308 : ∀ c, c < 40 → zn (108 + 16 * c) = 308 := fun c hc => zn_CELL (c := c) (k := 8) (by omega) hc (by decide)
theorem z700 : ∀ c, c < 30 → zn (2400 + 4 * c) = 700 := fun c hc => zn_GRAVE (c := c) (k := 0) (by omega) hc (by decide)
set_option maxHeartbeats 4000000 in
set_option maxRecDepth 100000 in
theorem s_X12_isRise_w (l : Launch) (D : va_G) (t : pq_T) (σ : pq_S) (I : Nat → Nat → Int32) (J : Nat → Nat → Int64) (ri : Nat → Nat → Int32) (rj : Nat → Nat → Int64) (rq : Nat → Nat → Option Nat) (sz : Nat) (tg : Nat → Nat) (hSH : SH σ tg) (hG0 : GT tg I ri) (a0 : Int32) : MetI l yX12_isRise (wa yX12_isRise cX12_isRise 1 (some .boolean)) ({ frames := 1, cells := 0, slots := 0, locals := 22 }) [.int a0] D t σ (I, J, ri, rj, rq) sz 0 0 (fun (r : Int32) (u : pq_S × pq_M) => u = (σ, I, J, ri, rj, rq) ∧ ((r = 1 ∧ rg a0 0 2 ∧ (0 ≤ a0.toInt ∧ a0.toInt ≤ 2)) ∨ (r = 0 ∧ (¬ (0 ≤ a0.toInt ∧ a0.toInt ≤ 2))))) := by
  refine Met.ofW (cc := cX12_isRise) (maxL := 1) (ret := (some .boolean)) (by decide) rfl ?_
  intro p e s m args below meth c s₁ B hml hv
  obtain ⟨rfl, hsz, hP, hK, hD0, hN⟩ := hv
  have hx := B.exec
  have hb := B.bytes
  have hr := B.returns
  have hts := atoms_spec (ws := (wa yX12_isRise cX12_isRise 1 (some .boolean))) B.pre
  have hown : s.vm.findClass RX12 = some m.cls := findClass_of_methodNamed B.named
  have hlocks := B.notSynchronized
  subst hsz
  have hD : va_D (pq_B t σ (I, J, ri, rj, rq) s.heap.size) (pq_P t σ (I, J, ri, rj, rq)) := hD0.self
  generalize hAe : pq_B t σ (I, J, ri, rj, rq) s.heap.size = A at hD ⊢
  have hA : ∀ q : Nat, s.heap.size ≤ q → A q := fun q h => by rw [← hAe]; exact Or.inr h
  have hS : va_S A s.heap s.heap [] := va_S.rf
  have hG : GM [] tg σ I ri I ri rq := ⟨hG0, fun _ _ _ => rfl, fun _ _ _ _ _ => rfl, fun _ _ _ _ _ _ => rfl⟩
  have hl := lv_entry ([.int a0]) (n := 1) (Nat.le_of_ble_eq_true rfl)
  rw [lg_entry_eq]
  generalize (lg_sl ([.int a0]) ++ List.replicate (1 - (lg_sl ([.int a0])).length) Slot.unset).toArray = ls at hl ⊢
  have hl : lv_has ls 1 [(0, .int a0)] := hl
  refine q_gen (fun Q hQ => ?_)
  have go : ∀ (H : Heap) (locs : List Loc) (ls : Array Slot), va_P D vwCl (pq_P t σ (I, J, ri, rj, rq)) H → va_D A (pq_P t σ (I, J, ri, rj, rq)) → va_S A s.heap H locs → lv_has ls 1 [(0, .int a0)] → W p l e ({ frames := 1, cells := 0, slots := 0, locals := 22 } : Room) s m (List.toArray ([.int a0] : List Value)) below meth c H locs 0 0 Q (F0 m 0 ls []) := by
    intro H locs ls hP hD hS hl
    refine lv_iload_n hx hb dX12_isRise_0 rfl (lv_at hl 0 rfl) ?_
    refine lv_iconst (v := 0) hx hb dX12_isRise_1 (by decide) ?_
    refine lv_iconst (v := 2) hx hb dX12_isRise_2 (by decide) ?_
    refine pk_i (va_runS (As := [.int a0, .int 0, .int 2]) (rest := []) ⟨hx, hb, hml, hown, hts⟩ (s_X12_isIn_v l D t σ I J ri rj rq H.size tg hSH hG.1 a0 (0 : Int32) (2 : Int32)) (va_cwS 3 hts (tw_S tw_235 tw_236 tw_5 tw_237) rfl rfl rfl cd_yX12_isIn_3 ⟨Nat.le_of_ble_eq_true rfl, Nat.le_of_ble_eq_true rfl⟩) ⟨pq_blind, pq_pre hK hN hP hD⟩ rfl rfl hl.1 rfl (lv_room (Nat.le_of_ble_eq_true rfl)) dX12_isRise_3 ⟨Nat.le_of_ble_eq_true rfl, Nat.le_of_ble_eq_true rfl⟩) hD hS hA (fun x_1 σ1 μ1 H locs hw_2 hP hD hS => ?_)
    obtain ⟨hu_3, hr_5⟩ := hw_2
    obtain ⟨hu_3a, hu_3b⟩ := Prod.mk.inj hu_3
    rw [hu_3a, hu_3b] at hP hD
    have h_6 : rg x_1 0 1 := by rcases hr_5 with ⟨q, -⟩ | ⟨q, -⟩ <;> rw [q] <;> exact ⟨by decide, by decide⟩
    have uh_6 := h_6.1
    have vh_6 := h_6.2
    rcases hr_5 with ⟨e_10, f_7, f_8⟩ | ⟨e_10, f_9⟩
    · refine lv_tov 1 e_10 ?_
      have tc_11 : 0 ≤ (a0).toInt := Int32.le_iff_toInt_le.mp f_7
      have h_12 : rg a0 0 2147483647 := rg_le2 f_7 (rg_k (0 : Int32) 0 rfl) (rg_full _) (by decide)
      have uh_12 := h_12.1
      have vh_12 := h_12.2
      have tc_13 : (a0).toInt ≤ 2 := Int32.le_iff_toInt_le.mp f_8
      have h_14 : rg a0 0 2 := rg_le1 f_8 h_12 (rg_k (2 : Int32) 2 rfl) (by decide)
      have uh_14 := h_14.1
      have vh_14 := h_14.2
      subst hQ
      exact W.zret (v := 1) hx hb hr (by decide) (fun t1 ht hW => ⟨⟨1, (σ, I, J, ri, rj, rq), rfl, ⟨rfl, (Or.inl ⟨rfl, (rg_w h_14 (by decide)), (by omega)⟩)⟩, by rw [ht]; exact hP, va_K.moved hW.alike hK, hD⟩, hS.F ht⟩) hS.2.2 dX12_isRise_6
    · refine lv_tov 0 e_10 ?_
      have zk_15 : (0 : Int32).toInt = 0 := rfl
      have zk_16 : (2 : Int32).toInt = 2 := rfl
      subst hQ
      exact W.zret (v := 0) hx hb hr (by decide) (fun t1 ht hW => ⟨⟨0, (σ, I, J, ri, rj, rq), rfl, ⟨rfl, (Or.inr ⟨rfl, (by omega)⟩)⟩, by rw [ht]; exact hP, va_K.moved hW.alike hK, hD⟩, hS.F ht⟩) hS.2.2 dX12_isRise_6
  exact go _ _ _ hP hD hS hl

set_option maxHeartbeats 4000000 in
set_option maxRecDepth 100000 in
theorem s_X12_isMonth_w (l : Launch) (D : va_G) (t : pq_T) (σ : pq_S) (I : Nat → Nat → Int32) (J : Nat → Nat → Int64) (ri : Nat → Nat → Int32) (rj : Nat → Nat → Int64) (rq : Nat → Nat → Option Nat) (sz : Nat) (tg : Nat → Nat) (hSH : SH σ tg) (hG0 : GT tg I ri) (a0 : Int32) : MetI l yX12_isMonth (wa yX12_isMonth cX12_isMonth 1 (some .boolean)) ({ frames := 1, cells := 0, slots := 0, locals := 22 }) [.int a0] D t σ (I, J, ri, rj, rq) sz 0 0 (fun (r : Int32) (u : pq_S × pq_M) => u = (σ, I, J, ri, rj, rq) ∧ ((r = 1 ∧ rg a0 0 599 ∧ (0 ≤ a0.toInt ∧ a0.toInt ≤ 599)) ∨ (r = 0 ∧ (¬ (0 ≤ a0.toInt ∧ a0.toInt ≤ 599))))) := by
  refine Met.ofW (cc := cX12_isMonth) (maxL := 1) (ret := (some .boolean)) (by decide) rfl ?_
  intro p e s m args below meth c s₁ B hml hv
  obtain ⟨rfl, hsz, hP, hK, hD0, hN⟩ := hv
  have hx := B.exec
  have hb := B.bytes
  have hr := B.returns
  have hts := atoms_spec (ws := (wa yX12_isMonth cX12_isMonth 1 (some .boolean))) B.pre
  have hown : s.vm.findClass RX12 = some m.cls := findClass_of_methodNamed B.named
  have hlocks := B.notSynchronized
  subst hsz
  have hD : va_D (pq_B t σ (I, J, ri, rj, rq) s.heap.size) (pq_P t σ (I, J, ri, rj, rq)) := hD0.self
  generalize hAe : pq_B t σ (I, J, ri, rj, rq) s.heap.size = A at hD ⊢
  have hA : ∀ q : Nat, s.heap.size ≤ q → A q := fun q h => by rw [← hAe]; exact Or.inr h
  have hS : va_S A s.heap s.heap [] := va_S.rf
  have hG : GM [] tg σ I ri I ri rq := ⟨hG0, fun _ _ _ => rfl, fun _ _ _ _ _ => rfl, fun _ _ _ _ _ _ => rfl⟩
  have hl := lv_entry ([.int a0]) (n := 1) (Nat.le_of_ble_eq_true rfl)
  rw [lg_entry_eq]
  generalize (lg_sl ([.int a0]) ++ List.replicate (1 - (lg_sl ([.int a0])).length) Slot.unset).toArray = ls at hl ⊢
  have hl : lv_has ls 1 [(0, .int a0)] := hl
  refine q_gen (fun Q hQ => ?_)
  have go : ∀ (H : Heap) (locs : List Loc) (ls : Array Slot), va_P D vwCl (pq_P t σ (I, J, ri, rj, rq)) H → va_D A (pq_P t σ (I, J, ri, rj, rq)) → va_S A s.heap H locs → lv_has ls 1 [(0, .int a0)] → W p l e ({ frames := 1, cells := 0, slots := 0, locals := 22 } : Room) s m (List.toArray ([.int a0] : List Value)) below meth c H locs 0 0 Q (F0 m 0 ls []) := by
    intro H locs ls hP hD hS hl
    refine lv_iload_n hx hb dX12_isMonth_0 rfl (lv_at hl 0 rfl) ?_
    refine lv_iconst (v := 0) hx hb dX12_isMonth_1 (by decide) ?_
    refine lv_sipush (v := 599) hx hb dX12_isMonth_2 (by decide) ?_
    refine pk_i (va_runS (As := [.int a0, .int 0, .int 599]) (rest := []) ⟨hx, hb, hml, hown, hts⟩ (s_X12_isIn_v l D t σ I J ri rj rq H.size tg hSH hG.1 a0 (0 : Int32) (599 : Int32)) (va_cwS 3 hts (tw_S tw_235 tw_236 tw_5 tw_237) rfl rfl rfl cd_yX12_isIn_3 ⟨Nat.le_of_ble_eq_true rfl, Nat.le_of_ble_eq_true rfl⟩) ⟨pq_blind, pq_pre hK hN hP hD⟩ rfl rfl hl.1 rfl (lv_room (Nat.le_of_ble_eq_true rfl)) dX12_isMonth_5 ⟨Nat.le_of_ble_eq_true rfl, Nat.le_of_ble_eq_true rfl⟩) hD hS hA (fun x_1 σ1 μ1 H locs hw_2 hP hD hS => ?_)
    obtain ⟨hu_3, hr_5⟩ := hw_2
    obtain ⟨hu_3a, hu_3b⟩ := Prod.mk.inj hu_3
    rw [hu_3a, hu_3b] at hP hD
    have h_6 : rg x_1 0 1 := by rcases hr_5 with ⟨q, -⟩ | ⟨q, -⟩ <;> rw [q] <;> exact ⟨by decide, by decide⟩
    have uh_6 := h_6.1
    have vh_6 := h_6.2
    rcases hr_5 with ⟨e_10, f_7, f_8⟩ | ⟨e_10, f_9⟩
    · refine lv_tov 1 e_10 ?_
      have tc_11 : 0 ≤ (a0).toInt := Int32.le_iff_toInt_le.mp f_7
      have h_12 : rg a0 0 2147483647 := rg_le2 f_7 (rg_k (0 : Int32) 0 rfl) (rg_full _) (by decide)
      have uh_12 := h_12.1
      have vh_12 := h_12.2
      have tc_13 : (a0).toInt ≤ 599 := Int32.le_iff_toInt_le.mp f_8
      have h_14 : rg a0 0 599 := rg_le1 f_8 h_12 (rg_k (599 : Int32) 599 rfl) (by decide)
      have uh_14 := h_14.1
      have vh_14 := h_14.2
      subst hQ
      exact W.zret (v := 1) hx hb hr (by decide) (fun t1 ht hW => ⟨⟨1, (σ, I, J, ri, rj, rq), rfl, ⟨rfl, (Or.inl ⟨rfl, (rg_w h_14 (by decide)), (by omega)⟩)⟩, by rw [ht]; exact hP, va_K.moved hW.alike hK, hD⟩, hS.F ht⟩) hS.2.2 dX12_isMonth_8
    · refine lv_tov 0 e_10 ?_
      have zk_15 : (0 : Int32).toInt = 0 := rfl
      have zk_16 : (599 : Int32).toInt = 599 := rfl
      subst hQ
      exact W.zret (v := 0) hx hb hr (by decide) (fun t1 ht hW => ⟨⟨0, (σ, I, J, ri, rj, rq), rfl, ⟨rfl, (Or.inr ⟨rfl, (by omega)⟩)⟩, by rw [ht]; exact hP, va_K.moved hW.alike hK, hD⟩, hS.F ht⟩) hS.2.2 dX12_isMonth_8
  exact go _ _ _ hP hD hS hl

set_option maxHeartbeats 4000000 in
set_option maxRecDepth 100000 in
theorem s_X12_isRing_w (l : Launch) (D : va_G) (t : pq_T) (σ : pq_S) (I : Nat → Nat → Int32) (J : Nat → Nat → Int64) (ri : Nat → Nat → Int32) (rj : Nat → Nat → Int64) (rq : Nat → Nat → Option Nat) (sz : Nat) (tg : Nat → Nat) (hSH : SH σ tg) (hG0 : GT tg I ri) (this : Nat) (a0 : Int32) (hL_this : this ∈ σ.1) (hK_this : σ.2.1 this = 12) (this_a : Nat) (hR_this_a : σ.2.2.1 384 this = some this_a) (hL_this_a : this_a ∈ σ.1) (hK_this_a : σ.2.1 this_a = 13) (hN_this_a : σ.2.2.2 this_a = 12720) (hT_this_a : tg this_a = 384) : MetI l yX12_isRing (wa yX12_isRing cX12_isRing 2 (some .boolean)) ({ frames := 1, cells := 0, slots := 0, locals := 22 }) [.ref this, .int a0] D t σ (I, J, ri, rj, rq) sz 0 0 (fun (r : Int32) (u : pq_S × pq_M) => u = (σ, I, J, ri, rj, rq) ∧ ((r = 1 ∧ rg a0 0 4 ∧ (0 ≤ a0.toInt ∧ a0.toInt < (ri this_a 1).toInt)) ∨ (r = 0 ∧ (¬ (0 ≤ a0.toInt ∧ a0.toInt < (ri this_a 1).toInt))))) := by
  refine Met.ofW (cc := cX12_isRing) (maxL := 2) (ret := (some .boolean)) (by decide) rfl ?_
  intro p e s m args below meth c s₁ B hml hv
  obtain ⟨rfl, hsz, hP, hK, hD0, hN⟩ := hv
  have hx := B.exec
  have hb := B.bytes
  have hr := B.returns
  have hts := atoms_spec (ws := (wa yX12_isRing cX12_isRing 2 (some .boolean))) B.pre
  have hown : s.vm.findClass RX12 = some m.cls := findClass_of_methodNamed B.named
  have hlocks := B.notSynchronized
  subst hsz
  have hD : va_D (pq_B t σ (I, J, ri, rj, rq) s.heap.size) (pq_P t σ (I, J, ri, rj, rq)) := hD0.self
  generalize hAe : pq_B t σ (I, J, ri, rj, rq) s.heap.size = A at hD ⊢
  have hA : ∀ q : Nat, s.heap.size ≤ q → A q := fun q h => by rw [← hAe]; exact Or.inr h
  have hS : va_S A s.heap s.heap [] := va_S.rf
  have hG : GM [] tg σ I ri I ri rq := ⟨hG0, fun _ _ _ => rfl, fun _ _ _ _ _ => rfl, fun _ _ _ _ _ _ => rfl⟩
  have hl := lv_entry ([.ref this, .int a0]) (n := 2) (Nat.le_of_ble_eq_true rfl)
  rw [lg_entry_eq]
  generalize (lg_sl ([.ref this, .int a0]) ++ List.replicate (2 - (lg_sl ([.ref this, .int a0])).length) Slot.unset).toArray = ls at hl ⊢
  have hl : lv_has ls 2 [(0, .ref this), (1, .int a0)] := hl
  refine q_gen (fun Q hQ => ?_)
  have go : ∀ (H : Heap) (locs : List Loc) (ls : Array Slot), va_P D vwCl (pq_P t σ (I, J, ri, rj, rq)) H → va_D A (pq_P t σ (I, J, ri, rj, rq)) → va_S A s.heap H locs → lv_has ls 2 [(0, .ref this), (1, .int a0)] → W p l e ({ frames := 1, cells := 0, slots := 0, locals := 22 } : Room) s m (List.toArray ([.ref this, .int a0] : List Value)) below meth c H locs 0 0 Q (F0 m 0 ls []) := by
    intro H locs ls hP hD hS hl
    refine lv_iload_n hx hb dX12_isRing_0 rfl (lv_at hl 1 rfl) ?_
    refine lv_iconst (v := 0) hx hb dX12_isRing_1 (by decide) ?_
    refine lv_aload_n hx hb dX12_isRing_2 rfl (lv_at hl 0 rfl) ?_
    refine pg_f (v := .ref this_a) (C := RX12) (T := TX12) (N := 31) hx hb hts (tw_i inlX12) hown hK hP hL_this hK_this (by decide) rfl 0 (by decide) (hts _ (tw_c tw_176)) (pq_hv rfl hR_this_a) dX12_isRing_3 ?_
    refine lv_iconst (v := 1) hx hb dX12_isRing_6 (by decide) ?_
    refine pl_i hx hb hK hP hL_this_a hK_this_a hN_this_a (vp_in_iff.mpr (by decide)) dX12_isRing_7 ?_
    refine lv_tov (ri this_a 1) rfl ?_
    have h_1 : rg (ri this_a 1) 0 5 := GM.z0 hG0 (by rw [hT_this_a]; decide) (i := 1) (k := 1) (by decide) rfl
    have uh_1 := h_1.1
    have vh_1 := h_1.2
    refine lv_iconst (v := 1) hx hb dX12_isRing_8 (by decide) ?_
    refine lv_isub hx hb dX12_isRing_9 ?_
    refine lv_topi (fun x_2 ex_2 => ?_)
    have h_3 : rg x_2 (-1) 4 := rg_of_eq ex_2 (rg_sub h_1 (rg_k (1 : Int32) 1 rfl) (by decide))
    have uh_3 := h_3.1
    have vh_3 := h_3.2
    have tx_2 : (x_2).toInt = (ri this_a 1).toInt - 1 := by rw [ex_2]; exact i_sub_rg (a2 := (ri this_a 1).toInt) (b2 := 1) rfl rfl h_1 (rg_k (1 : Int32) 1 rfl) (by decide)
    refine pk_i (va_runS (As := [.int a0, .int 0, .int x_2]) (rest := []) ⟨hx, hb, hml, hown, hts⟩ (s_X12_isIn_v l D t σ I J ri rj rq H.size tg hSH hG.1 a0 (0 : Int32) x_2) (va_cwS 3 hts (tw_S tw_235 tw_236 tw_5 tw_237) rfl rfl rfl cd_yX12_isIn_3 ⟨Nat.le_of_ble_eq_true rfl, Nat.le_of_ble_eq_true rfl⟩) ⟨pq_blind, pq_pre hK hN hP hD⟩ rfl rfl hl.1 rfl (lv_room (Nat.le_of_ble_eq_true rfl)) dX12_isRing_10 ⟨Nat.le_of_ble_eq_true rfl, Nat.le_of_ble_eq_true rfl⟩) hD hS hA (fun x_4 σ1 μ1 H locs hw_5 hP hD hS => ?_)
    obtain ⟨hu_6, hr_8⟩ := hw_5
    obtain ⟨hu_6a, hu_6b⟩ := Prod.mk.inj hu_6
    rw [hu_6a, hu_6b] at hP hD
    have h_9 : rg x_4 0 1 := by rcases hr_8 with ⟨q, -⟩ | ⟨q, -⟩ <;> rw [q] <;> exact ⟨by decide, by decide⟩
    have uh_9 := h_9.1
    have vh_9 := h_9.2
    rcases hr_8 with ⟨e_13, f_10, f_11⟩ | ⟨e_13, f_12⟩
    · refine lv_tov 1 e_13 ?_
      have tc_14 : 0 ≤ (a0).toInt := Int32.le_iff_toInt_le.mp f_10
      have h_15 : rg a0 0 2147483647 := rg_le2 f_10 (rg_k (0 : Int32) 0 rfl) (rg_full _) (by decide)
      have uh_15 := h_15.1
      have vh_15 := h_15.2
      have tc_16 : (a0).toInt ≤ (x_2).toInt := Int32.le_iff_toInt_le.mp f_11
      have h_17 : rg a0 0 4 := rg_le1 f_11 h_15 h_3 (by decide)
      have uh_17 := h_17.1
      have vh_17 := h_17.2
      have h_18 : rg x_2 0 4 := rg_le2 f_11 h_15 h_3 (by decide)
      have uh_18 := h_18.1
      have vh_18 := h_18.2
      subst hQ
      exact W.zret (v := 1) hx hb hr (by decide) (fun t1 ht hW => ⟨⟨1, (σ, I, J, ri, rj, rq), rfl, ⟨rfl, (Or.inl ⟨rfl, (rg_w h_17 (by decide)), (by omega)⟩)⟩, by rw [ht]; exact hP, va_K.moved hW.alike hK, hD⟩, hS.F ht⟩) hS.2.2 dX12_isRing_13
    · refine lv_tov 0 e_13 ?_
      have zk_19 : (0 : Int32).toInt = 0 := rfl
      subst hQ
      exact W.zret (v := 0) hx hb hr (by decide) (fun t1 ht hW => ⟨⟨0, (σ, I, J, ri, rj, rq), rfl, ⟨rfl, (Or.inr ⟨rfl, (by omega)⟩)⟩, by rw [ht]; exact hP, va_K.moved hW.alike hK, hD⟩, hS.F ht⟩) hS.2.2 dX12_isRing_13
  exact go _ _ _ hP hD hS hl

set_option maxHeartbeats 4000000 in
set_option maxRecDepth 100000 in
theorem s_X12_isCell_w (l : Launch) (D : va_G) (t : pq_T) (σ : pq_S) (I : Nat → Nat → Int32) (J : Nat → Nat → Int64) (ri : Nat → Nat → Int32) (rj : Nat → Nat → Int64) (rq : Nat → Nat → Option Nat) (sz : Nat) (tg : Nat → Nat) (hSH : SH σ tg) (hG0 : GT tg I ri) (this : Nat) (a0 : Int32) (hL_this : this ∈ σ.1) (hK_this : σ.2.1 this = 12) (this_a : Nat) (hR_this_a : σ.2.2.1 384 this = some this_a) (hL_this_a : this_a ∈ σ.1) (hK_this_a : σ.2.1 this_a = 13) (hN_this_a : σ.2.2.2 this_a = 12720) (hT_this_a : tg this_a = 384) : MetI l yX12_isCell (wa yX12_isCell cX12_isCell 2 (some .boolean)) ({ frames := 1, cells := 0, slots := 0, locals := 22 }) [.ref this, .int a0] D t σ (I, J, ri, rj, rq) sz 0 0 (fun (r : Int32) (u : pq_S × pq_M) => u = (σ, I, J, ri, rj, rq) ∧ ((r = 1 ∧ rg a0 0 39 ∧ (0 ≤ a0.toInt ∧ a0.toInt < (ri this_a 2).toInt)) ∨ (r = 0 ∧ (¬ (0 ≤ a0.toInt ∧ a0.toInt < (ri this_a 2).toInt))))) := by
  refine Met.ofW (cc := cX12_isCell) (maxL := 2) (ret := (some .boolean)) (by decide) rfl ?_
  intro p e s m args below meth c s₁ B hml hv
  obtain ⟨rfl, hsz, hP, hK, hD0, hN⟩ := hv
  have hx := B.exec
  have hb := B.bytes
  have hr := B.returns
  have hts := atoms_spec (ws := (wa yX12_isCell cX12_isCell 2 (some .boolean))) B.pre
  have hown : s.vm.findClass RX12 = some m.cls := findClass_of_methodNamed B.named
  have hlocks := B.notSynchronized
  subst hsz
  have hD : va_D (pq_B t σ (I, J, ri, rj, rq) s.heap.size) (pq_P t σ (I, J, ri, rj, rq)) := hD0.self
  generalize hAe : pq_B t σ (I, J, ri, rj, rq) s.heap.size = A at hD ⊢
  have hA : ∀ q : Nat, s.heap.size ≤ q → A q := fun q h => by rw [← hAe]; exact Or.inr h
  have hS : va_S A s.heap s.heap [] := va_S.rf
  have hG : GM [] tg σ I ri I ri rq := ⟨hG0, fun _ _ _ => rfl, fun _ _ _ _ _ => rfl, fun _ _ _ _ _ _ => rfl⟩
  have hl := lv_entry ([.ref this, .int a0]) (n := 2) (Nat.le_of_ble_eq_true rfl)
  rw [lg_entry_eq]
  generalize (lg_sl ([.ref this, .int a0]) ++ List.replicate (2 - (lg_sl ([.ref this, .int a0])).length) Slot.unset).toArray = ls at hl ⊢
  have hl : lv_has ls 2 [(0, .ref this), (1, .int a0)] := hl
  refine q_gen (fun Q hQ => ?_)
  have go : ∀ (H : Heap) (locs : List Loc) (ls : Array Slot), va_P D vwCl (pq_P t σ (I, J, ri, rj, rq)) H → va_D A (pq_P t σ (I, J, ri, rj, rq)) → va_S A s.heap H locs → lv_has ls 2 [(0, .ref this), (1, .int a0)] → W p l e ({ frames := 1, cells := 0, slots := 0, locals := 22 } : Room) s m (List.toArray ([.ref this, .int a0] : List Value)) below meth c H locs 0 0 Q (F0 m 0 ls []) := by
    intro H locs ls hP hD hS hl
    refine lv_iload_n hx hb dX12_isCell_0 rfl (lv_at hl 1 rfl) ?_
    refine lv_iconst (v := 0) hx hb dX12_isCell_1 (by decide) ?_
    refine lv_aload_n hx hb dX12_isCell_2 rfl (lv_at hl 0 rfl) ?_
    refine pg_f (v := .ref this_a) (C := RX12) (T := TX12) (N := 31) hx hb hts (tw_i inlX12) hown hK hP hL_this hK_this (by decide) rfl 0 (by decide) (hts _ (tw_c tw_176)) (pq_hv rfl hR_this_a) dX12_isCell_3 ?_
    refine lv_iconst (v := 2) hx hb dX12_isCell_6 (by decide) ?_
    refine pl_i hx hb hK hP hL_this_a hK_this_a hN_this_a (vp_in_iff.mpr (by decide)) dX12_isCell_7 ?_
    refine lv_tov (ri this_a 2) rfl ?_
    have h_1 : rg (ri this_a 2) 0 40 := GM.z0 hG0 (by rw [hT_this_a]; decide) (i := 2) (k := 2) (by decide) rfl
    have uh_1 := h_1.1
    have vh_1 := h_1.2
    refine lv_iconst (v := 1) hx hb dX12_isCell_8 (by decide) ?_
    refine lv_isub hx hb dX12_isCell_9 ?_
    refine lv_topi (fun x_2 ex_2 => ?_)
    have h_3 : rg x_2 (-1) 39 := rg_of_eq ex_2 (rg_sub h_1 (rg_k (1 : Int32) 1 rfl) (by decide))
    have uh_3 := h_3.1
    have vh_3 := h_3.2
    have tx_2 : (x_2).toInt = (ri this_a 2).toInt - 1 := by rw [ex_2]; exact i_sub_rg (a2 := (ri this_a 2).toInt) (b2 := 1) rfl rfl h_1 (rg_k (1 : Int32) 1 rfl) (by decide)
    refine pk_i (va_runS (As := [.int a0, .int 0, .int x_2]) (rest := []) ⟨hx, hb, hml, hown, hts⟩ (s_X12_isIn_v l D t σ I J ri rj rq H.size tg hSH hG.1 a0 (0 : Int32) x_2) (va_cwS 3 hts (tw_S tw_235 tw_236 tw_5 tw_237) rfl rfl rfl cd_yX12_isIn_3 ⟨Nat.le_of_ble_eq_true rfl, Nat.le_of_ble_eq_true rfl⟩) ⟨pq_blind, pq_pre hK hN hP hD⟩ rfl rfl hl.1 rfl (lv_room (Nat.le_of_ble_eq_true rfl)) dX12_isCell_10 ⟨Nat.le_of_ble_eq_true rfl, Nat.le_of_ble_eq_true rfl⟩) hD hS hA (fun x_4 σ1 μ1 H locs hw_5 hP hD hS => ?_)
    obtain ⟨hu_6, hr_8⟩ := hw_5
    obtain ⟨hu_6a, hu_6b⟩ := Prod.mk.inj hu_6
    rw [hu_6a, hu_6b] at hP hD
    have h_9 : rg x_4 0 1 := by rcases hr_8 with ⟨q, -⟩ | ⟨q, -⟩ <;> rw [q] <;> exact ⟨by decide, by decide⟩
    have uh_9 := h_9.1
    have vh_9 := h_9.2
    rcases hr_8 with ⟨e_13, f_10, f_11⟩ | ⟨e_13, f_12⟩
    · refine lv_tov 1 e_13 ?_
      have tc_14 : 0 ≤ (a0).toInt := Int32.le_iff_toInt_le.mp f_10
      have h_15 : rg a0 0 2147483647 := rg_le2 f_10 (rg_k (0 : Int32) 0 rfl) (rg_full _) (by decide)
      have uh_15 := h_15.1
      have vh_15 := h_15.2
      have tc_16 : (a0).toInt ≤ (x_2).toInt := Int32.le_iff_toInt_le.mp f_11
      have h_17 : rg a0 0 39 := rg_le1 f_11 h_15 h_3 (by decide)
      have uh_17 := h_17.1
      have vh_17 := h_17.2
      have h_18 : rg x_2 0 39 := rg_le2 f_11 h_15 h_3 (by decide)
      have uh_18 := h_18.1
      have vh_18 := h_18.2
      subst hQ
      exact W.zret (v := 1) hx hb hr (by decide) (fun t1 ht hW => ⟨⟨1, (σ, I, J, ri, rj, rq), rfl, ⟨rfl, (Or.inl ⟨rfl, (rg_w h_17 (by decide)), (by omega)⟩)⟩, by rw [ht]; exact hP, va_K.moved hW.alike hK, hD⟩, hS.F ht⟩) hS.2.2 dX12_isCell_13
    · refine lv_tov 0 e_13 ?_
      have zk_19 : (0 : Int32).toInt = 0 := rfl
      subst hQ
      exact W.zret (v := 0) hx hb hr (by decide) (fun t1 ht hW => ⟨⟨0, (σ, I, J, ri, rj, rq), rfl, ⟨rfl, (Or.inr ⟨rfl, (by omega)⟩)⟩, by rw [ht]; exact hP, va_K.moved hW.alike hK, hD⟩, hS.F ht⟩) hS.2.2 dX12_isCell_13
  exact go _ _ _ hP hD hS hl

set_option maxHeartbeats 4000000 in
set_option maxRecDepth 100000 in
theorem s_X12_isPerson_w (l : Launch) (D : va_G) (t : pq_T) (σ : pq_S) (I : Nat → Nat → Int32) (J : Nat → Nat → Int64) (ri : Nat → Nat → Int32) (rj : Nat → Nat → Int64) (rq : Nat → Nat → Option Nat) (sz : Nat) (tg : Nat → Nat) (hSH : SH σ tg) (hG0 : GT tg I ri) (this : Nat) (a0 : Int32) (hL_this : this ∈ σ.1) (hK_this : σ.2.1 this = 12) (this_a : Nat) (hR_this_a : σ.2.2.1 384 this = some this_a) (hL_this_a : this_a ∈ σ.1) (hK_this_a : σ.2.1 this_a = 13) (hN_this_a : σ.2.2.2 this_a = 12720) (hT_this_a : tg this_a = 384) : MetI l yX12_isPerson (wa yX12_isPerson cX12_isPerson 2 (some .boolean)) ({ frames := 1, cells := 0, slots := 0, locals := 22 }) [.ref this, .int a0] D t σ (I, J, ri, rj, rq) sz 0 0 (fun (r : Int32) (u : pq_S × pq_M) => u = (σ, I, J, ri, rj, rq) ∧ ((r = 1 ∧ rg a0 0 39 ∧ (0 ≤ a0.toInt ∧ a0.toInt < (ri this_a 5).toInt)) ∨ (r = 0 ∧ (¬ (0 ≤ a0.toInt ∧ a0.toInt < (ri this_a 5).toInt))))) := by
  refine Met.ofW (cc := cX12_isPerson) (maxL := 2) (ret := (some .boolean)) (by decide) rfl ?_
  intro p e s m args below meth c s₁ B hml hv
  obtain ⟨rfl, hsz, hP, hK, hD0, hN⟩ := hv
  have hx := B.exec
  have hb := B.bytes
  have hr := B.returns
  have hts := atoms_spec (ws := (wa yX12_isPerson cX12_isPerson 2 (some .boolean))) B.pre
  have hown : s.vm.findClass RX12 = some m.cls := findClass_of_methodNamed B.named
  have hlocks := B.notSynchronized
  subst hsz
  have hD : va_D (pq_B t σ (I, J, ri, rj, rq) s.heap.size) (pq_P t σ (I, J, ri, rj, rq)) := hD0.self
  generalize hAe : pq_B t σ (I, J, ri, rj, rq) s.heap.size = A at hD ⊢
  have hA : ∀ q : Nat, s.heap.size ≤ q → A q := fun q h => by rw [← hAe]; exact Or.inr h
  have hS : va_S A s.heap s.heap [] := va_S.rf
  have hG : GM [] tg σ I ri I ri rq := ⟨hG0, fun _ _ _ => rfl, fun _ _ _ _ _ => rfl, fun _ _ _ _ _ _ => rfl⟩
  have hl := lv_entry ([.ref this, .int a0]) (n := 2) (Nat.le_of_ble_eq_true rfl)
  rw [lg_entry_eq]
  generalize (lg_sl ([.ref this, .int a0]) ++ List.replicate (2 - (lg_sl ([.ref this, .int a0])).length) Slot.unset).toArray = ls at hl ⊢
  have hl : lv_has ls 2 [(0, .ref this), (1, .int a0)] := hl
  refine q_gen (fun Q hQ => ?_)
  have go : ∀ (H : Heap) (locs : List Loc) (ls : Array Slot), va_P D vwCl (pq_P t σ (I, J, ri, rj, rq)) H → va_D A (pq_P t σ (I, J, ri, rj, rq)) → va_S A s.heap H locs → lv_has ls 2 [(0, .ref this), (1, .int a0)] → W p l e ({ frames := 1, cells := 0, slots := 0, locals := 22 } : Room) s m (List.toArray ([.ref this, .int a0] : List Value)) below meth c H locs 0 0 Q (F0 m 0 ls []) := by
    intro H locs ls hP hD hS hl
    refine lv_iload_n hx hb dX12_isPerson_0 rfl (lv_at hl 1 rfl) ?_
    refine lv_iconst (v := 0) hx hb dX12_isPerson_1 (by decide) ?_
    refine lv_aload_n hx hb dX12_isPerson_2 rfl (lv_at hl 0 rfl) ?_
    refine pg_f (v := .ref this_a) (C := RX12) (T := TX12) (N := 31) hx hb hts (tw_i inlX12) hown hK hP hL_this hK_this (by decide) rfl 0 (by decide) (hts _ (tw_c tw_176)) (pq_hv rfl hR_this_a) dX12_isPerson_3 ?_
    refine lv_iconst (v := 5) hx hb dX12_isPerson_6 (by decide) ?_
    refine pl_i hx hb hK hP hL_this_a hK_this_a hN_this_a (vp_in_iff.mpr (by decide)) dX12_isPerson_7 ?_
    refine lv_tov (ri this_a 5) rfl ?_
    have h_1 : rg (ri this_a 5) 0 40 := GM.z0 hG0 (by rw [hT_this_a]; decide) (i := 5) (k := 5) (by decide) rfl
    have uh_1 := h_1.1
    have vh_1 := h_1.2
    refine lv_iconst (v := 1) hx hb dX12_isPerson_8 (by decide) ?_
    refine lv_isub hx hb dX12_isPerson_9 ?_
    refine lv_topi (fun x_2 ex_2 => ?_)
    have h_3 : rg x_2 (-1) 39 := rg_of_eq ex_2 (rg_sub h_1 (rg_k (1 : Int32) 1 rfl) (by decide))
    have uh_3 := h_3.1
    have vh_3 := h_3.2
    have tx_2 : (x_2).toInt = (ri this_a 5).toInt - 1 := by rw [ex_2]; exact i_sub_rg (a2 := (ri this_a 5).toInt) (b2 := 1) rfl rfl h_1 (rg_k (1 : Int32) 1 rfl) (by decide)
    refine pk_i (va_runS (As := [.int a0, .int 0, .int x_2]) (rest := []) ⟨hx, hb, hml, hown, hts⟩ (s_X12_isIn_v l D t σ I J ri rj rq H.size tg hSH hG.1 a0 (0 : Int32) x_2) (va_cwS 3 hts (tw_S tw_235 tw_236 tw_5 tw_237) rfl rfl rfl cd_yX12_isIn_3 ⟨Nat.le_of_ble_eq_true rfl, Nat.le_of_ble_eq_true rfl⟩) ⟨pq_blind, pq_pre hK hN hP hD⟩ rfl rfl hl.1 rfl (lv_room (Nat.le_of_ble_eq_true rfl)) dX12_isPerson_10 ⟨Nat.le_of_ble_eq_true rfl, Nat.le_of_ble_eq_true rfl⟩) hD hS hA (fun x_4 σ1 μ1 H locs hw_5 hP hD hS => ?_)
    obtain ⟨hu_6, hr_8⟩ := hw_5
    obtain ⟨hu_6a, hu_6b⟩ := Prod.mk.inj hu_6
    rw [hu_6a, hu_6b] at hP hD
    have h_9 : rg x_4 0 1 := by rcases hr_8 with ⟨q, -⟩ | ⟨q, -⟩ <;> rw [q] <;> exact ⟨by decide, by decide⟩
    have uh_9 := h_9.1
    have vh_9 := h_9.2
    rcases hr_8 with ⟨e_13, f_10, f_11⟩ | ⟨e_13, f_12⟩
    · refine lv_tov 1 e_13 ?_
      have tc_14 : 0 ≤ (a0).toInt := Int32.le_iff_toInt_le.mp f_10
      have h_15 : rg a0 0 2147483647 := rg_le2 f_10 (rg_k (0 : Int32) 0 rfl) (rg_full _) (by decide)
      have uh_15 := h_15.1
      have vh_15 := h_15.2
      have tc_16 : (a0).toInt ≤ (x_2).toInt := Int32.le_iff_toInt_le.mp f_11
      have h_17 : rg a0 0 39 := rg_le1 f_11 h_15 h_3 (by decide)
      have uh_17 := h_17.1
      have vh_17 := h_17.2
      have h_18 : rg x_2 0 39 := rg_le2 f_11 h_15 h_3 (by decide)
      have uh_18 := h_18.1
      have vh_18 := h_18.2
      subst hQ
      exact W.zret (v := 1) hx hb hr (by decide) (fun t1 ht hW => ⟨⟨1, (σ, I, J, ri, rj, rq), rfl, ⟨rfl, (Or.inl ⟨rfl, (rg_w h_17 (by decide)), (by omega)⟩)⟩, by rw [ht]; exact hP, va_K.moved hW.alike hK, hD⟩, hS.F ht⟩) hS.2.2 dX12_isPerson_13
    · refine lv_tov 0 e_13 ?_
      have zk_19 : (0 : Int32).toInt = 0 := rfl
      subst hQ
      exact W.zret (v := 0) hx hb hr (by decide) (fun t1 ht hW => ⟨⟨0, (σ, I, J, ri, rj, rq), rfl, ⟨rfl, (Or.inr ⟨rfl, (by omega)⟩)⟩, by rw [ht]; exact hP, va_K.moved hW.alike hK, hD⟩, hS.F ht⟩) hS.2.2 dX12_isPerson_13
  exact go _ _ _ hP hD hS hl

set_option maxHeartbeats 4000000 in
set_option maxRecDepth 100000 in
theorem s_X12_isTime_w (l : Launch) (D : va_G) (t : pq_T) (σ : pq_S) (I : Nat → Nat → Int32) (J : Nat → Nat → Int64) (ri : Nat → Nat → Int32) (rj : Nat → Nat → Int64) (rq : Nat → Nat → Option Nat) (sz : Nat) (tg : Nat → Nat) (hSH : SH σ tg) (hG0 : GT tg I ri) (this : Nat) (a0 : Int32) (a1 : Int32) (a2 : Int32) (hL_this : this ∈ σ.1) (hK_this : σ.2.1 this = 12) (h_a1 : rg a1 12 60) (this_a : Nat) (hR_this_a : σ.2.2.1 384 this = some this_a) (hL_this_a : this_a ∈ σ.1) (hK_this_a : σ.2.1 this_a = 13) (hN_this_a : σ.2.2.2 this_a = 12720) (hT_this_a : tg this_a = 384) : MetI l yX12_isTime (wa yX12_isTime cX12_isTime 4 (some .boolean)) ({ frames := 2, cells := 0, slots := 0, locals := 42 }) [.ref this, .int a0, .int a1, .int a2] D t σ (I, J, ri, rj, rq) sz 0 0 (fun (r : Int32) (u : pq_S × pq_M) => u = (σ, I, J, ri, rj, rq) ∧ ((r = 1 ∧ rg a0 1 60 ∧ rg a2 0 2 ∧ ((0 ≤ a2.toInt ∧ a2.toInt ≤ 2) ∧ (1 ≤ a0.toInt ∧ a0.toInt ≤ a1.toInt) ∧ (ri this_a 0).toInt + a0.toInt ≤ 600)) ∨ (r = 0 ∧ (¬ ((0 ≤ a2.toInt ∧ a2.toInt ≤ 2) ∧ (1 ≤ a0.toInt ∧ a0.toInt ≤ a1.toInt) ∧ (ri this_a 0).toInt + a0.toInt ≤ 600))))) := by
  refine Met.ofW (cc := cX12_isTime) (maxL := 4) (ret := (some .boolean)) (by decide) rfl ?_
  intro p e s m args below meth c s₁ B hml hv
  obtain ⟨rfl, hsz, hP, hK, hD0, hN⟩ := hv
  have hx := B.exec
  have hb := B.bytes
  have hr := B.returns
  have hts := atoms_spec (ws := (wa yX12_isTime cX12_isTime 4 (some .boolean))) B.pre
  have hown : s.vm.findClass RX12 = some m.cls := findClass_of_methodNamed B.named
  have hlocks := B.notSynchronized
  subst hsz
  have hD : va_D (pq_B t σ (I, J, ri, rj, rq) s.heap.size) (pq_P t σ (I, J, ri, rj, rq)) := hD0.self
  generalize hAe : pq_B t σ (I, J, ri, rj, rq) s.heap.size = A at hD ⊢
  have hA : ∀ q : Nat, s.heap.size ≤ q → A q := fun q h => by rw [← hAe]; exact Or.inr h
  have hS : va_S A s.heap s.heap [] := va_S.rf
  have hG : GM [] tg σ I ri I ri rq := ⟨hG0, fun _ _ _ => rfl, fun _ _ _ _ _ => rfl, fun _ _ _ _ _ _ => rfl⟩
  have hl := lv_entry ([.ref this, .int a0, .int a1, .int a2]) (n := 4) (Nat.le_of_ble_eq_true rfl)
  rw [lg_entry_eq]
  generalize (lg_sl ([.ref this, .int a0, .int a1, .int a2]) ++ List.replicate (4 - (lg_sl ([.ref this, .int a0, .int a1, .int a2])).length) Slot.unset).toArray = ls at hl ⊢
  have hl : lv_has ls 4 [(0, .ref this), (1, .int a0), (2, .int a1), (3, .int a2)] := hl
  refine q_gen (fun Q hQ => ?_)
  have go : ∀ (H : Heap) (locs : List Loc) (ls : Array Slot), va_P D vwCl (pq_P t σ (I, J, ri, rj, rq)) H → va_D A (pq_P t σ (I, J, ri, rj, rq)) → va_S A s.heap H locs → lv_has ls 4 [(0, .ref this), (1, .int a0), (2, .int a1), (3, .int a2)] → W p l e ({ frames := 2, cells := 0, slots := 0, locals := 42 } : Room) s m (List.toArray ([.ref this, .int a0, .int a1, .int a2] : List Value)) below meth c H locs 0 0 Q (F0 m 0 ls []) := by
    intro H locs ls hP hD hS hl
    refine lv_iload_n hx hb dX12_isTime_0 rfl (lv_at hl 1 rfl) ?_
    refine lv_iconst (v := 1) hx hb dX12_isTime_1 (by decide) ?_
    refine lv_iload_n hx hb dX12_isTime_2 rfl (lv_at hl 2 rfl) ?_
    refine pk_i (va_runS (As := [.int a0, .int 1, .int a1]) (rest := []) ⟨hx, hb, hml, hown, hts⟩ (s_X12_isIn_v l D t σ I J ri rj rq H.size tg hSH hG.1 a0 (1 : Int32) a1) (va_cwS 3 hts (tw_S tw_235 tw_236 tw_5 tw_237) rfl rfl rfl cd_yX12_isIn_3 ⟨Nat.le_of_ble_eq_true rfl, Nat.le_of_ble_eq_true rfl⟩) ⟨pq_blind, pq_pre hK hN hP hD⟩ rfl rfl hl.1 rfl (lv_room (Nat.le_of_ble_eq_true rfl)) dX12_isTime_3 ⟨Nat.le_of_ble_eq_true rfl, Nat.le_of_ble_eq_true rfl⟩) hD hS hA (fun x_1 σ1 μ1 H locs hw_2 hP hD hS => ?_)
    obtain ⟨hu_3, hr_5⟩ := hw_2
    obtain ⟨hu_3a, hu_3b⟩ := Prod.mk.inj hu_3
    rw [hu_3a, hu_3b] at hP hD
    have h_6 : rg x_1 0 1 := by rcases hr_5 with ⟨q, -⟩ | ⟨q, -⟩ <;> rw [q] <;> exact ⟨by decide, by decide⟩
    have uh_6 := h_6.1
    have vh_6 := h_6.2
    refine lv_if_eq (tgt := 34) hx hb dX12_isTime_6 (by decide) (fun c_7 => ?_) (fun c_7 => ?_)
    · have f_8 := (hr_5.resolve_left (fun q => absurd (q.1.symm.trans c_7) (by decide))).2
      have zk_9 : (1 : Int32).toInt = 1 := rfl
      have tc_10 : (x_1).toInt = 0 := congrArg Int32.toInt c_7
      have h_11 : rg x_1 0 0 := rg_and h_6 (rg_of_eq c_7 (rg_k (0 : Int32) 0 rfl)) (by decide)
      have uh_11 := h_11.1
      have vh_11 := h_11.2
      refine lv_iconst (v := 0) hx hb dX12_isTime_34 (by decide) ?_
      subst hQ
      exact W.zret (v := 0) hx hb hr (by decide) (fun t1 ht hW => ⟨⟨0, (σ, I, J, ri, rj, rq), rfl, ⟨rfl, (Or.inr ⟨rfl, (by omega)⟩)⟩, by rw [ht]; exact hP, va_K.moved hW.alike hK, hD⟩, hS.F ht⟩) hS.2.2 dX12_isTime_35
    · obtain ⟨f_12, f_13⟩ := (hr_5.resolve_right (fun q => c_7 q.1)).2
      have tc_14 : 1 ≤ (a0).toInt := Int32.le_iff_toInt_le.mp f_12
      have h_15 : rg a0 1 2147483647 := rg_le2 f_12 (rg_k (1 : Int32) 1 rfl) (rg_full _) (by decide)
      have uh_15 := h_15.1
      have vh_15 := h_15.2
      have tc_16 : (a0).toInt ≤ (a1).toInt := Int32.le_iff_toInt_le.mp f_13
      have h_17 : rg a0 1 60 := rg_le1 f_13 h_15 h_a1 (by decide)
      have uh_17 := h_17.1
      have vh_17 := h_17.2
      have tc_18 : (x_1).toInt ≠ 0 := fun q => c_7 (Int32.toInt_inj.mp q)
      have h_19 : rg x_1 1 1 := rg_ne c_7 h_6 0 rfl (by decide)
      have uh_19 := h_19.1
      have vh_19 := h_19.2
      refine lv_iload_n hx hb dX12_isTime_9 rfl (lv_at hl 3 rfl) ?_
      refine pk_i (va_runS (As := [.int a2]) (rest := []) ⟨hx, hb, hml, hown, hts⟩ (s_X12_isRise_w l D t σ I J ri rj rq H.size tg hSH hG.1 a2) (va_cwS 1 hts (tw_S tw_259 tw_260 tw_5 tw_261) rfl rfl rfl cd_yX12_isRise_1 ⟨Nat.le_of_ble_eq_true rfl, Nat.le_of_ble_eq_true rfl⟩) ⟨pq_blind, pq_pre hK hN hP hD⟩ rfl rfl hl.1 rfl (lv_room (Nat.le_of_ble_eq_true rfl)) dX12_isTime_10 ⟨Nat.le_of_ble_eq_true rfl, Nat.le_of_ble_eq_true rfl⟩) hD hS hA (fun x_20 σ1 μ1 H locs hw_21 hP hD hS => ?_)
      obtain ⟨hu_22, hr_24⟩ := hw_21
      obtain ⟨hu_22a, hu_22b⟩ := Prod.mk.inj hu_22
      rw [hu_22a, hu_22b] at hP hD
      have h_25 : rg x_20 0 1 := by rcases hr_24 with ⟨q, -⟩ | ⟨q, -⟩ <;> rw [q] <;> exact ⟨by decide, by decide⟩
      have uh_25 := h_25.1
      have vh_25 := h_25.2
      refine lv_if_eq (tgt := 34) hx hb dX12_isTime_13 (by decide) (fun c_26 => ?_) (fun c_26 => ?_)
      · have f_27 := (hr_24.resolve_left (fun q => absurd (q.1.symm.trans c_26) (by decide))).2
        have tc_28 : (x_20).toInt = 0 := congrArg Int32.toInt c_26
        have h_29 : rg x_20 0 0 := rg_and h_25 (rg_of_eq c_26 (rg_k (0 : Int32) 0 rfl)) (by decide)
        have uh_29 := h_29.1
        have vh_29 := h_29.2
        refine lv_iconst (v := 0) hx hb dX12_isTime_34 (by decide) ?_
        subst hQ
        exact W.zret (v := 0) hx hb hr (by decide) (fun t1 ht hW => ⟨⟨0, (σ, I, J, ri, rj, rq), rfl, ⟨rfl, (Or.inr ⟨rfl, (by omega)⟩)⟩, by rw [ht]; exact hP, va_K.moved hW.alike hK, hD⟩, hS.F ht⟩) hS.2.2 dX12_isTime_35
      · obtain ⟨f_30, f_31⟩ := (hr_24.resolve_right (fun q => c_26 q.1)).2
        have uf_30 := f_30.1
        have vf_30 := f_30.2
        have tc_32 : (x_20).toInt ≠ 0 := fun q => c_26 (Int32.toInt_inj.mp q)
        have h_33 : rg x_20 1 1 := rg_ne c_26 h_25 0 rfl (by decide)
        have uh_33 := h_33.1
        have vh_33 := h_33.2
        refine lv_aload_n hx hb dX12_isTime_16 rfl (lv_at hl 0 rfl) ?_
        refine pg_f (v := .ref this_a) (C := RX12) (T := TX12) (N := 31) hx hb hts (tw_i inlX12) hown hK hP hL_this hK_this (by decide) rfl 0 (by decide) (hts _ (tw_c tw_176)) (pq_hv rfl hR_this_a) dX12_isTime_17 ?_
        refine lv_iconst (v := 0) hx hb dX12_isTime_20 (by decide) ?_
        refine pl_i hx hb hK hP hL_this_a hK_this_a hN_this_a (vp_in_iff.mpr (by decide)) dX12_isTime_21 ?_
        refine lv_tov (ri this_a 0) rfl ?_
        have h_34 : rg (ri this_a 0) 0 600 := GM.z0 hG0 (by rw [hT_this_a]; decide) (i := 0) (k := 0) (by decide) rfl
        have uh_34 := h_34.1
        have vh_34 := h_34.2
        refine lv_iload_n hx hb dX12_isTime_22 rfl (lv_at hl 1 rfl) ?_
        refine lv_iadd hx hb dX12_isTime_23 ?_
        refine lv_topi (fun x_35 ex_35 => ?_)
        have h_36 : rg x_35 1 660 := rg_of_eq ex_35 (rg_add h_34 h_17 (by decide))
        have uh_36 := h_36.1
        have vh_36 := h_36.2
        have tx_35 : (x_35).toInt = (ri this_a 0).toInt + (a0).toInt := by rw [ex_35]; exact i_add_rg (a2 := (ri this_a 0).toInt) (b2 := (a0).toInt) rfl rfl h_34 h_17 (by decide)
        refine lv_sipush (v := 600) hx hb dX12_isTime_24 (by decide) ?_
        refine lv_icmp_gt (tgt := 34) hx hb dX12_isTime_27 (by decide) (fun c_37 => ?_) (fun c_37 => ?_)
        · have tc_38 : 600 < (x_35).toInt := Int32.lt_iff_toInt_lt.mp c_37
          have h_39 : rg x_35 601 660 := rg_lt2 c_37 (rg_k (600 : Int32) 600 rfl) h_36 (by decide)
          have uh_39 := h_39.1
          have vh_39 := h_39.2
          refine lv_iconst (v := 0) hx hb dX12_isTime_34 (by decide) ?_
          subst hQ
          exact W.zret (v := 0) hx hb hr (by decide) (fun t1 ht hW => ⟨⟨0, (σ, I, J, ri, rj, rq), rfl, ⟨rfl, (Or.inr ⟨rfl, (by omega)⟩)⟩, by rw [ht]; exact hP, va_K.moved hW.alike hK, hD⟩, hS.F ht⟩) hS.2.2 dX12_isTime_35
        · have tc_40 : (x_35).toInt ≤ 600 := Int32.le_iff_toInt_le.mp (nlt c_37)
          have h_41 : rg x_35 1 600 := rg_le1 (nlt c_37) h_36 (rg_k (600 : Int32) 600 rfl) (by decide)
          have uh_41 := h_41.1
          have vh_41 := h_41.2
          refine lv_iconst (v := 1) hx hb dX12_isTime_30 (by decide) ?_
          refine lv_goto (tgt := 35) hx hb dX12_isTime_31 (by decide) ?_
          subst hQ
          exact W.zret (v := 1) hx hb hr (by decide) (fun t1 ht hW => ⟨⟨1, (σ, I, J, ri, rj, rq), rfl, ⟨rfl, (Or.inl ⟨rfl, (rg_w h_17 (by decide)), (rg_w f_30 (by decide)), (by omega)⟩)⟩, by rw [ht]; exact hP, va_K.moved hW.alike hK, hD⟩, hS.F ht⟩) hS.2.2 dX12_isTime_35
  exact go _ _ _ hP hD hS hl

set_option maxHeartbeats 4000000 in
set_option maxRecDepth 100000 in
theorem s_X12_wall_w (l : Launch) (D : va_G) (t : pq_T) (σ : pq_S) (I : Nat → Nat → Int32) (J : Nat → Nat → Int64) (ri : Nat → Nat → Int32) (rj : Nat → Nat → Int64) (rq : Nat → Nat → Option Nat) (sz : Nat) (tg : Nat → Nat) (hSH : SH σ tg) (hG0 : GT tg I ri) (this : Nat) (a0 : Int32) (a1 : Int32) (hL_this : this ∈ σ.1) (hK_this : σ.2.1 this = 12) (this_a : Nat) (hR_this_a : σ.2.2.1 384 this = some this_a) (hL_this_a : this_a ∈ σ.1) (hK_this_a : σ.2.1 this_a = 13) (hN_this_a : σ.2.2.2 this_a = 12720) (hT_this_a : tg this_a = 384) : MetI l yX12_wall (wa yX12_wall cX12_wall 3 (some .boolean)) ({ frames := 2, cells := 0, slots := 0, locals := 43 }) [.ref this, .int a0, .int a1] D t σ (I, J, ri, rj, rq) sz 0 0 (fun (r : Int32) (u : pq_S × pq_M) => ∃ ri' : Nat → Nat → Int32, u = (σ, I, J, ri', rj, rq) ∧ GM [1306] tg σ I ri I ri' rq ∧ ((r = 1 ∧ rg a0 0 39 ∧ rg a1 0 1000 ∧ ((0 ≤ a0.toInt ∧ a0.toInt < (ri this_a 2).toInt) ∧ 0 ≤ a1.toInt ∧ a1.toInt ≤ 1000)) ∨ (r = 0 ∧ (¬ ((0 ≤ a0.toInt ∧ a0.toInt < (ri this_a 2).toInt) ∧ 0 ≤ a1.toInt ∧ a1.toInt ≤ 1000))))) := by
  refine Met.ofW (cc := cX12_wall) (maxL := 3) (ret := (some .boolean)) (by decide) rfl ?_
  intro p e s m args below meth c s₁ B hml hv
  obtain ⟨rfl, hsz, hP, hK, hD0, hN⟩ := hv
  have hx := B.exec
  have hb := B.bytes
  have hr := B.returns
  have hts := atoms_spec (ws := (wa yX12_wall cX12_wall 3 (some .boolean))) B.pre
  have hown : s.vm.findClass RX12 = some m.cls := findClass_of_methodNamed B.named
  have hlocks := B.notSynchronized
  subst hsz
  have hD : va_D (pq_B t σ (I, J, ri, rj, rq) s.heap.size) (pq_P t σ (I, J, ri, rj, rq)) := hD0.self
  generalize hAe : pq_B t σ (I, J, ri, rj, rq) s.heap.size = A at hD ⊢
  have hA : ∀ q : Nat, s.heap.size ≤ q → A q := fun q h => by rw [← hAe]; exact Or.inr h
  have hS : va_S A s.heap s.heap [] := va_S.rf
  have hG : GM [1306] tg σ I ri I ri rq := ⟨hG0, fun _ _ _ => rfl, fun _ _ _ _ _ => rfl, fun _ _ _ _ _ _ => rfl⟩
  have hl := lv_entry ([.ref this, .int a0, .int a1]) (n := 3) (Nat.le_of_ble_eq_true rfl)
  rw [lg_entry_eq]
  generalize (lg_sl ([.ref this, .int a0, .int a1]) ++ List.replicate (3 - (lg_sl ([.ref this, .int a0, .int a1])).length) Slot.unset).toArray = ls at hl ⊢
  have hl : lv_has ls 3 [(0, .ref this), (1, .int a0), (2, .int a1)] := hl
  refine q_gen (fun Q hQ => ?_)
  have go : ∀ (H : Heap) (locs : List Loc) (ls : Array Slot), va_P D vwCl (pq_P t σ (I, J, ri, rj, rq)) H → va_D A (pq_P t σ (I, J, ri, rj, rq)) → va_S A s.heap H locs → lv_has ls 3 [(0, .ref this), (1, .int a0), (2, .int a1)] → W p l e ({ frames := 2, cells := 0, slots := 0, locals := 43 } : Room) s m (List.toArray ([.ref this, .int a0, .int a1] : List Value)) below meth c H locs 0 0 Q (F0 m 0 ls []) := by
    intro H locs ls hP hD hS hl
    refine lv_aload_n hx hb dX12_wall_0 rfl (lv_at hl 0 rfl) ?_
    refine lv_iload_n hx hb dX12_wall_1 rfl (lv_at hl 1 rfl) ?_
    refine pk_i (va_runV (As := [.int a0]) (rest := []) ⟨hx, hb, hml, hown, hts⟩ (s_X12_isCell_w l D t σ I J ri rj rq H.size tg hSH hG.1 this a0 hL_this hK_this this_a hR_this_a hL_this_a hK_this_a hN_this_a hT_this_a) (cwV 1 hts (tw_V tw_340 tw_341 tw_342 tw_5 tw_343) rfl rfl rfl cv_yX12_isCell_1 ⟨Nat.le_of_ble_eq_true rfl, Nat.le_of_ble_eq_true rfl⟩) ⟨pq_blind, pq_recv hK hP hL_this hK_this (by decide) rfl, pq_pre hK hN hP hD⟩ rfl rfl hl.1 rfl (lv_room (Nat.le_of_ble_eq_true rfl)) dX12_wall_2 ⟨Nat.le_of_ble_eq_true rfl, Nat.le_of_ble_eq_true rfl⟩) hD hS hA (fun x_1 σ1 μ1 H locs hw_2 hP hD hS => ?_)
    obtain ⟨hu_3, hr_5⟩ := hw_2
    obtain ⟨hu_3a, hu_3b⟩ := Prod.mk.inj hu_3
    rw [hu_3a, hu_3b] at hP hD
    have h_6 : rg x_1 0 1 := by rcases hr_5 with ⟨q, -⟩ | ⟨q, -⟩ <;> rw [q] <;> exact ⟨by decide, by decide⟩
    have uh_6 := h_6.1
    have vh_6 := h_6.2
    refine lv_if_eq (tgt := 19) hx hb dX12_wall_5 (by decide) (fun c_7 => ?_) (fun c_7 => ?_)
    · have f_8 := (hr_5.resolve_left (fun q => absurd (q.1.symm.trans c_7) (by decide))).2
      have tc_9 : (x_1).toInt = 0 := congrArg Int32.toInt c_7
      have h_10 : rg x_1 0 0 := rg_and h_6 (rg_of_eq c_7 (rg_k (0 : Int32) 0 rfl)) (by decide)
      have uh_10 := h_10.1
      have vh_10 := h_10.2
      refine lv_iconst (v := 0) hx hb dX12_wall_19 (by decide) ?_
      subst hQ
      exact W.zret (v := 0) hx hb hr (by decide) (fun t1 ht hW => ⟨⟨0, (σ, I, J, ri, rj, rq), rfl, ⟨ri, rfl, hG, (Or.inr ⟨rfl, (by omega)⟩)⟩, by rw [ht]; exact hP, va_K.moved hW.alike hK, hD⟩, hS.F ht⟩) hS.2.2 dX12_wall_20
    · obtain ⟨f_11, f_12⟩ := (hr_5.resolve_right (fun q => c_7 q.1)).2
      have uf_11 := f_11.1
      have vf_11 := f_11.2
      have tc_13 : (x_1).toInt ≠ 0 := fun q => c_7 (Int32.toInt_inj.mp q)
      have h_14 : rg x_1 1 1 := rg_ne c_7 h_6 0 rfl (by decide)
      have uh_14 := h_14.1
      have vh_14 := h_14.2
      refine lv_iload_n hx hb dX12_wall_8 rfl (lv_at hl 2 rfl) ?_
      refine lv_iconst (v := 0) hx hb dX12_wall_9 (by decide) ?_
      refine lv_sipush (v := 1000) hx hb dX12_wall_10 (by decide) ?_
      refine pk_i (va_runS (As := [.int a1, .int 0, .int 1000]) (rest := []) ⟨hx, hb, hml, hown, hts⟩ (s_X12_isIn_v l D t σ I J ri rj rq H.size tg hSH hG.1 a1 (0 : Int32) (1000 : Int32)) (va_cwS 3 hts (tw_S tw_235 tw_236 tw_5 tw_237) rfl rfl rfl cd_yX12_isIn_3 ⟨Nat.le_of_ble_eq_true rfl, Nat.le_of_ble_eq_true rfl⟩) ⟨pq_blind, pq_pre hK hN hP hD⟩ rfl rfl hl.1 rfl (lv_room (Nat.le_of_ble_eq_true rfl)) dX12_wall_13 ⟨Nat.le_of_ble_eq_true rfl, Nat.le_of_ble_eq_true rfl⟩) hD hS hA (fun x_15 σ1 μ1 H locs hw_16 hP hD hS => ?_)
      obtain ⟨hu_17, hr_19⟩ := hw_16
      obtain ⟨hu_17a, hu_17b⟩ := Prod.mk.inj hu_17
      rw [hu_17a, hu_17b] at hP hD
      have h_20 : rg x_15 0 1 := by rcases hr_19 with ⟨q, -⟩ | ⟨q, -⟩ <;> rw [q] <;> exact ⟨by decide, by decide⟩
      have uh_20 := h_20.1
      have vh_20 := h_20.2
      refine lv_if_ne (tgt := 21) hx hb dX12_wall_16 (by decide) (fun c_21 => ?_) (fun c_21 => ?_)
      · obtain ⟨f_22, f_23⟩ := (hr_19.resolve_right (fun q => c_21 q.1)).2
        have tc_24 : 0 ≤ (a1).toInt := Int32.le_iff_toInt_le.mp f_22
        have h_25 : rg a1 0 2147483647 := rg_le2 f_22 (rg_k (0 : Int32) 0 rfl) (rg_full _) (by decide)
        have uh_25 := h_25.1
        have vh_25 := h_25.2
        have tc_26 : (a1).toInt ≤ 1000 := Int32.le_iff_toInt_le.mp f_23
        have h_27 : rg a1 0 1000 := rg_le1 f_23 h_25 (rg_k (1000 : Int32) 1000 rfl) (by decide)
        have uh_27 := h_27.1
        have vh_27 := h_27.2
        have tc_28 : (x_15).toInt ≠ 0 := fun q => c_21 (Int32.toInt_inj.mp q)
        have h_29 : rg x_15 1 1 := rg_ne c_21 h_20 0 rfl (by decide)
        have uh_29 := h_29.1
        have vh_29 := h_29.2
        refine lv_aload_n hx hb dX12_wall_21 rfl (lv_at hl 0 rfl) ?_
        refine pg_f (v := .ref this_a) (C := RX12) (T := TX12) (N := 31) hx hb hts (tw_i inlX12) hown hK hP hL_this hK_this (by decide) rfl 0 (by decide) (hts _ (tw_c tw_176)) (pq_hv rfl hR_this_a) dX12_wall_22 ?_
        refine lv_bipush (v := 100) hx hb dX12_wall_25 (by decide) ?_
        refine lv_bipush (v := 16) hx hb dX12_wall_27 (by decide) ?_
        refine lv_iload_n hx hb dX12_wall_29 rfl (lv_at hl 1 rfl) ?_
        refine lv_imul hx hb dX12_wall_30 ?_
        refine lv_topi (fun x_30 ex_30 => ?_)
        have h_31 : rg x_30 0 624 := rg_of_eq ex_30 (rg_mul (rg_k (16 : Int32) 16 rfl) f_11 (by decide))
        have uh_31 := h_31.1
        have vh_31 := h_31.2
        have tx_30 : (x_30).toInt = 16 * (a0).toInt := by rw [ex_30]; exact i_mul_rg (a2 := 16) (b2 := (a0).toInt) rfl rfl (rg_k (16 : Int32) 16 rfl) f_11 (by decide)
        refine lv_iadd hx hb dX12_wall_31 ?_
        refine lv_topi (fun x_32 ex_32 => ?_)
        have h_33 : rg x_32 100 724 := rg_of_eq ex_32 (rg_add (rg_k (100 : Int32) 100 rfl) h_31 (by decide))
        have uh_33 := h_33.1
        have vh_33 := h_33.2
        have tx_32 : (x_32).toInt = 100 + (x_30).toInt := by rw [ex_32]; exact i_add_rg (a2 := 100) (b2 := (x_30).toInt) rfl rfl (rg_k (100 : Int32) 100 rfl) h_31 (by decide)
        refine lv_bipush (v := 6) hx hb dX12_wall_32 (by decide) ?_
        refine lv_iadd hx hb dX12_wall_34 ?_
        refine lv_topi (fun x_34 ex_34 => ?_)
        have h_35 : rg x_34 106 730 := rg_of_eq ex_34 (rg_add h_33 (rg_k (6 : Int32) 6 rfl) (by decide))
        have uh_35 := h_35.1
        have vh_35 := h_35.2
        have tx_34 : (x_34).toInt = (x_32).toInt + 6 := by rw [ex_34]; exact i_add_rg (a2 := (x_32).toInt) (b2 := 6) rfl rfl h_33 (rg_k (6 : Int32) 6 rfl) (by decide)
        refine lv_iload_n hx hb dX12_wall_35 rfl (lv_at hl 2 rfl) ?_
        refine pt_i hx hb hK hP hD hS hL_this_a hK_this_a hN_this_a (rg_in h_35 (by decide)) dX12_wall_36 (fun r_36 H locs er_36 hP hD hS => ?_)
        have hG := GM.wz hG hT_this_a (by decide) er_36 (zn_CELL (c := a0.toNatClampNeg) (k := 6) (by have z_i := clampE x_34; have z_0 := clampE a0; omega) (rg_cl1 f_11 (by decide)) (by decide)) rfl (rg_w h_27 (by decide)) (by decide)
        refine lv_iconst (v := 1) hx hb dX12_wall_37 (by decide) ?_
        subst hQ
        exact W.zret (v := 1) hx hb hr (by decide) (fun t1 ht hW => ⟨⟨1, (σ, I, J, r_36, rj, rq), rfl, ⟨r_36, rfl, hG, (Or.inl ⟨rfl, (rg_w f_11 (by decide)), (rg_w h_27 (by decide)), (by omega)⟩)⟩, by rw [ht]; exact hP, va_K.moved hW.alike hK, hD⟩, hS.F ht⟩) hS.2.2 dX12_wall_38
      · have f_37 := (hr_19.resolve_left (fun q => absurd (q.1.symm.trans c_21) (by decide))).2
        have zk_38 : (0 : Int32).toInt = 0 := rfl
        have zk_39 : (1000 : Int32).toInt = 1000 := rfl
        have tc_40 : (x_15).toInt = 0 := congrArg Int32.toInt c_21
        have h_41 : rg x_15 0 0 := rg_and h_20 (rg_of_eq c_21 (rg_k (0 : Int32) 0 rfl)) (by decide)
        have uh_41 := h_41.1
        have vh_41 := h_41.2
        refine lv_iconst (v := 0) hx hb dX12_wall_19 (by decide) ?_
        subst hQ
        exact W.zret (v := 0) hx hb hr (by decide) (fun t1 ht hW => ⟨⟨0, (σ, I, J, ri, rj, rq), rfl, ⟨ri, rfl, hG, (Or.inr ⟨rfl, (by omega)⟩)⟩, by rw [ht]; exact hP, va_K.moved hW.alike hK, hD⟩, hS.F ht⟩) hS.2.2 dX12_wall_20
  exact go _ _ _ hP hD hS hl

set_option maxHeartbeats 4000000 in
set_option maxRecDepth 100000 in
theorem s_X12_choose_w (l : Launch) (D : va_G) (t : pq_T) (σ : pq_S) (I : Nat → Nat → Int32) (J : Nat → Nat → Int64) (ri : Nat → Nat → Int32) (rj : Nat → Nat → Int64) (rq : Nat → Nat → Option Nat) (sz : Nat) (tg : Nat → Nat) (hSH : SH σ tg) (hG0 : GT tg I ri) (this : Nat) (a0 : Int32) (a1 : Int32) (hL_this : this ∈ σ.1) (hK_this : σ.2.1 this = 12) (this_a : Nat) (hR_this_a : σ.2.2.1 384 this = some this_a) (hL_this_a : this_a ∈ σ.1) (hK_this_a : σ.2.1 this_a = 13) (hN_this_a : σ.2.2.2 this_a = 12720) (hT_this_a : tg this_a = 384) : MetI l yX12_choose (wa yX12_choose cX12_choose 3 (some .boolean)) ({ frames := 2, cells := 0, slots := 0, locals := 43 }) [.ref this, .int a0, .int a1] D t σ (I, J, ri, rj, rq) sz 0 0 (fun (r : Int32) (u : pq_S × pq_M) => ∃ ri' : Nat → Nat → Int32, u = (σ, I, J, ri', rj, rq) ∧ GM [] tg σ I ri I ri' rq ∧ ((r = 1 ∧ rg a0 0 39 ∧ rg a1 (-1) 1 ∧ ((0 ≤ a0.toInt ∧ a0.toInt < (ri this_a 5).toInt) ∧ (-1) ≤ a1.toInt ∧ a1.toInt ≤ 1)) ∨ (r = 0 ∧ (¬ ((0 ≤ a0.toInt ∧ a0.toInt < (ri this_a 5).toInt) ∧ (-1) ≤ a1.toInt ∧ a1.toInt ≤ 1))))) := by
  refine Met.ofW (cc := cX12_choose) (maxL := 3) (ret := (some .boolean)) (by decide) rfl ?_
  intro p e s m args below meth c s₁ B hml hv
  obtain ⟨rfl, hsz, hP, hK, hD0, hN⟩ := hv
  have hx := B.exec
  have hb := B.bytes
  have hr := B.returns
  have hts := atoms_spec (ws := (wa yX12_choose cX12_choose 3 (some .boolean))) B.pre
  have hown : s.vm.findClass RX12 = some m.cls := findClass_of_methodNamed B.named
  have hlocks := B.notSynchronized
  subst hsz
  have hD : va_D (pq_B t σ (I, J, ri, rj, rq) s.heap.size) (pq_P t σ (I, J, ri, rj, rq)) := hD0.self
  generalize hAe : pq_B t σ (I, J, ri, rj, rq) s.heap.size = A at hD ⊢
  have hA : ∀ q : Nat, s.heap.size ≤ q → A q := fun q h => by rw [← hAe]; exact Or.inr h
  have hS : va_S A s.heap s.heap [] := va_S.rf
  have hG : GM [] tg σ I ri I ri rq := ⟨hG0, fun _ _ _ => rfl, fun _ _ _ _ _ => rfl, fun _ _ _ _ _ _ => rfl⟩
  have hl := lv_entry ([.ref this, .int a0, .int a1]) (n := 3) (Nat.le_of_ble_eq_true rfl)
  rw [lg_entry_eq]
  generalize (lg_sl ([.ref this, .int a0, .int a1]) ++ List.replicate (3 - (lg_sl ([.ref this, .int a0, .int a1])).length) Slot.unset).toArray = ls at hl ⊢
  have hl : lv_has ls 3 [(0, .ref this), (1, .int a0), (2, .int a1)] := hl
  refine q_gen (fun Q hQ => ?_)
  have go : ∀ (H : Heap) (locs : List Loc) (ls : Array Slot), va_P D vwCl (pq_P t σ (I, J, ri, rj, rq)) H → va_D A (pq_P t σ (I, J, ri, rj, rq)) → va_S A s.heap H locs → lv_has ls 3 [(0, .ref this), (1, .int a0), (2, .int a1)] → W p l e ({ frames := 2, cells := 0, slots := 0, locals := 43 } : Room) s m (List.toArray ([.ref this, .int a0, .int a1] : List Value)) below meth c H locs 0 0 Q (F0 m 0 ls []) := by
    intro H locs ls hP hD hS hl
    refine lv_aload_n hx hb dX12_choose_0 rfl (lv_at hl 0 rfl) ?_
    refine lv_iload_n hx hb dX12_choose_1 rfl (lv_at hl 1 rfl) ?_
    refine pk_i (va_runV (As := [.int a0]) (rest := []) ⟨hx, hb, hml, hown, hts⟩ (s_X12_isPerson_w l D t σ I J ri rj rq H.size tg hSH hG.1 this a0 hL_this hK_this this_a hR_this_a hL_this_a hK_this_a hN_this_a hT_this_a) (cwV 1 hts (tw_V tw_425 tw_426 tw_427 tw_5 tw_428) rfl rfl rfl cv_yX12_isPerson_1 ⟨Nat.le_of_ble_eq_true rfl, Nat.le_of_ble_eq_true rfl⟩) ⟨pq_blind, pq_recv hK hP hL_this hK_this (by decide) rfl, pq_pre hK hN hP hD⟩ rfl rfl hl.1 rfl (lv_room (Nat.le_of_ble_eq_true rfl)) dX12_choose_2 ⟨Nat.le_of_ble_eq_true rfl, Nat.le_of_ble_eq_true rfl⟩) hD hS hA (fun x_1 σ1 μ1 H locs hw_2 hP hD hS => ?_)
    obtain ⟨hu_3, hr_5⟩ := hw_2
    obtain ⟨hu_3a, hu_3b⟩ := Prod.mk.inj hu_3
    rw [hu_3a, hu_3b] at hP hD
    have h_6 : rg x_1 0 1 := by rcases hr_5 with ⟨q, -⟩ | ⟨q, -⟩ <;> rw [q] <;> exact ⟨by decide, by decide⟩
    have uh_6 := h_6.1
    have vh_6 := h_6.2
    refine lv_if_eq (tgt := 17) hx hb dX12_choose_5 (by decide) (fun c_7 => ?_) (fun c_7 => ?_)
    · have f_8 := (hr_5.resolve_left (fun q => absurd (q.1.symm.trans c_7) (by decide))).2
      have tc_9 : (x_1).toInt = 0 := congrArg Int32.toInt c_7
      have h_10 : rg x_1 0 0 := rg_and h_6 (rg_of_eq c_7 (rg_k (0 : Int32) 0 rfl)) (by decide)
      have uh_10 := h_10.1
      have vh_10 := h_10.2
      refine lv_iconst (v := 0) hx hb dX12_choose_17 (by decide) ?_
      subst hQ
      exact W.zret (v := 0) hx hb hr (by decide) (fun t1 ht hW => ⟨⟨0, (σ, I, J, ri, rj, rq), rfl, ⟨ri, rfl, hG, (Or.inr ⟨rfl, (by omega)⟩)⟩, by rw [ht]; exact hP, va_K.moved hW.alike hK, hD⟩, hS.F ht⟩) hS.2.2 dX12_choose_18
    · obtain ⟨f_11, f_12⟩ := (hr_5.resolve_right (fun q => c_7 q.1)).2
      have uf_11 := f_11.1
      have vf_11 := f_11.2
      have tc_13 : (x_1).toInt ≠ 0 := fun q => c_7 (Int32.toInt_inj.mp q)
      have h_14 : rg x_1 1 1 := rg_ne c_7 h_6 0 rfl (by decide)
      have uh_14 := h_14.1
      have vh_14 := h_14.2
      refine lv_iload_n hx hb dX12_choose_8 rfl (lv_at hl 2 rfl) ?_
      refine lv_iconst (v := (-1)) hx hb dX12_choose_9 (by decide) ?_
      refine lv_iconst (v := 1) hx hb dX12_choose_10 (by decide) ?_
      refine pk_i (va_runS (As := [.int a1, .int (-1), .int 1]) (rest := []) ⟨hx, hb, hml, hown, hts⟩ (s_X12_isIn_v l D t σ I J ri rj rq H.size tg hSH hG.1 a1 (-1 : Int32) (1 : Int32)) (va_cwS 3 hts (tw_S tw_235 tw_236 tw_5 tw_237) rfl rfl rfl cd_yX12_isIn_3 ⟨Nat.le_of_ble_eq_true rfl, Nat.le_of_ble_eq_true rfl⟩) ⟨pq_blind, pq_pre hK hN hP hD⟩ rfl rfl hl.1 rfl (lv_room (Nat.le_of_ble_eq_true rfl)) dX12_choose_11 ⟨Nat.le_of_ble_eq_true rfl, Nat.le_of_ble_eq_true rfl⟩) hD hS hA (fun x_15 σ1 μ1 H locs hw_16 hP hD hS => ?_)
      obtain ⟨hu_17, hr_19⟩ := hw_16
      obtain ⟨hu_17a, hu_17b⟩ := Prod.mk.inj hu_17
      rw [hu_17a, hu_17b] at hP hD
      have h_20 : rg x_15 0 1 := by rcases hr_19 with ⟨q, -⟩ | ⟨q, -⟩ <;> rw [q] <;> exact ⟨by decide, by decide⟩
      have uh_20 := h_20.1
      have vh_20 := h_20.2
      refine lv_if_ne (tgt := 19) hx hb dX12_choose_14 (by decide) (fun c_21 => ?_) (fun c_21 => ?_)
      · obtain ⟨f_22, f_23⟩ := (hr_19.resolve_right (fun q => c_21 q.1)).2
        have tc_24 : (-1) ≤ (a1).toInt := Int32.le_iff_toInt_le.mp f_22
        have h_25 : rg a1 (-1) 2147483647 := rg_le2 f_22 (rg_k (-1 : Int32) (-1) rfl) (rg_full _) (by decide)
        have uh_25 := h_25.1
        have vh_25 := h_25.2
        have tc_26 : (a1).toInt ≤ 1 := Int32.le_iff_toInt_le.mp f_23
        have h_27 : rg a1 (-1) 1 := rg_le1 f_23 h_25 (rg_k (1 : Int32) 1 rfl) (by decide)
        have uh_27 := h_27.1
        have vh_27 := h_27.2
        have tc_28 : (x_15).toInt ≠ 0 := fun q => c_21 (Int32.toInt_inj.mp q)
        have h_29 : rg x_15 1 1 := rg_ne c_21 h_20 0 rfl (by decide)
        have uh_29 := h_29.1
        have vh_29 := h_29.2
        refine lv_aload_n hx hb dX12_choose_19 rfl (lv_at hl 0 rfl) ?_
        refine pg_f (v := .ref this_a) (C := RX12) (T := TX12) (N := 31) hx hb hts (tw_i inlX12) hown hK hP hL_this hK_this (by decide) rfl 0 (by decide) (hts _ (tw_c tw_176)) (pq_hv rfl hR_this_a) dX12_choose_20 ?_
        refine lv_sipush (v := 740) hx hb dX12_choose_23 (by decide) ?_
        refine lv_bipush (v := 12) hx hb dX12_choose_26 (by decide) ?_
        refine lv_iload_n hx hb dX12_choose_28 rfl (lv_at hl 1 rfl) ?_
        refine lv_imul hx hb dX12_choose_29 ?_
        refine lv_topi (fun x_30 ex_30 => ?_)
        have h_31 : rg x_30 0 468 := rg_of_eq ex_30 (rg_mul (rg_k (12 : Int32) 12 rfl) f_11 (by decide))
        have uh_31 := h_31.1
        have vh_31 := h_31.2
        have tx_30 : (x_30).toInt = 12 * (a0).toInt := by rw [ex_30]; exact i_mul_rg (a2 := 12) (b2 := (a0).toInt) rfl rfl (rg_k (12 : Int32) 12 rfl) f_11 (by decide)
        refine lv_iadd hx hb dX12_choose_30 ?_
        refine lv_topi (fun x_32 ex_32 => ?_)
        have h_33 : rg x_32 740 1208 := rg_of_eq ex_32 (rg_add (rg_k (740 : Int32) 740 rfl) h_31 (by decide))
        have uh_33 := h_33.1
        have vh_33 := h_33.2
        have tx_32 : (x_32).toInt = 740 + (x_30).toInt := by rw [ex_32]; exact i_add_rg (a2 := 740) (b2 := (x_30).toInt) rfl rfl (rg_k (740 : Int32) 740 rfl) h_31 (by decide)
        refine lv_bipush (v := 8) hx hb dX12_choose_31 (by decide) ?_
        refine lv_iadd hx hb dX12_choose_33 ?_
        refine lv_topi (fun x_34 ex_34 => ?_)
        have h_35 : rg x_34 748 1216 := rg_of_eq ex_34 (rg_add h_33 (rg_k (8 : Int32) 8 rfl) (by decide))
        have uh_35 := h_35.1
        have vh_35 := h_35.2
        have tx_34 : (x_34).toInt = (x_32).toInt + 8 := by rw [ex_34]; exact i_add_rg (a2 := (x_32).toInt) (b2 := 8) rfl rfl h_33 (rg_k (8 : Int32) 8 rfl) (by decide)
        refine lv_iload_n hx hb dX12_choose_34 rfl (lv_at hl 2 rfl) ?_
        refine pt_i hx hb hK hP hD hS hL_this_a hK_this_a hN_this_a (rg_in h_35 (by decide)) dX12_choose_35 (fun r_36 H locs er_36 hP hD hS => ?_)
        have hG := GM.wz hG hT_this_a (by decide) er_36 (zn_PERSON (c := a0.toNatClampNeg) (k := 8) (by have z_i := clampE x_34; have z_0 := clampE a0; omega) (rg_cl1 f_11 (by decide)) (by decide)) rfl (rg_w h_27 (by decide)) (by decide)
        refine lv_iconst (v := 1) hx hb dX12_choose_36 (by decide) ?_
        subst hQ
        exact W.zret (v := 1) hx hb hr (by decide) (fun t1 ht hW => ⟨⟨1, (σ, I, J, r_36, rj, rq), rfl, ⟨r_36, rfl, hG, (Or.inl ⟨rfl, (rg_w f_11 (by decide)), (rg_w h_27 (by decide)), (by omega)⟩)⟩, by rw [ht]; exact hP, va_K.moved hW.alike hK, hD⟩, hS.F ht⟩) hS.2.2 dX12_choose_37
      · have f_37 := (hr_19.resolve_left (fun q => absurd (q.1.symm.trans c_21) (by decide))).2
        have zk_38 : (-1 : Int32).toInt = -1 := rfl
        have zk_39 : (1 : Int32).toInt = 1 := rfl
        have tc_40 : (x_15).toInt = 0 := congrArg Int32.toInt c_21
        have h_41 : rg x_15 0 0 := rg_and h_20 (rg_of_eq c_21 (rg_k (0 : Int32) 0 rfl)) (by decide)
        have uh_41 := h_41.1
        have vh_41 := h_41.2
        refine lv_iconst (v := 0) hx hb dX12_choose_17 (by decide) ?_
        subst hQ
        exact W.zret (v := 0) hx hb hr (by decide) (fun t1 ht hW => ⟨⟨0, (σ, I, J, ri, rj, rq), rfl, ⟨ri, rfl, hG, (Or.inr ⟨rfl, (by omega)⟩)⟩, by rw [ht]; exact hP, va_K.moved hW.alike hK, hD⟩, hS.F ht⟩) hS.2.2 dX12_choose_18
  exact go _ _ _ hP hD hS hl

set_option maxHeartbeats 4000000 in
set_option maxRecDepth 100000 in
theorem s_X12_ring_w (l : Launch) (D : va_G) (t : pq_T) (σ : pq_S) (I : Nat → Nat → Int32) (J : Nat → Nat → Int64) (ri : Nat → Nat → Int32) (rj : Nat → Nat → Int64) (rq : Nat → Nat → Option Nat) (sz : Nat) (tg : Nat → Nat) (hSH : SH σ tg) (hG0 : GT tg I ri) (this : Nat) (hL_this : this ∈ σ.1) (hK_this : σ.2.1 this = 12) (this_a : Nat) (hR_this_a : σ.2.2.1 384 this = some this_a) (hL_this_a : this_a ∈ σ.1) (hK_this_a : σ.2.1 this_a = 13) (hN_this_a : σ.2.2.2 this_a = 12720) (hT_this_a : tg this_a = 384) : MetI l yX12_ring (wa yX12_ring cX12_ring 1 (some .int)) ({ frames := 0, cells := 0, slots := 0, locals := 0 }) [.ref this] D t σ (I, J, ri, rj, rq) sz 0 0 (fun (r : Int32) (u : pq_S × pq_M) => ∃ ri' : Nat → Nat → Int32, u = (σ, I, J, ri', rj, rq) ∧ GM [1001] tg σ I ri I ri' rq ∧ ((((ri this_a 1).toInt < 5) ∧ r.toInt = (ri this_a 1).toInt ∧ (ri' this_a 1).toInt = (ri this_a 1).toInt + 1) ∨ (¬ ((ri this_a 1).toInt < 5) ∧ r.toInt = -1 ∧ (ri' this_a 1).toInt = (ri this_a 1).toInt)) ∧ rg r (-1) 4) := by
  refine Met.ofW (cc := cX12_ring) (maxL := 1) (ret := (some .int)) (by decide) rfl ?_
  intro p e s m args below meth c s₁ B hml hv
  obtain ⟨rfl, hsz, hP, hK, hD0, hN⟩ := hv
  have hx := B.exec
  have hb := B.bytes
  have hr := B.returns
  have hts := atoms_spec (ws := (wa yX12_ring cX12_ring 1 (some .int))) B.pre
  have hown : s.vm.findClass RX12 = some m.cls := findClass_of_methodNamed B.named
  have hlocks := B.notSynchronized
  subst hsz
  have hD : va_D (pq_B t σ (I, J, ri, rj, rq) s.heap.size) (pq_P t σ (I, J, ri, rj, rq)) := hD0.self
  generalize hAe : pq_B t σ (I, J, ri, rj, rq) s.heap.size = A at hD ⊢
  have hA : ∀ q : Nat, s.heap.size ≤ q → A q := fun q h => by rw [← hAe]; exact Or.inr h
  have hS : va_S A s.heap s.heap [] := va_S.rf
  have hG : GM [1001] tg σ I ri I ri rq := ⟨hG0, fun _ _ _ => rfl, fun _ _ _ _ _ => rfl, fun _ _ _ _ _ _ => rfl⟩
  have hl := lv_entry ([.ref this]) (n := 1) (Nat.le_of_ble_eq_true rfl)
  rw [lg_entry_eq]
  generalize (lg_sl ([.ref this]) ++ List.replicate (1 - (lg_sl ([.ref this])).length) Slot.unset).toArray = ls at hl ⊢
  have hl : lv_has ls 1 [(0, .ref this)] := hl
  refine q_gen (fun Q hQ => ?_)
  have go : ∀ (H : Heap) (locs : List Loc) (ls : Array Slot), va_P D vwCl (pq_P t σ (I, J, ri, rj, rq)) H → va_D A (pq_P t σ (I, J, ri, rj, rq)) → va_S A s.heap H locs → lv_has ls 1 [(0, .ref this)] → W p l e ({ frames := 0, cells := 0, slots := 0, locals := 0 } : Room) s m (List.toArray ([.ref this] : List Value)) below meth c H locs 0 0 Q (F0 m 0 ls []) := by
    intro H locs ls hP hD hS hl
    refine lv_aload_n hx hb dX12_ring_0 rfl (lv_at hl 0 rfl) ?_
    refine pg_f (v := .ref this_a) (C := RX12) (T := TX12) (N := 31) hx hb hts (tw_i inlX12) hown hK hP hL_this hK_this (by decide) rfl 0 (by decide) (hts _ (tw_c tw_176)) (pq_hv rfl hR_this_a) dX12_ring_1 ?_
    refine lv_iconst (v := 1) hx hb dX12_ring_4 (by decide) ?_
    refine pl_i hx hb hK hP hL_this_a hK_this_a hN_this_a (vp_in_iff.mpr (by decide)) dX12_ring_5 ?_
    refine lv_topi (fun x_1 ex_1 => ?_)
    have ex_1 : x_1 = ri this_a ((1 : Int32)).toNatClampNeg := ex_1
    have h_2 : rg x_1 0 5 := rg_of_eq ex_1 (GM.z hG (by rw [hT_this_a]; decide) (show zn ((1 : Int32)).toNatClampNeg = 1 from by decide) rfl)
    have uh_2 := h_2.1
    have vh_2 := h_2.2
    have tt_3 : (ri this_a 1).toInt = (x_1).toInt := congrArg Int32.toInt (show ri this_a 1 = x_1 from ex_1.symm)
    refine lv_iconst (v := 5) hx hb dX12_ring_6 (by decide) ?_
    refine lv_icmp_ne (tgt := 12) hx hb dX12_ring_7 (by decide) (fun c_4 => ?_) (fun c_4 => ?_)
    · have tc_5 : (x_1).toInt ≠ 5 := fun q => c_4 (Int32.toInt_inj.mp q)
      have h_6 : rg x_1 0 4 := rg_ne c_4 h_2 5 rfl (by decide)
      have uh_6 := h_6.1
      have vh_6 := h_6.2
      refine lv_aload_n hx hb dX12_ring_12 rfl (lv_at hl 0 rfl) ?_
      refine pg_f (v := .ref this_a) (C := RX12) (T := TX12) (N := 31) hx hb hts (tw_i inlX12) hown hK hP hL_this hK_this (by decide) rfl 0 (by decide) (hts _ (tw_c tw_176)) (pq_hv rfl hR_this_a) dX12_ring_13 ?_
      refine lv_iconst (v := 1) hx hb dX12_ring_16 (by decide) ?_
      refine lv_dup2_11 hx hb dX12_ring_17 rfl rfl ?_
      refine pl_i hx hb hK hP hL_this_a hK_this_a hN_this_a (vp_in_iff.mpr (by decide)) dX12_ring_18 ?_
      refine lv_tov x_1 ex_1.symm ?_
      refine lv_iconst (v := 1) hx hb dX12_ring_19 (by decide) ?_
      refine lv_iadd hx hb dX12_ring_20 ?_
      refine lv_topi (fun x_7 ex_7 => ?_)
      have h_8 : rg x_7 1 5 := rg_of_eq ex_7 (rg_add h_6 (rg_k (1 : Int32) 1 rfl) (by decide))
      have uh_8 := h_8.1
      have vh_8 := h_8.2
      have tx_7 : (x_7).toInt = (x_1).toInt + 1 := by rw [ex_7]; exact i_add_rg (a2 := (x_1).toInt) (b2 := 1) rfl rfl h_6 (rg_k (1 : Int32) 1 rfl) (by decide)
      refine pt_i hx hb hK hP hD hS hL_this_a hK_this_a hN_this_a (vp_in_iff.mpr (by decide)) dX12_ring_21 (fun r_9 H locs er_9 hP hD hS => ?_)
      have hG := GM.wz hG hT_this_a (by decide) er_9 (show zn ((1 : Int32)).toNatClampNeg = 1 from by decide) rfl (rg_w h_8 (by decide)) (by decide)
      have h_10 : r_9 this_a 1 = x_7 := cz_eq er_9
      have tt_11 : (r_9 this_a 1).toInt = (x_7).toInt := congrArg Int32.toInt (show r_9 this_a 1 = x_7 from cz_eq er_9)
      refine lv_aload_n hx hb dX12_ring_22 rfl (lv_at hl 0 rfl) ?_
      refine pg_f (v := .ref this_a) (C := RX12) (T := TX12) (N := 31) hx hb hts (tw_i inlX12) hown hK hP hL_this hK_this (by decide) rfl 0 (by decide) (hts _ (tw_c tw_176)) (pq_hv rfl hR_this_a) dX12_ring_23 ?_
      refine lv_iconst (v := 1) hx hb dX12_ring_26 (by decide) ?_
      refine pl_i hx hb hK hP hL_this_a hK_this_a hN_this_a (vp_in_iff.mpr (by decide)) dX12_ring_27 ?_
      refine lv_tov x_7 h_10 ?_
      refine lv_iconst (v := 1) hx hb dX12_ring_28 (by decide) ?_
      refine lv_isub hx hb dX12_ring_29 ?_
      refine lv_topi (fun x_12 ex_12 => ?_)
      have h_13 : rg x_12 0 4 := rg_of_eq ex_12 (rg_sub h_8 (rg_k (1 : Int32) 1 rfl) (by decide))
      have uh_13 := h_13.1
      have vh_13 := h_13.2
      have tx_12 : (x_12).toInt = (x_7).toInt - 1 := by rw [ex_12]; exact i_sub_rg (a2 := (x_7).toInt) (b2 := 1) rfl rfl h_8 (rg_k (1 : Int32) 1 rfl) (by decide)
      subst hQ
      exact W.iret (v := x_12) hx hb hr (fun t1 ht hW => ⟨⟨x_12, (σ, I, J, r_9, rj, rq), rfl, ⟨r_9, rfl, hG, (by have k0 : (-1 : Int32).toInt = -1 := rfl; omega), (rg_w h_13 (by decide))⟩, by rw [ht]; exact hP, va_K.moved hW.alike hK, hD⟩, hS.F ht⟩) hS.2.2 dX12_ring_30
    · have tc_14 : (x_1).toInt = 5 := congrArg Int32.toInt c_4
      have h_15 : rg x_1 5 5 := rg_and h_2 (rg_of_eq c_4 (rg_k (5 : Int32) 5 rfl)) (by decide)
      have uh_15 := h_15.1
      have vh_15 := h_15.2
      refine lv_iconst (v := (-1)) hx hb dX12_ring_10 (by decide) ?_
      subst hQ
      exact W.iret (v := (-1)) hx hb hr (fun t1 ht hW => ⟨⟨(-1), (σ, I, J, ri, rj, rq), rfl, ⟨ri, rfl, hG, (by have k0 : (-1 : Int32).toInt = -1 := rfl; omega), (rg_w (rg_k (-1 : Int32) (-1) rfl) (by decide))⟩, by rw [ht]; exact hP, va_K.moved hW.alike hK, hD⟩, hS.F ht⟩) hS.2.2 dX12_ring_11
  exact go _ _ _ hP hD hS hl

set_option maxHeartbeats 4000000 in
set_option maxRecDepth 100000 in
theorem s_X12_cell_w (l : Launch) (D : va_G) (t : pq_T) (σ : pq_S) (I : Nat → Nat → Int32) (J : Nat → Nat → Int64) (ri : Nat → Nat → Int32) (rj : Nat → Nat → Int64) (rq : Nat → Nat → Option Nat) (sz : Nat) (tg : Nat → Nat) (hSH : SH σ tg) (hG0 : GT tg I ri) (this : Nat) (a0 : Int32) (a1 : Int32) (a2 : Int32) (a3 : Int32) (a4 : Int32) (a5 : Int32) (hL_this : this ∈ σ.1) (hK_this : σ.2.1 this = 12) (this_a : Nat) (hR_this_a : σ.2.2.1 384 this = some this_a) (hL_this_a : this_a ∈ σ.1) (hK_this_a : σ.2.1 this_a = 13) (hN_this_a : σ.2.2.2 this_a = 12720) (hT_this_a : tg this_a = 384) : MetI l yX12_cell (wa yX12_cell cX12_cell 8 (some .int)) ({ frames := 2, cells := 0, slots := 0, locals := 43 }) [.ref this, .int a0, .int a1, .int a2, .int a3, .int a4, .int a5] D t σ (I, J, ri, rj, rq) sz 0 0 (fun (r : Int32) (u : pq_S × pq_M) => ∃ ri' : Nat → Nat → Int32, u = (σ, I, J, ri', rj, rq) ∧ GM [1300, 1301, 1304, 1305, 1002] tg σ I ri I ri' rq ∧ ((((0 ≤ a0.toInt ∧ a0.toInt < (ri this_a 1).toInt) ∧ ((-500) ≤ a1.toInt ∧ a1.toInt ≤ 3000) ∧ (0 ≤ a2.toInt ∧ a2.toInt ≤ 31) ∧ (0 ≤ a3.toInt ∧ a3.toInt ≤ 31) ∧ (0 ≤ a4.toInt ∧ a4.toInt ≤ 500) ∧ (0 ≤ a5.toInt ∧ a5.toInt ≤ 400) ∧ (ri this_a 0).toInt ≤ 0 ∧ (ri this_a 2).toInt < 40) ∧ r.toInt = (ri this_a 2).toInt ∧ (ri' this_a 2).toInt = (ri this_a 2).toInt + 1) ∨ (¬ ((0 ≤ a0.toInt ∧ a0.toInt < (ri this_a 1).toInt) ∧ ((-500) ≤ a1.toInt ∧ a1.toInt ≤ 3000) ∧ (0 ≤ a2.toInt ∧ a2.toInt ≤ 31) ∧ (0 ≤ a3.toInt ∧ a3.toInt ≤ 31) ∧ (0 ≤ a4.toInt ∧ a4.toInt ≤ 500) ∧ (0 ≤ a5.toInt ∧ a5.toInt ≤ 400) ∧ (ri this_a 0).toInt ≤ 0 ∧ (ri this_a 2).toInt < 40) ∧ r.toInt = -1 ∧ (ri' this_a 2).toInt = (ri this_a 2).toInt)) ∧ rg r (-1) 39) := by
  refine Met.ofW (cc := cX12_cell) (maxL := 8) (ret := (some .int)) (by decide) rfl ?_
  intro p e s m args below meth c s₁ B hml hv
  obtain ⟨rfl, hsz, hP, hK, hD0, hN⟩ := hv
  have hx := B.exec
  have hb := B.bytes
  have hr := B.returns
  have hts := atoms_spec (ws := (wa yX12_cell cX12_cell 8 (some .int))) B.pre
  have hown : s.vm.findClass RX12 = some m.cls := findClass_of_methodNamed B.named
  have hlocks := B.notSynchronized
  subst hsz
  have hD : va_D (pq_B t σ (I, J, ri, rj, rq) s.heap.size) (pq_P t σ (I, J, ri, rj, rq)) := hD0.self
  generalize hAe : pq_B t σ (I, J, ri, rj, rq) s.heap.size = A at hD ⊢
  have hA : ∀ q : Nat, s.heap.size ≤ q → A q := fun q h => by rw [← hAe]; exact Or.inr h
  have hS : va_S A s.heap s.heap [] := va_S.rf
  have hG : GM [1300, 1301, 1304, 1305, 1002] tg σ I ri I ri rq := ⟨hG0, fun _ _ _ => rfl, fun _ _ _ _ _ => rfl, fun _ _ _ _ _ _ => rfl⟩
  have hl := lv_entry ([.ref this, .int a0, .int a1, .int a2, .int a3, .int a4, .int a5]) (n := 8) (Nat.le_of_ble_eq_true rfl)
  rw [lg_entry_eq]
  generalize (lg_sl ([.ref this, .int a0, .int a1, .int a2, .int a3, .int a4, .int a5]) ++ List.replicate (8 - (lg_sl ([.ref this, .int a0, .int a1, .int a2, .int a3, .int a4, .int a5])).length) Slot.unset).toArray = ls at hl ⊢
  have hl : lv_has ls 8 [(0, .ref this), (1, .int a0), (2, .int a1), (3, .int a2), (4, .int a3), (5, .int a4), (6, .int a5)] := hl
  refine q_gen (fun Q hQ => ?_)
  have go : ∀ (H : Heap) (locs : List Loc) (ls : Array Slot), va_P D vwCl (pq_P t σ (I, J, ri, rj, rq)) H → va_D A (pq_P t σ (I, J, ri, rj, rq)) → va_S A s.heap H locs → lv_has ls 8 [(0, .ref this), (1, .int a0), (2, .int a1), (3, .int a2), (4, .int a3), (5, .int a4), (6, .int a5)] → W p l e ({ frames := 2, cells := 0, slots := 0, locals := 43 } : Room) s m (List.toArray ([.ref this, .int a0, .int a1, .int a2, .int a3, .int a4, .int a5] : List Value)) below meth c H locs 0 0 Q (F0 m 0 ls []) := by
    intro H locs ls hP hD hS hl
    refine lv_aload_n hx hb dX12_cell_0 rfl (lv_at hl 0 rfl) ?_
    refine lv_iload_n hx hb dX12_cell_1 rfl (lv_at hl 1 rfl) ?_
    refine pk_i (va_runV (As := [.int a0]) (rest := []) ⟨hx, hb, hml, hown, hts⟩ (s_X12_isRing_w l D t σ I J ri rj rq H.size tg hSH hG.1 this a0 hL_this hK_this this_a hR_this_a hL_this_a hK_this_a hN_this_a hT_this_a) (cwV 1 hts (tw_V tw_231 tw_232 tw_233 tw_5 tw_234) rfl rfl rfl cv_yX12_isRing_1 ⟨Nat.le_of_ble_eq_true rfl, Nat.le_of_ble_eq_true rfl⟩) ⟨pq_blind, pq_recv hK hP hL_this hK_this (by decide) rfl, pq_pre hK hN hP hD⟩ rfl rfl hl.1 rfl (lv_room (Nat.le_of_ble_eq_true rfl)) dX12_cell_2 ⟨Nat.le_of_ble_eq_true rfl, Nat.le_of_ble_eq_true rfl⟩) hD hS hA (fun x_1 σ1 μ1 H locs hw_2 hP hD hS => ?_)
    obtain ⟨hu_3, hr_5⟩ := hw_2
    obtain ⟨hu_3a, hu_3b⟩ := Prod.mk.inj hu_3
    rw [hu_3a, hu_3b] at hP hD
    have h_6 : rg x_1 0 1 := by rcases hr_5 with ⟨q, -⟩ | ⟨q, -⟩ <;> rw [q] <;> exact ⟨by decide, by decide⟩
    have uh_6 := h_6.1
    have vh_6 := h_6.2
    refine lv_if_eq (tgt := 86) hx hb dX12_cell_5 (by decide) (fun c_7 => ?_) (fun c_7 => ?_)
    · have f_8 := (hr_5.resolve_left (fun q => absurd (q.1.symm.trans c_7) (by decide))).2
      have tc_9 : (x_1).toInt = 0 := congrArg Int32.toInt c_7
      have h_10 : rg x_1 0 0 := rg_and h_6 (rg_of_eq c_7 (rg_k (0 : Int32) 0 rfl)) (by decide)
      have uh_10 := h_10.1
      have vh_10 := h_10.2
      refine lv_iconst (v := (-1)) hx hb dX12_cell_86 (by decide) ?_
      subst hQ
      exact W.iret (v := (-1)) hx hb hr (fun t1 ht hW => ⟨⟨(-1), (σ, I, J, ri, rj, rq), rfl, ⟨ri, rfl, hG, (by have k0 : (-1 : Int32).toInt = -1 := rfl; omega), (rg_w (rg_k (-1 : Int32) (-1) rfl) (by decide))⟩, by rw [ht]; exact hP, va_K.moved hW.alike hK, hD⟩, hS.F ht⟩) hS.2.2 dX12_cell_87
    · obtain ⟨f_11, f_12⟩ := (hr_5.resolve_right (fun q => c_7 q.1)).2
      have uf_11 := f_11.1
      have vf_11 := f_11.2
      have tc_13 : (x_1).toInt ≠ 0 := fun q => c_7 (Int32.toInt_inj.mp q)
      have h_14 : rg x_1 1 1 := rg_ne c_7 h_6 0 rfl (by decide)
      have uh_14 := h_14.1
      have vh_14 := h_14.2
      refine lv_iload_n hx hb dX12_cell_8 rfl (lv_at hl 2 rfl) ?_
      refine lv_sipush (v := (-500)) hx hb dX12_cell_9 (by decide) ?_
      refine lv_sipush (v := 3000) hx hb dX12_cell_12 (by decide) ?_
      refine pk_i (va_runS (As := [.int a1, .int (-500), .int 3000]) (rest := []) ⟨hx, hb, hml, hown, hts⟩ (s_X12_isIn_v l D t σ I J ri rj rq H.size tg hSH hG.1 a1 (-500 : Int32) (3000 : Int32)) (va_cwS 3 hts (tw_S tw_235 tw_236 tw_5 tw_237) rfl rfl rfl cd_yX12_isIn_3 ⟨Nat.le_of_ble_eq_true rfl, Nat.le_of_ble_eq_true rfl⟩) ⟨pq_blind, pq_pre hK hN hP hD⟩ rfl rfl hl.1 rfl (lv_room (Nat.le_of_ble_eq_true rfl)) dX12_cell_15 ⟨Nat.le_of_ble_eq_true rfl, Nat.le_of_ble_eq_true rfl⟩) hD hS hA (fun x_15 σ1 μ1 H locs hw_16 hP hD hS => ?_)
      obtain ⟨hu_17, hr_19⟩ := hw_16
      obtain ⟨hu_17a, hu_17b⟩ := Prod.mk.inj hu_17
      rw [hu_17a, hu_17b] at hP hD
      have h_20 : rg x_15 0 1 := by rcases hr_19 with ⟨q, -⟩ | ⟨q, -⟩ <;> rw [q] <;> exact ⟨by decide, by decide⟩
      have uh_20 := h_20.1
      have vh_20 := h_20.2
      refine lv_if_eq (tgt := 86) hx hb dX12_cell_18 (by decide) (fun c_21 => ?_) (fun c_21 => ?_)
      · have f_22 := (hr_19.resolve_left (fun q => absurd (q.1.symm.trans c_21) (by decide))).2
        have zk_23 : (-500 : Int32).toInt = -500 := rfl
        have zk_24 : (3000 : Int32).toInt = 3000 := rfl
        have tc_25 : (x_15).toInt = 0 := congrArg Int32.toInt c_21
        have h_26 : rg x_15 0 0 := rg_and h_20 (rg_of_eq c_21 (rg_k (0 : Int32) 0 rfl)) (by decide)
        have uh_26 := h_26.1
        have vh_26 := h_26.2
        refine lv_iconst (v := (-1)) hx hb dX12_cell_86 (by decide) ?_
        subst hQ
        exact W.iret (v := (-1)) hx hb hr (fun t1 ht hW => ⟨⟨(-1), (σ, I, J, ri, rj, rq), rfl, ⟨ri, rfl, hG, (by have k0 : (-1 : Int32).toInt = -1 := rfl; omega), (rg_w (rg_k (-1 : Int32) (-1) rfl) (by decide))⟩, by rw [ht]; exact hP, va_K.moved hW.alike hK, hD⟩, hS.F ht⟩) hS.2.2 dX12_cell_87
      · obtain ⟨f_27, f_28⟩ := (hr_19.resolve_right (fun q => c_21 q.1)).2
        have tc_29 : (-500) ≤ (a1).toInt := Int32.le_iff_toInt_le.mp f_27
        have h_30 : rg a1 (-500) 2147483647 := rg_le2 f_27 (rg_k (-500 : Int32) (-500) rfl) (rg_full _) (by decide)
        have uh_30 := h_30.1
        have vh_30 := h_30.2
        have tc_31 : (a1).toInt ≤ 3000 := Int32.le_iff_toInt_le.mp f_28
        have h_32 : rg a1 (-500) 3000 := rg_le1 f_28 h_30 (rg_k (3000 : Int32) 3000 rfl) (by decide)
        have uh_32 := h_32.1
        have vh_32 := h_32.2
        have tc_33 : (x_15).toInt ≠ 0 := fun q => c_21 (Int32.toInt_inj.mp q)
        have h_34 : rg x_15 1 1 := rg_ne c_21 h_20 0 rfl (by decide)
        have uh_34 := h_34.1
        have vh_34 := h_34.2
        refine lv_iload_n hx hb dX12_cell_21 rfl (lv_at hl 3 rfl) ?_
        refine lv_iconst (v := 0) hx hb dX12_cell_22 (by decide) ?_
        refine lv_bipush (v := 31) hx hb dX12_cell_23 (by decide) ?_
        refine pk_i (va_runS (As := [.int a2, .int 0, .int 31]) (rest := []) ⟨hx, hb, hml, hown, hts⟩ (s_X12_isIn_v l D t σ I J ri rj rq H.size tg hSH hG.1 a2 (0 : Int32) (31 : Int32)) (va_cwS 3 hts (tw_S tw_235 tw_236 tw_5 tw_237) rfl rfl rfl cd_yX12_isIn_3 ⟨Nat.le_of_ble_eq_true rfl, Nat.le_of_ble_eq_true rfl⟩) ⟨pq_blind, pq_pre hK hN hP hD⟩ rfl rfl hl.1 rfl (lv_room (Nat.le_of_ble_eq_true rfl)) dX12_cell_25 ⟨Nat.le_of_ble_eq_true rfl, Nat.le_of_ble_eq_true rfl⟩) hD hS hA (fun x_35 σ1 μ1 H locs hw_36 hP hD hS => ?_)
        obtain ⟨hu_37, hr_39⟩ := hw_36
        obtain ⟨hu_37a, hu_37b⟩ := Prod.mk.inj hu_37
        rw [hu_37a, hu_37b] at hP hD
        have h_40 : rg x_35 0 1 := by rcases hr_39 with ⟨q, -⟩ | ⟨q, -⟩ <;> rw [q] <;> exact ⟨by decide, by decide⟩
        have uh_40 := h_40.1
        have vh_40 := h_40.2
        refine lv_if_eq (tgt := 86) hx hb dX12_cell_28 (by decide) (fun c_41 => ?_) (fun c_41 => ?_)
        · have f_42 := (hr_39.resolve_left (fun q => absurd (q.1.symm.trans c_41) (by decide))).2
          have zk_43 : (0 : Int32).toInt = 0 := rfl
          have zk_44 : (31 : Int32).toInt = 31 := rfl
          have tc_45 : (x_35).toInt = 0 := congrArg Int32.toInt c_41
          have h_46 : rg x_35 0 0 := rg_and h_40 (rg_of_eq c_41 (rg_k (0 : Int32) 0 rfl)) (by decide)
          have uh_46 := h_46.1
          have vh_46 := h_46.2
          refine lv_iconst (v := (-1)) hx hb dX12_cell_86 (by decide) ?_
          subst hQ
          exact W.iret (v := (-1)) hx hb hr (fun t1 ht hW => ⟨⟨(-1), (σ, I, J, ri, rj, rq), rfl, ⟨ri, rfl, hG, (by have k0 : (-1 : Int32).toInt = -1 := rfl; omega), (rg_w (rg_k (-1 : Int32) (-1) rfl) (by decide))⟩, by rw [ht]; exact hP, va_K.moved hW.alike hK, hD⟩, hS.F ht⟩) hS.2.2 dX12_cell_87
        · obtain ⟨f_47, f_48⟩ := (hr_39.resolve_right (fun q => c_41 q.1)).2
          have tc_49 : 0 ≤ (a2).toInt := Int32.le_iff_toInt_le.mp f_47
          have h_50 : rg a2 0 2147483647 := rg_le2 f_47 (rg_k (0 : Int32) 0 rfl) (rg_full _) (by decide)
          have uh_50 := h_50.1
          have vh_50 := h_50.2
          have tc_51 : (a2).toInt ≤ 31 := Int32.le_iff_toInt_le.mp f_48
          have h_52 : rg a2 0 31 := rg_le1 f_48 h_50 (rg_k (31 : Int32) 31 rfl) (by decide)
          have uh_52 := h_52.1
          have vh_52 := h_52.2
          have tc_53 : (x_35).toInt ≠ 0 := fun q => c_41 (Int32.toInt_inj.mp q)
          have h_54 : rg x_35 1 1 := rg_ne c_41 h_40 0 rfl (by decide)
          have uh_54 := h_54.1
          have vh_54 := h_54.2
          refine lv_iload hx hb dX12_cell_31 (lv_at hl 4 rfl) ?_
          refine lv_iconst (v := 0) hx hb dX12_cell_33 (by decide) ?_
          refine lv_bipush (v := 31) hx hb dX12_cell_34 (by decide) ?_
          refine pk_i (va_runS (As := [.int a3, .int 0, .int 31]) (rest := []) ⟨hx, hb, hml, hown, hts⟩ (s_X12_isIn_v l D t σ I J ri rj rq H.size tg hSH hG.1 a3 (0 : Int32) (31 : Int32)) (va_cwS 3 hts (tw_S tw_235 tw_236 tw_5 tw_237) rfl rfl rfl cd_yX12_isIn_3 ⟨Nat.le_of_ble_eq_true rfl, Nat.le_of_ble_eq_true rfl⟩) ⟨pq_blind, pq_pre hK hN hP hD⟩ rfl rfl hl.1 rfl (lv_room (Nat.le_of_ble_eq_true rfl)) dX12_cell_36 ⟨Nat.le_of_ble_eq_true rfl, Nat.le_of_ble_eq_true rfl⟩) hD hS hA (fun x_55 σ1 μ1 H locs hw_56 hP hD hS => ?_)
          obtain ⟨hu_57, hr_59⟩ := hw_56
          obtain ⟨hu_57a, hu_57b⟩ := Prod.mk.inj hu_57
          rw [hu_57a, hu_57b] at hP hD
          have h_60 : rg x_55 0 1 := by rcases hr_59 with ⟨q, -⟩ | ⟨q, -⟩ <;> rw [q] <;> exact ⟨by decide, by decide⟩
          have uh_60 := h_60.1
          have vh_60 := h_60.2
          refine lv_if_eq (tgt := 86) hx hb dX12_cell_39 (by decide) (fun c_61 => ?_) (fun c_61 => ?_)
          · have f_62 := (hr_59.resolve_left (fun q => absurd (q.1.symm.trans c_61) (by decide))).2
            have zk_63 : (0 : Int32).toInt = 0 := rfl
            have zk_64 : (31 : Int32).toInt = 31 := rfl
            have tc_65 : (x_55).toInt = 0 := congrArg Int32.toInt c_61
            have h_66 : rg x_55 0 0 := rg_and h_60 (rg_of_eq c_61 (rg_k (0 : Int32) 0 rfl)) (by decide)
            have uh_66 := h_66.1
            have vh_66 := h_66.2
            refine lv_iconst (v := (-1)) hx hb dX12_cell_86 (by decide) ?_
            subst hQ
            exact W.iret (v := (-1)) hx hb hr (fun t1 ht hW => ⟨⟨(-1), (σ, I, J, ri, rj, rq), rfl, ⟨ri, rfl, hG, (by have k0 : (-1 : Int32).toInt = -1 := rfl; omega), (rg_w (rg_k (-1 : Int32) (-1) rfl) (by decide))⟩, by rw [ht]; exact hP, va_K.moved hW.alike hK, hD⟩, hS.F ht⟩) hS.2.2 dX12_cell_87
          · obtain ⟨f_67, f_68⟩ := (hr_59.resolve_right (fun q => c_61 q.1)).2
            have tc_69 : 0 ≤ (a3).toInt := Int32.le_iff_toInt_le.mp f_67
            have h_70 : rg a3 0 2147483647 := rg_le2 f_67 (rg_k (0 : Int32) 0 rfl) (rg_full _) (by decide)
            have uh_70 := h_70.1
            have vh_70 := h_70.2
            have tc_71 : (a3).toInt ≤ 31 := Int32.le_iff_toInt_le.mp f_68
            have h_72 : rg a3 0 31 := rg_le1 f_68 h_70 (rg_k (31 : Int32) 31 rfl) (by decide)
            have uh_72 := h_72.1
            have vh_72 := h_72.2
            have tc_73 : (x_55).toInt ≠ 0 := fun q => c_61 (Int32.toInt_inj.mp q)
            have h_74 : rg x_55 1 1 := rg_ne c_61 h_60 0 rfl (by decide)
            have uh_74 := h_74.1
            have vh_74 := h_74.2
            refine lv_iload hx hb dX12_cell_42 (lv_at hl 5 rfl) ?_
            refine lv_iconst (v := 0) hx hb dX12_cell_44 (by decide) ?_
            refine lv_sipush (v := 500) hx hb dX12_cell_45 (by decide) ?_
            refine pk_i (va_runS (As := [.int a4, .int 0, .int 500]) (rest := []) ⟨hx, hb, hml, hown, hts⟩ (s_X12_isIn_v l D t σ I J ri rj rq H.size tg hSH hG.1 a4 (0 : Int32) (500 : Int32)) (va_cwS 3 hts (tw_S tw_235 tw_236 tw_5 tw_237) rfl rfl rfl cd_yX12_isIn_3 ⟨Nat.le_of_ble_eq_true rfl, Nat.le_of_ble_eq_true rfl⟩) ⟨pq_blind, pq_pre hK hN hP hD⟩ rfl rfl hl.1 rfl (lv_room (Nat.le_of_ble_eq_true rfl)) dX12_cell_48 ⟨Nat.le_of_ble_eq_true rfl, Nat.le_of_ble_eq_true rfl⟩) hD hS hA (fun x_75 σ1 μ1 H locs hw_76 hP hD hS => ?_)
            obtain ⟨hu_77, hr_79⟩ := hw_76
            obtain ⟨hu_77a, hu_77b⟩ := Prod.mk.inj hu_77
            rw [hu_77a, hu_77b] at hP hD
            have h_80 : rg x_75 0 1 := by rcases hr_79 with ⟨q, -⟩ | ⟨q, -⟩ <;> rw [q] <;> exact ⟨by decide, by decide⟩
            have uh_80 := h_80.1
            have vh_80 := h_80.2
            refine lv_if_eq (tgt := 86) hx hb dX12_cell_51 (by decide) (fun c_81 => ?_) (fun c_81 => ?_)
            · have f_82 := (hr_79.resolve_left (fun q => absurd (q.1.symm.trans c_81) (by decide))).2
              have zk_83 : (0 : Int32).toInt = 0 := rfl
              have zk_84 : (500 : Int32).toInt = 500 := rfl
              have tc_85 : (x_75).toInt = 0 := congrArg Int32.toInt c_81
              have h_86 : rg x_75 0 0 := rg_and h_80 (rg_of_eq c_81 (rg_k (0 : Int32) 0 rfl)) (by decide)
              have uh_86 := h_86.1
              have vh_86 := h_86.2
              refine lv_iconst (v := (-1)) hx hb dX12_cell_86 (by decide) ?_
              subst hQ
              exact W.iret (v := (-1)) hx hb hr (fun t1 ht hW => ⟨⟨(-1), (σ, I, J, ri, rj, rq), rfl, ⟨ri, rfl, hG, (by have k0 : (-1 : Int32).toInt = -1 := rfl; omega), (rg_w (rg_k (-1 : Int32) (-1) rfl) (by decide))⟩, by rw [ht]; exact hP, va_K.moved hW.alike hK, hD⟩, hS.F ht⟩) hS.2.2 dX12_cell_87
            · obtain ⟨f_87, f_88⟩ := (hr_79.resolve_right (fun q => c_81 q.1)).2
              have tc_89 : 0 ≤ (a4).toInt := Int32.le_iff_toInt_le.mp f_87
              have h_90 : rg a4 0 2147483647 := rg_le2 f_87 (rg_k (0 : Int32) 0 rfl) (rg_full _) (by decide)
              have uh_90 := h_90.1
              have vh_90 := h_90.2
              have tc_91 : (a4).toInt ≤ 500 := Int32.le_iff_toInt_le.mp f_88
              have h_92 : rg a4 0 500 := rg_le1 f_88 h_90 (rg_k (500 : Int32) 500 rfl) (by decide)
              have uh_92 := h_92.1
              have vh_92 := h_92.2
              have tc_93 : (x_75).toInt ≠ 0 := fun q => c_81 (Int32.toInt_inj.mp q)
              have h_94 : rg x_75 1 1 := rg_ne c_81 h_80 0 rfl (by decide)
              have uh_94 := h_94.1
              have vh_94 := h_94.2
              refine lv_iload hx hb dX12_cell_54 (lv_at hl 6 rfl) ?_
              refine lv_iconst (v := 0) hx hb dX12_cell_56 (by decide) ?_
              refine lv_sipush (v := 400) hx hb dX12_cell_57 (by decide) ?_
              refine pk_i (va_runS (As := [.int a5, .int 0, .int 400]) (rest := []) ⟨hx, hb, hml, hown, hts⟩ (s_X12_isIn_v l D t σ I J ri rj rq H.size tg hSH hG.1 a5 (0 : Int32) (400 : Int32)) (va_cwS 3 hts (tw_S tw_235 tw_236 tw_5 tw_237) rfl rfl rfl cd_yX12_isIn_3 ⟨Nat.le_of_ble_eq_true rfl, Nat.le_of_ble_eq_true rfl⟩) ⟨pq_blind, pq_pre hK hN hP hD⟩ rfl rfl hl.1 rfl (lv_room (Nat.le_of_ble_eq_true rfl)) dX12_cell_60 ⟨Nat.le_of_ble_eq_true rfl, Nat.le_of_ble_eq_true rfl⟩) hD hS hA (fun x_95 σ1 μ1 H locs hw_96 hP hD hS => ?_)
              obtain ⟨hu_97, hr_99⟩ := hw_96
              obtain ⟨hu_97a, hu_97b⟩ := Prod.mk.inj hu_97
              rw [hu_97a, hu_97b] at hP hD
              have h_100 : rg x_95 0 1 := by rcases hr_99 with ⟨q, -⟩ | ⟨q, -⟩ <;> rw [q] <;> exact ⟨by decide, by decide⟩
              have uh_100 := h_100.1
              have vh_100 := h_100.2
              refine lv_if_eq (tgt := 86) hx hb dX12_cell_63 (by decide) (fun c_101 => ?_) (fun c_101 => ?_)
              · have f_102 := (hr_99.resolve_left (fun q => absurd (q.1.symm.trans c_101) (by decide))).2
                have zk_103 : (0 : Int32).toInt = 0 := rfl
                have zk_104 : (400 : Int32).toInt = 400 := rfl
                have tc_105 : (x_95).toInt = 0 := congrArg Int32.toInt c_101
                have h_106 : rg x_95 0 0 := rg_and h_100 (rg_of_eq c_101 (rg_k (0 : Int32) 0 rfl)) (by decide)
                have uh_106 := h_106.1
                have vh_106 := h_106.2
                refine lv_iconst (v := (-1)) hx hb dX12_cell_86 (by decide) ?_
                subst hQ
                exact W.iret (v := (-1)) hx hb hr (fun t1 ht hW => ⟨⟨(-1), (σ, I, J, ri, rj, rq), rfl, ⟨ri, rfl, hG, (by have k0 : (-1 : Int32).toInt = -1 := rfl; omega), (rg_w (rg_k (-1 : Int32) (-1) rfl) (by decide))⟩, by rw [ht]; exact hP, va_K.moved hW.alike hK, hD⟩, hS.F ht⟩) hS.2.2 dX12_cell_87
              · obtain ⟨f_107, f_108⟩ := (hr_99.resolve_right (fun q => c_101 q.1)).2
                have tc_109 : 0 ≤ (a5).toInt := Int32.le_iff_toInt_le.mp f_107
                have h_110 : rg a5 0 2147483647 := rg_le2 f_107 (rg_k (0 : Int32) 0 rfl) (rg_full _) (by decide)
                have uh_110 := h_110.1
                have vh_110 := h_110.2
                have tc_111 : (a5).toInt ≤ 400 := Int32.le_iff_toInt_le.mp f_108
                have h_112 : rg a5 0 400 := rg_le1 f_108 h_110 (rg_k (400 : Int32) 400 rfl) (by decide)
                have uh_112 := h_112.1
                have vh_112 := h_112.2
                have tc_113 : (x_95).toInt ≠ 0 := fun q => c_101 (Int32.toInt_inj.mp q)
                have h_114 : rg x_95 1 1 := rg_ne c_101 h_100 0 rfl (by decide)
                have uh_114 := h_114.1
                have vh_114 := h_114.2
                refine lv_aload_n hx hb dX12_cell_66 rfl (lv_at hl 0 rfl) ?_
                refine pg_f (v := .ref this_a) (C := RX12) (T := TX12) (N := 31) hx hb hts (tw_i inlX12) hown hK hP hL_this hK_this (by decide) rfl 0 (by decide) (hts _ (tw_c tw_176)) (pq_hv rfl hR_this_a) dX12_cell_67 ?_
                refine lv_iconst (v := 0) hx hb dX12_cell_70 (by decide) ?_
                refine pl_i hx hb hK hP hL_this_a hK_this_a hN_this_a (vp_in_iff.mpr (by decide)) dX12_cell_71 ?_
                refine lv_tov (ri this_a 0) rfl ?_
                have h_115 : rg (ri this_a 0) 0 600 := GM.z0 hG0 (by rw [hT_this_a]; decide) (i := 0) (k := 0) (by decide) rfl
                have uh_115 := h_115.1
                have vh_115 := h_115.2
                refine lv_if_gt (tgt := 86) hx hb dX12_cell_72 (by decide) (fun c_116 => ?_) (fun c_116 => ?_)
                · have tc_117 : 0 < (ri this_a 0).toInt := Int32.lt_iff_toInt_lt.mp c_116
                  have h_118 : rg (ri this_a 0) 1 600 := rg_lt2 c_116 (rg_k (0 : Int32) 0 rfl) h_115 (by decide)
                  have uh_118 := h_118.1
                  have vh_118 := h_118.2
                  refine lv_iconst (v := (-1)) hx hb dX12_cell_86 (by decide) ?_
                  subst hQ
                  exact W.iret (v := (-1)) hx hb hr (fun t1 ht hW => ⟨⟨(-1), (σ, I, J, ri, rj, rq), rfl, ⟨ri, rfl, hG, (by have k0 : (-1 : Int32).toInt = -1 := rfl; omega), (rg_w (rg_k (-1 : Int32) (-1) rfl) (by decide))⟩, by rw [ht]; exact hP, va_K.moved hW.alike hK, hD⟩, hS.F ht⟩) hS.2.2 dX12_cell_87
                · have tc_119 : (ri this_a 0).toInt ≤ 0 := Int32.le_iff_toInt_le.mp (nlt c_116)
                  have h_120 : rg (ri this_a 0) 0 0 := rg_le1 (nlt c_116) h_115 (rg_k (0 : Int32) 0 rfl) (by decide)
                  have uh_120 := h_120.1
                  have vh_120 := h_120.2
                  refine lv_aload_n hx hb dX12_cell_75 rfl (lv_at hl 0 rfl) ?_
                  refine pg_f (v := .ref this_a) (C := RX12) (T := TX12) (N := 31) hx hb hts (tw_i inlX12) hown hK hP hL_this hK_this (by decide) rfl 0 (by decide) (hts _ (tw_c tw_176)) (pq_hv rfl hR_this_a) dX12_cell_76 ?_
                  refine lv_iconst (v := 2) hx hb dX12_cell_79 (by decide) ?_
                  refine pl_i hx hb hK hP hL_this_a hK_this_a hN_this_a (vp_in_iff.mpr (by decide)) dX12_cell_80 ?_
                  refine lv_topi (fun x_121 ex_121 => ?_)
                  have ex_121 : x_121 = ri this_a ((2 : Int32)).toNatClampNeg := ex_121
                  have h_122 : rg x_121 0 40 := rg_of_eq ex_121 (GM.z hG (by rw [hT_this_a]; decide) (show zn ((2 : Int32)).toNatClampNeg = 2 from by decide) rfl)
                  have uh_122 := h_122.1
                  have vh_122 := h_122.2
                  have tt_123 : (ri this_a 2).toInt = (x_121).toInt := congrArg Int32.toInt (show ri this_a 2 = x_121 from ex_121.symm)
                  refine lv_bipush (v := 40) hx hb dX12_cell_81 (by decide) ?_
                  refine lv_icmp_ne (tgt := 88) hx hb dX12_cell_83 (by decide) (fun c_124 => ?_) (fun c_124 => ?_)
                  · have tc_125 : (x_121).toInt ≠ 40 := fun q => c_124 (Int32.toInt_inj.mp q)
                    have h_126 : rg x_121 0 39 := rg_ne c_124 h_122 40 rfl (by decide)
                    have uh_126 := h_126.1
                    have vh_126 := h_126.2
                    refine lv_bipush (v := 100) hx hb dX12_cell_88 (by decide) ?_
                    refine lv_bipush (v := 16) hx hb dX12_cell_90 (by decide) ?_
                    refine lv_aload_n hx hb dX12_cell_92 rfl (lv_at hl 0 rfl) ?_
                    refine pg_f (v := .ref this_a) (C := RX12) (T := TX12) (N := 31) hx hb hts (tw_i inlX12) hown hK hP hL_this hK_this (by decide) rfl 0 (by decide) (hts _ (tw_c tw_176)) (pq_hv rfl hR_this_a) dX12_cell_93 ?_
                    refine lv_iconst (v := 2) hx hb dX12_cell_96 (by decide) ?_
                    refine pl_i hx hb hK hP hL_this_a hK_this_a hN_this_a (vp_in_iff.mpr (by decide)) dX12_cell_97 ?_
                    refine lv_tov x_121 ex_121.symm ?_
                    refine lv_imul hx hb dX12_cell_98 ?_
                    refine lv_topi (fun x_127 ex_127 => ?_)
                    have h_128 : rg x_127 0 624 := rg_of_eq ex_127 (rg_mul (rg_k (16 : Int32) 16 rfl) h_126 (by decide))
                    have uh_128 := h_128.1
                    have vh_128 := h_128.2
                    have tx_127 : (x_127).toInt = 16 * (x_121).toInt := by rw [ex_127]; exact i_mul_rg (a2 := 16) (b2 := (x_121).toInt) rfl rfl (rg_k (16 : Int32) 16 rfl) h_126 (by decide)
                    refine lv_iadd hx hb dX12_cell_99 ?_
                    refine lv_topi (fun x_129 ex_129 => ?_)
                    have h_130 : rg x_129 100 724 := rg_of_eq ex_129 (rg_add (rg_k (100 : Int32) 100 rfl) h_128 (by decide))
                    have uh_130 := h_130.1
                    have vh_130 := h_130.2
                    have tx_129 : (x_129).toInt = 100 + (x_127).toInt := by rw [ex_129]; exact i_add_rg (a2 := 100) (b2 := (x_127).toInt) rfl rfl (rg_k (100 : Int32) 100 rfl) h_128 (by decide)
                    refine lv_istore (lv' := [(7, .int x_129), (0, .ref this), (1, .int a0), (2, .int a1), (3, .int a2), (4, .int a3), (5, .int a4), (6, .int a5)]) hx hb dX12_cell_100 hl (by decide) rfl (fun ls hl => ?_)
                    refine lv_aload_n hx hb dX12_cell_102 rfl (lv_at hl 1 rfl) ?_
                    refine pg_f (v := .ref this_a) (C := RX12) (T := TX12) (N := 31) hx hb hts (tw_i inlX12) hown hK hP hL_this hK_this (by decide) rfl 0 (by decide) (hts _ (tw_c tw_176)) (pq_hv rfl hR_this_a) dX12_cell_103 ?_
                    refine lv_iload hx hb dX12_cell_106 (lv_at hl 0 rfl) ?_
                    refine lv_iconst (v := 0) hx hb dX12_cell_108 (by decide) ?_
                    refine lv_iadd hx hb dX12_cell_109 ?_
                    refine lv_topi (fun x_131 ex_131 => ?_)
                    have h_132 : rg x_131 100 724 := rg_of_eq ex_131 (rg_add h_130 (rg_k (0 : Int32) 0 rfl) (by decide))
                    have uh_132 := h_132.1
                    have vh_132 := h_132.2
                    have tx_131 : (x_131).toInt = (x_129).toInt + 0 := by rw [ex_131]; exact i_add_rg (a2 := (x_129).toInt) (b2 := 0) rfl rfl h_130 (rg_k (0 : Int32) 0 rfl) (by decide)
                    refine lv_iload_n hx hb dX12_cell_110 rfl (lv_at hl 2 rfl) ?_
                    refine pt_i hx hb hK hP hD hS hL_this_a hK_this_a hN_this_a (rg_in h_132 (by decide)) dX12_cell_111 (fun r_133 H locs er_133 hP hD hS => ?_)
                    have hG := GM.wz hG hT_this_a (by decide) er_133 (zn_CELL (c := x_121.toNatClampNeg) (k := 0) (by have z_i := clampE x_131; have z_0 := clampE x_121; omega) (rg_cl1 h_126 (by decide)) (by decide)) rfl (rg_w f_11 (by decide)) (by decide)
                    have h_134 : r_133 this_a 2 = x_121 := cz_ne er_133 (zn_CELL (c := x_121.toNatClampNeg) (k := 0) (by have z_i := clampE x_131; have z_0 := clampE x_121; omega) (rg_cl1 h_126 (by decide)) (by decide)) (by decide) (by decide) ex_121.symm
                    have tt_135 : (r_133 this_a 2).toInt = (ri this_a 2).toInt := congrArg Int32.toInt (cz_ne (j := 2) er_133 (zn_CELL (c := x_121.toNatClampNeg) (k := 0) (by have z_i := clampE x_131; have z_0 := clampE x_121; omega) (rg_cl1 h_126 (by decide)) (by decide)) (by decide) (by decide) rfl)
                    refine lv_aload_n hx hb dX12_cell_112 rfl (lv_at hl 1 rfl) ?_
                    refine pg_f (v := .ref this_a) (C := RX12) (T := TX12) (N := 31) hx hb hts (tw_i inlX12) hown hK hP hL_this hK_this (by decide) rfl 0 (by decide) (hts _ (tw_c tw_176)) (pq_hv rfl hR_this_a) dX12_cell_113 ?_
                    refine lv_iload hx hb dX12_cell_116 (lv_at hl 0 rfl) ?_
                    refine lv_iconst (v := 1) hx hb dX12_cell_118 (by decide) ?_
                    refine lv_iadd hx hb dX12_cell_119 ?_
                    refine lv_topi (fun x_136 ex_136 => ?_)
                    have h_137 : rg x_136 101 725 := rg_of_eq ex_136 (rg_add h_130 (rg_k (1 : Int32) 1 rfl) (by decide))
                    have uh_137 := h_137.1
                    have vh_137 := h_137.2
                    have tx_136 : (x_136).toInt = (x_129).toInt + 1 := by rw [ex_136]; exact i_add_rg (a2 := (x_129).toInt) (b2 := 1) rfl rfl h_130 (rg_k (1 : Int32) 1 rfl) (by decide)
                    refine lv_iload_n hx hb dX12_cell_120 rfl (lv_at hl 3 rfl) ?_
                    refine pt_i hx hb hK hP hD hS hL_this_a hK_this_a hN_this_a (rg_in h_137 (by decide)) dX12_cell_121 (fun r_138 H locs er_138 hP hD hS => ?_)
                    have hG := GM.wz hG hT_this_a (by decide) er_138 (zn_CELL (c := x_121.toNatClampNeg) (k := 1) (by have z_i := clampE x_136; have z_0 := clampE x_121; omega) (rg_cl1 h_126 (by decide)) (by decide)) rfl (rg_w h_32 (by decide)) (by decide)
                    have h_139 : r_138 this_a 2 = x_121 := cz_ne er_138 (zn_CELL (c := x_121.toNatClampNeg) (k := 1) (by have z_i := clampE x_136; have z_0 := clampE x_121; omega) (rg_cl1 h_126 (by decide)) (by decide)) (by decide) (by decide) h_134
                    have tt_140 : (r_138 this_a 2).toInt = (r_133 this_a 2).toInt := congrArg Int32.toInt (cz_ne (j := 2) er_138 (zn_CELL (c := x_121.toNatClampNeg) (k := 1) (by have z_i := clampE x_136; have z_0 := clampE x_121; omega) (rg_cl1 h_126 (by decide)) (by decide)) (by decide) (by decide) rfl)
                    refine lv_aload_n hx hb dX12_cell_122 rfl (lv_at hl 1 rfl) ?_
                    refine pg_f (v := .ref this_a) (C := RX12) (T := TX12) (N := 31) hx hb hts (tw_i inlX12) hown hK hP hL_this hK_this (by decide) rfl 0 (by decide) (hts _ (tw_c tw_176)) (pq_hv rfl hR_this_a) dX12_cell_123 ?_
                    refine lv_iload hx hb dX12_cell_126 (lv_at hl 0 rfl) ?_
                    refine lv_iconst (v := 2) hx hb dX12_cell_128 (by decide) ?_
                    refine lv_iadd hx hb dX12_cell_129 ?_
                    refine lv_topi (fun x_141 ex_141 => ?_)
                    have h_142 : rg x_141 102 726 := rg_of_eq ex_141 (rg_add h_130 (rg_k (2 : Int32) 2 rfl) (by decide))
                    have uh_142 := h_142.1
                    have vh_142 := h_142.2
                    have tx_141 : (x_141).toInt = (x_129).toInt + 2 := by rw [ex_141]; exact i_add_rg (a2 := (x_129).toInt) (b2 := 2) rfl rfl h_130 (rg_k (2 : Int32) 2 rfl) (by decide)
                    refine lv_iload_n hx hb dX12_cell_130 rfl (lv_at hl 4 rfl) ?_
                    refine pt_i hx hb hK hP hD hS hL_this_a hK_this_a hN_this_a (rg_in h_142 (by decide)) dX12_cell_131 (fun r_143 H locs er_143 hP hD hS => ?_)
                    have hG := GM.wz hG hT_this_a (by decide) er_143 (zn_CELL (c := x_121.toNatClampNeg) (k := 2) (by have z_i := clampE x_141; have z_0 := clampE x_121; omega) (rg_cl1 h_126 (by decide)) (by decide)) rfl (rg_w h_52 (by decide)) (by decide)
                    have h_144 : r_143 this_a 2 = x_121 := cz_ne er_143 (zn_CELL (c := x_121.toNatClampNeg) (k := 2) (by have z_i := clampE x_141; have z_0 := clampE x_121; omega) (rg_cl1 h_126 (by decide)) (by decide)) (by decide) (by decide) h_139
                    have tt_145 : (r_143 this_a 2).toInt = (r_138 this_a 2).toInt := congrArg Int32.toInt (cz_ne (j := 2) er_143 (zn_CELL (c := x_121.toNatClampNeg) (k := 2) (by have z_i := clampE x_141; have z_0 := clampE x_121; omega) (rg_cl1 h_126 (by decide)) (by decide)) (by decide) (by decide) rfl)
                    refine lv_aload_n hx hb dX12_cell_132 rfl (lv_at hl 1 rfl) ?_
                    refine pg_f (v := .ref this_a) (C := RX12) (T := TX12) (N := 31) hx hb hts (tw_i inlX12) hown hK hP hL_this hK_this (by decide) rfl 0 (by decide) (hts _ (tw_c tw_176)) (pq_hv rfl hR_this_a) dX12_cell_133 ?_
                    refine lv_iload hx hb dX12_cell_136 (lv_at hl 0 rfl) ?_
                    refine lv_iconst (v := 3) hx hb dX12_cell_138 (by decide) ?_
                    refine lv_iadd hx hb dX12_cell_139 ?_
                    refine lv_topi (fun x_146 ex_146 => ?_)
                    have h_147 : rg x_146 103 727 := rg_of_eq ex_146 (rg_add h_130 (rg_k (3 : Int32) 3 rfl) (by decide))
                    have uh_147 := h_147.1
                    have vh_147 := h_147.2
                    have tx_146 : (x_146).toInt = (x_129).toInt + 3 := by rw [ex_146]; exact i_add_rg (a2 := (x_129).toInt) (b2 := 3) rfl rfl h_130 (rg_k (3 : Int32) 3 rfl) (by decide)
                    refine lv_iload hx hb dX12_cell_140 (lv_at hl 5 rfl) ?_
                    refine pt_i hx hb hK hP hD hS hL_this_a hK_this_a hN_this_a (rg_in h_147 (by decide)) dX12_cell_142 (fun r_148 H locs er_148 hP hD hS => ?_)
                    have hG := GM.wz hG hT_this_a (by decide) er_148 (zn_CELL (c := x_121.toNatClampNeg) (k := 3) (by have z_i := clampE x_146; have z_0 := clampE x_121; omega) (rg_cl1 h_126 (by decide)) (by decide)) rfl (rg_w h_72 (by decide)) (by decide)
                    have h_149 : r_148 this_a 2 = x_121 := cz_ne er_148 (zn_CELL (c := x_121.toNatClampNeg) (k := 3) (by have z_i := clampE x_146; have z_0 := clampE x_121; omega) (rg_cl1 h_126 (by decide)) (by decide)) (by decide) (by decide) h_144
                    have tt_150 : (r_148 this_a 2).toInt = (r_143 this_a 2).toInt := congrArg Int32.toInt (cz_ne (j := 2) er_148 (zn_CELL (c := x_121.toNatClampNeg) (k := 3) (by have z_i := clampE x_146; have z_0 := clampE x_121; omega) (rg_cl1 h_126 (by decide)) (by decide)) (by decide) (by decide) rfl)
                    refine lv_aload_n hx hb dX12_cell_143 rfl (lv_at hl 1 rfl) ?_
                    refine pg_f (v := .ref this_a) (C := RX12) (T := TX12) (N := 31) hx hb hts (tw_i inlX12) hown hK hP hL_this hK_this (by decide) rfl 0 (by decide) (hts _ (tw_c tw_176)) (pq_hv rfl hR_this_a) dX12_cell_144 ?_
                    refine lv_iload hx hb dX12_cell_147 (lv_at hl 0 rfl) ?_
                    refine lv_iconst (v := 4) hx hb dX12_cell_149 (by decide) ?_
                    refine lv_iadd hx hb dX12_cell_150 ?_
                    refine lv_topi (fun x_151 ex_151 => ?_)
                    have h_152 : rg x_151 104 728 := rg_of_eq ex_151 (rg_add h_130 (rg_k (4 : Int32) 4 rfl) (by decide))
                    have uh_152 := h_152.1
                    have vh_152 := h_152.2
                    have tx_151 : (x_151).toInt = (x_129).toInt + 4 := by rw [ex_151]; exact i_add_rg (a2 := (x_129).toInt) (b2 := 4) rfl rfl h_130 (rg_k (4 : Int32) 4 rfl) (by decide)
                    refine lv_iload hx hb dX12_cell_151 (lv_at hl 6 rfl) ?_
                    refine pt_i hx hb hK hP hD hS hL_this_a hK_this_a hN_this_a (rg_in h_152 (by decide)) dX12_cell_153 (fun r_153 H locs er_153 hP hD hS => ?_)
                    have hG := GM.wz hG hT_this_a (by decide) er_153 (zn_CELL (c := x_121.toNatClampNeg) (k := 4) (by have z_i := clampE x_151; have z_0 := clampE x_121; omega) (rg_cl1 h_126 (by decide)) (by decide)) rfl (rg_w h_92 (by decide)) (by decide)
                    have h_154 : r_153 this_a 2 = x_121 := cz_ne er_153 (zn_CELL (c := x_121.toNatClampNeg) (k := 4) (by have z_i := clampE x_151; have z_0 := clampE x_121; omega) (rg_cl1 h_126 (by decide)) (by decide)) (by decide) (by decide) h_149
                    have tt_155 : (r_153 this_a 2).toInt = (r_148 this_a 2).toInt := congrArg Int32.toInt (cz_ne (j := 2) er_153 (zn_CELL (c := x_121.toNatClampNeg) (k := 4) (by have z_i := clampE x_151; have z_0 := clampE x_121; omega) (rg_cl1 h_126 (by decide)) (by decide)) (by decide) (by decide) rfl)
                    refine lv_aload_n hx hb dX12_cell_154 rfl (lv_at hl 1 rfl) ?_
                    refine pg_f (v := .ref this_a) (C := RX12) (T := TX12) (N := 31) hx hb hts (tw_i inlX12) hown hK hP hL_this hK_this (by decide) rfl 0 (by decide) (hts _ (tw_c tw_176)) (pq_hv rfl hR_this_a) dX12_cell_155 ?_
                    refine lv_iload hx hb dX12_cell_158 (lv_at hl 0 rfl) ?_
                    refine lv_iconst (v := 5) hx hb dX12_cell_160 (by decide) ?_
                    refine lv_iadd hx hb dX12_cell_161 ?_
                    refine lv_topi (fun x_156 ex_156 => ?_)
                    have h_157 : rg x_156 105 729 := rg_of_eq ex_156 (rg_add h_130 (rg_k (5 : Int32) 5 rfl) (by decide))
                    have uh_157 := h_157.1
                    have vh_157 := h_157.2
                    have tx_156 : (x_156).toInt = (x_129).toInt + 5 := by rw [ex_156]; exact i_add_rg (a2 := (x_129).toInt) (b2 := 5) rfl rfl h_130 (rg_k (5 : Int32) 5 rfl) (by decide)
                    refine lv_iload hx hb dX12_cell_162 (lv_at hl 7 rfl) ?_
                    refine pt_i hx hb hK hP hD hS hL_this_a hK_this_a hN_this_a (rg_in h_157 (by decide)) dX12_cell_164 (fun r_158 H locs er_158 hP hD hS => ?_)
                    have hG := GM.wz hG hT_this_a (by decide) er_158 (zn_CELL (c := x_121.toNatClampNeg) (k := 5) (by have z_i := clampE x_156; have z_0 := clampE x_121; omega) (rg_cl1 h_126 (by decide)) (by decide)) rfl (rg_w h_112 (by decide)) (by decide)
                    have h_159 : r_158 this_a 2 = x_121 := cz_ne er_158 (zn_CELL (c := x_121.toNatClampNeg) (k := 5) (by have z_i := clampE x_156; have z_0 := clampE x_121; omega) (rg_cl1 h_126 (by decide)) (by decide)) (by decide) (by decide) h_154
                    have tt_160 : (r_158 this_a 2).toInt = (r_153 this_a 2).toInt := congrArg Int32.toInt (cz_ne (j := 2) er_158 (zn_CELL (c := x_121.toNatClampNeg) (k := 5) (by have z_i := clampE x_156; have z_0 := clampE x_121; omega) (rg_cl1 h_126 (by decide)) (by decide)) (by decide) (by decide) rfl)
                    refine lv_aload_n hx hb dX12_cell_165 rfl (lv_at hl 1 rfl) ?_
                    refine pg_f (v := .ref this_a) (C := RX12) (T := TX12) (N := 31) hx hb hts (tw_i inlX12) hown hK hP hL_this hK_this (by decide) rfl 0 (by decide) (hts _ (tw_c tw_176)) (pq_hv rfl hR_this_a) dX12_cell_166 ?_
                    refine lv_iload hx hb dX12_cell_169 (lv_at hl 0 rfl) ?_
                    refine lv_bipush (v := 14) hx hb dX12_cell_171 (by decide) ?_
                    refine lv_iadd hx hb dX12_cell_173 ?_
                    refine lv_topi (fun x_161 ex_161 => ?_)
                    have h_162 : rg x_161 114 738 := rg_of_eq ex_161 (rg_add h_130 (rg_k (14 : Int32) 14 rfl) (by decide))
                    have uh_162 := h_162.1
                    have vh_162 := h_162.2
                    have tx_161 : (x_161).toInt = (x_129).toInt + 14 := by rw [ex_161]; exact i_add_rg (a2 := (x_129).toInt) (b2 := 14) rfl rfl h_130 (rg_k (14 : Int32) 14 rfl) (by decide)
                    refine lv_iconst (v := (-1)) hx hb dX12_cell_174 (by decide) ?_
                    refine pt_i hx hb hK hP hD hS hL_this_a hK_this_a hN_this_a (rg_in h_162 (by decide)) dX12_cell_175 (fun r_163 H locs er_163 hP hD hS => ?_)
                    have hG := GM.wz hG hT_this_a (by decide) er_163 (zn_CELL (c := x_121.toNatClampNeg) (k := 14) (by have z_i := clampE x_161; have z_0 := clampE x_121; omega) (rg_cl1 h_126 (by decide)) (by decide)) rfl (rg_w (rg_k (-1 : Int32) (-1) rfl) (by decide)) (by decide)
                    have h_164 : r_163 this_a 2 = x_121 := cz_ne er_163 (zn_CELL (c := x_121.toNatClampNeg) (k := 14) (by have z_i := clampE x_161; have z_0 := clampE x_121; omega) (rg_cl1 h_126 (by decide)) (by decide)) (by decide) (by decide) h_159
                    have tt_165 : (r_163 this_a 2).toInt = (r_158 this_a 2).toInt := congrArg Int32.toInt (cz_ne (j := 2) er_163 (zn_CELL (c := x_121.toNatClampNeg) (k := 14) (by have z_i := clampE x_161; have z_0 := clampE x_121; omega) (rg_cl1 h_126 (by decide)) (by decide)) (by decide) (by decide) rfl)
                    refine lv_aload_n hx hb dX12_cell_176 rfl (lv_at hl 1 rfl) ?_
                    refine pg_f (v := .ref this_a) (C := RX12) (T := TX12) (N := 31) hx hb hts (tw_i inlX12) hown hK hP hL_this hK_this (by decide) rfl 0 (by decide) (hts _ (tw_c tw_176)) (pq_hv rfl hR_this_a) dX12_cell_177 ?_
                    refine lv_iconst (v := 2) hx hb dX12_cell_180 (by decide) ?_
                    refine lv_dup2_11 hx hb dX12_cell_181 rfl rfl ?_
                    refine pl_i hx hb hK hP hL_this_a hK_this_a hN_this_a (vp_in_iff.mpr (by decide)) dX12_cell_182 ?_
                    refine lv_tov x_121 h_164 ?_
                    refine lv_iconst (v := 1) hx hb dX12_cell_183 (by decide) ?_
                    refine lv_iadd hx hb dX12_cell_184 ?_
                    refine lv_topi (fun x_166 ex_166 => ?_)
                    have h_167 : rg x_166 1 40 := rg_of_eq ex_166 (rg_add h_126 (rg_k (1 : Int32) 1 rfl) (by decide))
                    have uh_167 := h_167.1
                    have vh_167 := h_167.2
                    have tx_166 : (x_166).toInt = (x_121).toInt + 1 := by rw [ex_166]; exact i_add_rg (a2 := (x_121).toInt) (b2 := 1) rfl rfl h_126 (rg_k (1 : Int32) 1 rfl) (by decide)
                    refine pt_i hx hb hK hP hD hS hL_this_a hK_this_a hN_this_a (vp_in_iff.mpr (by decide)) dX12_cell_185 (fun r_168 H locs er_168 hP hD hS => ?_)
                    have hG := GM.wz hG hT_this_a (by decide) er_168 (show zn ((2 : Int32)).toNatClampNeg = 2 from by decide) rfl (rg_w h_167 (by decide)) (by decide)
                    have h_169 : r_168 this_a 2 = x_166 := cz_eq er_168
                    have tt_170 : (r_168 this_a 2).toInt = (x_166).toInt := congrArg Int32.toInt (show r_168 this_a 2 = x_166 from cz_eq er_168)
                    refine lv_aload_n hx hb dX12_cell_186 rfl (lv_at hl 1 rfl) ?_
                    refine pg_f (v := .ref this_a) (C := RX12) (T := TX12) (N := 31) hx hb hts (tw_i inlX12) hown hK hP hL_this hK_this (by decide) rfl 0 (by decide) (hts _ (tw_c tw_176)) (pq_hv rfl hR_this_a) dX12_cell_187 ?_
                    refine lv_iconst (v := 2) hx hb dX12_cell_190 (by decide) ?_
                    refine pl_i hx hb hK hP hL_this_a hK_this_a hN_this_a (vp_in_iff.mpr (by decide)) dX12_cell_191 ?_
                    refine lv_tov x_166 h_169 ?_
                    refine lv_iconst (v := 1) hx hb dX12_cell_192 (by decide) ?_
                    refine lv_isub hx hb dX12_cell_193 ?_
                    refine lv_topi (fun x_171 ex_171 => ?_)
                    have h_172 : rg x_171 0 39 := rg_of_eq ex_171 (rg_sub h_167 (rg_k (1 : Int32) 1 rfl) (by decide))
                    have uh_172 := h_172.1
                    have vh_172 := h_172.2
                    have tx_171 : (x_171).toInt = (x_166).toInt - 1 := by rw [ex_171]; exact i_sub_rg (a2 := (x_166).toInt) (b2 := 1) rfl rfl h_167 (rg_k (1 : Int32) 1 rfl) (by decide)
                    subst hQ
                    exact W.iret (v := x_171) hx hb hr (fun t1 ht hW => ⟨⟨x_171, (σ, I, J, r_168, rj, rq), rfl, ⟨r_168, rfl, hG, (by have k0 : (-1 : Int32).toInt = -1 := rfl; omega), (rg_w h_172 (by decide))⟩, by rw [ht]; exact hP, va_K.moved hW.alike hK, hD⟩, hS.F ht⟩) hS.2.2 dX12_cell_194
                  · have tc_173 : (x_121).toInt = 40 := congrArg Int32.toInt c_124
                    have h_174 : rg x_121 40 40 := rg_and h_122 (rg_of_eq c_124 (rg_k (40 : Int32) 40 rfl)) (by decide)
                    have uh_174 := h_174.1
                    have vh_174 := h_174.2
                    refine lv_iconst (v := (-1)) hx hb dX12_cell_86 (by decide) ?_
                    subst hQ
                    exact W.iret (v := (-1)) hx hb hr (fun t1 ht hW => ⟨⟨(-1), (σ, I, J, ri, rj, rq), rfl, ⟨ri, rfl, hG, (by have k0 : (-1 : Int32).toInt = -1 := rfl; omega), (rg_w (rg_k (-1 : Int32) (-1) rfl) (by decide))⟩, by rw [ht]; exact hP, va_K.moved hW.alike hK, hD⟩, hS.F ht⟩) hS.2.2 dX12_cell_87
  exact go _ _ _ hP hD hS hl

set_option maxHeartbeats 4000000 in
set_option maxRecDepth 100000 in
theorem s_X12_level_w (l : Launch) (D : va_G) (t : pq_T) (σ : pq_S) (I : Nat → Nat → Int32) (J : Nat → Nat → Int64) (ri : Nat → Nat → Int32) (rj : Nat → Nat → Int64) (rq : Nat → Nat → Option Nat) (sz : Nat) (tg : Nat → Nat) (hSH : SH σ tg) (hG0 : GT tg I ri) (this : Nat) (a0 : Int32) (a1 : Int32) (a2 : Int32) (a3 : Int32) (hL_this : this ∈ σ.1) (hK_this : σ.2.1 this = 12) (h_a2 : rg a2 0 1) (this_a : Nat) (hR_this_a : σ.2.2.1 384 this = some this_a) (hL_this_a : this_a ∈ σ.1) (hK_this_a : σ.2.1 this_a = 13) (hN_this_a : σ.2.2.2 this_a = 12720) (hT_this_a : tg this_a = 384) : MetI l yX12_level (wa yX12_level cX12_level 6 (some .int)) ({ frames := 2, cells := 0, slots := 0, locals := 42 }) [.ref this, .int a0, .int a1, .int a2, .int a3] D t σ (I, J, ri, rj, rq) sz 0 0 (fun (r : Int32) (u : pq_S × pq_M) => ∃ ri' : Nat → Nat → Int32, u = (σ, I, J, ri', rj, rq) ∧ GM [1500, 1501, 1502, 1503, 1504, 1003] tg σ I ri I ri' rq ∧ ((((0 ≤ a0.toInt ∧ a0.toInt ≤ 2) ∧ (0 ≤ a1.toInt ∧ a1.toInt ≤ 599) ∧ (a2.toInt = 0 ∨ ((-1000) ≤ a3.toInt ∧ a3.toInt ≤ 5000)) ∧ (ri this_a 3).toInt < 200) ∧ r.toInt = (ri this_a 3).toInt + 1 ∧ (ri' this_a 3).toInt = (ri this_a 3).toInt + 1) ∨ (¬ ((0 ≤ a0.toInt ∧ a0.toInt ≤ 2) ∧ (0 ≤ a1.toInt ∧ a1.toInt ≤ 599) ∧ (a2.toInt = 0 ∨ ((-1000) ≤ a3.toInt ∧ a3.toInt ≤ 5000)) ∧ (ri this_a 3).toInt < 200) ∧ r.toInt = -1 ∧ (ri' this_a 3).toInt = (ri this_a 3).toInt)) ∧ rg r (-1) 200) := by
  refine Met.ofW (cc := cX12_level) (maxL := 6) (ret := (some .int)) (by decide) rfl ?_
  intro p e s m args below meth c s₁ B hml hv
  obtain ⟨rfl, hsz, hP, hK, hD0, hN⟩ := hv
  have hx := B.exec
  have hb := B.bytes
  have hr := B.returns
  have hts := atoms_spec (ws := (wa yX12_level cX12_level 6 (some .int))) B.pre
  have hown : s.vm.findClass RX12 = some m.cls := findClass_of_methodNamed B.named
  have hlocks := B.notSynchronized
  subst hsz
  have hD : va_D (pq_B t σ (I, J, ri, rj, rq) s.heap.size) (pq_P t σ (I, J, ri, rj, rq)) := hD0.self
  generalize hAe : pq_B t σ (I, J, ri, rj, rq) s.heap.size = A at hD ⊢
  have hA : ∀ q : Nat, s.heap.size ≤ q → A q := fun q h => by rw [← hAe]; exact Or.inr h
  have hS : va_S A s.heap s.heap [] := va_S.rf
  have hG : GM [1500, 1501, 1502, 1503, 1504, 1003] tg σ I ri I ri rq := ⟨hG0, fun _ _ _ => rfl, fun _ _ _ _ _ => rfl, fun _ _ _ _ _ _ => rfl⟩
  have hl := lv_entry ([.ref this, .int a0, .int a1, .int a2, .int a3]) (n := 6) (Nat.le_of_ble_eq_true rfl)
  rw [lg_entry_eq]
  generalize (lg_sl ([.ref this, .int a0, .int a1, .int a2, .int a3]) ++ List.replicate (6 - (lg_sl ([.ref this, .int a0, .int a1, .int a2, .int a3])).length) Slot.unset).toArray = ls at hl ⊢
  have hl : lv_has ls 6 [(0, .ref this), (1, .int a0), (2, .int a1), (3, .int a2), (4, .int a3)] := hl
  refine q_gen (fun Q hQ => ?_)
  have go : ∀ (H : Heap) (locs : List Loc) (ls : Array Slot), va_P D vwCl (pq_P t σ (I, J, ri, rj, rq)) H → va_D A (pq_P t σ (I, J, ri, rj, rq)) → va_S A s.heap H locs → lv_has ls 6 [(0, .ref this), (1, .int a0), (2, .int a1), (3, .int a2), (4, .int a3)] → W p l e ({ frames := 2, cells := 0, slots := 0, locals := 42 } : Room) s m (List.toArray ([.ref this, .int a0, .int a1, .int a2, .int a3] : List Value)) below meth c H locs 0 0 Q (F0 m 0 ls []) := by
    intro H locs ls hP hD hS hl
    refine lv_iload_n hx hb dX12_level_0 rfl (lv_at hl 1 rfl) ?_
    refine pk_i (va_runS (As := [.int a0]) (rest := []) ⟨hx, hb, hml, hown, hts⟩ (s_X12_isRise_w l D t σ I J ri rj rq H.size tg hSH hG.1 a0) (va_cwS 1 hts (tw_S tw_259 tw_260 tw_5 tw_261) rfl rfl rfl cd_yX12_isRise_1 ⟨Nat.le_of_ble_eq_true rfl, Nat.le_of_ble_eq_true rfl⟩) ⟨pq_blind, pq_pre hK hN hP hD⟩ rfl rfl hl.1 rfl (lv_room (Nat.le_of_ble_eq_true rfl)) dX12_level_1 ⟨Nat.le_of_ble_eq_true rfl, Nat.le_of_ble_eq_true rfl⟩) hD hS hA (fun x_1 σ1 μ1 H locs hw_2 hP hD hS => ?_)
    obtain ⟨hu_3, hr_5⟩ := hw_2
    obtain ⟨hu_3a, hu_3b⟩ := Prod.mk.inj hu_3
    rw [hu_3a, hu_3b] at hP hD
    have h_6 : rg x_1 0 1 := by rcases hr_5 with ⟨q, -⟩ | ⟨q, -⟩ <;> rw [q] <;> exact ⟨by decide, by decide⟩
    have uh_6 := h_6.1
    have vh_6 := h_6.2
    refine lv_if_eq (tgt := 44) hx hb dX12_level_4 (by decide) (fun c_7 => ?_) (fun c_7 => ?_)
    · have f_8 := (hr_5.resolve_left (fun q => absurd (q.1.symm.trans c_7) (by decide))).2
      have tc_9 : (x_1).toInt = 0 := congrArg Int32.toInt c_7
      have h_10 : rg x_1 0 0 := rg_and h_6 (rg_of_eq c_7 (rg_k (0 : Int32) 0 rfl)) (by decide)
      have uh_10 := h_10.1
      have vh_10 := h_10.2
      refine lv_iconst (v := (-1)) hx hb dX12_level_44 (by decide) ?_
      subst hQ
      exact W.iret (v := (-1)) hx hb hr (fun t1 ht hW => ⟨⟨(-1), (σ, I, J, ri, rj, rq), rfl, ⟨ri, rfl, hG, (by have k0 : (-1 : Int32).toInt = -1 := rfl; omega), (rg_w (rg_k (-1 : Int32) (-1) rfl) (by decide))⟩, by rw [ht]; exact hP, va_K.moved hW.alike hK, hD⟩, hS.F ht⟩) hS.2.2 dX12_level_45
    · obtain ⟨f_11, f_12⟩ := (hr_5.resolve_right (fun q => c_7 q.1)).2
      have uf_11 := f_11.1
      have vf_11 := f_11.2
      have tc_13 : (x_1).toInt ≠ 0 := fun q => c_7 (Int32.toInt_inj.mp q)
      have h_14 : rg x_1 1 1 := rg_ne c_7 h_6 0 rfl (by decide)
      have uh_14 := h_14.1
      have vh_14 := h_14.2
      refine lv_iload_n hx hb dX12_level_7 rfl (lv_at hl 2 rfl) ?_
      refine pk_i (va_runS (As := [.int a1]) (rest := []) ⟨hx, hb, hml, hown, hts⟩ (s_X12_isMonth_w l D t σ I J ri rj rq H.size tg hSH hG.1 a1) (va_cwS 1 hts (tw_S tw_262 tw_263 tw_5 tw_264) rfl rfl rfl cd_yX12_isMonth_1 ⟨Nat.le_of_ble_eq_true rfl, Nat.le_of_ble_eq_true rfl⟩) ⟨pq_blind, pq_pre hK hN hP hD⟩ rfl rfl hl.1 rfl (lv_room (Nat.le_of_ble_eq_true rfl)) dX12_level_8 ⟨Nat.le_of_ble_eq_true rfl, Nat.le_of_ble_eq_true rfl⟩) hD hS hA (fun x_15 σ1 μ1 H locs hw_16 hP hD hS => ?_)
      obtain ⟨hu_17, hr_19⟩ := hw_16
      obtain ⟨hu_17a, hu_17b⟩ := Prod.mk.inj hu_17
      rw [hu_17a, hu_17b] at hP hD
      have h_20 : rg x_15 0 1 := by rcases hr_19 with ⟨q, -⟩ | ⟨q, -⟩ <;> rw [q] <;> exact ⟨by decide, by decide⟩
      have uh_20 := h_20.1
      have vh_20 := h_20.2
      refine lv_if_eq (tgt := 44) hx hb dX12_level_11 (by decide) (fun c_21 => ?_) (fun c_21 => ?_)
      · have f_22 := (hr_19.resolve_left (fun q => absurd (q.1.symm.trans c_21) (by decide))).2
        have tc_23 : (x_15).toInt = 0 := congrArg Int32.toInt c_21
        have h_24 : rg x_15 0 0 := rg_and h_20 (rg_of_eq c_21 (rg_k (0 : Int32) 0 rfl)) (by decide)
        have uh_24 := h_24.1
        have vh_24 := h_24.2
        refine lv_iconst (v := (-1)) hx hb dX12_level_44 (by decide) ?_
        subst hQ
        exact W.iret (v := (-1)) hx hb hr (fun t1 ht hW => ⟨⟨(-1), (σ, I, J, ri, rj, rq), rfl, ⟨ri, rfl, hG, (by have k0 : (-1 : Int32).toInt = -1 := rfl; omega), (rg_w (rg_k (-1 : Int32) (-1) rfl) (by decide))⟩, by rw [ht]; exact hP, va_K.moved hW.alike hK, hD⟩, hS.F ht⟩) hS.2.2 dX12_level_45
      · obtain ⟨f_25, f_26⟩ := (hr_19.resolve_right (fun q => c_21 q.1)).2
        have uf_25 := f_25.1
        have vf_25 := f_25.2
        have tc_27 : (x_15).toInt ≠ 0 := fun q => c_21 (Int32.toInt_inj.mp q)
        have h_28 : rg x_15 1 1 := rg_ne c_21 h_20 0 rfl (by decide)
        have uh_28 := h_28.1
        have vh_28 := h_28.2
        refine lv_iload_n hx hb dX12_level_14 rfl (lv_at hl 3 rfl) ?_
        refine lv_if_eq (tgt := 32) hx hb dX12_level_15 (by decide) (fun c_29 => ?_) (fun c_29 => ?_)
        · have tc_30 : (a2).toInt = 0 := congrArg Int32.toInt c_29
          have h_31 : rg a2 0 0 := rg_and h_a2 (rg_of_eq c_29 (rg_k (0 : Int32) 0 rfl)) (by decide)
          have uh_31 := h_31.1
          have vh_31 := h_31.2
          refine lv_aload_n hx hb dX12_level_32 rfl (lv_at hl 0 rfl) ?_
          refine pg_f (v := .ref this_a) (C := RX12) (T := TX12) (N := 31) hx hb hts (tw_i inlX12) hown hK hP hL_this hK_this (by decide) rfl 0 (by decide) (hts _ (tw_c tw_176)) (pq_hv rfl hR_this_a) dX12_level_33 ?_
          refine lv_iconst (v := 3) hx hb dX12_level_36 (by decide) ?_
          refine pl_i hx hb hK hP hL_this_a hK_this_a hN_this_a (vp_in_iff.mpr (by decide)) dX12_level_37 ?_
          refine lv_topi (fun x_32 ex_32 => ?_)
          have ex_32 : x_32 = ri this_a ((3 : Int32)).toNatClampNeg := ex_32
          have h_33 : rg x_32 0 200 := rg_of_eq ex_32 (GM.z hG (by rw [hT_this_a]; decide) (show zn ((3 : Int32)).toNatClampNeg = 3 from by decide) rfl)
          have uh_33 := h_33.1
          have vh_33 := h_33.2
          have tt_34 : (ri this_a 3).toInt = (x_32).toInt := congrArg Int32.toInt (show ri this_a 3 = x_32 from ex_32.symm)
          refine lv_sipush (v := 200) hx hb dX12_level_38 (by decide) ?_
          refine lv_icmp_ne (tgt := 46) hx hb dX12_level_41 (by decide) (fun c_35 => ?_) (fun c_35 => ?_)
          · have tc_36 : (x_32).toInt ≠ 200 := fun q => c_35 (Int32.toInt_inj.mp q)
            have h_37 : rg x_32 0 199 := rg_ne c_35 h_33 200 rfl (by decide)
            have uh_37 := h_37.1
            have vh_37 := h_37.2
            refine lv_sipush (v := 1220) hx hb dX12_level_46 (by decide) ?_
            refine lv_iconst (v := 5) hx hb dX12_level_49 (by decide) ?_
            refine lv_aload_n hx hb dX12_level_50 rfl (lv_at hl 0 rfl) ?_
            refine pg_f (v := .ref this_a) (C := RX12) (T := TX12) (N := 31) hx hb hts (tw_i inlX12) hown hK hP hL_this hK_this (by decide) rfl 0 (by decide) (hts _ (tw_c tw_176)) (pq_hv rfl hR_this_a) dX12_level_51 ?_
            refine lv_iconst (v := 3) hx hb dX12_level_54 (by decide) ?_
            refine pl_i hx hb hK hP hL_this_a hK_this_a hN_this_a (vp_in_iff.mpr (by decide)) dX12_level_55 ?_
            refine lv_tov x_32 ex_32.symm ?_
            refine lv_imul hx hb dX12_level_56 ?_
            refine lv_topi (fun x_38 ex_38 => ?_)
            have h_39 : rg x_38 0 995 := rg_of_eq ex_38 (rg_mul (rg_k (5 : Int32) 5 rfl) h_37 (by decide))
            have uh_39 := h_39.1
            have vh_39 := h_39.2
            have tx_38 : (x_38).toInt = 5 * (x_32).toInt := by rw [ex_38]; exact i_mul_rg (a2 := 5) (b2 := (x_32).toInt) rfl rfl (rg_k (5 : Int32) 5 rfl) h_37 (by decide)
            refine lv_iadd hx hb dX12_level_57 ?_
            refine lv_topi (fun x_40 ex_40 => ?_)
            have h_41 : rg x_40 1220 2215 := rg_of_eq ex_40 (rg_add (rg_k (1220 : Int32) 1220 rfl) h_39 (by decide))
            have uh_41 := h_41.1
            have vh_41 := h_41.2
            have tx_40 : (x_40).toInt = 1220 + (x_38).toInt := by rw [ex_40]; exact i_add_rg (a2 := 1220) (b2 := (x_38).toInt) rfl rfl (rg_k (1220 : Int32) 1220 rfl) h_39 (by decide)
            refine lv_istore (lv' := [(5, .int x_40), (0, .ref this), (1, .int a0), (2, .int a1), (3, .int a2), (4, .int a3)]) hx hb dX12_level_58 hl (by decide) rfl (fun ls hl => ?_)
            refine lv_aload_n hx hb dX12_level_60 rfl (lv_at hl 1 rfl) ?_
            refine pg_f (v := .ref this_a) (C := RX12) (T := TX12) (N := 31) hx hb hts (tw_i inlX12) hown hK hP hL_this hK_this (by decide) rfl 0 (by decide) (hts _ (tw_c tw_176)) (pq_hv rfl hR_this_a) dX12_level_61 ?_
            refine lv_iload hx hb dX12_level_64 (lv_at hl 0 rfl) ?_
            refine lv_iload_n hx hb dX12_level_66 rfl (lv_at hl 2 rfl) ?_
            refine pt_i hx hb hK hP hD hS hL_this_a hK_this_a hN_this_a (rg_in h_41 (by decide)) dX12_level_67 (fun r_42 H locs er_42 hP hD hS => ?_)
            have hG := GM.wz hG hT_this_a (by decide) er_42 (zn_LEVEL (c := x_32.toNatClampNeg) (k := 0) (by have z_i := clampE x_40; have z_0 := clampE x_32; omega) (rg_cl1 h_37 (by decide)) (by decide)) rfl (rg_w f_11 (by decide)) (by decide)
            have h_43 : r_42 this_a 3 = x_32 := cz_ne er_42 (zn_LEVEL (c := x_32.toNatClampNeg) (k := 0) (by have z_i := clampE x_40; have z_0 := clampE x_32; omega) (rg_cl1 h_37 (by decide)) (by decide)) (by decide) (by decide) ex_32.symm
            have tt_44 : (r_42 this_a 3).toInt = (ri this_a 3).toInt := congrArg Int32.toInt (cz_ne (j := 3) er_42 (zn_LEVEL (c := x_32.toNatClampNeg) (k := 0) (by have z_i := clampE x_40; have z_0 := clampE x_32; omega) (rg_cl1 h_37 (by decide)) (by decide)) (by decide) (by decide) rfl)
            refine lv_aload_n hx hb dX12_level_68 rfl (lv_at hl 1 rfl) ?_
            refine pg_f (v := .ref this_a) (C := RX12) (T := TX12) (N := 31) hx hb hts (tw_i inlX12) hown hK hP hL_this hK_this (by decide) rfl 0 (by decide) (hts _ (tw_c tw_176)) (pq_hv rfl hR_this_a) dX12_level_69 ?_
            refine lv_iload hx hb dX12_level_72 (lv_at hl 0 rfl) ?_
            refine lv_iconst (v := 1) hx hb dX12_level_74 (by decide) ?_
            refine lv_iadd hx hb dX12_level_75 ?_
            refine lv_topi (fun x_45 ex_45 => ?_)
            have h_46 : rg x_45 1221 2216 := rg_of_eq ex_45 (rg_add h_41 (rg_k (1 : Int32) 1 rfl) (by decide))
            have uh_46 := h_46.1
            have vh_46 := h_46.2
            have tx_45 : (x_45).toInt = (x_40).toInt + 1 := by rw [ex_45]; exact i_add_rg (a2 := (x_40).toInt) (b2 := 1) rfl rfl h_41 (rg_k (1 : Int32) 1 rfl) (by decide)
            refine lv_iload_n hx hb dX12_level_76 rfl (lv_at hl 3 rfl) ?_
            refine pt_i hx hb hK hP hD hS hL_this_a hK_this_a hN_this_a (rg_in h_46 (by decide)) dX12_level_77 (fun r_47 H locs er_47 hP hD hS => ?_)
            have hG := GM.wz hG hT_this_a (by decide) er_47 (zn_LEVEL (c := x_32.toNatClampNeg) (k := 1) (by have z_i := clampE x_45; have z_0 := clampE x_32; omega) (rg_cl1 h_37 (by decide)) (by decide)) rfl (rg_w f_25 (by decide)) (by decide)
            have h_48 : r_47 this_a 3 = x_32 := cz_ne er_47 (zn_LEVEL (c := x_32.toNatClampNeg) (k := 1) (by have z_i := clampE x_45; have z_0 := clampE x_32; omega) (rg_cl1 h_37 (by decide)) (by decide)) (by decide) (by decide) h_43
            have tt_49 : (r_47 this_a 3).toInt = (r_42 this_a 3).toInt := congrArg Int32.toInt (cz_ne (j := 3) er_47 (zn_LEVEL (c := x_32.toNatClampNeg) (k := 1) (by have z_i := clampE x_45; have z_0 := clampE x_32; omega) (rg_cl1 h_37 (by decide)) (by decide)) (by decide) (by decide) rfl)
            refine lv_aload_n hx hb dX12_level_78 rfl (lv_at hl 1 rfl) ?_
            refine pg_f (v := .ref this_a) (C := RX12) (T := TX12) (N := 31) hx hb hts (tw_i inlX12) hown hK hP hL_this hK_this (by decide) rfl 0 (by decide) (hts _ (tw_c tw_176)) (pq_hv rfl hR_this_a) dX12_level_79 ?_
            refine lv_iload hx hb dX12_level_82 (lv_at hl 0 rfl) ?_
            refine lv_iconst (v := 2) hx hb dX12_level_84 (by decide) ?_
            refine lv_iadd hx hb dX12_level_85 ?_
            refine lv_topi (fun x_50 ex_50 => ?_)
            have h_51 : rg x_50 1222 2217 := rg_of_eq ex_50 (rg_add h_41 (rg_k (2 : Int32) 2 rfl) (by decide))
            have uh_51 := h_51.1
            have vh_51 := h_51.2
            have tx_50 : (x_50).toInt = (x_40).toInt + 2 := by rw [ex_50]; exact i_add_rg (a2 := (x_40).toInt) (b2 := 2) rfl rfl h_41 (rg_k (2 : Int32) 2 rfl) (by decide)
            refine lv_iload_n hx hb dX12_level_86 rfl (lv_at hl 4 rfl) ?_
            refine lv_if_eq (tgt := 94) hx hb dX12_level_87 (by decide) (fun c_52 => ?_) (fun c_52 => ?_)
            · have tc_53 : (a2).toInt = 0 := congrArg Int32.toInt c_52
              refine lv_iconst (v := 0) hx hb dX12_level_94 (by decide) ?_
              refine pt_i hx hb hK hP hD hS hL_this_a hK_this_a hN_this_a (rg_in h_51 (by decide)) dX12_level_95 (fun r_54 H locs er_54 hP hD hS => ?_)
              have hG := GM.wz hG hT_this_a (by decide) er_54 (zn_LEVEL (c := x_32.toNatClampNeg) (k := 2) (by have z_i := clampE x_50; have z_0 := clampE x_32; omega) (rg_cl1 h_37 (by decide)) (by decide)) rfl (rg_w (rg_k (0 : Int32) 0 rfl) (by decide)) (by decide)
              have h_55 : r_54 this_a 3 = x_32 := cz_ne er_54 (zn_LEVEL (c := x_32.toNatClampNeg) (k := 2) (by have z_i := clampE x_50; have z_0 := clampE x_32; omega) (rg_cl1 h_37 (by decide)) (by decide)) (by decide) (by decide) h_48
              have tt_56 : (r_54 this_a 3).toInt = (r_47 this_a 3).toInt := congrArg Int32.toInt (cz_ne (j := 3) er_54 (zn_LEVEL (c := x_32.toNatClampNeg) (k := 2) (by have z_i := clampE x_50; have z_0 := clampE x_32; omega) (rg_cl1 h_37 (by decide)) (by decide)) (by decide) (by decide) rfl)
              refine lv_aload_n hx hb dX12_level_96 rfl (lv_at hl 1 rfl) ?_
              refine pg_f (v := .ref this_a) (C := RX12) (T := TX12) (N := 31) hx hb hts (tw_i inlX12) hown hK hP hL_this hK_this (by decide) rfl 0 (by decide) (hts _ (tw_c tw_176)) (pq_hv rfl hR_this_a) dX12_level_97 ?_
              refine lv_iload hx hb dX12_level_100 (lv_at hl 0 rfl) ?_
              refine lv_iconst (v := 3) hx hb dX12_level_102 (by decide) ?_
              refine lv_iadd hx hb dX12_level_103 ?_
              refine lv_topi (fun x_57 ex_57 => ?_)
              have h_58 : rg x_57 1223 2218 := rg_of_eq ex_57 (rg_add h_41 (rg_k (3 : Int32) 3 rfl) (by decide))
              have uh_58 := h_58.1
              have vh_58 := h_58.2
              have tx_57 : (x_57).toInt = (x_40).toInt + 3 := by rw [ex_57]; exact i_add_rg (a2 := (x_40).toInt) (b2 := 3) rfl rfl h_41 (rg_k (3 : Int32) 3 rfl) (by decide)
              refine lv_iload_n hx hb dX12_level_104 rfl (lv_at hl 4 rfl) ?_
              refine lv_if_eq (tgt := 113) hx hb dX12_level_105 (by decide) (fun c_59 => ?_) (fun c_59 => ?_)
              · have tc_60 : (a2).toInt = 0 := congrArg Int32.toInt c_59
                refine lv_iconst (v := 0) hx hb dX12_level_113 (by decide) ?_
                refine pt_i hx hb hK hP hD hS hL_this_a hK_this_a hN_this_a (rg_in h_58 (by decide)) dX12_level_114 (fun r_61 H locs er_61 hP hD hS => ?_)
                have hG := GM.wz hG hT_this_a (by decide) er_61 (zn_LEVEL (c := x_32.toNatClampNeg) (k := 3) (by have z_i := clampE x_57; have z_0 := clampE x_32; omega) (rg_cl1 h_37 (by decide)) (by decide)) rfl (rg_w (rg_k (0 : Int32) 0 rfl) (by decide)) (by decide)
                have h_62 : r_61 this_a 3 = x_32 := cz_ne er_61 (zn_LEVEL (c := x_32.toNatClampNeg) (k := 3) (by have z_i := clampE x_57; have z_0 := clampE x_32; omega) (rg_cl1 h_37 (by decide)) (by decide)) (by decide) (by decide) h_55
                have tt_63 : (r_61 this_a 3).toInt = (r_54 this_a 3).toInt := congrArg Int32.toInt (cz_ne (j := 3) er_61 (zn_LEVEL (c := x_32.toNatClampNeg) (k := 3) (by have z_i := clampE x_57; have z_0 := clampE x_32; omega) (rg_cl1 h_37 (by decide)) (by decide)) (by decide) (by decide) rfl)
                refine lv_aload_n hx hb dX12_level_115 rfl (lv_at hl 1 rfl) ?_
                refine pg_f (v := .ref this_a) (C := RX12) (T := TX12) (N := 31) hx hb hts (tw_i inlX12) hown hK hP hL_this hK_this (by decide) rfl 0 (by decide) (hts _ (tw_c tw_176)) (pq_hv rfl hR_this_a) dX12_level_116 ?_
                refine lv_iload hx hb dX12_level_119 (lv_at hl 0 rfl) ?_
                refine lv_iconst (v := 4) hx hb dX12_level_121 (by decide) ?_
                refine lv_iadd hx hb dX12_level_122 ?_
                refine lv_topi (fun x_64 ex_64 => ?_)
                have h_65 : rg x_64 1224 2219 := rg_of_eq ex_64 (rg_add h_41 (rg_k (4 : Int32) 4 rfl) (by decide))
                have uh_65 := h_65.1
                have vh_65 := h_65.2
                have tx_64 : (x_64).toInt = (x_40).toInt + 4 := by rw [ex_64]; exact i_add_rg (a2 := (x_40).toInt) (b2 := 4) rfl rfl h_41 (rg_k (4 : Int32) 4 rfl) (by decide)
                refine lv_aload_n hx hb dX12_level_123 rfl (lv_at hl 1 rfl) ?_
                refine pg_f (v := .ref this_a) (C := RX12) (T := TX12) (N := 31) hx hb hts (tw_i inlX12) hown hK hP hL_this hK_this (by decide) rfl 0 (by decide) (hts _ (tw_c tw_176)) (pq_hv rfl hR_this_a) dX12_level_124 ?_
                refine lv_iconst (v := 0) hx hb dX12_level_127 (by decide) ?_
                refine pl_i hx hb hK hP hL_this_a hK_this_a hN_this_a (vp_in_iff.mpr (by decide)) dX12_level_128 ?_
                refine lv_tov (ri this_a 0) (hG.2.2.1 this_a hT_this_a 0 (by decide) (by decide)) ?_
                have h_66 : rg (ri this_a 0) 0 600 := GM.z0 hG0 (by rw [hT_this_a]; decide) (i := 0) (k := 0) (by decide) rfl
                have uh_66 := h_66.1
                have vh_66 := h_66.2
                refine pt_i hx hb hK hP hD hS hL_this_a hK_this_a hN_this_a (rg_in h_65 (by decide)) dX12_level_129 (fun r_67 H locs er_67 hP hD hS => ?_)
                have hG := GM.wz hG hT_this_a (by decide) er_67 (zn_LEVEL (c := x_32.toNatClampNeg) (k := 4) (by have z_i := clampE x_64; have z_0 := clampE x_32; omega) (rg_cl1 h_37 (by decide)) (by decide)) rfl (rg_w h_66 (by decide)) (by decide)
                have h_68 : r_67 this_a 3 = x_32 := cz_ne er_67 (zn_LEVEL (c := x_32.toNatClampNeg) (k := 4) (by have z_i := clampE x_64; have z_0 := clampE x_32; omega) (rg_cl1 h_37 (by decide)) (by decide)) (by decide) (by decide) h_62
                have tt_69 : (r_67 this_a 3).toInt = (r_61 this_a 3).toInt := congrArg Int32.toInt (cz_ne (j := 3) er_67 (zn_LEVEL (c := x_32.toNatClampNeg) (k := 4) (by have z_i := clampE x_64; have z_0 := clampE x_32; omega) (rg_cl1 h_37 (by decide)) (by decide)) (by decide) (by decide) rfl)
                refine lv_aload_n hx hb dX12_level_130 rfl (lv_at hl 1 rfl) ?_
                refine pg_f (v := .ref this_a) (C := RX12) (T := TX12) (N := 31) hx hb hts (tw_i inlX12) hown hK hP hL_this hK_this (by decide) rfl 0 (by decide) (hts _ (tw_c tw_176)) (pq_hv rfl hR_this_a) dX12_level_131 ?_
                refine lv_iconst (v := 3) hx hb dX12_level_134 (by decide) ?_
                refine lv_dup2_11 hx hb dX12_level_135 rfl rfl ?_
                refine pl_i hx hb hK hP hL_this_a hK_this_a hN_this_a (vp_in_iff.mpr (by decide)) dX12_level_136 ?_
                refine lv_tov x_32 h_68 ?_
                refine lv_iconst (v := 1) hx hb dX12_level_137 (by decide) ?_
                refine lv_iadd hx hb dX12_level_138 ?_
                refine lv_topi (fun x_70 ex_70 => ?_)
                have h_71 : rg x_70 1 200 := rg_of_eq ex_70 (rg_add h_37 (rg_k (1 : Int32) 1 rfl) (by decide))
                have uh_71 := h_71.1
                have vh_71 := h_71.2
                have tx_70 : (x_70).toInt = (x_32).toInt + 1 := by rw [ex_70]; exact i_add_rg (a2 := (x_32).toInt) (b2 := 1) rfl rfl h_37 (rg_k (1 : Int32) 1 rfl) (by decide)
                refine pt_i hx hb hK hP hD hS hL_this_a hK_this_a hN_this_a (vp_in_iff.mpr (by decide)) dX12_level_139 (fun r_72 H locs er_72 hP hD hS => ?_)
                have hG := GM.wz hG hT_this_a (by decide) er_72 (show zn ((3 : Int32)).toNatClampNeg = 3 from by decide) rfl (rg_w h_71 (by decide)) (by decide)
                have h_73 : r_72 this_a 3 = x_70 := cz_eq er_72
                have tt_74 : (r_72 this_a 3).toInt = (x_70).toInt := congrArg Int32.toInt (show r_72 this_a 3 = x_70 from cz_eq er_72)
                refine lv_aload_n hx hb dX12_level_140 rfl (lv_at hl 1 rfl) ?_
                refine pg_f (v := .ref this_a) (C := RX12) (T := TX12) (N := 31) hx hb hts (tw_i inlX12) hown hK hP hL_this hK_this (by decide) rfl 0 (by decide) (hts _ (tw_c tw_176)) (pq_hv rfl hR_this_a) dX12_level_141 ?_
                refine lv_iconst (v := 3) hx hb dX12_level_144 (by decide) ?_
                refine pl_i hx hb hK hP hL_this_a hK_this_a hN_this_a (vp_in_iff.mpr (by decide)) dX12_level_145 ?_
                refine lv_tov x_70 h_73 ?_
                subst hQ
                exact W.iret (v := x_70) hx hb hr (fun t1 ht hW => ⟨⟨x_70, (σ, I, J, r_72, rj, rq), rfl, ⟨r_72, rfl, hG, (by have k0 : (-1 : Int32).toInt = -1 := rfl; omega), (rg_w h_71 (by decide))⟩, by rw [ht]; exact hP, va_K.moved hW.alike hK, hD⟩, hS.F ht⟩) hS.2.2 dX12_level_146
              · have tc_75 : (a2).toInt ≠ 0 := fun q => c_59 (Int32.toInt_inj.mp q)
                exact (rg_empty (rg_ne c_59 h_31 0 rfl (lo := 1) (hi := (-1)) (by decide)) (by decide)).elim
            · have tc_76 : (a2).toInt ≠ 0 := fun q => c_52 (Int32.toInt_inj.mp q)
              exact (rg_empty (rg_ne c_52 h_31 0 rfl (lo := 1) (hi := (-1)) (by decide)) (by decide)).elim
          · have tc_77 : (x_32).toInt = 200 := congrArg Int32.toInt c_35
            have h_78 : rg x_32 200 200 := rg_and h_33 (rg_of_eq c_35 (rg_k (200 : Int32) 200 rfl)) (by decide)
            have uh_78 := h_78.1
            have vh_78 := h_78.2
            refine lv_iconst (v := (-1)) hx hb dX12_level_44 (by decide) ?_
            subst hQ
            exact W.iret (v := (-1)) hx hb hr (fun t1 ht hW => ⟨⟨(-1), (σ, I, J, ri, rj, rq), rfl, ⟨ri, rfl, hG, (by have k0 : (-1 : Int32).toInt = -1 := rfl; omega), (rg_w (rg_k (-1 : Int32) (-1) rfl) (by decide))⟩, by rw [ht]; exact hP, va_K.moved hW.alike hK, hD⟩, hS.F ht⟩) hS.2.2 dX12_level_45
        · have tc_79 : (a2).toInt ≠ 0 := fun q => c_29 (Int32.toInt_inj.mp q)
          have h_80 : rg a2 1 1 := rg_ne c_29 h_a2 0 rfl (by decide)
          have uh_80 := h_80.1
          have vh_80 := h_80.2
          refine lv_iload hx hb dX12_level_18 (lv_at hl 4 rfl) ?_
          refine lv_sipush (v := (-1000)) hx hb dX12_level_20 (by decide) ?_
          refine lv_sipush (v := 5000) hx hb dX12_level_23 (by decide) ?_
          refine pk_i (va_runS (As := [.int a3, .int (-1000), .int 5000]) (rest := []) ⟨hx, hb, hml, hown, hts⟩ (s_X12_isIn_v l D t σ I J ri rj rq H.size tg hSH hG.1 a3 (-1000 : Int32) (5000 : Int32)) (va_cwS 3 hts (tw_S tw_235 tw_236 tw_5 tw_237) rfl rfl rfl cd_yX12_isIn_3 ⟨Nat.le_of_ble_eq_true rfl, Nat.le_of_ble_eq_true rfl⟩) ⟨pq_blind, pq_pre hK hN hP hD⟩ rfl rfl hl.1 rfl (lv_room (Nat.le_of_ble_eq_true rfl)) dX12_level_26 ⟨Nat.le_of_ble_eq_true rfl, Nat.le_of_ble_eq_true rfl⟩) hD hS hA (fun x_81 σ1 μ1 H locs hw_82 hP hD hS => ?_)
          obtain ⟨hu_83, hr_85⟩ := hw_82
          obtain ⟨hu_83a, hu_83b⟩ := Prod.mk.inj hu_83
          rw [hu_83a, hu_83b] at hP hD
          have h_86 : rg x_81 0 1 := by rcases hr_85 with ⟨q, -⟩ | ⟨q, -⟩ <;> rw [q] <;> exact ⟨by decide, by decide⟩
          have uh_86 := h_86.1
          have vh_86 := h_86.2
          refine lv_if_eq (tgt := 44) hx hb dX12_level_29 (by decide) (fun c_87 => ?_) (fun c_87 => ?_)
          · have f_88 := (hr_85.resolve_left (fun q => absurd (q.1.symm.trans c_87) (by decide))).2
            have zk_89 : (-1000 : Int32).toInt = -1000 := rfl
            have zk_90 : (5000 : Int32).toInt = 5000 := rfl
            have tc_91 : (x_81).toInt = 0 := congrArg Int32.toInt c_87
            have h_92 : rg x_81 0 0 := rg_and h_86 (rg_of_eq c_87 (rg_k (0 : Int32) 0 rfl)) (by decide)
            have uh_92 := h_92.1
            have vh_92 := h_92.2
            refine lv_iconst (v := (-1)) hx hb dX12_level_44 (by decide) ?_
            subst hQ
            exact W.iret (v := (-1)) hx hb hr (fun t1 ht hW => ⟨⟨(-1), (σ, I, J, ri, rj, rq), rfl, ⟨ri, rfl, hG, (by have k0 : (-1 : Int32).toInt = -1 := rfl; omega), (rg_w (rg_k (-1 : Int32) (-1) rfl) (by decide))⟩, by rw [ht]; exact hP, va_K.moved hW.alike hK, hD⟩, hS.F ht⟩) hS.2.2 dX12_level_45
          · obtain ⟨f_93, f_94⟩ := (hr_85.resolve_right (fun q => c_87 q.1)).2
            have tc_95 : (-1000) ≤ (a3).toInt := Int32.le_iff_toInt_le.mp f_93
            have h_96 : rg a3 (-1000) 2147483647 := rg_le2 f_93 (rg_k (-1000 : Int32) (-1000) rfl) (rg_full _) (by decide)
            have uh_96 := h_96.1
            have vh_96 := h_96.2
            have tc_97 : (a3).toInt ≤ 5000 := Int32.le_iff_toInt_le.mp f_94
            have h_98 : rg a3 (-1000) 5000 := rg_le1 f_94 h_96 (rg_k (5000 : Int32) 5000 rfl) (by decide)
            have uh_98 := h_98.1
            have vh_98 := h_98.2
            have tc_99 : (x_81).toInt ≠ 0 := fun q => c_87 (Int32.toInt_inj.mp q)
            have h_100 : rg x_81 1 1 := rg_ne c_87 h_86 0 rfl (by decide)
            have uh_100 := h_100.1
            have vh_100 := h_100.2
            refine lv_aload_n hx hb dX12_level_32 rfl (lv_at hl 0 rfl) ?_
            refine pg_f (v := .ref this_a) (C := RX12) (T := TX12) (N := 31) hx hb hts (tw_i inlX12) hown hK hP hL_this hK_this (by decide) rfl 0 (by decide) (hts _ (tw_c tw_176)) (pq_hv rfl hR_this_a) dX12_level_33 ?_
            refine lv_iconst (v := 3) hx hb dX12_level_36 (by decide) ?_
            refine pl_i hx hb hK hP hL_this_a hK_this_a hN_this_a (vp_in_iff.mpr (by decide)) dX12_level_37 ?_
            refine lv_topi (fun x_101 ex_101 => ?_)
            have ex_101 : x_101 = ri this_a ((3 : Int32)).toNatClampNeg := ex_101
            have h_102 : rg x_101 0 200 := rg_of_eq ex_101 (GM.z hG (by rw [hT_this_a]; decide) (show zn ((3 : Int32)).toNatClampNeg = 3 from by decide) rfl)
            have uh_102 := h_102.1
            have vh_102 := h_102.2
            have tt_103 : (ri this_a 3).toInt = (x_101).toInt := congrArg Int32.toInt (show ri this_a 3 = x_101 from ex_101.symm)
            refine lv_sipush (v := 200) hx hb dX12_level_38 (by decide) ?_
            refine lv_icmp_ne (tgt := 46) hx hb dX12_level_41 (by decide) (fun c_104 => ?_) (fun c_104 => ?_)
            · have tc_105 : (x_101).toInt ≠ 200 := fun q => c_104 (Int32.toInt_inj.mp q)
              have h_106 : rg x_101 0 199 := rg_ne c_104 h_102 200 rfl (by decide)
              have uh_106 := h_106.1
              have vh_106 := h_106.2
              refine lv_sipush (v := 1220) hx hb dX12_level_46 (by decide) ?_
              refine lv_iconst (v := 5) hx hb dX12_level_49 (by decide) ?_
              refine lv_aload_n hx hb dX12_level_50 rfl (lv_at hl 0 rfl) ?_
              refine pg_f (v := .ref this_a) (C := RX12) (T := TX12) (N := 31) hx hb hts (tw_i inlX12) hown hK hP hL_this hK_this (by decide) rfl 0 (by decide) (hts _ (tw_c tw_176)) (pq_hv rfl hR_this_a) dX12_level_51 ?_
              refine lv_iconst (v := 3) hx hb dX12_level_54 (by decide) ?_
              refine pl_i hx hb hK hP hL_this_a hK_this_a hN_this_a (vp_in_iff.mpr (by decide)) dX12_level_55 ?_
              refine lv_tov x_101 ex_101.symm ?_
              refine lv_imul hx hb dX12_level_56 ?_
              refine lv_topi (fun x_107 ex_107 => ?_)
              have h_108 : rg x_107 0 995 := rg_of_eq ex_107 (rg_mul (rg_k (5 : Int32) 5 rfl) h_106 (by decide))
              have uh_108 := h_108.1
              have vh_108 := h_108.2
              have tx_107 : (x_107).toInt = 5 * (x_101).toInt := by rw [ex_107]; exact i_mul_rg (a2 := 5) (b2 := (x_101).toInt) rfl rfl (rg_k (5 : Int32) 5 rfl) h_106 (by decide)
              refine lv_iadd hx hb dX12_level_57 ?_
              refine lv_topi (fun x_109 ex_109 => ?_)
              have h_110 : rg x_109 1220 2215 := rg_of_eq ex_109 (rg_add (rg_k (1220 : Int32) 1220 rfl) h_108 (by decide))
              have uh_110 := h_110.1
              have vh_110 := h_110.2
              have tx_109 : (x_109).toInt = 1220 + (x_107).toInt := by rw [ex_109]; exact i_add_rg (a2 := 1220) (b2 := (x_107).toInt) rfl rfl (rg_k (1220 : Int32) 1220 rfl) h_108 (by decide)
              refine lv_istore (lv' := [(5, .int x_109), (0, .ref this), (1, .int a0), (2, .int a1), (3, .int a2), (4, .int a3)]) hx hb dX12_level_58 hl (by decide) rfl (fun ls hl => ?_)
              refine lv_aload_n hx hb dX12_level_60 rfl (lv_at hl 1 rfl) ?_
              refine pg_f (v := .ref this_a) (C := RX12) (T := TX12) (N := 31) hx hb hts (tw_i inlX12) hown hK hP hL_this hK_this (by decide) rfl 0 (by decide) (hts _ (tw_c tw_176)) (pq_hv rfl hR_this_a) dX12_level_61 ?_
              refine lv_iload hx hb dX12_level_64 (lv_at hl 0 rfl) ?_
              refine lv_iload_n hx hb dX12_level_66 rfl (lv_at hl 2 rfl) ?_
              refine pt_i hx hb hK hP hD hS hL_this_a hK_this_a hN_this_a (rg_in h_110 (by decide)) dX12_level_67 (fun r_111 H locs er_111 hP hD hS => ?_)
              have hG := GM.wz hG hT_this_a (by decide) er_111 (zn_LEVEL (c := x_101.toNatClampNeg) (k := 0) (by have z_i := clampE x_109; have z_0 := clampE x_101; omega) (rg_cl1 h_106 (by decide)) (by decide)) rfl (rg_w f_11 (by decide)) (by decide)
              have h_112 : r_111 this_a 3 = x_101 := cz_ne er_111 (zn_LEVEL (c := x_101.toNatClampNeg) (k := 0) (by have z_i := clampE x_109; have z_0 := clampE x_101; omega) (rg_cl1 h_106 (by decide)) (by decide)) (by decide) (by decide) ex_101.symm
              have tt_113 : (r_111 this_a 3).toInt = (ri this_a 3).toInt := congrArg Int32.toInt (cz_ne (j := 3) er_111 (zn_LEVEL (c := x_101.toNatClampNeg) (k := 0) (by have z_i := clampE x_109; have z_0 := clampE x_101; omega) (rg_cl1 h_106 (by decide)) (by decide)) (by decide) (by decide) rfl)
              refine lv_aload_n hx hb dX12_level_68 rfl (lv_at hl 1 rfl) ?_
              refine pg_f (v := .ref this_a) (C := RX12) (T := TX12) (N := 31) hx hb hts (tw_i inlX12) hown hK hP hL_this hK_this (by decide) rfl 0 (by decide) (hts _ (tw_c tw_176)) (pq_hv rfl hR_this_a) dX12_level_69 ?_
              refine lv_iload hx hb dX12_level_72 (lv_at hl 0 rfl) ?_
              refine lv_iconst (v := 1) hx hb dX12_level_74 (by decide) ?_
              refine lv_iadd hx hb dX12_level_75 ?_
              refine lv_topi (fun x_114 ex_114 => ?_)
              have h_115 : rg x_114 1221 2216 := rg_of_eq ex_114 (rg_add h_110 (rg_k (1 : Int32) 1 rfl) (by decide))
              have uh_115 := h_115.1
              have vh_115 := h_115.2
              have tx_114 : (x_114).toInt = (x_109).toInt + 1 := by rw [ex_114]; exact i_add_rg (a2 := (x_109).toInt) (b2 := 1) rfl rfl h_110 (rg_k (1 : Int32) 1 rfl) (by decide)
              refine lv_iload_n hx hb dX12_level_76 rfl (lv_at hl 3 rfl) ?_
              refine pt_i hx hb hK hP hD hS hL_this_a hK_this_a hN_this_a (rg_in h_115 (by decide)) dX12_level_77 (fun r_116 H locs er_116 hP hD hS => ?_)
              have hG := GM.wz hG hT_this_a (by decide) er_116 (zn_LEVEL (c := x_101.toNatClampNeg) (k := 1) (by have z_i := clampE x_114; have z_0 := clampE x_101; omega) (rg_cl1 h_106 (by decide)) (by decide)) rfl (rg_w f_25 (by decide)) (by decide)
              have h_117 : r_116 this_a 3 = x_101 := cz_ne er_116 (zn_LEVEL (c := x_101.toNatClampNeg) (k := 1) (by have z_i := clampE x_114; have z_0 := clampE x_101; omega) (rg_cl1 h_106 (by decide)) (by decide)) (by decide) (by decide) h_112
              have tt_118 : (r_116 this_a 3).toInt = (r_111 this_a 3).toInt := congrArg Int32.toInt (cz_ne (j := 3) er_116 (zn_LEVEL (c := x_101.toNatClampNeg) (k := 1) (by have z_i := clampE x_114; have z_0 := clampE x_101; omega) (rg_cl1 h_106 (by decide)) (by decide)) (by decide) (by decide) rfl)
              refine lv_aload_n hx hb dX12_level_78 rfl (lv_at hl 1 rfl) ?_
              refine pg_f (v := .ref this_a) (C := RX12) (T := TX12) (N := 31) hx hb hts (tw_i inlX12) hown hK hP hL_this hK_this (by decide) rfl 0 (by decide) (hts _ (tw_c tw_176)) (pq_hv rfl hR_this_a) dX12_level_79 ?_
              refine lv_iload hx hb dX12_level_82 (lv_at hl 0 rfl) ?_
              refine lv_iconst (v := 2) hx hb dX12_level_84 (by decide) ?_
              refine lv_iadd hx hb dX12_level_85 ?_
              refine lv_topi (fun x_119 ex_119 => ?_)
              have h_120 : rg x_119 1222 2217 := rg_of_eq ex_119 (rg_add h_110 (rg_k (2 : Int32) 2 rfl) (by decide))
              have uh_120 := h_120.1
              have vh_120 := h_120.2
              have tx_119 : (x_119).toInt = (x_109).toInt + 2 := by rw [ex_119]; exact i_add_rg (a2 := (x_109).toInt) (b2 := 2) rfl rfl h_110 (rg_k (2 : Int32) 2 rfl) (by decide)
              refine lv_iload_n hx hb dX12_level_86 rfl (lv_at hl 4 rfl) ?_
              refine lv_if_eq (tgt := 94) hx hb dX12_level_87 (by decide) (fun c_121 => ?_) (fun c_121 => ?_)
              · have tc_122 : (a2).toInt = 0 := congrArg Int32.toInt c_121
                exact (rg_empty (rg_and h_80 (rg_of_eq c_121 (rg_k (0 : Int32) 0 rfl)) (lo := 1) (hi := 0) (by decide)) (by decide)).elim
              · have tc_123 : (a2).toInt ≠ 0 := fun q => c_121 (Int32.toInt_inj.mp q)
                refine lv_iconst (v := 1) hx hb dX12_level_90 (by decide) ?_
                refine lv_goto (tgt := 95) hx hb dX12_level_91 (by decide) ?_
                refine pt_i hx hb hK hP hD hS hL_this_a hK_this_a hN_this_a (rg_in h_120 (by decide)) dX12_level_95 (fun r_124 H locs er_124 hP hD hS => ?_)
                have hG := GM.wz hG hT_this_a (by decide) er_124 (zn_LEVEL (c := x_101.toNatClampNeg) (k := 2) (by have z_i := clampE x_119; have z_0 := clampE x_101; omega) (rg_cl1 h_106 (by decide)) (by decide)) rfl (rg_w (rg_k (1 : Int32) 1 rfl) (by decide)) (by decide)
                have h_125 : r_124 this_a 3 = x_101 := cz_ne er_124 (zn_LEVEL (c := x_101.toNatClampNeg) (k := 2) (by have z_i := clampE x_119; have z_0 := clampE x_101; omega) (rg_cl1 h_106 (by decide)) (by decide)) (by decide) (by decide) h_117
                have tt_126 : (r_124 this_a 3).toInt = (r_116 this_a 3).toInt := congrArg Int32.toInt (cz_ne (j := 3) er_124 (zn_LEVEL (c := x_101.toNatClampNeg) (k := 2) (by have z_i := clampE x_119; have z_0 := clampE x_101; omega) (rg_cl1 h_106 (by decide)) (by decide)) (by decide) (by decide) rfl)
                refine lv_aload_n hx hb dX12_level_96 rfl (lv_at hl 1 rfl) ?_
                refine pg_f (v := .ref this_a) (C := RX12) (T := TX12) (N := 31) hx hb hts (tw_i inlX12) hown hK hP hL_this hK_this (by decide) rfl 0 (by decide) (hts _ (tw_c tw_176)) (pq_hv rfl hR_this_a) dX12_level_97 ?_
                refine lv_iload hx hb dX12_level_100 (lv_at hl 0 rfl) ?_
                refine lv_iconst (v := 3) hx hb dX12_level_102 (by decide) ?_
                refine lv_iadd hx hb dX12_level_103 ?_
                refine lv_topi (fun x_127 ex_127 => ?_)
                have h_128 : rg x_127 1223 2218 := rg_of_eq ex_127 (rg_add h_110 (rg_k (3 : Int32) 3 rfl) (by decide))
                have uh_128 := h_128.1
                have vh_128 := h_128.2
                have tx_127 : (x_127).toInt = (x_109).toInt + 3 := by rw [ex_127]; exact i_add_rg (a2 := (x_109).toInt) (b2 := 3) rfl rfl h_110 (rg_k (3 : Int32) 3 rfl) (by decide)
                refine lv_iload_n hx hb dX12_level_104 rfl (lv_at hl 4 rfl) ?_
                refine lv_if_eq (tgt := 113) hx hb dX12_level_105 (by decide) (fun c_129 => ?_) (fun c_129 => ?_)
                · have tc_130 : (a2).toInt = 0 := congrArg Int32.toInt c_129
                  exact (rg_empty (rg_and h_80 (rg_of_eq c_129 (rg_k (0 : Int32) 0 rfl)) (lo := 1) (hi := 0) (by decide)) (by decide)).elim
                · have tc_131 : (a2).toInt ≠ 0 := fun q => c_129 (Int32.toInt_inj.mp q)
                  refine lv_iload hx hb dX12_level_108 (lv_at hl 5 rfl) ?_
                  refine lv_goto (tgt := 114) hx hb dX12_level_110 (by decide) ?_
                  refine pt_i hx hb hK hP hD hS hL_this_a hK_this_a hN_this_a (rg_in h_128 (by decide)) dX12_level_114 (fun r_132 H locs er_132 hP hD hS => ?_)
                  have hG := GM.wz hG hT_this_a (by decide) er_132 (zn_LEVEL (c := x_101.toNatClampNeg) (k := 3) (by have z_i := clampE x_127; have z_0 := clampE x_101; omega) (rg_cl1 h_106 (by decide)) (by decide)) rfl (rg_w h_98 (by decide)) (by decide)
                  have h_133 : r_132 this_a 3 = x_101 := cz_ne er_132 (zn_LEVEL (c := x_101.toNatClampNeg) (k := 3) (by have z_i := clampE x_127; have z_0 := clampE x_101; omega) (rg_cl1 h_106 (by decide)) (by decide)) (by decide) (by decide) h_125
                  have tt_134 : (r_132 this_a 3).toInt = (r_124 this_a 3).toInt := congrArg Int32.toInt (cz_ne (j := 3) er_132 (zn_LEVEL (c := x_101.toNatClampNeg) (k := 3) (by have z_i := clampE x_127; have z_0 := clampE x_101; omega) (rg_cl1 h_106 (by decide)) (by decide)) (by decide) (by decide) rfl)
                  refine lv_aload_n hx hb dX12_level_115 rfl (lv_at hl 1 rfl) ?_
                  refine pg_f (v := .ref this_a) (C := RX12) (T := TX12) (N := 31) hx hb hts (tw_i inlX12) hown hK hP hL_this hK_this (by decide) rfl 0 (by decide) (hts _ (tw_c tw_176)) (pq_hv rfl hR_this_a) dX12_level_116 ?_
                  refine lv_iload hx hb dX12_level_119 (lv_at hl 0 rfl) ?_
                  refine lv_iconst (v := 4) hx hb dX12_level_121 (by decide) ?_
                  refine lv_iadd hx hb dX12_level_122 ?_
                  refine lv_topi (fun x_135 ex_135 => ?_)
                  have h_136 : rg x_135 1224 2219 := rg_of_eq ex_135 (rg_add h_110 (rg_k (4 : Int32) 4 rfl) (by decide))
                  have uh_136 := h_136.1
                  have vh_136 := h_136.2
                  have tx_135 : (x_135).toInt = (x_109).toInt + 4 := by rw [ex_135]; exact i_add_rg (a2 := (x_109).toInt) (b2 := 4) rfl rfl h_110 (rg_k (4 : Int32) 4 rfl) (by decide)
                  refine lv_aload_n hx hb dX12_level_123 rfl (lv_at hl 1 rfl) ?_
                  refine pg_f (v := .ref this_a) (C := RX12) (T := TX12) (N := 31) hx hb hts (tw_i inlX12) hown hK hP hL_this hK_this (by decide) rfl 0 (by decide) (hts _ (tw_c tw_176)) (pq_hv rfl hR_this_a) dX12_level_124 ?_
                  refine lv_iconst (v := 0) hx hb dX12_level_127 (by decide) ?_
                  refine pl_i hx hb hK hP hL_this_a hK_this_a hN_this_a (vp_in_iff.mpr (by decide)) dX12_level_128 ?_
                  refine lv_tov (ri this_a 0) (hG.2.2.1 this_a hT_this_a 0 (by decide) (by decide)) ?_
                  have h_137 : rg (ri this_a 0) 0 600 := GM.z0 hG0 (by rw [hT_this_a]; decide) (i := 0) (k := 0) (by decide) rfl
                  have uh_137 := h_137.1
                  have vh_137 := h_137.2
                  refine pt_i hx hb hK hP hD hS hL_this_a hK_this_a hN_this_a (rg_in h_136 (by decide)) dX12_level_129 (fun r_138 H locs er_138 hP hD hS => ?_)
                  have hG := GM.wz hG hT_this_a (by decide) er_138 (zn_LEVEL (c := x_101.toNatClampNeg) (k := 4) (by have z_i := clampE x_135; have z_0 := clampE x_101; omega) (rg_cl1 h_106 (by decide)) (by decide)) rfl (rg_w h_137 (by decide)) (by decide)
                  have h_139 : r_138 this_a 3 = x_101 := cz_ne er_138 (zn_LEVEL (c := x_101.toNatClampNeg) (k := 4) (by have z_i := clampE x_135; have z_0 := clampE x_101; omega) (rg_cl1 h_106 (by decide)) (by decide)) (by decide) (by decide) h_133
                  have tt_140 : (r_138 this_a 3).toInt = (r_132 this_a 3).toInt := congrArg Int32.toInt (cz_ne (j := 3) er_138 (zn_LEVEL (c := x_101.toNatClampNeg) (k := 4) (by have z_i := clampE x_135; have z_0 := clampE x_101; omega) (rg_cl1 h_106 (by decide)) (by decide)) (by decide) (by decide) rfl)
                  refine lv_aload_n hx hb dX12_level_130 rfl (lv_at hl 1 rfl) ?_
                  refine pg_f (v := .ref this_a) (C := RX12) (T := TX12) (N := 31) hx hb hts (tw_i inlX12) hown hK hP hL_this hK_this (by decide) rfl 0 (by decide) (hts _ (tw_c tw_176)) (pq_hv rfl hR_this_a) dX12_level_131 ?_
                  refine lv_iconst (v := 3) hx hb dX12_level_134 (by decide) ?_
                  refine lv_dup2_11 hx hb dX12_level_135 rfl rfl ?_
                  refine pl_i hx hb hK hP hL_this_a hK_this_a hN_this_a (vp_in_iff.mpr (by decide)) dX12_level_136 ?_
                  refine lv_tov x_101 h_139 ?_
                  refine lv_iconst (v := 1) hx hb dX12_level_137 (by decide) ?_
                  refine lv_iadd hx hb dX12_level_138 ?_
                  refine lv_topi (fun x_141 ex_141 => ?_)
                  have h_142 : rg x_141 1 200 := rg_of_eq ex_141 (rg_add h_106 (rg_k (1 : Int32) 1 rfl) (by decide))
                  have uh_142 := h_142.1
                  have vh_142 := h_142.2
                  have tx_141 : (x_141).toInt = (x_101).toInt + 1 := by rw [ex_141]; exact i_add_rg (a2 := (x_101).toInt) (b2 := 1) rfl rfl h_106 (rg_k (1 : Int32) 1 rfl) (by decide)
                  refine pt_i hx hb hK hP hD hS hL_this_a hK_this_a hN_this_a (vp_in_iff.mpr (by decide)) dX12_level_139 (fun r_143 H locs er_143 hP hD hS => ?_)
                  have hG := GM.wz hG hT_this_a (by decide) er_143 (show zn ((3 : Int32)).toNatClampNeg = 3 from by decide) rfl (rg_w h_142 (by decide)) (by decide)
                  have h_144 : r_143 this_a 3 = x_141 := cz_eq er_143
                  have tt_145 : (r_143 this_a 3).toInt = (x_141).toInt := congrArg Int32.toInt (show r_143 this_a 3 = x_141 from cz_eq er_143)
                  refine lv_aload_n hx hb dX12_level_140 rfl (lv_at hl 1 rfl) ?_
                  refine pg_f (v := .ref this_a) (C := RX12) (T := TX12) (N := 31) hx hb hts (tw_i inlX12) hown hK hP hL_this hK_this (by decide) rfl 0 (by decide) (hts _ (tw_c tw_176)) (pq_hv rfl hR_this_a) dX12_level_141 ?_
                  refine lv_iconst (v := 3) hx hb dX12_level_144 (by decide) ?_
                  refine pl_i hx hb hK hP hL_this_a hK_this_a hN_this_a (vp_in_iff.mpr (by decide)) dX12_level_145 ?_
                  refine lv_tov x_141 h_144 ?_
                  subst hQ
                  exact W.iret (v := x_141) hx hb hr (fun t1 ht hW => ⟨⟨x_141, (σ, I, J, r_143, rj, rq), rfl, ⟨r_143, rfl, hG, (by have k0 : (-1 : Int32).toInt = -1 := rfl; omega), (rg_w h_142 (by decide))⟩, by rw [ht]; exact hP, va_K.moved hW.alike hK, hD⟩, hS.F ht⟩) hS.2.2 dX12_level_146
            · have tc_146 : (x_101).toInt = 200 := congrArg Int32.toInt c_104
              have h_147 : rg x_101 200 200 := rg_and h_102 (rg_of_eq c_104 (rg_k (200 : Int32) 200 rfl)) (by decide)
              have uh_147 := h_147.1
              have vh_147 := h_147.2
              refine lv_iconst (v := (-1)) hx hb dX12_level_44 (by decide) ?_
              subst hQ
              exact W.iret (v := (-1)) hx hb hr (fun t1 ht hW => ⟨⟨(-1), (σ, I, J, ri, rj, rq), rfl, ⟨ri, rfl, hG, (by have k0 : (-1 : Int32).toInt = -1 := rfl; omega), (rg_w (rg_k (-1 : Int32) (-1) rfl) (by decide))⟩, by rw [ht]; exact hP, va_K.moved hW.alike hK, hD⟩, hS.F ht⟩) hS.2.2 dX12_level_45
  exact go _ _ _ hP hD hS hl

set_option maxHeartbeats 4000000 in
set_option maxRecDepth 100000 in
theorem s_X12_lot_w (l : Launch) (D : va_G) (t : pq_T) (σ : pq_S) (I : Nat → Nat → Int32) (J : Nat → Nat → Int64) (ri : Nat → Nat → Int32) (rj : Nat → Nat → Int64) (rq : Nat → Nat → Option Nat) (sz : Nat) (tg : Nat → Nat) (hSH : SH σ tg) (hG0 : GT tg I ri) (this : Nat) (a0 : Int32) (hL_this : this ∈ σ.1) (hK_this : σ.2.1 this = 12) (this_a : Nat) (hR_this_a : σ.2.2.1 384 this = some this_a) (hL_this_a : this_a ∈ σ.1) (hK_this_a : σ.2.1 this_a = 13) (hN_this_a : σ.2.2.2 this_a = 12720) (hT_this_a : tg this_a = 384) : MetI l yX12_lot (wa yX12_lot cX12_lot 2 (some .int)) ({ frames := 1, cells := 0, slots := 0, locals := 22 }) [.ref this, .int a0] D t σ (I, J, ri, rj, rq) sz 0 0 (fun (r : Int32) (u : pq_S × pq_M) => ∃ ri' : Nat → Nat → Int32, u = (σ, I, J, ri', rj, rq) ∧ GM [1004] tg σ I ri I ri' rq ∧ ((((0 ≤ a0.toInt ∧ a0.toInt ≤ 60) ∧ (ri this_a 4).toInt < 5) ∧ r.toInt = (ri this_a 4).toInt ∧ (ri' this_a 4).toInt = (ri this_a 4).toInt + 1) ∨ (¬ ((0 ≤ a0.toInt ∧ a0.toInt ≤ 60) ∧ (ri this_a 4).toInt < 5) ∧ r.toInt = -1 ∧ (ri' this_a 4).toInt = (ri this_a 4).toInt)) ∧ rg r (-1) 4) := by
  refine Met.ofW (cc := cX12_lot) (maxL := 2) (ret := (some .int)) (by decide) rfl ?_
  intro p e s m args below meth c s₁ B hml hv
  obtain ⟨rfl, hsz, hP, hK, hD0, hN⟩ := hv
  have hx := B.exec
  have hb := B.bytes
  have hr := B.returns
  have hts := atoms_spec (ws := (wa yX12_lot cX12_lot 2 (some .int))) B.pre
  have hown : s.vm.findClass RX12 = some m.cls := findClass_of_methodNamed B.named
  have hlocks := B.notSynchronized
  subst hsz
  have hD : va_D (pq_B t σ (I, J, ri, rj, rq) s.heap.size) (pq_P t σ (I, J, ri, rj, rq)) := hD0.self
  generalize hAe : pq_B t σ (I, J, ri, rj, rq) s.heap.size = A at hD ⊢
  have hA : ∀ q : Nat, s.heap.size ≤ q → A q := fun q h => by rw [← hAe]; exact Or.inr h
  have hS : va_S A s.heap s.heap [] := va_S.rf
  have hG : GM [1004] tg σ I ri I ri rq := ⟨hG0, fun _ _ _ => rfl, fun _ _ _ _ _ => rfl, fun _ _ _ _ _ _ => rfl⟩
  have hl := lv_entry ([.ref this, .int a0]) (n := 2) (Nat.le_of_ble_eq_true rfl)
  rw [lg_entry_eq]
  generalize (lg_sl ([.ref this, .int a0]) ++ List.replicate (2 - (lg_sl ([.ref this, .int a0])).length) Slot.unset).toArray = ls at hl ⊢
  have hl : lv_has ls 2 [(0, .ref this), (1, .int a0)] := hl
  refine q_gen (fun Q hQ => ?_)
  have go : ∀ (H : Heap) (locs : List Loc) (ls : Array Slot), va_P D vwCl (pq_P t σ (I, J, ri, rj, rq)) H → va_D A (pq_P t σ (I, J, ri, rj, rq)) → va_S A s.heap H locs → lv_has ls 2 [(0, .ref this), (1, .int a0)] → W p l e ({ frames := 1, cells := 0, slots := 0, locals := 22 } : Room) s m (List.toArray ([.ref this, .int a0] : List Value)) below meth c H locs 0 0 Q (F0 m 0 ls []) := by
    intro H locs ls hP hD hS hl
    refine lv_iload_n hx hb dX12_lot_0 rfl (lv_at hl 1 rfl) ?_
    refine lv_iconst (v := 0) hx hb dX12_lot_1 (by decide) ?_
    refine lv_bipush (v := 60) hx hb dX12_lot_2 (by decide) ?_
    refine pk_i (va_runS (As := [.int a0, .int 0, .int 60]) (rest := []) ⟨hx, hb, hml, hown, hts⟩ (s_X12_isIn_v l D t σ I J ri rj rq H.size tg hSH hG.1 a0 (0 : Int32) (60 : Int32)) (va_cwS 3 hts (tw_S tw_235 tw_236 tw_5 tw_237) rfl rfl rfl cd_yX12_isIn_3 ⟨Nat.le_of_ble_eq_true rfl, Nat.le_of_ble_eq_true rfl⟩) ⟨pq_blind, pq_pre hK hN hP hD⟩ rfl rfl hl.1 rfl (lv_room (Nat.le_of_ble_eq_true rfl)) dX12_lot_4 ⟨Nat.le_of_ble_eq_true rfl, Nat.le_of_ble_eq_true rfl⟩) hD hS hA (fun x_1 σ1 μ1 H locs hw_2 hP hD hS => ?_)
    obtain ⟨hu_3, hr_5⟩ := hw_2
    obtain ⟨hu_3a, hu_3b⟩ := Prod.mk.inj hu_3
    rw [hu_3a, hu_3b] at hP hD
    have h_6 : rg x_1 0 1 := by rcases hr_5 with ⟨q, -⟩ | ⟨q, -⟩ <;> rw [q] <;> exact ⟨by decide, by decide⟩
    have uh_6 := h_6.1
    have vh_6 := h_6.2
    refine lv_if_eq (tgt := 20) hx hb dX12_lot_7 (by decide) (fun c_7 => ?_) (fun c_7 => ?_)
    · have f_8 := (hr_5.resolve_left (fun q => absurd (q.1.symm.trans c_7) (by decide))).2
      have zk_9 : (0 : Int32).toInt = 0 := rfl
      have zk_10 : (60 : Int32).toInt = 60 := rfl
      have tc_11 : (x_1).toInt = 0 := congrArg Int32.toInt c_7
      have h_12 : rg x_1 0 0 := rg_and h_6 (rg_of_eq c_7 (rg_k (0 : Int32) 0 rfl)) (by decide)
      have uh_12 := h_12.1
      have vh_12 := h_12.2
      refine lv_iconst (v := (-1)) hx hb dX12_lot_20 (by decide) ?_
      subst hQ
      exact W.iret (v := (-1)) hx hb hr (fun t1 ht hW => ⟨⟨(-1), (σ, I, J, ri, rj, rq), rfl, ⟨ri, rfl, hG, (by have k0 : (-1 : Int32).toInt = -1 := rfl; omega), (rg_w (rg_k (-1 : Int32) (-1) rfl) (by decide))⟩, by rw [ht]; exact hP, va_K.moved hW.alike hK, hD⟩, hS.F ht⟩) hS.2.2 dX12_lot_21
    · obtain ⟨f_13, f_14⟩ := (hr_5.resolve_right (fun q => c_7 q.1)).2
      have tc_15 : 0 ≤ (a0).toInt := Int32.le_iff_toInt_le.mp f_13
      have h_16 : rg a0 0 2147483647 := rg_le2 f_13 (rg_k (0 : Int32) 0 rfl) (rg_full _) (by decide)
      have uh_16 := h_16.1
      have vh_16 := h_16.2
      have tc_17 : (a0).toInt ≤ 60 := Int32.le_iff_toInt_le.mp f_14
      have h_18 : rg a0 0 60 := rg_le1 f_14 h_16 (rg_k (60 : Int32) 60 rfl) (by decide)
      have uh_18 := h_18.1
      have vh_18 := h_18.2
      have tc_19 : (x_1).toInt ≠ 0 := fun q => c_7 (Int32.toInt_inj.mp q)
      have h_20 : rg x_1 1 1 := rg_ne c_7 h_6 0 rfl (by decide)
      have uh_20 := h_20.1
      have vh_20 := h_20.2
      refine lv_aload_n hx hb dX12_lot_10 rfl (lv_at hl 0 rfl) ?_
      refine pg_f (v := .ref this_a) (C := RX12) (T := TX12) (N := 31) hx hb hts (tw_i inlX12) hown hK hP hL_this hK_this (by decide) rfl 0 (by decide) (hts _ (tw_c tw_176)) (pq_hv rfl hR_this_a) dX12_lot_11 ?_
      refine lv_iconst (v := 4) hx hb dX12_lot_14 (by decide) ?_
      refine pl_i hx hb hK hP hL_this_a hK_this_a hN_this_a (vp_in_iff.mpr (by decide)) dX12_lot_15 ?_
      refine lv_topi (fun x_21 ex_21 => ?_)
      have ex_21 : x_21 = ri this_a ((4 : Int32)).toNatClampNeg := ex_21
      have h_22 : rg x_21 0 5 := rg_of_eq ex_21 (GM.z hG (by rw [hT_this_a]; decide) (show zn ((4 : Int32)).toNatClampNeg = 4 from by decide) rfl)
      have uh_22 := h_22.1
      have vh_22 := h_22.2
      have tt_23 : (ri this_a 4).toInt = (x_21).toInt := congrArg Int32.toInt (show ri this_a 4 = x_21 from ex_21.symm)
      refine lv_iconst (v := 5) hx hb dX12_lot_16 (by decide) ?_
      refine lv_icmp_ne (tgt := 22) hx hb dX12_lot_17 (by decide) (fun c_24 => ?_) (fun c_24 => ?_)
      · have tc_25 : (x_21).toInt ≠ 5 := fun q => c_24 (Int32.toInt_inj.mp q)
        have h_26 : rg x_21 0 4 := rg_ne c_24 h_22 5 rfl (by decide)
        have uh_26 := h_26.1
        have vh_26 := h_26.2
        refine lv_aload_n hx hb dX12_lot_22 rfl (lv_at hl 0 rfl) ?_
        refine pg_f (v := .ref this_a) (C := RX12) (T := TX12) (N := 31) hx hb hts (tw_i inlX12) hown hK hP hL_this hK_this (by decide) rfl 0 (by decide) (hts _ (tw_c tw_176)) (pq_hv rfl hR_this_a) dX12_lot_23 ?_
        refine lv_bipush (v := 80) hx hb dX12_lot_26 (by decide) ?_
        refine lv_aload_n hx hb dX12_lot_28 rfl (lv_at hl 0 rfl) ?_
        refine pg_f (v := .ref this_a) (C := RX12) (T := TX12) (N := 31) hx hb hts (tw_i inlX12) hown hK hP hL_this hK_this (by decide) rfl 0 (by decide) (hts _ (tw_c tw_176)) (pq_hv rfl hR_this_a) dX12_lot_29 ?_
        refine lv_iconst (v := 4) hx hb dX12_lot_32 (by decide) ?_
        refine pl_i hx hb hK hP hL_this_a hK_this_a hN_this_a (vp_in_iff.mpr (by decide)) dX12_lot_33 ?_
        refine lv_tov x_21 ex_21.symm ?_
        refine lv_iadd hx hb dX12_lot_34 ?_
        refine lv_topi (fun x_27 ex_27 => ?_)
        have h_28 : rg x_27 80 84 := rg_of_eq ex_27 (rg_add (rg_k (80 : Int32) 80 rfl) h_26 (by decide))
        have uh_28 := h_28.1
        have vh_28 := h_28.2
        have tx_27 : (x_27).toInt = 80 + (x_21).toInt := by rw [ex_27]; exact i_add_rg (a2 := 80) (b2 := (x_21).toInt) rfl rfl (rg_k (80 : Int32) 80 rfl) h_26 (by decide)
        refine lv_iload_n hx hb dX12_lot_35 rfl (lv_at hl 1 rfl) ?_
        refine pt_i hx hb hK hP hD hS hL_this_a hK_this_a hN_this_a (rg_in h_28 (by decide)) dX12_lot_36 (fun r_29 H locs er_29 hP hD hS => ?_)
        have hG := GM.wz hG hT_this_a (by decide) er_29 (zn_LOT1 (by have z_i := clampE x_27; have z_0 := clampE x_21; have z_l0 := (h_26).1; have z_h0 := (h_26).2; omega)) rfl (rg_w h_18 (by decide)) (by decide)
        have h_30 : r_29 this_a 4 = x_21 := cz_ne er_29 (zn_LOT1 (by have z_i := clampE x_27; have z_0 := clampE x_21; have z_l0 := (h_26).1; have z_h0 := (h_26).2; omega)) (by decide) (by decide) ex_21.symm
        have tt_31 : (r_29 this_a 4).toInt = (ri this_a 4).toInt := congrArg Int32.toInt (cz_ne (j := 4) er_29 (zn_LOT1 (by have z_i := clampE x_27; have z_0 := clampE x_21; have z_l0 := (h_26).1; have z_h0 := (h_26).2; omega)) (by decide) (by decide) rfl)
        refine lv_aload_n hx hb dX12_lot_37 rfl (lv_at hl 0 rfl) ?_
        refine pg_f (v := .ref this_a) (C := RX12) (T := TX12) (N := 31) hx hb hts (tw_i inlX12) hown hK hP hL_this hK_this (by decide) rfl 0 (by decide) (hts _ (tw_c tw_176)) (pq_hv rfl hR_this_a) dX12_lot_38 ?_
        refine lv_iconst (v := 4) hx hb dX12_lot_41 (by decide) ?_
        refine lv_dup2_11 hx hb dX12_lot_42 rfl rfl ?_
        refine pl_i hx hb hK hP hL_this_a hK_this_a hN_this_a (vp_in_iff.mpr (by decide)) dX12_lot_43 ?_
        refine lv_tov x_21 h_30 ?_
        refine lv_iconst (v := 1) hx hb dX12_lot_44 (by decide) ?_
        refine lv_iadd hx hb dX12_lot_45 ?_
        refine lv_topi (fun x_32 ex_32 => ?_)
        have h_33 : rg x_32 1 5 := rg_of_eq ex_32 (rg_add h_26 (rg_k (1 : Int32) 1 rfl) (by decide))
        have uh_33 := h_33.1
        have vh_33 := h_33.2
        have tx_32 : (x_32).toInt = (x_21).toInt + 1 := by rw [ex_32]; exact i_add_rg (a2 := (x_21).toInt) (b2 := 1) rfl rfl h_26 (rg_k (1 : Int32) 1 rfl) (by decide)
        refine pt_i hx hb hK hP hD hS hL_this_a hK_this_a hN_this_a (vp_in_iff.mpr (by decide)) dX12_lot_46 (fun r_34 H locs er_34 hP hD hS => ?_)
        have hG := GM.wz hG hT_this_a (by decide) er_34 (show zn ((4 : Int32)).toNatClampNeg = 4 from by decide) rfl (rg_w h_33 (by decide)) (by decide)
        have h_35 : r_34 this_a 4 = x_32 := cz_eq er_34
        have tt_36 : (r_34 this_a 4).toInt = (x_32).toInt := congrArg Int32.toInt (show r_34 this_a 4 = x_32 from cz_eq er_34)
        refine lv_aload_n hx hb dX12_lot_47 rfl (lv_at hl 0 rfl) ?_
        refine pg_f (v := .ref this_a) (C := RX12) (T := TX12) (N := 31) hx hb hts (tw_i inlX12) hown hK hP hL_this hK_this (by decide) rfl 0 (by decide) (hts _ (tw_c tw_176)) (pq_hv rfl hR_this_a) dX12_lot_48 ?_
        refine lv_iconst (v := 4) hx hb dX12_lot_51 (by decide) ?_
        refine pl_i hx hb hK hP hL_this_a hK_this_a hN_this_a (vp_in_iff.mpr (by decide)) dX12_lot_52 ?_
        refine lv_tov x_32 h_35 ?_
        refine lv_iconst (v := 1) hx hb dX12_lot_53 (by decide) ?_
        refine lv_isub hx hb dX12_lot_54 ?_
        refine lv_topi (fun x_37 ex_37 => ?_)
        have h_38 : rg x_37 0 4 := rg_of_eq ex_37 (rg_sub h_33 (rg_k (1 : Int32) 1 rfl) (by decide))
        have uh_38 := h_38.1
        have vh_38 := h_38.2
        have tx_37 : (x_37).toInt = (x_32).toInt - 1 := by rw [ex_37]; exact i_sub_rg (a2 := (x_32).toInt) (b2 := 1) rfl rfl h_33 (rg_k (1 : Int32) 1 rfl) (by decide)
        subst hQ
        exact W.iret (v := x_37) hx hb hr (fun t1 ht hW => ⟨⟨x_37, (σ, I, J, r_34, rj, rq), rfl, ⟨r_34, rfl, hG, (by have k0 : (-1 : Int32).toInt = -1 := rfl; omega), (rg_w h_38 (by decide))⟩, by rw [ht]; exact hP, va_K.moved hW.alike hK, hD⟩, hS.F ht⟩) hS.2.2 dX12_lot_55
      · have tc_39 : (x_21).toInt = 5 := congrArg Int32.toInt c_24
        have h_40 : rg x_21 5 5 := rg_and h_22 (rg_of_eq c_24 (rg_k (5 : Int32) 5 rfl)) (by decide)
        have uh_40 := h_40.1
        have vh_40 := h_40.2
        refine lv_iconst (v := (-1)) hx hb dX12_lot_20 (by decide) ?_
        subst hQ
        exact W.iret (v := (-1)) hx hb hr (fun t1 ht hW => ⟨⟨(-1), (σ, I, J, ri, rj, rq), rfl, ⟨ri, rfl, hG, (by have k0 : (-1 : Int32).toInt = -1 := rfl; omega), (rg_w (rg_k (-1 : Int32) (-1) rfl) (by decide))⟩, by rw [ht]; exact hP, va_K.moved hW.alike hK, hD⟩, hS.F ht⟩) hS.2.2 dX12_lot_21
  exact go _ _ _ hP hD hS hl

set_option maxHeartbeats 4000000 in
set_option maxRecDepth 100000 in
theorem s_X12_person_w (l : Launch) (D : va_G) (t : pq_T) (σ : pq_S) (I : Nat → Nat → Int32) (J : Nat → Nat → Int64) (ri : Nat → Nat → Int32) (rj : Nat → Nat → Int64) (rq : Nat → Nat → Option Nat) (sz : Nat) (tg : Nat → Nat) (hSH : SH σ tg) (hG0 : GT tg I ri) (this : Nat) (a0 : Int32) (a1 : Int32) (a2 : Int32) (a3 : Int32) (a4 : Int32) (hL_this : this ∈ σ.1) (hK_this : σ.2.1 this = 12) (this_a : Nat) (hR_this_a : σ.2.2.1 384 this = some this_a) (hL_this_a : this_a ∈ σ.1) (hK_this_a : σ.2.1 this_a = 13) (hN_this_a : σ.2.2.2 this_a = 12720) (hT_this_a : tg this_a = 384) : MetI l yX12_person (wa yX12_person cX12_person 7 (some .int)) ({ frames := 2, cells := 0, slots := 0, locals := 43 }) [.ref this, .int a0, .int a1, .int a2, .int a3, .int a4] D t σ (I, J, ri, rj, rq) sz 0 0 (fun (r : Int32) (u : pq_S × pq_M) => ∃ ri' : Nat → Nat → Int32, u = (σ, I, J, ri', rj, rq) ∧ GM [1403, 1005] tg σ I ri I ri' rq ∧ ((((0 ≤ a0.toInt ∧ a0.toInt ≤ 9) ∧ (0 ≤ a1.toInt ∧ a1.toInt ≤ 99) ∧ (0 ≤ a2.toInt ∧ a2.toInt ≤ 7) ∧ (0 ≤ a3.toInt ∧ a3.toInt < (ri this_a 1).toInt) ∧ (0 ≤ a4.toInt ∧ a4.toInt ≤ 100) ∧ (ri this_a 5).toInt < 40) ∧ r.toInt = (ri this_a 5).toInt ∧ (ri' this_a 5).toInt = (ri this_a 5).toInt + 1) ∨ (¬ ((0 ≤ a0.toInt ∧ a0.toInt ≤ 9) ∧ (0 ≤ a1.toInt ∧ a1.toInt ≤ 99) ∧ (0 ≤ a2.toInt ∧ a2.toInt ≤ 7) ∧ (0 ≤ a3.toInt ∧ a3.toInt < (ri this_a 1).toInt) ∧ (0 ≤ a4.toInt ∧ a4.toInt ≤ 100) ∧ (ri this_a 5).toInt < 40) ∧ r.toInt = -1 ∧ (ri' this_a 5).toInt = (ri this_a 5).toInt)) ∧ rg r (-1) 39) := by
  refine Met.ofW (cc := cX12_person) (maxL := 7) (ret := (some .int)) (by decide) rfl ?_
  intro p e s m args below meth c s₁ B hml hv
  obtain ⟨rfl, hsz, hP, hK, hD0, hN⟩ := hv
  have hx := B.exec
  have hb := B.bytes
  have hr := B.returns
  have hts := atoms_spec (ws := (wa yX12_person cX12_person 7 (some .int))) B.pre
  have hown : s.vm.findClass RX12 = some m.cls := findClass_of_methodNamed B.named
  have hlocks := B.notSynchronized
  subst hsz
  have hD : va_D (pq_B t σ (I, J, ri, rj, rq) s.heap.size) (pq_P t σ (I, J, ri, rj, rq)) := hD0.self
  generalize hAe : pq_B t σ (I, J, ri, rj, rq) s.heap.size = A at hD ⊢
  have hA : ∀ q : Nat, s.heap.size ≤ q → A q := fun q h => by rw [← hAe]; exact Or.inr h
  have hS : va_S A s.heap s.heap [] := va_S.rf
  have hG : GM [1403, 1005] tg σ I ri I ri rq := ⟨hG0, fun _ _ _ => rfl, fun _ _ _ _ _ => rfl, fun _ _ _ _ _ _ => rfl⟩
  have hl := lv_entry ([.ref this, .int a0, .int a1, .int a2, .int a3, .int a4]) (n := 7) (Nat.le_of_ble_eq_true rfl)
  rw [lg_entry_eq]
  generalize (lg_sl ([.ref this, .int a0, .int a1, .int a2, .int a3, .int a4]) ++ List.replicate (7 - (lg_sl ([.ref this, .int a0, .int a1, .int a2, .int a3, .int a4])).length) Slot.unset).toArray = ls at hl ⊢
  have hl : lv_has ls 7 [(0, .ref this), (1, .int a0), (2, .int a1), (3, .int a2), (4, .int a3), (5, .int a4)] := hl
  refine q_gen (fun Q hQ => ?_)
  have go : ∀ (H : Heap) (locs : List Loc) (ls : Array Slot), va_P D vwCl (pq_P t σ (I, J, ri, rj, rq)) H → va_D A (pq_P t σ (I, J, ri, rj, rq)) → va_S A s.heap H locs → lv_has ls 7 [(0, .ref this), (1, .int a0), (2, .int a1), (3, .int a2), (4, .int a3), (5, .int a4)] → W p l e ({ frames := 2, cells := 0, slots := 0, locals := 43 } : Room) s m (List.toArray ([.ref this, .int a0, .int a1, .int a2, .int a3, .int a4] : List Value)) below meth c H locs 0 0 Q (F0 m 0 ls []) := by
    intro H locs ls hP hD hS hl
    refine lv_iload_n hx hb dX12_person_0 rfl (lv_at hl 1 rfl) ?_
    refine lv_iconst (v := 0) hx hb dX12_person_1 (by decide) ?_
    refine lv_bipush (v := 9) hx hb dX12_person_2 (by decide) ?_
    refine pk_i (va_runS (As := [.int a0, .int 0, .int 9]) (rest := []) ⟨hx, hb, hml, hown, hts⟩ (s_X12_isIn_v l D t σ I J ri rj rq H.size tg hSH hG.1 a0 (0 : Int32) (9 : Int32)) (va_cwS 3 hts (tw_S tw_235 tw_236 tw_5 tw_237) rfl rfl rfl cd_yX12_isIn_3 ⟨Nat.le_of_ble_eq_true rfl, Nat.le_of_ble_eq_true rfl⟩) ⟨pq_blind, pq_pre hK hN hP hD⟩ rfl rfl hl.1 rfl (lv_room (Nat.le_of_ble_eq_true rfl)) dX12_person_4 ⟨Nat.le_of_ble_eq_true rfl, Nat.le_of_ble_eq_true rfl⟩) hD hS hA (fun x_1 σ1 μ1 H locs hw_2 hP hD hS => ?_)
    obtain ⟨hu_3, hr_5⟩ := hw_2
    obtain ⟨hu_3a, hu_3b⟩ := Prod.mk.inj hu_3
    rw [hu_3a, hu_3b] at hP hD
    have h_6 : rg x_1 0 1 := by rcases hr_5 with ⟨q, -⟩ | ⟨q, -⟩ <;> rw [q] <;> exact ⟨by decide, by decide⟩
    have uh_6 := h_6.1
    have vh_6 := h_6.2
    refine lv_if_eq (tgt := 61) hx hb dX12_person_7 (by decide) (fun c_7 => ?_) (fun c_7 => ?_)
    · have f_8 := (hr_5.resolve_left (fun q => absurd (q.1.symm.trans c_7) (by decide))).2
      have zk_9 : (0 : Int32).toInt = 0 := rfl
      have zk_10 : (9 : Int32).toInt = 9 := rfl
      have tc_11 : (x_1).toInt = 0 := congrArg Int32.toInt c_7
      have h_12 : rg x_1 0 0 := rg_and h_6 (rg_of_eq c_7 (rg_k (0 : Int32) 0 rfl)) (by decide)
      have uh_12 := h_12.1
      have vh_12 := h_12.2
      refine lv_iconst (v := (-1)) hx hb dX12_person_61 (by decide) ?_
      subst hQ
      exact W.iret (v := (-1)) hx hb hr (fun t1 ht hW => ⟨⟨(-1), (σ, I, J, ri, rj, rq), rfl, ⟨ri, rfl, hG, (by have k0 : (-1 : Int32).toInt = -1 := rfl; omega), (rg_w (rg_k (-1 : Int32) (-1) rfl) (by decide))⟩, by rw [ht]; exact hP, va_K.moved hW.alike hK, hD⟩, hS.F ht⟩) hS.2.2 dX12_person_62
    · obtain ⟨f_13, f_14⟩ := (hr_5.resolve_right (fun q => c_7 q.1)).2
      have tc_15 : 0 ≤ (a0).toInt := Int32.le_iff_toInt_le.mp f_13
      have h_16 : rg a0 0 2147483647 := rg_le2 f_13 (rg_k (0 : Int32) 0 rfl) (rg_full _) (by decide)
      have uh_16 := h_16.1
      have vh_16 := h_16.2
      have tc_17 : (a0).toInt ≤ 9 := Int32.le_iff_toInt_le.mp f_14
      have h_18 : rg a0 0 9 := rg_le1 f_14 h_16 (rg_k (9 : Int32) 9 rfl) (by decide)
      have uh_18 := h_18.1
      have vh_18 := h_18.2
      have tc_19 : (x_1).toInt ≠ 0 := fun q => c_7 (Int32.toInt_inj.mp q)
      have h_20 : rg x_1 1 1 := rg_ne c_7 h_6 0 rfl (by decide)
      have uh_20 := h_20.1
      have vh_20 := h_20.2
      refine lv_iload_n hx hb dX12_person_10 rfl (lv_at hl 2 rfl) ?_
      refine lv_iconst (v := 0) hx hb dX12_person_11 (by decide) ?_
      refine lv_bipush (v := 99) hx hb dX12_person_12 (by decide) ?_
      refine pk_i (va_runS (As := [.int a1, .int 0, .int 99]) (rest := []) ⟨hx, hb, hml, hown, hts⟩ (s_X12_isIn_v l D t σ I J ri rj rq H.size tg hSH hG.1 a1 (0 : Int32) (99 : Int32)) (va_cwS 3 hts (tw_S tw_235 tw_236 tw_5 tw_237) rfl rfl rfl cd_yX12_isIn_3 ⟨Nat.le_of_ble_eq_true rfl, Nat.le_of_ble_eq_true rfl⟩) ⟨pq_blind, pq_pre hK hN hP hD⟩ rfl rfl hl.1 rfl (lv_room (Nat.le_of_ble_eq_true rfl)) dX12_person_14 ⟨Nat.le_of_ble_eq_true rfl, Nat.le_of_ble_eq_true rfl⟩) hD hS hA (fun x_21 σ1 μ1 H locs hw_22 hP hD hS => ?_)
      obtain ⟨hu_23, hr_25⟩ := hw_22
      obtain ⟨hu_23a, hu_23b⟩ := Prod.mk.inj hu_23
      rw [hu_23a, hu_23b] at hP hD
      have h_26 : rg x_21 0 1 := by rcases hr_25 with ⟨q, -⟩ | ⟨q, -⟩ <;> rw [q] <;> exact ⟨by decide, by decide⟩
      have uh_26 := h_26.1
      have vh_26 := h_26.2
      refine lv_if_eq (tgt := 61) hx hb dX12_person_17 (by decide) (fun c_27 => ?_) (fun c_27 => ?_)
      · have f_28 := (hr_25.resolve_left (fun q => absurd (q.1.symm.trans c_27) (by decide))).2
        have zk_29 : (0 : Int32).toInt = 0 := rfl
        have zk_30 : (99 : Int32).toInt = 99 := rfl
        have tc_31 : (x_21).toInt = 0 := congrArg Int32.toInt c_27
        have h_32 : rg x_21 0 0 := rg_and h_26 (rg_of_eq c_27 (rg_k (0 : Int32) 0 rfl)) (by decide)
        have uh_32 := h_32.1
        have vh_32 := h_32.2
        refine lv_iconst (v := (-1)) hx hb dX12_person_61 (by decide) ?_
        subst hQ
        exact W.iret (v := (-1)) hx hb hr (fun t1 ht hW => ⟨⟨(-1), (σ, I, J, ri, rj, rq), rfl, ⟨ri, rfl, hG, (by have k0 : (-1 : Int32).toInt = -1 := rfl; omega), (rg_w (rg_k (-1 : Int32) (-1) rfl) (by decide))⟩, by rw [ht]; exact hP, va_K.moved hW.alike hK, hD⟩, hS.F ht⟩) hS.2.2 dX12_person_62
      · obtain ⟨f_33, f_34⟩ := (hr_25.resolve_right (fun q => c_27 q.1)).2
        have tc_35 : 0 ≤ (a1).toInt := Int32.le_iff_toInt_le.mp f_33
        have h_36 : rg a1 0 2147483647 := rg_le2 f_33 (rg_k (0 : Int32) 0 rfl) (rg_full _) (by decide)
        have uh_36 := h_36.1
        have vh_36 := h_36.2
        have tc_37 : (a1).toInt ≤ 99 := Int32.le_iff_toInt_le.mp f_34
        have h_38 : rg a1 0 99 := rg_le1 f_34 h_36 (rg_k (99 : Int32) 99 rfl) (by decide)
        have uh_38 := h_38.1
        have vh_38 := h_38.2
        have tc_39 : (x_21).toInt ≠ 0 := fun q => c_27 (Int32.toInt_inj.mp q)
        have h_40 : rg x_21 1 1 := rg_ne c_27 h_26 0 rfl (by decide)
        have uh_40 := h_40.1
        have vh_40 := h_40.2
        refine lv_iload_n hx hb dX12_person_20 rfl (lv_at hl 3 rfl) ?_
        refine lv_iconst (v := 0) hx hb dX12_person_21 (by decide) ?_
        refine lv_bipush (v := 7) hx hb dX12_person_22 (by decide) ?_
        refine pk_i (va_runS (As := [.int a2, .int 0, .int 7]) (rest := []) ⟨hx, hb, hml, hown, hts⟩ (s_X12_isIn_v l D t σ I J ri rj rq H.size tg hSH hG.1 a2 (0 : Int32) (7 : Int32)) (va_cwS 3 hts (tw_S tw_235 tw_236 tw_5 tw_237) rfl rfl rfl cd_yX12_isIn_3 ⟨Nat.le_of_ble_eq_true rfl, Nat.le_of_ble_eq_true rfl⟩) ⟨pq_blind, pq_pre hK hN hP hD⟩ rfl rfl hl.1 rfl (lv_room (Nat.le_of_ble_eq_true rfl)) dX12_person_24 ⟨Nat.le_of_ble_eq_true rfl, Nat.le_of_ble_eq_true rfl⟩) hD hS hA (fun x_41 σ1 μ1 H locs hw_42 hP hD hS => ?_)
        obtain ⟨hu_43, hr_45⟩ := hw_42
        obtain ⟨hu_43a, hu_43b⟩ := Prod.mk.inj hu_43
        rw [hu_43a, hu_43b] at hP hD
        have h_46 : rg x_41 0 1 := by rcases hr_45 with ⟨q, -⟩ | ⟨q, -⟩ <;> rw [q] <;> exact ⟨by decide, by decide⟩
        have uh_46 := h_46.1
        have vh_46 := h_46.2
        refine lv_if_eq (tgt := 61) hx hb dX12_person_27 (by decide) (fun c_47 => ?_) (fun c_47 => ?_)
        · have f_48 := (hr_45.resolve_left (fun q => absurd (q.1.symm.trans c_47) (by decide))).2
          have zk_49 : (0 : Int32).toInt = 0 := rfl
          have zk_50 : (7 : Int32).toInt = 7 := rfl
          have tc_51 : (x_41).toInt = 0 := congrArg Int32.toInt c_47
          have h_52 : rg x_41 0 0 := rg_and h_46 (rg_of_eq c_47 (rg_k (0 : Int32) 0 rfl)) (by decide)
          have uh_52 := h_52.1
          have vh_52 := h_52.2
          refine lv_iconst (v := (-1)) hx hb dX12_person_61 (by decide) ?_
          subst hQ
          exact W.iret (v := (-1)) hx hb hr (fun t1 ht hW => ⟨⟨(-1), (σ, I, J, ri, rj, rq), rfl, ⟨ri, rfl, hG, (by have k0 : (-1 : Int32).toInt = -1 := rfl; omega), (rg_w (rg_k (-1 : Int32) (-1) rfl) (by decide))⟩, by rw [ht]; exact hP, va_K.moved hW.alike hK, hD⟩, hS.F ht⟩) hS.2.2 dX12_person_62
        · obtain ⟨f_53, f_54⟩ := (hr_45.resolve_right (fun q => c_47 q.1)).2
          have tc_55 : 0 ≤ (a2).toInt := Int32.le_iff_toInt_le.mp f_53
          have h_56 : rg a2 0 2147483647 := rg_le2 f_53 (rg_k (0 : Int32) 0 rfl) (rg_full _) (by decide)
          have uh_56 := h_56.1
          have vh_56 := h_56.2
          have tc_57 : (a2).toInt ≤ 7 := Int32.le_iff_toInt_le.mp f_54
          have h_58 : rg a2 0 7 := rg_le1 f_54 h_56 (rg_k (7 : Int32) 7 rfl) (by decide)
          have uh_58 := h_58.1
          have vh_58 := h_58.2
          have tc_59 : (x_41).toInt ≠ 0 := fun q => c_47 (Int32.toInt_inj.mp q)
          have h_60 : rg x_41 1 1 := rg_ne c_47 h_46 0 rfl (by decide)
          have uh_60 := h_60.1
          have vh_60 := h_60.2
          refine lv_aload_n hx hb dX12_person_30 rfl (lv_at hl 0 rfl) ?_
          refine lv_iload hx hb dX12_person_31 (lv_at hl 4 rfl) ?_
          refine pk_i (va_runV (As := [.int a3]) (rest := []) ⟨hx, hb, hml, hown, hts⟩ (s_X12_isRing_w l D t σ I J ri rj rq H.size tg hSH hG.1 this a3 hL_this hK_this this_a hR_this_a hL_this_a hK_this_a hN_this_a hT_this_a) (cwV 1 hts (tw_V tw_231 tw_232 tw_233 tw_5 tw_234) rfl rfl rfl cv_yX12_isRing_1 ⟨Nat.le_of_ble_eq_true rfl, Nat.le_of_ble_eq_true rfl⟩) ⟨pq_blind, pq_recv hK hP hL_this hK_this (by decide) rfl, pq_pre hK hN hP hD⟩ rfl rfl hl.1 rfl (lv_room (Nat.le_of_ble_eq_true rfl)) dX12_person_33 ⟨Nat.le_of_ble_eq_true rfl, Nat.le_of_ble_eq_true rfl⟩) hD hS hA (fun x_61 σ1 μ1 H locs hw_62 hP hD hS => ?_)
          obtain ⟨hu_63, hr_65⟩ := hw_62
          obtain ⟨hu_63a, hu_63b⟩ := Prod.mk.inj hu_63
          rw [hu_63a, hu_63b] at hP hD
          have h_66 : rg x_61 0 1 := by rcases hr_65 with ⟨q, -⟩ | ⟨q, -⟩ <;> rw [q] <;> exact ⟨by decide, by decide⟩
          have uh_66 := h_66.1
          have vh_66 := h_66.2
          refine lv_if_eq (tgt := 61) hx hb dX12_person_36 (by decide) (fun c_67 => ?_) (fun c_67 => ?_)
          · have f_68 := (hr_65.resolve_left (fun q => absurd (q.1.symm.trans c_67) (by decide))).2
            have tc_69 : (x_61).toInt = 0 := congrArg Int32.toInt c_67
            have h_70 : rg x_61 0 0 := rg_and h_66 (rg_of_eq c_67 (rg_k (0 : Int32) 0 rfl)) (by decide)
            have uh_70 := h_70.1
            have vh_70 := h_70.2
            refine lv_iconst (v := (-1)) hx hb dX12_person_61 (by decide) ?_
            subst hQ
            exact W.iret (v := (-1)) hx hb hr (fun t1 ht hW => ⟨⟨(-1), (σ, I, J, ri, rj, rq), rfl, ⟨ri, rfl, hG, (by have k0 : (-1 : Int32).toInt = -1 := rfl; omega), (rg_w (rg_k (-1 : Int32) (-1) rfl) (by decide))⟩, by rw [ht]; exact hP, va_K.moved hW.alike hK, hD⟩, hS.F ht⟩) hS.2.2 dX12_person_62
          · obtain ⟨f_71, f_72⟩ := (hr_65.resolve_right (fun q => c_67 q.1)).2
            have uf_71 := f_71.1
            have vf_71 := f_71.2
            have tc_73 : (x_61).toInt ≠ 0 := fun q => c_67 (Int32.toInt_inj.mp q)
            have h_74 : rg x_61 1 1 := rg_ne c_67 h_66 0 rfl (by decide)
            have uh_74 := h_74.1
            have vh_74 := h_74.2
            refine lv_iload hx hb dX12_person_39 (lv_at hl 5 rfl) ?_
            refine lv_iconst (v := 0) hx hb dX12_person_41 (by decide) ?_
            refine lv_bipush (v := 100) hx hb dX12_person_42 (by decide) ?_
            refine pk_i (va_runS (As := [.int a4, .int 0, .int 100]) (rest := []) ⟨hx, hb, hml, hown, hts⟩ (s_X12_isIn_v l D t σ I J ri rj rq H.size tg hSH hG.1 a4 (0 : Int32) (100 : Int32)) (va_cwS 3 hts (tw_S tw_235 tw_236 tw_5 tw_237) rfl rfl rfl cd_yX12_isIn_3 ⟨Nat.le_of_ble_eq_true rfl, Nat.le_of_ble_eq_true rfl⟩) ⟨pq_blind, pq_pre hK hN hP hD⟩ rfl rfl hl.1 rfl (lv_room (Nat.le_of_ble_eq_true rfl)) dX12_person_44 ⟨Nat.le_of_ble_eq_true rfl, Nat.le_of_ble_eq_true rfl⟩) hD hS hA (fun x_75 σ1 μ1 H locs hw_76 hP hD hS => ?_)
            obtain ⟨hu_77, hr_79⟩ := hw_76
            obtain ⟨hu_77a, hu_77b⟩ := Prod.mk.inj hu_77
            rw [hu_77a, hu_77b] at hP hD
            have h_80 : rg x_75 0 1 := by rcases hr_79 with ⟨q, -⟩ | ⟨q, -⟩ <;> rw [q] <;> exact ⟨by decide, by decide⟩
            have uh_80 := h_80.1
            have vh_80 := h_80.2
            refine lv_if_eq (tgt := 61) hx hb dX12_person_47 (by decide) (fun c_81 => ?_) (fun c_81 => ?_)
            · have f_82 := (hr_79.resolve_left (fun q => absurd (q.1.symm.trans c_81) (by decide))).2
              have zk_83 : (0 : Int32).toInt = 0 := rfl
              have zk_84 : (100 : Int32).toInt = 100 := rfl
              have tc_85 : (x_75).toInt = 0 := congrArg Int32.toInt c_81
              have h_86 : rg x_75 0 0 := rg_and h_80 (rg_of_eq c_81 (rg_k (0 : Int32) 0 rfl)) (by decide)
              have uh_86 := h_86.1
              have vh_86 := h_86.2
              refine lv_iconst (v := (-1)) hx hb dX12_person_61 (by decide) ?_
              subst hQ
              exact W.iret (v := (-1)) hx hb hr (fun t1 ht hW => ⟨⟨(-1), (σ, I, J, ri, rj, rq), rfl, ⟨ri, rfl, hG, (by have k0 : (-1 : Int32).toInt = -1 := rfl; omega), (rg_w (rg_k (-1 : Int32) (-1) rfl) (by decide))⟩, by rw [ht]; exact hP, va_K.moved hW.alike hK, hD⟩, hS.F ht⟩) hS.2.2 dX12_person_62
            · obtain ⟨f_87, f_88⟩ := (hr_79.resolve_right (fun q => c_81 q.1)).2
              have tc_89 : 0 ≤ (a4).toInt := Int32.le_iff_toInt_le.mp f_87
              have h_90 : rg a4 0 2147483647 := rg_le2 f_87 (rg_k (0 : Int32) 0 rfl) (rg_full _) (by decide)
              have uh_90 := h_90.1
              have vh_90 := h_90.2
              have tc_91 : (a4).toInt ≤ 100 := Int32.le_iff_toInt_le.mp f_88
              have h_92 : rg a4 0 100 := rg_le1 f_88 h_90 (rg_k (100 : Int32) 100 rfl) (by decide)
              have uh_92 := h_92.1
              have vh_92 := h_92.2
              have tc_93 : (x_75).toInt ≠ 0 := fun q => c_81 (Int32.toInt_inj.mp q)
              have h_94 : rg x_75 1 1 := rg_ne c_81 h_80 0 rfl (by decide)
              have uh_94 := h_94.1
              have vh_94 := h_94.2
              refine lv_aload_n hx hb dX12_person_50 rfl (lv_at hl 0 rfl) ?_
              refine pg_f (v := .ref this_a) (C := RX12) (T := TX12) (N := 31) hx hb hts (tw_i inlX12) hown hK hP hL_this hK_this (by decide) rfl 0 (by decide) (hts _ (tw_c tw_176)) (pq_hv rfl hR_this_a) dX12_person_51 ?_
              refine lv_iconst (v := 5) hx hb dX12_person_54 (by decide) ?_
              refine pl_i hx hb hK hP hL_this_a hK_this_a hN_this_a (vp_in_iff.mpr (by decide)) dX12_person_55 ?_
              refine lv_topi (fun x_95 ex_95 => ?_)
              have ex_95 : x_95 = ri this_a ((5 : Int32)).toNatClampNeg := ex_95
              have h_96 : rg x_95 0 40 := rg_of_eq ex_95 (GM.z hG (by rw [hT_this_a]; decide) (show zn ((5 : Int32)).toNatClampNeg = 5 from by decide) rfl)
              have uh_96 := h_96.1
              have vh_96 := h_96.2
              have tt_97 : (ri this_a 5).toInt = (x_95).toInt := congrArg Int32.toInt (show ri this_a 5 = x_95 from ex_95.symm)
              refine lv_bipush (v := 40) hx hb dX12_person_56 (by decide) ?_
              refine lv_icmp_ne (tgt := 63) hx hb dX12_person_58 (by decide) (fun c_98 => ?_) (fun c_98 => ?_)
              · have tc_99 : (x_95).toInt ≠ 40 := fun q => c_98 (Int32.toInt_inj.mp q)
                have h_100 : rg x_95 0 39 := rg_ne c_98 h_96 40 rfl (by decide)
                have uh_100 := h_100.1
                have vh_100 := h_100.2
                refine lv_sipush (v := 740) hx hb dX12_person_63 (by decide) ?_
                refine lv_bipush (v := 12) hx hb dX12_person_66 (by decide) ?_
                refine lv_aload_n hx hb dX12_person_68 rfl (lv_at hl 0 rfl) ?_
                refine pg_f (v := .ref this_a) (C := RX12) (T := TX12) (N := 31) hx hb hts (tw_i inlX12) hown hK hP hL_this hK_this (by decide) rfl 0 (by decide) (hts _ (tw_c tw_176)) (pq_hv rfl hR_this_a) dX12_person_69 ?_
                refine lv_iconst (v := 5) hx hb dX12_person_72 (by decide) ?_
                refine pl_i hx hb hK hP hL_this_a hK_this_a hN_this_a (vp_in_iff.mpr (by decide)) dX12_person_73 ?_
                refine lv_tov x_95 ex_95.symm ?_
                refine lv_imul hx hb dX12_person_74 ?_
                refine lv_topi (fun x_101 ex_101 => ?_)
                have h_102 : rg x_101 0 468 := rg_of_eq ex_101 (rg_mul (rg_k (12 : Int32) 12 rfl) h_100 (by decide))
                have uh_102 := h_102.1
                have vh_102 := h_102.2
                have tx_101 : (x_101).toInt = 12 * (x_95).toInt := by rw [ex_101]; exact i_mul_rg (a2 := 12) (b2 := (x_95).toInt) rfl rfl (rg_k (12 : Int32) 12 rfl) h_100 (by decide)
                refine lv_iadd hx hb dX12_person_75 ?_
                refine lv_topi (fun x_103 ex_103 => ?_)
                have h_104 : rg x_103 740 1208 := rg_of_eq ex_103 (rg_add (rg_k (740 : Int32) 740 rfl) h_102 (by decide))
                have uh_104 := h_104.1
                have vh_104 := h_104.2
                have tx_103 : (x_103).toInt = 740 + (x_101).toInt := by rw [ex_103]; exact i_add_rg (a2 := 740) (b2 := (x_101).toInt) rfl rfl (rg_k (740 : Int32) 740 rfl) h_102 (by decide)
                refine lv_istore (lv' := [(6, .int x_103), (0, .ref this), (1, .int a0), (2, .int a1), (3, .int a2), (4, .int a3), (5, .int a4)]) hx hb dX12_person_76 hl (by decide) rfl (fun ls hl => ?_)
                refine lv_aload_n hx hb dX12_person_78 rfl (lv_at hl 1 rfl) ?_
                refine pg_f (v := .ref this_a) (C := RX12) (T := TX12) (N := 31) hx hb hts (tw_i inlX12) hown hK hP hL_this hK_this (by decide) rfl 0 (by decide) (hts _ (tw_c tw_176)) (pq_hv rfl hR_this_a) dX12_person_79 ?_
                refine lv_iload hx hb dX12_person_82 (lv_at hl 0 rfl) ?_
                refine lv_iconst (v := 0) hx hb dX12_person_84 (by decide) ?_
                refine lv_iadd hx hb dX12_person_85 ?_
                refine lv_topi (fun x_105 ex_105 => ?_)
                have h_106 : rg x_105 740 1208 := rg_of_eq ex_105 (rg_add h_104 (rg_k (0 : Int32) 0 rfl) (by decide))
                have uh_106 := h_106.1
                have vh_106 := h_106.2
                have tx_105 : (x_105).toInt = (x_103).toInt + 0 := by rw [ex_105]; exact i_add_rg (a2 := (x_103).toInt) (b2 := 0) rfl rfl h_104 (rg_k (0 : Int32) 0 rfl) (by decide)
                refine lv_iload_n hx hb dX12_person_86 rfl (lv_at hl 2 rfl) ?_
                refine pt_i hx hb hK hP hD hS hL_this_a hK_this_a hN_this_a (rg_in h_106 (by decide)) dX12_person_87 (fun r_107 H locs er_107 hP hD hS => ?_)
                have hG := GM.wz hG hT_this_a (by decide) er_107 (zn_PERSON (c := x_95.toNatClampNeg) (k := 0) (by have z_i := clampE x_105; have z_0 := clampE x_95; omega) (rg_cl1 h_100 (by decide)) (by decide)) rfl (rg_w h_18 (by decide)) (by decide)
                have h_108 : r_107 this_a 5 = x_95 := cz_ne er_107 (zn_PERSON (c := x_95.toNatClampNeg) (k := 0) (by have z_i := clampE x_105; have z_0 := clampE x_95; omega) (rg_cl1 h_100 (by decide)) (by decide)) (by decide) (by decide) ex_95.symm
                have tt_109 : (r_107 this_a 5).toInt = (ri this_a 5).toInt := congrArg Int32.toInt (cz_ne (j := 5) er_107 (zn_PERSON (c := x_95.toNatClampNeg) (k := 0) (by have z_i := clampE x_105; have z_0 := clampE x_95; omega) (rg_cl1 h_100 (by decide)) (by decide)) (by decide) (by decide) rfl)
                refine lv_aload_n hx hb dX12_person_88 rfl (lv_at hl 1 rfl) ?_
                refine pg_f (v := .ref this_a) (C := RX12) (T := TX12) (N := 31) hx hb hts (tw_i inlX12) hown hK hP hL_this hK_this (by decide) rfl 0 (by decide) (hts _ (tw_c tw_176)) (pq_hv rfl hR_this_a) dX12_person_89 ?_
                refine lv_iload hx hb dX12_person_92 (lv_at hl 0 rfl) ?_
                refine lv_iconst (v := 1) hx hb dX12_person_94 (by decide) ?_
                refine lv_iadd hx hb dX12_person_95 ?_
                refine lv_topi (fun x_110 ex_110 => ?_)
                have h_111 : rg x_110 741 1209 := rg_of_eq ex_110 (rg_add h_104 (rg_k (1 : Int32) 1 rfl) (by decide))
                have uh_111 := h_111.1
                have vh_111 := h_111.2
                have tx_110 : (x_110).toInt = (x_103).toInt + 1 := by rw [ex_110]; exact i_add_rg (a2 := (x_103).toInt) (b2 := 1) rfl rfl h_104 (rg_k (1 : Int32) 1 rfl) (by decide)
                refine lv_iload_n hx hb dX12_person_96 rfl (lv_at hl 3 rfl) ?_
                refine pt_i hx hb hK hP hD hS hL_this_a hK_this_a hN_this_a (rg_in h_111 (by decide)) dX12_person_97 (fun r_112 H locs er_112 hP hD hS => ?_)
                have hG := GM.wz hG hT_this_a (by decide) er_112 (zn_PERSON (c := x_95.toNatClampNeg) (k := 1) (by have z_i := clampE x_110; have z_0 := clampE x_95; omega) (rg_cl1 h_100 (by decide)) (by decide)) rfl (rg_w h_38 (by decide)) (by decide)
                have h_113 : r_112 this_a 5 = x_95 := cz_ne er_112 (zn_PERSON (c := x_95.toNatClampNeg) (k := 1) (by have z_i := clampE x_110; have z_0 := clampE x_95; omega) (rg_cl1 h_100 (by decide)) (by decide)) (by decide) (by decide) h_108
                have tt_114 : (r_112 this_a 5).toInt = (r_107 this_a 5).toInt := congrArg Int32.toInt (cz_ne (j := 5) er_112 (zn_PERSON (c := x_95.toNatClampNeg) (k := 1) (by have z_i := clampE x_110; have z_0 := clampE x_95; omega) (rg_cl1 h_100 (by decide)) (by decide)) (by decide) (by decide) rfl)
                refine lv_aload_n hx hb dX12_person_98 rfl (lv_at hl 1 rfl) ?_
                refine pg_f (v := .ref this_a) (C := RX12) (T := TX12) (N := 31) hx hb hts (tw_i inlX12) hown hK hP hL_this hK_this (by decide) rfl 0 (by decide) (hts _ (tw_c tw_176)) (pq_hv rfl hR_this_a) dX12_person_99 ?_
                refine lv_iload hx hb dX12_person_102 (lv_at hl 0 rfl) ?_
                refine lv_iconst (v := 2) hx hb dX12_person_104 (by decide) ?_
                refine lv_iadd hx hb dX12_person_105 ?_
                refine lv_topi (fun x_115 ex_115 => ?_)
                have h_116 : rg x_115 742 1210 := rg_of_eq ex_115 (rg_add h_104 (rg_k (2 : Int32) 2 rfl) (by decide))
                have uh_116 := h_116.1
                have vh_116 := h_116.2
                have tx_115 : (x_115).toInt = (x_103).toInt + 2 := by rw [ex_115]; exact i_add_rg (a2 := (x_103).toInt) (b2 := 2) rfl rfl h_104 (rg_k (2 : Int32) 2 rfl) (by decide)
                refine lv_iload_n hx hb dX12_person_106 rfl (lv_at hl 4 rfl) ?_
                refine pt_i hx hb hK hP hD hS hL_this_a hK_this_a hN_this_a (rg_in h_116 (by decide)) dX12_person_107 (fun r_117 H locs er_117 hP hD hS => ?_)
                have hG := GM.wz hG hT_this_a (by decide) er_117 (zn_PERSON (c := x_95.toNatClampNeg) (k := 2) (by have z_i := clampE x_115; have z_0 := clampE x_95; omega) (rg_cl1 h_100 (by decide)) (by decide)) rfl (rg_w h_58 (by decide)) (by decide)
                have h_118 : r_117 this_a 5 = x_95 := cz_ne er_117 (zn_PERSON (c := x_95.toNatClampNeg) (k := 2) (by have z_i := clampE x_115; have z_0 := clampE x_95; omega) (rg_cl1 h_100 (by decide)) (by decide)) (by decide) (by decide) h_113
                have tt_119 : (r_117 this_a 5).toInt = (r_112 this_a 5).toInt := congrArg Int32.toInt (cz_ne (j := 5) er_117 (zn_PERSON (c := x_95.toNatClampNeg) (k := 2) (by have z_i := clampE x_115; have z_0 := clampE x_95; omega) (rg_cl1 h_100 (by decide)) (by decide)) (by decide) (by decide) rfl)
                refine lv_aload_n hx hb dX12_person_108 rfl (lv_at hl 1 rfl) ?_
                refine pg_f (v := .ref this_a) (C := RX12) (T := TX12) (N := 31) hx hb hts (tw_i inlX12) hown hK hP hL_this hK_this (by decide) rfl 0 (by decide) (hts _ (tw_c tw_176)) (pq_hv rfl hR_this_a) dX12_person_109 ?_
                refine lv_iload hx hb dX12_person_112 (lv_at hl 0 rfl) ?_
                refine lv_iconst (v := 3) hx hb dX12_person_114 (by decide) ?_
                refine lv_iadd hx hb dX12_person_115 ?_
                refine lv_topi (fun x_120 ex_120 => ?_)
                have h_121 : rg x_120 743 1211 := rg_of_eq ex_120 (rg_add h_104 (rg_k (3 : Int32) 3 rfl) (by decide))
                have uh_121 := h_121.1
                have vh_121 := h_121.2
                have tx_120 : (x_120).toInt = (x_103).toInt + 3 := by rw [ex_120]; exact i_add_rg (a2 := (x_103).toInt) (b2 := 3) rfl rfl h_104 (rg_k (3 : Int32) 3 rfl) (by decide)
                refine lv_iload hx hb dX12_person_116 (lv_at hl 5 rfl) ?_
                refine pt_i hx hb hK hP hD hS hL_this_a hK_this_a hN_this_a (rg_in h_121 (by decide)) dX12_person_118 (fun r_122 H locs er_122 hP hD hS => ?_)
                have hG := GM.wp hG hT_this_a (by decide) er_122 (zn_PERSON (c := x_95.toNatClampNeg) (k := 3) (by have z_i := clampE x_120; have z_0 := clampE x_95; omega) (rg_cl1 h_100 (by decide)) (by decide)) (rg_w f_71 (by decide)) (by omega) (by decide)
                have h_123 : r_122 this_a 5 = x_95 := cz_ne er_122 (zn_PERSON (c := x_95.toNatClampNeg) (k := 3) (by have z_i := clampE x_120; have z_0 := clampE x_95; omega) (rg_cl1 h_100 (by decide)) (by decide)) (by decide) (by decide) h_118
                have tt_124 : (r_122 this_a 5).toInt = (r_117 this_a 5).toInt := congrArg Int32.toInt (cz_ne (j := 5) er_122 (zn_PERSON (c := x_95.toNatClampNeg) (k := 3) (by have z_i := clampE x_120; have z_0 := clampE x_95; omega) (rg_cl1 h_100 (by decide)) (by decide)) (by decide) (by decide) rfl)
                refine lv_aload_n hx hb dX12_person_119 rfl (lv_at hl 1 rfl) ?_
                refine pg_f (v := .ref this_a) (C := RX12) (T := TX12) (N := 31) hx hb hts (tw_i inlX12) hown hK hP hL_this hK_this (by decide) rfl 0 (by decide) (hts _ (tw_c tw_176)) (pq_hv rfl hR_this_a) dX12_person_120 ?_
                refine lv_iload hx hb dX12_person_123 (lv_at hl 0 rfl) ?_
                refine lv_iconst (v := 4) hx hb dX12_person_125 (by decide) ?_
                refine lv_iadd hx hb dX12_person_126 ?_
                refine lv_topi (fun x_125 ex_125 => ?_)
                have h_126 : rg x_125 744 1212 := rg_of_eq ex_125 (rg_add h_104 (rg_k (4 : Int32) 4 rfl) (by decide))
                have uh_126 := h_126.1
                have vh_126 := h_126.2
                have tx_125 : (x_125).toInt = (x_103).toInt + 4 := by rw [ex_125]; exact i_add_rg (a2 := (x_103).toInt) (b2 := 4) rfl rfl h_104 (rg_k (4 : Int32) 4 rfl) (by decide)
                refine lv_iload hx hb dX12_person_127 (lv_at hl 6 rfl) ?_
                refine pt_i hx hb hK hP hD hS hL_this_a hK_this_a hN_this_a (rg_in h_126 (by decide)) dX12_person_129 (fun r_127 H locs er_127 hP hD hS => ?_)
                have hG := GM.wz hG hT_this_a (by decide) er_127 (zn_PERSON (c := x_95.toNatClampNeg) (k := 4) (by have z_i := clampE x_125; have z_0 := clampE x_95; omega) (rg_cl1 h_100 (by decide)) (by decide)) rfl (rg_w h_92 (by decide)) (by decide)
                have h_128 : r_127 this_a 5 = x_95 := cz_ne er_127 (zn_PERSON (c := x_95.toNatClampNeg) (k := 4) (by have z_i := clampE x_125; have z_0 := clampE x_95; omega) (rg_cl1 h_100 (by decide)) (by decide)) (by decide) (by decide) h_123
                have tt_129 : (r_127 this_a 5).toInt = (r_122 this_a 5).toInt := congrArg Int32.toInt (cz_ne (j := 5) er_127 (zn_PERSON (c := x_95.toNatClampNeg) (k := 4) (by have z_i := clampE x_125; have z_0 := clampE x_95; omega) (rg_cl1 h_100 (by decide)) (by decide)) (by decide) (by decide) rfl)
                refine lv_aload_n hx hb dX12_person_130 rfl (lv_at hl 1 rfl) ?_
                refine pg_f (v := .ref this_a) (C := RX12) (T := TX12) (N := 31) hx hb hts (tw_i inlX12) hown hK hP hL_this hK_this (by decide) rfl 0 (by decide) (hts _ (tw_c tw_176)) (pq_hv rfl hR_this_a) dX12_person_131 ?_
                refine lv_iload hx hb dX12_person_134 (lv_at hl 0 rfl) ?_
                refine lv_bipush (v := 7) hx hb dX12_person_136 (by decide) ?_
                refine lv_iadd hx hb dX12_person_138 ?_
                refine lv_topi (fun x_130 ex_130 => ?_)
                have h_131 : rg x_130 747 1215 := rg_of_eq ex_130 (rg_add h_104 (rg_k (7 : Int32) 7 rfl) (by decide))
                have uh_131 := h_131.1
                have vh_131 := h_131.2
                have tx_130 : (x_130).toInt = (x_103).toInt + 7 := by rw [ex_130]; exact i_add_rg (a2 := (x_103).toInt) (b2 := 7) rfl rfl h_104 (rg_k (7 : Int32) 7 rfl) (by decide)
                refine lv_iconst (v := (-1)) hx hb dX12_person_139 (by decide) ?_
                refine pt_i hx hb hK hP hD hS hL_this_a hK_this_a hN_this_a (rg_in h_131 (by decide)) dX12_person_140 (fun r_132 H locs er_132 hP hD hS => ?_)
                have hG := GM.wz hG hT_this_a (by decide) er_132 (zn_PERSON (c := x_95.toNatClampNeg) (k := 7) (by have z_i := clampE x_130; have z_0 := clampE x_95; omega) (rg_cl1 h_100 (by decide)) (by decide)) rfl (rg_w (rg_k (-1 : Int32) (-1) rfl) (by decide)) (by decide)
                have h_133 : r_132 this_a 5 = x_95 := cz_ne er_132 (zn_PERSON (c := x_95.toNatClampNeg) (k := 7) (by have z_i := clampE x_130; have z_0 := clampE x_95; omega) (rg_cl1 h_100 (by decide)) (by decide)) (by decide) (by decide) h_128
                have tt_134 : (r_132 this_a 5).toInt = (r_127 this_a 5).toInt := congrArg Int32.toInt (cz_ne (j := 5) er_132 (zn_PERSON (c := x_95.toNatClampNeg) (k := 7) (by have z_i := clampE x_130; have z_0 := clampE x_95; omega) (rg_cl1 h_100 (by decide)) (by decide)) (by decide) (by decide) rfl)
                refine lv_aload_n hx hb dX12_person_141 rfl (lv_at hl 1 rfl) ?_
                refine pg_f (v := .ref this_a) (C := RX12) (T := TX12) (N := 31) hx hb hts (tw_i inlX12) hown hK hP hL_this hK_this (by decide) rfl 0 (by decide) (hts _ (tw_c tw_176)) (pq_hv rfl hR_this_a) dX12_person_142 ?_
                refine lv_iload hx hb dX12_person_145 (lv_at hl 0 rfl) ?_
                refine lv_bipush (v := 8) hx hb dX12_person_147 (by decide) ?_
                refine lv_iadd hx hb dX12_person_149 ?_
                refine lv_topi (fun x_135 ex_135 => ?_)
                have h_136 : rg x_135 748 1216 := rg_of_eq ex_135 (rg_add h_104 (rg_k (8 : Int32) 8 rfl) (by decide))
                have uh_136 := h_136.1
                have vh_136 := h_136.2
                have tx_135 : (x_135).toInt = (x_103).toInt + 8 := by rw [ex_135]; exact i_add_rg (a2 := (x_103).toInt) (b2 := 8) rfl rfl h_104 (rg_k (8 : Int32) 8 rfl) (by decide)
                refine lv_iconst (v := (-1)) hx hb dX12_person_150 (by decide) ?_
                refine pt_i hx hb hK hP hD hS hL_this_a hK_this_a hN_this_a (rg_in h_136 (by decide)) dX12_person_151 (fun r_137 H locs er_137 hP hD hS => ?_)
                have hG := GM.wz hG hT_this_a (by decide) er_137 (zn_PERSON (c := x_95.toNatClampNeg) (k := 8) (by have z_i := clampE x_135; have z_0 := clampE x_95; omega) (rg_cl1 h_100 (by decide)) (by decide)) rfl (rg_w (rg_k (-1 : Int32) (-1) rfl) (by decide)) (by decide)
                have h_138 : r_137 this_a 5 = x_95 := cz_ne er_137 (zn_PERSON (c := x_95.toNatClampNeg) (k := 8) (by have z_i := clampE x_135; have z_0 := clampE x_95; omega) (rg_cl1 h_100 (by decide)) (by decide)) (by decide) (by decide) h_133
                have tt_139 : (r_137 this_a 5).toInt = (r_132 this_a 5).toInt := congrArg Int32.toInt (cz_ne (j := 5) er_137 (zn_PERSON (c := x_95.toNatClampNeg) (k := 8) (by have z_i := clampE x_135; have z_0 := clampE x_95; omega) (rg_cl1 h_100 (by decide)) (by decide)) (by decide) (by decide) rfl)
                refine lv_aload_n hx hb dX12_person_152 rfl (lv_at hl 1 rfl) ?_
                refine pg_f (v := .ref this_a) (C := RX12) (T := TX12) (N := 31) hx hb hts (tw_i inlX12) hown hK hP hL_this hK_this (by decide) rfl 0 (by decide) (hts _ (tw_c tw_176)) (pq_hv rfl hR_this_a) dX12_person_153 ?_
                refine lv_iconst (v := 5) hx hb dX12_person_156 (by decide) ?_
                refine lv_dup2_11 hx hb dX12_person_157 rfl rfl ?_
                refine pl_i hx hb hK hP hL_this_a hK_this_a hN_this_a (vp_in_iff.mpr (by decide)) dX12_person_158 ?_
                refine lv_tov x_95 h_138 ?_
                refine lv_iconst (v := 1) hx hb dX12_person_159 (by decide) ?_
                refine lv_iadd hx hb dX12_person_160 ?_
                refine lv_topi (fun x_140 ex_140 => ?_)
                have h_141 : rg x_140 1 40 := rg_of_eq ex_140 (rg_add h_100 (rg_k (1 : Int32) 1 rfl) (by decide))
                have uh_141 := h_141.1
                have vh_141 := h_141.2
                have tx_140 : (x_140).toInt = (x_95).toInt + 1 := by rw [ex_140]; exact i_add_rg (a2 := (x_95).toInt) (b2 := 1) rfl rfl h_100 (rg_k (1 : Int32) 1 rfl) (by decide)
                refine pt_i hx hb hK hP hD hS hL_this_a hK_this_a hN_this_a (vp_in_iff.mpr (by decide)) dX12_person_161 (fun r_142 H locs er_142 hP hD hS => ?_)
                have hG := GM.wz hG hT_this_a (by decide) er_142 (show zn ((5 : Int32)).toNatClampNeg = 5 from by decide) rfl (rg_w h_141 (by decide)) (by decide)
                have h_143 : r_142 this_a 5 = x_140 := cz_eq er_142
                have tt_144 : (r_142 this_a 5).toInt = (x_140).toInt := congrArg Int32.toInt (show r_142 this_a 5 = x_140 from cz_eq er_142)
                refine lv_aload_n hx hb dX12_person_162 rfl (lv_at hl 1 rfl) ?_
                refine pg_f (v := .ref this_a) (C := RX12) (T := TX12) (N := 31) hx hb hts (tw_i inlX12) hown hK hP hL_this hK_this (by decide) rfl 0 (by decide) (hts _ (tw_c tw_176)) (pq_hv rfl hR_this_a) dX12_person_163 ?_
                refine lv_iconst (v := 5) hx hb dX12_person_166 (by decide) ?_
                refine pl_i hx hb hK hP hL_this_a hK_this_a hN_this_a (vp_in_iff.mpr (by decide)) dX12_person_167 ?_
                refine lv_tov x_140 h_143 ?_
                refine lv_iconst (v := 1) hx hb dX12_person_168 (by decide) ?_
                refine lv_isub hx hb dX12_person_169 ?_
                refine lv_topi (fun x_145 ex_145 => ?_)
                have h_146 : rg x_145 0 39 := rg_of_eq ex_145 (rg_sub h_141 (rg_k (1 : Int32) 1 rfl) (by decide))
                have uh_146 := h_146.1
                have vh_146 := h_146.2
                have tx_145 : (x_145).toInt = (x_140).toInt - 1 := by rw [ex_145]; exact i_sub_rg (a2 := (x_140).toInt) (b2 := 1) rfl rfl h_141 (rg_k (1 : Int32) 1 rfl) (by decide)
                subst hQ
                exact W.iret (v := x_145) hx hb hr (fun t1 ht hW => ⟨⟨x_145, (σ, I, J, r_142, rj, rq), rfl, ⟨r_142, rfl, hG, (by have k0 : (-1 : Int32).toInt = -1 := rfl; omega), (rg_w h_146 (by decide))⟩, by rw [ht]; exact hP, va_K.moved hW.alike hK, hD⟩, hS.F ht⟩) hS.2.2 dX12_person_170
              · have tc_147 : (x_95).toInt = 40 := congrArg Int32.toInt c_98
                have h_148 : rg x_95 40 40 := rg_and h_96 (rg_of_eq c_98 (rg_k (40 : Int32) 40 rfl)) (by decide)
                have uh_148 := h_148.1
                have vh_148 := h_148.2
                refine lv_iconst (v := (-1)) hx hb dX12_person_61 (by decide) ?_
                subst hQ
                exact W.iret (v := (-1)) hx hb hr (fun t1 ht hW => ⟨⟨(-1), (σ, I, J, ri, rj, rq), rfl, ⟨ri, rfl, hG, (by have k0 : (-1 : Int32).toInt = -1 := rfl; omega), (rg_w (rg_k (-1 : Int32) (-1) rfl) (by decide))⟩, by rw [ht]; exact hP, va_K.moved hW.alike hK, hD⟩, hS.F ht⟩) hS.2.2 dX12_person_62
  exact go _ _ _ hP hD hS hl

set_option maxHeartbeats 4000000 in
set_option maxRecDepth 100000 in
theorem s_X12_lies_w (l : Launch) (D : va_G) (t : pq_T) (σ : pq_S) (I : Nat → Nat → Int32) (J : Nat → Nat → Int64) (ri : Nat → Nat → Int32) (rj : Nat → Nat → Int64) (rq : Nat → Nat → Option Nat) (sz : Nat) (tg : Nat → Nat) (hSH : SH σ tg) (hG0 : GT tg I ri) (this : Nat) (a0 : Int32) (a1 : Int32) (hL_this : this ∈ σ.1) (hK_this : σ.2.1 this = 12) (h_a0 : rg a0 0 29) (h_a1 : rg a1 0 39) (this_a : Nat) (hR_this_a : σ.2.2.1 384 this = some this_a) (hL_this_a : this_a ∈ σ.1) (hK_this_a : σ.2.1 this_a = 13) (hN_this_a : σ.2.2.2 this_a = 12720) (hT_this_a : tg this_a = 384) : MetV l yX12_lies (wa yX12_lies cX12_lies 4 none) ({ frames := 0, cells := 0, slots := 0, locals := 0 }) [.ref this, .int a0, .int a1] D t σ (I, J, ri, rj, rq) sz 0 0 (fun (u : pq_S × pq_M) => ∃ ri' : Nat → Nat → Int32, u = (σ, I, J, ri', rj, rq) ∧ GM [1700, 1702, 1701] tg σ I ri I ri' rq ∧ (∀ c, c < 30 → ri' this_a (2400 + 4 * c) = if c = (a0).toNatClampNeg then a1 else ri this_a (2400 + 4 * c))) := by
  refine Met.ofW (cc := cX12_lies) (maxL := 4) (ret := none) (by decide) rfl ?_
  intro p e s m args below meth c s₁ B hml hv
  obtain ⟨rfl, hsz, hP, hK, hD0, hN⟩ := hv
  have hx := B.exec
  have hb := B.bytes
  have hr := B.returns
  have hts := atoms_spec (ws := (wa yX12_lies cX12_lies 4 none)) B.pre
  have hown : s.vm.findClass RX12 = some m.cls := findClass_of_methodNamed B.named
  have hlocks := B.notSynchronized
  subst hsz
  have hD : va_D (pq_B t σ (I, J, ri, rj, rq) s.heap.size) (pq_P t σ (I, J, ri, rj, rq)) := hD0.self
  generalize hAe : pq_B t σ (I, J, ri, rj, rq) s.heap.size = A at hD ⊢
  have hA : ∀ q : Nat, s.heap.size ≤ q → A q := fun q h => by rw [← hAe]; exact Or.inr h
  have hS : va_S A s.heap s.heap [] := va_S.rf
  have hG : GM [1700, 1702, 1701] tg σ I ri I ri rq := ⟨hG0, fun _ _ _ => rfl, fun _ _ _ _ _ => rfl, fun _ _ _ _ _ _ => rfl⟩
  have hl := lv_entry ([.ref this, .int a0, .int a1]) (n := 4) (Nat.le_of_ble_eq_true rfl)
  rw [lg_entry_eq]
  generalize (lg_sl ([.ref this, .int a0, .int a1]) ++ List.replicate (4 - (lg_sl ([.ref this, .int a0, .int a1])).length) Slot.unset).toArray = ls at hl ⊢
  have hl : lv_has ls 4 [(0, .ref this), (1, .int a0), (2, .int a1)] := hl
  refine q_gen (fun Q hQ => ?_)
  have go : ∀ (H : Heap) (locs : List Loc) (ls : Array Slot), va_P D vwCl (pq_P t σ (I, J, ri, rj, rq)) H → va_D A (pq_P t σ (I, J, ri, rj, rq)) → va_S A s.heap H locs → lv_has ls 4 [(0, .ref this), (1, .int a0), (2, .int a1)] → W p l e ({ frames := 0, cells := 0, slots := 0, locals := 0 } : Room) s m (List.toArray ([.ref this, .int a0, .int a1] : List Value)) below meth c H locs 0 0 Q (F0 m 0 ls []) := by
    intro H locs ls hP hD hS hl
    refine lv_sipush (v := 2400) hx hb dX12_lies_0 (by decide) ?_
    refine lv_iconst (v := 4) hx hb dX12_lies_3 (by decide) ?_
    refine lv_iload_n hx hb dX12_lies_4 rfl (lv_at hl 1 rfl) ?_
    refine lv_imul hx hb dX12_lies_5 ?_
    refine lv_topi (fun x_1 ex_1 => ?_)
    have h_2 : rg x_1 0 116 := rg_of_eq ex_1 (rg_mul (rg_k (4 : Int32) 4 rfl) h_a0 (by decide))
    have uh_2 := h_2.1
    have vh_2 := h_2.2
    have tx_1 : (x_1).toInt = 4 * (a0).toInt := by rw [ex_1]; exact i_mul_rg (a2 := 4) (b2 := (a0).toInt) rfl rfl (rg_k (4 : Int32) 4 rfl) h_a0 (by decide)
    refine lv_iadd hx hb dX12_lies_6 ?_
    refine lv_topi (fun x_3 ex_3 => ?_)
    have h_4 : rg x_3 2400 2516 := rg_of_eq ex_3 (rg_add (rg_k (2400 : Int32) 2400 rfl) h_2 (by decide))
    have uh_4 := h_4.1
    have vh_4 := h_4.2
    have tx_3 : (x_3).toInt = 2400 + (x_1).toInt := by rw [ex_3]; exact i_add_rg (a2 := 2400) (b2 := (x_1).toInt) rfl rfl (rg_k (2400 : Int32) 2400 rfl) h_2 (by decide)
    refine lv_istore_n (lv' := [(3, .int x_3), (0, .ref this), (1, .int a0), (2, .int a1)]) hx hb dX12_lies_7 rfl hl (by decide) rfl (fun ls hl => ?_)
    refine lv_aload_n hx hb dX12_lies_8 rfl (lv_at hl 1 rfl) ?_
    refine pg_f (v := .ref this_a) (C := RX12) (T := TX12) (N := 31) hx hb hts (tw_i inlX12) hown hK hP hL_this hK_this (by decide) rfl 0 (by decide) (hts _ (tw_c tw_176)) (pq_hv rfl hR_this_a) dX12_lies_9 ?_
    refine lv_iload_n hx hb dX12_lies_12 rfl (lv_at hl 0 rfl) ?_
    refine lv_iload_n hx hb dX12_lies_13 rfl (lv_at hl 3 rfl) ?_
    refine pt_i hx hb hK hP hD hS hL_this_a hK_this_a hN_this_a (rg_in h_4 (by decide)) dX12_lies_14 (fun r_5 H locs er_5 hP hD hS => ?_)
    have hG := GM.wz hG hT_this_a (by decide) er_5 (zn_GRAVE (c := a0.toNatClampNeg) (k := 0) (by have z_i := clampE x_3; have z_0 := clampE a0; omega) (rg_cl1 h_a0 (by decide)) (by decide)) rfl (rg_w h_a1 (by decide)) (by decide)
    refine lv_iload_n hx hb dX12_lies_15 rfl (lv_at hl 3 rfl) ?_
    refine lv_bipush (v := 20) hx hb dX12_lies_16 (by decide) ?_
    refine lv_icmp_ge (tgt := 38) hx hb dX12_lies_18 (by decide) (fun c_6 => ?_) (fun c_6 => ?_)
    · have tc_7 : 20 ≤ (a1).toInt := Int32.le_iff_toInt_le.mp c_6
      have h_8 : rg a1 20 39 := rg_le2 c_6 (rg_k (20 : Int32) 20 rfl) h_a1 (by decide)
      have uh_8 := h_8.1
      have vh_8 := h_8.2
      refine lv_aload_n hx hb dX12_lies_38 rfl (lv_at hl 1 rfl) ?_
      refine pg_f (v := .ref this_a) (C := RX12) (T := TX12) (N := 31) hx hb hts (tw_i inlX12) hown hK hP hL_this hK_this (by decide) rfl 0 (by decide) (hts _ (tw_c tw_176)) (pq_hv rfl hR_this_a) dX12_lies_39 ?_
      refine lv_iload_n hx hb dX12_lies_42 rfl (lv_at hl 0 rfl) ?_
      refine lv_iconst (v := 2) hx hb dX12_lies_43 (by decide) ?_
      refine lv_iadd hx hb dX12_lies_44 ?_
      refine lv_topi (fun x_9 ex_9 => ?_)
      have h_10 : rg x_9 2402 2518 := rg_of_eq ex_9 (rg_add h_4 (rg_k (2 : Int32) 2 rfl) (by decide))
      have uh_10 := h_10.1
      have vh_10 := h_10.2
      have tx_9 : (x_9).toInt = (x_3).toInt + 2 := by rw [ex_9]; exact i_add_rg (a2 := (x_3).toInt) (b2 := 2) rfl rfl h_4 (rg_k (2 : Int32) 2 rfl) (by decide)
      refine lv_dup2_11 hx hb dX12_lies_45 rfl rfl ?_
      refine pl_i hx hb hK hP hL_this_a hK_this_a hN_this_a (rg_in h_10 (by decide)) dX12_lies_46 ?_
      refine lv_topi (fun x_11 ex_11 => ?_)
      refine lv_iconst (v := 1) hx hb dX12_lies_47 (by decide) ?_
      refine lv_iload_n hx hb dX12_lies_48 rfl (lv_at hl 3 rfl) ?_
      refine lv_bipush (v := 20) hx hb dX12_lies_49 (by decide) ?_
      refine lv_isub hx hb dX12_lies_51 ?_
      refine lv_topi (fun x_12 ex_12 => ?_)
      have h_13 : rg x_12 0 19 := rg_of_eq ex_12 (rg_sub h_8 (rg_k (20 : Int32) 20 rfl) (by decide))
      have uh_13 := h_13.1
      have vh_13 := h_13.2
      have tx_12 : (x_12).toInt = (a1).toInt - 20 := by rw [ex_12]; exact i_sub_rg (a2 := (a1).toInt) (b2 := 20) rfl rfl h_8 (rg_k (20 : Int32) 20 rfl) (by decide)
      refine lv_ishl hx hb dX12_lies_52 ?_
      refine lv_topi (fun x_14 ex_14 => ?_)
      refine lv_ior hx hb dX12_lies_53 ?_
      refine lv_topi (fun x_15 ex_15 => ?_)
      refine pt_i hx hb hK hP hD hS hL_this_a hK_this_a hN_this_a (rg_in h_10 (by decide)) dX12_lies_54 (fun r_16 H locs er_16 hP hD hS => ?_)
      have hG := GM.wz hG hT_this_a (by decide) er_16 (zn_GRAVE (c := a0.toNatClampNeg) (k := 2) (by have z_i := clampE x_9; have z_0 := clampE a0; omega) (rg_cl1 h_a0 (by decide)) (by decide)) rfl (rg_w (rg_full _) (by decide)) (by decide)
      subst hQ
      exact W.vret hx hb hr (fun t1 ht hW => ⟨⟨(σ, I, J, r_16, rj, rq), rfl, ⟨r_16, rfl, hG, (zv_c (fun c _ => zw_c (b := 2400) (s := 4) (n := a0.toNatClampNeg) er_5 (by have z_i := clampE x_3; have z_0 := clampE a0; omega) (by decide) c) (zo_c (b := 2400) (s := 4) (N := 30) er_16 (zn_GRAVE (c := a0.toNatClampNeg) (k := 2) (by have z_i := clampE x_9; have z_0 := clampE a0; omega) (rg_cl1 h_a0 (by decide)) (by decide)) z700 (by decide)))⟩, by rw [ht]; exact hP, va_K.moved hW.alike hK, hD⟩, hS.F ht⟩) hS.2.2 dX12_lies_55
    · have tc_17 : (a1).toInt < 20 := Int32.lt_iff_toInt_lt.mp (nle c_6)
      have h_18 : rg a1 0 19 := rg_lt1 (nle c_6) h_a1 (rg_k (20 : Int32) 20 rfl) (by decide)
      have uh_18 := h_18.1
      have vh_18 := h_18.2
      refine lv_aload_n hx hb dX12_lies_21 rfl (lv_at hl 1 rfl) ?_
      refine pg_f (v := .ref this_a) (C := RX12) (T := TX12) (N := 31) hx hb hts (tw_i inlX12) hown hK hP hL_this hK_this (by decide) rfl 0 (by decide) (hts _ (tw_c tw_176)) (pq_hv rfl hR_this_a) dX12_lies_22 ?_
      refine lv_iload_n hx hb dX12_lies_25 rfl (lv_at hl 0 rfl) ?_
      refine lv_iconst (v := 1) hx hb dX12_lies_26 (by decide) ?_
      refine lv_iadd hx hb dX12_lies_27 ?_
      refine lv_topi (fun x_19 ex_19 => ?_)
      have h_20 : rg x_19 2401 2517 := rg_of_eq ex_19 (rg_add h_4 (rg_k (1 : Int32) 1 rfl) (by decide))
      have uh_20 := h_20.1
      have vh_20 := h_20.2
      have tx_19 : (x_19).toInt = (x_3).toInt + 1 := by rw [ex_19]; exact i_add_rg (a2 := (x_3).toInt) (b2 := 1) rfl rfl h_4 (rg_k (1 : Int32) 1 rfl) (by decide)
      refine lv_dup2_11 hx hb dX12_lies_28 rfl rfl ?_
      refine pl_i hx hb hK hP hL_this_a hK_this_a hN_this_a (rg_in h_20 (by decide)) dX12_lies_29 ?_
      refine lv_topi (fun x_21 ex_21 => ?_)
      refine lv_iconst (v := 1) hx hb dX12_lies_30 (by decide) ?_
      refine lv_iload_n hx hb dX12_lies_31 rfl (lv_at hl 3 rfl) ?_
      refine lv_ishl hx hb dX12_lies_32 ?_
      refine lv_topi (fun x_22 ex_22 => ?_)
      refine lv_ior hx hb dX12_lies_33 ?_
      refine lv_topi (fun x_23 ex_23 => ?_)
      refine pt_i hx hb hK hP hD hS hL_this_a hK_this_a hN_this_a (rg_in h_20 (by decide)) dX12_lies_34 (fun r_24 H locs er_24 hP hD hS => ?_)
      have hG := GM.wz hG hT_this_a (by decide) er_24 (zn_GRAVE (c := a0.toNatClampNeg) (k := 1) (by have z_i := clampE x_19; have z_0 := clampE a0; omega) (rg_cl1 h_a0 (by decide)) (by decide)) rfl (rg_w (rg_full _) (by decide)) (by decide)
      refine lv_goto (tgt := 55) hx hb dX12_lies_35 (by decide) ?_
      subst hQ
      exact W.vret hx hb hr (fun t1 ht hW => ⟨⟨(σ, I, J, r_24, rj, rq), rfl, ⟨r_24, rfl, hG, (zv_c (fun c _ => zw_c (b := 2400) (s := 4) (n := a0.toNatClampNeg) er_5 (by have z_i := clampE x_3; have z_0 := clampE a0; omega) (by decide) c) (zo_c (b := 2400) (s := 4) (N := 30) er_24 (zn_GRAVE (c := a0.toNatClampNeg) (k := 1) (by have z_i := clampE x_19; have z_0 := clampE a0; omega) (rg_cl1 h_a0 (by decide)) (by decide)) z700 (by decide)))⟩, by rw [ht]; exact hP, va_K.moved hW.alike hK, hD⟩, hS.F ht⟩) hS.2.2 dX12_lies_55
  exact go _ _ _ hP hD hS hl

set_option maxHeartbeats 4000000 in
set_option maxRecDepth 100000 in
theorem s_X12_grave_w (l : Launch) (D : va_G) (t : pq_T) (σ : pq_S) (I : Nat → Nat → Int32) (J : Nat → Nat → Int64) (ri : Nat → Nat → Int32) (rj : Nat → Nat → Int64) (rq : Nat → Nat → Option Nat) (sz : Nat) (tg : Nat → Nat) (hSH : SH σ tg) (hG0 : GT tg I ri) (this : Nat) (a0 : Int32) (hL_this : this ∈ σ.1) (hK_this : σ.2.1 this = 12) (this_a : Nat) (hR_this_a : σ.2.2.1 384 this = some this_a) (hL_this_a : this_a ∈ σ.1) (hK_this_a : σ.2.1 this_a = 13) (hN_this_a : σ.2.2.2 this_a = 12720) (hT_this_a : tg this_a = 384) : MetI l yX12_grave (wa yX12_grave cX12_grave 2 (some .int)) ({ frames := 2, cells := 0, slots := 0, locals := 43 }) [.ref this, .int a0] D t σ (I, J, ri, rj, rq) sz 0 0 (fun (r : Int32) (u : pq_S × pq_M) => ∃ ri' : Nat → Nat → Int32, u = (σ, I, J, ri', rj, rq) ∧ GM [1700, 1702, 1701, 1010] tg σ I ri I ri' rq ∧ ((((0 ≤ a0.toInt ∧ a0.toInt < (ri this_a 2).toInt) ∧ (ri this_a 10).toInt < 30) ∧ r.toInt = (ri this_a 10).toInt ∧ (ri' this_a 10).toInt = (ri this_a 10).toInt + 1) ∨ (¬ ((0 ≤ a0.toInt ∧ a0.toInt < (ri this_a 2).toInt) ∧ (ri this_a 10).toInt < 30) ∧ r.toInt = -1 ∧ (ri' this_a 10).toInt = (ri this_a 10).toInt)) ∧ ((((0 ≤ a0.toInt ∧ a0.toInt < (ri this_a 2).toInt) ∧ (ri this_a 10).toInt < 30) ∧ ∀ c, c < 30 → ri' this_a (2400 + 4 * c) = if c = (ri this_a 10).toNatClampNeg then a0 else ri this_a (2400 + 4 * c)) ∨ (¬ ((0 ≤ a0.toInt ∧ a0.toInt < (ri this_a 2).toInt) ∧ (ri this_a 10).toInt < 30) ∧ ∀ c, c < 30 → ri' this_a (2400 + 4 * c) = ri this_a (2400 + 4 * c))) ∧ rg r (-1) 29) := by
  refine Met.ofW (cc := cX12_grave) (maxL := 2) (ret := (some .int)) (by decide) rfl ?_
  intro p e s m args below meth c s₁ B hml hv
  obtain ⟨rfl, hsz, hP, hK, hD0, hN⟩ := hv
  have hx := B.exec
  have hb := B.bytes
  have hr := B.returns
  have hts := atoms_spec (ws := (wa yX12_grave cX12_grave 2 (some .int))) B.pre
  have hown : s.vm.findClass RX12 = some m.cls := findClass_of_methodNamed B.named
  have hlocks := B.notSynchronized
  subst hsz
  have hD : va_D (pq_B t σ (I, J, ri, rj, rq) s.heap.size) (pq_P t σ (I, J, ri, rj, rq)) := hD0.self
  generalize hAe : pq_B t σ (I, J, ri, rj, rq) s.heap.size = A at hD ⊢
  have hA : ∀ q : Nat, s.heap.size ≤ q → A q := fun q h => by rw [← hAe]; exact Or.inr h
  have hS : va_S A s.heap s.heap [] := va_S.rf
  have hG : GM [1700, 1702, 1701, 1010] tg σ I ri I ri rq := ⟨hG0, fun _ _ _ => rfl, fun _ _ _ _ _ => rfl, fun _ _ _ _ _ _ => rfl⟩
  have hl := lv_entry ([.ref this, .int a0]) (n := 2) (Nat.le_of_ble_eq_true rfl)
  rw [lg_entry_eq]
  generalize (lg_sl ([.ref this, .int a0]) ++ List.replicate (2 - (lg_sl ([.ref this, .int a0])).length) Slot.unset).toArray = ls at hl ⊢
  have hl : lv_has ls 2 [(0, .ref this), (1, .int a0)] := hl
  refine q_gen (fun Q hQ => ?_)
  have go : ∀ (H : Heap) (locs : List Loc) (ls : Array Slot), va_P D vwCl (pq_P t σ (I, J, ri, rj, rq)) H → va_D A (pq_P t σ (I, J, ri, rj, rq)) → va_S A s.heap H locs → lv_has ls 2 [(0, .ref this), (1, .int a0)] → W p l e ({ frames := 2, cells := 0, slots := 0, locals := 43 } : Room) s m (List.toArray ([.ref this, .int a0] : List Value)) below meth c H locs 0 0 Q (F0 m 0 ls []) := by
    intro H locs ls hP hD hS hl
    refine lv_aload_n hx hb dX12_grave_0 rfl (lv_at hl 0 rfl) ?_
    refine lv_iload_n hx hb dX12_grave_1 rfl (lv_at hl 1 rfl) ?_
    refine pk_i (va_runV (As := [.int a0]) (rest := []) ⟨hx, hb, hml, hown, hts⟩ (s_X12_isCell_w l D t σ I J ri rj rq H.size tg hSH hG.1 this a0 hL_this hK_this this_a hR_this_a hL_this_a hK_this_a hN_this_a hT_this_a) (cwV 1 hts (tw_V tw_340 tw_341 tw_342 tw_5 tw_343) rfl rfl rfl cv_yX12_isCell_1 ⟨Nat.le_of_ble_eq_true rfl, Nat.le_of_ble_eq_true rfl⟩) ⟨pq_blind, pq_recv hK hP hL_this hK_this (by decide) rfl, pq_pre hK hN hP hD⟩ rfl rfl hl.1 rfl (lv_room (Nat.le_of_ble_eq_true rfl)) dX12_grave_2 ⟨Nat.le_of_ble_eq_true rfl, Nat.le_of_ble_eq_true rfl⟩) hD hS hA (fun x_1 σ1 μ1 H locs hw_2 hP hD hS => ?_)
    obtain ⟨hu_3, hr_5⟩ := hw_2
    obtain ⟨hu_3a, hu_3b⟩ := Prod.mk.inj hu_3
    rw [hu_3a, hu_3b] at hP hD
    have h_6 : rg x_1 0 1 := by rcases hr_5 with ⟨q, -⟩ | ⟨q, -⟩ <;> rw [q] <;> exact ⟨by decide, by decide⟩
    have uh_6 := h_6.1
    have vh_6 := h_6.2
    refine lv_if_eq (tgt := 20) hx hb dX12_grave_5 (by decide) (fun c_7 => ?_) (fun c_7 => ?_)
    · have f_8 := (hr_5.resolve_left (fun q => absurd (q.1.symm.trans c_7) (by decide))).2
      have tc_9 : (x_1).toInt = 0 := congrArg Int32.toInt c_7
      have h_10 : rg x_1 0 0 := rg_and h_6 (rg_of_eq c_7 (rg_k (0 : Int32) 0 rfl)) (by decide)
      have uh_10 := h_10.1
      have vh_10 := h_10.2
      refine lv_iconst (v := (-1)) hx hb dX12_grave_20 (by decide) ?_
      subst hQ
      exact W.iret (v := (-1)) hx hb hr (fun t1 ht hW => ⟨⟨(-1), (σ, I, J, ri, rj, rq), rfl, ⟨ri, rfl, hG, (by have k0 : (-1 : Int32).toInt = -1 := rfl; omega), (Or.inr ⟨by omega, (fun _ _ => rfl)⟩), (rg_w (rg_k (-1 : Int32) (-1) rfl) (by decide))⟩, by rw [ht]; exact hP, va_K.moved hW.alike hK, hD⟩, hS.F ht⟩) hS.2.2 dX12_grave_21
    · obtain ⟨f_11, f_12⟩ := (hr_5.resolve_right (fun q => c_7 q.1)).2
      have uf_11 := f_11.1
      have vf_11 := f_11.2
      have tc_13 : (x_1).toInt ≠ 0 := fun q => c_7 (Int32.toInt_inj.mp q)
      have h_14 : rg x_1 1 1 := rg_ne c_7 h_6 0 rfl (by decide)
      have uh_14 := h_14.1
      have vh_14 := h_14.2
      refine lv_aload_n hx hb dX12_grave_8 rfl (lv_at hl 0 rfl) ?_
      refine pg_f (v := .ref this_a) (C := RX12) (T := TX12) (N := 31) hx hb hts (tw_i inlX12) hown hK hP hL_this hK_this (by decide) rfl 0 (by decide) (hts _ (tw_c tw_176)) (pq_hv rfl hR_this_a) dX12_grave_9 ?_
      refine lv_bipush (v := 10) hx hb dX12_grave_12 (by decide) ?_
      refine pl_i hx hb hK hP hL_this_a hK_this_a hN_this_a (vp_in_iff.mpr (by decide)) dX12_grave_14 ?_
      refine lv_topi (fun x_15 ex_15 => ?_)
      have ex_15 : x_15 = ri this_a ((10 : Int32)).toNatClampNeg := ex_15
      have h_16 : rg x_15 0 30 := rg_of_eq ex_15 (GM.z hG (by rw [hT_this_a]; decide) (show zn ((10 : Int32)).toNatClampNeg = 10 from by decide) rfl)
      have uh_16 := h_16.1
      have vh_16 := h_16.2
      have tt_17 : (ri this_a 10).toInt = (x_15).toInt := congrArg Int32.toInt (show ri this_a 10 = x_15 from ex_15.symm)
      refine lv_bipush (v := 30) hx hb dX12_grave_15 (by decide) ?_
      refine lv_icmp_ne (tgt := 22) hx hb dX12_grave_17 (by decide) (fun c_18 => ?_) (fun c_18 => ?_)
      · have tc_19 : (x_15).toInt ≠ 30 := fun q => c_18 (Int32.toInt_inj.mp q)
        have h_20 : rg x_15 0 29 := rg_ne c_18 h_16 30 rfl (by decide)
        have uh_20 := h_20.1
        have vh_20 := h_20.2
        refine lv_aload_n hx hb dX12_grave_22 rfl (lv_at hl 0 rfl) ?_
        refine lv_aload_n hx hb dX12_grave_23 rfl (lv_at hl 0 rfl) ?_
        refine pg_f (v := .ref this_a) (C := RX12) (T := TX12) (N := 31) hx hb hts (tw_i inlX12) hown hK hP hL_this hK_this (by decide) rfl 0 (by decide) (hts _ (tw_c tw_176)) (pq_hv rfl hR_this_a) dX12_grave_24 ?_
        refine lv_bipush (v := 10) hx hb dX12_grave_27 (by decide) ?_
        refine pl_i hx hb hK hP hL_this_a hK_this_a hN_this_a (vp_in_iff.mpr (by decide)) dX12_grave_29 ?_
        refine lv_tov x_15 ex_15.symm ?_
        refine lv_iload_n hx hb dX12_grave_30 rfl (lv_at hl 1 rfl) ?_
        refine pk_v (va_runV (As := [.int x_15, .int a0]) (rest := []) ⟨hx, hb, hml, hown, hts⟩ (s_X12_lies_w l D t σ I J ri rj rq H.size tg hSH hG.1 this x_15 a0 hL_this hK_this (rg_w h_20 (by decide)) (rg_w f_11 (by decide)) this_a hR_this_a hL_this_a hK_this_a hN_this_a hT_this_a) (cwV 2 hts (tw_V tw_1509 tw_1510 tw_1511 tw_5 tw_1512) rfl rfl rfl cv_yX12_lies_2 ⟨Nat.le_of_ble_eq_true rfl, Nat.le_of_ble_eq_true rfl⟩) ⟨pq_blind, pq_recv hK hP hL_this hK_this (by decide) rfl, pq_pre hK hN hP hD⟩ rfl rfl hl.1 rfl (lv_room (Nat.le_of_ble_eq_true rfl)) dX12_grave_31 ⟨Nat.le_of_ble_eq_true rfl, Nat.le_of_ble_eq_true rfl⟩) hD hS hA (fun σ1 μ1 H locs hw_22 hP hD hS => ?_)
        obtain ⟨ri_23, hu_24, hg_25, hp_27⟩ := hw_22
        obtain ⟨hu_24a, hu_24b⟩ := Prod.mk.inj hu_24
        rw [hu_24a, hu_24b] at hP hD
        have tt_28 : (ri_23 this_a 10).toInt = (ri this_a 10).toInt := congrArg Int32.toInt (hg_25.2.2.1 this_a hT_this_a 10 (by decide) (by decide))
        have hG := GM.tr hG hg_25 (by decide)
        refine lv_aload_n hx hb dX12_grave_34 rfl (lv_at hl 0 rfl) ?_
        refine pg_f (v := .ref this_a) (C := RX12) (T := TX12) (N := 31) hx hb hts (tw_i inlX12) hown hK hP hL_this hK_this (by decide) rfl 0 (by decide) (hts _ (tw_c tw_176)) (pq_hv rfl hR_this_a) dX12_grave_35 ?_
        refine lv_bipush (v := 10) hx hb dX12_grave_38 (by decide) ?_
        refine lv_dup2_11 hx hb dX12_grave_40 rfl rfl ?_
        refine pl_i hx hb hK hP hL_this_a hK_this_a hN_this_a (vp_in_iff.mpr (by decide)) dX12_grave_41 ?_
        refine lv_tov x_15 ((hg_25.2.2.1 this_a hT_this_a 10 (by decide) (by decide)).trans ex_15.symm) ?_
        refine lv_iconst (v := 1) hx hb dX12_grave_42 (by decide) ?_
        refine lv_iadd hx hb dX12_grave_43 ?_
        refine lv_topi (fun x_29 ex_29 => ?_)
        have h_30 : rg x_29 1 30 := rg_of_eq ex_29 (rg_add h_20 (rg_k (1 : Int32) 1 rfl) (by decide))
        have uh_30 := h_30.1
        have vh_30 := h_30.2
        have tx_29 : (x_29).toInt = (x_15).toInt + 1 := by rw [ex_29]; exact i_add_rg (a2 := (x_15).toInt) (b2 := 1) rfl rfl h_20 (rg_k (1 : Int32) 1 rfl) (by decide)
        refine pt_i hx hb hK hP hD hS hL_this_a hK_this_a hN_this_a (vp_in_iff.mpr (by decide)) dX12_grave_44 (fun r_31 H locs er_31 hP hD hS => ?_)
        have hG := GM.wz hG hT_this_a (by decide) er_31 (show zn ((10 : Int32)).toNatClampNeg = 10 from by decide) rfl (rg_w h_30 (by decide)) (by decide)
        have h_32 : r_31 this_a 10 = x_29 := cz_eq er_31
        have tt_33 : (r_31 this_a 10).toInt = (x_29).toInt := congrArg Int32.toInt (show r_31 this_a 10 = x_29 from cz_eq er_31)
        refine lv_aload_n hx hb dX12_grave_45 rfl (lv_at hl 0 rfl) ?_
        refine pg_f (v := .ref this_a) (C := RX12) (T := TX12) (N := 31) hx hb hts (tw_i inlX12) hown hK hP hL_this hK_this (by decide) rfl 0 (by decide) (hts _ (tw_c tw_176)) (pq_hv rfl hR_this_a) dX12_grave_46 ?_
        refine lv_bipush (v := 10) hx hb dX12_grave_49 (by decide) ?_
        refine pl_i hx hb hK hP hL_this_a hK_this_a hN_this_a (vp_in_iff.mpr (by decide)) dX12_grave_51 ?_
        refine lv_tov x_29 h_32 ?_
        refine lv_iconst (v := 1) hx hb dX12_grave_52 (by decide) ?_
        refine lv_isub hx hb dX12_grave_53 ?_
        refine lv_topi (fun x_34 ex_34 => ?_)
        have h_35 : rg x_34 0 29 := rg_of_eq ex_34 (rg_sub h_30 (rg_k (1 : Int32) 1 rfl) (by decide))
        have uh_35 := h_35.1
        have vh_35 := h_35.2
        have tx_34 : (x_34).toInt = (x_29).toInt - 1 := by rw [ex_34]; exact i_sub_rg (a2 := (x_29).toInt) (b2 := 1) rfl rfl h_30 (rg_k (1 : Int32) 1 rfl) (by decide)
        subst hQ
        exact W.iret (v := x_34) hx hb hr (fun t1 ht hW => ⟨⟨x_34, (σ, I, J, r_31, rj, rq), rfl, ⟨r_31, rfl, hG, (by have k0 : (-1 : Int32).toInt = -1 := rfl; omega), (Or.inl ⟨by omega, by rw [show ri this_a 10 = x_15 from ex_15.symm]; exact (zv_c hp_27 (zo_c (b := 2400) (s := 4) (N := 30) er_31 (show zn ((10 : Int32)).toNatClampNeg = 10 from by decide) z700 (by decide)))⟩), (rg_w h_35 (by decide))⟩, by rw [ht]; exact hP, va_K.moved hW.alike hK, hD⟩, hS.F ht⟩) hS.2.2 dX12_grave_54
      · have tc_36 : (x_15).toInt = 30 := congrArg Int32.toInt c_18
        have h_37 : rg x_15 30 30 := rg_and h_16 (rg_of_eq c_18 (rg_k (30 : Int32) 30 rfl)) (by decide)
        have uh_37 := h_37.1
        have vh_37 := h_37.2
        refine lv_iconst (v := (-1)) hx hb dX12_grave_20 (by decide) ?_
        subst hQ
        exact W.iret (v := (-1)) hx hb hr (fun t1 ht hW => ⟨⟨(-1), (σ, I, J, ri, rj, rq), rfl, ⟨ri, rfl, hG, (by have k0 : (-1 : Int32).toInt = -1 := rfl; omega), (Or.inr ⟨by omega, (fun _ _ => rfl)⟩), (rg_w (rg_k (-1 : Int32) (-1) rfl) (by decide))⟩, by rw [ht]; exact hP, va_K.moved hW.alike hK, hD⟩, hS.F ht⟩) hS.2.2 dX12_grave_21
  exact go _ _ _ hP hD hS hl

set_option maxHeartbeats 4000000 in
set_option maxRecDepth 100000 in
theorem s_X12_cellAt_w_c6 (l : Launch) (D : va_G) (t : pq_T) (σ : pq_S) (I : Nat → Nat → Int32) (J : Nat → Nat → Int64) (ri : Nat → Nat → Int32) (rj : Nat → Nat → Int64) (rq : Nat → Nat → Option Nat) (sz : Nat) (tg : Nat → Nat) (hSH : SH σ tg) (hG0 : GT tg I ri) (this : Nat) (a0 : Int32) (hL_this : this ∈ σ.1) (hK_this : σ.2.1 this = 12) (h_a0 : rg a0 0 39) (this_a : Nat) (hR_this_a : σ.2.2.1 384 this = some this_a) (hL_this_a : this_a ∈ σ.1) (hK_this_a : σ.2.1 this_a = 13) (hN_this_a : σ.2.2.2 this_a = 12720) (hT_this_a : tg this_a = 384) : MetI l yX12_cellAt (wa yX12_cellAt cX12_cellAt 3 (some .int)) ({ frames := 0, cells := 0, slots := 0, locals := 0 }) [.ref this, .int a0, .int 6] D t σ (I, J, ri, rj, rq) sz 0 0 (fun (r : Int32) (u : pq_S × pq_M) => u = (σ, I, J, ri, rj, rq) ∧ (r = ri this_a (106 + 16 * a0.toNatClampNeg))) := by
  refine Met.ofW (cc := cX12_cellAt) (maxL := 3) (ret := (some .int)) (by decide) rfl ?_
  intro p e s m args below meth c s₁ B hml hv
  obtain ⟨rfl, hsz, hP, hK, hD0, hN⟩ := hv
  have hx := B.exec
  have hb := B.bytes
  have hr := B.returns
  have hts := atoms_spec (ws := (wa yX12_cellAt cX12_cellAt 3 (some .int))) B.pre
  have hown : s.vm.findClass RX12 = some m.cls := findClass_of_methodNamed B.named
  have hlocks := B.notSynchronized
  subst hsz
  have hD : va_D (pq_B t σ (I, J, ri, rj, rq) s.heap.size) (pq_P t σ (I, J, ri, rj, rq)) := hD0.self
  generalize hAe : pq_B t σ (I, J, ri, rj, rq) s.heap.size = A at hD ⊢
  have hA : ∀ q : Nat, s.heap.size ≤ q → A q := fun q h => by rw [← hAe]; exact Or.inr h
  have hS : va_S A s.heap s.heap [] := va_S.rf
  have hG : GM [] tg σ I ri I ri rq := ⟨hG0, fun _ _ _ => rfl, fun _ _ _ _ _ => rfl, fun _ _ _ _ _ _ => rfl⟩
  have hl := lv_entry ([.ref this, .int a0, .int 6]) (n := 3) (Nat.le_of_ble_eq_true rfl)
  rw [lg_entry_eq]
  generalize (lg_sl ([.ref this, .int a0, .int 6]) ++ List.replicate (3 - (lg_sl ([.ref this, .int a0, .int 6])).length) Slot.unset).toArray = ls at hl ⊢
  have hl : lv_has ls 3 [(0, .ref this), (1, .int a0), (2, .int 6)] := hl
  refine q_gen (fun Q hQ => ?_)
  have go : ∀ (H : Heap) (locs : List Loc) (ls : Array Slot), va_P D vwCl (pq_P t σ (I, J, ri, rj, rq)) H → va_D A (pq_P t σ (I, J, ri, rj, rq)) → va_S A s.heap H locs → lv_has ls 3 [(0, .ref this), (1, .int a0), (2, .int 6)] → W p l e ({ frames := 0, cells := 0, slots := 0, locals := 0 } : Room) s m (List.toArray ([.ref this, .int a0, .int 6] : List Value)) below meth c H locs 0 0 Q (F0 m 0 ls []) := by
    intro H locs ls hP hD hS hl
    refine lv_aload_n hx hb dX12_cellAt_0 rfl (lv_at hl 0 rfl) ?_
    refine pg_f (v := .ref this_a) (C := RX12) (T := TX12) (N := 31) hx hb hts (tw_i inlX12) hown hK hP hL_this hK_this (by decide) rfl 0 (by decide) (hts _ (tw_c tw_176)) (pq_hv rfl hR_this_a) dX12_cellAt_1 ?_
    refine lv_bipush (v := 100) hx hb dX12_cellAt_4 (by decide) ?_
    refine lv_bipush (v := 16) hx hb dX12_cellAt_6 (by decide) ?_
    refine lv_iload_n hx hb dX12_cellAt_8 rfl (lv_at hl 1 rfl) ?_
    refine lv_imul hx hb dX12_cellAt_9 ?_
    refine lv_topi (fun x_1 ex_1 => ?_)
    have h_2 : rg x_1 0 624 := rg_of_eq ex_1 (rg_mul (rg_k (16 : Int32) 16 rfl) h_a0 (by decide))
    have uh_2 := h_2.1
    have vh_2 := h_2.2
    have tx_1 : (x_1).toInt = 16 * (a0).toInt := by rw [ex_1]; exact i_mul_rg (a2 := 16) (b2 := (a0).toInt) rfl rfl (rg_k (16 : Int32) 16 rfl) h_a0 (by decide)
    refine lv_iadd hx hb dX12_cellAt_10 ?_
    refine lv_topi (fun x_3 ex_3 => ?_)
    have h_4 : rg x_3 100 724 := rg_of_eq ex_3 (rg_add (rg_k (100 : Int32) 100 rfl) h_2 (by decide))
    have uh_4 := h_4.1
    have vh_4 := h_4.2
    have tx_3 : (x_3).toInt = 100 + (x_1).toInt := by rw [ex_3]; exact i_add_rg (a2 := 100) (b2 := (x_1).toInt) rfl rfl (rg_k (100 : Int32) 100 rfl) h_2 (by decide)
    refine lv_iload_n hx hb dX12_cellAt_11 rfl (lv_at hl 2 rfl) ?_
    refine lv_iadd hx hb dX12_cellAt_12 ?_
    refine lv_topi (fun x_5 ex_5 => ?_)
    have h_6 : rg x_5 106 730 := rg_of_eq ex_5 (rg_add h_4 (rg_k (6 : Int32) 6 rfl) (by decide))
    have uh_6 := h_6.1
    have vh_6 := h_6.2
    have tx_5 : (x_5).toInt = (x_3).toInt + 6 := by rw [ex_5]; exact i_add_rg (a2 := (x_3).toInt) (b2 := 6) rfl rfl h_4 (rg_k (6 : Int32) 6 rfl) (by decide)
    refine pl_i hx hb hK hP hL_this_a hK_this_a hN_this_a (rg_in h_6 (by decide)) dX12_cellAt_13 ?_
    refine lv_topi (fun x_7 ex_7 => ?_)
    subst hQ
    exact W.iret (v := x_7) hx hb hr (fun t1 ht hW => ⟨⟨x_7, (σ, I, J, ri, rj, rq), rfl, ⟨rfl, (show x_7 = ri this_a (106 + 16 * a0.toNatClampNeg) from ex_7.trans (congrArg (ri this_a) (by have z0 := clampE a0; have z1 := clampE x_5; omega)))⟩, by rw [ht]; exact hP, va_K.moved hW.alike hK, hD⟩, hS.F ht⟩) hS.2.2 dX12_cellAt_14
  exact go _ _ _ hP hD hS hl

set_option maxHeartbeats 4000000 in
set_option maxRecDepth 100000 in
theorem s_X12_cellAt_w_c4 (l : Launch) (D : va_G) (t : pq_T) (σ : pq_S) (I : Nat → Nat → Int32) (J : Nat → Nat → Int64) (ri : Nat → Nat → Int32) (rj : Nat → Nat → Int64) (rq : Nat → Nat → Option Nat) (sz : Nat) (tg : Nat → Nat) (hSH : SH σ tg) (hG0 : GT tg I ri) (this : Nat) (a0 : Int32) (hL_this : this ∈ σ.1) (hK_this : σ.2.1 this = 12) (h_a0 : rg a0 0 39) (this_a : Nat) (hR_this_a : σ.2.2.1 384 this = some this_a) (hL_this_a : this_a ∈ σ.1) (hK_this_a : σ.2.1 this_a = 13) (hN_this_a : σ.2.2.2 this_a = 12720) (hT_this_a : tg this_a = 384) : MetI l yX12_cellAt (wa yX12_cellAt cX12_cellAt 3 (some .int)) ({ frames := 0, cells := 0, slots := 0, locals := 0 }) [.ref this, .int a0, .int 4] D t σ (I, J, ri, rj, rq) sz 0 0 (fun (r : Int32) (u : pq_S × pq_M) => u = (σ, I, J, ri, rj, rq) ∧ (r = ri this_a (104 + 16 * a0.toNatClampNeg))) := by
  refine Met.ofW (cc := cX12_cellAt) (maxL := 3) (ret := (some .int)) (by decide) rfl ?_
  intro p e s m args below meth c s₁ B hml hv
  obtain ⟨rfl, hsz, hP, hK, hD0, hN⟩ := hv
  have hx := B.exec
  have hb := B.bytes
  have hr := B.returns
  have hts := atoms_spec (ws := (wa yX12_cellAt cX12_cellAt 3 (some .int))) B.pre
  have hown : s.vm.findClass RX12 = some m.cls := findClass_of_methodNamed B.named
  have hlocks := B.notSynchronized
  subst hsz
  have hD : va_D (pq_B t σ (I, J, ri, rj, rq) s.heap.size) (pq_P t σ (I, J, ri, rj, rq)) := hD0.self
  generalize hAe : pq_B t σ (I, J, ri, rj, rq) s.heap.size = A at hD ⊢
  have hA : ∀ q : Nat, s.heap.size ≤ q → A q := fun q h => by rw [← hAe]; exact Or.inr h
  have hS : va_S A s.heap s.heap [] := va_S.rf
  have hG : GM [] tg σ I ri I ri rq := ⟨hG0, fun _ _ _ => rfl, fun _ _ _ _ _ => rfl, fun _ _ _ _ _ _ => rfl⟩
  have hl := lv_entry ([.ref this, .int a0, .int 4]) (n := 3) (Nat.le_of_ble_eq_true rfl)
  rw [lg_entry_eq]
  generalize (lg_sl ([.ref this, .int a0, .int 4]) ++ List.replicate (3 - (lg_sl ([.ref this, .int a0, .int 4])).length) Slot.unset).toArray = ls at hl ⊢
  have hl : lv_has ls 3 [(0, .ref this), (1, .int a0), (2, .int 4)] := hl
  refine q_gen (fun Q hQ => ?_)
  have go : ∀ (H : Heap) (locs : List Loc) (ls : Array Slot), va_P D vwCl (pq_P t σ (I, J, ri, rj, rq)) H → va_D A (pq_P t σ (I, J, ri, rj, rq)) → va_S A s.heap H locs → lv_has ls 3 [(0, .ref this), (1, .int a0), (2, .int 4)] → W p l e ({ frames := 0, cells := 0, slots := 0, locals := 0 } : Room) s m (List.toArray ([.ref this, .int a0, .int 4] : List Value)) below meth c H locs 0 0 Q (F0 m 0 ls []) := by
    intro H locs ls hP hD hS hl
    refine lv_aload_n hx hb dX12_cellAt_0 rfl (lv_at hl 0 rfl) ?_
    refine pg_f (v := .ref this_a) (C := RX12) (T := TX12) (N := 31) hx hb hts (tw_i inlX12) hown hK hP hL_this hK_this (by decide) rfl 0 (by decide) (hts _ (tw_c tw_176)) (pq_hv rfl hR_this_a) dX12_cellAt_1 ?_
    refine lv_bipush (v := 100) hx hb dX12_cellAt_4 (by decide) ?_
    refine lv_bipush (v := 16) hx hb dX12_cellAt_6 (by decide) ?_
    refine lv_iload_n hx hb dX12_cellAt_8 rfl (lv_at hl 1 rfl) ?_
    refine lv_imul hx hb dX12_cellAt_9 ?_
    refine lv_topi (fun x_1 ex_1 => ?_)
    have h_2 : rg x_1 0 624 := rg_of_eq ex_1 (rg_mul (rg_k (16 : Int32) 16 rfl) h_a0 (by decide))
    have uh_2 := h_2.1
    have vh_2 := h_2.2
    have tx_1 : (x_1).toInt = 16 * (a0).toInt := by rw [ex_1]; exact i_mul_rg (a2 := 16) (b2 := (a0).toInt) rfl rfl (rg_k (16 : Int32) 16 rfl) h_a0 (by decide)
    refine lv_iadd hx hb dX12_cellAt_10 ?_
    refine lv_topi (fun x_3 ex_3 => ?_)
    have h_4 : rg x_3 100 724 := rg_of_eq ex_3 (rg_add (rg_k (100 : Int32) 100 rfl) h_2 (by decide))
    have uh_4 := h_4.1
    have vh_4 := h_4.2
    have tx_3 : (x_3).toInt = 100 + (x_1).toInt := by rw [ex_3]; exact i_add_rg (a2 := 100) (b2 := (x_1).toInt) rfl rfl (rg_k (100 : Int32) 100 rfl) h_2 (by decide)
    refine lv_iload_n hx hb dX12_cellAt_11 rfl (lv_at hl 2 rfl) ?_
    refine lv_iadd hx hb dX12_cellAt_12 ?_
    refine lv_topi (fun x_5 ex_5 => ?_)
    have h_6 : rg x_5 104 728 := rg_of_eq ex_5 (rg_add h_4 (rg_k (4 : Int32) 4 rfl) (by decide))
    have uh_6 := h_6.1
    have vh_6 := h_6.2
    have tx_5 : (x_5).toInt = (x_3).toInt + 4 := by rw [ex_5]; exact i_add_rg (a2 := (x_3).toInt) (b2 := 4) rfl rfl h_4 (rg_k (4 : Int32) 4 rfl) (by decide)
    refine pl_i hx hb hK hP hL_this_a hK_this_a hN_this_a (rg_in h_6 (by decide)) dX12_cellAt_13 ?_
    refine lv_topi (fun x_7 ex_7 => ?_)
    subst hQ
    exact W.iret (v := x_7) hx hb hr (fun t1 ht hW => ⟨⟨x_7, (σ, I, J, ri, rj, rq), rfl, ⟨rfl, (show x_7 = ri this_a (104 + 16 * a0.toNatClampNeg) from ex_7.trans (congrArg (ri this_a) (by have z0 := clampE a0; have z1 := clampE x_5; omega)))⟩, by rw [ht]; exact hP, va_K.moved hW.alike hK, hD⟩, hS.F ht⟩) hS.2.2 dX12_cellAt_14
  exact go _ _ _ hP hD hS hl

set_option maxHeartbeats 4000000 in
set_option maxRecDepth 100000 in
theorem s_X12_cellAt_w_c8 (l : Launch) (D : va_G) (t : pq_T) (σ : pq_S) (I : Nat → Nat → Int32) (J : Nat → Nat → Int64) (ri : Nat → Nat → Int32) (rj : Nat → Nat → Int64) (rq : Nat → Nat → Option Nat) (sz : Nat) (tg : Nat → Nat) (hSH : SH σ tg) (hG0 : GT tg I ri) (this : Nat) (a0 : Int32) (hL_this : this ∈ σ.1) (hK_this : σ.2.1 this = 12) (h_a0 : rg a0 0 39) (this_a : Nat) (hR_this_a : σ.2.2.1 384 this = some this_a) (hL_this_a : this_a ∈ σ.1) (hK_this_a : σ.2.1 this_a = 13) (hN_this_a : σ.2.2.2 this_a = 12720) (hT_this_a : tg this_a = 384) : MetI l yX12_cellAt (wa yX12_cellAt cX12_cellAt 3 (some .int)) ({ frames := 0, cells := 0, slots := 0, locals := 0 }) [.ref this, .int a0, .int 8] D t σ (I, J, ri, rj, rq) sz 0 0 (fun (r : Int32) (u : pq_S × pq_M) => u = (σ, I, J, ri, rj, rq) ∧ (r = ri this_a (108 + 16 * a0.toNatClampNeg))) := by
  refine Met.ofW (cc := cX12_cellAt) (maxL := 3) (ret := (some .int)) (by decide) rfl ?_
  intro p e s m args below meth c s₁ B hml hv
  obtain ⟨rfl, hsz, hP, hK, hD0, hN⟩ := hv
  have hx := B.exec
  have hb := B.bytes
  have hr := B.returns
  have hts := atoms_spec (ws := (wa yX12_cellAt cX12_cellAt 3 (some .int))) B.pre
  have hown : s.vm.findClass RX12 = some m.cls := findClass_of_methodNamed B.named
  have hlocks := B.notSynchronized
  subst hsz
  have hD : va_D (pq_B t σ (I, J, ri, rj, rq) s.heap.size) (pq_P t σ (I, J, ri, rj, rq)) := hD0.self
  generalize hAe : pq_B t σ (I, J, ri, rj, rq) s.heap.size = A at hD ⊢
  have hA : ∀ q : Nat, s.heap.size ≤ q → A q := fun q h => by rw [← hAe]; exact Or.inr h
  have hS : va_S A s.heap s.heap [] := va_S.rf
  have hG : GM [] tg σ I ri I ri rq := ⟨hG0, fun _ _ _ => rfl, fun _ _ _ _ _ => rfl, fun _ _ _ _ _ _ => rfl⟩
  have hl := lv_entry ([.ref this, .int a0, .int 8]) (n := 3) (Nat.le_of_ble_eq_true rfl)
  rw [lg_entry_eq]
  generalize (lg_sl ([.ref this, .int a0, .int 8]) ++ List.replicate (3 - (lg_sl ([.ref this, .int a0, .int 8])).length) Slot.unset).toArray = ls at hl ⊢
  have hl : lv_has ls 3 [(0, .ref this), (1, .int a0), (2, .int 8)] := hl
  refine q_gen (fun Q hQ => ?_)
  have go : ∀ (H : Heap) (locs : List Loc) (ls : Array Slot), va_P D vwCl (pq_P t σ (I, J, ri, rj, rq)) H → va_D A (pq_P t σ (I, J, ri, rj, rq)) → va_S A s.heap H locs → lv_has ls 3 [(0, .ref this), (1, .int a0), (2, .int 8)] → W p l e ({ frames := 0, cells := 0, slots := 0, locals := 0 } : Room) s m (List.toArray ([.ref this, .int a0, .int 8] : List Value)) below meth c H locs 0 0 Q (F0 m 0 ls []) := by
    intro H locs ls hP hD hS hl
    refine lv_aload_n hx hb dX12_cellAt_0 rfl (lv_at hl 0 rfl) ?_
    refine pg_f (v := .ref this_a) (C := RX12) (T := TX12) (N := 31) hx hb hts (tw_i inlX12) hown hK hP hL_this hK_this (by decide) rfl 0 (by decide) (hts _ (tw_c tw_176)) (pq_hv rfl hR_this_a) dX12_cellAt_1 ?_
    refine lv_bipush (v := 100) hx hb dX12_cellAt_4 (by decide) ?_
    refine lv_bipush (v := 16) hx hb dX12_cellAt_6 (by decide) ?_
    refine lv_iload_n hx hb dX12_cellAt_8 rfl (lv_at hl 1 rfl) ?_
    refine lv_imul hx hb dX12_cellAt_9 ?_
    refine lv_topi (fun x_1 ex_1 => ?_)
    have h_2 : rg x_1 0 624 := rg_of_eq ex_1 (rg_mul (rg_k (16 : Int32) 16 rfl) h_a0 (by decide))
    have uh_2 := h_2.1
    have vh_2 := h_2.2
    have tx_1 : (x_1).toInt = 16 * (a0).toInt := by rw [ex_1]; exact i_mul_rg (a2 := 16) (b2 := (a0).toInt) rfl rfl (rg_k (16 : Int32) 16 rfl) h_a0 (by decide)
    refine lv_iadd hx hb dX12_cellAt_10 ?_
    refine lv_topi (fun x_3 ex_3 => ?_)
    have h_4 : rg x_3 100 724 := rg_of_eq ex_3 (rg_add (rg_k (100 : Int32) 100 rfl) h_2 (by decide))
    have uh_4 := h_4.1
    have vh_4 := h_4.2
    have tx_3 : (x_3).toInt = 100 + (x_1).toInt := by rw [ex_3]; exact i_add_rg (a2 := 100) (b2 := (x_1).toInt) rfl rfl (rg_k (100 : Int32) 100 rfl) h_2 (by decide)
    refine lv_iload_n hx hb dX12_cellAt_11 rfl (lv_at hl 2 rfl) ?_
    refine lv_iadd hx hb dX12_cellAt_12 ?_
    refine lv_topi (fun x_5 ex_5 => ?_)
    have h_6 : rg x_5 108 732 := rg_of_eq ex_5 (rg_add h_4 (rg_k (8 : Int32) 8 rfl) (by decide))
    have uh_6 := h_6.1
    have vh_6 := h_6.2
    have tx_5 : (x_5).toInt = (x_3).toInt + 8 := by rw [ex_5]; exact i_add_rg (a2 := (x_3).toInt) (b2 := 8) rfl rfl h_4 (rg_k (8 : Int32) 8 rfl) (by decide)
    refine pl_i hx hb hK hP hL_this_a hK_this_a hN_this_a (rg_in h_6 (by decide)) dX12_cellAt_13 ?_
    refine lv_topi (fun x_7 ex_7 => ?_)
    subst hQ
    exact W.iret (v := x_7) hx hb hr (fun t1 ht hW => ⟨⟨x_7, (σ, I, J, ri, rj, rq), rfl, ⟨rfl, (show x_7 = ri this_a (108 + 16 * a0.toNatClampNeg) from ex_7.trans (congrArg (ri this_a) (by have z0 := clampE a0; have z1 := clampE x_5; omega)))⟩, by rw [ht]; exact hP, va_K.moved hW.alike hK, hD⟩, hS.F ht⟩) hS.2.2 dX12_cellAt_14
  exact go _ _ _ hP hD hS hl

set_option maxHeartbeats 4000000 in
set_option maxRecDepth 100000 in
theorem s_X12_months_w (l : Launch) (D : va_G) (t : pq_T) (σ : pq_S) (I : Nat → Nat → Int32) (J : Nat → Nat → Int64) (ri : Nat → Nat → Int32) (rj : Nat → Nat → Int64) (rq : Nat → Nat → Option Nat) (sz : Nat) (tg : Nat → Nat) (hSH : SH σ tg) (hG0 : GT tg I ri) (this : Nat) (a0 : Int32) (a1 : Int32) (hL_this : this ∈ σ.1) (hK_this : σ.2.1 this = 12) (this_a : Nat) (hR_this_a : σ.2.2.1 384 this = some this_a) (hL_this_a : this_a ∈ σ.1) (hK_this_a : σ.2.1 this_a = 13) (hN_this_a : σ.2.2.2 this_a = 12720) (hT_this_a : tg this_a = 384) : MetI l yX12_months (wa yX12_months cX12_months 4 (some .int)) ({ frames := 7, cells := 0, slots := 0, locals := 172 }) [.ref this, .int a0, .int a1] D t σ (I, J, ri, rj, rq) sz 0 0 (fun (r : Int32) (u : pq_S × pq_M) => ∃ I' : Nat → Nat → Int32, ∃ ri' : Nat → Nat → Int32, ∃ rj' : Nat → Nat → Int64, u = (σ, I', J, ri', rj', rq) ∧ GM [1305, 1304, 1403, 1000] tg σ I ri I' ri' rq ∧ ((((0 ≤ a1.toInt ∧ a1.toInt ≤ 2) ∧ (1 ≤ a0.toInt ∧ a0.toInt ≤ 60) ∧ (ri this_a 0).toInt + a0.toInt ≤ 600) ∧ r.toInt = (ri this_a 0).toInt + a0.toInt ∧ (ri' this_a 0).toInt = (ri this_a 0).toInt + a0.toInt) ∨ (¬ ((0 ≤ a1.toInt ∧ a1.toInt ≤ 2) ∧ (1 ≤ a0.toInt ∧ a0.toInt ≤ 60) ∧ (ri this_a 0).toInt + a0.toInt ≤ 600) ∧ r.toInt = -1 ∧ (ri' this_a 0).toInt = (ri this_a 0).toInt)) ∧ rg r (-1) 600) := by
  refine Met.ofW (cc := cX12_months) (maxL := 4) (ret := (some .int)) (by decide) rfl ?_
  intro p e s m args below meth c s₁ B hml hv
  obtain ⟨rfl, hsz, hP, hK, hD0, hN⟩ := hv
  have hx := B.exec
  have hb := B.bytes
  have hr := B.returns
  have hts := atoms_spec (ws := (wa yX12_months cX12_months 4 (some .int))) B.pre
  have hown : s.vm.findClass RX12 = some m.cls := findClass_of_methodNamed B.named
  have hlocks := B.notSynchronized
  subst hsz
  have hD : va_D (pq_B t σ (I, J, ri, rj, rq) s.heap.size) (pq_P t σ (I, J, ri, rj, rq)) := hD0.self
  generalize hAe : pq_B t σ (I, J, ri, rj, rq) s.heap.size = A at hD ⊢
  have hA : ∀ q : Nat, s.heap.size ≤ q → A q := fun q h => by rw [← hAe]; exact Or.inr h
  have hS : va_S A s.heap s.heap [] := va_S.rf
  have hG : GM [1305, 1304, 1403, 1000] tg σ I ri I ri rq := ⟨hG0, fun _ _ _ => rfl, fun _ _ _ _ _ => rfl, fun _ _ _ _ _ _ => rfl⟩
  have hl := lv_entry ([.ref this, .int a0, .int a1]) (n := 4) (Nat.le_of_ble_eq_true rfl)
  rw [lg_entry_eq]
  generalize (lg_sl ([.ref this, .int a0, .int a1]) ++ List.replicate (4 - (lg_sl ([.ref this, .int a0, .int a1])).length) Slot.unset).toArray = ls at hl ⊢
  have hl : lv_has ls 4 [(0, .ref this), (1, .int a0), (2, .int a1)] := hl
  refine q_gen (fun Q hQ => ?_)
  have go : ∀ (H : Heap) (locs : List Loc) (ls : Array Slot), va_P D vwCl (pq_P t σ (I, J, ri, rj, rq)) H → va_D A (pq_P t σ (I, J, ri, rj, rq)) → va_S A s.heap H locs → lv_has ls 4 [(0, .ref this), (1, .int a0), (2, .int a1)] → W p l e ({ frames := 7, cells := 0, slots := 0, locals := 172 } : Room) s m (List.toArray ([.ref this, .int a0, .int a1] : List Value)) below meth c H locs 0 0 Q (F0 m 0 ls []) := by
    intro H locs ls hP hD hS hl
    refine lv_aload_n hx hb dX12_months_0 rfl (lv_at hl 0 rfl) ?_
    refine lv_iload_n hx hb dX12_months_1 rfl (lv_at hl 1 rfl) ?_
    refine lv_bipush (v := 60) hx hb dX12_months_2 (by decide) ?_
    refine lv_iload_n hx hb dX12_months_4 rfl (lv_at hl 2 rfl) ?_
    refine pk_i (va_runV (As := [.int a0, .int 60, .int a1]) (rest := []) ⟨hx, hb, hml, hown, hts⟩ (s_X12_isTime_w l D t σ I J ri rj rq H.size tg hSH hG.1 this a0 (60 : Int32) a1 hL_this hK_this (rg_w (rg_k (60 : Int32) 60 rfl) (by decide)) this_a hR_this_a hL_this_a hK_this_a hN_this_a hT_this_a) (cwV 3 hts (tw_V tw_1189 tw_1190 tw_1191 tw_5 tw_1192) rfl rfl rfl cv_yX12_isTime_3 ⟨Nat.le_of_ble_eq_true rfl, Nat.le_of_ble_eq_true rfl⟩) ⟨pq_blind, pq_recv hK hP hL_this hK_this (by decide) rfl, pq_pre hK hN hP hD⟩ rfl rfl hl.1 rfl (lv_room (Nat.le_of_ble_eq_true rfl)) dX12_months_5 ⟨Nat.le_of_ble_eq_true rfl, Nat.le_of_ble_eq_true rfl⟩) hD hS hA (fun x_1 σ1 μ1 H locs hw_2 hP hD hS => ?_)
    obtain ⟨hu_3, hr_5⟩ := hw_2
    obtain ⟨hu_3a, hu_3b⟩ := Prod.mk.inj hu_3
    rw [hu_3a, hu_3b] at hP hD
    have h_6 : rg x_1 0 1 := by rcases hr_5 with ⟨q, -⟩ | ⟨q, -⟩ <;> rw [q] <;> exact ⟨by decide, by decide⟩
    have uh_6 := h_6.1
    have vh_6 := h_6.2
    refine lv_if_ne (tgt := 13) hx hb dX12_months_8 (by decide) (fun c_7 => ?_) (fun c_7 => ?_)
    · obtain ⟨f_8, f_9, f_10⟩ := (hr_5.resolve_right (fun q => c_7 q.1)).2
      have uf_8 := f_8.1
      have vf_8 := f_8.2
      have uf_9 := f_9.1
      have vf_9 := f_9.2
      have zk_11 : (60 : Int32).toInt = 60 := rfl
      have tc_12 : (x_1).toInt ≠ 0 := fun q => c_7 (Int32.toInt_inj.mp q)
      have h_13 : rg x_1 1 1 := rg_ne c_7 h_6 0 rfl (by decide)
      have uh_13 := h_13.1
      have vh_13 := h_13.2
      refine lv_iconst (v := 0) hx hb dX12_months_13 (by decide) ?_
      refine lv_istore_n (lv' := [(3, .int 0), (0, .ref this), (1, .int a0), (2, .int a1)]) hx hb dX12_months_14 rfl hl (by decide) rfl (fun ls hl => ?_)
      have L_406 : ∀ (n_405 : Nat) (x_377 : Int32) (I_378 : Nat → Nat → Int32) (ri_379 : Nat → Nat → Int32) (rj_380 : Nat → Nat → Int64) (H : Heap) (locs : List Loc) (ls : Array Slot), rg x_377 0 60 → ((ri_379 this_a 0).toInt = (ri this_a 0).toInt + (x_377).toInt) → (0 ≤ (x_377).toInt ∧ (x_377).toInt ≤ a0.toInt) → (60 - (x_377).toInt).toNat < n_405 → GM [1305, 1304, 1403, 1000] tg σ I ri I_378 ri_379 rq → va_P D vwCl (pq_P t σ (I_378, J, ri_379, rj_380, rq)) H → va_D A (pq_P t σ (I_378, J, ri_379, rj_380, rq)) → va_S A s.heap H locs → lv_has ls 4 [(0, .ref this), (1, .int a0), (2, .int a1), (3, .int x_377)] → W p l e ({ frames := 7, cells := 0, slots := 0, locals := 172 } : Room) s m (List.toArray ([.ref this, .int a0, .int a1] : List Value)) below meth c H locs 0 0 Q (F0 m 15 ls []) := by
        intro n_405
        induction n_405 with
        | zero => intro x_377 I_378 ri_379 rj_380 H locs ls h_411 hrel_412 hrel_413 hm_404 hG hP hD hS hl; exact absurd hm_404 (Nat.not_lt_zero _)
        | succ n_405 ih_407 =>
          intro x_377 I_378 ri_379 rj_380 H locs ls h_411 hrel_412 hrel_413 hm_404 hG hP hD hS hl
          have uh_411 := h_411.1
          have vh_411 := h_411.2
          refine lv_iload_n hx hb dX12_months_15 rfl (lv_at hl 3 rfl) ?_
          refine lv_iload_n hx hb dX12_months_16 rfl (lv_at hl 1 rfl) ?_
          refine lv_icmp_ge (tgt := 31) hx hb dX12_months_17 (by decide) (fun c_414 => ?_) (fun c_414 => ?_)
          · have tc_415 : (a0).toInt ≤ (x_377).toInt := Int32.le_iff_toInt_le.mp c_414
            have h_416 : rg x_377 1 60 := rg_le2 c_414 f_8 h_411 (by decide)
            have uh_416 := h_416.1
            have vh_416 := h_416.2
            refine lv_aload_n hx hb dX12_months_31 rfl (lv_at hl 0 rfl) ?_
            refine pg_f (v := .ref this_a) (C := RX12) (T := TX12) (N := 31) hx hb hts (tw_i inlX12) hown hK hP hL_this hK_this (by decide) rfl 0 (by decide) (hts _ (tw_c tw_176)) (pq_hv rfl hR_this_a) dX12_months_32 ?_
            refine lv_iconst (v := 0) hx hb dX12_months_35 (by decide) ?_
            refine pl_i hx hb hK hP hL_this_a hK_this_a hN_this_a (vp_in_iff.mpr (by decide)) dX12_months_36 ?_
            refine lv_topi (fun x_417 ex_417 => ?_)
            have ex_417 : x_417 = ri_379 this_a ((0 : Int32)).toNatClampNeg := ex_417
            have h_418 : rg x_417 0 600 := rg_of_eq ex_417 (GM.z hG (by rw [hT_this_a]; decide) (show zn ((0 : Int32)).toNatClampNeg = 0 from by decide) rfl)
            have uh_418 := h_418.1
            have vh_418 := h_418.2
            have tt_419 : (ri_379 this_a 0).toInt = (x_417).toInt := congrArg Int32.toInt (show ri_379 this_a 0 = x_417 from ex_417.symm)
            subst hQ
            exact W.iret (v := x_417) hx hb hr (fun t1 ht hW => ⟨⟨x_417, (σ, I_378, J, ri_379, rj_380, rq), rfl, ⟨I_378, ri_379, rj_380, rfl, hG, (by have k0 : (-1 : Int32).toInt = -1 := rfl; omega), (rg_w h_418 (by decide))⟩, by rw [ht]; exact hP, va_K.moved hW.alike hK, hD⟩, hS.F ht⟩) hS.2.2 dX12_months_37
          · have tc_420 : (x_377).toInt < (a0).toInt := Int32.lt_iff_toInt_lt.mp (nle c_414)
            have h_421 : rg x_377 0 59 := rg_lt1 (nle c_414) h_411 f_8 (by decide)
            have uh_421 := h_421.1
            have vh_421 := h_421.2
            refine lv_aload_n hx hb dX12_months_20 rfl (lv_at hl 0 rfl) ?_
            refine lv_iload_n hx hb dX12_months_21 rfl (lv_at hl 2 rfl) ?_
            refine pk_v (va_runV (As := [.int a1]) (rest := []) ⟨hx, hb, hml, hown, hts⟩ (s_X12_month l D t σ I_378 J ri_379 rj_380 rq H.size tg hSH hG.1 this a1 hL_this hK_this this_a hR_this_a hL_this_a hK_this_a hN_this_a hT_this_a (by omega)) (cwV 1 hts (tw_V tw_1193 tw_1194 tw_1195 tw_5 tw_1196) rfl rfl rfl cv_yX12_month_1 ⟨Nat.le_of_ble_eq_true rfl, Nat.le_of_ble_eq_true rfl⟩) ⟨pq_blind, pq_recv hK hP hL_this hK_this (by decide) rfl, pq_pre hK hN hP hD⟩ rfl rfl hl.1 rfl (lv_room (Nat.le_of_ble_eq_true rfl)) dX12_months_22 ⟨Nat.le_of_ble_eq_true rfl, Nat.le_of_ble_eq_true rfl⟩) hD hS hA (fun σ1 μ1 H locs hw_423 hP hD hS => ?_)
            obtain ⟨I_424, ri_425, rj_426, hu_427, hg_428, hp_430⟩ := hw_423
            obtain ⟨hu_427a, hu_427b⟩ := Prod.mk.inj hu_427
            rw [hu_427a, hu_427b] at hP hD
            have tt_431 := hp_430
            have hG := GM.tr hG hg_428 (by decide)
            obtain ⟨x_432, ex_432⟩ : ∃ y : Int32, y = x_377 + Int32.ofInt 1 := ⟨_, rfl⟩
            have h_433 : rg x_432 1 60 := rg_of_eq ex_432 (rg_add h_421 (rg_k (Int32.ofInt 1) 1 rfl) (by decide))
            have uh_433 := h_433.1
            have vh_433 := h_433.2
            have tx_432 : (x_432).toInt = (x_377).toInt + 1 := by rw [ex_432]; exact i_add_rg (a2 := (x_377).toInt) (b2 := 1) rfl rfl h_421 (rg_k (Int32.ofInt 1) 1 rfl) (by decide)
            refine lv_iinc (v := x_432) (lv' := [(3, .int x_432), (0, .ref this), (1, .int a0), (2, .int a1)]) hx hb dX12_months_25 hl (k := 3) rfl ex_432.symm (by decide) rfl (fun ls hl => ?_)
            refine lv_goto (tgt := 15) hx hb dX12_months_28 (by decide) ?_
            exact ih_407 x_432 I_424 ri_425 rj_426 _ _ _ (rg_w h_433 (by decide)) (by omega) (by omega) (ms_up 1 hm_404 ex_432 rfl (by decide) h_421 (by decide) (by decide)) hG hP hD hS (lv_sub hl [1, 2, 3, 0] rfl)
      exact L_406 _ (0 : Int32) I ri rj _ _ _ (rg_w (rg_k (0 : Int32) 0 rfl) (by decide)) (by have k0 : (0 : Int32).toInt = 0 := rfl; omega) (by have k0 : (0 : Int32).toInt = 0 := rfl; omega) (Nat.lt_succ_self _) hG hP hD hS (lv_sub hl [1, 2, 3, 0] rfl)
    · have f_434 := (hr_5.resolve_left (fun q => absurd (q.1.symm.trans c_7) (by decide))).2
      have zk_435 : (60 : Int32).toInt = 60 := rfl
      have tc_436 : (x_1).toInt = 0 := congrArg Int32.toInt c_7
      have h_437 : rg x_1 0 0 := rg_and h_6 (rg_of_eq c_7 (rg_k (0 : Int32) 0 rfl)) (by decide)
      have uh_437 := h_437.1
      have vh_437 := h_437.2
      refine lv_iconst (v := (-1)) hx hb dX12_months_11 (by decide) ?_
      subst hQ
      exact W.iret (v := (-1)) hx hb hr (fun t1 ht hW => ⟨⟨(-1), (σ, I, J, ri, rj, rq), rfl, ⟨I, ri, rj, rfl, hG, (by have k0 : (-1 : Int32).toInt = -1 := rfl; omega), (rg_w (rg_k (-1 : Int32) (-1) rfl) (by decide))⟩, by rw [ht]; exact hP, va_K.moved hW.alike hK, hD⟩, hS.F ht⟩) hS.2.2 dX12_months_12
  exact go _ _ _ hP hD hS hl

set_option maxHeartbeats 4000000 in
set_option maxRecDepth 100000 in
theorem s_X12_sandBehind_w (l : Launch) (D : va_G) (t : pq_T) (σ : pq_S) (I : Nat → Nat → Int32) (J : Nat → Nat → Int64) (ri : Nat → Nat → Int32) (rj : Nat → Nat → Int64) (rq : Nat → Nat → Option Nat) (sz : Nat) (tg : Nat → Nat) (hSH : SH σ tg) (hG0 : GT tg I ri) (this : Nat) (a0 : Int32) (a1 : Int32) (a2 : Int32) (hL_this : this ∈ σ.1) (hK_this : σ.2.1 this = 12) (h_a0 : rg a0 0 39) (h_a2 : rg a2 1 60) (this_a : Nat) (hR_this_a : σ.2.2.1 384 this = some this_a) (hL_this_a : this_a ∈ σ.1) (hK_this_a : σ.2.1 this_a = 13) (hN_this_a : σ.2.2.2 this_a = 12720) (hT_this_a : tg this_a = 384) (this_kept : Nat) (hR_this_kept : σ.2.2.1 386 this = some this_kept) (hL_this_kept : this_kept ∈ σ.1) (hK_this_kept : σ.2.1 this_kept = 13) (hN_this_kept : σ.2.2.2 this_kept = 12720) (hT_this_kept : tg this_kept = 386) (hcl : (ri this_a 0).toInt + a2.toInt ≤ 600) (hkc : (ri this_kept 0).toInt = (ri this_a 0).toInt) : MetI l yX12_sandBehind (wa yX12_sandBehind cX12_sandBehind 5 (some .int)) ({ frames := 7, cells := 0, slots := 0, locals := 172 }) [.ref this, .int a0, .int a1, .int a2] D t σ (I, J, ri, rj, rq) sz 0 0 (fun (r : Int32) (u : pq_S × pq_M) => ∃ I' : Nat → Nat → Int32, ∃ ri' : Nat → Nat → Int32, ∃ rj' : Nat → Nat → Int64, u = (σ, I', J, ri', rj', rq) ∧ GM [1305, 1304, 1403, 1000, 1001, 1002, 1003, 1004, 1005, 1006, 1007, 1010, 1013, 1014, 1015, 1500, 1501, 1502, 1503, 1504, 1100, 1101, 1102, 1103, 1104, 1300, 1301, 1306, 1308, 1700, 1701, 1702] tg σ I ri I' ri' rq ∧ ((ri' this_a 0).toInt = (ri this_kept 0).toInt) ∧ ((ri' this_kept 0).toInt = (ri this_kept 0).toInt) ∧ (∀ j, zn j ∈ ztl → ri' this_a j = ri this_kept j) ∧ (ri' this_kept = ri this_kept)) := by
  refine Met.ofW (cc := cX12_sandBehind) (maxL := 5) (ret := (some .int)) (by decide) rfl ?_
  intro p e s m args below meth c s₁ B hml hv
  obtain ⟨rfl, hsz, hP, hK, hD0, hN⟩ := hv
  have hx := B.exec
  have hb := B.bytes
  have hr := B.returns
  have hts := atoms_spec (ws := (wa yX12_sandBehind cX12_sandBehind 5 (some .int))) B.pre
  have hown : s.vm.findClass RX12 = some m.cls := findClass_of_methodNamed B.named
  have hlocks := B.notSynchronized
  subst hsz
  have hD : va_D (pq_B t σ (I, J, ri, rj, rq) s.heap.size) (pq_P t σ (I, J, ri, rj, rq)) := hD0.self
  generalize hAe : pq_B t σ (I, J, ri, rj, rq) s.heap.size = A at hD ⊢
  have hA : ∀ q : Nat, s.heap.size ≤ q → A q := fun q h => by rw [← hAe]; exact Or.inr h
  have hS : va_S A s.heap s.heap [] := va_S.rf
  have hG : GM [1305, 1304, 1403, 1000, 1001, 1002, 1003, 1004, 1005, 1006, 1007, 1010, 1013, 1014, 1015, 1500, 1501, 1502, 1503, 1504, 1100, 1101, 1102, 1103, 1104, 1300, 1301, 1306, 1308, 1700, 1701, 1702] tg σ I ri I ri rq := ⟨hG0, fun _ _ _ => rfl, fun _ _ _ _ _ => rfl, fun _ _ _ _ _ _ => rfl⟩
  have hl := lv_entry ([.ref this, .int a0, .int a1, .int a2]) (n := 5) (Nat.le_of_ble_eq_true rfl)
  rw [lg_entry_eq]
  generalize (lg_sl ([.ref this, .int a0, .int a1, .int a2]) ++ List.replicate (5 - (lg_sl ([.ref this, .int a0, .int a1, .int a2])).length) Slot.unset).toArray = ls at hl ⊢
  have hl : lv_has ls 5 [(0, .ref this), (1, .int a0), (2, .int a1), (3, .int a2)] := hl
  refine q_gen (fun Q hQ => ?_)
  have go : ∀ (H : Heap) (locs : List Loc) (ls : Array Slot), va_P D vwCl (pq_P t σ (I, J, ri, rj, rq)) H → va_D A (pq_P t σ (I, J, ri, rj, rq)) → va_S A s.heap H locs → lv_has ls 5 [(0, .ref this), (1, .int a0), (2, .int a1), (3, .int a2)] → W p l e ({ frames := 7, cells := 0, slots := 0, locals := 172 } : Room) s m (List.toArray ([.ref this, .int a0, .int a1, .int a2] : List Value)) below meth c H locs 0 0 Q (F0 m 0 ls []) := by
    intro H locs ls hP hD hS hl
    refine lv_iconst (v := 0) hx hb dX12_sandBehind_0 (by decide) ?_
    refine lv_istore (lv' := [(4, .int 0), (0, .ref this), (1, .int a0), (2, .int a1), (3, .int a2)]) hx hb dX12_sandBehind_1 hl (by decide) rfl (fun ls hl => ?_)
    have L_605 : ∀ (n_604 : Nat) (x_560 : Int32) (I_561 : Nat → Nat → Int32) (ri_562 : Nat → Nat → Int32) (rj_563 : Nat → Nat → Int64) (H : Heap) (locs : List Loc) (ls : Array Slot), rg x_560 0 60 → ((ri_562 this_a 0).toInt = (ri this_a 0).toInt + (x_560).toInt ∧ (ri_562 this_kept 0).toInt = (ri this_kept 0).toInt) → (∀ j, zn j ∈ ztl → ri_562 this_kept j = ri this_kept j) → (ri_562 this_kept = ri this_kept) → (60 - (x_560).toInt).toNat < n_604 → GM [1305, 1304, 1403, 1000, 1001, 1002, 1003, 1004, 1005, 1006, 1007, 1010, 1013, 1014, 1015, 1500, 1501, 1502, 1503, 1504, 1100, 1101, 1102, 1103, 1104, 1300, 1301, 1306, 1308, 1700, 1701, 1702] tg σ I ri I_561 ri_562 rq → va_P D vwCl (pq_P t σ (I_561, J, ri_562, rj_563, rq)) H → va_D A (pq_P t σ (I_561, J, ri_562, rj_563, rq)) → va_S A s.heap H locs → lv_has ls 5 [(0, .ref this), (1, .int a0), (2, .int a1), (3, .int a2), (4, .int x_560)] → W p l e ({ frames := 7, cells := 0, slots := 0, locals := 172 } : Room) s m (List.toArray ([.ref this, .int a0, .int a1, .int a2] : List Value)) below meth c H locs 0 0 Q (F0 m 3 ls []) := by
      intro n_604
      induction n_604 with
      | zero => intro x_560 I_561 ri_562 rj_563 H locs ls h_611 hrel_612 hrel_613 hrel_614 hm_603 hG hP hD hS hl; exact absurd hm_603 (Nat.not_lt_zero _)
      | succ n_604 ih_606 =>
        intro x_560 I_561 ri_562 rj_563 H locs ls h_611 hrel_612 hrel_613 hrel_614 hm_603 hG hP hD hS hl
        have uh_611 := h_611.1
        have vh_611 := h_611.2
        refine lv_iload hx hb dX12_sandBehind_3 (lv_at hl 4 rfl) ?_
        refine lv_iload_n hx hb dX12_sandBehind_5 rfl (lv_at hl 3 rfl) ?_
        refine lv_icmp_ge (tgt := 20) hx hb dX12_sandBehind_6 (by decide) (fun c_615 => ?_) (fun c_615 => ?_)
        · have tc_616 : (a2).toInt ≤ (x_560).toInt := Int32.le_iff_toInt_le.mp c_615
          have h_617 : rg x_560 1 60 := rg_le2 c_615 h_a2 h_611 (by decide)
          have uh_617 := h_617.1
          have vh_617 := h_617.2
          refine lv_aload_n hx hb dX12_sandBehind_20 rfl (lv_at hl 0 rfl) ?_
          refine lv_iload_n hx hb dX12_sandBehind_21 rfl (lv_at hl 1 rfl) ?_
          refine lv_iconst (v := 4) hx hb dX12_sandBehind_22 (by decide) ?_
          refine pk_i (va_runV (As := [.int a0, .int 4]) (rest := []) ⟨hx, hb, hml, hown, hts⟩ (s_X12_cellAt_w_c4 l D t σ I_561 J ri_562 rj_563 rq H.size tg hSH hG.1 this a0 hL_this hK_this (rg_w h_a0 (by decide)) this_a hR_this_a hL_this_a hK_this_a hN_this_a hT_this_a) (cwV 2 hts (tw_V tw_361 tw_362 tw_363 tw_5 tw_364) rfl rfl rfl cv_yX12_cellAt_2 ⟨Nat.le_of_ble_eq_true rfl, Nat.le_of_ble_eq_true rfl⟩) ⟨pq_blind, pq_recv hK hP hL_this hK_this (by decide) rfl, pq_pre hK hN hP hD⟩ rfl rfl hl.1 rfl (lv_room (Nat.le_of_ble_eq_true rfl)) dX12_sandBehind_23 ⟨Nat.le_of_ble_eq_true rfl, Nat.le_of_ble_eq_true rfl⟩) hD hS hA (fun x_618 σ1 μ1 H locs hw_619 hP hD hS => ?_)
          obtain ⟨hu_620, hp_623⟩ := hw_619
          obtain ⟨hu_620a, hu_620b⟩ := Prod.mk.inj hu_620
          rw [hu_620a, hu_620b] at hP hD
          have tt_624 := congrArg Int32.toInt hp_623
          refine lv_istore (lv' := [(4, .int x_618), (0, .ref this), (1, .int a0), (2, .int a1), (3, .int a2)]) hx hb dX12_sandBehind_26 hl (by decide) rfl (fun ls hl => ?_)
          refine lv_aload_n hx hb dX12_sandBehind_28 rfl (lv_at hl 1 rfl) ?_
          refine pg_f (v := .ref this_kept) (C := RX12) (T := TX12) (N := 31) hx hb hts (tw_i inlX12) hown hK hP hL_this hK_this (by decide) rfl 2 (by decide) (hts _ (tw_c tw_178)) (pq_hv rfl hR_this_kept) dX12_sandBehind_29 ?_
          refine lv_aload_n hx hb dX12_sandBehind_32 rfl (lv_at hl 1 rfl) ?_
          refine pg_f (v := .ref this_a) (C := RX12) (T := TX12) (N := 31) hx hb hts (tw_i inlX12) hown hK hP hL_this hK_this (by decide) rfl 0 (by decide) (hts _ (tw_c tw_176)) (pq_hv rfl hR_this_a) dX12_sandBehind_33 ?_
          refine pk_v (va_runS (As := [.ref this_kept, .ref this_a]) (rest := []) ⟨hx, hb, hml, hown, hts⟩ (c_X12_copy l D t σ I_561 J ri_562 rj_563 rq H.size this_kept this_a 12720 hL_this_kept hK_this_kept hN_this_kept hL_this_a hK_this_a hN_this_a rfl (tg_ne hT_this_kept hT_this_a (by decide))) (va_cwS 2 hts (tw_S tw_192 tw_193 tw_5 tw_194) rfl rfl rfl cd_yX12_copy_2 ⟨Nat.le_of_ble_eq_true rfl, Nat.le_of_ble_eq_true rfl⟩) ⟨pq_blind, pq_pre hK hN hP hD⟩ rfl rfl hl.1 rfl (lv_room (Nat.le_of_ble_eq_true rfl)) dX12_sandBehind_36 ⟨Nat.le_of_ble_eq_true rfl, Nat.le_of_ble_eq_true rfl⟩) hD hS hA (fun σ1 μ1 H locs hw_626 hP hD hS => ?_)
          obtain ⟨ri_627, hu_628, hp_631, hp_632⟩ := hw_626
          obtain ⟨hu_628a, hu_628b⟩ := Prod.mk.inj hu_628
          rw [hu_628a, hu_628b] at hP hD
          have tt_633 : (ri_627 this_a 0).toInt = (ri_562 this_kept 0).toInt := congrArg Int32.toInt (hp_631 0 (by decide))
          have tt_634 : (ri_627 this_kept 0).toInt = (ri_562 this_kept 0).toInt := congrArg Int32.toInt (congrFun (hp_632 this_kept (tg_ne hT_this_kept hT_this_a (by decide))) 0)
          have hG := GM.cp hG hT_this_kept hT_this_a (by decide) hp_631 hp_632 (by decide)
          refine lv_iload hx hb dX12_sandBehind_39 (lv_at hl 0 rfl) ?_
          subst hQ
          exact W.iret (v := x_618) hx hb hr (fun t1 ht hW => ⟨⟨x_618, (σ, I_561, J, ri_627, rj_563, rq), rfl, ⟨I_561, ri_627, rj_563, rfl, hG, (by omega), (by omega), (row_c hp_631 hrel_613), ((hp_632 this_kept (tg_ne hT_this_kept hT_this_a (by decide))).trans hrel_614)⟩, by rw [ht]; exact hP, va_K.moved hW.alike hK, hD⟩, hS.F ht⟩) hS.2.2 dX12_sandBehind_41
        · have tc_635 : (x_560).toInt < (a2).toInt := Int32.lt_iff_toInt_lt.mp (nle c_615)
          have h_636 : rg x_560 0 59 := rg_lt1 (nle c_615) h_611 h_a2 (by decide)
          have uh_636 := h_636.1
          have vh_636 := h_636.2
          refine lv_aload_n hx hb dX12_sandBehind_9 rfl (lv_at hl 0 rfl) ?_
          refine lv_iload_n hx hb dX12_sandBehind_10 rfl (lv_at hl 2 rfl) ?_
          refine pk_v (va_runV (As := [.int a1]) (rest := []) ⟨hx, hb, hml, hown, hts⟩ (s_X12_month l D t σ I_561 J ri_562 rj_563 rq H.size tg hSH hG.1 this a1 hL_this hK_this this_a hR_this_a hL_this_a hK_this_a hN_this_a hT_this_a (by omega)) (cwV 1 hts (tw_V tw_1193 tw_1194 tw_1195 tw_5 tw_1196) rfl rfl rfl cv_yX12_month_1 ⟨Nat.le_of_ble_eq_true rfl, Nat.le_of_ble_eq_true rfl⟩) ⟨pq_blind, pq_recv hK hP hL_this hK_this (by decide) rfl, pq_pre hK hN hP hD⟩ rfl rfl hl.1 rfl (lv_room (Nat.le_of_ble_eq_true rfl)) dX12_sandBehind_11 ⟨Nat.le_of_ble_eq_true rfl, Nat.le_of_ble_eq_true rfl⟩) hD hS hA (fun σ1 μ1 H locs hw_638 hP hD hS => ?_)
          obtain ⟨I_639, ri_640, rj_641, hu_642, hg_643, hp_645⟩ := hw_638
          obtain ⟨hu_642a, hu_642b⟩ := Prod.mk.inj hu_642
          rw [hu_642a, hu_642b] at hP hD
          have tt_646 := hp_645
          have tt_647 : (ri_640 this_kept 0).toInt = (ri_562 this_kept 0).toInt := congrArg Int32.toInt (congrFun (hg_643.2.2.2 386 2001 (by decide) (by decide) this_kept hT_this_kept) 0)
          have hG := GM.tr hG hg_643 (by decide)
          obtain ⟨x_648, ex_648⟩ : ∃ y : Int32, y = x_560 + Int32.ofInt 1 := ⟨_, rfl⟩
          have h_649 : rg x_648 1 60 := rg_of_eq ex_648 (rg_add h_636 (rg_k (Int32.ofInt 1) 1 rfl) (by decide))
          have uh_649 := h_649.1
          have vh_649 := h_649.2
          have tx_648 : (x_648).toInt = (x_560).toInt + 1 := by rw [ex_648]; exact i_add_rg (a2 := (x_560).toInt) (b2 := 1) rfl rfl h_636 (rg_k (Int32.ofInt 1) 1 rfl) (by decide)
          refine lv_iinc (v := x_648) (lv' := [(4, .int x_648), (0, .ref this), (1, .int a0), (2, .int a1), (3, .int a2)]) hx hb dX12_sandBehind_14 hl (k := 4) rfl ex_648.symm (by decide) rfl (fun ls hl => ?_)
          refine lv_goto (tgt := 3) hx hb dX12_sandBehind_17 (by decide) ?_
          exact ih_606 x_648 I_639 ri_640 rj_641 _ _ _ (rg_w h_649 (by decide)) (by omega) (row_s (hg_643.2.2.2 386 2001 (by decide) (by decide) this_kept hT_this_kept) hrel_613) ((hg_643.2.2.2 386 2001 (by decide) (by decide) this_kept hT_this_kept).trans hrel_614) (ms_up 1 hm_603 ex_648 rfl (by decide) h_636 (by decide) (by decide)) hG hP hD hS (lv_sub hl [1, 2, 3, 4, 0] rfl)
    exact L_605 _ (0 : Int32) I ri rj _ _ _ (rg_w (rg_k (0 : Int32) 0 rfl) (by decide)) (by have k0 : (0 : Int32).toInt = 0 := rfl; omega) (fun _ _ => rfl) rfl (Nat.lt_succ_self _) hG hP hD hS (lv_sub hl [1, 2, 3, 4, 0] rfl)
  exact go _ _ _ hP hD hS hl

set_option maxHeartbeats 4000000 in
set_option maxRecDepth 100000 in
theorem s_X12_cellAt_w_c12 (l : Launch) (D : va_G) (t : pq_T) (σ : pq_S) (I : Nat → Nat → Int32) (J : Nat → Nat → Int64) (ri : Nat → Nat → Int32) (rj : Nat → Nat → Int64) (rq : Nat → Nat → Option Nat) (sz : Nat) (tg : Nat → Nat) (hSH : SH σ tg) (hG0 : GT tg I ri) (this : Nat) (a0 : Int32) (hL_this : this ∈ σ.1) (hK_this : σ.2.1 this = 12) (h_a0 : rg a0 0 39) (this_a : Nat) (hR_this_a : σ.2.2.1 384 this = some this_a) (hL_this_a : this_a ∈ σ.1) (hK_this_a : σ.2.1 this_a = 13) (hN_this_a : σ.2.2.2 this_a = 12720) (hT_this_a : tg this_a = 384) : MetI l yX12_cellAt (wa yX12_cellAt cX12_cellAt 3 (some .int)) ({ frames := 0, cells := 0, slots := 0, locals := 0 }) [.ref this, .int a0, .int 12] D t σ (I, J, ri, rj, rq) sz 0 0 (fun (r : Int32) (u : pq_S × pq_M) => u = (σ, I, J, ri, rj, rq) ∧ (r = ri this_a (112 + 16 * a0.toNatClampNeg))) := by
  refine Met.ofW (cc := cX12_cellAt) (maxL := 3) (ret := (some .int)) (by decide) rfl ?_
  intro p e s m args below meth c s₁ B hml hv
  obtain ⟨rfl, hsz, hP, hK, hD0, hN⟩ := hv
  have hx := B.exec
  have hb := B.bytes
  have hr := B.returns
  have hts := atoms_spec (ws := (wa yX12_cellAt cX12_cellAt 3 (some .int))) B.pre
  have hown : s.vm.findClass RX12 = some m.cls := findClass_of_methodNamed B.named
  have hlocks := B.notSynchronized
  subst hsz
  have hD : va_D (pq_B t σ (I, J, ri, rj, rq) s.heap.size) (pq_P t σ (I, J, ri, rj, rq)) := hD0.self
  generalize hAe : pq_B t σ (I, J, ri, rj, rq) s.heap.size = A at hD ⊢
  have hA : ∀ q : Nat, s.heap.size ≤ q → A q := fun q h => by rw [← hAe]; exact Or.inr h
  have hS : va_S A s.heap s.heap [] := va_S.rf
  have hG : GM [] tg σ I ri I ri rq := ⟨hG0, fun _ _ _ => rfl, fun _ _ _ _ _ => rfl, fun _ _ _ _ _ _ => rfl⟩
  have hl := lv_entry ([.ref this, .int a0, .int 12]) (n := 3) (Nat.le_of_ble_eq_true rfl)
  rw [lg_entry_eq]
  generalize (lg_sl ([.ref this, .int a0, .int 12]) ++ List.replicate (3 - (lg_sl ([.ref this, .int a0, .int 12])).length) Slot.unset).toArray = ls at hl ⊢
  have hl : lv_has ls 3 [(0, .ref this), (1, .int a0), (2, .int 12)] := hl
  refine q_gen (fun Q hQ => ?_)
  have go : ∀ (H : Heap) (locs : List Loc) (ls : Array Slot), va_P D vwCl (pq_P t σ (I, J, ri, rj, rq)) H → va_D A (pq_P t σ (I, J, ri, rj, rq)) → va_S A s.heap H locs → lv_has ls 3 [(0, .ref this), (1, .int a0), (2, .int 12)] → W p l e ({ frames := 0, cells := 0, slots := 0, locals := 0 } : Room) s m (List.toArray ([.ref this, .int a0, .int 12] : List Value)) below meth c H locs 0 0 Q (F0 m 0 ls []) := by
    intro H locs ls hP hD hS hl
    refine lv_aload_n hx hb dX12_cellAt_0 rfl (lv_at hl 0 rfl) ?_
    refine pg_f (v := .ref this_a) (C := RX12) (T := TX12) (N := 31) hx hb hts (tw_i inlX12) hown hK hP hL_this hK_this (by decide) rfl 0 (by decide) (hts _ (tw_c tw_176)) (pq_hv rfl hR_this_a) dX12_cellAt_1 ?_
    refine lv_bipush (v := 100) hx hb dX12_cellAt_4 (by decide) ?_
    refine lv_bipush (v := 16) hx hb dX12_cellAt_6 (by decide) ?_
    refine lv_iload_n hx hb dX12_cellAt_8 rfl (lv_at hl 1 rfl) ?_
    refine lv_imul hx hb dX12_cellAt_9 ?_
    refine lv_topi (fun x_1 ex_1 => ?_)
    have h_2 : rg x_1 0 624 := rg_of_eq ex_1 (rg_mul (rg_k (16 : Int32) 16 rfl) h_a0 (by decide))
    have uh_2 := h_2.1
    have vh_2 := h_2.2
    have tx_1 : (x_1).toInt = 16 * (a0).toInt := by rw [ex_1]; exact i_mul_rg (a2 := 16) (b2 := (a0).toInt) rfl rfl (rg_k (16 : Int32) 16 rfl) h_a0 (by decide)
    refine lv_iadd hx hb dX12_cellAt_10 ?_
    refine lv_topi (fun x_3 ex_3 => ?_)
    have h_4 : rg x_3 100 724 := rg_of_eq ex_3 (rg_add (rg_k (100 : Int32) 100 rfl) h_2 (by decide))
    have uh_4 := h_4.1
    have vh_4 := h_4.2
    have tx_3 : (x_3).toInt = 100 + (x_1).toInt := by rw [ex_3]; exact i_add_rg (a2 := 100) (b2 := (x_1).toInt) rfl rfl (rg_k (100 : Int32) 100 rfl) h_2 (by decide)
    refine lv_iload_n hx hb dX12_cellAt_11 rfl (lv_at hl 2 rfl) ?_
    refine lv_iadd hx hb dX12_cellAt_12 ?_
    refine lv_topi (fun x_5 ex_5 => ?_)
    have h_6 : rg x_5 112 736 := rg_of_eq ex_5 (rg_add h_4 (rg_k (12 : Int32) 12 rfl) (by decide))
    have uh_6 := h_6.1
    have vh_6 := h_6.2
    have tx_5 : (x_5).toInt = (x_3).toInt + 12 := by rw [ex_5]; exact i_add_rg (a2 := (x_3).toInt) (b2 := 12) rfl rfl h_4 (rg_k (12 : Int32) 12 rfl) (by decide)
    refine pl_i hx hb hK hP hL_this_a hK_this_a hN_this_a (rg_in h_6 (by decide)) dX12_cellAt_13 ?_
    refine lv_topi (fun x_7 ex_7 => ?_)
    subst hQ
    exact W.iret (v := x_7) hx hb hr (fun t1 ht hW => ⟨⟨x_7, (σ, I, J, ri, rj, rq), rfl, ⟨rfl, (show x_7 = ri this_a (112 + 16 * a0.toNatClampNeg) from ex_7.trans (congrArg (ri this_a) (by have z0 := clampE a0; have z1 := clampE x_5; omega)))⟩, by rw [ht]; exact hP, va_K.moved hW.alike hK, hD⟩, hS.F ht⟩) hS.2.2 dX12_cellAt_14
  exact go _ _ _ hP hD hS hl

set_option maxHeartbeats 4000000 in
set_option maxRecDepth 100000 in
theorem s_X12_sinks_w (l : Launch) (D : va_G) (t : pq_T) (σ : pq_S) (I : Nat → Nat → Int32) (J : Nat → Nat → Int64) (ri : Nat → Nat → Int32) (rj : Nat → Nat → Int64) (rq : Nat → Nat → Option Nat) (sz : Nat) (tg : Nat → Nat) (hSH : SH σ tg) (hG0 : GT tg I ri) (this : Nat) (a0 : Int32) (a1 : Int32) (a2 : Int32) (hL_this : this ∈ σ.1) (hK_this : σ.2.1 this = 12) (this_a : Nat) (hR_this_a : σ.2.2.1 384 this = some this_a) (hL_this_a : this_a ∈ σ.1) (hK_this_a : σ.2.1 this_a = 13) (hN_this_a : σ.2.2.2 this_a = 12720) (hT_this_a : tg this_a = 384) (this_kept : Nat) (hR_this_kept : σ.2.2.1 386 this = some this_kept) (hL_this_kept : this_kept ∈ σ.1) (hK_this_kept : σ.2.1 this_kept = 13) (hN_this_kept : σ.2.2.2 this_kept = 12720) (hT_this_kept : tg this_kept = 386) : MetI l yX12_sinks (wa yX12_sinks cX12_sinks 6 (some .int)) ({ frames := 7, cells := 0, slots := 0, locals := 172 }) [.ref this, .int a0, .int a1, .int a2] D t σ (I, J, ri, rj, rq) sz 0 0 (fun (r : Int32) (u : pq_S × pq_M) => ∃ I' : Nat → Nat → Int32, ∃ ri' : Nat → Nat → Int32, ∃ rj' : Nat → Nat → Int64, u = (σ, I', J, ri', rj', rq) ∧ GM [2001, 1305, 1304, 1403, 1000, 1001, 1002, 1003, 1004, 1005, 1006, 1007, 1010, 1013, 1014, 1015, 1500, 1501, 1502, 1503, 1504, 1100, 1101, 1102, 1103, 1104, 1300, 1301, 1306, 1308, 1700, 1701, 1702] tg σ I ri I' ri' rq ∧ (∀ j, zn j ∈ ztl → ri' this_a j = ri this_a j) ∧ rg r (-1) 599) := by
  refine Met.ofW (cc := cX12_sinks) (maxL := 6) (ret := (some .int)) (by decide) rfl ?_
  intro p e s m args below meth c s₁ B hml hv
  obtain ⟨rfl, hsz, hP, hK, hD0, hN⟩ := hv
  have hx := B.exec
  have hb := B.bytes
  have hr := B.returns
  have hts := atoms_spec (ws := (wa yX12_sinks cX12_sinks 6 (some .int))) B.pre
  have hown : s.vm.findClass RX12 = some m.cls := findClass_of_methodNamed B.named
  have hlocks := B.notSynchronized
  subst hsz
  have hD : va_D (pq_B t σ (I, J, ri, rj, rq) s.heap.size) (pq_P t σ (I, J, ri, rj, rq)) := hD0.self
  generalize hAe : pq_B t σ (I, J, ri, rj, rq) s.heap.size = A at hD ⊢
  have hA : ∀ q : Nat, s.heap.size ≤ q → A q := fun q h => by rw [← hAe]; exact Or.inr h
  have hS : va_S A s.heap s.heap [] := va_S.rf
  have hG : GM [2001, 1305, 1304, 1403, 1000, 1001, 1002, 1003, 1004, 1005, 1006, 1007, 1010, 1013, 1014, 1015, 1500, 1501, 1502, 1503, 1504, 1100, 1101, 1102, 1103, 1104, 1300, 1301, 1306, 1308, 1700, 1701, 1702] tg σ I ri I ri rq := ⟨hG0, fun _ _ _ => rfl, fun _ _ _ _ _ => rfl, fun _ _ _ _ _ _ => rfl⟩
  have hl := lv_entry ([.ref this, .int a0, .int a1, .int a2]) (n := 6) (Nat.le_of_ble_eq_true rfl)
  rw [lg_entry_eq]
  generalize (lg_sl ([.ref this, .int a0, .int a1, .int a2]) ++ List.replicate (6 - (lg_sl ([.ref this, .int a0, .int a1, .int a2])).length) Slot.unset).toArray = ls at hl ⊢
  have hl : lv_has ls 6 [(0, .ref this), (1, .int a0), (2, .int a1), (3, .int a2)] := hl
  refine q_gen (fun Q hQ => ?_)
  have go : ∀ (H : Heap) (locs : List Loc) (ls : Array Slot), va_P D vwCl (pq_P t σ (I, J, ri, rj, rq)) H → va_D A (pq_P t σ (I, J, ri, rj, rq)) → va_S A s.heap H locs → lv_has ls 6 [(0, .ref this), (1, .int a0), (2, .int a1), (3, .int a2)] → W p l e ({ frames := 7, cells := 0, slots := 0, locals := 172 } : Room) s m (List.toArray ([.ref this, .int a0, .int a1, .int a2] : List Value)) below meth c H locs 0 0 Q (F0 m 0 ls []) := by
    intro H locs ls hP hD hS hl
    refine lv_aload_n hx hb dX12_sinks_0 rfl (lv_at hl 0 rfl) ?_
    refine lv_iload_n hx hb dX12_sinks_1 rfl (lv_at hl 1 rfl) ?_
    refine pk_i (va_runV (As := [.int a0]) (rest := []) ⟨hx, hb, hml, hown, hts⟩ (s_X12_isCell_w l D t σ I J ri rj rq H.size tg hSH hG.1 this a0 hL_this hK_this this_a hR_this_a hL_this_a hK_this_a hN_this_a hT_this_a) (cwV 1 hts (tw_V tw_340 tw_341 tw_342 tw_5 tw_343) rfl rfl rfl cv_yX12_isCell_1 ⟨Nat.le_of_ble_eq_true rfl, Nat.le_of_ble_eq_true rfl⟩) ⟨pq_blind, pq_recv hK hP hL_this hK_this (by decide) rfl, pq_pre hK hN hP hD⟩ rfl rfl hl.1 rfl (lv_room (Nat.le_of_ble_eq_true rfl)) dX12_sinks_2 ⟨Nat.le_of_ble_eq_true rfl, Nat.le_of_ble_eq_true rfl⟩) hD hS hA (fun x_1 σ1 μ1 H locs hw_2 hP hD hS => ?_)
    obtain ⟨hu_3, hr_5⟩ := hw_2
    obtain ⟨hu_3a, hu_3b⟩ := Prod.mk.inj hu_3
    rw [hu_3a, hu_3b] at hP hD
    have h_6 : rg x_1 0 1 := by rcases hr_5 with ⟨q, -⟩ | ⟨q, -⟩ <;> rw [q] <;> exact ⟨by decide, by decide⟩
    have uh_6 := h_6.1
    have vh_6 := h_6.2
    have K_1096 : ∀  (H : Heap) (locs : List Loc) (ls : Array Slot), GM [2001, 1305, 1304, 1403, 1000, 1001, 1002, 1003, 1004, 1005, 1006, 1007, 1010, 1013, 1014, 1015, 1500, 1501, 1502, 1503, 1504, 1100, 1101, 1102, 1103, 1104, 1300, 1301, 1306, 1308, 1700, 1701, 1702] tg σ I ri I ri rq → va_P D vwCl (pq_P t σ (I, J, ri, rj, rq)) H → va_D A (pq_P t σ (I, J, ri, rj, rq)) → va_S A s.heap H locs → lv_has ls 6 [] → W p l e ({ frames := 7, cells := 0, slots := 0, locals := 172 } : Room) s m (List.toArray ([.ref this, .int a0, .int a1, .int a2] : List Value)) below meth c H locs 0 0 Q (F0 m 19 ls []) := by
      intro H locs ls hG hP hD hS hl
      refine lv_iconst (v := (-1)) hx hb dX12_sinks_19 (by decide) ?_
      subst hQ
      exact W.iret (v := (-1)) hx hb hr (fun t1 ht hW => ⟨⟨(-1), (σ, I, J, ri, rj, rq), rfl, ⟨I, ri, rj, rfl, hG, (fun _ _ => rfl), (rg_w (rg_k (-1 : Int32) (-1) rfl) (by decide))⟩, by rw [ht]; exact hP, va_K.moved hW.alike hK, hD⟩, hS.F ht⟩) hS.2.2 dX12_sinks_20
    refine lv_if_eq (tgt := 19) hx hb dX12_sinks_5 (by decide) (fun c_1097 => ?_) (fun c_1097 => ?_)
    · have f_1098 := (hr_5.resolve_left (fun q => absurd (q.1.symm.trans c_1097) (by decide))).2
      have tc_1099 : (x_1).toInt = 0 := congrArg Int32.toInt c_1097
      have h_1100 : rg x_1 0 0 := rg_and h_6 (rg_of_eq c_1097 (rg_k (0 : Int32) 0 rfl)) (by decide)
      have uh_1100 := h_1100.1
      have vh_1100 := h_1100.2
      exact K_1096 _ _ _ hG hP hD hS (lv_sub hl [] rfl)
    · obtain ⟨f_1101, f_1102⟩ := (hr_5.resolve_right (fun q => c_1097 q.1)).2
      have uf_1101 := f_1101.1
      have vf_1101 := f_1101.2
      have tc_1103 : (x_1).toInt ≠ 0 := fun q => c_1097 (Int32.toInt_inj.mp q)
      have h_1104 : rg x_1 1 1 := rg_ne c_1097 h_6 0 rfl (by decide)
      have uh_1104 := h_1104.1
      have vh_1104 := h_1104.2
      refine lv_aload_n hx hb dX12_sinks_8 rfl (lv_at hl 0 rfl) ?_
      refine lv_iload_n hx hb dX12_sinks_9 rfl (lv_at hl 3 rfl) ?_
      refine lv_bipush (v := 60) hx hb dX12_sinks_10 (by decide) ?_
      refine lv_iload_n hx hb dX12_sinks_12 rfl (lv_at hl 2 rfl) ?_
      refine pk_i (va_runV (As := [.int a2, .int 60, .int a1]) (rest := []) ⟨hx, hb, hml, hown, hts⟩ (s_X12_isTime_w l D t σ I J ri rj rq H.size tg hSH hG.1 this a2 (60 : Int32) a1 hL_this hK_this (rg_w (rg_k (60 : Int32) 60 rfl) (by decide)) this_a hR_this_a hL_this_a hK_this_a hN_this_a hT_this_a) (cwV 3 hts (tw_V tw_1189 tw_1190 tw_1191 tw_5 tw_1192) rfl rfl rfl cv_yX12_isTime_3 ⟨Nat.le_of_ble_eq_true rfl, Nat.le_of_ble_eq_true rfl⟩) ⟨pq_blind, pq_recv hK hP hL_this hK_this (by decide) rfl, pq_pre hK hN hP hD⟩ rfl rfl hl.1 rfl (lv_room (Nat.le_of_ble_eq_true rfl)) dX12_sinks_13 ⟨Nat.le_of_ble_eq_true rfl, Nat.le_of_ble_eq_true rfl⟩) hD hS hA (fun x_1105 σ1 μ1 H locs hw_1106 hP hD hS => ?_)
      obtain ⟨hu_1107, hr_1109⟩ := hw_1106
      obtain ⟨hu_1107a, hu_1107b⟩ := Prod.mk.inj hu_1107
      rw [hu_1107a, hu_1107b] at hP hD
      have h_1110 : rg x_1105 0 1 := by rcases hr_1109 with ⟨q, -⟩ | ⟨q, -⟩ <;> rw [q] <;> exact ⟨by decide, by decide⟩
      have uh_1110 := h_1110.1
      have vh_1110 := h_1110.2
      refine lv_if_ne (tgt := 21) hx hb dX12_sinks_16 (by decide) (fun c_1111 => ?_) (fun c_1111 => ?_)
      · obtain ⟨f_1112, f_1113, f_1114⟩ := (hr_1109.resolve_right (fun q => c_1111 q.1)).2
        have uf_1112 := f_1112.1
        have vf_1112 := f_1112.2
        have uf_1113 := f_1113.1
        have vf_1113 := f_1113.2
        have tc_1115 : (x_1105).toInt ≠ 0 := fun q => c_1111 (Int32.toInt_inj.mp q)
        have h_1116 : rg x_1105 1 1 := rg_ne c_1111 h_1110 0 rfl (by decide)
        have uh_1116 := h_1116.1
        have vh_1116 := h_1116.2
        refine lv_aload_n hx hb dX12_sinks_21 rfl (lv_at hl 0 rfl) ?_
        refine pg_f (v := .ref this_a) (C := RX12) (T := TX12) (N := 31) hx hb hts (tw_i inlX12) hown hK hP hL_this hK_this (by decide) rfl 0 (by decide) (hts _ (tw_c tw_176)) (pq_hv rfl hR_this_a) dX12_sinks_22 ?_
        refine lv_aload_n hx hb dX12_sinks_25 rfl (lv_at hl 0 rfl) ?_
        refine pg_f (v := .ref this_kept) (C := RX12) (T := TX12) (N := 31) hx hb hts (tw_i inlX12) hown hK hP hL_this hK_this (by decide) rfl 2 (by decide) (hts _ (tw_c tw_178)) (pq_hv rfl hR_this_kept) dX12_sinks_26 ?_
        refine pk_v (va_runS (As := [.ref this_a, .ref this_kept]) (rest := []) ⟨hx, hb, hml, hown, hts⟩ (c_X12_copy l D t σ I J ri rj rq H.size this_a this_kept 12720 hL_this_a hK_this_a hN_this_a hL_this_kept hK_this_kept hN_this_kept rfl (tg_ne hT_this_a hT_this_kept (by decide))) (va_cwS 2 hts (tw_S tw_192 tw_193 tw_5 tw_194) rfl rfl rfl cd_yX12_copy_2 ⟨Nat.le_of_ble_eq_true rfl, Nat.le_of_ble_eq_true rfl⟩) ⟨pq_blind, pq_pre hK hN hP hD⟩ rfl rfl hl.1 rfl (lv_room (Nat.le_of_ble_eq_true rfl)) dX12_sinks_29 ⟨Nat.le_of_ble_eq_true rfl, Nat.le_of_ble_eq_true rfl⟩) hD hS hA (fun σ1 μ1 H locs hw_1118 hP hD hS => ?_)
        obtain ⟨ri_1119, hu_1120, hp_1123, hp_1124⟩ := hw_1118
        obtain ⟨hu_1120a, hu_1120b⟩ := Prod.mk.inj hu_1120
        rw [hu_1120a, hu_1120b] at hP hD
        have tt_1125 : (ri_1119 this_kept 0).toInt = (ri this_a 0).toInt := congrArg Int32.toInt (hp_1123 0 (by decide))
        have tt_1126 : (ri_1119 this_a 0).toInt = (ri this_a 0).toInt := congrArg Int32.toInt (congrFun (hp_1124 this_a (tg_ne hT_this_a hT_this_kept (by decide))) 0)
        have hG := GM.cp hG hT_this_a hT_this_kept (by decide) hp_1123 hp_1124 (by decide)
        refine lv_iconst (v := (-1)) hx hb dX12_sinks_32 (by decide) ?_
        refine lv_istore (lv' := [(4, .int (-1)), (0, .ref this), (1, .int a0), (2, .int a1), (3, .int a2)]) hx hb dX12_sinks_33 hl (by decide) rfl (fun ls hl => ?_)
        refine lv_iconst (v := 0) hx hb dX12_sinks_35 (by decide) ?_
        refine lv_istore (lv' := [(5, .int 0), (4, .int (-1)), (0, .ref this), (1, .int a0), (2, .int a1), (3, .int a2)]) hx hb dX12_sinks_36 hl (by decide) rfl (fun ls hl => ?_)
        have L_2127 : ∀ (n_2126 : Nat) (x_2064 : Int32) (x_2065 : Int32) (I_2066 : Nat → Nat → Int32) (ri_2067 : Nat → Nat → Int32) (rj_2068 : Nat → Nat → Int64) (H : Heap) (locs : List Loc) (ls : Array Slot), rg x_2064 (-1) 599 → rg x_2065 0 60 → ((ri_2067 this_a 0).toInt = (ri this_a 0).toInt + (x_2065).toInt) → (∀ j, zn j ∈ ztl → ri_2067 this_kept j = ri this_a j) → (60 - (x_2065).toInt).toNat < n_2126 → GM [2001, 1305, 1304, 1403, 1000, 1001, 1002, 1003, 1004, 1005, 1006, 1007, 1010, 1013, 1014, 1015, 1500, 1501, 1502, 1503, 1504, 1100, 1101, 1102, 1103, 1104, 1300, 1301, 1306, 1308, 1700, 1701, 1702] tg σ I ri I_2066 ri_2067 rq → va_P D vwCl (pq_P t σ (I_2066, J, ri_2067, rj_2068, rq)) H → va_D A (pq_P t σ (I_2066, J, ri_2067, rj_2068, rq)) → va_S A s.heap H locs → lv_has ls 6 [(0, .ref this), (1, .int a0), (2, .int a1), (3, .int a2), (4, .int x_2064), (5, .int x_2065)] → W p l e ({ frames := 7, cells := 0, slots := 0, locals := 172 } : Room) s m (List.toArray ([.ref this, .int a0, .int a1, .int a2] : List Value)) below meth c H locs 0 0 Q (F0 m 38 ls []) := by
          intro n_2126
          induction n_2126 with
          | zero => intro x_2064 x_2065 I_2066 ri_2067 rj_2068 H locs ls h_2133 h_2134 hrel_2135 hrel_2136 hm_2125 hG hP hD hS hl; exact absurd hm_2125 (Nat.not_lt_zero _)
          | succ n_2126 ih_2128 =>
            intro x_2064 x_2065 I_2066 ri_2067 rj_2068 H locs ls h_2133 h_2134 hrel_2135 hrel_2136 hm_2125 hG hP hD hS hl
            have uh_2133 := h_2133.1
            have vh_2133 := h_2133.2
            have uh_2134 := h_2134.1
            have vh_2134 := h_2134.2
            refine lv_iload hx hb dX12_sinks_38 (lv_at hl 5 rfl) ?_
            refine lv_iload_n hx hb dX12_sinks_40 rfl (lv_at hl 3 rfl) ?_
            have K_2189 : ∀  (H : Heap) (locs : List Loc) (ls : Array Slot), (∀ j, zn j ∈ ztl → ri_2067 this_kept j = ri this_a j) → GM [2001, 1305, 1304, 1403, 1000, 1001, 1002, 1003, 1004, 1005, 1006, 1007, 1010, 1013, 1014, 1015, 1500, 1501, 1502, 1503, 1504, 1100, 1101, 1102, 1103, 1104, 1300, 1301, 1306, 1308, 1700, 1701, 1702] tg σ I ri I_2066 ri_2067 rq → va_P D vwCl (pq_P t σ (I_2066, J, ri_2067, rj_2068, rq)) H → va_D A (pq_P t σ (I_2066, J, ri_2067, rj_2068, rq)) → va_S A s.heap H locs → lv_has ls 6 [(0, .ref this), (4, .int x_2064)] → W p l e ({ frames := 7, cells := 0, slots := 0, locals := 172 } : Room) s m (List.toArray ([.ref this, .int a0, .int a1, .int a2] : List Value)) below meth c H locs 0 0 Q (F0 m 80 ls []) := by
              intro H locs ls hrel_2191 hG hP hD hS hl
              refine lv_aload_n hx hb dX12_sinks_80 rfl (lv_at hl 0 rfl) ?_
              refine pg_f (v := .ref this_kept) (C := RX12) (T := TX12) (N := 31) hx hb hts (tw_i inlX12) hown hK hP hL_this hK_this (by decide) rfl 2 (by decide) (hts _ (tw_c tw_178)) (pq_hv rfl hR_this_kept) dX12_sinks_81 ?_
              refine lv_aload_n hx hb dX12_sinks_84 rfl (lv_at hl 0 rfl) ?_
              refine pg_f (v := .ref this_a) (C := RX12) (T := TX12) (N := 31) hx hb hts (tw_i inlX12) hown hK hP hL_this hK_this (by decide) rfl 0 (by decide) (hts _ (tw_c tw_176)) (pq_hv rfl hR_this_a) dX12_sinks_85 ?_
              refine pk_v (va_runS (As := [.ref this_kept, .ref this_a]) (rest := []) ⟨hx, hb, hml, hown, hts⟩ (c_X12_copy l D t σ I_2066 J ri_2067 rj_2068 rq H.size this_kept this_a 12720 hL_this_kept hK_this_kept hN_this_kept hL_this_a hK_this_a hN_this_a rfl (tg_ne hT_this_kept hT_this_a (by decide))) (va_cwS 2 hts (tw_S tw_192 tw_193 tw_5 tw_194) rfl rfl rfl cd_yX12_copy_2 ⟨Nat.le_of_ble_eq_true rfl, Nat.le_of_ble_eq_true rfl⟩) ⟨pq_blind, pq_pre hK hN hP hD⟩ rfl rfl hl.1 rfl (lv_room (Nat.le_of_ble_eq_true rfl)) dX12_sinks_88 ⟨Nat.le_of_ble_eq_true rfl, Nat.le_of_ble_eq_true rfl⟩) hD hS hA (fun σ1 μ1 H locs hw_2193 hP hD hS => ?_)
              obtain ⟨ri_2194, hu_2195, hp_2198, hp_2199⟩ := hw_2193
              obtain ⟨hu_2195a, hu_2195b⟩ := Prod.mk.inj hu_2195
              rw [hu_2195a, hu_2195b] at hP hD
              have tt_2200 : (ri_2194 this_a 0).toInt = (ri_2067 this_kept 0).toInt := congrArg Int32.toInt (hp_2198 0 (by decide))
              have tt_2201 : (ri_2194 this_kept 0).toInt = (ri_2067 this_kept 0).toInt := congrArg Int32.toInt (congrFun (hp_2199 this_kept (tg_ne hT_this_kept hT_this_a (by decide))) 0)
              have hG := GM.cp hG hT_this_kept hT_this_a (by decide) hp_2198 hp_2199 (by decide)
              refine lv_iload hx hb dX12_sinks_91 (lv_at hl 1 rfl) ?_
              subst hQ
              exact W.iret (v := x_2064) hx hb hr (fun t1 ht hW => ⟨⟨x_2064, (σ, I_2066, J, ri_2194, rj_2068, rq), rfl, ⟨I_2066, ri_2194, rj_2068, rfl, hG, (row_c hp_2198 hrel_2191), (rg_w h_2133 (by decide))⟩, by rw [ht]; exact hP, va_K.moved hW.alike hK, hD⟩, hS.F ht⟩) hS.2.2 dX12_sinks_93
            refine lv_icmp_ge (tgt := 80) hx hb dX12_sinks_41 (by decide) (fun c_2202 => ?_) (fun c_2202 => ?_)
            · have tc_2203 : (a2).toInt ≤ (x_2065).toInt := Int32.le_iff_toInt_le.mp c_2202
              have h_2204 : rg x_2065 1 60 := rg_le2 c_2202 f_1112 h_2134 (by decide)
              have uh_2204 := h_2204.1
              have vh_2204 := h_2204.2
              exact K_2189 _ _ _ hrel_2136 hG hP hD hS (lv_sub hl [0, 4] rfl)
            · have tc_2205 : (x_2065).toInt < (a2).toInt := Int32.lt_iff_toInt_lt.mp (nle c_2202)
              have h_2206 : rg x_2065 0 59 := rg_lt1 (nle c_2202) h_2134 f_1112 (by decide)
              have uh_2206 := h_2206.1
              have vh_2206 := h_2206.2
              refine lv_iload hx hb dX12_sinks_44 (lv_at hl 4 rfl) ?_
              refine lv_if_ge (tgt := 80) hx hb dX12_sinks_46 (by decide) (fun c_2207 => ?_) (fun c_2207 => ?_)
              · have tc_2208 : 0 ≤ (x_2064).toInt := Int32.le_iff_toInt_le.mp c_2207
                have h_2209 : rg x_2064 0 599 := rg_le2 c_2207 (rg_k (0 : Int32) 0 rfl) h_2133 (by decide)
                have uh_2209 := h_2209.1
                have vh_2209 := h_2209.2
                exact K_2189 _ _ _ hrel_2136 hG hP hD hS (lv_sub hl [0, 4] rfl)
              · have tc_2210 : (x_2064).toInt < 0 := Int32.lt_iff_toInt_lt.mp (nle c_2207)
                have h_2211 : rg x_2064 (-1) (-1) := rg_lt1 (nle c_2207) h_2133 (rg_k (0 : Int32) 0 rfl) (by decide)
                have uh_2211 := h_2211.1
                have vh_2211 := h_2211.2
                refine lv_aload_n hx hb dX12_sinks_49 rfl (lv_at hl 0 rfl) ?_
                refine lv_iload_n hx hb dX12_sinks_50 rfl (lv_at hl 2 rfl) ?_
                refine pk_v (va_runV (As := [.int a1]) (rest := []) ⟨hx, hb, hml, hown, hts⟩ (s_X12_month l D t σ I_2066 J ri_2067 rj_2068 rq H.size tg hSH hG.1 this a1 hL_this hK_this this_a hR_this_a hL_this_a hK_this_a hN_this_a hT_this_a (by omega)) (cwV 1 hts (tw_V tw_1193 tw_1194 tw_1195 tw_5 tw_1196) rfl rfl rfl cv_yX12_month_1 ⟨Nat.le_of_ble_eq_true rfl, Nat.le_of_ble_eq_true rfl⟩) ⟨pq_blind, pq_recv hK hP hL_this hK_this (by decide) rfl, pq_pre hK hN hP hD⟩ rfl rfl hl.1 rfl (lv_room (Nat.le_of_ble_eq_true rfl)) dX12_sinks_51 ⟨Nat.le_of_ble_eq_true rfl, Nat.le_of_ble_eq_true rfl⟩) hD hS hA (fun σ1 μ1 H locs hw_2213 hP hD hS => ?_)
                obtain ⟨I_2214, ri_2215, rj_2216, hu_2217, hg_2218, hp_2220⟩ := hw_2213
                obtain ⟨hu_2217a, hu_2217b⟩ := Prod.mk.inj hu_2217
                rw [hu_2217a, hu_2217b] at hP hD
                have tt_2221 := hp_2220
                have tt_2222 : (ri_2215 this_kept 0).toInt = (ri_2067 this_kept 0).toInt := congrArg Int32.toInt (congrFun (hg_2218.2.2.2 386 2001 (by decide) (by decide) this_kept hT_this_kept) 0)
                have hG := GM.tr hG hg_2218 (by decide)
                refine lv_aload_n hx hb dX12_sinks_54 rfl (lv_at hl 0 rfl) ?_
                refine lv_iload_n hx hb dX12_sinks_55 rfl (lv_at hl 1 rfl) ?_
                refine lv_bipush (v := 12) hx hb dX12_sinks_56 (by decide) ?_
                refine pk_i (va_runV (As := [.int a0, .int 12]) (rest := []) ⟨hx, hb, hml, hown, hts⟩ (s_X12_cellAt_w_c12 l D t σ I_2214 J ri_2215 rj_2216 rq H.size tg hSH hG.1 this a0 hL_this hK_this (rg_w f_1101 (by decide)) this_a hR_this_a hL_this_a hK_this_a hN_this_a hT_this_a) (cwV 2 hts (tw_V tw_361 tw_362 tw_363 tw_5 tw_364) rfl rfl rfl cv_yX12_cellAt_2 ⟨Nat.le_of_ble_eq_true rfl, Nat.le_of_ble_eq_true rfl⟩) ⟨pq_blind, pq_recv hK hP hL_this hK_this (by decide) rfl, pq_pre hK hN hP hD⟩ rfl rfl hl.1 rfl (lv_room (Nat.le_of_ble_eq_true rfl)) dX12_sinks_58 ⟨Nat.le_of_ble_eq_true rfl, Nat.le_of_ble_eq_true rfl⟩) hD hS hA (fun x_2223 σ1 μ1 H locs hw_2224 hP hD hS => ?_)
                obtain ⟨hu_2225, hp_2228⟩ := hw_2224
                obtain ⟨hu_2225a, hu_2225b⟩ := Prod.mk.inj hu_2225
                rw [hu_2225a, hu_2225b] at hP hD
                have tt_2229 := congrArg Int32.toInt hp_2228
                have K_2243 : ∀  (x_2238 : Int32) (H : Heap) (locs : List Loc) (ls : Array Slot), rg x_2238 (-1) 599 → (∀ j, zn j ∈ ztl → ri_2215 this_kept j = ri this_a j) → GM [2001, 1305, 1304, 1403, 1000, 1001, 1002, 1003, 1004, 1005, 1006, 1007, 1010, 1013, 1014, 1015, 1500, 1501, 1502, 1503, 1504, 1100, 1101, 1102, 1103, 1104, 1300, 1301, 1306, 1308, 1700, 1701, 1702] tg σ I ri I_2214 ri_2215 rq → va_P D vwCl (pq_P t σ (I_2214, J, ri_2215, rj_2216, rq)) H → va_D A (pq_P t σ (I_2214, J, ri_2215, rj_2216, rq)) → va_S A s.heap H locs → lv_has ls 6 [(0, .ref this), (1, .int a0), (2, .int a1), (3, .int a2), (4, .int x_2238), (5, .int x_2065)] → W p l e ({ frames := 7, cells := 0, slots := 0, locals := 172 } : Room) s m (List.toArray ([.ref this, .int a0, .int a1, .int a2] : List Value)) below meth c H locs 0 0 Q (F0 m 74 ls []) := by
                  intro x_2238 H locs ls h_2246 hrel_2247 hG hP hD hS hl
                  have uh_2246 := h_2246.1
                  have vh_2246 := h_2246.2
                  obtain ⟨x_2248, ex_2248⟩ : ∃ y : Int32, y = x_2065 + Int32.ofInt 1 := ⟨_, rfl⟩
                  have h_2249 : rg x_2248 1 60 := rg_of_eq ex_2248 (rg_add h_2206 (rg_k (Int32.ofInt 1) 1 rfl) (by decide))
                  have uh_2249 := h_2249.1
                  have vh_2249 := h_2249.2
                  have tx_2248 : (x_2248).toInt = (x_2065).toInt + 1 := by rw [ex_2248]; exact i_add_rg (a2 := (x_2065).toInt) (b2 := 1) rfl rfl h_2206 (rg_k (Int32.ofInt 1) 1 rfl) (by decide)
                  refine lv_iinc (v := x_2248) (lv' := [(5, .int x_2248), (0, .ref this), (1, .int a0), (2, .int a1), (3, .int a2), (4, .int x_2238)]) hx hb dX12_sinks_74 hl (k := 5) rfl ex_2248.symm (by decide) rfl (fun ls hl => ?_)
                  refine lv_goto (tgt := 38) hx hb dX12_sinks_77 (by decide) ?_
                  exact ih_2128 x_2238 x_2248 I_2214 ri_2215 rj_2216 _ _ _ (rg_w h_2246 (by decide)) (rg_w h_2249 (by decide)) (by omega) hrel_2247 (ms_up 1 hm_2125 ex_2248 rfl (by decide) h_2206 (by decide) (by decide)) hG hP hD hS (lv_sub hl [1, 2, 3, 4, 5, 0] rfl)
                refine lv_if_ne (tgt := 74) hx hb dX12_sinks_61 (by decide) (fun c_2250 => ?_) (fun c_2250 => ?_)
                · have tc_2251 : (x_2223).toInt ≠ 0 := fun q => c_2250 (Int32.toInt_inj.mp q)
                  exact K_2243 x_2064 _ _ _ (rg_w h_2211 (by decide)) (row_s (hg_2218.2.2.2 386 2001 (by decide) (by decide) this_kept hT_this_kept) hrel_2136) hG hP hD hS (lv_sub hl [0, 1, 2, 3, 4, 5] rfl)
                · have tc_2252 : (x_2223).toInt = 0 := congrArg Int32.toInt c_2250
                  have h_2253 : rg x_2223 0 0 := rg_and (rg_full _) (rg_of_eq c_2250 (rg_k (0 : Int32) 0 rfl)) (by decide)
                  have uh_2253 := h_2253.1
                  have vh_2253 := h_2253.2
                  refine lv_aload_n hx hb dX12_sinks_64 rfl (lv_at hl 0 rfl) ?_
                  refine pg_f (v := .ref this_a) (C := RX12) (T := TX12) (N := 31) hx hb hts (tw_i inlX12) hown hK hP hL_this hK_this (by decide) rfl 0 (by decide) (hts _ (tw_c tw_176)) (pq_hv rfl hR_this_a) dX12_sinks_65 ?_
                  refine lv_iconst (v := 0) hx hb dX12_sinks_68 (by decide) ?_
                  refine pl_i hx hb hK hP hL_this_a hK_this_a hN_this_a (vp_in_iff.mpr (by decide)) dX12_sinks_69 ?_
                  refine lv_topi (fun x_2254 ex_2254 => ?_)
                  have h_2255 : rg x_2254 0 600 := rg_of_eq ex_2254 (GM.z hG (by rw [hT_this_a]; decide) (show zn ((0 : Int32)).toNatClampNeg = 0 from by decide) rfl)
                  have uh_2255 := h_2255.1
                  have vh_2255 := h_2255.2
                  refine lv_iconst (v := 1) hx hb dX12_sinks_70 (by decide) ?_
                  refine lv_isub hx hb dX12_sinks_71 ?_
                  refine lv_topi (fun x_2256 ex_2256 => ?_)
                  have h_2257 : rg x_2256 (-1) 599 := rg_of_eq ex_2256 (rg_sub h_2255 (rg_k (1 : Int32) 1 rfl) (by decide))
                  have uh_2257 := h_2257.1
                  have vh_2257 := h_2257.2
                  have tx_2256 : (x_2256).toInt = (x_2254).toInt - 1 := by rw [ex_2256]; exact i_sub_rg (a2 := (x_2254).toInt) (b2 := 1) rfl rfl h_2255 (rg_k (1 : Int32) 1 rfl) (by decide)
                  refine lv_istore (lv' := [(4, .int x_2256), (0, .ref this), (1, .int a0), (2, .int a1), (3, .int a2), (5, .int x_2065)]) hx hb dX12_sinks_72 hl (by decide) rfl (fun ls hl => ?_)
                  exact K_2243 x_2256 _ _ _ (rg_w h_2257 (by decide)) (row_s (hg_2218.2.2.2 386 2001 (by decide) (by decide) this_kept hT_this_kept) hrel_2136) hG hP hD hS (lv_sub hl [1, 2, 3, 4, 0, 5] rfl)
        exact L_2127 _ (-1 : Int32) (0 : Int32) I ri_1119 rj _ _ _ (rg_w (rg_k (-1 : Int32) (-1) rfl) (by decide)) (rg_w (rg_k (0 : Int32) 0 rfl) (by decide)) (by have k0 : ((-1) : Int32).toInt = (-1) := rfl; have k1 : (0 : Int32).toInt = 0 := rfl; omega) (row_c hp_1123 (fun _ _ => rfl)) (Nat.lt_succ_self _) hG hP hD hS (lv_sub hl [2, 3, 4, 5, 1, 0] rfl)
      · have f_2258 := (hr_1109.resolve_left (fun q => absurd (q.1.symm.trans c_1111) (by decide))).2
        have tc_2259 : (x_1105).toInt = 0 := congrArg Int32.toInt c_1111
        have h_2260 : rg x_1105 0 0 := rg_and h_1110 (rg_of_eq c_1111 (rg_k (0 : Int32) 0 rfl)) (by decide)
        have uh_2260 := h_2260.1
        have vh_2260 := h_2260.2
        exact K_1096 _ _ _ hG hP hD hS (lv_sub hl [] rfl)
  exact go _ _ _ hP hD hS hl

set_option maxHeartbeats 4000000 in
set_option maxRecDepth 100000 in
theorem s_X12_cant_w (l : Launch) (D : va_G) (t : pq_T) (σ : pq_S) (I : Nat → Nat → Int32) (J : Nat → Nat → Int64) (ri : Nat → Nat → Int32) (rj : Nat → Nat → Int64) (rq : Nat → Nat → Option Nat) (sz : Nat) (tg : Nat → Nat) (hSH : SH σ tg) (hG0 : GT tg I ri) (this : Nat) (a0 : Int32) (a1 : Int32) (hL_this : this ∈ σ.1) (hK_this : σ.2.1 this = 12) (this_a : Nat) (hR_this_a : σ.2.2.1 384 this = some this_a) (hL_this_a : this_a ∈ σ.1) (hK_this_a : σ.2.1 this_a = 13) (hN_this_a : σ.2.2.2 this_a = 12720) (hT_this_a : tg this_a = 384) (this_kept : Nat) (hR_this_kept : σ.2.2.1 386 this = some this_kept) (hL_this_kept : this_kept ∈ σ.1) (hK_this_kept : σ.2.1 this_kept = 13) (hN_this_kept : σ.2.2.2 this_kept = 12720) (hT_this_kept : tg this_kept = 386) : MetI l yX12_cant (wa yX12_cant cX12_cant 5 (some .int)) ({ frames := 7, cells := 0, slots := 0, locals := 172 }) [.ref this, .int a0, .int a1] D t σ (I, J, ri, rj, rq) sz 0 0 (fun (r : Int32) (u : pq_S × pq_M) => ∃ I' : Nat → Nat → Int32, ∃ ri' : Nat → Nat → Int32, ∃ rj' : Nat → Nat → Int64, u = (σ, I', J, ri', rj', rq) ∧ GM [2001, 1305, 1304, 1403, 1000, 1001, 1002, 1003, 1004, 1005, 1006, 1007, 1010, 1013, 1014, 1015, 1500, 1501, 1502, 1503, 1504, 1100, 1101, 1102, 1103, 1104, 1300, 1301, 1306, 1308, 1700, 1701, 1702] tg σ I ri I' ri' rq ∧ (∀ j, zn j ∈ ztl → ri' this_a j = ri this_a j) ∧ rg r (-1) 599) := by
  refine Met.ofW (cc := cX12_cant) (maxL := 5) (ret := (some .int)) (by decide) rfl ?_
  intro p e s m args below meth c s₁ B hml hv
  obtain ⟨rfl, hsz, hP, hK, hD0, hN⟩ := hv
  have hx := B.exec
  have hb := B.bytes
  have hr := B.returns
  have hts := atoms_spec (ws := (wa yX12_cant cX12_cant 5 (some .int))) B.pre
  have hown : s.vm.findClass RX12 = some m.cls := findClass_of_methodNamed B.named
  have hlocks := B.notSynchronized
  subst hsz
  have hD : va_D (pq_B t σ (I, J, ri, rj, rq) s.heap.size) (pq_P t σ (I, J, ri, rj, rq)) := hD0.self
  generalize hAe : pq_B t σ (I, J, ri, rj, rq) s.heap.size = A at hD ⊢
  have hA : ∀ q : Nat, s.heap.size ≤ q → A q := fun q h => by rw [← hAe]; exact Or.inr h
  have hS : va_S A s.heap s.heap [] := va_S.rf
  have hG : GM [2001, 1305, 1304, 1403, 1000, 1001, 1002, 1003, 1004, 1005, 1006, 1007, 1010, 1013, 1014, 1015, 1500, 1501, 1502, 1503, 1504, 1100, 1101, 1102, 1103, 1104, 1300, 1301, 1306, 1308, 1700, 1701, 1702] tg σ I ri I ri rq := ⟨hG0, fun _ _ _ => rfl, fun _ _ _ _ _ => rfl, fun _ _ _ _ _ _ => rfl⟩
  have hl := lv_entry ([.ref this, .int a0, .int a1]) (n := 5) (Nat.le_of_ble_eq_true rfl)
  rw [lg_entry_eq]
  generalize (lg_sl ([.ref this, .int a0, .int a1]) ++ List.replicate (5 - (lg_sl ([.ref this, .int a0, .int a1])).length) Slot.unset).toArray = ls at hl ⊢
  have hl : lv_has ls 5 [(0, .ref this), (1, .int a0), (2, .int a1)] := hl
  refine q_gen (fun Q hQ => ?_)
  have go : ∀ (H : Heap) (locs : List Loc) (ls : Array Slot), va_P D vwCl (pq_P t σ (I, J, ri, rj, rq)) H → va_D A (pq_P t σ (I, J, ri, rj, rq)) → va_S A s.heap H locs → lv_has ls 5 [(0, .ref this), (1, .int a0), (2, .int a1)] → W p l e ({ frames := 7, cells := 0, slots := 0, locals := 172 } : Room) s m (List.toArray ([.ref this, .int a0, .int a1] : List Value)) below meth c H locs 0 0 Q (F0 m 0 ls []) := by
    intro H locs ls hP hD hS hl
    refine lv_aload_n hx hb dX12_cant_0 rfl (lv_at hl 0 rfl) ?_
    refine lv_iload_n hx hb dX12_cant_1 rfl (lv_at hl 2 rfl) ?_
    refine lv_bipush (v := 60) hx hb dX12_cant_2 (by decide) ?_
    refine lv_iload_n hx hb dX12_cant_4 rfl (lv_at hl 1 rfl) ?_
    refine pk_i (va_runV (As := [.int a1, .int 60, .int a0]) (rest := []) ⟨hx, hb, hml, hown, hts⟩ (s_X12_isTime_w l D t σ I J ri rj rq H.size tg hSH hG.1 this a1 (60 : Int32) a0 hL_this hK_this (rg_w (rg_k (60 : Int32) 60 rfl) (by decide)) this_a hR_this_a hL_this_a hK_this_a hN_this_a hT_this_a) (cwV 3 hts (tw_V tw_1189 tw_1190 tw_1191 tw_5 tw_1192) rfl rfl rfl cv_yX12_isTime_3 ⟨Nat.le_of_ble_eq_true rfl, Nat.le_of_ble_eq_true rfl⟩) ⟨pq_blind, pq_recv hK hP hL_this hK_this (by decide) rfl, pq_pre hK hN hP hD⟩ rfl rfl hl.1 rfl (lv_room (Nat.le_of_ble_eq_true rfl)) dX12_cant_5 ⟨Nat.le_of_ble_eq_true rfl, Nat.le_of_ble_eq_true rfl⟩) hD hS hA (fun x_1 σ1 μ1 H locs hw_2 hP hD hS => ?_)
    obtain ⟨hu_3, hr_5⟩ := hw_2
    obtain ⟨hu_3a, hu_3b⟩ := Prod.mk.inj hu_3
    rw [hu_3a, hu_3b] at hP hD
    have h_6 : rg x_1 0 1 := by rcases hr_5 with ⟨q, -⟩ | ⟨q, -⟩ <;> rw [q] <;> exact ⟨by decide, by decide⟩
    have uh_6 := h_6.1
    have vh_6 := h_6.2
    refine lv_if_ne (tgt := 13) hx hb dX12_cant_8 (by decide) (fun c_7 => ?_) (fun c_7 => ?_)
    · obtain ⟨f_8, f_9, f_10⟩ := (hr_5.resolve_right (fun q => c_7 q.1)).2
      have uf_8 := f_8.1
      have vf_8 := f_8.2
      have uf_9 := f_9.1
      have vf_9 := f_9.2
      have tc_11 : (x_1).toInt ≠ 0 := fun q => c_7 (Int32.toInt_inj.mp q)
      have h_12 : rg x_1 1 1 := rg_ne c_7 h_6 0 rfl (by decide)
      have uh_12 := h_12.1
      have vh_12 := h_12.2
      refine lv_aload_n hx hb dX12_cant_13 rfl (lv_at hl 0 rfl) ?_
      refine pg_f (v := .ref this_a) (C := RX12) (T := TX12) (N := 31) hx hb hts (tw_i inlX12) hown hK hP hL_this hK_this (by decide) rfl 0 (by decide) (hts _ (tw_c tw_176)) (pq_hv rfl hR_this_a) dX12_cant_14 ?_
      refine lv_aload_n hx hb dX12_cant_17 rfl (lv_at hl 0 rfl) ?_
      refine pg_f (v := .ref this_kept) (C := RX12) (T := TX12) (N := 31) hx hb hts (tw_i inlX12) hown hK hP hL_this hK_this (by decide) rfl 2 (by decide) (hts _ (tw_c tw_178)) (pq_hv rfl hR_this_kept) dX12_cant_18 ?_
      refine pk_v (va_runS (As := [.ref this_a, .ref this_kept]) (rest := []) ⟨hx, hb, hml, hown, hts⟩ (c_X12_copy l D t σ I J ri rj rq H.size this_a this_kept 12720 hL_this_a hK_this_a hN_this_a hL_this_kept hK_this_kept hN_this_kept rfl (tg_ne hT_this_a hT_this_kept (by decide))) (va_cwS 2 hts (tw_S tw_192 tw_193 tw_5 tw_194) rfl rfl rfl cd_yX12_copy_2 ⟨Nat.le_of_ble_eq_true rfl, Nat.le_of_ble_eq_true rfl⟩) ⟨pq_blind, pq_pre hK hN hP hD⟩ rfl rfl hl.1 rfl (lv_room (Nat.le_of_ble_eq_true rfl)) dX12_cant_21 ⟨Nat.le_of_ble_eq_true rfl, Nat.le_of_ble_eq_true rfl⟩) hD hS hA (fun σ1 μ1 H locs hw_14 hP hD hS => ?_)
      obtain ⟨ri_15, hu_16, hp_19, hp_20⟩ := hw_14
      obtain ⟨hu_16a, hu_16b⟩ := Prod.mk.inj hu_16
      rw [hu_16a, hu_16b] at hP hD
      have tt_21 : (ri_15 this_kept 0).toInt = (ri this_a 0).toInt := congrArg Int32.toInt (hp_19 0 (by decide))
      have tt_22 : (ri_15 this_a 0).toInt = (ri this_a 0).toInt := congrArg Int32.toInt (congrFun (hp_20 this_a (tg_ne hT_this_a hT_this_kept (by decide))) 0)
      have hG := GM.cp hG hT_this_a hT_this_kept (by decide) hp_19 hp_20 (by decide)
      refine lv_iconst (v := (-1)) hx hb dX12_cant_24 (by decide) ?_
      refine lv_istore_n (lv' := [(3, .int (-1)), (0, .ref this), (1, .int a0), (2, .int a1)]) hx hb dX12_cant_25 rfl hl (by decide) rfl (fun ls hl => ?_)
      refine lv_iconst (v := 0) hx hb dX12_cant_26 (by decide) ?_
      refine lv_istore (lv' := [(4, .int 0), (3, .int (-1)), (0, .ref this), (1, .int a0), (2, .int a1)]) hx hb dX12_cant_27 hl (by decide) rfl (fun ls hl => ?_)
      have L_904 : ∀ (n_903 : Nat) (x_848 : Int32) (x_849 : Int32) (I_850 : Nat → Nat → Int32) (ri_851 : Nat → Nat → Int32) (rj_852 : Nat → Nat → Int64) (H : Heap) (locs : List Loc) (ls : Array Slot), rg x_848 (-1) 599 → rg x_849 0 60 → ((ri_851 this_a 0).toInt = (ri this_a 0).toInt + (x_849).toInt) → (∀ j, zn j ∈ ztl → ri_851 this_kept j = ri this_a j) → (60 - (x_849).toInt).toNat < n_903 → GM [2001, 1305, 1304, 1403, 1000, 1001, 1002, 1003, 1004, 1005, 1006, 1007, 1010, 1013, 1014, 1015, 1500, 1501, 1502, 1503, 1504, 1100, 1101, 1102, 1103, 1104, 1300, 1301, 1306, 1308, 1700, 1701, 1702] tg σ I ri I_850 ri_851 rq → va_P D vwCl (pq_P t σ (I_850, J, ri_851, rj_852, rq)) H → va_D A (pq_P t σ (I_850, J, ri_851, rj_852, rq)) → va_S A s.heap H locs → lv_has ls 5 [(0, .ref this), (1, .int a0), (2, .int a1), (3, .int x_848), (4, .int x_849)] → W p l e ({ frames := 7, cells := 0, slots := 0, locals := 172 } : Room) s m (List.toArray ([.ref this, .int a0, .int a1] : List Value)) below meth c H locs 0 0 Q (F0 m 29 ls []) := by
        intro n_903
        induction n_903 with
        | zero => intro x_848 x_849 I_850 ri_851 rj_852 H locs ls h_910 h_911 hrel_912 hrel_913 hm_902 hG hP hD hS hl; exact absurd hm_902 (Nat.not_lt_zero _)
        | succ n_903 ih_905 =>
          intro x_848 x_849 I_850 ri_851 rj_852 H locs ls h_910 h_911 hrel_912 hrel_913 hm_902 hG hP hD hS hl
          have uh_910 := h_910.1
          have vh_910 := h_910.2
          have uh_911 := h_911.1
          have vh_911 := h_911.2
          refine lv_iload hx hb dX12_cant_29 (lv_at hl 4 rfl) ?_
          refine lv_iload_n hx hb dX12_cant_31 rfl (lv_at hl 2 rfl) ?_
          have K_959 : ∀  (H : Heap) (locs : List Loc) (ls : Array Slot), (∀ j, zn j ∈ ztl → ri_851 this_kept j = ri this_a j) → GM [2001, 1305, 1304, 1403, 1000, 1001, 1002, 1003, 1004, 1005, 1006, 1007, 1010, 1013, 1014, 1015, 1500, 1501, 1502, 1503, 1504, 1100, 1101, 1102, 1103, 1104, 1300, 1301, 1306, 1308, 1700, 1701, 1702] tg σ I ri I_850 ri_851 rq → va_P D vwCl (pq_P t σ (I_850, J, ri_851, rj_852, rq)) H → va_D A (pq_P t σ (I_850, J, ri_851, rj_852, rq)) → va_S A s.heap H locs → lv_has ls 5 [(0, .ref this), (3, .int x_848)] → W p l e ({ frames := 7, cells := 0, slots := 0, locals := 172 } : Room) s m (List.toArray ([.ref this, .int a0, .int a1] : List Value)) below meth c H locs 0 0 Q (F0 m 67 ls []) := by
            intro H locs ls hrel_961 hG hP hD hS hl
            refine lv_aload_n hx hb dX12_cant_67 rfl (lv_at hl 0 rfl) ?_
            refine pg_f (v := .ref this_kept) (C := RX12) (T := TX12) (N := 31) hx hb hts (tw_i inlX12) hown hK hP hL_this hK_this (by decide) rfl 2 (by decide) (hts _ (tw_c tw_178)) (pq_hv rfl hR_this_kept) dX12_cant_68 ?_
            refine lv_aload_n hx hb dX12_cant_71 rfl (lv_at hl 0 rfl) ?_
            refine pg_f (v := .ref this_a) (C := RX12) (T := TX12) (N := 31) hx hb hts (tw_i inlX12) hown hK hP hL_this hK_this (by decide) rfl 0 (by decide) (hts _ (tw_c tw_176)) (pq_hv rfl hR_this_a) dX12_cant_72 ?_
            refine pk_v (va_runS (As := [.ref this_kept, .ref this_a]) (rest := []) ⟨hx, hb, hml, hown, hts⟩ (c_X12_copy l D t σ I_850 J ri_851 rj_852 rq H.size this_kept this_a 12720 hL_this_kept hK_this_kept hN_this_kept hL_this_a hK_this_a hN_this_a rfl (tg_ne hT_this_kept hT_this_a (by decide))) (va_cwS 2 hts (tw_S tw_192 tw_193 tw_5 tw_194) rfl rfl rfl cd_yX12_copy_2 ⟨Nat.le_of_ble_eq_true rfl, Nat.le_of_ble_eq_true rfl⟩) ⟨pq_blind, pq_pre hK hN hP hD⟩ rfl rfl hl.1 rfl (lv_room (Nat.le_of_ble_eq_true rfl)) dX12_cant_75 ⟨Nat.le_of_ble_eq_true rfl, Nat.le_of_ble_eq_true rfl⟩) hD hS hA (fun σ1 μ1 H locs hw_963 hP hD hS => ?_)
            obtain ⟨ri_964, hu_965, hp_968, hp_969⟩ := hw_963
            obtain ⟨hu_965a, hu_965b⟩ := Prod.mk.inj hu_965
            rw [hu_965a, hu_965b] at hP hD
            have tt_970 : (ri_964 this_a 0).toInt = (ri_851 this_kept 0).toInt := congrArg Int32.toInt (hp_968 0 (by decide))
            have tt_971 : (ri_964 this_kept 0).toInt = (ri_851 this_kept 0).toInt := congrArg Int32.toInt (congrFun (hp_969 this_kept (tg_ne hT_this_kept hT_this_a (by decide))) 0)
            have hG := GM.cp hG hT_this_kept hT_this_a (by decide) hp_968 hp_969 (by decide)
            refine lv_iload_n hx hb dX12_cant_78 rfl (lv_at hl 1 rfl) ?_
            subst hQ
            exact W.iret (v := x_848) hx hb hr (fun t1 ht hW => ⟨⟨x_848, (σ, I_850, J, ri_964, rj_852, rq), rfl, ⟨I_850, ri_964, rj_852, rfl, hG, (row_c hp_968 hrel_961), (rg_w h_910 (by decide))⟩, by rw [ht]; exact hP, va_K.moved hW.alike hK, hD⟩, hS.F ht⟩) hS.2.2 dX12_cant_79
          refine lv_icmp_ge (tgt := 67) hx hb dX12_cant_32 (by decide) (fun c_972 => ?_) (fun c_972 => ?_)
          · have tc_973 : (a1).toInt ≤ (x_849).toInt := Int32.le_iff_toInt_le.mp c_972
            have h_974 : rg x_849 1 60 := rg_le2 c_972 f_8 h_911 (by decide)
            have uh_974 := h_974.1
            have vh_974 := h_974.2
            exact K_959 _ _ _ hrel_913 hG hP hD hS (lv_sub hl [0, 3] rfl)
          · have tc_975 : (x_849).toInt < (a1).toInt := Int32.lt_iff_toInt_lt.mp (nle c_972)
            have h_976 : rg x_849 0 59 := rg_lt1 (nle c_972) h_911 f_8 (by decide)
            have uh_976 := h_976.1
            have vh_976 := h_976.2
            refine lv_iload_n hx hb dX12_cant_35 rfl (lv_at hl 3 rfl) ?_
            refine lv_if_ge (tgt := 67) hx hb dX12_cant_36 (by decide) (fun c_977 => ?_) (fun c_977 => ?_)
            · have tc_978 : 0 ≤ (x_848).toInt := Int32.le_iff_toInt_le.mp c_977
              have h_979 : rg x_848 0 599 := rg_le2 c_977 (rg_k (0 : Int32) 0 rfl) h_910 (by decide)
              have uh_979 := h_979.1
              have vh_979 := h_979.2
              exact K_959 _ _ _ hrel_913 hG hP hD hS (lv_sub hl [0, 3] rfl)
            · have tc_980 : (x_848).toInt < 0 := Int32.lt_iff_toInt_lt.mp (nle c_977)
              have h_981 : rg x_848 (-1) (-1) := rg_lt1 (nle c_977) h_910 (rg_k (0 : Int32) 0 rfl) (by decide)
              have uh_981 := h_981.1
              have vh_981 := h_981.2
              refine lv_aload_n hx hb dX12_cant_39 rfl (lv_at hl 0 rfl) ?_
              refine lv_iload_n hx hb dX12_cant_40 rfl (lv_at hl 1 rfl) ?_
              refine pk_v (va_runV (As := [.int a0]) (rest := []) ⟨hx, hb, hml, hown, hts⟩ (s_X12_month l D t σ I_850 J ri_851 rj_852 rq H.size tg hSH hG.1 this a0 hL_this hK_this this_a hR_this_a hL_this_a hK_this_a hN_this_a hT_this_a (by omega)) (cwV 1 hts (tw_V tw_1193 tw_1194 tw_1195 tw_5 tw_1196) rfl rfl rfl cv_yX12_month_1 ⟨Nat.le_of_ble_eq_true rfl, Nat.le_of_ble_eq_true rfl⟩) ⟨pq_blind, pq_recv hK hP hL_this hK_this (by decide) rfl, pq_pre hK hN hP hD⟩ rfl rfl hl.1 rfl (lv_room (Nat.le_of_ble_eq_true rfl)) dX12_cant_41 ⟨Nat.le_of_ble_eq_true rfl, Nat.le_of_ble_eq_true rfl⟩) hD hS hA (fun σ1 μ1 H locs hw_983 hP hD hS => ?_)
              obtain ⟨I_984, ri_985, rj_986, hu_987, hg_988, hp_990⟩ := hw_983
              obtain ⟨hu_987a, hu_987b⟩ := Prod.mk.inj hu_987
              rw [hu_987a, hu_987b] at hP hD
              have tt_991 := hp_990
              have tt_992 : (ri_985 this_kept 0).toInt = (ri_851 this_kept 0).toInt := congrArg Int32.toInt (congrFun (hg_988.2.2.2 386 2001 (by decide) (by decide) this_kept hT_this_kept) 0)
              have hG := GM.tr hG hg_988 (by decide)
              refine lv_aload_n hx hb dX12_cant_44 rfl (lv_at hl 0 rfl) ?_
              refine pg_f (v := .int (I_984 410 this)) (C := RX12) (T := TX12) (N := 31) hx hb hts (tw_i inlX12) hown hK hP hL_this hK_this (by decide) rfl 26 (by decide) (hts _ (tw_c tw_1237)) rfl dX12_cant_45 ?_
              refine lv_iconst (v := 1) hx hb dX12_cant_48 (by decide) ?_
              have K_1006 : ∀  (x_1001 : Int32) (H : Heap) (locs : List Loc) (ls : Array Slot), rg x_1001 (-1) 599 → (∀ j, zn j ∈ ztl → ri_985 this_kept j = ri this_a j) → GM [2001, 1305, 1304, 1403, 1000, 1001, 1002, 1003, 1004, 1005, 1006, 1007, 1010, 1013, 1014, 1015, 1500, 1501, 1502, 1503, 1504, 1100, 1101, 1102, 1103, 1104, 1300, 1301, 1306, 1308, 1700, 1701, 1702] tg σ I ri I_984 ri_985 rq → va_P D vwCl (pq_P t σ (I_984, J, ri_985, rj_986, rq)) H → va_D A (pq_P t σ (I_984, J, ri_985, rj_986, rq)) → va_S A s.heap H locs → lv_has ls 5 [(0, .ref this), (1, .int a0), (2, .int a1), (3, .int x_1001), (4, .int x_849)] → W p l e ({ frames := 7, cells := 0, slots := 0, locals := 172 } : Room) s m (List.toArray ([.ref this, .int a0, .int a1] : List Value)) below meth c H locs 0 0 Q (F0 m 61 ls []) := by
                intro x_1001 H locs ls h_1009 hrel_1010 hG hP hD hS hl
                have uh_1009 := h_1009.1
                have vh_1009 := h_1009.2
                obtain ⟨x_1011, ex_1011⟩ : ∃ y : Int32, y = x_849 + Int32.ofInt 1 := ⟨_, rfl⟩
                have h_1012 : rg x_1011 1 60 := rg_of_eq ex_1011 (rg_add h_976 (rg_k (Int32.ofInt 1) 1 rfl) (by decide))
                have uh_1012 := h_1012.1
                have vh_1012 := h_1012.2
                have tx_1011 : (x_1011).toInt = (x_849).toInt + 1 := by rw [ex_1011]; exact i_add_rg (a2 := (x_849).toInt) (b2 := 1) rfl rfl h_976 (rg_k (Int32.ofInt 1) 1 rfl) (by decide)
                refine lv_iinc (v := x_1011) (lv' := [(4, .int x_1011), (0, .ref this), (1, .int a0), (2, .int a1), (3, .int x_1001)]) hx hb dX12_cant_61 hl (k := 4) rfl ex_1011.symm (by decide) rfl (fun ls hl => ?_)
                refine lv_goto (tgt := 29) hx hb dX12_cant_64 (by decide) ?_
                exact ih_905 x_1001 x_1011 I_984 ri_985 rj_986 _ _ _ (rg_w h_1009 (by decide)) (rg_w h_1012 (by decide)) (by omega) hrel_1010 (ms_up 1 hm_902 ex_1011 rfl (by decide) h_976 (by decide) (by decide)) hG hP hD hS (lv_sub hl [1, 2, 3, 4, 0] rfl)
              refine lv_icmp_ne (tgt := 61) hx hb dX12_cant_49 (by decide) (fun c_1013 => ?_) (fun c_1013 => ?_)
              · have tc_1014 : (I_984 410 this).toInt ≠ 1 := fun q => c_1013 (Int32.toInt_inj.mp q)
                exact K_1006 x_848 _ _ _ (rg_w h_981 (by decide)) (row_s (hg_988.2.2.2 386 2001 (by decide) (by decide) this_kept hT_this_kept) hrel_913) hG hP hD hS (lv_sub hl [0, 1, 2, 3, 4] rfl)
              · have tc_1015 : (I_984 410 this).toInt = 1 := congrArg Int32.toInt c_1013
                have h_1016 : rg (I_984 410 this) 1 1 := rg_and (rg_full _) (rg_of_eq c_1013 (rg_k (1 : Int32) 1 rfl)) (by decide)
                have uh_1016 := h_1016.1
                have vh_1016 := h_1016.2
                refine lv_aload_n hx hb dX12_cant_52 rfl (lv_at hl 0 rfl) ?_
                refine pg_f (v := .ref this_a) (C := RX12) (T := TX12) (N := 31) hx hb hts (tw_i inlX12) hown hK hP hL_this hK_this (by decide) rfl 0 (by decide) (hts _ (tw_c tw_176)) (pq_hv rfl hR_this_a) dX12_cant_53 ?_
                refine lv_iconst (v := 0) hx hb dX12_cant_56 (by decide) ?_
                refine pl_i hx hb hK hP hL_this_a hK_this_a hN_this_a (vp_in_iff.mpr (by decide)) dX12_cant_57 ?_
                refine lv_topi (fun x_1017 ex_1017 => ?_)
                have h_1018 : rg x_1017 0 600 := rg_of_eq ex_1017 (GM.z hG (by rw [hT_this_a]; decide) (show zn ((0 : Int32)).toNatClampNeg = 0 from by decide) rfl)
                have uh_1018 := h_1018.1
                have vh_1018 := h_1018.2
                refine lv_iconst (v := 1) hx hb dX12_cant_58 (by decide) ?_
                refine lv_isub hx hb dX12_cant_59 ?_
                refine lv_topi (fun x_1019 ex_1019 => ?_)
                have h_1020 : rg x_1019 (-1) 599 := rg_of_eq ex_1019 (rg_sub h_1018 (rg_k (1 : Int32) 1 rfl) (by decide))
                have uh_1020 := h_1020.1
                have vh_1020 := h_1020.2
                have tx_1019 : (x_1019).toInt = (x_1017).toInt - 1 := by rw [ex_1019]; exact i_sub_rg (a2 := (x_1017).toInt) (b2 := 1) rfl rfl h_1018 (rg_k (1 : Int32) 1 rfl) (by decide)
                refine lv_istore_n (lv' := [(3, .int x_1019), (0, .ref this), (1, .int a0), (2, .int a1), (4, .int x_849)]) hx hb dX12_cant_60 rfl hl (by decide) rfl (fun ls hl => ?_)
                exact K_1006 x_1019 _ _ _ (rg_w h_1020 (by decide)) (row_s (hg_988.2.2.2 386 2001 (by decide) (by decide) this_kept hT_this_kept) hrel_913) hG hP hD hS (lv_sub hl [1, 2, 3, 0, 4] rfl)
      exact L_904 _ (-1 : Int32) (0 : Int32) I ri_15 rj _ _ _ (rg_w (rg_k (-1 : Int32) (-1) rfl) (by decide)) (rg_w (rg_k (0 : Int32) 0 rfl) (by decide)) (by have k0 : ((-1) : Int32).toInt = (-1) := rfl; have k1 : (0 : Int32).toInt = 0 := rfl; omega) (row_c hp_19 (fun _ _ => rfl)) (Nat.lt_succ_self _) hG hP hD hS (lv_sub hl [2, 3, 4, 1, 0] rfl)
    · have f_1021 := (hr_5.resolve_left (fun q => absurd (q.1.symm.trans c_7) (by decide))).2
      have tc_1022 : (x_1).toInt = 0 := congrArg Int32.toInt c_7
      have h_1023 : rg x_1 0 0 := rg_and h_6 (rg_of_eq c_7 (rg_k (0 : Int32) 0 rfl)) (by decide)
      have uh_1023 := h_1023.1
      have vh_1023 := h_1023.2
      refine lv_iconst (v := (-1)) hx hb dX12_cant_11 (by decide) ?_
      subst hQ
      exact W.iret (v := (-1)) hx hb hr (fun t1 ht hW => ⟨⟨(-1), (σ, I, J, ri, rj, rq), rfl, ⟨I, ri, rj, rfl, hG, (fun _ _ => rfl), (rg_w (rg_k (-1 : Int32) (-1) rfl) (by decide))⟩, by rw [ht]; exact hP, va_K.moved hW.alike hK, hD⟩, hS.F ht⟩) hS.2.2 dX12_cant_12
  exact go _ _ _ hP hD hS hl

set_option maxHeartbeats 4000000 in
set_option maxRecDepth 100000 in
theorem s_X12_keeps_w (l : Launch) (D : va_G) (t : pq_T) (σ : pq_S) (I : Nat → Nat → Int32) (J : Nat → Nat → Int64) (ri : Nat → Nat → Int32) (rj : Nat → Nat → Int64) (rq : Nat → Nat → Option Nat) (sz : Nat) (tg : Nat → Nat) (hSH : SH σ tg) (hG0 : GT tg I ri) (this : Nat) (a0 : Int32) (a1 : Int32) (a2 : Int32) (a3 : Int32) (hL_this : this ∈ σ.1) (hK_this : σ.2.1 this = 12) (this_a : Nat) (hR_this_a : σ.2.2.1 384 this = some this_a) (hL_this_a : this_a ∈ σ.1) (hK_this_a : σ.2.1 this_a = 13) (hN_this_a : σ.2.2.2 this_a = 12720) (hT_this_a : tg this_a = 384) (this_kept : Nat) (hR_this_kept : σ.2.2.1 386 this = some this_kept) (hL_this_kept : this_kept ∈ σ.1) (hK_this_kept : σ.2.1 this_kept = 13) (hN_this_kept : σ.2.2.2 this_kept = 12720) (hT_this_kept : tg this_kept = 386) : MetI l yX12_keeps (wa yX12_keeps cX12_keeps 6 (some .int)) ({ frames := 8, cells := 0, slots := 0, locals := 196 }) [.ref this, .int a0, .int a1, .int a2, .int a3] D t σ (I, J, ri, rj, rq) sz 0 0 (fun (r : Int32) (u : pq_S × pq_M) => ∃ I' : Nat → Nat → Int32, ∃ ri' : Nat → Nat → Int32, ∃ rj' : Nat → Nat → Int64, u = (σ, I', J, ri', rj', rq) ∧ GM [2001, 1305, 1304, 1403, 1000, 1001, 1002, 1003, 1004, 1005, 1006, 1007, 1010, 1013, 1014, 1015, 1500, 1501, 1502, 1503, 1504, 1100, 1101, 1102, 1103, 1104, 1300, 1301, 1306, 1308, 1700, 1701, 1702] tg σ I ri I' ri' rq ∧ (∀ j, zn j ∈ ztl → ri' this_a j = ri this_a j)) := by
  refine Met.ofW (cc := cX12_keeps) (maxL := 6) (ret := (some .int)) (by decide) rfl ?_
  intro p e s m args below meth c s₁ B hml hv
  obtain ⟨rfl, hsz, hP, hK, hD0, hN⟩ := hv
  have hx := B.exec
  have hb := B.bytes
  have hr := B.returns
  have hts := atoms_spec (ws := (wa yX12_keeps cX12_keeps 6 (some .int))) B.pre
  have hown : s.vm.findClass RX12 = some m.cls := findClass_of_methodNamed B.named
  have hlocks := B.notSynchronized
  subst hsz
  have hD : va_D (pq_B t σ (I, J, ri, rj, rq) s.heap.size) (pq_P t σ (I, J, ri, rj, rq)) := hD0.self
  generalize hAe : pq_B t σ (I, J, ri, rj, rq) s.heap.size = A at hD ⊢
  have hA : ∀ q : Nat, s.heap.size ≤ q → A q := fun q h => by rw [← hAe]; exact Or.inr h
  have hS : va_S A s.heap s.heap [] := va_S.rf
  have hG : GM [2001, 1305, 1304, 1403, 1000, 1001, 1002, 1003, 1004, 1005, 1006, 1007, 1010, 1013, 1014, 1015, 1500, 1501, 1502, 1503, 1504, 1100, 1101, 1102, 1103, 1104, 1300, 1301, 1306, 1308, 1700, 1701, 1702] tg σ I ri I ri rq := ⟨hG0, fun _ _ _ => rfl, fun _ _ _ _ _ => rfl, fun _ _ _ _ _ _ => rfl⟩
  have hl := lv_entry ([.ref this, .int a0, .int a1, .int a2, .int a3]) (n := 6) (Nat.le_of_ble_eq_true rfl)
  rw [lg_entry_eq]
  generalize (lg_sl ([.ref this, .int a0, .int a1, .int a2, .int a3]) ++ List.replicate (6 - (lg_sl ([.ref this, .int a0, .int a1, .int a2, .int a3])).length) Slot.unset).toArray = ls at hl ⊢
  have hl : lv_has ls 6 [(0, .ref this), (1, .int a0), (2, .int a1), (3, .int a2), (4, .int a3)] := hl
  refine q_gen (fun Q hQ => ?_)
  have go : ∀ (H : Heap) (locs : List Loc) (ls : Array Slot), va_P D vwCl (pq_P t σ (I, J, ri, rj, rq)) H → va_D A (pq_P t σ (I, J, ri, rj, rq)) → va_S A s.heap H locs → lv_has ls 6 [(0, .ref this), (1, .int a0), (2, .int a1), (3, .int a2), (4, .int a3)] → W p l e ({ frames := 8, cells := 0, slots := 0, locals := 196 } : Room) s m (List.toArray ([.ref this, .int a0, .int a1, .int a2, .int a3] : List Value)) below meth c H locs 0 0 Q (F0 m 0 ls []) := by
    intro H locs ls hP hD hS hl
    refine lv_aload_n hx hb dX12_keeps_0 rfl (lv_at hl 0 rfl) ?_
    refine lv_iload_n hx hb dX12_keeps_1 rfl (lv_at hl 1 rfl) ?_
    refine pk_i (va_runV (As := [.int a0]) (rest := []) ⟨hx, hb, hml, hown, hts⟩ (s_X12_isCell_w l D t σ I J ri rj rq H.size tg hSH hG.1 this a0 hL_this hK_this this_a hR_this_a hL_this_a hK_this_a hN_this_a hT_this_a) (cwV 1 hts (tw_V tw_340 tw_341 tw_342 tw_5 tw_343) rfl rfl rfl cv_yX12_isCell_1 ⟨Nat.le_of_ble_eq_true rfl, Nat.le_of_ble_eq_true rfl⟩) ⟨pq_blind, pq_recv hK hP hL_this hK_this (by decide) rfl, pq_pre hK hN hP hD⟩ rfl rfl hl.1 rfl (lv_room (Nat.le_of_ble_eq_true rfl)) dX12_keeps_2 ⟨Nat.le_of_ble_eq_true rfl, Nat.le_of_ble_eq_true rfl⟩) hD hS hA (fun x_1 σ1 μ1 H locs hw_2 hP hD hS => ?_)
    obtain ⟨hu_3, hr_5⟩ := hw_2
    obtain ⟨hu_3a, hu_3b⟩ := Prod.mk.inj hu_3
    rw [hu_3a, hu_3b] at hP hD
    have h_6 : rg x_1 0 1 := by rcases hr_5 with ⟨q, -⟩ | ⟨q, -⟩ <;> rw [q] <;> exact ⟨by decide, by decide⟩
    have uh_6 := h_6.1
    have vh_6 := h_6.2
    have K_109 : ∀  (H : Heap) (locs : List Loc) (ls : Array Slot), GM [2001, 1305, 1304, 1403, 1000, 1001, 1002, 1003, 1004, 1005, 1006, 1007, 1010, 1013, 1014, 1015, 1500, 1501, 1502, 1503, 1504, 1100, 1101, 1102, 1103, 1104, 1300, 1301, 1306, 1308, 1700, 1701, 1702] tg σ I ri I ri rq → va_P D vwCl (pq_P t σ (I, J, ri, rj, rq)) H → va_D A (pq_P t σ (I, J, ri, rj, rq)) → va_S A s.heap H locs → lv_has ls 6 [] → W p l e ({ frames := 8, cells := 0, slots := 0, locals := 196 } : Room) s m (List.toArray ([.ref this, .int a0, .int a1, .int a2, .int a3] : List Value)) below meth c H locs 0 0 Q (F0 m 38 ls []) := by
      intro H locs ls hG hP hD hS hl
      refine lv_ldc hx hb hown (hts _ (tw_c tw_288)) dX12_keeps_38 ?_
      subst hQ
      exact W.iret (v := (-1000000)) hx hb hr (fun t1 ht hW => ⟨⟨(-1000000), (σ, I, J, ri, rj, rq), rfl, ⟨I, ri, rj, rfl, hG, (fun _ _ => rfl)⟩, by rw [ht]; exact hP, va_K.moved hW.alike hK, hD⟩, hS.F ht⟩) hS.2.2 dX12_keeps_40
    refine lv_if_eq (tgt := 38) hx hb dX12_keeps_5 (by decide) (fun c_110 => ?_) (fun c_110 => ?_)
    · have f_111 := (hr_5.resolve_left (fun q => absurd (q.1.symm.trans c_110) (by decide))).2
      have tc_112 : (x_1).toInt = 0 := congrArg Int32.toInt c_110
      have h_113 : rg x_1 0 0 := rg_and h_6 (rg_of_eq c_110 (rg_k (0 : Int32) 0 rfl)) (by decide)
      have uh_113 := h_113.1
      have vh_113 := h_113.2
      exact K_109 _ _ _ hG hP hD hS (lv_sub hl [] rfl)
    · obtain ⟨f_114, f_115⟩ := (hr_5.resolve_right (fun q => c_110 q.1)).2
      have uf_114 := f_114.1
      have vf_114 := f_114.2
      have tc_116 : (x_1).toInt ≠ 0 := fun q => c_110 (Int32.toInt_inj.mp q)
      have h_117 : rg x_1 1 1 := rg_ne c_110 h_6 0 rfl (by decide)
      have uh_117 := h_117.1
      have vh_117 := h_117.2
      refine lv_aload_n hx hb dX12_keeps_8 rfl (lv_at hl 0 rfl) ?_
      refine lv_iload_n hx hb dX12_keeps_9 rfl (lv_at hl 2 rfl) ?_
      refine pk_i (va_runV (As := [.int a1]) (rest := []) ⟨hx, hb, hml, hown, hts⟩ (s_X12_isCell_w l D t σ I J ri rj rq H.size tg hSH hG.1 this a1 hL_this hK_this this_a hR_this_a hL_this_a hK_this_a hN_this_a hT_this_a) (cwV 1 hts (tw_V tw_340 tw_341 tw_342 tw_5 tw_343) rfl rfl rfl cv_yX12_isCell_1 ⟨Nat.le_of_ble_eq_true rfl, Nat.le_of_ble_eq_true rfl⟩) ⟨pq_blind, pq_recv hK hP hL_this hK_this (by decide) rfl, pq_pre hK hN hP hD⟩ rfl rfl hl.1 rfl (lv_room (Nat.le_of_ble_eq_true rfl)) dX12_keeps_10 ⟨Nat.le_of_ble_eq_true rfl, Nat.le_of_ble_eq_true rfl⟩) hD hS hA (fun x_118 σ1 μ1 H locs hw_119 hP hD hS => ?_)
      obtain ⟨hu_120, hr_122⟩ := hw_119
      obtain ⟨hu_120a, hu_120b⟩ := Prod.mk.inj hu_120
      rw [hu_120a, hu_120b] at hP hD
      have h_123 : rg x_118 0 1 := by rcases hr_122 with ⟨q, -⟩ | ⟨q, -⟩ <;> rw [q] <;> exact ⟨by decide, by decide⟩
      have uh_123 := h_123.1
      have vh_123 := h_123.2
      refine lv_if_eq (tgt := 38) hx hb dX12_keeps_13 (by decide) (fun c_124 => ?_) (fun c_124 => ?_)
      · have f_125 := (hr_122.resolve_left (fun q => absurd (q.1.symm.trans c_124) (by decide))).2
        have tc_126 : (x_118).toInt = 0 := congrArg Int32.toInt c_124
        have h_127 : rg x_118 0 0 := rg_and h_123 (rg_of_eq c_124 (rg_k (0 : Int32) 0 rfl)) (by decide)
        have uh_127 := h_127.1
        have vh_127 := h_127.2
        exact K_109 _ _ _ hG hP hD hS (lv_sub hl [] rfl)
      · obtain ⟨f_128, f_129⟩ := (hr_122.resolve_right (fun q => c_124 q.1)).2
        have uf_128 := f_128.1
        have vf_128 := f_128.2
        have tc_130 : (x_118).toInt ≠ 0 := fun q => c_124 (Int32.toInt_inj.mp q)
        have h_131 : rg x_118 1 1 := rg_ne c_124 h_123 0 rfl (by decide)
        have uh_131 := h_131.1
        have vh_131 := h_131.2
        refine lv_aload_n hx hb dX12_keeps_16 rfl (lv_at hl 0 rfl) ?_
        refine lv_iload_n hx hb dX12_keeps_17 rfl (lv_at hl 1 rfl) ?_
        refine lv_bipush (v := 6) hx hb dX12_keeps_18 (by decide) ?_
        refine pk_i (va_runV (As := [.int a0, .int 6]) (rest := []) ⟨hx, hb, hml, hown, hts⟩ (s_X12_cellAt_w_c6 l D t σ I J ri rj rq H.size tg hSH hG.1 this a0 hL_this hK_this (rg_w f_114 (by decide)) this_a hR_this_a hL_this_a hK_this_a hN_this_a hT_this_a) (cwV 2 hts (tw_V tw_361 tw_362 tw_363 tw_5 tw_364) rfl rfl rfl cv_yX12_cellAt_2 ⟨Nat.le_of_ble_eq_true rfl, Nat.le_of_ble_eq_true rfl⟩) ⟨pq_blind, pq_recv hK hP hL_this hK_this (by decide) rfl, pq_pre hK hN hP hD⟩ rfl rfl hl.1 rfl (lv_room (Nat.le_of_ble_eq_true rfl)) dX12_keeps_20 ⟨Nat.le_of_ble_eq_true rfl, Nat.le_of_ble_eq_true rfl⟩) hD hS hA (fun x_132 σ1 μ1 H locs hw_133 hP hD hS => ?_)
        obtain ⟨hu_134, hp_137⟩ := hw_133
        obtain ⟨hu_134a, hu_134b⟩ := Prod.mk.inj hu_134
        rw [hu_134a, hu_134b] at hP hD
        have tt_138 := congrArg Int32.toInt hp_137
        refine lv_if_eq (tgt := 38) hx hb dX12_keeps_23 (by decide) (fun c_139 => ?_) (fun c_139 => ?_)
        · have tc_140 : (x_132).toInt = 0 := congrArg Int32.toInt c_139
          have h_141 : rg x_132 0 0 := rg_and (rg_full _) (rg_of_eq c_139 (rg_k (0 : Int32) 0 rfl)) (by decide)
          have uh_141 := h_141.1
          have vh_141 := h_141.2
          exact K_109 _ _ _ hG hP hD hS (lv_sub hl [] rfl)
        · have tc_142 : (x_132).toInt ≠ 0 := fun q => c_139 (Int32.toInt_inj.mp q)
          refine lv_aload_n hx hb dX12_keeps_26 rfl (lv_at hl 0 rfl) ?_
          refine lv_iload hx hb dX12_keeps_27 (lv_at hl 4 rfl) ?_
          refine lv_bipush (v := 60) hx hb dX12_keeps_29 (by decide) ?_
          refine lv_iload_n hx hb dX12_keeps_31 rfl (lv_at hl 3 rfl) ?_
          refine pk_i (va_runV (As := [.int a3, .int 60, .int a2]) (rest := []) ⟨hx, hb, hml, hown, hts⟩ (s_X12_isTime_w l D t σ I J ri rj rq H.size tg hSH hG.1 this a3 (60 : Int32) a2 hL_this hK_this (rg_w (rg_k (60 : Int32) 60 rfl) (by decide)) this_a hR_this_a hL_this_a hK_this_a hN_this_a hT_this_a) (cwV 3 hts (tw_V tw_1189 tw_1190 tw_1191 tw_5 tw_1192) rfl rfl rfl cv_yX12_isTime_3 ⟨Nat.le_of_ble_eq_true rfl, Nat.le_of_ble_eq_true rfl⟩) ⟨pq_blind, pq_recv hK hP hL_this hK_this (by decide) rfl, pq_pre hK hN hP hD⟩ rfl rfl hl.1 rfl (lv_room (Nat.le_of_ble_eq_true rfl)) dX12_keeps_32 ⟨Nat.le_of_ble_eq_true rfl, Nat.le_of_ble_eq_true rfl⟩) hD hS hA (fun x_143 σ1 μ1 H locs hw_144 hP hD hS => ?_)
          obtain ⟨hu_145, hr_147⟩ := hw_144
          obtain ⟨hu_145a, hu_145b⟩ := Prod.mk.inj hu_145
          rw [hu_145a, hu_145b] at hP hD
          have h_148 : rg x_143 0 1 := by rcases hr_147 with ⟨q, -⟩ | ⟨q, -⟩ <;> rw [q] <;> exact ⟨by decide, by decide⟩
          have uh_148 := h_148.1
          have vh_148 := h_148.2
          refine lv_if_ne (tgt := 41) hx hb dX12_keeps_35 (by decide) (fun c_149 => ?_) (fun c_149 => ?_)
          · obtain ⟨f_150, f_151, f_152⟩ := (hr_147.resolve_right (fun q => c_149 q.1)).2
            have uf_150 := f_150.1
            have vf_150 := f_150.2
            have uf_151 := f_151.1
            have vf_151 := f_151.2
            have tc_153 : (x_143).toInt ≠ 0 := fun q => c_149 (Int32.toInt_inj.mp q)
            have h_154 : rg x_143 1 1 := rg_ne c_149 h_148 0 rfl (by decide)
            have uh_154 := h_154.1
            have vh_154 := h_154.2
            refine lv_aload_n hx hb dX12_keeps_41 rfl (lv_at hl 0 rfl) ?_
            refine pg_f (v := .ref this_a) (C := RX12) (T := TX12) (N := 31) hx hb hts (tw_i inlX12) hown hK hP hL_this hK_this (by decide) rfl 0 (by decide) (hts _ (tw_c tw_176)) (pq_hv rfl hR_this_a) dX12_keeps_42 ?_
            refine lv_aload_n hx hb dX12_keeps_45 rfl (lv_at hl 0 rfl) ?_
            refine pg_f (v := .ref this_kept) (C := RX12) (T := TX12) (N := 31) hx hb hts (tw_i inlX12) hown hK hP hL_this hK_this (by decide) rfl 2 (by decide) (hts _ (tw_c tw_178)) (pq_hv rfl hR_this_kept) dX12_keeps_46 ?_
            refine pk_v (va_runS (As := [.ref this_a, .ref this_kept]) (rest := []) ⟨hx, hb, hml, hown, hts⟩ (c_X12_copy l D t σ I J ri rj rq H.size this_a this_kept 12720 hL_this_a hK_this_a hN_this_a hL_this_kept hK_this_kept hN_this_kept rfl (tg_ne hT_this_a hT_this_kept (by decide))) (va_cwS 2 hts (tw_S tw_192 tw_193 tw_5 tw_194) rfl rfl rfl cd_yX12_copy_2 ⟨Nat.le_of_ble_eq_true rfl, Nat.le_of_ble_eq_true rfl⟩) ⟨pq_blind, pq_pre hK hN hP hD⟩ rfl rfl hl.1 rfl (lv_room (Nat.le_of_ble_eq_true rfl)) dX12_keeps_49 ⟨Nat.le_of_ble_eq_true rfl, Nat.le_of_ble_eq_true rfl⟩) hD hS hA (fun σ1 μ1 H locs hw_156 hP hD hS => ?_)
            obtain ⟨ri_157, hu_158, hp_161, hp_162⟩ := hw_156
            obtain ⟨hu_158a, hu_158b⟩ := Prod.mk.inj hu_158
            rw [hu_158a, hu_158b] at hP hD
            have tt_163 : (ri_157 this_kept 0).toInt = (ri this_a 0).toInt := congrArg Int32.toInt (hp_161 0 (by decide))
            have tt_164 : (ri_157 this_a 0).toInt = (ri this_a 0).toInt := congrArg Int32.toInt (congrFun (hp_162 this_a (tg_ne hT_this_a hT_this_kept (by decide))) 0)
            have hG := GM.cp hG hT_this_a hT_this_kept (by decide) hp_161 hp_162 (by decide)
            refine lv_aload_n hx hb dX12_keeps_52 rfl (lv_at hl 0 rfl) ?_
            refine lv_iload_n hx hb dX12_keeps_53 rfl (lv_at hl 2 rfl) ?_
            refine lv_iload_n hx hb dX12_keeps_54 rfl (lv_at hl 3 rfl) ?_
            refine lv_iload hx hb dX12_keeps_55 (lv_at hl 4 rfl) ?_
            refine pk_i (va_runV (As := [.int a1, .int a2, .int a3]) (rest := []) ⟨hx, hb, hml, hown, hts⟩ (s_X12_sandBehind_w l D t σ I J ri_157 rj rq H.size tg hSH hG.1 this a1 a2 a3 hL_this hK_this (rg_w f_128 (by decide)) (rg_w f_150 (by decide)) this_a hR_this_a hL_this_a hK_this_a hN_this_a hT_this_a this_kept hR_this_kept hL_this_kept hK_this_kept hN_this_kept hT_this_kept (by omega) (by omega)) (cwV 3 hts (tw_V tw_1424 tw_1425 tw_1426 tw_5 tw_1427) rfl rfl rfl cv_yX12_sandBehind_3 ⟨Nat.le_of_ble_eq_true rfl, Nat.le_of_ble_eq_true rfl⟩) ⟨pq_blind, pq_recv hK hP hL_this hK_this (by decide) rfl, pq_pre hK hN hP hD⟩ rfl rfl hl.1 rfl (lv_room (Nat.le_of_ble_eq_true rfl)) dX12_keeps_57 ⟨Nat.le_of_ble_eq_true rfl, Nat.le_of_ble_eq_true rfl⟩) hD hS hA (fun x_165 σ1 μ1 H locs hw_166 hP hD hS => ?_)
            obtain ⟨I_167, ri_168, rj_169, hu_170, hg_171, hp_173, hp_174, hp_175, hp_176⟩ := hw_166
            obtain ⟨hu_170a, hu_170b⟩ := Prod.mk.inj hu_170
            rw [hu_170a, hu_170b] at hP hD
            have tt_177 := hp_173
            have tt_178 := hp_174
            have tt_179 := hp_175
            have tt_180 := hp_176
            have tt_181 : (ri_168 this_kept 0).toInt = (ri_157 this_kept 0).toInt := congrArg Int32.toInt (congrFun (hg_171.2.2.2 386 2001 (by decide) (by decide) this_kept hT_this_kept) 0)
            have hG := GM.tr hG hg_171 (by decide)
            refine lv_istore (lv' := [(5, .int x_165), (0, .ref this), (1, .int a0), (2, .int a1), (3, .int a2), (4, .int a3)]) hx hb dX12_keeps_60 hl (by decide) rfl (fun ls hl => ?_)
            refine lv_aload_n hx hb dX12_keeps_62 rfl (lv_at hl 1 rfl) ?_
            refine pg_f (v := .ref this_a) (C := RX12) (T := TX12) (N := 31) hx hb hts (tw_i inlX12) hown hK hP hL_this hK_this (by decide) rfl 0 (by decide) (hts _ (tw_c tw_176)) (pq_hv rfl hR_this_a) dX12_keeps_63 ?_
            refine lv_bipush (v := 100) hx hb dX12_keeps_66 (by decide) ?_
            refine lv_bipush (v := 16) hx hb dX12_keeps_68 (by decide) ?_
            refine lv_iload_n hx hb dX12_keeps_70 rfl (lv_at hl 2 rfl) ?_
            refine lv_imul hx hb dX12_keeps_71 ?_
            refine lv_topi (fun x_182 ex_182 => ?_)
            have h_183 : rg x_182 0 624 := rg_of_eq ex_182 (rg_mul (rg_k (16 : Int32) 16 rfl) f_114 (by decide))
            have uh_183 := h_183.1
            have vh_183 := h_183.2
            have tx_182 : (x_182).toInt = 16 * (a0).toInt := by rw [ex_182]; exact i_mul_rg (a2 := 16) (b2 := (a0).toInt) rfl rfl (rg_k (16 : Int32) 16 rfl) f_114 (by decide)
            refine lv_iadd hx hb dX12_keeps_72 ?_
            refine lv_topi (fun x_184 ex_184 => ?_)
            have h_185 : rg x_184 100 724 := rg_of_eq ex_184 (rg_add (rg_k (100 : Int32) 100 rfl) h_183 (by decide))
            have uh_185 := h_185.1
            have vh_185 := h_185.2
            have tx_184 : (x_184).toInt = 100 + (x_182).toInt := by rw [ex_184]; exact i_add_rg (a2 := 100) (b2 := (x_182).toInt) rfl rfl (rg_k (100 : Int32) 100 rfl) h_183 (by decide)
            refine lv_bipush (v := 6) hx hb dX12_keeps_73 (by decide) ?_
            refine lv_iadd hx hb dX12_keeps_75 ?_
            refine lv_topi (fun x_186 ex_186 => ?_)
            have h_187 : rg x_186 106 730 := rg_of_eq ex_186 (rg_add h_185 (rg_k (6 : Int32) 6 rfl) (by decide))
            have uh_187 := h_187.1
            have vh_187 := h_187.2
            have tx_186 : (x_186).toInt = (x_184).toInt + 6 := by rw [ex_186]; exact i_add_rg (a2 := (x_184).toInt) (b2 := 6) rfl rfl h_185 (rg_k (6 : Int32) 6 rfl) (by decide)
            refine lv_iconst (v := 0) hx hb dX12_keeps_76 (by decide) ?_
            refine pt_i hx hb hK hP hD hS hL_this_a hK_this_a hN_this_a (rg_in h_187 (by decide)) dX12_keeps_77 (fun r_188 H locs er_188 hP hD hS => ?_)
            have hG := GM.wz hG hT_this_a (by decide) er_188 (zn_CELL (c := a0.toNatClampNeg) (k := 6) (by have z_i := clampE x_186; have z_0 := clampE a0; omega) (rg_cl1 f_114 (by decide)) (by decide)) rfl (rg_w (rg_k (0 : Int32) 0 rfl) (by decide)) (by decide)
            have tt_189 : (r_188 this_a 0).toInt = (ri_168 this_a 0).toInt := congrArg Int32.toInt (cz_ne (j := 0) er_188 (zn_CELL (c := a0.toNatClampNeg) (k := 6) (by have z_i := clampE x_186; have z_0 := clampE a0; omega) (rg_cl1 f_114 (by decide)) (by decide)) (by decide) (by decide) rfl)
            have tt_190 : (r_188 this_kept 0).toInt = (ri_168 this_kept 0).toInt := by rw [er_188, va_up_ne _ _ (tg_ne hT_this_kept hT_this_a (by decide))]
            refine lv_iload hx hb dX12_keeps_78 (lv_at hl 0 rfl) ?_
            refine lv_aload_n hx hb dX12_keeps_80 rfl (lv_at hl 1 rfl) ?_
            refine lv_iload_n hx hb dX12_keeps_81 rfl (lv_at hl 3 rfl) ?_
            refine lv_iload_n hx hb dX12_keeps_82 rfl (lv_at hl 4 rfl) ?_
            refine lv_iload hx hb dX12_keeps_83 (lv_at hl 5 rfl) ?_
            refine pk_i (va_runV (As := [.int a1, .int a2, .int a3]) (rest := [.int x_165]) ⟨hx, hb, hml, hown, hts⟩ (s_X12_sandBehind_w l D t σ I_167 J r_188 rj_169 rq H.size tg hSH hG.1 this a1 a2 a3 hL_this hK_this (rg_w f_128 (by decide)) (rg_w f_150 (by decide)) this_a hR_this_a hL_this_a hK_this_a hN_this_a hT_this_a this_kept hR_this_kept hL_this_kept hK_this_kept hN_this_kept hT_this_kept (by omega) (by omega)) (cwV 3 hts (tw_V tw_1424 tw_1425 tw_1426 tw_5 tw_1427) rfl rfl rfl cv_yX12_sandBehind_3 ⟨Nat.le_of_ble_eq_true rfl, Nat.le_of_ble_eq_true rfl⟩) ⟨pq_blind, pq_recv hK hP hL_this hK_this (by decide) rfl, pq_pre hK hN hP hD⟩ rfl rfl hl.1 rfl (lv_room (Nat.le_of_ble_eq_true rfl)) dX12_keeps_85 ⟨Nat.le_of_ble_eq_true rfl, Nat.le_of_ble_eq_true rfl⟩) hD hS hA (fun x_191 σ1 μ1 H locs hw_192 hP hD hS => ?_)
            obtain ⟨I_193, ri_194, rj_195, hu_196, hg_197, hp_199, hp_200, hp_201, hp_202⟩ := hw_192
            obtain ⟨hu_196a, hu_196b⟩ := Prod.mk.inj hu_196
            rw [hu_196a, hu_196b] at hP hD
            have tt_203 := hp_199
            have tt_204 := hp_200
            have tt_205 := hp_201
            have tt_206 := hp_202
            have tt_207 : (ri_194 this_kept 0).toInt = (r_188 this_kept 0).toInt := congrArg Int32.toInt (congrFun (hg_197.2.2.2 386 2001 (by decide) (by decide) this_kept hT_this_kept) 0)
            have hG := GM.tr hG hg_197 (by decide)
            refine lv_isub hx hb dX12_keeps_88 ?_
            refine lv_topi (fun x_208 ex_208 => ?_)
            subst hQ
            exact W.iret (v := x_208) hx hb hr (fun t1 ht hW => ⟨⟨x_208, (σ, I_193, J, ri_194, rj_195, rq), rfl, ⟨I_193, ri_194, rj_195, rfl, hG, (row_j hp_201 (row_s (ro_ne er_188 (tg_ne hT_this_kept hT_this_a (by decide))) (row_s (hp_176) (row_c hp_161 (fun _ _ => rfl)))))⟩, by rw [ht]; exact hP, va_K.moved hW.alike hK, hD⟩, hS.F ht⟩) hS.2.2 dX12_keeps_89
          · have f_209 := (hr_147.resolve_left (fun q => absurd (q.1.symm.trans c_149) (by decide))).2
            have tc_210 : (x_143).toInt = 0 := congrArg Int32.toInt c_149
            have h_211 : rg x_143 0 0 := rg_and h_148 (rg_of_eq c_149 (rg_k (0 : Int32) 0 rfl)) (by decide)
            have uh_211 := h_211.1
            have vh_211 := h_211.2
            exact K_109 _ _ _ hG hP hD hS (lv_sub hl [] rfl)
  exact go _ _ _ hP hD hS hl

set_option maxHeartbeats 4000000 in
set_option maxRecDepth 100000 in
theorem s_X12_order_w (l : Launch) (D : va_G) (t : pq_T) (σ : pq_S) (I : Nat → Nat → Int32) (J : Nat → Nat → Int64) (ri : Nat → Nat → Int32) (rj : Nat → Nat → Int64) (rq : Nat → Nat → Option Nat) (sz : Nat) (tg : Nat → Nat) (hSH : SH σ tg) (hG0 : GT tg I ri) (this : Nat) (a0 : Int32) (a1 : Int32) (a2 : Int32) (hL_this : this ∈ σ.1) (hK_this : σ.2.1 this = 12) (this_a : Nat) (hR_this_a : σ.2.2.1 384 this = some this_a) (hL_this_a : this_a ∈ σ.1) (hK_this_a : σ.2.1 this_a = 13) (hN_this_a : σ.2.2.2 this_a = 12720) (hT_this_a : tg this_a = 384) (this_kept : Nat) (hR_this_kept : σ.2.2.1 386 this = some this_kept) (hL_this_kept : this_kept ∈ σ.1) (hK_this_kept : σ.2.1 this_kept = 13) (hN_this_kept : σ.2.2.2 this_kept = 12720) (hT_this_kept : tg this_kept = 386) (this_rings : Nat) (hR_this_rings : σ.2.2.1 414 this = some this_rings) (hL_this_rings : this_rings ∈ σ.1) (hK_this_rings : σ.2.1 this_rings = 13) (hN_this_rings : σ.2.2.2 this_rings = 5) (hT_this_rings : tg this_rings = 414) : MetI l yX12_order (wa yX12_order cX12_order 10 (some .int)) ({ frames := 7, cells := 0, slots := 0, locals := 172 }) [.ref this, .int a0, .int a1, .int a2] D t σ (I, J, ri, rj, rq) sz 0 0 (fun (r : Int32) (u : pq_S × pq_M) => ∃ I' : Nat → Nat → Int32, ∃ ri' : Nat → Nat → Int32, ∃ rj' : Nat → Nat → Int64, u = (σ, I', J, ri', rj', rq) ∧ GM [2001, 2002, 1305, 1304, 1403, 1000, 1001, 1002, 1003, 1004, 1005, 1006, 1007, 1010, 1013, 1014, 1015, 1500, 1501, 1502, 1503, 1504, 1100, 1101, 1102, 1103, 1104, 1300, 1301, 1306, 1308, 1700, 1701, 1702] tg σ I ri I' ri' rq ∧ (∀ j, zn j ∈ ztl → ri' this_a j = ri this_a j)) := by
  refine Met.ofW (cc := cX12_order) (maxL := 10) (ret := (some .int)) (by decide) rfl ?_
  intro p e s m args below meth c s₁ B hml hv
  obtain ⟨rfl, hsz, hP, hK, hD0, hN⟩ := hv
  have hx := B.exec
  have hb := B.bytes
  have hr := B.returns
  have hts := atoms_spec (ws := (wa yX12_order cX12_order 10 (some .int))) B.pre
  have hown : s.vm.findClass RX12 = some m.cls := findClass_of_methodNamed B.named
  have hlocks := B.notSynchronized
  subst hsz
  have hD : va_D (pq_B t σ (I, J, ri, rj, rq) s.heap.size) (pq_P t σ (I, J, ri, rj, rq)) := hD0.self
  generalize hAe : pq_B t σ (I, J, ri, rj, rq) s.heap.size = A at hD ⊢
  have hA : ∀ q : Nat, s.heap.size ≤ q → A q := fun q h => by rw [← hAe]; exact Or.inr h
  have hS : va_S A s.heap s.heap [] := va_S.rf
  have hG : GM [2001, 2002, 1305, 1304, 1403, 1000, 1001, 1002, 1003, 1004, 1005, 1006, 1007, 1010, 1013, 1014, 1015, 1500, 1501, 1502, 1503, 1504, 1100, 1101, 1102, 1103, 1104, 1300, 1301, 1306, 1308, 1700, 1701, 1702] tg σ I ri I ri rq := ⟨hG0, fun _ _ _ => rfl, fun _ _ _ _ _ => rfl, fun _ _ _ _ _ _ => rfl⟩
  have hl := lv_entry ([.ref this, .int a0, .int a1, .int a2]) (n := 10) (Nat.le_of_ble_eq_true rfl)
  rw [lg_entry_eq]
  generalize (lg_sl ([.ref this, .int a0, .int a1, .int a2]) ++ List.replicate (10 - (lg_sl ([.ref this, .int a0, .int a1, .int a2])).length) Slot.unset).toArray = ls at hl ⊢
  have hl : lv_has ls 10 [(0, .ref this), (1, .int a0), (2, .int a1), (3, .int a2)] := hl
  refine q_gen (fun Q hQ => ?_)
  have go : ∀ (H : Heap) (locs : List Loc) (ls : Array Slot), va_P D vwCl (pq_P t σ (I, J, ri, rj, rq)) H → va_D A (pq_P t σ (I, J, ri, rj, rq)) → va_S A s.heap H locs → lv_has ls 10 [(0, .ref this), (1, .int a0), (2, .int a1), (3, .int a2)] → W p l e ({ frames := 7, cells := 0, slots := 0, locals := 172 } : Room) s m (List.toArray ([.ref this, .int a0, .int a1, .int a2] : List Value)) below meth c H locs 0 0 Q (F0 m 0 ls []) := by
    intro H locs ls hP hD hS hl
    refine lv_aload_n hx hb dX12_order_0 rfl (lv_at hl 0 rfl) ?_
    refine lv_iload_n hx hb dX12_order_1 rfl (lv_at hl 2 rfl) ?_
    refine lv_bipush (v := 12) hx hb dX12_order_2 (by decide) ?_
    refine lv_iload_n hx hb dX12_order_4 rfl (lv_at hl 1 rfl) ?_
    refine pk_i (va_runV (As := [.int a1, .int 12, .int a0]) (rest := []) ⟨hx, hb, hml, hown, hts⟩ (s_X12_isTime_w l D t σ I J ri rj rq H.size tg hSH hG.1 this a1 (12 : Int32) a0 hL_this hK_this (rg_w (rg_k (12 : Int32) 12 rfl) (by decide)) this_a hR_this_a hL_this_a hK_this_a hN_this_a hT_this_a) (cwV 3 hts (tw_V tw_1189 tw_1190 tw_1191 tw_5 tw_1192) rfl rfl rfl cv_yX12_isTime_3 ⟨Nat.le_of_ble_eq_true rfl, Nat.le_of_ble_eq_true rfl⟩) ⟨pq_blind, pq_recv hK hP hL_this hK_this (by decide) rfl, pq_pre hK hN hP hD⟩ rfl rfl hl.1 rfl (lv_room (Nat.le_of_ble_eq_true rfl)) dX12_order_5 ⟨Nat.le_of_ble_eq_true rfl, Nat.le_of_ble_eq_true rfl⟩) hD hS hA (fun x_1 σ1 μ1 H locs hw_2 hP hD hS => ?_)
    obtain ⟨hu_3, hr_5⟩ := hw_2
    obtain ⟨hu_3a, hu_3b⟩ := Prod.mk.inj hu_3
    rw [hu_3a, hu_3b] at hP hD
    have h_6 : rg x_1 0 1 := by rcases hr_5 with ⟨q, -⟩ | ⟨q, -⟩ <;> rw [q] <;> exact ⟨by decide, by decide⟩
    have uh_6 := h_6.1
    have vh_6 := h_6.2
    have K_641428 : ∀  (H : Heap) (locs : List Loc) (ls : Array Slot), GM [2001, 2002, 1305, 1304, 1403, 1000, 1001, 1002, 1003, 1004, 1005, 1006, 1007, 1010, 1013, 1014, 1015, 1500, 1501, 1502, 1503, 1504, 1100, 1101, 1102, 1103, 1104, 1300, 1301, 1306, 1308, 1700, 1701, 1702] tg σ I ri I ri rq → va_P D vwCl (pq_P t σ (I, J, ri, rj, rq)) H → va_D A (pq_P t σ (I, J, ri, rj, rq)) → va_S A s.heap H locs → lv_has ls 10 [] → W p l e ({ frames := 7, cells := 0, slots := 0, locals := 172 } : Room) s m (List.toArray ([.ref this, .int a0, .int a1, .int a2] : List Value)) below meth c H locs 0 0 Q (F0 m 24 ls []) := by
      intro H locs ls hG hP hD hS hl
      refine lv_iconst (v := (-1)) hx hb dX12_order_24 (by decide) ?_
      subst hQ
      exact W.iret (v := (-1)) hx hb hr (fun t1 ht hW => ⟨⟨(-1), (σ, I, J, ri, rj, rq), rfl, ⟨I, ri, rj, rfl, hG, (fun _ _ => rfl)⟩, by rw [ht]; exact hP, va_K.moved hW.alike hK, hD⟩, hS.F ht⟩) hS.2.2 dX12_order_25
    refine lv_if_eq (tgt := 24) hx hb dX12_order_8 (by decide) (fun c_641429 => ?_) (fun c_641429 => ?_)
    · have f_641430 := (hr_5.resolve_left (fun q => absurd (q.1.symm.trans c_641429) (by decide))).2
      have tc_641431 : (x_1).toInt = 0 := congrArg Int32.toInt c_641429
      have h_641432 : rg x_1 0 0 := rg_and h_6 (rg_of_eq c_641429 (rg_k (0 : Int32) 0 rfl)) (by decide)
      have uh_641432 := h_641432.1
      have vh_641432 := h_641432.2
      exact K_641428 _ _ _ hG hP hD hS (lv_sub hl [] rfl)
    · obtain ⟨f_641433, f_641434, f_641435⟩ := (hr_5.resolve_right (fun q => c_641429 q.1)).2
      have uf_641433 := f_641433.1
      have vf_641433 := f_641433.2
      have uf_641434 := f_641434.1
      have vf_641434 := f_641434.2
      have tc_641436 : (x_1).toInt ≠ 0 := fun q => c_641429 (Int32.toInt_inj.mp q)
      have h_641437 : rg x_1 1 1 := rg_ne c_641429 h_6 0 rfl (by decide)
      have uh_641437 := h_641437.1
      have vh_641437 := h_641437.2
      refine lv_iload_n hx hb dX12_order_11 rfl (lv_at hl 3 rfl) ?_
      refine lv_iconst (v := (-1)) hx hb dX12_order_12 (by decide) ?_
      have K_1282850 : ∀  (H : Heap) (locs : List Loc) (ls : Array Slot), rg (a2) (-1) 4 → GM [2001, 2002, 1305, 1304, 1403, 1000, 1001, 1002, 1003, 1004, 1005, 1006, 1007, 1010, 1013, 1014, 1015, 1500, 1501, 1502, 1503, 1504, 1100, 1101, 1102, 1103, 1104, 1300, 1301, 1306, 1308, 1700, 1701, 1702] tg σ I ri I ri rq → va_P D vwCl (pq_P t σ (I, J, ri, rj, rq)) H → va_D A (pq_P t σ (I, J, ri, rj, rq)) → va_S A s.heap H locs → lv_has ls 10 [(0, .ref this), (1, .int a0), (2, .int a1), (3, .int a2)] → W p l e ({ frames := 7, cells := 0, slots := 0, locals := 172 } : Room) s m (List.toArray ([.ref this, .int a0, .int a1, .int a2] : List Value)) below meth c H locs 0 0 Q (F0 m 26 ls []) := by
        intro H locs ls h_1282852 hG hP hD hS hl
        have uh_1282852 := h_1282852.1
        have vh_1282852 := h_1282852.2
        refine lv_aload_n hx hb dX12_order_26 rfl (lv_at hl 0 rfl) ?_
        refine pg_f (v := .ref this_a) (C := RX12) (T := TX12) (N := 31) hx hb hts (tw_i inlX12) hown hK hP hL_this hK_this (by decide) rfl 0 (by decide) (hts _ (tw_c tw_176)) (pq_hv rfl hR_this_a) dX12_order_27 ?_
        refine lv_aload_n hx hb dX12_order_30 rfl (lv_at hl 0 rfl) ?_
        refine pg_f (v := .ref this_kept) (C := RX12) (T := TX12) (N := 31) hx hb hts (tw_i inlX12) hown hK hP hL_this hK_this (by decide) rfl 2 (by decide) (hts _ (tw_c tw_178)) (pq_hv rfl hR_this_kept) dX12_order_31 ?_
        refine pk_v (va_runS (As := [.ref this_a, .ref this_kept]) (rest := []) ⟨hx, hb, hml, hown, hts⟩ (c_X12_copy l D t σ I J ri rj rq H.size this_a this_kept 12720 hL_this_a hK_this_a hN_this_a hL_this_kept hK_this_kept hN_this_kept rfl (tg_ne hT_this_a hT_this_kept (by decide))) (va_cwS 2 hts (tw_S tw_192 tw_193 tw_5 tw_194) rfl rfl rfl cd_yX12_copy_2 ⟨Nat.le_of_ble_eq_true rfl, Nat.le_of_ble_eq_true rfl⟩) ⟨pq_blind, pq_pre hK hN hP hD⟩ rfl rfl hl.1 rfl (lv_room (Nat.le_of_ble_eq_true rfl)) dX12_order_34 ⟨Nat.le_of_ble_eq_true rfl, Nat.le_of_ble_eq_true rfl⟩) hD hS hA (fun σ1 μ1 H locs hw_1282854 hP hD hS => ?_)
        obtain ⟨ri_1282855, hu_1282856, hp_1282859, hp_1282860⟩ := hw_1282854
        obtain ⟨hu_1282856a, hu_1282856b⟩ := Prod.mk.inj hu_1282856
        rw [hu_1282856a, hu_1282856b] at hP hD
        have tt_1282861 : (ri_1282855 this_kept 0).toInt = (ri this_a 0).toInt := congrArg Int32.toInt (hp_1282859 0 (by decide))
        have tt_1282862 : (ri_1282855 this_a 0).toInt = (ri this_a 0).toInt := congrArg Int32.toInt (congrFun (hp_1282860 this_a (tg_ne hT_this_a hT_this_kept (by decide))) 0)
        have hG := GM.cp hG hT_this_a hT_this_kept (by decide) hp_1282859 hp_1282860 (by decide)
        refine lv_aload_n hx hb dX12_order_37 rfl (lv_at hl 0 rfl) ?_
        refine pg_f (v := .ref this_a) (C := RX12) (T := TX12) (N := 31) hx hb hts (tw_i inlX12) hown hK hP hL_this hK_this (by decide) rfl 0 (by decide) (hts _ (tw_c tw_176)) (pq_hv rfl hR_this_a) dX12_order_38 ?_
        refine lv_iconst (v := 1) hx hb dX12_order_41 (by decide) ?_
        refine pl_i hx hb hK hP hL_this_a hK_this_a hN_this_a (vp_in_iff.mpr (by decide)) dX12_order_42 ?_
        refine lv_topi (fun x_1282863 ex_1282863 => ?_)
        have h_1282864 : rg x_1282863 0 5 := rg_of_eq ex_1282863 (GM.z hG (by rw [hT_this_a]; decide) (show zn ((1 : Int32)).toNatClampNeg = 1 from by decide) rfl)
        have uh_1282864 := h_1282864.1
        have vh_1282864 := h_1282864.2
        refine lv_istore (lv' := [(4, .int x_1282863), (0, .ref this), (1, .int a0), (2, .int a1), (3, .int a2)]) hx hb dX12_order_43 hl (by decide) rfl (fun ls hl => ?_)
        refine lv_iconst (v := 0) hx hb dX12_order_45 (by decide) ?_
        refine lv_istore (lv' := [(5, .int 0), (4, .int x_1282863), (0, .ref this), (1, .int a0), (2, .int a1), (3, .int a2)]) hx hb dX12_order_46 hl (by decide) rfl (fun ls hl => ?_)
        have L_1763920 : ∀ (n_1763919 : Nat) (x_1603590 : Int32) (ri_1603591 : Nat → Nat → Int32) (H : Heap) (locs : List Loc) (ls : Array Slot), rg x_1603590 0 5 → ((ri_1603591 this_a 0).toInt = (ri this_a 0).toInt ∧ (ri_1603591 this_kept 0).toInt = (ri this_a 0).toInt) → (∀ j : Nat, (j : Int) < (x_1603590).toInt → (ri_1603591 this_rings j).toInt = j) → (∀ j, zn j ∈ ztl → ri_1603591 this_kept j = ri this_a j) → (∀ j, zn j ∈ ztl → ri_1603591 this_a j = ri this_a j) → (5 - (x_1603590).toInt).toNat < n_1763919 → GM [2001, 2002, 1305, 1304, 1403, 1000, 1001, 1002, 1003, 1004, 1005, 1006, 1007, 1010, 1013, 1014, 1015, 1500, 1501, 1502, 1503, 1504, 1100, 1101, 1102, 1103, 1104, 1300, 1301, 1306, 1308, 1700, 1701, 1702] tg σ I ri I ri_1603591 rq → va_P D vwCl (pq_P t σ (I, J, ri_1603591, rj, rq)) H → va_D A (pq_P t σ (I, J, ri_1603591, rj, rq)) → va_S A s.heap H locs → lv_has ls 10 [(0, .ref this), (1, .int a0), (2, .int a1), (3, .int a2), (4, .int x_1282863), (5, .int x_1603590)] → W p l e ({ frames := 7, cells := 0, slots := 0, locals := 172 } : Room) s m (List.toArray ([.ref this, .int a0, .int a1, .int a2] : List Value)) below meth c H locs 0 0 Q (F0 m 48 ls []) := by
          intro n_1763919
          induction n_1763919 with
          | zero => intro x_1603590 ri_1603591 H locs ls h_1763927 hrel_1763928 hrel_1763929 hrel_1763930 hrel_1763931 hm_1763918 hG hP hD hS hl; exact absurd hm_1763918 (Nat.not_lt_zero _)
          | succ n_1763919 ih_1763921 =>
            intro x_1603590 ri_1603591 H locs ls h_1763927 hrel_1763928 hrel_1763929 hrel_1763930 hrel_1763931 hm_1763918 hG hP hD hS hl
            have uh_1763927 := h_1763927.1
            have vh_1763927 := h_1763927.2
            refine lv_iload hx hb dX12_order_48 (lv_at hl 5 rfl) ?_
            refine lv_iconst (v := 5) hx hb dX12_order_50 (by decide) ?_
            refine lv_icmp_ge (tgt := 69) hx hb dX12_order_51 (by decide) (fun c_1763932 => ?_) (fun c_1763932 => ?_)
            · have tc_1763933 : 5 ≤ (x_1603590).toInt := Int32.le_iff_toInt_le.mp c_1763932
              have h_1763934 : rg x_1603590 5 5 := rg_le2 c_1763932 (rg_k (5 : Int32) 5 rfl) h_1763927 (by decide)
              have uh_1763934 := h_1763934.1
              have vh_1763934 := h_1763934.2
              refine lv_iconst (v := (-1)) hx hb dX12_order_69 (by decide) ?_
              refine lv_istore (lv' := [(5, .int (-1)), (0, .ref this), (1, .int a0), (2, .int a1), (3, .int a2), (4, .int x_1282863)]) hx hb dX12_order_70 hl (by decide) rfl (fun ls hl => ?_)
              refine lv_aload_n hx hb dX12_order_72 rfl (lv_at hl 1 rfl) ?_
              refine lv_iconst (v := 1) hx hb dX12_order_73 (by decide) ?_
              refine pp_i (v := 1) (ty := .int) (C := RX12) (T := TX12) (N := 31) hx hb hts (tw_i inlX12) tyX12 tyX12_ok nmX12 hown hK hP hD hS hL_this hK_this (by decide) rfl 23 407 (by decide) (hts _ (tw_c tw_1238)) rfl (tyX12_ok 23 (by decide)) rfl rfl (Nat.le_of_ble_eq_true rfl) (ps_407 _ _ _ _ _) dX12_order_74 (fun I_1763935 H locs eI_1763935 hP hD hS => ?_)
              have hG := GM.wI hG 407 rfl eI_1763935 (rg_w (rg_k (1 : Int32) 1 rfl) (by decide)) (by decide)
              refine lv_iconst (v := 1) hx hb dX12_order_77 (by decide) ?_
              refine lv_istore (lv' := [(6, .int 1), (5, .int (-1)), (0, .ref this), (1, .int a0), (2, .int a1), (3, .int a2), (4, .int x_1282863)]) hx hb dX12_order_78 hl (by decide) rfl (fun ls hl => ?_)
              have L_1896893 : ∀ (n_1896892 : Nat) (x_1869533 : Int32) (x_1869534 : Int32) (I_1869535 : Nat → Nat → Int32) (ri_1869536 : Nat → Nat → Int32) (rj_1869537 : Nat → Nat → Int64) (H : Heap) (locs : List Loc) (ls : Array Slot), rg x_1869534 0 1 → ((ri_1869536 this_a 0).toInt = (ri this_a 0).toInt ∧ (ri_1869536 this_kept 0).toInt = (ri this_a 0).toInt) → (InjI (x_1282863).toInt (ri_1869536 this_rings)) → (∀ j, zn j ∈ ztl → ri_1869536 this_kept j = ri this_a j) → (∀ j, zn j ∈ ztl → ri_1869536 this_a j = ri this_a j) → (2 * (3125 - lexM (ri_1869536 this_rings)) + (x_1869534).toInt).toNat < n_1896892 → GM [2001, 2002, 1305, 1304, 1403, 1000, 1001, 1002, 1003, 1004, 1005, 1006, 1007, 1010, 1013, 1014, 1015, 1500, 1501, 1502, 1503, 1504, 1100, 1101, 1102, 1103, 1104, 1300, 1301, 1306, 1308, 1700, 1701, 1702] tg σ I ri I_1869535 ri_1869536 rq → va_P D vwCl (pq_P t σ (I_1869535, J, ri_1869536, rj_1869537, rq)) H → va_D A (pq_P t σ (I_1869535, J, ri_1869536, rj_1869537, rq)) → va_S A s.heap H locs → lv_has ls 10 [(0, .ref this), (1, .int a0), (2, .int a1), (3, .int a2), (4, .int x_1282863), (5, .int x_1869533), (6, .int x_1869534)] → W p l e ({ frames := 7, cells := 0, slots := 0, locals := 172 } : Room) s m (List.toArray ([.ref this, .int a0, .int a1, .int a2] : List Value)) below meth c H locs 0 0 Q (F0 m 80 ls []) := by
                intro n_1896892
                induction n_1896892 with
                | zero => intro x_1869533 x_1869534 I_1869535 ri_1869536 rj_1869537 H locs ls h_1896900 hrel_1896901 hrel_1896902 hrel_1896903 hrel_1896904 hm_1896891 hG hP hD hS hl; exact absurd hm_1896891 (Nat.not_lt_zero _)
                | succ n_1896892 ih_1896894 =>
                  intro x_1869533 x_1869534 I_1869535 ri_1869536 rj_1869537 H locs ls h_1896900 hrel_1896901 hrel_1896902 hrel_1896903 hrel_1896904 hm_1896891 hG hP hD hS hl
                  have uh_1896900 := h_1896900.1
                  have vh_1896900 := h_1896900.2
                  refine lv_iload hx hb dX12_order_80 (lv_at hl 6 rfl) ?_
                  refine lv_if_eq (tgt := 218) hx hb dX12_order_82 (by decide) (fun c_1896905 => ?_) (fun c_1896905 => ?_)
                  · have tc_1896906 : (x_1869534).toInt = 0 := congrArg Int32.toInt c_1896905
                    have h_1896907 : rg x_1869534 0 0 := rg_and h_1896900 (rg_of_eq c_1896905 (rg_k (0 : Int32) 0 rfl)) (by decide)
                    have uh_1896907 := h_1896907.1
                    have vh_1896907 := h_1896907.2
                    refine lv_aload_n hx hb dX12_order_218 rfl (lv_at hl 0 rfl) ?_
                    refine lv_iconst (v := 0) hx hb dX12_order_219 (by decide) ?_
                    refine pp_i (v := 0) (ty := .int) (C := RX12) (T := TX12) (N := 31) hx hb hts (tw_i inlX12) tyX12 tyX12_ok nmX12 hown hK hP hD hS hL_this hK_this (by decide) rfl 23 407 (by decide) (hts _ (tw_c tw_1238)) rfl (tyX12_ok 23 (by decide)) rfl rfl (Nat.le_of_ble_eq_true rfl) (ps_407 _ _ _ _ _) dX12_order_220 (fun I_1896908 H locs eI_1896908 hP hD hS => ?_)
                    have hG := GM.wI hG 407 rfl eI_1896908 (rg_w (rg_k (0 : Int32) 0 rfl) (by decide)) (by decide)
                    refine lv_iload_n hx hb dX12_order_223 rfl (lv_at hl 3 rfl) ?_
                    refine lv_iconst (v := (-1)) hx hb dX12_order_224 (by decide) ?_
                    refine lv_icmp_ne (tgt := 233) hx hb dX12_order_225 (by decide) (fun c_1896909 => ?_) (fun c_1896909 => ?_)
                    · have tc_1896910 : (a2).toInt ≠ (-1) := fun q => c_1896909 (Int32.toInt_inj.mp q)
                      have h_1896911 : rg a2 0 4 := rg_ne c_1896909 h_1282852 (-1) rfl (by decide)
                      have uh_1896911 := h_1896911.1
                      have vh_1896911 := h_1896911.2
                      refine lv_aload_n hx hb dX12_order_233 rfl (lv_at hl 0 rfl) ?_
                      obtain ⟨w_1896912, hR_w_1896912, hL_w_1896912, hK_w_1896912, hN_w_1896912, hT_w_1896912⟩ := sh_a hSH 413 (ci := 12) (kd := 13) (len := 5) rfl (by decide) hL_this hK_this
                      refine pg_f (v := .ref w_1896912) (C := RX12) (T := TX12) (N := 31) hx hb hts (tw_i inlX12) hown hK hP hL_this hK_this (by decide) rfl 29 (by decide) (hts _ (tw_c tw_190)) (pq_hv rfl hR_w_1896912) dX12_order_234 ?_
                      refine lv_iload_n hx hb dX12_order_237 rfl (lv_at hl 3 rfl) ?_
                      refine pl_i hx hb hK hP hL_w_1896912 hK_w_1896912 hN_w_1896912 (rg_in h_1896911 (by decide)) dX12_order_238 ?_
                      refine lv_topi (fun x_1896913 ex_1896913 => ?_)
                      subst hQ
                      exact W.iret (v := x_1896913) hx hb hr (fun t1 ht hW => ⟨⟨x_1896913, (σ, I_1896908, J, ri_1869536, rj_1869537, rq), rfl, ⟨I_1896908, ri_1869536, rj_1869537, rfl, hG, hrel_1896904⟩, by rw [ht]; exact hP, va_K.moved hW.alike hK, hD⟩, hS.F ht⟩) hS.2.2 dX12_order_239
                    · have tc_1896914 : (a2).toInt = (-1) := congrArg Int32.toInt c_1896909
                      have h_1896915 : rg a2 (-1) (-1) := rg_and h_1282852 (rg_of_eq c_1896909 (rg_k (-1 : Int32) (-1) rfl)) (by decide)
                      have uh_1896915 := h_1896915.1
                      have vh_1896915 := h_1896915.2
                      refine lv_iload hx hb dX12_order_228 (lv_at hl 5 rfl) ?_
                      refine lv_goto (tgt := 239) hx hb dX12_order_230 (by decide) ?_
                      subst hQ
                      exact W.iret (v := x_1869533) hx hb hr (fun t1 ht hW => ⟨⟨x_1869533, (σ, I_1896908, J, ri_1869536, rj_1869537, rq), rfl, ⟨I_1896908, ri_1869536, rj_1869537, rfl, hG, hrel_1896904⟩, by rw [ht]; exact hP, va_K.moved hW.alike hK, hD⟩, hS.F ht⟩) hS.2.2 dX12_order_239
                  · have tc_1896916 : (x_1869534).toInt ≠ 0 := fun q => c_1896905 (Int32.toInt_inj.mp q)
                    have h_1896917 : rg x_1869534 1 1 := rg_ne c_1896905 h_1896900 0 rfl (by decide)
                    have uh_1896917 := h_1896917.1
                    have vh_1896917 := h_1896917.2
                    refine lv_iconst (v := 0) hx hb dX12_order_85 (by decide) ?_
                    refine lv_istore (lv' := [(7, .int 0), (0, .ref this), (1, .int a0), (2, .int a1), (3, .int a2), (4, .int x_1282863), (5, .int x_1869533), (6, .int x_1869534)]) hx hb dX12_order_86 hl (by decide) rfl (fun ls hl => ?_)
                    have L_1920115 : ∀ (n_1920114 : Nat) (x_1915973 : Int32) (ri_1915974 : Nat → Nat → Int32) (H : Heap) (locs : List Loc) (ls : Array Slot), rg x_1915973 0 5 → ((ri_1915974 this_a 0).toInt = (ri this_a 0).toInt ∧ (ri_1915974 this_kept 0).toInt = (ri this_a 0).toInt) → (ri_1915974 this_rings = ri_1869536 this_rings) → (∀ j, zn j ∈ ztl → ri_1915974 this_kept j = ri this_a j) → (∀ j, zn j ∈ ztl → ri_1915974 this_a j = ri this_a j) → (5 - (x_1915973).toInt).toNat < n_1920114 → GM [2001, 2002, 1305, 1304, 1403, 1000, 1001, 1002, 1003, 1004, 1005, 1006, 1007, 1010, 1013, 1014, 1015, 1500, 1501, 1502, 1503, 1504, 1100, 1101, 1102, 1103, 1104, 1300, 1301, 1306, 1308, 1700, 1701, 1702] tg σ I ri I_1869535 ri_1915974 rq → va_P D vwCl (pq_P t σ (I_1869535, J, ri_1915974, rj_1869537, rq)) H → va_D A (pq_P t σ (I_1869535, J, ri_1915974, rj_1869537, rq)) → va_S A s.heap H locs → lv_has ls 10 [(0, .ref this), (1, .int a0), (2, .int a1), (3, .int a2), (4, .int x_1282863), (5, .int x_1869533), (7, .int x_1915973)] → W p l e ({ frames := 7, cells := 0, slots := 0, locals := 172 } : Room) s m (List.toArray ([.ref this, .int a0, .int a1, .int a2] : List Value)) below meth c H locs 0 0 Q (F0 m 88 ls []) := by
                      intro n_1920114
                      induction n_1920114 with
                      | zero => intro x_1915973 ri_1915974 H locs ls h_1920122 hrel_1920123 hrel_1920124 hrel_1920125 hrel_1920126 hm_1920113 hG hP hD hS hl; exact absurd hm_1920113 (Nat.not_lt_zero _)
                      | succ n_1920114 ih_1920116 =>
                        intro x_1915973 ri_1915974 H locs ls h_1920122 hrel_1920123 hrel_1920124 hrel_1920125 hrel_1920126 hm_1920113 hG hP hD hS hl
                        have uh_1920122 := h_1920122.1
                        have vh_1920122 := h_1920122.2
                        refine lv_iload hx hb dX12_order_88 (lv_at hl 6 rfl) ?_
                        refine lv_iload hx hb dX12_order_90 (lv_at hl 4 rfl) ?_
                        refine lv_icmp_ge (tgt := 115) hx hb dX12_order_92 (by decide) (fun c_1920127 => ?_) (fun c_1920127 => ?_)
                        · have tc_1920128 : (x_1282863).toInt ≤ (x_1915973).toInt := Int32.le_iff_toInt_le.mp c_1920127
                          refine lv_aload_n hx hb dX12_order_115 rfl (lv_at hl 0 rfl) ?_
                          refine pk_i (va_runV (As := []) (rest := []) ⟨hx, hb, hml, hown, hts⟩ (s_X12_wants l D t σ I_1869535 J ri_1915974 rj_1869537 rq H.size tg hSH hG.1 this hL_this hK_this) (cwV 0 hts (tw_V tw_1487 tw_1488 tw_1489 tw_5 tw_1490) rfl rfl rfl cv_yX12_wants_0 ⟨Nat.le_of_ble_eq_true rfl, Nat.le_of_ble_eq_true rfl⟩) ⟨pq_blind, pq_recv hK hP hL_this hK_this (by decide) rfl, pq_pre hK hN hP hD⟩ rfl rfl hl.1 rfl (lv_room (Nat.le_of_ble_eq_true rfl)) dX12_order_116 ⟨Nat.le_of_ble_eq_true rfl, Nat.le_of_ble_eq_true rfl⟩) hD hS hA (fun x_1920129 σ1 μ1 H locs hw_1920130 hP hD hS => ?_)
                          have hu_1920131 := hw_1920130
                          obtain ⟨hu_1920131a, hu_1920131b⟩ := Prod.mk.inj hu_1920131
                          rw [hu_1920131a, hu_1920131b] at hP hD
                          refine lv_istore (lv' := [(7, .int x_1920129), (0, .ref this), (1, .int a0), (2, .int a1), (3, .int a2), (4, .int x_1282863), (5, .int x_1869533)]) hx hb dX12_order_119 hl (by decide) rfl (fun ls hl => ?_)
                          refine lv_iconst (v := 0) hx hb dX12_order_121 (by decide) ?_
                          refine lv_istore (lv' := [(8, .int 0), (7, .int x_1920129), (0, .ref this), (1, .int a0), (2, .int a1), (3, .int a2), (4, .int x_1282863), (5, .int x_1869533)]) hx hb dX12_order_122 hl (by decide) rfl (fun ls hl => ?_)
                          have L_1923962 : ∀ (n_1923961 : Nat) (x_1923669 : Int32) (I_1923670 : Nat → Nat → Int32) (ri_1923671 : Nat → Nat → Int32) (rj_1923672 : Nat → Nat → Int64) (H : Heap) (locs : List Loc) (ls : Array Slot), rg x_1923669 0 60 → ((ri_1923671 this_a 0).toInt = (ri this_a 0).toInt + (x_1923669).toInt ∧ (ri_1923671 this_kept 0).toInt = (ri this_a 0).toInt) → (ri_1923671 this_rings = ri_1869536 this_rings) → (∀ j, zn j ∈ ztl → ri_1923671 this_kept j = ri this_a j) → (60 - (x_1923669).toInt).toNat < n_1923961 → GM [2001, 2002, 1305, 1304, 1403, 1000, 1001, 1002, 1003, 1004, 1005, 1006, 1007, 1010, 1013, 1014, 1015, 1500, 1501, 1502, 1503, 1504, 1100, 1101, 1102, 1103, 1104, 1300, 1301, 1306, 1308, 1700, 1701, 1702] tg σ I ri I_1923670 ri_1923671 rq → va_P D vwCl (pq_P t σ (I_1923670, J, ri_1923671, rj_1923672, rq)) H → va_D A (pq_P t σ (I_1923670, J, ri_1923671, rj_1923672, rq)) → va_S A s.heap H locs → lv_has ls 10 [(0, .ref this), (1, .int a0), (2, .int a1), (3, .int a2), (4, .int x_1282863), (5, .int x_1869533), (7, .int x_1920129), (8, .int x_1923669)] → W p l e ({ frames := 7, cells := 0, slots := 0, locals := 172 } : Room) s m (List.toArray ([.ref this, .int a0, .int a1, .int a2] : List Value)) below meth c H locs 0 0 Q (F0 m 124 ls []) := by
                            intro n_1923961
                            induction n_1923961 with
                            | zero => intro x_1923669 I_1923670 ri_1923671 rj_1923672 H locs ls h_1923968 hrel_1923969 hrel_1923970 hrel_1923971 hm_1923960 hG hP hD hS hl; exact absurd hm_1923960 (Nat.not_lt_zero _)
                            | succ n_1923961 ih_1923963 =>
                              intro x_1923669 I_1923670 ri_1923671 rj_1923672 H locs ls h_1923968 hrel_1923969 hrel_1923970 hrel_1923971 hm_1923960 hG hP hD hS hl
                              have uh_1923968 := h_1923968.1
                              have vh_1923968 := h_1923968.2
                              refine lv_iload hx hb dX12_order_124 (lv_at hl 7 rfl) ?_
                              refine lv_iload_n hx hb dX12_order_126 rfl (lv_at hl 2 rfl) ?_
                              refine lv_icmp_ge (tgt := 141) hx hb dX12_order_127 (by decide) (fun c_1923972 => ?_) (fun c_1923972 => ?_)
                              · have tc_1923973 : (a1).toInt ≤ (x_1923669).toInt := Int32.le_iff_toInt_le.mp c_1923972
                                have h_1923974 : rg x_1923669 1 60 := rg_le2 c_1923972 f_641433 h_1923968 (by decide)
                                have uh_1923974 := h_1923974.1
                                have vh_1923974 := h_1923974.2
                                refine lv_aload_n hx hb dX12_order_141 rfl (lv_at hl 0 rfl) ?_
                                refine pk_i (va_runV (As := []) (rest := []) ⟨hx, hb, hml, hown, hts⟩ (s_X12_wants l D t σ I_1923670 J ri_1923671 rj_1923672 rq H.size tg hSH hG.1 this hL_this hK_this) (cwV 0 hts (tw_V tw_1487 tw_1488 tw_1489 tw_5 tw_1490) rfl rfl rfl cv_yX12_wants_0 ⟨Nat.le_of_ble_eq_true rfl, Nat.le_of_ble_eq_true rfl⟩) ⟨pq_blind, pq_recv hK hP hL_this hK_this (by decide) rfl, pq_pre hK hN hP hD⟩ rfl rfl hl.1 rfl (lv_room (Nat.le_of_ble_eq_true rfl)) dX12_order_142 ⟨Nat.le_of_ble_eq_true rfl, Nat.le_of_ble_eq_true rfl⟩) hD hS hA (fun x_1923975 σ1 μ1 H locs hw_1923976 hP hD hS => ?_)
                                have hu_1923977 := hw_1923976
                                obtain ⟨hu_1923977a, hu_1923977b⟩ := Prod.mk.inj hu_1923977
                                rw [hu_1923977a, hu_1923977b] at hP hD
                                refine lv_iload hx hb dX12_order_145 (lv_at hl 6 rfl) ?_
                                refine lv_isub hx hb dX12_order_147 ?_
                                refine lv_topi (fun x_1923980 ex_1923980 => ?_)
                                refine lv_istore (lv' := [(8, .int x_1923980), (0, .ref this), (1, .int a0), (2, .int a1), (3, .int a2), (4, .int x_1282863), (5, .int x_1869533), (7, .int x_1920129)]) hx hb dX12_order_148 hl (by decide) rfl (fun ls hl => ?_)
                                refine lv_aload_n hx hb dX12_order_150 rfl (lv_at hl 1 rfl) ?_
                                refine pg_f (v := .ref this_kept) (C := RX12) (T := TX12) (N := 31) hx hb hts (tw_i inlX12) hown hK hP hL_this hK_this (by decide) rfl 2 (by decide) (hts _ (tw_c tw_178)) (pq_hv rfl hR_this_kept) dX12_order_151 ?_
                                refine lv_aload_n hx hb dX12_order_154 rfl (lv_at hl 1 rfl) ?_
                                refine pg_f (v := .ref this_a) (C := RX12) (T := TX12) (N := 31) hx hb hts (tw_i inlX12) hown hK hP hL_this hK_this (by decide) rfl 0 (by decide) (hts _ (tw_c tw_176)) (pq_hv rfl hR_this_a) dX12_order_155 ?_
                                refine pk_v (va_runS (As := [.ref this_kept, .ref this_a]) (rest := []) ⟨hx, hb, hml, hown, hts⟩ (c_X12_copy l D t σ I_1923670 J ri_1923671 rj_1923672 rq H.size this_kept this_a 12720 hL_this_kept hK_this_kept hN_this_kept hL_this_a hK_this_a hN_this_a rfl (tg_ne hT_this_kept hT_this_a (by decide))) (va_cwS 2 hts (tw_S tw_192 tw_193 tw_5 tw_194) rfl rfl rfl cd_yX12_copy_2 ⟨Nat.le_of_ble_eq_true rfl, Nat.le_of_ble_eq_true rfl⟩) ⟨pq_blind, pq_pre hK hN hP hD⟩ rfl rfl hl.1 rfl (lv_room (Nat.le_of_ble_eq_true rfl)) dX12_order_158 ⟨Nat.le_of_ble_eq_true rfl, Nat.le_of_ble_eq_true rfl⟩) hD hS hA (fun σ1 μ1 H locs hw_1923982 hP hD hS => ?_)
                                obtain ⟨ri_1923983, hu_1923984, hp_1923987, hp_1923988⟩ := hw_1923982
                                obtain ⟨hu_1923984a, hu_1923984b⟩ := Prod.mk.inj hu_1923984
                                rw [hu_1923984a, hu_1923984b] at hP hD
                                have tt_1923989 : (ri_1923983 this_a 0).toInt = (ri_1923671 this_kept 0).toInt := congrArg Int32.toInt (hp_1923987 0 (by decide))
                                have tt_1923990 : (ri_1923983 this_kept 0).toInt = (ri_1923671 this_kept 0).toInt := congrArg Int32.toInt (congrFun (hp_1923988 this_kept (tg_ne hT_this_kept hT_this_a (by decide))) 0)
                                have hG := GM.cp hG hT_this_kept hT_this_a (by decide) hp_1923987 hp_1923988 (by decide)
                                refine lv_iload hx hb dX12_order_161 (lv_at hl 6 rfl) ?_
                                have K_1924240 : ∀  (H : Heap) (locs : List Loc) (ls : Array Slot), (∀ j, zn j ∈ ztl → ri_1923983 this_kept j = ri this_a j) → GM [2001, 2002, 1305, 1304, 1403, 1000, 1001, 1002, 1003, 1004, 1005, 1006, 1007, 1010, 1013, 1014, 1015, 1500, 1501, 1502, 1503, 1504, 1100, 1101, 1102, 1103, 1104, 1300, 1301, 1306, 1308, 1700, 1701, 1702] tg σ I ri I_1923670 ri_1923983 rq → va_P D vwCl (pq_P t σ (I_1923670, J, ri_1923983, rj_1923672, rq)) H → va_D A (pq_P t σ (I_1923670, J, ri_1923983, rj_1923672, rq)) → va_S A s.heap H locs → lv_has ls 10 [(0, .ref this), (1, .int a0), (2, .int a1), (3, .int a2), (4, .int x_1282863), (8, .int x_1923980)] → W p l e ({ frames := 7, cells := 0, slots := 0, locals := 172 } : Room) s m (List.toArray ([.ref this, .int a0, .int a1, .int a2] : List Value)) below meth c H locs 0 0 Q (F0 m 173 ls []) := by
                                  intro H locs ls hrel_1924242 hG hP hD hS hl
                                  refine lv_iload hx hb dX12_order_173 (lv_at hl 5 rfl) ?_
                                  refine lv_istore (lv' := [(5, .int x_1923980), (0, .ref this), (1, .int a0), (2, .int a1), (3, .int a2), (4, .int x_1282863), (8, .int x_1923980)]) hx hb dX12_order_175 hl (by decide) rfl (fun ls hl => ?_)
                                  refine lv_iconst (v := 0) hx hb dX12_order_177 (by decide) ?_
                                  refine lv_istore (lv' := [(9, .int 0), (5, .int x_1923980), (0, .ref this), (1, .int a0), (2, .int a1), (3, .int a2), (4, .int x_1282863), (8, .int x_1923980)]) hx hb dX12_order_178 hl (by decide) rfl (fun ls hl => ?_)
                                  have L_1924445 : ∀ (n_1924444 : Nat) (x_1924414 : Int32) (ri_1924415 : Nat → Nat → Int32) (H : Heap) (locs : List Loc) (ls : Array Slot), rg x_1924414 0 5 → ((ri_1924415 this_a 0).toInt = (ri this_a 0).toInt ∧ (ri_1924415 this_kept 0).toInt = (ri this_a 0).toInt) → (ri_1924415 this_rings = ri_1869536 this_rings) → (∀ j, zn j ∈ ztl → ri_1924415 this_kept j = ri this_a j) → (∀ j, zn j ∈ ztl → ri_1924415 this_a j = ri this_a j) → (5 - (x_1924414).toInt).toNat < n_1924444 → GM [2001, 2002, 1305, 1304, 1403, 1000, 1001, 1002, 1003, 1004, 1005, 1006, 1007, 1010, 1013, 1014, 1015, 1500, 1501, 1502, 1503, 1504, 1100, 1101, 1102, 1103, 1104, 1300, 1301, 1306, 1308, 1700, 1701, 1702] tg σ I ri I_1923670 ri_1924415 rq → va_P D vwCl (pq_P t σ (I_1923670, J, ri_1924415, rj_1923672, rq)) H → va_D A (pq_P t σ (I_1923670, J, ri_1924415, rj_1923672, rq)) → va_S A s.heap H locs → lv_has ls 10 [(0, .ref this), (1, .int a0), (2, .int a1), (3, .int a2), (4, .int x_1282863), (5, .int x_1923980), (9, .int x_1924414)] → W p l e ({ frames := 7, cells := 0, slots := 0, locals := 172 } : Room) s m (List.toArray ([.ref this, .int a0, .int a1, .int a2] : List Value)) below meth c H locs 0 0 Q (F0 m 180 ls []) := by
                                    intro n_1924444
                                    induction n_1924444 with
                                    | zero => intro x_1924414 ri_1924415 H locs ls h_1924452 hrel_1924453 hrel_1924454 hrel_1924455 hrel_1924456 hm_1924443 hG hP hD hS hl; exact absurd hm_1924443 (Nat.not_lt_zero _)
                                    | succ n_1924444 ih_1924446 =>
                                      intro x_1924414 ri_1924415 H locs ls h_1924452 hrel_1924453 hrel_1924454 hrel_1924455 hrel_1924456 hm_1924443 hG hP hD hS hl
                                      have uh_1924452 := h_1924452.1
                                      have vh_1924452 := h_1924452.2
                                      refine lv_iload hx hb dX12_order_180 (lv_at hl 6 rfl) ?_
                                      refine lv_iload hx hb dX12_order_182 (lv_at hl 4 rfl) ?_
                                      refine lv_icmp_ge (tgt := 207) hx hb dX12_order_184 (by decide) (fun c_1924457 => ?_) (fun c_1924457 => ?_)
                                      · have tc_1924458 : (x_1282863).toInt ≤ (x_1924414).toInt := Int32.le_iff_toInt_le.mp c_1924457
                                        refine lv_aload_n hx hb dX12_order_207 rfl (lv_at hl 0 rfl) ?_
                                        refine lv_iload hx hb dX12_order_208 (lv_at hl 4 rfl) ?_
                                        have hjn : InjI ((x_1282863).toInt) (ri_1924415 this_rings) := by rw [hrel_1924454]; exact hrel_1896902
                                        have srgs : ∀ i, rg (ri_1924415 this_rings i) 0 4 := fun i => GM.rR hG hT_this_rings rfl
                                        refine pk_i (va_runV (As := [.int x_1282863]) (rest := []) ⟨hx, hb, hml, hown, hts⟩ (s_X12_nextOrder l D t σ I_1923670 J ri_1924415 rj_1923672 rq H.size tg hSH hG.1 this x_1282863 hL_this hK_this (rg_w h_1282864 (by decide)) this_rings hR_this_rings hL_this_rings hK_this_rings hN_this_rings hT_this_rings (by assumption)) (cwV 1 hts (tw_V tw_1491 tw_1492 tw_1493 tw_5 tw_1494) rfl rfl rfl cv_yX12_nextOrder_1 ⟨Nat.le_of_ble_eq_true rfl, Nat.le_of_ble_eq_true rfl⟩) ⟨pq_blind, pq_recv hK hP hL_this hK_this (by decide) rfl, pq_pre hK hN hP hD⟩ rfl rfl hl.1 rfl (lv_room (Nat.le_of_ble_eq_true rfl)) dX12_order_210 ⟨Nat.le_of_ble_eq_true rfl, Nat.le_of_ble_eq_true rfl⟩) hD hS hA (fun x_1924459 σ1 μ1 H locs hw_1924460 hP hD hS => ?_)
                                        obtain ⟨ri_1924461, hu_1924462, hg_1924463, hr_1924464⟩ := hw_1924460
                                        obtain ⟨hu_1924462a, hu_1924462b⟩ := Prod.mk.inj hu_1924462
                                        rw [hu_1924462a, hu_1924462b] at hP hD
                                        have tt_1924465 : (ri_1924461 this_a 0).toInt = (ri_1924415 this_a 0).toInt := congrArg Int32.toInt (hg_1924463.2.2.1 this_a hT_this_a 0 (by decide) (by decide))
                                        have tt_1924466 : (ri_1924461 this_kept 0).toInt = (ri_1924415 this_kept 0).toInt := congrArg Int32.toInt (congrFun (hg_1924463.2.2.2 386 2001 (by decide) (by decide) this_kept hT_this_kept) 0)
                                        have hG := GM.tr hG hg_1924463 (by decide)
                                        have h_1924467 : rg x_1924459 0 1 := by rcases hr_1924464 with ⟨q, -⟩ | ⟨q, -⟩ <;> rw [q] <;> exact ⟨by decide, by decide⟩
                                        have uh_1924467 := h_1924467.1
                                        have vh_1924467 := h_1924467.2
                                        refine lv_istore (lv' := [(6, .int x_1924459), (0, .ref this), (1, .int a0), (2, .int a1), (3, .int a2), (4, .int x_1282863), (5, .int x_1923980), (9, .int x_1924414)]) hx hb dX12_order_213 hl (by decide) rfl (fun ls hl => ?_)
                                        refine lv_goto (tgt := 80) hx hb dX12_order_215 (by decide) ?_
                                        exact ih_1896894 x_1923980 x_1924459 I_1923670 ri_1924461 rj_1923672 _ _ _ (rg_w h_1924467 (by decide)) (by omega) (by rcases hr_1924464 with ⟨q, f1, -⟩ | ⟨q, f0⟩; exact f1; rw [f0, hrel_1924454]; exact hrel_1896902) (row_s (hg_1924463.2.2.2 386 2001 (by decide) (by decide) this_kept hT_this_kept) hrel_1924455) (row_j (fun j hj => hg_1924463.2.2.1 this_a hT_this_a j hj (zl_x hj (by decide))) hrel_1924456) (by have eL : lexM (ri_1924415 this_rings) = lexM (ri_1869536 this_rings) := congrArg lexM hrel_1924454; have b1 := lex_b (f := ri_1869536 this_rings) (fun i => by rw [← hrel_1924454]; exact srgs i); have b2 := lex_b (f := ri_1924461 this_rings) (fun i => GM.rR hG hT_this_rings rfl); rcases hr_1924464 with ⟨q, f1, f2⟩ | ⟨q, f0⟩; have l1 := lex_up (f := ri_1924415 this_rings) (g := ri_1924461 this_rings) srgs (fun i => GM.rR hG hT_this_rings rfl) f2; have q2 := congrArg Int32.toInt q; have q3 : (1 : Int32).toInt = 1 := rfl; omega; have q2 := congrArg Int32.toInt q; have q3 : (0 : Int32).toInt = 0 := rfl; have e0 : lexM (ri_1924461 this_rings) = lexM (ri_1924415 this_rings) := (by rw [f0]); omega) hG hP hD hS (lv_sub hl [1, 2, 3, 4, 5, 6, 0] rfl)
                                      · have tc_1924468 : (x_1924414).toInt < (x_1282863).toInt := Int32.lt_iff_toInt_lt.mp (nle c_1924457)
                                        have h_1924469 : rg x_1924414 0 4 := rg_lt1 (nle c_1924457) h_1924452 h_1282864 (by decide)
                                        have uh_1924469 := h_1924469.1
                                        have vh_1924469 := h_1924469.2
                                        have h_1924470 : rg x_1282863 1 5 := rg_lt2 (nle c_1924457) h_1924452 h_1282864 (by decide)
                                        have uh_1924470 := h_1924470.1
                                        have vh_1924470 := h_1924470.2
                                        refine lv_aload_n hx hb dX12_order_187 rfl (lv_at hl 0 rfl) ?_
                                        obtain ⟨w_1924471, hR_w_1924471, hL_w_1924471, hK_w_1924471, hN_w_1924471, hT_w_1924471⟩ := sh_a hSH 413 (ci := 12) (kd := 13) (len := 5) rfl (by decide) hL_this hK_this
                                        refine pg_f (v := .ref w_1924471) (C := RX12) (T := TX12) (N := 31) hx hb hts (tw_i inlX12) hown hK hP hL_this hK_this (by decide) rfl 29 (by decide) (hts _ (tw_c tw_190)) (pq_hv rfl hR_w_1924471) dX12_order_188 ?_
                                        refine lv_iload hx hb dX12_order_191 (lv_at hl 6 rfl) ?_
                                        refine lv_aload_n hx hb dX12_order_193 rfl (lv_at hl 0 rfl) ?_
                                        refine pg_f (v := .ref this_rings) (C := RX12) (T := TX12) (N := 31) hx hb hts (tw_i inlX12) hown hK hP hL_this hK_this (by decide) rfl 30 (by decide) (hts _ (tw_c tw_191)) (pq_hv rfl hR_this_rings) dX12_order_194 ?_
                                        refine lv_iload hx hb dX12_order_197 (lv_at hl 6 rfl) ?_
                                        refine pl_i hx hb hK hP hL_this_rings hK_this_rings hN_this_rings (rg_in h_1924469 (by decide)) dX12_order_199 ?_
                                        refine lv_topi (fun x_1924472 ex_1924472 => ?_)
                                        have h_1924473 : rg x_1924472 0 4 := rg_of_eq ex_1924472 (GM.rR hG hT_this_rings rfl)
                                        have uh_1924473 := h_1924473.1
                                        have vh_1924473 := h_1924473.2
                                        refine pt_i hx hb hK hP hD hS hL_w_1924471 hK_w_1924471 hN_w_1924471 (rg_in h_1924469 (by decide)) dX12_order_200 (fun r_1924474 H locs er_1924474 hP hD hS => ?_)
                                        have hG := GM.wR hG hSH hT_w_1924471 rfl er_1924474 (rg_w h_1924473 (by decide)) (by decide)
                                        have tt_1924475 : (r_1924474 this_a 0).toInt = (ri_1924415 this_a 0).toInt := congrArg Int32.toInt (congrFun (ro_ne er_1924474 (tg_ne hT_this_a hT_w_1924471 (by decide))) 0)
                                        have tt_1924476 : (r_1924474 this_kept 0).toInt = (ri_1924415 this_kept 0).toInt := congrArg Int32.toInt (congrFun (ro_ne er_1924474 (tg_ne hT_this_kept hT_w_1924471 (by decide))) 0)
                                        obtain ⟨x_1924477, ex_1924477⟩ : ∃ y : Int32, y = x_1924414 + Int32.ofInt 1 := ⟨_, rfl⟩
                                        have h_1924478 : rg x_1924477 1 5 := rg_of_eq ex_1924477 (rg_add h_1924469 (rg_k (Int32.ofInt 1) 1 rfl) (by decide))
                                        have uh_1924478 := h_1924478.1
                                        have vh_1924478 := h_1924478.2
                                        have tx_1924477 : (x_1924477).toInt = (x_1924414).toInt + 1 := by rw [ex_1924477]; exact i_add_rg (a2 := (x_1924414).toInt) (b2 := 1) rfl rfl h_1924469 (rg_k (Int32.ofInt 1) 1 rfl) (by decide)
                                        refine lv_iinc (v := x_1924477) (lv' := [(9, .int x_1924477), (0, .ref this), (1, .int a0), (2, .int a1), (3, .int a2), (4, .int x_1282863), (5, .int x_1923980)]) hx hb dX12_order_201 hl (k := 6) rfl ex_1924477.symm (by decide) rfl (fun ls hl => ?_)
                                        refine lv_goto (tgt := 180) hx hb dX12_order_204 (by decide) ?_
                                        exact ih_1924446 x_1924477 r_1924474 _ _ _ (rg_w h_1924478 (by decide)) (by omega) ((ro_ne er_1924474 (tg_ne hT_this_rings hT_w_1924471 (by decide))).trans hrel_1924454) (row_s (ro_ne er_1924474 (tg_ne hT_this_kept hT_w_1924471 (by decide))) hrel_1924455) (row_s (ro_ne er_1924474 (tg_ne hT_this_a hT_w_1924471 (by decide))) hrel_1924456) (ms_up 1 hm_1924443 ex_1924477 rfl (by decide) h_1924469 (by decide) (by decide)) hG hP hD hS (lv_sub hl [1, 2, 3, 4, 5, 6, 0] rfl)
                                  exact L_1924445 _ (0 : Int32) ri_1923983 _ _ _ (rg_w (rg_k (0 : Int32) 0 rfl) (by decide)) (by have k0 : (0 : Int32).toInt = 0 := rfl; omega) ((hp_1923988 this_rings (tg_ne hT_this_rings hT_this_a (by decide))).trans hrel_1923970) hrel_1924242 (row_c hp_1923987 hrel_1923971) (Nat.lt_succ_self _) hG hP hD hS (lv_sub hl [2, 3, 4, 5, 6, 1, 0] rfl)
                                refine lv_if_lt (tgt := 173) hx hb dX12_order_163 (by decide) (fun c_1924479 => ?_) (fun c_1924479 => ?_)
                                · have tc_1924480 : (x_1869533).toInt < 0 := Int32.lt_iff_toInt_lt.mp c_1924479
                                  have h_1924481 : rg x_1869533 (-2147483648) (-1) := rg_lt1 c_1924479 (rg_full _) (rg_k (0 : Int32) 0 rfl) (by decide)
                                  have uh_1924481 := h_1924481.1
                                  have vh_1924481 := h_1924481.2
                                  exact K_1924240 _ _ _ (row_s (hp_1923988 this_kept (tg_ne hT_this_kept hT_this_a (by decide))) hrel_1923971) hG hP hD hS (lv_sub hl [1, 2, 3, 4, 5, 0] rfl)
                                · have tc_1924482 : 0 ≤ (x_1869533).toInt := Int32.le_iff_toInt_le.mp (nlt c_1924479)
                                  have h_1924483 : rg x_1869533 0 2147483647 := rg_le2 (nlt c_1924479) (rg_k (0 : Int32) 0 rfl) (rg_full _) (by decide)
                                  have uh_1924483 := h_1924483.1
                                  have vh_1924483 := h_1924483.2
                                  refine lv_iload hx hb dX12_order_166 (lv_at hl 0 rfl) ?_
                                  refine lv_iload hx hb dX12_order_168 (lv_at hl 6 rfl) ?_
                                  refine lv_icmp_ge (tgt := 207) hx hb dX12_order_170 (by decide) (fun c_1924484 => ?_) (fun c_1924484 => ?_)
                                  · have tc_1924485 : (x_1869533).toInt ≤ (x_1923980).toInt := Int32.le_iff_toInt_le.mp c_1924484
                                    have h_1924486 : rg x_1923980 0 2147483647 := rg_le2 c_1924484 h_1924483 (rg_full _) (by decide)
                                    have uh_1924486 := h_1924486.1
                                    have vh_1924486 := h_1924486.2
                                    refine lv_aload_n hx hb dX12_order_207 rfl (lv_at hl 1 rfl) ?_
                                    refine lv_iload hx hb dX12_order_208 (lv_at hl 5 rfl) ?_
                                    have hjn : InjI ((x_1282863).toInt) (ri_1923983 this_rings) := by rw [((hp_1923988 this_rings (tg_ne hT_this_rings hT_this_a (by decide))).trans hrel_1923970)]; exact hrel_1896902
                                    have srgs : ∀ i, rg (ri_1923983 this_rings i) 0 4 := fun i => GM.rR hG hT_this_rings rfl
                                    refine pk_i (va_runV (As := [.int x_1282863]) (rest := []) ⟨hx, hb, hml, hown, hts⟩ (s_X12_nextOrder l D t σ I_1923670 J ri_1923983 rj_1923672 rq H.size tg hSH hG.1 this x_1282863 hL_this hK_this (rg_w h_1282864 (by decide)) this_rings hR_this_rings hL_this_rings hK_this_rings hN_this_rings hT_this_rings (by assumption)) (cwV 1 hts (tw_V tw_1491 tw_1492 tw_1493 tw_5 tw_1494) rfl rfl rfl cv_yX12_nextOrder_1 ⟨Nat.le_of_ble_eq_true rfl, Nat.le_of_ble_eq_true rfl⟩) ⟨pq_blind, pq_recv hK hP hL_this hK_this (by decide) rfl, pq_pre hK hN hP hD⟩ rfl rfl hl.1 rfl (lv_room (Nat.le_of_ble_eq_true rfl)) dX12_order_210 ⟨Nat.le_of_ble_eq_true rfl, Nat.le_of_ble_eq_true rfl⟩) hD hS hA (fun x_1924487 σ1 μ1 H locs hw_1924488 hP hD hS => ?_)
                                    obtain ⟨ri_1924489, hu_1924490, hg_1924491, hr_1924492⟩ := hw_1924488
                                    obtain ⟨hu_1924490a, hu_1924490b⟩ := Prod.mk.inj hu_1924490
                                    rw [hu_1924490a, hu_1924490b] at hP hD
                                    have tt_1924493 : (ri_1924489 this_a 0).toInt = (ri_1923983 this_a 0).toInt := congrArg Int32.toInt (hg_1924491.2.2.1 this_a hT_this_a 0 (by decide) (by decide))
                                    have tt_1924494 : (ri_1924489 this_kept 0).toInt = (ri_1923983 this_kept 0).toInt := congrArg Int32.toInt (congrFun (hg_1924491.2.2.2 386 2001 (by decide) (by decide) this_kept hT_this_kept) 0)
                                    have hG := GM.tr hG hg_1924491 (by decide)
                                    have h_1924495 : rg x_1924487 0 1 := by rcases hr_1924492 with ⟨q, -⟩ | ⟨q, -⟩ <;> rw [q] <;> exact ⟨by decide, by decide⟩
                                    have uh_1924495 := h_1924495.1
                                    have vh_1924495 := h_1924495.2
                                    refine lv_istore (lv' := [(6, .int x_1924487), (8, .int x_1923980), (0, .ref this), (1, .int a0), (2, .int a1), (3, .int a2), (4, .int x_1282863), (5, .int x_1869533), (7, .int x_1920129)]) hx hb dX12_order_213 hl (by decide) rfl (fun ls hl => ?_)
                                    refine lv_goto (tgt := 80) hx hb dX12_order_215 (by decide) ?_
                                    exact ih_1896894 x_1869533 x_1924487 I_1923670 ri_1924489 rj_1923672 _ _ _ (rg_w h_1924495 (by decide)) (by omega) (by rcases hr_1924492 with ⟨q, f1, -⟩ | ⟨q, f0⟩; exact f1; rw [f0, ((hp_1923988 this_rings (tg_ne hT_this_rings hT_this_a (by decide))).trans hrel_1923970)]; exact hrel_1896902) (row_s (hg_1924491.2.2.2 386 2001 (by decide) (by decide) this_kept hT_this_kept) (row_s (hp_1923988 this_kept (tg_ne hT_this_kept hT_this_a (by decide))) hrel_1923971)) (row_j (fun j hj => hg_1924491.2.2.1 this_a hT_this_a j hj (zl_x hj (by decide))) (row_c hp_1923987 hrel_1923971)) (by have eL : lexM (ri_1923983 this_rings) = lexM (ri_1869536 this_rings) := congrArg lexM ((hp_1923988 this_rings (tg_ne hT_this_rings hT_this_a (by decide))).trans hrel_1923970); have b1 := lex_b (f := ri_1869536 this_rings) (fun i => by rw [← ((hp_1923988 this_rings (tg_ne hT_this_rings hT_this_a (by decide))).trans hrel_1923970)]; exact srgs i); have b2 := lex_b (f := ri_1924489 this_rings) (fun i => GM.rR hG hT_this_rings rfl); rcases hr_1924492 with ⟨q, f1, f2⟩ | ⟨q, f0⟩; have l1 := lex_up (f := ri_1923983 this_rings) (g := ri_1924489 this_rings) srgs (fun i => GM.rR hG hT_this_rings rfl) f2; have q2 := congrArg Int32.toInt q; have q3 : (1 : Int32).toInt = 1 := rfl; omega; have q2 := congrArg Int32.toInt q; have q3 : (0 : Int32).toInt = 0 := rfl; have e0 : lexM (ri_1924489 this_rings) = lexM (ri_1923983 this_rings) := (by rw [f0]); omega) hG hP hD hS (lv_sub hl [2, 3, 4, 5, 6, 7, 0] rfl)
                                  · have tc_1924496 : (x_1923980).toInt < (x_1869533).toInt := Int32.lt_iff_toInt_lt.mp (nle c_1924484)
                                    have h_1924497 : rg x_1923980 (-2147483648) 2147483646 := rg_lt1 (nle c_1924484) (rg_full _) h_1924483 (by decide)
                                    have uh_1924497 := h_1924497.1
                                    have vh_1924497 := h_1924497.2
                                    exact K_1924240 _ _ _ (row_s (hp_1923988 this_kept (tg_ne hT_this_kept hT_this_a (by decide))) hrel_1923971) hG hP hD hS (lv_sub hl [1, 2, 3, 4, 5, 0] rfl)
                              · have tc_1924498 : (x_1923669).toInt < (a1).toInt := Int32.lt_iff_toInt_lt.mp (nle c_1923972)
                                have h_1924499 : rg x_1923669 0 59 := rg_lt1 (nle c_1923972) h_1923968 f_641433 (by decide)
                                have uh_1924499 := h_1924499.1
                                have vh_1924499 := h_1924499.2
                                refine lv_aload_n hx hb dX12_order_130 rfl (lv_at hl 0 rfl) ?_
                                refine lv_iload_n hx hb dX12_order_131 rfl (lv_at hl 1 rfl) ?_
                                refine pk_v (va_runV (As := [.int a0]) (rest := []) ⟨hx, hb, hml, hown, hts⟩ (s_X12_month l D t σ I_1923670 J ri_1923671 rj_1923672 rq H.size tg hSH hG.1 this a0 hL_this hK_this this_a hR_this_a hL_this_a hK_this_a hN_this_a hT_this_a (by omega)) (cwV 1 hts (tw_V tw_1193 tw_1194 tw_1195 tw_5 tw_1196) rfl rfl rfl cv_yX12_month_1 ⟨Nat.le_of_ble_eq_true rfl, Nat.le_of_ble_eq_true rfl⟩) ⟨pq_blind, pq_recv hK hP hL_this hK_this (by decide) rfl, pq_pre hK hN hP hD⟩ rfl rfl hl.1 rfl (lv_room (Nat.le_of_ble_eq_true rfl)) dX12_order_132 ⟨Nat.le_of_ble_eq_true rfl, Nat.le_of_ble_eq_true rfl⟩) hD hS hA (fun σ1 μ1 H locs hw_1924501 hP hD hS => ?_)
                                obtain ⟨I_1924502, ri_1924503, rj_1924504, hu_1924505, hg_1924506, hp_1924508⟩ := hw_1924501
                                obtain ⟨hu_1924505a, hu_1924505b⟩ := Prod.mk.inj hu_1924505
                                rw [hu_1924505a, hu_1924505b] at hP hD
                                have tt_1924509 := hp_1924508
                                have tt_1924510 : (ri_1924503 this_kept 0).toInt = (ri_1923671 this_kept 0).toInt := congrArg Int32.toInt (congrFun (hg_1924506.2.2.2 386 2001 (by decide) (by decide) this_kept hT_this_kept) 0)
                                have hG := GM.tr hG hg_1924506 (by decide)
                                obtain ⟨x_1924511, ex_1924511⟩ : ∃ y : Int32, y = x_1923669 + Int32.ofInt 1 := ⟨_, rfl⟩
                                have h_1924512 : rg x_1924511 1 60 := rg_of_eq ex_1924511 (rg_add h_1924499 (rg_k (Int32.ofInt 1) 1 rfl) (by decide))
                                have uh_1924512 := h_1924512.1
                                have vh_1924512 := h_1924512.2
                                have tx_1924511 : (x_1924511).toInt = (x_1923669).toInt + 1 := by rw [ex_1924511]; exact i_add_rg (a2 := (x_1923669).toInt) (b2 := 1) rfl rfl h_1924499 (rg_k (Int32.ofInt 1) 1 rfl) (by decide)
                                refine lv_iinc (v := x_1924511) (lv' := [(8, .int x_1924511), (0, .ref this), (1, .int a0), (2, .int a1), (3, .int a2), (4, .int x_1282863), (5, .int x_1869533), (7, .int x_1920129)]) hx hb dX12_order_135 hl (k := 7) rfl ex_1924511.symm (by decide) rfl (fun ls hl => ?_)
                                refine lv_goto (tgt := 124) hx hb dX12_order_138 (by decide) ?_
                                exact ih_1923963 x_1924511 I_1924502 ri_1924503 rj_1924504 _ _ _ (rg_w h_1924512 (by decide)) (by omega) ((hg_1924506.2.2.2 414 2002 (by decide) (by decide) this_rings hT_this_rings).trans hrel_1923970) (row_s (hg_1924506.2.2.2 386 2001 (by decide) (by decide) this_kept hT_this_kept) hrel_1923971) (ms_up 1 hm_1923960 ex_1924511 rfl (by decide) h_1924499 (by decide) (by decide)) hG hP hD hS (lv_sub hl [1, 2, 3, 4, 5, 6, 7, 0] rfl)
                          exact L_1923962 _ (0 : Int32) I_1869535 ri_1915974 rj_1869537 _ _ _ (rg_w (rg_k (0 : Int32) 0 rfl) (by decide)) (by have k0 : (0 : Int32).toInt = 0 := rfl; omega) hrel_1920124 hrel_1920125 (Nat.lt_succ_self _) hG hP hD hS (lv_sub hl [2, 3, 4, 5, 6, 7, 1, 0] rfl)
                        · have tc_1924513 : (x_1915973).toInt < (x_1282863).toInt := Int32.lt_iff_toInt_lt.mp (nle c_1920127)
                          have h_1924514 : rg x_1915973 0 4 := rg_lt1 (nle c_1920127) h_1920122 h_1282864 (by decide)
                          have uh_1924514 := h_1924514.1
                          have vh_1924514 := h_1924514.2
                          have h_1924515 : rg x_1282863 1 5 := rg_lt2 (nle c_1920127) h_1920122 h_1282864 (by decide)
                          have uh_1924515 := h_1924515.1
                          have vh_1924515 := h_1924515.2
                          refine lv_aload_n hx hb dX12_order_95 rfl (lv_at hl 0 rfl) ?_
                          obtain ⟨w_1924516, hR_w_1924516, hL_w_1924516, hK_w_1924516, hN_w_1924516, hT_w_1924516⟩ := sh_a hSH 408 (ci := 12) (kd := 13) (len := 5) rfl (by decide) hL_this hK_this
                          refine pg_f (v := .ref w_1924516) (C := RX12) (T := TX12) (N := 31) hx hb hts (tw_i inlX12) hown hK hP hL_this hK_this (by decide) rfl 24 (by decide) (hts _ (tw_c tw_186)) (pq_hv rfl hR_w_1924516) dX12_order_96 ?_
                          refine lv_aload_n hx hb dX12_order_99 rfl (lv_at hl 0 rfl) ?_
                          refine pg_f (v := .ref this_rings) (C := RX12) (T := TX12) (N := 31) hx hb hts (tw_i inlX12) hown hK hP hL_this hK_this (by decide) rfl 30 (by decide) (hts _ (tw_c tw_191)) (pq_hv rfl hR_this_rings) dX12_order_100 ?_
                          refine lv_iload hx hb dX12_order_103 (lv_at hl 6 rfl) ?_
                          refine pl_i hx hb hK hP hL_this_rings hK_this_rings hN_this_rings (rg_in h_1924514 (by decide)) dX12_order_105 ?_
                          refine lv_topi (fun x_1924517 ex_1924517 => ?_)
                          have h_1924518 : rg x_1924517 0 4 := rg_of_eq ex_1924517 (GM.rR hG hT_this_rings rfl)
                          have uh_1924518 := h_1924518.1
                          have vh_1924518 := h_1924518.2
                          refine lv_iload hx hb dX12_order_106 (lv_at hl 6 rfl) ?_
                          refine pt_i hx hb hK hP hD hS hL_w_1924516 hK_w_1924516 hN_w_1924516 (rg_in h_1924518 (by decide)) dX12_order_108 (fun r_1924519 H locs er_1924519 hP hD hS => ?_)
                          have hG := GM.wR hG hSH hT_w_1924516 rfl er_1924519 (rg_w h_1924514 (by decide)) (by decide)
                          have tt_1924520 : (r_1924519 this_a 0).toInt = (ri_1915974 this_a 0).toInt := congrArg Int32.toInt (congrFun (ro_ne er_1924519 (tg_ne hT_this_a hT_w_1924516 (by decide))) 0)
                          have tt_1924521 : (r_1924519 this_kept 0).toInt = (ri_1915974 this_kept 0).toInt := congrArg Int32.toInt (congrFun (ro_ne er_1924519 (tg_ne hT_this_kept hT_w_1924516 (by decide))) 0)
                          obtain ⟨x_1924522, ex_1924522⟩ : ∃ y : Int32, y = x_1915973 + Int32.ofInt 1 := ⟨_, rfl⟩
                          have h_1924523 : rg x_1924522 1 5 := rg_of_eq ex_1924522 (rg_add h_1924514 (rg_k (Int32.ofInt 1) 1 rfl) (by decide))
                          have uh_1924523 := h_1924523.1
                          have vh_1924523 := h_1924523.2
                          have tx_1924522 : (x_1924522).toInt = (x_1915973).toInt + 1 := by rw [ex_1924522]; exact i_add_rg (a2 := (x_1915973).toInt) (b2 := 1) rfl rfl h_1924514 (rg_k (Int32.ofInt 1) 1 rfl) (by decide)
                          refine lv_iinc (v := x_1924522) (lv' := [(7, .int x_1924522), (0, .ref this), (1, .int a0), (2, .int a1), (3, .int a2), (4, .int x_1282863), (5, .int x_1869533)]) hx hb dX12_order_109 hl (k := 6) rfl ex_1924522.symm (by decide) rfl (fun ls hl => ?_)
                          refine lv_goto (tgt := 88) hx hb dX12_order_112 (by decide) ?_
                          exact ih_1920116 x_1924522 r_1924519 _ _ _ (rg_w h_1924523 (by decide)) (by omega) ((ro_ne er_1924519 (tg_ne hT_this_rings hT_w_1924516 (by decide))).trans hrel_1920124) (row_s (ro_ne er_1924519 (tg_ne hT_this_kept hT_w_1924516 (by decide))) hrel_1920125) (row_s (ro_ne er_1924519 (tg_ne hT_this_a hT_w_1924516 (by decide))) hrel_1920126) (ms_up 1 hm_1920113 ex_1924522 rfl (by decide) h_1924514 (by decide) (by decide)) hG hP hD hS (lv_sub hl [1, 2, 3, 4, 5, 6, 0] rfl)
                    exact L_1920115 _ (0 : Int32) ri_1869536 _ _ _ (rg_w (rg_k (0 : Int32) 0 rfl) (by decide)) (by have k0 : (0 : Int32).toInt = 0 := rfl; omega) rfl hrel_1896903 hrel_1896904 (Nat.lt_succ_self _) hG hP hD hS (lv_sub hl [1, 2, 3, 4, 5, 6, 0] rfl)
              exact L_1896893 _ (-1 : Int32) (1 : Int32) I_1763935 ri_1603591 rj _ _ _ (rg_w (rg_k (1 : Int32) 1 rfl) (by decide)) (by have k0 : ((-1) : Int32).toInt = (-1) := rfl; have k1 : (1 : Int32).toInt = 1 := rfl; omega) (inj_id (fun j hj => hrel_1763929 j (by omega)) (by omega)) hrel_1763930 hrel_1763931 (Nat.lt_succ_self _) hG hP hD hS (lv_sub hl [2, 3, 4, 5, 6, 1, 0] rfl)
            · have tc_1924524 : (x_1603590).toInt < 5 := Int32.lt_iff_toInt_lt.mp (nle c_1763932)
              have h_1924525 : rg x_1603590 0 4 := rg_lt1 (nle c_1763932) h_1763927 (rg_k (5 : Int32) 5 rfl) (by decide)
              have uh_1924525 := h_1924525.1
              have vh_1924525 := h_1924525.2
              refine lv_aload_n hx hb dX12_order_54 rfl (lv_at hl 0 rfl) ?_
              refine pg_f (v := .ref this_rings) (C := RX12) (T := TX12) (N := 31) hx hb hts (tw_i inlX12) hown hK hP hL_this hK_this (by decide) rfl 30 (by decide) (hts _ (tw_c tw_191)) (pq_hv rfl hR_this_rings) dX12_order_55 ?_
              refine lv_iload hx hb dX12_order_58 (lv_at hl 5 rfl) ?_
              refine lv_iload hx hb dX12_order_60 (lv_at hl 5 rfl) ?_
              refine pt_i hx hb hK hP hD hS hL_this_rings hK_this_rings hN_this_rings (rg_in h_1924525 (by decide)) dX12_order_62 (fun r_1924526 H locs er_1924526 hP hD hS => ?_)
              have hG := GM.wR hG hSH hT_this_rings rfl er_1924526 (rg_w h_1924525 (by decide)) (by decide)
              have tt_1924527 : (r_1924526 this_a 0).toInt = (ri_1603591 this_a 0).toInt := congrArg Int32.toInt (congrFun (ro_ne er_1924526 (tg_ne hT_this_a hT_this_rings (by decide))) 0)
              have tt_1924528 : (r_1924526 this_kept 0).toInt = (ri_1603591 this_kept 0).toInt := congrArg Int32.toInt (congrFun (ro_ne er_1924526 (tg_ne hT_this_kept hT_this_rings (by decide))) 0)
              obtain ⟨x_1924529, ex_1924529⟩ : ∃ y : Int32, y = x_1603590 + Int32.ofInt 1 := ⟨_, rfl⟩
              have h_1924530 : rg x_1924529 1 5 := rg_of_eq ex_1924529 (rg_add h_1924525 (rg_k (Int32.ofInt 1) 1 rfl) (by decide))
              have uh_1924530 := h_1924530.1
              have vh_1924530 := h_1924530.2
              have tx_1924529 : (x_1924529).toInt = (x_1603590).toInt + 1 := by rw [ex_1924529]; exact i_add_rg (a2 := (x_1603590).toInt) (b2 := 1) rfl rfl h_1924525 (rg_k (Int32.ofInt 1) 1 rfl) (by decide)
              refine lv_iinc (v := x_1924529) (lv' := [(5, .int x_1924529), (0, .ref this), (1, .int a0), (2, .int a1), (3, .int a2), (4, .int x_1282863)]) hx hb dX12_order_63 hl (k := 5) rfl ex_1924529.symm (by decide) rfl (fun ls hl => ?_)
              refine lv_goto (tgt := 48) hx hb dX12_order_66 (by decide) ?_
              exact ih_1763921 x_1924529 r_1924526 _ _ _ (rg_w h_1924530 (by decide)) (by omega) (id_w hrel_1763929 er_1924526 (by omega) (by omega)) (row_s (ro_ne er_1924526 (tg_ne hT_this_kept hT_this_rings (by decide))) hrel_1763930) (row_s (ro_ne er_1924526 (tg_ne hT_this_a hT_this_rings (by decide))) hrel_1763931) (ms_up 1 hm_1763918 ex_1924529 rfl (by decide) h_1924525 (by decide) (by decide)) hG hP hD hS (lv_sub hl [1, 2, 3, 4, 5, 0] rfl)
        exact L_1763920 _ (0 : Int32) ri_1282855 _ _ _ (rg_w (rg_k (0 : Int32) 0 rfl) (by decide)) (by have k0 : (0 : Int32).toInt = 0 := rfl; omega) (fun j hj => by have k0 : (0 : Int32).toInt = 0 := rfl; omega) (row_c hp_1282859 (fun _ _ => rfl)) (row_s (hp_1282860 this_a (tg_ne hT_this_a hT_this_kept (by decide))) (fun _ _ => rfl)) (Nat.lt_succ_self _) hG hP hD hS (lv_sub hl [2, 3, 4, 5, 1, 0] rfl)
      refine lv_icmp_eq (tgt := 26) hx hb dX12_order_13 (by decide) (fun c_1924531 => ?_) (fun c_1924531 => ?_)
      · have tc_1924532 : (a2).toInt = (-1) := congrArg Int32.toInt c_1924531
        have h_1924533 : rg a2 (-1) (-1) := rg_and (rg_full _) (rg_of_eq c_1924531 (rg_k (-1 : Int32) (-1) rfl)) (by decide)
        have uh_1924533 := h_1924533.1
        have vh_1924533 := h_1924533.2
        exact K_1282850 _ _ _ (rg_w h_1924533 (by decide)) hG hP hD hS (lv_sub hl [0, 1, 2, 3] rfl)
      · have tc_1924534 : (a2).toInt ≠ (-1) := fun q => c_1924531 (Int32.toInt_inj.mp q)
        refine lv_aload_n hx hb dX12_order_16 rfl (lv_at hl 0 rfl) ?_
        refine lv_iload_n hx hb dX12_order_17 rfl (lv_at hl 3 rfl) ?_
        refine pk_i (va_runV (As := [.int a2]) (rest := []) ⟨hx, hb, hml, hown, hts⟩ (s_X12_isRing_w l D t σ I J ri rj rq H.size tg hSH hG.1 this a2 hL_this hK_this this_a hR_this_a hL_this_a hK_this_a hN_this_a hT_this_a) (cwV 1 hts (tw_V tw_231 tw_232 tw_233 tw_5 tw_234) rfl rfl rfl cv_yX12_isRing_1 ⟨Nat.le_of_ble_eq_true rfl, Nat.le_of_ble_eq_true rfl⟩) ⟨pq_blind, pq_recv hK hP hL_this hK_this (by decide) rfl, pq_pre hK hN hP hD⟩ rfl rfl hl.1 rfl (lv_room (Nat.le_of_ble_eq_true rfl)) dX12_order_18 ⟨Nat.le_of_ble_eq_true rfl, Nat.le_of_ble_eq_true rfl⟩) hD hS hA (fun x_1924535 σ1 μ1 H locs hw_1924536 hP hD hS => ?_)
        obtain ⟨hu_1924537, hr_1924539⟩ := hw_1924536
        obtain ⟨hu_1924537a, hu_1924537b⟩ := Prod.mk.inj hu_1924537
        rw [hu_1924537a, hu_1924537b] at hP hD
        have h_1924540 : rg x_1924535 0 1 := by rcases hr_1924539 with ⟨q, -⟩ | ⟨q, -⟩ <;> rw [q] <;> exact ⟨by decide, by decide⟩
        have uh_1924540 := h_1924540.1
        have vh_1924540 := h_1924540.2
        refine lv_if_ne (tgt := 26) hx hb dX12_order_21 (by decide) (fun c_1924541 => ?_) (fun c_1924541 => ?_)
        · obtain ⟨f_1924542, f_1924543⟩ := (hr_1924539.resolve_right (fun q => c_1924541 q.1)).2
          have uf_1924542 := f_1924542.1
          have vf_1924542 := f_1924542.2
          have tc_1924544 : (x_1924535).toInt ≠ 0 := fun q => c_1924541 (Int32.toInt_inj.mp q)
          have h_1924545 : rg x_1924535 1 1 := rg_ne c_1924541 h_1924540 0 rfl (by decide)
          have uh_1924545 := h_1924545.1
          have vh_1924545 := h_1924545.2
          exact K_1282850 _ _ _ (rg_w f_1924542 (by decide)) hG hP hD hS (lv_sub hl [0, 1, 2, 3] rfl)
        · have f_1924546 := (hr_1924539.resolve_left (fun q => absurd (q.1.symm.trans c_1924541) (by decide))).2
          have tc_1924547 : (x_1924535).toInt = 0 := congrArg Int32.toInt c_1924541
          have h_1924548 : rg x_1924535 0 0 := rg_and h_1924540 (rg_of_eq c_1924541 (rg_k (0 : Int32) 0 rfl)) (by decide)
          have uh_1924548 := h_1924548.1
          have vh_1924548 := h_1924548.2
          exact K_641428 _ _ _ hG hP hD hS (lv_sub hl [] rfl)
  exact go _ _ _ hP hD hS hl

set_option maxHeartbeats 4000000 in
set_option maxRecDepth 100000 in
theorem s_X12_image_w (l : Launch) (D : va_G) (t : pq_T) (σ : pq_S) (I : Nat → Nat → Int32) (J : Nat → Nat → Int64) (ri : Nat → Nat → Int32) (rj : Nat → Nat → Int64) (rq : Nat → Nat → Option Nat) (sz : Nat) (tg : Nat → Nat) (hSH : SH σ tg) (hG0 : GT tg I ri) (this : Nat) (hL_this : this ∈ σ.1) (hK_this : σ.2.1 this = 12) (this_a : Nat) (hR_this_a : σ.2.2.1 384 this = some this_a) (hL_this_a : this_a ∈ σ.1) (hK_this_a : σ.2.1 this_a = 13) (hN_this_a : σ.2.2.2 this_a = 12720) (hT_this_a : tg this_a = 384) (this_image : Nat) (hR_this_image : σ.2.2.1 385 this = some this_image) (hL_this_image : this_image ∈ σ.1) (hK_this_image : σ.2.1 this_image = 13) (hN_this_image : σ.2.2.2 this_image = 12720) (hT_this_image : tg this_image = 385) : MetI l yX12_image (wa yX12_image cX12_image 1 (some .int)) ({ frames := 1, cells := 0, slots := 0, locals := 22 }) [.ref this] D t σ (I, J, ri, rj, rq) sz 0 0 (fun (r : Int32) (u : pq_S × pq_M) => ∃ ri' : Nat → Nat → Int32, u = (σ, I, J, ri', rj, rq) ∧ GM [2000] tg σ I ri I ri' rq ∧ (∀ j, zn j ∈ ztl → ri' this_image j = ri this_a j) ∧ (ri' this_a = ri this_a) ∧ (r = ri this_a 0) ∧ rg r 0 600) := by
  refine Met.ofW (cc := cX12_image) (maxL := 1) (ret := (some .int)) (by decide) rfl ?_
  intro p e s m args below meth c s₁ B hml hv
  obtain ⟨rfl, hsz, hP, hK, hD0, hN⟩ := hv
  have hx := B.exec
  have hb := B.bytes
  have hr := B.returns
  have hts := atoms_spec (ws := (wa yX12_image cX12_image 1 (some .int))) B.pre
  have hown : s.vm.findClass RX12 = some m.cls := findClass_of_methodNamed B.named
  have hlocks := B.notSynchronized
  subst hsz
  have hD : va_D (pq_B t σ (I, J, ri, rj, rq) s.heap.size) (pq_P t σ (I, J, ri, rj, rq)) := hD0.self
  generalize hAe : pq_B t σ (I, J, ri, rj, rq) s.heap.size = A at hD ⊢
  have hA : ∀ q : Nat, s.heap.size ≤ q → A q := fun q h => by rw [← hAe]; exact Or.inr h
  have hS : va_S A s.heap s.heap [] := va_S.rf
  have hG : GM [2000] tg σ I ri I ri rq := ⟨hG0, fun _ _ _ => rfl, fun _ _ _ _ _ => rfl, fun _ _ _ _ _ _ => rfl⟩
  have hl := lv_entry ([.ref this]) (n := 1) (Nat.le_of_ble_eq_true rfl)
  rw [lg_entry_eq]
  generalize (lg_sl ([.ref this]) ++ List.replicate (1 - (lg_sl ([.ref this])).length) Slot.unset).toArray = ls at hl ⊢
  have hl : lv_has ls 1 [(0, .ref this)] := hl
  refine q_gen (fun Q hQ => ?_)
  have go : ∀ (H : Heap) (locs : List Loc) (ls : Array Slot), va_P D vwCl (pq_P t σ (I, J, ri, rj, rq)) H → va_D A (pq_P t σ (I, J, ri, rj, rq)) → va_S A s.heap H locs → lv_has ls 1 [(0, .ref this)] → W p l e ({ frames := 1, cells := 0, slots := 0, locals := 22 } : Room) s m (List.toArray ([.ref this] : List Value)) below meth c H locs 0 0 Q (F0 m 0 ls []) := by
    intro H locs ls hP hD hS hl
    refine lv_aload_n hx hb dX12_image_0 rfl (lv_at hl 0 rfl) ?_
    refine pg_f (v := .ref this_a) (C := RX12) (T := TX12) (N := 31) hx hb hts (tw_i inlX12) hown hK hP hL_this hK_this (by decide) rfl 0 (by decide) (hts _ (tw_c tw_176)) (pq_hv rfl hR_this_a) dX12_image_1 ?_
    refine lv_aload_n hx hb dX12_image_4 rfl (lv_at hl 0 rfl) ?_
    refine pg_f (v := .ref this_image) (C := RX12) (T := TX12) (N := 31) hx hb hts (tw_i inlX12) hown hK hP hL_this hK_this (by decide) rfl 1 (by decide) (hts _ (tw_c tw_177)) (pq_hv rfl hR_this_image) dX12_image_5 ?_
    refine pk_v (va_runS (As := [.ref this_a, .ref this_image]) (rest := []) ⟨hx, hb, hml, hown, hts⟩ (c_X12_copy l D t σ I J ri rj rq H.size this_a this_image 12720 hL_this_a hK_this_a hN_this_a hL_this_image hK_this_image hN_this_image rfl (tg_ne hT_this_a hT_this_image (by decide))) (va_cwS 2 hts (tw_S tw_192 tw_193 tw_5 tw_194) rfl rfl rfl cd_yX12_copy_2 ⟨Nat.le_of_ble_eq_true rfl, Nat.le_of_ble_eq_true rfl⟩) ⟨pq_blind, pq_pre hK hN hP hD⟩ rfl rfl hl.1 rfl (lv_room (Nat.le_of_ble_eq_true rfl)) dX12_image_8 ⟨Nat.le_of_ble_eq_true rfl, Nat.le_of_ble_eq_true rfl⟩) hD hS hA (fun σ1 μ1 H locs hw_2 hP hD hS => ?_)
    obtain ⟨ri_3, hu_4, hp_7, hp_8⟩ := hw_2
    obtain ⟨hu_4a, hu_4b⟩ := Prod.mk.inj hu_4
    rw [hu_4a, hu_4b] at hP hD
    have tt_9 : (ri_3 this_image 0).toInt = (ri this_a 0).toInt := congrArg Int32.toInt (hp_7 0 (by decide))
    have tt_10 : (ri_3 this_a 0).toInt = (ri this_a 0).toInt := congrArg Int32.toInt (congrFun (hp_8 this_a (tg_ne hT_this_a hT_this_image (by decide))) 0)
    have hG := GM.cp hG hT_this_a hT_this_image (by decide) hp_7 hp_8 (by decide)
    refine lv_aload_n hx hb dX12_image_11 rfl (lv_at hl 0 rfl) ?_
    refine pg_f (v := .ref this_a) (C := RX12) (T := TX12) (N := 31) hx hb hts (tw_i inlX12) hown hK hP hL_this hK_this (by decide) rfl 0 (by decide) (hts _ (tw_c tw_176)) (pq_hv rfl hR_this_a) dX12_image_12 ?_
    refine lv_iconst (v := 0) hx hb dX12_image_15 (by decide) ?_
    refine pl_i hx hb hK hP hL_this_a hK_this_a hN_this_a (vp_in_iff.mpr (by decide)) dX12_image_16 ?_
    refine lv_tov (ri this_a 0) (hG.2.2.1 this_a hT_this_a 0 (by decide) (by decide)) ?_
    have h_11 : rg (ri this_a 0) 0 600 := GM.z0 hG0 (by rw [hT_this_a]; decide) (i := 0) (k := 0) (by decide) rfl
    have uh_11 := h_11.1
    have vh_11 := h_11.2
    subst hQ
    exact W.iret (v := (ri this_a 0)) hx hb hr (fun t1 ht hW => ⟨⟨(ri this_a 0), (σ, I, J, ri_3, rj, rq), rfl, ⟨ri_3, rfl, hG, (fun j hj => hp_7 j (zl_lt hj)), (hp_8 this_a (tg_ne hT_this_a hT_this_image (by decide))), rfl, (rg_w h_11 (by decide))⟩, by rw [ht]; exact hP, va_K.moved hW.alike hK, hD⟩, hS.F ht⟩) hS.2.2 dX12_image_17
  exact go _ _ _ hP hD hS hl

set_option maxHeartbeats 4000000 in
set_option maxRecDepth 100000 in
theorem s_X12_back_w (l : Launch) (D : va_G) (t : pq_T) (σ : pq_S) (I : Nat → Nat → Int32) (J : Nat → Nat → Int64) (ri : Nat → Nat → Int32) (rj : Nat → Nat → Int64) (rq : Nat → Nat → Option Nat) (sz : Nat) (tg : Nat → Nat) (hSH : SH σ tg) (hG0 : GT tg I ri) (this : Nat) (hL_this : this ∈ σ.1) (hK_this : σ.2.1 this = 12) (this_a : Nat) (hR_this_a : σ.2.2.1 384 this = some this_a) (hL_this_a : this_a ∈ σ.1) (hK_this_a : σ.2.1 this_a = 13) (hN_this_a : σ.2.2.2 this_a = 12720) (hT_this_a : tg this_a = 384) (this_image : Nat) (hR_this_image : σ.2.2.1 385 this = some this_image) (hL_this_image : this_image ∈ σ.1) (hK_this_image : σ.2.1 this_image = 13) (hN_this_image : σ.2.2.2 this_image = 12720) (hT_this_image : tg this_image = 385) : MetI l yX12_back (wa yX12_back cX12_back 1 (some .int)) ({ frames := 1, cells := 0, slots := 0, locals := 22 }) [.ref this] D t σ (I, J, ri, rj, rq) sz 0 0 (fun (r : Int32) (u : pq_S × pq_M) => ∃ ri' : Nat → Nat → Int32, u = (σ, I, J, ri', rj, rq) ∧ GM [1000, 1001, 1002, 1003, 1004, 1005, 1006, 1007, 1010, 1013, 1014, 1015, 1500, 1501, 1502, 1503, 1504, 1100, 1101, 1102, 1103, 1104, 1300, 1301, 1304, 1305, 1306, 1308, 1403, 1700, 1701, 1702] tg σ I ri I ri' rq ∧ (∀ j, zn j ∈ ztl → ri' this_a j = ri this_image j) ∧ (ri' this_image = ri this_image) ∧ (r = ri this_image 0) ∧ rg r 0 600) := by
  refine Met.ofW (cc := cX12_back) (maxL := 1) (ret := (some .int)) (by decide) rfl ?_
  intro p e s m args below meth c s₁ B hml hv
  obtain ⟨rfl, hsz, hP, hK, hD0, hN⟩ := hv
  have hx := B.exec
  have hb := B.bytes
  have hr := B.returns
  have hts := atoms_spec (ws := (wa yX12_back cX12_back 1 (some .int))) B.pre
  have hown : s.vm.findClass RX12 = some m.cls := findClass_of_methodNamed B.named
  have hlocks := B.notSynchronized
  subst hsz
  have hD : va_D (pq_B t σ (I, J, ri, rj, rq) s.heap.size) (pq_P t σ (I, J, ri, rj, rq)) := hD0.self
  generalize hAe : pq_B t σ (I, J, ri, rj, rq) s.heap.size = A at hD ⊢
  have hA : ∀ q : Nat, s.heap.size ≤ q → A q := fun q h => by rw [← hAe]; exact Or.inr h
  have hS : va_S A s.heap s.heap [] := va_S.rf
  have hG : GM [1000, 1001, 1002, 1003, 1004, 1005, 1006, 1007, 1010, 1013, 1014, 1015, 1500, 1501, 1502, 1503, 1504, 1100, 1101, 1102, 1103, 1104, 1300, 1301, 1304, 1305, 1306, 1308, 1403, 1700, 1701, 1702] tg σ I ri I ri rq := ⟨hG0, fun _ _ _ => rfl, fun _ _ _ _ _ => rfl, fun _ _ _ _ _ _ => rfl⟩
  have hl := lv_entry ([.ref this]) (n := 1) (Nat.le_of_ble_eq_true rfl)
  rw [lg_entry_eq]
  generalize (lg_sl ([.ref this]) ++ List.replicate (1 - (lg_sl ([.ref this])).length) Slot.unset).toArray = ls at hl ⊢
  have hl : lv_has ls 1 [(0, .ref this)] := hl
  refine q_gen (fun Q hQ => ?_)
  have go : ∀ (H : Heap) (locs : List Loc) (ls : Array Slot), va_P D vwCl (pq_P t σ (I, J, ri, rj, rq)) H → va_D A (pq_P t σ (I, J, ri, rj, rq)) → va_S A s.heap H locs → lv_has ls 1 [(0, .ref this)] → W p l e ({ frames := 1, cells := 0, slots := 0, locals := 22 } : Room) s m (List.toArray ([.ref this] : List Value)) below meth c H locs 0 0 Q (F0 m 0 ls []) := by
    intro H locs ls hP hD hS hl
    refine lv_aload_n hx hb dX12_back_0 rfl (lv_at hl 0 rfl) ?_
    refine pg_f (v := .ref this_image) (C := RX12) (T := TX12) (N := 31) hx hb hts (tw_i inlX12) hown hK hP hL_this hK_this (by decide) rfl 1 (by decide) (hts _ (tw_c tw_177)) (pq_hv rfl hR_this_image) dX12_back_1 ?_
    refine lv_aload_n hx hb dX12_back_4 rfl (lv_at hl 0 rfl) ?_
    refine pg_f (v := .ref this_a) (C := RX12) (T := TX12) (N := 31) hx hb hts (tw_i inlX12) hown hK hP hL_this hK_this (by decide) rfl 0 (by decide) (hts _ (tw_c tw_176)) (pq_hv rfl hR_this_a) dX12_back_5 ?_
    refine pk_v (va_runS (As := [.ref this_image, .ref this_a]) (rest := []) ⟨hx, hb, hml, hown, hts⟩ (c_X12_copy l D t σ I J ri rj rq H.size this_image this_a 12720 hL_this_image hK_this_image hN_this_image hL_this_a hK_this_a hN_this_a rfl (tg_ne hT_this_image hT_this_a (by decide))) (va_cwS 2 hts (tw_S tw_192 tw_193 tw_5 tw_194) rfl rfl rfl cd_yX12_copy_2 ⟨Nat.le_of_ble_eq_true rfl, Nat.le_of_ble_eq_true rfl⟩) ⟨pq_blind, pq_pre hK hN hP hD⟩ rfl rfl hl.1 rfl (lv_room (Nat.le_of_ble_eq_true rfl)) dX12_back_8 ⟨Nat.le_of_ble_eq_true rfl, Nat.le_of_ble_eq_true rfl⟩) hD hS hA (fun σ1 μ1 H locs hw_2 hP hD hS => ?_)
    obtain ⟨ri_3, hu_4, hp_7, hp_8⟩ := hw_2
    obtain ⟨hu_4a, hu_4b⟩ := Prod.mk.inj hu_4
    rw [hu_4a, hu_4b] at hP hD
    have tt_9 : (ri_3 this_a 0).toInt = (ri this_image 0).toInt := congrArg Int32.toInt (hp_7 0 (by decide))
    have hG := GM.cp hG hT_this_image hT_this_a (by decide) hp_7 hp_8 (by decide)
    refine lv_aload_n hx hb dX12_back_11 rfl (lv_at hl 0 rfl) ?_
    refine pg_f (v := .ref this_a) (C := RX12) (T := TX12) (N := 31) hx hb hts (tw_i inlX12) hown hK hP hL_this hK_this (by decide) rfl 0 (by decide) (hts _ (tw_c tw_176)) (pq_hv rfl hR_this_a) dX12_back_12 ?_
    refine lv_iconst (v := 0) hx hb dX12_back_15 (by decide) ?_
    refine pl_i hx hb hK hP hL_this_a hK_this_a hN_this_a (vp_in_iff.mpr (by decide)) dX12_back_16 ?_
    refine lv_topi (fun x_10 ex_10 => ?_)
    have ex_10 : x_10 = ri_3 this_a ((0 : Int32)).toNatClampNeg := ex_10
    have h_11 : rg x_10 0 600 := rg_of_eq ex_10 (GM.z hG (by rw [hT_this_a]; decide) (show zn ((0 : Int32)).toNatClampNeg = 0 from by decide) rfl)
    have uh_11 := h_11.1
    have vh_11 := h_11.2
    have tt_12 : (ri_3 this_a 0).toInt = (x_10).toInt := congrArg Int32.toInt (show ri_3 this_a 0 = x_10 from ex_10.symm)
    subst hQ
    exact W.iret (v := x_10) hx hb hr (fun t1 ht hW => ⟨⟨x_10, (σ, I, J, ri_3, rj, rq), rfl, ⟨ri_3, rfl, hG, (fun j hj => hp_7 j (zl_lt hj)), (hp_8 this_image (tg_ne hT_this_image hT_this_a (by decide))), ((show x_10 = ri_3 this_a 0 from ex_10).trans (hp_7 0 (by decide))), (rg_w h_11 (by decide))⟩, by rw [ht]; exact hP, va_K.moved hW.alike hK, hD⟩, hS.F ht⟩) hS.2.2 dX12_back_17
  exact go _ _ _ hP hD hS hl

set_option maxHeartbeats 4000000 in
set_option maxRecDepth 100000 in
theorem s_X12_well_w (l : Launch) (D : va_G) (t : pq_T) (σ : pq_S) (I : Nat → Nat → Int32) (J : Nat → Nat → Int64) (ri : Nat → Nat → Int32) (rj : Nat → Nat → Int64) (rq : Nat → Nat → Option Nat) (sz : Nat) (tg : Nat → Nat) (hSH : SH σ tg) (hG0 : GT tg I ri) (this : Nat) (a0 : Int32) (a1 : Int32) (a2 : Int32) (a3 : Int32) (hL_this : this ∈ σ.1) (hK_this : σ.2.1 this = 12) (this_a : Nat) (hR_this_a : σ.2.2.1 384 this = some this_a) (hL_this_a : this_a ∈ σ.1) (hK_this_a : σ.2.1 this_a = 13) (hN_this_a : σ.2.2.2 this_a = 12720) (hT_this_a : tg this_a = 384) : MetI l yX12_well (wa yX12_well cX12_well 6 (some .boolean)) ({ frames := 2, cells := 0, slots := 0, locals := 43 }) [.ref this, .int a0, .int a1, .int a2, .int a3] D t σ (I, J, ri, rj, rq) sz 0 0 (fun (r : Int32) (u : pq_S × pq_M) => ∃ ri' : Nat → Nat → Int32, u = (σ, I, J, ri', rj, rq) ∧ GM [1308] tg σ I ri I ri' rq ∧ ((r = 1 ∧ ∀ c, c < 40 → ri' this_a (108 + 16 * c) = if c = (a0).toNatClampNeg then a1 else ri this_a (108 + 16 * c)) ∨ (r = 0 ∧ ∀ c, c < 40 → ri' this_a (108 + 16 * c) = ri this_a (108 + 16 * c))) ∧ ((r = 1 ∧ rg a0 0 39 ∧ rg a1 1 20 ∧ rg a2 0 10000 ∧ rg a3 0 100 ∧ ((0 ≤ a0.toInt ∧ a0.toInt < (ri this_a 2).toInt) ∧ (1 ≤ a1.toInt ∧ a1.toInt ≤ 20) ∧ (0 ≤ a2.toInt ∧ a2.toInt ≤ 10000) ∧ (0 ≤ a3.toInt ∧ a3.toInt ≤ 100) ∧ (ri this_a (108 + 16 * a0.toNatClampNeg)).toInt ≤ 0)) ∨ (r = 0 ∧ (¬ ((0 ≤ a0.toInt ∧ a0.toInt < (ri this_a 2).toInt) ∧ (1 ≤ a1.toInt ∧ a1.toInt ≤ 20) ∧ (0 ≤ a2.toInt ∧ a2.toInt ≤ 10000) ∧ (0 ≤ a3.toInt ∧ a3.toInt ≤ 100) ∧ (ri this_a (108 + 16 * a0.toNatClampNeg)).toInt ≤ 0))))) := by
  refine Met.ofW (cc := cX12_well) (maxL := 6) (ret := (some .boolean)) (by decide) rfl ?_
  intro p e s m args below meth c s₁ B hml hv
  obtain ⟨rfl, hsz, hP, hK, hD0, hN⟩ := hv
  have hx := B.exec
  have hb := B.bytes
  have hr := B.returns
  have hts := atoms_spec (ws := (wa yX12_well cX12_well 6 (some .boolean))) B.pre
  have hown : s.vm.findClass RX12 = some m.cls := findClass_of_methodNamed B.named
  have hlocks := B.notSynchronized
  subst hsz
  have hD : va_D (pq_B t σ (I, J, ri, rj, rq) s.heap.size) (pq_P t σ (I, J, ri, rj, rq)) := hD0.self
  generalize hAe : pq_B t σ (I, J, ri, rj, rq) s.heap.size = A at hD ⊢
  have hA : ∀ q : Nat, s.heap.size ≤ q → A q := fun q h => by rw [← hAe]; exact Or.inr h
  have hS : va_S A s.heap s.heap [] := va_S.rf
  have hG : GM [1308] tg σ I ri I ri rq := ⟨hG0, fun _ _ _ => rfl, fun _ _ _ _ _ => rfl, fun _ _ _ _ _ _ => rfl⟩
  have hl := lv_entry ([.ref this, .int a0, .int a1, .int a2, .int a3]) (n := 6) (Nat.le_of_ble_eq_true rfl)
  rw [lg_entry_eq]
  generalize (lg_sl ([.ref this, .int a0, .int a1, .int a2, .int a3]) ++ List.replicate (6 - (lg_sl ([.ref this, .int a0, .int a1, .int a2, .int a3])).length) Slot.unset).toArray = ls at hl ⊢
  have hl : lv_has ls 6 [(0, .ref this), (1, .int a0), (2, .int a1), (3, .int a2), (4, .int a3)] := hl
  refine q_gen (fun Q hQ => ?_)
  have go : ∀ (H : Heap) (locs : List Loc) (ls : Array Slot), va_P D vwCl (pq_P t σ (I, J, ri, rj, rq)) H → va_D A (pq_P t σ (I, J, ri, rj, rq)) → va_S A s.heap H locs → lv_has ls 6 [(0, .ref this), (1, .int a0), (2, .int a1), (3, .int a2), (4, .int a3)] → W p l e ({ frames := 2, cells := 0, slots := 0, locals := 43 } : Room) s m (List.toArray ([.ref this, .int a0, .int a1, .int a2, .int a3] : List Value)) below meth c H locs 0 0 Q (F0 m 0 ls []) := by
    intro H locs ls hP hD hS hl
    refine lv_aload_n hx hb dX12_well_0 rfl (lv_at hl 0 rfl) ?_
    refine lv_iload_n hx hb dX12_well_1 rfl (lv_at hl 1 rfl) ?_
    refine pk_i (va_runV (As := [.int a0]) (rest := []) ⟨hx, hb, hml, hown, hts⟩ (s_X12_isCell_w l D t σ I J ri rj rq H.size tg hSH hG.1 this a0 hL_this hK_this this_a hR_this_a hL_this_a hK_this_a hN_this_a hT_this_a) (cwV 1 hts (tw_V tw_340 tw_341 tw_342 tw_5 tw_343) rfl rfl rfl cv_yX12_isCell_1 ⟨Nat.le_of_ble_eq_true rfl, Nat.le_of_ble_eq_true rfl⟩) ⟨pq_blind, pq_recv hK hP hL_this hK_this (by decide) rfl, pq_pre hK hN hP hD⟩ rfl rfl hl.1 rfl (lv_room (Nat.le_of_ble_eq_true rfl)) dX12_well_2 ⟨Nat.le_of_ble_eq_true rfl, Nat.le_of_ble_eq_true rfl⟩) hD hS hA (fun x_1 σ1 μ1 H locs hw_2 hP hD hS => ?_)
    obtain ⟨hu_3, hr_5⟩ := hw_2
    obtain ⟨hu_3a, hu_3b⟩ := Prod.mk.inj hu_3
    rw [hu_3a, hu_3b] at hP hD
    have h_6 : rg x_1 0 1 := by rcases hr_5 with ⟨q, -⟩ | ⟨q, -⟩ <;> rw [q] <;> exact ⟨by decide, by decide⟩
    have uh_6 := h_6.1
    have vh_6 := h_6.2
    refine lv_if_eq (tgt := 50) hx hb dX12_well_5 (by decide) (fun c_7 => ?_) (fun c_7 => ?_)
    · have f_8 := (hr_5.resolve_left (fun q => absurd (q.1.symm.trans c_7) (by decide))).2
      have tc_9 : (x_1).toInt = 0 := congrArg Int32.toInt c_7
      have h_10 : rg x_1 0 0 := rg_and h_6 (rg_of_eq c_7 (rg_k (0 : Int32) 0 rfl)) (by decide)
      have uh_10 := h_10.1
      have vh_10 := h_10.2
      refine lv_iconst (v := 0) hx hb dX12_well_50 (by decide) ?_
      subst hQ
      exact W.zret (v := 0) hx hb hr (by decide) (fun t1 ht hW => ⟨⟨0, (σ, I, J, ri, rj, rq), rfl, ⟨ri, rfl, hG, (Or.inr ⟨rfl, (fun _ _ => rfl)⟩), (Or.inr ⟨rfl, (by omega)⟩)⟩, by rw [ht]; exact hP, va_K.moved hW.alike hK, hD⟩, hS.F ht⟩) hS.2.2 dX12_well_51
    · obtain ⟨f_11, f_12⟩ := (hr_5.resolve_right (fun q => c_7 q.1)).2
      have uf_11 := f_11.1
      have vf_11 := f_11.2
      have tc_13 : (x_1).toInt ≠ 0 := fun q => c_7 (Int32.toInt_inj.mp q)
      have h_14 : rg x_1 1 1 := rg_ne c_7 h_6 0 rfl (by decide)
      have uh_14 := h_14.1
      have vh_14 := h_14.2
      refine lv_iload_n hx hb dX12_well_8 rfl (lv_at hl 2 rfl) ?_
      refine lv_iconst (v := 1) hx hb dX12_well_9 (by decide) ?_
      refine lv_bipush (v := 20) hx hb dX12_well_10 (by decide) ?_
      refine pk_i (va_runS (As := [.int a1, .int 1, .int 20]) (rest := []) ⟨hx, hb, hml, hown, hts⟩ (s_X12_isIn_v l D t σ I J ri rj rq H.size tg hSH hG.1 a1 (1 : Int32) (20 : Int32)) (va_cwS 3 hts (tw_S tw_235 tw_236 tw_5 tw_237) rfl rfl rfl cd_yX12_isIn_3 ⟨Nat.le_of_ble_eq_true rfl, Nat.le_of_ble_eq_true rfl⟩) ⟨pq_blind, pq_pre hK hN hP hD⟩ rfl rfl hl.1 rfl (lv_room (Nat.le_of_ble_eq_true rfl)) dX12_well_12 ⟨Nat.le_of_ble_eq_true rfl, Nat.le_of_ble_eq_true rfl⟩) hD hS hA (fun x_15 σ1 μ1 H locs hw_16 hP hD hS => ?_)
      obtain ⟨hu_17, hr_19⟩ := hw_16
      obtain ⟨hu_17a, hu_17b⟩ := Prod.mk.inj hu_17
      rw [hu_17a, hu_17b] at hP hD
      have h_20 : rg x_15 0 1 := by rcases hr_19 with ⟨q, -⟩ | ⟨q, -⟩ <;> rw [q] <;> exact ⟨by decide, by decide⟩
      have uh_20 := h_20.1
      have vh_20 := h_20.2
      refine lv_if_eq (tgt := 50) hx hb dX12_well_15 (by decide) (fun c_21 => ?_) (fun c_21 => ?_)
      · have f_22 := (hr_19.resolve_left (fun q => absurd (q.1.symm.trans c_21) (by decide))).2
        have zk_23 : (1 : Int32).toInt = 1 := rfl
        have zk_24 : (20 : Int32).toInt = 20 := rfl
        have tc_25 : (x_15).toInt = 0 := congrArg Int32.toInt c_21
        have h_26 : rg x_15 0 0 := rg_and h_20 (rg_of_eq c_21 (rg_k (0 : Int32) 0 rfl)) (by decide)
        have uh_26 := h_26.1
        have vh_26 := h_26.2
        refine lv_iconst (v := 0) hx hb dX12_well_50 (by decide) ?_
        subst hQ
        exact W.zret (v := 0) hx hb hr (by decide) (fun t1 ht hW => ⟨⟨0, (σ, I, J, ri, rj, rq), rfl, ⟨ri, rfl, hG, (Or.inr ⟨rfl, (fun _ _ => rfl)⟩), (Or.inr ⟨rfl, (by omega)⟩)⟩, by rw [ht]; exact hP, va_K.moved hW.alike hK, hD⟩, hS.F ht⟩) hS.2.2 dX12_well_51
      · obtain ⟨f_27, f_28⟩ := (hr_19.resolve_right (fun q => c_21 q.1)).2
        have tc_29 : 1 ≤ (a1).toInt := Int32.le_iff_toInt_le.mp f_27
        have h_30 : rg a1 1 2147483647 := rg_le2 f_27 (rg_k (1 : Int32) 1 rfl) (rg_full _) (by decide)
        have uh_30 := h_30.1
        have vh_30 := h_30.2
        have tc_31 : (a1).toInt ≤ 20 := Int32.le_iff_toInt_le.mp f_28
        have h_32 : rg a1 1 20 := rg_le1 f_28 h_30 (rg_k (20 : Int32) 20 rfl) (by decide)
        have uh_32 := h_32.1
        have vh_32 := h_32.2
        have tc_33 : (x_15).toInt ≠ 0 := fun q => c_21 (Int32.toInt_inj.mp q)
        have h_34 : rg x_15 1 1 := rg_ne c_21 h_20 0 rfl (by decide)
        have uh_34 := h_34.1
        have vh_34 := h_34.2
        refine lv_iload_n hx hb dX12_well_18 rfl (lv_at hl 3 rfl) ?_
        refine lv_iconst (v := 0) hx hb dX12_well_19 (by decide) ?_
        refine lv_sipush (v := 10000) hx hb dX12_well_20 (by decide) ?_
        refine pk_i (va_runS (As := [.int a2, .int 0, .int 10000]) (rest := []) ⟨hx, hb, hml, hown, hts⟩ (s_X12_isIn_v l D t σ I J ri rj rq H.size tg hSH hG.1 a2 (0 : Int32) (10000 : Int32)) (va_cwS 3 hts (tw_S tw_235 tw_236 tw_5 tw_237) rfl rfl rfl cd_yX12_isIn_3 ⟨Nat.le_of_ble_eq_true rfl, Nat.le_of_ble_eq_true rfl⟩) ⟨pq_blind, pq_pre hK hN hP hD⟩ rfl rfl hl.1 rfl (lv_room (Nat.le_of_ble_eq_true rfl)) dX12_well_23 ⟨Nat.le_of_ble_eq_true rfl, Nat.le_of_ble_eq_true rfl⟩) hD hS hA (fun x_35 σ1 μ1 H locs hw_36 hP hD hS => ?_)
        obtain ⟨hu_37, hr_39⟩ := hw_36
        obtain ⟨hu_37a, hu_37b⟩ := Prod.mk.inj hu_37
        rw [hu_37a, hu_37b] at hP hD
        have h_40 : rg x_35 0 1 := by rcases hr_39 with ⟨q, -⟩ | ⟨q, -⟩ <;> rw [q] <;> exact ⟨by decide, by decide⟩
        have uh_40 := h_40.1
        have vh_40 := h_40.2
        refine lv_if_eq (tgt := 50) hx hb dX12_well_26 (by decide) (fun c_41 => ?_) (fun c_41 => ?_)
        · have f_42 := (hr_39.resolve_left (fun q => absurd (q.1.symm.trans c_41) (by decide))).2
          have zk_43 : (0 : Int32).toInt = 0 := rfl
          have zk_44 : (10000 : Int32).toInt = 10000 := rfl
          have tc_45 : (x_35).toInt = 0 := congrArg Int32.toInt c_41
          have h_46 : rg x_35 0 0 := rg_and h_40 (rg_of_eq c_41 (rg_k (0 : Int32) 0 rfl)) (by decide)
          have uh_46 := h_46.1
          have vh_46 := h_46.2
          refine lv_iconst (v := 0) hx hb dX12_well_50 (by decide) ?_
          subst hQ
          exact W.zret (v := 0) hx hb hr (by decide) (fun t1 ht hW => ⟨⟨0, (σ, I, J, ri, rj, rq), rfl, ⟨ri, rfl, hG, (Or.inr ⟨rfl, (fun _ _ => rfl)⟩), (Or.inr ⟨rfl, (by omega)⟩)⟩, by rw [ht]; exact hP, va_K.moved hW.alike hK, hD⟩, hS.F ht⟩) hS.2.2 dX12_well_51
        · obtain ⟨f_47, f_48⟩ := (hr_39.resolve_right (fun q => c_41 q.1)).2
          have tc_49 : 0 ≤ (a2).toInt := Int32.le_iff_toInt_le.mp f_47
          have h_50 : rg a2 0 2147483647 := rg_le2 f_47 (rg_k (0 : Int32) 0 rfl) (rg_full _) (by decide)
          have uh_50 := h_50.1
          have vh_50 := h_50.2
          have tc_51 : (a2).toInt ≤ 10000 := Int32.le_iff_toInt_le.mp f_48
          have h_52 : rg a2 0 10000 := rg_le1 f_48 h_50 (rg_k (10000 : Int32) 10000 rfl) (by decide)
          have uh_52 := h_52.1
          have vh_52 := h_52.2
          have tc_53 : (x_35).toInt ≠ 0 := fun q => c_41 (Int32.toInt_inj.mp q)
          have h_54 : rg x_35 1 1 := rg_ne c_41 h_40 0 rfl (by decide)
          have uh_54 := h_54.1
          have vh_54 := h_54.2
          refine lv_iload hx hb dX12_well_29 (lv_at hl 4 rfl) ?_
          refine lv_iconst (v := 0) hx hb dX12_well_31 (by decide) ?_
          refine lv_bipush (v := 100) hx hb dX12_well_32 (by decide) ?_
          refine pk_i (va_runS (As := [.int a3, .int 0, .int 100]) (rest := []) ⟨hx, hb, hml, hown, hts⟩ (s_X12_isIn_v l D t σ I J ri rj rq H.size tg hSH hG.1 a3 (0 : Int32) (100 : Int32)) (va_cwS 3 hts (tw_S tw_235 tw_236 tw_5 tw_237) rfl rfl rfl cd_yX12_isIn_3 ⟨Nat.le_of_ble_eq_true rfl, Nat.le_of_ble_eq_true rfl⟩) ⟨pq_blind, pq_pre hK hN hP hD⟩ rfl rfl hl.1 rfl (lv_room (Nat.le_of_ble_eq_true rfl)) dX12_well_34 ⟨Nat.le_of_ble_eq_true rfl, Nat.le_of_ble_eq_true rfl⟩) hD hS hA (fun x_55 σ1 μ1 H locs hw_56 hP hD hS => ?_)
          obtain ⟨hu_57, hr_59⟩ := hw_56
          obtain ⟨hu_57a, hu_57b⟩ := Prod.mk.inj hu_57
          rw [hu_57a, hu_57b] at hP hD
          have h_60 : rg x_55 0 1 := by rcases hr_59 with ⟨q, -⟩ | ⟨q, -⟩ <;> rw [q] <;> exact ⟨by decide, by decide⟩
          have uh_60 := h_60.1
          have vh_60 := h_60.2
          refine lv_if_eq (tgt := 50) hx hb dX12_well_37 (by decide) (fun c_61 => ?_) (fun c_61 => ?_)
          · have f_62 := (hr_59.resolve_left (fun q => absurd (q.1.symm.trans c_61) (by decide))).2
            have zk_63 : (0 : Int32).toInt = 0 := rfl
            have zk_64 : (100 : Int32).toInt = 100 := rfl
            have tc_65 : (x_55).toInt = 0 := congrArg Int32.toInt c_61
            have h_66 : rg x_55 0 0 := rg_and h_60 (rg_of_eq c_61 (rg_k (0 : Int32) 0 rfl)) (by decide)
            have uh_66 := h_66.1
            have vh_66 := h_66.2
            refine lv_iconst (v := 0) hx hb dX12_well_50 (by decide) ?_
            subst hQ
            exact W.zret (v := 0) hx hb hr (by decide) (fun t1 ht hW => ⟨⟨0, (σ, I, J, ri, rj, rq), rfl, ⟨ri, rfl, hG, (Or.inr ⟨rfl, (fun _ _ => rfl)⟩), (Or.inr ⟨rfl, (by omega)⟩)⟩, by rw [ht]; exact hP, va_K.moved hW.alike hK, hD⟩, hS.F ht⟩) hS.2.2 dX12_well_51
          · obtain ⟨f_67, f_68⟩ := (hr_59.resolve_right (fun q => c_61 q.1)).2
            have tc_69 : 0 ≤ (a3).toInt := Int32.le_iff_toInt_le.mp f_67
            have h_70 : rg a3 0 2147483647 := rg_le2 f_67 (rg_k (0 : Int32) 0 rfl) (rg_full _) (by decide)
            have uh_70 := h_70.1
            have vh_70 := h_70.2
            have tc_71 : (a3).toInt ≤ 100 := Int32.le_iff_toInt_le.mp f_68
            have h_72 : rg a3 0 100 := rg_le1 f_68 h_70 (rg_k (100 : Int32) 100 rfl) (by decide)
            have uh_72 := h_72.1
            have vh_72 := h_72.2
            have tc_73 : (x_55).toInt ≠ 0 := fun q => c_61 (Int32.toInt_inj.mp q)
            have h_74 : rg x_55 1 1 := rg_ne c_61 h_60 0 rfl (by decide)
            have uh_74 := h_74.1
            have vh_74 := h_74.2
            refine lv_aload_n hx hb dX12_well_40 rfl (lv_at hl 0 rfl) ?_
            refine lv_iload_n hx hb dX12_well_41 rfl (lv_at hl 1 rfl) ?_
            refine lv_bipush (v := 8) hx hb dX12_well_42 (by decide) ?_
            refine pk_i (va_runV (As := [.int a0, .int 8]) (rest := []) ⟨hx, hb, hml, hown, hts⟩ (s_X12_cellAt_w_c8 l D t σ I J ri rj rq H.size tg hSH hG.1 this a0 hL_this hK_this (rg_w f_11 (by decide)) this_a hR_this_a hL_this_a hK_this_a hN_this_a hT_this_a) (cwV 2 hts (tw_V tw_361 tw_362 tw_363 tw_5 tw_364) rfl rfl rfl cv_yX12_cellAt_2 ⟨Nat.le_of_ble_eq_true rfl, Nat.le_of_ble_eq_true rfl⟩) ⟨pq_blind, pq_recv hK hP hL_this hK_this (by decide) rfl, pq_pre hK hN hP hD⟩ rfl rfl hl.1 rfl (lv_room (Nat.le_of_ble_eq_true rfl)) dX12_well_44 ⟨Nat.le_of_ble_eq_true rfl, Nat.le_of_ble_eq_true rfl⟩) hD hS hA (fun x_75 σ1 μ1 H locs hw_76 hP hD hS => ?_)
            obtain ⟨hu_77, hp_80⟩ := hw_76
            obtain ⟨hu_77a, hu_77b⟩ := Prod.mk.inj hu_77
            rw [hu_77a, hu_77b] at hP hD
            have tt_81 := congrArg Int32.toInt hp_80
            refine lv_if_le (tgt := 52) hx hb dX12_well_47 (by decide) (fun c_82 => ?_) (fun c_82 => ?_)
            · have tc_83 : (x_75).toInt ≤ 0 := Int32.le_iff_toInt_le.mp c_82
              have h_84 : rg x_75 (-2147483648) 0 := rg_le1 c_82 (rg_full _) (rg_k (0 : Int32) 0 rfl) (by decide)
              have uh_84 := h_84.1
              have vh_84 := h_84.2
              refine lv_bipush (v := 100) hx hb dX12_well_52 (by decide) ?_
              refine lv_bipush (v := 16) hx hb dX12_well_54 (by decide) ?_
              refine lv_iload_n hx hb dX12_well_56 rfl (lv_at hl 1 rfl) ?_
              refine lv_imul hx hb dX12_well_57 ?_
              refine lv_topi (fun x_85 ex_85 => ?_)
              have h_86 : rg x_85 0 624 := rg_of_eq ex_85 (rg_mul (rg_k (16 : Int32) 16 rfl) f_11 (by decide))
              have uh_86 := h_86.1
              have vh_86 := h_86.2
              have tx_85 : (x_85).toInt = 16 * (a0).toInt := by rw [ex_85]; exact i_mul_rg (a2 := 16) (b2 := (a0).toInt) rfl rfl (rg_k (16 : Int32) 16 rfl) f_11 (by decide)
              refine lv_iadd hx hb dX12_well_58 ?_
              refine lv_topi (fun x_87 ex_87 => ?_)
              have h_88 : rg x_87 100 724 := rg_of_eq ex_87 (rg_add (rg_k (100 : Int32) 100 rfl) h_86 (by decide))
              have uh_88 := h_88.1
              have vh_88 := h_88.2
              have tx_87 : (x_87).toInt = 100 + (x_85).toInt := by rw [ex_87]; exact i_add_rg (a2 := 100) (b2 := (x_85).toInt) rfl rfl (rg_k (100 : Int32) 100 rfl) h_86 (by decide)
              refine lv_istore (lv' := [(5, .int x_87), (0, .ref this), (1, .int a0), (2, .int a1), (3, .int a2), (4, .int a3)]) hx hb dX12_well_59 hl (by decide) rfl (fun ls hl => ?_)
              refine lv_aload_n hx hb dX12_well_61 rfl (lv_at hl 1 rfl) ?_
              refine pg_f (v := .ref this_a) (C := RX12) (T := TX12) (N := 31) hx hb hts (tw_i inlX12) hown hK hP hL_this hK_this (by decide) rfl 0 (by decide) (hts _ (tw_c tw_176)) (pq_hv rfl hR_this_a) dX12_well_62 ?_
              refine lv_iload hx hb dX12_well_65 (lv_at hl 0 rfl) ?_
              refine lv_bipush (v := 8) hx hb dX12_well_67 (by decide) ?_
              refine lv_iadd hx hb dX12_well_69 ?_
              refine lv_topi (fun x_89 ex_89 => ?_)
              have h_90 : rg x_89 108 732 := rg_of_eq ex_89 (rg_add h_88 (rg_k (8 : Int32) 8 rfl) (by decide))
              have uh_90 := h_90.1
              have vh_90 := h_90.2
              have tx_89 : (x_89).toInt = (x_87).toInt + 8 := by rw [ex_89]; exact i_add_rg (a2 := (x_87).toInt) (b2 := 8) rfl rfl h_88 (rg_k (8 : Int32) 8 rfl) (by decide)
              refine lv_iload_n hx hb dX12_well_70 rfl (lv_at hl 3 rfl) ?_
              refine pt_i hx hb hK hP hD hS hL_this_a hK_this_a hN_this_a (rg_in h_90 (by decide)) dX12_well_71 (fun r_91 H locs er_91 hP hD hS => ?_)
              have hG := GM.wz hG hT_this_a (by decide) er_91 (zn_CELL (c := a0.toNatClampNeg) (k := 8) (by have z_i := clampE x_89; have z_0 := clampE a0; omega) (rg_cl1 f_11 (by decide)) (by decide)) rfl (rg_w h_32 (by decide)) (by decide)
              refine lv_aload_n hx hb dX12_well_72 rfl (lv_at hl 1 rfl) ?_
              refine pg_f (v := .ref this_a) (C := RX12) (T := TX12) (N := 31) hx hb hts (tw_i inlX12) hown hK hP hL_this hK_this (by decide) rfl 0 (by decide) (hts _ (tw_c tw_176)) (pq_hv rfl hR_this_a) dX12_well_73 ?_
              refine lv_iload hx hb dX12_well_76 (lv_at hl 0 rfl) ?_
              refine lv_bipush (v := 9) hx hb dX12_well_78 (by decide) ?_
              refine lv_iadd hx hb dX12_well_80 ?_
              refine lv_topi (fun x_92 ex_92 => ?_)
              have h_93 : rg x_92 109 733 := rg_of_eq ex_92 (rg_add h_88 (rg_k (9 : Int32) 9 rfl) (by decide))
              have uh_93 := h_93.1
              have vh_93 := h_93.2
              have tx_92 : (x_92).toInt = (x_87).toInt + 9 := by rw [ex_92]; exact i_add_rg (a2 := (x_87).toInt) (b2 := 9) rfl rfl h_88 (rg_k (9 : Int32) 9 rfl) (by decide)
              refine lv_iload_n hx hb dX12_well_81 rfl (lv_at hl 4 rfl) ?_
              refine pt_i hx hb hK hP hD hS hL_this_a hK_this_a hN_this_a (rg_in h_93 (by decide)) dX12_well_82 (fun r_94 H locs er_94 hP hD hS => ?_)
              have hG := GM.wz hG hT_this_a (by decide) er_94 (zn_CELL (c := a0.toNatClampNeg) (k := 9) (by have z_i := clampE x_92; have z_0 := clampE a0; omega) (rg_cl1 f_11 (by decide)) (by decide)) rfl (rg_w h_52 (by decide)) (by decide)
              refine lv_aload_n hx hb dX12_well_83 rfl (lv_at hl 1 rfl) ?_
              refine pg_f (v := .ref this_a) (C := RX12) (T := TX12) (N := 31) hx hb hts (tw_i inlX12) hown hK hP hL_this hK_this (by decide) rfl 0 (by decide) (hts _ (tw_c tw_176)) (pq_hv rfl hR_this_a) dX12_well_84 ?_
              refine lv_iload hx hb dX12_well_87 (lv_at hl 0 rfl) ?_
              refine lv_bipush (v := 10) hx hb dX12_well_89 (by decide) ?_
              refine lv_iadd hx hb dX12_well_91 ?_
              refine lv_topi (fun x_95 ex_95 => ?_)
              have h_96 : rg x_95 110 734 := rg_of_eq ex_95 (rg_add h_88 (rg_k (10 : Int32) 10 rfl) (by decide))
              have uh_96 := h_96.1
              have vh_96 := h_96.2
              have tx_95 : (x_95).toInt = (x_87).toInt + 10 := by rw [ex_95]; exact i_add_rg (a2 := (x_87).toInt) (b2 := 10) rfl rfl h_88 (rg_k (10 : Int32) 10 rfl) (by decide)
              refine lv_iload hx hb dX12_well_92 (lv_at hl 5 rfl) ?_
              refine pt_i hx hb hK hP hD hS hL_this_a hK_this_a hN_this_a (rg_in h_96 (by decide)) dX12_well_94 (fun r_97 H locs er_97 hP hD hS => ?_)
              have hG := GM.wz hG hT_this_a (by decide) er_97 (zn_CELL (c := a0.toNatClampNeg) (k := 10) (by have z_i := clampE x_95; have z_0 := clampE a0; omega) (rg_cl1 f_11 (by decide)) (by decide)) rfl (rg_w h_72 (by decide)) (by decide)
              refine lv_iconst (v := 1) hx hb dX12_well_95 (by decide) ?_
              subst hQ
              exact W.zret (v := 1) hx hb hr (by decide) (fun t1 ht hW => ⟨⟨1, (σ, I, J, r_97, rj, rq), rfl, ⟨r_97, rfl, hG, (Or.inl ⟨rfl, (zv_c (zv_c (fun c _ => zw_c (b := 108) (s := 16) (n := a0.toNatClampNeg) er_91 (by have z_i := clampE x_89; have z_0 := clampE a0; omega) (by decide) c) (zo_c (b := 108) (s := 16) (N := 40) er_94 (zn_CELL (c := a0.toNatClampNeg) (k := 9) (by have z_i := clampE x_92; have z_0 := clampE a0; omega) (rg_cl1 f_11 (by decide)) (by decide)) z308 (by decide))) (zo_c (b := 108) (s := 16) (N := 40) er_97 (zn_CELL (c := a0.toNatClampNeg) (k := 10) (by have z_i := clampE x_95; have z_0 := clampE a0; omega) (rg_cl1 f_11 (by decide)) (by decide)) z308 (by decide)))⟩), (Or.inl ⟨rfl, (rg_w f_11 (by decide)), (rg_w h_32 (by decide)), (rg_w h_52 (by decide)), (rg_w h_72 (by decide)), (by omega)⟩)⟩, by rw [ht]; exact hP, va_K.moved hW.alike hK, hD⟩, hS.F ht⟩) hS.2.2 dX12_well_96
            · have tc_98 : 0 < (x_75).toInt := Int32.lt_iff_toInt_lt.mp (nle c_82)
              have h_99 : rg x_75 1 2147483647 := rg_lt2 (nle c_82) (rg_k (0 : Int32) 0 rfl) (rg_full _) (by decide)
              have uh_99 := h_99.1
              have vh_99 := h_99.2
              refine lv_iconst (v := 0) hx hb dX12_well_50 (by decide) ?_
              subst hQ
              exact W.zret (v := 0) hx hb hr (by decide) (fun t1 ht hW => ⟨⟨0, (σ, I, J, ri, rj, rq), rfl, ⟨ri, rfl, hG, (Or.inr ⟨rfl, (fun _ _ => rfl)⟩), (Or.inr ⟨rfl, (by omega)⟩)⟩, by rw [ht]; exact hP, va_K.moved hW.alike hK, hD⟩, hS.F ht⟩) hS.2.2 dX12_well_51
  exact go _ _ _ hP hD hS hl

set_option maxHeartbeats 4000000 in
set_option maxRecDepth 100000 in
theorem s_X12_bury_w (l : Launch) (D : va_G) (t : pq_T) (σ : pq_S) (I : Nat → Nat → Int32) (J : Nat → Nat → Int64) (ri : Nat → Nat → Int32) (rj : Nat → Nat → Int64) (rq : Nat → Nat → Option Nat) (sz : Nat) (tg : Nat → Nat) (hSH : SH σ tg) (hG0 : GT tg I ri) (this : Nat) (a0 : Int32) (a1 : Int32) (hL_this : this ∈ σ.1) (hK_this : σ.2.1 this = 12) (this_a : Nat) (hR_this_a : σ.2.2.1 384 this = some this_a) (hL_this_a : this_a ∈ σ.1) (hK_this_a : σ.2.1 this_a = 13) (hN_this_a : σ.2.2.2 this_a = 12720) (hT_this_a : tg this_a = 384) : MetI l yX12_bury (wa yX12_bury cX12_bury 3 (some .boolean)) ({ frames := 2, cells := 0, slots := 0, locals := 43 }) [.ref this, .int a0, .int a1] D t σ (I, J, ri, rj, rq) sz 0 0 (fun (r : Int32) (u : pq_S × pq_M) => ∃ ri' : Nat → Nat → Int32, u = (σ, I, J, ri', rj, rq) ∧ GM [1700, 1702, 1701] tg σ I ri I ri' rq ∧ ((r = 1 ∧ ∀ c, c < 30 → ri' this_a (2400 + 4 * c) = if c = (a0).toNatClampNeg then a1 else ri this_a (2400 + 4 * c)) ∨ (r = 0 ∧ ∀ c, c < 30 → ri' this_a (2400 + 4 * c) = ri this_a (2400 + 4 * c))) ∧ ((r = 1 ∧ rg a0 0 29 ∧ rg a1 0 39 ∧ ((0 ≤ a0.toInt ∧ a0.toInt < (ri this_a 10).toInt) ∧ (0 ≤ a1.toInt ∧ a1.toInt < (ri this_a 2).toInt) ∧ (ri this_a (2400 + 4 * (a0).toNatClampNeg)).toInt ≠ a1.toInt)) ∨ (r = 0 ∧ (¬ ((0 ≤ a0.toInt ∧ a0.toInt < (ri this_a 10).toInt) ∧ (0 ≤ a1.toInt ∧ a1.toInt < (ri this_a 2).toInt) ∧ (ri this_a (2400 + 4 * (a0).toNatClampNeg)).toInt ≠ a1.toInt))))) := by
  refine Met.ofW (cc := cX12_bury) (maxL := 3) (ret := (some .boolean)) (by decide) rfl ?_
  intro p e s m args below meth c s₁ B hml hv
  obtain ⟨rfl, hsz, hP, hK, hD0, hN⟩ := hv
  have hx := B.exec
  have hb := B.bytes
  have hr := B.returns
  have hts := atoms_spec (ws := (wa yX12_bury cX12_bury 3 (some .boolean))) B.pre
  have hown : s.vm.findClass RX12 = some m.cls := findClass_of_methodNamed B.named
  have hlocks := B.notSynchronized
  subst hsz
  have hD : va_D (pq_B t σ (I, J, ri, rj, rq) s.heap.size) (pq_P t σ (I, J, ri, rj, rq)) := hD0.self
  generalize hAe : pq_B t σ (I, J, ri, rj, rq) s.heap.size = A at hD ⊢
  have hA : ∀ q : Nat, s.heap.size ≤ q → A q := fun q h => by rw [← hAe]; exact Or.inr h
  have hS : va_S A s.heap s.heap [] := va_S.rf
  have hG : GM [1700, 1702, 1701] tg σ I ri I ri rq := ⟨hG0, fun _ _ _ => rfl, fun _ _ _ _ _ => rfl, fun _ _ _ _ _ _ => rfl⟩
  have hl := lv_entry ([.ref this, .int a0, .int a1]) (n := 3) (Nat.le_of_ble_eq_true rfl)
  rw [lg_entry_eq]
  generalize (lg_sl ([.ref this, .int a0, .int a1]) ++ List.replicate (3 - (lg_sl ([.ref this, .int a0, .int a1])).length) Slot.unset).toArray = ls at hl ⊢
  have hl : lv_has ls 3 [(0, .ref this), (1, .int a0), (2, .int a1)] := hl
  refine q_gen (fun Q hQ => ?_)
  have go : ∀ (H : Heap) (locs : List Loc) (ls : Array Slot), va_P D vwCl (pq_P t σ (I, J, ri, rj, rq)) H → va_D A (pq_P t σ (I, J, ri, rj, rq)) → va_S A s.heap H locs → lv_has ls 3 [(0, .ref this), (1, .int a0), (2, .int a1)] → W p l e ({ frames := 2, cells := 0, slots := 0, locals := 43 } : Room) s m (List.toArray ([.ref this, .int a0, .int a1] : List Value)) below meth c H locs 0 0 Q (F0 m 0 ls []) := by
    intro H locs ls hP hD hS hl
    refine lv_iload_n hx hb dX12_bury_0 rfl (lv_at hl 1 rfl) ?_
    refine lv_iconst (v := 0) hx hb dX12_bury_1 (by decide) ?_
    refine lv_aload_n hx hb dX12_bury_2 rfl (lv_at hl 0 rfl) ?_
    refine pg_f (v := .ref this_a) (C := RX12) (T := TX12) (N := 31) hx hb hts (tw_i inlX12) hown hK hP hL_this hK_this (by decide) rfl 0 (by decide) (hts _ (tw_c tw_176)) (pq_hv rfl hR_this_a) dX12_bury_3 ?_
    refine lv_bipush (v := 10) hx hb dX12_bury_6 (by decide) ?_
    refine pl_i hx hb hK hP hL_this_a hK_this_a hN_this_a (vp_in_iff.mpr (by decide)) dX12_bury_8 ?_
    refine lv_tov (ri this_a 10) rfl ?_
    have h_1 : rg (ri this_a 10) 0 30 := GM.z0 hG0 (by rw [hT_this_a]; decide) (i := 10) (k := 10) (by decide) rfl
    have uh_1 := h_1.1
    have vh_1 := h_1.2
    refine lv_iconst (v := 1) hx hb dX12_bury_9 (by decide) ?_
    refine lv_isub hx hb dX12_bury_10 ?_
    refine lv_topi (fun x_2 ex_2 => ?_)
    have h_3 : rg x_2 (-1) 29 := rg_of_eq ex_2 (rg_sub h_1 (rg_k (1 : Int32) 1 rfl) (by decide))
    have uh_3 := h_3.1
    have vh_3 := h_3.2
    have tx_2 : (x_2).toInt = (ri this_a 10).toInt - 1 := by rw [ex_2]; exact i_sub_rg (a2 := (ri this_a 10).toInt) (b2 := 1) rfl rfl h_1 (rg_k (1 : Int32) 1 rfl) (by decide)
    refine pk_i (va_runS (As := [.int a0, .int 0, .int x_2]) (rest := []) ⟨hx, hb, hml, hown, hts⟩ (s_X12_isIn_v l D t σ I J ri rj rq H.size tg hSH hG.1 a0 (0 : Int32) x_2) (va_cwS 3 hts (tw_S tw_235 tw_236 tw_5 tw_237) rfl rfl rfl cd_yX12_isIn_3 ⟨Nat.le_of_ble_eq_true rfl, Nat.le_of_ble_eq_true rfl⟩) ⟨pq_blind, pq_pre hK hN hP hD⟩ rfl rfl hl.1 rfl (lv_room (Nat.le_of_ble_eq_true rfl)) dX12_bury_11 ⟨Nat.le_of_ble_eq_true rfl, Nat.le_of_ble_eq_true rfl⟩) hD hS hA (fun x_4 σ1 μ1 H locs hw_5 hP hD hS => ?_)
    obtain ⟨hu_6, hr_8⟩ := hw_5
    obtain ⟨hu_6a, hu_6b⟩ := Prod.mk.inj hu_6
    rw [hu_6a, hu_6b] at hP hD
    have h_9 : rg x_4 0 1 := by rcases hr_8 with ⟨q, -⟩ | ⟨q, -⟩ <;> rw [q] <;> exact ⟨by decide, by decide⟩
    have uh_9 := h_9.1
    have vh_9 := h_9.2
    refine lv_if_eq (tgt := 41) hx hb dX12_bury_14 (by decide) (fun c_10 => ?_) (fun c_10 => ?_)
    · have f_11 := (hr_8.resolve_left (fun q => absurd (q.1.symm.trans c_10) (by decide))).2
      have zk_12 : (0 : Int32).toInt = 0 := rfl
      have tc_13 : (x_4).toInt = 0 := congrArg Int32.toInt c_10
      have h_14 : rg x_4 0 0 := rg_and h_9 (rg_of_eq c_10 (rg_k (0 : Int32) 0 rfl)) (by decide)
      have uh_14 := h_14.1
      have vh_14 := h_14.2
      refine lv_iconst (v := 0) hx hb dX12_bury_41 (by decide) ?_
      subst hQ
      exact W.zret (v := 0) hx hb hr (by decide) (fun t1 ht hW => ⟨⟨0, (σ, I, J, ri, rj, rq), rfl, ⟨ri, rfl, hG, (Or.inr ⟨rfl, (fun _ _ => rfl)⟩), (Or.inr ⟨rfl, (by omega)⟩)⟩, by rw [ht]; exact hP, va_K.moved hW.alike hK, hD⟩, hS.F ht⟩) hS.2.2 dX12_bury_42
    · obtain ⟨f_15, f_16⟩ := (hr_8.resolve_right (fun q => c_10 q.1)).2
      have tc_17 : 0 ≤ (a0).toInt := Int32.le_iff_toInt_le.mp f_15
      have h_18 : rg a0 0 2147483647 := rg_le2 f_15 (rg_k (0 : Int32) 0 rfl) (rg_full _) (by decide)
      have uh_18 := h_18.1
      have vh_18 := h_18.2
      have tc_19 : (a0).toInt ≤ (x_2).toInt := Int32.le_iff_toInt_le.mp f_16
      have h_20 : rg a0 0 29 := rg_le1 f_16 h_18 h_3 (by decide)
      have uh_20 := h_20.1
      have vh_20 := h_20.2
      have h_21 : rg x_2 0 29 := rg_le2 f_16 h_18 h_3 (by decide)
      have uh_21 := h_21.1
      have vh_21 := h_21.2
      have tc_22 : (x_4).toInt ≠ 0 := fun q => c_10 (Int32.toInt_inj.mp q)
      have h_23 : rg x_4 1 1 := rg_ne c_10 h_9 0 rfl (by decide)
      have uh_23 := h_23.1
      have vh_23 := h_23.2
      refine lv_aload_n hx hb dX12_bury_17 rfl (lv_at hl 0 rfl) ?_
      refine lv_iload_n hx hb dX12_bury_18 rfl (lv_at hl 2 rfl) ?_
      refine pk_i (va_runV (As := [.int a1]) (rest := []) ⟨hx, hb, hml, hown, hts⟩ (s_X12_isCell_w l D t σ I J ri rj rq H.size tg hSH hG.1 this a1 hL_this hK_this this_a hR_this_a hL_this_a hK_this_a hN_this_a hT_this_a) (cwV 1 hts (tw_V tw_340 tw_341 tw_342 tw_5 tw_343) rfl rfl rfl cv_yX12_isCell_1 ⟨Nat.le_of_ble_eq_true rfl, Nat.le_of_ble_eq_true rfl⟩) ⟨pq_blind, pq_recv hK hP hL_this hK_this (by decide) rfl, pq_pre hK hN hP hD⟩ rfl rfl hl.1 rfl (lv_room (Nat.le_of_ble_eq_true rfl)) dX12_bury_19 ⟨Nat.le_of_ble_eq_true rfl, Nat.le_of_ble_eq_true rfl⟩) hD hS hA (fun x_24 σ1 μ1 H locs hw_25 hP hD hS => ?_)
      obtain ⟨hu_26, hr_28⟩ := hw_25
      obtain ⟨hu_26a, hu_26b⟩ := Prod.mk.inj hu_26
      rw [hu_26a, hu_26b] at hP hD
      have h_29 : rg x_24 0 1 := by rcases hr_28 with ⟨q, -⟩ | ⟨q, -⟩ <;> rw [q] <;> exact ⟨by decide, by decide⟩
      have uh_29 := h_29.1
      have vh_29 := h_29.2
      refine lv_if_eq (tgt := 41) hx hb dX12_bury_22 (by decide) (fun c_30 => ?_) (fun c_30 => ?_)
      · have f_31 := (hr_28.resolve_left (fun q => absurd (q.1.symm.trans c_30) (by decide))).2
        have tc_32 : (x_24).toInt = 0 := congrArg Int32.toInt c_30
        have h_33 : rg x_24 0 0 := rg_and h_29 (rg_of_eq c_30 (rg_k (0 : Int32) 0 rfl)) (by decide)
        have uh_33 := h_33.1
        have vh_33 := h_33.2
        refine lv_iconst (v := 0) hx hb dX12_bury_41 (by decide) ?_
        subst hQ
        exact W.zret (v := 0) hx hb hr (by decide) (fun t1 ht hW => ⟨⟨0, (σ, I, J, ri, rj, rq), rfl, ⟨ri, rfl, hG, (Or.inr ⟨rfl, (fun _ _ => rfl)⟩), (Or.inr ⟨rfl, (by omega)⟩)⟩, by rw [ht]; exact hP, va_K.moved hW.alike hK, hD⟩, hS.F ht⟩) hS.2.2 dX12_bury_42
      · obtain ⟨f_34, f_35⟩ := (hr_28.resolve_right (fun q => c_30 q.1)).2
        have uf_34 := f_34.1
        have vf_34 := f_34.2
        have tc_36 : (x_24).toInt ≠ 0 := fun q => c_30 (Int32.toInt_inj.mp q)
        have h_37 : rg x_24 1 1 := rg_ne c_30 h_29 0 rfl (by decide)
        have uh_37 := h_37.1
        have vh_37 := h_37.2
        refine lv_aload_n hx hb dX12_bury_25 rfl (lv_at hl 0 rfl) ?_
        refine pg_f (v := .ref this_a) (C := RX12) (T := TX12) (N := 31) hx hb hts (tw_i inlX12) hown hK hP hL_this hK_this (by decide) rfl 0 (by decide) (hts _ (tw_c tw_176)) (pq_hv rfl hR_this_a) dX12_bury_26 ?_
        refine lv_sipush (v := 2400) hx hb dX12_bury_29 (by decide) ?_
        refine lv_iconst (v := 4) hx hb dX12_bury_32 (by decide) ?_
        refine lv_iload_n hx hb dX12_bury_33 rfl (lv_at hl 1 rfl) ?_
        refine lv_imul hx hb dX12_bury_34 ?_
        refine lv_topi (fun x_38 ex_38 => ?_)
        have h_39 : rg x_38 0 116 := rg_of_eq ex_38 (rg_mul (rg_k (4 : Int32) 4 rfl) h_20 (by decide))
        have uh_39 := h_39.1
        have vh_39 := h_39.2
        have tx_38 : (x_38).toInt = 4 * (a0).toInt := by rw [ex_38]; exact i_mul_rg (a2 := 4) (b2 := (a0).toInt) rfl rfl (rg_k (4 : Int32) 4 rfl) h_20 (by decide)
        refine lv_iadd hx hb dX12_bury_35 ?_
        refine lv_topi (fun x_40 ex_40 => ?_)
        have h_41 : rg x_40 2400 2516 := rg_of_eq ex_40 (rg_add (rg_k (2400 : Int32) 2400 rfl) h_39 (by decide))
        have uh_41 := h_41.1
        have vh_41 := h_41.2
        have tx_40 : (x_40).toInt = 2400 + (x_38).toInt := by rw [ex_40]; exact i_add_rg (a2 := 2400) (b2 := (x_38).toInt) rfl rfl (rg_k (2400 : Int32) 2400 rfl) h_39 (by decide)
        refine pl_i hx hb hK hP hL_this_a hK_this_a hN_this_a (rg_in h_41 (by decide)) dX12_bury_36 ?_
        refine lv_topi (fun x_42 ex_42 => ?_)
        have ex_42 : x_42 = ri this_a (x_40).toNatClampNeg := ex_42
        have tt_43 : (x_42).toInt = (ri this_a (2400 + 4 * (a0).toNatClampNeg)).toInt := congrArg Int32.toInt ((show x_42 = ri this_a (x_40).toNatClampNeg from ex_42).trans (congrArg (ri this_a) (by have z_i := clampE x_40; have z_0 := clampE a0; omega)))
        refine lv_iload_n hx hb dX12_bury_37 rfl (lv_at hl 2 rfl) ?_
        refine lv_icmp_ne (tgt := 43) hx hb dX12_bury_38 (by decide) (fun c_44 => ?_) (fun c_44 => ?_)
        · have tc_45 : (x_42).toInt ≠ (a1).toInt := fun q => c_44 (Int32.toInt_inj.mp q)
          refine lv_aload_n hx hb dX12_bury_43 rfl (lv_at hl 0 rfl) ?_
          refine lv_iload_n hx hb dX12_bury_44 rfl (lv_at hl 1 rfl) ?_
          refine lv_iload_n hx hb dX12_bury_45 rfl (lv_at hl 2 rfl) ?_
          refine pk_v (va_runV (As := [.int a0, .int a1]) (rest := []) ⟨hx, hb, hml, hown, hts⟩ (s_X12_lies_w l D t σ I J ri rj rq H.size tg hSH hG.1 this a0 a1 hL_this hK_this (rg_w h_20 (by decide)) (rg_w f_34 (by decide)) this_a hR_this_a hL_this_a hK_this_a hN_this_a hT_this_a) (cwV 2 hts (tw_V tw_1509 tw_1510 tw_1511 tw_5 tw_1512) rfl rfl rfl cv_yX12_lies_2 ⟨Nat.le_of_ble_eq_true rfl, Nat.le_of_ble_eq_true rfl⟩) ⟨pq_blind, pq_recv hK hP hL_this hK_this (by decide) rfl, pq_pre hK hN hP hD⟩ rfl rfl hl.1 rfl (lv_room (Nat.le_of_ble_eq_true rfl)) dX12_bury_46 ⟨Nat.le_of_ble_eq_true rfl, Nat.le_of_ble_eq_true rfl⟩) hD hS hA (fun σ1 μ1 H locs hw_47 hP hD hS => ?_)
          obtain ⟨ri_48, hu_49, hg_50, hp_52⟩ := hw_47
          obtain ⟨hu_49a, hu_49b⟩ := Prod.mk.inj hu_49
          rw [hu_49a, hu_49b] at hP hD
          have hG := GM.tr hG hg_50 (by decide)
          refine lv_iconst (v := 1) hx hb dX12_bury_49 (by decide) ?_
          subst hQ
          exact W.zret (v := 1) hx hb hr (by decide) (fun t1 ht hW => ⟨⟨1, (σ, I, J, ri_48, rj, rq), rfl, ⟨ri_48, rfl, hG, (Or.inl ⟨rfl, hp_52⟩), (Or.inl ⟨rfl, (rg_w h_20 (by decide)), (rg_w f_34 (by decide)), (by omega)⟩)⟩, by rw [ht]; exact hP, va_K.moved hW.alike hK, hD⟩, hS.F ht⟩) hS.2.2 dX12_bury_50
        · have tc_53 : (x_42).toInt = (a1).toInt := congrArg Int32.toInt c_44
          have h_54 : rg x_42 0 39 := rg_and (rg_full _) (rg_of_eq c_44 f_34) (by decide)
          have uh_54 := h_54.1
          have vh_54 := h_54.2
          refine lv_iconst (v := 0) hx hb dX12_bury_41 (by decide) ?_
          subst hQ
          exact W.zret (v := 0) hx hb hr (by decide) (fun t1 ht hW => ⟨⟨0, (σ, I, J, ri, rj, rq), rfl, ⟨ri, rfl, hG, (Or.inr ⟨rfl, (fun _ _ => rfl)⟩), (Or.inr ⟨rfl, (by omega)⟩)⟩, by rw [ht]; exact hP, va_K.moved hW.alike hK, hD⟩, hS.F ht⟩) hS.2.2 dX12_bury_42
  exact go _ _ _ hP hD hS hl
