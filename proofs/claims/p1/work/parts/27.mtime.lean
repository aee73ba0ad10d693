theorem dX12_isTime_0 : decode cX12_isTime 0 = .ok (.iload_n 1, 1) := by decide +kernel
theorem dX12_isTime_1 : decode cX12_isTime 1 = .ok (.iconst 1, 1) := by decide +kernel
theorem dX12_isTime_2 : decode cX12_isTime 2 = .ok (.iload_n 2, 1) := by decide +kernel
theorem dX12_isTime_3 : decode cX12_isTime 3 = .ok (.invokestatic 62, 3) := by decide +kernel
theorem dX12_isTime_6 : decode cX12_isTime 6 = .ok (.ifCond .eq 28, 3) := by decide +kernel
theorem dX12_isTime_9 : decode cX12_isTime 9 = .ok (.iload_n 3, 1) := by decide +kernel
theorem dX12_isTime_10 : decode cX12_isTime 10 = .ok (.invokestatic 70, 3) := by decide +kernel
theorem dX12_isTime_13 : decode cX12_isTime 13 = .ok (.ifCond .eq 21, 3) := by decide +kernel
theorem dX12_isTime_16 : decode cX12_isTime 16 = .ok (.aload_n 0, 1) := by decide +kernel
theorem dX12_isTime_17 : decode cX12_isTime 17 = .ok (.getfield 7, 3) := by decide +kernel
theorem dX12_isTime_20 : decode cX12_isTime 20 = .ok (.iconst 0, 1) := by decide +kernel
theorem dX12_isTime_21 : decode cX12_isTime 21 = .ok (.iaload, 1) := by decide +kernel
theorem dX12_isTime_22 : decode cX12_isTime 22 = .ok (.iload_n 1, 1) := by decide +kernel
theorem dX12_isTime_23 : decode cX12_isTime 23 = .ok (.iadd, 1) := by decide +kernel
theorem dX12_isTime_24 : decode cX12_isTime 24 = .ok (.sipush 600, 3) := by decide +kernel
theorem dX12_isTime_27 : decode cX12_isTime 27 = .ok (.if_icmp .gt 7, 3) := by decide +kernel
theorem dX12_isTime_30 : decode cX12_isTime 30 = .ok (.iconst 1, 1) := by decide +kernel
theorem dX12_isTime_31 : decode cX12_isTime 31 = .ok (.goto 4, 3) := by decide +kernel
theorem dX12_isTime_35 : decode cX12_isTime 35 = .ok (.ireturn, 1) := by decide +kernel
theorem dX12_isTime_34 : decode cX12_isTime 34 = .ok (.iconst 0, 1) := by decide +kernel
theorem dX12_months_15 : decode cX12_months 15 = .ok (.iload_n 3, 1) := by decide +kernel
theorem dX12_months_16 : decode cX12_months 16 = .ok (.iload_n 1, 1) := by decide +kernel
theorem dX12_months_17 : decode cX12_months 17 = .ok (.if_icmp .ge 14, 3) := by decide +kernel
theorem dX12_months_20 : decode cX12_months 20 = .ok (.aload_n 0, 1) := by decide +kernel
theorem dX12_months_21 : decode cX12_months 21 = .ok (.iload_n 2, 1) := by decide +kernel
theorem tw_1193 : Cond.methodLink RX12 372 yX12_month ∈ wsL_law := List.mem_of_getElem? (i := 1193) (by decide +kernel)
theorem tw_1194 : Cond.instanceMethod yX12_month ∈ wsL_law := List.mem_of_getElem? (i := 1194) (by decide +kernel)
theorem tw_1195 : Cond.selects RX12 yX12_month yX12_month ∈ wsL_law := List.mem_of_getElem? (i := 1195) (by decide +kernel)
theorem tw_1196 : Cond.code yX12_month cX12_month 3 none ∈ wsL_law := List.mem_of_getElem? (i := 1196) (by decide +kernel)
theorem dX12_months_22 : decode cX12_months 22 = .ok (.invokevirtual 372, 3) := by decide +kernel
theorem dX12_months_25 : decode cX12_months 25 = .ok (.iinc 3 1, 3) := by decide +kernel
theorem dX12_months_28 : decode cX12_months 28 = .ok (.goto (-13), 3) := by decide +kernel
theorem dX12_months_0 : decode cX12_months 0 = .ok (.aload_n 0, 1) := by decide +kernel
theorem dX12_months_1 : decode cX12_months 1 = .ok (.iload_n 1, 1) := by decide +kernel
theorem dX12_months_2 : decode cX12_months 2 = .ok (.bipush 60, 2) := by decide +kernel
theorem dX12_months_4 : decode cX12_months 4 = .ok (.iload_n 2, 1) := by decide +kernel
theorem tw_1189 : Cond.methodLink RX12 369 yX12_isTime ∈ wsL_law := List.mem_of_getElem? (i := 1189) (by decide +kernel)
theorem tw_1190 : Cond.instanceMethod yX12_isTime ∈ wsL_law := List.mem_of_getElem? (i := 1190) (by decide +kernel)
theorem tw_1191 : Cond.selects RX12 yX12_isTime yX12_isTime ∈ wsL_law := List.mem_of_getElem? (i := 1191) (by decide +kernel)
theorem tw_1192 : Cond.code yX12_isTime cX12_isTime 4 (some .boolean) ∈ wsL_law := List.mem_of_getElem? (i := 1192) (by decide +kernel)
theorem dX12_months_5 : decode cX12_months 5 = .ok (.invokevirtual 369, 3) := by decide +kernel
theorem dX12_months_8 : decode cX12_months 8 = .ok (.ifCond .ne 5, 3) := by decide +kernel
theorem dX12_months_13 : decode cX12_months 13 = .ok (.iconst 0, 1) := by decide +kernel
theorem dX12_months_14 : decode cX12_months 14 = .ok (.istore_n 3, 1) := by decide +kernel
theorem dX12_months_31 : decode cX12_months 31 = .ok (.aload_n 0, 1) := by decide +kernel
theorem dX12_months_32 : decode cX12_months 32 = .ok (.getfield 7, 3) := by decide +kernel
theorem dX12_months_35 : decode cX12_months 35 = .ok (.iconst 0, 1) := by decide +kernel
theorem dX12_months_36 : decode cX12_months 36 = .ok (.iaload, 1) := by decide +kernel
theorem dX12_months_37 : decode cX12_months 37 = .ok (.ireturn, 1) := by decide +kernel
theorem dX12_months_11 : decode cX12_months 11 = .ok (.iconst (-1), 1) := by decide +kernel
theorem dX12_months_12 : decode cX12_months 12 = .ok (.ireturn, 1) := by decide +kernel
set_option maxHeartbeats 4000000 in
set_option maxRecDepth 100000 in
theorem c_X12_isTime (l : Launch) (D : va_G) (t : pq_T) (σ : pq_S) (I : Nat → Nat → Int32) (J : Nat → Nat → Int64) (ri : Nat → Nat → Int32) (rj : Nat → Nat → Int64) (rq : Nat → Nat → Option Nat) (sz : Nat) (this : Nat) (n : Int32) (most : Int32) (rise : Int32) (hL_this : this ∈ σ.1) (hK_this : σ.2.1 this = 12) (this_a : Nat) (hR_this_a : σ.2.2.1 384 this = some this_a) (hL_this_a : this_a ∈ σ.1) (hK_this_a : σ.2.1 this_a = 13) (hN_this_a : σ.2.2.2 this_a = 12720) (hF : fm (ri this_a) 0) (hm : most ≤ 600) : MetI l yX12_isTime (wa yX12_isTime cX12_isTime 4 (some .boolean)) ({ frames := 2, cells := 0, slots := 0, locals := 42 }) [.ref this, .int n, .int most, .int rise] D t σ (I, J, ri, rj, rq) sz 0 0 (fun (r : Int32) (u : pq_S × pq_M) => u = (σ, I, J, ri, rj, rq) ∧ ((r = 1 ∧ 1 ≤ n ∧ n ≤ most ∧ 0 ≤ rise ∧ rise ≤ 2) ∨ (r = 0 ∧ ¬ ((1 ≤ n ∧ n ≤ most) ∧ (0 ≤ rise ∧ rise ≤ 2))))) := by
  refine Met.ofW (cc := cX12_isTime) (maxL := 4) (ret := (some .boolean)) (by decide) rfl ?_
  intro p e s m args below meth c s₁ B hml hv
  obtain ⟨rfl, hsz, hP, hK, hD0, hN⟩ := hv
  have hx := B.exec
  have hb := B.bytes
  have hr := B.returns
  have hts := atoms_spec (ws := (wa yX12_isTime cX12_isTime 4 (some .boolean))) B.pre
  have hown : s.vm.findClass RX12 = some m.cls := findClass_of_methodNamed B.named
  have hlocks := B.notSynchronized
  subst hsz
  have hD : va_D (pq_B t σ (I, J, ri, rj, rq) s.heap.size) (pq_P t σ (I, J, ri, rj, rq)) := hD0.self
  generalize hAe : pq_B t σ (I, J, ri, rj, rq) s.heap.size = A at hD ⊢
  have hA : ∀ q : Nat, s.heap.size ≤ q → A q := fun q h => by rw [← hAe]; exact Or.inr h
  have hS : va_S A s.heap s.heap [] := va_S.rf
  have hl := lv_entry ([.ref this, .int n, .int most, .int rise]) (n := 4) (Nat.le_of_ble_eq_true rfl)
  rw [lg_entry_eq]
  generalize (lg_sl ([.ref this, .int n, .int most, .int rise]) ++ List.replicate (4 - (lg_sl ([.ref this, .int n, .int most, .int rise])).length) Slot.unset).toArray = ls at hl ⊢
  have hl : lv_has ls 4 [(0, .ref this), (1, .int n), (2, .int most), (3, .int rise)] := hl
  refine lv_iload_n hx hb dX12_isTime_0 rfl (lv_at hl 1 rfl) ?_
  refine lv_iconst (v := 1) hx hb dX12_isTime_1 (by decide) ?_
  refine lv_iload_n hx hb dX12_isTime_2 rfl (lv_at hl 2 rfl) ?_
  refine pk_i (va_runS (As := [.int n, .int 1, .int most]) (rest := []) ⟨hx, hb, hml, hown, hts⟩ (c_X12_isIn l D t σ I J ri rj rq (Array.size s.heap) n (1 : Int32) most) (va_cwS 3 hts (tw_S tw_235 tw_236 tw_5 tw_237) rfl rfl rfl (by decide +kernel) ⟨Nat.le_of_ble_eq_true rfl, Nat.le_of_ble_eq_true rfl⟩) ⟨pq_blind, pq_pre hK hN hP hD⟩ rfl rfl hl.1 rfl (lv_room (Nat.le_of_ble_eq_true rfl)) dX12_isTime_3 ⟨Nat.le_of_ble_eq_true rfl, Nat.le_of_ble_eq_true rfl⟩) hD hS hA (fun r_1 σ1 μ1 H locs hw_2 hP hD hS => ?_)
  obtain ⟨hu_3, hr_4⟩ := hw_2
  obtain ⟨hu_3a, hu_3b⟩ := Prod.mk.inj hu_3
  rw [hu_3a, hu_3b] at hP hD
  rcases hr_4 with ⟨rfl, hr_4_0, hr_4_1⟩ | ⟨rfl, hr_4_0⟩
  · refine lv_if_eq (tgt := 34) hx hb dX12_isTime_6 (by decide) (fun c_5 => absurd c_5 (by decide)) (fun c_5 => ?_)
    refine lv_iload_n hx hb dX12_isTime_9 rfl (lv_at hl 3 rfl) ?_
    refine pk_i (va_runS (As := [.int rise]) (rest := []) ⟨hx, hb, hml, hown, hts⟩ (c_X12_isRise l D t σ I J ri rj rq H.size rise) (va_cwS 1 hts (tw_S tw_259 tw_260 tw_5 tw_261) rfl rfl rfl (by decide +kernel) ⟨Nat.le_of_ble_eq_true rfl, Nat.le_of_ble_eq_true rfl⟩) ⟨pq_blind, pq_pre hK hN hP hD⟩ rfl rfl hl.1 rfl (lv_room (Nat.le_of_ble_eq_true rfl)) dX12_isTime_10 ⟨Nat.le_of_ble_eq_true rfl, Nat.le_of_ble_eq_true rfl⟩) hD hS hA (fun r_6 σ1 μ1 H locs hw_7 hP hD hS => ?_)
    obtain ⟨hu_8, hr_9⟩ := hw_7
    obtain ⟨hu_8a, hu_8b⟩ := Prod.mk.inj hu_8
    rw [hu_8a, hu_8b] at hP hD
    rcases hr_9 with ⟨rfl, hr_9_0, hr_9_1⟩ | ⟨rfl, hr_9_0⟩
    · refine lv_if_eq (tgt := 34) hx hb dX12_isTime_13 (by decide) (fun c_10 => absurd c_10 (by decide)) (fun c_10 => ?_)
      refine lv_aload_n hx hb dX12_isTime_16 rfl (lv_at hl 0 rfl) ?_
      refine pg_f (v := .ref this_a) (C := RX12) (T := TX12) (N := 31) hx hb hts (tw_i inlX12) hown hK hP hL_this hK_this (by decide) rfl 0 (by decide) (hts _ (tw_c tw_176)) (pq_hv rfl hR_this_a) dX12_isTime_17 ?_
      refine lv_iconst (v := 0) hx hb dX12_isTime_20 (by decide) ?_
      refine pl_i hx hb hK hP hL_this_a hK_this_a hN_this_a (vp_in_iff.mpr (by decide)) dX12_isTime_21 ?_
      refine lv_tov 0 (hF.1.trans nI_0) ?_
      refine lv_iload_n hx hb dX12_isTime_22 rfl (lv_at hl 1 rfl) ?_
      refine lv_iadd hx hb dX12_isTime_23 ?_
      refine lv_tov n (Int32.zero_add _) ?_
      refine lv_sipush (v := 600) hx hb dX12_isTime_24 (by decide) ?_
      refine lv_icmp_gt (tgt := 34) hx hb dX12_isTime_27 (by decide) (fun c_11 => (Int32.lt_irrefl (Int32.lt_of_lt_of_le c_11 (Int32.le_trans hr_4_1 hm))).elim) (fun c_11 => ?_)
      refine lv_iconst (v := 1) hx hb dX12_isTime_30 (by decide) ?_
      refine lv_goto (tgt := 35) hx hb dX12_isTime_31 (by decide) ?_
      exact W.zret (v := 1) hx hb hr (by decide) (fun t1 ht hW => ⟨⟨1, (σ, I, J, ri, rj, rq), rfl, ⟨rfl, (Or.inl ⟨rfl, hr_4_0, hr_4_1, hr_9_0, hr_9_1⟩)⟩, by rw [ht]; exact hP, va_K.moved hW.alike hK, hD⟩, hS.F ht⟩) hS.2.2 dX12_isTime_35
    · refine lv_if_eq (tgt := 34) hx hb dX12_isTime_13 (by decide) (fun c_12 => ?_) (fun c_12 => absurd c_12 (by decide))
      refine lv_iconst (v := 0) hx hb dX12_isTime_34 (by decide) ?_
      exact W.zret (v := 0) hx hb hr (by decide) (fun t1 ht hW => ⟨⟨0, (σ, I, J, ri, rj, rq), rfl, ⟨rfl, (Or.inr ⟨rfl, fun q => hr_9_0 q.2⟩)⟩, by rw [ht]; exact hP, va_K.moved hW.alike hK, hD⟩, hS.F ht⟩) hS.2.2 dX12_isTime_35
  · refine lv_if_eq (tgt := 34) hx hb dX12_isTime_6 (by decide) (fun c_13 => ?_) (fun c_13 => absurd c_13 (by decide))
    refine lv_iconst (v := 0) hx hb dX12_isTime_34 (by decide) ?_
    exact W.zret (v := 0) hx hb hr (by decide) (fun t1 ht hW => ⟨⟨0, (σ, I, J, ri, rj, rq), rfl, ⟨rfl, (Or.inr ⟨rfl, fun q => hr_4_0 q.1⟩)⟩, by rw [ht]; exact hP, va_K.moved hW.alike hK, hD⟩, hS.F ht⟩) hS.2.2 dX12_isTime_35

set_option maxHeartbeats 4000000 in
set_option maxRecDepth 100000 in
theorem lp_X12_months_15 (l : Launch) (D : va_G) (t : pq_T) (σ : pq_S) (I : Nat → Nat → Int32) (J : Nat → Nat → Int64) (ri : Nat → Nat → Int32) (rj : Nat → Nat → Int64) (rq : Nat → Nat → Option Nat) (this : Nat) (n : Int32) (rise : Int32) (hL_this : this ∈ σ.1) (hK_this : σ.2.1 this = 12) (this_a : Nat) (hR_this_a : σ.2.2.1 384 this = some this_a) (hL_this_a : this_a ∈ σ.1) (hK_this_a : σ.2.1 this_a = 13) (hN_this_a : σ.2.2.2 this_a = 12720) (hF : fm (ri this_a) 0) (nn : Nat) (hnn : nn ≤ 60) {p : Program} {e : Env} {s : State} {m : MethodId} {args : Array Value} {below : List Frame} {meth : Method} {c : Code} {cells slots : Nat} {Q : State → Prop} {A : Nat → Prop} (hx : p.tables.exec = Jvm.exec) (hb : c.code = cX12_months) (hml : c.maxLocals = 4) (hts : ∀ w ∈ (wa yX12_months cX12_months 4 (some .int)), w.before args s = true) (hown : s.vm.findClass RX12 = some m.cls) (hK : va_K D vwCl (pq_ty t) s) (hN : pq_N s) (hA : ∀ q : Nat, s.heap.size ≤ q → A q) (hcs : cells = 0 ∧ slots = 0)
    (kk : ∀ (i : Nat) (I' : Nat → Nat → Int32) (ri' : Nat → Nat → Int32) (H : Heap) (locs : List Loc) (ls : Array Slot), (i ≤ nn) → (fm (ri' this_a) i) → (nn ≤ i) → va_P D vwCl (pq_P t σ (I', J, ri', rj, rq)) H → va_D A (pq_P t σ (I', J, ri', rj, rq)) → va_S A s.heap H locs → lv_has ls 4 [(3, .int (nI i)), (0, .ref this), (1, .int (nI nn)), (2, .int rise)] → W p l e ({ frames := 5, cells := 0, slots := 0, locals := 121 } : Room) s m args below meth c H locs cells slots Q (F0 m 31 ls [])) :
    ∀ (n : Nat) (i : Nat) (I' : Nat → Nat → Int32) (ri' : Nat → Nat → Int32) (H : Heap) (locs : List Loc) (ls : Array Slot), (i ≤ nn) → (fm (ri' this_a) i) → (nn - i) < n → va_P D vwCl (pq_P t σ (I', J, ri', rj, rq)) H → va_D A (pq_P t σ (I', J, ri', rj, rq)) → va_S A s.heap H locs → lv_has ls 4 [(3, .int (nI i)), (0, .ref this), (1, .int (nI nn)), (2, .int rise)] → W p l e ({ frames := 5, cells := 0, slots := 0, locals := 121 } : Room) s m args below meth c H locs cells slots Q (F0 m 15 ls []) := by
  obtain ⟨rfl, rfl⟩ := hcs
  intro n
  induction n with
  | zero => intro i I' ri' H locs ls hi hF' hm; exact absurd hm (Nat.not_lt_zero _)
  | succ n ih =>
    intro i I' ri' H locs ls hi hF' hm hP hD hS hl
    refine lv_iload_n hx hb dX12_months_15 rfl (lv_at hl 0 rfl) ?_
    refine lv_iload_n hx hb dX12_months_16 rfl (lv_at hl 2 rfl) ?_
    refine lv_icmp_ge (tgt := 31) hx hb dX12_months_17 (by decide) (fun c_1 => ?_) (fun c_1 => ?_)
    · have nc_1 := nq_le (a := nn) (b := i) (by omega) (by omega) c_1
      exact kk i I' ri' _ _ _ hi hF' nc_1 hP hD hS (lv_sub hl [0, 1, 2, 3] rfl)
    · have nc_1 := nq_nle (a := nn) (b := i) (by omega) (by omega) c_1
      refine lv_aload_n hx hb dX12_months_20 rfl (lv_at hl 1 rfl) ?_
      refine lv_iload_n hx hb dX12_months_21 rfl (lv_at hl 3 rfl) ?_
      refine pk_v (va_runV (As := [.int rise]) (rest := []) ⟨hx, hb, hml, hown, hts⟩ (c_X12_month l D t σ I' J ri' rj rq H.size this rise hL_this hK_this this_a hR_this_a hL_this_a hK_this_a hN_this_a i (by omega) hF') (cwV 1 hts (tw_V tw_1193 tw_1194 tw_1195 tw_5 tw_1196) rfl rfl rfl (by decide +kernel) ⟨Nat.le_of_ble_eq_true rfl, Nat.le_of_ble_eq_true rfl⟩) ⟨pq_blind, pq_recv hK hP hL_this hK_this (by decide) rfl, pq_pre hK hN hP hD⟩ rfl rfl hl.1 rfl (lv_room (Nat.le_of_ble_eq_true rfl)) dX12_months_22 ⟨Nat.le_of_ble_eq_true rfl, Nat.le_of_ble_eq_true rfl⟩) hD hS hA (fun σ1 μ1 H locs hw_3 hP hD hS => ?_)
      obtain ⟨I_4, ri_5, hu_6, hu_6f, hu_6p0, hu_6p1⟩ := hw_3
      obtain ⟨hu_6a, hu_6b⟩ := Prod.mk.inj hu_6
      rw [hu_6a, hu_6b] at hP hD
      refine lv_iinc (v := (nI (i + 1))) (lv' := [(3, .int (nI (i + 1))), (0, .ref this), (1, .int (nI nn)), (2, .int rise)]) hx hb dX12_months_25 hl (k := 0) rfl (nI_1 i) (by decide) rfl (fun ls hl => ?_)
      refine lv_goto (tgt := 15) hx hb dX12_months_28 (by decide) ?_
      exact ih (i + 1) I_4 ri_5 _ _ _ (by omega) hu_6p0.1 (by omega) hP hD hS (lv_sub hl [0, 1, 2, 3] rfl)

set_option maxHeartbeats 4000000 in
set_option maxRecDepth 100000 in
theorem c_X12_months (l : Launch) (D : va_G) (t : pq_T) (σ : pq_S) (I : Nat → Nat → Int32) (J : Nat → Nat → Int64) (ri : Nat → Nat → Int32) (rj : Nat → Nat → Int64) (rq : Nat → Nat → Option Nat) (sz : Nat) (this : Nat) (n : Int32) (rise : Int32) (hL_this : this ∈ σ.1) (hK_this : σ.2.1 this = 12) (this_a : Nat) (hR_this_a : σ.2.2.1 384 this = some this_a) (hL_this_a : this_a ∈ σ.1) (hK_this_a : σ.2.1 this_a = 13) (hN_this_a : σ.2.2.2 this_a = 12720) (hF : fm (ri this_a) 0) : MetI l yX12_months (wa yX12_months cX12_months 4 (some .int)) ({ frames := 5, cells := 0, slots := 0, locals := 121 }) [.ref this, .int n, .int rise] D t σ (I, J, ri, rj, rq) sz 0 0 (fun (r : Int32) (u : pq_S × pq_M) => ∃ I' : Nat → Nat → Int32, ∃ ri' : Nat → Nat → Int32, u = (σ, I', J, ri', rj, rq) ∧ (r = sp_months n rise)) := by
  refine Met.ofW (cc := cX12_months) (maxL := 4) (ret := (some .int)) (by decide) rfl ?_
  intro p e s m args below meth c s₁ B hml hv
  obtain ⟨rfl, hsz, hP, hK, hD0, hN⟩ := hv
  have hx := B.exec
  have hb := B.bytes
  have hr := B.returns
  have hts := atoms_spec (ws := (wa yX12_months cX12_months 4 (some .int))) B.pre
  have hown : s.vm.findClass RX12 = some m.cls := findClass_of_methodNamed B.named
  have hlocks := B.notSynchronized
  subst hsz
  have hD : va_D (pq_B t σ (I, J, ri, rj, rq) s.heap.size) (pq_P t σ (I, J, ri, rj, rq)) := hD0.self
  generalize hAe : pq_B t σ (I, J, ri, rj, rq) s.heap.size = A at hD ⊢
  have hA : ∀ q : Nat, s.heap.size ≤ q → A q := fun q h => by rw [← hAe]; exact Or.inr h
  have hS : va_S A s.heap s.heap [] := va_S.rf
  have hl := lv_entry ([.ref this, .int n, .int rise]) (n := 4) (Nat.le_of_ble_eq_true rfl)
  rw [lg_entry_eq]
  generalize (lg_sl ([.ref this, .int n, .int rise]) ++ List.replicate (4 - (lg_sl ([.ref this, .int n, .int rise])).length) Slot.unset).toArray = ls at hl ⊢
  have hl : lv_has ls 4 [(0, .ref this), (1, .int n), (2, .int rise)] := hl
  refine lv_aload_n hx hb dX12_months_0 rfl (lv_at hl 0 rfl) ?_
  refine lv_iload_n hx hb dX12_months_1 rfl (lv_at hl 1 rfl) ?_
  refine lv_bipush (v := 60) hx hb dX12_months_2 (by decide) ?_
  refine lv_iload_n hx hb dX12_months_4 rfl (lv_at hl 2 rfl) ?_
  refine pk_i (va_runV (As := [.int n, .int 60, .int rise]) (rest := []) ⟨hx, hb, hml, hown, hts⟩ (c_X12_isTime l D t σ I J ri rj rq (Array.size s.heap) this n (60 : Int32) rise hL_this hK_this this_a hR_this_a hL_this_a hK_this_a hN_this_a hF (by decide)) (cwV 3 hts (tw_V tw_1189 tw_1190 tw_1191 tw_5 tw_1192) rfl rfl rfl (by decide +kernel) ⟨Nat.le_of_ble_eq_true rfl, Nat.le_of_ble_eq_true rfl⟩) ⟨pq_blind, pq_recv hK hP hL_this hK_this (by decide) rfl, pq_pre hK hN hP hD⟩ rfl rfl hl.1 rfl (lv_room (Nat.le_of_ble_eq_true rfl)) dX12_months_5 ⟨Nat.le_of_ble_eq_true rfl, Nat.le_of_ble_eq_true rfl⟩) hD hS hA (fun r_1 σ1 μ1 H locs hw_2 hP hD hS => ?_)
  obtain ⟨hu_3, hr_4⟩ := hw_2
  obtain ⟨hu_3a, hu_3b⟩ := Prod.mk.inj hu_3
  rw [hu_3a, hu_3b] at hP hD
  rcases hr_4 with ⟨rfl, hr_4_0, hr_4_1, hr_4_2, hr_4_3⟩ | ⟨rfl, hr_4_0⟩
  · refine lv_if_ne (tgt := 13) hx hb dX12_months_8 (by decide) (fun c_5 => ?_) (fun c_5 => absurd c_5 (by decide))
    obtain ⟨nn, hnn0, hnn1, hnn2⟩ := nI_rg hr_4_0 hr_4_1 (by decide)
    have hnn1 : 1 ≤ nn := by have : (1 : Int32).toInt = 1 := rfl; omega
    have hnn2 : nn ≤ 60 := by have : (60 : Int32).toInt = 60 := rfl; omega
    rw [hnn0] at hl
    refine lv_iconst (v := 0) hx hb dX12_months_13 (by decide) ?_
    refine lv_istore_n (lv' := [(3, .int 0), (0, .ref this), (1, .int (nI nn)), (2, .int rise)]) hx hb dX12_months_14 rfl hl (by decide) rfl (fun ls hl => ?_)
    refine lp_X12_months_15 l D t σ I J ri rj rq this n rise hL_this hK_this this_a hR_this_a hL_this_a hK_this_a hN_this_a hF nn (by omega) hx hb hml hts hown hK hN hA ⟨rfl, rfl⟩ (fun i_8 I_6 ri_7 H locs ls hi_9 hF'_10 hx1_11 hP hD hS hl => ?_) _ 0 I ri _ _ _ (Nat.zero_le _) hF (Nat.lt_succ_self _) hP hD hS (lv_sub hl [0, 1, 2, 3] rfl)
    refine lv_aload_n hx hb dX12_months_31 rfl (lv_at hl 1 rfl) ?_
    refine pg_f (v := .ref this_a) (C := RX12) (T := TX12) (N := 31) hx hb hts (tw_i inlX12) hown hK hP hL_this hK_this (by decide) rfl 0 (by decide) (hts _ (tw_c tw_176)) (pq_hv rfl hR_this_a) dX12_months_32 ?_
    refine lv_iconst (v := 0) hx hb dX12_months_35 (by decide) ?_
    refine pl_i hx hb hK hP hL_this_a hK_this_a hN_this_a (vp_in_iff.mpr (by decide)) dX12_months_36 ?_
    refine lv_tov (nI i_8) hF'_10.1 ?_
    exact W.iret (v := (nI i_8)) hx hb hr (fun t1 ht hW => ⟨⟨(nI i_8), (σ, I_6, J, ri_7, rj, rq), rfl, ⟨I_6, ri_7, rfl, (by unfold sp_months; rw [if_pos ⟨hr_4_2, hr_4_3, hr_4_0, hr_4_1⟩, hnn0, show i_8 = nn from by omega])⟩, by rw [ht]; exact hP, va_K.moved hW.alike hK, hD⟩, hS.F ht⟩) hS.2.2 dX12_months_37
  · refine lv_if_ne (tgt := 13) hx hb dX12_months_8 (by decide) (fun c_12 => absurd c_12 (by decide)) (fun c_12 => ?_)
    refine lv_iconst (v := (-1)) hx hb dX12_months_11 (by decide) ?_
    exact W.iret (v := (-1)) hx hb hr (fun t1 ht hW => ⟨⟨(-1), (σ, I, J, ri, rj, rq), rfl, ⟨I, ri, rfl, (by unfold sp_months; rw [if_neg (fun q => hr_4_0 ⟨⟨q.2.2.1, q.2.2.2⟩, ⟨q.1, q.2.1⟩⟩)])⟩, by rw [ht]; exact hP, va_K.moved hW.alike hK, hD⟩, hS.F ht⟩) hS.2.2 dX12_months_12
