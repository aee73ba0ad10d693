theorem dX11_canGoBy_0 : decode cX11_canGoBy 0 = .ok (.iload_n 1, 1) := by decide +kernel
theorem tw_244 : Cond.methodLink RX11 64 yX11_isRise ∈ wsL_law := List.mem_of_getElem? (i := 244) (by decide +kernel)
theorem tw_245 : Cond.static yX11_isRise ∈ wsL_law := List.mem_of_getElem? (i := 245) (by decide +kernel)
theorem tw_246 : Cond.code yX11_isRise cX11_isRise 1 (some .boolean) ∈ wsL_law := List.mem_of_getElem? (i := 246) (by decide +kernel)
theorem dX11_canGoBy_1 : decode cX11_canGoBy 1 = .ok (.invokestatic 64, 3) := by decide +kernel
theorem dX11_canGoBy_4 : decode cX11_canGoBy 4 = .ok (.ifCond .eq 31, 3) := by decide +kernel
theorem dX11_canGoBy_7 : decode cX11_canGoBy 7 = .ok (.iload_n 2, 1) := by decide +kernel
theorem dX11_canGoBy_8 : decode cX11_canGoBy 8 = .ok (.iconst 1, 1) := by decide +kernel
theorem dX11_canGoBy_9 : decode cX11_canGoBy 9 = .ok (.iload_n 3, 1) := by decide +kernel
theorem dX11_canGoBy_10 : decode cX11_canGoBy 10 = .ok (.invokestatic 50, 3) := by decide +kernel
theorem dX11_canGoBy_13 : decode cX11_canGoBy 13 = .ok (.ifCond .eq 22, 3) := by decide +kernel
theorem dX11_canGoBy_16 : decode cX11_canGoBy 16 = .ok (.aload_n 0, 1) := by decide +kernel
theorem dX11_canGoBy_17 : decode cX11_canGoBy 17 = .ok (.getfield 10, 3) := by decide +kernel
theorem tw_209 : Cond.fieldLink RX11 54 "RingsUnder$World" "clock" "I" ∈ wsL_law := List.mem_of_getElem? (i := 209) (by decide +kernel)
theorem dX11_canGoBy_20 : decode cX11_canGoBy 20 = .ok (.getfield 54, 3) := by decide +kernel
theorem dX11_canGoBy_23 : decode cX11_canGoBy 23 = .ok (.iload_n 2, 1) := by decide +kernel
theorem dX11_canGoBy_24 : decode cX11_canGoBy 24 = .ok (.iadd, 1) := by decide +kernel
theorem dX11_canGoBy_25 : decode cX11_canGoBy 25 = .ok (.sipush 600, 3) := by decide +kernel
theorem dX11_canGoBy_28 : decode cX11_canGoBy 28 = .ok (.if_icmp .gt 7, 3) := by decide +kernel
theorem dX11_canGoBy_31 : decode cX11_canGoBy 31 = .ok (.iconst 1, 1) := by decide +kernel
theorem dX11_canGoBy_32 : decode cX11_canGoBy 32 = .ok (.goto 4, 3) := by decide +kernel
theorem dX11_canGoBy_36 : decode cX11_canGoBy 36 = .ok (.ireturn, 1) := by decide +kernel
theorem dX11_canGoBy_35 : decode cX11_canGoBy 35 = .ok (.iconst 0, 1) := by decide +kernel
theorem dX11_months_15 : decode cX11_months 15 = .ok (.iload_n 3, 1) := by decide +kernel
theorem dX11_months_16 : decode cX11_months 16 = .ok (.iload_n 1, 1) := by decide +kernel
theorem dX11_months_17 : decode cX11_months 17 = .ok (.if_icmp .ge 17, 3) := by decide +kernel
theorem dX11_months_20 : decode cX11_months 20 = .ok (.aload_n 0, 1) := by decide +kernel
theorem dX11_months_21 : decode cX11_months 21 = .ok (.getfield 10, 3) := by decide +kernel
theorem dX11_months_24 : decode cX11_months 24 = .ok (.iload_n 2, 1) := by decide +kernel
theorem tw_1039 : Cond.methodLink RX11 263 yX10_goBy ∈ wsL_law := List.mem_of_getElem? (i := 1039) (by decide +kernel)
theorem tw_1040 : Cond.instanceMethod yX10_goBy ∈ wsL_law := List.mem_of_getElem? (i := 1040) (by decide +kernel)
theorem tw_1041 : Cond.selects RX10 yX10_goBy yX10_goBy ∈ wsL_law := List.mem_of_getElem? (i := 1041) (by decide +kernel)
theorem tw_1042 : Cond.code yX10_goBy cX10_goBy 4 none ∈ wsL_law := List.mem_of_getElem? (i := 1042) (by decide +kernel)
theorem dX11_months_25 : decode cX11_months 25 = .ok (.invokevirtual 263, 3) := by decide +kernel
theorem dX11_months_28 : decode cX11_months 28 = .ok (.iinc 3 1, 3) := by decide +kernel
theorem dX11_months_31 : decode cX11_months 31 = .ok (.goto (-16), 3) := by decide +kernel
theorem dX11_months_0 : decode cX11_months 0 = .ok (.aload_n 0, 1) := by decide +kernel
theorem dX11_months_1 : decode cX11_months 1 = .ok (.iload_n 2, 1) := by decide +kernel
theorem dX11_months_2 : decode cX11_months 2 = .ok (.iload_n 1, 1) := by decide +kernel
theorem dX11_months_3 : decode cX11_months 3 = .ok (.bipush 60, 2) := by decide +kernel
theorem tw_1035 : Cond.methodLink RX11 260 yX11_canGoBy ∈ wsL_law := List.mem_of_getElem? (i := 1035) (by decide +kernel)
theorem tw_1036 : Cond.instanceMethod yX11_canGoBy ∈ wsL_law := List.mem_of_getElem? (i := 1036) (by decide +kernel)
theorem tw_1037 : Cond.selects RX11 yX11_canGoBy yX11_canGoBy ∈ wsL_law := List.mem_of_getElem? (i := 1037) (by decide +kernel)
theorem tw_1038 : Cond.code yX11_canGoBy cX11_canGoBy 4 (some .boolean) ∈ wsL_law := List.mem_of_getElem? (i := 1038) (by decide +kernel)
theorem dX11_months_5 : decode cX11_months 5 = .ok (.invokevirtual 260, 3) := by decide +kernel
theorem dX11_months_8 : decode cX11_months 8 = .ok (.ifCond .ne 5, 3) := by decide +kernel
theorem dX11_months_13 : decode cX11_months 13 = .ok (.iconst 0, 1) := by decide +kernel
theorem dX11_months_14 : decode cX11_months 14 = .ok (.istore_n 3, 1) := by decide +kernel
theorem dX11_months_34 : decode cX11_months 34 = .ok (.aload_n 0, 1) := by decide +kernel
theorem dX11_months_35 : decode cX11_months 35 = .ok (.getfield 10, 3) := by decide +kernel
theorem dX11_months_38 : decode cX11_months 38 = .ok (.getfield 54, 3) := by decide +kernel
theorem dX11_months_41 : decode cX11_months 41 = .ok (.ireturn, 1) := by decide +kernel
theorem dX11_months_11 : decode cX11_months 11 = .ok (.iconst (-1), 1) := by decide +kernel
theorem dX11_months_12 : decode cX11_months 12 = .ok (.ireturn, 1) := by decide +kernel
set_option maxHeartbeats 4000000 in
set_option maxRecDepth 100000 in
theorem c_X11_canGoBy (l : Launch) (D : va_G) (t : pq_T) (σ : pq_S) (I : Nat → Nat → Int32) (J : Nat → Nat → Int64) (ri : Nat → Nat → Int32) (rj : Nat → Nat → Int64) (rq : Nat → Nat → Option Nat) (sz : Nat) (this : Nat) (rise : Int32) (n : Int32) (most : Int32) (hL_this : this ∈ σ.1) (hK_this : σ.2.1 this = 11) (this_now : Nat) (hR_this_now : σ.2.2.1 352 this = some this_now) (hL_this_now : this_now ∈ σ.1) (hK_this_now : σ.2.1 this_now = 10) (hC0 : I 320 this_now = 0) (hm : most ≤ 600) : MetI l yX11_canGoBy (wa yX11_canGoBy cX11_canGoBy 4 (some .boolean)) ({ frames := 2, cells := 0, slots := 0, locals := 42 }) [.ref this, .int rise, .int n, .int most] D t σ (I, J, ri, rj, rq) sz 0 0 (fun (r : Int32) (u : pq_S × pq_M) => u = (σ, I, J, ri, rj, rq) ∧ ((r = 1 ∧ 0 ≤ rise ∧ rise ≤ 2 ∧ 1 ≤ n ∧ n ≤ most) ∨ (r = 0 ∧ ¬ ((0 ≤ rise ∧ rise ≤ 2) ∧ (1 ≤ n ∧ n ≤ most))))) := by
  refine Met.ofW (cc := cX11_canGoBy) (maxL := 4) (ret := (some .boolean)) (by decide) rfl ?_
  intro p e s m args below meth c s₁ B hml hv
  obtain ⟨rfl, hsz, hP, hK, hD0, hN⟩ := hv
  have hx := B.exec
  have hb := B.bytes
  have hr := B.returns
  have hts := atoms_spec (ws := (wa yX11_canGoBy cX11_canGoBy 4 (some .boolean))) B.pre
  have hown : s.vm.findClass RX11 = some m.cls := findClass_of_methodNamed B.named
  have hlocks := B.notSynchronized
  subst hsz
  have hD : va_D (pq_B t σ (I, J, ri, rj, rq) s.heap.size) (pq_P t σ (I, J, ri, rj, rq)) := hD0.self
  generalize hAe : pq_B t σ (I, J, ri, rj, rq) s.heap.size = A at hD ⊢
  have hA : ∀ q : Nat, s.heap.size ≤ q → A q := fun q h => by rw [← hAe]; exact Or.inr h
  have hS : va_S A s.heap s.heap [] := va_S.rf
  have hl := lv_entry ([.ref this, .int rise, .int n, .int most]) (n := 4) (Nat.le_of_ble_eq_true rfl)
  rw [lg_entry_eq]
  generalize (lg_sl ([.ref this, .int rise, .int n, .int most]) ++ List.replicate (4 - (lg_sl ([.ref this, .int rise, .int n, .int most])).length) Slot.unset).toArray = ls at hl ⊢
  have hl : lv_has ls 4 [(0, .ref this), (1, .int rise), (2, .int n), (3, .int most)] := hl
  refine lv_iload_n hx hb dX11_canGoBy_0 rfl (lv_at hl 1 rfl) ?_
  refine pk_i (va_runS (As := [.int rise]) (rest := []) ⟨hx, hb, hml, hown, hts⟩ (c_X11_isRise l D t σ I J ri rj rq (Array.size s.heap) rise) (va_cwS 1 hts (tw_S tw_244 tw_245 tw_2 tw_246) rfl rfl rfl (by decide +kernel) ⟨Nat.le_of_ble_eq_true rfl, Nat.le_of_ble_eq_true rfl⟩) ⟨pq_blind, pq_pre hK hN hP hD⟩ rfl rfl hl.1 rfl (lv_room (Nat.le_of_ble_eq_true rfl)) dX11_canGoBy_1 ⟨Nat.le_of_ble_eq_true rfl, Nat.le_of_ble_eq_true rfl⟩) hD hS hA (fun r_1 σ1 μ1 H locs hw_2 hP hD hS => ?_)
  obtain ⟨hu_3, hr_4⟩ := hw_2
  obtain ⟨hu_3a, hu_3b⟩ := Prod.mk.inj hu_3
  rw [hu_3a, hu_3b] at hP hD
  rcases hr_4 with ⟨rfl, hr_4_0, hr_4_1⟩ | ⟨rfl, hr_4_0⟩
  · refine lv_if_eq (tgt := 35) hx hb dX11_canGoBy_4 (by decide) (fun c_5 => absurd c_5 (by decide)) (fun c_5 => ?_)
    refine lv_iload_n hx hb dX11_canGoBy_7 rfl (lv_at hl 2 rfl) ?_
    refine lv_iconst (v := 1) hx hb dX11_canGoBy_8 (by decide) ?_
    refine lv_iload_n hx hb dX11_canGoBy_9 rfl (lv_at hl 3 rfl) ?_
    refine pk_i (va_runS (As := [.int n, .int 1, .int most]) (rest := []) ⟨hx, hb, hml, hown, hts⟩ (c_X11_between l D t σ I J ri rj rq H.size n (1 : Int32) most) (va_cwS 3 hts (tw_S tw_215 tw_216 tw_2 tw_217) rfl rfl rfl (by decide +kernel) ⟨Nat.le_of_ble_eq_true rfl, Nat.le_of_ble_eq_true rfl⟩) ⟨pq_blind, pq_pre hK hN hP hD⟩ rfl rfl hl.1 rfl (lv_room (Nat.le_of_ble_eq_true rfl)) dX11_canGoBy_10 ⟨Nat.le_of_ble_eq_true rfl, Nat.le_of_ble_eq_true rfl⟩) hD hS hA (fun r_6 σ1 μ1 H locs hw_7 hP hD hS => ?_)
    obtain ⟨hu_8, hr_9⟩ := hw_7
    obtain ⟨hu_8a, hu_8b⟩ := Prod.mk.inj hu_8
    rw [hu_8a, hu_8b] at hP hD
    rcases hr_9 with ⟨rfl, hr_9_0, hr_9_1⟩ | ⟨rfl, hr_9_0⟩
    · refine lv_if_eq (tgt := 35) hx hb dX11_canGoBy_13 (by decide) (fun c_10 => absurd c_10 (by decide)) (fun c_10 => ?_)
      refine lv_aload_n hx hb dX11_canGoBy_16 rfl (lv_at hl 0 rfl) ?_
      refine pg_f (v := .ref this_now) (C := RX11) (T := TX11) (N := 5) hx hb hts (tw_i inlX11) hown hK hP hL_this hK_this (by decide) rfl 0 (by decide) (hts _ (tw_c tw_16)) (pq_hv rfl hR_this_now) dX11_canGoBy_17 ?_
      refine pg_f (v := .int (I 320 this_now)) (C := RX10) (T := TX10) (N := 13) hx hb hts (tw_i inlX10) hown hK hP hL_this_now hK_this_now (by decide) rfl 0 (by decide) (hts _ (tw_c tw_209)) rfl dX11_canGoBy_20 ?_
      refine lv_tov 0 hC0 ?_
      refine lv_iload_n hx hb dX11_canGoBy_23 rfl (lv_at hl 2 rfl) ?_
      refine lv_iadd hx hb dX11_canGoBy_24 ?_
      refine lv_tov n (Int32.zero_add _) ?_
      refine lv_sipush (v := 600) hx hb dX11_canGoBy_25 (by decide) ?_
      refine lv_icmp_gt (tgt := 35) hx hb dX11_canGoBy_28 (by decide) (fun c_11 => (Int32.lt_irrefl (Int32.lt_of_lt_of_le c_11 (Int32.le_trans hr_9_1 hm))).elim) (fun c_11 => ?_)
      refine lv_iconst (v := 1) hx hb dX11_canGoBy_31 (by decide) ?_
      refine lv_goto (tgt := 36) hx hb dX11_canGoBy_32 (by decide) ?_
      exact W.zret (v := 1) hx hb hr (by decide) (fun t1 ht hW => ⟨⟨1, (σ, I, J, ri, rj, rq), rfl, ⟨rfl, (Or.inl ⟨rfl, hr_4_0, hr_4_1, hr_9_0, hr_9_1⟩)⟩, by rw [ht]; exact hP, va_K.moved hW.alike hK, hD⟩, hS.F ht⟩) hS.2.2 dX11_canGoBy_36
    · refine lv_if_eq (tgt := 35) hx hb dX11_canGoBy_13 (by decide) (fun c_12 => ?_) (fun c_12 => absurd c_12 (by decide))
      refine lv_iconst (v := 0) hx hb dX11_canGoBy_35 (by decide) ?_
      exact W.zret (v := 0) hx hb hr (by decide) (fun t1 ht hW => ⟨⟨0, (σ, I, J, ri, rj, rq), rfl, ⟨rfl, (Or.inr ⟨rfl, fun q => hr_9_0 q.2⟩)⟩, by rw [ht]; exact hP, va_K.moved hW.alike hK, hD⟩, hS.F ht⟩) hS.2.2 dX11_canGoBy_36
  · refine lv_if_eq (tgt := 35) hx hb dX11_canGoBy_4 (by decide) (fun c_13 => ?_) (fun c_13 => absurd c_13 (by decide))
    refine lv_iconst (v := 0) hx hb dX11_canGoBy_35 (by decide) ?_
    exact W.zret (v := 0) hx hb hr (by decide) (fun t1 ht hW => ⟨⟨0, (σ, I, J, ri, rj, rq), rfl, ⟨rfl, (Or.inr ⟨rfl, fun q => hr_4_0 q.1⟩)⟩, by rw [ht]; exact hP, va_K.moved hW.alike hK, hD⟩, hS.F ht⟩) hS.2.2 dX11_canGoBy_36

def sp_months (n rise : Int32) : Int32 := if 0 ≤ rise ∧ rise ≤ 2 ∧ 1 ≤ n ∧ n ≤ 60 then n else (-1)

set_option maxHeartbeats 4000000 in
set_option maxRecDepth 100000 in
theorem lp_X11_months_15 (l : Launch) (D : va_G) (t : pq_T) (σ : pq_S) (I : Nat → Nat → Int32) (J : Nat → Nat → Int64) (ri : Nat → Nat → Int32) (rj : Nat → Nat → Int64) (rq : Nat → Nat → Option Nat) (this : Nat) (n : Int32) (rise : Int32) (hL_this : this ∈ σ.1) (hK_this : σ.2.1 this = 11) (this_now : Nat) (hR_this_now : σ.2.2.1 352 this = some this_now) (hL_this_now : this_now ∈ σ.1) (hK_this_now : σ.2.1 this_now = 10) (this_now_seas : Nat) (hR_this_now_seas : σ.2.2.1 326 this_now = some this_now_seas) (hL_this_now_seas : this_now_seas ∈ σ.1) (hK_this_now_seas : σ.2.1 this_now_seas = 7) (this_now_land : Nat) (hR_this_now_land : σ.2.2.1 327 this_now = some this_now_land) (hL_this_now_land : this_now_land ∈ σ.1) (hK_this_now_land : σ.2.1 this_now_land = 2) (this_now_seas_warm : Nat) (hR_this_now_seas_warm : σ.2.2.1 231 this_now_seas = some this_now_seas_warm) (hL_this_now_seas_warm : this_now_seas_warm ∈ σ.1) (hK_this_now_seas_warm : σ.2.1 this_now_seas_warm = 13) (hN_this_now_seas_warm : σ.2.2.2 this_now_seas_warm = 12) (this_now_seas_drift : Nat) (hR_this_now_seas_drift : σ.2.2.1 232 this_now_seas = some this_now_seas_drift) (hL_this_now_seas_drift : this_now_seas_drift ∈ σ.1) (hK_this_now_seas_drift : σ.2.1 this_now_seas_drift = 13) (hN_this_now_seas_drift : σ.2.2.2 this_now_seas_drift = 12) (this_now_seas_high : Nat) (hR_this_now_seas_high : σ.2.2.1 230 this_now_seas = some this_now_seas_high) (hL_this_now_seas_high : this_now_seas_high ∈ σ.1) (hK_this_now_seas_high : σ.2.1 this_now_seas_high = 13) (hN_this_now_seas_high : σ.2.2.2 this_now_seas_high = 12) (this_now_seas_low : Nat) (hR_this_now_seas_low : σ.2.2.1 229 this_now_seas = some this_now_seas_low) (hL_this_now_seas_low : this_now_seas_low ∈ σ.1) (hK_this_now_seas_low : σ.2.1 this_now_seas_low = 13) (hN_this_now_seas_low : σ.2.2.2 this_now_seas_low = 12) (this_now_land_rocks : Nat) (hR_this_now_land_rocks : σ.2.2.1 68 this_now_land = some this_now_land_rocks) (hL_this_now_land_rocks : this_now_land_rocks ∈ σ.1) (hK_this_now_land_rocks : σ.2.1 this_now_land_rocks = 14) (hN_this_now_land_rocks : σ.2.2.2 this_now_land_rocks = 600) (this_now_land_wells : Nat) (hR_this_now_land_wells : σ.2.2.1 78 this_now_land = some this_now_land_wells) (hL_this_now_land_wells : this_now_land_wells ∈ σ.1) (hK_this_now_land_wells : σ.2.1 this_now_land_wells = 9) (this_now_seas_rain : Nat) (hR_this_now_seas_rain : σ.2.2.1 233 this_now_seas = some this_now_seas_rain) (hL_this_now_seas_rain : this_now_seas_rain ∈ σ.1) (hK_this_now_seas_rain : σ.2.1 this_now_seas_rain = 13) (hN_this_now_seas_rain : σ.2.2.2 this_now_seas_rain = 12) (this_now_ringBeds : Nat) (hR_this_now_ringBeds : σ.2.2.1 332 this_now = some this_now_ringBeds) (hL_this_now_ringBeds : this_now_ringBeds ∈ σ.1) (hK_this_now_ringBeds : σ.2.1 this_now_ringBeds = 13) (hN_this_now_ringBeds : σ.2.2.2 this_now_ringBeds = 5) (this_now_folk : Nat) (hR_this_now_folk : σ.2.2.1 328 this_now = some this_now_folk) (hL_this_now_folk : this_now_folk ∈ σ.1) (hK_this_now_folk : σ.2.1 this_now_folk = 0) (this_now_land_first : Nat) (hR_this_now_land_first : σ.2.2.1 80 this_now_land = some this_now_land_first) (hL_this_now_land_first : this_now_land_first ∈ σ.1) (hK_this_now_land_first : σ.2.1 this_now_land_first = 13) (hN_this_now_land_first : σ.2.2.2 this_now_land_first = 5) (this_now_folk_ofRing : Nat) (hR_this_now_folk_ofRing : σ.2.2.1 12 this_now_folk = some this_now_folk_ofRing) (hL_this_now_folk_ofRing : this_now_folk_ofRing ∈ σ.1) (hK_this_now_folk_ofRing : σ.2.1 this_now_folk_ofRing = 13) (hN_this_now_folk_ofRing : σ.2.2.2 this_now_folk_ofRing = 5) (this_now_law : Nat) (hR_this_now_law : σ.2.2.1 329 this_now = some this_now_law) (hL_this_now_law : this_now_law ∈ σ.1) (hK_this_now_law : σ.2.1 this_now_law = 3) (this_now_land_rows : Nat) (hR_this_now_land_rows : σ.2.2.1 82 this_now_land = some this_now_land_rows) (hL_this_now_land_rows : this_now_land_rows ∈ σ.1) (hK_this_now_land_rows : σ.2.1 this_now_land_rows = 13) (hN_this_now_land_rows : σ.2.2.2 this_now_land_rows = 32) (this_now_land_widths : Nat) (hR_this_now_land_widths : σ.2.2.1 83 this_now_land = some this_now_land_widths) (hL_this_now_land_widths : this_now_land_widths ∈ σ.1) (hK_this_now_land_widths : σ.2.1 this_now_land_widths = 13) (hN_this_now_land_widths : σ.2.2.2 this_now_land_widths = 21) (hZ : pq_Z I) (hC0 : I 320 this_now = 0) (hRe : I 237 this_now_seas = 3) (hrw : this_now_land_rows ≠ this_now_land_widths) (nn : Nat) (hnn : nn ≤ 60) {p : Program} {e : Env} {s : State} {m : MethodId} {args : Array Value} {below : List Frame} {meth : Method} {c : Code} {cells slots : Nat} {Q : State → Prop} {A : Nat → Prop} (hx : p.tables.exec = Jvm.exec) (hb : c.code = cX11_months) (hml : c.maxLocals = 4) (hts : ∀ w ∈ (wa yX11_months cX11_months 4 (some .int)), w.before args s = true) (hown : s.vm.findClass RX11 = some m.cls) (hK : va_K D vwCl (pq_ty t) s) (hN : pq_N s) (hA : ∀ q : Nat, s.heap.size ≤ q → A q) (hcs : cells = 0 ∧ slots = 0)
    (kk : ∀ (i : Nat) (I' : Nat → Nat → Int32) (J' : Nat → Nat → Int64) (ri' : Nat → Nat → Int32) (rj' : Nat → Nat → Int64) (H : Heap) (locs : List Loc) (ls : Array Slot), (i ≤ nn) → (pq_Z I') → (I' 320 this_now = nI i) → (I' 237 this_now_seas = 3) → (∀ f, f ∉ ([320, 324] : List Nat) → I' f = I f) → (nn ≤ i) → va_P D vwCl (pq_P t σ (I', J', ri', rj', rq)) H → va_D A (pq_P t σ (I', J', ri', rj', rq)) → va_S A s.heap H locs → lv_has ls 4 [(3, .int (nI i)), (0, .ref this), (1, .int (nI nn)), (2, .int rise)] → W p l e ({ frames := 5, cells := 0, slots := 0, locals := 128 } : Room) s m args below meth c H locs cells slots Q (F0 m 34 ls [])) :
    ∀ (n : Nat) (i : Nat) (I' : Nat → Nat → Int32) (J' : Nat → Nat → Int64) (ri' : Nat → Nat → Int32) (rj' : Nat → Nat → Int64) (H : Heap) (locs : List Loc) (ls : Array Slot), (i ≤ nn) → (pq_Z I') → (I' 320 this_now = nI i) → (I' 237 this_now_seas = 3) → (∀ f, f ∉ ([320, 324] : List Nat) → I' f = I f) → (nn - i) < n → va_P D vwCl (pq_P t σ (I', J', ri', rj', rq)) H → va_D A (pq_P t σ (I', J', ri', rj', rq)) → va_S A s.heap H locs → lv_has ls 4 [(3, .int (nI i)), (0, .ref this), (1, .int (nI nn)), (2, .int rise)] → W p l e ({ frames := 5, cells := 0, slots := 0, locals := 128 } : Room) s m args below meth c H locs cells slots Q (F0 m 15 ls []) := by
  obtain ⟨rfl, rfl⟩ := hcs
  intro n
  induction n with
  | zero => intro i I' J' ri' rj' H locs ls hi hZ' hC' hR' hf hm; exact absurd hm (Nat.not_lt_zero _)
  | succ n ih =>
    intro i I' J' ri' rj' H locs ls hi hZ' hC' hR' hf hm hP hD hS hl
    refine lv_iload_n hx hb dX11_months_15 rfl (lv_at hl 0 rfl) ?_
    refine lv_iload_n hx hb dX11_months_16 rfl (lv_at hl 2 rfl) ?_
    refine lv_icmp_ge (tgt := 34) hx hb dX11_months_17 (by decide) (fun c_1 => ?_) (fun c_1 => ?_)
    · have nc_1 := nq_le (a := nn) (b := i) (by omega) (by omega) c_1
      exact kk i I' J' ri' rj' _ _ _ hi hZ' hC' hR' hf nc_1 hP hD hS (lv_sub hl [0, 1, 2, 3] rfl)
    · have nc_1 := nq_nle (a := nn) (b := i) (by omega) (by omega) c_1
      refine lv_aload_n hx hb dX11_months_20 rfl (lv_at hl 1 rfl) ?_
      refine pg_f (v := .ref this_now) (C := RX11) (T := TX11) (N := 5) hx hb hts (tw_i inlX11) hown hK hP hL_this hK_this (by decide) rfl 0 (by decide) (hts _ (tw_c tw_16)) (pq_hv rfl hR_this_now) dX11_months_21 ?_
      refine lv_iload_n hx hb dX11_months_24 rfl (lv_at hl 3 rfl) ?_
      refine pk_v (va_runV (As := [.int rise]) (rest := []) ⟨hx, hb, hml, hown, hts⟩ (c_X10_goBy l D t σ I' J' ri' rj' rq H.size this_now rise hL_this_now hK_this_now this_now_seas hR_this_now_seas hL_this_now_seas hK_this_now_seas this_now_land hR_this_now_land hL_this_now_land hK_this_now_land this_now_seas_warm hR_this_now_seas_warm hL_this_now_seas_warm hK_this_now_seas_warm hN_this_now_seas_warm this_now_seas_drift hR_this_now_seas_drift hL_this_now_seas_drift hK_this_now_seas_drift hN_this_now_seas_drift this_now_seas_high hR_this_now_seas_high hL_this_now_seas_high hK_this_now_seas_high hN_this_now_seas_high this_now_seas_low hR_this_now_seas_low hL_this_now_seas_low hK_this_now_seas_low hN_this_now_seas_low this_now_land_rocks hR_this_now_land_rocks hL_this_now_land_rocks hK_this_now_land_rocks hN_this_now_land_rocks this_now_land_wells hR_this_now_land_wells hL_this_now_land_wells hK_this_now_land_wells this_now_seas_rain hR_this_now_seas_rain hL_this_now_seas_rain hK_this_now_seas_rain hN_this_now_seas_rain this_now_ringBeds hR_this_now_ringBeds hL_this_now_ringBeds hK_this_now_ringBeds hN_this_now_ringBeds this_now_folk hR_this_now_folk hL_this_now_folk hK_this_now_folk this_now_land_first hR_this_now_land_first hL_this_now_land_first hK_this_now_land_first hN_this_now_land_first this_now_folk_ofRing hR_this_now_folk_ofRing hL_this_now_folk_ofRing hK_this_now_folk_ofRing hN_this_now_folk_ofRing this_now_law hR_this_now_law hL_this_now_law hK_this_now_law this_now_land_rows hR_this_now_land_rows hL_this_now_land_rows hK_this_now_land_rows hN_this_now_land_rows this_now_land_widths hR_this_now_land_widths hL_this_now_land_widths hK_this_now_land_widths hN_this_now_land_widths hZ' i (by omega) hC' hR' hrw) (cwV 1 hts (tw_V tw_1039 tw_1040 tw_1041 tw_15 tw_1042) rfl rfl rfl (by decide +kernel) ⟨Nat.le_of_ble_eq_true rfl, Nat.le_of_ble_eq_true rfl⟩) ⟨pq_blind, pq_recv hK hP hL_this_now hK_this_now (by decide) rfl, pq_pre hK hN hP hD⟩ rfl rfl hl.1 rfl (lv_room (Nat.le_of_ble_eq_true rfl)) dX11_months_25 ⟨Nat.le_of_ble_eq_true rfl, Nat.le_of_ble_eq_true rfl⟩) hD hS hA (fun σ1 μ1 H locs hw_3 hP hD hS => ?_)
      obtain ⟨I_4, J_5, ri_6, rj_7, hu_8, hu_8f, hu_8p0⟩ := hw_3
      obtain ⟨hu_8a, hu_8b⟩ := Prod.mk.inj hu_8
      rw [hu_8a, hu_8b] at hP hD
      refine lv_iinc (v := (nI (i + 1))) (lv' := [(3, .int (nI (i + 1))), (0, .ref this), (1, .int (nI nn)), (2, .int rise)]) hx hb dX11_months_28 hl (k := 0) rfl (nI_1 i) (by decide) rfl (fun ls hl => ?_)
      refine lv_goto (tgt := 15) hx hb dX11_months_31 (by decide) ?_
      exact ih (i + 1) I_4 J_5 ri_6 rj_7 _ _ _ (by omega) (pq_Zf hZ' hu_8f (by decide)) hu_8p0 (by rw [hu_8f 237 (by decide)]; exact hR') (fun f hg => by rw [hu_8f f (fun q => hg (by revert q; simp only [List.mem_cons, List.not_mem_nil, or_false]; omega)), hf f (fun q => hg (by revert q; simp only [List.mem_cons, List.not_mem_nil, or_false]; omega))]) (by omega) hP hD hS (lv_sub hl [0, 1, 2, 3] rfl)

set_option maxHeartbeats 4000000 in
set_option maxRecDepth 100000 in
theorem c_X11_months (l : Launch) (D : va_G) (t : pq_T) (σ : pq_S) (I : Nat → Nat → Int32) (J : Nat → Nat → Int64) (ri : Nat → Nat → Int32) (rj : Nat → Nat → Int64) (rq : Nat → Nat → Option Nat) (sz : Nat) (this : Nat) (n : Int32) (rise : Int32) (hL_this : this ∈ σ.1) (hK_this : σ.2.1 this = 11) (this_now : Nat) (hR_this_now : σ.2.2.1 352 this = some this_now) (hL_this_now : this_now ∈ σ.1) (hK_this_now : σ.2.1 this_now = 10) (this_now_seas : Nat) (hR_this_now_seas : σ.2.2.1 326 this_now = some this_now_seas) (hL_this_now_seas : this_now_seas ∈ σ.1) (hK_this_now_seas : σ.2.1 this_now_seas = 7) (this_now_land : Nat) (hR_this_now_land : σ.2.2.1 327 this_now = some this_now_land) (hL_this_now_land : this_now_land ∈ σ.1) (hK_this_now_land : σ.2.1 this_now_land = 2) (this_now_seas_warm : Nat) (hR_this_now_seas_warm : σ.2.2.1 231 this_now_seas = some this_now_seas_warm) (hL_this_now_seas_warm : this_now_seas_warm ∈ σ.1) (hK_this_now_seas_warm : σ.2.1 this_now_seas_warm = 13) (hN_this_now_seas_warm : σ.2.2.2 this_now_seas_warm = 12) (this_now_seas_drift : Nat) (hR_this_now_seas_drift : σ.2.2.1 232 this_now_seas = some this_now_seas_drift) (hL_this_now_seas_drift : this_now_seas_drift ∈ σ.1) (hK_this_now_seas_drift : σ.2.1 this_now_seas_drift = 13) (hN_this_now_seas_drift : σ.2.2.2 this_now_seas_drift = 12) (this_now_seas_high : Nat) (hR_this_now_seas_high : σ.2.2.1 230 this_now_seas = some this_now_seas_high) (hL_this_now_seas_high : this_now_seas_high ∈ σ.1) (hK_this_now_seas_high : σ.2.1 this_now_seas_high = 13) (hN_this_now_seas_high : σ.2.2.2 this_now_seas_high = 12) (this_now_seas_low : Nat) (hR_this_now_seas_low : σ.2.2.1 229 this_now_seas = some this_now_seas_low) (hL_this_now_seas_low : this_now_seas_low ∈ σ.1) (hK_this_now_seas_low : σ.2.1 this_now_seas_low = 13) (hN_this_now_seas_low : σ.2.2.2 this_now_seas_low = 12) (this_now_land_rocks : Nat) (hR_this_now_land_rocks : σ.2.2.1 68 this_now_land = some this_now_land_rocks) (hL_this_now_land_rocks : this_now_land_rocks ∈ σ.1) (hK_this_now_land_rocks : σ.2.1 this_now_land_rocks = 14) (hN_this_now_land_rocks : σ.2.2.2 this_now_land_rocks = 600) (this_now_land_wells : Nat) (hR_this_now_land_wells : σ.2.2.1 78 this_now_land = some this_now_land_wells) (hL_this_now_land_wells : this_now_land_wells ∈ σ.1) (hK_this_now_land_wells : σ.2.1 this_now_land_wells = 9) (this_now_seas_rain : Nat) (hR_this_now_seas_rain : σ.2.2.1 233 this_now_seas = some this_now_seas_rain) (hL_this_now_seas_rain : this_now_seas_rain ∈ σ.1) (hK_this_now_seas_rain : σ.2.1 this_now_seas_rain = 13) (hN_this_now_seas_rain : σ.2.2.2 this_now_seas_rain = 12) (this_now_ringBeds : Nat) (hR_this_now_ringBeds : σ.2.2.1 332 this_now = some this_now_ringBeds) (hL_this_now_ringBeds : this_now_ringBeds ∈ σ.1) (hK_this_now_ringBeds : σ.2.1 this_now_ringBeds = 13) (hN_this_now_ringBeds : σ.2.2.2 this_now_ringBeds = 5) (this_now_folk : Nat) (hR_this_now_folk : σ.2.2.1 328 this_now = some this_now_folk) (hL_this_now_folk : this_now_folk ∈ σ.1) (hK_this_now_folk : σ.2.1 this_now_folk = 0) (this_now_land_first : Nat) (hR_this_now_land_first : σ.2.2.1 80 this_now_land = some this_now_land_first) (hL_this_now_land_first : this_now_land_first ∈ σ.1) (hK_this_now_land_first : σ.2.1 this_now_land_first = 13) (hN_this_now_land_first : σ.2.2.2 this_now_land_first = 5) (this_now_folk_ofRing : Nat) (hR_this_now_folk_ofRing : σ.2.2.1 12 this_now_folk = some this_now_folk_ofRing) (hL_this_now_folk_ofRing : this_now_folk_ofRing ∈ σ.1) (hK_this_now_folk_ofRing : σ.2.1 this_now_folk_ofRing = 13) (hN_this_now_folk_ofRing : σ.2.2.2 this_now_folk_ofRing = 5) (this_now_law : Nat) (hR_this_now_law : σ.2.2.1 329 this_now = some this_now_law) (hL_this_now_law : this_now_law ∈ σ.1) (hK_this_now_law : σ.2.1 this_now_law = 3) (this_now_land_rows : Nat) (hR_this_now_land_rows : σ.2.2.1 82 this_now_land = some this_now_land_rows) (hL_this_now_land_rows : this_now_land_rows ∈ σ.1) (hK_this_now_land_rows : σ.2.1 this_now_land_rows = 13) (hN_this_now_land_rows : σ.2.2.2 this_now_land_rows = 32) (this_now_land_widths : Nat) (hR_this_now_land_widths : σ.2.2.1 83 this_now_land = some this_now_land_widths) (hL_this_now_land_widths : this_now_land_widths ∈ σ.1) (hK_this_now_land_widths : σ.2.1 this_now_land_widths = 13) (hN_this_now_land_widths : σ.2.2.2 this_now_land_widths = 21) (hZ : pq_Z I) (hC0 : I 320 this_now = 0) (hRe : I 237 this_now_seas = 3) (hrw : this_now_land_rows ≠ this_now_land_widths) : MetI l yX11_months (wa yX11_months cX11_months 4 (some .int)) ({ frames := 5, cells := 0, slots := 0, locals := 128 }) [.ref this, .int n, .int rise] D t σ (I, J, ri, rj, rq) sz 0 0 (fun (r : Int32) (u : pq_S × pq_M) => ∃ I' : Nat → Nat → Int32, ∃ J' : Nat → Nat → Int64, ∃ ri' : Nat → Nat → Int32, ∃ rj' : Nat → Nat → Int64, u = (σ, I', J', ri', rj', rq) ∧ (∀ f, f ∉ ([320, 324] : List Nat) → I' f = I f) ∧ (r = sp_months n rise)) := by
  refine Met.ofW (cc := cX11_months) (maxL := 4) (ret := (some .int)) (by decide) rfl ?_
  intro p e s m args below meth c s₁ B hml hv
  obtain ⟨rfl, hsz, hP, hK, hD0, hN⟩ := hv
  have hx := B.exec
  have hb := B.bytes
  have hr := B.returns
  have hts := atoms_spec (ws := (wa yX11_months cX11_months 4 (some .int))) B.pre
  have hown : s.vm.findClass RX11 = some m.cls := findClass_of_methodNamed B.named
  have hlocks := B.notSynchronized
  subst hsz
  have hD : va_D (pq_B t σ (I, J, ri, rj, rq) s.heap.size) (pq_P t σ (I, J, ri, rj, rq)) := hD0.self
  generalize hAe : pq_B t σ (I, J, ri, rj, rq) s.heap.size = A at hD ⊢
  have hA : ∀ q : Nat, s.heap.size ≤ q → A q := fun q h => by rw [← hAe]; exact Or.inr h
  have hS : va_S A s.heap s.heap [] := va_S.rf
  have hl := lv_entry ([.ref this, .int n, .int rise]) (n := 4) (Nat.le_of_ble_eq_true rfl)
  rw [lg_entry_eq]
  generalize (lg_sl ([.ref this, .int n, .int rise]) ++ List.replicate (4 - (lg_sl ([.ref this, .int n, .int rise])).length) Slot.unset).toArray = ls at hl ⊢
  have hl : lv_has ls 4 [(0, .ref this), (1, .int n), (2, .int rise)] := hl
  refine lv_aload_n hx hb dX11_months_0 rfl (lv_at hl 0 rfl) ?_
  refine lv_iload_n hx hb dX11_months_1 rfl (lv_at hl 2 rfl) ?_
  refine lv_iload_n hx hb dX11_months_2 rfl (lv_at hl 1 rfl) ?_
  refine lv_bipush (v := 60) hx hb dX11_months_3 (by decide) ?_
  refine pk_i (va_runV (As := [.int rise, .int n, .int 60]) (rest := []) ⟨hx, hb, hml, hown, hts⟩ (c_X11_canGoBy l D t σ I J ri rj rq (Array.size s.heap) this rise n (60 : Int32) hL_this hK_this this_now hR_this_now hL_this_now hK_this_now hC0 (by decide)) (cwV 3 hts (tw_V tw_1035 tw_1036 tw_1037 tw_2 tw_1038) rfl rfl rfl (by decide +kernel) ⟨Nat.le_of_ble_eq_true rfl, Nat.le_of_ble_eq_true rfl⟩) ⟨pq_blind, pq_recv hK hP hL_this hK_this (by decide) rfl, pq_pre hK hN hP hD⟩ rfl rfl hl.1 rfl (lv_room (Nat.le_of_ble_eq_true rfl)) dX11_months_5 ⟨Nat.le_of_ble_eq_true rfl, Nat.le_of_ble_eq_true rfl⟩) hD hS hA (fun r_1 σ1 μ1 H locs hw_2 hP hD hS => ?_)
  obtain ⟨hu_3, hr_4⟩ := hw_2
  obtain ⟨hu_3a, hu_3b⟩ := Prod.mk.inj hu_3
  rw [hu_3a, hu_3b] at hP hD
  rcases hr_4 with ⟨rfl, hr_4_0, hr_4_1, hr_4_2, hr_4_3⟩ | ⟨rfl, hr_4_0⟩
  · refine lv_if_ne (tgt := 13) hx hb dX11_months_8 (by decide) (fun c_5 => ?_) (fun c_5 => absurd c_5 (by decide))
    obtain ⟨nn, hnn0, hnn1, hnn2⟩ := nI_rg hr_4_2 hr_4_3 (by decide)
    have hnn1 : 1 ≤ nn := by have : (1 : Int32).toInt = 1 := rfl; omega
    have hnn2 : nn ≤ 60 := by have : (60 : Int32).toInt = 60 := rfl; omega
    rw [hnn0] at hl
    refine lv_iconst (v := 0) hx hb dX11_months_13 (by decide) ?_
    refine lv_istore_n (lv' := [(3, .int 0), (0, .ref this), (1, .int (nI nn)), (2, .int rise)]) hx hb dX11_months_14 rfl hl (by decide) rfl (fun ls hl => ?_)
    refine lp_X11_months_15 l D t σ I J ri rj rq this n rise hL_this hK_this this_now hR_this_now hL_this_now hK_this_now this_now_seas hR_this_now_seas hL_this_now_seas hK_this_now_seas this_now_land hR_this_now_land hL_this_now_land hK_this_now_land this_now_seas_warm hR_this_now_seas_warm hL_this_now_seas_warm hK_this_now_seas_warm hN_this_now_seas_warm this_now_seas_drift hR_this_now_seas_drift hL_this_now_seas_drift hK_this_now_seas_drift hN_this_now_seas_drift this_now_seas_high hR_this_now_seas_high hL_this_now_seas_high hK_this_now_seas_high hN_this_now_seas_high this_now_seas_low hR_this_now_seas_low hL_this_now_seas_low hK_this_now_seas_low hN_this_now_seas_low this_now_land_rocks hR_this_now_land_rocks hL_this_now_land_rocks hK_this_now_land_rocks hN_this_now_land_rocks this_now_land_wells hR_this_now_land_wells hL_this_now_land_wells hK_this_now_land_wells this_now_seas_rain hR_this_now_seas_rain hL_this_now_seas_rain hK_this_now_seas_rain hN_this_now_seas_rain this_now_ringBeds hR_this_now_ringBeds hL_this_now_ringBeds hK_this_now_ringBeds hN_this_now_ringBeds this_now_folk hR_this_now_folk hL_this_now_folk hK_this_now_folk this_now_land_first hR_this_now_land_first hL_this_now_land_first hK_this_now_land_first hN_this_now_land_first this_now_folk_ofRing hR_this_now_folk_ofRing hL_this_now_folk_ofRing hK_this_now_folk_ofRing hN_this_now_folk_ofRing this_now_law hR_this_now_law hL_this_now_law hK_this_now_law this_now_land_rows hR_this_now_land_rows hL_this_now_land_rows hK_this_now_land_rows hN_this_now_land_rows this_now_land_widths hR_this_now_land_widths hL_this_now_land_widths hK_this_now_land_widths hN_this_now_land_widths hZ hC0 hRe hrw nn (by omega) hx hb hml hts hown hK hN hA ⟨rfl, rfl⟩ (fun i_10 I_6 J_7 ri_8 rj_9 H locs ls hi_11 hZ'_12 hC'_13 hR'_14 hf_15 hx1_16 hP hD hS hl => ?_) _ 0 I J ri rj _ _ _ (Nat.zero_le _) hZ (hC0.trans nI_0.symm) hRe (fun f hf => rfl) (Nat.lt_succ_self _) hP hD hS (lv_sub hl [0, 1, 2, 3] rfl)
    refine lv_aload_n hx hb dX11_months_34 rfl (lv_at hl 1 rfl) ?_
    refine pg_f (v := .ref this_now) (C := RX11) (T := TX11) (N := 5) hx hb hts (tw_i inlX11) hown hK hP hL_this hK_this (by decide) rfl 0 (by decide) (hts _ (tw_c tw_16)) (pq_hv rfl hR_this_now) dX11_months_35 ?_
    refine pg_f (v := .int (I_6 320 this_now)) (C := RX10) (T := TX10) (N := 13) hx hb hts (tw_i inlX10) hown hK hP hL_this_now hK_this_now (by decide) rfl 0 (by decide) (hts _ (tw_c tw_209)) rfl dX11_months_38 ?_
    refine lv_tov (nI i_10) hC'_13 ?_
    exact W.iret (v := (nI i_10)) hx hb hr (fun t1 ht hW => ⟨⟨(nI i_10), (σ, I_6, J_7, ri_8, rj_9, rq), rfl, ⟨I_6, J_7, ri_8, rj_9, rfl, (fun f hg => by rw [hf_15 f (fun q => hg (by revert q; simp only [List.mem_cons, List.not_mem_nil, or_false]; omega))]), (by unfold sp_months; rw [if_pos ⟨hr_4_0, hr_4_1, hr_4_2, hr_4_3⟩, hnn0, show i_10 = nn from by omega])⟩, by rw [ht]; exact hP, va_K.moved hW.alike hK, hD⟩, hS.F ht⟩) hS.2.2 dX11_months_41
  · refine lv_if_ne (tgt := 13) hx hb dX11_months_8 (by decide) (fun c_17 => absurd c_17 (by decide)) (fun c_17 => ?_)
    refine lv_iconst (v := (-1)) hx hb dX11_months_11 (by decide) ?_
    exact W.iret (v := (-1)) hx hb hr (fun t1 ht hW => ⟨⟨(-1), (σ, I, J, ri, rj, rq), rfl, ⟨I, J, ri, rj, rfl, (fun f hg => rfl), (by unfold sp_months; rw [if_neg (fun q => hr_4_0 ⟨⟨q.1, q.2.1⟩, q.2.2⟩)])⟩, by rw [ht]; exact hP, va_K.moved hW.alike hK, hD⟩, hS.F ht⟩) hS.2.2 dX11_months_12
