theorem dX11_grave_0 : decode cX11_grave 0 = .ok (.aload_n 0, 1) := oc_42 (by decide +kernel)
theorem dX11_grave_1 : decode cX11_grave 1 = .ok (.iload_n 1, 1) := oc_27 (by decide +kernel)
theorem dX11_grave_2 : decode cX11_grave 2 = .ok (.invokevirtual 119, 3) := oc_182 (a := 0) (b := 119) (by decide +kernel)
theorem dX11_grave_23 : decode cX11_grave 23 = .ok (.iconst (-1), 1) := oc_2 (by decide +kernel)
theorem dX11_grave_24 : decode cX11_grave 24 = .ok (.ireturn, 1) := oc_172 (by decide +kernel)
theorem dX11_grave_5 : decode cX11_grave 5 = .ok (.ifCond .eq 18, 3) := oc_153 (a := 0) (b := 18) (by decide +kernel)
theorem dX11_grave_8 : decode cX11_grave 8 = .ok (.aload_n 0, 1) := oc_42 (by decide +kernel)
theorem dX11_grave_9 : decode cX11_grave 9 = .ok (.getfield 10, 3) := oc_180 (a := 0) (b := 10) (by decide +kernel)
theorem dX11_grave_12 : decode cX11_grave 12 = .ok (.getfield 355, 3) := oc_180 (a := 1) (b := 99) (by decide +kernel)
theorem dX11_grave_15 : decode cX11_grave 15 = .ok (.getfield 359, 3) := oc_180 (a := 1) (b := 103) (by decide +kernel)
theorem dX11_grave_18 : decode cX11_grave 18 = .ok (.bipush 30, 2) := oc_16 (a := 30) (by decide +kernel)
theorem dX11_grave_20 : decode cX11_grave 20 = .ok (.if_icmp .lt 5, 3) := oc_161 (a := 0) (b := 5) (by decide +kernel)
theorem dX11_grave_25 : decode cX11_grave 25 = .ok (.aload_n 0, 1) := oc_42 (by decide +kernel)
theorem dX11_grave_26 : decode cX11_grave 26 = .ok (.getfield 10, 3) := oc_180 (a := 0) (b := 10) (by decide +kernel)
theorem dX11_grave_29 : decode cX11_grave 29 = .ok (.getfield 355, 3) := oc_180 (a := 1) (b := 99) (by decide +kernel)
theorem dX11_grave_32 : decode cX11_grave 32 = .ok (.iload_n 1, 1) := oc_27 (by decide +kernel)
theorem tw_1501 : Cond.methodLink RX11 369 yX1_dig ∈ wsL_law := sg_63 _ (List.mem_of_getElem? (i := 13) rfl)
theorem tw_1502 : Cond.instanceMethod yX1_dig ∈ wsL_law := sg_63 _ (List.mem_of_getElem? (i := 14) rfl)
theorem tw_1503 : Cond.selects RX1 yX1_dig yX1_dig ∈ wsL_law := sg_63 _ (List.mem_of_getElem? (i := 15) rfl)
theorem tw_1504 : Cond.code yX1_dig cX1_dig 2 (some .int) ∈ wsL_law := sg_63 _ (List.mem_of_getElem? (i := 16) rfl)
theorem dX11_grave_33 : decode cX11_grave 33 = .ok (.invokevirtual 369, 3) := oc_182 (a := 1) (b := 113) (by decide +kernel)
theorem dX11_grave_36 : decode cX11_grave 36 = .ok (.ireturn, 1) := oc_172 (by decide +kernel)
theorem dX11_bury_0 : decode cX11_bury 0 = .ok (.iload_n 1, 1) := oc_27 (by decide +kernel)
theorem dX11_bury_1 : decode cX11_bury 1 = .ok (.iconst 0, 1) := oc_3 (by decide +kernel)
theorem dX11_bury_2 : decode cX11_bury 2 = .ok (.aload_n 0, 1) := oc_42 (by decide +kernel)
theorem dX11_bury_3 : decode cX11_bury 3 = .ok (.getfield 10, 3) := oc_180 (a := 0) (b := 10) (by decide +kernel)
theorem dX11_bury_6 : decode cX11_bury 6 = .ok (.getfield 355, 3) := oc_180 (a := 1) (b := 99) (by decide +kernel)
theorem dX11_bury_9 : decode cX11_bury 9 = .ok (.getfield 359, 3) := oc_180 (a := 1) (b := 103) (by decide +kernel)
theorem dX11_bury_12 : decode cX11_bury 12 = .ok (.iconst 1, 1) := oc_4 (by decide +kernel)
theorem dX11_bury_13 : decode cX11_bury 13 = .ok (.isub, 1) := oc_100 (by decide +kernel)
theorem dX11_bury_14 : decode cX11_bury 14 = .ok (.invokestatic 50, 3) := oc_184 (a := 0) (b := 50) (by decide +kernel)
theorem dX11_bury_28 : decode cX11_bury 28 = .ok (.iconst 0, 1) := oc_3 (by decide +kernel)
theorem dX11_bury_29 : decode cX11_bury 29 = .ok (.ireturn, 1) := oc_172 (by decide +kernel)
theorem dX11_bury_17 : decode cX11_bury 17 = .ok (.ifCond .eq 11, 3) := oc_153 (a := 0) (b := 11) (by decide +kernel)
theorem dX11_bury_20 : decode cX11_bury 20 = .ok (.aload_n 0, 1) := oc_42 (by decide +kernel)
theorem dX11_bury_21 : decode cX11_bury 21 = .ok (.iload_n 2, 1) := oc_28 (by decide +kernel)
theorem dX11_bury_22 : decode cX11_bury 22 = .ok (.invokevirtual 119, 3) := oc_182 (a := 0) (b := 119) (by decide +kernel)
theorem dX11_bury_25 : decode cX11_bury 25 = .ok (.ifCond .ne 5, 3) := oc_154 (a := 0) (b := 5) (by decide +kernel)
theorem dX11_bury_30 : decode cX11_bury 30 = .ok (.aload_n 0, 1) := oc_42 (by decide +kernel)
theorem dX11_bury_31 : decode cX11_bury 31 = .ok (.getfield 10, 3) := oc_180 (a := 0) (b := 10) (by decide +kernel)
theorem dX11_bury_34 : decode cX11_bury 34 = .ok (.getfield 355, 3) := oc_180 (a := 1) (b := 99) (by decide +kernel)
theorem dX11_bury_37 : decode cX11_bury 37 = .ok (.iload_n 1, 1) := oc_27 (by decide +kernel)
theorem dX11_bury_38 : decode cX11_bury 38 = .ok (.iload_n 2, 1) := oc_28 (by decide +kernel)
theorem tw_1517 : Cond.methodLink RX11 371 yX1_carry ∈ wsL_law := sg_64 _ (List.mem_of_getElem? (i := 5) rfl)
theorem tw_1518 : Cond.instanceMethod yX1_carry ∈ wsL_law := sg_64 _ (List.mem_of_getElem? (i := 6) rfl)
theorem tw_1519 : Cond.selects RX1 yX1_carry yX1_carry ∈ wsL_law := sg_64 _ (List.mem_of_getElem? (i := 7) rfl)
theorem tw_1520 : Cond.code yX1_carry cX1_carry 3 (some .boolean) ∈ wsL_law := sg_64 _ (List.mem_of_getElem? (i := 8) rfl)
theorem dX11_bury_39 : decode cX11_bury 39 = .ok (.invokevirtual 371, 3) := oc_182 (a := 1) (b := 115) (by decide +kernel)
theorem dX11_bury_42 : decode cX11_bury 42 = .ok (.ireturn, 1) := oc_172 (by decide +kernel)
theorem dX11_found_0 : decode cX11_found 0 = .ok (.aload_n 0, 1) := oc_42 (by decide +kernel)
theorem dX11_found_1 : decode cX11_found 1 = .ok (.iload_n 1, 1) := oc_27 (by decide +kernel)
theorem dX11_found_2 : decode cX11_found 2 = .ok (.invokevirtual 119, 3) := oc_182 (a := 0) (b := 119) (by decide +kernel)
theorem dX11_found_27 : decode cX11_found 27 = .ok (.iconst (-1), 1) := oc_2 (by decide +kernel)
theorem dX11_found_28 : decode cX11_found 28 = .ok (.ireturn, 1) := oc_172 (by decide +kernel)
theorem dX11_found_5 : decode cX11_found 5 = .ok (.ifCond .eq 22, 3) := oc_153 (a := 0) (b := 22) (by decide +kernel)
theorem dX11_found_8 : decode cX11_found 8 = .ok (.iload_n 2, 1) := oc_28 (by decide +kernel)
theorem dX11_found_9 : decode cX11_found 9 = .ok (.ifCond .lt 18, 3) := oc_155 (a := 0) (b := 18) (by decide +kernel)
theorem dX11_found_12 : decode cX11_found 12 = .ok (.aload_n 0, 1) := oc_42 (by decide +kernel)
theorem dX11_found_13 : decode cX11_found 13 = .ok (.getfield 10, 3) := oc_180 (a := 0) (b := 10) (by decide +kernel)
theorem dX11_found_16 : decode cX11_found 16 = .ok (.getfield 355, 3) := oc_180 (a := 1) (b := 99) (by decide +kernel)
theorem dX11_found_19 : decode cX11_found 19 = .ok (.iload_n 1, 1) := oc_27 (by decide +kernel)
theorem dX11_found_20 : decode cX11_found 20 = .ok (.iload_n 2, 1) := oc_28 (by decide +kernel)
theorem tw_1529 : Cond.methodLink RX11 375 yX1_whereNow ∈ wsL_law := sg_64 _ (List.mem_of_getElem? (i := 17) rfl)
theorem tw_1530 : Cond.instanceMethod yX1_whereNow ∈ wsL_law := sg_64 _ (List.mem_of_getElem? (i := 18) rfl)
theorem tw_1531 : Cond.selects RX1 yX1_whereNow yX1_whereNow ∈ wsL_law := sg_64 _ (List.mem_of_getElem? (i := 19) rfl)
theorem tw_1532 : Cond.code yX1_whereNow cX1_whereNow 5 (some .int) ∈ wsL_law := sg_64 _ (List.mem_of_getElem? (i := 20) rfl)
theorem dX11_found_21 : decode cX11_found 21 = .ok (.invokevirtual 375, 3) := oc_182 (a := 1) (b := 119) (by decide +kernel)
theorem dX11_found_24 : decode cX11_found 24 = .ok (.goto 4, 3) := oc_167 (a := 0) (b := 4) (by decide +kernel)
theorem dX11_image_0 : decode cX11_image 0 = .ok (.aload_n 0, 1) := oc_42 (by decide +kernel)
theorem tw_17 : Cond.fieldLink RX11 16 "RingsUnder" "kept" "LRingsUnder$World;" ∈ wsL_law := sg_1 _ (List.mem_of_getElem? (i := 17) rfl)
theorem dX11_image_1 : decode cX11_image 1 = .ok (.getfield 16, 3) := oc_180 (a := 0) (b := 16) (by decide +kernel)
theorem dX11_image_4 : decode cX11_image 4 = .ok (.aload_n 0, 1) := oc_42 (by decide +kernel)
theorem dX11_image_5 : decode cX11_image 5 = .ok (.getfield 10, 3) := oc_180 (a := 0) (b := 10) (by decide +kernel)
theorem dX11_image_8 : decode cX11_image 8 = .ok (.invokevirtual 266, 3) := oc_182 (a := 1) (b := 10) (by decide +kernel)
theorem dX11_image_11 : decode cX11_image 11 = .ok (.aload_n 0, 1) := oc_42 (by decide +kernel)
theorem dX11_image_12 : decode cX11_image 12 = .ok (.getfield 10, 3) := oc_180 (a := 0) (b := 10) (by decide +kernel)
theorem dX11_image_15 : decode cX11_image 15 = .ok (.getfield 54, 3) := oc_180 (a := 0) (b := 54) (by decide +kernel)
theorem dX11_image_18 : decode cX11_image 18 = .ok (.ireturn, 1) := oc_172 (by decide +kernel)
theorem dX11_back_0 : decode cX11_back 0 = .ok (.aload_n 0, 1) := oc_42 (by decide +kernel)
theorem dX11_back_1 : decode cX11_back 1 = .ok (.getfield 10, 3) := oc_180 (a := 0) (b := 10) (by decide +kernel)
theorem dX11_back_4 : decode cX11_back 4 = .ok (.aload_n 0, 1) := oc_42 (by decide +kernel)
theorem dX11_back_5 : decode cX11_back 5 = .ok (.getfield 16, 3) := oc_180 (a := 0) (b := 16) (by decide +kernel)
theorem dX11_back_8 : decode cX11_back 8 = .ok (.invokevirtual 266, 3) := oc_182 (a := 1) (b := 10) (by decide +kernel)
theorem dX11_back_11 : decode cX11_back 11 = .ok (.aload_n 0, 1) := oc_42 (by decide +kernel)
theorem dX11_back_12 : decode cX11_back 12 = .ok (.getfield 10, 3) := oc_180 (a := 0) (b := 10) (by decide +kernel)
theorem dX11_back_15 : decode cX11_back 15 = .ok (.getfield 54, 3) := oc_180 (a := 0) (b := 54) (by decide +kernel)
theorem dX11_back_18 : decode cX11_back 18 = .ok (.ireturn, 1) := oc_172 (by decide +kernel)
set_option maxRecDepth 100000 in
def g_X11_grave_K23 (I : Nat → Int32) (J : Nat → Int64) (ri : Nat → Nat → Int32) (rj : Nat → Nat → Int64) (rq : Nat → Nat → Option Nat) : Int32 × vM := ((-1 : Int32), I, J, ri, rj, rq)
set_option maxRecDepth 100000 in
theorem g_X11_grave_K23_e {I : Nat → Int32} {J : Nat → Int64} {ri : Nat → Nat → Int32} {rj : Nat → Nat → Int64} {rq : Nat → Nat → Option Nat} : g_X11_grave_K23 I J ri rj rq  = ((-1 : Int32), I, J, ri, rj, rq) := rfl
set_option maxRecDepth 100000 in
def g_X11_grave (a0 : Int32) (I : Nat → Int32) (J : Nat → Int64) (ri : Nat → Nat → Int32) (rj : Nat → Nat → Int64) (rq : Nat → Nat → Option Nat) : Int32 × vM := (bnI (g_X11_isCell a0 I J ri rj rq) fun (x_1 : Int32) (_ : Nat → Int32) (_ : Nat → Int64) (_ : Nat → Nat → Int32) (_ : Nat → Nat → Int64) (_ : Nat → Nat → Option Nat) => (if x_1 = (0 : Int32) then (g_X11_grave_K23 I J ri rj rq ) else (ap1 (I 32) fun (y_42 : Int32) => (if (y_42) < (30 : Int32) then (bnI (g_X1_dig a0 I J ri rj rq) fun (x_47 : Int32) (I_49 : Nat → Int32) (_ : Nat → Int64) (ri_50 : Nat → Nat → Int32) (rj_51 : Nat → Nat → Int64) (_ : Nat → Nat → Option Nat) => (x_47, I_49, J, ri_50, rj_51, rq)) else (g_X11_grave_K23 I J ri rj rq )))))
set_option maxRecDepth 100000 in
theorem g_X11_grave_e {a0 : Int32} {I : Nat → Int32} {J : Nat → Int64} {ri : Nat → Nat → Int32} {rj : Nat → Nat → Int64} {rq : Nat → Nat → Option Nat} : g_X11_grave a0 I J ri rj rq = (bnI (g_X11_isCell a0 I J ri rj rq) fun (x_1 : Int32) (_ : Nat → Int32) (_ : Nat → Int64) (_ : Nat → Nat → Int32) (_ : Nat → Nat → Int64) (_ : Nat → Nat → Option Nat) => (if x_1 = (0 : Int32) then (g_X11_grave_K23 I J ri rj rq ) else (ap1 (I 32) fun (y_42 : Int32) => (if (y_42) < (30 : Int32) then (bnI (g_X1_dig a0 I J ri rj rq) fun (x_47 : Int32) (I_49 : Nat → Int32) (_ : Nat → Int64) (ri_50 : Nat → Nat → Int32) (rj_51 : Nat → Nat → Int64) (_ : Nat → Nat → Option Nat) => (x_47, I_49, J, ri_50, rj_51, rq)) else (g_X11_grave_K23 I J ri rj rq ))))) := rfl
set_option maxHeartbeats 4000000 in
set_option maxRecDepth 100000 in
theorem s_X11_grave (l : Launch) (D : va_G) (t : pq_T) (σ : pq_S) (I : Nat → Nat → Int32) (J : Nat → Nat → Int64) (ri : Nat → Nat → Int32) (rj : Nat → Nat → Int64) (rq : Nat → Nat → Option Nat) (sz : Nat) (tg : Nat → Nat) (hSH : SH σ tg) (hG0 : GS tg σ I ri rq) (this : Nat) (a0 : Int32) (hL_this : this ∈ σ.1) (hK_this : σ.2.1 this = 11) (this_now : Nat) (hR_this_now : σ.2.2.1 352 this = some this_now) (hL_this_now : this_now ∈ σ.1) (hK_this_now : σ.2.1 this_now = 10) : MetI l yX11_grave (wa yX11_grave cX11_grave 2 (some .int)) ({ frames := 2, cells := 0, slots := 0, locals := 43 }) [.ref this, .int a0] D t σ (I, J, ri, rj, rq) sz 0 0 (fun (r : Int32) (u : pq_S × pq_M) => ∃ I' : Nat → Nat → Int32, ∃ ri' : Nat → Nat → Int32, ∃ rj' : Nat → Nat → Int64, u = (σ, I', J, ri', rj', rq) ∧ GX [1033, 1034, 32] tg σ I ri rj I' ri' rj' rq ∧ g_X11_grave a0 (vI 10 σ this_now I) (vJ 10 σ this_now J) (vR 10 σ this_now ri) (vL 10 σ this_now rj) (vQ 10 σ this_now rq) = (r, (vI 10 σ this_now I'), (vJ 10 σ this_now J), (vR 10 σ this_now ri'), (vL 10 σ this_now rj'), (vQ 10 σ this_now rq)) ∧ FR 10 tg σ this_now (I, J, ri, rj, rq) (I', J, ri', rj', rq) ∧ rg r (-1) 29) := by
  refine Met.ofW (cc := cX11_grave) (maxL := 2) (ret := (some .int)) (by decide) rfl ?_
  intro p e s m args below meth c s₁ B hml hv
  obtain ⟨rfl, hsz, hP, hK, hD0, hN⟩ := hv
  have hx := B.exec
  have hb := B.bytes
  have hr := B.returns
  have hts := atoms_spec (ws := (wa yX11_grave cX11_grave 2 (some .int))) B.pre
  have hown : s.vm.findClass RX11 = some m.cls := findClass_of_methodNamed B.named
  have hlocks := B.notSynchronized
  subst hsz
  have hD : va_D (pq_B t σ (I, J, ri, rj, rq) s.heap.size) (pq_P t σ (I, J, ri, rj, rq)) := hD0.self
  generalize hAe : pq_B t σ (I, J, ri, rj, rq) s.heap.size = A at hD ⊢
  have hA : ∀ q : Nat, s.heap.size ≤ q → A q := fun q h => by rw [← hAe]; exact Or.inr h
  have hS : va_S A s.heap s.heap [] := va_S.rf
  have hG : GX [1033, 1034, 32] tg σ I ri rj I ri rj rq := ⟨hG0, fun _ _ _ => rfl, fun _ _ _ _ _ => rfl, fun _ _ _ _ _ => rfl⟩
  have hl := lv_entry ([.ref this, .int a0]) (n := 2) (Nat.le_of_ble_eq_true rfl)
  rw [lg_entry_eq]
  generalize (lg_sl ([.ref this, .int a0]) ++ List.replicate (2 - (lg_sl ([.ref this, .int a0])).length) Slot.unset).toArray = ls at hl ⊢
  have hl : lv_has ls 2 [(0, .ref this), (1, .int a0)] := hl
  refine q_gen (fun Q hQ => ?_)
  have go : ∀ (H : Heap) (locs : List Loc) (ls : Array Slot), va_P D vwCl (pq_P t σ (I, J, ri, rj, rq)) H → va_D A (pq_P t σ (I, J, ri, rj, rq)) → va_S A s.heap H locs → lv_has ls 2 [(0, .ref this), (1, .int a0)] → W p l e ({ frames := 2, cells := 0, slots := 0, locals := 43 } : Room) s m (List.toArray ([.ref this, .int a0] : List Value)) below meth c H locs 0 0 Q (F0 m 0 ls []) := by
    intro H locs ls hP hD hS hl
    have hVT : VT 10 σ tg this_now := vt_10 hSH hL_this_now hK_this_now
    have hFr : FR 10 tg σ this_now (I, J, ri, rj, rq) (I, J, ri, rj, rq) := fr_rf
    have hO_this_now : this_now = vo σ 10 this_now := rfl
    obtain ⟨F, hF0⟩ : ∃ F, F = g_X11_grave a0 (vI 10 σ this_now I) (vJ 10 σ this_now J) (vR 10 σ this_now ri) (vL 10 σ this_now rj) (vQ 10 σ this_now rq) := ⟨_, rfl⟩
    have hF := hF0.trans g_X11_grave_e
    refine lv_aload_n hx hb dX11_grave_0 rfl (lv_at hl 0 rfl) ?_
    refine lv_iload_n hx hb dX11_grave_1 rfl (lv_at hl 1 rfl) ?_
    refine pk_i (va_runV (As := [.int a0]) (rest := []) ⟨hx, hb, hml, hown, hts⟩ (s_X11_isCell l D t σ I J ri rj rq H.size tg hSH hG.1 this a0 hL_this hK_this this_now hR_this_now hL_this_now hK_this_now) (cwV 1 hts (tw_V tw_332 tw_333 tw_334 tw_2 tw_335) rfl rfl rfl cv_yX11_isCell_1 ⟨Nat.le_of_ble_eq_true rfl, Nat.le_of_ble_eq_true rfl⟩) ⟨pq_blind, pq_recv hK hP hL_this hK_this (by decide) rfl, pq_pre hK hN hP hD⟩ rfl rfl hl.1 rfl (lv_room (Nat.le_of_ble_eq_true rfl)) dX11_grave_2 ⟨Nat.le_of_ble_eq_true rfl, Nat.le_of_ble_eq_true rfl⟩) hD hS hA (fun x_1 σ1 μ1 H locs hw_2 hP hD hS => ?_)
    obtain ⟨hu_3, hfn_6, hr_5⟩ := hw_2
    obtain ⟨hu_3a, hu_3b⟩ := Prod.mk.inj hu_3
    rw [hu_3a, hu_3b] at hP hD
    replace hF := hF.trans (bn_n hfn_6)
    have h_8 : rg x_1 0 1 := by rcases hr_5 with ⟨q, -⟩ | ⟨q, -⟩ <;> rw [q] <;> exact ⟨by decide, by decide⟩
    have K_30 : ∀  (H : Heap) (locs : List Loc) (ls : Array Slot), F = g_X11_grave_K23 (vI 10 σ this_now I) (vJ 10 σ this_now J) (vR 10 σ this_now ri) (vL 10 σ this_now rj) (vQ 10 σ this_now rq)  → FR 10 tg σ this_now (I, J, ri, rj, rq) (I, J, ri, rj, rq) → GX [1033, 1034, 32] tg σ I ri rj I ri rj rq → va_P D vwCl (pq_P t σ (I, J, ri, rj, rq)) H → va_D A (pq_P t σ (I, J, ri, rj, rq)) → va_S A s.heap H locs → lv_has ls 2 [] → W p l e ({ frames := 2, cells := 0, slots := 0, locals := 43 } : Room) s m (List.toArray ([.ref this, .int a0] : List Value)) below meth c H locs 0 0 Q (F0 m 23 ls []) := by
      intro H locs ls hF hFr hG hP hD hS hl
      replace hF := hF.trans g_X11_grave_K23_e
      refine lv_iconst (v := (-1)) hx hb dX11_grave_23 (by decide) ?_
      subst hQ
      exact W.iret (v := (-1)) hx hb hr (fun t1 ht hW => ⟨⟨(-1), (σ, I, J, ri, rj, rq), rfl, ⟨I, ri, rj, rfl, hG, (hF0.symm.trans hF), hFr, (rg_w (rg_k (-1 : Int32) (-1) rfl) (by decide))⟩, by rw [ht]; exact hP, va_K.moved hW.alike hK, hD⟩, hS.F ht⟩) hS.2.2 dX11_grave_24
    refine lv_if_eq (tgt := 23) hx hb dX11_grave_5 (by decide) (fun c_31 => ?_) (fun c_31 => ?_)
    · replace hF := hF.trans (if_pos c_31)
      have f_36 := (hr_5.resolve_left (fun q => absurd (q.1.symm.trans c_31) (by decide))).2
      have h_37 : rg x_1 0 0 := rg_and h_8 (rg_of_eq c_31 (rg_k (0 : Int32) 0 rfl)) (by decide)
      exact K_30 _ _ _ hF hFr hG hP hD hS (lv_sub hl [] rfl)
    · replace hF := hF.trans (if_neg c_31)
      have f_38 := (hr_5.resolve_right (fun q => c_31 q.1)).2
      have h_39 : rg x_1 1 1 := rg_ne c_31 h_8 0 rfl (by decide)
      refine lv_aload_n hx hb dX11_grave_8 rfl (lv_at hl 0 rfl) ?_
      refine pg_f (v := .ref this_now) (C := RX11) (T := TX11) (N := 5) hx hb hts (tw_i inlX11) hown hK hP hL_this hK_this (by decide) rfl 0 (by decide) (hts _ (tw_c tw_16)) (pq_hv rfl hR_this_now) dX11_grave_9 ?_
      obtain ⟨w_40, hR_w_40, hL_w_40, hK_w_40⟩ := sh_o hSH 330 (ci := 10) (kd := 1) rfl hL_this_now hK_this_now
      have hO_w_40 : w_40 = vo σ 1 this_now := vo_k (c := 10) hO_this_now hR_w_40
      refine pg_f (v := .ref w_40) (C := RX10) (T := TX10) (N := 13) hx hb hts (tw_i inlX10) hown hK hP hL_this_now hK_this_now (by decide) rfl 10 (by decide) (hts _ (tw_c tw_1499)) (pq_hv rfl hR_w_40) dX11_grave_12 ?_
      refine pg_f (v := .int (I 32 w_40)) (C := RX1) (T := TX1) (N := 3) hx hb hts (tw_i inlX1) hown hK hP hL_w_40 hK_w_40 (by decide) rfl 0 (by decide) (hts _ (tw_c tw_1500)) rfl dX11_grave_15 ?_
      have h_41 : rg (I 32 w_40) 0 30 := GX.rI hG 32 rfl
      replace hF := hF.trans (ap_n (vI_e (f := 32) hO_w_40 (by decide)))
      refine lv_bipush (v := 30) hx hb dX11_grave_18 (by decide) ?_
      refine lv_icmp_lt (tgt := 25) hx hb dX11_grave_20 (by decide) (fun c_43 => ?_) (fun c_43 => ?_)
      · replace hF := hF.trans (if_pos c_43)
        have h_46 : rg (I 32 w_40) 0 29 := rg_lt1 c_43 h_41 (rg_k (30 : Int32) 30 rfl) (by decide)
        refine lv_aload_n hx hb dX11_grave_25 rfl (lv_at hl 0 rfl) ?_
        refine pg_f (v := .ref this_now) (C := RX11) (T := TX11) (N := 5) hx hb hts (tw_i inlX11) hown hK hP hL_this hK_this (by decide) rfl 0 (by decide) (hts _ (tw_c tw_16)) (pq_hv rfl hR_this_now) dX11_grave_26 ?_
        refine pg_f (v := .ref w_40) (C := RX10) (T := TX10) (N := 13) hx hb hts (tw_i inlX10) hown hK hP hL_this_now hK_this_now (by decide) rfl 10 (by decide) (hts _ (tw_c tw_1499)) (pq_hv rfl hR_w_40) dX11_grave_29 ?_
        refine lv_iload_n hx hb dX11_grave_32 rfl (lv_at hl 1 rfl) ?_
        refine pk_i (va_runV (As := [.int a0]) (rest := []) ⟨hx, hb, hml, hown, hts⟩ (s_X1_dig l D t σ I J ri rj rq H.size tg hSH hG.1 w_40 a0 hL_w_40 hK_w_40 (rg_w f_38 (by decide)) this_now hL_this_now hK_this_now hO_w_40) (cwV 1 hts (tw_V tw_1501 tw_1502 tw_1503 tw_53 tw_1504) rfl rfl rfl cv_yX1_dig_1 ⟨Nat.le_of_ble_eq_true rfl, Nat.le_of_ble_eq_true rfl⟩) ⟨pq_blind, pq_recv hK hP hL_w_40 hK_w_40 (by decide) rfl, pq_pre hK hN hP hD⟩ rfl rfl hl.1 rfl (lv_room (Nat.le_of_ble_eq_true rfl)) dX11_grave_33 ⟨Nat.le_of_ble_eq_true rfl, Nat.le_of_ble_eq_true rfl⟩) hD hS hA (fun x_47 σ1 μ1 H locs hw_48 hP hD hS => ?_)
        obtain ⟨I_49, ri_50, rj_51, hu_52, hg_53, hfn_55, hfr_56, hr_54⟩ := hw_48
        obtain ⟨hu_52a, hu_52b⟩ := Prod.mk.inj hu_52
        rw [hu_52a, hu_52b] at hP hD
        replace hF := hF.trans (bn_n hfn_55)
        replace hFr := fr_tr hFr hfr_56
        have hG := GX.tr hG hg_53 (by decide)
        subst hQ
        exact W.iret (v := x_47) hx hb hr (fun t1 ht hW => ⟨⟨x_47, (σ, I_49, J, ri_50, rj_51, rq), rfl, ⟨I_49, ri_50, rj_51, rfl, hG, (hF0.symm.trans hF), hFr, (rg_w hr_54 (by decide))⟩, by rw [ht]; exact hP, va_K.moved hW.alike hK, hD⟩, hS.F ht⟩) hS.2.2 dX11_grave_36
      · replace hF := hF.trans (if_neg c_43)
        have h_57 : rg (I 32 w_40) 30 30 := rg_le2 (nlt c_43) (rg_k (30 : Int32) 30 rfl) h_41 (by decide)
        exact K_30 _ _ _ hF hFr hG hP hD hS (lv_sub hl [] rfl)
  exact go _ _ _ hP hD hS hl

set_option maxRecDepth 100000 in
def g_X11_bury_K28 (I : Nat → Int32) (J : Nat → Int64) (ri : Nat → Nat → Int32) (rj : Nat → Nat → Int64) (rq : Nat → Nat → Option Nat) : Int32 × vM := ((0 : Int32), I, J, ri, rj, rq)
set_option maxRecDepth 100000 in
theorem g_X11_bury_K28_e {I : Nat → Int32} {J : Nat → Int64} {ri : Nat → Nat → Int32} {rj : Nat → Nat → Int64} {rq : Nat → Nat → Option Nat} : g_X11_bury_K28 I J ri rj rq  = ((0 : Int32), I, J, ri, rj, rq) := rfl
set_option maxRecDepth 100000 in
def g_X11_bury (a0 : Int32) (a1 : Int32) (I : Nat → Int32) (J : Nat → Int64) (ri : Nat → Nat → Int32) (rj : Nat → Nat → Int64) (rq : Nat → Nat → Option Nat) : Int32 × vM := (ap1 (I 32) fun (y_3 : Int32) => (ap1 ((y_3) - (1 : Int32)) fun (x_4 : Int32) => (ap1 (g_X11_between a0 (0 : Int32) x_4) fun (x_6 : Int32) => (if x_6 = (0 : Int32) then (g_X11_bury_K28 I J ri rj rq ) else (bnI (g_X11_isCell a1 I J ri rj rq) fun (x_65 : Int32) (_ : Nat → Int32) (_ : Nat → Int64) (_ : Nat → Nat → Int32) (_ : Nat → Nat → Int64) (_ : Nat → Nat → Option Nat) => (if x_65 = (0 : Int32) then (g_X11_bury_K28 I J ri rj rq ) else (bnI (g_X1_carry a0 a1 I J ri rj rq) fun (x_80 : Int32) (_ : Nat → Int32) (_ : Nat → Int64) (ri_82 : Nat → Nat → Int32) (rj_83 : Nat → Nat → Int64) (_ : Nat → Nat → Option Nat) => (x_80, I, J, ri_82, rj_83, rq))))))))
set_option maxRecDepth 100000 in
theorem g_X11_bury_e {a0 : Int32} {a1 : Int32} {I : Nat → Int32} {J : Nat → Int64} {ri : Nat → Nat → Int32} {rj : Nat → Nat → Int64} {rq : Nat → Nat → Option Nat} : g_X11_bury a0 a1 I J ri rj rq = (ap1 (I 32) fun (y_3 : Int32) => (ap1 ((y_3) - (1 : Int32)) fun (x_4 : Int32) => (ap1 (g_X11_between a0 (0 : Int32) x_4) fun (x_6 : Int32) => (if x_6 = (0 : Int32) then (g_X11_bury_K28 I J ri rj rq ) else (bnI (g_X11_isCell a1 I J ri rj rq) fun (x_65 : Int32) (_ : Nat → Int32) (_ : Nat → Int64) (_ : Nat → Nat → Int32) (_ : Nat → Nat → Int64) (_ : Nat → Nat → Option Nat) => (if x_65 = (0 : Int32) then (g_X11_bury_K28 I J ri rj rq ) else (bnI (g_X1_carry a0 a1 I J ri rj rq) fun (x_80 : Int32) (_ : Nat → Int32) (_ : Nat → Int64) (ri_82 : Nat → Nat → Int32) (rj_83 : Nat → Nat → Int64) (_ : Nat → Nat → Option Nat) => (x_80, I, J, ri_82, rj_83, rq)))))))) := rfl
set_option maxHeartbeats 4000000 in
set_option maxRecDepth 100000 in
theorem s_X11_bury (l : Launch) (D : va_G) (t : pq_T) (σ : pq_S) (I : Nat → Nat → Int32) (J : Nat → Nat → Int64) (ri : Nat → Nat → Int32) (rj : Nat → Nat → Int64) (rq : Nat → Nat → Option Nat) (sz : Nat) (tg : Nat → Nat) (hSH : SH σ tg) (hG0 : GS tg σ I ri rq) (this : Nat) (a0 : Int32) (a1 : Int32) (hL_this : this ∈ σ.1) (hK_this : σ.2.1 this = 11) (this_now : Nat) (hR_this_now : σ.2.2.1 352 this = some this_now) (hL_this_now : this_now ∈ σ.1) (hK_this_now : σ.2.1 this_now = 10) : MetI l yX11_bury (wa yX11_bury cX11_bury 3 (some .boolean)) ({ frames := 2, cells := 0, slots := 0, locals := 43 }) [.ref this, .int a0, .int a1] D t σ (I, J, ri, rj, rq) sz 0 0 (fun (r : Int32) (u : pq_S × pq_M) => ∃ ri' : Nat → Nat → Int32, ∃ rj' : Nat → Nat → Int64, u = (σ, I, J, ri', rj', rq) ∧ GX [1033, 1034] tg σ I ri rj I ri' rj' rq ∧ g_X11_bury a0 a1 (vI 10 σ this_now I) (vJ 10 σ this_now J) (vR 10 σ this_now ri) (vL 10 σ this_now rj) (vQ 10 σ this_now rq) = (r, (vI 10 σ this_now I), (vJ 10 σ this_now J), (vR 10 σ this_now ri'), (vL 10 σ this_now rj'), (vQ 10 σ this_now rq)) ∧ FR 10 tg σ this_now (I, J, ri, rj, rq) (I, J, ri', rj', rq) ∧ ((r = 1 ∧ rg a0 0 29 ∧ rg a1 0 39) ∨ (r = 0 ∧ True))) := by
  refine Met.ofW (cc := cX11_bury) (maxL := 3) (ret := (some .boolean)) (by decide) rfl ?_
  intro p e s m args below meth c s₁ B hml hv
  obtain ⟨rfl, hsz, hP, hK, hD0, hN⟩ := hv
  have hx := B.exec
  have hb := B.bytes
  have hr := B.returns
  have hts := atoms_spec (ws := (wa yX11_bury cX11_bury 3 (some .boolean))) B.pre
  have hown : s.vm.findClass RX11 = some m.cls := findClass_of_methodNamed B.named
  have hlocks := B.notSynchronized
  subst hsz
  have hD : va_D (pq_B t σ (I, J, ri, rj, rq) s.heap.size) (pq_P t σ (I, J, ri, rj, rq)) := hD0.self
  generalize hAe : pq_B t σ (I, J, ri, rj, rq) s.heap.size = A at hD ⊢
  have hA : ∀ q : Nat, s.heap.size ≤ q → A q := fun q h => by rw [← hAe]; exact Or.inr h
  have hS : va_S A s.heap s.heap [] := va_S.rf
  have hG : GX [1033, 1034] tg σ I ri rj I ri rj rq := ⟨hG0, fun _ _ _ => rfl, fun _ _ _ _ _ => rfl, fun _ _ _ _ _ => rfl⟩
  have hl := lv_entry ([.ref this, .int a0, .int a1]) (n := 3) (Nat.le_of_ble_eq_true rfl)
  rw [lg_entry_eq]
  generalize (lg_sl ([.ref this, .int a0, .int a1]) ++ List.replicate (3 - (lg_sl ([.ref this, .int a0, .int a1])).length) Slot.unset).toArray = ls at hl ⊢
  have hl : lv_has ls 3 [(0, .ref this), (1, .int a0), (2, .int a1)] := hl
  refine q_gen (fun Q hQ => ?_)
  have go : ∀ (H : Heap) (locs : List Loc) (ls : Array Slot), va_P D vwCl (pq_P t σ (I, J, ri, rj, rq)) H → va_D A (pq_P t σ (I, J, ri, rj, rq)) → va_S A s.heap H locs → lv_has ls 3 [(0, .ref this), (1, .int a0), (2, .int a1)] → W p l e ({ frames := 2, cells := 0, slots := 0, locals := 43 } : Room) s m (List.toArray ([.ref this, .int a0, .int a1] : List Value)) below meth c H locs 0 0 Q (F0 m 0 ls []) := by
    intro H locs ls hP hD hS hl
    have hVT : VT 10 σ tg this_now := vt_10 hSH hL_this_now hK_this_now
    have hFr : FR 10 tg σ this_now (I, J, ri, rj, rq) (I, J, ri, rj, rq) := fr_rf
    have hO_this_now : this_now = vo σ 10 this_now := rfl
    obtain ⟨F, hF0⟩ : ∃ F, F = g_X11_bury a0 a1 (vI 10 σ this_now I) (vJ 10 σ this_now J) (vR 10 σ this_now ri) (vL 10 σ this_now rj) (vQ 10 σ this_now rq) := ⟨_, rfl⟩
    have hF := hF0.trans g_X11_bury_e
    refine lv_iload_n hx hb dX11_bury_0 rfl (lv_at hl 1 rfl) ?_
    refine lv_iconst (v := 0) hx hb dX11_bury_1 (by decide) ?_
    refine lv_aload_n hx hb dX11_bury_2 rfl (lv_at hl 0 rfl) ?_
    refine pg_f (v := .ref this_now) (C := RX11) (T := TX11) (N := 5) hx hb hts (tw_i inlX11) hown hK hP hL_this hK_this (by decide) rfl 0 (by decide) (hts _ (tw_c tw_16)) (pq_hv rfl hR_this_now) dX11_bury_3 ?_
    obtain ⟨w_1, hR_w_1, hL_w_1, hK_w_1⟩ := sh_o hSH 330 (ci := 10) (kd := 1) rfl hL_this_now hK_this_now
    have hO_w_1 : w_1 = vo σ 1 this_now := vo_k (c := 10) hO_this_now hR_w_1
    refine pg_f (v := .ref w_1) (C := RX10) (T := TX10) (N := 13) hx hb hts (tw_i inlX10) hown hK hP hL_this_now hK_this_now (by decide) rfl 10 (by decide) (hts _ (tw_c tw_1499)) (pq_hv rfl hR_w_1) dX11_bury_6 ?_
    refine pg_f (v := .int (I 32 w_1)) (C := RX1) (T := TX1) (N := 3) hx hb hts (tw_i inlX1) hown hK hP hL_w_1 hK_w_1 (by decide) rfl 0 (by decide) (hts _ (tw_c tw_1500)) rfl dX11_bury_9 ?_
    have h_2 : rg (I 32 w_1) 0 30 := GX.rI hG 32 rfl
    replace hF := hF.trans (ap_n (vI_e (f := 32) hO_w_1 (by decide)))
    refine lv_iconst (v := 1) hx hb dX11_bury_12 (by decide) ?_
    refine lv_isub hx hb dX11_bury_13 ?_
    refine lv_topi (fun x_4 ex_4 => ?_)
    replace hF := hF.trans (ap_n ex_4)
    have h_5 : rg x_4 (-1) 29 := rg_of_eq ex_4 (rg_sub h_2 (rg_k (1 : Int32) 1 rfl) (by decide))
    refine pk_i (va_runS (As := [.int a0, .int 0, .int x_4]) (rest := []) ⟨hx, hb, hml, hown, hts⟩ (s_X11_between l D t σ I J ri rj rq H.size tg hSH hG.1 a0 (0 : Int32) x_4) (va_cwS 3 hts (tw_S tw_215 tw_216 tw_2 tw_217) rfl rfl rfl cd_yX11_between_3 ⟨Nat.le_of_ble_eq_true rfl, Nat.le_of_ble_eq_true rfl⟩) ⟨pq_blind, pq_pre hK hN hP hD⟩ rfl rfl hl.1 rfl (lv_room (Nat.le_of_ble_eq_true rfl)) dX11_bury_14 ⟨Nat.le_of_ble_eq_true rfl, Nat.le_of_ble_eq_true rfl⟩) hD hS hA (fun x_6 σ1 μ1 H locs hw_7 hP hD hS => ?_)
    obtain ⟨hu_8, hfn_11, hr_10⟩ := hw_7
    obtain ⟨hu_8a, hu_8b⟩ := Prod.mk.inj hu_8
    rw [hu_8a, hu_8b] at hP hD
    replace hF := hF.trans (ap_n hfn_11.symm)
    have h_13 : rg x_6 0 1 := by rcases hr_10 with ⟨q, -⟩ | ⟨q, -⟩ <;> rw [q] <;> exact ⟨by decide, by decide⟩
    have K_47 : ∀  (H : Heap) (locs : List Loc) (ls : Array Slot), F = g_X11_bury_K28 (vI 10 σ this_now I) (vJ 10 σ this_now J) (vR 10 σ this_now ri) (vL 10 σ this_now rj) (vQ 10 σ this_now rq)  → FR 10 tg σ this_now (I, J, ri, rj, rq) (I, J, ri, rj, rq) → GX [1033, 1034] tg σ I ri rj I ri rj rq → va_P D vwCl (pq_P t σ (I, J, ri, rj, rq)) H → va_D A (pq_P t σ (I, J, ri, rj, rq)) → va_S A s.heap H locs → lv_has ls 3 [] → W p l e ({ frames := 2, cells := 0, slots := 0, locals := 43 } : Room) s m (List.toArray ([.ref this, .int a0, .int a1] : List Value)) below meth c H locs 0 0 Q (F0 m 28 ls []) := by
      intro H locs ls hF hFr hG hP hD hS hl
      replace hF := hF.trans g_X11_bury_K28_e
      refine lv_iconst (v := 0) hx hb dX11_bury_28 (by decide) ?_
      subst hQ
      exact W.zret (v := 0) hx hb hr (by decide) (fun t1 ht hW => ⟨⟨0, (σ, I, J, ri, rj, rq), rfl, ⟨ri, rj, rfl, hG, (hF0.symm.trans hF), hFr, (Or.inr ⟨rfl, trivial⟩)⟩, by rw [ht]; exact hP, va_K.moved hW.alike hK, hD⟩, hS.F ht⟩) hS.2.2 dX11_bury_29
    refine lv_if_eq (tgt := 28) hx hb dX11_bury_17 (by decide) (fun c_48 => ?_) (fun c_48 => ?_)
    · replace hF := hF.trans (if_pos c_48)
      have f_57 := (hr_10.resolve_left (fun q => absurd (q.1.symm.trans c_48) (by decide))).2
      have h_58 : rg x_6 0 0 := rg_and h_13 (rg_of_eq c_48 (rg_k (0 : Int32) 0 rfl)) (by decide)
      exact K_47 _ _ _ hF hFr hG hP hD hS (lv_sub hl [] rfl)
    · replace hF := hF.trans (if_neg c_48)
      obtain ⟨f_59, f_60⟩ := (hr_10.resolve_right (fun q => c_48 q.1)).2
      have h_61 : rg a0 0 2147483647 := rg_le2 f_59 (rg_k (0 : Int32) 0 rfl) (rg_full _) (by decide)
      have h_62 : rg a0 0 29 := rg_le1 f_60 h_61 h_5 (by decide)
      have h_63 : rg x_4 0 29 := rg_le2 f_60 h_61 h_5 (by decide)
      have h_64 : rg x_6 1 1 := rg_ne c_48 h_13 0 rfl (by decide)
      refine lv_aload_n hx hb dX11_bury_20 rfl (lv_at hl 0 rfl) ?_
      refine lv_iload_n hx hb dX11_bury_21 rfl (lv_at hl 2 rfl) ?_
      refine pk_i (va_runV (As := [.int a1]) (rest := []) ⟨hx, hb, hml, hown, hts⟩ (s_X11_isCell l D t σ I J ri rj rq H.size tg hSH hG.1 this a1 hL_this hK_this this_now hR_this_now hL_this_now hK_this_now) (cwV 1 hts (tw_V tw_332 tw_333 tw_334 tw_2 tw_335) rfl rfl rfl cv_yX11_isCell_1 ⟨Nat.le_of_ble_eq_true rfl, Nat.le_of_ble_eq_true rfl⟩) ⟨pq_blind, pq_recv hK hP hL_this hK_this (by decide) rfl, pq_pre hK hN hP hD⟩ rfl rfl hl.1 rfl (lv_room (Nat.le_of_ble_eq_true rfl)) dX11_bury_22 ⟨Nat.le_of_ble_eq_true rfl, Nat.le_of_ble_eq_true rfl⟩) hD hS hA (fun x_65 σ1 μ1 H locs hw_66 hP hD hS => ?_)
      obtain ⟨hu_67, hfn_70, hr_69⟩ := hw_66
      obtain ⟨hu_67a, hu_67b⟩ := Prod.mk.inj hu_67
      rw [hu_67a, hu_67b] at hP hD
      replace hF := hF.trans (bn_n hfn_70)
      have h_72 : rg x_65 0 1 := by rcases hr_69 with ⟨q, -⟩ | ⟨q, -⟩ <;> rw [q] <;> exact ⟨by decide, by decide⟩
      refine lv_if_ne (tgt := 30) hx hb dX11_bury_25 (by decide) (fun c_73 => ?_) (fun c_73 => ?_)
      · replace hF := hF.trans (if_neg c_73)
        have f_78 := (hr_69.resolve_right (fun q => c_73 q.1)).2
        have h_79 : rg x_65 1 1 := rg_ne c_73 h_72 0 rfl (by decide)
        refine lv_aload_n hx hb dX11_bury_30 rfl (lv_at hl 0 rfl) ?_
        refine pg_f (v := .ref this_now) (C := RX11) (T := TX11) (N := 5) hx hb hts (tw_i inlX11) hown hK hP hL_this hK_this (by decide) rfl 0 (by decide) (hts _ (tw_c tw_16)) (pq_hv rfl hR_this_now) dX11_bury_31 ?_
        refine pg_f (v := .ref w_1) (C := RX10) (T := TX10) (N := 13) hx hb hts (tw_i inlX10) hown hK hP hL_this_now hK_this_now (by decide) rfl 10 (by decide) (hts _ (tw_c tw_1499)) (pq_hv rfl hR_w_1) dX11_bury_34 ?_
        refine lv_iload_n hx hb dX11_bury_37 rfl (lv_at hl 1 rfl) ?_
        refine lv_iload_n hx hb dX11_bury_38 rfl (lv_at hl 2 rfl) ?_
        refine pk_i (va_runV (As := [.int a0, .int a1]) (rest := []) ⟨hx, hb, hml, hown, hts⟩ (s_X1_carry l D t σ I J ri rj rq H.size tg hSH hG.1 w_1 a0 a1 hL_w_1 hK_w_1 (rg_w h_62 (by decide)) (rg_w f_78 (by decide)) this_now hL_this_now hK_this_now hO_w_1) (cwV 2 hts (tw_V tw_1517 tw_1518 tw_1519 tw_53 tw_1520) rfl rfl rfl cv_yX1_carry_2 ⟨Nat.le_of_ble_eq_true rfl, Nat.le_of_ble_eq_true rfl⟩) ⟨pq_blind, pq_recv hK hP hL_w_1 hK_w_1 (by decide) rfl, pq_pre hK hN hP hD⟩ rfl rfl hl.1 rfl (lv_room (Nat.le_of_ble_eq_true rfl)) dX11_bury_39 ⟨Nat.le_of_ble_eq_true rfl, Nat.le_of_ble_eq_true rfl⟩) hD hS hA (fun x_80 σ1 μ1 H locs hw_81 hP hD hS => ?_)
        obtain ⟨ri_82, rj_83, hu_84, hg_85, hfn_87, hfr_88, hr_86⟩ := hw_81
        obtain ⟨hu_84a, hu_84b⟩ := Prod.mk.inj hu_84
        rw [hu_84a, hu_84b] at hP hD
        replace hF := hF.trans (bn_n hfn_87)
        replace hFr := fr_tr hFr hfr_88
        have hG := GX.tr hG hg_85 (by decide)
        have h_89 : rg x_80 0 1 := by rcases hr_86 with ⟨q, -⟩ | ⟨q, -⟩ <;> rw [q] <;> exact ⟨by decide, by decide⟩
        rcases bool01 (rg_w h_89 (by decide)) with e_90 | e_90
        · refine lv_tov 0 e_90 ?_
          subst hQ
          exact W.zret (v := 0) hx hb hr (by decide) (fun t1 ht hW => ⟨⟨0, (σ, I, J, ri_82, rj_83, rq), rfl, ⟨ri_82, rj_83, rfl, hG, (hF0.symm.trans (hF.trans (by rw [e_90]))), hFr, (Or.inr ⟨rfl, trivial⟩)⟩, by rw [ht]; exact hP, va_K.moved hW.alike hK, hD⟩, hS.F ht⟩) hS.2.2 dX11_bury_42
        · refine lv_tov 1 e_90 ?_
          subst hQ
          exact W.zret (v := 1) hx hb hr (by decide) (fun t1 ht hW => ⟨⟨1, (σ, I, J, ri_82, rj_83, rq), rfl, ⟨ri_82, rj_83, rfl, hG, (hF0.symm.trans (hF.trans (by rw [e_90]))), hFr, (Or.inl ⟨rfl, (rg_w h_62 (by decide)), (rg_w f_78 (by decide))⟩)⟩, by rw [ht]; exact hP, va_K.moved hW.alike hK, hD⟩, hS.F ht⟩) hS.2.2 dX11_bury_42
      · replace hF := hF.trans (if_pos c_73)
        have f_91 := (hr_69.resolve_left (fun q => absurd (q.1.symm.trans c_73) (by decide))).2
        have h_92 : rg x_65 0 0 := rg_and h_72 (rg_of_eq c_73 (rg_k (0 : Int32) 0 rfl)) (by decide)
        exact K_47 _ _ _ hF hFr hG hP hD hS (lv_sub hl [] rfl)
  exact go _ _ _ hP hD hS hl

set_option maxRecDepth 100000 in
def g_X11_found_K27 (I : Nat → Int32) (J : Nat → Int64) (ri : Nat → Nat → Int32) (rj : Nat → Nat → Int64) (rq : Nat → Nat → Option Nat) : Int32 × vM := ((-1 : Int32), I, J, ri, rj, rq)
set_option maxRecDepth 100000 in
theorem g_X11_found_K27_e {I : Nat → Int32} {J : Nat → Int64} {ri : Nat → Nat → Int32} {rj : Nat → Nat → Int64} {rq : Nat → Nat → Option Nat} : g_X11_found_K27 I J ri rj rq  = ((-1 : Int32), I, J, ri, rj, rq) := rfl
set_option maxRecDepth 100000 in
def g_X11_found (a0 : Int32) (a1 : Int32) (I : Nat → Int32) (J : Nat → Int64) (ri : Nat → Nat → Int32) (rj : Nat → Nat → Int64) (rq : Nat → Nat → Option Nat) : Int32 × vM := (bnI (g_X11_isCell a0 I J ri rj rq) fun (x_1 : Int32) (_ : Nat → Int32) (_ : Nat → Int64) (_ : Nat → Nat → Int32) (_ : Nat → Nat → Int64) (_ : Nat → Nat → Option Nat) => (if x_1 = (0 : Int32) then (g_X11_found_K27 I J ri rj rq ) else (if a1 < (0 : Int32) then (g_X11_found_K27 I J ri rj rq ) else (bnI (g_X1_whereNow a0 a1 I J ri rj rq) fun (x_41 : Int32) (_ : Nat → Int32) (_ : Nat → Int64) (_ : Nat → Nat → Int32) (_ : Nat → Nat → Int64) (_ : Nat → Nat → Option Nat) => (x_41, I, J, ri, rj, rq)))))
set_option maxRecDepth 100000 in
theorem g_X11_found_e {a0 : Int32} {a1 : Int32} {I : Nat → Int32} {J : Nat → Int64} {ri : Nat → Nat → Int32} {rj : Nat → Nat → Int64} {rq : Nat → Nat → Option Nat} : g_X11_found a0 a1 I J ri rj rq = (bnI (g_X11_isCell a0 I J ri rj rq) fun (x_1 : Int32) (_ : Nat → Int32) (_ : Nat → Int64) (_ : Nat → Nat → Int32) (_ : Nat → Nat → Int64) (_ : Nat → Nat → Option Nat) => (if x_1 = (0 : Int32) then (g_X11_found_K27 I J ri rj rq ) else (if a1 < (0 : Int32) then (g_X11_found_K27 I J ri rj rq ) else (bnI (g_X1_whereNow a0 a1 I J ri rj rq) fun (x_41 : Int32) (_ : Nat → Int32) (_ : Nat → Int64) (_ : Nat → Nat → Int32) (_ : Nat → Nat → Int64) (_ : Nat → Nat → Option Nat) => (x_41, I, J, ri, rj, rq))))) := rfl
set_option maxHeartbeats 4000000 in
set_option maxRecDepth 100000 in
theorem s_X11_found (l : Launch) (D : va_G) (t : pq_T) (σ : pq_S) (I : Nat → Nat → Int32) (J : Nat → Nat → Int64) (ri : Nat → Nat → Int32) (rj : Nat → Nat → Int64) (rq : Nat → Nat → Option Nat) (sz : Nat) (tg : Nat → Nat) (hSH : SH σ tg) (hG0 : GS tg σ I ri rq) (this : Nat) (a0 : Int32) (a1 : Int32) (hL_this : this ∈ σ.1) (hK_this : σ.2.1 this = 11) (this_now : Nat) (hR_this_now : σ.2.2.1 352 this = some this_now) (hL_this_now : this_now ∈ σ.1) (hK_this_now : σ.2.1 this_now = 10) : MetI l yX11_found (wa yX11_found cX11_found 3 (some .int)) ({ frames := 2, cells := 0, slots := 0, locals := 46 }) [.ref this, .int a0, .int a1] D t σ (I, J, ri, rj, rq) sz 0 0 (fun (r : Int32) (u : pq_S × pq_M) => u = (σ, I, J, ri, rj, rq) ∧ g_X11_found a0 a1 (vI 10 σ this_now I) (vJ 10 σ this_now J) (vR 10 σ this_now ri) (vL 10 σ this_now rj) (vQ 10 σ this_now rq) = (r, (vI 10 σ this_now I), (vJ 10 σ this_now J), (vR 10 σ this_now ri), (vL 10 σ this_now rj), (vQ 10 σ this_now rq)) ∧ rg r (-1) 39) := by
  refine Met.ofW (cc := cX11_found) (maxL := 3) (ret := (some .int)) (by decide) rfl ?_
  intro p e s m args below meth c s₁ B hml hv
  obtain ⟨rfl, hsz, hP, hK, hD0, hN⟩ := hv
  have hx := B.exec
  have hb := B.bytes
  have hr := B.returns
  have hts := atoms_spec (ws := (wa yX11_found cX11_found 3 (some .int))) B.pre
  have hown : s.vm.findClass RX11 = some m.cls := findClass_of_methodNamed B.named
  have hlocks := B.notSynchronized
  subst hsz
  have hD : va_D (pq_B t σ (I, J, ri, rj, rq) s.heap.size) (pq_P t σ (I, J, ri, rj, rq)) := hD0.self
  generalize hAe : pq_B t σ (I, J, ri, rj, rq) s.heap.size = A at hD ⊢
  have hA : ∀ q : Nat, s.heap.size ≤ q → A q := fun q h => by rw [← hAe]; exact Or.inr h
  have hS : va_S A s.heap s.heap [] := va_S.rf
  have hG : GX [] tg σ I ri rj I ri rj rq := ⟨hG0, fun _ _ _ => rfl, fun _ _ _ _ _ => rfl, fun _ _ _ _ _ => rfl⟩
  have hl := lv_entry ([.ref this, .int a0, .int a1]) (n := 3) (Nat.le_of_ble_eq_true rfl)
  rw [lg_entry_eq]
  generalize (lg_sl ([.ref this, .int a0, .int a1]) ++ List.replicate (3 - (lg_sl ([.ref this, .int a0, .int a1])).length) Slot.unset).toArray = ls at hl ⊢
  have hl : lv_has ls 3 [(0, .ref this), (1, .int a0), (2, .int a1)] := hl
  refine q_gen (fun Q hQ => ?_)
  have go : ∀ (H : Heap) (locs : List Loc) (ls : Array Slot), va_P D vwCl (pq_P t σ (I, J, ri, rj, rq)) H → va_D A (pq_P t σ (I, J, ri, rj, rq)) → va_S A s.heap H locs → lv_has ls 3 [(0, .ref this), (1, .int a0), (2, .int a1)] → W p l e ({ frames := 2, cells := 0, slots := 0, locals := 46 } : Room) s m (List.toArray ([.ref this, .int a0, .int a1] : List Value)) below meth c H locs 0 0 Q (F0 m 0 ls []) := by
    intro H locs ls hP hD hS hl
    have hVT : VT 10 σ tg this_now := vt_10 hSH hL_this_now hK_this_now
    have hFr : FR 10 tg σ this_now (I, J, ri, rj, rq) (I, J, ri, rj, rq) := fr_rf
    have hO_this_now : this_now = vo σ 10 this_now := rfl
    obtain ⟨F, hF0⟩ : ∃ F, F = g_X11_found a0 a1 (vI 10 σ this_now I) (vJ 10 σ this_now J) (vR 10 σ this_now ri) (vL 10 σ this_now rj) (vQ 10 σ this_now rq) := ⟨_, rfl⟩
    have hF := hF0.trans g_X11_found_e
    refine lv_aload_n hx hb dX11_found_0 rfl (lv_at hl 0 rfl) ?_
    refine lv_iload_n hx hb dX11_found_1 rfl (lv_at hl 1 rfl) ?_
    refine pk_i (va_runV (As := [.int a0]) (rest := []) ⟨hx, hb, hml, hown, hts⟩ (s_X11_isCell l D t σ I J ri rj rq H.size tg hSH hG.1 this a0 hL_this hK_this this_now hR_this_now hL_this_now hK_this_now) (cwV 1 hts (tw_V tw_332 tw_333 tw_334 tw_2 tw_335) rfl rfl rfl cv_yX11_isCell_1 ⟨Nat.le_of_ble_eq_true rfl, Nat.le_of_ble_eq_true rfl⟩) ⟨pq_blind, pq_recv hK hP hL_this hK_this (by decide) rfl, pq_pre hK hN hP hD⟩ rfl rfl hl.1 rfl (lv_room (Nat.le_of_ble_eq_true rfl)) dX11_found_2 ⟨Nat.le_of_ble_eq_true rfl, Nat.le_of_ble_eq_true rfl⟩) hD hS hA (fun x_1 σ1 μ1 H locs hw_2 hP hD hS => ?_)
    obtain ⟨hu_3, hfn_6, hr_5⟩ := hw_2
    obtain ⟨hu_3a, hu_3b⟩ := Prod.mk.inj hu_3
    rw [hu_3a, hu_3b] at hP hD
    replace hF := hF.trans (bn_n hfn_6)
    have h_8 : rg x_1 0 1 := by rcases hr_5 with ⟨q, -⟩ | ⟨q, -⟩ <;> rw [q] <;> exact ⟨by decide, by decide⟩
    have K_25 : ∀  (H : Heap) (locs : List Loc) (ls : Array Slot), F = g_X11_found_K27 (vI 10 σ this_now I) (vJ 10 σ this_now J) (vR 10 σ this_now ri) (vL 10 σ this_now rj) (vQ 10 σ this_now rq)  → FR 10 tg σ this_now (I, J, ri, rj, rq) (I, J, ri, rj, rq) → GX [] tg σ I ri rj I ri rj rq → va_P D vwCl (pq_P t σ (I, J, ri, rj, rq)) H → va_D A (pq_P t σ (I, J, ri, rj, rq)) → va_S A s.heap H locs → lv_has ls 3 [] → W p l e ({ frames := 2, cells := 0, slots := 0, locals := 46 } : Room) s m (List.toArray ([.ref this, .int a0, .int a1] : List Value)) below meth c H locs 0 0 Q (F0 m 27 ls []) := by
      intro H locs ls hF hFr hG hP hD hS hl
      replace hF := hF.trans g_X11_found_K27_e
      refine lv_iconst (v := (-1)) hx hb dX11_found_27 (by decide) ?_
      subst hQ
      exact W.iret (v := (-1)) hx hb hr (fun t1 ht hW => ⟨⟨(-1), (σ, I, J, ri, rj, rq), rfl, ⟨rfl, (hF0.symm.trans hF), (rg_w (rg_k (-1 : Int32) (-1) rfl) (by decide))⟩, by rw [ht]; exact hP, va_K.moved hW.alike hK, hD⟩, hS.F ht⟩) hS.2.2 dX11_found_28
    refine lv_if_eq (tgt := 27) hx hb dX11_found_5 (by decide) (fun c_26 => ?_) (fun c_26 => ?_)
    · replace hF := hF.trans (if_pos c_26)
      have f_31 := (hr_5.resolve_left (fun q => absurd (q.1.symm.trans c_26) (by decide))).2
      have h_32 : rg x_1 0 0 := rg_and h_8 (rg_of_eq c_26 (rg_k (0 : Int32) 0 rfl)) (by decide)
      exact K_25 _ _ _ hF hFr hG hP hD hS (lv_sub hl [] rfl)
    · replace hF := hF.trans (if_neg c_26)
      have f_33 := (hr_5.resolve_right (fun q => c_26 q.1)).2
      have h_34 : rg x_1 1 1 := rg_ne c_26 h_8 0 rfl (by decide)
      refine lv_iload_n hx hb dX11_found_8 rfl (lv_at hl 2 rfl) ?_
      refine lv_if_lt (tgt := 27) hx hb dX11_found_9 (by decide) (fun c_35 => ?_) (fun c_35 => ?_)
      · replace hF := hF.trans (if_pos c_35)
        have h_38 : rg a1 (-2147483648) (-1) := rg_lt1 c_35 (rg_full _) (rg_k (0 : Int32) 0 rfl) (by decide)
        exact K_25 _ _ _ hF hFr hG hP hD hS (lv_sub hl [] rfl)
      · replace hF := hF.trans (if_neg c_35)
        have h_39 : rg a1 0 2147483647 := rg_le2 (nlt c_35) (rg_k (0 : Int32) 0 rfl) (rg_full _) (by decide)
        refine lv_aload_n hx hb dX11_found_12 rfl (lv_at hl 0 rfl) ?_
        refine pg_f (v := .ref this_now) (C := RX11) (T := TX11) (N := 5) hx hb hts (tw_i inlX11) hown hK hP hL_this hK_this (by decide) rfl 0 (by decide) (hts _ (tw_c tw_16)) (pq_hv rfl hR_this_now) dX11_found_13 ?_
        obtain ⟨w_40, hR_w_40, hL_w_40, hK_w_40⟩ := sh_o hSH 330 (ci := 10) (kd := 1) rfl hL_this_now hK_this_now
        have hO_w_40 : w_40 = vo σ 1 this_now := vo_k (c := 10) hO_this_now hR_w_40
        refine pg_f (v := .ref w_40) (C := RX10) (T := TX10) (N := 13) hx hb hts (tw_i inlX10) hown hK hP hL_this_now hK_this_now (by decide) rfl 10 (by decide) (hts _ (tw_c tw_1499)) (pq_hv rfl hR_w_40) dX11_found_16 ?_
        refine lv_iload_n hx hb dX11_found_19 rfl (lv_at hl 1 rfl) ?_
        refine lv_iload_n hx hb dX11_found_20 rfl (lv_at hl 2 rfl) ?_
        refine pk_i (va_runV (As := [.int a0, .int a1]) (rest := []) ⟨hx, hb, hml, hown, hts⟩ (s_X1_whereNow l D t σ I J ri rj rq H.size tg hSH hG.1 w_40 a0 a1 hL_w_40 hK_w_40 this_now hL_this_now hK_this_now hO_w_40) (cwV 2 hts (tw_V tw_1529 tw_1530 tw_1531 tw_53 tw_1532) rfl rfl rfl cv_yX1_whereNow_2 ⟨Nat.le_of_ble_eq_true rfl, Nat.le_of_ble_eq_true rfl⟩) ⟨pq_blind, pq_recv hK hP hL_w_40 hK_w_40 (by decide) rfl, pq_pre hK hN hP hD⟩ rfl rfl hl.1 rfl (lv_room (Nat.le_of_ble_eq_true rfl)) dX11_found_21 ⟨Nat.le_of_ble_eq_true rfl, Nat.le_of_ble_eq_true rfl⟩) hD hS hA (fun x_41 σ1 μ1 H locs hw_42 hP hD hS => ?_)
        obtain ⟨hu_43, hfn_46, hr_45⟩ := hw_42
        obtain ⟨hu_43a, hu_43b⟩ := Prod.mk.inj hu_43
        rw [hu_43a, hu_43b] at hP hD
        replace hF := hF.trans (bn_n hfn_46)
        refine lv_goto (tgt := 28) hx hb dX11_found_24 (by decide) ?_
        subst hQ
        exact W.iret (v := x_41) hx hb hr (fun t1 ht hW => ⟨⟨x_41, (σ, I, J, ri, rj, rq), rfl, ⟨rfl, (hF0.symm.trans hF), (rg_w hr_45 (by decide))⟩, by rw [ht]; exact hP, va_K.moved hW.alike hK, hD⟩, hS.F ht⟩) hS.2.2 dX11_found_28
  exact go _ _ _ hP hD hS hl

set_option maxRecDepth 100000 in
def g_X11_image (nI : Nat → Int32) (nJ : Nat → Int64) (nR : Nat → Nat → Int32) (nL : Nat → Nat → Int64) (nQ : Nat → Nat → Option Nat) (I : Nat → Int32) (J : Nat → Int64) (ri : Nat → Nat → Int32) (rj : Nat → Nat → Int64) (rq : Nat → Nat → Option Nat) : Int32 × vM := (bnV (g_X10_copyFrom nI nJ nR nL nQ I J ri rj rq) fun (I_3 : Nat → Int32) (J_4 : Nat → Int64) (ri_5 : Nat → Nat → Int32) (rj_6 : Nat → Nat → Int64) (rq_7 : Nat → Nat → Option Nat) => (ap1 (nI 320) fun (y_15 : Int32) => ((y_15), I_3, J_4, ri_5, rj_6, rq_7)))
set_option maxRecDepth 100000 in
theorem g_X11_image_e {nI : Nat → Int32} {nJ : Nat → Int64} {nR : Nat → Nat → Int32} {nL : Nat → Nat → Int64} {nQ : Nat → Nat → Option Nat} {I : Nat → Int32} {J : Nat → Int64} {ri : Nat → Nat → Int32} {rj : Nat → Nat → Int64} {rq : Nat → Nat → Option Nat} : g_X11_image nI nJ nR nL nQ I J ri rj rq = (bnV (g_X10_copyFrom nI nJ nR nL nQ I J ri rj rq) fun (I_3 : Nat → Int32) (J_4 : Nat → Int64) (ri_5 : Nat → Nat → Int32) (rj_6 : Nat → Nat → Int64) (rq_7 : Nat → Nat → Option Nat) => (ap1 (nI 320) fun (y_15 : Int32) => ((y_15), I_3, J_4, ri_5, rj_6, rq_7))) := rfl
set_option maxHeartbeats 4000000 in
set_option maxRecDepth 100000 in
theorem s_X11_image (l : Launch) (D : va_G) (t : pq_T) (σ : pq_S) (I : Nat → Nat → Int32) (J : Nat → Nat → Int64) (ri : Nat → Nat → Int32) (rj : Nat → Nat → Int64) (rq : Nat → Nat → Option Nat) (sz : Nat) (tg : Nat → Nat) (hSH : SH σ tg) (hG0 : GS tg σ I ri rq) (this : Nat) (hL_this : this ∈ σ.1) (hK_this : σ.2.1 this = 11) (this_now : Nat) (hR_this_now : σ.2.2.1 352 this = some this_now) (hL_this_now : this_now ∈ σ.1) (hK_this_now : σ.2.1 this_now = 10) (this_kept : Nat) (hR_this_kept : σ.2.2.1 353 this = some this_kept) (hL_this_kept : this_kept ∈ σ.1) (hK_this_kept : σ.2.1 this_kept = 10) (hap : AP 10 tg σ this_kept this_now) : MetI l yX11_image (wa yX11_image cX11_image 1 (some .int)) ({ frames := 5, cells := 0, slots := 0, locals := 144 }) [.ref this] D t σ (I, J, ri, rj, rq) sz 0 0 (fun (r : Int32) (u : pq_S × pq_M) => ∃ I' : Nat → Nat → Int32, ∃ J' : Nat → Nat → Int64, ∃ ri' : Nat → Nat → Int32, ∃ rj' : Nat → Nat → Int64, ∃ rq' : Nat → Nat → Option Nat, u = (σ, I', J', ri', rj', rq') ∧ GX [320, 321, 322, 323, 324, 1325, 224, 1225, 1226, 1227, 1228, 1229, 1230, 1231, 1232, 1233, 234, 235, 236, 237, 238, 64, 65, 1068, 1069, 1070, 1071, 1072, 1073, 1074, 1075, 1077, 1288, 1079, 0, 1001, 1002, 1003, 1004, 1005, 1009, 10, 1011, 96, 98, 1099, 1100, 1101, 32, 1033, 1034] tg σ I ri rj I' ri' rj' rq' ∧ g_X11_image (vI 10 σ this_now I) (vJ 10 σ this_now J) (vR 10 σ this_now ri) (vL 10 σ this_now rj) (vQ 10 σ this_now rq) (vI 10 σ this_kept I) (vJ 10 σ this_kept J) (vR 10 σ this_kept ri) (vL 10 σ this_kept rj) (vQ 10 σ this_kept rq) = (r, (vI 10 σ this_kept I'), (vJ 10 σ this_kept J'), (vR 10 σ this_kept ri'), (vL 10 σ this_kept rj'), (vQ 10 σ this_kept rq')) ∧ FR 10 tg σ this_kept (I, J, ri, rj, rq) (I', J', ri', rj', rq') ∧ rg r 0 600) := by
  refine Met.ofW (cc := cX11_image) (maxL := 1) (ret := (some .int)) (by decide) rfl ?_
  intro p e s m args below meth c s₁ B hml hv
  obtain ⟨rfl, hsz, hP, hK, hD0, hN⟩ := hv
  have hx := B.exec
  have hb := B.bytes
  have hr := B.returns
  have hts := atoms_spec (ws := (wa yX11_image cX11_image 1 (some .int))) B.pre
  have hown : s.vm.findClass RX11 = some m.cls := findClass_of_methodNamed B.named
  have hlocks := B.notSynchronized
  subst hsz
  have hD : va_D (pq_B t σ (I, J, ri, rj, rq) s.heap.size) (pq_P t σ (I, J, ri, rj, rq)) := hD0.self
  generalize hAe : pq_B t σ (I, J, ri, rj, rq) s.heap.size = A at hD ⊢
  have hA : ∀ q : Nat, s.heap.size ≤ q → A q := fun q h => by rw [← hAe]; exact Or.inr h
  have hS : va_S A s.heap s.heap [] := va_S.rf
  have hG : GX [320, 321, 322, 323, 324, 1325, 224, 1225, 1226, 1227, 1228, 1229, 1230, 1231, 1232, 1233, 234, 235, 236, 237, 238, 64, 65, 1068, 1069, 1070, 1071, 1072, 1073, 1074, 1075, 1077, 1288, 1079, 0, 1001, 1002, 1003, 1004, 1005, 1009, 10, 1011, 96, 98, 1099, 1100, 1101, 32, 1033, 1034] tg σ I ri rj I ri rj rq := ⟨hG0, fun _ _ _ => rfl, fun _ _ _ _ _ => rfl, fun _ _ _ _ _ => rfl⟩
  have hl := lv_entry ([.ref this]) (n := 1) (Nat.le_of_ble_eq_true rfl)
  rw [lg_entry_eq]
  generalize (lg_sl ([.ref this]) ++ List.replicate (1 - (lg_sl ([.ref this])).length) Slot.unset).toArray = ls at hl ⊢
  have hl : lv_has ls 1 [(0, .ref this)] := hl
  refine q_gen (fun Q hQ => ?_)
  have go : ∀ (H : Heap) (locs : List Loc) (ls : Array Slot), va_P D vwCl (pq_P t σ (I, J, ri, rj, rq)) H → va_D A (pq_P t σ (I, J, ri, rj, rq)) → va_S A s.heap H locs → lv_has ls 1 [(0, .ref this)] → W p l e ({ frames := 5, cells := 0, slots := 0, locals := 144 } : Room) s m (List.toArray ([.ref this] : List Value)) below meth c H locs 0 0 Q (F0 m 0 ls []) := by
    intro H locs ls hP hD hS hl
    have hVT : VT 10 σ tg this_kept := vt_10 hSH hL_this_kept hK_this_kept
    have hFr : FR 10 tg σ this_kept (I, J, ri, rj, rq) (I, J, ri, rj, rq) := fr_rf
    have hO_this_now : this_now = vo σ 10 this_now := rfl
    have hO_this_kept : this_kept = vo σ 10 this_kept := rfl
    obtain ⟨F, hF0⟩ : ∃ F, F = g_X11_image (vI 10 σ this_now I) (vJ 10 σ this_now J) (vR 10 σ this_now ri) (vL 10 σ this_now rj) (vQ 10 σ this_now rq) (vI 10 σ this_kept I) (vJ 10 σ this_kept J) (vR 10 σ this_kept ri) (vL 10 σ this_kept rj) (vQ 10 σ this_kept rq) := ⟨_, rfl⟩
    have hF := hF0.trans g_X11_image_e
    refine lv_aload_n hx hb dX11_image_0 rfl (lv_at hl 0 rfl) ?_
    refine pg_f (v := .ref this_kept) (C := RX11) (T := TX11) (N := 5) hx hb hts (tw_i inlX11) hown hK hP hL_this hK_this (by decide) rfl 1 (by decide) (hts _ (tw_c tw_17)) (pq_hv rfl hR_this_kept) dX11_image_1 ?_
    refine lv_aload_n hx hb dX11_image_4 rfl (lv_at hl 0 rfl) ?_
    refine pg_f (v := .ref this_now) (C := RX11) (T := TX11) (N := 5) hx hb hts (tw_i inlX11) hown hK hP hL_this hK_this (by decide) rfl 0 (by decide) (hts _ (tw_c tw_16)) (pq_hv rfl hR_this_now) dX11_image_5 ?_
    refine pk_v (va_runV (As := [.ref this_now]) (rest := []) ⟨hx, hb, hml, hown, hts⟩ (s_X10_copyFrom l D t σ I J ri rj rq H.size tg hSH hG.1 this_kept this_now hL_this_kept hK_this_kept hL_this_now hK_this_now hap) (cwV 1 hts (tw_V tw_1362 tw_1363 tw_1364 tw_15 tw_1365) rfl rfl rfl cv_yX10_copyFrom_1 ⟨Nat.le_of_ble_eq_true rfl, Nat.le_of_ble_eq_true rfl⟩) ⟨pq_blind, pq_recv hK hP hL_this_kept hK_this_kept (by decide) rfl, pq_pre hK hN hP hD⟩ rfl rfl hl.1 rfl (lv_room (Nat.le_of_ble_eq_true rfl)) dX11_image_8 ⟨Nat.le_of_ble_eq_true rfl, Nat.le_of_ble_eq_true rfl⟩) hD hS hA (fun σ1 μ1 H locs hw_2 hP hD hS => ?_)
    obtain ⟨I_3, J_4, ri_5, rj_6, rq_7, hu_8, hg_9, hp_11, hfn_12, hfr_13⟩ := hw_2
    obtain ⟨hu_8a, hu_8b⟩ := Prod.mk.inj hu_8
    rw [hu_8a, hu_8b] at hP hD
    replace hF := hF.trans (bv_n hfn_12)
    replace hFr := fr_tr hFr hfr_13
    have hG := GX.tr hG hg_9 (by decide)
    refine lv_aload_n hx hb dX11_image_11 rfl (lv_at hl 0 rfl) ?_
    refine pg_f (v := .ref this_now) (C := RX11) (T := TX11) (N := 5) hx hb hts (tw_i inlX11) hown hK hP hL_this hK_this (by decide) rfl 0 (by decide) (hts _ (tw_c tw_16)) (pq_hv rfl hR_this_now) dX11_image_12 ?_
    refine pg_f (v := .int (I_3 320 this_now)) (C := RX10) (T := TX10) (N := 13) hx hb hts (tw_i inlX10) hown hK hP hL_this_now hK_this_now (by decide) rfl 0 (by decide) (hts _ (tw_c tw_209)) rfl dX11_image_15 ?_
    have h_14 : rg (I_3 320 this_now) 0 600 := GX.rI hG 320 rfl
    replace hF := hF.trans (ap_n (cI_e (f := 320) hFr hap hO_this_now (by decide)))
    subst hQ
    exact W.iret (v := (I_3 320 this_now)) hx hb hr (fun t1 ht hW => ⟨⟨(I_3 320 this_now), (σ, I_3, J_4, ri_5, rj_6, rq_7), rfl, ⟨I_3, J_4, ri_5, rj_6, rq_7, rfl, hG, (hF0.symm.trans hF), hFr, (rg_w h_14 (by decide))⟩, by rw [ht]; exact hP, va_K.moved hW.alike hK, hD⟩, hS.F ht⟩) hS.2.2 dX11_image_18
  exact go _ _ _ hP hD hS hl

set_option maxRecDepth 100000 in
def g_X11_back (nI : Nat → Int32) (nJ : Nat → Int64) (nR : Nat → Nat → Int32) (nL : Nat → Nat → Int64) (nQ : Nat → Nat → Option Nat) (I : Nat → Int32) (J : Nat → Int64) (ri : Nat → Nat → Int32) (rj : Nat → Nat → Int64) (rq : Nat → Nat → Option Nat) : Int32 × vM := (bnV (g_X10_copyFrom nI nJ nR nL nQ I J ri rj rq) fun (I_3 : Nat → Int32) (J_4 : Nat → Int64) (ri_5 : Nat → Nat → Int32) (rj_6 : Nat → Nat → Int64) (rq_7 : Nat → Nat → Option Nat) => (ap1 (I_3 320) fun (y_15 : Int32) => ((y_15), I_3, J_4, ri_5, rj_6, rq_7)))
set_option maxRecDepth 100000 in
theorem g_X11_back_e {nI : Nat → Int32} {nJ : Nat → Int64} {nR : Nat → Nat → Int32} {nL : Nat → Nat → Int64} {nQ : Nat → Nat → Option Nat} {I : Nat → Int32} {J : Nat → Int64} {ri : Nat → Nat → Int32} {rj : Nat → Nat → Int64} {rq : Nat → Nat → Option Nat} : g_X11_back nI nJ nR nL nQ I J ri rj rq = (bnV (g_X10_copyFrom nI nJ nR nL nQ I J ri rj rq) fun (I_3 : Nat → Int32) (J_4 : Nat → Int64) (ri_5 : Nat → Nat → Int32) (rj_6 : Nat → Nat → Int64) (rq_7 : Nat → Nat → Option Nat) => (ap1 (I_3 320) fun (y_15 : Int32) => ((y_15), I_3, J_4, ri_5, rj_6, rq_7))) := rfl
set_option maxHeartbeats 4000000 in
set_option maxRecDepth 100000 in
theorem s_X11_back (l : Launch) (D : va_G) (t : pq_T) (σ : pq_S) (I : Nat → Nat → Int32) (J : Nat → Nat → Int64) (ri : Nat → Nat → Int32) (rj : Nat → Nat → Int64) (rq : Nat → Nat → Option Nat) (sz : Nat) (tg : Nat → Nat) (hSH : SH σ tg) (hG0 : GS tg σ I ri rq) (this : Nat) (hL_this : this ∈ σ.1) (hK_this : σ.2.1 this = 11) (this_kept : Nat) (hR_this_kept : σ.2.2.1 353 this = some this_kept) (hL_this_kept : this_kept ∈ σ.1) (hK_this_kept : σ.2.1 this_kept = 10) (this_now : Nat) (hR_this_now : σ.2.2.1 352 this = some this_now) (hL_this_now : this_now ∈ σ.1) (hK_this_now : σ.2.1 this_now = 10) (hap : AP 10 tg σ this_now this_kept) : MetI l yX11_back (wa yX11_back cX11_back 1 (some .int)) ({ frames := 5, cells := 0, slots := 0, locals := 144 }) [.ref this] D t σ (I, J, ri, rj, rq) sz 0 0 (fun (r : Int32) (u : pq_S × pq_M) => ∃ I' : Nat → Nat → Int32, ∃ J' : Nat → Nat → Int64, ∃ ri' : Nat → Nat → Int32, ∃ rj' : Nat → Nat → Int64, ∃ rq' : Nat → Nat → Option Nat, u = (σ, I', J', ri', rj', rq') ∧ GX [320, 321, 322, 323, 324, 1325, 224, 1225, 1226, 1227, 1228, 1229, 1230, 1231, 1232, 1233, 234, 235, 236, 237, 238, 64, 65, 1068, 1069, 1070, 1071, 1072, 1073, 1074, 1075, 1077, 1288, 1079, 0, 1001, 1002, 1003, 1004, 1005, 1009, 10, 1011, 96, 98, 1099, 1100, 1101, 32, 1033, 1034] tg σ I ri rj I' ri' rj' rq' ∧ g_X11_back (vI 10 σ this_kept I) (vJ 10 σ this_kept J) (vR 10 σ this_kept ri) (vL 10 σ this_kept rj) (vQ 10 σ this_kept rq) (vI 10 σ this_now I) (vJ 10 σ this_now J) (vR 10 σ this_now ri) (vL 10 σ this_now rj) (vQ 10 σ this_now rq) = (r, (vI 10 σ this_now I'), (vJ 10 σ this_now J'), (vR 10 σ this_now ri'), (vL 10 σ this_now rj'), (vQ 10 σ this_now rq')) ∧ FR 10 tg σ this_now (I, J, ri, rj, rq) (I', J', ri', rj', rq') ∧ rg r 0 600) := by
  refine Met.ofW (cc := cX11_back) (maxL := 1) (ret := (some .int)) (by decide) rfl ?_
  intro p e s m args below meth c s₁ B hml hv
  obtain ⟨rfl, hsz, hP, hK, hD0, hN⟩ := hv
  have hx := B.exec
  have hb := B.bytes
  have hr := B.returns
  have hts := atoms_spec (ws := (wa yX11_back cX11_back 1 (some .int))) B.pre
  have hown : s.vm.findClass RX11 = some m.cls := findClass_of_methodNamed B.named
  have hlocks := B.notSynchronized
  subst hsz
  have hD : va_D (pq_B t σ (I, J, ri, rj, rq) s.heap.size) (pq_P t σ (I, J, ri, rj, rq)) := hD0.self
  generalize hAe : pq_B t σ (I, J, ri, rj, rq) s.heap.size = A at hD ⊢
  have hA : ∀ q : Nat, s.heap.size ≤ q → A q := fun q h => by rw [← hAe]; exact Or.inr h
  have hS : va_S A s.heap s.heap [] := va_S.rf
  have hG : GX [320, 321, 322, 323, 324, 1325, 224, 1225, 1226, 1227, 1228, 1229, 1230, 1231, 1232, 1233, 234, 235, 236, 237, 238, 64, 65, 1068, 1069, 1070, 1071, 1072, 1073, 1074, 1075, 1077, 1288, 1079, 0, 1001, 1002, 1003, 1004, 1005, 1009, 10, 1011, 96, 98, 1099, 1100, 1101, 32, 1033, 1034] tg σ I ri rj I ri rj rq := ⟨hG0, fun _ _ _ => rfl, fun _ _ _ _ _ => rfl, fun _ _ _ _ _ => rfl⟩
  have hl := lv_entry ([.ref this]) (n := 1) (Nat.le_of_ble_eq_true rfl)
  rw [lg_entry_eq]
  generalize (lg_sl ([.ref this]) ++ List.replicate (1 - (lg_sl ([.ref this])).length) Slot.unset).toArray = ls at hl ⊢
  have hl : lv_has ls 1 [(0, .ref this)] := hl
  refine q_gen (fun Q hQ => ?_)
  have go : ∀ (H : Heap) (locs : List Loc) (ls : Array Slot), va_P D vwCl (pq_P t σ (I, J, ri, rj, rq)) H → va_D A (pq_P t σ (I, J, ri, rj, rq)) → va_S A s.heap H locs → lv_has ls 1 [(0, .ref this)] → W p l e ({ frames := 5, cells := 0, slots := 0, locals := 144 } : Room) s m (List.toArray ([.ref this] : List Value)) below meth c H locs 0 0 Q (F0 m 0 ls []) := by
    intro H locs ls hP hD hS hl
    have hVT : VT 10 σ tg this_now := vt_10 hSH hL_this_now hK_this_now
    have hFr : FR 10 tg σ this_now (I, J, ri, rj, rq) (I, J, ri, rj, rq) := fr_rf
    have hO_this_kept : this_kept = vo σ 10 this_kept := rfl
    have hO_this_now : this_now = vo σ 10 this_now := rfl
    obtain ⟨F, hF0⟩ : ∃ F, F = g_X11_back (vI 10 σ this_kept I) (vJ 10 σ this_kept J) (vR 10 σ this_kept ri) (vL 10 σ this_kept rj) (vQ 10 σ this_kept rq) (vI 10 σ this_now I) (vJ 10 σ this_now J) (vR 10 σ this_now ri) (vL 10 σ this_now rj) (vQ 10 σ this_now rq) := ⟨_, rfl⟩
    have hF := hF0.trans g_X11_back_e
    refine lv_aload_n hx hb dX11_back_0 rfl (lv_at hl 0 rfl) ?_
    refine pg_f (v := .ref this_now) (C := RX11) (T := TX11) (N := 5) hx hb hts (tw_i inlX11) hown hK hP hL_this hK_this (by decide) rfl 0 (by decide) (hts _ (tw_c tw_16)) (pq_hv rfl hR_this_now) dX11_back_1 ?_
    refine lv_aload_n hx hb dX11_back_4 rfl (lv_at hl 0 rfl) ?_
    refine pg_f (v := .ref this_kept) (C := RX11) (T := TX11) (N := 5) hx hb hts (tw_i inlX11) hown hK hP hL_this hK_this (by decide) rfl 1 (by decide) (hts _ (tw_c tw_17)) (pq_hv rfl hR_this_kept) dX11_back_5 ?_
    refine pk_v (va_runV (As := [.ref this_kept]) (rest := []) ⟨hx, hb, hml, hown, hts⟩ (s_X10_copyFrom l D t σ I J ri rj rq H.size tg hSH hG.1 this_now this_kept hL_this_now hK_this_now hL_this_kept hK_this_kept hap) (cwV 1 hts (tw_V tw_1362 tw_1363 tw_1364 tw_15 tw_1365) rfl rfl rfl cv_yX10_copyFrom_1 ⟨Nat.le_of_ble_eq_true rfl, Nat.le_of_ble_eq_true rfl⟩) ⟨pq_blind, pq_recv hK hP hL_this_now hK_this_now (by decide) rfl, pq_pre hK hN hP hD⟩ rfl rfl hl.1 rfl (lv_room (Nat.le_of_ble_eq_true rfl)) dX11_back_8 ⟨Nat.le_of_ble_eq_true rfl, Nat.le_of_ble_eq_true rfl⟩) hD hS hA (fun σ1 μ1 H locs hw_2 hP hD hS => ?_)
    obtain ⟨I_3, J_4, ri_5, rj_6, rq_7, hu_8, hg_9, hp_11, hfn_12, hfr_13⟩ := hw_2
    obtain ⟨hu_8a, hu_8b⟩ := Prod.mk.inj hu_8
    rw [hu_8a, hu_8b] at hP hD
    replace hF := hF.trans (bv_n hfn_12)
    replace hFr := fr_tr hFr hfr_13
    have hG := GX.tr hG hg_9 (by decide)
    refine lv_aload_n hx hb dX11_back_11 rfl (lv_at hl 0 rfl) ?_
    refine pg_f (v := .ref this_now) (C := RX11) (T := TX11) (N := 5) hx hb hts (tw_i inlX11) hown hK hP hL_this hK_this (by decide) rfl 0 (by decide) (hts _ (tw_c tw_16)) (pq_hv rfl hR_this_now) dX11_back_12 ?_
    refine pg_f (v := .int (I_3 320 this_now)) (C := RX10) (T := TX10) (N := 13) hx hb hts (tw_i inlX10) hown hK hP hL_this_now hK_this_now (by decide) rfl 0 (by decide) (hts _ (tw_c tw_209)) rfl dX11_back_15 ?_
    have h_14 : rg (I_3 320 this_now) 0 600 := GX.rI hG 320 rfl
    replace hF := hF.trans (ap_n (vI_e (f := 320) hO_this_now (by decide)))
    subst hQ
    exact W.iret (v := (I_3 320 this_now)) hx hb hr (fun t1 ht hW => ⟨⟨(I_3 320 this_now), (σ, I_3, J_4, ri_5, rj_6, rq_7), rfl, ⟨I_3, J_4, ri_5, rj_6, rq_7, rfl, hG, (hF0.symm.trans hF), hFr, (rg_w h_14 (by decide))⟩, by rw [ht]; exact hP, va_K.moved hW.alike hK, hD⟩, hS.F ht⟩) hS.2.2 dX11_back_18
  exact go _ _ _ hP hD hS hl
