theorem dX12_either_0 : decode cX12_either 0 = .ok (.iconst 0, 1) := oc_3 (by decide +kernel)
theorem dX12_either_1 : decode cX12_either 1 = .ok (.istore_n 1, 1) := oc_60 (by decide +kernel)
theorem dX12_either_2 : decode cX12_either 2 = .ok (.iconst 0, 1) := oc_3 (by decide +kernel)
theorem dX12_either_3 : decode cX12_either 3 = .ok (.istore_n 2, 1) := oc_61 (by decide +kernel)
theorem dX12_either_4 : decode cX12_either 4 = .ok (.iconst 1, 1) := oc_4 (by decide +kernel)
theorem dX12_either_5 : decode cX12_either 5 = .ok (.istore_n 3, 1) := oc_62 (by decide +kernel)
theorem dX12_either_6 : decode cX12_either 6 = .ok (.iload_n 3, 1) := oc_29 (by decide +kernel)
theorem dX12_either_7 : decode cX12_either 7 = .ok (.ifCond .eq 112, 3) := oc_153 (a := 0) (b := 112) (by decide +kernel)
theorem dX12_either_119 : decode cX12_either 119 = .ok (.iconst 0, 1) := oc_3 (by decide +kernel)
theorem dX12_either_120 : decode cX12_either 120 = .ok (.ireturn, 1) := oc_172 (by decide +kernel)
theorem dX12_either_10 : decode cX12_either 10 = .ok (.aload_n 0, 1) := oc_42 (by decide +kernel)
theorem tw_875 : Cond.methodLink RX12 231 yX12_ask ∈ wsL_law := sg_37 _ (List.mem_of_getElem? (i := 11) rfl)
theorem tw_876 : Cond.instanceMethod yX12_ask ∈ wsL_law := sg_37 _ (List.mem_of_getElem? (i := 12) rfl)
theorem tw_877 : Cond.selects RX12 yX12_ask yX12_ask ∈ wsL_law := sg_37 _ (List.mem_of_getElem? (i := 13) rfl)
theorem tw_878 : Cond.code yX12_ask cX12_ask 5 (some .int) ∈ wsL_law := sg_37 _ (List.mem_of_getElem? (i := 14) rfl)
theorem dX12_either_11 : decode cX12_either 11 = .ok (.invokevirtual 231, 3) := oc_182 (a := 0) (b := 231) (by decide +kernel)
theorem dX12_either_14 : decode cX12_either 14 = .ok (.istore 4, 2) := oc_54 (by decide +kernel)
theorem dX12_either_16 : decode cX12_either 16 = .ok (.iload 4, 2) := oc_21 (by decide +kernel)
theorem dX12_either_18 : decode cX12_either 18 = .ok (.ifCond .eq 6, 3) := oc_153 (a := 0) (b := 6) (by decide +kernel)
theorem dX12_either_24 : decode cX12_either 24 = .ok (.iload_n 1, 1) := oc_27 (by decide +kernel)
theorem dX12_either_25 : decode cX12_either 25 = .ok (.ifCond .eq 10, 3) := oc_153 (a := 0) (b := 10) (by decide +kernel)
theorem dX12_either_35 : decode cX12_either 35 = .ok (.aload_n 0, 1) := oc_42 (by decide +kernel)
theorem dX12_either_36 : decode cX12_either 36 = .ok (.bipush 97, 2) := oc_16 (a := 97) (by decide +kernel)
theorem dX12_either_38 : decode cX12_either 38 = .ok (.bipush 110, 2) := oc_16 (a := 110) (by decide +kernel)
theorem dX12_either_40 : decode cX12_either 40 = .ok (.bipush 100, 2) := oc_16 (a := 100) (by decide +kernel)
theorem dX12_either_42 : decode cX12_either 42 = .ok (.invokestatic 160, 3) := oc_184 (a := 0) (b := 160) (by decide +kernel)
theorem dX12_either_45 : decode cX12_either 45 = .ok (.invokevirtual 221, 3) := oc_182 (a := 0) (b := 221) (by decide +kernel)
theorem dX12_either_48 : decode cX12_either 48 = .ok (.istore_n 1, 1) := oc_60 (by decide +kernel)
theorem dX12_either_49 : decode cX12_either 49 = .ok (.aload_n 0, 1) := oc_42 (by decide +kernel)
theorem dX12_either_50 : decode cX12_either 50 = .ok (.getfield 143, 3) := oc_180 (a := 0) (b := 143) (by decide +kernel)
theorem dX12_either_53 : decode cX12_either 53 = .ok (.iconst 2, 1) := oc_5 (by decide +kernel)
theorem dX12_either_54 : decode cX12_either 54 = .ok (.if_icmp .ne 18, 3) := oc_160 (a := 0) (b := 18) (by decide +kernel)
theorem dX12_either_72 : decode cX12_either 72 = .ok (.iconst 0, 1) := oc_3 (by decide +kernel)
theorem dX12_either_73 : decode cX12_either 73 = .ok (.istore 5, 2) := oc_54 (by decide +kernel)
theorem dX12_either_75 : decode cX12_either 75 = .ok (.iload_n 1, 1) := oc_27 (by decide +kernel)
theorem dX12_either_76 : decode cX12_either 76 = .ok (.ifCond .ne 17, 3) := oc_154 (a := 0) (b := 17) (by decide +kernel)
theorem dX12_either_93 : decode cX12_either 93 = .ok (.iload_n 1, 1) := oc_27 (by decide +kernel)
theorem dX12_either_94 : decode cX12_either 94 = .ok (.ifCond .ne 8, 3) := oc_154 (a := 0) (b := 8) (by decide +kernel)
theorem dX12_either_102 : decode cX12_either 102 = .ok (.iconst 1, 1) := oc_4 (by decide +kernel)
theorem dX12_either_103 : decode cX12_either 103 = .ok (.goto 4, 3) := oc_167 (a := 0) (b := 4) (by decide +kernel)
theorem dX12_either_107 : decode cX12_either 107 = .ok (.istore_n 3, 1) := oc_62 (by decide +kernel)
theorem dX12_either_108 : decode cX12_either 108 = .ok (.iload_n 3, 1) := oc_29 (by decide +kernel)
theorem dX12_either_109 : decode cX12_either 109 = .ok (.ifCond .eq 7, 3) := oc_153 (a := 0) (b := 7) (by decide +kernel)
theorem dX12_either_112 : decode cX12_either 112 = .ok (.aload_n 0, 1) := oc_42 (by decide +kernel)
theorem dX12_either_113 : decode cX12_either 113 = .ok (.invokevirtual 196, 3) := oc_182 (a := 0) (b := 196) (by decide +kernel)
theorem dX12_either_116 : decode cX12_either 116 = .ok (.goto (-110), 3) := oc_167 (a := 255) (b := 146) (by decide +kernel)
theorem dX12_either_79 : decode cX12_either 79 = .ok (.iload_n 2, 1) := oc_28 (by decide +kernel)
theorem dX12_either_80 : decode cX12_either 80 = .ok (.ifCond .eq 10, 3) := oc_153 (a := 0) (b := 10) (by decide +kernel)
theorem dX12_either_90 : decode cX12_either 90 = .ok (.iload 5, 2) := oc_21 (by decide +kernel)
theorem dX12_either_92 : decode cX12_either 92 = .ok (.istore_n 2, 1) := oc_61 (by decide +kernel)
theorem dX12_either_97 : decode cX12_either 97 = .ok (.iload 5, 2) := oc_21 (by decide +kernel)
theorem dX12_either_99 : decode cX12_either 99 = .ok (.ifCond .eq 7, 3) := oc_153 (a := 0) (b := 7) (by decide +kernel)
theorem dX12_either_106 : decode cX12_either 106 = .ok (.iconst 0, 1) := oc_3 (by decide +kernel)
theorem dX12_either_83 : decode cX12_either 83 = .ok (.aload_n 0, 1) := oc_42 (by decide +kernel)
theorem dX12_either_84 : decode cX12_either 84 = .ok (.bipush 22, 2) := oc_16 (a := 22) (by decide +kernel)
theorem dX12_either_86 : decode cX12_either 86 = .ok (.iconst 0, 1) := oc_3 (by decide +kernel)
theorem dX12_either_87 : decode cX12_either 87 = .ok (.invokevirtual 188, 3) := oc_182 (a := 0) (b := 188) (by decide +kernel)
theorem dX12_either_57 : decode cX12_either 57 = .ok (.aload_n 0, 1) := oc_42 (by decide +kernel)
theorem dX12_either_58 : decode cX12_either 58 = .ok (.getfield 156, 3) := oc_180 (a := 0) (b := 156) (by decide +kernel)
theorem tw_874 : Cond.constantLong RX12 234 (28530) ∈ wsL_law := sg_37 _ (List.mem_of_getElem? (i := 10) rfl)
theorem dX12_either_61 : decode cX12_either 61 = .ok (.ldc2_w 234, 3) := oc_20 (a := 0) (b := 234) (by decide +kernel)
theorem dX12_either_64 : decode cX12_either 64 = .ok (.lcmp, 1) := oc_148 (by decide +kernel)
theorem dX12_either_65 : decode cX12_either 65 = .ok (.ifCond .ne 7, 3) := oc_154 (a := 0) (b := 7) (by decide +kernel)
theorem dX12_either_68 : decode cX12_either 68 = .ok (.iconst 1, 1) := oc_4 (by decide +kernel)
theorem dX12_either_69 : decode cX12_either 69 = .ok (.goto 4, 3) := oc_167 (a := 0) (b := 4) (by decide +kernel)
theorem dX12_either_28 : decode cX12_either 28 = .ok (.aload_n 0, 1) := oc_42 (by decide +kernel)
theorem dX12_either_29 : decode cX12_either 29 = .ok (.bipush 21, 2) := oc_16 (a := 21) (by decide +kernel)
theorem dX12_either_31 : decode cX12_either 31 = .ok (.iconst 0, 1) := oc_3 (by decide +kernel)
theorem dX12_either_32 : decode cX12_either 32 = .ok (.invokevirtual 188, 3) := oc_182 (a := 0) (b := 188) (by decide +kernel)
theorem dX12_either_21 : decode cX12_either 21 = .ok (.iload 4, 2) := oc_21 (by decide +kernel)
theorem dX12_either_23 : decode cX12_either 23 = .ok (.ireturn, 1) := oc_172 (by decide +kernel)
set_option maxHeartbeats 4000000 in
set_option maxRecDepth 100000 in
theorem s_X12_either (l : Launch) (D : va_G) (t : pq_T) (σ : pq_S) (I : Nat → Nat → Int32) (J : Nat → Nat → Int64) (ri : Nat → Nat → Int32) (rj : Nat → Nat → Int64) (rq : Nat → Nat → Option Nat) (sz : Nat) (tg : Nat → Nat) (hSH : SH σ tg) (hG0 : GT tg I ri) (this : Nat) (hL_this : this ∈ σ.1) (hK_this : σ.2.1 this = 12) (this_a : Nat) (hR_this_a : σ.2.2.1 384 this = some this_a) (hL_this_a : this_a ∈ σ.1) (hK_this_a : σ.2.1 this_a = 13) (hN_this_a : σ.2.2.2 this_a = 12720) (hT_this_a : tg this_a = 384) (this_pile : Nat) (hR_this_pile : σ.2.2.1 400 this = some this_pile) (hL_this_pile : this_pile ∈ σ.1) (hK_this_pile : σ.2.1 this_pile = 13) (hN_this_pile : σ.2.2.2 this_pile = 160) (hT_this_pile : tg this_pile = 400) (bb : Nat) (f0 : Nat → Int32) (fr : Int) (va : Int) (tb : Int) (nn : Int) (K : Int) (hpb : PBz (I 396 this).toInt (I 398 this).toInt (I 402 this).toInt (I 391 this).toInt (I 393 this).toInt (ri this_a) bb f0 fr va tb nn K) : MetI l yX12_either (wa yX12_either cX12_either 6 (some .int)) ({ frames := 7, cells := 0, slots := 0, locals := 154 }) [.ref this] D t σ (I, J, ri, rj, rq) sz 0 0 (fun (r : Int32) (u : pq_S × pq_M) => ∃ I' : Nat → Nat → Int32, ∃ J' : Nat → Nat → Int64, ∃ ri' : Nat → Nat → Int32, u = (σ, I', J', ri', rj, rq) ∧ GM [401, 398, 391, 392, 393, 402] tg σ I ri I' ri' rq ∧ (r.toInt ≠ 0 ∨ (PBz (I' 396 this).toInt (I' 398 this).toInt (I' 402 this).toInt (I' 391 this).toInt (I' 393 this).toInt (ri' this_a) bb f0 fr va (tb + 1) nn K ∧ tmM (I' 391 this).toInt (I' 393 this).toInt ≤ tmM (I 391 this).toInt (I 393 this).toInt)) ∧ rg r 0 3) := by
  refine Met.ofW (cc := cX12_either) (maxL := 6) (ret := (some .int)) (by decide) rfl ?_
  intro p e s m args below meth c s₁ B hml hv
  obtain ⟨rfl, hsz, hP, hK, hD0, hN⟩ := hv
  have hx := B.exec
  have hb := B.bytes
  have hr := B.returns
  have hts := atoms_spec (ws := (wa yX12_either cX12_either 6 (some .int))) B.pre
  have hown : s.vm.findClass RX12 = some m.cls := findClass_of_methodNamed B.named
  have hlocks := B.notSynchronized
  subst hsz
  have hD : va_D (pq_B t σ (I, J, ri, rj, rq) s.heap.size) (pq_P t σ (I, J, ri, rj, rq)) := hD0.self
  generalize hAe : pq_B t σ (I, J, ri, rj, rq) s.heap.size = A at hD ⊢
  have hA : ∀ q : Nat, s.heap.size ≤ q → A q := fun q h => by rw [← hAe]; exact Or.inr h
  have hS : va_S A s.heap s.heap [] := va_S.rf
  have hG : GM [401, 398, 391, 392, 393, 402] tg σ I ri I ri rq := ⟨hG0, fun _ _ _ => rfl, fun _ _ _ _ _ => rfl, fun _ _ _ _ _ _ => rfl⟩
  have hl := lv_entry ([.ref this]) (n := 6) (Nat.le_of_ble_eq_true rfl)
  rw [lg_entry_eq]
  generalize (lg_sl ([.ref this]) ++ List.replicate (6 - (lg_sl ([.ref this])).length) Slot.unset).toArray = ls at hl ⊢
  have hl : lv_has ls 6 [(0, .ref this)] := hl
  refine q_gen (fun Q hQ => ?_)
  have go : ∀ (H : Heap) (locs : List Loc) (ls : Array Slot), va_P D vwCl (pq_P t σ (I, J, ri, rj, rq)) H → va_D A (pq_P t σ (I, J, ri, rj, rq)) → va_S A s.heap H locs → lv_has ls 6 [(0, .ref this)] → W p l e ({ frames := 7, cells := 0, slots := 0, locals := 154 } : Room) s m (List.toArray ([.ref this] : List Value)) below meth c H locs 0 0 Q (F0 m 0 ls []) := by
    intro H locs ls hP hD hS hl
    have hv0 := PBz_tv hpb
    have ho0 := PBz_op hpb
    refine lv_iconst (v := 0) hx hb dX12_either_0 (by decide) ?_
    refine lv_istore_n (lv' := [(1, .int 0), (0, .ref this)]) hx hb dX12_either_1 rfl hl (by decide) rfl (fun ls hl => ?_)
    refine lv_iconst (v := 0) hx hb dX12_either_2 (by decide) ?_
    refine lv_istore_n (lv' := [(2, .int 0), (1, .int 0), (0, .ref this)]) hx hb dX12_either_3 rfl hl (by decide) rfl (fun ls hl => ?_)
    refine lv_iconst (v := 1) hx hb dX12_either_4 (by decide) ?_
    refine lv_istore_n (lv' := [(3, .int 1), (2, .int 0), (1, .int 0), (0, .ref this)]) hx hb dX12_either_5 rfl hl (by decide) rfl (fun ls hl => ?_)
    have L_2416 : ∀ (n_2415 : Nat) (x_1805 : Int32) (x_1806 : Int32) (x_1807 : Int32) (I_1808 : Nat → Nat → Int32) (J_1809 : Nat → Nat → Int64) (ri_1810 : Nat → Nat → Int32) (H : Heap) (locs : List Loc) (ls : Array Slot), rg x_1805 0 1 → rg x_1806 0 1 → rg x_1807 0 1 → (((x_1807).toInt = 1 → PBz (I_1808 396 this).toInt (I_1808 398 this).toInt (I_1808 402 this).toInt (I_1808 391 this).toInt (I_1808 393 this).toInt (ri_1810 this_a) bb f0 fr va (tb + (x_1805).toInt + (x_1806).toInt) nn (K + (x_1805).toInt + (x_1806).toInt)) ∧ ((x_1807).toInt = 0 → PBz (I_1808 396 this).toInt (I_1808 398 this).toInt (I_1808 402 this).toInt (I_1808 391 this).toInt (I_1808 393 this).toInt (ri_1810 this_a) bb f0 fr va (tb + 1) nn K)) → (tmM (I_1808 391 this).toInt (I_1808 393 this).toInt ≤ tmM (I 391 this).toInt (I 393 this).toInt) → (2 * tmM (I_1808 391 this).toInt (I_1808 393 this).toInt + (x_1807).toInt).toNat < n_2415 → GM [401, 398, 391, 392, 393, 402] tg σ I ri I_1808 ri_1810 rq → va_P D vwCl (pq_P t σ (I_1808, J_1809, ri_1810, rj, rq)) H → va_D A (pq_P t σ (I_1808, J_1809, ri_1810, rj, rq)) → va_S A s.heap H locs → lv_has ls 6 [(0, .ref this), (1, .int x_1805), (2, .int x_1806), (3, .int x_1807)] → W p l e ({ frames := 7, cells := 0, slots := 0, locals := 154 } : Room) s m (List.toArray ([.ref this] : List Value)) below meth c H locs 0 0 Q (F0 m 6 ls []) := by
      intro n_2415
      induction n_2415 with
      | zero => intro x_1805 x_1806 x_1807 I_1808 J_1809 ri_1810 H locs ls h_2423 h_2424 h_2425 hrel_2426 hrel_2427 hm_2414 hG hP hD hS hl; exact absurd hm_2414 (Nat.not_lt_zero _)
      | succ n_2415 ih_2417 =>
        intro x_1805 x_1806 x_1807 I_1808 J_1809 ri_1810 H locs ls h_2423 h_2424 h_2425 hrel_2426 hrel_2427 hm_2414 hG hP hD hS hl
        have uh_2423 := h_2423.1
        have vh_2423 := h_2423.2
        have uh_2424 := h_2424.1
        have vh_2424 := h_2424.2
        have uh_2425 := h_2425.1
        have vh_2425 := h_2425.2
        refine lv_iload_n hx hb dX12_either_6 rfl (lv_at hl 3 rfl) ?_
        refine lv_if_eq (tgt := 119) hx hb dX12_either_7 (by decide) (fun c_2428 => ?_) (fun c_2428 => ?_)
        · have tc_2429 : (x_1807).toInt = 0 := congrArg Int32.toInt c_2428
          have h_2430 : rg x_1807 0 0 := rg_and h_2425 (rg_of_eq c_2428 (rg_k (0 : Int32) 0 rfl)) (by decide)
          have uh_2430 := h_2430.1
          have vh_2430 := h_2430.2
          refine lv_iconst (v := 0) hx hb dX12_either_119 (by decide) ?_
          subst hQ
          exact W.iret (v := 0) hx hb hr (fun t1 ht hW => ⟨⟨0, (σ, I_1808, J_1809, ri_1810, rj, rq), rfl, ⟨I_1808, J_1809, ri_1810, rfl, hG, (Or.inr ⟨hrel_2426.2 (by omega), hrel_2427⟩), (rg_w (rg_k (0 : Int32) 0 rfl) (by decide))⟩, by rw [ht]; exact hP, va_K.moved hW.alike hK, hD⟩, hS.F ht⟩) hS.2.2 dX12_either_120
        · have tc_2431 : (x_1807).toInt ≠ 0 := fun q => c_2428 (Int32.toInt_inj.mp q)
          have h_2432 : rg x_1807 1 1 := rg_ne c_2428 h_2425 0 rfl (by decide)
          have uh_2432 := h_2432.1
          have vh_2432 := h_2432.2
          refine lv_aload_n hx hb dX12_either_10 rfl (lv_at hl 0 rfl) ?_
          have hpbA := hrel_2426.1 (by omega)
          refine pk_i (va_runV (As := []) (rest := []) ⟨hx, hb, hml, hown, hts⟩ (s_X12_ask l D t σ I_1808 J_1809 ri_1810 rj rq H.size tg hSH hG.1 this hL_this hK_this this_a hR_this_a hL_this_a hK_this_a hN_this_a hT_this_a this_pile hR_this_pile hL_this_pile hK_this_pile hN_this_pile hT_this_pile bb f0 fr va (tb + (x_1805).toInt + (x_1806).toInt) nn (K + (x_1805).toInt + (x_1806).toInt) (by assumption)) (cwV 0 hts (tw_V tw_875 tw_876 tw_877 tw_5 tw_878) rfl rfl rfl cv_yX12_ask_0 ⟨Nat.le_of_ble_eq_true rfl, Nat.le_of_ble_eq_true rfl⟩) ⟨pq_blind, pq_recv hK hP hL_this hK_this (by decide) rfl, pq_pre hK hN hP hD⟩ rfl rfl hl.1 rfl (lv_room (Nat.le_of_ble_eq_true rfl)) dX12_either_11 ⟨Nat.le_of_ble_eq_true rfl, Nat.le_of_ble_eq_true rfl⟩) hD hS hA (fun x_2433 σ1 μ1 H locs hw_2434 hP hD hS => ?_)
          obtain ⟨I_2435, J_2436, ri_2437, hu_2438, hg_2439, hp_2441, hr_2440⟩ := hw_2434
          obtain ⟨hu_2438a, hu_2438b⟩ := Prod.mk.inj hu_2438
          rw [hu_2438a, hu_2438b] at hP hD
          have hG := GM.tr hG hg_2439 (by decide)
          have tt_2442 : (I_2435 396 this).toInt = (I_1808 396 this).toInt := by rw [hg_2439.2.1 396 (by decide) (by decide)]
          have tt_2443 : (I_2435 397 this).toInt = (I_1808 397 this).toInt := by rw [hg_2439.2.1 397 (by decide) (by decide)]
          refine lv_istore (lv' := [(4, .int x_2433), (0, .ref this), (1, .int x_1805), (2, .int x_1806), (3, .int x_1807)]) hx hb dX12_either_14 hl (by decide) rfl (fun ls hl => ?_)
          refine lv_iload hx hb dX12_either_16 (lv_at hl 0 rfl) ?_
          refine lv_if_eq (tgt := 24) hx hb dX12_either_18 (by decide) (fun c_2444 => ?_) (fun c_2444 => ?_)
          · have tc_2445 : (x_2433).toInt = 0 := congrArg Int32.toInt c_2444
            have h_2446 : rg x_2433 0 0 := rg_and hr_2440 (rg_of_eq c_2444 (rg_k (0 : Int32) 0 rfl)) (by decide)
            have uh_2446 := h_2446.1
            have vh_2446 := h_2446.2
            have hpbB := (hp_2441.resolve_left (fun q => q (by omega))).1
            have htmA : tmM (I_2435 391 this).toInt (I_2435 393 this).toInt ≤ tmM (I 391 this).toInt (I 393 this).toInt := Int.le_trans (hp_2441.resolve_left (fun q => q (by omega))).2 hrel_2427
            refine lv_iload_n hx hb dX12_either_24 rfl (lv_at hl 2 rfl) ?_
            refine lv_if_eq (tgt := 35) hx hb dX12_either_25 (by decide) (fun c_2447 => ?_) (fun c_2447 => ?_)
            · have tc_2448 : (x_1805).toInt = 0 := congrArg Int32.toInt c_2447
              have h_2449 : rg x_1805 0 0 := rg_and h_2423 (rg_of_eq c_2447 (rg_k (0 : Int32) 0 rfl)) (by decide)
              have uh_2449 := h_2449.1
              have vh_2449 := h_2449.2
              have hpbC : PBz (I_2435 396 this).toInt (I_2435 398 this).toInt (I_2435 402 this).toInt (I_2435 391 this).toInt (I_2435 393 this).toInt (ri_2437 this_a) bb f0 fr va (tb + (x_1806).toInt + 1) nn (K + (x_1806).toInt) := by rw [show tb + (x_1806).toInt + 1 = (tb + (x_1805).toInt + (x_1806).toInt + 1) from by omega, show K + (x_1806).toInt = (K + (x_1805).toInt + (x_1806).toInt) from by omega]; exact hpbB
              refine lv_aload_n hx hb dX12_either_35 rfl (lv_at hl 1 rfl) ?_
              refine lv_bipush (v := 97) hx hb dX12_either_36 (by decide) ?_
              refine lv_bipush (v := 110) hx hb dX12_either_38 (by decide) ?_
              refine lv_bipush (v := 100) hx hb dX12_either_40 (by decide) ?_
              refine pk_l (va_runS (As := [.int 97, .int 110, .int 100]) (rest := [.ref this]) ⟨hx, hb, hml, hown, hts⟩ (s_X12_w3_x l D t σ I_2435 J_2436 ri_2437 rj rq H.size tg hSH hG.1 (97 : Int32) (110 : Int32) (100 : Int32)) (va_cwS 3 hts (tw_S tw_864 tw_865 tw_5 tw_866) rfl rfl rfl cd_yX12_w3_3 ⟨Nat.le_of_ble_eq_true rfl, Nat.le_of_ble_eq_true rfl⟩) ⟨pq_blind, pq_pre hK hN hP hD⟩ rfl rfl hl.1 rfl (lv_room (Nat.le_of_ble_eq_true rfl)) dX12_either_42 ⟨Nat.le_of_ble_eq_true rfl, Nat.le_of_ble_eq_true rfl⟩) hD hS hA (fun x_2450 σ1 μ1 H locs hw_2451 hP hD hS => ?_)
              have hu_2452 := hw_2451
              obtain ⟨hu_2452a, hu_2452b⟩ := Prod.mk.inj hu_2452
              rw [hu_2452a, hu_2452b] at hP hD
              refine pk_i (va_runV (As := [.long x_2450]) (rest := []) ⟨hx, hb, hml, hown, hts⟩ (s_X12_isWord_x l D t σ I_2435 J_2436 ri_2437 rj rq H.size tg hSH hG.1 this x_2450 hL_this hK_this) (cwV 1 hts (tw_V tw_879 tw_880 tw_881 tw_5 tw_882) rfl rfl rfl cv_yX12_isWord_1 ⟨Nat.le_of_ble_eq_true rfl, Nat.le_of_ble_eq_true rfl⟩) ⟨pq_blind, pq_recv hK hP hL_this hK_this (by decide) rfl, pq_pre hK hN hP hD⟩ rfl rfl hl.1 rfl (lv_room (Nat.le_of_ble_eq_true rfl)) dX12_either_45 ⟨Nat.le_of_ble_eq_true rfl, Nat.le_of_ble_eq_true rfl⟩) hD hS hA (fun x_2455 σ1 μ1 H locs hw_2456 hP hD hS => ?_)
              obtain ⟨hu_2457, hr_2459⟩ := hw_2456
              obtain ⟨hu_2457a, hu_2457b⟩ := Prod.mk.inj hu_2457
              rw [hu_2457a, hu_2457b] at hP hD
              have h_2460 : rg x_2455 0 1 := by rcases hr_2459 with ⟨q, -⟩ | ⟨q, -⟩ <;> rw [q] <;> exact ⟨by decide, by decide⟩
              have uh_2460 := h_2460.1
              have vh_2460 := h_2460.2
              refine lv_istore_n (lv' := [(1, .int x_2455), (4, .int x_2433), (0, .ref this), (2, .int x_1806), (3, .int x_1807)]) hx hb dX12_either_48 rfl hl (by decide) rfl (fun ls hl => ?_)
              refine lv_aload_n hx hb dX12_either_49 rfl (lv_at hl 2 rfl) ?_
              refine pg_f (v := .int (I_2435 393 this)) (C := RX12) (T := TX12) (N := 31) hx hb hts (tw_i inlX12) hown hK hP hL_this hK_this (by decide) rfl 9 (by decide) (hts _ (tw_c tw_831)) rfl dX12_either_50 ?_
              refine lv_iconst (v := 2) hx hb dX12_either_53 (by decide) ?_
              refine lv_icmp_ne (tgt := 72) hx hb dX12_either_54 (by decide) (fun c_2461 => ?_) (fun c_2461 => ?_)
              · have tc_2462 : (I_2435 393 this).toInt ≠ 2 := fun q => c_2461 (Int32.toInt_inj.mp q)
                refine lv_iconst (v := 0) hx hb dX12_either_72 (by decide) ?_
                refine lv_istore (lv' := [(5, .int 0), (1, .int x_2455), (4, .int x_2433), (0, .ref this), (2, .int x_1806), (3, .int x_1807)]) hx hb dX12_either_73 hl (by decide) rfl (fun ls hl => ?_)
                refine lv_iload_n hx hb dX12_either_75 rfl (lv_at hl 1 rfl) ?_
                refine lv_if_ne (tgt := 93) hx hb dX12_either_76 (by decide) (fun c_2463 => ?_) (fun c_2463 => ?_)
                · have f_2464 := (hr_2459.resolve_right (fun q => c_2463 q.1)).2
                  have tc_2465 : (x_2455).toInt ≠ 0 := fun q => c_2463 (Int32.toInt_inj.mp q)
                  have h_2466 : rg x_2455 1 1 := rg_ne c_2463 h_2460 0 rfl (by decide)
                  have uh_2466 := h_2466.1
                  have vh_2466 := h_2466.2
                  refine lv_iload_n hx hb dX12_either_93 rfl (lv_at hl 1 rfl) ?_
                  refine lv_if_ne (tgt := 102) hx hb dX12_either_94 (by decide) (fun c_2467 => ?_) (fun c_2467 => ?_)
                  · have f_2468 := (hr_2459.resolve_right (fun q => c_2467 q.1)).2
                    have tc_2469 : (x_2455).toInt ≠ 0 := fun q => c_2467 (Int32.toInt_inj.mp q)
                    refine lv_iconst (v := 1) hx hb dX12_either_102 (by decide) ?_
                    refine lv_goto (tgt := 107) hx hb dX12_either_103 (by decide) ?_
                    refine lv_istore_n (lv' := [(3, .int 1), (5, .int 0), (1, .int x_2455), (4, .int x_2433), (0, .ref this), (2, .int x_1806)]) hx hb dX12_either_107 rfl hl (by decide) rfl (fun ls hl => ?_)
                    refine lv_iload_n hx hb dX12_either_108 rfl (lv_at hl 0 rfl) ?_
                    refine lv_if_eq (tgt := 116) hx hb dX12_either_109 (by decide) (fun c_2470 => absurd c_2470 (by decide)) (fun c_2470 => ?_)
                    refine lv_aload_n hx hb dX12_either_112 rfl (lv_at hl 4 rfl) ?_
                    obtain ⟨w_2471, hR_w_2471, hL_w_2471, hK_w_2471, hN_w_2471, hT_w_2471⟩ := sh_a hSH 387 (ci := 12) (kd := 13) (len := 300) rfl (by decide) hL_this hK_this
                    refine pk_v (va_runV (As := []) (rest := []) ⟨hx, hb, hml, hown, hts⟩ (s_X12_nextToken_x l D t σ I_2435 J_2436 ri_2437 rj rq H.size tg hSH hG.1 this hL_this hK_this w_2471 hR_w_2471 hL_w_2471 hK_w_2471 hN_w_2471 hT_w_2471) (cwV 0 hts (tw_V tw_832 tw_833 tw_834 tw_5 tw_835) rfl rfl rfl cv_yX12_nextToken_0 ⟨Nat.le_of_ble_eq_true rfl, Nat.le_of_ble_eq_true rfl⟩) ⟨pq_blind, pq_recv hK hP hL_this hK_this (by decide) rfl, pq_pre hK hN hP hD⟩ rfl rfl hl.1 rfl (lv_room (Nat.le_of_ble_eq_true rfl)) dX12_either_113 ⟨Nat.le_of_ble_eq_true rfl, Nat.le_of_ble_eq_true rfl⟩) hD hS hA (fun σ1 μ1 H locs hw_2473 hP hD hS => ?_)
                    obtain ⟨I_2474, J_2475, hu_2476, hg_2477, hp_2479, hp_2480, hp_2481⟩ := hw_2473
                    obtain ⟨hu_2476a, hu_2476b⟩ := Prod.mk.inj hu_2476
                    rw [hu_2476a, hu_2476b] at hP hD
                    have tt_2482 := hp_2479
                    have tt_2483 := hp_2480
                    have tt_2484 := hp_2481
                    have tt_2485 : (I_2474 391 this).toInt ≤ 300 := by have z := hg_2477.1.1 391 this; exact z.2
                    have hG := GM.tr hG hg_2477 (by decide)
                    have tt_2486 : (I_2474 396 this).toInt = (I_2435 396 this).toInt := by rw [hg_2477.2.1 396 (by decide) (by decide)]
                    have tt_2487 : (I_2474 398 this).toInt = (I_2435 398 this).toInt := by rw [hg_2477.2.1 398 (by decide) (by decide)]
                    have tt_2488 : (I_2474 401 this).toInt = (I_2435 401 this).toInt := by rw [hg_2477.2.1 401 (by decide) (by decide)]
                    have tt_2489 : (I_2474 402 this).toInt = (I_2435 402 this).toInt := by rw [hg_2477.2.1 402 (by decide) (by decide)]
                    have tt_2490 : (I_2474 397 this).toInt = (I_2435 397 this).toInt := by rw [hg_2477.2.1 397 (by decide) (by decide)]
                    refine lv_goto (tgt := 6) hx hb dX12_either_116 (by decide) ?_
                    exact ih_2417 x_2455 x_1806 (1 : Int32) I_2474 J_2475 ri_2437 _ _ _ (rg_w h_2466 (by decide)) (rg_w h_2424 (by decide)) (rg_w (rg_k (1 : Int32) 1 rfl) (by decide)) (by have zc0 : (0 : Int32).toInt = 0 := rfl; have zc1 : (1 : Int32).toInt = 1 := rfl; exact ⟨fun _ => by rw [show tb + (x_2455).toInt + (x_1806).toInt = (tb + (x_1806).toInt + 1) from by omega, show K + (x_2455).toInt + (x_1806).toInt = (K + (x_1806).toInt) + 1 from by omega]; exact PBz_tok hpbC (by omega) (by omega) (by omega) (by omega) (by omega) (by omega) (by omega) rfl, fun q => absurd q (by decide)⟩) (Int.le_of_lt (Int.lt_of_lt_of_le (tm_lt (by omega) (by omega) (by omega)) htmA)) (by have zc0 : (0 : Int32).toInt = 0 := rfl; have zc1 : (1 : Int32).toInt = 1 := rfl; exact tm_ms2' hm_2414 ⟨Int.le_of_lt (Int.lt_of_lt_of_le (tm_lt (s := (I_2435 391 this).toInt) (k := (I_2435 393 this).toInt) (by omega) (by omega) (by omega)) (tm_lec (hp_2441.resolve_left (fun q => q (by omega))).2 (by omega) (by omega))), Or.inl (Int.lt_of_lt_of_le (tm_lt (s := (I_2435 391 this).toInt) (k := (I_2435 393 this).toInt) (by omega) (by omega) (by omega)) (tm_lec (hp_2441.resolve_left (fun q => q (by omega))).2 (by omega) (by omega)))⟩ (tm_b ((hG.1.1 391 this).2)) (by omega) (by omega)) hG hP hD hS (lv_sub hl [4, 2, 5, 0] rfl)
                  · have f_2491 := (hr_2459.resolve_left (fun q => absurd (q.1.symm.trans c_2467) (by decide))).2
                    have tc_2492 : (x_2455).toInt = 0 := congrArg Int32.toInt c_2467
                    exact (rg_empty (rg_and h_2466 (rg_of_eq c_2467 (rg_k (0 : Int32) 0 rfl)) (lo := 1) (hi := 0) (by decide)) (by decide)).elim
                · have f_2493 := (hr_2459.resolve_left (fun q => absurd (q.1.symm.trans c_2463) (by decide))).2
                  have tc_2494 : (x_2455).toInt = 0 := congrArg Int32.toInt c_2463
                  have h_2495 : rg x_2455 0 0 := rg_and h_2460 (rg_of_eq c_2463 (rg_k (0 : Int32) 0 rfl)) (by decide)
                  have uh_2495 := h_2495.1
                  have vh_2495 := h_2495.2
                  refine lv_iload_n hx hb dX12_either_79 rfl (lv_at hl 4 rfl) ?_
                  refine lv_if_eq (tgt := 90) hx hb dX12_either_80 (by decide) (fun c_2496 => ?_) (fun c_2496 => ?_)
                  · have tc_2497 : (x_1806).toInt = 0 := congrArg Int32.toInt c_2496
                    have h_2498 : rg x_1806 0 0 := rg_and h_2424 (rg_of_eq c_2496 (rg_k (0 : Int32) 0 rfl)) (by decide)
                    have uh_2498 := h_2498.1
                    have vh_2498 := h_2498.2
                    have hpbD : PBz (I_2435 396 this).toInt (I_2435 398 this).toInt (I_2435 402 this).toInt (I_2435 391 this).toInt (I_2435 393 this).toInt (ri_2437 this_a) bb f0 fr va (tb + 1) nn K := by have q := hpbC; rw [show (tb + (x_1806).toInt + 1) = tb + 1 from by omega, show (K + (x_1806).toInt) = K from by omega] at q; exact q
                    refine lv_iload hx hb dX12_either_90 (lv_at hl 0 rfl) ?_
                    refine lv_istore_n (lv' := [(2, .int 0), (5, .int 0), (1, .int x_2455), (4, .int x_2433), (0, .ref this), (3, .int x_1807)]) hx hb dX12_either_92 rfl hl (by decide) rfl (fun ls hl => ?_)
                    refine lv_iload_n hx hb dX12_either_93 rfl (lv_at hl 2 rfl) ?_
                    refine lv_if_ne (tgt := 102) hx hb dX12_either_94 (by decide) (fun c_2499 => ?_) (fun c_2499 => ?_)
                    · have f_2500 := (hr_2459.resolve_right (fun q => c_2499 q.1)).2
                      have tc_2501 : (x_2455).toInt ≠ 0 := fun q => c_2499 (Int32.toInt_inj.mp q)
                      exact (rg_empty (rg_ne c_2499 h_2495 0 rfl (lo := 1) (hi := (-1)) (by decide)) (by decide)).elim
                    · have f_2502 := (hr_2459.resolve_left (fun q => absurd (q.1.symm.trans c_2499) (by decide))).2
                      have tc_2503 : (x_2455).toInt = 0 := congrArg Int32.toInt c_2499
                      refine lv_iload hx hb dX12_either_97 (lv_at hl 1 rfl) ?_
                      refine lv_if_eq (tgt := 106) hx hb dX12_either_99 (by decide) (fun c_2504 => ?_) (fun c_2504 => absurd c_2504 (by decide))
                      refine lv_iconst (v := 0) hx hb dX12_either_106 (by decide) ?_
                      refine lv_istore_n (lv' := [(3, .int 0), (2, .int 0), (5, .int 0), (1, .int x_2455), (4, .int x_2433), (0, .ref this)]) hx hb dX12_either_107 rfl hl (by decide) rfl (fun ls hl => ?_)
                      refine lv_iload_n hx hb dX12_either_108 rfl (lv_at hl 0 rfl) ?_
                      refine lv_if_eq (tgt := 116) hx hb dX12_either_109 (by decide) (fun c_2505 => ?_) (fun c_2505 => absurd c_2505 (by decide))
                      refine lv_goto (tgt := 6) hx hb dX12_either_116 (by decide) ?_
                      exact ih_2417 x_2455 (0 : Int32) (0 : Int32) I_2435 J_2436 ri_2437 _ _ _ (rg_w h_2495 (by decide)) (rg_w (rg_k (0 : Int32) 0 rfl) (by decide)) (rg_w (rg_k (0 : Int32) 0 rfl) (by decide)) (by have zc0 : (0 : Int32).toInt = 0 := rfl; have zc1 : (1 : Int32).toInt = 1 := rfl; exact ⟨fun q => absurd q (by decide), fun _ => PBz_cg hpbD (by omega) (by omega) (by omega) (by omega) (by omega) rfl⟩) htmA (by have zc0 : (0 : Int32).toInt = 0 := rfl; have zc1 : (1 : Int32).toInt = 1 := rfl; exact tm_ms2' hm_2414 ⟨tm_lec (hp_2441.resolve_left (fun q => q (by omega))).2 (by omega) (by omega), Or.inr (by omega)⟩ (tm_b ((hG.1.1 391 this).2)) (by omega) (by omega)) hG hP hD hS (lv_sub hl [5, 3, 1, 0] rfl)
                  · have tc_2506 : (x_1806).toInt ≠ 0 := fun q => c_2496 (Int32.toInt_inj.mp q)
                    have h_2507 : rg x_1806 1 1 := rg_ne c_2496 h_2424 0 rfl (by decide)
                    have uh_2507 := h_2507.1
                    have vh_2507 := h_2507.2
                    refine lv_aload_n hx hb dX12_either_83 rfl (lv_at hl 3 rfl) ?_
                    refine lv_bipush (v := 22) hx hb dX12_either_84 (by decide) ?_
                    refine lv_iconst (v := 0) hx hb dX12_either_86 (by decide) ?_
                    have hq1 := PBz_t hpbC
                    have hq2 := PBz_w hpbC (Or.inr (by omega))
                    refine pk_v (va_runV (As := [.int 22, .int 0]) (rest := []) ⟨hx, hb, hml, hown, hts⟩ (s_X12_emit l D t σ I_2435 J_2436 ri_2437 rj rq H.size tg hSH hG.1 this (22 : Int32) (0 : Int32) hL_this hK_this this_a hR_this_a hL_this_a hK_this_a hN_this_a hT_this_a (by omega) (by omega)) (cwV 2 hts (tw_V tw_905 tw_906 tw_907 tw_5 tw_908) rfl rfl rfl cv_yX12_emit_2 ⟨Nat.le_of_ble_eq_true rfl, Nat.le_of_ble_eq_true rfl⟩) ⟨pq_blind, pq_recv hK hP hL_this hK_this (by decide) rfl, pq_pre hK hN hP hD⟩ rfl rfl hl.1 rfl (lv_room (Nat.le_of_ble_eq_true rfl)) dX12_either_87 ⟨Nat.le_of_ble_eq_true rfl, Nat.le_of_ble_eq_true rfl⟩) hD hS hA (fun σ1 μ1 H locs hw_2509 hP hD hS => ?_)
                    obtain ⟨I_2510, ri_2511, hu_2512, hg_2513, hp_2515, hp_2516, hp_2517, hp_2518⟩ := hw_2509
                    obtain ⟨hu_2512a, hu_2512b⟩ := Prod.mk.inj hu_2512
                    rw [hu_2512a, hu_2512b] at hP hD
                    obtain ⟨v_2519, ev_2519, hv_2519⟩ := hp_2515
                    have tt_2520 : (I_2510 398 this).toInt = (I_2435 398 this).toInt + 1 := by rw [ev_2519, pq_us]; exact hv_2519
                    have tt_2521 : (I_2510 403 this).toInt = (I_2435 403 this).toInt := by rw [ev_2519, pq_uf _ _ _ (by decide)]
                    have hG := GM.tr hG hg_2513 (by decide)
                    have tt_2522 : (I_2510 396 this).toInt = (I_2435 396 this).toInt := by rw [hg_2513.2.1 396 (by decide) (by decide)]
                    have tt_2523 : (I_2510 401 this).toInt = (I_2435 401 this).toInt := by rw [hg_2513.2.1 401 (by decide) (by decide)]
                    have tt_2524 : (I_2510 402 this).toInt = (I_2435 402 this).toInt := by rw [hg_2513.2.1 402 (by decide) (by decide)]
                    have tt_2525 : (I_2510 391 this).toInt = (I_2435 391 this).toInt := by rw [hg_2513.2.1 391 (by decide) (by decide)]
                    have tt_2526 : (I_2510 393 this).toInt = (I_2435 393 this).toInt := by rw [hg_2513.2.1 393 (by decide) (by decide)]
                    have tt_2527 : (I_2510 397 this).toInt = (I_2435 397 this).toInt := by rw [hg_2513.2.1 397 (by decide) (by decide)]
                    have hpbD : PBz (I_2510 396 this).toInt (I_2510 398 this).toInt (I_2510 402 this).toInt (I_2510 391 this).toInt (I_2510 393 this).toInt (ri_2511 this_a) bb f0 fr va (tb + 1) nn K := by have zc0 : (0 : Int32).toInt = 0 := rfl; have zc1 : (1 : Int32).toInt = 1 := rfl; have zo : (22 : Int32).toInt = 22 := rfl; exact PBz_em (x := 22) (by rw [show K + 1 = (K + (x_1806).toInt) from by omega]; exact hpbC) (by omega) (fun j hj => hp_2516 j (by omega)) (by rw [show (I_2435 396 this).toInt + 250 + 2 * (I_2435 398 this).toInt = (I_2435 396 this).toInt + 250 + 2 * (I_2435 398 this).toInt from by omega]; exact hp_2517) (by omega) (by omega) (by omega) (by omega) (by omega) (by omega)
                    refine lv_iload hx hb dX12_either_90 (lv_at hl 0 rfl) ?_
                    refine lv_istore_n (lv' := [(2, .int 0), (5, .int 0), (1, .int x_2455), (4, .int x_2433), (0, .ref this), (3, .int x_1807)]) hx hb dX12_either_92 rfl hl (by decide) rfl (fun ls hl => ?_)
                    refine lv_iload_n hx hb dX12_either_93 rfl (lv_at hl 2 rfl) ?_
                    refine lv_if_ne (tgt := 102) hx hb dX12_either_94 (by decide) (fun c_2528 => ?_) (fun c_2528 => ?_)
                    · have f_2529 := (hr_2459.resolve_right (fun q => c_2528 q.1)).2
                      have tc_2530 : (x_2455).toInt ≠ 0 := fun q => c_2528 (Int32.toInt_inj.mp q)
                      exact (rg_empty (rg_ne c_2528 h_2495 0 rfl (lo := 1) (hi := (-1)) (by decide)) (by decide)).elim
                    · have f_2531 := (hr_2459.resolve_left (fun q => absurd (q.1.symm.trans c_2528) (by decide))).2
                      have tc_2532 : (x_2455).toInt = 0 := congrArg Int32.toInt c_2528
                      refine lv_iload hx hb dX12_either_97 (lv_at hl 1 rfl) ?_
                      refine lv_if_eq (tgt := 106) hx hb dX12_either_99 (by decide) (fun c_2533 => ?_) (fun c_2533 => absurd c_2533 (by decide))
                      refine lv_iconst (v := 0) hx hb dX12_either_106 (by decide) ?_
                      refine lv_istore_n (lv' := [(3, .int 0), (2, .int 0), (5, .int 0), (1, .int x_2455), (4, .int x_2433), (0, .ref this)]) hx hb dX12_either_107 rfl hl (by decide) rfl (fun ls hl => ?_)
                      refine lv_iload_n hx hb dX12_either_108 rfl (lv_at hl 0 rfl) ?_
                      refine lv_if_eq (tgt := 116) hx hb dX12_either_109 (by decide) (fun c_2534 => ?_) (fun c_2534 => absurd c_2534 (by decide))
                      refine lv_goto (tgt := 6) hx hb dX12_either_116 (by decide) ?_
                      exact ih_2417 x_2455 (0 : Int32) (0 : Int32) I_2510 J_2436 ri_2511 _ _ _ (rg_w h_2495 (by decide)) (rg_w (rg_k (0 : Int32) 0 rfl) (by decide)) (rg_w (rg_k (0 : Int32) 0 rfl) (by decide)) (by have zc0 : (0 : Int32).toInt = 0 := rfl; have zc1 : (1 : Int32).toInt = 1 := rfl; exact ⟨fun q => absurd q (by decide), fun _ => PBz_cg hpbD (by omega) (by omega) (by omega) (by omega) (by omega) rfl⟩) (tm_lec htmA (by omega) (by omega)) (by have zc0 : (0 : Int32).toInt = 0 := rfl; have zc1 : (1 : Int32).toInt = 1 := rfl; exact tm_ms2' hm_2414 ⟨tm_lec (hp_2441.resolve_left (fun q => q (by omega))).2 (by omega) (by omega), Or.inr (by omega)⟩ (tm_b ((hG.1.1 391 this).2)) (by omega) (by omega)) hG hP hD hS (lv_sub hl [5, 3, 1, 0] rfl)
              · have tc_2535 : (I_2435 393 this).toInt = 2 := congrArg Int32.toInt c_2461
                have h_2536 : rg (I_2435 393 this) 2 2 := rg_and (rg_full _) (rg_of_eq c_2461 (rg_k (2 : Int32) 2 rfl)) (by decide)
                have uh_2536 := h_2536.1
                have vh_2536 := h_2536.2
                refine lv_aload_n hx hb dX12_either_57 rfl (lv_at hl 2 rfl) ?_
                refine pg_f (v := .long (J_2436 395 this)) (C := RX12) (T := TX12) (N := 31) hx hb hts (tw_i inlX12) hown hK hP hL_this hK_this (by decide) rfl 11 (by decide) (hts _ (tw_c tw_838)) rfl dX12_either_58 ?_
                refine lv_ldc2 hx hb hown (hts _ (tw_c tw_874)) dX12_either_61 ?_
                refine W.lcmp hx hb dX12_either_64 ?_
                refine lv_topi (fun x_2537 ex_2537 => ?_)
                refine lv_if_ne (tgt := 72) hx hb dX12_either_65 (by decide) (fun c_2538 => ?_) (fun c_2538 => ?_)
                · have tc_2539 : (x_2537).toInt ≠ 0 := fun q => c_2538 (Int32.toInt_inj.mp q)
                  refine lv_iconst (v := 0) hx hb dX12_either_72 (by decide) ?_
                  refine lv_istore (lv' := [(5, .int 0), (1, .int x_2455), (4, .int x_2433), (0, .ref this), (2, .int x_1806), (3, .int x_1807)]) hx hb dX12_either_73 hl (by decide) rfl (fun ls hl => ?_)
                  refine lv_iload_n hx hb dX12_either_75 rfl (lv_at hl 1 rfl) ?_
                  refine lv_if_ne (tgt := 93) hx hb dX12_either_76 (by decide) (fun c_2540 => ?_) (fun c_2540 => ?_)
                  · have f_2541 := (hr_2459.resolve_right (fun q => c_2540 q.1)).2
                    have tc_2542 : (x_2455).toInt ≠ 0 := fun q => c_2540 (Int32.toInt_inj.mp q)
                    have h_2543 : rg x_2455 1 1 := rg_ne c_2540 h_2460 0 rfl (by decide)
                    have uh_2543 := h_2543.1
                    have vh_2543 := h_2543.2
                    refine lv_iload_n hx hb dX12_either_93 rfl (lv_at hl 1 rfl) ?_
                    refine lv_if_ne (tgt := 102) hx hb dX12_either_94 (by decide) (fun c_2544 => ?_) (fun c_2544 => ?_)
                    · have f_2545 := (hr_2459.resolve_right (fun q => c_2544 q.1)).2
                      have tc_2546 : (x_2455).toInt ≠ 0 := fun q => c_2544 (Int32.toInt_inj.mp q)
                      refine lv_iconst (v := 1) hx hb dX12_either_102 (by decide) ?_
                      refine lv_goto (tgt := 107) hx hb dX12_either_103 (by decide) ?_
                      refine lv_istore_n (lv' := [(3, .int 1), (5, .int 0), (1, .int x_2455), (4, .int x_2433), (0, .ref this), (2, .int x_1806)]) hx hb dX12_either_107 rfl hl (by decide) rfl (fun ls hl => ?_)
                      refine lv_iload_n hx hb dX12_either_108 rfl (lv_at hl 0 rfl) ?_
                      refine lv_if_eq (tgt := 116) hx hb dX12_either_109 (by decide) (fun c_2547 => absurd c_2547 (by decide)) (fun c_2547 => ?_)
                      refine lv_aload_n hx hb dX12_either_112 rfl (lv_at hl 4 rfl) ?_
                      obtain ⟨w_2548, hR_w_2548, hL_w_2548, hK_w_2548, hN_w_2548, hT_w_2548⟩ := sh_a hSH 387 (ci := 12) (kd := 13) (len := 300) rfl (by decide) hL_this hK_this
                      refine pk_v (va_runV (As := []) (rest := []) ⟨hx, hb, hml, hown, hts⟩ (s_X12_nextToken_x l D t σ I_2435 J_2436 ri_2437 rj rq H.size tg hSH hG.1 this hL_this hK_this w_2548 hR_w_2548 hL_w_2548 hK_w_2548 hN_w_2548 hT_w_2548) (cwV 0 hts (tw_V tw_832 tw_833 tw_834 tw_5 tw_835) rfl rfl rfl cv_yX12_nextToken_0 ⟨Nat.le_of_ble_eq_true rfl, Nat.le_of_ble_eq_true rfl⟩) ⟨pq_blind, pq_recv hK hP hL_this hK_this (by decide) rfl, pq_pre hK hN hP hD⟩ rfl rfl hl.1 rfl (lv_room (Nat.le_of_ble_eq_true rfl)) dX12_either_113 ⟨Nat.le_of_ble_eq_true rfl, Nat.le_of_ble_eq_true rfl⟩) hD hS hA (fun σ1 μ1 H locs hw_2550 hP hD hS => ?_)
                      obtain ⟨I_2551, J_2552, hu_2553, hg_2554, hp_2556, hp_2557, hp_2558⟩ := hw_2550
                      obtain ⟨hu_2553a, hu_2553b⟩ := Prod.mk.inj hu_2553
                      rw [hu_2553a, hu_2553b] at hP hD
                      have tt_2559 := hp_2556
                      have tt_2560 := hp_2557
                      have tt_2561 := hp_2558
                      have tt_2562 : (I_2551 391 this).toInt ≤ 300 := by have z := hg_2554.1.1 391 this; exact z.2
                      have hG := GM.tr hG hg_2554 (by decide)
                      have tt_2563 : (I_2551 396 this).toInt = (I_2435 396 this).toInt := by rw [hg_2554.2.1 396 (by decide) (by decide)]
                      have tt_2564 : (I_2551 398 this).toInt = (I_2435 398 this).toInt := by rw [hg_2554.2.1 398 (by decide) (by decide)]
                      have tt_2565 : (I_2551 401 this).toInt = (I_2435 401 this).toInt := by rw [hg_2554.2.1 401 (by decide) (by decide)]
                      have tt_2566 : (I_2551 402 this).toInt = (I_2435 402 this).toInt := by rw [hg_2554.2.1 402 (by decide) (by decide)]
                      have tt_2567 : (I_2551 397 this).toInt = (I_2435 397 this).toInt := by rw [hg_2554.2.1 397 (by decide) (by decide)]
                      refine lv_goto (tgt := 6) hx hb dX12_either_116 (by decide) ?_
                      exact ih_2417 x_2455 x_1806 (1 : Int32) I_2551 J_2552 ri_2437 _ _ _ (rg_w h_2543 (by decide)) (rg_w h_2424 (by decide)) (rg_w (rg_k (1 : Int32) 1 rfl) (by decide)) (by have zc0 : (0 : Int32).toInt = 0 := rfl; have zc1 : (1 : Int32).toInt = 1 := rfl; exact ⟨fun _ => by rw [show tb + (x_2455).toInt + (x_1806).toInt = (tb + (x_1806).toInt + 1) from by omega, show K + (x_2455).toInt + (x_1806).toInt = (K + (x_1806).toInt) + 1 from by omega]; exact PBz_tok hpbC (by omega) (by omega) (by omega) (by omega) (by omega) (by omega) (by omega) rfl, fun q => absurd q (by decide)⟩) (Int.le_of_lt (Int.lt_of_lt_of_le (tm_lt (by omega) (by omega) (by omega)) htmA)) (by have zc0 : (0 : Int32).toInt = 0 := rfl; have zc1 : (1 : Int32).toInt = 1 := rfl; exact tm_ms2' hm_2414 ⟨Int.le_of_lt (Int.lt_of_lt_of_le (tm_lt (s := (I_2435 391 this).toInt) (k := (I_2435 393 this).toInt) (by omega) (by omega) (by omega)) (tm_lec (hp_2441.resolve_left (fun q => q (by omega))).2 (by omega) (by omega))), Or.inl (Int.lt_of_lt_of_le (tm_lt (s := (I_2435 391 this).toInt) (k := (I_2435 393 this).toInt) (by omega) (by omega) (by omega)) (tm_lec (hp_2441.resolve_left (fun q => q (by omega))).2 (by omega) (by omega)))⟩ (tm_b ((hG.1.1 391 this).2)) (by omega) (by omega)) hG hP hD hS (lv_sub hl [4, 2, 5, 0] rfl)
                    · have f_2568 := (hr_2459.resolve_left (fun q => absurd (q.1.symm.trans c_2544) (by decide))).2
                      have tc_2569 : (x_2455).toInt = 0 := congrArg Int32.toInt c_2544
                      exact (rg_empty (rg_and h_2543 (rg_of_eq c_2544 (rg_k (0 : Int32) 0 rfl)) (lo := 1) (hi := 0) (by decide)) (by decide)).elim
                  · have f_2570 := (hr_2459.resolve_left (fun q => absurd (q.1.symm.trans c_2540) (by decide))).2
                    have tc_2571 : (x_2455).toInt = 0 := congrArg Int32.toInt c_2540
                    have h_2572 : rg x_2455 0 0 := rg_and h_2460 (rg_of_eq c_2540 (rg_k (0 : Int32) 0 rfl)) (by decide)
                    have uh_2572 := h_2572.1
                    have vh_2572 := h_2572.2
                    refine lv_iload_n hx hb dX12_either_79 rfl (lv_at hl 4 rfl) ?_
                    refine lv_if_eq (tgt := 90) hx hb dX12_either_80 (by decide) (fun c_2573 => ?_) (fun c_2573 => ?_)
                    · have tc_2574 : (x_1806).toInt = 0 := congrArg Int32.toInt c_2573
                      have h_2575 : rg x_1806 0 0 := rg_and h_2424 (rg_of_eq c_2573 (rg_k (0 : Int32) 0 rfl)) (by decide)
                      have uh_2575 := h_2575.1
                      have vh_2575 := h_2575.2
                      have hpbD : PBz (I_2435 396 this).toInt (I_2435 398 this).toInt (I_2435 402 this).toInt (I_2435 391 this).toInt (I_2435 393 this).toInt (ri_2437 this_a) bb f0 fr va (tb + 1) nn K := by have q := hpbC; rw [show (tb + (x_1806).toInt + 1) = tb + 1 from by omega, show (K + (x_1806).toInt) = K from by omega] at q; exact q
                      refine lv_iload hx hb dX12_either_90 (lv_at hl 0 rfl) ?_
                      refine lv_istore_n (lv' := [(2, .int 0), (5, .int 0), (1, .int x_2455), (4, .int x_2433), (0, .ref this), (3, .int x_1807)]) hx hb dX12_either_92 rfl hl (by decide) rfl (fun ls hl => ?_)
                      refine lv_iload_n hx hb dX12_either_93 rfl (lv_at hl 2 rfl) ?_
                      refine lv_if_ne (tgt := 102) hx hb dX12_either_94 (by decide) (fun c_2576 => ?_) (fun c_2576 => ?_)
                      · have f_2577 := (hr_2459.resolve_right (fun q => c_2576 q.1)).2
                        have tc_2578 : (x_2455).toInt ≠ 0 := fun q => c_2576 (Int32.toInt_inj.mp q)
                        exact (rg_empty (rg_ne c_2576 h_2572 0 rfl (lo := 1) (hi := (-1)) (by decide)) (by decide)).elim
                      · have f_2579 := (hr_2459.resolve_left (fun q => absurd (q.1.symm.trans c_2576) (by decide))).2
                        have tc_2580 : (x_2455).toInt = 0 := congrArg Int32.toInt c_2576
                        refine lv_iload hx hb dX12_either_97 (lv_at hl 1 rfl) ?_
                        refine lv_if_eq (tgt := 106) hx hb dX12_either_99 (by decide) (fun c_2581 => ?_) (fun c_2581 => absurd c_2581 (by decide))
                        refine lv_iconst (v := 0) hx hb dX12_either_106 (by decide) ?_
                        refine lv_istore_n (lv' := [(3, .int 0), (2, .int 0), (5, .int 0), (1, .int x_2455), (4, .int x_2433), (0, .ref this)]) hx hb dX12_either_107 rfl hl (by decide) rfl (fun ls hl => ?_)
                        refine lv_iload_n hx hb dX12_either_108 rfl (lv_at hl 0 rfl) ?_
                        refine lv_if_eq (tgt := 116) hx hb dX12_either_109 (by decide) (fun c_2582 => ?_) (fun c_2582 => absurd c_2582 (by decide))
                        refine lv_goto (tgt := 6) hx hb dX12_either_116 (by decide) ?_
                        exact ih_2417 x_2455 (0 : Int32) (0 : Int32) I_2435 J_2436 ri_2437 _ _ _ (rg_w h_2572 (by decide)) (rg_w (rg_k (0 : Int32) 0 rfl) (by decide)) (rg_w (rg_k (0 : Int32) 0 rfl) (by decide)) (by have zc0 : (0 : Int32).toInt = 0 := rfl; have zc1 : (1 : Int32).toInt = 1 := rfl; exact ⟨fun q => absurd q (by decide), fun _ => PBz_cg hpbD (by omega) (by omega) (by omega) (by omega) (by omega) rfl⟩) htmA (by have zc0 : (0 : Int32).toInt = 0 := rfl; have zc1 : (1 : Int32).toInt = 1 := rfl; exact tm_ms2' hm_2414 ⟨tm_lec (hp_2441.resolve_left (fun q => q (by omega))).2 (by omega) (by omega), Or.inr (by omega)⟩ (tm_b ((hG.1.1 391 this).2)) (by omega) (by omega)) hG hP hD hS (lv_sub hl [5, 3, 1, 0] rfl)
                    · have tc_2583 : (x_1806).toInt ≠ 0 := fun q => c_2573 (Int32.toInt_inj.mp q)
                      have h_2584 : rg x_1806 1 1 := rg_ne c_2573 h_2424 0 rfl (by decide)
                      have uh_2584 := h_2584.1
                      have vh_2584 := h_2584.2
                      refine lv_aload_n hx hb dX12_either_83 rfl (lv_at hl 3 rfl) ?_
                      refine lv_bipush (v := 22) hx hb dX12_either_84 (by decide) ?_
                      refine lv_iconst (v := 0) hx hb dX12_either_86 (by decide) ?_
                      have hq1 := PBz_t hpbC
                      have hq2 := PBz_w hpbC (Or.inr (by omega))
                      refine pk_v (va_runV (As := [.int 22, .int 0]) (rest := []) ⟨hx, hb, hml, hown, hts⟩ (s_X12_emit l D t σ I_2435 J_2436 ri_2437 rj rq H.size tg hSH hG.1 this (22 : Int32) (0 : Int32) hL_this hK_this this_a hR_this_a hL_this_a hK_this_a hN_this_a hT_this_a (by omega) (by omega)) (cwV 2 hts (tw_V tw_905 tw_906 tw_907 tw_5 tw_908) rfl rfl rfl cv_yX12_emit_2 ⟨Nat.le_of_ble_eq_true rfl, Nat.le_of_ble_eq_true rfl⟩) ⟨pq_blind, pq_recv hK hP hL_this hK_this (by decide) rfl, pq_pre hK hN hP hD⟩ rfl rfl hl.1 rfl (lv_room (Nat.le_of_ble_eq_true rfl)) dX12_either_87 ⟨Nat.le_of_ble_eq_true rfl, Nat.le_of_ble_eq_true rfl⟩) hD hS hA (fun σ1 μ1 H locs hw_2586 hP hD hS => ?_)
                      obtain ⟨I_2587, ri_2588, hu_2589, hg_2590, hp_2592, hp_2593, hp_2594, hp_2595⟩ := hw_2586
                      obtain ⟨hu_2589a, hu_2589b⟩ := Prod.mk.inj hu_2589
                      rw [hu_2589a, hu_2589b] at hP hD
                      obtain ⟨v_2596, ev_2596, hv_2596⟩ := hp_2592
                      have tt_2597 : (I_2587 398 this).toInt = (I_2435 398 this).toInt + 1 := by rw [ev_2596, pq_us]; exact hv_2596
                      have tt_2598 : (I_2587 403 this).toInt = (I_2435 403 this).toInt := by rw [ev_2596, pq_uf _ _ _ (by decide)]
                      have hG := GM.tr hG hg_2590 (by decide)
                      have tt_2599 : (I_2587 396 this).toInt = (I_2435 396 this).toInt := by rw [hg_2590.2.1 396 (by decide) (by decide)]
                      have tt_2600 : (I_2587 401 this).toInt = (I_2435 401 this).toInt := by rw [hg_2590.2.1 401 (by decide) (by decide)]
                      have tt_2601 : (I_2587 402 this).toInt = (I_2435 402 this).toInt := by rw [hg_2590.2.1 402 (by decide) (by decide)]
                      have tt_2602 : (I_2587 391 this).toInt = (I_2435 391 this).toInt := by rw [hg_2590.2.1 391 (by decide) (by decide)]
                      have tt_2603 : (I_2587 393 this).toInt = (I_2435 393 this).toInt := by rw [hg_2590.2.1 393 (by decide) (by decide)]
                      have tt_2604 : (I_2587 397 this).toInt = (I_2435 397 this).toInt := by rw [hg_2590.2.1 397 (by decide) (by decide)]
                      have hpbD : PBz (I_2587 396 this).toInt (I_2587 398 this).toInt (I_2587 402 this).toInt (I_2587 391 this).toInt (I_2587 393 this).toInt (ri_2588 this_a) bb f0 fr va (tb + 1) nn K := by have zc0 : (0 : Int32).toInt = 0 := rfl; have zc1 : (1 : Int32).toInt = 1 := rfl; have zo : (22 : Int32).toInt = 22 := rfl; exact PBz_em (x := 22) (by rw [show K + 1 = (K + (x_1806).toInt) from by omega]; exact hpbC) (by omega) (fun j hj => hp_2593 j (by omega)) (by rw [show (I_2435 396 this).toInt + 250 + 2 * (I_2435 398 this).toInt = (I_2435 396 this).toInt + 250 + 2 * (I_2435 398 this).toInt from by omega]; exact hp_2594) (by omega) (by omega) (by omega) (by omega) (by omega) (by omega)
                      refine lv_iload hx hb dX12_either_90 (lv_at hl 0 rfl) ?_
                      refine lv_istore_n (lv' := [(2, .int 0), (5, .int 0), (1, .int x_2455), (4, .int x_2433), (0, .ref this), (3, .int x_1807)]) hx hb dX12_either_92 rfl hl (by decide) rfl (fun ls hl => ?_)
                      refine lv_iload_n hx hb dX12_either_93 rfl (lv_at hl 2 rfl) ?_
                      refine lv_if_ne (tgt := 102) hx hb dX12_either_94 (by decide) (fun c_2605 => ?_) (fun c_2605 => ?_)
                      · have f_2606 := (hr_2459.resolve_right (fun q => c_2605 q.1)).2
                        have tc_2607 : (x_2455).toInt ≠ 0 := fun q => c_2605 (Int32.toInt_inj.mp q)
                        exact (rg_empty (rg_ne c_2605 h_2572 0 rfl (lo := 1) (hi := (-1)) (by decide)) (by decide)).elim
                      · have f_2608 := (hr_2459.resolve_left (fun q => absurd (q.1.symm.trans c_2605) (by decide))).2
                        have tc_2609 : (x_2455).toInt = 0 := congrArg Int32.toInt c_2605
                        refine lv_iload hx hb dX12_either_97 (lv_at hl 1 rfl) ?_
                        refine lv_if_eq (tgt := 106) hx hb dX12_either_99 (by decide) (fun c_2610 => ?_) (fun c_2610 => absurd c_2610 (by decide))
                        refine lv_iconst (v := 0) hx hb dX12_either_106 (by decide) ?_
                        refine lv_istore_n (lv' := [(3, .int 0), (2, .int 0), (5, .int 0), (1, .int x_2455), (4, .int x_2433), (0, .ref this)]) hx hb dX12_either_107 rfl hl (by decide) rfl (fun ls hl => ?_)
                        refine lv_iload_n hx hb dX12_either_108 rfl (lv_at hl 0 rfl) ?_
                        refine lv_if_eq (tgt := 116) hx hb dX12_either_109 (by decide) (fun c_2611 => ?_) (fun c_2611 => absurd c_2611 (by decide))
                        refine lv_goto (tgt := 6) hx hb dX12_either_116 (by decide) ?_
                        exact ih_2417 x_2455 (0 : Int32) (0 : Int32) I_2587 J_2436 ri_2588 _ _ _ (rg_w h_2572 (by decide)) (rg_w (rg_k (0 : Int32) 0 rfl) (by decide)) (rg_w (rg_k (0 : Int32) 0 rfl) (by decide)) (by have zc0 : (0 : Int32).toInt = 0 := rfl; have zc1 : (1 : Int32).toInt = 1 := rfl; exact ⟨fun q => absurd q (by decide), fun _ => PBz_cg hpbD (by omega) (by omega) (by omega) (by omega) (by omega) rfl⟩) (tm_lec htmA (by omega) (by omega)) (by have zc0 : (0 : Int32).toInt = 0 := rfl; have zc1 : (1 : Int32).toInt = 1 := rfl; exact tm_ms2' hm_2414 ⟨tm_lec (hp_2441.resolve_left (fun q => q (by omega))).2 (by omega) (by omega), Or.inr (by omega)⟩ (tm_b ((hG.1.1 391 this).2)) (by omega) (by omega)) hG hP hD hS (lv_sub hl [5, 3, 1, 0] rfl)
                · have tc_2612 : (x_2537).toInt = 0 := congrArg Int32.toInt c_2538
                  have h_2613 : rg x_2537 0 0 := rg_and (rg_full _) (rg_of_eq c_2538 (rg_k (0 : Int32) 0 rfl)) (by decide)
                  have uh_2613 := h_2613.1
                  have vh_2613 := h_2613.2
                  refine lv_iconst (v := 1) hx hb dX12_either_68 (by decide) ?_
                  refine lv_goto (tgt := 73) hx hb dX12_either_69 (by decide) ?_
                  refine lv_istore (lv' := [(5, .int 1), (1, .int x_2455), (4, .int x_2433), (0, .ref this), (2, .int x_1806), (3, .int x_1807)]) hx hb dX12_either_73 hl (by decide) rfl (fun ls hl => ?_)
                  refine lv_iload_n hx hb dX12_either_75 rfl (lv_at hl 1 rfl) ?_
                  refine lv_if_ne (tgt := 93) hx hb dX12_either_76 (by decide) (fun c_2614 => ?_) (fun c_2614 => ?_)
                  · have f_2615 := (hr_2459.resolve_right (fun q => c_2614 q.1)).2
                    have tc_2616 : (x_2455).toInt ≠ 0 := fun q => c_2614 (Int32.toInt_inj.mp q)
                    have h_2617 : rg x_2455 1 1 := rg_ne c_2614 h_2460 0 rfl (by decide)
                    have uh_2617 := h_2617.1
                    have vh_2617 := h_2617.2
                    refine lv_iload_n hx hb dX12_either_93 rfl (lv_at hl 1 rfl) ?_
                    refine lv_if_ne (tgt := 102) hx hb dX12_either_94 (by decide) (fun c_2618 => ?_) (fun c_2618 => ?_)
                    · have f_2619 := (hr_2459.resolve_right (fun q => c_2618 q.1)).2
                      have tc_2620 : (x_2455).toInt ≠ 0 := fun q => c_2618 (Int32.toInt_inj.mp q)
                      refine lv_iconst (v := 1) hx hb dX12_either_102 (by decide) ?_
                      refine lv_goto (tgt := 107) hx hb dX12_either_103 (by decide) ?_
                      refine lv_istore_n (lv' := [(3, .int 1), (5, .int 1), (1, .int x_2455), (4, .int x_2433), (0, .ref this), (2, .int x_1806)]) hx hb dX12_either_107 rfl hl (by decide) rfl (fun ls hl => ?_)
                      refine lv_iload_n hx hb dX12_either_108 rfl (lv_at hl 0 rfl) ?_
                      refine lv_if_eq (tgt := 116) hx hb dX12_either_109 (by decide) (fun c_2621 => absurd c_2621 (by decide)) (fun c_2621 => ?_)
                      refine lv_aload_n hx hb dX12_either_112 rfl (lv_at hl 4 rfl) ?_
                      obtain ⟨w_2622, hR_w_2622, hL_w_2622, hK_w_2622, hN_w_2622, hT_w_2622⟩ := sh_a hSH 387 (ci := 12) (kd := 13) (len := 300) rfl (by decide) hL_this hK_this
                      refine pk_v (va_runV (As := []) (rest := []) ⟨hx, hb, hml, hown, hts⟩ (s_X12_nextToken_x l D t σ I_2435 J_2436 ri_2437 rj rq H.size tg hSH hG.1 this hL_this hK_this w_2622 hR_w_2622 hL_w_2622 hK_w_2622 hN_w_2622 hT_w_2622) (cwV 0 hts (tw_V tw_832 tw_833 tw_834 tw_5 tw_835) rfl rfl rfl cv_yX12_nextToken_0 ⟨Nat.le_of_ble_eq_true rfl, Nat.le_of_ble_eq_true rfl⟩) ⟨pq_blind, pq_recv hK hP hL_this hK_this (by decide) rfl, pq_pre hK hN hP hD⟩ rfl rfl hl.1 rfl (lv_room (Nat.le_of_ble_eq_true rfl)) dX12_either_113 ⟨Nat.le_of_ble_eq_true rfl, Nat.le_of_ble_eq_true rfl⟩) hD hS hA (fun σ1 μ1 H locs hw_2624 hP hD hS => ?_)
                      obtain ⟨I_2625, J_2626, hu_2627, hg_2628, hp_2630, hp_2631, hp_2632⟩ := hw_2624
                      obtain ⟨hu_2627a, hu_2627b⟩ := Prod.mk.inj hu_2627
                      rw [hu_2627a, hu_2627b] at hP hD
                      have tt_2633 := hp_2630
                      have tt_2634 := hp_2631
                      have tt_2635 := hp_2632
                      have tt_2636 : (I_2625 391 this).toInt ≤ 300 := by have z := hg_2628.1.1 391 this; exact z.2
                      have hG := GM.tr hG hg_2628 (by decide)
                      have tt_2637 : (I_2625 396 this).toInt = (I_2435 396 this).toInt := by rw [hg_2628.2.1 396 (by decide) (by decide)]
                      have tt_2638 : (I_2625 398 this).toInt = (I_2435 398 this).toInt := by rw [hg_2628.2.1 398 (by decide) (by decide)]
                      have tt_2639 : (I_2625 401 this).toInt = (I_2435 401 this).toInt := by rw [hg_2628.2.1 401 (by decide) (by decide)]
                      have tt_2640 : (I_2625 402 this).toInt = (I_2435 402 this).toInt := by rw [hg_2628.2.1 402 (by decide) (by decide)]
                      have tt_2641 : (I_2625 397 this).toInt = (I_2435 397 this).toInt := by rw [hg_2628.2.1 397 (by decide) (by decide)]
                      refine lv_goto (tgt := 6) hx hb dX12_either_116 (by decide) ?_
                      exact ih_2417 x_2455 x_1806 (1 : Int32) I_2625 J_2626 ri_2437 _ _ _ (rg_w h_2617 (by decide)) (rg_w h_2424 (by decide)) (rg_w (rg_k (1 : Int32) 1 rfl) (by decide)) (by have zc0 : (0 : Int32).toInt = 0 := rfl; have zc1 : (1 : Int32).toInt = 1 := rfl; exact ⟨fun _ => by rw [show tb + (x_2455).toInt + (x_1806).toInt = (tb + (x_1806).toInt + 1) from by omega, show K + (x_2455).toInt + (x_1806).toInt = (K + (x_1806).toInt) + 1 from by omega]; exact PBz_tok hpbC (by omega) (by omega) (by omega) (by omega) (by omega) (by omega) (by omega) rfl, fun q => absurd q (by decide)⟩) (Int.le_of_lt (Int.lt_of_lt_of_le (tm_lt (by omega) (by omega) (by omega)) htmA)) (by have zc0 : (0 : Int32).toInt = 0 := rfl; have zc1 : (1 : Int32).toInt = 1 := rfl; exact tm_ms2' hm_2414 ⟨Int.le_of_lt (Int.lt_of_lt_of_le (tm_lt (s := (I_2435 391 this).toInt) (k := (I_2435 393 this).toInt) (by omega) (by omega) (by omega)) (tm_lec (hp_2441.resolve_left (fun q => q (by omega))).2 (by omega) (by omega))), Or.inl (Int.lt_of_lt_of_le (tm_lt (s := (I_2435 391 this).toInt) (k := (I_2435 393 this).toInt) (by omega) (by omega) (by omega)) (tm_lec (hp_2441.resolve_left (fun q => q (by omega))).2 (by omega) (by omega)))⟩ (tm_b ((hG.1.1 391 this).2)) (by omega) (by omega)) hG hP hD hS (lv_sub hl [4, 2, 5, 0] rfl)
                    · have f_2642 := (hr_2459.resolve_left (fun q => absurd (q.1.symm.trans c_2618) (by decide))).2
                      have tc_2643 : (x_2455).toInt = 0 := congrArg Int32.toInt c_2618
                      exact (rg_empty (rg_and h_2617 (rg_of_eq c_2618 (rg_k (0 : Int32) 0 rfl)) (lo := 1) (hi := 0) (by decide)) (by decide)).elim
                  · have f_2644 := (hr_2459.resolve_left (fun q => absurd (q.1.symm.trans c_2614) (by decide))).2
                    have tc_2645 : (x_2455).toInt = 0 := congrArg Int32.toInt c_2614
                    have h_2646 : rg x_2455 0 0 := rg_and h_2460 (rg_of_eq c_2614 (rg_k (0 : Int32) 0 rfl)) (by decide)
                    have uh_2646 := h_2646.1
                    have vh_2646 := h_2646.2
                    refine lv_iload_n hx hb dX12_either_79 rfl (lv_at hl 4 rfl) ?_
                    refine lv_if_eq (tgt := 90) hx hb dX12_either_80 (by decide) (fun c_2647 => ?_) (fun c_2647 => ?_)
                    · have tc_2648 : (x_1806).toInt = 0 := congrArg Int32.toInt c_2647
                      have h_2649 : rg x_1806 0 0 := rg_and h_2424 (rg_of_eq c_2647 (rg_k (0 : Int32) 0 rfl)) (by decide)
                      have uh_2649 := h_2649.1
                      have vh_2649 := h_2649.2
                      have hpbD : PBz (I_2435 396 this).toInt (I_2435 398 this).toInt (I_2435 402 this).toInt (I_2435 391 this).toInt (I_2435 393 this).toInt (ri_2437 this_a) bb f0 fr va (tb + 1) nn K := by have q := hpbC; rw [show (tb + (x_1806).toInt + 1) = tb + 1 from by omega, show (K + (x_1806).toInt) = K from by omega] at q; exact q
                      refine lv_iload hx hb dX12_either_90 (lv_at hl 0 rfl) ?_
                      refine lv_istore_n (lv' := [(2, .int 1), (5, .int 1), (1, .int x_2455), (4, .int x_2433), (0, .ref this), (3, .int x_1807)]) hx hb dX12_either_92 rfl hl (by decide) rfl (fun ls hl => ?_)
                      refine lv_iload_n hx hb dX12_either_93 rfl (lv_at hl 2 rfl) ?_
                      refine lv_if_ne (tgt := 102) hx hb dX12_either_94 (by decide) (fun c_2650 => ?_) (fun c_2650 => ?_)
                      · have f_2651 := (hr_2459.resolve_right (fun q => c_2650 q.1)).2
                        have tc_2652 : (x_2455).toInt ≠ 0 := fun q => c_2650 (Int32.toInt_inj.mp q)
                        exact (rg_empty (rg_ne c_2650 h_2646 0 rfl (lo := 1) (hi := (-1)) (by decide)) (by decide)).elim
                      · have f_2653 := (hr_2459.resolve_left (fun q => absurd (q.1.symm.trans c_2650) (by decide))).2
                        have tc_2654 : (x_2455).toInt = 0 := congrArg Int32.toInt c_2650
                        refine lv_iload hx hb dX12_either_97 (lv_at hl 1 rfl) ?_
                        refine lv_if_eq (tgt := 106) hx hb dX12_either_99 (by decide) (fun c_2655 => absurd c_2655 (by decide)) (fun c_2655 => ?_)
                        refine lv_iconst (v := 1) hx hb dX12_either_102 (by decide) ?_
                        refine lv_goto (tgt := 107) hx hb dX12_either_103 (by decide) ?_
                        refine lv_istore_n (lv' := [(3, .int 1), (2, .int 1), (5, .int 1), (1, .int x_2455), (4, .int x_2433), (0, .ref this)]) hx hb dX12_either_107 rfl hl (by decide) rfl (fun ls hl => ?_)
                        refine lv_iload_n hx hb dX12_either_108 rfl (lv_at hl 0 rfl) ?_
                        refine lv_if_eq (tgt := 116) hx hb dX12_either_109 (by decide) (fun c_2656 => absurd c_2656 (by decide)) (fun c_2656 => ?_)
                        refine lv_aload_n hx hb dX12_either_112 rfl (lv_at hl 5 rfl) ?_
                        obtain ⟨w_2657, hR_w_2657, hL_w_2657, hK_w_2657, hN_w_2657, hT_w_2657⟩ := sh_a hSH 387 (ci := 12) (kd := 13) (len := 300) rfl (by decide) hL_this hK_this
                        refine pk_v (va_runV (As := []) (rest := []) ⟨hx, hb, hml, hown, hts⟩ (s_X12_nextToken_x l D t σ I_2435 J_2436 ri_2437 rj rq H.size tg hSH hG.1 this hL_this hK_this w_2657 hR_w_2657 hL_w_2657 hK_w_2657 hN_w_2657 hT_w_2657) (cwV 0 hts (tw_V tw_832 tw_833 tw_834 tw_5 tw_835) rfl rfl rfl cv_yX12_nextToken_0 ⟨Nat.le_of_ble_eq_true rfl, Nat.le_of_ble_eq_true rfl⟩) ⟨pq_blind, pq_recv hK hP hL_this hK_this (by decide) rfl, pq_pre hK hN hP hD⟩ rfl rfl hl.1 rfl (lv_room (Nat.le_of_ble_eq_true rfl)) dX12_either_113 ⟨Nat.le_of_ble_eq_true rfl, Nat.le_of_ble_eq_true rfl⟩) hD hS hA (fun σ1 μ1 H locs hw_2659 hP hD hS => ?_)
                        obtain ⟨I_2660, J_2661, hu_2662, hg_2663, hp_2665, hp_2666, hp_2667⟩ := hw_2659
                        obtain ⟨hu_2662a, hu_2662b⟩ := Prod.mk.inj hu_2662
                        rw [hu_2662a, hu_2662b] at hP hD
                        have tt_2668 := hp_2665
                        have tt_2669 := hp_2666
                        have tt_2670 := hp_2667
                        have tt_2671 : (I_2660 391 this).toInt ≤ 300 := by have z := hg_2663.1.1 391 this; exact z.2
                        have hG := GM.tr hG hg_2663 (by decide)
                        have tt_2672 : (I_2660 396 this).toInt = (I_2435 396 this).toInt := by rw [hg_2663.2.1 396 (by decide) (by decide)]
                        have tt_2673 : (I_2660 398 this).toInt = (I_2435 398 this).toInt := by rw [hg_2663.2.1 398 (by decide) (by decide)]
                        have tt_2674 : (I_2660 401 this).toInt = (I_2435 401 this).toInt := by rw [hg_2663.2.1 401 (by decide) (by decide)]
                        have tt_2675 : (I_2660 402 this).toInt = (I_2435 402 this).toInt := by rw [hg_2663.2.1 402 (by decide) (by decide)]
                        have tt_2676 : (I_2660 397 this).toInt = (I_2435 397 this).toInt := by rw [hg_2663.2.1 397 (by decide) (by decide)]
                        refine lv_goto (tgt := 6) hx hb dX12_either_116 (by decide) ?_
                        exact ih_2417 x_2455 (1 : Int32) (1 : Int32) I_2660 J_2661 ri_2437 _ _ _ (rg_w h_2646 (by decide)) (rg_w (rg_k (1 : Int32) 1 rfl) (by decide)) (rg_w (rg_k (1 : Int32) 1 rfl) (by decide)) (by have zc0 : (0 : Int32).toInt = 0 := rfl; have zc1 : (1 : Int32).toInt = 1 := rfl; exact ⟨fun _ => by rw [show tb + (x_2455).toInt + (1 : Int32).toInt = (tb + 1) from by omega, show K + (x_2455).toInt + (1 : Int32).toInt = K + 1 from by omega]; exact PBz_tok hpbD (by omega) (by omega) (by omega) (by omega) (by omega) (by omega) (by omega) rfl, fun q => absurd q (by decide)⟩) (Int.le_of_lt (Int.lt_of_lt_of_le (tm_lt (by omega) (by omega) (by omega)) htmA)) (by have zc0 : (0 : Int32).toInt = 0 := rfl; have zc1 : (1 : Int32).toInt = 1 := rfl; exact tm_ms2' hm_2414 ⟨Int.le_of_lt (Int.lt_of_lt_of_le (tm_lt (s := (I_2435 391 this).toInt) (k := (I_2435 393 this).toInt) (by omega) (by omega) (by omega)) (tm_lec (hp_2441.resolve_left (fun q => q (by omega))).2 (by omega) (by omega))), Or.inl (Int.lt_of_lt_of_le (tm_lt (s := (I_2435 391 this).toInt) (k := (I_2435 393 this).toInt) (by omega) (by omega) (by omega)) (tm_lec (hp_2441.resolve_left (fun q => q (by omega))).2 (by omega) (by omega)))⟩ (tm_b ((hG.1.1 391 this).2)) (by omega) (by omega)) hG hP hD hS (lv_sub hl [5, 3, 1, 0] rfl)
                    · have tc_2677 : (x_1806).toInt ≠ 0 := fun q => c_2647 (Int32.toInt_inj.mp q)
                      have h_2678 : rg x_1806 1 1 := rg_ne c_2647 h_2424 0 rfl (by decide)
                      have uh_2678 := h_2678.1
                      have vh_2678 := h_2678.2
                      refine lv_aload_n hx hb dX12_either_83 rfl (lv_at hl 3 rfl) ?_
                      refine lv_bipush (v := 22) hx hb dX12_either_84 (by decide) ?_
                      refine lv_iconst (v := 0) hx hb dX12_either_86 (by decide) ?_
                      have hq1 := PBz_t hpbC
                      have hq2 := PBz_w hpbC (Or.inr (by omega))
                      refine pk_v (va_runV (As := [.int 22, .int 0]) (rest := []) ⟨hx, hb, hml, hown, hts⟩ (s_X12_emit l D t σ I_2435 J_2436 ri_2437 rj rq H.size tg hSH hG.1 this (22 : Int32) (0 : Int32) hL_this hK_this this_a hR_this_a hL_this_a hK_this_a hN_this_a hT_this_a (by omega) (by omega)) (cwV 2 hts (tw_V tw_905 tw_906 tw_907 tw_5 tw_908) rfl rfl rfl cv_yX12_emit_2 ⟨Nat.le_of_ble_eq_true rfl, Nat.le_of_ble_eq_true rfl⟩) ⟨pq_blind, pq_recv hK hP hL_this hK_this (by decide) rfl, pq_pre hK hN hP hD⟩ rfl rfl hl.1 rfl (lv_room (Nat.le_of_ble_eq_true rfl)) dX12_either_87 ⟨Nat.le_of_ble_eq_true rfl, Nat.le_of_ble_eq_true rfl⟩) hD hS hA (fun σ1 μ1 H locs hw_2680 hP hD hS => ?_)
                      obtain ⟨I_2681, ri_2682, hu_2683, hg_2684, hp_2686, hp_2687, hp_2688, hp_2689⟩ := hw_2680
                      obtain ⟨hu_2683a, hu_2683b⟩ := Prod.mk.inj hu_2683
                      rw [hu_2683a, hu_2683b] at hP hD
                      obtain ⟨v_2690, ev_2690, hv_2690⟩ := hp_2686
                      have tt_2691 : (I_2681 398 this).toInt = (I_2435 398 this).toInt + 1 := by rw [ev_2690, pq_us]; exact hv_2690
                      have tt_2692 : (I_2681 403 this).toInt = (I_2435 403 this).toInt := by rw [ev_2690, pq_uf _ _ _ (by decide)]
                      have hG := GM.tr hG hg_2684 (by decide)
                      have tt_2693 : (I_2681 396 this).toInt = (I_2435 396 this).toInt := by rw [hg_2684.2.1 396 (by decide) (by decide)]
                      have tt_2694 : (I_2681 401 this).toInt = (I_2435 401 this).toInt := by rw [hg_2684.2.1 401 (by decide) (by decide)]
                      have tt_2695 : (I_2681 402 this).toInt = (I_2435 402 this).toInt := by rw [hg_2684.2.1 402 (by decide) (by decide)]
                      have tt_2696 : (I_2681 391 this).toInt = (I_2435 391 this).toInt := by rw [hg_2684.2.1 391 (by decide) (by decide)]
                      have tt_2697 : (I_2681 393 this).toInt = (I_2435 393 this).toInt := by rw [hg_2684.2.1 393 (by decide) (by decide)]
                      have tt_2698 : (I_2681 397 this).toInt = (I_2435 397 this).toInt := by rw [hg_2684.2.1 397 (by decide) (by decide)]
                      have hpbD : PBz (I_2681 396 this).toInt (I_2681 398 this).toInt (I_2681 402 this).toInt (I_2681 391 this).toInt (I_2681 393 this).toInt (ri_2682 this_a) bb f0 fr va (tb + 1) nn K := by have zc0 : (0 : Int32).toInt = 0 := rfl; have zc1 : (1 : Int32).toInt = 1 := rfl; have zo : (22 : Int32).toInt = 22 := rfl; exact PBz_em (x := 22) (by rw [show K + 1 = (K + (x_1806).toInt) from by omega]; exact hpbC) (by omega) (fun j hj => hp_2687 j (by omega)) (by rw [show (I_2435 396 this).toInt + 250 + 2 * (I_2435 398 this).toInt = (I_2435 396 this).toInt + 250 + 2 * (I_2435 398 this).toInt from by omega]; exact hp_2688) (by omega) (by omega) (by omega) (by omega) (by omega) (by omega)
                      refine lv_iload hx hb dX12_either_90 (lv_at hl 0 rfl) ?_
                      refine lv_istore_n (lv' := [(2, .int 1), (5, .int 1), (1, .int x_2455), (4, .int x_2433), (0, .ref this), (3, .int x_1807)]) hx hb dX12_either_92 rfl hl (by decide) rfl (fun ls hl => ?_)
                      refine lv_iload_n hx hb dX12_either_93 rfl (lv_at hl 2 rfl) ?_
                      refine lv_if_ne (tgt := 102) hx hb dX12_either_94 (by decide) (fun c_2699 => ?_) (fun c_2699 => ?_)
                      · have f_2700 := (hr_2459.resolve_right (fun q => c_2699 q.1)).2
                        have tc_2701 : (x_2455).toInt ≠ 0 := fun q => c_2699 (Int32.toInt_inj.mp q)
                        exact (rg_empty (rg_ne c_2699 h_2646 0 rfl (lo := 1) (hi := (-1)) (by decide)) (by decide)).elim
                      · have f_2702 := (hr_2459.resolve_left (fun q => absurd (q.1.symm.trans c_2699) (by decide))).2
                        have tc_2703 : (x_2455).toInt = 0 := congrArg Int32.toInt c_2699
                        refine lv_iload hx hb dX12_either_97 (lv_at hl 1 rfl) ?_
                        refine lv_if_eq (tgt := 106) hx hb dX12_either_99 (by decide) (fun c_2704 => absurd c_2704 (by decide)) (fun c_2704 => ?_)
                        refine lv_iconst (v := 1) hx hb dX12_either_102 (by decide) ?_
                        refine lv_goto (tgt := 107) hx hb dX12_either_103 (by decide) ?_
                        refine lv_istore_n (lv' := [(3, .int 1), (2, .int 1), (5, .int 1), (1, .int x_2455), (4, .int x_2433), (0, .ref this)]) hx hb dX12_either_107 rfl hl (by decide) rfl (fun ls hl => ?_)
                        refine lv_iload_n hx hb dX12_either_108 rfl (lv_at hl 0 rfl) ?_
                        refine lv_if_eq (tgt := 116) hx hb dX12_either_109 (by decide) (fun c_2705 => absurd c_2705 (by decide)) (fun c_2705 => ?_)
                        refine lv_aload_n hx hb dX12_either_112 rfl (lv_at hl 5 rfl) ?_
                        obtain ⟨w_2706, hR_w_2706, hL_w_2706, hK_w_2706, hN_w_2706, hT_w_2706⟩ := sh_a hSH 387 (ci := 12) (kd := 13) (len := 300) rfl (by decide) hL_this hK_this
                        refine pk_v (va_runV (As := []) (rest := []) ⟨hx, hb, hml, hown, hts⟩ (s_X12_nextToken_x l D t σ I_2681 J_2436 ri_2682 rj rq H.size tg hSH hG.1 this hL_this hK_this w_2706 hR_w_2706 hL_w_2706 hK_w_2706 hN_w_2706 hT_w_2706) (cwV 0 hts (tw_V tw_832 tw_833 tw_834 tw_5 tw_835) rfl rfl rfl cv_yX12_nextToken_0 ⟨Nat.le_of_ble_eq_true rfl, Nat.le_of_ble_eq_true rfl⟩) ⟨pq_blind, pq_recv hK hP hL_this hK_this (by decide) rfl, pq_pre hK hN hP hD⟩ rfl rfl hl.1 rfl (lv_room (Nat.le_of_ble_eq_true rfl)) dX12_either_113 ⟨Nat.le_of_ble_eq_true rfl, Nat.le_of_ble_eq_true rfl⟩) hD hS hA (fun σ1 μ1 H locs hw_2708 hP hD hS => ?_)
                        obtain ⟨I_2709, J_2710, hu_2711, hg_2712, hp_2714, hp_2715, hp_2716⟩ := hw_2708
                        obtain ⟨hu_2711a, hu_2711b⟩ := Prod.mk.inj hu_2711
                        rw [hu_2711a, hu_2711b] at hP hD
                        have tt_2717 := hp_2714
                        have tt_2718 := hp_2715
                        have tt_2719 := hp_2716
                        have tt_2720 : (I_2709 391 this).toInt ≤ 300 := by have z := hg_2712.1.1 391 this; exact z.2
                        have hG := GM.tr hG hg_2712 (by decide)
                        have tt_2721 : (I_2709 396 this).toInt = (I_2681 396 this).toInt := by rw [hg_2712.2.1 396 (by decide) (by decide)]
                        have tt_2722 : (I_2709 398 this).toInt = (I_2681 398 this).toInt := by rw [hg_2712.2.1 398 (by decide) (by decide)]
                        have tt_2723 : (I_2709 401 this).toInt = (I_2681 401 this).toInt := by rw [hg_2712.2.1 401 (by decide) (by decide)]
                        have tt_2724 : (I_2709 402 this).toInt = (I_2681 402 this).toInt := by rw [hg_2712.2.1 402 (by decide) (by decide)]
                        have tt_2725 : (I_2709 397 this).toInt = (I_2681 397 this).toInt := by rw [hg_2712.2.1 397 (by decide) (by decide)]
                        refine lv_goto (tgt := 6) hx hb dX12_either_116 (by decide) ?_
                        exact ih_2417 x_2455 (1 : Int32) (1 : Int32) I_2709 J_2710 ri_2682 _ _ _ (rg_w h_2646 (by decide)) (rg_w (rg_k (1 : Int32) 1 rfl) (by decide)) (rg_w (rg_k (1 : Int32) 1 rfl) (by decide)) (by have zc0 : (0 : Int32).toInt = 0 := rfl; have zc1 : (1 : Int32).toInt = 1 := rfl; exact ⟨fun _ => by rw [show tb + (x_2455).toInt + (1 : Int32).toInt = (tb + 1) from by omega, show K + (x_2455).toInt + (1 : Int32).toInt = K + 1 from by omega]; exact PBz_tok hpbD (by omega) (by omega) (by omega) (by omega) (by omega) (by omega) (by omega) rfl, fun q => absurd q (by decide)⟩) (Int.le_of_lt (Int.lt_of_lt_of_le (tm_lt (by omega) (by omega) (by omega)) htmA)) (by have zc0 : (0 : Int32).toInt = 0 := rfl; have zc1 : (1 : Int32).toInt = 1 := rfl; exact tm_ms2' hm_2414 ⟨Int.le_of_lt (Int.lt_of_lt_of_le (tm_lt (s := (I_2681 391 this).toInt) (k := (I_2681 393 this).toInt) (by omega) (by omega) (by omega)) (tm_lec (hp_2441.resolve_left (fun q => q (by omega))).2 (by omega) (by omega))), Or.inl (Int.lt_of_lt_of_le (tm_lt (s := (I_2681 391 this).toInt) (k := (I_2681 393 this).toInt) (by omega) (by omega) (by omega)) (tm_lec (hp_2441.resolve_left (fun q => q (by omega))).2 (by omega) (by omega)))⟩ (tm_b ((hG.1.1 391 this).2)) (by omega) (by omega)) hG hP hD hS (lv_sub hl [5, 3, 1, 0] rfl)
            · have tc_2726 : (x_1805).toInt ≠ 0 := fun q => c_2447 (Int32.toInt_inj.mp q)
              have h_2727 : rg x_1805 1 1 := rg_ne c_2447 h_2423 0 rfl (by decide)
              have uh_2727 := h_2727.1
              have vh_2727 := h_2727.2
              refine lv_aload_n hx hb dX12_either_28 rfl (lv_at hl 1 rfl) ?_
              refine lv_bipush (v := 21) hx hb dX12_either_29 (by decide) ?_
              refine lv_iconst (v := 0) hx hb dX12_either_31 (by decide) ?_
              have hq1 := PBz_t hpbB
              have hq2 := PBz_w hpbB (Or.inr (by omega))
              refine pk_v (va_runV (As := [.int 21, .int 0]) (rest := []) ⟨hx, hb, hml, hown, hts⟩ (s_X12_emit l D t σ I_2435 J_2436 ri_2437 rj rq H.size tg hSH hG.1 this (21 : Int32) (0 : Int32) hL_this hK_this this_a hR_this_a hL_this_a hK_this_a hN_this_a hT_this_a (by omega) (by omega)) (cwV 2 hts (tw_V tw_905 tw_906 tw_907 tw_5 tw_908) rfl rfl rfl cv_yX12_emit_2 ⟨Nat.le_of_ble_eq_true rfl, Nat.le_of_ble_eq_true rfl⟩) ⟨pq_blind, pq_recv hK hP hL_this hK_this (by decide) rfl, pq_pre hK hN hP hD⟩ rfl rfl hl.1 rfl (lv_room (Nat.le_of_ble_eq_true rfl)) dX12_either_32 ⟨Nat.le_of_ble_eq_true rfl, Nat.le_of_ble_eq_true rfl⟩) hD hS hA (fun σ1 μ1 H locs hw_2729 hP hD hS => ?_)
              obtain ⟨I_2730, ri_2731, hu_2732, hg_2733, hp_2735, hp_2736, hp_2737, hp_2738⟩ := hw_2729
              obtain ⟨hu_2732a, hu_2732b⟩ := Prod.mk.inj hu_2732
              rw [hu_2732a, hu_2732b] at hP hD
              obtain ⟨v_2739, ev_2739, hv_2739⟩ := hp_2735
              have tt_2740 : (I_2730 398 this).toInt = (I_2435 398 this).toInt + 1 := by rw [ev_2739, pq_us]; exact hv_2739
              have tt_2741 : (I_2730 403 this).toInt = (I_2435 403 this).toInt := by rw [ev_2739, pq_uf _ _ _ (by decide)]
              have hG := GM.tr hG hg_2733 (by decide)
              have tt_2742 : (I_2730 396 this).toInt = (I_2435 396 this).toInt := by rw [hg_2733.2.1 396 (by decide) (by decide)]
              have tt_2743 : (I_2730 401 this).toInt = (I_2435 401 this).toInt := by rw [hg_2733.2.1 401 (by decide) (by decide)]
              have tt_2744 : (I_2730 402 this).toInt = (I_2435 402 this).toInt := by rw [hg_2733.2.1 402 (by decide) (by decide)]
              have tt_2745 : (I_2730 391 this).toInt = (I_2435 391 this).toInt := by rw [hg_2733.2.1 391 (by decide) (by decide)]
              have tt_2746 : (I_2730 393 this).toInt = (I_2435 393 this).toInt := by rw [hg_2733.2.1 393 (by decide) (by decide)]
              have tt_2747 : (I_2730 397 this).toInt = (I_2435 397 this).toInt := by rw [hg_2733.2.1 397 (by decide) (by decide)]
              have hpbC : PBz (I_2730 396 this).toInt (I_2730 398 this).toInt (I_2730 402 this).toInt (I_2730 391 this).toInt (I_2730 393 this).toInt (ri_2731 this_a) bb f0 fr va (tb + (x_1806).toInt + 1) nn (K + (x_1806).toInt) := by have zc0 : (0 : Int32).toInt = 0 := rfl; have zc1 : (1 : Int32).toInt = 1 := rfl; have zo : (21 : Int32).toInt = 21 := rfl; exact PBz_em (x := 21) (by rw [show K + (x_1806).toInt + 1 = (K + (x_1805).toInt + (x_1806).toInt) from by omega]; exact hpbB) (by omega) (fun j hj => hp_2736 j (by omega)) (by rw [show (I_2435 396 this).toInt + 250 + 2 * (I_2435 398 this).toInt = (I_2435 396 this).toInt + 250 + 2 * (I_2435 398 this).toInt from by omega]; exact hp_2737) (by omega) (by omega) (by omega) (by omega) (by omega) (by omega)
              refine lv_aload_n hx hb dX12_either_35 rfl (lv_at hl 1 rfl) ?_
              refine lv_bipush (v := 97) hx hb dX12_either_36 (by decide) ?_
              refine lv_bipush (v := 110) hx hb dX12_either_38 (by decide) ?_
              refine lv_bipush (v := 100) hx hb dX12_either_40 (by decide) ?_
              refine pk_l (va_runS (As := [.int 97, .int 110, .int 100]) (rest := [.ref this]) ⟨hx, hb, hml, hown, hts⟩ (s_X12_w3_x l D t σ I_2730 J_2436 ri_2731 rj rq H.size tg hSH hG.1 (97 : Int32) (110 : Int32) (100 : Int32)) (va_cwS 3 hts (tw_S tw_864 tw_865 tw_5 tw_866) rfl rfl rfl cd_yX12_w3_3 ⟨Nat.le_of_ble_eq_true rfl, Nat.le_of_ble_eq_true rfl⟩) ⟨pq_blind, pq_pre hK hN hP hD⟩ rfl rfl hl.1 rfl (lv_room (Nat.le_of_ble_eq_true rfl)) dX12_either_42 ⟨Nat.le_of_ble_eq_true rfl, Nat.le_of_ble_eq_true rfl⟩) hD hS hA (fun x_2748 σ1 μ1 H locs hw_2749 hP hD hS => ?_)
              have hu_2750 := hw_2749
              obtain ⟨hu_2750a, hu_2750b⟩ := Prod.mk.inj hu_2750
              rw [hu_2750a, hu_2750b] at hP hD
              refine pk_i (va_runV (As := [.long x_2748]) (rest := []) ⟨hx, hb, hml, hown, hts⟩ (s_X12_isWord_x l D t σ I_2730 J_2436 ri_2731 rj rq H.size tg hSH hG.1 this x_2748 hL_this hK_this) (cwV 1 hts (tw_V tw_879 tw_880 tw_881 tw_5 tw_882) rfl rfl rfl cv_yX12_isWord_1 ⟨Nat.le_of_ble_eq_true rfl, Nat.le_of_ble_eq_true rfl⟩) ⟨pq_blind, pq_recv hK hP hL_this hK_this (by decide) rfl, pq_pre hK hN hP hD⟩ rfl rfl hl.1 rfl (lv_room (Nat.le_of_ble_eq_true rfl)) dX12_either_45 ⟨Nat.le_of_ble_eq_true rfl, Nat.le_of_ble_eq_true rfl⟩) hD hS hA (fun x_2753 σ1 μ1 H locs hw_2754 hP hD hS => ?_)
              obtain ⟨hu_2755, hr_2757⟩ := hw_2754
              obtain ⟨hu_2755a, hu_2755b⟩ := Prod.mk.inj hu_2755
              rw [hu_2755a, hu_2755b] at hP hD
              have h_2758 : rg x_2753 0 1 := by rcases hr_2757 with ⟨q, -⟩ | ⟨q, -⟩ <;> rw [q] <;> exact ⟨by decide, by decide⟩
              have uh_2758 := h_2758.1
              have vh_2758 := h_2758.2
              refine lv_istore_n (lv' := [(1, .int x_2753), (4, .int x_2433), (0, .ref this), (2, .int x_1806), (3, .int x_1807)]) hx hb dX12_either_48 rfl hl (by decide) rfl (fun ls hl => ?_)
              refine lv_aload_n hx hb dX12_either_49 rfl (lv_at hl 2 rfl) ?_
              refine pg_f (v := .int (I_2730 393 this)) (C := RX12) (T := TX12) (N := 31) hx hb hts (tw_i inlX12) hown hK hP hL_this hK_this (by decide) rfl 9 (by decide) (hts _ (tw_c tw_831)) rfl dX12_either_50 ?_
              refine lv_iconst (v := 2) hx hb dX12_either_53 (by decide) ?_
              refine lv_icmp_ne (tgt := 72) hx hb dX12_either_54 (by decide) (fun c_2759 => ?_) (fun c_2759 => ?_)
              · have tc_2760 : (I_2730 393 this).toInt ≠ 2 := fun q => c_2759 (Int32.toInt_inj.mp q)
                refine lv_iconst (v := 0) hx hb dX12_either_72 (by decide) ?_
                refine lv_istore (lv' := [(5, .int 0), (1, .int x_2753), (4, .int x_2433), (0, .ref this), (2, .int x_1806), (3, .int x_1807)]) hx hb dX12_either_73 hl (by decide) rfl (fun ls hl => ?_)
                refine lv_iload_n hx hb dX12_either_75 rfl (lv_at hl 1 rfl) ?_
                refine lv_if_ne (tgt := 93) hx hb dX12_either_76 (by decide) (fun c_2761 => ?_) (fun c_2761 => ?_)
                · have f_2762 := (hr_2757.resolve_right (fun q => c_2761 q.1)).2
                  have tc_2763 : (x_2753).toInt ≠ 0 := fun q => c_2761 (Int32.toInt_inj.mp q)
                  have h_2764 : rg x_2753 1 1 := rg_ne c_2761 h_2758 0 rfl (by decide)
                  have uh_2764 := h_2764.1
                  have vh_2764 := h_2764.2
                  refine lv_iload_n hx hb dX12_either_93 rfl (lv_at hl 1 rfl) ?_
                  refine lv_if_ne (tgt := 102) hx hb dX12_either_94 (by decide) (fun c_2765 => ?_) (fun c_2765 => ?_)
                  · have f_2766 := (hr_2757.resolve_right (fun q => c_2765 q.1)).2
                    have tc_2767 : (x_2753).toInt ≠ 0 := fun q => c_2765 (Int32.toInt_inj.mp q)
                    refine lv_iconst (v := 1) hx hb dX12_either_102 (by decide) ?_
                    refine lv_goto (tgt := 107) hx hb dX12_either_103 (by decide) ?_
                    refine lv_istore_n (lv' := [(3, .int 1), (5, .int 0), (1, .int x_2753), (4, .int x_2433), (0, .ref this), (2, .int x_1806)]) hx hb dX12_either_107 rfl hl (by decide) rfl (fun ls hl => ?_)
                    refine lv_iload_n hx hb dX12_either_108 rfl (lv_at hl 0 rfl) ?_
                    refine lv_if_eq (tgt := 116) hx hb dX12_either_109 (by decide) (fun c_2768 => absurd c_2768 (by decide)) (fun c_2768 => ?_)
                    refine lv_aload_n hx hb dX12_either_112 rfl (lv_at hl 4 rfl) ?_
                    obtain ⟨w_2769, hR_w_2769, hL_w_2769, hK_w_2769, hN_w_2769, hT_w_2769⟩ := sh_a hSH 387 (ci := 12) (kd := 13) (len := 300) rfl (by decide) hL_this hK_this
                    refine pk_v (va_runV (As := []) (rest := []) ⟨hx, hb, hml, hown, hts⟩ (s_X12_nextToken_x l D t σ I_2730 J_2436 ri_2731 rj rq H.size tg hSH hG.1 this hL_this hK_this w_2769 hR_w_2769 hL_w_2769 hK_w_2769 hN_w_2769 hT_w_2769) (cwV 0 hts (tw_V tw_832 tw_833 tw_834 tw_5 tw_835) rfl rfl rfl cv_yX12_nextToken_0 ⟨Nat.le_of_ble_eq_true rfl, Nat.le_of_ble_eq_true rfl⟩) ⟨pq_blind, pq_recv hK hP hL_this hK_this (by decide) rfl, pq_pre hK hN hP hD⟩ rfl rfl hl.1 rfl (lv_room (Nat.le_of_ble_eq_true rfl)) dX12_either_113 ⟨Nat.le_of_ble_eq_true rfl, Nat.le_of_ble_eq_true rfl⟩) hD hS hA (fun σ1 μ1 H locs hw_2771 hP hD hS => ?_)
                    obtain ⟨I_2772, J_2773, hu_2774, hg_2775, hp_2777, hp_2778, hp_2779⟩ := hw_2771
                    obtain ⟨hu_2774a, hu_2774b⟩ := Prod.mk.inj hu_2774
                    rw [hu_2774a, hu_2774b] at hP hD
                    have tt_2780 := hp_2777
                    have tt_2781 := hp_2778
                    have tt_2782 := hp_2779
                    have tt_2783 : (I_2772 391 this).toInt ≤ 300 := by have z := hg_2775.1.1 391 this; exact z.2
                    have hG := GM.tr hG hg_2775 (by decide)
                    have tt_2784 : (I_2772 396 this).toInt = (I_2730 396 this).toInt := by rw [hg_2775.2.1 396 (by decide) (by decide)]
                    have tt_2785 : (I_2772 398 this).toInt = (I_2730 398 this).toInt := by rw [hg_2775.2.1 398 (by decide) (by decide)]
                    have tt_2786 : (I_2772 401 this).toInt = (I_2730 401 this).toInt := by rw [hg_2775.2.1 401 (by decide) (by decide)]
                    have tt_2787 : (I_2772 402 this).toInt = (I_2730 402 this).toInt := by rw [hg_2775.2.1 402 (by decide) (by decide)]
                    have tt_2788 : (I_2772 397 this).toInt = (I_2730 397 this).toInt := by rw [hg_2775.2.1 397 (by decide) (by decide)]
                    refine lv_goto (tgt := 6) hx hb dX12_either_116 (by decide) ?_
                    exact ih_2417 x_2753 x_1806 (1 : Int32) I_2772 J_2773 ri_2731 _ _ _ (rg_w h_2764 (by decide)) (rg_w h_2424 (by decide)) (rg_w (rg_k (1 : Int32) 1 rfl) (by decide)) (by have zc0 : (0 : Int32).toInt = 0 := rfl; have zc1 : (1 : Int32).toInt = 1 := rfl; exact ⟨fun _ => by rw [show tb + (x_2753).toInt + (x_1806).toInt = (tb + (x_1806).toInt + 1) from by omega, show K + (x_2753).toInt + (x_1806).toInt = (K + (x_1806).toInt) + 1 from by omega]; exact PBz_tok hpbC (by omega) (by omega) (by omega) (by omega) (by omega) (by omega) (by omega) rfl, fun q => absurd q (by decide)⟩) (Int.le_of_lt (Int.lt_of_lt_of_le (tm_lt (by omega) (by omega) (by omega)) htmA)) (by have zc0 : (0 : Int32).toInt = 0 := rfl; have zc1 : (1 : Int32).toInt = 1 := rfl; exact tm_ms2' hm_2414 ⟨Int.le_of_lt (Int.lt_of_lt_of_le (tm_lt (s := (I_2730 391 this).toInt) (k := (I_2730 393 this).toInt) (by omega) (by omega) (by omega)) (tm_lec (hp_2441.resolve_left (fun q => q (by omega))).2 (by omega) (by omega))), Or.inl (Int.lt_of_lt_of_le (tm_lt (s := (I_2730 391 this).toInt) (k := (I_2730 393 this).toInt) (by omega) (by omega) (by omega)) (tm_lec (hp_2441.resolve_left (fun q => q (by omega))).2 (by omega) (by omega)))⟩ (tm_b ((hG.1.1 391 this).2)) (by omega) (by omega)) hG hP hD hS (lv_sub hl [4, 2, 5, 0] rfl)
                  · have f_2789 := (hr_2757.resolve_left (fun q => absurd (q.1.symm.trans c_2765) (by decide))).2
                    have tc_2790 : (x_2753).toInt = 0 := congrArg Int32.toInt c_2765
                    exact (rg_empty (rg_and h_2764 (rg_of_eq c_2765 (rg_k (0 : Int32) 0 rfl)) (lo := 1) (hi := 0) (by decide)) (by decide)).elim
                · have f_2791 := (hr_2757.resolve_left (fun q => absurd (q.1.symm.trans c_2761) (by decide))).2
                  have tc_2792 : (x_2753).toInt = 0 := congrArg Int32.toInt c_2761
                  have h_2793 : rg x_2753 0 0 := rg_and h_2758 (rg_of_eq c_2761 (rg_k (0 : Int32) 0 rfl)) (by decide)
                  have uh_2793 := h_2793.1
                  have vh_2793 := h_2793.2
                  refine lv_iload_n hx hb dX12_either_79 rfl (lv_at hl 4 rfl) ?_
                  refine lv_if_eq (tgt := 90) hx hb dX12_either_80 (by decide) (fun c_2794 => ?_) (fun c_2794 => ?_)
                  · have tc_2795 : (x_1806).toInt = 0 := congrArg Int32.toInt c_2794
                    have h_2796 : rg x_1806 0 0 := rg_and h_2424 (rg_of_eq c_2794 (rg_k (0 : Int32) 0 rfl)) (by decide)
                    have uh_2796 := h_2796.1
                    have vh_2796 := h_2796.2
                    have hpbD : PBz (I_2730 396 this).toInt (I_2730 398 this).toInt (I_2730 402 this).toInt (I_2730 391 this).toInt (I_2730 393 this).toInt (ri_2731 this_a) bb f0 fr va (tb + 1) nn K := by have q := hpbC; rw [show (tb + (x_1806).toInt + 1) = tb + 1 from by omega, show (K + (x_1806).toInt) = K from by omega] at q; exact q
                    refine lv_iload hx hb dX12_either_90 (lv_at hl 0 rfl) ?_
                    refine lv_istore_n (lv' := [(2, .int 0), (5, .int 0), (1, .int x_2753), (4, .int x_2433), (0, .ref this), (3, .int x_1807)]) hx hb dX12_either_92 rfl hl (by decide) rfl (fun ls hl => ?_)
                    refine lv_iload_n hx hb dX12_either_93 rfl (lv_at hl 2 rfl) ?_
                    refine lv_if_ne (tgt := 102) hx hb dX12_either_94 (by decide) (fun c_2797 => ?_) (fun c_2797 => ?_)
                    · have f_2798 := (hr_2757.resolve_right (fun q => c_2797 q.1)).2
                      have tc_2799 : (x_2753).toInt ≠ 0 := fun q => c_2797 (Int32.toInt_inj.mp q)
                      exact (rg_empty (rg_ne c_2797 h_2793 0 rfl (lo := 1) (hi := (-1)) (by decide)) (by decide)).elim
                    · have f_2800 := (hr_2757.resolve_left (fun q => absurd (q.1.symm.trans c_2797) (by decide))).2
                      have tc_2801 : (x_2753).toInt = 0 := congrArg Int32.toInt c_2797
                      refine lv_iload hx hb dX12_either_97 (lv_at hl 1 rfl) ?_
                      refine lv_if_eq (tgt := 106) hx hb dX12_either_99 (by decide) (fun c_2802 => ?_) (fun c_2802 => absurd c_2802 (by decide))
                      refine lv_iconst (v := 0) hx hb dX12_either_106 (by decide) ?_
                      refine lv_istore_n (lv' := [(3, .int 0), (2, .int 0), (5, .int 0), (1, .int x_2753), (4, .int x_2433), (0, .ref this)]) hx hb dX12_either_107 rfl hl (by decide) rfl (fun ls hl => ?_)
                      refine lv_iload_n hx hb dX12_either_108 rfl (lv_at hl 0 rfl) ?_
                      refine lv_if_eq (tgt := 116) hx hb dX12_either_109 (by decide) (fun c_2803 => ?_) (fun c_2803 => absurd c_2803 (by decide))
                      refine lv_goto (tgt := 6) hx hb dX12_either_116 (by decide) ?_
                      exact ih_2417 x_2753 (0 : Int32) (0 : Int32) I_2730 J_2436 ri_2731 _ _ _ (rg_w h_2793 (by decide)) (rg_w (rg_k (0 : Int32) 0 rfl) (by decide)) (rg_w (rg_k (0 : Int32) 0 rfl) (by decide)) (by have zc0 : (0 : Int32).toInt = 0 := rfl; have zc1 : (1 : Int32).toInt = 1 := rfl; exact ⟨fun q => absurd q (by decide), fun _ => PBz_cg hpbD (by omega) (by omega) (by omega) (by omega) (by omega) rfl⟩) (tm_lec htmA (by omega) (by omega)) (by have zc0 : (0 : Int32).toInt = 0 := rfl; have zc1 : (1 : Int32).toInt = 1 := rfl; exact tm_ms2' hm_2414 ⟨tm_lec (hp_2441.resolve_left (fun q => q (by omega))).2 (by omega) (by omega), Or.inr (by omega)⟩ (tm_b ((hG.1.1 391 this).2)) (by omega) (by omega)) hG hP hD hS (lv_sub hl [5, 3, 1, 0] rfl)
                  · have tc_2804 : (x_1806).toInt ≠ 0 := fun q => c_2794 (Int32.toInt_inj.mp q)
                    have h_2805 : rg x_1806 1 1 := rg_ne c_2794 h_2424 0 rfl (by decide)
                    have uh_2805 := h_2805.1
                    have vh_2805 := h_2805.2
                    refine lv_aload_n hx hb dX12_either_83 rfl (lv_at hl 3 rfl) ?_
                    refine lv_bipush (v := 22) hx hb dX12_either_84 (by decide) ?_
                    refine lv_iconst (v := 0) hx hb dX12_either_86 (by decide) ?_
                    have hq1 := PBz_t hpbC
                    have hq2 := PBz_w hpbC (Or.inr (by omega))
                    refine pk_v (va_runV (As := [.int 22, .int 0]) (rest := []) ⟨hx, hb, hml, hown, hts⟩ (s_X12_emit l D t σ I_2730 J_2436 ri_2731 rj rq H.size tg hSH hG.1 this (22 : Int32) (0 : Int32) hL_this hK_this this_a hR_this_a hL_this_a hK_this_a hN_this_a hT_this_a (by omega) (by omega)) (cwV 2 hts (tw_V tw_905 tw_906 tw_907 tw_5 tw_908) rfl rfl rfl cv_yX12_emit_2 ⟨Nat.le_of_ble_eq_true rfl, Nat.le_of_ble_eq_true rfl⟩) ⟨pq_blind, pq_recv hK hP hL_this hK_this (by decide) rfl, pq_pre hK hN hP hD⟩ rfl rfl hl.1 rfl (lv_room (Nat.le_of_ble_eq_true rfl)) dX12_either_87 ⟨Nat.le_of_ble_eq_true rfl, Nat.le_of_ble_eq_true rfl⟩) hD hS hA (fun σ1 μ1 H locs hw_2807 hP hD hS => ?_)
                    obtain ⟨I_2808, ri_2809, hu_2810, hg_2811, hp_2813, hp_2814, hp_2815, hp_2816⟩ := hw_2807
                    obtain ⟨hu_2810a, hu_2810b⟩ := Prod.mk.inj hu_2810
                    rw [hu_2810a, hu_2810b] at hP hD
                    obtain ⟨v_2817, ev_2817, hv_2817⟩ := hp_2813
                    have tt_2818 : (I_2808 398 this).toInt = (I_2730 398 this).toInt + 1 := by rw [ev_2817, pq_us]; exact hv_2817
                    have tt_2819 : (I_2808 403 this).toInt = (I_2730 403 this).toInt := by rw [ev_2817, pq_uf _ _ _ (by decide)]
                    have hG := GM.tr hG hg_2811 (by decide)
                    have tt_2820 : (I_2808 396 this).toInt = (I_2730 396 this).toInt := by rw [hg_2811.2.1 396 (by decide) (by decide)]
                    have tt_2821 : (I_2808 401 this).toInt = (I_2730 401 this).toInt := by rw [hg_2811.2.1 401 (by decide) (by decide)]
                    have tt_2822 : (I_2808 402 this).toInt = (I_2730 402 this).toInt := by rw [hg_2811.2.1 402 (by decide) (by decide)]
                    have tt_2823 : (I_2808 391 this).toInt = (I_2730 391 this).toInt := by rw [hg_2811.2.1 391 (by decide) (by decide)]
                    have tt_2824 : (I_2808 393 this).toInt = (I_2730 393 this).toInt := by rw [hg_2811.2.1 393 (by decide) (by decide)]
                    have tt_2825 : (I_2808 397 this).toInt = (I_2730 397 this).toInt := by rw [hg_2811.2.1 397 (by decide) (by decide)]
                    have hpbD : PBz (I_2808 396 this).toInt (I_2808 398 this).toInt (I_2808 402 this).toInt (I_2808 391 this).toInt (I_2808 393 this).toInt (ri_2809 this_a) bb f0 fr va (tb + 1) nn K := by have zc0 : (0 : Int32).toInt = 0 := rfl; have zc1 : (1 : Int32).toInt = 1 := rfl; have zo : (22 : Int32).toInt = 22 := rfl; exact PBz_em (x := 22) (by rw [show K + 1 = (K + (x_1806).toInt) from by omega]; exact hpbC) (by omega) (fun j hj => hp_2814 j (by omega)) (by rw [show (I_2730 396 this).toInt + 250 + 2 * (I_2730 398 this).toInt = (I_2730 396 this).toInt + 250 + 2 * (I_2730 398 this).toInt from by omega]; exact hp_2815) (by omega) (by omega) (by omega) (by omega) (by omega) (by omega)
                    refine lv_iload hx hb dX12_either_90 (lv_at hl 0 rfl) ?_
                    refine lv_istore_n (lv' := [(2, .int 0), (5, .int 0), (1, .int x_2753), (4, .int x_2433), (0, .ref this), (3, .int x_1807)]) hx hb dX12_either_92 rfl hl (by decide) rfl (fun ls hl => ?_)
                    refine lv_iload_n hx hb dX12_either_93 rfl (lv_at hl 2 rfl) ?_
                    refine lv_if_ne (tgt := 102) hx hb dX12_either_94 (by decide) (fun c_2826 => ?_) (fun c_2826 => ?_)
                    · have f_2827 := (hr_2757.resolve_right (fun q => c_2826 q.1)).2
                      have tc_2828 : (x_2753).toInt ≠ 0 := fun q => c_2826 (Int32.toInt_inj.mp q)
                      exact (rg_empty (rg_ne c_2826 h_2793 0 rfl (lo := 1) (hi := (-1)) (by decide)) (by decide)).elim
                    · have f_2829 := (hr_2757.resolve_left (fun q => absurd (q.1.symm.trans c_2826) (by decide))).2
                      have tc_2830 : (x_2753).toInt = 0 := congrArg Int32.toInt c_2826
                      refine lv_iload hx hb dX12_either_97 (lv_at hl 1 rfl) ?_
                      refine lv_if_eq (tgt := 106) hx hb dX12_either_99 (by decide) (fun c_2831 => ?_) (fun c_2831 => absurd c_2831 (by decide))
                      refine lv_iconst (v := 0) hx hb dX12_either_106 (by decide) ?_
                      refine lv_istore_n (lv' := [(3, .int 0), (2, .int 0), (5, .int 0), (1, .int x_2753), (4, .int x_2433), (0, .ref this)]) hx hb dX12_either_107 rfl hl (by decide) rfl (fun ls hl => ?_)
                      refine lv_iload_n hx hb dX12_either_108 rfl (lv_at hl 0 rfl) ?_
                      refine lv_if_eq (tgt := 116) hx hb dX12_either_109 (by decide) (fun c_2832 => ?_) (fun c_2832 => absurd c_2832 (by decide))
                      refine lv_goto (tgt := 6) hx hb dX12_either_116 (by decide) ?_
                      exact ih_2417 x_2753 (0 : Int32) (0 : Int32) I_2808 J_2436 ri_2809 _ _ _ (rg_w h_2793 (by decide)) (rg_w (rg_k (0 : Int32) 0 rfl) (by decide)) (rg_w (rg_k (0 : Int32) 0 rfl) (by decide)) (by have zc0 : (0 : Int32).toInt = 0 := rfl; have zc1 : (1 : Int32).toInt = 1 := rfl; exact ⟨fun q => absurd q (by decide), fun _ => PBz_cg hpbD (by omega) (by omega) (by omega) (by omega) (by omega) rfl⟩) (tm_lec htmA (by omega) (by omega)) (by have zc0 : (0 : Int32).toInt = 0 := rfl; have zc1 : (1 : Int32).toInt = 1 := rfl; exact tm_ms2' hm_2414 ⟨tm_lec (hp_2441.resolve_left (fun q => q (by omega))).2 (by omega) (by omega), Or.inr (by omega)⟩ (tm_b ((hG.1.1 391 this).2)) (by omega) (by omega)) hG hP hD hS (lv_sub hl [5, 3, 1, 0] rfl)
              · have tc_2833 : (I_2730 393 this).toInt = 2 := congrArg Int32.toInt c_2759
                have h_2834 : rg (I_2730 393 this) 2 2 := rg_and (rg_full _) (rg_of_eq c_2759 (rg_k (2 : Int32) 2 rfl)) (by decide)
                have uh_2834 := h_2834.1
                have vh_2834 := h_2834.2
                refine lv_aload_n hx hb dX12_either_57 rfl (lv_at hl 2 rfl) ?_
                refine pg_f (v := .long (J_2436 395 this)) (C := RX12) (T := TX12) (N := 31) hx hb hts (tw_i inlX12) hown hK hP hL_this hK_this (by decide) rfl 11 (by decide) (hts _ (tw_c tw_838)) rfl dX12_either_58 ?_
                refine lv_ldc2 hx hb hown (hts _ (tw_c tw_874)) dX12_either_61 ?_
                refine W.lcmp hx hb dX12_either_64 ?_
                refine lv_topi (fun x_2835 ex_2835 => ?_)
                refine lv_if_ne (tgt := 72) hx hb dX12_either_65 (by decide) (fun c_2836 => ?_) (fun c_2836 => ?_)
                · have tc_2837 : (x_2835).toInt ≠ 0 := fun q => c_2836 (Int32.toInt_inj.mp q)
                  refine lv_iconst (v := 0) hx hb dX12_either_72 (by decide) ?_
                  refine lv_istore (lv' := [(5, .int 0), (1, .int x_2753), (4, .int x_2433), (0, .ref this), (2, .int x_1806), (3, .int x_1807)]) hx hb dX12_either_73 hl (by decide) rfl (fun ls hl => ?_)
                  refine lv_iload_n hx hb dX12_either_75 rfl (lv_at hl 1 rfl) ?_
                  refine lv_if_ne (tgt := 93) hx hb dX12_either_76 (by decide) (fun c_2838 => ?_) (fun c_2838 => ?_)
                  · have f_2839 := (hr_2757.resolve_right (fun q => c_2838 q.1)).2
                    have tc_2840 : (x_2753).toInt ≠ 0 := fun q => c_2838 (Int32.toInt_inj.mp q)
                    have h_2841 : rg x_2753 1 1 := rg_ne c_2838 h_2758 0 rfl (by decide)
                    have uh_2841 := h_2841.1
                    have vh_2841 := h_2841.2
                    refine lv_iload_n hx hb dX12_either_93 rfl (lv_at hl 1 rfl) ?_
                    refine lv_if_ne (tgt := 102) hx hb dX12_either_94 (by decide) (fun c_2842 => ?_) (fun c_2842 => ?_)
                    · have f_2843 := (hr_2757.resolve_right (fun q => c_2842 q.1)).2
                      have tc_2844 : (x_2753).toInt ≠ 0 := fun q => c_2842 (Int32.toInt_inj.mp q)
                      refine lv_iconst (v := 1) hx hb dX12_either_102 (by decide) ?_
                      refine lv_goto (tgt := 107) hx hb dX12_either_103 (by decide) ?_
                      refine lv_istore_n (lv' := [(3, .int 1), (5, .int 0), (1, .int x_2753), (4, .int x_2433), (0, .ref this), (2, .int x_1806)]) hx hb dX12_either_107 rfl hl (by decide) rfl (fun ls hl => ?_)
                      refine lv_iload_n hx hb dX12_either_108 rfl (lv_at hl 0 rfl) ?_
                      refine lv_if_eq (tgt := 116) hx hb dX12_either_109 (by decide) (fun c_2845 => absurd c_2845 (by decide)) (fun c_2845 => ?_)
                      refine lv_aload_n hx hb dX12_either_112 rfl (lv_at hl 4 rfl) ?_
                      obtain ⟨w_2846, hR_w_2846, hL_w_2846, hK_w_2846, hN_w_2846, hT_w_2846⟩ := sh_a hSH 387 (ci := 12) (kd := 13) (len := 300) rfl (by decide) hL_this hK_this
                      refine pk_v (va_runV (As := []) (rest := []) ⟨hx, hb, hml, hown, hts⟩ (s_X12_nextToken_x l D t σ I_2730 J_2436 ri_2731 rj rq H.size tg hSH hG.1 this hL_this hK_this w_2846 hR_w_2846 hL_w_2846 hK_w_2846 hN_w_2846 hT_w_2846) (cwV 0 hts (tw_V tw_832 tw_833 tw_834 tw_5 tw_835) rfl rfl rfl cv_yX12_nextToken_0 ⟨Nat.le_of_ble_eq_true rfl, Nat.le_of_ble_eq_true rfl⟩) ⟨pq_blind, pq_recv hK hP hL_this hK_this (by decide) rfl, pq_pre hK hN hP hD⟩ rfl rfl hl.1 rfl (lv_room (Nat.le_of_ble_eq_true rfl)) dX12_either_113 ⟨Nat.le_of_ble_eq_true rfl, Nat.le_of_ble_eq_true rfl⟩) hD hS hA (fun σ1 μ1 H locs hw_2848 hP hD hS => ?_)
                      obtain ⟨I_2849, J_2850, hu_2851, hg_2852, hp_2854, hp_2855, hp_2856⟩ := hw_2848
                      obtain ⟨hu_2851a, hu_2851b⟩ := Prod.mk.inj hu_2851
                      rw [hu_2851a, hu_2851b] at hP hD
                      have tt_2857 := hp_2854
                      have tt_2858 := hp_2855
                      have tt_2859 := hp_2856
                      have tt_2860 : (I_2849 391 this).toInt ≤ 300 := by have z := hg_2852.1.1 391 this; exact z.2
                      have hG := GM.tr hG hg_2852 (by decide)
                      have tt_2861 : (I_2849 396 this).toInt = (I_2730 396 this).toInt := by rw [hg_2852.2.1 396 (by decide) (by decide)]
                      have tt_2862 : (I_2849 398 this).toInt = (I_2730 398 this).toInt := by rw [hg_2852.2.1 398 (by decide) (by decide)]
                      have tt_2863 : (I_2849 401 this).toInt = (I_2730 401 this).toInt := by rw [hg_2852.2.1 401 (by decide) (by decide)]
                      have tt_2864 : (I_2849 402 this).toInt = (I_2730 402 this).toInt := by rw [hg_2852.2.1 402 (by decide) (by decide)]
                      have tt_2865 : (I_2849 397 this).toInt = (I_2730 397 this).toInt := by rw [hg_2852.2.1 397 (by decide) (by decide)]
                      refine lv_goto (tgt := 6) hx hb dX12_either_116 (by decide) ?_
                      exact ih_2417 x_2753 x_1806 (1 : Int32) I_2849 J_2850 ri_2731 _ _ _ (rg_w h_2841 (by decide)) (rg_w h_2424 (by decide)) (rg_w (rg_k (1 : Int32) 1 rfl) (by decide)) (by have zc0 : (0 : Int32).toInt = 0 := rfl; have zc1 : (1 : Int32).toInt = 1 := rfl; exact ⟨fun _ => by rw [show tb + (x_2753).toInt + (x_1806).toInt = (tb + (x_1806).toInt + 1) from by omega, show K + (x_2753).toInt + (x_1806).toInt = (K + (x_1806).toInt) + 1 from by omega]; exact PBz_tok hpbC (by omega) (by omega) (by omega) (by omega) (by omega) (by omega) (by omega) rfl, fun q => absurd q (by decide)⟩) (Int.le_of_lt (Int.lt_of_lt_of_le (tm_lt (by omega) (by omega) (by omega)) htmA)) (by have zc0 : (0 : Int32).toInt = 0 := rfl; have zc1 : (1 : Int32).toInt = 1 := rfl; exact tm_ms2' hm_2414 ⟨Int.le_of_lt (Int.lt_of_lt_of_le (tm_lt (s := (I_2730 391 this).toInt) (k := (I_2730 393 this).toInt) (by omega) (by omega) (by omega)) (tm_lec (hp_2441.resolve_left (fun q => q (by omega))).2 (by omega) (by omega))), Or.inl (Int.lt_of_lt_of_le (tm_lt (s := (I_2730 391 this).toInt) (k := (I_2730 393 this).toInt) (by omega) (by omega) (by omega)) (tm_lec (hp_2441.resolve_left (fun q => q (by omega))).2 (by omega) (by omega)))⟩ (tm_b ((hG.1.1 391 this).2)) (by omega) (by omega)) hG hP hD hS (lv_sub hl [4, 2, 5, 0] rfl)
                    · have f_2866 := (hr_2757.resolve_left (fun q => absurd (q.1.symm.trans c_2842) (by decide))).2
                      have tc_2867 : (x_2753).toInt = 0 := congrArg Int32.toInt c_2842
                      exact (rg_empty (rg_and h_2841 (rg_of_eq c_2842 (rg_k (0 : Int32) 0 rfl)) (lo := 1) (hi := 0) (by decide)) (by decide)).elim
                  · have f_2868 := (hr_2757.resolve_left (fun q => absurd (q.1.symm.trans c_2838) (by decide))).2
                    have tc_2869 : (x_2753).toInt = 0 := congrArg Int32.toInt c_2838
                    have h_2870 : rg x_2753 0 0 := rg_and h_2758 (rg_of_eq c_2838 (rg_k (0 : Int32) 0 rfl)) (by decide)
                    have uh_2870 := h_2870.1
                    have vh_2870 := h_2870.2
                    refine lv_iload_n hx hb dX12_either_79 rfl (lv_at hl 4 rfl) ?_
                    refine lv_if_eq (tgt := 90) hx hb dX12_either_80 (by decide) (fun c_2871 => ?_) (fun c_2871 => ?_)
                    · have tc_2872 : (x_1806).toInt = 0 := congrArg Int32.toInt c_2871
                      have h_2873 : rg x_1806 0 0 := rg_and h_2424 (rg_of_eq c_2871 (rg_k (0 : Int32) 0 rfl)) (by decide)
                      have uh_2873 := h_2873.1
                      have vh_2873 := h_2873.2
                      have hpbD : PBz (I_2730 396 this).toInt (I_2730 398 this).toInt (I_2730 402 this).toInt (I_2730 391 this).toInt (I_2730 393 this).toInt (ri_2731 this_a) bb f0 fr va (tb + 1) nn K := by have q := hpbC; rw [show (tb + (x_1806).toInt + 1) = tb + 1 from by omega, show (K + (x_1806).toInt) = K from by omega] at q; exact q
                      refine lv_iload hx hb dX12_either_90 (lv_at hl 0 rfl) ?_
                      refine lv_istore_n (lv' := [(2, .int 0), (5, .int 0), (1, .int x_2753), (4, .int x_2433), (0, .ref this), (3, .int x_1807)]) hx hb dX12_either_92 rfl hl (by decide) rfl (fun ls hl => ?_)
                      refine lv_iload_n hx hb dX12_either_93 rfl (lv_at hl 2 rfl) ?_
                      refine lv_if_ne (tgt := 102) hx hb dX12_either_94 (by decide) (fun c_2874 => ?_) (fun c_2874 => ?_)
                      · have f_2875 := (hr_2757.resolve_right (fun q => c_2874 q.1)).2
                        have tc_2876 : (x_2753).toInt ≠ 0 := fun q => c_2874 (Int32.toInt_inj.mp q)
                        exact (rg_empty (rg_ne c_2874 h_2870 0 rfl (lo := 1) (hi := (-1)) (by decide)) (by decide)).elim
                      · have f_2877 := (hr_2757.resolve_left (fun q => absurd (q.1.symm.trans c_2874) (by decide))).2
                        have tc_2878 : (x_2753).toInt = 0 := congrArg Int32.toInt c_2874
                        refine lv_iload hx hb dX12_either_97 (lv_at hl 1 rfl) ?_
                        refine lv_if_eq (tgt := 106) hx hb dX12_either_99 (by decide) (fun c_2879 => ?_) (fun c_2879 => absurd c_2879 (by decide))
                        refine lv_iconst (v := 0) hx hb dX12_either_106 (by decide) ?_
                        refine lv_istore_n (lv' := [(3, .int 0), (2, .int 0), (5, .int 0), (1, .int x_2753), (4, .int x_2433), (0, .ref this)]) hx hb dX12_either_107 rfl hl (by decide) rfl (fun ls hl => ?_)
                        refine lv_iload_n hx hb dX12_either_108 rfl (lv_at hl 0 rfl) ?_
                        refine lv_if_eq (tgt := 116) hx hb dX12_either_109 (by decide) (fun c_2880 => ?_) (fun c_2880 => absurd c_2880 (by decide))
                        refine lv_goto (tgt := 6) hx hb dX12_either_116 (by decide) ?_
                        exact ih_2417 x_2753 (0 : Int32) (0 : Int32) I_2730 J_2436 ri_2731 _ _ _ (rg_w h_2870 (by decide)) (rg_w (rg_k (0 : Int32) 0 rfl) (by decide)) (rg_w (rg_k (0 : Int32) 0 rfl) (by decide)) (by have zc0 : (0 : Int32).toInt = 0 := rfl; have zc1 : (1 : Int32).toInt = 1 := rfl; exact ⟨fun q => absurd q (by decide), fun _ => PBz_cg hpbD (by omega) (by omega) (by omega) (by omega) (by omega) rfl⟩) (tm_lec htmA (by omega) (by omega)) (by have zc0 : (0 : Int32).toInt = 0 := rfl; have zc1 : (1 : Int32).toInt = 1 := rfl; exact tm_ms2' hm_2414 ⟨tm_lec (hp_2441.resolve_left (fun q => q (by omega))).2 (by omega) (by omega), Or.inr (by omega)⟩ (tm_b ((hG.1.1 391 this).2)) (by omega) (by omega)) hG hP hD hS (lv_sub hl [5, 3, 1, 0] rfl)
                    · have tc_2881 : (x_1806).toInt ≠ 0 := fun q => c_2871 (Int32.toInt_inj.mp q)
                      have h_2882 : rg x_1806 1 1 := rg_ne c_2871 h_2424 0 rfl (by decide)
                      have uh_2882 := h_2882.1
                      have vh_2882 := h_2882.2
                      refine lv_aload_n hx hb dX12_either_83 rfl (lv_at hl 3 rfl) ?_
                      refine lv_bipush (v := 22) hx hb dX12_either_84 (by decide) ?_
                      refine lv_iconst (v := 0) hx hb dX12_either_86 (by decide) ?_
                      have hq1 := PBz_t hpbC
                      have hq2 := PBz_w hpbC (Or.inr (by omega))
                      refine pk_v (va_runV (As := [.int 22, .int 0]) (rest := []) ⟨hx, hb, hml, hown, hts⟩ (s_X12_emit l D t σ I_2730 J_2436 ri_2731 rj rq H.size tg hSH hG.1 this (22 : Int32) (0 : Int32) hL_this hK_this this_a hR_this_a hL_this_a hK_this_a hN_this_a hT_this_a (by omega) (by omega)) (cwV 2 hts (tw_V tw_905 tw_906 tw_907 tw_5 tw_908) rfl rfl rfl cv_yX12_emit_2 ⟨Nat.le_of_ble_eq_true rfl, Nat.le_of_ble_eq_true rfl⟩) ⟨pq_blind, pq_recv hK hP hL_this hK_this (by decide) rfl, pq_pre hK hN hP hD⟩ rfl rfl hl.1 rfl (lv_room (Nat.le_of_ble_eq_true rfl)) dX12_either_87 ⟨Nat.le_of_ble_eq_true rfl, Nat.le_of_ble_eq_true rfl⟩) hD hS hA (fun σ1 μ1 H locs hw_2884 hP hD hS => ?_)
                      obtain ⟨I_2885, ri_2886, hu_2887, hg_2888, hp_2890, hp_2891, hp_2892, hp_2893⟩ := hw_2884
                      obtain ⟨hu_2887a, hu_2887b⟩ := Prod.mk.inj hu_2887
                      rw [hu_2887a, hu_2887b] at hP hD
                      obtain ⟨v_2894, ev_2894, hv_2894⟩ := hp_2890
                      have tt_2895 : (I_2885 398 this).toInt = (I_2730 398 this).toInt + 1 := by rw [ev_2894, pq_us]; exact hv_2894
                      have tt_2896 : (I_2885 403 this).toInt = (I_2730 403 this).toInt := by rw [ev_2894, pq_uf _ _ _ (by decide)]
                      have hG := GM.tr hG hg_2888 (by decide)
                      have tt_2897 : (I_2885 396 this).toInt = (I_2730 396 this).toInt := by rw [hg_2888.2.1 396 (by decide) (by decide)]
                      have tt_2898 : (I_2885 401 this).toInt = (I_2730 401 this).toInt := by rw [hg_2888.2.1 401 (by decide) (by decide)]
                      have tt_2899 : (I_2885 402 this).toInt = (I_2730 402 this).toInt := by rw [hg_2888.2.1 402 (by decide) (by decide)]
                      have tt_2900 : (I_2885 391 this).toInt = (I_2730 391 this).toInt := by rw [hg_2888.2.1 391 (by decide) (by decide)]
                      have tt_2901 : (I_2885 393 this).toInt = (I_2730 393 this).toInt := by rw [hg_2888.2.1 393 (by decide) (by decide)]
                      have tt_2902 : (I_2885 397 this).toInt = (I_2730 397 this).toInt := by rw [hg_2888.2.1 397 (by decide) (by decide)]
                      have hpbD : PBz (I_2885 396 this).toInt (I_2885 398 this).toInt (I_2885 402 this).toInt (I_2885 391 this).toInt (I_2885 393 this).toInt (ri_2886 this_a) bb f0 fr va (tb + 1) nn K := by have zc0 : (0 : Int32).toInt = 0 := rfl; have zc1 : (1 : Int32).toInt = 1 := rfl; have zo : (22 : Int32).toInt = 22 := rfl; exact PBz_em (x := 22) (by rw [show K + 1 = (K + (x_1806).toInt) from by omega]; exact hpbC) (by omega) (fun j hj => hp_2891 j (by omega)) (by rw [show (I_2730 396 this).toInt + 250 + 2 * (I_2730 398 this).toInt = (I_2730 396 this).toInt + 250 + 2 * (I_2730 398 this).toInt from by omega]; exact hp_2892) (by omega) (by omega) (by omega) (by omega) (by omega) (by omega)
                      refine lv_iload hx hb dX12_either_90 (lv_at hl 0 rfl) ?_
                      refine lv_istore_n (lv' := [(2, .int 0), (5, .int 0), (1, .int x_2753), (4, .int x_2433), (0, .ref this), (3, .int x_1807)]) hx hb dX12_either_92 rfl hl (by decide) rfl (fun ls hl => ?_)
                      refine lv_iload_n hx hb dX12_either_93 rfl (lv_at hl 2 rfl) ?_
                      refine lv_if_ne (tgt := 102) hx hb dX12_either_94 (by decide) (fun c_2903 => ?_) (fun c_2903 => ?_)
                      · have f_2904 := (hr_2757.resolve_right (fun q => c_2903 q.1)).2
                        have tc_2905 : (x_2753).toInt ≠ 0 := fun q => c_2903 (Int32.toInt_inj.mp q)
                        exact (rg_empty (rg_ne c_2903 h_2870 0 rfl (lo := 1) (hi := (-1)) (by decide)) (by decide)).elim
                      · have f_2906 := (hr_2757.resolve_left (fun q => absurd (q.1.symm.trans c_2903) (by decide))).2
                        have tc_2907 : (x_2753).toInt = 0 := congrArg Int32.toInt c_2903
                        refine lv_iload hx hb dX12_either_97 (lv_at hl 1 rfl) ?_
                        refine lv_if_eq (tgt := 106) hx hb dX12_either_99 (by decide) (fun c_2908 => ?_) (fun c_2908 => absurd c_2908 (by decide))
                        refine lv_iconst (v := 0) hx hb dX12_either_106 (by decide) ?_
                        refine lv_istore_n (lv' := [(3, .int 0), (2, .int 0), (5, .int 0), (1, .int x_2753), (4, .int x_2433), (0, .ref this)]) hx hb dX12_either_107 rfl hl (by decide) rfl (fun ls hl => ?_)
                        refine lv_iload_n hx hb dX12_either_108 rfl (lv_at hl 0 rfl) ?_
                        refine lv_if_eq (tgt := 116) hx hb dX12_either_109 (by decide) (fun c_2909 => ?_) (fun c_2909 => absurd c_2909 (by decide))
                        refine lv_goto (tgt := 6) hx hb dX12_either_116 (by decide) ?_
                        exact ih_2417 x_2753 (0 : Int32) (0 : Int32) I_2885 J_2436 ri_2886 _ _ _ (rg_w h_2870 (by decide)) (rg_w (rg_k (0 : Int32) 0 rfl) (by decide)) (rg_w (rg_k (0 : Int32) 0 rfl) (by decide)) (by have zc0 : (0 : Int32).toInt = 0 := rfl; have zc1 : (1 : Int32).toInt = 1 := rfl; exact ⟨fun q => absurd q (by decide), fun _ => PBz_cg hpbD (by omega) (by omega) (by omega) (by omega) (by omega) rfl⟩) (tm_lec htmA (by omega) (by omega)) (by have zc0 : (0 : Int32).toInt = 0 := rfl; have zc1 : (1 : Int32).toInt = 1 := rfl; exact tm_ms2' hm_2414 ⟨tm_lec (hp_2441.resolve_left (fun q => q (by omega))).2 (by omega) (by omega), Or.inr (by omega)⟩ (tm_b ((hG.1.1 391 this).2)) (by omega) (by omega)) hG hP hD hS (lv_sub hl [5, 3, 1, 0] rfl)
                · have tc_2910 : (x_2835).toInt = 0 := congrArg Int32.toInt c_2836
                  have h_2911 : rg x_2835 0 0 := rg_and (rg_full _) (rg_of_eq c_2836 (rg_k (0 : Int32) 0 rfl)) (by decide)
                  have uh_2911 := h_2911.1
                  have vh_2911 := h_2911.2
                  refine lv_iconst (v := 1) hx hb dX12_either_68 (by decide) ?_
                  refine lv_goto (tgt := 73) hx hb dX12_either_69 (by decide) ?_
                  refine lv_istore (lv' := [(5, .int 1), (1, .int x_2753), (4, .int x_2433), (0, .ref this), (2, .int x_1806), (3, .int x_1807)]) hx hb dX12_either_73 hl (by decide) rfl (fun ls hl => ?_)
                  refine lv_iload_n hx hb dX12_either_75 rfl (lv_at hl 1 rfl) ?_
                  refine lv_if_ne (tgt := 93) hx hb dX12_either_76 (by decide) (fun c_2912 => ?_) (fun c_2912 => ?_)
                  · have f_2913 := (hr_2757.resolve_right (fun q => c_2912 q.1)).2
                    have tc_2914 : (x_2753).toInt ≠ 0 := fun q => c_2912 (Int32.toInt_inj.mp q)
                    have h_2915 : rg x_2753 1 1 := rg_ne c_2912 h_2758 0 rfl (by decide)
                    have uh_2915 := h_2915.1
                    have vh_2915 := h_2915.2
                    refine lv_iload_n hx hb dX12_either_93 rfl (lv_at hl 1 rfl) ?_
                    refine lv_if_ne (tgt := 102) hx hb dX12_either_94 (by decide) (fun c_2916 => ?_) (fun c_2916 => ?_)
                    · have f_2917 := (hr_2757.resolve_right (fun q => c_2916 q.1)).2
                      have tc_2918 : (x_2753).toInt ≠ 0 := fun q => c_2916 (Int32.toInt_inj.mp q)
                      refine lv_iconst (v := 1) hx hb dX12_either_102 (by decide) ?_
                      refine lv_goto (tgt := 107) hx hb dX12_either_103 (by decide) ?_
                      refine lv_istore_n (lv' := [(3, .int 1), (5, .int 1), (1, .int x_2753), (4, .int x_2433), (0, .ref this), (2, .int x_1806)]) hx hb dX12_either_107 rfl hl (by decide) rfl (fun ls hl => ?_)
                      refine lv_iload_n hx hb dX12_either_108 rfl (lv_at hl 0 rfl) ?_
                      refine lv_if_eq (tgt := 116) hx hb dX12_either_109 (by decide) (fun c_2919 => absurd c_2919 (by decide)) (fun c_2919 => ?_)
                      refine lv_aload_n hx hb dX12_either_112 rfl (lv_at hl 4 rfl) ?_
                      obtain ⟨w_2920, hR_w_2920, hL_w_2920, hK_w_2920, hN_w_2920, hT_w_2920⟩ := sh_a hSH 387 (ci := 12) (kd := 13) (len := 300) rfl (by decide) hL_this hK_this
                      refine pk_v (va_runV (As := []) (rest := []) ⟨hx, hb, hml, hown, hts⟩ (s_X12_nextToken_x l D t σ I_2730 J_2436 ri_2731 rj rq H.size tg hSH hG.1 this hL_this hK_this w_2920 hR_w_2920 hL_w_2920 hK_w_2920 hN_w_2920 hT_w_2920) (cwV 0 hts (tw_V tw_832 tw_833 tw_834 tw_5 tw_835) rfl rfl rfl cv_yX12_nextToken_0 ⟨Nat.le_of_ble_eq_true rfl, Nat.le_of_ble_eq_true rfl⟩) ⟨pq_blind, pq_recv hK hP hL_this hK_this (by decide) rfl, pq_pre hK hN hP hD⟩ rfl rfl hl.1 rfl (lv_room (Nat.le_of_ble_eq_true rfl)) dX12_either_113 ⟨Nat.le_of_ble_eq_true rfl, Nat.le_of_ble_eq_true rfl⟩) hD hS hA (fun σ1 μ1 H locs hw_2922 hP hD hS => ?_)
                      obtain ⟨I_2923, J_2924, hu_2925, hg_2926, hp_2928, hp_2929, hp_2930⟩ := hw_2922
                      obtain ⟨hu_2925a, hu_2925b⟩ := Prod.mk.inj hu_2925
                      rw [hu_2925a, hu_2925b] at hP hD
                      have tt_2931 := hp_2928
                      have tt_2932 := hp_2929
                      have tt_2933 := hp_2930
                      have tt_2934 : (I_2923 391 this).toInt ≤ 300 := by have z := hg_2926.1.1 391 this; exact z.2
                      have hG := GM.tr hG hg_2926 (by decide)
                      have tt_2935 : (I_2923 396 this).toInt = (I_2730 396 this).toInt := by rw [hg_2926.2.1 396 (by decide) (by decide)]
                      have tt_2936 : (I_2923 398 this).toInt = (I_2730 398 this).toInt := by rw [hg_2926.2.1 398 (by decide) (by decide)]
                      have tt_2937 : (I_2923 401 this).toInt = (I_2730 401 this).toInt := by rw [hg_2926.2.1 401 (by decide) (by decide)]
                      have tt_2938 : (I_2923 402 this).toInt = (I_2730 402 this).toInt := by rw [hg_2926.2.1 402 (by decide) (by decide)]
                      have tt_2939 : (I_2923 397 this).toInt = (I_2730 397 this).toInt := by rw [hg_2926.2.1 397 (by decide) (by decide)]
                      refine lv_goto (tgt := 6) hx hb dX12_either_116 (by decide) ?_
                      exact ih_2417 x_2753 x_1806 (1 : Int32) I_2923 J_2924 ri_2731 _ _ _ (rg_w h_2915 (by decide)) (rg_w h_2424 (by decide)) (rg_w (rg_k (1 : Int32) 1 rfl) (by decide)) (by have zc0 : (0 : Int32).toInt = 0 := rfl; have zc1 : (1 : Int32).toInt = 1 := rfl; exact ⟨fun _ => by rw [show tb + (x_2753).toInt + (x_1806).toInt = (tb + (x_1806).toInt + 1) from by omega, show K + (x_2753).toInt + (x_1806).toInt = (K + (x_1806).toInt) + 1 from by omega]; exact PBz_tok hpbC (by omega) (by omega) (by omega) (by omega) (by omega) (by omega) (by omega) rfl, fun q => absurd q (by decide)⟩) (Int.le_of_lt (Int.lt_of_lt_of_le (tm_lt (by omega) (by omega) (by omega)) htmA)) (by have zc0 : (0 : Int32).toInt = 0 := rfl; have zc1 : (1 : Int32).toInt = 1 := rfl; exact tm_ms2' hm_2414 ⟨Int.le_of_lt (Int.lt_of_lt_of_le (tm_lt (s := (I_2730 391 this).toInt) (k := (I_2730 393 this).toInt) (by omega) (by omega) (by omega)) (tm_lec (hp_2441.resolve_left (fun q => q (by omega))).2 (by omega) (by omega))), Or.inl (Int.lt_of_lt_of_le (tm_lt (s := (I_2730 391 this).toInt) (k := (I_2730 393 this).toInt) (by omega) (by omega) (by omega)) (tm_lec (hp_2441.resolve_left (fun q => q (by omega))).2 (by omega) (by omega)))⟩ (tm_b ((hG.1.1 391 this).2)) (by omega) (by omega)) hG hP hD hS (lv_sub hl [4, 2, 5, 0] rfl)
                    · have f_2940 := (hr_2757.resolve_left (fun q => absurd (q.1.symm.trans c_2916) (by decide))).2
                      have tc_2941 : (x_2753).toInt = 0 := congrArg Int32.toInt c_2916
                      exact (rg_empty (rg_and h_2915 (rg_of_eq c_2916 (rg_k (0 : Int32) 0 rfl)) (lo := 1) (hi := 0) (by decide)) (by decide)).elim
                  · have f_2942 := (hr_2757.resolve_left (fun q => absurd (q.1.symm.trans c_2912) (by decide))).2
                    have tc_2943 : (x_2753).toInt = 0 := congrArg Int32.toInt c_2912
                    have h_2944 : rg x_2753 0 0 := rg_and h_2758 (rg_of_eq c_2912 (rg_k (0 : Int32) 0 rfl)) (by decide)
                    have uh_2944 := h_2944.1
                    have vh_2944 := h_2944.2
                    refine lv_iload_n hx hb dX12_either_79 rfl (lv_at hl 4 rfl) ?_
                    refine lv_if_eq (tgt := 90) hx hb dX12_either_80 (by decide) (fun c_2945 => ?_) (fun c_2945 => ?_)
                    · have tc_2946 : (x_1806).toInt = 0 := congrArg Int32.toInt c_2945
                      have h_2947 : rg x_1806 0 0 := rg_and h_2424 (rg_of_eq c_2945 (rg_k (0 : Int32) 0 rfl)) (by decide)
                      have uh_2947 := h_2947.1
                      have vh_2947 := h_2947.2
                      have hpbD : PBz (I_2730 396 this).toInt (I_2730 398 this).toInt (I_2730 402 this).toInt (I_2730 391 this).toInt (I_2730 393 this).toInt (ri_2731 this_a) bb f0 fr va (tb + 1) nn K := by have q := hpbC; rw [show (tb + (x_1806).toInt + 1) = tb + 1 from by omega, show (K + (x_1806).toInt) = K from by omega] at q; exact q
                      refine lv_iload hx hb dX12_either_90 (lv_at hl 0 rfl) ?_
                      refine lv_istore_n (lv' := [(2, .int 1), (5, .int 1), (1, .int x_2753), (4, .int x_2433), (0, .ref this), (3, .int x_1807)]) hx hb dX12_either_92 rfl hl (by decide) rfl (fun ls hl => ?_)
                      refine lv_iload_n hx hb dX12_either_93 rfl (lv_at hl 2 rfl) ?_
                      refine lv_if_ne (tgt := 102) hx hb dX12_either_94 (by decide) (fun c_2948 => ?_) (fun c_2948 => ?_)
                      · have f_2949 := (hr_2757.resolve_right (fun q => c_2948 q.1)).2
                        have tc_2950 : (x_2753).toInt ≠ 0 := fun q => c_2948 (Int32.toInt_inj.mp q)
                        exact (rg_empty (rg_ne c_2948 h_2944 0 rfl (lo := 1) (hi := (-1)) (by decide)) (by decide)).elim
                      · have f_2951 := (hr_2757.resolve_left (fun q => absurd (q.1.symm.trans c_2948) (by decide))).2
                        have tc_2952 : (x_2753).toInt = 0 := congrArg Int32.toInt c_2948
                        refine lv_iload hx hb dX12_either_97 (lv_at hl 1 rfl) ?_
                        refine lv_if_eq (tgt := 106) hx hb dX12_either_99 (by decide) (fun c_2953 => absurd c_2953 (by decide)) (fun c_2953 => ?_)
                        refine lv_iconst (v := 1) hx hb dX12_either_102 (by decide) ?_
                        refine lv_goto (tgt := 107) hx hb dX12_either_103 (by decide) ?_
                        refine lv_istore_n (lv' := [(3, .int 1), (2, .int 1), (5, .int 1), (1, .int x_2753), (4, .int x_2433), (0, .ref this)]) hx hb dX12_either_107 rfl hl (by decide) rfl (fun ls hl => ?_)
                        refine lv_iload_n hx hb dX12_either_108 rfl (lv_at hl 0 rfl) ?_
                        refine lv_if_eq (tgt := 116) hx hb dX12_either_109 (by decide) (fun c_2954 => absurd c_2954 (by decide)) (fun c_2954 => ?_)
                        refine lv_aload_n hx hb dX12_either_112 rfl (lv_at hl 5 rfl) ?_
                        obtain ⟨w_2955, hR_w_2955, hL_w_2955, hK_w_2955, hN_w_2955, hT_w_2955⟩ := sh_a hSH 387 (ci := 12) (kd := 13) (len := 300) rfl (by decide) hL_this hK_this
                        refine pk_v (va_runV (As := []) (rest := []) ⟨hx, hb, hml, hown, hts⟩ (s_X12_nextToken_x l D t σ I_2730 J_2436 ri_2731 rj rq H.size tg hSH hG.1 this hL_this hK_this w_2955 hR_w_2955 hL_w_2955 hK_w_2955 hN_w_2955 hT_w_2955) (cwV 0 hts (tw_V tw_832 tw_833 tw_834 tw_5 tw_835) rfl rfl rfl cv_yX12_nextToken_0 ⟨Nat.le_of_ble_eq_true rfl, Nat.le_of_ble_eq_true rfl⟩) ⟨pq_blind, pq_recv hK hP hL_this hK_this (by decide) rfl, pq_pre hK hN hP hD⟩ rfl rfl hl.1 rfl (lv_room (Nat.le_of_ble_eq_true rfl)) dX12_either_113 ⟨Nat.le_of_ble_eq_true rfl, Nat.le_of_ble_eq_true rfl⟩) hD hS hA (fun σ1 μ1 H locs hw_2957 hP hD hS => ?_)
                        obtain ⟨I_2958, J_2959, hu_2960, hg_2961, hp_2963, hp_2964, hp_2965⟩ := hw_2957
                        obtain ⟨hu_2960a, hu_2960b⟩ := Prod.mk.inj hu_2960
                        rw [hu_2960a, hu_2960b] at hP hD
                        have tt_2966 := hp_2963
                        have tt_2967 := hp_2964
                        have tt_2968 := hp_2965
                        have tt_2969 : (I_2958 391 this).toInt ≤ 300 := by have z := hg_2961.1.1 391 this; exact z.2
                        have hG := GM.tr hG hg_2961 (by decide)
                        have tt_2970 : (I_2958 396 this).toInt = (I_2730 396 this).toInt := by rw [hg_2961.2.1 396 (by decide) (by decide)]
                        have tt_2971 : (I_2958 398 this).toInt = (I_2730 398 this).toInt := by rw [hg_2961.2.1 398 (by decide) (by decide)]
                        have tt_2972 : (I_2958 401 this).toInt = (I_2730 401 this).toInt := by rw [hg_2961.2.1 401 (by decide) (by decide)]
                        have tt_2973 : (I_2958 402 this).toInt = (I_2730 402 this).toInt := by rw [hg_2961.2.1 402 (by decide) (by decide)]
                        have tt_2974 : (I_2958 397 this).toInt = (I_2730 397 this).toInt := by rw [hg_2961.2.1 397 (by decide) (by decide)]
                        refine lv_goto (tgt := 6) hx hb dX12_either_116 (by decide) ?_
                        exact ih_2417 x_2753 (1 : Int32) (1 : Int32) I_2958 J_2959 ri_2731 _ _ _ (rg_w h_2944 (by decide)) (rg_w (rg_k (1 : Int32) 1 rfl) (by decide)) (rg_w (rg_k (1 : Int32) 1 rfl) (by decide)) (by have zc0 : (0 : Int32).toInt = 0 := rfl; have zc1 : (1 : Int32).toInt = 1 := rfl; exact ⟨fun _ => by rw [show tb + (x_2753).toInt + (1 : Int32).toInt = (tb + 1) from by omega, show K + (x_2753).toInt + (1 : Int32).toInt = K + 1 from by omega]; exact PBz_tok hpbD (by omega) (by omega) (by omega) (by omega) (by omega) (by omega) (by omega) rfl, fun q => absurd q (by decide)⟩) (Int.le_of_lt (Int.lt_of_lt_of_le (tm_lt (by omega) (by omega) (by omega)) htmA)) (by have zc0 : (0 : Int32).toInt = 0 := rfl; have zc1 : (1 : Int32).toInt = 1 := rfl; exact tm_ms2' hm_2414 ⟨Int.le_of_lt (Int.lt_of_lt_of_le (tm_lt (s := (I_2730 391 this).toInt) (k := (I_2730 393 this).toInt) (by omega) (by omega) (by omega)) (tm_lec (hp_2441.resolve_left (fun q => q (by omega))).2 (by omega) (by omega))), Or.inl (Int.lt_of_lt_of_le (tm_lt (s := (I_2730 391 this).toInt) (k := (I_2730 393 this).toInt) (by omega) (by omega) (by omega)) (tm_lec (hp_2441.resolve_left (fun q => q (by omega))).2 (by omega) (by omega)))⟩ (tm_b ((hG.1.1 391 this).2)) (by omega) (by omega)) hG hP hD hS (lv_sub hl [5, 3, 1, 0] rfl)
                    · have tc_2975 : (x_1806).toInt ≠ 0 := fun q => c_2945 (Int32.toInt_inj.mp q)
                      have h_2976 : rg x_1806 1 1 := rg_ne c_2945 h_2424 0 rfl (by decide)
                      have uh_2976 := h_2976.1
                      have vh_2976 := h_2976.2
                      refine lv_aload_n hx hb dX12_either_83 rfl (lv_at hl 3 rfl) ?_
                      refine lv_bipush (v := 22) hx hb dX12_either_84 (by decide) ?_
                      refine lv_iconst (v := 0) hx hb dX12_either_86 (by decide) ?_
                      have hq1 := PBz_t hpbC
                      have hq2 := PBz_w hpbC (Or.inr (by omega))
                      refine pk_v (va_runV (As := [.int 22, .int 0]) (rest := []) ⟨hx, hb, hml, hown, hts⟩ (s_X12_emit l D t σ I_2730 J_2436 ri_2731 rj rq H.size tg hSH hG.1 this (22 : Int32) (0 : Int32) hL_this hK_this this_a hR_this_a hL_this_a hK_this_a hN_this_a hT_this_a (by omega) (by omega)) (cwV 2 hts (tw_V tw_905 tw_906 tw_907 tw_5 tw_908) rfl rfl rfl cv_yX12_emit_2 ⟨Nat.le_of_ble_eq_true rfl, Nat.le_of_ble_eq_true rfl⟩) ⟨pq_blind, pq_recv hK hP hL_this hK_this (by decide) rfl, pq_pre hK hN hP hD⟩ rfl rfl hl.1 rfl (lv_room (Nat.le_of_ble_eq_true rfl)) dX12_either_87 ⟨Nat.le_of_ble_eq_true rfl, Nat.le_of_ble_eq_true rfl⟩) hD hS hA (fun σ1 μ1 H locs hw_2978 hP hD hS => ?_)
                      obtain ⟨I_2979, ri_2980, hu_2981, hg_2982, hp_2984, hp_2985, hp_2986, hp_2987⟩ := hw_2978
                      obtain ⟨hu_2981a, hu_2981b⟩ := Prod.mk.inj hu_2981
                      rw [hu_2981a, hu_2981b] at hP hD
                      obtain ⟨v_2988, ev_2988, hv_2988⟩ := hp_2984
                      have tt_2989 : (I_2979 398 this).toInt = (I_2730 398 this).toInt + 1 := by rw [ev_2988, pq_us]; exact hv_2988
                      have tt_2990 : (I_2979 403 this).toInt = (I_2730 403 this).toInt := by rw [ev_2988, pq_uf _ _ _ (by decide)]
                      have hG := GM.tr hG hg_2982 (by decide)
                      have tt_2991 : (I_2979 396 this).toInt = (I_2730 396 this).toInt := by rw [hg_2982.2.1 396 (by decide) (by decide)]
                      have tt_2992 : (I_2979 401 this).toInt = (I_2730 401 this).toInt := by rw [hg_2982.2.1 401 (by decide) (by decide)]
                      have tt_2993 : (I_2979 402 this).toInt = (I_2730 402 this).toInt := by rw [hg_2982.2.1 402 (by decide) (by decide)]
                      have tt_2994 : (I_2979 391 this).toInt = (I_2730 391 this).toInt := by rw [hg_2982.2.1 391 (by decide) (by decide)]
                      have tt_2995 : (I_2979 393 this).toInt = (I_2730 393 this).toInt := by rw [hg_2982.2.1 393 (by decide) (by decide)]
                      have tt_2996 : (I_2979 397 this).toInt = (I_2730 397 this).toInt := by rw [hg_2982.2.1 397 (by decide) (by decide)]
                      have hpbD : PBz (I_2979 396 this).toInt (I_2979 398 this).toInt (I_2979 402 this).toInt (I_2979 391 this).toInt (I_2979 393 this).toInt (ri_2980 this_a) bb f0 fr va (tb + 1) nn K := by have zc0 : (0 : Int32).toInt = 0 := rfl; have zc1 : (1 : Int32).toInt = 1 := rfl; have zo : (22 : Int32).toInt = 22 := rfl; exact PBz_em (x := 22) (by rw [show K + 1 = (K + (x_1806).toInt) from by omega]; exact hpbC) (by omega) (fun j hj => hp_2985 j (by omega)) (by rw [show (I_2730 396 this).toInt + 250 + 2 * (I_2730 398 this).toInt = (I_2730 396 this).toInt + 250 + 2 * (I_2730 398 this).toInt from by omega]; exact hp_2986) (by omega) (by omega) (by omega) (by omega) (by omega) (by omega)
                      refine lv_iload hx hb dX12_either_90 (lv_at hl 0 rfl) ?_
                      refine lv_istore_n (lv' := [(2, .int 1), (5, .int 1), (1, .int x_2753), (4, .int x_2433), (0, .ref this), (3, .int x_1807)]) hx hb dX12_either_92 rfl hl (by decide) rfl (fun ls hl => ?_)
                      refine lv_iload_n hx hb dX12_either_93 rfl (lv_at hl 2 rfl) ?_
                      refine lv_if_ne (tgt := 102) hx hb dX12_either_94 (by decide) (fun c_2997 => ?_) (fun c_2997 => ?_)
                      · have f_2998 := (hr_2757.resolve_right (fun q => c_2997 q.1)).2
                        have tc_2999 : (x_2753).toInt ≠ 0 := fun q => c_2997 (Int32.toInt_inj.mp q)
                        exact (rg_empty (rg_ne c_2997 h_2944 0 rfl (lo := 1) (hi := (-1)) (by decide)) (by decide)).elim
                      · have f_3000 := (hr_2757.resolve_left (fun q => absurd (q.1.symm.trans c_2997) (by decide))).2
                        have tc_3001 : (x_2753).toInt = 0 := congrArg Int32.toInt c_2997
                        refine lv_iload hx hb dX12_either_97 (lv_at hl 1 rfl) ?_
                        refine lv_if_eq (tgt := 106) hx hb dX12_either_99 (by decide) (fun c_3002 => absurd c_3002 (by decide)) (fun c_3002 => ?_)
                        refine lv_iconst (v := 1) hx hb dX12_either_102 (by decide) ?_
                        refine lv_goto (tgt := 107) hx hb dX12_either_103 (by decide) ?_
                        refine lv_istore_n (lv' := [(3, .int 1), (2, .int 1), (5, .int 1), (1, .int x_2753), (4, .int x_2433), (0, .ref this)]) hx hb dX12_either_107 rfl hl (by decide) rfl (fun ls hl => ?_)
                        refine lv_iload_n hx hb dX12_either_108 rfl (lv_at hl 0 rfl) ?_
                        refine lv_if_eq (tgt := 116) hx hb dX12_either_109 (by decide) (fun c_3003 => absurd c_3003 (by decide)) (fun c_3003 => ?_)
                        refine lv_aload_n hx hb dX12_either_112 rfl (lv_at hl 5 rfl) ?_
                        obtain ⟨w_3004, hR_w_3004, hL_w_3004, hK_w_3004, hN_w_3004, hT_w_3004⟩ := sh_a hSH 387 (ci := 12) (kd := 13) (len := 300) rfl (by decide) hL_this hK_this
                        refine pk_v (va_runV (As := []) (rest := []) ⟨hx, hb, hml, hown, hts⟩ (s_X12_nextToken_x l D t σ I_2979 J_2436 ri_2980 rj rq H.size tg hSH hG.1 this hL_this hK_this w_3004 hR_w_3004 hL_w_3004 hK_w_3004 hN_w_3004 hT_w_3004) (cwV 0 hts (tw_V tw_832 tw_833 tw_834 tw_5 tw_835) rfl rfl rfl cv_yX12_nextToken_0 ⟨Nat.le_of_ble_eq_true rfl, Nat.le_of_ble_eq_true rfl⟩) ⟨pq_blind, pq_recv hK hP hL_this hK_this (by decide) rfl, pq_pre hK hN hP hD⟩ rfl rfl hl.1 rfl (lv_room (Nat.le_of_ble_eq_true rfl)) dX12_either_113 ⟨Nat.le_of_ble_eq_true rfl, Nat.le_of_ble_eq_true rfl⟩) hD hS hA (fun σ1 μ1 H locs hw_3006 hP hD hS => ?_)
                        obtain ⟨I_3007, J_3008, hu_3009, hg_3010, hp_3012, hp_3013, hp_3014⟩ := hw_3006
                        obtain ⟨hu_3009a, hu_3009b⟩ := Prod.mk.inj hu_3009
                        rw [hu_3009a, hu_3009b] at hP hD
                        have tt_3015 := hp_3012
                        have tt_3016 := hp_3013
                        have tt_3017 := hp_3014
                        have tt_3018 : (I_3007 391 this).toInt ≤ 300 := by have z := hg_3010.1.1 391 this; exact z.2
                        have hG := GM.tr hG hg_3010 (by decide)
                        have tt_3019 : (I_3007 396 this).toInt = (I_2979 396 this).toInt := by rw [hg_3010.2.1 396 (by decide) (by decide)]
                        have tt_3020 : (I_3007 398 this).toInt = (I_2979 398 this).toInt := by rw [hg_3010.2.1 398 (by decide) (by decide)]
                        have tt_3021 : (I_3007 401 this).toInt = (I_2979 401 this).toInt := by rw [hg_3010.2.1 401 (by decide) (by decide)]
                        have tt_3022 : (I_3007 402 this).toInt = (I_2979 402 this).toInt := by rw [hg_3010.2.1 402 (by decide) (by decide)]
                        have tt_3023 : (I_3007 397 this).toInt = (I_2979 397 this).toInt := by rw [hg_3010.2.1 397 (by decide) (by decide)]
                        refine lv_goto (tgt := 6) hx hb dX12_either_116 (by decide) ?_
                        exact ih_2417 x_2753 (1 : Int32) (1 : Int32) I_3007 J_3008 ri_2980 _ _ _ (rg_w h_2944 (by decide)) (rg_w (rg_k (1 : Int32) 1 rfl) (by decide)) (rg_w (rg_k (1 : Int32) 1 rfl) (by decide)) (by have zc0 : (0 : Int32).toInt = 0 := rfl; have zc1 : (1 : Int32).toInt = 1 := rfl; exact ⟨fun _ => by rw [show tb + (x_2753).toInt + (1 : Int32).toInt = (tb + 1) from by omega, show K + (x_2753).toInt + (1 : Int32).toInt = K + 1 from by omega]; exact PBz_tok hpbD (by omega) (by omega) (by omega) (by omega) (by omega) (by omega) (by omega) rfl, fun q => absurd q (by decide)⟩) (Int.le_of_lt (Int.lt_of_lt_of_le (tm_lt (by omega) (by omega) (by omega)) htmA)) (by have zc0 : (0 : Int32).toInt = 0 := rfl; have zc1 : (1 : Int32).toInt = 1 := rfl; exact tm_ms2' hm_2414 ⟨Int.le_of_lt (Int.lt_of_lt_of_le (tm_lt (s := (I_2979 391 this).toInt) (k := (I_2979 393 this).toInt) (by omega) (by omega) (by omega)) (tm_lec (hp_2441.resolve_left (fun q => q (by omega))).2 (by omega) (by omega))), Or.inl (Int.lt_of_lt_of_le (tm_lt (s := (I_2979 391 this).toInt) (k := (I_2979 393 this).toInt) (by omega) (by omega) (by omega)) (tm_lec (hp_2441.resolve_left (fun q => q (by omega))).2 (by omega) (by omega)))⟩ (tm_b ((hG.1.1 391 this).2)) (by omega) (by omega)) hG hP hD hS (lv_sub hl [5, 3, 1, 0] rfl)
          · have tc_3024 : (x_2433).toInt ≠ 0 := fun q => c_2444 (Int32.toInt_inj.mp q)
            have h_3025 : rg x_2433 1 3 := rg_ne c_2444 hr_2440 0 rfl (by decide)
            have uh_3025 := h_3025.1
            have vh_3025 := h_3025.2
            refine lv_iload hx hb dX12_either_21 (lv_at hl 0 rfl) ?_
            subst hQ
            exact W.iret (v := x_2433) hx hb hr (fun t1 ht hW => ⟨⟨x_2433, (σ, I_2435, J_2436, ri_2437, rj, rq), rfl, ⟨I_2435, J_2436, ri_2437, rfl, hG, (Or.inl (by omega)), (rg_w h_3025 (by decide))⟩, by rw [ht]; exact hP, va_K.moved hW.alike hK, hD⟩, hS.F ht⟩) hS.2.2 dX12_either_23
    exact L_2416 _ (0 : Int32) (0 : Int32) (1 : Int32) I J ri _ _ _ (rg_w (rg_k (0 : Int32) 0 rfl) (by decide)) (rg_w (rg_k (0 : Int32) 0 rfl) (by decide)) (rg_w (rg_k (1 : Int32) 1 rfl) (by decide)) (by have zc0 : (0 : Int32).toInt = 0 := rfl; have zc1 : (1 : Int32).toInt = 1 := rfl; exact ⟨fun _ => by rw [show tb + (0 : Int32).toInt + (0 : Int32).toInt = tb from by omega, show K + (0 : Int32).toInt + (0 : Int32).toInt = K from by omega]; exact hpb, fun q => absurd q (by decide)⟩) (Int.le_refl _) (Nat.lt_succ_self _) hG hP hD hS (lv_sub hl [3, 2, 1, 0] rfl)
  exact go _ _ _ hP hD hS hl
