theorem dX12_keys_0 : decode cX12_keys 0 = .ok (.aload_n 0, 1) := oc_42 (by decide +kernel)
theorem dX12_keys_1 : decode cX12_keys 1 = .ok (.getfield 7, 3) := oc_180 (a := 0) (b := 7) (by decide +kernel)
theorem dX12_keys_4 : decode cX12_keys 4 = .ok (.iload_n 1, 1) := oc_27 (by decide +kernel)
theorem dX12_keys_5 : decode cX12_keys 5 = .ok (.iconst 4, 1) := oc_7 (by decide +kernel)
theorem dX12_keys_6 : decode cX12_keys 6 = .ok (.iadd, 1) := oc_96 (by decide +kernel)
theorem dX12_keys_7 : decode cX12_keys 7 = .ok (.iconst 0, 1) := oc_3 (by decide +kernel)
theorem dX12_keys_8 : decode cX12_keys 8 = .ok (.iastore, 1) := oc_79 (by decide +kernel)
theorem dX12_keys_9 : decode cX12_keys 9 = .ok (.iconst 1, 1) := oc_4 (by decide +kernel)
theorem dX12_keys_10 : decode cX12_keys 10 = .ok (.istore_n 2, 1) := oc_61 (by decide +kernel)
theorem dX12_keys_11 : decode cX12_keys 11 = .ok (.iload_n 2, 1) := oc_28 (by decide +kernel)
theorem dX12_keys_12 : decode cX12_keys 12 = .ok (.ifCond .eq 136, 3) := oc_153 (a := 0) (b := 136) (by decide +kernel)
theorem dX12_keys_148 : decode cX12_keys 148 = .ok (.iconst 0, 1) := oc_3 (by decide +kernel)
theorem dX12_keys_149 : decode cX12_keys 149 = .ok (.ireturn, 1) := oc_172 (by decide +kernel)
theorem dX12_keys_15 : decode cX12_keys 15 = .ok (.aload_n 0, 1) := oc_42 (by decide +kernel)
theorem dX12_keys_16 : decode cX12_keys 16 = .ok (.getfield 143, 3) := oc_180 (a := 0) (b := 143) (by decide +kernel)
theorem dX12_keys_19 : decode cX12_keys 19 = .ok (.bipush 45, 2) := oc_16 (a := 45) (by decide +kernel)
theorem dX12_keys_21 : decode cX12_keys 21 = .ok (.if_icmp .ne 7, 3) := oc_160 (a := 0) (b := 7) (by decide +kernel)
theorem dX12_keys_28 : decode cX12_keys 28 = .ok (.iconst 0, 1) := oc_3 (by decide +kernel)
theorem dX12_keys_29 : decode cX12_keys 29 = .ok (.istore_n 3, 1) := oc_62 (by decide +kernel)
theorem dX12_keys_30 : decode cX12_keys 30 = .ok (.iload_n 3, 1) := oc_29 (by decide +kernel)
theorem dX12_keys_31 : decode cX12_keys 31 = .ok (.ifCond .ne 10, 3) := oc_154 (a := 0) (b := 10) (by decide +kernel)
theorem dX12_keys_34 : decode cX12_keys 34 = .ok (.aload_n 0, 1) := oc_42 (by decide +kernel)
theorem dX12_keys_35 : decode cX12_keys 35 = .ok (.invokevirtual 192, 3) := oc_182 (a := 0) (b := 192) (by decide +kernel)
theorem dX12_keys_38 : decode cX12_keys 38 = .ok (.ifCond .lt 17, 3) := oc_155 (a := 0) (b := 17) (by decide +kernel)
theorem dX12_keys_55 : decode cX12_keys 55 = .ok (.iload_n 3, 1) := oc_29 (by decide +kernel)
theorem dX12_keys_56 : decode cX12_keys 56 = .ok (.ifCond .eq 7, 3) := oc_153 (a := 0) (b := 7) (by decide +kernel)
theorem dX12_keys_63 : decode cX12_keys 63 = .ok (.aload_n 0, 1) := oc_42 (by decide +kernel)
theorem dX12_keys_64 : decode cX12_keys 64 = .ok (.invokevirtual 192, 3) := oc_182 (a := 0) (b := 192) (by decide +kernel)
theorem dX12_keys_67 : decode cX12_keys 67 = .ok (.ifCond .ge 5, 3) := oc_156 (a := 0) (b := 5) (by decide +kernel)
theorem dX12_keys_72 : decode cX12_keys 72 = .ok (.aload_n 0, 1) := oc_42 (by decide +kernel)
theorem dX12_keys_73 : decode cX12_keys 73 = .ok (.getfield 7, 3) := oc_180 (a := 0) (b := 7) (by decide +kernel)
theorem dX12_keys_76 : decode cX12_keys 76 = .ok (.iload_n 1, 1) := oc_27 (by decide +kernel)
theorem dX12_keys_77 : decode cX12_keys 77 = .ok (.iconst 5, 1) := oc_8 (by decide +kernel)
theorem dX12_keys_78 : decode cX12_keys 78 = .ok (.iadd, 1) := oc_96 (by decide +kernel)
theorem dX12_keys_79 : decode cX12_keys 79 = .ok (.aload_n 0, 1) := oc_42 (by decide +kernel)
theorem dX12_keys_80 : decode cX12_keys 80 = .ok (.getfield 7, 3) := oc_180 (a := 0) (b := 7) (by decide +kernel)
theorem dX12_keys_83 : decode cX12_keys 83 = .ok (.iload_n 1, 1) := oc_27 (by decide +kernel)
theorem dX12_keys_84 : decode cX12_keys 84 = .ok (.iconst 4, 1) := oc_7 (by decide +kernel)
theorem dX12_keys_85 : decode cX12_keys 85 = .ok (.iadd, 1) := oc_96 (by decide +kernel)
theorem dX12_keys_86 : decode cX12_keys 86 = .ok (.iaload, 1) := oc_46 (by decide +kernel)
theorem dX12_keys_87 : decode cX12_keys 87 = .ok (.iadd, 1) := oc_96 (by decide +kernel)
theorem dX12_keys_88 : decode cX12_keys 88 = .ok (.iload_n 3, 1) := oc_29 (by decide +kernel)
theorem dX12_keys_89 : decode cX12_keys 89 = .ok (.ifCond .eq 12, 3) := oc_153 (a := 0) (b := 12) (by decide +kernel)
theorem dX12_keys_101 : decode cX12_keys 101 = .ok (.aload_n 0, 1) := oc_42 (by decide +kernel)
theorem dX12_keys_102 : decode cX12_keys 102 = .ok (.invokevirtual 192, 3) := oc_182 (a := 0) (b := 192) (by decide +kernel)
theorem dX12_keys_105 : decode cX12_keys 105 = .ok (.iastore, 1) := oc_79 (by decide +kernel)
theorem dX12_keys_106 : decode cX12_keys 106 = .ok (.aload_n 0, 1) := oc_42 (by decide +kernel)
theorem dX12_keys_107 : decode cX12_keys 107 = .ok (.getfield 7, 3) := oc_180 (a := 0) (b := 7) (by decide +kernel)
theorem dX12_keys_110 : decode cX12_keys 110 = .ok (.iload_n 1, 1) := oc_27 (by decide +kernel)
theorem dX12_keys_111 : decode cX12_keys 111 = .ok (.iconst 4, 1) := oc_7 (by decide +kernel)
theorem dX12_keys_112 : decode cX12_keys 112 = .ok (.iadd, 1) := oc_96 (by decide +kernel)
theorem dX12_keys_113 : decode cX12_keys 113 = .ok (.dup2, 1) := oc_92 (by decide +kernel)
theorem dX12_keys_114 : decode cX12_keys 114 = .ok (.iaload, 1) := oc_46 (by decide +kernel)
theorem dX12_keys_115 : decode cX12_keys 115 = .ok (.iconst 1, 1) := oc_4 (by decide +kernel)
theorem dX12_keys_116 : decode cX12_keys 116 = .ok (.iadd, 1) := oc_96 (by decide +kernel)
theorem dX12_keys_117 : decode cX12_keys 117 = .ok (.iastore, 1) := oc_79 (by decide +kernel)
theorem dX12_keys_118 : decode cX12_keys 118 = .ok (.aload_n 0, 1) := oc_42 (by decide +kernel)
theorem dX12_keys_119 : decode cX12_keys 119 = .ok (.invokevirtual 196, 3) := oc_182 (a := 0) (b := 196) (by decide +kernel)
theorem dX12_keys_122 : decode cX12_keys 122 = .ok (.aload_n 0, 1) := oc_42 (by decide +kernel)
theorem dX12_keys_123 : decode cX12_keys 123 = .ok (.getfield 143, 3) := oc_180 (a := 0) (b := 143) (by decide +kernel)
theorem dX12_keys_126 : decode cX12_keys 126 = .ok (.bipush 44, 2) := oc_16 (a := 44) (by decide +kernel)
theorem dX12_keys_128 : decode cX12_keys 128 = .ok (.if_icmp .ne 7, 3) := oc_160 (a := 0) (b := 7) (by decide +kernel)
theorem dX12_keys_135 : decode cX12_keys 135 = .ok (.iconst 0, 1) := oc_3 (by decide +kernel)
theorem dX12_keys_136 : decode cX12_keys 136 = .ok (.istore_n 2, 1) := oc_61 (by decide +kernel)
theorem dX12_keys_137 : decode cX12_keys 137 = .ok (.iload_n 2, 1) := oc_28 (by decide +kernel)
theorem dX12_keys_138 : decode cX12_keys 138 = .ok (.ifCond .eq 7, 3) := oc_153 (a := 0) (b := 7) (by decide +kernel)
theorem dX12_keys_145 : decode cX12_keys 145 = .ok (.goto (-134), 3) := oc_167 (a := 255) (b := 122) (by decide +kernel)
theorem dX12_keys_131 : decode cX12_keys 131 = .ok (.iconst 1, 1) := oc_4 (by decide +kernel)
theorem dX12_keys_132 : decode cX12_keys 132 = .ok (.goto 4, 3) := oc_167 (a := 0) (b := 4) (by decide +kernel)
theorem dX12_keys_141 : decode cX12_keys 141 = .ok (.aload_n 0, 1) := oc_42 (by decide +kernel)
theorem dX12_keys_142 : decode cX12_keys 142 = .ok (.invokevirtual 196, 3) := oc_182 (a := 0) (b := 196) (by decide +kernel)
theorem dX12_keys_70 : decode cX12_keys 70 = .ok (.iconst 1, 1) := oc_4 (by decide +kernel)
theorem dX12_keys_71 : decode cX12_keys 71 = .ok (.ireturn, 1) := oc_172 (by decide +kernel)
theorem dX12_keys_41 : decode cX12_keys 41 = .ok (.aload_n 0, 1) := oc_42 (by decide +kernel)
theorem dX12_keys_42 : decode cX12_keys 42 = .ok (.getfield 7, 3) := oc_180 (a := 0) (b := 7) (by decide +kernel)
theorem dX12_keys_45 : decode cX12_keys 45 = .ok (.iload_n 1, 1) := oc_27 (by decide +kernel)
theorem dX12_keys_46 : decode cX12_keys 46 = .ok (.iconst 4, 1) := oc_7 (by decide +kernel)
theorem dX12_keys_47 : decode cX12_keys 47 = .ok (.iadd, 1) := oc_96 (by decide +kernel)
theorem dX12_keys_48 : decode cX12_keys 48 = .ok (.iaload, 1) := oc_46 (by decide +kernel)
theorem dX12_keys_49 : decode cX12_keys 49 = .ok (.iconst 4, 1) := oc_7 (by decide +kernel)
theorem dX12_keys_50 : decode cX12_keys 50 = .ok (.if_icmp .ne 5, 3) := oc_160 (a := 0) (b := 5) (by decide +kernel)
theorem dX12_keys_53 : decode cX12_keys 53 = .ok (.iconst 5, 1) := oc_8 (by decide +kernel)
theorem dX12_keys_54 : decode cX12_keys 54 = .ok (.ireturn, 1) := oc_172 (by decide +kernel)
theorem dX12_keys_24 : decode cX12_keys 24 = .ok (.iconst 1, 1) := oc_4 (by decide +kernel)
theorem dX12_keys_25 : decode cX12_keys 25 = .ok (.goto 4, 3) := oc_167 (a := 0) (b := 4) (by decide +kernel)
theorem dX12_keys_59 : decode cX12_keys 59 = .ok (.aload_n 0, 1) := oc_42 (by decide +kernel)
theorem dX12_keys_60 : decode cX12_keys 60 = .ok (.invokevirtual 196, 3) := oc_182 (a := 0) (b := 196) (by decide +kernel)
theorem dX12_keys_92 : decode cX12_keys 92 = .ok (.iconst (-1), 1) := oc_2 (by decide +kernel)
theorem dX12_keys_93 : decode cX12_keys 93 = .ok (.aload_n 0, 1) := oc_42 (by decide +kernel)
theorem dX12_keys_94 : decode cX12_keys 94 = .ok (.invokevirtual 192, 3) := oc_182 (a := 0) (b := 192) (by decide +kernel)
theorem dX12_keys_97 : decode cX12_keys 97 = .ok (.isub, 1) := oc_100 (by decide +kernel)
theorem dX12_keys_98 : decode cX12_keys 98 = .ok (.goto 7, 3) := oc_167 (a := 0) (b := 7) (by decide +kernel)
set_option maxHeartbeats 4000000 in
set_option maxRecDepth 100000 in
theorem s_X12_keys (l : Launch) (D : va_G) (t : pq_T) (σ : pq_S) (I : Nat → Nat → Int32) (J : Nat → Nat → Int64) (ri : Nat → Nat → Int32) (rj : Nat → Nat → Int64) (rq : Nat → Nat → Option Nat) (sz : Nat) (tg : Nat → Nat) (hSH : SH σ tg) (hG0 : GT tg I ri) (this : Nat) (a0 : Int32) (hL_this : this ∈ σ.1) (hK_this : σ.2.1 this = 12) (this_a : Nat) (hR_this_a : σ.2.2.1 384 this = some this_a) (hL_this_a : this_a ∈ σ.1) (hK_this_a : σ.2.1 this_a = 13) (hN_this_a : σ.2.2.2 this_a = 12720) (hT_this_a : tg this_a = 384) (hc : a0.toInt = 3721 + 900 * (ri this_a 6).toInt + 12 * (I 397 this).toInt ∧ 0 ≤ (I 397 this).toInt ∧ (I 397 this).toInt ≤ 19 ∧ 0 ≤ (ri this_a 6).toInt ∧ (ri this_a 6).toInt ≤ 9) : MetI l yX12_keys (wa yX12_keys cX12_keys 4 (some .int)) ({ frames := 4, cells := 0, slots := 0, locals := 89 }) [.ref this, .int a0] D t σ (I, J, ri, rj, rq) sz 0 0 (fun (r : Int32) (u : pq_S × pq_M) => ∃ I' : Nat → Nat → Int32, ∃ J' : Nat → Nat → Int64, ∃ ri' : Nat → Nat → Int32, u = (σ, I', J', ri', rj, rq) ∧ GM [391, 392, 393] tg σ I ri I' ri' rq ∧ ((I 391 this).toInt ≤ (I' 391 this).toInt) ∧ (∀ j : Nat, (j : Int) < a0.toInt + 4 ∨ a0.toInt + 12 ≤ (j : Int) → ri' this_a j = ri this_a j) ∧ (tmM (I' 391 this).toInt (I' 393 this).toInt ≤ tmM (I 391 this).toInt (I 393 this).toInt) ∧ rg r 0 5) := by
  refine Met.ofW (cc := cX12_keys) (maxL := 4) (ret := (some .int)) (by decide) rfl ?_
  intro p e s m args below meth c s₁ B hml hv
  obtain ⟨rfl, hsz, hP, hK, hD0, hN⟩ := hv
  have hx := B.exec
  have hb := B.bytes
  have hr := B.returns
  have hts := atoms_spec (ws := (wa yX12_keys cX12_keys 4 (some .int))) B.pre
  have hown : s.vm.findClass RX12 = some m.cls := findClass_of_methodNamed B.named
  have hlocks := B.notSynchronized
  subst hsz
  have hD : va_D (pq_B t σ (I, J, ri, rj, rq) s.heap.size) (pq_P t σ (I, J, ri, rj, rq)) := hD0.self
  generalize hAe : pq_B t σ (I, J, ri, rj, rq) s.heap.size = A at hD ⊢
  have hA : ∀ q : Nat, s.heap.size ≤ q → A q := fun q h => by rw [← hAe]; exact Or.inr h
  have hS : va_S A s.heap s.heap [] := va_S.rf
  have hG : GM [391, 392, 393] tg σ I ri I ri rq := ⟨hG0, fun _ _ _ => rfl, fun _ _ _ _ _ => rfl, fun _ _ _ _ _ _ => rfl⟩
  have hl := lv_entry ([.ref this, .int a0]) (n := 4) (Nat.le_of_ble_eq_true rfl)
  rw [lg_entry_eq]
  generalize (lg_sl ([.ref this, .int a0]) ++ List.replicate (4 - (lg_sl ([.ref this, .int a0])).length) Slot.unset).toArray = ls at hl ⊢
  have hl : lv_has ls 4 [(0, .ref this), (1, .int a0)] := hl
  refine q_gen (fun Q hQ => ?_)
  have go : ∀ (H : Heap) (locs : List Loc) (ls : Array Slot), va_P D vwCl (pq_P t σ (I, J, ri, rj, rq)) H → va_D A (pq_P t σ (I, J, ri, rj, rq)) → va_S A s.heap H locs → lv_has ls 4 [(0, .ref this), (1, .int a0)] → W p l e ({ frames := 4, cells := 0, slots := 0, locals := 89 } : Room) s m (List.toArray ([.ref this, .int a0] : List Value)) below meth c H locs 0 0 Q (F0 m 0 ls []) := by
    intro H locs ls hP hD hS hl
    have ce6 := clampE (ri this_a 6)
    have ceC := clampE (I 397 this)
    have ceA := clampE a0
    have h_1 : rg a0 3721 12049 := ⟨by omega, by omega⟩
    have uh_1 := h_1.1
    have vh_1 := h_1.2
    refine lv_aload_n hx hb dX12_keys_0 rfl (lv_at hl 0 rfl) ?_
    refine pg_f (v := .ref this_a) (C := RX12) (T := TX12) (N := 31) hx hb hts (tw_i inlX12) hown hK hP hL_this hK_this (by decide) rfl 0 (by decide) (hts _ (tw_c tw_176)) (pq_hv rfl hR_this_a) dX12_keys_1 ?_
    refine lv_iload_n hx hb dX12_keys_4 rfl (lv_at hl 1 rfl) ?_
    refine lv_iconst (v := 4) hx hb dX12_keys_5 (by decide) ?_
    refine lv_iadd hx hb dX12_keys_6 ?_
    refine lv_topi (fun x_2 ex_2 => ?_)
    have h_3 : rg x_2 3725 12053 := rg_of_eq ex_2 (rg_add h_1 (rg_k (4 : Int32) 4 rfl) (by decide))
    have uh_3 := h_3.1
    have vh_3 := h_3.2
    have tx_2 : (x_2).toInt = (a0).toInt + 4 := by rw [ex_2]; exact i_add_rg (a2 := (a0).toInt) (b2 := 4) rfl rfl h_1 (rg_k (4 : Int32) 4 rfl) (by decide)
    refine lv_iconst (v := 0) hx hb dX12_keys_7 (by decide) ?_
    refine pt_i hx hb hK hP hD hS hL_this_a hK_this_a hN_this_a (rg_in h_3 (by decide)) dX12_keys_8 (fun r_4 H locs er_4 hP hD hS => ?_)
    have hG := GM.wt hG hT_this_a (by decide) er_4 (zn_tc (t := (ri this_a 6).toNatClampNeg) (c := (I 397 this).toNatClampNeg) (k := 4) (by have z_i := clampE x_2; have z_0 := clampE (ri this_a 6); have z_1 := clampE (I 397 this); omega) (rg_cl1 ⟨hc.2.2.2.1, hc.2.2.2.2⟩ (by decide)) (rg_cl1 ⟨hc.2.1, hc.2.2.1⟩ (by decide)) (by decide)) rfl (rg_w (rg_k (0 : Int32) 0 rfl) (by decide)) (by have z6 := congrArg Int32.toInt (hG.2.2.1 this_a hT_this_a 6 (by decide) (by decide)); have z_i := clampE x_2; omega) (by decide)
    refine lv_iconst (v := 1) hx hb dX12_keys_9 (by decide) ?_
    refine lv_istore_n (lv' := [(2, .int 1), (0, .ref this), (1, .int a0)]) hx hb dX12_keys_10 rfl hl (by decide) rfl (fun ls hl => ?_)
    have L_1371 : ∀ (n_1370 : Nat) (x_1094 : Int32) (I_1095 : Nat → Nat → Int32) (J_1096 : Nat → Nat → Int64) (ri_1097 : Nat → Nat → Int32) (H : Heap) (locs : List Loc) (ls : Array Slot), rg x_1094 0 1 → ((I 391 this).toInt ≤ (I_1095 391 this).toInt) → (∀ j : Nat, (j : Int) < a0.toInt + 4 ∨ a0.toInt + 12 ≤ (j : Int) → ri_1097 this_a j = ri this_a j) → (tmM (I_1095 391 this).toInt (I_1095 393 this).toInt ≤ tmM (I 391 this).toInt (I 393 this).toInt) → (tmM (I_1095 391 this).toInt (I_1095 393 this).toInt).toNat < n_1370 → GM [391, 392, 393] tg σ I ri I_1095 ri_1097 rq → va_P D vwCl (pq_P t σ (I_1095, J_1096, ri_1097, rj, rq)) H → va_D A (pq_P t σ (I_1095, J_1096, ri_1097, rj, rq)) → va_S A s.heap H locs → lv_has ls 4 [(0, .ref this), (1, .int a0), (2, .int x_1094)] → W p l e ({ frames := 4, cells := 0, slots := 0, locals := 89 } : Room) s m (List.toArray ([.ref this, .int a0] : List Value)) below meth c H locs 0 0 Q (F0 m 11 ls []) := by
      intro n_1370
      induction n_1370 with
      | zero => intro x_1094 I_1095 J_1096 ri_1097 H locs ls h_1377 hrel_1378 hrel_1379 hrel_1380 hm_1369 hG hP hD hS hl; exact absurd hm_1369 (Nat.not_lt_zero _)
      | succ n_1370 ih_1372 =>
        intro x_1094 I_1095 J_1096 ri_1097 H locs ls h_1377 hrel_1378 hrel_1379 hrel_1380 hm_1369 hG hP hD hS hl
        have uh_1377 := h_1377.1
        have vh_1377 := h_1377.2
        refine lv_iload_n hx hb dX12_keys_11 rfl (lv_at hl 2 rfl) ?_
        refine lv_if_eq (tgt := 148) hx hb dX12_keys_12 (by decide) (fun c_1381 => ?_) (fun c_1381 => ?_)
        · have tc_1382 : (x_1094).toInt = 0 := congrArg Int32.toInt c_1381
          have h_1383 : rg x_1094 0 0 := rg_and h_1377 (rg_of_eq c_1381 (rg_k (0 : Int32) 0 rfl)) (by decide)
          have uh_1383 := h_1383.1
          have vh_1383 := h_1383.2
          refine lv_iconst (v := 0) hx hb dX12_keys_148 (by decide) ?_
          subst hQ
          exact W.iret (v := 0) hx hb hr (fun t1 ht hW => ⟨⟨0, (σ, I_1095, J_1096, ri_1097, rj, rq), rfl, ⟨I_1095, J_1096, ri_1097, rfl, hG, (by omega), hrel_1379, hrel_1380, (rg_w (rg_k (0 : Int32) 0 rfl) (by decide))⟩, by rw [ht]; exact hP, va_K.moved hW.alike hK, hD⟩, hS.F ht⟩) hS.2.2 dX12_keys_149
        · have tc_1384 : (x_1094).toInt ≠ 0 := fun q => c_1381 (Int32.toInt_inj.mp q)
          have h_1385 : rg x_1094 1 1 := rg_ne c_1381 h_1377 0 rfl (by decide)
          have uh_1385 := h_1385.1
          have vh_1385 := h_1385.2
          refine lv_aload_n hx hb dX12_keys_15 rfl (lv_at hl 0 rfl) ?_
          refine pg_f (v := .int (I_1095 393 this)) (C := RX12) (T := TX12) (N := 31) hx hb hts (tw_i inlX12) hown hK hP hL_this hK_this (by decide) rfl 9 (by decide) (hts _ (tw_c tw_831)) rfl dX12_keys_16 ?_
          refine lv_bipush (v := 45) hx hb dX12_keys_19 (by decide) ?_
          refine lv_icmp_ne (tgt := 28) hx hb dX12_keys_21 (by decide) (fun c_1386 => ?_) (fun c_1386 => ?_)
          · have tc_1387 : (I_1095 393 this).toInt ≠ 45 := fun q => c_1386 (Int32.toInt_inj.mp q)
            refine lv_iconst (v := 0) hx hb dX12_keys_28 (by decide) ?_
            refine lv_istore_n (lv' := [(3, .int 0), (0, .ref this), (1, .int a0), (2, .int x_1094)]) hx hb dX12_keys_29 rfl hl (by decide) rfl (fun ls hl => ?_)
            refine lv_iload_n hx hb dX12_keys_30 rfl (lv_at hl 0 rfl) ?_
            refine lv_if_ne (tgt := 41) hx hb dX12_keys_31 (by decide) (fun c_1388 => absurd c_1388 (by decide)) (fun c_1388 => ?_)
            refine lv_aload_n hx hb dX12_keys_34 rfl (lv_at hl 1 rfl) ?_
            refine pk_i (va_runV (As := []) (rest := []) ⟨hx, hb, hml, hown, hts⟩ (s_X12_nameOf_d l D t σ I_1095 J_1096 ri_1097 rj rq H.size tg hSH hG.1 this hL_this hK_this) (cwV 0 hts (tw_V tw_921 tw_922 tw_923 tw_5 tw_924) rfl rfl rfl cv_yX12_nameOf_0 ⟨Nat.le_of_ble_eq_true rfl, Nat.le_of_ble_eq_true rfl⟩) ⟨pq_blind, pq_recv hK hP hL_this hK_this (by decide) rfl, pq_pre hK hN hP hD⟩ rfl rfl hl.1 rfl (lv_room (Nat.le_of_ble_eq_true rfl)) dX12_keys_35 ⟨Nat.le_of_ble_eq_true rfl, Nat.le_of_ble_eq_true rfl⟩) hD hS hA (fun x_1389 σ1 μ1 H locs hw_1390 hP hD hS => ?_)
            obtain ⟨hu_1391, hp_1394, hr_1393⟩ := hw_1390
            obtain ⟨hu_1391a, hu_1391b⟩ := Prod.mk.inj hu_1391
            rw [hu_1391a, hu_1391b] at hP hD
            refine lv_if_lt (tgt := 55) hx hb dX12_keys_38 (by decide) (fun c_1395 => ?_) (fun c_1395 => ?_)
            · have tc_1396 : (x_1389).toInt < 0 := Int32.lt_iff_toInt_lt.mp c_1395
              have h_1397 : rg x_1389 (-1) (-1) := rg_lt1 c_1395 hr_1393 (rg_k (0 : Int32) 0 rfl) (by decide)
              have uh_1397 := h_1397.1
              have vh_1397 := h_1397.2
              refine lv_iload_n hx hb dX12_keys_55 rfl (lv_at hl 0 rfl) ?_
              refine lv_if_eq (tgt := 63) hx hb dX12_keys_56 (by decide) (fun c_1398 => ?_) (fun c_1398 => absurd c_1398 (by decide))
              refine lv_aload_n hx hb dX12_keys_63 rfl (lv_at hl 1 rfl) ?_
              refine pk_i (va_runV (As := []) (rest := []) ⟨hx, hb, hml, hown, hts⟩ (s_X12_nameOf_d l D t σ I_1095 J_1096 ri_1097 rj rq H.size tg hSH hG.1 this hL_this hK_this) (cwV 0 hts (tw_V tw_921 tw_922 tw_923 tw_5 tw_924) rfl rfl rfl cv_yX12_nameOf_0 ⟨Nat.le_of_ble_eq_true rfl, Nat.le_of_ble_eq_true rfl⟩) ⟨pq_blind, pq_recv hK hP hL_this hK_this (by decide) rfl, pq_pre hK hN hP hD⟩ rfl rfl hl.1 rfl (lv_room (Nat.le_of_ble_eq_true rfl)) dX12_keys_64 ⟨Nat.le_of_ble_eq_true rfl, Nat.le_of_ble_eq_true rfl⟩) hD hS hA (fun x_1399 σ1 μ1 H locs hw_1400 hP hD hS => ?_)
              obtain ⟨hu_1401, hp_1404, hr_1403⟩ := hw_1400
              obtain ⟨hu_1401a, hu_1401b⟩ := Prod.mk.inj hu_1401
              rw [hu_1401a, hu_1401b] at hP hD
              refine lv_if_ge (tgt := 72) hx hb dX12_keys_67 (by decide) (fun c_1405 => ?_) (fun c_1405 => ?_)
              · have tc_1406 : 0 ≤ (x_1399).toInt := Int32.le_iff_toInt_le.mp c_1405
                have h_1407 : rg x_1399 0 5 := rg_le2 c_1405 (rg_k (0 : Int32) 0 rfl) hr_1403 (by decide)
                have uh_1407 := h_1407.1
                have vh_1407 := h_1407.2
                have hk5 : False := hp_1394.2 (by omega) (hp_1404.1 (by omega)).1 (hp_1404.1 (by omega)).2
                refine lv_aload_n hx hb dX12_keys_72 rfl (lv_at hl 1 rfl) ?_
                refine pg_f (v := .ref this_a) (C := RX12) (T := TX12) (N := 31) hx hb hts (tw_i inlX12) hown hK hP hL_this hK_this (by decide) rfl 0 (by decide) (hts _ (tw_c tw_176)) (pq_hv rfl hR_this_a) dX12_keys_73 ?_
                refine lv_iload_n hx hb dX12_keys_76 rfl (lv_at hl 2 rfl) ?_
                refine lv_iconst (v := 5) hx hb dX12_keys_77 (by decide) ?_
                refine lv_iadd hx hb dX12_keys_78 ?_
                refine lv_topi (fun x_1408 ex_1408 => ?_)
                have h_1409 : rg x_1408 3726 12054 := rg_of_eq ex_1408 (rg_add h_1 (rg_k (5 : Int32) 5 rfl) (by decide))
                have uh_1409 := h_1409.1
                have vh_1409 := h_1409.2
                have tx_1408 : (x_1408).toInt = (a0).toInt + 5 := by rw [ex_1408]; exact i_add_rg (a2 := (a0).toInt) (b2 := 5) rfl rfl h_1 (rg_k (5 : Int32) 5 rfl) (by decide)
                refine lv_aload_n hx hb dX12_keys_79 rfl (lv_at hl 1 rfl) ?_
                refine pg_f (v := .ref this_a) (C := RX12) (T := TX12) (N := 31) hx hb hts (tw_i inlX12) hown hK hP hL_this hK_this (by decide) rfl 0 (by decide) (hts _ (tw_c tw_176)) (pq_hv rfl hR_this_a) dX12_keys_80 ?_
                refine lv_iload_n hx hb dX12_keys_83 rfl (lv_at hl 2 rfl) ?_
                refine lv_iconst (v := 4) hx hb dX12_keys_84 (by decide) ?_
                refine lv_iadd hx hb dX12_keys_85 ?_
                refine lv_topi (fun x_1410 ex_1410 => ?_)
                have h_1411 : rg x_1410 3725 12053 := rg_of_eq ex_1410 (rg_add h_1 (rg_k (4 : Int32) 4 rfl) (by decide))
                have uh_1411 := h_1411.1
                have vh_1411 := h_1411.2
                have tx_1410 : (x_1410).toInt = (a0).toInt + 4 := by rw [ex_1410]; exact i_add_rg (a2 := (a0).toInt) (b2 := 4) rfl rfl h_1 (rg_k (4 : Int32) 4 rfl) (by decide)
                refine pl_i hx hb hK hP hL_this_a hK_this_a hN_this_a (rg_in h_1411 (by decide)) dX12_keys_86 ?_
                refine lv_topi (fun x_1412 ex_1412 => ?_)
                have ex_1412 : x_1412 = ri_1097 this_a (x_1410).toNatClampNeg := ex_1412
                have h_1413 : rg x_1412 0 4 := rg_of_eq ex_1412 (GM.z hG (by rw [hT_this_a]; decide) (zn_tc (t := (ri this_a 6).toNatClampNeg) (c := (I 397 this).toNatClampNeg) (k := 4) (by have z_i := clampE x_1410; have z_0 := clampE (ri this_a 6); have z_1 := clampE (I 397 this); omega) (rg_cl1 ⟨hc.2.2.2.1, hc.2.2.2.2⟩ (by decide)) (rg_cl1 ⟨hc.2.1, hc.2.2.1⟩ (by decide)) (by decide)) rfl)
                have uh_1413 := h_1413.1
                have vh_1413 := h_1413.2
                have h_1414 : rg x_1412 0 3 := hk5.elim
                have uh_1414 := h_1414.1
                have vh_1414 := h_1414.2
                refine lv_iadd hx hb dX12_keys_87 ?_
                refine lv_topi (fun x_1415 ex_1415 => ?_)
                have h_1416 : rg x_1415 3726 12057 := rg_of_eq ex_1415 (rg_add h_1409 h_1414 (by decide))
                have uh_1416 := h_1416.1
                have vh_1416 := h_1416.2
                have tx_1415 : (x_1415).toInt = (x_1408).toInt + (x_1412).toInt := by rw [ex_1415]; exact i_add_rg (a2 := (x_1408).toInt) (b2 := (x_1412).toInt) rfl rfl h_1409 h_1414 (by decide)
                refine lv_iload_n hx hb dX12_keys_88 rfl (lv_at hl 0 rfl) ?_
                refine lv_if_eq (tgt := 101) hx hb dX12_keys_89 (by decide) (fun c_1417 => ?_) (fun c_1417 => absurd c_1417 (by decide))
                refine lv_aload_n hx hb dX12_keys_101 rfl (lv_at hl 1 rfl) ?_
                refine pk_i (va_runV (As := []) (rest := [.int x_1415, .ref this_a]) ⟨hx, hb, hml, hown, hts⟩ (s_X12_nameOf_d l D t σ I_1095 J_1096 ri_1097 rj rq H.size tg hSH hG.1 this hL_this hK_this) (cwV 0 hts (tw_V tw_921 tw_922 tw_923 tw_5 tw_924) rfl rfl rfl cv_yX12_nameOf_0 ⟨Nat.le_of_ble_eq_true rfl, Nat.le_of_ble_eq_true rfl⟩) ⟨pq_blind, pq_recv hK hP hL_this hK_this (by decide) rfl, pq_pre hK hN hP hD⟩ rfl rfl hl.1 rfl (lv_room (Nat.le_of_ble_eq_true rfl)) dX12_keys_102 ⟨Nat.le_of_ble_eq_true rfl, Nat.le_of_ble_eq_true rfl⟩) hD hS hA (fun x_1418 σ1 μ1 H locs hw_1419 hP hD hS => ?_)
                obtain ⟨hu_1420, hp_1423, hr_1422⟩ := hw_1419
                obtain ⟨hu_1420a, hu_1420b⟩ := Prod.mk.inj hu_1420
                rw [hu_1420a, hu_1420b] at hP hD
                refine pt_i hx hb hK hP hD hS hL_this_a hK_this_a hN_this_a (rg_in h_1416 (by decide)) dX12_keys_105 (fun r_1424 H locs er_1424 hP hD hS => ?_)
                have hk4 : 0 ≤ (x_1412).toInt ∧ (x_1412).toInt ≤ 3 := ⟨by omega, by omega⟩
                have hG := GM.wth hG hT_this_a (by decide) er_1424 (I 397 this).toNatClampNeg (by omega) (n := (ri this_a 6).toNatClampNeg) (by omega) (k := 5 + (x_1412).toNatClampNeg) (by have z_i := clampE x_1415; have z_k := clampE x_1412; omega) (by have z_k := clampE x_1412; omega) (by have z6 := congrArg Int32.toInt (hG.2.2.1 this_a hT_this_a 6 (by decide) (by decide)); have z_i := clampE x_1415; omega) (by decide)
                refine lv_aload_n hx hb dX12_keys_106 rfl (lv_at hl 1 rfl) ?_
                refine pg_f (v := .ref this_a) (C := RX12) (T := TX12) (N := 31) hx hb hts (tw_i inlX12) hown hK hP hL_this hK_this (by decide) rfl 0 (by decide) (hts _ (tw_c tw_176)) (pq_hv rfl hR_this_a) dX12_keys_107 ?_
                refine lv_iload_n hx hb dX12_keys_110 rfl (lv_at hl 2 rfl) ?_
                refine lv_iconst (v := 4) hx hb dX12_keys_111 (by decide) ?_
                refine lv_iadd hx hb dX12_keys_112 ?_
                refine lv_topi (fun x_1425 ex_1425 => ?_)
                have h_1426 : rg x_1425 3725 12053 := rg_of_eq ex_1425 (rg_add h_1 (rg_k (4 : Int32) 4 rfl) (by decide))
                have uh_1426 := h_1426.1
                have vh_1426 := h_1426.2
                have tx_1425 : (x_1425).toInt = (a0).toInt + 4 := by rw [ex_1425]; exact i_add_rg (a2 := (a0).toInt) (b2 := 4) rfl rfl h_1 (rg_k (4 : Int32) 4 rfl) (by decide)
                refine lv_dup2_11 hx hb dX12_keys_113 rfl rfl ?_
                refine pl_i hx hb hK hP hL_this_a hK_this_a hN_this_a (rg_in h_1426 (by decide)) dX12_keys_114 ?_
                refine lv_topi (fun x_1427 ex_1427 => ?_)
                have ex_1427 : x_1427 = r_1424 this_a (x_1425).toNatClampNeg := ex_1427
                have h_1428 : rg x_1427 0 4 := rg_of_eq ex_1427 (GM.z hG (by rw [hT_this_a]; decide) (zn_tc (t := (ri this_a 6).toNatClampNeg) (c := (I 397 this).toNatClampNeg) (k := 4) (by have z_i := clampE x_1425; have z_0 := clampE (ri this_a 6); have z_1 := clampE (I 397 this); omega) (rg_cl1 ⟨hc.2.2.2.1, hc.2.2.2.2⟩ (by decide)) (rg_cl1 ⟨hc.2.1, hc.2.2.1⟩ (by decide)) (by decide)) rfl)
                have uh_1428 := h_1428.1
                have vh_1428 := h_1428.2
                have hkz : (x_1427).toInt = (x_1412).toInt := by rw [show x_1427 = x_1412 from by rw [ex_1427, er_1424, va_up_self, upd_off (by have z0 := clampE x_1425; have z1 := clampE x_1415; have z2 := clampE x_1412; omega), ex_1412]; exact congrArg (ri_1097 this_a) (by have z0 := clampE x_1425; have z1 := clampE x_1410; omega)]
                have h_1429 : rg x_1427 0 3 := ⟨by omega, by omega⟩
                have uh_1429 := h_1429.1
                have vh_1429 := h_1429.2
                refine lv_iconst (v := 1) hx hb dX12_keys_115 (by decide) ?_
                refine lv_iadd hx hb dX12_keys_116 ?_
                refine lv_topi (fun x_1430 ex_1430 => ?_)
                have h_1431 : rg x_1430 1 4 := rg_of_eq ex_1430 (rg_add h_1429 (rg_k (1 : Int32) 1 rfl) (by decide))
                have uh_1431 := h_1431.1
                have vh_1431 := h_1431.2
                have tx_1430 : (x_1430).toInt = (x_1427).toInt + 1 := by rw [ex_1430]; exact i_add_rg (a2 := (x_1427).toInt) (b2 := 1) rfl rfl h_1429 (rg_k (1 : Int32) 1 rfl) (by decide)
                refine pt_i hx hb hK hP hD hS hL_this_a hK_this_a hN_this_a (rg_in h_1426 (by decide)) dX12_keys_117 (fun r_1432 H locs er_1432 hP hD hS => ?_)
                have hG := GM.wt hG hT_this_a (by decide) er_1432 (zn_tc (t := (ri this_a 6).toNatClampNeg) (c := (I 397 this).toNatClampNeg) (k := 4) (by have z_i := clampE x_1425; have z_0 := clampE (ri this_a 6); have z_1 := clampE (I 397 this); omega) (rg_cl1 ⟨hc.2.2.2.1, hc.2.2.2.2⟩ (by decide)) (rg_cl1 ⟨hc.2.1, hc.2.2.1⟩ (by decide)) (by decide)) rfl (rg_w h_1431 (by decide)) (by have z6 := congrArg Int32.toInt (hG.2.2.1 this_a hT_this_a 6 (by decide) (by decide)); have z_i := clampE x_1425; omega) (by decide)
                refine lv_aload_n hx hb dX12_keys_118 rfl (lv_at hl 1 rfl) ?_
                have hkn_1433 : (I_1095 393 this).toInt ≠ 0 := fun q => absurd (q.symm.trans (hp_1404.1 (by omega)).1) (by decide)
                obtain ⟨w_1434, hR_w_1434, hL_w_1434, hK_w_1434, hN_w_1434, hT_w_1434⟩ := sh_a hSH 387 (ci := 12) (kd := 13) (len := 300) rfl (by decide) hL_this hK_this
                refine pk_v (va_runV (As := []) (rest := []) ⟨hx, hb, hml, hown, hts⟩ (s_X12_nextToken_x l D t σ I_1095 J_1096 r_1432 rj rq H.size tg hSH hG.1 this hL_this hK_this w_1434 hR_w_1434 hL_w_1434 hK_w_1434 hN_w_1434 hT_w_1434) (cwV 0 hts (tw_V tw_832 tw_833 tw_834 tw_5 tw_835) rfl rfl rfl cv_yX12_nextToken_0 ⟨Nat.le_of_ble_eq_true rfl, Nat.le_of_ble_eq_true rfl⟩) ⟨pq_blind, pq_recv hK hP hL_this hK_this (by decide) rfl, pq_pre hK hN hP hD⟩ rfl rfl hl.1 rfl (lv_room (Nat.le_of_ble_eq_true rfl)) dX12_keys_119 ⟨Nat.le_of_ble_eq_true rfl, Nat.le_of_ble_eq_true rfl⟩) hD hS hA (fun σ1 μ1 H locs hw_1436 hP hD hS => ?_)
                obtain ⟨I_1437, J_1438, hu_1439, hg_1440, hp_1442, hp_1443, hp_1444⟩ := hw_1436
                obtain ⟨hu_1439a, hu_1439b⟩ := Prod.mk.inj hu_1439
                rw [hu_1439a, hu_1439b] at hP hD
                have tt_1445 : (I_1437 391 this).toInt ≤ 300 := by have z := hg_1440.1.1 391 this; exact z.2
                have hG := GM.tr hG hg_1440 (by decide)
                have tt_1446 : (I_1437 397 this).toInt = (I_1095 397 this).toInt := by rw [hg_1440.2.1 397 (by decide) (by decide)]
                refine lv_aload_n hx hb dX12_keys_122 rfl (lv_at hl 1 rfl) ?_
                refine pg_f (v := .int (I_1437 393 this)) (C := RX12) (T := TX12) (N := 31) hx hb hts (tw_i inlX12) hown hK hP hL_this hK_this (by decide) rfl 9 (by decide) (hts _ (tw_c tw_831)) rfl dX12_keys_123 ?_
                refine lv_bipush (v := 44) hx hb dX12_keys_126 (by decide) ?_
                refine lv_icmp_ne (tgt := 135) hx hb dX12_keys_128 (by decide) (fun c_1447 => ?_) (fun c_1447 => ?_)
                · have tc_1448 : (I_1437 393 this).toInt ≠ 44 := fun q => c_1447 (Int32.toInt_inj.mp q)
                  refine lv_iconst (v := 0) hx hb dX12_keys_135 (by decide) ?_
                  refine lv_istore_n (lv' := [(2, .int 0), (3, .int 0), (0, .ref this), (1, .int a0)]) hx hb dX12_keys_136 rfl hl (by decide) rfl (fun ls hl => ?_)
                  refine lv_iload_n hx hb dX12_keys_137 rfl (lv_at hl 0 rfl) ?_
                  refine lv_if_eq (tgt := 145) hx hb dX12_keys_138 (by decide) (fun c_1449 => ?_) (fun c_1449 => absurd c_1449 (by decide))
                  refine lv_goto (tgt := 11) hx hb dX12_keys_145 (by decide) ?_
                  exact ih_1372 (0 : Int32) I_1437 J_1438 r_1432 _ _ _ (rg_w (rg_k (0 : Int32) 0 rfl) (by decide)) (by have k0 : (0 : Int32).toInt = 0 := rfl; omega) (fun j hj => by rw [er_1432, va_up_self, upd_off (by have z0 := clampE x_1425; omega)]; exact (show ∀ j : Nat, (j : Int) < a0.toInt + 4 ∨ a0.toInt + 12 ≤ (j : Int) → r_1424 this_a j = ri this_a j from (fun j hj => by rw [er_1424, va_up_self, upd_off (by have z0 := clampE x_1415; omega)]; exact (show ∀ j : Nat, (j : Int) < a0.toInt + 4 ∨ a0.toInt + 12 ≤ (j : Int) → ri_1097 this_a j = ri this_a j from hrel_1379) j hj)) j hj) (Int.le_of_lt (Int.lt_of_lt_of_le (tm_lt hkn_1433 hp_1442 hp_1443) hrel_1380)) (tm_ms hm_1369 (tm_lt hkn_1433 hp_1442 hp_1443) (tm_b ((hG.1.1 391 this).2))) hG hP hD hS (lv_sub hl [2, 3, 0] rfl)
                · have tc_1450 : (I_1437 393 this).toInt = 44 := congrArg Int32.toInt c_1447
                  have h_1451 : rg (I_1437 393 this) 44 44 := rg_and (rg_full _) (rg_of_eq c_1447 (rg_k (44 : Int32) 44 rfl)) (by decide)
                  have uh_1451 := h_1451.1
                  have vh_1451 := h_1451.2
                  refine lv_iconst (v := 1) hx hb dX12_keys_131 (by decide) ?_
                  refine lv_goto (tgt := 136) hx hb dX12_keys_132 (by decide) ?_
                  refine lv_istore_n (lv' := [(2, .int 1), (3, .int 0), (0, .ref this), (1, .int a0)]) hx hb dX12_keys_136 rfl hl (by decide) rfl (fun ls hl => ?_)
                  refine lv_iload_n hx hb dX12_keys_137 rfl (lv_at hl 0 rfl) ?_
                  refine lv_if_eq (tgt := 145) hx hb dX12_keys_138 (by decide) (fun c_1452 => absurd c_1452 (by decide)) (fun c_1452 => ?_)
                  refine lv_aload_n hx hb dX12_keys_141 rfl (lv_at hl 2 rfl) ?_
                  have hkn_1453 : (I_1437 393 this).toInt ≠ 0 := by omega
                  refine pk_v (va_runV (As := []) (rest := []) ⟨hx, hb, hml, hown, hts⟩ (s_X12_nextToken_x l D t σ I_1437 J_1438 r_1432 rj rq H.size tg hSH hG.1 this hL_this hK_this w_1434 hR_w_1434 hL_w_1434 hK_w_1434 hN_w_1434 hT_w_1434) (cwV 0 hts (tw_V tw_832 tw_833 tw_834 tw_5 tw_835) rfl rfl rfl cv_yX12_nextToken_0 ⟨Nat.le_of_ble_eq_true rfl, Nat.le_of_ble_eq_true rfl⟩) ⟨pq_blind, pq_recv hK hP hL_this hK_this (by decide) rfl, pq_pre hK hN hP hD⟩ rfl rfl hl.1 rfl (lv_room (Nat.le_of_ble_eq_true rfl)) dX12_keys_142 ⟨Nat.le_of_ble_eq_true rfl, Nat.le_of_ble_eq_true rfl⟩) hD hS hA (fun σ1 μ1 H locs hw_1455 hP hD hS => ?_)
                  obtain ⟨I_1456, J_1457, hu_1458, hg_1459, hp_1461, hp_1462, hp_1463⟩ := hw_1455
                  obtain ⟨hu_1458a, hu_1458b⟩ := Prod.mk.inj hu_1458
                  rw [hu_1458a, hu_1458b] at hP hD
                  have tt_1464 : (I_1456 391 this).toInt ≤ 300 := by have z := hg_1459.1.1 391 this; exact z.2
                  have hG := GM.tr hG hg_1459 (by decide)
                  have tt_1465 : (I_1456 397 this).toInt = (I_1437 397 this).toInt := by rw [hg_1459.2.1 397 (by decide) (by decide)]
                  refine lv_goto (tgt := 11) hx hb dX12_keys_145 (by decide) ?_
                  exact ih_1372 (1 : Int32) I_1456 J_1457 r_1432 _ _ _ (rg_w (rg_k (1 : Int32) 1 rfl) (by decide)) (by have k0 : (1 : Int32).toInt = 1 := rfl; omega) (fun j hj => by rw [er_1432, va_up_self, upd_off (by have z0 := clampE x_1425; omega)]; exact (show ∀ j : Nat, (j : Int) < a0.toInt + 4 ∨ a0.toInt + 12 ≤ (j : Int) → r_1424 this_a j = ri this_a j from (fun j hj => by rw [er_1424, va_up_self, upd_off (by have z0 := clampE x_1415; omega)]; exact (show ∀ j : Nat, (j : Int) < a0.toInt + 4 ∨ a0.toInt + 12 ≤ (j : Int) → ri_1097 this_a j = ri this_a j from hrel_1379) j hj)) j hj) (Int.le_of_lt (Int.lt_of_lt_of_le (Int.lt_trans (tm_lt hkn_1453 hp_1461 hp_1462) (tm_lt hkn_1433 hp_1442 hp_1443)) hrel_1380)) (tm_ms hm_1369 (Int.lt_trans (tm_lt hkn_1453 hp_1461 hp_1462) (tm_lt hkn_1433 hp_1442 hp_1443)) (tm_b ((hG.1.1 391 this).2))) hG hP hD hS (lv_sub hl [2, 3, 0] rfl)
              · have tc_1466 : (x_1399).toInt < 0 := Int32.lt_iff_toInt_lt.mp (nle c_1405)
                have h_1467 : rg x_1399 (-1) (-1) := rg_lt1 (nle c_1405) hr_1403 (rg_k (0 : Int32) 0 rfl) (by decide)
                have uh_1467 := h_1467.1
                have vh_1467 := h_1467.2
                refine lv_iconst (v := 1) hx hb dX12_keys_70 (by decide) ?_
                subst hQ
                exact W.iret (v := 1) hx hb hr (fun t1 ht hW => ⟨⟨1, (σ, I_1095, J_1096, ri_1097, rj, rq), rfl, ⟨I_1095, J_1096, ri_1097, rfl, hG, (by omega), hrel_1379, hrel_1380, (rg_w (rg_k (1 : Int32) 1 rfl) (by decide))⟩, by rw [ht]; exact hP, va_K.moved hW.alike hK, hD⟩, hS.F ht⟩) hS.2.2 dX12_keys_71
            · have tc_1468 : 0 ≤ (x_1389).toInt := Int32.le_iff_toInt_le.mp (nlt c_1395)
              have h_1469 : rg x_1389 0 5 := rg_le2 (nlt c_1395) (rg_k (0 : Int32) 0 rfl) hr_1393 (by decide)
              have uh_1469 := h_1469.1
              have vh_1469 := h_1469.2
              refine lv_aload_n hx hb dX12_keys_41 rfl (lv_at hl 1 rfl) ?_
              refine pg_f (v := .ref this_a) (C := RX12) (T := TX12) (N := 31) hx hb hts (tw_i inlX12) hown hK hP hL_this hK_this (by decide) rfl 0 (by decide) (hts _ (tw_c tw_176)) (pq_hv rfl hR_this_a) dX12_keys_42 ?_
              refine lv_iload_n hx hb dX12_keys_45 rfl (lv_at hl 2 rfl) ?_
              refine lv_iconst (v := 4) hx hb dX12_keys_46 (by decide) ?_
              refine lv_iadd hx hb dX12_keys_47 ?_
              refine lv_topi (fun x_1470 ex_1470 => ?_)
              have h_1471 : rg x_1470 3725 12053 := rg_of_eq ex_1470 (rg_add h_1 (rg_k (4 : Int32) 4 rfl) (by decide))
              have uh_1471 := h_1471.1
              have vh_1471 := h_1471.2
              have tx_1470 : (x_1470).toInt = (a0).toInt + 4 := by rw [ex_1470]; exact i_add_rg (a2 := (a0).toInt) (b2 := 4) rfl rfl h_1 (rg_k (4 : Int32) 4 rfl) (by decide)
              refine pl_i hx hb hK hP hL_this_a hK_this_a hN_this_a (rg_in h_1471 (by decide)) dX12_keys_48 ?_
              refine lv_topi (fun x_1472 ex_1472 => ?_)
              have ex_1472 : x_1472 = ri_1097 this_a (x_1470).toNatClampNeg := ex_1472
              have h_1473 : rg x_1472 0 4 := rg_of_eq ex_1472 (GM.z hG (by rw [hT_this_a]; decide) (zn_tc (t := (ri this_a 6).toNatClampNeg) (c := (I 397 this).toNatClampNeg) (k := 4) (by have z_i := clampE x_1470; have z_0 := clampE (ri this_a 6); have z_1 := clampE (I 397 this); omega) (rg_cl1 ⟨hc.2.2.2.1, hc.2.2.2.2⟩ (by decide)) (rg_cl1 ⟨hc.2.1, hc.2.2.1⟩ (by decide)) (by decide)) rfl)
              have uh_1473 := h_1473.1
              have vh_1473 := h_1473.2
              refine lv_iconst (v := 4) hx hb dX12_keys_49 (by decide) ?_
              refine lv_icmp_ne (tgt := 55) hx hb dX12_keys_50 (by decide) (fun c_1474 => ?_) (fun c_1474 => ?_)
              · have tc_1475 : (x_1472).toInt ≠ 4 := fun q => c_1474 (Int32.toInt_inj.mp q)
                have h_1476 : rg x_1472 0 3 := rg_ne c_1474 h_1473 4 rfl (by decide)
                have uh_1476 := h_1476.1
                have vh_1476 := h_1476.2
                refine lv_iload_n hx hb dX12_keys_55 rfl (lv_at hl 0 rfl) ?_
                refine lv_if_eq (tgt := 63) hx hb dX12_keys_56 (by decide) (fun c_1477 => ?_) (fun c_1477 => absurd c_1477 (by decide))
                refine lv_aload_n hx hb dX12_keys_63 rfl (lv_at hl 1 rfl) ?_
                refine pk_i (va_runV (As := []) (rest := []) ⟨hx, hb, hml, hown, hts⟩ (s_X12_nameOf_d l D t σ I_1095 J_1096 ri_1097 rj rq H.size tg hSH hG.1 this hL_this hK_this) (cwV 0 hts (tw_V tw_921 tw_922 tw_923 tw_5 tw_924) rfl rfl rfl cv_yX12_nameOf_0 ⟨Nat.le_of_ble_eq_true rfl, Nat.le_of_ble_eq_true rfl⟩) ⟨pq_blind, pq_recv hK hP hL_this hK_this (by decide) rfl, pq_pre hK hN hP hD⟩ rfl rfl hl.1 rfl (lv_room (Nat.le_of_ble_eq_true rfl)) dX12_keys_64 ⟨Nat.le_of_ble_eq_true rfl, Nat.le_of_ble_eq_true rfl⟩) hD hS hA (fun x_1478 σ1 μ1 H locs hw_1479 hP hD hS => ?_)
                obtain ⟨hu_1480, hp_1483, hr_1482⟩ := hw_1479
                obtain ⟨hu_1480a, hu_1480b⟩ := Prod.mk.inj hu_1480
                rw [hu_1480a, hu_1480b] at hP hD
                refine lv_if_ge (tgt := 72) hx hb dX12_keys_67 (by decide) (fun c_1484 => ?_) (fun c_1484 => ?_)
                · have tc_1485 : 0 ≤ (x_1478).toInt := Int32.le_iff_toInt_le.mp c_1484
                  have h_1486 : rg x_1478 0 5 := rg_le2 c_1484 (rg_k (0 : Int32) 0 rfl) hr_1482 (by decide)
                  have uh_1486 := h_1486.1
                  have vh_1486 := h_1486.2
                  refine lv_aload_n hx hb dX12_keys_72 rfl (lv_at hl 1 rfl) ?_
                  refine pg_f (v := .ref this_a) (C := RX12) (T := TX12) (N := 31) hx hb hts (tw_i inlX12) hown hK hP hL_this hK_this (by decide) rfl 0 (by decide) (hts _ (tw_c tw_176)) (pq_hv rfl hR_this_a) dX12_keys_73 ?_
                  refine lv_iload_n hx hb dX12_keys_76 rfl (lv_at hl 2 rfl) ?_
                  refine lv_iconst (v := 5) hx hb dX12_keys_77 (by decide) ?_
                  refine lv_iadd hx hb dX12_keys_78 ?_
                  refine lv_topi (fun x_1487 ex_1487 => ?_)
                  have h_1488 : rg x_1487 3726 12054 := rg_of_eq ex_1487 (rg_add h_1 (rg_k (5 : Int32) 5 rfl) (by decide))
                  have uh_1488 := h_1488.1
                  have vh_1488 := h_1488.2
                  have tx_1487 : (x_1487).toInt = (a0).toInt + 5 := by rw [ex_1487]; exact i_add_rg (a2 := (a0).toInt) (b2 := 5) rfl rfl h_1 (rg_k (5 : Int32) 5 rfl) (by decide)
                  refine lv_aload_n hx hb dX12_keys_79 rfl (lv_at hl 1 rfl) ?_
                  refine pg_f (v := .ref this_a) (C := RX12) (T := TX12) (N := 31) hx hb hts (tw_i inlX12) hown hK hP hL_this hK_this (by decide) rfl 0 (by decide) (hts _ (tw_c tw_176)) (pq_hv rfl hR_this_a) dX12_keys_80 ?_
                  refine lv_iload_n hx hb dX12_keys_83 rfl (lv_at hl 2 rfl) ?_
                  refine lv_iconst (v := 4) hx hb dX12_keys_84 (by decide) ?_
                  refine lv_iadd hx hb dX12_keys_85 ?_
                  refine lv_topi (fun x_1489 ex_1489 => ?_)
                  have h_1490 : rg x_1489 3725 12053 := rg_of_eq ex_1489 (rg_add h_1 (rg_k (4 : Int32) 4 rfl) (by decide))
                  have uh_1490 := h_1490.1
                  have vh_1490 := h_1490.2
                  have tx_1489 : (x_1489).toInt = (a0).toInt + 4 := by rw [ex_1489]; exact i_add_rg (a2 := (a0).toInt) (b2 := 4) rfl rfl h_1 (rg_k (4 : Int32) 4 rfl) (by decide)
                  refine pl_i hx hb hK hP hL_this_a hK_this_a hN_this_a (rg_in h_1490 (by decide)) dX12_keys_86 ?_
                  refine lv_topi (fun x_1491 ex_1491 => ?_)
                  have ex_1491 : x_1491 = ri_1097 this_a (x_1489).toNatClampNeg := ex_1491
                  have h_1492 : rg x_1491 0 4 := rg_of_eq ex_1491 (GM.z hG (by rw [hT_this_a]; decide) (zn_tc (t := (ri this_a 6).toNatClampNeg) (c := (I 397 this).toNatClampNeg) (k := 4) (by have z_i := clampE x_1489; have z_0 := clampE (ri this_a 6); have z_1 := clampE (I 397 this); omega) (rg_cl1 ⟨hc.2.2.2.1, hc.2.2.2.2⟩ (by decide)) (rg_cl1 ⟨hc.2.1, hc.2.2.1⟩ (by decide)) (by decide)) rfl)
                  have uh_1492 := h_1492.1
                  have vh_1492 := h_1492.2
                  have hzz : (x_1491).toInt = (x_1472).toInt := congrArg Int32.toInt (show x_1491 = x_1472 from by rw [show x_1491 = _ from ex_1491, show x_1472 = _ from ex_1472]; exact congrArg (ri_1097 this_a) (by have z0 := clampE x_1489; have z1 := clampE x_1470; omega))
                  have h_1493 : rg x_1472 0 3 := ⟨by omega, by omega⟩
                  have uh_1493 := h_1493.1
                  have vh_1493 := h_1493.2
                  have h_1494 : rg x_1491 0 3 := ⟨by omega, by omega⟩
                  have uh_1494 := h_1494.1
                  have vh_1494 := h_1494.2
                  refine lv_iadd hx hb dX12_keys_87 ?_
                  refine lv_topi (fun x_1495 ex_1495 => ?_)
                  have h_1496 : rg x_1495 3726 12057 := rg_of_eq ex_1495 (rg_add h_1488 h_1494 (by decide))
                  have uh_1496 := h_1496.1
                  have vh_1496 := h_1496.2
                  have tx_1495 : (x_1495).toInt = (x_1487).toInt + (x_1491).toInt := by rw [ex_1495]; exact i_add_rg (a2 := (x_1487).toInt) (b2 := (x_1491).toInt) rfl rfl h_1488 h_1494 (by decide)
                  refine lv_iload_n hx hb dX12_keys_88 rfl (lv_at hl 0 rfl) ?_
                  refine lv_if_eq (tgt := 101) hx hb dX12_keys_89 (by decide) (fun c_1497 => ?_) (fun c_1497 => absurd c_1497 (by decide))
                  refine lv_aload_n hx hb dX12_keys_101 rfl (lv_at hl 1 rfl) ?_
                  refine pk_i (va_runV (As := []) (rest := [.int x_1495, .ref this_a]) ⟨hx, hb, hml, hown, hts⟩ (s_X12_nameOf_d l D t σ I_1095 J_1096 ri_1097 rj rq H.size tg hSH hG.1 this hL_this hK_this) (cwV 0 hts (tw_V tw_921 tw_922 tw_923 tw_5 tw_924) rfl rfl rfl cv_yX12_nameOf_0 ⟨Nat.le_of_ble_eq_true rfl, Nat.le_of_ble_eq_true rfl⟩) ⟨pq_blind, pq_recv hK hP hL_this hK_this (by decide) rfl, pq_pre hK hN hP hD⟩ rfl rfl hl.1 rfl (lv_room (Nat.le_of_ble_eq_true rfl)) dX12_keys_102 ⟨Nat.le_of_ble_eq_true rfl, Nat.le_of_ble_eq_true rfl⟩) hD hS hA (fun x_1498 σ1 μ1 H locs hw_1499 hP hD hS => ?_)
                  obtain ⟨hu_1500, hp_1503, hr_1502⟩ := hw_1499
                  obtain ⟨hu_1500a, hu_1500b⟩ := Prod.mk.inj hu_1500
                  rw [hu_1500a, hu_1500b] at hP hD
                  refine pt_i hx hb hK hP hD hS hL_this_a hK_this_a hN_this_a (rg_in h_1496 (by decide)) dX12_keys_105 (fun r_1504 H locs er_1504 hP hD hS => ?_)
                  have hk4 : 0 ≤ (x_1491).toInt ∧ (x_1491).toInt ≤ 3 := ⟨by omega, by omega⟩
                  have hG := GM.wth hG hT_this_a (by decide) er_1504 (I 397 this).toNatClampNeg (by omega) (n := (ri this_a 6).toNatClampNeg) (by omega) (k := 5 + (x_1491).toNatClampNeg) (by have z_i := clampE x_1495; have z_k := clampE x_1491; omega) (by have z_k := clampE x_1491; omega) (by have z6 := congrArg Int32.toInt (hG.2.2.1 this_a hT_this_a 6 (by decide) (by decide)); have z_i := clampE x_1495; omega) (by decide)
                  refine lv_aload_n hx hb dX12_keys_106 rfl (lv_at hl 1 rfl) ?_
                  refine pg_f (v := .ref this_a) (C := RX12) (T := TX12) (N := 31) hx hb hts (tw_i inlX12) hown hK hP hL_this hK_this (by decide) rfl 0 (by decide) (hts _ (tw_c tw_176)) (pq_hv rfl hR_this_a) dX12_keys_107 ?_
                  refine lv_iload_n hx hb dX12_keys_110 rfl (lv_at hl 2 rfl) ?_
                  refine lv_iconst (v := 4) hx hb dX12_keys_111 (by decide) ?_
                  refine lv_iadd hx hb dX12_keys_112 ?_
                  refine lv_topi (fun x_1505 ex_1505 => ?_)
                  have h_1506 : rg x_1505 3725 12053 := rg_of_eq ex_1505 (rg_add h_1 (rg_k (4 : Int32) 4 rfl) (by decide))
                  have uh_1506 := h_1506.1
                  have vh_1506 := h_1506.2
                  have tx_1505 : (x_1505).toInt = (a0).toInt + 4 := by rw [ex_1505]; exact i_add_rg (a2 := (a0).toInt) (b2 := 4) rfl rfl h_1 (rg_k (4 : Int32) 4 rfl) (by decide)
                  refine lv_dup2_11 hx hb dX12_keys_113 rfl rfl ?_
                  refine pl_i hx hb hK hP hL_this_a hK_this_a hN_this_a (rg_in h_1506 (by decide)) dX12_keys_114 ?_
                  refine lv_topi (fun x_1507 ex_1507 => ?_)
                  have ex_1507 : x_1507 = r_1504 this_a (x_1505).toNatClampNeg := ex_1507
                  have h_1508 : rg x_1507 0 4 := rg_of_eq ex_1507 (GM.z hG (by rw [hT_this_a]; decide) (zn_tc (t := (ri this_a 6).toNatClampNeg) (c := (I 397 this).toNatClampNeg) (k := 4) (by have z_i := clampE x_1505; have z_0 := clampE (ri this_a 6); have z_1 := clampE (I 397 this); omega) (rg_cl1 ⟨hc.2.2.2.1, hc.2.2.2.2⟩ (by decide)) (rg_cl1 ⟨hc.2.1, hc.2.2.1⟩ (by decide)) (by decide)) rfl)
                  have uh_1508 := h_1508.1
                  have vh_1508 := h_1508.2
                  have hkz : (x_1507).toInt = (x_1491).toInt := by rw [show x_1507 = x_1491 from by rw [ex_1507, er_1504, va_up_self, upd_off (by have z0 := clampE x_1505; have z1 := clampE x_1495; have z2 := clampE x_1491; omega), ex_1491]; exact congrArg (ri_1097 this_a) (by have z0 := clampE x_1505; have z1 := clampE x_1489; omega)]
                  have h_1509 : rg x_1507 0 3 := ⟨by omega, by omega⟩
                  have uh_1509 := h_1509.1
                  have vh_1509 := h_1509.2
                  refine lv_iconst (v := 1) hx hb dX12_keys_115 (by decide) ?_
                  refine lv_iadd hx hb dX12_keys_116 ?_
                  refine lv_topi (fun x_1510 ex_1510 => ?_)
                  have h_1511 : rg x_1510 1 4 := rg_of_eq ex_1510 (rg_add h_1509 (rg_k (1 : Int32) 1 rfl) (by decide))
                  have uh_1511 := h_1511.1
                  have vh_1511 := h_1511.2
                  have tx_1510 : (x_1510).toInt = (x_1507).toInt + 1 := by rw [ex_1510]; exact i_add_rg (a2 := (x_1507).toInt) (b2 := 1) rfl rfl h_1509 (rg_k (1 : Int32) 1 rfl) (by decide)
                  refine pt_i hx hb hK hP hD hS hL_this_a hK_this_a hN_this_a (rg_in h_1506 (by decide)) dX12_keys_117 (fun r_1512 H locs er_1512 hP hD hS => ?_)
                  have hG := GM.wt hG hT_this_a (by decide) er_1512 (zn_tc (t := (ri this_a 6).toNatClampNeg) (c := (I 397 this).toNatClampNeg) (k := 4) (by have z_i := clampE x_1505; have z_0 := clampE (ri this_a 6); have z_1 := clampE (I 397 this); omega) (rg_cl1 ⟨hc.2.2.2.1, hc.2.2.2.2⟩ (by decide)) (rg_cl1 ⟨hc.2.1, hc.2.2.1⟩ (by decide)) (by decide)) rfl (rg_w h_1511 (by decide)) (by have z6 := congrArg Int32.toInt (hG.2.2.1 this_a hT_this_a 6 (by decide) (by decide)); have z_i := clampE x_1505; omega) (by decide)
                  refine lv_aload_n hx hb dX12_keys_118 rfl (lv_at hl 1 rfl) ?_
                  have hkn_1513 : (I_1095 393 this).toInt ≠ 0 := fun q => absurd (q.symm.trans (hp_1483.1 (by omega)).1) (by decide)
                  obtain ⟨w_1514, hR_w_1514, hL_w_1514, hK_w_1514, hN_w_1514, hT_w_1514⟩ := sh_a hSH 387 (ci := 12) (kd := 13) (len := 300) rfl (by decide) hL_this hK_this
                  refine pk_v (va_runV (As := []) (rest := []) ⟨hx, hb, hml, hown, hts⟩ (s_X12_nextToken_x l D t σ I_1095 J_1096 r_1512 rj rq H.size tg hSH hG.1 this hL_this hK_this w_1514 hR_w_1514 hL_w_1514 hK_w_1514 hN_w_1514 hT_w_1514) (cwV 0 hts (tw_V tw_832 tw_833 tw_834 tw_5 tw_835) rfl rfl rfl cv_yX12_nextToken_0 ⟨Nat.le_of_ble_eq_true rfl, Nat.le_of_ble_eq_true rfl⟩) ⟨pq_blind, pq_recv hK hP hL_this hK_this (by decide) rfl, pq_pre hK hN hP hD⟩ rfl rfl hl.1 rfl (lv_room (Nat.le_of_ble_eq_true rfl)) dX12_keys_119 ⟨Nat.le_of_ble_eq_true rfl, Nat.le_of_ble_eq_true rfl⟩) hD hS hA (fun σ1 μ1 H locs hw_1516 hP hD hS => ?_)
                  obtain ⟨I_1517, J_1518, hu_1519, hg_1520, hp_1522, hp_1523, hp_1524⟩ := hw_1516
                  obtain ⟨hu_1519a, hu_1519b⟩ := Prod.mk.inj hu_1519
                  rw [hu_1519a, hu_1519b] at hP hD
                  have tt_1525 : (I_1517 391 this).toInt ≤ 300 := by have z := hg_1520.1.1 391 this; exact z.2
                  have hG := GM.tr hG hg_1520 (by decide)
                  have tt_1526 : (I_1517 397 this).toInt = (I_1095 397 this).toInt := by rw [hg_1520.2.1 397 (by decide) (by decide)]
                  refine lv_aload_n hx hb dX12_keys_122 rfl (lv_at hl 1 rfl) ?_
                  refine pg_f (v := .int (I_1517 393 this)) (C := RX12) (T := TX12) (N := 31) hx hb hts (tw_i inlX12) hown hK hP hL_this hK_this (by decide) rfl 9 (by decide) (hts _ (tw_c tw_831)) rfl dX12_keys_123 ?_
                  refine lv_bipush (v := 44) hx hb dX12_keys_126 (by decide) ?_
                  refine lv_icmp_ne (tgt := 135) hx hb dX12_keys_128 (by decide) (fun c_1527 => ?_) (fun c_1527 => ?_)
                  · have tc_1528 : (I_1517 393 this).toInt ≠ 44 := fun q => c_1527 (Int32.toInt_inj.mp q)
                    refine lv_iconst (v := 0) hx hb dX12_keys_135 (by decide) ?_
                    refine lv_istore_n (lv' := [(2, .int 0), (3, .int 0), (0, .ref this), (1, .int a0)]) hx hb dX12_keys_136 rfl hl (by decide) rfl (fun ls hl => ?_)
                    refine lv_iload_n hx hb dX12_keys_137 rfl (lv_at hl 0 rfl) ?_
                    refine lv_if_eq (tgt := 145) hx hb dX12_keys_138 (by decide) (fun c_1529 => ?_) (fun c_1529 => absurd c_1529 (by decide))
                    refine lv_goto (tgt := 11) hx hb dX12_keys_145 (by decide) ?_
                    exact ih_1372 (0 : Int32) I_1517 J_1518 r_1512 _ _ _ (rg_w (rg_k (0 : Int32) 0 rfl) (by decide)) (by have k0 : (0 : Int32).toInt = 0 := rfl; omega) (fun j hj => by rw [er_1512, va_up_self, upd_off (by have z0 := clampE x_1505; omega)]; exact (show ∀ j : Nat, (j : Int) < a0.toInt + 4 ∨ a0.toInt + 12 ≤ (j : Int) → r_1504 this_a j = ri this_a j from (fun j hj => by rw [er_1504, va_up_self, upd_off (by have z0 := clampE x_1495; omega)]; exact (show ∀ j : Nat, (j : Int) < a0.toInt + 4 ∨ a0.toInt + 12 ≤ (j : Int) → ri_1097 this_a j = ri this_a j from hrel_1379) j hj)) j hj) (Int.le_of_lt (Int.lt_of_lt_of_le (tm_lt hkn_1513 hp_1522 hp_1523) hrel_1380)) (tm_ms hm_1369 (tm_lt hkn_1513 hp_1522 hp_1523) (tm_b ((hG.1.1 391 this).2))) hG hP hD hS (lv_sub hl [2, 3, 0] rfl)
                  · have tc_1530 : (I_1517 393 this).toInt = 44 := congrArg Int32.toInt c_1527
                    have h_1531 : rg (I_1517 393 this) 44 44 := rg_and (rg_full _) (rg_of_eq c_1527 (rg_k (44 : Int32) 44 rfl)) (by decide)
                    have uh_1531 := h_1531.1
                    have vh_1531 := h_1531.2
                    refine lv_iconst (v := 1) hx hb dX12_keys_131 (by decide) ?_
                    refine lv_goto (tgt := 136) hx hb dX12_keys_132 (by decide) ?_
                    refine lv_istore_n (lv' := [(2, .int 1), (3, .int 0), (0, .ref this), (1, .int a0)]) hx hb dX12_keys_136 rfl hl (by decide) rfl (fun ls hl => ?_)
                    refine lv_iload_n hx hb dX12_keys_137 rfl (lv_at hl 0 rfl) ?_
                    refine lv_if_eq (tgt := 145) hx hb dX12_keys_138 (by decide) (fun c_1532 => absurd c_1532 (by decide)) (fun c_1532 => ?_)
                    refine lv_aload_n hx hb dX12_keys_141 rfl (lv_at hl 2 rfl) ?_
                    have hkn_1533 : (I_1517 393 this).toInt ≠ 0 := by omega
                    refine pk_v (va_runV (As := []) (rest := []) ⟨hx, hb, hml, hown, hts⟩ (s_X12_nextToken_x l D t σ I_1517 J_1518 r_1512 rj rq H.size tg hSH hG.1 this hL_this hK_this w_1514 hR_w_1514 hL_w_1514 hK_w_1514 hN_w_1514 hT_w_1514) (cwV 0 hts (tw_V tw_832 tw_833 tw_834 tw_5 tw_835) rfl rfl rfl cv_yX12_nextToken_0 ⟨Nat.le_of_ble_eq_true rfl, Nat.le_of_ble_eq_true rfl⟩) ⟨pq_blind, pq_recv hK hP hL_this hK_this (by decide) rfl, pq_pre hK hN hP hD⟩ rfl rfl hl.1 rfl (lv_room (Nat.le_of_ble_eq_true rfl)) dX12_keys_142 ⟨Nat.le_of_ble_eq_true rfl, Nat.le_of_ble_eq_true rfl⟩) hD hS hA (fun σ1 μ1 H locs hw_1535 hP hD hS => ?_)
                    obtain ⟨I_1536, J_1537, hu_1538, hg_1539, hp_1541, hp_1542, hp_1543⟩ := hw_1535
                    obtain ⟨hu_1538a, hu_1538b⟩ := Prod.mk.inj hu_1538
                    rw [hu_1538a, hu_1538b] at hP hD
                    have tt_1544 : (I_1536 391 this).toInt ≤ 300 := by have z := hg_1539.1.1 391 this; exact z.2
                    have hG := GM.tr hG hg_1539 (by decide)
                    have tt_1545 : (I_1536 397 this).toInt = (I_1517 397 this).toInt := by rw [hg_1539.2.1 397 (by decide) (by decide)]
                    refine lv_goto (tgt := 11) hx hb dX12_keys_145 (by decide) ?_
                    exact ih_1372 (1 : Int32) I_1536 J_1537 r_1512 _ _ _ (rg_w (rg_k (1 : Int32) 1 rfl) (by decide)) (by have k0 : (1 : Int32).toInt = 1 := rfl; omega) (fun j hj => by rw [er_1512, va_up_self, upd_off (by have z0 := clampE x_1505; omega)]; exact (show ∀ j : Nat, (j : Int) < a0.toInt + 4 ∨ a0.toInt + 12 ≤ (j : Int) → r_1504 this_a j = ri this_a j from (fun j hj => by rw [er_1504, va_up_self, upd_off (by have z0 := clampE x_1495; omega)]; exact (show ∀ j : Nat, (j : Int) < a0.toInt + 4 ∨ a0.toInt + 12 ≤ (j : Int) → ri_1097 this_a j = ri this_a j from hrel_1379) j hj)) j hj) (Int.le_of_lt (Int.lt_of_lt_of_le (Int.lt_trans (tm_lt hkn_1533 hp_1541 hp_1542) (tm_lt hkn_1513 hp_1522 hp_1523)) hrel_1380)) (tm_ms hm_1369 (Int.lt_trans (tm_lt hkn_1533 hp_1541 hp_1542) (tm_lt hkn_1513 hp_1522 hp_1523)) (tm_b ((hG.1.1 391 this).2))) hG hP hD hS (lv_sub hl [2, 3, 0] rfl)
                · have tc_1546 : (x_1478).toInt < 0 := Int32.lt_iff_toInt_lt.mp (nle c_1484)
                  have h_1547 : rg x_1478 (-1) (-1) := rg_lt1 (nle c_1484) hr_1482 (rg_k (0 : Int32) 0 rfl) (by decide)
                  have uh_1547 := h_1547.1
                  have vh_1547 := h_1547.2
                  refine lv_iconst (v := 1) hx hb dX12_keys_70 (by decide) ?_
                  subst hQ
                  exact W.iret (v := 1) hx hb hr (fun t1 ht hW => ⟨⟨1, (σ, I_1095, J_1096, ri_1097, rj, rq), rfl, ⟨I_1095, J_1096, ri_1097, rfl, hG, (by omega), hrel_1379, hrel_1380, (rg_w (rg_k (1 : Int32) 1 rfl) (by decide))⟩, by rw [ht]; exact hP, va_K.moved hW.alike hK, hD⟩, hS.F ht⟩) hS.2.2 dX12_keys_71
              · have tc_1548 : (x_1472).toInt = 4 := congrArg Int32.toInt c_1474
                have h_1549 : rg x_1472 4 4 := rg_and h_1473 (rg_of_eq c_1474 (rg_k (4 : Int32) 4 rfl)) (by decide)
                have uh_1549 := h_1549.1
                have vh_1549 := h_1549.2
                refine lv_iconst (v := 5) hx hb dX12_keys_53 (by decide) ?_
                subst hQ
                exact W.iret (v := 5) hx hb hr (fun t1 ht hW => ⟨⟨5, (σ, I_1095, J_1096, ri_1097, rj, rq), rfl, ⟨I_1095, J_1096, ri_1097, rfl, hG, (by omega), hrel_1379, hrel_1380, (rg_w (rg_k (5 : Int32) 5 rfl) (by decide))⟩, by rw [ht]; exact hP, va_K.moved hW.alike hK, hD⟩, hS.F ht⟩) hS.2.2 dX12_keys_54
          · have tc_1550 : (I_1095 393 this).toInt = 45 := congrArg Int32.toInt c_1386
            have h_1551 : rg (I_1095 393 this) 45 45 := rg_and (rg_full _) (rg_of_eq c_1386 (rg_k (45 : Int32) 45 rfl)) (by decide)
            have uh_1551 := h_1551.1
            have vh_1551 := h_1551.2
            refine lv_iconst (v := 1) hx hb dX12_keys_24 (by decide) ?_
            refine lv_goto (tgt := 29) hx hb dX12_keys_25 (by decide) ?_
            refine lv_istore_n (lv' := [(3, .int 1), (0, .ref this), (1, .int a0), (2, .int x_1094)]) hx hb dX12_keys_29 rfl hl (by decide) rfl (fun ls hl => ?_)
            refine lv_iload_n hx hb dX12_keys_30 rfl (lv_at hl 0 rfl) ?_
            refine lv_if_ne (tgt := 41) hx hb dX12_keys_31 (by decide) (fun c_1552 => ?_) (fun c_1552 => absurd c_1552 (by decide))
            refine lv_aload_n hx hb dX12_keys_41 rfl (lv_at hl 1 rfl) ?_
            refine pg_f (v := .ref this_a) (C := RX12) (T := TX12) (N := 31) hx hb hts (tw_i inlX12) hown hK hP hL_this hK_this (by decide) rfl 0 (by decide) (hts _ (tw_c tw_176)) (pq_hv rfl hR_this_a) dX12_keys_42 ?_
            refine lv_iload_n hx hb dX12_keys_45 rfl (lv_at hl 2 rfl) ?_
            refine lv_iconst (v := 4) hx hb dX12_keys_46 (by decide) ?_
            refine lv_iadd hx hb dX12_keys_47 ?_
            refine lv_topi (fun x_1553 ex_1553 => ?_)
            have h_1554 : rg x_1553 3725 12053 := rg_of_eq ex_1553 (rg_add h_1 (rg_k (4 : Int32) 4 rfl) (by decide))
            have uh_1554 := h_1554.1
            have vh_1554 := h_1554.2
            have tx_1553 : (x_1553).toInt = (a0).toInt + 4 := by rw [ex_1553]; exact i_add_rg (a2 := (a0).toInt) (b2 := 4) rfl rfl h_1 (rg_k (4 : Int32) 4 rfl) (by decide)
            refine pl_i hx hb hK hP hL_this_a hK_this_a hN_this_a (rg_in h_1554 (by decide)) dX12_keys_48 ?_
            refine lv_topi (fun x_1555 ex_1555 => ?_)
            have ex_1555 : x_1555 = ri_1097 this_a (x_1553).toNatClampNeg := ex_1555
            have h_1556 : rg x_1555 0 4 := rg_of_eq ex_1555 (GM.z hG (by rw [hT_this_a]; decide) (zn_tc (t := (ri this_a 6).toNatClampNeg) (c := (I 397 this).toNatClampNeg) (k := 4) (by have z_i := clampE x_1553; have z_0 := clampE (ri this_a 6); have z_1 := clampE (I 397 this); omega) (rg_cl1 ⟨hc.2.2.2.1, hc.2.2.2.2⟩ (by decide)) (rg_cl1 ⟨hc.2.1, hc.2.2.1⟩ (by decide)) (by decide)) rfl)
            have uh_1556 := h_1556.1
            have vh_1556 := h_1556.2
            refine lv_iconst (v := 4) hx hb dX12_keys_49 (by decide) ?_
            refine lv_icmp_ne (tgt := 55) hx hb dX12_keys_50 (by decide) (fun c_1557 => ?_) (fun c_1557 => ?_)
            · have tc_1558 : (x_1555).toInt ≠ 4 := fun q => c_1557 (Int32.toInt_inj.mp q)
              have h_1559 : rg x_1555 0 3 := rg_ne c_1557 h_1556 4 rfl (by decide)
              have uh_1559 := h_1559.1
              have vh_1559 := h_1559.2
              refine lv_iload_n hx hb dX12_keys_55 rfl (lv_at hl 0 rfl) ?_
              refine lv_if_eq (tgt := 63) hx hb dX12_keys_56 (by decide) (fun c_1560 => absurd c_1560 (by decide)) (fun c_1560 => ?_)
              refine lv_aload_n hx hb dX12_keys_59 rfl (lv_at hl 1 rfl) ?_
              have hkn_1561 : (I_1095 393 this).toInt ≠ 0 := by omega
              obtain ⟨w_1562, hR_w_1562, hL_w_1562, hK_w_1562, hN_w_1562, hT_w_1562⟩ := sh_a hSH 387 (ci := 12) (kd := 13) (len := 300) rfl (by decide) hL_this hK_this
              refine pk_v (va_runV (As := []) (rest := []) ⟨hx, hb, hml, hown, hts⟩ (s_X12_nextToken_x l D t σ I_1095 J_1096 ri_1097 rj rq H.size tg hSH hG.1 this hL_this hK_this w_1562 hR_w_1562 hL_w_1562 hK_w_1562 hN_w_1562 hT_w_1562) (cwV 0 hts (tw_V tw_832 tw_833 tw_834 tw_5 tw_835) rfl rfl rfl cv_yX12_nextToken_0 ⟨Nat.le_of_ble_eq_true rfl, Nat.le_of_ble_eq_true rfl⟩) ⟨pq_blind, pq_recv hK hP hL_this hK_this (by decide) rfl, pq_pre hK hN hP hD⟩ rfl rfl hl.1 rfl (lv_room (Nat.le_of_ble_eq_true rfl)) dX12_keys_60 ⟨Nat.le_of_ble_eq_true rfl, Nat.le_of_ble_eq_true rfl⟩) hD hS hA (fun σ1 μ1 H locs hw_1564 hP hD hS => ?_)
              obtain ⟨I_1565, J_1566, hu_1567, hg_1568, hp_1570, hp_1571, hp_1572⟩ := hw_1564
              obtain ⟨hu_1567a, hu_1567b⟩ := Prod.mk.inj hu_1567
              rw [hu_1567a, hu_1567b] at hP hD
              have tt_1573 : (I_1565 391 this).toInt ≤ 300 := by have z := hg_1568.1.1 391 this; exact z.2
              have hG := GM.tr hG hg_1568 (by decide)
              have tt_1574 : (I_1565 397 this).toInt = (I_1095 397 this).toInt := by rw [hg_1568.2.1 397 (by decide) (by decide)]
              refine lv_aload_n hx hb dX12_keys_63 rfl (lv_at hl 1 rfl) ?_
              refine pk_i (va_runV (As := []) (rest := []) ⟨hx, hb, hml, hown, hts⟩ (s_X12_nameOf_d l D t σ I_1565 J_1566 ri_1097 rj rq H.size tg hSH hG.1 this hL_this hK_this) (cwV 0 hts (tw_V tw_921 tw_922 tw_923 tw_5 tw_924) rfl rfl rfl cv_yX12_nameOf_0 ⟨Nat.le_of_ble_eq_true rfl, Nat.le_of_ble_eq_true rfl⟩) ⟨pq_blind, pq_recv hK hP hL_this hK_this (by decide) rfl, pq_pre hK hN hP hD⟩ rfl rfl hl.1 rfl (lv_room (Nat.le_of_ble_eq_true rfl)) dX12_keys_64 ⟨Nat.le_of_ble_eq_true rfl, Nat.le_of_ble_eq_true rfl⟩) hD hS hA (fun x_1575 σ1 μ1 H locs hw_1576 hP hD hS => ?_)
              obtain ⟨hu_1577, hp_1580, hr_1579⟩ := hw_1576
              obtain ⟨hu_1577a, hu_1577b⟩ := Prod.mk.inj hu_1577
              rw [hu_1577a, hu_1577b] at hP hD
              refine lv_if_ge (tgt := 72) hx hb dX12_keys_67 (by decide) (fun c_1581 => ?_) (fun c_1581 => ?_)
              · have tc_1582 : 0 ≤ (x_1575).toInt := Int32.le_iff_toInt_le.mp c_1581
                have h_1583 : rg x_1575 0 5 := rg_le2 c_1581 (rg_k (0 : Int32) 0 rfl) hr_1579 (by decide)
                have uh_1583 := h_1583.1
                have vh_1583 := h_1583.2
                refine lv_aload_n hx hb dX12_keys_72 rfl (lv_at hl 1 rfl) ?_
                refine pg_f (v := .ref this_a) (C := RX12) (T := TX12) (N := 31) hx hb hts (tw_i inlX12) hown hK hP hL_this hK_this (by decide) rfl 0 (by decide) (hts _ (tw_c tw_176)) (pq_hv rfl hR_this_a) dX12_keys_73 ?_
                refine lv_iload_n hx hb dX12_keys_76 rfl (lv_at hl 2 rfl) ?_
                refine lv_iconst (v := 5) hx hb dX12_keys_77 (by decide) ?_
                refine lv_iadd hx hb dX12_keys_78 ?_
                refine lv_topi (fun x_1584 ex_1584 => ?_)
                have h_1585 : rg x_1584 3726 12054 := rg_of_eq ex_1584 (rg_add h_1 (rg_k (5 : Int32) 5 rfl) (by decide))
                have uh_1585 := h_1585.1
                have vh_1585 := h_1585.2
                have tx_1584 : (x_1584).toInt = (a0).toInt + 5 := by rw [ex_1584]; exact i_add_rg (a2 := (a0).toInt) (b2 := 5) rfl rfl h_1 (rg_k (5 : Int32) 5 rfl) (by decide)
                refine lv_aload_n hx hb dX12_keys_79 rfl (lv_at hl 1 rfl) ?_
                refine pg_f (v := .ref this_a) (C := RX12) (T := TX12) (N := 31) hx hb hts (tw_i inlX12) hown hK hP hL_this hK_this (by decide) rfl 0 (by decide) (hts _ (tw_c tw_176)) (pq_hv rfl hR_this_a) dX12_keys_80 ?_
                refine lv_iload_n hx hb dX12_keys_83 rfl (lv_at hl 2 rfl) ?_
                refine lv_iconst (v := 4) hx hb dX12_keys_84 (by decide) ?_
                refine lv_iadd hx hb dX12_keys_85 ?_
                refine lv_topi (fun x_1586 ex_1586 => ?_)
                have h_1587 : rg x_1586 3725 12053 := rg_of_eq ex_1586 (rg_add h_1 (rg_k (4 : Int32) 4 rfl) (by decide))
                have uh_1587 := h_1587.1
                have vh_1587 := h_1587.2
                have tx_1586 : (x_1586).toInt = (a0).toInt + 4 := by rw [ex_1586]; exact i_add_rg (a2 := (a0).toInt) (b2 := 4) rfl rfl h_1 (rg_k (4 : Int32) 4 rfl) (by decide)
                refine pl_i hx hb hK hP hL_this_a hK_this_a hN_this_a (rg_in h_1587 (by decide)) dX12_keys_86 ?_
                refine lv_topi (fun x_1588 ex_1588 => ?_)
                have ex_1588 : x_1588 = ri_1097 this_a (x_1586).toNatClampNeg := ex_1588
                have h_1589 : rg x_1588 0 4 := rg_of_eq ex_1588 (GM.z hG (by rw [hT_this_a]; decide) (zn_tc (t := (ri this_a 6).toNatClampNeg) (c := (I 397 this).toNatClampNeg) (k := 4) (by have z_i := clampE x_1586; have z_0 := clampE (ri this_a 6); have z_1 := clampE (I 397 this); omega) (rg_cl1 ⟨hc.2.2.2.1, hc.2.2.2.2⟩ (by decide)) (rg_cl1 ⟨hc.2.1, hc.2.2.1⟩ (by decide)) (by decide)) rfl)
                have uh_1589 := h_1589.1
                have vh_1589 := h_1589.2
                have hzz : (x_1588).toInt = (x_1555).toInt := congrArg Int32.toInt (show x_1588 = x_1555 from by rw [show x_1588 = _ from ex_1588, show x_1555 = _ from ex_1555]; exact congrArg (ri_1097 this_a) (by have z0 := clampE x_1586; have z1 := clampE x_1553; omega))
                have h_1590 : rg x_1555 0 3 := ⟨by omega, by omega⟩
                have uh_1590 := h_1590.1
                have vh_1590 := h_1590.2
                have h_1591 : rg x_1588 0 3 := ⟨by omega, by omega⟩
                have uh_1591 := h_1591.1
                have vh_1591 := h_1591.2
                refine lv_iadd hx hb dX12_keys_87 ?_
                refine lv_topi (fun x_1592 ex_1592 => ?_)
                have h_1593 : rg x_1592 3726 12057 := rg_of_eq ex_1592 (rg_add h_1585 h_1591 (by decide))
                have uh_1593 := h_1593.1
                have vh_1593 := h_1593.2
                have tx_1592 : (x_1592).toInt = (x_1584).toInt + (x_1588).toInt := by rw [ex_1592]; exact i_add_rg (a2 := (x_1584).toInt) (b2 := (x_1588).toInt) rfl rfl h_1585 h_1591 (by decide)
                refine lv_iload_n hx hb dX12_keys_88 rfl (lv_at hl 0 rfl) ?_
                refine lv_if_eq (tgt := 101) hx hb dX12_keys_89 (by decide) (fun c_1594 => absurd c_1594 (by decide)) (fun c_1594 => ?_)
                refine lv_iconst (v := (-1)) hx hb dX12_keys_92 (by decide) ?_
                refine lv_aload_n hx hb dX12_keys_93 rfl (lv_at hl 1 rfl) ?_
                refine pk_i (va_runV (As := []) (rest := [.int (-1), .int x_1592, .ref this_a]) ⟨hx, hb, hml, hown, hts⟩ (s_X12_nameOf_d l D t σ I_1565 J_1566 ri_1097 rj rq H.size tg hSH hG.1 this hL_this hK_this) (cwV 0 hts (tw_V tw_921 tw_922 tw_923 tw_5 tw_924) rfl rfl rfl cv_yX12_nameOf_0 ⟨Nat.le_of_ble_eq_true rfl, Nat.le_of_ble_eq_true rfl⟩) ⟨pq_blind, pq_recv hK hP hL_this hK_this (by decide) rfl, pq_pre hK hN hP hD⟩ rfl rfl hl.1 rfl (lv_room (Nat.le_of_ble_eq_true rfl)) dX12_keys_94 ⟨Nat.le_of_ble_eq_true rfl, Nat.le_of_ble_eq_true rfl⟩) hD hS hA (fun x_1595 σ1 μ1 H locs hw_1596 hP hD hS => ?_)
                obtain ⟨hu_1597, hp_1600, hr_1599⟩ := hw_1596
                obtain ⟨hu_1597a, hu_1597b⟩ := Prod.mk.inj hu_1597
                rw [hu_1597a, hu_1597b] at hP hD
                refine lv_isub hx hb dX12_keys_97 ?_
                refine lv_topi (fun x_1601 ex_1601 => ?_)
                have h_1602 : rg x_1601 (-6) 0 := rg_of_eq ex_1601 (rg_sub (rg_k (-1 : Int32) (-1) rfl) hr_1599 (by decide))
                have uh_1602 := h_1602.1
                have vh_1602 := h_1602.2
                have tx_1601 : (x_1601).toInt = (-1) - (x_1595).toInt := by rw [ex_1601]; exact i_sub_rg (a2 := (-1)) (b2 := (x_1595).toInt) rfl rfl (rg_k (-1 : Int32) (-1) rfl) hr_1599 (by decide)
                refine lv_goto (tgt := 105) hx hb dX12_keys_98 (by decide) ?_
                refine pt_i hx hb hK hP hD hS hL_this_a hK_this_a hN_this_a (rg_in h_1593 (by decide)) dX12_keys_105 (fun r_1603 H locs er_1603 hP hD hS => ?_)
                have hk4 : 0 ≤ (x_1588).toInt ∧ (x_1588).toInt ≤ 3 := ⟨by omega, by omega⟩
                have hG := GM.wth hG hT_this_a (by decide) er_1603 (I 397 this).toNatClampNeg (by omega) (n := (ri this_a 6).toNatClampNeg) (by omega) (k := 5 + (x_1588).toNatClampNeg) (by have z_i := clampE x_1592; have z_k := clampE x_1588; omega) (by have z_k := clampE x_1588; omega) (by have z6 := congrArg Int32.toInt (hG.2.2.1 this_a hT_this_a 6 (by decide) (by decide)); have z_i := clampE x_1592; omega) (by decide)
                refine lv_aload_n hx hb dX12_keys_106 rfl (lv_at hl 1 rfl) ?_
                refine pg_f (v := .ref this_a) (C := RX12) (T := TX12) (N := 31) hx hb hts (tw_i inlX12) hown hK hP hL_this hK_this (by decide) rfl 0 (by decide) (hts _ (tw_c tw_176)) (pq_hv rfl hR_this_a) dX12_keys_107 ?_
                refine lv_iload_n hx hb dX12_keys_110 rfl (lv_at hl 2 rfl) ?_
                refine lv_iconst (v := 4) hx hb dX12_keys_111 (by decide) ?_
                refine lv_iadd hx hb dX12_keys_112 ?_
                refine lv_topi (fun x_1604 ex_1604 => ?_)
                have h_1605 : rg x_1604 3725 12053 := rg_of_eq ex_1604 (rg_add h_1 (rg_k (4 : Int32) 4 rfl) (by decide))
                have uh_1605 := h_1605.1
                have vh_1605 := h_1605.2
                have tx_1604 : (x_1604).toInt = (a0).toInt + 4 := by rw [ex_1604]; exact i_add_rg (a2 := (a0).toInt) (b2 := 4) rfl rfl h_1 (rg_k (4 : Int32) 4 rfl) (by decide)
                refine lv_dup2_11 hx hb dX12_keys_113 rfl rfl ?_
                refine pl_i hx hb hK hP hL_this_a hK_this_a hN_this_a (rg_in h_1605 (by decide)) dX12_keys_114 ?_
                refine lv_topi (fun x_1606 ex_1606 => ?_)
                have ex_1606 : x_1606 = r_1603 this_a (x_1604).toNatClampNeg := ex_1606
                have h_1607 : rg x_1606 0 4 := rg_of_eq ex_1606 (GM.z hG (by rw [hT_this_a]; decide) (zn_tc (t := (ri this_a 6).toNatClampNeg) (c := (I 397 this).toNatClampNeg) (k := 4) (by have z_i := clampE x_1604; have z_0 := clampE (ri this_a 6); have z_1 := clampE (I 397 this); omega) (rg_cl1 ⟨hc.2.2.2.1, hc.2.2.2.2⟩ (by decide)) (rg_cl1 ⟨hc.2.1, hc.2.2.1⟩ (by decide)) (by decide)) rfl)
                have uh_1607 := h_1607.1
                have vh_1607 := h_1607.2
                have hkz : (x_1606).toInt = (x_1588).toInt := by rw [show x_1606 = x_1588 from by rw [ex_1606, er_1603, va_up_self, upd_off (by have z0 := clampE x_1604; have z1 := clampE x_1592; have z2 := clampE x_1588; omega), ex_1588]; exact congrArg (ri_1097 this_a) (by have z0 := clampE x_1604; have z1 := clampE x_1586; omega)]
                have h_1608 : rg x_1606 0 3 := ⟨by omega, by omega⟩
                have uh_1608 := h_1608.1
                have vh_1608 := h_1608.2
                refine lv_iconst (v := 1) hx hb dX12_keys_115 (by decide) ?_
                refine lv_iadd hx hb dX12_keys_116 ?_
                refine lv_topi (fun x_1609 ex_1609 => ?_)
                have h_1610 : rg x_1609 1 4 := rg_of_eq ex_1609 (rg_add h_1608 (rg_k (1 : Int32) 1 rfl) (by decide))
                have uh_1610 := h_1610.1
                have vh_1610 := h_1610.2
                have tx_1609 : (x_1609).toInt = (x_1606).toInt + 1 := by rw [ex_1609]; exact i_add_rg (a2 := (x_1606).toInt) (b2 := 1) rfl rfl h_1608 (rg_k (1 : Int32) 1 rfl) (by decide)
                refine pt_i hx hb hK hP hD hS hL_this_a hK_this_a hN_this_a (rg_in h_1605 (by decide)) dX12_keys_117 (fun r_1611 H locs er_1611 hP hD hS => ?_)
                have hG := GM.wt hG hT_this_a (by decide) er_1611 (zn_tc (t := (ri this_a 6).toNatClampNeg) (c := (I 397 this).toNatClampNeg) (k := 4) (by have z_i := clampE x_1604; have z_0 := clampE (ri this_a 6); have z_1 := clampE (I 397 this); omega) (rg_cl1 ⟨hc.2.2.2.1, hc.2.2.2.2⟩ (by decide)) (rg_cl1 ⟨hc.2.1, hc.2.2.1⟩ (by decide)) (by decide)) rfl (rg_w h_1610 (by decide)) (by have z6 := congrArg Int32.toInt (hG.2.2.1 this_a hT_this_a 6 (by decide) (by decide)); have z_i := clampE x_1604; omega) (by decide)
                refine lv_aload_n hx hb dX12_keys_118 rfl (lv_at hl 1 rfl) ?_
                have hkn_1612 : (I_1565 393 this).toInt ≠ 0 := fun q => absurd (q.symm.trans (hp_1580.1 (by omega)).1) (by decide)
                refine pk_v (va_runV (As := []) (rest := []) ⟨hx, hb, hml, hown, hts⟩ (s_X12_nextToken_x l D t σ I_1565 J_1566 r_1611 rj rq H.size tg hSH hG.1 this hL_this hK_this w_1562 hR_w_1562 hL_w_1562 hK_w_1562 hN_w_1562 hT_w_1562) (cwV 0 hts (tw_V tw_832 tw_833 tw_834 tw_5 tw_835) rfl rfl rfl cv_yX12_nextToken_0 ⟨Nat.le_of_ble_eq_true rfl, Nat.le_of_ble_eq_true rfl⟩) ⟨pq_blind, pq_recv hK hP hL_this hK_this (by decide) rfl, pq_pre hK hN hP hD⟩ rfl rfl hl.1 rfl (lv_room (Nat.le_of_ble_eq_true rfl)) dX12_keys_119 ⟨Nat.le_of_ble_eq_true rfl, Nat.le_of_ble_eq_true rfl⟩) hD hS hA (fun σ1 μ1 H locs hw_1614 hP hD hS => ?_)
                obtain ⟨I_1615, J_1616, hu_1617, hg_1618, hp_1620, hp_1621, hp_1622⟩ := hw_1614
                obtain ⟨hu_1617a, hu_1617b⟩ := Prod.mk.inj hu_1617
                rw [hu_1617a, hu_1617b] at hP hD
                have tt_1623 : (I_1615 391 this).toInt ≤ 300 := by have z := hg_1618.1.1 391 this; exact z.2
                have hG := GM.tr hG hg_1618 (by decide)
                have tt_1624 : (I_1615 397 this).toInt = (I_1565 397 this).toInt := by rw [hg_1618.2.1 397 (by decide) (by decide)]
                refine lv_aload_n hx hb dX12_keys_122 rfl (lv_at hl 1 rfl) ?_
                refine pg_f (v := .int (I_1615 393 this)) (C := RX12) (T := TX12) (N := 31) hx hb hts (tw_i inlX12) hown hK hP hL_this hK_this (by decide) rfl 9 (by decide) (hts _ (tw_c tw_831)) rfl dX12_keys_123 ?_
                refine lv_bipush (v := 44) hx hb dX12_keys_126 (by decide) ?_
                refine lv_icmp_ne (tgt := 135) hx hb dX12_keys_128 (by decide) (fun c_1625 => ?_) (fun c_1625 => ?_)
                · have tc_1626 : (I_1615 393 this).toInt ≠ 44 := fun q => c_1625 (Int32.toInt_inj.mp q)
                  refine lv_iconst (v := 0) hx hb dX12_keys_135 (by decide) ?_
                  refine lv_istore_n (lv' := [(2, .int 0), (3, .int 1), (0, .ref this), (1, .int a0)]) hx hb dX12_keys_136 rfl hl (by decide) rfl (fun ls hl => ?_)
                  refine lv_iload_n hx hb dX12_keys_137 rfl (lv_at hl 0 rfl) ?_
                  refine lv_if_eq (tgt := 145) hx hb dX12_keys_138 (by decide) (fun c_1627 => ?_) (fun c_1627 => absurd c_1627 (by decide))
                  refine lv_goto (tgt := 11) hx hb dX12_keys_145 (by decide) ?_
                  exact ih_1372 (0 : Int32) I_1615 J_1616 r_1611 _ _ _ (rg_w (rg_k (0 : Int32) 0 rfl) (by decide)) (by have k0 : (0 : Int32).toInt = 0 := rfl; omega) (fun j hj => by rw [er_1611, va_up_self, upd_off (by have z0 := clampE x_1604; omega)]; exact (show ∀ j : Nat, (j : Int) < a0.toInt + 4 ∨ a0.toInt + 12 ≤ (j : Int) → r_1603 this_a j = ri this_a j from (fun j hj => by rw [er_1603, va_up_self, upd_off (by have z0 := clampE x_1592; omega)]; exact (show ∀ j : Nat, (j : Int) < a0.toInt + 4 ∨ a0.toInt + 12 ≤ (j : Int) → ri_1097 this_a j = ri this_a j from hrel_1379) j hj)) j hj) (Int.le_of_lt (Int.lt_of_lt_of_le (Int.lt_trans (tm_lt hkn_1612 hp_1620 hp_1621) (tm_lt hkn_1561 hp_1570 hp_1571)) hrel_1380)) (tm_ms hm_1369 (Int.lt_trans (tm_lt hkn_1612 hp_1620 hp_1621) (tm_lt hkn_1561 hp_1570 hp_1571)) (tm_b ((hG.1.1 391 this).2))) hG hP hD hS (lv_sub hl [2, 3, 0] rfl)
                · have tc_1628 : (I_1615 393 this).toInt = 44 := congrArg Int32.toInt c_1625
                  have h_1629 : rg (I_1615 393 this) 44 44 := rg_and (rg_full _) (rg_of_eq c_1625 (rg_k (44 : Int32) 44 rfl)) (by decide)
                  have uh_1629 := h_1629.1
                  have vh_1629 := h_1629.2
                  refine lv_iconst (v := 1) hx hb dX12_keys_131 (by decide) ?_
                  refine lv_goto (tgt := 136) hx hb dX12_keys_132 (by decide) ?_
                  refine lv_istore_n (lv' := [(2, .int 1), (3, .int 1), (0, .ref this), (1, .int a0)]) hx hb dX12_keys_136 rfl hl (by decide) rfl (fun ls hl => ?_)
                  refine lv_iload_n hx hb dX12_keys_137 rfl (lv_at hl 0 rfl) ?_
                  refine lv_if_eq (tgt := 145) hx hb dX12_keys_138 (by decide) (fun c_1630 => absurd c_1630 (by decide)) (fun c_1630 => ?_)
                  refine lv_aload_n hx hb dX12_keys_141 rfl (lv_at hl 2 rfl) ?_
                  have hkn_1631 : (I_1615 393 this).toInt ≠ 0 := by omega
                  refine pk_v (va_runV (As := []) (rest := []) ⟨hx, hb, hml, hown, hts⟩ (s_X12_nextToken_x l D t σ I_1615 J_1616 r_1611 rj rq H.size tg hSH hG.1 this hL_this hK_this w_1562 hR_w_1562 hL_w_1562 hK_w_1562 hN_w_1562 hT_w_1562) (cwV 0 hts (tw_V tw_832 tw_833 tw_834 tw_5 tw_835) rfl rfl rfl cv_yX12_nextToken_0 ⟨Nat.le_of_ble_eq_true rfl, Nat.le_of_ble_eq_true rfl⟩) ⟨pq_blind, pq_recv hK hP hL_this hK_this (by decide) rfl, pq_pre hK hN hP hD⟩ rfl rfl hl.1 rfl (lv_room (Nat.le_of_ble_eq_true rfl)) dX12_keys_142 ⟨Nat.le_of_ble_eq_true rfl, Nat.le_of_ble_eq_true rfl⟩) hD hS hA (fun σ1 μ1 H locs hw_1633 hP hD hS => ?_)
                  obtain ⟨I_1634, J_1635, hu_1636, hg_1637, hp_1639, hp_1640, hp_1641⟩ := hw_1633
                  obtain ⟨hu_1636a, hu_1636b⟩ := Prod.mk.inj hu_1636
                  rw [hu_1636a, hu_1636b] at hP hD
                  have tt_1642 : (I_1634 391 this).toInt ≤ 300 := by have z := hg_1637.1.1 391 this; exact z.2
                  have hG := GM.tr hG hg_1637 (by decide)
                  have tt_1643 : (I_1634 397 this).toInt = (I_1615 397 this).toInt := by rw [hg_1637.2.1 397 (by decide) (by decide)]
                  refine lv_goto (tgt := 11) hx hb dX12_keys_145 (by decide) ?_
                  exact ih_1372 (1 : Int32) I_1634 J_1635 r_1611 _ _ _ (rg_w (rg_k (1 : Int32) 1 rfl) (by decide)) (by have k0 : (1 : Int32).toInt = 1 := rfl; omega) (fun j hj => by rw [er_1611, va_up_self, upd_off (by have z0 := clampE x_1604; omega)]; exact (show ∀ j : Nat, (j : Int) < a0.toInt + 4 ∨ a0.toInt + 12 ≤ (j : Int) → r_1603 this_a j = ri this_a j from (fun j hj => by rw [er_1603, va_up_self, upd_off (by have z0 := clampE x_1592; omega)]; exact (show ∀ j : Nat, (j : Int) < a0.toInt + 4 ∨ a0.toInt + 12 ≤ (j : Int) → ri_1097 this_a j = ri this_a j from hrel_1379) j hj)) j hj) (Int.le_of_lt (Int.lt_of_lt_of_le (Int.lt_trans (tm_lt hkn_1631 hp_1639 hp_1640) (Int.lt_trans (tm_lt hkn_1612 hp_1620 hp_1621) (tm_lt hkn_1561 hp_1570 hp_1571))) hrel_1380)) (tm_ms hm_1369 (Int.lt_trans (tm_lt hkn_1631 hp_1639 hp_1640) (Int.lt_trans (tm_lt hkn_1612 hp_1620 hp_1621) (tm_lt hkn_1561 hp_1570 hp_1571))) (tm_b ((hG.1.1 391 this).2))) hG hP hD hS (lv_sub hl [2, 3, 0] rfl)
              · have tc_1644 : (x_1575).toInt < 0 := Int32.lt_iff_toInt_lt.mp (nle c_1581)
                have h_1645 : rg x_1575 (-1) (-1) := rg_lt1 (nle c_1581) hr_1579 (rg_k (0 : Int32) 0 rfl) (by decide)
                have uh_1645 := h_1645.1
                have vh_1645 := h_1645.2
                refine lv_iconst (v := 1) hx hb dX12_keys_70 (by decide) ?_
                subst hQ
                exact W.iret (v := 1) hx hb hr (fun t1 ht hW => ⟨⟨1, (σ, I_1565, J_1566, ri_1097, rj, rq), rfl, ⟨I_1565, J_1566, ri_1097, rfl, hG, (by omega), hrel_1379, (Int.le_of_lt (Int.lt_of_lt_of_le (tm_lt hkn_1561 hp_1570 hp_1571) hrel_1380)), (rg_w (rg_k (1 : Int32) 1 rfl) (by decide))⟩, by rw [ht]; exact hP, va_K.moved hW.alike hK, hD⟩, hS.F ht⟩) hS.2.2 dX12_keys_71
            · have tc_1646 : (x_1555).toInt = 4 := congrArg Int32.toInt c_1557
              have h_1647 : rg x_1555 4 4 := rg_and h_1556 (rg_of_eq c_1557 (rg_k (4 : Int32) 4 rfl)) (by decide)
              have uh_1647 := h_1647.1
              have vh_1647 := h_1647.2
              refine lv_iconst (v := 5) hx hb dX12_keys_53 (by decide) ?_
              subst hQ
              exact W.iret (v := 5) hx hb hr (fun t1 ht hW => ⟨⟨5, (σ, I_1095, J_1096, ri_1097, rj, rq), rfl, ⟨I_1095, J_1096, ri_1097, rfl, hG, (by omega), hrel_1379, hrel_1380, (rg_w (rg_k (5 : Int32) 5 rfl) (by decide))⟩, by rw [ht]; exact hP, va_K.moved hW.alike hK, hD⟩, hS.F ht⟩) hS.2.2 dX12_keys_54
    exact L_1371 _ (1 : Int32) I J r_4 _ _ _ (rg_w (rg_k (1 : Int32) 1 rfl) (by decide)) (by have k0 : (1 : Int32).toInt = 1 := rfl; omega) (fun j hj => by rw [er_4, va_up_self, upd_off (by have z0 := clampE x_2; omega)]) (Int.le_refl _) (Nat.lt_succ_self _) hG hP hD hS (lv_sub hl [1, 2, 0] rfl)
  exact go _ _ _ hP hD hS hl
