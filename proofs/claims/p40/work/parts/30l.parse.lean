theorem dX12_readText_0 : decode cX12_readText 0 = .ok (.aload_n 0, 1) := oc_42 (by decide +kernel)
theorem dX12_readText_1 : decode cX12_readText 1 = .ok (.sipush 3720, 3) := oc_17 (a := 14) (b := 136) (by decide +kernel)
theorem dX12_readText_4 : decode cX12_readText 4 = .ok (.sipush 900, 3) := oc_17 (a := 3) (b := 132) (by decide +kernel)
theorem dX12_readText_7 : decode cX12_readText 7 = .ok (.aload_n 0, 1) := oc_42 (by decide +kernel)
theorem dX12_readText_8 : decode cX12_readText 8 = .ok (.getfield 7, 3) := oc_180 (a := 0) (b := 7) (by decide +kernel)
theorem dX12_readText_11 : decode cX12_readText 11 = .ok (.bipush 6, 2) := oc_16 (a := 6) (by decide +kernel)
theorem dX12_readText_13 : decode cX12_readText 13 = .ok (.iaload, 1) := oc_46 (by decide +kernel)
theorem dX12_readText_14 : decode cX12_readText 14 = .ok (.imul, 1) := oc_104 (by decide +kernel)
theorem dX12_readText_15 : decode cX12_readText 15 = .ok (.iadd, 1) := oc_96 (by decide +kernel)
theorem dX12_readText_16 : decode cX12_readText 16 = .ok (.putfield 172, 3) := oc_181 (a := 0) (b := 172) (by decide +kernel)
theorem dX12_readText_19 : decode cX12_readText 19 = .ok (.aload_n 0, 1) := oc_42 (by decide +kernel)
theorem dX12_readText_20 : decode cX12_readText 20 = .ok (.iconst 0, 1) := oc_3 (by decide +kernel)
theorem dX12_readText_21 : decode cX12_readText 21 = .ok (.putfield 248, 3) := oc_181 (a := 0) (b := 248) (by decide +kernel)
theorem dX12_readText_24 : decode cX12_readText 24 = .ok (.aload_n 0, 1) := oc_42 (by decide +kernel)
theorem dX12_readText_25 : decode cX12_readText 25 = .ok (.iconst 0, 1) := oc_3 (by decide +kernel)
theorem dX12_readText_26 : decode cX12_readText 26 = .ok (.putfield 175, 3) := oc_181 (a := 0) (b := 175) (by decide +kernel)
theorem dX12_readText_29 : decode cX12_readText 29 = .ok (.aload_n 0, 1) := oc_42 (by decide +kernel)
theorem dX12_readText_30 : decode cX12_readText 30 = .ok (.iconst 0, 1) := oc_3 (by decide +kernel)
theorem dX12_readText_31 : decode cX12_readText 31 = .ok (.putfield 185, 3) := oc_181 (a := 0) (b := 185) (by decide +kernel)
theorem dX12_readText_34 : decode cX12_readText 34 = .ok (.aload_n 0, 1) := oc_42 (by decide +kernel)
theorem dX12_readText_35 : decode cX12_readText 35 = .ok (.iconst 0, 1) := oc_3 (by decide +kernel)
theorem dX12_readText_36 : decode cX12_readText 36 = .ok (.putfield 245, 3) := oc_181 (a := 0) (b := 245) (by decide +kernel)
theorem dX12_readText_39 : decode cX12_readText 39 = .ok (.aload_n 0, 1) := oc_42 (by decide +kernel)
theorem dX12_readText_40 : decode cX12_readText 40 = .ok (.iconst 0, 1) := oc_3 (by decide +kernel)
theorem dX12_readText_41 : decode cX12_readText 41 = .ok (.putfield 134, 3) := oc_181 (a := 0) (b := 134) (by decide +kernel)
theorem dX12_readText_44 : decode cX12_readText 44 = .ok (.aload_n 0, 1) := oc_42 (by decide +kernel)
theorem dX12_readText_45 : decode cX12_readText 45 = .ok (.invokevirtual 196, 3) := oc_182 (a := 0) (b := 196) (by decide +kernel)
theorem dX12_readText_48 : decode cX12_readText 48 = .ok (.aload_n 0, 1) := oc_42 (by decide +kernel)
theorem dX12_readText_49 : decode cX12_readText 49 = .ok (.getfield 143, 3) := oc_180 (a := 0) (b := 143) (by decide +kernel)
theorem dX12_readText_52 : decode cX12_readText 52 = .ok (.ifCond .eq 17, 3) := oc_153 (a := 0) (b := 17) (by decide +kernel)
theorem dX12_readText_69 : decode cX12_readText 69 = .ok (.iconst 0, 1) := oc_3 (by decide +kernel)
theorem dX12_readText_70 : decode cX12_readText 70 = .ok (.ireturn, 1) := oc_172 (by decide +kernel)
theorem dX12_readText_55 : decode cX12_readText 55 = .ok (.aload_n 0, 1) := oc_42 (by decide +kernel)
theorem tw_849 : Cond.methodLink RX12 260 yX12_clause ∈ wsL_law := sg_36 _ (List.mem_of_getElem? (i := 9) rfl)
theorem tw_850 : Cond.instanceMethod yX12_clause ∈ wsL_law := sg_36 _ (List.mem_of_getElem? (i := 10) rfl)
theorem tw_851 : Cond.selects RX12 yX12_clause yX12_clause ∈ wsL_law := sg_36 _ (List.mem_of_getElem? (i := 11) rfl)
theorem tw_852 : Cond.code yX12_clause cX12_clause 4 (some .int) ∈ wsL_law := sg_36 _ (List.mem_of_getElem? (i := 12) rfl)
theorem dX12_readText_56 : decode cX12_readText 56 = .ok (.invokevirtual 260, 3) := oc_182 (a := 1) (b := 4) (by decide +kernel)
theorem dX12_readText_59 : decode cX12_readText 59 = .ok (.istore_n 1, 1) := oc_60 (by decide +kernel)
theorem dX12_readText_60 : decode cX12_readText 60 = .ok (.iload_n 1, 1) := oc_27 (by decide +kernel)
theorem dX12_readText_61 : decode cX12_readText 61 = .ok (.ifCond .eq 5, 3) := oc_153 (a := 0) (b := 5) (by decide +kernel)
theorem dX12_readText_66 : decode cX12_readText 66 = .ok (.goto (-18), 3) := oc_167 (a := 255) (b := 238) (by decide +kernel)
theorem dX12_readText_64 : decode cX12_readText 64 = .ok (.iload_n 1, 1) := oc_27 (by decide +kernel)
theorem dX12_readText_65 : decode cX12_readText 65 = .ok (.ireturn, 1) := oc_172 (by decide +kernel)
theorem dX12_text_0 : decode cX12_text 0 = .ok (.aload_n 0, 1) := oc_42 (by decide +kernel)
theorem dX12_text_1 : decode cX12_text 1 = .ok (.getfield 7, 3) := oc_180 (a := 0) (b := 7) (by decide +kernel)
theorem dX12_text_4 : decode cX12_text 4 = .ok (.bipush 6, 2) := oc_16 (a := 6) (by decide +kernel)
theorem dX12_text_6 : decode cX12_text 6 = .ok (.iaload, 1) := oc_46 (by decide +kernel)
theorem dX12_text_7 : decode cX12_text 7 = .ok (.bipush 10, 2) := oc_16 (a := 10) (by decide +kernel)
theorem dX12_text_9 : decode cX12_text 9 = .ok (.if_icmp .ne 5, 3) := oc_160 (a := 0) (b := 5) (by decide +kernel)
theorem dX12_text_14 : decode cX12_text 14 = .ok (.aload_n 0, 1) := oc_42 (by decide +kernel)
theorem dX12_text_15 : decode cX12_text 15 = .ok (.aload_n 0, 1) := oc_42 (by decide +kernel)
theorem tw_823 : Cond.methodLink RX12 263 yX12_readText ∈ wsL_law := sg_35 _ (List.mem_of_getElem? (i := 7) rfl)
theorem tw_824 : Cond.instanceMethod yX12_readText ∈ wsL_law := sg_35 _ (List.mem_of_getElem? (i := 8) rfl)
theorem tw_825 : Cond.selects RX12 yX12_readText yX12_readText ∈ wsL_law := sg_35 _ (List.mem_of_getElem? (i := 9) rfl)
theorem tw_826 : Cond.code yX12_readText cX12_readText 2 (some .int) ∈ wsL_law := sg_35 _ (List.mem_of_getElem? (i := 10) rfl)
theorem dX12_text_16 : decode cX12_text 16 = .ok (.invokevirtual 263, 3) := oc_182 (a := 1) (b := 7) (by decide +kernel)
theorem tw_180 : Cond.fieldLink RX12 22 "RingsUnderModel" "fault" "I" ∈ wsL_law := sg_8 _ (List.mem_of_getElem? (i := 12) rfl)
theorem dX12_text_19 : decode cX12_text 19 = .ok (.putfield 22, 3) := oc_181 (a := 0) (b := 22) (by decide +kernel)
theorem dX12_text_22 : decode cX12_text 22 = .ok (.aload_n 0, 1) := oc_42 (by decide +kernel)
theorem dX12_text_23 : decode cX12_text 23 = .ok (.aload_n 0, 1) := oc_42 (by decide +kernel)
theorem dX12_text_24 : decode cX12_text 24 = .ok (.getfield 22, 3) := oc_180 (a := 0) (b := 22) (by decide +kernel)
theorem dX12_text_27 : decode cX12_text 27 = .ok (.ifCond .ne 7, 3) := oc_154 (a := 0) (b := 7) (by decide +kernel)
theorem dX12_text_34 : decode cX12_text 34 = .ok (.aload_n 0, 1) := oc_42 (by decide +kernel)
theorem dX12_text_35 : decode cX12_text 35 = .ok (.getfield 140, 3) := oc_180 (a := 0) (b := 140) (by decide +kernel)
theorem tw_181 : Cond.fieldLink RX12 26 "RingsUnderModel" "faultPlace" "I" ∈ wsL_law := sg_8 _ (List.mem_of_getElem? (i := 13) rfl)
theorem dX12_text_38 : decode cX12_text 38 = .ok (.putfield 26, 3) := oc_181 (a := 0) (b := 26) (by decide +kernel)
theorem dX12_text_41 : decode cX12_text 41 = .ok (.aload_n 0, 1) := oc_42 (by decide +kernel)
theorem dX12_text_42 : decode cX12_text 42 = .ok (.iconst 0, 1) := oc_3 (by decide +kernel)
theorem dX12_text_43 : decode cX12_text 43 = .ok (.putfield 127, 3) := oc_181 (a := 0) (b := 127) (by decide +kernel)
theorem dX12_text_46 : decode cX12_text 46 = .ok (.aload_n 0, 1) := oc_42 (by decide +kernel)
theorem dX12_text_47 : decode cX12_text 47 = .ok (.getfield 22, 3) := oc_180 (a := 0) (b := 22) (by decide +kernel)
theorem dX12_text_50 : decode cX12_text 50 = .ok (.ifCond .eq 5, 3) := oc_153 (a := 0) (b := 5) (by decide +kernel)
theorem dX12_text_53 : decode cX12_text 53 = .ok (.iconst (-1), 1) := oc_2 (by decide +kernel)
theorem dX12_text_54 : decode cX12_text 54 = .ok (.ireturn, 1) := oc_172 (by decide +kernel)
theorem dX12_text_30 : decode cX12_text 30 = .ok (.iconst (-1), 1) := oc_2 (by decide +kernel)
theorem dX12_text_31 : decode cX12_text 31 = .ok (.goto 7, 3) := oc_167 (a := 0) (b := 7) (by decide +kernel)
theorem dX12_text_55 : decode cX12_text 55 = .ok (.aload_n 0, 1) := oc_42 (by decide +kernel)
theorem dX12_text_56 : decode cX12_text 56 = .ok (.getfield 7, 3) := oc_180 (a := 0) (b := 7) (by decide +kernel)
theorem dX12_text_59 : decode cX12_text 59 = .ok (.aload_n 0, 1) := oc_42 (by decide +kernel)
theorem dX12_text_60 : decode cX12_text 60 = .ok (.getfield 172, 3) := oc_180 (a := 0) (b := 172) (by decide +kernel)
theorem dX12_text_63 : decode cX12_text 63 = .ok (.aload_n 0, 1) := oc_42 (by decide +kernel)
theorem dX12_text_64 : decode cX12_text 64 = .ok (.getfield 248, 3) := oc_180 (a := 0) (b := 248) (by decide +kernel)
theorem dX12_text_67 : decode cX12_text 67 = .ok (.iastore, 1) := oc_79 (by decide +kernel)
theorem dX12_text_68 : decode cX12_text 68 = .ok (.aload_n 0, 1) := oc_42 (by decide +kernel)
theorem dX12_text_69 : decode cX12_text 69 = .ok (.getfield 7, 3) := oc_180 (a := 0) (b := 7) (by decide +kernel)
theorem dX12_text_72 : decode cX12_text 72 = .ok (.bipush 6, 2) := oc_16 (a := 6) (by decide +kernel)
theorem dX12_text_74 : decode cX12_text 74 = .ok (.dup2, 1) := oc_92 (by decide +kernel)
theorem dX12_text_75 : decode cX12_text 75 = .ok (.iaload, 1) := oc_46 (by decide +kernel)
theorem dX12_text_76 : decode cX12_text 76 = .ok (.iconst 1, 1) := oc_4 (by decide +kernel)
theorem dX12_text_77 : decode cX12_text 77 = .ok (.iadd, 1) := oc_96 (by decide +kernel)
theorem dX12_text_78 : decode cX12_text 78 = .ok (.iastore, 1) := oc_79 (by decide +kernel)
theorem dX12_text_79 : decode cX12_text 79 = .ok (.aload_n 0, 1) := oc_42 (by decide +kernel)
theorem dX12_text_80 : decode cX12_text 80 = .ok (.getfield 7, 3) := oc_180 (a := 0) (b := 7) (by decide +kernel)
theorem dX12_text_83 : decode cX12_text 83 = .ok (.bipush 6, 2) := oc_16 (a := 6) (by decide +kernel)
theorem dX12_text_85 : decode cX12_text 85 = .ok (.iaload, 1) := oc_46 (by decide +kernel)
theorem dX12_text_86 : decode cX12_text 86 = .ok (.iconst 1, 1) := oc_4 (by decide +kernel)
theorem dX12_text_87 : decode cX12_text 87 = .ok (.isub, 1) := oc_100 (by decide +kernel)
theorem dX12_text_88 : decode cX12_text 88 = .ok (.ireturn, 1) := oc_172 (by decide +kernel)
theorem dX12_text_12 : decode cX12_text 12 = .ok (.iconst (-1), 1) := oc_2 (by decide +kernel)
theorem dX12_text_13 : decode cX12_text 13 = .ok (.ireturn, 1) := oc_172 (by decide +kernel)
set_option maxHeartbeats 4000000 in
set_option maxRecDepth 100000 in
theorem s_X12_readText (l : Launch) (D : va_G) (t : pq_T) (σ : pq_S) (I : Nat → Nat → Int32) (J : Nat → Nat → Int64) (ri : Nat → Nat → Int32) (rj : Nat → Nat → Int64) (rq : Nat → Nat → Option Nat) (sz : Nat) (tg : Nat → Nat) (hSH : SH σ tg) (hG0 : GT tg I ri) (this : Nat) (hL_this : this ∈ σ.1) (hK_this : σ.2.1 this = 12) (this_a : Nat) (hR_this_a : σ.2.2.1 384 this = some this_a) (hL_this_a : this_a ∈ σ.1) (hK_this_a : σ.2.1 this_a = 13) (hN_this_a : σ.2.2.2 this_a = 12720) (hT_this_a : tg this_a = 384) (this_pile : Nat) (hR_this_pile : σ.2.2.1 400 this = some this_pile) (hL_this_pile : this_pile ∈ σ.1) (hK_this_pile : σ.2.1 this_pile = 13) (hN_this_pile : σ.2.2.2 this_pile = 160) (hT_this_pile : tg this_pile = 400) (h69 : (ri this_a 6).toInt ≤ 9) : MetI l yX12_readText (wa yX12_readText cX12_readText 2 (some .int)) ({ frames := 9, cells := 0, slots := 0, locals := 202 }) [.ref this] D t σ (I, J, ri, rj, rq) sz 0 0 (fun (r : Int32) (u : pq_S × pq_M) => ∃ I' : Nat → Nat → Int32, ∃ J' : Nat → Nat → Int64, ∃ ri' : Nat → Nat → Int32, u = (σ, I', J', ri', rj, rq) ∧ GM [396, 397, 398, 402, 391, 392, 393, 401] tg σ I ri I' ri' rq ∧ (r.toInt ≠ 0 ∨ CLz (I' 396 this).toInt (I' 398 this).toInt (I' 402 this).toInt (I' 391 this).toInt (I' 393 this).toInt (I' 397 this).toInt (ri' this_a)) ∧ rg r 0 5) := by
  refine Met.ofW (cc := cX12_readText) (maxL := 2) (ret := (some .int)) (by decide) rfl ?_
  intro p e s m args below meth c s₁ B hml hv
  obtain ⟨rfl, hsz, hP, hK, hD0, hN⟩ := hv
  have hx := B.exec
  have hb := B.bytes
  have hr := B.returns
  have hts := atoms_spec (ws := (wa yX12_readText cX12_readText 2 (some .int))) B.pre
  have hown : s.vm.findClass RX12 = some m.cls := findClass_of_methodNamed B.named
  have hlocks := B.notSynchronized
  subst hsz
  have hD : va_D (pq_B t σ (I, J, ri, rj, rq) s.heap.size) (pq_P t σ (I, J, ri, rj, rq)) := hD0.self
  generalize hAe : pq_B t σ (I, J, ri, rj, rq) s.heap.size = A at hD ⊢
  have hA : ∀ q : Nat, s.heap.size ≤ q → A q := fun q h => by rw [← hAe]; exact Or.inr h
  have hS : va_S A s.heap s.heap [] := va_S.rf
  have hG : GM [396, 397, 398, 402, 391, 392, 393, 401] tg σ I ri I ri rq := ⟨hG0, fun _ _ _ => rfl, fun _ _ _ _ _ => rfl, fun _ _ _ _ _ _ => rfl⟩
  have hl := lv_entry ([.ref this]) (n := 2) (Nat.le_of_ble_eq_true rfl)
  rw [lg_entry_eq]
  generalize (lg_sl ([.ref this]) ++ List.replicate (2 - (lg_sl ([.ref this])).length) Slot.unset).toArray = ls at hl ⊢
  have hl : lv_has ls 2 [(0, .ref this)] := hl
  refine q_gen (fun Q hQ => ?_)
  have go : ∀ (H : Heap) (locs : List Loc) (ls : Array Slot), va_P D vwCl (pq_P t σ (I, J, ri, rj, rq)) H → va_D A (pq_P t σ (I, J, ri, rj, rq)) → va_S A s.heap H locs → lv_has ls 2 [(0, .ref this)] → W p l e ({ frames := 9, cells := 0, slots := 0, locals := 202 } : Room) s m (List.toArray ([.ref this] : List Value)) below meth c H locs 0 0 Q (F0 m 0 ls []) := by
    intro H locs ls hP hD hS hl
    have h60 := (GM.z0 hG0 (q := this_a) (by rw [hT_this_a]; decide) (i := 6) (k := 6) (lo := 0) (hi := 10) (by decide) rfl).1
    refine lv_aload_n hx hb dX12_readText_0 rfl (lv_at hl 0 rfl) ?_
    refine lv_sipush (v := 3720) hx hb dX12_readText_1 (by decide) ?_
    refine lv_sipush (v := 900) hx hb dX12_readText_4 (by decide) ?_
    refine lv_aload_n hx hb dX12_readText_7 rfl (lv_at hl 0 rfl) ?_
    refine pg_f (v := .ref this_a) (C := RX12) (T := TX12) (N := 31) hx hb hts (tw_i inlX12) hown hK hP hL_this hK_this (by decide) rfl 0 (by decide) (hts _ (tw_c tw_176)) (pq_hv rfl hR_this_a) dX12_readText_8 ?_
    refine lv_bipush (v := 6) hx hb dX12_readText_11 (by decide) ?_
    refine pl_i hx hb hK hP hL_this_a hK_this_a hN_this_a (vp_in_iff.mpr (by decide)) dX12_readText_13 ?_
    refine lv_tov (ri this_a 6) rfl ?_
    refine lv_imul hx hb dX12_readText_14 ?_
    refine lv_topi (fun x_1 ex_1 => ?_)
    have h_2 : rg x_1 0 8100 := rg_of_eq ex_1 (rg_mul (rg_k (900 : Int32) 900 rfl) ⟨h60, h69⟩ (by decide))
    have uh_2 := h_2.1
    have vh_2 := h_2.2
    have tx_1 : (x_1).toInt = 900 * (ri this_a 6).toInt := by rw [ex_1]; exact i_mul_rg (a2 := 900) (b2 := (ri this_a 6).toInt) rfl rfl (rg_k (900 : Int32) 900 rfl) ⟨h60, h69⟩ (by decide)
    refine lv_iadd hx hb dX12_readText_15 ?_
    refine lv_topi (fun x_3 ex_3 => ?_)
    have h_4 : rg x_3 3720 11820 := rg_of_eq ex_3 (rg_add (rg_k (3720 : Int32) 3720 rfl) h_2 (by decide))
    have uh_4 := h_4.1
    have vh_4 := h_4.2
    have tx_3 : (x_3).toInt = 3720 + (x_1).toInt := by rw [ex_3]; exact i_add_rg (a2 := 3720) (b2 := (x_1).toInt) rfl rfl (rg_k (3720 : Int32) 3720 rfl) h_2 (by decide)
    refine pp_i (v := x_3) (ty := .int) (C := RX12) (T := TX12) (N := 31) hx hb hts (tw_i inlX12) tyX12 tyX12_ok nmX12 hown hK hP hD hS hL_this hK_this (by decide) rfl 12 396 (by decide) (hts _ (tw_c tw_821)) rfl (tyX12_ok 12 (by decide)) rfl rfl (Nat.le_of_ble_eq_true rfl) (ps_396 _ _ _ _ _) dX12_readText_16 (fun I_5 H locs eI_5 hP hD hS => ?_)
    have hG := GM.wI hG 396 rfl eI_5 (rg_w h_4 (by decide)) (by decide)
    have tt_6 : (I_5 396 this).toInt = (x_3).toInt := by rw [eI_5, pq_us]
    have tt_7 : (I_5 398 this).toInt = (I 398 this).toInt := by rw [eI_5, pq_uf _ _ _ (by decide)]
    have tt_8 : (I_5 401 this).toInt = (I 401 this).toInt := by rw [eI_5, pq_uf _ _ _ (by decide)]
    have tt_9 : (I_5 402 this).toInt = (I 402 this).toInt := by rw [eI_5, pq_uf _ _ _ (by decide)]
    have tt_10 : (I_5 391 this).toInt = (I 391 this).toInt := by rw [eI_5, pq_uf _ _ _ (by decide)]
    have tt_11 : (I_5 393 this).toInt = (I 393 this).toInt := by rw [eI_5, pq_uf _ _ _ (by decide)]
    have tt_12 : (I_5 403 this).toInt = (I 403 this).toInt := by rw [eI_5, pq_uf _ _ _ (by decide)]
    have tt_13 : (I_5 397 this).toInt = (I 397 this).toInt := by rw [eI_5, pq_uf _ _ _ (by decide)]
    refine lv_aload_n hx hb dX12_readText_19 rfl (lv_at hl 0 rfl) ?_
    refine lv_iconst (v := 0) hx hb dX12_readText_20 (by decide) ?_
    refine pp_i (v := 0) (ty := .int) (C := RX12) (T := TX12) (N := 31) hx hb hts (tw_i inlX12) tyX12 tyX12_ok nmX12 hown hK hP hD hS hL_this hK_this (by decide) rfl 13 397 (by decide) (hts _ (tw_c tw_822)) rfl (tyX12_ok 13 (by decide)) rfl rfl (Nat.le_of_ble_eq_true rfl) (ps_397 _ _ _ _ _) dX12_readText_21 (fun I_14 H locs eI_14 hP hD hS => ?_)
    have hG := GM.wI hG 397 rfl eI_14 (rg_w (rg_k (0 : Int32) 0 rfl) (by decide)) (by decide)
    have tt_15 : (I_14 396 this).toInt = (I_5 396 this).toInt := by rw [eI_14, pq_uf _ _ _ (by decide)]
    have tt_16 : (I_14 398 this).toInt = (I_5 398 this).toInt := by rw [eI_14, pq_uf _ _ _ (by decide)]
    have tt_17 : (I_14 401 this).toInt = (I_5 401 this).toInt := by rw [eI_14, pq_uf _ _ _ (by decide)]
    have tt_18 : (I_14 402 this).toInt = (I_5 402 this).toInt := by rw [eI_14, pq_uf _ _ _ (by decide)]
    have tt_19 : (I_14 391 this).toInt = (I_5 391 this).toInt := by rw [eI_14, pq_uf _ _ _ (by decide)]
    have tt_20 : (I_14 393 this).toInt = (I_5 393 this).toInt := by rw [eI_14, pq_uf _ _ _ (by decide)]
    have tt_21 : (I_14 403 this).toInt = (I_5 403 this).toInt := by rw [eI_14, pq_uf _ _ _ (by decide)]
    have tt_22 : (I_14 397 this).toInt = 0 := by rw [eI_14, pq_us]; rfl
    refine lv_aload_n hx hb dX12_readText_24 rfl (lv_at hl 0 rfl) ?_
    refine lv_iconst (v := 0) hx hb dX12_readText_25 (by decide) ?_
    refine pp_i (v := 0) (ty := .int) (C := RX12) (T := TX12) (N := 31) hx hb hts (tw_i inlX12) tyX12 tyX12_ok nmX12 hown hK hP hD hS hL_this hK_this (by decide) rfl 14 398 (by decide) (hts _ (tw_c tw_827)) rfl (tyX12_ok 14 (by decide)) rfl rfl (Nat.le_of_ble_eq_true rfl) (ps_398 _ _ _ _ _) dX12_readText_26 (fun I_23 H locs eI_23 hP hD hS => ?_)
    have hG := GM.wI hG 398 rfl eI_23 (rg_w (rg_k (0 : Int32) 0 rfl) (by decide)) (by decide)
    have tt_24 : (I_23 396 this).toInt = (I_14 396 this).toInt := by rw [eI_23, pq_uf _ _ _ (by decide)]
    have tt_25 : (I_23 398 this).toInt = 0 := by rw [eI_23, pq_us]; rfl
    have tt_26 : (I_23 401 this).toInt = (I_14 401 this).toInt := by rw [eI_23, pq_uf _ _ _ (by decide)]
    have tt_27 : (I_23 402 this).toInt = (I_14 402 this).toInt := by rw [eI_23, pq_uf _ _ _ (by decide)]
    have tt_28 : (I_23 391 this).toInt = (I_14 391 this).toInt := by rw [eI_23, pq_uf _ _ _ (by decide)]
    have tt_29 : (I_23 393 this).toInt = (I_14 393 this).toInt := by rw [eI_23, pq_uf _ _ _ (by decide)]
    have tt_30 : (I_23 403 this).toInt = (I_14 403 this).toInt := by rw [eI_23, pq_uf _ _ _ (by decide)]
    have tt_31 : (I_23 397 this).toInt = (I_14 397 this).toInt := by rw [eI_23, pq_uf _ _ _ (by decide)]
    refine lv_aload_n hx hb dX12_readText_29 rfl (lv_at hl 0 rfl) ?_
    refine lv_iconst (v := 0) hx hb dX12_readText_30 (by decide) ?_
    refine pp_i (v := 0) (ty := .int) (C := RX12) (T := TX12) (N := 31) hx hb hts (tw_i inlX12) tyX12 tyX12_ok nmX12 hown hK hP hD hS hL_this hK_this (by decide) rfl 18 402 (by decide) (hts _ (tw_c tw_828)) rfl (tyX12_ok 18 (by decide)) rfl rfl (Nat.le_of_ble_eq_true rfl) (ps_402 _ _ _ _ _) dX12_readText_31 (fun I_32 H locs eI_32 hP hD hS => ?_)
    have hG := GM.wI hG 402 rfl eI_32 (rg_w (rg_k (0 : Int32) 0 rfl) (by decide)) (by decide)
    have tt_33 : (I_32 396 this).toInt = (I_23 396 this).toInt := by rw [eI_32, pq_uf _ _ _ (by decide)]
    have tt_34 : (I_32 398 this).toInt = (I_23 398 this).toInt := by rw [eI_32, pq_uf _ _ _ (by decide)]
    have tt_35 : (I_32 401 this).toInt = (I_23 401 this).toInt := by rw [eI_32, pq_uf _ _ _ (by decide)]
    have tt_36 : (I_32 402 this).toInt = 0 := by rw [eI_32, pq_us]; rfl
    have tt_37 : (I_32 391 this).toInt = (I_23 391 this).toInt := by rw [eI_32, pq_uf _ _ _ (by decide)]
    have tt_38 : (I_32 393 this).toInt = (I_23 393 this).toInt := by rw [eI_32, pq_uf _ _ _ (by decide)]
    have tt_39 : (I_32 403 this).toInt = (I_23 403 this).toInt := by rw [eI_32, pq_uf _ _ _ (by decide)]
    have tt_40 : (I_32 397 this).toInt = (I_23 397 this).toInt := by rw [eI_32, pq_uf _ _ _ (by decide)]
    refine lv_aload_n hx hb dX12_readText_34 rfl (lv_at hl 0 rfl) ?_
    refine lv_iconst (v := 0) hx hb dX12_readText_35 (by decide) ?_
    refine pp_i (v := 0) (ty := .int) (C := RX12) (T := TX12) (N := 31) hx hb hts (tw_i inlX12) tyX12 tyX12_ok nmX12 hown hK hP hD hS hL_this hK_this (by decide) rfl 15 399 (by decide) (hts _ (tw_c tw_829)) rfl (tyX12_ok 15 (by decide)) rfl rfl (Nat.le_of_ble_eq_true rfl) (ps_399 _ _ _ _ _) dX12_readText_36 (fun I_41 H locs eI_41 hP hD hS => ?_)
    have hG := GM.wI hG 399 rfl eI_41 (rg_w (rg_k (0 : Int32) 0 rfl) (by decide)) (by decide)
    have tt_42 : (I_41 396 this).toInt = (I_32 396 this).toInt := by rw [eI_41, pq_uf _ _ _ (by decide)]
    have tt_43 : (I_41 398 this).toInt = (I_32 398 this).toInt := by rw [eI_41, pq_uf _ _ _ (by decide)]
    have tt_44 : (I_41 401 this).toInt = (I_32 401 this).toInt := by rw [eI_41, pq_uf _ _ _ (by decide)]
    have tt_45 : (I_41 402 this).toInt = (I_32 402 this).toInt := by rw [eI_41, pq_uf _ _ _ (by decide)]
    have tt_46 : (I_41 391 this).toInt = (I_32 391 this).toInt := by rw [eI_41, pq_uf _ _ _ (by decide)]
    have tt_47 : (I_41 393 this).toInt = (I_32 393 this).toInt := by rw [eI_41, pq_uf _ _ _ (by decide)]
    have tt_48 : (I_41 403 this).toInt = (I_32 403 this).toInt := by rw [eI_41, pq_uf _ _ _ (by decide)]
    have tt_49 : (I_41 397 this).toInt = (I_32 397 this).toInt := by rw [eI_41, pq_uf _ _ _ (by decide)]
    refine lv_aload_n hx hb dX12_readText_39 rfl (lv_at hl 0 rfl) ?_
    refine lv_iconst (v := 0) hx hb dX12_readText_40 (by decide) ?_
    refine pp_i (v := 0) (ty := .int) (C := RX12) (T := TX12) (N := 31) hx hb hts (tw_i inlX12) tyX12 tyX12_ok nmX12 hown hK hP hD hS hL_this hK_this (by decide) rfl 7 391 (by decide) (hts _ (tw_c tw_830)) rfl (tyX12_ok 7 (by decide)) rfl rfl (Nat.le_of_ble_eq_true rfl) (ps_391 _ _ _ _ _) dX12_readText_41 (fun I_50 H locs eI_50 hP hD hS => ?_)
    have hG := GM.wI hG 391 rfl eI_50 (rg_w (rg_k (0 : Int32) 0 rfl) (by decide)) (by decide)
    have tt_51 : (I_50 396 this).toInt = (I_41 396 this).toInt := by rw [eI_50, pq_uf _ _ _ (by decide)]
    have tt_52 : (I_50 398 this).toInt = (I_41 398 this).toInt := by rw [eI_50, pq_uf _ _ _ (by decide)]
    have tt_53 : (I_50 401 this).toInt = (I_41 401 this).toInt := by rw [eI_50, pq_uf _ _ _ (by decide)]
    have tt_54 : (I_50 402 this).toInt = (I_41 402 this).toInt := by rw [eI_50, pq_uf _ _ _ (by decide)]
    have tt_55 : (I_50 391 this).toInt = 0 := by rw [eI_50, pq_us]; rfl
    have tt_56 : (I_50 393 this).toInt = (I_41 393 this).toInt := by rw [eI_50, pq_uf _ _ _ (by decide)]
    have tt_57 : (I_50 403 this).toInt = (I_41 403 this).toInt := by rw [eI_50, pq_uf _ _ _ (by decide)]
    have tt_58 : (I_50 397 this).toInt = (I_41 397 this).toInt := by rw [eI_50, pq_uf _ _ _ (by decide)]
    refine lv_aload_n hx hb dX12_readText_44 rfl (lv_at hl 0 rfl) ?_
    obtain ⟨w_59, hR_w_59, hL_w_59, hK_w_59, hN_w_59, hT_w_59⟩ := sh_a hSH 387 (ci := 12) (kd := 13) (len := 300) rfl (by decide) hL_this hK_this
    refine pk_v (va_runV (As := []) (rest := []) ⟨hx, hb, hml, hown, hts⟩ (s_X12_nextToken_x l D t σ I_50 J ri rj rq H.size tg hSH hG.1 this hL_this hK_this w_59 hR_w_59 hL_w_59 hK_w_59 hN_w_59 hT_w_59) (cwV 0 hts (tw_V tw_832 tw_833 tw_834 tw_5 tw_835) rfl rfl rfl cv_yX12_nextToken_0 ⟨Nat.le_of_ble_eq_true rfl, Nat.le_of_ble_eq_true rfl⟩) ⟨pq_blind, pq_recv hK hP hL_this hK_this (by decide) rfl, pq_pre hK hN hP hD⟩ rfl rfl hl.1 rfl (lv_room (Nat.le_of_ble_eq_true rfl)) dX12_readText_45 ⟨Nat.le_of_ble_eq_true rfl, Nat.le_of_ble_eq_true rfl⟩) hD hS hA (fun σ1 μ1 H locs hw_61 hP hD hS => ?_)
    obtain ⟨I_62, J_63, hu_64, hg_65, hp_67, hp_68, hp_69⟩ := hw_61
    obtain ⟨hu_64a, hu_64b⟩ := Prod.mk.inj hu_64
    rw [hu_64a, hu_64b] at hP hD
    have tt_70 := hp_67
    have tt_71 := hp_68
    have tt_72 := hp_69
    have tt_73 : (I_62 391 this).toInt ≤ 300 := by have z := hg_65.1.1 391 this; exact z.2
    have hG := GM.tr hG hg_65 (by decide)
    have tt_74 : (I_62 396 this).toInt = (I_50 396 this).toInt := by rw [hg_65.2.1 396 (by decide) (by decide)]
    have tt_75 : (I_62 398 this).toInt = (I_50 398 this).toInt := by rw [hg_65.2.1 398 (by decide) (by decide)]
    have tt_76 : (I_62 401 this).toInt = (I_50 401 this).toInt := by rw [hg_65.2.1 401 (by decide) (by decide)]
    have tt_77 : (I_62 402 this).toInt = (I_50 402 this).toInt := by rw [hg_65.2.1 402 (by decide) (by decide)]
    have tt_78 : (I_62 397 this).toInt = (I_50 397 this).toInt := by rw [hg_65.2.1 397 (by decide) (by decide)]
    have L_170 : ∀ (n_169 : Nat) (I_145 : Nat → Nat → Int32) (J_146 : Nat → Nat → Int64) (ri_147 : Nat → Nat → Int32) (H : Heap) (locs : List Loc) (ls : Array Slot), (CLz (I_145 396 this).toInt (I_145 398 this).toInt (I_145 402 this).toInt (I_145 391 this).toInt (I_145 393 this).toInt (I_145 397 this).toInt (ri_147 this_a)) → (tmM (I_145 391 this).toInt (I_145 393 this).toInt).toNat < n_169 → GM [396, 397, 398, 402, 391, 392, 393, 401] tg σ I ri I_145 ri_147 rq → va_P D vwCl (pq_P t σ (I_145, J_146, ri_147, rj, rq)) H → va_D A (pq_P t σ (I_145, J_146, ri_147, rj, rq)) → va_S A s.heap H locs → lv_has ls 2 [(0, .ref this)] → W p l e ({ frames := 9, cells := 0, slots := 0, locals := 202 } : Room) s m (List.toArray ([.ref this] : List Value)) below meth c H locs 0 0 Q (F0 m 48 ls []) := by
      intro n_169
      induction n_169 with
      | zero => intro I_145 J_146 ri_147 H locs ls hrel_173 hm_168 hG hP hD hS hl; exact absurd hm_168 (Nat.not_lt_zero _)
      | succ n_169 ih_171 =>
        intro I_145 J_146 ri_147 H locs ls hrel_173 hm_168 hG hP hD hS hl
        refine lv_aload_n hx hb dX12_readText_48 rfl (lv_at hl 0 rfl) ?_
        refine pg_f (v := .int (I_145 393 this)) (C := RX12) (T := TX12) (N := 31) hx hb hts (tw_i inlX12) hown hK hP hL_this hK_this (by decide) rfl 9 (by decide) (hts _ (tw_c tw_831)) rfl dX12_readText_49 ?_
        refine lv_if_eq (tgt := 69) hx hb dX12_readText_52 (by decide) (fun c_174 => ?_) (fun c_174 => ?_)
        · have tc_175 : (I_145 393 this).toInt = 0 := congrArg Int32.toInt c_174
          have h_176 : rg (I_145 393 this) 0 0 := rg_and (rg_full _) (rg_of_eq c_174 (rg_k (0 : Int32) 0 rfl)) (by decide)
          have uh_176 := h_176.1
          have vh_176 := h_176.2
          refine lv_iconst (v := 0) hx hb dX12_readText_69 (by decide) ?_
          subst hQ
          exact W.iret (v := 0) hx hb hr (fun t1 ht hW => ⟨⟨0, (σ, I_145, J_146, ri_147, rj, rq), rfl, ⟨I_145, J_146, ri_147, rfl, hG, (Or.inr hrel_173), (rg_w (rg_k (0 : Int32) 0 rfl) (by decide))⟩, by rw [ht]; exact hP, va_K.moved hW.alike hK, hD⟩, hS.F ht⟩) hS.2.2 dX12_readText_70
        · have tc_177 : (I_145 393 this).toInt ≠ 0 := fun q => c_174 (Int32.toInt_inj.mp q)
          refine lv_aload_n hx hb dX12_readText_55 rfl (lv_at hl 0 rfl) ?_
          refine pk_i (va_runV (As := []) (rest := []) ⟨hx, hb, hml, hown, hts⟩ (s_X12_clause l D t σ I_145 J_146 ri_147 rj rq H.size tg hSH hG.1 this hL_this hK_this this_a hR_this_a hL_this_a hK_this_a hN_this_a hT_this_a this_pile hR_this_pile hL_this_pile hK_this_pile hN_this_pile hT_this_pile (by assumption)) (cwV 0 hts (tw_V tw_849 tw_850 tw_851 tw_5 tw_852) rfl rfl rfl cv_yX12_clause_0 ⟨Nat.le_of_ble_eq_true rfl, Nat.le_of_ble_eq_true rfl⟩) ⟨pq_blind, pq_recv hK hP hL_this hK_this (by decide) rfl, pq_pre hK hN hP hD⟩ rfl rfl hl.1 rfl (lv_room (Nat.le_of_ble_eq_true rfl)) dX12_readText_56 ⟨Nat.le_of_ble_eq_true rfl, Nat.le_of_ble_eq_true rfl⟩) hD hS hA (fun x_178 σ1 μ1 H locs hw_179 hP hD hS => ?_)
          obtain ⟨I_180, J_181, ri_182, hu_183, hg_184, hp_186, hr_185⟩ := hw_179
          obtain ⟨hu_183a, hu_183b⟩ := Prod.mk.inj hu_183
          rw [hu_183a, hu_183b] at hP hD
          have hG := GM.tr hG hg_184 (by decide)
          have tt_187 : (I_180 396 this).toInt = (I_145 396 this).toInt := by rw [hg_184.2.1 396 (by decide) (by decide)]
          refine lv_istore_n (lv' := [(1, .int x_178), (0, .ref this)]) hx hb dX12_readText_59 rfl hl (by decide) rfl (fun ls hl => ?_)
          refine lv_iload_n hx hb dX12_readText_60 rfl (lv_at hl 0 rfl) ?_
          refine lv_if_eq (tgt := 66) hx hb dX12_readText_61 (by decide) (fun c_188 => ?_) (fun c_188 => ?_)
          · have tc_189 : (x_178).toInt = 0 := congrArg Int32.toInt c_188
            have h_190 : rg x_178 0 0 := rg_and hr_185 (rg_of_eq c_188 (rg_k (0 : Int32) 0 rfl)) (by decide)
            have uh_190 := h_190.1
            have vh_190 := h_190.2
            refine lv_goto (tgt := 48) hx hb dX12_readText_66 (by decide) ?_
            exact ih_171 I_180 J_181 ri_182 _ _ _ (hp_186.resolve_left (fun q => q (by omega))).1 (tm_ms hm_168 (hp_186.resolve_left (fun q => q (by omega))).2 (tm_b ((hG.1.1 391 this).2))) hG hP hD hS (lv_sub hl [1] rfl)
          · have tc_191 : (x_178).toInt ≠ 0 := fun q => c_188 (Int32.toInt_inj.mp q)
            have h_192 : rg x_178 1 5 := rg_ne c_188 hr_185 0 rfl (by decide)
            have uh_192 := h_192.1
            have vh_192 := h_192.2
            refine lv_iload_n hx hb dX12_readText_64 rfl (lv_at hl 0 rfl) ?_
            subst hQ
            exact W.iret (v := x_178) hx hb hr (fun t1 ht hW => ⟨⟨x_178, (σ, I_180, J_181, ri_182, rj, rq), rfl, ⟨I_180, J_181, ri_182, rfl, hG, (Or.inl (by omega)), (rg_w h_192 (by decide))⟩, by rw [ht]; exact hP, va_K.moved hW.alike hK, hD⟩, hS.F ht⟩) hS.2.2 dX12_readText_65
    exact L_170 _ I_62 J_63 ri _ _ _ (CLz_mk (by omega) (by rw [show (I_62 397 this).toInt = 0 from by omega]; exact TXQ_0) (by omega) (by omega) (by omega) (fun q => by omega) (by omega)) (Nat.lt_succ_self _) hG hP hD hS (lv_sub hl [0] rfl)
  exact go _ _ _ hP hD hS hl

set_option maxHeartbeats 4000000 in
set_option maxRecDepth 100000 in
theorem s_X12_text (l : Launch) (D : va_G) (t : pq_T) (σ : pq_S) (I : Nat → Nat → Int32) (J : Nat → Nat → Int64) (ri : Nat → Nat → Int32) (rj : Nat → Nat → Int64) (rq : Nat → Nat → Option Nat) (sz : Nat) (tg : Nat → Nat) (hSH : SH σ tg) (hG0 : GT tg I ri) (this : Nat) (hL_this : this ∈ σ.1) (hK_this : σ.2.1 this = 12) (this_a : Nat) (hR_this_a : σ.2.2.1 384 this = some this_a) (hL_this_a : this_a ∈ σ.1) (hK_this_a : σ.2.1 this_a = 13) (hN_this_a : σ.2.2.2 this_a = 12720) (hT_this_a : tg this_a = 384) : MetI l yX12_text (wa yX12_text cX12_text 1 (some .int)) ({ frames := 10, cells := 0, slots := 0, locals := 223 }) [.ref this] D t σ (I, J, ri, rj, rq) sz 0 0 (fun (r : Int32) (u : pq_S × pq_M) => ∃ I' : Nat → Nat → Int32, ∃ J' : Nat → Nat → Int64, ∃ ri' : Nat → Nat → Int32, u = (σ, I', J', ri', rj, rq) ∧ GM [396, 397, 398, 402, 391, 392, 393, 401, 388, 1006] tg σ I ri I' ri' rq ∧ rg r (-1) 9) := by
  refine Met.ofW (cc := cX12_text) (maxL := 1) (ret := (some .int)) (by decide) rfl ?_
  intro p e s m args below meth c s₁ B hml hv
  obtain ⟨rfl, hsz, hP, hK, hD0, hN⟩ := hv
  have hx := B.exec
  have hb := B.bytes
  have hr := B.returns
  have hts := atoms_spec (ws := (wa yX12_text cX12_text 1 (some .int))) B.pre
  have hown : s.vm.findClass RX12 = some m.cls := findClass_of_methodNamed B.named
  have hlocks := B.notSynchronized
  subst hsz
  have hD : va_D (pq_B t σ (I, J, ri, rj, rq) s.heap.size) (pq_P t σ (I, J, ri, rj, rq)) := hD0.self
  generalize hAe : pq_B t σ (I, J, ri, rj, rq) s.heap.size = A at hD ⊢
  have hA : ∀ q : Nat, s.heap.size ≤ q → A q := fun q h => by rw [← hAe]; exact Or.inr h
  have hS : va_S A s.heap s.heap [] := va_S.rf
  have hG : GM [396, 397, 398, 402, 391, 392, 393, 401, 388, 1006] tg σ I ri I ri rq := ⟨hG0, fun _ _ _ => rfl, fun _ _ _ _ _ => rfl, fun _ _ _ _ _ _ => rfl⟩
  have hl := lv_entry ([.ref this]) (n := 1) (Nat.le_of_ble_eq_true rfl)
  rw [lg_entry_eq]
  generalize (lg_sl ([.ref this]) ++ List.replicate (1 - (lg_sl ([.ref this])).length) Slot.unset).toArray = ls at hl ⊢
  have hl : lv_has ls 1 [(0, .ref this)] := hl
  refine q_gen (fun Q hQ => ?_)
  have go : ∀ (H : Heap) (locs : List Loc) (ls : Array Slot), va_P D vwCl (pq_P t σ (I, J, ri, rj, rq)) H → va_D A (pq_P t σ (I, J, ri, rj, rq)) → va_S A s.heap H locs → lv_has ls 1 [(0, .ref this)] → W p l e ({ frames := 10, cells := 0, slots := 0, locals := 223 } : Room) s m (List.toArray ([.ref this] : List Value)) below meth c H locs 0 0 Q (F0 m 0 ls []) := by
    intro H locs ls hP hD hS hl
    refine lv_aload_n hx hb dX12_text_0 rfl (lv_at hl 0 rfl) ?_
    refine pg_f (v := .ref this_a) (C := RX12) (T := TX12) (N := 31) hx hb hts (tw_i inlX12) hown hK hP hL_this hK_this (by decide) rfl 0 (by decide) (hts _ (tw_c tw_176)) (pq_hv rfl hR_this_a) dX12_text_1 ?_
    refine lv_bipush (v := 6) hx hb dX12_text_4 (by decide) ?_
    refine pl_i hx hb hK hP hL_this_a hK_this_a hN_this_a (vp_in_iff.mpr (by decide)) dX12_text_6 ?_
    refine lv_topi (fun x_1 ex_1 => ?_)
    have ex_1 : x_1 = ri this_a ((6 : Int32)).toNatClampNeg := ex_1
    have h_2 : rg x_1 0 10 := rg_of_eq ex_1 (GM.z hG (by rw [hT_this_a]; decide) (show zn ((6 : Int32)).toNatClampNeg = 6 from by decide) rfl)
    have uh_2 := h_2.1
    have vh_2 := h_2.2
    refine lv_bipush (v := 10) hx hb dX12_text_7 (by decide) ?_
    refine lv_icmp_ne (tgt := 14) hx hb dX12_text_9 (by decide) (fun c_3 => ?_) (fun c_3 => ?_)
    · have tc_4 : (x_1).toInt ≠ 10 := fun q => c_3 (Int32.toInt_inj.mp q)
      have h_5 : rg x_1 0 9 := rg_ne c_3 h_2 10 rfl (by decide)
      have uh_5 := h_5.1
      have vh_5 := h_5.2
      have t6 : (ri this_a 6).toInt = (x_1).toInt := congrArg Int32.toInt (show ri this_a 6 = x_1 from ex_1.symm)
      refine lv_aload_n hx hb dX12_text_14 rfl (lv_at hl 0 rfl) ?_
      refine lv_aload_n hx hb dX12_text_15 rfl (lv_at hl 0 rfl) ?_
      obtain ⟨w_6, hR_w_6, hL_w_6, hK_w_6, hN_w_6, hT_w_6⟩ := sh_a hSH 400 (ci := 12) (kd := 13) (len := 160) rfl (by decide) hL_this hK_this
      refine pk_i (va_runV (As := []) (rest := [.ref this]) ⟨hx, hb, hml, hown, hts⟩ (s_X12_readText l D t σ I J ri rj rq H.size tg hSH hG.1 this hL_this hK_this this_a hR_this_a hL_this_a hK_this_a hN_this_a hT_this_a w_6 hR_w_6 hL_w_6 hK_w_6 hN_w_6 hT_w_6 (by omega)) (cwV 0 hts (tw_V tw_823 tw_824 tw_825 tw_5 tw_826) rfl rfl rfl cv_yX12_readText_0 ⟨Nat.le_of_ble_eq_true rfl, Nat.le_of_ble_eq_true rfl⟩) ⟨pq_blind, pq_recv hK hP hL_this hK_this (by decide) rfl, pq_pre hK hN hP hD⟩ rfl rfl hl.1 rfl (lv_room (Nat.le_of_ble_eq_true rfl)) dX12_text_16 ⟨Nat.le_of_ble_eq_true rfl, Nat.le_of_ble_eq_true rfl⟩) hD hS hA (fun x_7 σ1 μ1 H locs hw_8 hP hD hS => ?_)
      obtain ⟨I_9, J_10, ri_11, hu_12, hg_13, hp_15, hr_14⟩ := hw_8
      obtain ⟨hu_12a, hu_12b⟩ := Prod.mk.inj hu_12
      rw [hu_12a, hu_12b] at hP hD
      have hG := GM.tr hG hg_13 (by decide)
      refine pp_i (v := x_7) (ty := .int) (C := RX12) (T := TX12) (N := 31) hx hb hts (tw_i inlX12) tyX12 tyX12_ok nmX12 hown hK hP hD hS hL_this hK_this (by decide) rfl 5 389 (by decide) (hts _ (tw_c tw_180)) rfl (tyX12_ok 5 (by decide)) rfl rfl (Nat.le_of_ble_eq_true rfl) (ps_389 _ _ _ _ _) dX12_text_19 (fun I_16 H locs eI_16 hP hD hS => ?_)
      have hG := GM.wI hG 389 rfl eI_16 (rg_w hr_14 (by decide)) (by decide)
      have tt_17 : (I_16 389 this).toInt = (x_7).toInt := by rw [eI_16, pq_us]
      have tt_18 : (I_16 396 this).toInt = (I_9 396 this).toInt := by rw [eI_16, pq_uf _ _ _ (by decide)]
      have tt_19 : (I_16 397 this).toInt = (I_9 397 this).toInt := by rw [eI_16, pq_uf _ _ _ (by decide)]
      have tt_20 : (I_16 398 this).toInt = (I_9 398 this).toInt := by rw [eI_16, pq_uf _ _ _ (by decide)]
      refine lv_aload_n hx hb dX12_text_22 rfl (lv_at hl 0 rfl) ?_
      refine lv_aload_n hx hb dX12_text_23 rfl (lv_at hl 0 rfl) ?_
      refine pg_f (v := .int (I_16 389 this)) (C := RX12) (T := TX12) (N := 31) hx hb hts (tw_i inlX12) hown hK hP hL_this hK_this (by decide) rfl 5 (by decide) (hts _ (tw_c tw_180)) rfl dX12_text_24 ?_
      have h_21 : rg (I_16 389 this) 0 5 := (by rw [eI_16, pq_us]; exact hr_14)
      have uh_21 := h_21.1
      have vh_21 := h_21.2
      refine lv_if_ne (tgt := 34) hx hb dX12_text_27 (by decide) (fun c_22 => ?_) (fun c_22 => ?_)
      · have tc_23 : (I_16 389 this).toInt ≠ 0 := fun q => c_22 (Int32.toInt_inj.mp q)
        have h_24 : rg (I_16 389 this) 1 5 := rg_ne c_22 h_21 0 rfl (by decide)
        have uh_24 := h_24.1
        have vh_24 := h_24.2
        refine lv_aload_n hx hb dX12_text_34 rfl (lv_at hl 0 rfl) ?_
        refine pg_f (v := .int (I_16 392 this)) (C := RX12) (T := TX12) (N := 31) hx hb hts (tw_i inlX12) hown hK hP hL_this hK_this (by decide) rfl 8 (by decide) (hts _ (tw_c tw_820)) rfl dX12_text_35 ?_
        have h_25 : rg (I_16 392 this) 0 300 := GM.rI hG 392 rfl
        have uh_25 := h_25.1
        have vh_25 := h_25.2
        refine pp_i (v := (I_16 392 this)) (ty := .int) (C := RX12) (T := TX12) (N := 31) hx hb hts (tw_i inlX12) tyX12 tyX12_ok nmX12 hown hK hP hD hS hL_this hK_this (by decide) rfl 6 390 (by decide) (hts _ (tw_c tw_181)) rfl (tyX12_ok 6 (by decide)) rfl rfl (Nat.le_of_ble_eq_true rfl) (ps_390 _ _ _ _ _) dX12_text_38 (fun I_26 H locs eI_26 hP hD hS => ?_)
        have hG := GM.wI hG 390 rfl eI_26 (rg_w h_25 (by decide)) (by decide)
        have tt_27 : (I_26 389 this).toInt = (I_16 389 this).toInt := by rw [eI_26, pq_uf _ _ _ (by decide)]
        have tt_28 : (I_26 396 this).toInt = (I_16 396 this).toInt := by rw [eI_26, pq_uf _ _ _ (by decide)]
        have tt_29 : (I_26 397 this).toInt = (I_16 397 this).toInt := by rw [eI_26, pq_uf _ _ _ (by decide)]
        have tt_30 : (I_26 398 this).toInt = (I_16 398 this).toInt := by rw [eI_26, pq_uf _ _ _ (by decide)]
        refine lv_aload_n hx hb dX12_text_41 rfl (lv_at hl 0 rfl) ?_
        refine lv_iconst (v := 0) hx hb dX12_text_42 (by decide) ?_
        refine pp_i (v := 0) (ty := .int) (C := RX12) (T := TX12) (N := 31) hx hb hts (tw_i inlX12) tyX12 tyX12_ok nmX12 hown hK hP hD hS hL_this hK_this (by decide) rfl 4 388 (by decide) (hts _ (tw_c tw_631)) rfl (tyX12_ok 4 (by decide)) rfl rfl (Nat.le_of_ble_eq_true rfl) (ps_388 _ _ _ _ _) dX12_text_43 (fun I_31 H locs eI_31 hP hD hS => ?_)
        have hG := GM.wI hG 388 rfl eI_31 (rg_w (rg_k (0 : Int32) 0 rfl) (by decide)) (by decide)
        have tt_32 : (I_31 389 this).toInt = (I_26 389 this).toInt := by rw [eI_31, pq_uf _ _ _ (by decide)]
        have tt_33 : (I_31 396 this).toInt = (I_26 396 this).toInt := by rw [eI_31, pq_uf _ _ _ (by decide)]
        have tt_34 : (I_31 397 this).toInt = (I_26 397 this).toInt := by rw [eI_31, pq_uf _ _ _ (by decide)]
        have tt_35 : (I_31 398 this).toInt = (I_26 398 this).toInt := by rw [eI_31, pq_uf _ _ _ (by decide)]
        refine lv_aload_n hx hb dX12_text_46 rfl (lv_at hl 0 rfl) ?_
        refine pg_f (v := .int (I_31 389 this)) (C := RX12) (T := TX12) (N := 31) hx hb hts (tw_i inlX12) hown hK hP hL_this hK_this (by decide) rfl 5 (by decide) (hts _ (tw_c tw_180)) rfl dX12_text_47 ?_
        have h_36 : rg (I_31 389 this) 1 5 := (by rw [eI_31, pq_uf _ _ _ (by decide)]; exact (by rw [eI_26, pq_uf _ _ _ (by decide)]; exact h_24))
        have uh_36 := h_36.1
        have vh_36 := h_36.2
        refine lv_if_eq (tgt := 55) hx hb dX12_text_50 (by decide) (fun c_37 => ?_) (fun c_37 => ?_)
        · have tc_38 : (I_31 389 this).toInt = 0 := congrArg Int32.toInt c_37
          exact (rg_empty (rg_and h_36 (rg_of_eq c_37 (rg_k (0 : Int32) 0 rfl)) (lo := 1) (hi := 0) (by decide)) (by decide)).elim
        · have tc_39 : (I_31 389 this).toInt ≠ 0 := fun q => c_37 (Int32.toInt_inj.mp q)
          refine lv_iconst (v := (-1)) hx hb dX12_text_53 (by decide) ?_
          subst hQ
          exact W.iret (v := (-1)) hx hb hr (fun t1 ht hW => ⟨⟨(-1), (σ, I_31, J_10, ri_11, rj, rq), rfl, ⟨I_31, J_10, ri_11, rfl, hG, (rg_w (rg_k (-1 : Int32) (-1) rfl) (by decide))⟩, by rw [ht]; exact hP, va_K.moved hW.alike hK, hD⟩, hS.F ht⟩) hS.2.2 dX12_text_54
      · have tc_40 : (I_16 389 this).toInt = 0 := congrArg Int32.toInt c_22
        have h_41 : rg (I_16 389 this) 0 0 := rg_and h_21 (rg_of_eq c_22 (rg_k (0 : Int32) 0 rfl)) (by decide)
        have uh_41 := h_41.1
        have vh_41 := h_41.2
        refine lv_iconst (v := (-1)) hx hb dX12_text_30 (by decide) ?_
        refine lv_goto (tgt := 38) hx hb dX12_text_31 (by decide) ?_
        refine pp_i (v := (-1)) (ty := .int) (C := RX12) (T := TX12) (N := 31) hx hb hts (tw_i inlX12) tyX12 tyX12_ok nmX12 hown hK hP hD hS hL_this hK_this (by decide) rfl 6 390 (by decide) (hts _ (tw_c tw_181)) rfl (tyX12_ok 6 (by decide)) rfl rfl (Nat.le_of_ble_eq_true rfl) (ps_390 _ _ _ _ _) dX12_text_38 (fun I_42 H locs eI_42 hP hD hS => ?_)
        have hG := GM.wI hG 390 rfl eI_42 (rg_w (rg_k (-1 : Int32) (-1) rfl) (by decide)) (by decide)
        have tt_43 : (I_42 389 this).toInt = (I_16 389 this).toInt := by rw [eI_42, pq_uf _ _ _ (by decide)]
        have tt_44 : (I_42 396 this).toInt = (I_16 396 this).toInt := by rw [eI_42, pq_uf _ _ _ (by decide)]
        have tt_45 : (I_42 397 this).toInt = (I_16 397 this).toInt := by rw [eI_42, pq_uf _ _ _ (by decide)]
        have tt_46 : (I_42 398 this).toInt = (I_16 398 this).toInt := by rw [eI_42, pq_uf _ _ _ (by decide)]
        refine lv_aload_n hx hb dX12_text_41 rfl (lv_at hl 0 rfl) ?_
        refine lv_iconst (v := 0) hx hb dX12_text_42 (by decide) ?_
        refine pp_i (v := 0) (ty := .int) (C := RX12) (T := TX12) (N := 31) hx hb hts (tw_i inlX12) tyX12 tyX12_ok nmX12 hown hK hP hD hS hL_this hK_this (by decide) rfl 4 388 (by decide) (hts _ (tw_c tw_631)) rfl (tyX12_ok 4 (by decide)) rfl rfl (Nat.le_of_ble_eq_true rfl) (ps_388 _ _ _ _ _) dX12_text_43 (fun I_47 H locs eI_47 hP hD hS => ?_)
        have hG := GM.wI hG 388 rfl eI_47 (rg_w (rg_k (0 : Int32) 0 rfl) (by decide)) (by decide)
        have tt_48 : (I_47 389 this).toInt = (I_42 389 this).toInt := by rw [eI_47, pq_uf _ _ _ (by decide)]
        have tt_49 : (I_47 396 this).toInt = (I_42 396 this).toInt := by rw [eI_47, pq_uf _ _ _ (by decide)]
        have tt_50 : (I_47 397 this).toInt = (I_42 397 this).toInt := by rw [eI_47, pq_uf _ _ _ (by decide)]
        have tt_51 : (I_47 398 this).toInt = (I_42 398 this).toInt := by rw [eI_47, pq_uf _ _ _ (by decide)]
        refine lv_aload_n hx hb dX12_text_46 rfl (lv_at hl 0 rfl) ?_
        refine pg_f (v := .int (I_47 389 this)) (C := RX12) (T := TX12) (N := 31) hx hb hts (tw_i inlX12) hown hK hP hL_this hK_this (by decide) rfl 5 (by decide) (hts _ (tw_c tw_180)) rfl dX12_text_47 ?_
        have h_52 : rg (I_47 389 this) 0 0 := (by rw [eI_47, pq_uf _ _ _ (by decide)]; exact (by rw [eI_42, pq_uf _ _ _ (by decide)]; exact h_41))
        have uh_52 := h_52.1
        have vh_52 := h_52.2
        refine lv_if_eq (tgt := 55) hx hb dX12_text_50 (by decide) (fun c_53 => ?_) (fun c_53 => ?_)
        · have tc_54 : (I_47 389 this).toInt = 0 := congrArg Int32.toInt c_53
          have hcl := hp_15.resolve_left (fun q => q (by omega))
          have hc1 := hcl.1
          have hc3 := hcl.2.2.1
          have hc5 := hcl.2.2.2.2
          have h66 : ri_11 this_a 6 = ri this_a 6 := hg_13.2.2.1 this_a hT_this_a 6 (by decide) (by decide)
          have ce6 := clampE (ri_11 this_a 6)
          have h60 := (GM.z0 hG0 (q := this_a) (by rw [hT_this_a]; decide) (i := 6) (k := 6) (lo := 0) (hi := 10) (by decide) rfl).1
          have t66 := congrArg Int32.toInt h66
          have h69 : rg (ri this_a 6) 0 9 := ⟨h60, by omega⟩
          refine lv_aload_n hx hb dX12_text_55 rfl (lv_at hl 0 rfl) ?_
          refine pg_f (v := .ref this_a) (C := RX12) (T := TX12) (N := 31) hx hb hts (tw_i inlX12) hown hK hP hL_this hK_this (by decide) rfl 0 (by decide) (hts _ (tw_c tw_176)) (pq_hv rfl hR_this_a) dX12_text_56 ?_
          refine lv_aload_n hx hb dX12_text_59 rfl (lv_at hl 0 rfl) ?_
          refine pg_f (v := .int (I_47 396 this)) (C := RX12) (T := TX12) (N := 31) hx hb hts (tw_i inlX12) hown hK hP hL_this hK_this (by decide) rfl 12 (by decide) (hts _ (tw_c tw_821)) rfl dX12_text_60 ?_
          have h_55 : rg (I_47 396 this) 0 11820 := GM.rI hG 396 rfl
          have uh_55 := h_55.1
          have vh_55 := h_55.2
          refine lv_aload_n hx hb dX12_text_63 rfl (lv_at hl 0 rfl) ?_
          refine pg_f (v := .int (I_47 397 this)) (C := RX12) (T := TX12) (N := 31) hx hb hts (tw_i inlX12) hown hK hP hL_this hK_this (by decide) rfl 13 (by decide) (hts _ (tw_c tw_822)) rfl dX12_text_64 ?_
          have h_56 : rg (I_47 397 this) 0 20 := GM.rI hG 397 rfl
          have uh_56 := h_56.1
          have vh_56 := h_56.2
          have h_57 : rg (I_47 396 this) 3720 11820 := ⟨by omega, by omega⟩
          have uh_57 := h_57.1
          have vh_57 := h_57.2
          refine pt_i hx hb hK hP hD hS hL_this_a hK_this_a hN_this_a (rg_in h_57 (by decide)) dX12_text_67 (fun r_58 H locs er_58 hP hD hS => ?_)
          have hG := GM.wt hG hT_this_a (by decide) er_58 (zn_t0 (t := (ri this_a 6).toNatClampNeg) (by have z_i := clampE (I_47 396 this); have z_0 := clampE (ri this_a 6); omega) (rg_cl1 h69 (by decide))) rfl (rg_w h_56 (by decide)) (by have z_i := clampE (I_47 396 this); omega) (by decide)
          have h_59 : r_58 this_a 6 = x_1 := cz_ne er_58 (zn_t0 (t := (ri this_a 6).toNatClampNeg) (by have z_i := clampE (I_47 396 this); have z_0 := clampE (ri this_a 6); omega) (rg_cl1 h69 (by decide))) (by decide) (by decide) ((hg_13.2.2.1 this_a hT_this_a 6 (by decide) (by decide)).trans ex_1.symm)
          refine lv_aload_n hx hb dX12_text_68 rfl (lv_at hl 0 rfl) ?_
          refine pg_f (v := .ref this_a) (C := RX12) (T := TX12) (N := 31) hx hb hts (tw_i inlX12) hown hK hP hL_this hK_this (by decide) rfl 0 (by decide) (hts _ (tw_c tw_176)) (pq_hv rfl hR_this_a) dX12_text_69 ?_
          refine lv_bipush (v := 6) hx hb dX12_text_72 (by decide) ?_
          refine lv_dup2_11 hx hb dX12_text_74 rfl rfl ?_
          refine pl_i hx hb hK hP hL_this_a hK_this_a hN_this_a (vp_in_iff.mpr (by decide)) dX12_text_75 ?_
          refine lv_tov x_1 h_59 ?_
          refine lv_iconst (v := 1) hx hb dX12_text_76 (by decide) ?_
          refine lv_iadd hx hb dX12_text_77 ?_
          refine lv_topi (fun x_60 ex_60 => ?_)
          have h_61 : rg x_60 1 10 := rg_of_eq ex_60 (rg_add h_5 (rg_k (1 : Int32) 1 rfl) (by decide))
          have uh_61 := h_61.1
          have vh_61 := h_61.2
          have tx_60 : (x_60).toInt = (x_1).toInt + 1 := by rw [ex_60]; exact i_add_rg (a2 := (x_1).toInt) (b2 := 1) rfl rfl h_5 (rg_k (1 : Int32) 1 rfl) (by decide)
          refine pt_i hx hb hK hP hD hS hL_this_a hK_this_a hN_this_a (vp_in_iff.mpr (by decide)) dX12_text_78 (fun r_62 H locs er_62 hP hD hS => ?_)
          have hz6 : (x_1).toInt = (r_58 this_a 6).toInt := (congrArg Int32.toInt (show r_58 this_a 6 = x_1 from h_59)).symm
          have h76 : r_58 this_a 6 = ri this_a 6 := h_59.trans ex_1
          have t76 := congrArg Int32.toInt h76
          have hq6 : TXQ (r_58 this_a) 300 (r_58 this_a (3720 + 900 * (r_58 this_a 6).toNatClampNeg)).toInt := TXQ_end (i := ((I_47 396 this)).toNatClampNeg) hcl.2.1 (by omega) (by omega) ⟨by omega, by omega⟩ (by have z0 := clampE (I_47 396 this); omega) ((congrFun er_58 _).trans (va_up_self _ _ _)) (by omega)
          have hG := GM.w6 hG hT_this_a (by decide) er_62 rfl (by omega) (by omega) hq6 (by decide)
          have h_63 : r_62 this_a 6 = x_60 := cz_eq er_62
          refine lv_aload_n hx hb dX12_text_79 rfl (lv_at hl 0 rfl) ?_
          refine pg_f (v := .ref this_a) (C := RX12) (T := TX12) (N := 31) hx hb hts (tw_i inlX12) hown hK hP hL_this hK_this (by decide) rfl 0 (by decide) (hts _ (tw_c tw_176)) (pq_hv rfl hR_this_a) dX12_text_80 ?_
          refine lv_bipush (v := 6) hx hb dX12_text_83 (by decide) ?_
          refine pl_i hx hb hK hP hL_this_a hK_this_a hN_this_a (vp_in_iff.mpr (by decide)) dX12_text_85 ?_
          refine lv_tov x_60 h_63 ?_
          refine lv_iconst (v := 1) hx hb dX12_text_86 (by decide) ?_
          refine lv_isub hx hb dX12_text_87 ?_
          refine lv_topi (fun x_64 ex_64 => ?_)
          have h_65 : rg x_64 0 9 := rg_of_eq ex_64 (rg_sub h_61 (rg_k (1 : Int32) 1 rfl) (by decide))
          have uh_65 := h_65.1
          have vh_65 := h_65.2
          have tx_64 : (x_64).toInt = (x_60).toInt - 1 := by rw [ex_64]; exact i_sub_rg (a2 := (x_60).toInt) (b2 := 1) rfl rfl h_61 (rg_k (1 : Int32) 1 rfl) (by decide)
          subst hQ
          exact W.iret (v := x_64) hx hb hr (fun t1 ht hW => ⟨⟨x_64, (σ, I_47, J_10, r_62, rj, rq), rfl, ⟨I_47, J_10, r_62, rfl, hG, (rg_w h_65 (by decide))⟩, by rw [ht]; exact hP, va_K.moved hW.alike hK, hD⟩, hS.F ht⟩) hS.2.2 dX12_text_88
        · have tc_66 : (I_47 389 this).toInt ≠ 0 := fun q => c_53 (Int32.toInt_inj.mp q)
          exact (rg_empty (rg_ne c_53 h_52 0 rfl (lo := 1) (hi := (-1)) (by decide)) (by decide)).elim
    · have tc_67 : (x_1).toInt = 10 := congrArg Int32.toInt c_3
      have h_68 : rg x_1 10 10 := rg_and h_2 (rg_of_eq c_3 (rg_k (10 : Int32) 10 rfl)) (by decide)
      have uh_68 := h_68.1
      have vh_68 := h_68.2
      refine lv_iconst (v := (-1)) hx hb dX12_text_12 (by decide) ?_
      subst hQ
      exact W.iret (v := (-1)) hx hb hr (fun t1 ht hW => ⟨⟨(-1), (σ, I, J, ri, rj, rq), rfl, ⟨I, J, ri, rfl, hG, (rg_w (rg_k (-1 : Int32) (-1) rfl) (by decide))⟩, by rw [ht]; exact hP, va_K.moved hW.alike hK, hD⟩, hS.F ht⟩) hS.2.2 dX12_text_13
  exact go _ _ _ hP hD hS hl
