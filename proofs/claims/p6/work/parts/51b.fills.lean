set_option maxHeartbeats 4000000 in
set_option maxRecDepth 100000 in
theorem s_X11_fill_79 (l : Launch) (D : va_G) (t : pq_T) (σ : pq_S) (I : Nat → Nat → Int32) (J : Nat → Nat → Int64) (ri : Nat → Nat → Int32) (rj : Nat → Nat → Int64) (rq : Nat → Nat → Option Nat) (sz : Nat) (tg : Nat → Nat) (hSH : SH σ tg) (hG0 : GS tg σ I ri rq) (a0 : Nat) (a1 : Int32) (hL_a0 : a0 ∈ σ.1) (hK_a0 : σ.2.1 a0 = 13) (hN_a0 : σ.2.2.2 a0 = 40) (hT_a0 : tg a0 = 79) (h_a1 : rg a1 (-1) 39) : MetV l yX11_fill (wa yX11_fill cX11_fill 3 none) ({ frames := 0, cells := 0, slots := 0, locals := 0 }) [.ref a0, .int a1] D t σ (I, J, ri, rj, rq) sz 0 0 (fun (u : pq_S × pq_M) => ∃ ri' : Nat → Nat → Int32, u = (σ, I, J, ri', rj, rq) ∧ GX [1079] tg σ I ri rj I ri' rj rq ∧ (ri' = va_up ri a0 (fil a1 40 (ri a0)))) := by
  refine Met.ofW (cc := cX11_fill) (maxL := 3) (ret := none) (by decide +kernel) rfl ?_
  intro p e s m args below meth c s₁ B hml hv
  obtain ⟨rfl, hsz, hP, hK, hD0, hN⟩ := hv
  have hx := B.exec
  have hb := B.bytes
  have hr := B.returns
  have hts := atoms_spec (ws := (wa yX11_fill cX11_fill 3 none)) B.pre
  have hown : s.vm.findClass RX11 = some m.cls := findClass_of_methodNamed B.named
  have hlocks := B.notSynchronized
  subst hsz
  have hD : va_D (pq_B t σ (I, J, ri, rj, rq) s.heap.size) (pq_P t σ (I, J, ri, rj, rq)) := hD0.self
  generalize hAe : pq_B t σ (I, J, ri, rj, rq) s.heap.size = A at hD ⊢
  have hA : ∀ q : Nat, s.heap.size ≤ q → A q := fun q h => by rw [← hAe]; exact Or.inr h
  have hS : va_S A s.heap s.heap [] := va_S.rf
  have hG : GX [1079] tg σ I ri rj I ri rj rq := ⟨hG0, fun _ _ _ => rfl, fun _ _ _ _ _ => rfl, fun _ _ _ _ _ => rfl⟩
  have hl := lv_entry ([.ref a0, .int a1]) (n := 3) (Nat.le_of_ble_eq_true rfl)
  rw [lg_entry_eq]
  generalize (lg_sl ([.ref a0, .int a1]) ++ List.replicate (3 - (lg_sl ([.ref a0, .int a1])).length) Slot.unset).toArray = ls at hl ⊢
  have hl : lv_has ls 3 [(0, .ref a0), (1, .int a1)] := hl
  refine q_gen (fun Q hQ => ?_)
  have go : ∀ (H : Heap) (locs : List Loc) (ls : Array Slot), va_P D vwCl (pq_P t σ (I, J, ri, rj, rq)) H → va_D A (pq_P t σ (I, J, ri, rj, rq)) → va_S A s.heap H locs → lv_has ls 3 [(0, .ref a0), (1, .int a1)] → W p l e ({ frames := 0, cells := 0, slots := 0, locals := 0 } : Room) s m (List.toArray ([.ref a0, .int a1] : List Value)) below meth c H locs 0 0 Q (F0 m 0 ls []) := by
    intro H locs ls hP hD hS hl
    refine lv_iconst (v := 0) hx hb dX11_fill_0 (by decide +kernel) ?_
    refine lv_istore_n (lv' := [(2, .int 0), (0, .ref a0), (1, .int a1)]) hx hb dX11_fill_1 rfl hl (by decide +kernel) rfl (fun ls hl => ?_)
    have L_157 : ∀ (n_156 : Nat) (x_142 : Int32) (ri_143 : Nat → Nat → Int32) (H : Heap) (locs : List Loc) (ls : Array Slot), rg x_142 0 40 → (0 ≤ (x_142).toInt) → (ri_143 = va_up ri a0 (fil a1 (x_142).toNatClampNeg (ri a0))) → (40 - (x_142).toInt).toNat < n_156 → GX [1079] tg σ I ri rj I ri_143 rj rq → va_P D vwCl (pq_P t σ (I, J, ri_143, rj, rq)) H → va_D A (pq_P t σ (I, J, ri_143, rj, rq)) → va_S A s.heap H locs → lv_has ls 3 [(0, .ref a0), (1, .int a1), (2, .int x_142)] → W p l e ({ frames := 0, cells := 0, slots := 0, locals := 0 } : Room) s m (List.toArray ([.ref a0, .int a1] : List Value)) below meth c H locs 0 0 Q (F0 m 2 ls []) := by
      intro n_156
      induction n_156 with
      | zero => intro x_142 ri_143 H locs ls h_162 hrel_163 hrel_164 hm_155 hG hP hD hS hl; exact absurd hm_155 (Nat.not_lt_zero _)
      | succ n_156 ih_158 =>
        intro x_142 ri_143 H locs ls h_162 hrel_163 hrel_164 hm_155 hG hP hD hS hl
        have uh_162 := h_162.1
        have vh_162 := h_162.2
        refine lv_iload_n hx hb dX11_fill_2 rfl (lv_at hl 2 rfl) ?_
        refine lv_aload_n hx hb dX11_fill_3 rfl (lv_at hl 0 rfl) ?_
        refine pn_i (v := 40) hx hb hK hP hL_a0 hK_a0 hN_a0 (by decide +kernel) dX11_fill_4 ?_
        refine lv_icmp_ge (tgt := 18) hx hb dX11_fill_5 (by decide +kernel) (fun c_165 => ?_) (fun c_165 => ?_)
        · have tc_166 : 40 ≤ (x_142).toInt := Int32.le_iff_toInt_le.mp c_165
          have h_167 : rg x_142 40 40 := rg_le2 c_165 (rg_k (40 : Int32) 40 rfl) h_162 (by decide +kernel)
          have uh_167 := h_167.1
          have vh_167 := h_167.2
          subst hQ
          exact W.vret hx hb hr (fun t1 ht hW => ⟨⟨(σ, I, J, ri_143, rj, rq), rfl, ⟨ri_143, rfl, hG, (by rw [hrel_164, show (x_142).toNatClampNeg = 40 from by have z_i := clampE x_142; omega])⟩, by rw [ht]; exact hP, va_K.moved hW.alike hK, hD⟩, hS.F ht⟩) hS.2.2 dX11_fill_18
        · have tc_168 : (x_142).toInt < 40 := Int32.lt_iff_toInt_lt.mp (nle c_165)
          have h_169 : rg x_142 0 39 := rg_lt1 (nle c_165) h_162 (rg_k (40 : Int32) 40 rfl) (by decide +kernel)
          have uh_169 := h_169.1
          have vh_169 := h_169.2
          refine lv_aload_n hx hb dX11_fill_8 rfl (lv_at hl 0 rfl) ?_
          refine lv_iload_n hx hb dX11_fill_9 rfl (lv_at hl 2 rfl) ?_
          refine lv_iload_n hx hb dX11_fill_10 rfl (lv_at hl 1 rfl) ?_
          refine pt_i hx hb hK hP hD hS hL_a0 hK_a0 hN_a0 (rg_in h_169 (by decide +kernel)) dX11_fill_11 (fun r_170 H locs er_170 hP hD hS => ?_)
          have hG := GX.wR hG hSH hT_a0 rfl er_170 (rg_w h_a1 (by decide +kernel)) (by decide +kernel)
          obtain ⟨x_171, ex_171⟩ : ∃ y : Int32, y = x_142 + Int32.ofInt 1 := ⟨_, rfl⟩
          have h_172 : rg x_171 1 40 := rg_of_eq ex_171 (rg_add h_169 (rg_k (Int32.ofInt 1) 1 rfl) (by decide +kernel))
          have uh_172 := h_172.1
          have vh_172 := h_172.2
          have tx_171 : (x_171).toInt = (x_142).toInt + 1 := by rw [ex_171]; exact i_add_rg (a2 := (x_142).toInt) (b2 := 1) rfl rfl h_169 (rg_k (Int32.ofInt 1) 1 rfl) (by decide +kernel)
          refine lv_iinc (v := x_171) (lv' := [(2, .int x_171), (0, .ref a0), (1, .int a1)]) hx hb dX11_fill_12 hl (k := 2) rfl ex_171.symm (by decide +kernel) rfl (fun ls hl => ?_)
          refine lv_goto (tgt := 2) hx hb dX11_fill_15 (by decide +kernel) ?_
          exact ih_158 x_171 r_170 _ _ _ (rg_w h_172 (by decide +kernel)) (by omega) (fil_s hrel_164 er_170 (by have z_i := clampE x_142; have z_n := clampE x_171; omega)) (ms_up 1 hm_155 ex_171 rfl (by decide +kernel) h_169 (by decide +kernel) (by decide +kernel)) hG hP hD hS (lv_sub hl [1, 2, 0] rfl)
    exact L_157 _ (0 : Int32) ri _ _ _ (rg_w (rg_k (0 : Int32) 0 rfl) (by decide +kernel)) (by have k0 : (0 : Int32).toInt = 0 := rfl; omega) fil_0 (Nat.lt_succ_self _) hG hP hD hS (lv_sub hl [1, 2, 0] rfl)
  exact go _ _ _ hP hD hS hl

set_option maxHeartbeats 4000000 in
set_option maxRecDepth 100000 in
theorem s_X11_fill_80 (l : Launch) (D : va_G) (t : pq_T) (σ : pq_S) (I : Nat → Nat → Int32) (J : Nat → Nat → Int64) (ri : Nat → Nat → Int32) (rj : Nat → Nat → Int64) (rq : Nat → Nat → Option Nat) (sz : Nat) (tg : Nat → Nat) (hSH : SH σ tg) (hG0 : GS tg σ I ri rq) (a0 : Nat) (a1 : Int32) (hL_a0 : a0 ∈ σ.1) (hK_a0 : σ.2.1 a0 = 13) (hN_a0 : σ.2.2.2 a0 = 5) (hT_a0 : tg a0 = 80) (h_a1 : rg a1 (-1) 39) : MetV l yX11_fill (wa yX11_fill cX11_fill 3 none) ({ frames := 0, cells := 0, slots := 0, locals := 0 }) [.ref a0, .int a1] D t σ (I, J, ri, rj, rq) sz 0 0 (fun (u : pq_S × pq_M) => ∃ ri' : Nat → Nat → Int32, u = (σ, I, J, ri', rj, rq) ∧ GX [] tg σ I ri rj I ri' rj rq ∧ (ri' = va_up ri a0 (fil a1 5 (ri a0)))) := by
  refine Met.ofW (cc := cX11_fill) (maxL := 3) (ret := none) (by decide +kernel) rfl ?_
  intro p e s m args below meth c s₁ B hml hv
  obtain ⟨rfl, hsz, hP, hK, hD0, hN⟩ := hv
  have hx := B.exec
  have hb := B.bytes
  have hr := B.returns
  have hts := atoms_spec (ws := (wa yX11_fill cX11_fill 3 none)) B.pre
  have hown : s.vm.findClass RX11 = some m.cls := findClass_of_methodNamed B.named
  have hlocks := B.notSynchronized
  subst hsz
  have hD : va_D (pq_B t σ (I, J, ri, rj, rq) s.heap.size) (pq_P t σ (I, J, ri, rj, rq)) := hD0.self
  generalize hAe : pq_B t σ (I, J, ri, rj, rq) s.heap.size = A at hD ⊢
  have hA : ∀ q : Nat, s.heap.size ≤ q → A q := fun q h => by rw [← hAe]; exact Or.inr h
  have hS : va_S A s.heap s.heap [] := va_S.rf
  have hG : GX [] tg σ I ri rj I ri rj rq := ⟨hG0, fun _ _ _ => rfl, fun _ _ _ _ _ => rfl, fun _ _ _ _ _ => rfl⟩
  have hl := lv_entry ([.ref a0, .int a1]) (n := 3) (Nat.le_of_ble_eq_true rfl)
  rw [lg_entry_eq]
  generalize (lg_sl ([.ref a0, .int a1]) ++ List.replicate (3 - (lg_sl ([.ref a0, .int a1])).length) Slot.unset).toArray = ls at hl ⊢
  have hl : lv_has ls 3 [(0, .ref a0), (1, .int a1)] := hl
  refine q_gen (fun Q hQ => ?_)
  have go : ∀ (H : Heap) (locs : List Loc) (ls : Array Slot), va_P D vwCl (pq_P t σ (I, J, ri, rj, rq)) H → va_D A (pq_P t σ (I, J, ri, rj, rq)) → va_S A s.heap H locs → lv_has ls 3 [(0, .ref a0), (1, .int a1)] → W p l e ({ frames := 0, cells := 0, slots := 0, locals := 0 } : Room) s m (List.toArray ([.ref a0, .int a1] : List Value)) below meth c H locs 0 0 Q (F0 m 0 ls []) := by
    intro H locs ls hP hD hS hl
    refine lv_iconst (v := 0) hx hb dX11_fill_0 (by decide +kernel) ?_
    refine lv_istore_n (lv' := [(2, .int 0), (0, .ref a0), (1, .int a1)]) hx hb dX11_fill_1 rfl hl (by decide +kernel) rfl (fun ls hl => ?_)
    have L_91 : ∀ (n_90 : Nat) (x_76 : Int32) (ri_77 : Nat → Nat → Int32) (H : Heap) (locs : List Loc) (ls : Array Slot), rg x_76 0 5 → (0 ≤ (x_76).toInt) → (ri_77 = va_up ri a0 (fil a1 (x_76).toNatClampNeg (ri a0))) → (5 - (x_76).toInt).toNat < n_90 → GX [] tg σ I ri rj I ri_77 rj rq → va_P D vwCl (pq_P t σ (I, J, ri_77, rj, rq)) H → va_D A (pq_P t σ (I, J, ri_77, rj, rq)) → va_S A s.heap H locs → lv_has ls 3 [(0, .ref a0), (1, .int a1), (2, .int x_76)] → W p l e ({ frames := 0, cells := 0, slots := 0, locals := 0 } : Room) s m (List.toArray ([.ref a0, .int a1] : List Value)) below meth c H locs 0 0 Q (F0 m 2 ls []) := by
      intro n_90
      induction n_90 with
      | zero => intro x_76 ri_77 H locs ls h_96 hrel_97 hrel_98 hm_89 hG hP hD hS hl; exact absurd hm_89 (Nat.not_lt_zero _)
      | succ n_90 ih_92 =>
        intro x_76 ri_77 H locs ls h_96 hrel_97 hrel_98 hm_89 hG hP hD hS hl
        have uh_96 := h_96.1
        have vh_96 := h_96.2
        refine lv_iload_n hx hb dX11_fill_2 rfl (lv_at hl 2 rfl) ?_
        refine lv_aload_n hx hb dX11_fill_3 rfl (lv_at hl 0 rfl) ?_
        refine pn_i (v := 5) hx hb hK hP hL_a0 hK_a0 hN_a0 (by decide +kernel) dX11_fill_4 ?_
        refine lv_icmp_ge (tgt := 18) hx hb dX11_fill_5 (by decide +kernel) (fun c_99 => ?_) (fun c_99 => ?_)
        · have tc_100 : 5 ≤ (x_76).toInt := Int32.le_iff_toInt_le.mp c_99
          have h_101 : rg x_76 5 5 := rg_le2 c_99 (rg_k (5 : Int32) 5 rfl) h_96 (by decide +kernel)
          have uh_101 := h_101.1
          have vh_101 := h_101.2
          subst hQ
          exact W.vret hx hb hr (fun t1 ht hW => ⟨⟨(σ, I, J, ri_77, rj, rq), rfl, ⟨ri_77, rfl, hG, (by rw [hrel_98, show (x_76).toNatClampNeg = 5 from by have z_i := clampE x_76; omega])⟩, by rw [ht]; exact hP, va_K.moved hW.alike hK, hD⟩, hS.F ht⟩) hS.2.2 dX11_fill_18
        · have tc_102 : (x_76).toInt < 5 := Int32.lt_iff_toInt_lt.mp (nle c_99)
          have h_103 : rg x_76 0 4 := rg_lt1 (nle c_99) h_96 (rg_k (5 : Int32) 5 rfl) (by decide +kernel)
          have uh_103 := h_103.1
          have vh_103 := h_103.2
          refine lv_aload_n hx hb dX11_fill_8 rfl (lv_at hl 0 rfl) ?_
          refine lv_iload_n hx hb dX11_fill_9 rfl (lv_at hl 2 rfl) ?_
          refine lv_iload_n hx hb dX11_fill_10 rfl (lv_at hl 1 rfl) ?_
          refine pt_i hx hb hK hP hD hS hL_a0 hK_a0 hN_a0 (rg_in h_103 (by decide +kernel)) dX11_fill_11 (fun r_104 H locs er_104 hP hD hS => ?_)
          have hG := GX.wR hG hSH hT_a0 rfl er_104 (rg_w h_a1 (by decide +kernel)) (by decide +kernel)
          obtain ⟨x_105, ex_105⟩ : ∃ y : Int32, y = x_76 + Int32.ofInt 1 := ⟨_, rfl⟩
          have h_106 : rg x_105 1 5 := rg_of_eq ex_105 (rg_add h_103 (rg_k (Int32.ofInt 1) 1 rfl) (by decide +kernel))
          have uh_106 := h_106.1
          have vh_106 := h_106.2
          have tx_105 : (x_105).toInt = (x_76).toInt + 1 := by rw [ex_105]; exact i_add_rg (a2 := (x_76).toInt) (b2 := 1) rfl rfl h_103 (rg_k (Int32.ofInt 1) 1 rfl) (by decide +kernel)
          refine lv_iinc (v := x_105) (lv' := [(2, .int x_105), (0, .ref a0), (1, .int a1)]) hx hb dX11_fill_12 hl (k := 2) rfl ex_105.symm (by decide +kernel) rfl (fun ls hl => ?_)
          refine lv_goto (tgt := 2) hx hb dX11_fill_15 (by decide +kernel) ?_
          exact ih_92 x_105 r_104 _ _ _ (rg_w h_106 (by decide +kernel)) (by omega) (fil_s hrel_98 er_104 (by have z_i := clampE x_76; have z_n := clampE x_105; omega)) (ms_up 1 hm_89 ex_105 rfl (by decide +kernel) h_103 (by decide +kernel) (by decide +kernel)) hG hP hD hS (lv_sub hl [1, 2, 0] rfl)
    exact L_91 _ (0 : Int32) ri _ _ _ (rg_w (rg_k (0 : Int32) 0 rfl) (by decide +kernel)) (by have k0 : (0 : Int32).toInt = 0 := rfl; omega) fil_0 (Nat.lt_succ_self _) hG hP hD hS (lv_sub hl [1, 2, 0] rfl)
  exact go _ _ _ hP hD hS hl

set_option maxHeartbeats 4000000 in
set_option maxRecDepth 100000 in
theorem s_X11_fill_230 (l : Launch) (D : va_G) (t : pq_T) (σ : pq_S) (I : Nat → Nat → Int32) (J : Nat → Nat → Int64) (ri : Nat → Nat → Int32) (rj : Nat → Nat → Int64) (rq : Nat → Nat → Option Nat) (sz : Nat) (tg : Nat → Nat) (hSH : SH σ tg) (hG0 : GS tg σ I ri rq) (a0 : Nat) (a1 : Int32) (hL_a0 : a0 ∈ σ.1) (hK_a0 : σ.2.1 a0 = 13) (hN_a0 : σ.2.2.2 a0 = 12) (hT_a0 : tg a0 = 230) : MetV l yX11_fill (wa yX11_fill cX11_fill 3 none) ({ frames := 0, cells := 0, slots := 0, locals := 0 }) [.ref a0, .int a1] D t σ (I, J, ri, rj, rq) sz 0 0 (fun (u : pq_S × pq_M) => ∃ ri' : Nat → Nat → Int32, u = (σ, I, J, ri', rj, rq) ∧ GX [1230] tg σ I ri rj I ri' rj rq ∧ (ri' = va_up ri a0 (fil a1 12 (ri a0)))) := by
  refine Met.ofW (cc := cX11_fill) (maxL := 3) (ret := none) (by decide +kernel) rfl ?_
  intro p e s m args below meth c s₁ B hml hv
  obtain ⟨rfl, hsz, hP, hK, hD0, hN⟩ := hv
  have hx := B.exec
  have hb := B.bytes
  have hr := B.returns
  have hts := atoms_spec (ws := (wa yX11_fill cX11_fill 3 none)) B.pre
  have hown : s.vm.findClass RX11 = some m.cls := findClass_of_methodNamed B.named
  have hlocks := B.notSynchronized
  subst hsz
  have hD : va_D (pq_B t σ (I, J, ri, rj, rq) s.heap.size) (pq_P t σ (I, J, ri, rj, rq)) := hD0.self
  generalize hAe : pq_B t σ (I, J, ri, rj, rq) s.heap.size = A at hD ⊢
  have hA : ∀ q : Nat, s.heap.size ≤ q → A q := fun q h => by rw [← hAe]; exact Or.inr h
  have hS : va_S A s.heap s.heap [] := va_S.rf
  have hG : GX [1230] tg σ I ri rj I ri rj rq := ⟨hG0, fun _ _ _ => rfl, fun _ _ _ _ _ => rfl, fun _ _ _ _ _ => rfl⟩
  have hl := lv_entry ([.ref a0, .int a1]) (n := 3) (Nat.le_of_ble_eq_true rfl)
  rw [lg_entry_eq]
  generalize (lg_sl ([.ref a0, .int a1]) ++ List.replicate (3 - (lg_sl ([.ref a0, .int a1])).length) Slot.unset).toArray = ls at hl ⊢
  have hl : lv_has ls 3 [(0, .ref a0), (1, .int a1)] := hl
  refine q_gen (fun Q hQ => ?_)
  have go : ∀ (H : Heap) (locs : List Loc) (ls : Array Slot), va_P D vwCl (pq_P t σ (I, J, ri, rj, rq)) H → va_D A (pq_P t σ (I, J, ri, rj, rq)) → va_S A s.heap H locs → lv_has ls 3 [(0, .ref a0), (1, .int a1)] → W p l e ({ frames := 0, cells := 0, slots := 0, locals := 0 } : Room) s m (List.toArray ([.ref a0, .int a1] : List Value)) below meth c H locs 0 0 Q (F0 m 0 ls []) := by
    intro H locs ls hP hD hS hl
    refine lv_iconst (v := 0) hx hb dX11_fill_0 (by decide +kernel) ?_
    refine lv_istore_n (lv' := [(2, .int 0), (0, .ref a0), (1, .int a1)]) hx hb dX11_fill_1 rfl hl (by decide +kernel) rfl (fun ls hl => ?_)
    have L_139 : ∀ (n_138 : Nat) (x_124 : Int32) (ri_125 : Nat → Nat → Int32) (H : Heap) (locs : List Loc) (ls : Array Slot), rg x_124 0 12 → (0 ≤ (x_124).toInt) → (ri_125 = va_up ri a0 (fil a1 (x_124).toNatClampNeg (ri a0))) → (12 - (x_124).toInt).toNat < n_138 → GX [1230] tg σ I ri rj I ri_125 rj rq → va_P D vwCl (pq_P t σ (I, J, ri_125, rj, rq)) H → va_D A (pq_P t σ (I, J, ri_125, rj, rq)) → va_S A s.heap H locs → lv_has ls 3 [(0, .ref a0), (1, .int a1), (2, .int x_124)] → W p l e ({ frames := 0, cells := 0, slots := 0, locals := 0 } : Room) s m (List.toArray ([.ref a0, .int a1] : List Value)) below meth c H locs 0 0 Q (F0 m 2 ls []) := by
      intro n_138
      induction n_138 with
      | zero => intro x_124 ri_125 H locs ls h_144 hrel_145 hrel_146 hm_137 hG hP hD hS hl; exact absurd hm_137 (Nat.not_lt_zero _)
      | succ n_138 ih_140 =>
        intro x_124 ri_125 H locs ls h_144 hrel_145 hrel_146 hm_137 hG hP hD hS hl
        have uh_144 := h_144.1
        have vh_144 := h_144.2
        refine lv_iload_n hx hb dX11_fill_2 rfl (lv_at hl 2 rfl) ?_
        refine lv_aload_n hx hb dX11_fill_3 rfl (lv_at hl 0 rfl) ?_
        refine pn_i (v := 12) hx hb hK hP hL_a0 hK_a0 hN_a0 (by decide +kernel) dX11_fill_4 ?_
        refine lv_icmp_ge (tgt := 18) hx hb dX11_fill_5 (by decide +kernel) (fun c_147 => ?_) (fun c_147 => ?_)
        · have tc_148 : 12 ≤ (x_124).toInt := Int32.le_iff_toInt_le.mp c_147
          have h_149 : rg x_124 12 12 := rg_le2 c_147 (rg_k (12 : Int32) 12 rfl) h_144 (by decide +kernel)
          have uh_149 := h_149.1
          have vh_149 := h_149.2
          subst hQ
          exact W.vret hx hb hr (fun t1 ht hW => ⟨⟨(σ, I, J, ri_125, rj, rq), rfl, ⟨ri_125, rfl, hG, (by rw [hrel_146, show (x_124).toNatClampNeg = 12 from by have z_i := clampE x_124; omega])⟩, by rw [ht]; exact hP, va_K.moved hW.alike hK, hD⟩, hS.F ht⟩) hS.2.2 dX11_fill_18
        · have tc_150 : (x_124).toInt < 12 := Int32.lt_iff_toInt_lt.mp (nle c_147)
          have h_151 : rg x_124 0 11 := rg_lt1 (nle c_147) h_144 (rg_k (12 : Int32) 12 rfl) (by decide +kernel)
          have uh_151 := h_151.1
          have vh_151 := h_151.2
          refine lv_aload_n hx hb dX11_fill_8 rfl (lv_at hl 0 rfl) ?_
          refine lv_iload_n hx hb dX11_fill_9 rfl (lv_at hl 2 rfl) ?_
          refine lv_iload_n hx hb dX11_fill_10 rfl (lv_at hl 1 rfl) ?_
          refine pt_i hx hb hK hP hD hS hL_a0 hK_a0 hN_a0 (rg_in h_151 (by decide +kernel)) dX11_fill_11 (fun r_152 H locs er_152 hP hD hS => ?_)
          have hG := GX.wR hG hSH hT_a0 rfl er_152 (rg_w (rg_full _) (by decide +kernel)) (by decide +kernel)
          obtain ⟨x_153, ex_153⟩ : ∃ y : Int32, y = x_124 + Int32.ofInt 1 := ⟨_, rfl⟩
          have h_154 : rg x_153 1 12 := rg_of_eq ex_153 (rg_add h_151 (rg_k (Int32.ofInt 1) 1 rfl) (by decide +kernel))
          have uh_154 := h_154.1
          have vh_154 := h_154.2
          have tx_153 : (x_153).toInt = (x_124).toInt + 1 := by rw [ex_153]; exact i_add_rg (a2 := (x_124).toInt) (b2 := 1) rfl rfl h_151 (rg_k (Int32.ofInt 1) 1 rfl) (by decide +kernel)
          refine lv_iinc (v := x_153) (lv' := [(2, .int x_153), (0, .ref a0), (1, .int a1)]) hx hb dX11_fill_12 hl (k := 2) rfl ex_153.symm (by decide +kernel) rfl (fun ls hl => ?_)
          refine lv_goto (tgt := 2) hx hb dX11_fill_15 (by decide +kernel) ?_
          exact ih_140 x_153 r_152 _ _ _ (rg_w h_154 (by decide +kernel)) (by omega) (fil_s hrel_146 er_152 (by have z_i := clampE x_124; have z_n := clampE x_153; omega)) (ms_up 1 hm_137 ex_153 rfl (by decide +kernel) h_151 (by decide +kernel) (by decide +kernel)) hG hP hD hS (lv_sub hl [1, 2, 0] rfl)
    exact L_139 _ (0 : Int32) ri _ _ _ (rg_w (rg_k (0 : Int32) 0 rfl) (by decide +kernel)) (by have k0 : (0 : Int32).toInt = 0 := rfl; omega) fil_0 (Nat.lt_succ_self _) hG hP hD hS (lv_sub hl [1, 2, 0] rfl)
  exact go _ _ _ hP hD hS hl

set_option maxHeartbeats 4000000 in
set_option maxRecDepth 100000 in
theorem s_X11_fill_231 (l : Launch) (D : va_G) (t : pq_T) (σ : pq_S) (I : Nat → Nat → Int32) (J : Nat → Nat → Int64) (ri : Nat → Nat → Int32) (rj : Nat → Nat → Int64) (rq : Nat → Nat → Option Nat) (sz : Nat) (tg : Nat → Nat) (hSH : SH σ tg) (hG0 : GS tg σ I ri rq) (a0 : Nat) (a1 : Int32) (hL_a0 : a0 ∈ σ.1) (hK_a0 : σ.2.1 a0 = 13) (hN_a0 : σ.2.2.2 a0 = 12) (hT_a0 : tg a0 = 231) : MetV l yX11_fill (wa yX11_fill cX11_fill 3 none) ({ frames := 0, cells := 0, slots := 0, locals := 0 }) [.ref a0, .int a1] D t σ (I, J, ri, rj, rq) sz 0 0 (fun (u : pq_S × pq_M) => ∃ ri' : Nat → Nat → Int32, u = (σ, I, J, ri', rj, rq) ∧ GX [1231] tg σ I ri rj I ri' rj rq ∧ (ri' = va_up ri a0 (fil a1 12 (ri a0)))) := by
  refine Met.ofW (cc := cX11_fill) (maxL := 3) (ret := none) (by decide +kernel) rfl ?_
  intro p e s m args below meth c s₁ B hml hv
  obtain ⟨rfl, hsz, hP, hK, hD0, hN⟩ := hv
  have hx := B.exec
  have hb := B.bytes
  have hr := B.returns
  have hts := atoms_spec (ws := (wa yX11_fill cX11_fill 3 none)) B.pre
  have hown : s.vm.findClass RX11 = some m.cls := findClass_of_methodNamed B.named
  have hlocks := B.notSynchronized
  subst hsz
  have hD : va_D (pq_B t σ (I, J, ri, rj, rq) s.heap.size) (pq_P t σ (I, J, ri, rj, rq)) := hD0.self
  generalize hAe : pq_B t σ (I, J, ri, rj, rq) s.heap.size = A at hD ⊢
  have hA : ∀ q : Nat, s.heap.size ≤ q → A q := fun q h => by rw [← hAe]; exact Or.inr h
  have hS : va_S A s.heap s.heap [] := va_S.rf
  have hG : GX [1231] tg σ I ri rj I ri rj rq := ⟨hG0, fun _ _ _ => rfl, fun _ _ _ _ _ => rfl, fun _ _ _ _ _ => rfl⟩
  have hl := lv_entry ([.ref a0, .int a1]) (n := 3) (Nat.le_of_ble_eq_true rfl)
  rw [lg_entry_eq]
  generalize (lg_sl ([.ref a0, .int a1]) ++ List.replicate (3 - (lg_sl ([.ref a0, .int a1])).length) Slot.unset).toArray = ls at hl ⊢
  have hl : lv_has ls 3 [(0, .ref a0), (1, .int a1)] := hl
  refine q_gen (fun Q hQ => ?_)
  have go : ∀ (H : Heap) (locs : List Loc) (ls : Array Slot), va_P D vwCl (pq_P t σ (I, J, ri, rj, rq)) H → va_D A (pq_P t σ (I, J, ri, rj, rq)) → va_S A s.heap H locs → lv_has ls 3 [(0, .ref a0), (1, .int a1)] → W p l e ({ frames := 0, cells := 0, slots := 0, locals := 0 } : Room) s m (List.toArray ([.ref a0, .int a1] : List Value)) below meth c H locs 0 0 Q (F0 m 0 ls []) := by
    intro H locs ls hP hD hS hl
    refine lv_iconst (v := 0) hx hb dX11_fill_0 (by decide +kernel) ?_
    refine lv_istore_n (lv' := [(2, .int 0), (0, .ref a0), (1, .int a1)]) hx hb dX11_fill_1 rfl hl (by decide +kernel) rfl (fun ls hl => ?_)
    have L_139 : ∀ (n_138 : Nat) (x_124 : Int32) (ri_125 : Nat → Nat → Int32) (H : Heap) (locs : List Loc) (ls : Array Slot), rg x_124 0 12 → (0 ≤ (x_124).toInt) → (ri_125 = va_up ri a0 (fil a1 (x_124).toNatClampNeg (ri a0))) → (12 - (x_124).toInt).toNat < n_138 → GX [1231] tg σ I ri rj I ri_125 rj rq → va_P D vwCl (pq_P t σ (I, J, ri_125, rj, rq)) H → va_D A (pq_P t σ (I, J, ri_125, rj, rq)) → va_S A s.heap H locs → lv_has ls 3 [(0, .ref a0), (1, .int a1), (2, .int x_124)] → W p l e ({ frames := 0, cells := 0, slots := 0, locals := 0 } : Room) s m (List.toArray ([.ref a0, .int a1] : List Value)) below meth c H locs 0 0 Q (F0 m 2 ls []) := by
      intro n_138
      induction n_138 with
      | zero => intro x_124 ri_125 H locs ls h_144 hrel_145 hrel_146 hm_137 hG hP hD hS hl; exact absurd hm_137 (Nat.not_lt_zero _)
      | succ n_138 ih_140 =>
        intro x_124 ri_125 H locs ls h_144 hrel_145 hrel_146 hm_137 hG hP hD hS hl
        have uh_144 := h_144.1
        have vh_144 := h_144.2
        refine lv_iload_n hx hb dX11_fill_2 rfl (lv_at hl 2 rfl) ?_
        refine lv_aload_n hx hb dX11_fill_3 rfl (lv_at hl 0 rfl) ?_
        refine pn_i (v := 12) hx hb hK hP hL_a0 hK_a0 hN_a0 (by decide +kernel) dX11_fill_4 ?_
        refine lv_icmp_ge (tgt := 18) hx hb dX11_fill_5 (by decide +kernel) (fun c_147 => ?_) (fun c_147 => ?_)
        · have tc_148 : 12 ≤ (x_124).toInt := Int32.le_iff_toInt_le.mp c_147
          have h_149 : rg x_124 12 12 := rg_le2 c_147 (rg_k (12 : Int32) 12 rfl) h_144 (by decide +kernel)
          have uh_149 := h_149.1
          have vh_149 := h_149.2
          subst hQ
          exact W.vret hx hb hr (fun t1 ht hW => ⟨⟨(σ, I, J, ri_125, rj, rq), rfl, ⟨ri_125, rfl, hG, (by rw [hrel_146, show (x_124).toNatClampNeg = 12 from by have z_i := clampE x_124; omega])⟩, by rw [ht]; exact hP, va_K.moved hW.alike hK, hD⟩, hS.F ht⟩) hS.2.2 dX11_fill_18
        · have tc_150 : (x_124).toInt < 12 := Int32.lt_iff_toInt_lt.mp (nle c_147)
          have h_151 : rg x_124 0 11 := rg_lt1 (nle c_147) h_144 (rg_k (12 : Int32) 12 rfl) (by decide +kernel)
          have uh_151 := h_151.1
          have vh_151 := h_151.2
          refine lv_aload_n hx hb dX11_fill_8 rfl (lv_at hl 0 rfl) ?_
          refine lv_iload_n hx hb dX11_fill_9 rfl (lv_at hl 2 rfl) ?_
          refine lv_iload_n hx hb dX11_fill_10 rfl (lv_at hl 1 rfl) ?_
          refine pt_i hx hb hK hP hD hS hL_a0 hK_a0 hN_a0 (rg_in h_151 (by decide +kernel)) dX11_fill_11 (fun r_152 H locs er_152 hP hD hS => ?_)
          have hG := GX.wR hG hSH hT_a0 rfl er_152 (rg_w (rg_full _) (by decide +kernel)) (by decide +kernel)
          obtain ⟨x_153, ex_153⟩ : ∃ y : Int32, y = x_124 + Int32.ofInt 1 := ⟨_, rfl⟩
          have h_154 : rg x_153 1 12 := rg_of_eq ex_153 (rg_add h_151 (rg_k (Int32.ofInt 1) 1 rfl) (by decide +kernel))
          have uh_154 := h_154.1
          have vh_154 := h_154.2
          have tx_153 : (x_153).toInt = (x_124).toInt + 1 := by rw [ex_153]; exact i_add_rg (a2 := (x_124).toInt) (b2 := 1) rfl rfl h_151 (rg_k (Int32.ofInt 1) 1 rfl) (by decide +kernel)
          refine lv_iinc (v := x_153) (lv' := [(2, .int x_153), (0, .ref a0), (1, .int a1)]) hx hb dX11_fill_12 hl (k := 2) rfl ex_153.symm (by decide +kernel) rfl (fun ls hl => ?_)
          refine lv_goto (tgt := 2) hx hb dX11_fill_15 (by decide +kernel) ?_
          exact ih_140 x_153 r_152 _ _ _ (rg_w h_154 (by decide +kernel)) (by omega) (fil_s hrel_146 er_152 (by have z_i := clampE x_124; have z_n := clampE x_153; omega)) (ms_up 1 hm_137 ex_153 rfl (by decide +kernel) h_151 (by decide +kernel) (by decide +kernel)) hG hP hD hS (lv_sub hl [1, 2, 0] rfl)
    exact L_139 _ (0 : Int32) ri _ _ _ (rg_w (rg_k (0 : Int32) 0 rfl) (by decide +kernel)) (by have k0 : (0 : Int32).toInt = 0 := rfl; omega) fil_0 (Nat.lt_succ_self _) hG hP hD hS (lv_sub hl [1, 2, 0] rfl)
  exact go _ _ _ hP hD hS hl

set_option maxHeartbeats 4000000 in
set_option maxRecDepth 100000 in
theorem s_X11_fill_232 (l : Launch) (D : va_G) (t : pq_T) (σ : pq_S) (I : Nat → Nat → Int32) (J : Nat → Nat → Int64) (ri : Nat → Nat → Int32) (rj : Nat → Nat → Int64) (rq : Nat → Nat → Option Nat) (sz : Nat) (tg : Nat → Nat) (hSH : SH σ tg) (hG0 : GS tg σ I ri rq) (a0 : Nat) (a1 : Int32) (hL_a0 : a0 ∈ σ.1) (hK_a0 : σ.2.1 a0 = 13) (hN_a0 : σ.2.2.2 a0 = 12) (hT_a0 : tg a0 = 232) : MetV l yX11_fill (wa yX11_fill cX11_fill 3 none) ({ frames := 0, cells := 0, slots := 0, locals := 0 }) [.ref a0, .int a1] D t σ (I, J, ri, rj, rq) sz 0 0 (fun (u : pq_S × pq_M) => ∃ ri' : Nat → Nat → Int32, u = (σ, I, J, ri', rj, rq) ∧ GX [1232] tg σ I ri rj I ri' rj rq ∧ (ri' = va_up ri a0 (fil a1 12 (ri a0)))) := by
  refine Met.ofW (cc := cX11_fill) (maxL := 3) (ret := none) (by decide +kernel) rfl ?_
  intro p e s m args below meth c s₁ B hml hv
  obtain ⟨rfl, hsz, hP, hK, hD0, hN⟩ := hv
  have hx := B.exec
  have hb := B.bytes
  have hr := B.returns
  have hts := atoms_spec (ws := (wa yX11_fill cX11_fill 3 none)) B.pre
  have hown : s.vm.findClass RX11 = some m.cls := findClass_of_methodNamed B.named
  have hlocks := B.notSynchronized
  subst hsz
  have hD : va_D (pq_B t σ (I, J, ri, rj, rq) s.heap.size) (pq_P t σ (I, J, ri, rj, rq)) := hD0.self
  generalize hAe : pq_B t σ (I, J, ri, rj, rq) s.heap.size = A at hD ⊢
  have hA : ∀ q : Nat, s.heap.size ≤ q → A q := fun q h => by rw [← hAe]; exact Or.inr h
  have hS : va_S A s.heap s.heap [] := va_S.rf
  have hG : GX [1232] tg σ I ri rj I ri rj rq := ⟨hG0, fun _ _ _ => rfl, fun _ _ _ _ _ => rfl, fun _ _ _ _ _ => rfl⟩
  have hl := lv_entry ([.ref a0, .int a1]) (n := 3) (Nat.le_of_ble_eq_true rfl)
  rw [lg_entry_eq]
  generalize (lg_sl ([.ref a0, .int a1]) ++ List.replicate (3 - (lg_sl ([.ref a0, .int a1])).length) Slot.unset).toArray = ls at hl ⊢
  have hl : lv_has ls 3 [(0, .ref a0), (1, .int a1)] := hl
  refine q_gen (fun Q hQ => ?_)
  have go : ∀ (H : Heap) (locs : List Loc) (ls : Array Slot), va_P D vwCl (pq_P t σ (I, J, ri, rj, rq)) H → va_D A (pq_P t σ (I, J, ri, rj, rq)) → va_S A s.heap H locs → lv_has ls 3 [(0, .ref a0), (1, .int a1)] → W p l e ({ frames := 0, cells := 0, slots := 0, locals := 0 } : Room) s m (List.toArray ([.ref a0, .int a1] : List Value)) below meth c H locs 0 0 Q (F0 m 0 ls []) := by
    intro H locs ls hP hD hS hl
    refine lv_iconst (v := 0) hx hb dX11_fill_0 (by decide +kernel) ?_
    refine lv_istore_n (lv' := [(2, .int 0), (0, .ref a0), (1, .int a1)]) hx hb dX11_fill_1 rfl hl (by decide +kernel) rfl (fun ls hl => ?_)
    have L_139 : ∀ (n_138 : Nat) (x_124 : Int32) (ri_125 : Nat → Nat → Int32) (H : Heap) (locs : List Loc) (ls : Array Slot), rg x_124 0 12 → (0 ≤ (x_124).toInt) → (ri_125 = va_up ri a0 (fil a1 (x_124).toNatClampNeg (ri a0))) → (12 - (x_124).toInt).toNat < n_138 → GX [1232] tg σ I ri rj I ri_125 rj rq → va_P D vwCl (pq_P t σ (I, J, ri_125, rj, rq)) H → va_D A (pq_P t σ (I, J, ri_125, rj, rq)) → va_S A s.heap H locs → lv_has ls 3 [(0, .ref a0), (1, .int a1), (2, .int x_124)] → W p l e ({ frames := 0, cells := 0, slots := 0, locals := 0 } : Room) s m (List.toArray ([.ref a0, .int a1] : List Value)) below meth c H locs 0 0 Q (F0 m 2 ls []) := by
      intro n_138
      induction n_138 with
      | zero => intro x_124 ri_125 H locs ls h_144 hrel_145 hrel_146 hm_137 hG hP hD hS hl; exact absurd hm_137 (Nat.not_lt_zero _)
      | succ n_138 ih_140 =>
        intro x_124 ri_125 H locs ls h_144 hrel_145 hrel_146 hm_137 hG hP hD hS hl
        have uh_144 := h_144.1
        have vh_144 := h_144.2
        refine lv_iload_n hx hb dX11_fill_2 rfl (lv_at hl 2 rfl) ?_
        refine lv_aload_n hx hb dX11_fill_3 rfl (lv_at hl 0 rfl) ?_
        refine pn_i (v := 12) hx hb hK hP hL_a0 hK_a0 hN_a0 (by decide +kernel) dX11_fill_4 ?_
        refine lv_icmp_ge (tgt := 18) hx hb dX11_fill_5 (by decide +kernel) (fun c_147 => ?_) (fun c_147 => ?_)
        · have tc_148 : 12 ≤ (x_124).toInt := Int32.le_iff_toInt_le.mp c_147
          have h_149 : rg x_124 12 12 := rg_le2 c_147 (rg_k (12 : Int32) 12 rfl) h_144 (by decide +kernel)
          have uh_149 := h_149.1
          have vh_149 := h_149.2
          subst hQ
          exact W.vret hx hb hr (fun t1 ht hW => ⟨⟨(σ, I, J, ri_125, rj, rq), rfl, ⟨ri_125, rfl, hG, (by rw [hrel_146, show (x_124).toNatClampNeg = 12 from by have z_i := clampE x_124; omega])⟩, by rw [ht]; exact hP, va_K.moved hW.alike hK, hD⟩, hS.F ht⟩) hS.2.2 dX11_fill_18
        · have tc_150 : (x_124).toInt < 12 := Int32.lt_iff_toInt_lt.mp (nle c_147)
          have h_151 : rg x_124 0 11 := rg_lt1 (nle c_147) h_144 (rg_k (12 : Int32) 12 rfl) (by decide +kernel)
          have uh_151 := h_151.1
          have vh_151 := h_151.2
          refine lv_aload_n hx hb dX11_fill_8 rfl (lv_at hl 0 rfl) ?_
          refine lv_iload_n hx hb dX11_fill_9 rfl (lv_at hl 2 rfl) ?_
          refine lv_iload_n hx hb dX11_fill_10 rfl (lv_at hl 1 rfl) ?_
          refine pt_i hx hb hK hP hD hS hL_a0 hK_a0 hN_a0 (rg_in h_151 (by decide +kernel)) dX11_fill_11 (fun r_152 H locs er_152 hP hD hS => ?_)
          have hG := GX.wR hG hSH hT_a0 rfl er_152 (rg_w (rg_full _) (by decide +kernel)) (by decide +kernel)
          obtain ⟨x_153, ex_153⟩ : ∃ y : Int32, y = x_124 + Int32.ofInt 1 := ⟨_, rfl⟩
          have h_154 : rg x_153 1 12 := rg_of_eq ex_153 (rg_add h_151 (rg_k (Int32.ofInt 1) 1 rfl) (by decide +kernel))
          have uh_154 := h_154.1
          have vh_154 := h_154.2
          have tx_153 : (x_153).toInt = (x_124).toInt + 1 := by rw [ex_153]; exact i_add_rg (a2 := (x_124).toInt) (b2 := 1) rfl rfl h_151 (rg_k (Int32.ofInt 1) 1 rfl) (by decide +kernel)
          refine lv_iinc (v := x_153) (lv' := [(2, .int x_153), (0, .ref a0), (1, .int a1)]) hx hb dX11_fill_12 hl (k := 2) rfl ex_153.symm (by decide +kernel) rfl (fun ls hl => ?_)
          refine lv_goto (tgt := 2) hx hb dX11_fill_15 (by decide +kernel) ?_
          exact ih_140 x_153 r_152 _ _ _ (rg_w h_154 (by decide +kernel)) (by omega) (fil_s hrel_146 er_152 (by have z_i := clampE x_124; have z_n := clampE x_153; omega)) (ms_up 1 hm_137 ex_153 rfl (by decide +kernel) h_151 (by decide +kernel) (by decide +kernel)) hG hP hD hS (lv_sub hl [1, 2, 0] rfl)
    exact L_139 _ (0 : Int32) ri _ _ _ (rg_w (rg_k (0 : Int32) 0 rfl) (by decide +kernel)) (by have k0 : (0 : Int32).toInt = 0 := rfl; omega) fil_0 (Nat.lt_succ_self _) hG hP hD hS (lv_sub hl [1, 2, 0] rfl)
  exact go _ _ _ hP hD hS hl

set_option maxHeartbeats 4000000 in
set_option maxRecDepth 100000 in
theorem s_X11_fill_233 (l : Launch) (D : va_G) (t : pq_T) (σ : pq_S) (I : Nat → Nat → Int32) (J : Nat → Nat → Int64) (ri : Nat → Nat → Int32) (rj : Nat → Nat → Int64) (rq : Nat → Nat → Option Nat) (sz : Nat) (tg : Nat → Nat) (hSH : SH σ tg) (hG0 : GS tg σ I ri rq) (a0 : Nat) (a1 : Int32) (hL_a0 : a0 ∈ σ.1) (hK_a0 : σ.2.1 a0 = 13) (hN_a0 : σ.2.2.2 a0 = 12) (hT_a0 : tg a0 = 233) : MetV l yX11_fill (wa yX11_fill cX11_fill 3 none) ({ frames := 0, cells := 0, slots := 0, locals := 0 }) [.ref a0, .int a1] D t σ (I, J, ri, rj, rq) sz 0 0 (fun (u : pq_S × pq_M) => ∃ ri' : Nat → Nat → Int32, u = (σ, I, J, ri', rj, rq) ∧ GX [1233] tg σ I ri rj I ri' rj rq ∧ (ri' = va_up ri a0 (fil a1 12 (ri a0)))) := by
  refine Met.ofW (cc := cX11_fill) (maxL := 3) (ret := none) (by decide +kernel) rfl ?_
  intro p e s m args below meth c s₁ B hml hv
  obtain ⟨rfl, hsz, hP, hK, hD0, hN⟩ := hv
  have hx := B.exec
  have hb := B.bytes
  have hr := B.returns
  have hts := atoms_spec (ws := (wa yX11_fill cX11_fill 3 none)) B.pre
  have hown : s.vm.findClass RX11 = some m.cls := findClass_of_methodNamed B.named
  have hlocks := B.notSynchronized
  subst hsz
  have hD : va_D (pq_B t σ (I, J, ri, rj, rq) s.heap.size) (pq_P t σ (I, J, ri, rj, rq)) := hD0.self
  generalize hAe : pq_B t σ (I, J, ri, rj, rq) s.heap.size = A at hD ⊢
  have hA : ∀ q : Nat, s.heap.size ≤ q → A q := fun q h => by rw [← hAe]; exact Or.inr h
  have hS : va_S A s.heap s.heap [] := va_S.rf
  have hG : GX [1233] tg σ I ri rj I ri rj rq := ⟨hG0, fun _ _ _ => rfl, fun _ _ _ _ _ => rfl, fun _ _ _ _ _ => rfl⟩
  have hl := lv_entry ([.ref a0, .int a1]) (n := 3) (Nat.le_of_ble_eq_true rfl)
  rw [lg_entry_eq]
  generalize (lg_sl ([.ref a0, .int a1]) ++ List.replicate (3 - (lg_sl ([.ref a0, .int a1])).length) Slot.unset).toArray = ls at hl ⊢
  have hl : lv_has ls 3 [(0, .ref a0), (1, .int a1)] := hl
  refine q_gen (fun Q hQ => ?_)
  have go : ∀ (H : Heap) (locs : List Loc) (ls : Array Slot), va_P D vwCl (pq_P t σ (I, J, ri, rj, rq)) H → va_D A (pq_P t σ (I, J, ri, rj, rq)) → va_S A s.heap H locs → lv_has ls 3 [(0, .ref a0), (1, .int a1)] → W p l e ({ frames := 0, cells := 0, slots := 0, locals := 0 } : Room) s m (List.toArray ([.ref a0, .int a1] : List Value)) below meth c H locs 0 0 Q (F0 m 0 ls []) := by
    intro H locs ls hP hD hS hl
    refine lv_iconst (v := 0) hx hb dX11_fill_0 (by decide +kernel) ?_
    refine lv_istore_n (lv' := [(2, .int 0), (0, .ref a0), (1, .int a1)]) hx hb dX11_fill_1 rfl hl (by decide +kernel) rfl (fun ls hl => ?_)
    have L_139 : ∀ (n_138 : Nat) (x_124 : Int32) (ri_125 : Nat → Nat → Int32) (H : Heap) (locs : List Loc) (ls : Array Slot), rg x_124 0 12 → (0 ≤ (x_124).toInt) → (ri_125 = va_up ri a0 (fil a1 (x_124).toNatClampNeg (ri a0))) → (12 - (x_124).toInt).toNat < n_138 → GX [1233] tg σ I ri rj I ri_125 rj rq → va_P D vwCl (pq_P t σ (I, J, ri_125, rj, rq)) H → va_D A (pq_P t σ (I, J, ri_125, rj, rq)) → va_S A s.heap H locs → lv_has ls 3 [(0, .ref a0), (1, .int a1), (2, .int x_124)] → W p l e ({ frames := 0, cells := 0, slots := 0, locals := 0 } : Room) s m (List.toArray ([.ref a0, .int a1] : List Value)) below meth c H locs 0 0 Q (F0 m 2 ls []) := by
      intro n_138
      induction n_138 with
      | zero => intro x_124 ri_125 H locs ls h_144 hrel_145 hrel_146 hm_137 hG hP hD hS hl; exact absurd hm_137 (Nat.not_lt_zero _)
      | succ n_138 ih_140 =>
        intro x_124 ri_125 H locs ls h_144 hrel_145 hrel_146 hm_137 hG hP hD hS hl
        have uh_144 := h_144.1
        have vh_144 := h_144.2
        refine lv_iload_n hx hb dX11_fill_2 rfl (lv_at hl 2 rfl) ?_
        refine lv_aload_n hx hb dX11_fill_3 rfl (lv_at hl 0 rfl) ?_
        refine pn_i (v := 12) hx hb hK hP hL_a0 hK_a0 hN_a0 (by decide +kernel) dX11_fill_4 ?_
        refine lv_icmp_ge (tgt := 18) hx hb dX11_fill_5 (by decide +kernel) (fun c_147 => ?_) (fun c_147 => ?_)
        · have tc_148 : 12 ≤ (x_124).toInt := Int32.le_iff_toInt_le.mp c_147
          have h_149 : rg x_124 12 12 := rg_le2 c_147 (rg_k (12 : Int32) 12 rfl) h_144 (by decide +kernel)
          have uh_149 := h_149.1
          have vh_149 := h_149.2
          subst hQ
          exact W.vret hx hb hr (fun t1 ht hW => ⟨⟨(σ, I, J, ri_125, rj, rq), rfl, ⟨ri_125, rfl, hG, (by rw [hrel_146, show (x_124).toNatClampNeg = 12 from by have z_i := clampE x_124; omega])⟩, by rw [ht]; exact hP, va_K.moved hW.alike hK, hD⟩, hS.F ht⟩) hS.2.2 dX11_fill_18
        · have tc_150 : (x_124).toInt < 12 := Int32.lt_iff_toInt_lt.mp (nle c_147)
          have h_151 : rg x_124 0 11 := rg_lt1 (nle c_147) h_144 (rg_k (12 : Int32) 12 rfl) (by decide +kernel)
          have uh_151 := h_151.1
          have vh_151 := h_151.2
          refine lv_aload_n hx hb dX11_fill_8 rfl (lv_at hl 0 rfl) ?_
          refine lv_iload_n hx hb dX11_fill_9 rfl (lv_at hl 2 rfl) ?_
          refine lv_iload_n hx hb dX11_fill_10 rfl (lv_at hl 1 rfl) ?_
          refine pt_i hx hb hK hP hD hS hL_a0 hK_a0 hN_a0 (rg_in h_151 (by decide +kernel)) dX11_fill_11 (fun r_152 H locs er_152 hP hD hS => ?_)
          have hG := GX.wR hG hSH hT_a0 rfl er_152 (rg_w (rg_full _) (by decide +kernel)) (by decide +kernel)
          obtain ⟨x_153, ex_153⟩ : ∃ y : Int32, y = x_124 + Int32.ofInt 1 := ⟨_, rfl⟩
          have h_154 : rg x_153 1 12 := rg_of_eq ex_153 (rg_add h_151 (rg_k (Int32.ofInt 1) 1 rfl) (by decide +kernel))
          have uh_154 := h_154.1
          have vh_154 := h_154.2
          have tx_153 : (x_153).toInt = (x_124).toInt + 1 := by rw [ex_153]; exact i_add_rg (a2 := (x_124).toInt) (b2 := 1) rfl rfl h_151 (rg_k (Int32.ofInt 1) 1 rfl) (by decide +kernel)
          refine lv_iinc (v := x_153) (lv' := [(2, .int x_153), (0, .ref a0), (1, .int a1)]) hx hb dX11_fill_12 hl (k := 2) rfl ex_153.symm (by decide +kernel) rfl (fun ls hl => ?_)
          refine lv_goto (tgt := 2) hx hb dX11_fill_15 (by decide +kernel) ?_
          exact ih_140 x_153 r_152 _ _ _ (rg_w h_154 (by decide +kernel)) (by omega) (fil_s hrel_146 er_152 (by have z_i := clampE x_124; have z_n := clampE x_153; omega)) (ms_up 1 hm_137 ex_153 rfl (by decide +kernel) h_151 (by decide +kernel) (by decide +kernel)) hG hP hD hS (lv_sub hl [1, 2, 0] rfl)
    exact L_139 _ (0 : Int32) ri _ _ _ (rg_w (rg_k (0 : Int32) 0 rfl) (by decide +kernel)) (by have k0 : (0 : Int32).toInt = 0 := rfl; omega) fil_0 (Nat.lt_succ_self _) hG hP hD hS (lv_sub hl [1, 2, 0] rfl)
  exact go _ _ _ hP hD hS hl

set_option maxHeartbeats 4000000 in
set_option maxRecDepth 100000 in
theorem s_X11_fill_325 (l : Launch) (D : va_G) (t : pq_T) (σ : pq_S) (I : Nat → Nat → Int32) (J : Nat → Nat → Int64) (ri : Nat → Nat → Int32) (rj : Nat → Nat → Int64) (rq : Nat → Nat → Option Nat) (sz : Nat) (tg : Nat → Nat) (hSH : SH σ tg) (hG0 : GS tg σ I ri rq) (a0 : Nat) (a1 : Int32) (hL_a0 : a0 ∈ σ.1) (hK_a0 : σ.2.1 a0 = 13) (hN_a0 : σ.2.2.2 a0 = 40) (hT_a0 : tg a0 = 325) (h_a1 : rg a1 (-1) 39) : MetV l yX11_fill (wa yX11_fill cX11_fill 3 none) ({ frames := 0, cells := 0, slots := 0, locals := 0 }) [.ref a0, .int a1] D t σ (I, J, ri, rj, rq) sz 0 0 (fun (u : pq_S × pq_M) => ∃ ri' : Nat → Nat → Int32, u = (σ, I, J, ri', rj, rq) ∧ GX [] tg σ I ri rj I ri' rj rq ∧ (ri' = va_up ri a0 (fil a1 40 (ri a0)))) := by
  refine Met.ofW (cc := cX11_fill) (maxL := 3) (ret := none) (by decide +kernel) rfl ?_
  intro p e s m args below meth c s₁ B hml hv
  obtain ⟨rfl, hsz, hP, hK, hD0, hN⟩ := hv
  have hx := B.exec
  have hb := B.bytes
  have hr := B.returns
  have hts := atoms_spec (ws := (wa yX11_fill cX11_fill 3 none)) B.pre
  have hown : s.vm.findClass RX11 = some m.cls := findClass_of_methodNamed B.named
  have hlocks := B.notSynchronized
  subst hsz
  have hD : va_D (pq_B t σ (I, J, ri, rj, rq) s.heap.size) (pq_P t σ (I, J, ri, rj, rq)) := hD0.self
  generalize hAe : pq_B t σ (I, J, ri, rj, rq) s.heap.size = A at hD ⊢
  have hA : ∀ q : Nat, s.heap.size ≤ q → A q := fun q h => by rw [← hAe]; exact Or.inr h
  have hS : va_S A s.heap s.heap [] := va_S.rf
  have hG : GX [] tg σ I ri rj I ri rj rq := ⟨hG0, fun _ _ _ => rfl, fun _ _ _ _ _ => rfl, fun _ _ _ _ _ => rfl⟩
  have hl := lv_entry ([.ref a0, .int a1]) (n := 3) (Nat.le_of_ble_eq_true rfl)
  rw [lg_entry_eq]
  generalize (lg_sl ([.ref a0, .int a1]) ++ List.replicate (3 - (lg_sl ([.ref a0, .int a1])).length) Slot.unset).toArray = ls at hl ⊢
  have hl : lv_has ls 3 [(0, .ref a0), (1, .int a1)] := hl
  refine q_gen (fun Q hQ => ?_)
  have go : ∀ (H : Heap) (locs : List Loc) (ls : Array Slot), va_P D vwCl (pq_P t σ (I, J, ri, rj, rq)) H → va_D A (pq_P t σ (I, J, ri, rj, rq)) → va_S A s.heap H locs → lv_has ls 3 [(0, .ref a0), (1, .int a1)] → W p l e ({ frames := 0, cells := 0, slots := 0, locals := 0 } : Room) s m (List.toArray ([.ref a0, .int a1] : List Value)) below meth c H locs 0 0 Q (F0 m 0 ls []) := by
    intro H locs ls hP hD hS hl
    refine lv_iconst (v := 0) hx hb dX11_fill_0 (by decide +kernel) ?_
    refine lv_istore_n (lv' := [(2, .int 0), (0, .ref a0), (1, .int a1)]) hx hb dX11_fill_1 rfl hl (by decide +kernel) rfl (fun ls hl => ?_)
    have L_157 : ∀ (n_156 : Nat) (x_142 : Int32) (ri_143 : Nat → Nat → Int32) (H : Heap) (locs : List Loc) (ls : Array Slot), rg x_142 0 40 → (0 ≤ (x_142).toInt) → (ri_143 = va_up ri a0 (fil a1 (x_142).toNatClampNeg (ri a0))) → (40 - (x_142).toInt).toNat < n_156 → GX [] tg σ I ri rj I ri_143 rj rq → va_P D vwCl (pq_P t σ (I, J, ri_143, rj, rq)) H → va_D A (pq_P t σ (I, J, ri_143, rj, rq)) → va_S A s.heap H locs → lv_has ls 3 [(0, .ref a0), (1, .int a1), (2, .int x_142)] → W p l e ({ frames := 0, cells := 0, slots := 0, locals := 0 } : Room) s m (List.toArray ([.ref a0, .int a1] : List Value)) below meth c H locs 0 0 Q (F0 m 2 ls []) := by
      intro n_156
      induction n_156 with
      | zero => intro x_142 ri_143 H locs ls h_162 hrel_163 hrel_164 hm_155 hG hP hD hS hl; exact absurd hm_155 (Nat.not_lt_zero _)
      | succ n_156 ih_158 =>
        intro x_142 ri_143 H locs ls h_162 hrel_163 hrel_164 hm_155 hG hP hD hS hl
        have uh_162 := h_162.1
        have vh_162 := h_162.2
        refine lv_iload_n hx hb dX11_fill_2 rfl (lv_at hl 2 rfl) ?_
        refine lv_aload_n hx hb dX11_fill_3 rfl (lv_at hl 0 rfl) ?_
        refine pn_i (v := 40) hx hb hK hP hL_a0 hK_a0 hN_a0 (by decide +kernel) dX11_fill_4 ?_
        refine lv_icmp_ge (tgt := 18) hx hb dX11_fill_5 (by decide +kernel) (fun c_165 => ?_) (fun c_165 => ?_)
        · have tc_166 : 40 ≤ (x_142).toInt := Int32.le_iff_toInt_le.mp c_165
          have h_167 : rg x_142 40 40 := rg_le2 c_165 (rg_k (40 : Int32) 40 rfl) h_162 (by decide +kernel)
          have uh_167 := h_167.1
          have vh_167 := h_167.2
          subst hQ
          exact W.vret hx hb hr (fun t1 ht hW => ⟨⟨(σ, I, J, ri_143, rj, rq), rfl, ⟨ri_143, rfl, hG, (by rw [hrel_164, show (x_142).toNatClampNeg = 40 from by have z_i := clampE x_142; omega])⟩, by rw [ht]; exact hP, va_K.moved hW.alike hK, hD⟩, hS.F ht⟩) hS.2.2 dX11_fill_18
        · have tc_168 : (x_142).toInt < 40 := Int32.lt_iff_toInt_lt.mp (nle c_165)
          have h_169 : rg x_142 0 39 := rg_lt1 (nle c_165) h_162 (rg_k (40 : Int32) 40 rfl) (by decide +kernel)
          have uh_169 := h_169.1
          have vh_169 := h_169.2
          refine lv_aload_n hx hb dX11_fill_8 rfl (lv_at hl 0 rfl) ?_
          refine lv_iload_n hx hb dX11_fill_9 rfl (lv_at hl 2 rfl) ?_
          refine lv_iload_n hx hb dX11_fill_10 rfl (lv_at hl 1 rfl) ?_
          refine pt_i hx hb hK hP hD hS hL_a0 hK_a0 hN_a0 (rg_in h_169 (by decide +kernel)) dX11_fill_11 (fun r_170 H locs er_170 hP hD hS => ?_)
          have hG := GX.wR hG hSH hT_a0 rfl er_170 (rg_w h_a1 (by decide +kernel)) (by decide +kernel)
          obtain ⟨x_171, ex_171⟩ : ∃ y : Int32, y = x_142 + Int32.ofInt 1 := ⟨_, rfl⟩
          have h_172 : rg x_171 1 40 := rg_of_eq ex_171 (rg_add h_169 (rg_k (Int32.ofInt 1) 1 rfl) (by decide +kernel))
          have uh_172 := h_172.1
          have vh_172 := h_172.2
          have tx_171 : (x_171).toInt = (x_142).toInt + 1 := by rw [ex_171]; exact i_add_rg (a2 := (x_142).toInt) (b2 := 1) rfl rfl h_169 (rg_k (Int32.ofInt 1) 1 rfl) (by decide +kernel)
          refine lv_iinc (v := x_171) (lv' := [(2, .int x_171), (0, .ref a0), (1, .int a1)]) hx hb dX11_fill_12 hl (k := 2) rfl ex_171.symm (by decide +kernel) rfl (fun ls hl => ?_)
          refine lv_goto (tgt := 2) hx hb dX11_fill_15 (by decide +kernel) ?_
          exact ih_158 x_171 r_170 _ _ _ (rg_w h_172 (by decide +kernel)) (by omega) (fil_s hrel_164 er_170 (by have z_i := clampE x_142; have z_n := clampE x_171; omega)) (ms_up 1 hm_155 ex_171 rfl (by decide +kernel) h_169 (by decide +kernel) (by decide +kernel)) hG hP hD hS (lv_sub hl [1, 2, 0] rfl)
    exact L_157 _ (0 : Int32) ri _ _ _ (rg_w (rg_k (0 : Int32) 0 rfl) (by decide +kernel)) (by have k0 : (0 : Int32).toInt = 0 := rfl; omega) fil_0 (Nat.lt_succ_self _) hG hP hD hS (lv_sub hl [1, 2, 0] rfl)
  exact go _ _ _ hP hD hS hl
