set_option maxHeartbeats 4000000 in
set_option maxRecDepth 100000 in
theorem s_X11_fill_79 (l : Launch) (D : va_G) (t : pq_T) (σ : pq_S) (I : Nat → Nat → Int32) (J : Nat → Nat → Int64) (ri : Nat → Nat → Int32) (rj : Nat → Nat → Int64) (rq : Nat → Nat → Option Nat) (sz : Nat) (tg : Nat → Nat) (hSH : SH σ tg) (hG0 : GS tg σ I ri rq) (a0 : Nat) (a1 : Int32) (hL_a0 : a0 ∈ σ.1) (hK_a0 : σ.2.1 a0 = 13) (hN_a0 : σ.2.2.2 a0 = 40) (hT_a0 : tg a0 = 79) (h_a1 : rg a1 (-1) 39) : MetV l yX11_fill (wa yX11_fill cX11_fill 3 none) ({ frames := 0, cells := 0, slots := 0, locals := 0 }) [.ref a0, .int a1] D t σ (I, J, ri, rj, rq) sz 0 0 (fun (u : pq_S × pq_M) => ∃ ri' : Nat → Nat → Int32, u = (σ, I, J, ri', rj, rq) ∧ GX [1079] tg σ I ri rj I ri' rj rq) := by
  refine Met.ofW (cc := cX11_fill) (maxL := 3) (ret := none) (by decide) rfl ?_
  intro p e s m args below meth c s₁ B hml hv
  obtain ⟨rfl, hsz, hP, hK, hD0, hN⟩ := hv
  have hx := B.exec
  have hb := B.bytes
  have hr := B.returns
  have hts := atoms_spec (ws := (wa yX11_fill cX11_fill 3 none)) B.pre
  have hown : s.vm.findClass RX11 = some m.cls := findClass_of_methodNamed B.named
  have hlocks := B.notSynchronized
  subst hsz
  have hD : va_D (pq_B t σ (I, J, ri, rj, rq) s.heap.size) (pq_P t σ (I, J, ri, rj, rq)) := hD0.self
  generalize hAe : pq_B t σ (I, J, ri, rj, rq) s.heap.size = A at hD ⊢
  have hA : ∀ q : Nat, s.heap.size ≤ q → A q := fun q h => by rw [← hAe]; exact Or.inr h
  have hS : va_S A s.heap s.heap [] := va_S.rf
  have hG : GX [1079] tg σ I ri rj I ri rj rq := ⟨hG0, fun _ _ _ => rfl, fun _ _ _ _ _ => rfl, fun _ _ _ _ _ => rfl⟩
  have hl := lv_entry ([.ref a0, .int a1]) (n := 3) (Nat.le_of_ble_eq_true rfl)
  rw [lg_entry_eq]
  generalize (lg_sl ([.ref a0, .int a1]) ++ List.replicate (3 - (lg_sl ([.ref a0, .int a1])).length) Slot.unset).toArray = ls at hl ⊢
  have hl : lv_has ls 3 [(0, .ref a0), (1, .int a1)] := hl
  refine q_gen (fun Q hQ => ?_)
  have go : ∀ (H : Heap) (locs : List Loc) (ls : Array Slot), va_P D vwCl (pq_P t σ (I, J, ri, rj, rq)) H → va_D A (pq_P t σ (I, J, ri, rj, rq)) → va_S A s.heap H locs → lv_has ls 3 [(0, .ref a0), (1, .int a1)] → W p l e ({ frames := 0, cells := 0, slots := 0, locals := 0 } : Room) s m (List.toArray ([.ref a0, .int a1] : List Value)) below meth c H locs 0 0 Q (F0 m 0 ls []) := by
    intro H locs ls hP hD hS hl
    refine lv_iconst (v := 0) hx hb dX11_fill_0 (by decide) ?_
    refine lv_istore_n (lv' := [(2, .int 0), (0, .ref a0), (1, .int a1)]) hx hb dX11_fill_1 rfl hl (by decide) rfl (fun ls hl => ?_)
    have L_103 : ∀ (n_102 : Nat) (x_92 : Int32) (ri_93 : Nat → Nat → Int32) (H : Heap) (locs : List Loc) (ls : Array Slot), rg x_92 0 40 → (40 - (x_92).toInt).toNat < n_102 → GX [1079] tg σ I ri rj I ri_93 rj rq → va_P D vwCl (pq_P t σ (I, J, ri_93, rj, rq)) H → va_D A (pq_P t σ (I, J, ri_93, rj, rq)) → va_S A s.heap H locs → lv_has ls 3 [(0, .ref a0), (1, .int a1), (2, .int x_92)] → W p l e ({ frames := 0, cells := 0, slots := 0, locals := 0 } : Room) s m (List.toArray ([.ref a0, .int a1] : List Value)) below meth c H locs 0 0 Q (F0 m 2 ls []) := by
      intro n_102
      induction n_102 with
      | zero => intro x_92 ri_93 H locs ls h_106 hm_101 hG hP hD hS hl; exact absurd hm_101 (Nat.not_lt_zero _)
      | succ n_102 ih_104 =>
        intro x_92 ri_93 H locs ls h_106 hm_101 hG hP hD hS hl
        refine lv_iload_n hx hb dX11_fill_2 rfl (lv_at hl 2 rfl) ?_
        refine lv_aload_n hx hb dX11_fill_3 rfl (lv_at hl 0 rfl) ?_
        refine pn_i (v := 40) hx hb hK hP hL_a0 hK_a0 hN_a0 (by decide) dX11_fill_4 ?_
        refine lv_icmp_ge (tgt := 18) hx hb dX11_fill_5 (by decide) (fun c_107 => ?_) (fun c_107 => ?_)
        · have h_108 : rg x_92 40 40 := rg_le2 c_107 (rg_k (40 : Int32) 40 rfl) h_106 (by decide)
          subst hQ
          exact W.vret hx hb hr (fun t1 ht hW => ⟨⟨(σ, I, J, ri_93, rj, rq), rfl, ⟨ri_93, rfl, hG⟩, by rw [ht]; exact hP, va_K.moved hW.alike hK, hD⟩, hS.F ht⟩) hS.2.2 dX11_fill_18
        · have h_109 : rg x_92 0 39 := rg_lt1 (nle c_107) h_106 (rg_k (40 : Int32) 40 rfl) (by decide)
          refine lv_aload_n hx hb dX11_fill_8 rfl (lv_at hl 0 rfl) ?_
          refine lv_iload_n hx hb dX11_fill_9 rfl (lv_at hl 2 rfl) ?_
          refine lv_iload_n hx hb dX11_fill_10 rfl (lv_at hl 1 rfl) ?_
          refine pt_i hx hb hK hP hD hS hL_a0 hK_a0 hN_a0 (rg_in h_109 (by decide)) dX11_fill_11 (fun r_110 H locs er_110 hP hD hS => ?_)
          have hG := GX.wR hG hSH hT_a0 rfl er_110 (rg_w h_a1 (by decide)) (by decide)
          obtain ⟨x_111, ex_111⟩ : ∃ y : Int32, y = x_92 + Int32.ofInt 1 := ⟨_, rfl⟩
          have h_112 : rg x_111 1 40 := rg_of_eq ex_111 (rg_add h_109 (rg_k (Int32.ofInt 1) 1 rfl) (by decide))
          refine lv_iinc (v := x_111) (lv' := [(2, .int x_111), (0, .ref a0), (1, .int a1)]) hx hb dX11_fill_12 hl (k := 2) rfl ex_111.symm (by decide) rfl (fun ls hl => ?_)
          refine lv_goto (tgt := 2) hx hb dX11_fill_15 (by decide) ?_
          exact ih_104 x_111 r_110 _ _ _ (rg_w h_112 (by decide)) (ms_up 1 hm_101 ex_111 rfl (by decide) h_109 (by decide) (by decide)) hG hP hD hS (lv_sub hl [1, 2, 0] rfl)
    exact L_103 _ (0 : Int32) ri _ _ _ (rg_w (rg_k (0 : Int32) 0 rfl) (by decide)) (Nat.lt_succ_self _) hG hP hD hS (lv_sub hl [1, 2, 0] rfl)
  exact go _ _ _ hP hD hS hl

set_option maxHeartbeats 4000000 in
set_option maxRecDepth 100000 in
theorem s_X11_fill_80 (l : Launch) (D : va_G) (t : pq_T) (σ : pq_S) (I : Nat → Nat → Int32) (J : Nat → Nat → Int64) (ri : Nat → Nat → Int32) (rj : Nat → Nat → Int64) (rq : Nat → Nat → Option Nat) (sz : Nat) (tg : Nat → Nat) (hSH : SH σ tg) (hG0 : GS tg σ I ri rq) (a0 : Nat) (a1 : Int32) (hL_a0 : a0 ∈ σ.1) (hK_a0 : σ.2.1 a0 = 13) (hN_a0 : σ.2.2.2 a0 = 5) (hT_a0 : tg a0 = 80) (h_a1 : rg a1 (-1) 39) : MetV l yX11_fill (wa yX11_fill cX11_fill 3 none) ({ frames := 0, cells := 0, slots := 0, locals := 0 }) [.ref a0, .int a1] D t σ (I, J, ri, rj, rq) sz 0 0 (fun (u : pq_S × pq_M) => ∃ ri' : Nat → Nat → Int32, u = (σ, I, J, ri', rj, rq) ∧ GX [] tg σ I ri rj I ri' rj rq) := by
  refine Met.ofW (cc := cX11_fill) (maxL := 3) (ret := none) (by decide) rfl ?_
  intro p e s m args below meth c s₁ B hml hv
  obtain ⟨rfl, hsz, hP, hK, hD0, hN⟩ := hv
  have hx := B.exec
  have hb := B.bytes
  have hr := B.returns
  have hts := atoms_spec (ws := (wa yX11_fill cX11_fill 3 none)) B.pre
  have hown : s.vm.findClass RX11 = some m.cls := findClass_of_methodNamed B.named
  have hlocks := B.notSynchronized
  subst hsz
  have hD : va_D (pq_B t σ (I, J, ri, rj, rq) s.heap.size) (pq_P t σ (I, J, ri, rj, rq)) := hD0.self
  generalize hAe : pq_B t σ (I, J, ri, rj, rq) s.heap.size = A at hD ⊢
  have hA : ∀ q : Nat, s.heap.size ≤ q → A q := fun q h => by rw [← hAe]; exact Or.inr h
  have hS : va_S A s.heap s.heap [] := va_S.rf
  have hG : GX [] tg σ I ri rj I ri rj rq := ⟨hG0, fun _ _ _ => rfl, fun _ _ _ _ _ => rfl, fun _ _ _ _ _ => rfl⟩
  have hl := lv_entry ([.ref a0, .int a1]) (n := 3) (Nat.le_of_ble_eq_true rfl)
  rw [lg_entry_eq]
  generalize (lg_sl ([.ref a0, .int a1]) ++ List.replicate (3 - (lg_sl ([.ref a0, .int a1])).length) Slot.unset).toArray = ls at hl ⊢
  have hl : lv_has ls 3 [(0, .ref a0), (1, .int a1)] := hl
  refine q_gen (fun Q hQ => ?_)
  have go : ∀ (H : Heap) (locs : List Loc) (ls : Array Slot), va_P D vwCl (pq_P t σ (I, J, ri, rj, rq)) H → va_D A (pq_P t σ (I, J, ri, rj, rq)) → va_S A s.heap H locs → lv_has ls 3 [(0, .ref a0), (1, .int a1)] → W p l e ({ frames := 0, cells := 0, slots := 0, locals := 0 } : Room) s m (List.toArray ([.ref a0, .int a1] : List Value)) below meth c H locs 0 0 Q (F0 m 0 ls []) := by
    intro H locs ls hP hD hS hl
    refine lv_iconst (v := 0) hx hb dX11_fill_0 (by decide) ?_
    refine lv_istore_n (lv' := [(2, .int 0), (0, .ref a0), (1, .int a1)]) hx hb dX11_fill_1 rfl hl (by decide) rfl (fun ls hl => ?_)
    have L_61 : ∀ (n_60 : Nat) (x_50 : Int32) (ri_51 : Nat → Nat → Int32) (H : Heap) (locs : List Loc) (ls : Array Slot), rg x_50 0 5 → (5 - (x_50).toInt).toNat < n_60 → GX [] tg σ I ri rj I ri_51 rj rq → va_P D vwCl (pq_P t σ (I, J, ri_51, rj, rq)) H → va_D A (pq_P t σ (I, J, ri_51, rj, rq)) → va_S A s.heap H locs → lv_has ls 3 [(0, .ref a0), (1, .int a1), (2, .int x_50)] → W p l e ({ frames := 0, cells := 0, slots := 0, locals := 0 } : Room) s m (List.toArray ([.ref a0, .int a1] : List Value)) below meth c H locs 0 0 Q (F0 m 2 ls []) := by
      intro n_60
      induction n_60 with
      | zero => intro x_50 ri_51 H locs ls h_64 hm_59 hG hP hD hS hl; exact absurd hm_59 (Nat.not_lt_zero _)
      | succ n_60 ih_62 =>
        intro x_50 ri_51 H locs ls h_64 hm_59 hG hP hD hS hl
        refine lv_iload_n hx hb dX11_fill_2 rfl (lv_at hl 2 rfl) ?_
        refine lv_aload_n hx hb dX11_fill_3 rfl (lv_at hl 0 rfl) ?_
        refine pn_i (v := 5) hx hb hK hP hL_a0 hK_a0 hN_a0 (by decide) dX11_fill_4 ?_
        refine lv_icmp_ge (tgt := 18) hx hb dX11_fill_5 (by decide) (fun c_65 => ?_) (fun c_65 => ?_)
        · have h_66 : rg x_50 5 5 := rg_le2 c_65 (rg_k (5 : Int32) 5 rfl) h_64 (by decide)
          subst hQ
          exact W.vret hx hb hr (fun t1 ht hW => ⟨⟨(σ, I, J, ri_51, rj, rq), rfl, ⟨ri_51, rfl, hG⟩, by rw [ht]; exact hP, va_K.moved hW.alike hK, hD⟩, hS.F ht⟩) hS.2.2 dX11_fill_18
        · have h_67 : rg x_50 0 4 := rg_lt1 (nle c_65) h_64 (rg_k (5 : Int32) 5 rfl) (by decide)
          refine lv_aload_n hx hb dX11_fill_8 rfl (lv_at hl 0 rfl) ?_
          refine lv_iload_n hx hb dX11_fill_9 rfl (lv_at hl 2 rfl) ?_
          refine lv_iload_n hx hb dX11_fill_10 rfl (lv_at hl 1 rfl) ?_
          refine pt_i hx hb hK hP hD hS hL_a0 hK_a0 hN_a0 (rg_in h_67 (by decide)) dX11_fill_11 (fun r_68 H locs er_68 hP hD hS => ?_)
          have hG := GX.wR hG hSH hT_a0 rfl er_68 (rg_w h_a1 (by decide)) (by decide)
          obtain ⟨x_69, ex_69⟩ : ∃ y : Int32, y = x_50 + Int32.ofInt 1 := ⟨_, rfl⟩
          have h_70 : rg x_69 1 5 := rg_of_eq ex_69 (rg_add h_67 (rg_k (Int32.ofInt 1) 1 rfl) (by decide))
          refine lv_iinc (v := x_69) (lv' := [(2, .int x_69), (0, .ref a0), (1, .int a1)]) hx hb dX11_fill_12 hl (k := 2) rfl ex_69.symm (by decide) rfl (fun ls hl => ?_)
          refine lv_goto (tgt := 2) hx hb dX11_fill_15 (by decide) ?_
          exact ih_62 x_69 r_68 _ _ _ (rg_w h_70 (by decide)) (ms_up 1 hm_59 ex_69 rfl (by decide) h_67 (by decide) (by decide)) hG hP hD hS (lv_sub hl [1, 2, 0] rfl)
    exact L_61 _ (0 : Int32) ri _ _ _ (rg_w (rg_k (0 : Int32) 0 rfl) (by decide)) (Nat.lt_succ_self _) hG hP hD hS (lv_sub hl [1, 2, 0] rfl)
  exact go _ _ _ hP hD hS hl

set_option maxHeartbeats 4000000 in
set_option maxRecDepth 100000 in
theorem s_X11_fill_230 (l : Launch) (D : va_G) (t : pq_T) (σ : pq_S) (I : Nat → Nat → Int32) (J : Nat → Nat → Int64) (ri : Nat → Nat → Int32) (rj : Nat → Nat → Int64) (rq : Nat → Nat → Option Nat) (sz : Nat) (tg : Nat → Nat) (hSH : SH σ tg) (hG0 : GS tg σ I ri rq) (a0 : Nat) (a1 : Int32) (hL_a0 : a0 ∈ σ.1) (hK_a0 : σ.2.1 a0 = 13) (hN_a0 : σ.2.2.2 a0 = 12) (hT_a0 : tg a0 = 230) : MetV l yX11_fill (wa yX11_fill cX11_fill 3 none) ({ frames := 0, cells := 0, slots := 0, locals := 0 }) [.ref a0, .int a1] D t σ (I, J, ri, rj, rq) sz 0 0 (fun (u : pq_S × pq_M) => ∃ ri' : Nat → Nat → Int32, u = (σ, I, J, ri', rj, rq) ∧ GX [1230] tg σ I ri rj I ri' rj rq) := by
  refine Met.ofW (cc := cX11_fill) (maxL := 3) (ret := none) (by decide) rfl ?_
  intro p e s m args below meth c s₁ B hml hv
  obtain ⟨rfl, hsz, hP, hK, hD0, hN⟩ := hv
  have hx := B.exec
  have hb := B.bytes
  have hr := B.returns
  have hts := atoms_spec (ws := (wa yX11_fill cX11_fill 3 none)) B.pre
  have hown : s.vm.findClass RX11 = some m.cls := findClass_of_methodNamed B.named
  have hlocks := B.notSynchronized
  subst hsz
  have hD : va_D (pq_B t σ (I, J, ri, rj, rq) s.heap.size) (pq_P t σ (I, J, ri, rj, rq)) := hD0.self
  generalize hAe : pq_B t σ (I, J, ri, rj, rq) s.heap.size = A at hD ⊢
  have hA : ∀ q : Nat, s.heap.size ≤ q → A q := fun q h => by rw [← hAe]; exact Or.inr h
  have hS : va_S A s.heap s.heap [] := va_S.rf
  have hG : GX [1230] tg σ I ri rj I ri rj rq := ⟨hG0, fun _ _ _ => rfl, fun _ _ _ _ _ => rfl, fun _ _ _ _ _ => rfl⟩
  have hl := lv_entry ([.ref a0, .int a1]) (n := 3) (Nat.le_of_ble_eq_true rfl)
  rw [lg_entry_eq]
  generalize (lg_sl ([.ref a0, .int a1]) ++ List.replicate (3 - (lg_sl ([.ref a0, .int a1])).length) Slot.unset).toArray = ls at hl ⊢
  have hl : lv_has ls 3 [(0, .ref a0), (1, .int a1)] := hl
  refine q_gen (fun Q hQ => ?_)
  have go : ∀ (H : Heap) (locs : List Loc) (ls : Array Slot), va_P D vwCl (pq_P t σ (I, J, ri, rj, rq)) H → va_D A (pq_P t σ (I, J, ri, rj, rq)) → va_S A s.heap H locs → lv_has ls 3 [(0, .ref a0), (1, .int a1)] → W p l e ({ frames := 0, cells := 0, slots := 0, locals := 0 } : Room) s m (List.toArray ([.ref a0, .int a1] : List Value)) below meth c H locs 0 0 Q (F0 m 0 ls []) := by
    intro H locs ls hP hD hS hl
    refine lv_iconst (v := 0) hx hb dX11_fill_0 (by decide) ?_
    refine lv_istore_n (lv' := [(2, .int 0), (0, .ref a0), (1, .int a1)]) hx hb dX11_fill_1 rfl hl (by decide) rfl (fun ls hl => ?_)
    have L_93 : ∀ (n_92 : Nat) (x_82 : Int32) (ri_83 : Nat → Nat → Int32) (H : Heap) (locs : List Loc) (ls : Array Slot), rg x_82 0 12 → (12 - (x_82).toInt).toNat < n_92 → GX [1230] tg σ I ri rj I ri_83 rj rq → va_P D vwCl (pq_P t σ (I, J, ri_83, rj, rq)) H → va_D A (pq_P t σ (I, J, ri_83, rj, rq)) → va_S A s.heap H locs → lv_has ls 3 [(0, .ref a0), (1, .int a1), (2, .int x_82)] → W p l e ({ frames := 0, cells := 0, slots := 0, locals := 0 } : Room) s m (List.toArray ([.ref a0, .int a1] : List Value)) below meth c H locs 0 0 Q (F0 m 2 ls []) := by
      intro n_92
      induction n_92 with
      | zero => intro x_82 ri_83 H locs ls h_96 hm_91 hG hP hD hS hl; exact absurd hm_91 (Nat.not_lt_zero _)
      | succ n_92 ih_94 =>
        intro x_82 ri_83 H locs ls h_96 hm_91 hG hP hD hS hl
        refine lv_iload_n hx hb dX11_fill_2 rfl (lv_at hl 2 rfl) ?_
        refine lv_aload_n hx hb dX11_fill_3 rfl (lv_at hl 0 rfl) ?_
        refine pn_i (v := 12) hx hb hK hP hL_a0 hK_a0 hN_a0 (by decide) dX11_fill_4 ?_
        refine lv_icmp_ge (tgt := 18) hx hb dX11_fill_5 (by decide) (fun c_97 => ?_) (fun c_97 => ?_)
        · have h_98 : rg x_82 12 12 := rg_le2 c_97 (rg_k (12 : Int32) 12 rfl) h_96 (by decide)
          subst hQ
          exact W.vret hx hb hr (fun t1 ht hW => ⟨⟨(σ, I, J, ri_83, rj, rq), rfl, ⟨ri_83, rfl, hG⟩, by rw [ht]; exact hP, va_K.moved hW.alike hK, hD⟩, hS.F ht⟩) hS.2.2 dX11_fill_18
        · have h_99 : rg x_82 0 11 := rg_lt1 (nle c_97) h_96 (rg_k (12 : Int32) 12 rfl) (by decide)
          refine lv_aload_n hx hb dX11_fill_8 rfl (lv_at hl 0 rfl) ?_
          refine lv_iload_n hx hb dX11_fill_9 rfl (lv_at hl 2 rfl) ?_
          refine lv_iload_n hx hb dX11_fill_10 rfl (lv_at hl 1 rfl) ?_
          refine pt_i hx hb hK hP hD hS hL_a0 hK_a0 hN_a0 (rg_in h_99 (by decide)) dX11_fill_11 (fun r_100 H locs er_100 hP hD hS => ?_)
          have hG := GX.wR hG hSH hT_a0 rfl er_100 (rg_w (rg_full _) (by decide)) (by decide)
          obtain ⟨x_101, ex_101⟩ : ∃ y : Int32, y = x_82 + Int32.ofInt 1 := ⟨_, rfl⟩
          have h_102 : rg x_101 1 12 := rg_of_eq ex_101 (rg_add h_99 (rg_k (Int32.ofInt 1) 1 rfl) (by decide))
          refine lv_iinc (v := x_101) (lv' := [(2, .int x_101), (0, .ref a0), (1, .int a1)]) hx hb dX11_fill_12 hl (k := 2) rfl ex_101.symm (by decide) rfl (fun ls hl => ?_)
          refine lv_goto (tgt := 2) hx hb dX11_fill_15 (by decide) ?_
          exact ih_94 x_101 r_100 _ _ _ (rg_w h_102 (by decide)) (ms_up 1 hm_91 ex_101 rfl (by decide) h_99 (by decide) (by decide)) hG hP hD hS (lv_sub hl [1, 2, 0] rfl)
    exact L_93 _ (0 : Int32) ri _ _ _ (rg_w (rg_k (0 : Int32) 0 rfl) (by decide)) (Nat.lt_succ_self _) hG hP hD hS (lv_sub hl [1, 2, 0] rfl)
  exact go _ _ _ hP hD hS hl

set_option maxHeartbeats 4000000 in
set_option maxRecDepth 100000 in
theorem s_X11_fill_231 (l : Launch) (D : va_G) (t : pq_T) (σ : pq_S) (I : Nat → Nat → Int32) (J : Nat → Nat → Int64) (ri : Nat → Nat → Int32) (rj : Nat → Nat → Int64) (rq : Nat → Nat → Option Nat) (sz : Nat) (tg : Nat → Nat) (hSH : SH σ tg) (hG0 : GS tg σ I ri rq) (a0 : Nat) (a1 : Int32) (hL_a0 : a0 ∈ σ.1) (hK_a0 : σ.2.1 a0 = 13) (hN_a0 : σ.2.2.2 a0 = 12) (hT_a0 : tg a0 = 231) : MetV l yX11_fill (wa yX11_fill cX11_fill 3 none) ({ frames := 0, cells := 0, slots := 0, locals := 0 }) [.ref a0, .int a1] D t σ (I, J, ri, rj, rq) sz 0 0 (fun (u : pq_S × pq_M) => ∃ ri' : Nat → Nat → Int32, u = (σ, I, J, ri', rj, rq) ∧ GX [1231] tg σ I ri rj I ri' rj rq) := by
  refine Met.ofW (cc := cX11_fill) (maxL := 3) (ret := none) (by decide) rfl ?_
  intro p e s m args below meth c s₁ B hml hv
  obtain ⟨rfl, hsz, hP, hK, hD0, hN⟩ := hv
  have hx := B.exec
  have hb := B.bytes
  have hr := B.returns
  have hts := atoms_spec (ws := (wa yX11_fill cX11_fill 3 none)) B.pre
  have hown : s.vm.findClass RX11 = some m.cls := findClass_of_methodNamed B.named
  have hlocks := B.notSynchronized
  subst hsz
  have hD : va_D (pq_B t σ (I, J, ri, rj, rq) s.heap.size) (pq_P t σ (I, J, ri, rj, rq)) := hD0.self
  generalize hAe : pq_B t σ (I, J, ri, rj, rq) s.heap.size = A at hD ⊢
  have hA : ∀ q : Nat, s.heap.size ≤ q → A q := fun q h => by rw [← hAe]; exact Or.inr h
  have hS : va_S A s.heap s.heap [] := va_S.rf
  have hG : GX [1231] tg σ I ri rj I ri rj rq := ⟨hG0, fun _ _ _ => rfl, fun _ _ _ _ _ => rfl, fun _ _ _ _ _ => rfl⟩
  have hl := lv_entry ([.ref a0, .int a1]) (n := 3) (Nat.le_of_ble_eq_true rfl)
  rw [lg_entry_eq]
  generalize (lg_sl ([.ref a0, .int a1]) ++ List.replicate (3 - (lg_sl ([.ref a0, .int a1])).length) Slot.unset).toArray = ls at hl ⊢
  have hl : lv_has ls 3 [(0, .ref a0), (1, .int a1)] := hl
  refine q_gen (fun Q hQ => ?_)
  have go : ∀ (H : Heap) (locs : List Loc) (ls : Array Slot), va_P D vwCl (pq_P t σ (I, J, ri, rj, rq)) H → va_D A (pq_P t σ (I, J, ri, rj, rq)) → va_S A s.heap H locs → lv_has ls 3 [(0, .ref a0), (1, .int a1)] → W p l e ({ frames := 0, cells := 0, slots := 0, locals := 0 } : Room) s m (List.toArray ([.ref a0, .int a1] : List Value)) below meth c H locs 0 0 Q (F0 m 0 ls []) := by
    intro H locs ls hP hD hS hl
    refine lv_iconst (v := 0) hx hb dX11_fill_0 (by decide) ?_
    refine lv_istore_n (lv' := [(2, .int 0), (0, .ref a0), (1, .int a1)]) hx hb dX11_fill_1 rfl hl (by decide) rfl (fun ls hl => ?_)
    have L_93 : ∀ (n_92 : Nat) (x_82 : Int32) (ri_83 : Nat → Nat → Int32) (H : Heap) (locs : List Loc) (ls : Array Slot), rg x_82 0 12 → (12 - (x_82).toInt).toNat < n_92 → GX [1231] tg σ I ri rj I ri_83 rj rq → va_P D vwCl (pq_P t σ (I, J, ri_83, rj, rq)) H → va_D A (pq_P t σ (I, J, ri_83, rj, rq)) → va_S A s.heap H locs → lv_has ls 3 [(0, .ref a0), (1, .int a1), (2, .int x_82)] → W p l e ({ frames := 0, cells := 0, slots := 0, locals := 0 } : Room) s m (List.toArray ([.ref a0, .int a1] : List Value)) below meth c H locs 0 0 Q (F0 m 2 ls []) := by
      intro n_92
      induction n_92 with
      | zero => intro x_82 ri_83 H locs ls h_96 hm_91 hG hP hD hS hl; exact absurd hm_91 (Nat.not_lt_zero _)
      | succ n_92 ih_94 =>
        intro x_82 ri_83 H locs ls h_96 hm_91 hG hP hD hS hl
        refine lv_iload_n hx hb dX11_fill_2 rfl (lv_at hl 2 rfl) ?_
        refine lv_aload_n hx hb dX11_fill_3 rfl (lv_at hl 0 rfl) ?_
        refine pn_i (v := 12) hx hb hK hP hL_a0 hK_a0 hN_a0 (by decide) dX11_fill_4 ?_
        refine lv_icmp_ge (tgt := 18) hx hb dX11_fill_5 (by decide) (fun c_97 => ?_) (fun c_97 => ?_)
        · have h_98 : rg x_82 12 12 := rg_le2 c_97 (rg_k (12 : Int32) 12 rfl) h_96 (by decide)
          subst hQ
          exact W.vret hx hb hr (fun t1 ht hW => ⟨⟨(σ, I, J, ri_83, rj, rq), rfl, ⟨ri_83, rfl, hG⟩, by rw [ht]; exact hP, va_K.moved hW.alike hK, hD⟩, hS.F ht⟩) hS.2.2 dX11_fill_18
        · have h_99 : rg x_82 0 11 := rg_lt1 (nle c_97) h_96 (rg_k (12 : Int32) 12 rfl) (by decide)
          refine lv_aload_n hx hb dX11_fill_8 rfl (lv_at hl 0 rfl) ?_
          refine lv_iload_n hx hb dX11_fill_9 rfl (lv_at hl 2 rfl) ?_
          refine lv_iload_n hx hb dX11_fill_10 rfl (lv_at hl 1 rfl) ?_
          refine pt_i hx hb hK hP hD hS hL_a0 hK_a0 hN_a0 (rg_in h_99 (by decide)) dX11_fill_11 (fun r_100 H locs er_100 hP hD hS => ?_)
          have hG := GX.wR hG hSH hT_a0 rfl er_100 (rg_w (rg_full _) (by decide)) (by decide)
          obtain ⟨x_101, ex_101⟩ : ∃ y : Int32, y = x_82 + Int32.ofInt 1 := ⟨_, rfl⟩
          have h_102 : rg x_101 1 12 := rg_of_eq ex_101 (rg_add h_99 (rg_k (Int32.ofInt 1) 1 rfl) (by decide))
          refine lv_iinc (v := x_101) (lv' := [(2, .int x_101), (0, .ref a0), (1, .int a1)]) hx hb dX11_fill_12 hl (k := 2) rfl ex_101.symm (by decide) rfl (fun ls hl => ?_)
          refine lv_goto (tgt := 2) hx hb dX11_fill_15 (by decide) ?_
          exact ih_94 x_101 r_100 _ _ _ (rg_w h_102 (by decide)) (ms_up 1 hm_91 ex_101 rfl (by decide) h_99 (by decide) (by decide)) hG hP hD hS (lv_sub hl [1, 2, 0] rfl)
    exact L_93 _ (0 : Int32) ri _ _ _ (rg_w (rg_k (0 : Int32) 0 rfl) (by decide)) (Nat.lt_succ_self _) hG hP hD hS (lv_sub hl [1, 2, 0] rfl)
  exact go _ _ _ hP hD hS hl

set_option maxHeartbeats 4000000 in
set_option maxRecDepth 100000 in
theorem s_X11_fill_232 (l : Launch) (D : va_G) (t : pq_T) (σ : pq_S) (I : Nat → Nat → Int32) (J : Nat → Nat → Int64) (ri : Nat → Nat → Int32) (rj : Nat → Nat → Int64) (rq : Nat → Nat → Option Nat) (sz : Nat) (tg : Nat → Nat) (hSH : SH σ tg) (hG0 : GS tg σ I ri rq) (a0 : Nat) (a1 : Int32) (hL_a0 : a0 ∈ σ.1) (hK_a0 : σ.2.1 a0 = 13) (hN_a0 : σ.2.2.2 a0 = 12) (hT_a0 : tg a0 = 232) : MetV l yX11_fill (wa yX11_fill cX11_fill 3 none) ({ frames := 0, cells := 0, slots := 0, locals := 0 }) [.ref a0, .int a1] D t σ (I, J, ri, rj, rq) sz 0 0 (fun (u : pq_S × pq_M) => ∃ ri' : Nat → Nat → Int32, u = (σ, I, J, ri', rj, rq) ∧ GX [1232] tg σ I ri rj I ri' rj rq) := by
  refine Met.ofW (cc := cX11_fill) (maxL := 3) (ret := none) (by decide) rfl ?_
  intro p e s m args below meth c s₁ B hml hv
  obtain ⟨rfl, hsz, hP, hK, hD0, hN⟩ := hv
  have hx := B.exec
  have hb := B.bytes
  have hr := B.returns
  have hts := atoms_spec (ws := (wa yX11_fill cX11_fill 3 none)) B.pre
  have hown : s.vm.findClass RX11 = some m.cls := findClass_of_methodNamed B.named
  have hlocks := B.notSynchronized
  subst hsz
  have hD : va_D (pq_B t σ (I, J, ri, rj, rq) s.heap.size) (pq_P t σ (I, J, ri, rj, rq)) := hD0.self
  generalize hAe : pq_B t σ (I, J, ri, rj, rq) s.heap.size = A at hD ⊢
  have hA : ∀ q : Nat, s.heap.size ≤ q → A q := fun q h => by rw [← hAe]; exact Or.inr h
  have hS : va_S A s.heap s.heap [] := va_S.rf
  have hG : GX [1232] tg σ I ri rj I ri rj rq := ⟨hG0, fun _ _ _ => rfl, fun _ _ _ _ _ => rfl, fun _ _ _ _ _ => rfl⟩
  have hl := lv_entry ([.ref a0, .int a1]) (n := 3) (Nat.le_of_ble_eq_true rfl)
  rw [lg_entry_eq]
  generalize (lg_sl ([.ref a0, .int a1]) ++ List.replicate (3 - (lg_sl ([.ref a0, .int a1])).length) Slot.unset).toArray = ls at hl ⊢
  have hl : lv_has ls 3 [(0, .ref a0), (1, .int a1)] := hl
  refine q_gen (fun Q hQ => ?_)
  have go : ∀ (H : Heap) (locs : List Loc) (ls : Array Slot), va_P D vwCl (pq_P t σ (I, J, ri, rj, rq)) H → va_D A (pq_P t σ (I, J, ri, rj, rq)) → va_S A s.heap H locs → lv_has ls 3 [(0, .ref a0), (1, .int a1)] → W p l e ({ frames := 0, cells := 0, slots := 0, locals := 0 } : Room) s m (List.toArray ([.ref a0, .int a1] : List Value)) below meth c H locs 0 0 Q (F0 m 0 ls []) := by
    intro H locs ls hP hD hS hl
    refine lv_iconst (v := 0) hx hb dX11_fill_0 (by decide) ?_
    refine lv_istore_n (lv' := [(2, .int 0), (0, .ref a0), (1, .int a1)]) hx hb dX11_fill_1 rfl hl (by decide) rfl (fun ls hl => ?_)
    have L_93 : ∀ (n_92 : Nat) (x_82 : Int32) (ri_83 : Nat → Nat → Int32) (H : Heap) (locs : List Loc) (ls : Array Slot), rg x_82 0 12 → (12 - (x_82).toInt).toNat < n_92 → GX [1232] tg σ I ri rj I ri_83 rj rq → va_P D vwCl (pq_P t σ (I, J, ri_83, rj, rq)) H → va_D A (pq_P t σ (I, J, ri_83, rj, rq)) → va_S A s.heap H locs → lv_has ls 3 [(0, .ref a0), (1, .int a1), (2, .int x_82)] → W p l e ({ frames := 0, cells := 0, slots := 0, locals := 0 } : Room) s m (List.toArray ([.ref a0, .int a1] : List Value)) below meth c H locs 0 0 Q (F0 m 2 ls []) := by
      intro n_92
      induction n_92 with
      | zero => intro x_82 ri_83 H locs ls h_96 hm_91 hG hP hD hS hl; exact absurd hm_91 (Nat.not_lt_zero _)
      | succ n_92 ih_94 =>
        intro x_82 ri_83 H locs ls h_96 hm_91 hG hP hD hS hl
        refine lv_iload_n hx hb dX11_fill_2 rfl (lv_at hl 2 rfl) ?_
        refine lv_aload_n hx hb dX11_fill_3 rfl (lv_at hl 0 rfl) ?_
        refine pn_i (v := 12) hx hb hK hP hL_a0 hK_a0 hN_a0 (by decide) dX11_fill_4 ?_
        refine lv_icmp_ge (tgt := 18) hx hb dX11_fill_5 (by decide) (fun c_97 => ?_) (fun c_97 => ?_)
        · have h_98 : rg x_82 12 12 := rg_le2 c_97 (rg_k (12 : Int32) 12 rfl) h_96 (by decide)
          subst hQ
          exact W.vret hx hb hr (fun t1 ht hW => ⟨⟨(σ, I, J, ri_83, rj, rq), rfl, ⟨ri_83, rfl, hG⟩, by rw [ht]; exact hP, va_K.moved hW.alike hK, hD⟩, hS.F ht⟩) hS.2.2 dX11_fill_18
        · have h_99 : rg x_82 0 11 := rg_lt1 (nle c_97) h_96 (rg_k (12 : Int32) 12 rfl) (by decide)
          refine lv_aload_n hx hb dX11_fill_8 rfl (lv_at hl 0 rfl) ?_
          refine lv_iload_n hx hb dX11_fill_9 rfl (lv_at hl 2 rfl) ?_
          refine lv_iload_n hx hb dX11_fill_10 rfl (lv_at hl 1 rfl) ?_
          refine pt_i hx hb hK hP hD hS hL_a0 hK_a0 hN_a0 (rg_in h_99 (by decide)) dX11_fill_11 (fun r_100 H locs er_100 hP hD hS => ?_)
          have hG := GX.wR hG hSH hT_a0 rfl er_100 (rg_w (rg_full _) (by decide)) (by decide)
          obtain ⟨x_101, ex_101⟩ : ∃ y : Int32, y = x_82 + Int32.ofInt 1 := ⟨_, rfl⟩
          have h_102 : rg x_101 1 12 := rg_of_eq ex_101 (rg_add h_99 (rg_k (Int32.ofInt 1) 1 rfl) (by decide))
          refine lv_iinc (v := x_101) (lv' := [(2, .int x_101), (0, .ref a0), (1, .int a1)]) hx hb dX11_fill_12 hl (k := 2) rfl ex_101.symm (by decide) rfl (fun ls hl => ?_)
          refine lv_goto (tgt := 2) hx hb dX11_fill_15 (by decide) ?_
          exact ih_94 x_101 r_100 _ _ _ (rg_w h_102 (by decide)) (ms_up 1 hm_91 ex_101 rfl (by decide) h_99 (by decide) (by decide)) hG hP hD hS (lv_sub hl [1, 2, 0] rfl)
    exact L_93 _ (0 : Int32) ri _ _ _ (rg_w (rg_k (0 : Int32) 0 rfl) (by decide)) (Nat.lt_succ_self _) hG hP hD hS (lv_sub hl [1, 2, 0] rfl)
  exact go _ _ _ hP hD hS hl

set_option maxHeartbeats 4000000 in
set_option maxRecDepth 100000 in
theorem s_X11_fill_233 (l : Launch) (D : va_G) (t : pq_T) (σ : pq_S) (I : Nat → Nat → Int32) (J : Nat → Nat → Int64) (ri : Nat → Nat → Int32) (rj : Nat → Nat → Int64) (rq : Nat → Nat → Option Nat) (sz : Nat) (tg : Nat → Nat) (hSH : SH σ tg) (hG0 : GS tg σ I ri rq) (a0 : Nat) (a1 : Int32) (hL_a0 : a0 ∈ σ.1) (hK_a0 : σ.2.1 a0 = 13) (hN_a0 : σ.2.2.2 a0 = 12) (hT_a0 : tg a0 = 233) : MetV l yX11_fill (wa yX11_fill cX11_fill 3 none) ({ frames := 0, cells := 0, slots := 0, locals := 0 }) [.ref a0, .int a1] D t σ (I, J, ri, rj, rq) sz 0 0 (fun (u : pq_S × pq_M) => ∃ ri' : Nat → Nat → Int32, u = (σ, I, J, ri', rj, rq) ∧ GX [1233] tg σ I ri rj I ri' rj rq) := by
  refine Met.ofW (cc := cX11_fill) (maxL := 3) (ret := none) (by decide) rfl ?_
  intro p e s m args below meth c s₁ B hml hv
  obtain ⟨rfl, hsz, hP, hK, hD0, hN⟩ := hv
  have hx := B.exec
  have hb := B.bytes
  have hr := B.returns
  have hts := atoms_spec (ws := (wa yX11_fill cX11_fill 3 none)) B.pre
  have hown : s.vm.findClass RX11 = some m.cls := findClass_of_methodNamed B.named
  have hlocks := B.notSynchronized
  subst hsz
  have hD : va_D (pq_B t σ (I, J, ri, rj, rq) s.heap.size) (pq_P t σ (I, J, ri, rj, rq)) := hD0.self
  generalize hAe : pq_B t σ (I, J, ri, rj, rq) s.heap.size = A at hD ⊢
  have hA : ∀ q : Nat, s.heap.size ≤ q → A q := fun q h => by rw [← hAe]; exact Or.inr h
  have hS : va_S A s.heap s.heap [] := va_S.rf
  have hG : GX [1233] tg σ I ri rj I ri rj rq := ⟨hG0, fun _ _ _ => rfl, fun _ _ _ _ _ => rfl, fun _ _ _ _ _ => rfl⟩
  have hl := lv_entry ([.ref a0, .int a1]) (n := 3) (Nat.le_of_ble_eq_true rfl)
  rw [lg_entry_eq]
  generalize (lg_sl ([.ref a0, .int a1]) ++ List.replicate (3 - (lg_sl ([.ref a0, .int a1])).length) Slot.unset).toArray = ls at hl ⊢
  have hl : lv_has ls 3 [(0, .ref a0), (1, .int a1)] := hl
  refine q_gen (fun Q hQ => ?_)
  have go : ∀ (H : Heap) (locs : List Loc) (ls : Array Slot), va_P D vwCl (pq_P t σ (I, J, ri, rj, rq)) H → va_D A (pq_P t σ (I, J, ri, rj, rq)) → va_S A s.heap H locs → lv_has ls 3 [(0, .ref a0), (1, .int a1)] → W p l e ({ frames := 0, cells := 0, slots := 0, locals := 0 } : Room) s m (List.toArray ([.ref a0, .int a1] : List Value)) below meth c H locs 0 0 Q (F0 m 0 ls []) := by
    intro H locs ls hP hD hS hl
    refine lv_iconst (v := 0) hx hb dX11_fill_0 (by decide) ?_
    refine lv_istore_n (lv' := [(2, .int 0), (0, .ref a0), (1, .int a1)]) hx hb dX11_fill_1 rfl hl (by decide) rfl (fun ls hl => ?_)
    have L_93 : ∀ (n_92 : Nat) (x_82 : Int32) (ri_83 : Nat → Nat → Int32) (H : Heap) (locs : List Loc) (ls : Array Slot), rg x_82 0 12 → (12 - (x_82).toInt).toNat < n_92 → GX [1233] tg σ I ri rj I ri_83 rj rq → va_P D vwCl (pq_P t σ (I, J, ri_83, rj, rq)) H → va_D A (pq_P t σ (I, J, ri_83, rj, rq)) → va_S A s.heap H locs → lv_has ls 3 [(0, .ref a0), (1, .int a1), (2, .int x_82)] → W p l e ({ frames := 0, cells := 0, slots := 0, locals := 0 } : Room) s m (List.toArray ([.ref a0, .int a1] : List Value)) below meth c H locs 0 0 Q (F0 m 2 ls []) := by
      intro n_92
      induction n_92 with
      | zero => intro x_82 ri_83 H locs ls h_96 hm_91 hG hP hD hS hl; exact absurd hm_91 (Nat.not_lt_zero _)
      | succ n_92 ih_94 =>
        intro x_82 ri_83 H locs ls h_96 hm_91 hG hP hD hS hl
        refine lv_iload_n hx hb dX11_fill_2 rfl (lv_at hl 2 rfl) ?_
        refine lv_aload_n hx hb dX11_fill_3 rfl (lv_at hl 0 rfl) ?_
        refine pn_i (v := 12) hx hb hK hP hL_a0 hK_a0 hN_a0 (by decide) dX11_fill_4 ?_
        refine lv_icmp_ge (tgt := 18) hx hb dX11_fill_5 (by decide) (fun c_97 => ?_) (fun c_97 => ?_)
        · have h_98 : rg x_82 12 12 := rg_le2 c_97 (rg_k (12 : Int32) 12 rfl) h_96 (by decide)
          subst hQ
          exact W.vret hx hb hr (fun t1 ht hW => ⟨⟨(σ, I, J, ri_83, rj, rq), rfl, ⟨ri_83, rfl, hG⟩, by rw [ht]; exact hP, va_K.moved hW.alike hK, hD⟩, hS.F ht⟩) hS.2.2 dX11_fill_18
        · have h_99 : rg x_82 0 11 := rg_lt1 (nle c_97) h_96 (rg_k (12 : Int32) 12 rfl) (by decide)
          refine lv_aload_n hx hb dX11_fill_8 rfl (lv_at hl 0 rfl) ?_
          refine lv_iload_n hx hb dX11_fill_9 rfl (lv_at hl 2 rfl) ?_
          refine lv_iload_n hx hb dX11_fill_10 rfl (lv_at hl 1 rfl) ?_
          refine pt_i hx hb hK hP hD hS hL_a0 hK_a0 hN_a0 (rg_in h_99 (by decide)) dX11_fill_11 (fun r_100 H locs er_100 hP hD hS => ?_)
          have hG := GX.wR hG hSH hT_a0 rfl er_100 (rg_w (rg_full _) (by decide)) (by decide)
          obtain ⟨x_101, ex_101⟩ : ∃ y : Int32, y = x_82 + Int32.ofInt 1 := ⟨_, rfl⟩
          have h_102 : rg x_101 1 12 := rg_of_eq ex_101 (rg_add h_99 (rg_k (Int32.ofInt 1) 1 rfl) (by decide))
          refine lv_iinc (v := x_101) (lv' := [(2, .int x_101), (0, .ref a0), (1, .int a1)]) hx hb dX11_fill_12 hl (k := 2) rfl ex_101.symm (by decide) rfl (fun ls hl => ?_)
          refine lv_goto (tgt := 2) hx hb dX11_fill_15 (by decide) ?_
          exact ih_94 x_101 r_100 _ _ _ (rg_w h_102 (by decide)) (ms_up 1 hm_91 ex_101 rfl (by decide) h_99 (by decide) (by decide)) hG hP hD hS (lv_sub hl [1, 2, 0] rfl)
    exact L_93 _ (0 : Int32) ri _ _ _ (rg_w (rg_k (0 : Int32) 0 rfl) (by decide)) (Nat.lt_succ_self _) hG hP hD hS (lv_sub hl [1, 2, 0] rfl)
  exact go _ _ _ hP hD hS hl

set_option maxHeartbeats 4000000 in
set_option maxRecDepth 100000 in
theorem s_X11_fill_325 (l : Launch) (D : va_G) (t : pq_T) (σ : pq_S) (I : Nat → Nat → Int32) (J : Nat → Nat → Int64) (ri : Nat → Nat → Int32) (rj : Nat → Nat → Int64) (rq : Nat → Nat → Option Nat) (sz : Nat) (tg : Nat → Nat) (hSH : SH σ tg) (hG0 : GS tg σ I ri rq) (a0 : Nat) (a1 : Int32) (hL_a0 : a0 ∈ σ.1) (hK_a0 : σ.2.1 a0 = 13) (hN_a0 : σ.2.2.2 a0 = 40) (hT_a0 : tg a0 = 325) (h_a1 : rg a1 (-1) 39) : MetV l yX11_fill (wa yX11_fill cX11_fill 3 none) ({ frames := 0, cells := 0, slots := 0, locals := 0 }) [.ref a0, .int a1] D t σ (I, J, ri, rj, rq) sz 0 0 (fun (u : pq_S × pq_M) => ∃ ri' : Nat → Nat → Int32, u = (σ, I, J, ri', rj, rq) ∧ GX [] tg σ I ri rj I ri' rj rq) := by
  refine Met.ofW (cc := cX11_fill) (maxL := 3) (ret := none) (by decide) rfl ?_
  intro p e s m args below meth c s₁ B hml hv
  obtain ⟨rfl, hsz, hP, hK, hD0, hN⟩ := hv
  have hx := B.exec
  have hb := B.bytes
  have hr := B.returns
  have hts := atoms_spec (ws := (wa yX11_fill cX11_fill 3 none)) B.pre
  have hown : s.vm.findClass RX11 = some m.cls := findClass_of_methodNamed B.named
  have hlocks := B.notSynchronized
  subst hsz
  have hD : va_D (pq_B t σ (I, J, ri, rj, rq) s.heap.size) (pq_P t σ (I, J, ri, rj, rq)) := hD0.self
  generalize hAe : pq_B t σ (I, J, ri, rj, rq) s.heap.size = A at hD ⊢
  have hA : ∀ q : Nat, s.heap.size ≤ q → A q := fun q h => by rw [← hAe]; exact Or.inr h
  have hS : va_S A s.heap s.heap [] := va_S.rf
  have hG : GX [] tg σ I ri rj I ri rj rq := ⟨hG0, fun _ _ _ => rfl, fun _ _ _ _ _ => rfl, fun _ _ _ _ _ => rfl⟩
  have hl := lv_entry ([.ref a0, .int a1]) (n := 3) (Nat.le_of_ble_eq_true rfl)
  rw [lg_entry_eq]
  generalize (lg_sl ([.ref a0, .int a1]) ++ List.replicate (3 - (lg_sl ([.ref a0, .int a1])).length) Slot.unset).toArray = ls at hl ⊢
  have hl : lv_has ls 3 [(0, .ref a0), (1, .int a1)] := hl
  refine q_gen (fun Q hQ => ?_)
  have go : ∀ (H : Heap) (locs : List Loc) (ls : Array Slot), va_P D vwCl (pq_P t σ (I, J, ri, rj, rq)) H → va_D A (pq_P t σ (I, J, ri, rj, rq)) → va_S A s.heap H locs → lv_has ls 3 [(0, .ref a0), (1, .int a1)] → W p l e ({ frames := 0, cells := 0, slots := 0, locals := 0 } : Room) s m (List.toArray ([.ref a0, .int a1] : List Value)) below meth c H locs 0 0 Q (F0 m 0 ls []) := by
    intro H locs ls hP hD hS hl
    refine lv_iconst (v := 0) hx hb dX11_fill_0 (by decide) ?_
    refine lv_istore_n (lv' := [(2, .int 0), (0, .ref a0), (1, .int a1)]) hx hb dX11_fill_1 rfl hl (by decide) rfl (fun ls hl => ?_)
    have L_103 : ∀ (n_102 : Nat) (x_92 : Int32) (ri_93 : Nat → Nat → Int32) (H : Heap) (locs : List Loc) (ls : Array Slot), rg x_92 0 40 → (40 - (x_92).toInt).toNat < n_102 → GX [] tg σ I ri rj I ri_93 rj rq → va_P D vwCl (pq_P t σ (I, J, ri_93, rj, rq)) H → va_D A (pq_P t σ (I, J, ri_93, rj, rq)) → va_S A s.heap H locs → lv_has ls 3 [(0, .ref a0), (1, .int a1), (2, .int x_92)] → W p l e ({ frames := 0, cells := 0, slots := 0, locals := 0 } : Room) s m (List.toArray ([.ref a0, .int a1] : List Value)) below meth c H locs 0 0 Q (F0 m 2 ls []) := by
      intro n_102
      induction n_102 with
      | zero => intro x_92 ri_93 H locs ls h_106 hm_101 hG hP hD hS hl; exact absurd hm_101 (Nat.not_lt_zero _)
      | succ n_102 ih_104 =>
        intro x_92 ri_93 H locs ls h_106 hm_101 hG hP hD hS hl
        refine lv_iload_n hx hb dX11_fill_2 rfl (lv_at hl 2 rfl) ?_
        refine lv_aload_n hx hb dX11_fill_3 rfl (lv_at hl 0 rfl) ?_
        refine pn_i (v := 40) hx hb hK hP hL_a0 hK_a0 hN_a0 (by decide) dX11_fill_4 ?_
        refine lv_icmp_ge (tgt := 18) hx hb dX11_fill_5 (by decide) (fun c_107 => ?_) (fun c_107 => ?_)
        · have h_108 : rg x_92 40 40 := rg_le2 c_107 (rg_k (40 : Int32) 40 rfl) h_106 (by decide)
          subst hQ
          exact W.vret hx hb hr (fun t1 ht hW => ⟨⟨(σ, I, J, ri_93, rj, rq), rfl, ⟨ri_93, rfl, hG⟩, by rw [ht]; exact hP, va_K.moved hW.alike hK, hD⟩, hS.F ht⟩) hS.2.2 dX11_fill_18
        · have h_109 : rg x_92 0 39 := rg_lt1 (nle c_107) h_106 (rg_k (40 : Int32) 40 rfl) (by decide)
          refine lv_aload_n hx hb dX11_fill_8 rfl (lv_at hl 0 rfl) ?_
          refine lv_iload_n hx hb dX11_fill_9 rfl (lv_at hl 2 rfl) ?_
          refine lv_iload_n hx hb dX11_fill_10 rfl (lv_at hl 1 rfl) ?_
          refine pt_i hx hb hK hP hD hS hL_a0 hK_a0 hN_a0 (rg_in h_109 (by decide)) dX11_fill_11 (fun r_110 H locs er_110 hP hD hS => ?_)
          have hG := GX.wR hG hSH hT_a0 rfl er_110 (rg_w h_a1 (by decide)) (by decide)
          obtain ⟨x_111, ex_111⟩ : ∃ y : Int32, y = x_92 + Int32.ofInt 1 := ⟨_, rfl⟩
          have h_112 : rg x_111 1 40 := rg_of_eq ex_111 (rg_add h_109 (rg_k (Int32.ofInt 1) 1 rfl) (by decide))
          refine lv_iinc (v := x_111) (lv' := [(2, .int x_111), (0, .ref a0), (1, .int a1)]) hx hb dX11_fill_12 hl (k := 2) rfl ex_111.symm (by decide) rfl (fun ls hl => ?_)
          refine lv_goto (tgt := 2) hx hb dX11_fill_15 (by decide) ?_
          exact ih_104 x_111 r_110 _ _ _ (rg_w h_112 (by decide)) (ms_up 1 hm_101 ex_111 rfl (by decide) h_109 (by decide) (by decide)) hG hP hD hS (lv_sub hl [1, 2, 0] rfl)
    exact L_103 _ (0 : Int32) ri _ _ _ (rg_w (rg_k (0 : Int32) 0 rfl) (by decide)) (Nat.lt_succ_self _) hG hP hD hS (lv_sub hl [1, 2, 0] rfl)
  exact go _ _ _ hP hD hS hl
