set_option maxHeartbeats 4000000 in
set_option maxRecDepth 100000 in
theorem s_X11_between_v (l : Launch) (D : va_G) (t : pq_T) (σ : pq_S) (I : Nat → Nat → Int32) (J : Nat → Nat → Int64) (ri : Nat → Nat → Int32) (rj : Nat → Nat → Int64) (rq : Nat → Nat → Option Nat) (sz : Nat) (tg : Nat → Nat) (hSH : SH σ tg) (hG0 : GS tg σ I ri rq) (a0 : Int32) (a1 : Int32) (a2 : Int32) : MetI l yX11_between (wa yX11_between cX11_between 3 (some .boolean)) ({ frames := 0, cells := 0, slots := 0, locals := 0 }) [.int a0, .int a1, .int a2] D t σ (I, J, ri, rj, rq) sz 0 0 (fun (r : Int32) (u : pq_S × pq_M) => u = (σ, I, J, ri, rj, rq) ∧ ((r = 1 ∧ a1 ≤ a0 ∧ a0 ≤ a2) ∨ (r = 0 ∧ (a0.toInt < a1.toInt ∨ a2.toInt < a0.toInt)))) := by
  refine Met.ofW (cc := cX11_between) (maxL := 3) (ret := (some .boolean)) (by decide) rfl ?_
  intro p e s m args below meth c s₁ B hml hv
  obtain ⟨rfl, hsz, hP, hK, hD0, hN⟩ := hv
  have hx := B.exec
  have hb := B.bytes
  have hr := B.returns
  have hts := atoms_spec (ws := (wa yX11_between cX11_between 3 (some .boolean))) B.pre
  have hown : s.vm.findClass RX11 = some m.cls := findClass_of_methodNamed B.named
  have hlocks := B.notSynchronized
  subst hsz
  have hD : va_D (pq_B t σ (I, J, ri, rj, rq) s.heap.size) (pq_P t σ (I, J, ri, rj, rq)) := hD0.self
  generalize hAe : pq_B t σ (I, J, ri, rj, rq) s.heap.size = A at hD ⊢
  have hA : ∀ q : Nat, s.heap.size ≤ q → A q := fun q h => by rw [← hAe]; exact Or.inr h
  have hS : va_S A s.heap s.heap [] := va_S.rf
  have hG : GX [] tg σ I ri rj I ri rj rq := ⟨hG0, fun _ _ _ => rfl, fun _ _ _ _ _ => rfl, fun _ _ _ _ _ => rfl⟩
  have hl := lv_entry ([.int a0, .int a1, .int a2]) (n := 3) (Nat.le_of_ble_eq_true rfl)
  rw [lg_entry_eq]
  generalize (lg_sl ([.int a0, .int a1, .int a2]) ++ List.replicate (3 - (lg_sl ([.int a0, .int a1, .int a2])).length) Slot.unset).toArray = ls at hl ⊢
  have hl : lv_has ls 3 [(0, .int a0), (1, .int a1), (2, .int a2)] := hl
  refine q_gen (fun Q hQ => ?_)
  have go : ∀ (H : Heap) (locs : List Loc) (ls : Array Slot), va_P D vwCl (pq_P t σ (I, J, ri, rj, rq)) H → va_D A (pq_P t σ (I, J, ri, rj, rq)) → va_S A s.heap H locs → lv_has ls 3 [(0, .int a0), (1, .int a1), (2, .int a2)] → W p l e ({ frames := 0, cells := 0, slots := 0, locals := 0 } : Room) s m (List.toArray ([.int a0, .int a1, .int a2] : List Value)) below meth c H locs 0 0 Q (F0 m 0 ls []) := by
    intro H locs ls hP hD hS hl
    refine lv_iload_n hx hb dX11_between_0 rfl (lv_at hl 0 rfl) ?_
    refine lv_iload_n hx hb dX11_between_1 rfl (lv_at hl 1 rfl) ?_
    refine lv_icmp_lt (tgt := 14) hx hb dX11_between_2 (by decide) (fun c_1 => ?_) (fun c_1 => ?_)
    · have tc_2 : (a0).toInt < (a1).toInt := Int32.lt_iff_toInt_lt.mp c_1
      have h_3 : rg a0 (-2147483648) 2147483646 := rg_lt1 c_1 (rg_full _) (rg_full _) (by decide)
      have uh_3 := h_3.1
      have vh_3 := h_3.2
      have h_4 : rg a1 (-2147483647) 2147483647 := rg_lt2 c_1 (rg_full _) (rg_full _) (by decide)
      have uh_4 := h_4.1
      have vh_4 := h_4.2
      refine lv_iconst (v := 0) hx hb dX11_between_14 (by decide) ?_
      subst hQ
      exact W.zret (v := 0) hx hb hr (by decide) (fun t1 ht hW => ⟨⟨0, (σ, I, J, ri, rj, rq), rfl, ⟨rfl, (Or.inr ⟨rfl, (by omega)⟩)⟩, by rw [ht]; exact hP, va_K.moved hW.alike hK, hD⟩, hS.F ht⟩) hS.2.2 dX11_between_15
    · have tc_5 : (a1).toInt ≤ (a0).toInt := Int32.le_iff_toInt_le.mp (nlt c_1)
      refine lv_iload_n hx hb dX11_between_5 rfl (lv_at hl 0 rfl) ?_
      refine lv_iload_n hx hb dX11_between_6 rfl (lv_at hl 2 rfl) ?_
      refine lv_icmp_gt (tgt := 14) hx hb dX11_between_7 (by decide) (fun c_6 => ?_) (fun c_6 => ?_)
      · have tc_7 : (a2).toInt < (a0).toInt := Int32.lt_iff_toInt_lt.mp c_6
        have h_8 : rg a2 (-2147483648) 2147483646 := rg_lt1 c_6 (rg_full _) (rg_full _) (by decide)
        have uh_8 := h_8.1
        have vh_8 := h_8.2
        have h_9 : rg a0 (-2147483647) 2147483647 := rg_lt2 c_6 (rg_full _) (rg_full _) (by decide)
        have uh_9 := h_9.1
        have vh_9 := h_9.2
        refine lv_iconst (v := 0) hx hb dX11_between_14 (by decide) ?_
        subst hQ
        exact W.zret (v := 0) hx hb hr (by decide) (fun t1 ht hW => ⟨⟨0, (σ, I, J, ri, rj, rq), rfl, ⟨rfl, (Or.inr ⟨rfl, (by omega)⟩)⟩, by rw [ht]; exact hP, va_K.moved hW.alike hK, hD⟩, hS.F ht⟩) hS.2.2 dX11_between_15
      · have tc_10 : (a0).toInt ≤ (a2).toInt := Int32.le_iff_toInt_le.mp (nlt c_6)
        refine lv_iconst (v := 1) hx hb dX11_between_10 (by decide) ?_
        refine lv_goto (tgt := 15) hx hb dX11_between_11 (by decide) ?_
        subst hQ
        exact W.zret (v := 1) hx hb hr (by decide) (fun t1 ht hW => ⟨⟨1, (σ, I, J, ri, rj, rq), rfl, ⟨rfl, (Or.inl ⟨rfl, (nlt c_1), (nlt c_6)⟩)⟩, by rw [ht]; exact hP, va_K.moved hW.alike hK, hD⟩, hS.F ht⟩) hS.2.2 dX11_between_15
  exact go _ _ _ hP hD hS hl
