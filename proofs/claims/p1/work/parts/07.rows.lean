theorem dX11_fill_2 : decode cX11_fill 2 = .ok (.iload_n 2, 1) := by decide +kernel
theorem dX11_fill_3 : decode cX11_fill 3 = .ok (.aload_n 0, 1) := by decide +kernel
theorem dX11_fill_4 : decode cX11_fill 4 = .ok (.arraylength, 1) := by decide +kernel
theorem dX11_fill_5 : decode cX11_fill 5 = .ok (.if_icmp .ge 13, 3) := by decide +kernel
theorem dX11_fill_8 : decode cX11_fill 8 = .ok (.aload_n 0, 1) := by decide +kernel
theorem dX11_fill_9 : decode cX11_fill 9 = .ok (.iload_n 2, 1) := by decide +kernel
theorem dX11_fill_10 : decode cX11_fill 10 = .ok (.iload_n 1, 1) := by decide +kernel
theorem dX11_fill_11 : decode cX11_fill 11 = .ok (.iastore, 1) := by decide +kernel
theorem dX11_fill_12 : decode cX11_fill 12 = .ok (.iinc 2 1, 3) := by decide +kernel
theorem dX11_fill_15 : decode cX11_fill 15 = .ok (.goto (-13), 3) := by decide +kernel
theorem dX11_fill_0 : decode cX11_fill 0 = .ok (.iconst 0, 1) := by decide +kernel
theorem dX11_fill_1 : decode cX11_fill 1 = .ok (.istore_n 2, 1) := by decide +kernel
theorem dX11_fill_18 : decode cX11_fill 18 = .ok (.return_, 1) := by decide +kernel
theorem dX11_copy_0 : decode cX11_copy 0 = .ok (.aload_n 0, 1) := by decide +kernel
theorem dX11_copy_1 : decode cX11_copy 1 = .ok (.iconst 0, 1) := by decide +kernel
theorem dX11_copy_2 : decode cX11_copy 2 = .ok (.aload_n 1, 1) := by decide +kernel
theorem dX11_copy_3 : decode cX11_copy 3 = .ok (.iconst 0, 1) := by decide +kernel
theorem dX11_copy_4 : decode cX11_copy 4 = .ok (.aload_n 0, 1) := by decide +kernel
theorem dX11_copy_5 : decode cX11_copy 5 = .ok (.arraylength, 1) := by decide +kernel
theorem dX11_copy_6 : decode cX11_copy 6 = .ok (.aload_n 1, 1) := by decide +kernel
theorem dX11_copy_7 : decode cX11_copy 7 = .ok (.arraylength, 1) := by decide +kernel
theorem tw_1103 : Cond.methodLink RX11 378 Lib.Math.min.name ∈ wsL_law := List.mem_of_getElem? (i := 1103) (by decide +kernel)
theorem tw_467 : Cond.static Lib.Math.min.name ∈ wsL_law := List.mem_of_getElem? (i := 467) (by decide +kernel)
theorem tw_276 : Cond.initialized "java/lang/Math" ∈ wsL_law := List.mem_of_getElem? (i := 276) (by decide +kernel)
theorem tw_468 : Cond.code Lib.Math.min.name Lib.Math.min.code 2 (some .int) ∈ wsL_law := List.mem_of_getElem? (i := 468) (by decide +kernel)
theorem dX11_copy_8 : decode cX11_copy 8 = .ok (.invokestatic 378, 3) := by decide +kernel
theorem tw_1104 : Cond.methodLink RX11 383 arraycopyName ∈ wsL_law := List.mem_of_getElem? (i := 1104) (by decide +kernel)
theorem tw_1105 : Cond.native arraycopyName ∈ wsL_law := List.mem_of_getElem? (i := 1105) (by decide +kernel)
theorem tw_1106 : Cond.static arraycopyName ∈ wsL_law := List.mem_of_getElem? (i := 1106) (by decide +kernel)
theorem tw_1107 : Cond.initialized "java/lang/System" ∈ wsL_law := List.mem_of_getElem? (i := 1107) (by decide +kernel)
theorem dX11_copy_11 : decode cX11_copy 11 = .ok (.invokestatic 383, 3) := by decide +kernel
theorem dX11_copy_14 : decode cX11_copy 14 = .ok (.return_, 1) := by decide +kernel
set_option maxHeartbeats 4000000 in
set_option maxRecDepth 100000 in
theorem lp_X11_fill_2 (l : Launch) (D : va_G) (t : pq_T) (σ : pq_S) (I : Nat → Nat → Int32) (J : Nat → Nat → Int64) (ri : Nat → Nat → Int32) (rj : Nat → Nat → Int64) (rq : Nat → Nat → Option Nat) (of : Nat) (v : Int32) (n_of : Nat) (hL_of : of ∈ σ.1) (hK_of : σ.2.1 of = 13) (hN_of : σ.2.2.2 of = n_of) (hn : n_of < 2 ^ 31) {p : Program} {e : Env} {s : State} {m : MethodId} {args : Array Value} {below : List Frame} {meth : Method} {c : Code} {cells slots : Nat} {Q : State → Prop} {A : Nat → Prop} (hx : p.tables.exec = Jvm.exec) (hb : c.code = cX11_fill) (hml : c.maxLocals = 3) (hts : ∀ w ∈ (wa yX11_fill cX11_fill 3 none), w.before args s = true) (hown : s.vm.findClass RX11 = some m.cls) (hK : va_K D vwCl (pq_ty t) s) (hN : pq_N s) (hA : ∀ q : Nat, s.heap.size ≤ q → A q) (hcs : cells = 0 ∧ slots = 0)
    (kk : ∀ (i : Nat) (ri' : Nat → Nat → Int32) (H : Heap) (locs : List Loc) (ls : Array Slot), (i ≤ n_of) → ((∀ j, j < i → ri' of j = v) ∧ ∀ b, b ≠ of → ri' b = ri b) → (n_of ≤ i) → va_P D vwCl (pq_P t σ (I, J, ri', rj, rq)) H → va_D A (pq_P t σ (I, J, ri', rj, rq)) → va_S A s.heap H locs → lv_has ls 3 [(2, .int (nI i)), (0, .ref of), (1, .int v)] → W p l e ({ frames := 0, cells := 0, slots := 0, locals := 0 } : Room) s m args below meth c H locs cells slots Q (F0 m 18 ls [])) :
    ∀ (n : Nat) (i : Nat) (ri' : Nat → Nat → Int32) (H : Heap) (locs : List Loc) (ls : Array Slot), (i ≤ n_of) → ((∀ j, j < i → ri' of j = v) ∧ ∀ b, b ≠ of → ri' b = ri b) → (n_of - i) < n → va_P D vwCl (pq_P t σ (I, J, ri', rj, rq)) H → va_D A (pq_P t σ (I, J, ri', rj, rq)) → va_S A s.heap H locs → lv_has ls 3 [(2, .int (nI i)), (0, .ref of), (1, .int v)] → W p l e ({ frames := 0, cells := 0, slots := 0, locals := 0 } : Room) s m args below meth c H locs cells slots Q (F0 m 2 ls []) := by
  obtain ⟨rfl, rfl⟩ := hcs
  intro n
  induction n with
  | zero => intro i ri' H locs ls hi hf hm; exact absurd hm (Nat.not_lt_zero _)
  | succ n ih =>
    intro i ri' H locs ls hi hf hm hP hD hS hl
    refine lv_iload_n hx hb dX11_fill_2 rfl (lv_at hl 0 rfl) ?_
    refine lv_aload_n hx hb dX11_fill_3 rfl (lv_at hl 1 rfl) ?_
    refine pn_i (v := nI n_of) hx hb hK hP hL_of hK_of hN_of rfl dX11_fill_4 ?_
    refine lv_icmp_ge (tgt := 18) hx hb dX11_fill_5 (by decide) (fun c_1 => ?_) (fun c_1 => ?_)
    · have nc_1 := nq_le (a := n_of) (b := i) (by omega) (by omega) c_1
      exact kk i ri' _ _ _ hi hf nc_1 hP hD hS (lv_sub hl [0, 1, 2] rfl)
    · have nc_1 := nq_nle (a := n_of) (b := i) (by omega) (by omega) c_1
      refine lv_aload_n hx hb dX11_fill_8 rfl (lv_at hl 1 rfl) ?_
      refine lv_iload_n hx hb dX11_fill_9 rfl (lv_at hl 0 rfl) ?_
      refine lv_iload_n hx hb dX11_fill_10 rfl (lv_at hl 2 rfl) ?_
      refine pt_i hx hb hK hP hD hS hL_of hK_of hN_of (nI_in (c := i) (by omega) (by omega)) dX11_fill_11 (fun r_2 H locs er_2 hP hD hS => ?_)
      refine lv_iinc (v := (nI (i + 1))) (lv' := [(2, .int (nI (i + 1))), (0, .ref of), (1, .int v)]) hx hb dX11_fill_12 hl (k := 0) rfl (nI_1 i) (by decide) rfl (fun ls hl => ?_)
      refine lv_goto (tgt := 2) hx hb dX11_fill_15 (by decide) ?_
      exact ih (i + 1) r_2 _ _ _ (by omega) (pq_f1 hf (by omega) er_2) (by omega) hP hD hS (lv_sub hl [0, 1, 2] rfl)

set_option maxHeartbeats 4000000 in
set_option maxRecDepth 100000 in
theorem c_X11_fill (l : Launch) (D : va_G) (t : pq_T) (σ : pq_S) (I : Nat → Nat → Int32) (J : Nat → Nat → Int64) (ri : Nat → Nat → Int32) (rj : Nat → Nat → Int64) (rq : Nat → Nat → Option Nat) (sz : Nat) (of : Nat) (v : Int32) (n_of : Nat) (hL_of : of ∈ σ.1) (hK_of : σ.2.1 of = 13) (hN_of : σ.2.2.2 of = n_of) (hn : n_of < 2 ^ 31) : MetV l yX11_fill (wa yX11_fill cX11_fill 3 none) ({ frames := 0, cells := 0, slots := 0, locals := 0 }) [.ref of, .int v] D t σ (I, J, ri, rj, rq) sz 0 0 (fun (u : pq_S × pq_M) => ∃ ri' : Nat → Nat → Int32, u = (σ, I, J, ri', rj, rq) ∧ ((∀ j, j < n_of → ri' of j = v) ∧ ∀ b, b ≠ of → ri' b = ri b)) := by
  refine Met.ofW (cc := cX11_fill) (maxL := 3) (ret := none) (by decide) rfl ?_
  intro p e s m args below meth c s₁ B hml hv
  obtain ⟨rfl, hsz, hP, hK, hD0, hN⟩ := hv
  have hx := B.exec
  have hb := B.bytes
  have hr := B.returns
  have hts := atoms_spec (ws := (wa yX11_fill cX11_fill 3 none)) B.pre
  have hown : s.vm.findClass RX11 = some m.cls := findClass_of_methodNamed B.named
  have hlocks := B.notSynchronized
  subst hsz
  have hD : va_D (pq_B t σ (I, J, ri, rj, rq) s.heap.size) (pq_P t σ (I, J, ri, rj, rq)) := hD0.self
  generalize hAe : pq_B t σ (I, J, ri, rj, rq) s.heap.size = A at hD ⊢
  have hA : ∀ q : Nat, s.heap.size ≤ q → A q := fun q h => by rw [← hAe]; exact Or.inr h
  have hS : va_S A s.heap s.heap [] := va_S.rf
  have hl := lv_entry ([.ref of, .int v]) (n := 3) (Nat.le_of_ble_eq_true rfl)
  rw [lg_entry_eq]
  generalize (lg_sl ([.ref of, .int v]) ++ List.replicate (3 - (lg_sl ([.ref of, .int v])).length) Slot.unset).toArray = ls at hl ⊢
  have hl : lv_has ls 3 [(0, .ref of), (1, .int v)] := hl
  refine lv_iconst (v := 0) hx hb dX11_fill_0 (by decide) ?_
  refine lv_istore_n (lv' := [(2, .int 0), (0, .ref of), (1, .int v)]) hx hb dX11_fill_1 rfl hl (by decide) rfl (fun ls hl => ?_)
  refine lp_X11_fill_2 l D t σ I J ri rj rq of v n_of hL_of hK_of hN_of hn hx hb hml hts hown hK hN hA ⟨rfl, rfl⟩ (fun i_2 ri_1 H locs ls hi_3 hf_4 hx1_5 hP hD hS hl => ?_) _ 0 ri _ _ _ (Nat.zero_le _) ⟨fun j hj => absurd hj (Nat.not_lt_zero _), fun _ _ => rfl⟩ (Nat.lt_succ_self _) hP hD hS (lv_sub hl [0, 1, 2] rfl)
  exact W.vret hx hb hr (fun t1 ht hW => ⟨⟨(σ, I, J, ri_1, rj, rq), rfl, ⟨ri_1, rfl, ⟨fun j hj => hf_4.1 j (by omega), hf_4.2⟩⟩, by rw [ht]; exact hP, va_K.moved hW.alike hK, hD⟩, hS.F ht⟩) hS.2.2 dX11_fill_18

set_option maxHeartbeats 4000000 in
set_option maxRecDepth 100000 in
theorem c_X11_copy (l : Launch) (D : va_G) (t : pq_T) (σ : pq_S) (I : Nat → Nat → Int32) (J : Nat → Nat → Int64) (ri : Nat → Nat → Int32) (rj : Nat → Nat → Int64) (rq : Nat → Nat → Option Nat) (sz : Nat) (fr : Nat) (to : Nat) (n_a : Nat) (hL_fr : fr ∈ σ.1) (hK_fr : σ.2.1 fr = 13) (hN_fr : σ.2.2.2 fr = n_a) (hL_to : to ∈ σ.1) (hK_to : σ.2.1 to = 13) (hN_to : σ.2.2.2 to = n_a) (hn : n_a < 2 ^ 31) : MetV l yX11_copy (wa yX11_copy cX11_copy 2 none) ({ frames := 1, cells := 0, slots := 0, locals := 60 }) [.ref fr, .ref to] D t σ (I, J, ri, rj, rq) sz 0 0 (fun (u : pq_S × pq_M) => ∃ ri' : Nat → Nat → Int32, u = (σ, I, J, ri', rj, rq)) := by
  refine Met.ofW (cc := cX11_copy) (maxL := 2) (ret := none) (by decide) rfl ?_
  intro p e s m args below meth c s₁ B hml hv
  obtain ⟨rfl, hsz, hP, hK, hD0, hN⟩ := hv
  have hx := B.exec
  have hb := B.bytes
  have hr := B.returns
  have hts := atoms_spec (ws := (wa yX11_copy cX11_copy 2 none)) B.pre
  have hown : s.vm.findClass RX11 = some m.cls := findClass_of_methodNamed B.named
  have hlocks := B.notSynchronized
  subst hsz
  have hD : va_D (pq_B t σ (I, J, ri, rj, rq) s.heap.size) (pq_P t σ (I, J, ri, rj, rq)) := hD0.self
  generalize hAe : pq_B t σ (I, J, ri, rj, rq) s.heap.size = A at hD ⊢
  have hA : ∀ q : Nat, s.heap.size ≤ q → A q := fun q h => by rw [← hAe]; exact Or.inr h
  have hS : va_S A s.heap s.heap [] := va_S.rf
  have hl := lv_entry ([.ref fr, .ref to]) (n := 2) (Nat.le_of_ble_eq_true rfl)
  rw [lg_entry_eq]
  generalize (lg_sl ([.ref fr, .ref to]) ++ List.replicate (2 - (lg_sl ([.ref fr, .ref to])).length) Slot.unset).toArray = ls at hl ⊢
  have hl : lv_has ls 2 [(0, .ref fr), (1, .ref to)] := hl
  refine lv_aload_n hx hb dX11_copy_0 rfl (lv_at hl 0 rfl) ?_
  refine lv_iconst (v := 0) hx hb dX11_copy_1 (by decide) ?_
  refine lv_aload_n hx hb dX11_copy_2 rfl (lv_at hl 1 rfl) ?_
  refine lv_iconst (v := 0) hx hb dX11_copy_3 (by decide) ?_
  refine lv_aload_n hx hb dX11_copy_4 rfl (lv_at hl 0 rfl) ?_
  refine pn_i (v := nI n_a) hx hb hK hP hL_fr hK_fr hN_fr rfl dX11_copy_5 ?_
  refine lv_aload_n hx hb dX11_copy_6 rfl (lv_at hl 1 rfl) ?_
  refine pn_i (v := nI n_a) hx hb hK hP hL_to hK_to hN_to rfl dX11_copy_7 ?_
  refine va_mmin hx hb (hml.trans hl.1.symm) hown (hts _ (tw_c tw_1103)) (hts _ (tw_c tw_467)) (hts _ (tw_c tw_276)) (hts _ (tw_c tw_468)) (Nat.le_of_ble_eq_true rfl) (Nat.le_of_ble_eq_true rfl) (Nat.zero_le _) (Nat.zero_le _) dX11_copy_8 ?_
  refine lv_tov (nI n_a) (by split <;> rfl) ?_
  refine pc_i hx hb (hml.trans hl.1.symm) hown (hts _ (tw_c tw_1104)) (hts _ (tw_c tw_1105)) (hts _ (tw_c tw_1106)) (hts _ (tw_c tw_1107)) hK hP hD hS hL_fr hK_fr hN_fr hL_to hK_to hN_to (by decide) (nI_pos (n := n_a) (by omega)) (by rw [nI_clamp (n := n_a) (by omega)]; exact Nat.le_of_eq (Nat.zero_add _)) (Nat.le_of_eq (nI_clamp (n := n_a) (by omega))) (Nat.le_of_ble_eq_true rfl) (Nat.le_of_ble_eq_true rfl) dX11_copy_11 (fun r_2 H locs er_2 hP hD hS => ?_)
  exact W.vret hx hb hr (fun t1 ht hW => ⟨⟨(σ, I, J, r_2, rj, rq), rfl, ⟨r_2, rfl⟩, by rw [ht]; exact hP, va_K.moved hW.alike hK, hD⟩, hS.F ht⟩) hS.2.2 dX11_copy_14
