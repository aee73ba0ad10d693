theorem dX6_rewind_0 : decode cX6_rewind 0 = .ok (.aload_n 0, 1) := by decide +kernel
theorem dX6_rewind_1 : decode cX6_rewind 1 = .ok (.iconst 0, 1) := by decide +kernel
theorem tw_662 : Cond.fieldLink RX6 19 "RingsUnder$Scanner" "at" "I" ∈ wsL_law := List.mem_of_getElem? (i := 662) (by decide +kernel)
theorem dX6_rewind_2 : decode cX6_rewind 2 = .ok (.putfield 19, 3) := by decide +kernel
theorem dX6_rewind_5 : decode cX6_rewind 5 = .ok (.return_, 1) := by decide +kernel
theorem dX6_advance_0 : decode cX6_advance 0 = .ok (.aload_n 0, 1) := by decide +kernel
theorem dX6_advance_1 : decode cX6_advance 1 = .ok (.getfield 19, 3) := by decide +kernel
theorem dX6_advance_4 : decode cX6_advance 4 = .ok (.aload_n 0, 1) := by decide +kernel
theorem dX6_advance_5 : decode cX6_advance 5 = .ok (.getfield 15, 3) := by decide +kernel
theorem dX6_advance_8 : decode cX6_advance 8 = .ok (.if_icmp .ge 44, 3) := by decide +kernel
theorem dX6_advance_52 : decode cX6_advance 52 = .ok (.aload_n 0, 1) := by decide +kernel
theorem dX6_advance_53 : decode cX6_advance 53 = .ok (.aload_n 0, 1) := by decide +kernel
theorem dX6_advance_54 : decode cX6_advance 54 = .ok (.getfield 19, 3) := by decide +kernel
theorem tw_667 : Cond.fieldLink RX6 22 "RingsUnder$Scanner" "start" "I" ∈ wsL_law := List.mem_of_getElem? (i := 667) (by decide +kernel)
theorem dX6_advance_57 : decode cX6_advance 57 = .ok (.putfield 22, 3) := by decide +kernel
theorem dX6_advance_60 : decode cX6_advance 60 = .ok (.aload_n 0, 1) := by decide +kernel
theorem dX6_advance_61 : decode cX6_advance 61 = .ok (.getfield 19, 3) := by decide +kernel
theorem dX6_advance_64 : decode cX6_advance 64 = .ok (.aload_n 0, 1) := by decide +kernel
theorem dX6_advance_65 : decode cX6_advance 65 = .ok (.getfield 15, 3) := by decide +kernel
theorem dX6_advance_68 : decode cX6_advance 68 = .ok (.if_icmp .lt 12, 3) := by decide +kernel
theorem dX6_advance_71 : decode cX6_advance 71 = .ok (.aload_n 0, 1) := by decide +kernel
theorem dX6_advance_72 : decode cX6_advance 72 = .ok (.bipush 33, 2) := by decide +kernel
theorem tw_668 : Cond.fieldLink RX6 25 "RingsUnder$Scanner" "token" "I" ∈ wsL_law := List.mem_of_getElem? (i := 668) (by decide +kernel)
theorem dX6_advance_74 : decode cX6_advance 74 = .ok (.putfield 25, 3) := by decide +kernel
theorem dX6_advance_77 : decode cX6_advance 77 = .ok (.goto 77, 3) := by decide +kernel
theorem dX6_advance_154 : decode cX6_advance 154 = .ok (.return_, 1) := by decide +kernel
theorem dX4_read_0 : decode cX4_read 0 = .ok (.aload_n 0, 1) := by decide +kernel
theorem dX4_read_1 : decode cX4_read 1 = .ok (.iconst 0, 1) := by decide +kernel
theorem dX4_read_2 : decode cX4_read 2 = .ok (.putfield 18, 3) := by decide +kernel
theorem dX4_read_5 : decode cX4_read 5 = .ok (.aload_n 0, 1) := by decide +kernel
theorem dX4_read_6 : decode cX4_read 6 = .ok (.iconst (-1), 1) := by decide +kernel
theorem dX4_read_7 : decode cX4_read 7 = .ok (.putfield 22, 3) := by decide +kernel
theorem dX4_read_10 : decode cX4_read 10 = .ok (.aload_n 0, 1) := by decide +kernel
theorem dX4_read_11 : decode cX4_read 11 = .ok (.new 25, 3) := by decide +kernel
theorem dX4_read_14 : decode cX4_read 14 = .ok (.dup, 1) := by decide +kernel
theorem dX4_read_15 : decode cX4_read 15 = .ok (.invokespecial 27, 3) := by decide +kernel
theorem dX4_read_18 : decode cX4_read 18 = .ok (.putfield 28, 3) := by decide +kernel
theorem dX4_read_21 : decode cX4_read 21 = .ok (.aload_n 0, 1) := by decide +kernel
theorem dX4_read_22 : decode cX4_read 22 = .ok (.iconst 0, 1) := by decide +kernel
theorem tw_656 : Cond.fieldLink RX4 36 "RingsUnder$Reader" "codes" "I" ∈ wsL_law := List.mem_of_getElem? (i := 656) (by decide +kernel)
theorem dX4_read_23 : decode cX4_read 23 = .ok (.putfield 36, 3) := by decide +kernel
theorem dX4_read_26 : decode cX4_read 26 = .ok (.aload_n 0, 1) := by decide +kernel
theorem dX4_read_27 : decode cX4_read 27 = .ok (.getfield 12, 3) := by decide +kernel
theorem tw_658 : Cond.methodLink RX4 39 yX6_rewind ∈ wsL_law := List.mem_of_getElem? (i := 658) (by decide +kernel)
theorem tw_659 : Cond.instanceMethod yX6_rewind ∈ wsL_law := List.mem_of_getElem? (i := 659) (by decide +kernel)
theorem tw_660 : Cond.selects RX6 yX6_rewind yX6_rewind ∈ wsL_law := List.mem_of_getElem? (i := 660) (by decide +kernel)
theorem tw_661 : Cond.code yX6_rewind cX6_rewind 1 none ∈ wsL_law := List.mem_of_getElem? (i := 661) (by decide +kernel)
theorem dX4_read_30 : decode cX4_read 30 = .ok (.invokevirtual 39, 3) := by decide +kernel
theorem dX4_read_33 : decode cX4_read 33 = .ok (.aload_n 0, 1) := by decide +kernel
theorem dX4_read_34 : decode cX4_read 34 = .ok (.getfield 12, 3) := by decide +kernel
theorem tw_663 : Cond.methodLink RX4 42 yX6_advance ∈ wsL_law := List.mem_of_getElem? (i := 663) (by decide +kernel)
theorem tw_664 : Cond.instanceMethod yX6_advance ∈ wsL_law := List.mem_of_getElem? (i := 664) (by decide +kernel)
theorem tw_665 : Cond.selects RX6 yX6_advance yX6_advance ∈ wsL_law := List.mem_of_getElem? (i := 665) (by decide +kernel)
theorem tw_666 : Cond.code yX6_advance cX6_advance 1 none ∈ wsL_law := List.mem_of_getElem? (i := 666) (by decide +kernel)
theorem dX4_read_37 : decode cX4_read 37 = .ok (.invokevirtual 42, 3) := by decide +kernel
theorem dX4_read_40 : decode cX4_read 40 = .ok (.iconst 0, 1) := by decide +kernel
theorem dX4_read_41 : decode cX4_read 41 = .ok (.istore_n 1, 1) := by decide +kernel
theorem dX4_read_42 : decode cX4_read 42 = .ok (.iload_n 1, 1) := by decide +kernel
theorem dX4_read_43 : decode cX4_read 43 = .ok (.sipush 300, 3) := by decide +kernel
theorem dX4_read_46 : decode cX4_read 46 = .ok (.if_icmp .gt 39, 3) := by decide +kernel
theorem dX4_read_49 : decode cX4_read 49 = .ok (.aload_n 0, 1) := by decide +kernel
theorem dX4_read_50 : decode cX4_read 50 = .ok (.getfield 18, 3) := by decide +kernel
theorem dX4_read_53 : decode cX4_read 53 = .ok (.ifCond .ne 32, 3) := by decide +kernel
theorem dX4_read_56 : decode cX4_read 56 = .ok (.aload_n 0, 1) := by decide +kernel
theorem dX4_read_57 : decode cX4_read 57 = .ok (.getfield 12, 3) := by decide +kernel
theorem tw_657 : Cond.fieldLink RX4 45 "RingsUnder$Scanner" "token" "I" ∈ wsL_law := List.mem_of_getElem? (i := 657) (by decide +kernel)
theorem dX4_read_60 : decode cX4_read 60 = .ok (.getfield 45, 3) := by decide +kernel
theorem dX4_read_63 : decode cX4_read 63 = .ok (.bipush 33, 2) := by decide +kernel
theorem dX4_read_65 : decode cX4_read 65 = .ok (.if_icmp .eq 20, 3) := by decide +kernel
theorem dX4_read_85 : decode cX4_read 85 = .ok (.aload_n 0, 1) := by decide +kernel
theorem dX4_read_86 : decode cX4_read 86 = .ok (.getfield 28, 3) := by decide +kernel
theorem dX4_read_89 : decode cX4_read 89 = .ok (.areturn, 1) := by decide +kernel
theorem dX11_text_0 : decode cX11_text 0 = .ok (.aload_n 0, 1) := by decide +kernel
theorem dX11_text_1 : decode cX11_text 1 = .ok (.getfield 10, 3) := by decide +kernel
theorem dX11_text_4 : decode cX11_text 4 = .ok (.getfield 208, 3) := by decide +kernel
theorem dX11_text_7 : decode cX11_text 7 = .ok (.astore_n 1, 1) := by decide +kernel
theorem dX11_text_8 : decode cX11_text 8 = .ok (.aload_n 1, 1) := by decide +kernel
theorem dX11_text_9 : decode cX11_text 9 = .ok (.getfield 212, 3) := by decide +kernel
theorem dX11_text_12 : decode cX11_text 12 = .ok (.bipush 10, 2) := by decide +kernel
theorem dX11_text_14 : decode cX11_text 14 = .ok (.if_icmp .lt 5, 3) := by decide +kernel
theorem dX11_text_19 : decode cX11_text 19 = .ok (.aload_n 0, 1) := by decide +kernel
theorem dX11_text_20 : decode cX11_text 20 = .ok (.getfield 32, 3) := by decide +kernel
theorem tw_652 : Cond.methodLink RX11 217 yX4_read ∈ wsL_law := List.mem_of_getElem? (i := 652) (by decide +kernel)
theorem tw_653 : Cond.instanceMethod yX4_read ∈ wsL_law := List.mem_of_getElem? (i := 653) (by decide +kernel)
theorem tw_654 : Cond.selects RX4 yX4_read yX4_read ∈ wsL_law := List.mem_of_getElem? (i := 654) (by decide +kernel)
theorem tw_655 : Cond.code yX4_read cX4_read 2 (some (.object "RingsUnder$Text")) ∈ wsL_law := List.mem_of_getElem? (i := 655) (by decide +kernel)
theorem dX11_text_23 : decode cX11_text 23 = .ok (.invokevirtual 217, 3) := by decide +kernel
theorem dX11_text_26 : decode cX11_text 26 = .ok (.astore_n 2, 1) := by decide +kernel
theorem dX11_text_27 : decode cX11_text 27 = .ok (.aload_n 0, 1) := by decide +kernel
theorem dX11_text_28 : decode cX11_text 28 = .ok (.getfield 32, 3) := by decide +kernel
theorem dX11_text_31 : decode cX11_text 31 = .ok (.getfield 195, 3) := by decide +kernel
theorem dX11_text_34 : decode cX11_text 34 = .ok (.iconst 0, 1) := by decide +kernel
theorem dX11_text_35 : decode cX11_text 35 = .ok (.putfield 199, 3) := by decide +kernel
theorem dX11_text_38 : decode cX11_text 38 = .ok (.aload_n 0, 1) := by decide +kernel
theorem dX11_text_39 : decode cX11_text 39 = .ok (.getfield 32, 3) := by decide +kernel
theorem dX11_text_42 : decode cX11_text 42 = .ok (.getfield 221, 3) := by decide +kernel
theorem dX11_text_45 : decode cX11_text 45 = .ok (.ifCond .eq 5, 3) := by decide +kernel
theorem dX11_text_50 : decode cX11_text 50 = .ok (.aload_n 1, 1) := by decide +kernel
theorem tw_651 : Cond.fieldLink RX11 224 "RingsUnder$Law" "texts" "[LRingsUnder$Text;" ∈ wsL_law := List.mem_of_getElem? (i := 651) (by decide +kernel)
theorem dX11_text_51 : decode cX11_text 51 = .ok (.getfield 224, 3) := by decide +kernel
theorem dX11_text_54 : decode cX11_text 54 = .ok (.aload_n 1, 1) := by decide +kernel
theorem dX11_text_55 : decode cX11_text 55 = .ok (.getfield 212, 3) := by decide +kernel
theorem dX11_text_58 : decode cX11_text 58 = .ok (.aload_n 2, 1) := by decide +kernel
theorem dX11_text_59 : decode cX11_text 59 = .ok (.aastore, 1) := by decide +kernel
theorem dX11_text_60 : decode cX11_text 60 = .ok (.aload_n 1, 1) := by decide +kernel
theorem dX11_text_61 : decode cX11_text 61 = .ok (.dup, 1) := by decide +kernel
theorem dX11_text_62 : decode cX11_text 62 = .ok (.getfield 212, 3) := by decide +kernel
theorem dX11_text_65 : decode cX11_text 65 = .ok (.iconst 1, 1) := by decide +kernel
theorem dX11_text_66 : decode cX11_text 66 = .ok (.iadd, 1) := by decide +kernel
theorem dX11_text_67 : decode cX11_text 67 = .ok (.putfield 212, 3) := by decide +kernel
theorem dX11_text_70 : decode cX11_text 70 = .ok (.aload_n 1, 1) := by decide +kernel
theorem dX11_text_71 : decode cX11_text 71 = .ok (.getfield 212, 3) := by decide +kernel
theorem dX11_text_74 : decode cX11_text 74 = .ok (.iconst 1, 1) := by decide +kernel
theorem dX11_text_75 : decode cX11_text 75 = .ok (.isub, 1) := by decide +kernel
theorem dX11_text_76 : decode cX11_text 76 = .ok (.ireturn, 1) := by decide +kernel
set_option maxHeartbeats 4000000 in
set_option maxRecDepth 100000 in
theorem c_X6_rewind (l : Launch) (D : va_G) (t : pq_T) (σ : pq_S) (I : Nat → Nat → Int32) (J : Nat → Nat → Int64) (ri : Nat → Nat → Int32) (rj : Nat → Nat → Int64) (rq : Nat → Nat → Option Nat) (sz : Nat) (this : Nat) (hL_this : this ∈ σ.1) (hK_this : σ.2.1 this = 6) : MetV l yX6_rewind (wa yX6_rewind cX6_rewind 1 none) ({ frames := 0, cells := 0, slots := 0, locals := 0 }) [.ref this] D t σ (I, J, ri, rj, rq) sz 0 0 (fun (u : pq_S × pq_M) => ∃ I' : Nat → Nat → Int32, u = (σ, I', J, ri, rj, rq) ∧ (∀ f, f ∉ ([197] : List Nat) → I' f = I f) ∧ (I' 197 this = 0)) := by
  refine Met.ofW (cc := cX6_rewind) (maxL := 1) (ret := none) (by decide) rfl ?_
  intro p e s m args below meth c s₁ B hml hv
  obtain ⟨rfl, hsz, hP, hK, hD0, hN⟩ := hv
  have hx := B.exec
  have hb := B.bytes
  have hr := B.returns
  have hts := atoms_spec (ws := (wa yX6_rewind cX6_rewind 1 none)) B.pre
  have hown : s.vm.findClass RX6 = some m.cls := findClass_of_methodNamed B.named
  have hlocks := B.notSynchronized
  subst hsz
  have hD : va_D (pq_B t σ (I, J, ri, rj, rq) s.heap.size) (pq_P t σ (I, J, ri, rj, rq)) := hD0.self
  generalize hAe : pq_B t σ (I, J, ri, rj, rq) s.heap.size = A at hD ⊢
  have hA : ∀ q : Nat, s.heap.size ≤ q → A q := fun q h => by rw [← hAe]; exact Or.inr h
  have hS : va_S A s.heap s.heap [] := va_S.rf
  have hl := lv_entry ([.ref this]) (n := 1) (Nat.le_of_ble_eq_true rfl)
  rw [lg_entry_eq]
  generalize (lg_sl ([.ref this]) ++ List.replicate (1 - (lg_sl ([.ref this])).length) Slot.unset).toArray = ls at hl ⊢
  have hl : lv_has ls 1 [(0, .ref this)] := hl
  refine lv_aload_n hx hb dX6_rewind_0 rfl (lv_at hl 0 rfl) ?_
  refine lv_iconst (v := 0) hx hb dX6_rewind_1 (by decide) ?_
  refine pp_i (v := 0) (ty := .int) (C := RX6) (T := TX6) (N := 6) hx hb hts (tw_i inlX6) tyX6 tyX6_ok nmX6 hown hK hP hD hS hL_this hK_this (by decide) rfl 5 197 (by decide) (hts _ (tw_c tw_662)) rfl (by decide +kernel) rfl rfl (Nat.le_of_ble_eq_true rfl) (ps_197 _ _ _ _ _) dX6_rewind_2 (fun I_1 H locs eI_1 hP hD hS => ?_)
  exact W.vret hx hb hr (fun t1 ht hW => ⟨⟨(σ, I_1, J, ri, rj, rq), rfl, ⟨I_1, rfl, (fun f hg => by rw [eI_1, pq_uf _ _ _ (by intro q; subst q; exact hg (by decide))]), (by rw [eI_1]; exact pq_us _ _ _ _)⟩, by rw [ht]; exact hP, va_K.moved hW.alike hK, hD⟩, hS.F ht⟩) hS.2.2 dX6_rewind_5

set_option maxHeartbeats 4000000 in
set_option maxRecDepth 100000 in
theorem c_X6_advance (l : Launch) (D : va_G) (t : pq_T) (σ : pq_S) (I : Nat → Nat → Int32) (J : Nat → Nat → Int64) (ri : Nat → Nat → Int32) (rj : Nat → Nat → Int64) (rq : Nat → Nat → Option Nat) (sz : Nat) (this : Nat) (hL_this : this ∈ σ.1) (hK_this : σ.2.1 this = 6) (hZ : pq_Z I) (hAt : I 197 this = 0) : MetV l yX6_advance (wa yX6_advance cX6_advance 1 none) ({ frames := 0, cells := 0, slots := 0, locals := 0 }) [.ref this] D t σ (I, J, ri, rj, rq) sz 0 0 (fun (u : pq_S × pq_M) => ∃ I' : Nat → Nat → Int32, u = (σ, I', J, ri, rj, rq) ∧ (∀ f, f ∉ ([194, 195] : List Nat) → I' f = I f) ∧ (I' 194 this = 33)) := by
  refine Met.ofW (cc := cX6_advance) (maxL := 1) (ret := none) (by decide) rfl ?_
  intro p e s m args below meth c s₁ B hml hv
  obtain ⟨rfl, hsz, hP, hK, hD0, hN⟩ := hv
  have hx := B.exec
  have hb := B.bytes
  have hr := B.returns
  have hts := atoms_spec (ws := (wa yX6_advance cX6_advance 1 none)) B.pre
  have hown : s.vm.findClass RX6 = some m.cls := findClass_of_methodNamed B.named
  have hlocks := B.notSynchronized
  subst hsz
  have hD : va_D (pq_B t σ (I, J, ri, rj, rq) s.heap.size) (pq_P t σ (I, J, ri, rj, rq)) := hD0.self
  generalize hAe : pq_B t σ (I, J, ri, rj, rq) s.heap.size = A at hD ⊢
  have hA : ∀ q : Nat, s.heap.size ≤ q → A q := fun q h => by rw [← hAe]; exact Or.inr h
  have hS : va_S A s.heap s.heap [] := va_S.rf
  have hl := lv_entry ([.ref this]) (n := 1) (Nat.le_of_ble_eq_true rfl)
  rw [lg_entry_eq]
  generalize (lg_sl ([.ref this]) ++ List.replicate (1 - (lg_sl ([.ref this])).length) Slot.unset).toArray = ls at hl ⊢
  have hl : lv_has ls 1 [(0, .ref this)] := hl
  refine lv_aload_n hx hb dX6_advance_0 rfl (lv_at hl 0 rfl) ?_
  refine pg_f (v := .int (I 197 this)) (C := RX6) (T := TX6) (N := 6) hx hb hts (tw_i inlX6) hown hK hP hL_this hK_this (by decide) rfl 5 (by decide) (hts _ (tw_c tw_662)) rfl dX6_advance_1 ?_
  refine lv_tov 0 hAt ?_
  refine lv_aload_n hx hb dX6_advance_4 rfl (lv_at hl 0 rfl) ?_
  refine pg_f (v := .int (I 193 this)) (C := RX6) (T := TX6) (N := 6) hx hb hts (tw_i inlX6) hown hK hP hL_this hK_this (by decide) rfl 1 (by decide) (hts _ (tw_c tw_626)) rfl dX6_advance_5 ?_
  refine lv_tov 0 (congrFun (hZ 193 (by decide)) this) ?_
  refine lv_icmp_ge (tgt := 52) hx hb dX6_advance_8 (by decide) (fun c_1 => ?_) (fun c_1 => absurd c_1 (by decide))
  refine lv_aload_n hx hb dX6_advance_52 rfl (lv_at hl 0 rfl) ?_
  refine lv_aload_n hx hb dX6_advance_53 rfl (lv_at hl 0 rfl) ?_
  refine pg_f (v := .int (I 197 this)) (C := RX6) (T := TX6) (N := 6) hx hb hts (tw_i inlX6) hown hK hP hL_this hK_this (by decide) rfl 5 (by decide) (hts _ (tw_c tw_662)) rfl dX6_advance_54 ?_
  refine lv_tov 0 hAt ?_
  refine pp_i (v := 0) (ty := .int) (C := RX6) (T := TX6) (N := 6) hx hb hts (tw_i inlX6) tyX6 tyX6_ok nmX6 hown hK hP hD hS hL_this hK_this (by decide) rfl 3 195 (by decide) (hts _ (tw_c tw_667)) rfl (by decide +kernel) rfl rfl (Nat.le_of_ble_eq_true rfl) (ps_195 _ _ _ _ _) dX6_advance_57 (fun I_2 H locs eI_2 hP hD hS => ?_)
  refine lv_aload_n hx hb dX6_advance_60 rfl (lv_at hl 0 rfl) ?_
  refine pg_f (v := .int (I_2 197 this)) (C := RX6) (T := TX6) (N := 6) hx hb hts (tw_i inlX6) hown hK hP hL_this hK_this (by decide) rfl 5 (by decide) (hts _ (tw_c tw_662)) rfl dX6_advance_61 ?_
  refine lv_tov 0 (by rw [eI_2, pq_uf _ _ _ (by decide)]; exact hAt) ?_
  refine lv_aload_n hx hb dX6_advance_64 rfl (lv_at hl 0 rfl) ?_
  refine pg_f (v := .int (I_2 193 this)) (C := RX6) (T := TX6) (N := 6) hx hb hts (tw_i inlX6) hown hK hP hL_this hK_this (by decide) rfl 1 (by decide) (hts _ (tw_c tw_626)) rfl dX6_advance_65 ?_
  refine lv_tov 0 (by rw [eI_2, pq_uf _ _ _ (by decide)]; exact (congrFun (hZ 193 (by decide)) this)) ?_
  refine lv_icmp_lt (tgt := 80) hx hb dX6_advance_68 (by decide) (fun c_3 => absurd c_3 (by decide)) (fun c_3 => ?_)
  refine lv_aload_n hx hb dX6_advance_71 rfl (lv_at hl 0 rfl) ?_
  refine lv_bipush (v := 33) hx hb dX6_advance_72 (by decide) ?_
  refine pp_i (v := 33) (ty := .int) (C := RX6) (T := TX6) (N := 6) hx hb hts (tw_i inlX6) tyX6 tyX6_ok nmX6 hown hK hP hD hS hL_this hK_this (by decide) rfl 2 194 (by decide) (hts _ (tw_c tw_668)) rfl (by decide +kernel) rfl rfl (Nat.le_of_ble_eq_true rfl) (ps_194 _ _ _ _ _) dX6_advance_74 (fun I_4 H locs eI_4 hP hD hS => ?_)
  refine lv_goto (tgt := 154) hx hb dX6_advance_77 (by decide) ?_
  exact W.vret hx hb hr (fun t1 ht hW => ⟨⟨(σ, I_4, J, ri, rj, rq), rfl, ⟨I_4, rfl, (fun f hg => by rw [eI_4, pq_uf _ _ _ (by intro q; subst q; exact hg (by decide)), eI_2, pq_uf _ _ _ (by intro q; subst q; exact hg (by decide))]), (by rw [eI_4]; exact pq_us _ _ _ _)⟩, by rw [ht]; exact hP, va_K.moved hW.alike hK, hD⟩, hS.F ht⟩) hS.2.2 dX6_advance_154

/-- what the reader's work leaves of the cells that were there -/
def Et3 (a : Nat) (σ σ' : pq_S) (I I' : Nat → Nat → Int32) : Prop := ∀ b, b ∈ σ.1 → b ∈ σ'.1 ∧ σ'.2.1 b = σ.2.1 b ∧ σ'.2.2.2 b = σ.2.2.2 b ∧ (b ≠ a → (∀ g, σ'.2.2.1 g b = σ.2.2.1 g b) ∧ ∀ g, g ∉ ([194, 195, 197] : List Nat) → I' g b = I g b)
theorem Et3_mk {a : Nat} {σ σ' : pq_S} {I I1 I2 I3 : Nat → Nat → Int32} (h : Et a σ σ' I I1) (h1 : ∀ f, f ∉ ([197] : List Nat) → I2 f = I1 f) (h2 : ∀ f, f ∉ ([194, 195] : List Nat) → I3 f = I2 f) : Et3 a σ σ' I I3 := fun b hb => by
  obtain ⟨a1, a2, a3, a4⟩ := h b hb
  refine ⟨a1, a2, a3, fun hn => ⟨(a4 hn).1, fun g hg => ?_⟩⟩
  have g1 : g ∉ ([197] : List Nat) := fun q => hg (by revert q; simp only [List.mem_cons, List.not_mem_nil, or_false]; omega)
  have g2 : g ∉ ([194, 195] : List Nat) := fun q => hg (by revert q; simp only [List.mem_cons, List.not_mem_nil, or_false]; omega)
  rw [h2 g g2, h1 g g1]
  exact (a4 hn).2 g
theorem pq_Ec {t : pq_T} {σ : pq_S} {I : Nat → Nat → Int32} {J : Nat → Nat → Int64} {ri : Nat → Nat → Int32} {rj : Nat → Nat → Int64} {rq : Nat → Nat → Option Nat} {a b : Nat} {v : Nat → Option Nat} (h : b ≠ a) : pq_E t σ (I, J, ri, rj, va_up rq a v) b = pq_E t σ (I, J, ri, rj, rq) b := by
  unfold pq_E
  split <;> simp only [va_up_ne _ _ h]
section PQT
variable {p : Program} {l : Launch} {e : Env} {R : Room} {s : State} {m : MethodId} {args : Array Value} {below : List Frame} {meth : Method} {c : Code} {H : Heap} {locs : List Loc} {cells slots : Nat} {Q : State → Prop}
variable {cc : ByteArray} {pc : Nat} {ls : Array Slot} {rest : List Value} {D : va_G} {A : Nat → Prop} {a : Nat} {t : pq_T} {σ : pq_S} {H0 : Heap}
variable {I : Nat → Nat → Int32} {J : Nat → Nat → Int64} {ri : Nat → Nat → Int32} {rj : Nat → Nat → Int64} {rq : Nat → Nat → Option Nat}
theorem pt_q (hx : p.tables.exec = Jvm.exec) (hb : c.code = cc) (hK : va_K D vwCl (pq_ty t) s) (hP : va_P D vwCl (pq_P t σ (I, J, ri, rj, rq)) H) (hD : va_D A (pq_P t σ (I, J, ri, rj, rq))) (hS : va_S A H0 H locs) (hL : a ∈ σ.1) (hk : σ.2.1 a = 16) {n : Nat} (hn : σ.2.2.2 a = n) {v : Nat} (hLv : v ∈ σ.1) (hkv : σ.2.1 v = 8) {i : Int32} (hin : vp_in i n) (hdg : decode cc pc = .ok (.aastore, 1))
    (kk : ∀ (r1 : Nat → Nat → Option Nat) (H1 : Heap) (locs1 : List Loc), va_P D vwCl (pq_P t σ (I, J, ri, rj, r1)) H1 → va_D A (pq_P t σ (I, J, ri, rj, r1)) → va_S A H0 H1 locs1 → W p l e R s m args below meth c H1 locs1 cells slots Q (F0 m (pc + 1) ls rest)) : W p l e R s m args below meth c H locs cells slots Q (F0 m pc ls (.ref v :: .int i :: .ref a :: rest)) := by
  subst hn
  obtain ⟨q, hq⟩ := pq_in (t := t) (μ := (I, J, ri, rj, rq)) hL
  have hq2 := hq
  rw [pq_oQ hk] at hq2
  obtain ⟨qv, hqv⟩ := pq_in (t := t) (μ := (I, J, ri, rj, rq)) hLv
  rw [pq_o (by decide) hkv] at hqv
  have he : (pq_P t σ (I, J, ri, rj, rq)).set q (a, .inl (t.2.2.2, σ.2.2.2 a, .inr (.inr (.inr (.inr (va_up (rq a) i.toNatClampNeg (some v))))))) = pq_P t σ (I, J, ri, rj, va_up rq a (va_up (rq a) i.toNatClampNeg (some v))) := pq_set hD hL hq (by rw [pq_oQ hk]; simp only [va_up_self]) (fun b hb => pq_Ec hb)
  refine va_astq hx hb hK hP hD hS q 3 qv 8 hq2 rfl hqv rfl hin hdg (fun H1 locs1 hP1 hD1 hS1 => ?_)
  exact kk _ H1 locs1 (he ▸ hP1) (he ▸ hD1) hS1
end PQT

set_option maxHeartbeats 8000000 in
set_option maxRecDepth 100000 in
theorem c_X4_read (l : Launch) (D : va_G) (t : pq_T) (σ : pq_S) (I : Nat → Nat → Int32) (J : Nat → Nat → Int64) (ri : Nat → Nat → Int32) (rj : Nat → Nat → Int64) (rq : Nat → Nat → Option Nat) (sz : Nat) (this : Nat) (hL_this : this ∈ σ.1) (hK_this : σ.2.1 this = 4) (hZ : pq_Z I) (hq0 : rq = fun _ _ => none) (hO_128 : okO σ 128 this 6 (okScanner σ I)) : MetQ l yX4_read (wa yX4_read cX4_read 2 (some (.object "RingsUnder$Text"))) ({ frames := 2, cells := 4, slots := 345, locals := 40 }) [.ref this] D t σ (I, J, ri, rj, rq) sz 4 345 (fun (r : Option Nat) (u : pq_S × pq_M) => ∃ (q : Nat) (σ' : pq_S) (I' : Nat → Nat → Int32) (J' : Nat → Nat → Int64) (ri' : Nat → Nat → Int32) (rj' : Nat → Nat → Int64) (rq' : Nat → Nat → Option Nat), r = some q ∧ u = (σ', I', J', ri', rj', rq') ∧ q ∈ σ'.1 ∧ σ'.2.1 q = 8 ∧ okO σ' 128 this 6 (okScanner σ' I') ∧ Et3 this σ σ' I I' ∧ I' 129 this = 0 ∧ pq_Z I' ∧ rq' = fun _ _ => none) := by
  refine Met.ofW (cc := cX4_read) (maxL := 2) (ret := (some (.object "RingsUnder$Text"))) (by decide) rfl ?_
  intro p e s m args below meth c s₁ B hml hv
  obtain ⟨rfl, hsz, hP, hK, hD0, hN⟩ := hv
  have hx := B.exec
  have hb := B.bytes
  have hr := B.returns
  have hts := atoms_spec (ws := (wa yX4_read cX4_read 2 (some (.object "RingsUnder$Text")))) B.pre
  have hown : s.vm.findClass RX4 = some m.cls := findClass_of_methodNamed B.named
  have hlocks := B.notSynchronized
  subst hsz
  have hD : va_D (pq_B t σ (I, J, ri, rj, rq) s.heap.size) (pq_P t σ (I, J, ri, rj, rq)) := hD0.self
  generalize hAe : pq_B t σ (I, J, ri, rj, rq) s.heap.size = A at hD ⊢
  have hA : ∀ q : Nat, s.heap.size ≤ q → A q := fun q h => by rw [← hAe]; exact Or.inr h
  have hS : va_S A s.heap s.heap [] := va_S.rf
  have hl := lv_entry ([.ref this]) (n := 2) (Nat.le_of_ble_eq_true rfl)
  rw [lg_entry_eq]
  generalize (lg_sl ([.ref this]) ++ List.replicate (2 - (lg_sl ([.ref this])).length) Slot.unset).toArray = ls at hl ⊢
  have hl : lv_has ls 2 [(0, .ref this)] := hl
  refine lv_aload_n hx hb dX4_read_0 rfl (lv_at hl 0 rfl) ?_
  refine lv_iconst (v := 0) hx hb dX4_read_1 (by decide) ?_
  refine pp_i (v := 0) (ty := .int) (C := RX4) (T := TX4) (N := 12) hx hb hts (tw_i inlX4) tyX4 tyX4_ok nmX4 hown hK hP hD hS hL_this hK_this (by decide) rfl 1 129 (by decide) (hts _ (tw_c tw_155)) rfl (by decide +kernel) rfl rfl (Nat.le_of_ble_eq_true rfl) (ps_129 _ _ _ _ _) dX4_read_2 (fun I_1 H locs eI_1 hP hD hS => ?_)
  have hE := Et_put (σ := σ) (σ1 := σ) Et_rf eI_1
  have hI_129 := (by rw [eI_1]; exact pq_us _ _ _ _ : I_1 129 this = 0)
  have hZ := pq_Zp hZ eI_1 (by decide)
  refine lv_aload_n hx hb dX4_read_5 rfl (lv_at hl 0 rfl) ?_
  refine lv_iconst (v := (-1)) hx hb dX4_read_6 (by decide) ?_
  refine pp_i (v := (-1)) (ty := .int) (C := RX4) (T := TX4) (N := 12) hx hb hts (tw_i inlX4) tyX4 tyX4_ok nmX4 hown hK hP hD hS hL_this hK_this (by decide) rfl 2 130 (by decide) (hts _ (tw_c tw_156)) rfl (by decide +kernel) rfl rfl (Nat.le_of_ble_eq_true rfl) (ps_130 _ _ _ _ _) dX4_read_7 (fun I_2 H locs eI_2 hP hD hS => ?_)
  have hE := Et_put (σ := σ) (σ1 := σ) hE eI_2
  have hI_129 := (by rw [eI_2, pq_uf _ _ _ (by decide)]; exact hI_129 : I_2 129 this = 0)
  have hI_130 := (by rw [eI_2]; exact pq_us _ _ _ _ : I_2 130 this = (-1))
  have hZ := pq_Zp hZ eI_2 (by decide)
  refine lv_aload_n hx hb dX4_read_10 rfl (lv_at hl 0 rfl) ?_
  refine nw_o (C := RX8) (T := TX8) (N := 4) hx hb hts (tw_i inlX8) tyX8 tyX8_ok hown (hts _ (tw_c tw_157)) (hts _ (tw_c tw_158)) (hts _ (tw_c tw_159)) hK hP hD hS hA (by decide) rfl nf_8 (Nat.le_of_ble_eq_true rfl) (Nat.le_of_ble_eq_true rfl) dX4_read_11 (fun q_3 σ_4 I_5 J_6 H locs hn_7 hP hD hS => ?_)
  refine lv_dup hx hb dX4_read_14 rfl ?_
  refine pk_v (va_runIN (As := []) (rest := [.ref q_3, .ref this]) ⟨hx, hb, hml, hown, hts⟩ (c_X8_init l D t σ_4 I_5 J_6 ri rj rq H.size q_3 (Ns_in hn_7) (Ns_k hn_7) (Ns_Z hn_7 hZ) hq0) ⟨va_cnB (host := "RingsUnder") 0 hts (tw_W tw_167) rfl rfl rfl (nl_10 hN) (hts _ (tw_c tw_159)) (by decide +kernel) ⟨Nat.le_of_ble_eq_true rfl, Nat.le_of_ble_eq_true rfl⟩, rfl, hts (.instanceMethod yX8_init) (by decide +kernel)⟩ ⟨pq_blind, pq_pre hK hN hP hD⟩ rfl rfl hl.1 rfl (lv_room (Nat.le_of_ble_eq_true rfl)) dX4_read_15 ⟨Nat.le_of_ble_eq_true rfl, Nat.le_of_ble_eq_true rfl⟩) hD hS hA (fun σ1 μ1 H locs hw_9 hP hD hS => ?_)
  obtain ⟨σ_10, I_11, J_12, ri_13, rj_14, rq_15, hu_16, hE2_17, hOK_18, hZ, hqq_19⟩ := hw_9
  obtain ⟨hu_16a, hu_16b⟩ := Prod.mk.inj hu_16
  rw [hu_16a, hu_16b] at hP hD
  refine pr_N (q := q_3) (C := RX4) (T := TX4) (N := 12) hx hb hts (tw_i inlX4) tyX4 tyX4_ok nmX4 hown hK hP hD hS (hE2_17 this (Ns_at hn_7 hL_this)).1 (Et_k hE2_17 (Ns_at hn_7 hL_this) (Ns_kk hn_7 hL_this hK_this)) (by decide) rfl 3 131 (by decide) (hts _ (tw_c tw_160)) rfl (tyX4_ok 3 (by decide)) rfl rfl (Nat.le_of_ble_eq_true rfl) (pr_131 _ _ _ _ _) dX4_read_18 (fun σ_20 H locs hp_21 hP hD hS => ?_)
  have hz_22 := Os_es hn_7 hE2_17 hp_21
  have hE := Et_es hE hz_22
  have hO_128 := okO_es hz_22 (by decide) (fun q h => okScanner_es hz_22 (by decide) h) hO_128
  have hI_129 := Es_i hz_22 hL_this hI_129
  have hI_130 := Es_i hz_22 hL_this hI_130
  have hO_131 := Os_ok hn_7 hE2_17 hp_21 hL_this hOK_18 (fun h => okText_es (Ps_es hp_21) (by decide) h)
  have hK_this := Es_k hz_22 hL_this hK_this
  have hL_this := Es_at hz_22 hL_this
  refine lv_aload_n hx hb dX4_read_21 rfl (lv_at hl 0 rfl) ?_
  refine lv_iconst (v := 0) hx hb dX4_read_22 (by decide) ?_
  refine pp_i (v := 0) (ty := .int) (C := RX4) (T := TX4) (N := 12) hx hb hts (tw_i inlX4) tyX4 tyX4_ok nmX4 hown hK hP hD hS hL_this hK_this (by decide) rfl 4 132 (by decide) (hts _ (tw_c tw_656)) rfl (by decide +kernel) rfl rfl (Nat.le_of_ble_eq_true rfl) (ps_132 _ _ _ _ _) dX4_read_23 (fun I_23 H locs eI_23 hP hD hS => ?_)
  have hE := Et_put (σ := σ) (σ1 := σ_20) hE eI_23
  have hI_129 := (by rw [eI_23, pq_uf _ _ _ (by decide)]; exact hI_129 : I_23 129 this = 0)
  have hI_130 := (by rw [eI_23, pq_uf _ _ _ (by decide)]; exact hI_130 : I_23 130 this = (-1))
  have hZ := pq_Zp hZ eI_23 (by decide)
  refine lv_aload_n hx hb dX4_read_26 rfl (lv_at hl 0 rfl) ?_
  obtain ⟨-, sc, hR_sc, hL_sc, hK_sc, -⟩ := id hO_128
  refine pg_f (v := .ref sc) (C := RX4) (T := TX4) (N := 12) hx hb hts (tw_i inlX4) hown hK hP hL_this hK_this (by decide) rfl 0 (by decide) (hts _ (tw_c tw_154)) (pq_hv rfl hR_sc) dX4_read_27 ?_
  refine pk_v (va_runV (As := []) (rest := []) ⟨hx, hb, hml, hown, hts⟩ (c_X6_rewind l D t σ_20 I_23 J_12 ri_13 rj_14 rq_15 H.size sc hL_sc hK_sc) (cwV 0 hts (tw_V tw_658 tw_659 tw_660 tw_153 tw_661) rfl rfl rfl (by decide +kernel) ⟨Nat.le_of_ble_eq_true rfl, Nat.le_of_ble_eq_true rfl⟩) ⟨pq_blind, pq_recv hK hP hL_sc hK_sc (by decide) rfl, pq_pre hK hN hP hD⟩ rfl rfl hl.1 rfl (lv_room (Nat.le_of_ble_eq_true rfl)) dX4_read_30 ⟨Nat.le_of_ble_eq_true rfl, Nat.le_of_ble_eq_true rfl⟩) hD hS hA (fun σ1 μ1 H locs hw_25 hP hD hS => ?_)
  obtain ⟨I_26, hu_27, hu_27f, hu_27p0⟩ := hw_25
  obtain ⟨hu_27a, hu_27b⟩ := Prod.mk.inj hu_27
  rw [hu_27a, hu_27b] at hP hD
  have hZ := pq_Zf hZ hu_27f (by decide)
  refine lv_aload_n hx hb dX4_read_33 rfl (lv_at hl 0 rfl) ?_
  refine pg_f (v := .ref sc) (C := RX4) (T := TX4) (N := 12) hx hb hts (tw_i inlX4) hown hK hP hL_this hK_this (by decide) rfl 0 (by decide) (hts _ (tw_c tw_154)) (pq_hv rfl hR_sc) dX4_read_34 ?_
  refine pk_v (va_runV (As := []) (rest := []) ⟨hx, hb, hml, hown, hts⟩ (c_X6_advance l D t σ_20 I_26 J_12 ri_13 rj_14 rq_15 H.size sc hL_sc hK_sc hZ hu_27p0) (cwV 0 hts (tw_V tw_663 tw_664 tw_665 tw_153 tw_666) rfl rfl rfl (by decide +kernel) ⟨Nat.le_of_ble_eq_true rfl, Nat.le_of_ble_eq_true rfl⟩) ⟨pq_blind, pq_recv hK hP hL_sc hK_sc (by decide) rfl, pq_pre hK hN hP hD⟩ rfl rfl hl.1 rfl (lv_room (Nat.le_of_ble_eq_true rfl)) dX4_read_37 ⟨Nat.le_of_ble_eq_true rfl, Nat.le_of_ble_eq_true rfl⟩) hD hS hA (fun σ1 μ1 H locs hw_30 hP hD hS => ?_)
  obtain ⟨I_31, hu_32, hu_32f, hu_32p0⟩ := hw_30
  obtain ⟨hu_32a, hu_32b⟩ := Prod.mk.inj hu_32
  rw [hu_32a, hu_32b] at hP hD
  have hZ := pq_Zf hZ hu_32f (by decide)
  refine lv_iconst (v := 0) hx hb dX4_read_40 (by decide) ?_
  refine lv_istore_n (lv' := [(1, .int 0), (0, .ref this)]) hx hb dX4_read_41 rfl hl (by decide) rfl (fun ls hl => ?_)
  refine lv_iload_n hx hb dX4_read_42 rfl (lv_at hl 0 rfl) ?_
  refine lv_sipush (v := 300) hx hb dX4_read_43 (by decide) ?_
  refine lv_icmp_gt (tgt := 85) hx hb dX4_read_46 (by decide) (fun c_34 => absurd c_34 (by decide)) (fun c_34 => ?_)
  refine lv_aload_n hx hb dX4_read_49 rfl (lv_at hl 1 rfl) ?_
  refine pg_f (v := .int (I_31 129 this)) (C := RX4) (T := TX4) (N := 12) hx hb hts (tw_i inlX4) hown hK hP hL_this hK_this (by decide) rfl 1 (by decide) (hts _ (tw_c tw_155)) rfl dX4_read_50 ?_
  refine lv_tov 0 (by rw [hu_32f 129 (by decide)]; exact (by rw [hu_27f 129 (by decide)]; exact hI_129)) ?_
  refine lv_if_ne (tgt := 85) hx hb dX4_read_53 (by decide) (fun c_35 => absurd c_35 (by decide)) (fun c_35 => ?_)
  refine lv_aload_n hx hb dX4_read_56 rfl (lv_at hl 1 rfl) ?_
  refine pg_f (v := .ref sc) (C := RX4) (T := TX4) (N := 12) hx hb hts (tw_i inlX4) hown hK hP hL_this hK_this (by decide) rfl 0 (by decide) (hts _ (tw_c tw_154)) (pq_hv rfl hR_sc) dX4_read_57 ?_
  refine pg_f (v := .int (I_31 194 sc)) (C := RX6) (T := TX6) (N := 6) hx hb hts (tw_i inlX6) hown hK hP hL_sc hK_sc (by decide) rfl 2 (by decide) (hts _ (tw_c tw_657)) rfl dX4_read_60 ?_
  refine lv_tov 33 hu_32p0 ?_
  refine lv_bipush (v := 33) hx hb dX4_read_63 (by decide) ?_
  refine lv_icmp_eq (tgt := 85) hx hb dX4_read_65 (by decide) (fun c_36 => ?_) (fun c_36 => absurd c_36 (by decide))
  refine lv_aload_n hx hb dX4_read_85 rfl (lv_at hl 1 rfl) ?_
  obtain ⟨-, dr, hR_dr, hL_dr, hK_dr, -⟩ := id hO_131
  refine pg_f (v := .ref dr) (C := RX4) (T := TX4) (N := 12) hx hb hts (tw_i inlX4) hown hK hP hL_this hK_this (by decide) rfl 3 (by decide) (hts _ (tw_c tw_160)) (pq_hv rfl hR_dr) dX4_read_86 ?_
  exact W.aret (v := .ref dr) hx hb hr (Or.inl ⟨_, rfl⟩) (Or.inr ⟨_, rfl⟩) (fun t1 ht hW => ⟨⟨some dr, (σ_20, I_31, J_12, ri_13, rj_14, rq_15), rfl, ⟨dr, σ_20, I_31, J_12, ri_13, rj_14, rq_15, rfl, rfl, hL_dr, hK_dr, hO_128, Et3_mk hE hu_27f hu_32f, (by rw [hu_32f 129 (by decide)]; exact (by rw [hu_27f 129 (by decide)]; exact hI_129)), hZ, hqq_19⟩, by rw [ht]; exact hP, va_K.moved hW.alike hK, hD⟩, hS.F ht⟩) hS.2.2 dX4_read_89

set_option maxHeartbeats 8000000 in
set_option maxRecDepth 100000 in
theorem c_X11_text (l : Launch) (D : va_G) (t : pq_T) (σ : pq_S) (I : Nat → Nat → Int32) (J : Nat → Nat → Int64) (ri : Nat → Nat → Int32) (rj : Nat → Nat → Int64) (rq : Nat → Nat → Option Nat) (sz : Nat) (this : Nat) (hL_this : this ∈ σ.1) (hK_this : σ.2.1 this = 11) (this_now : Nat) (hR_this_now : σ.2.2.1 352 this = some this_now) (hL_this_now : this_now ∈ σ.1) (hK_this_now : σ.2.1 this_now = 10) (this_now_law : Nat) (hR_this_now_law : σ.2.2.1 329 this_now = some this_now_law) (hL_this_now_law : this_now_law ∈ σ.1) (hK_this_now_law : σ.2.1 this_now_law = 3) (this_now_law_texts : Nat) (hR_this_now_law_texts : σ.2.2.1 97 this_now_law = some this_now_law_texts) (hL_this_now_law_texts : this_now_law_texts ∈ σ.1) (hK_this_now_law_texts : σ.2.1 this_now_law_texts = 16) (hN_this_now_law_texts : σ.2.2.2 this_now_law_texts = 10) (this_reader : Nat) (hR_this_reader : σ.2.2.1 356 this = some this_reader) (hL_this_reader : this_reader ∈ σ.1) (hK_this_reader : σ.2.1 this_reader = 4) (hZ : pq_Z I) (hq0 : rq = fun _ _ => none) (hO_128 : okO σ 128 this_reader 6 (okScanner σ I)) : MetI l yX11_text (wa yX11_text cX11_text 3 (some .int)) ({ frames := 3, cells := 4, slots := 345, locals := 61 }) [.ref this] D t σ (I, J, ri, rj, rq) sz 4 345 (fun (r : Int32) (u : pq_S × pq_M) => r = 0) := by
  refine Met.ofW (cc := cX11_text) (maxL := 3) (ret := (some .int)) (by decide) rfl ?_
  intro p e s m args below meth c s₁ B hml hv
  obtain ⟨rfl, hsz, hP, hK, hD0, hN⟩ := hv
  have hx := B.exec
  have hb := B.bytes
  have hr := B.returns
  have hts := atoms_spec (ws := (wa yX11_text cX11_text 3 (some .int))) B.pre
  have hown : s.vm.findClass RX11 = some m.cls := findClass_of_methodNamed B.named
  have hlocks := B.notSynchronized
  subst hsz
  have hD : va_D (pq_B t σ (I, J, ri, rj, rq) s.heap.size) (pq_P t σ (I, J, ri, rj, rq)) := hD0.self
  generalize hAe : pq_B t σ (I, J, ri, rj, rq) s.heap.size = A at hD ⊢
  have hA : ∀ q : Nat, s.heap.size ≤ q → A q := fun q h => by rw [← hAe]; exact Or.inr h
  have hS : va_S A s.heap s.heap [] := va_S.rf
  have hl := lv_entry ([.ref this]) (n := 3) (Nat.le_of_ble_eq_true rfl)
  rw [lg_entry_eq]
  generalize (lg_sl ([.ref this]) ++ List.replicate (3 - (lg_sl ([.ref this])).length) Slot.unset).toArray = ls at hl ⊢
  have hl : lv_has ls 3 [(0, .ref this)] := hl
  refine lv_aload_n hx hb dX11_text_0 rfl (lv_at hl 0 rfl) ?_
  refine pg_f (v := .ref this_now) (C := RX11) (T := TX11) (N := 5) hx hb hts (tw_i inlX11) hown hK hP hL_this hK_this (by decide) rfl 0 (by decide) (hts _ (tw_c tw_16)) (pq_hv rfl hR_this_now) dX11_text_1 ?_
  refine pg_f (v := .ref this_now_law) (C := RX10) (T := TX10) (N := 13) hx hb hts (tw_i inlX10) hown hK hP hL_this_now hK_this_now (by decide) rfl 9 (by decide) (hts _ (tw_c tw_648)) (pq_hv rfl hR_this_now_law) dX11_text_4 ?_
  refine lv_astore_n (lv' := [(1, .ref this_now_law), (0, .ref this)]) hx hb dX11_text_7 rfl hl (by decide) rfl (fun ls hl => ?_)
  refine lv_aload_n hx hb dX11_text_8 rfl (lv_at hl 0 rfl) ?_
  refine pg_f (v := .int (I 96 this_now_law)) (C := RX3) (T := TX3) (N := 8) hx hb hts (tw_i inlX3) hown hK hP hL_this_now_law hK_this_now_law (by decide) rfl 0 (by decide) (hts _ (tw_c tw_649)) rfl dX11_text_9 ?_
  refine lv_tov 0 (congrFun (hZ 96 (by decide)) this_now_law) ?_
  refine lv_bipush (v := 10) hx hb dX11_text_12 (by decide) ?_
  refine lv_icmp_lt (tgt := 19) hx hb dX11_text_14 (by decide) (fun c_1 => ?_) (fun c_1 => absurd c_1 (by decide))
  refine lv_aload_n hx hb dX11_text_19 rfl (lv_at hl 1 rfl) ?_
  refine pg_f (v := .ref this_reader) (C := RX11) (T := TX11) (N := 5) hx hb hts (tw_i inlX11) hown hK hP hL_this hK_this (by decide) rfl 4 (by decide) (hts _ (tw_c tw_26)) (pq_hv rfl hR_this_reader) dX11_text_20 ?_
  refine pk_q (va_runV (As := []) (rest := []) ⟨hx, hb, hml, hown, hts⟩ (c_X4_read l D t σ I J ri rj rq (Array.size s.heap) this_reader hL_this_reader hK_this_reader hZ hq0 hO_128) (cwV 0 hts (tw_V tw_652 tw_653 tw_654 tw_25 tw_655) rfl rfl rfl (by decide +kernel) ⟨Nat.le_of_ble_eq_true rfl, Nat.le_of_ble_eq_true rfl⟩) ⟨pq_blind, pq_recv hK hP hL_this_reader hK_this_reader (by decide) rfl, pq_pre hK hN hP hD⟩ rfl rfl hl.1 rfl (lv_room (Nat.le_of_ble_eq_true rfl)) dX11_text_23 ⟨Nat.le_of_ble_eq_true rfl, Nat.le_of_ble_eq_true rfl⟩) hD hS hA (fun r_2 σ1 μ1 H locs hw_3 hP hD hS => ?_)
  obtain ⟨q, σ', I', J', ri', rj', rq', hr0, hu, hLq, hKq, hO2, hE3, hF, hZ, hq1⟩ := hw_3
  obtain ⟨hua, hub⟩ := Prod.mk.inj hu
  rw [hua, hub] at hP hD
  subst hr0
  have hL2_this := (hE3 this hL_this).1
  have hK2_this := (hE3 this hL_this).2.1.trans hK_this
  have hL2_this_now_law := (hE3 this_now_law hL_this_now_law).1
  have hK2_this_now_law := (hE3 this_now_law hL_this_now_law).2.1.trans hK_this_now_law
  have hL2_this_reader := (hE3 this_reader hL_this_reader).1
  have hK2_this_reader := (hE3 this_reader hL_this_reader).2.1.trans hK_this_reader
  have hL2_this_now_law_texts := (hE3 this_now_law_texts hL_this_now_law_texts).1
  have hK2_this_now_law_texts := (hE3 this_now_law_texts hL_this_now_law_texts).2.1.trans hK_this_now_law_texts
  have hN2_T := (hE3 this_now_law_texts hL_this_now_law_texts).2.2.1.trans hN_this_now_law_texts
  have hR2_t := (((hE3 this hL_this).2.2.2 (fun z => absurd ((hK_this).symm.trans ((congrArg σ.2.1 z).trans hK_this_reader)) (by decide))).1 356).trans hR_this_reader
  have hR2_l := (((hE3 this_now_law hL_this_now_law).2.2.2 (fun z => absurd ((hK_this_now_law).symm.trans ((congrArg σ.2.1 z).trans hK_this_reader)) (by decide))).1 97).trans hR_this_now_law_texts
  obtain ⟨-, sc, hR_sc, hL_sc, hK_sc, -⟩ := id hO2
  refine lv_astore_n (lv' := [(2, .ref q), (1, .ref this_now_law), (0, .ref this)]) hx hb dX11_text_26 rfl hl (by decide) rfl (fun ls hl => ?_)
  refine lv_aload_n hx hb dX11_text_27 rfl (lv_at hl 2 rfl) ?_
  refine pg_f (v := .ref this_reader) (C := RX11) (T := TX11) (N := 5) hx hb hts (tw_i inlX11) hown hK hP hL2_this hK2_this (by decide) rfl 4 (by decide) (hts _ (tw_c tw_26)) (pq_hv rfl hR2_t) dX11_text_28 ?_
  refine pg_f (v := .ref sc) (C := RX4) (T := TX4) (N := 12) hx hb hts (tw_i inlX4) hown hK hP hL2_this_reader hK2_this_reader (by decide) rfl 0 (by decide) (hts _ (tw_c tw_620)) (pq_hv rfl hR_sc) dX11_text_31 ?_
  refine lv_iconst (v := 0) hx hb dX11_text_34 (by decide) ?_
  refine pp_i (v := 0) (ty := .int) (C := RX6) (T := TX6) (N := 6) hx hb hts (tw_i inlX6) tyX6 tyX6_ok nmX6 hown hK hP hD hS hL_sc hK_sc (by decide) rfl 1 193 (by decide) (hts _ (tw_c tw_621)) rfl (by decide +kernel) rfl rfl (Nat.le_of_ble_eq_true rfl) (ps_193 _ _ _ _ _) dX11_text_35 (fun I_4 H locs eI_4 hP hD hS => ?_)
  have eI_4 : I_4 = I' := by rw [eI_4]; exact pq_uc _ _ _ _ (hZ 193 (by decide))
  rw [eI_4] at hP hD
  refine lv_aload_n hx hb dX11_text_38 rfl (lv_at hl 2 rfl) ?_
  refine pg_f (v := .ref this_reader) (C := RX11) (T := TX11) (N := 5) hx hb hts (tw_i inlX11) hown hK hP hL2_this hK2_this (by decide) rfl 4 (by decide) (hts _ (tw_c tw_26)) (pq_hv rfl hR2_t) dX11_text_39 ?_
  refine pg_f (v := .int (I' 129 this_reader)) (C := RX4) (T := TX4) (N := 12) hx hb hts (tw_i inlX4) hown hK hP hL2_this_reader hK2_this_reader (by decide) rfl 1 (by decide) (hts _ (tw_c tw_650)) rfl dX11_text_42 ?_
  refine lv_tov 0 hF ?_
  refine lv_if_eq (tgt := 50) hx hb dX11_text_45 (by decide) (fun c_5 => ?_) (fun c_5 => absurd c_5 (by decide))
  refine lv_aload_n hx hb dX11_text_50 rfl (lv_at hl 1 rfl) ?_
  refine pg_f (v := .ref this_now_law_texts) (C := RX3) (T := TX3) (N := 8) hx hb hts (tw_i inlX3) hown hK hP hL2_this_now_law hK2_this_now_law (by decide) rfl 1 (by decide) (hts _ (tw_c tw_651)) (pq_hv rfl hR2_l) dX11_text_51 ?_
  refine lv_aload_n hx hb dX11_text_54 rfl (lv_at hl 1 rfl) ?_
  refine pg_f (v := .int (I' 96 this_now_law)) (C := RX3) (T := TX3) (N := 8) hx hb hts (tw_i inlX3) hown hK hP hL2_this_now_law hK2_this_now_law (by decide) rfl 0 (by decide) (hts _ (tw_c tw_649)) rfl dX11_text_55 ?_
  refine lv_tov 0 (congrFun (hZ 96 (by decide)) this_now_law) ?_
  refine lv_aload_n hx hb dX11_text_58 rfl (lv_at hl 0 rfl) ?_
  refine pt_q hx hb hK hP hD hS hL2_this_now_law_texts hK2_this_now_law_texts hN2_T hLq hKq (vp_in_iff.mpr (by decide)) dX11_text_59 (fun rq2 H locs hP hD hS => ?_)
  refine lv_aload_n hx hb dX11_text_60 rfl (lv_at hl 1 rfl) ?_
  refine lv_dup hx hb dX11_text_61 rfl ?_
  refine pg_f (v := .int (I' 96 this_now_law)) (C := RX3) (T := TX3) (N := 8) hx hb hts (tw_i inlX3) hown hK hP hL2_this_now_law hK2_this_now_law (by decide) rfl 0 (by decide) (hts _ (tw_c tw_649)) rfl dX11_text_62 ?_
  refine lv_tov 0 (congrFun (hZ 96 (by decide)) this_now_law) ?_
  refine lv_iconst (v := 1) hx hb dX11_text_65 (by decide) ?_
  refine lv_iadd hx hb dX11_text_66 ?_
  refine lv_tov 1 (by decide) ?_
  refine pp_i (v := 1) (ty := .int) (C := RX3) (T := TX3) (N := 8) hx hb hts (tw_i inlX3) tyX3 tyX3_ok nmX3 hown hK hP hD hS hL2_this_now_law hK2_this_now_law (by decide) rfl 0 96 (by decide) (hts _ (tw_c tw_649)) rfl (by decide +kernel) rfl rfl (Nat.le_of_ble_eq_true rfl) (ps_96 _ _ _ _ _) dX11_text_67 (fun I_6 H locs eI_6 hP hD hS => ?_)
  refine lv_aload_n hx hb dX11_text_70 rfl (lv_at hl 1 rfl) ?_
  refine pg_f (v := .int (I_6 96 this_now_law)) (C := RX3) (T := TX3) (N := 8) hx hb hts (tw_i inlX3) hown hK hP hL2_this_now_law hK2_this_now_law (by decide) rfl 0 (by decide) (hts _ (tw_c tw_649)) rfl dX11_text_71 ?_
  refine lv_tov 1 (by rw [eI_6]; exact pq_us _ _ _ _) ?_
  refine lv_iconst (v := 1) hx hb dX11_text_74 (by decide) ?_
  refine lv_isub hx hb dX11_text_75 ?_
  refine lv_tov 0 (by decide) ?_
  exact W.iret (v := 0) hx hb hr (fun t1 ht hW => ⟨⟨0, (σ', I_6, J', ri', rj', rq2), rfl, (show 0 = (0 : Int32) from by decide), by rw [ht]; exact hP, va_K.moved hW.alike hK, hD⟩, hS.F ht⟩) hS.2.2 dX11_text_76
