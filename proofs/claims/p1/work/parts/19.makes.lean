theorem dX9_init_0 : decode cX9_init 0 = .ok (.aload_n 0, 1) := by decide +kernel
theorem tw_103 : Cond.methodLink RX9 3 objectInit ∈ wsL_law := List.mem_of_getElem? (i := 103) (by decide +kernel)
theorem tw_11 : Cond.instanceMethod objectInit ∈ wsL_law := List.mem_of_getElem? (i := 11) (by decide +kernel)
theorem tw_12 : Cond.code objectInit ⟨#[0xb1]⟩ 1 none ∈ wsL_law := List.mem_of_getElem? (i := 12) (by decide +kernel)
theorem dX9_init_1 : decode cX9_init 1 = .ok (.invokespecial 3, 3) := by decide +kernel
theorem dX9_init_4 : decode cX9_init 4 = .ok (.aload_n 0, 1) := by decide +kernel
theorem dX9_init_5 : decode cX9_init 5 = .ok (.bipush 40, 2) := by decide +kernel
theorem tw_33 : Cond.arrayClass .int ∈ wsL_law := List.mem_of_getElem? (i := 33) (by decide +kernel)
theorem dX9_init_7 : decode cX9_init 7 = .ok (.newarray .int, 2) := by decide +kernel
theorem dX9_init_9 : decode cX9_init 9 = .ok (.putfield 9, 3) := by decide +kernel
theorem dX9_init_12 : decode cX9_init 12 = .ok (.aload_n 0, 1) := by decide +kernel
theorem dX9_init_13 : decode cX9_init 13 = .ok (.bipush 40, 2) := by decide +kernel
theorem dX9_init_15 : decode cX9_init 15 = .ok (.newarray .int, 2) := by decide +kernel
theorem dX9_init_17 : decode cX9_init 17 = .ok (.putfield 15, 3) := by decide +kernel
theorem dX9_init_20 : decode cX9_init 20 = .ok (.aload_n 0, 1) := by decide +kernel
theorem dX9_init_21 : decode cX9_init 21 = .ok (.bipush 40, 2) := by decide +kernel
theorem dX9_init_23 : decode cX9_init 23 = .ok (.newarray .int, 2) := by decide +kernel
theorem dX9_init_25 : decode cX9_init 25 = .ok (.putfield 18, 3) := by decide +kernel
theorem dX9_init_28 : decode cX9_init 28 = .ok (.return_, 1) := by decide +kernel
theorem dX0_init_0 : decode cX0_init 0 = .ok (.aload_n 0, 1) := by decide +kernel
theorem tw_109 : Cond.methodLink RX0 3 objectInit ∈ wsL_law := List.mem_of_getElem? (i := 109) (by decide +kernel)
theorem dX0_init_1 : decode cX0_init 1 = .ok (.invokespecial 3, 3) := by decide +kernel
theorem dX0_init_4 : decode cX0_init 4 = .ok (.aload_n 0, 1) := by decide +kernel
theorem dX0_init_5 : decode cX0_init 5 = .ok (.bipush 40, 2) := by decide +kernel
theorem dX0_init_7 : decode cX0_init 7 = .ok (.newarray .int, 2) := by decide +kernel
theorem dX0_init_9 : decode cX0_init 9 = .ok (.putfield 9, 3) := by decide +kernel
theorem dX0_init_12 : decode cX0_init 12 = .ok (.aload_n 0, 1) := by decide +kernel
theorem dX0_init_13 : decode cX0_init 13 = .ok (.bipush 40, 2) := by decide +kernel
theorem dX0_init_15 : decode cX0_init 15 = .ok (.newarray .int, 2) := by decide +kernel
theorem dX0_init_17 : decode cX0_init 17 = .ok (.putfield 15, 3) := by decide +kernel
theorem dX0_init_20 : decode cX0_init 20 = .ok (.aload_n 0, 1) := by decide +kernel
theorem dX0_init_21 : decode cX0_init 21 = .ok (.bipush 40, 2) := by decide +kernel
theorem dX0_init_23 : decode cX0_init 23 = .ok (.newarray .int, 2) := by decide +kernel
theorem dX0_init_25 : decode cX0_init 25 = .ok (.putfield 18, 3) := by decide +kernel
theorem dX0_init_28 : decode cX0_init 28 = .ok (.aload_n 0, 1) := by decide +kernel
theorem dX0_init_29 : decode cX0_init 29 = .ok (.bipush 40, 2) := by decide +kernel
theorem dX0_init_31 : decode cX0_init 31 = .ok (.newarray .int, 2) := by decide +kernel
theorem dX0_init_33 : decode cX0_init 33 = .ok (.putfield 21, 3) := by decide +kernel
theorem dX0_init_36 : decode cX0_init 36 = .ok (.aload_n 0, 1) := by decide +kernel
theorem dX0_init_37 : decode cX0_init 37 = .ok (.bipush 40, 2) := by decide +kernel
theorem dX0_init_39 : decode cX0_init 39 = .ok (.newarray .int, 2) := by decide +kernel
theorem dX0_init_41 : decode cX0_init 41 = .ok (.putfield 24, 3) := by decide +kernel
theorem dX0_init_44 : decode cX0_init 44 = .ok (.aload_n 0, 1) := by decide +kernel
theorem dX0_init_45 : decode cX0_init 45 = .ok (.bipush 40, 2) := by decide +kernel
theorem dX0_init_47 : decode cX0_init 47 = .ok (.newarray .int, 2) := by decide +kernel
theorem dX0_init_49 : decode cX0_init 49 = .ok (.putfield 27, 3) := by decide +kernel
theorem dX0_init_52 : decode cX0_init 52 = .ok (.aload_n 0, 1) := by decide +kernel
theorem dX0_init_53 : decode cX0_init 53 = .ok (.bipush 40, 2) := by decide +kernel
theorem dX0_init_55 : decode cX0_init 55 = .ok (.newarray .int, 2) := by decide +kernel
theorem dX0_init_57 : decode cX0_init 57 = .ok (.putfield 30, 3) := by decide +kernel
theorem dX0_init_60 : decode cX0_init 60 = .ok (.aload_n 0, 1) := by decide +kernel
theorem dX0_init_61 : decode cX0_init 61 = .ok (.bipush 40, 2) := by decide +kernel
theorem dX0_init_63 : decode cX0_init 63 = .ok (.newarray .int, 2) := by decide +kernel
theorem dX0_init_65 : decode cX0_init 65 = .ok (.putfield 33, 3) := by decide +kernel
theorem dX0_init_68 : decode cX0_init 68 = .ok (.aload_n 0, 1) := by decide +kernel
theorem dX0_init_69 : decode cX0_init 69 = .ok (.bipush 40, 2) := by decide +kernel
theorem dX0_init_71 : decode cX0_init 71 = .ok (.newarray .int, 2) := by decide +kernel
theorem dX0_init_73 : decode cX0_init 73 = .ok (.putfield 36, 3) := by decide +kernel
theorem dX0_init_76 : decode cX0_init 76 = .ok (.aload_n 0, 1) := by decide +kernel
theorem dX0_init_77 : decode cX0_init 77 = .ok (.iconst 5, 1) := by decide +kernel
theorem dX0_init_78 : decode cX0_init 78 = .ok (.newarray .int, 2) := by decide +kernel
theorem dX0_init_80 : decode cX0_init 80 = .ok (.putfield 39, 3) := by decide +kernel
theorem dX0_init_83 : decode cX0_init 83 = .ok (.aload_n 0, 1) := by decide +kernel
theorem dX0_init_84 : decode cX0_init 84 = .ok (.iconst 5, 1) := by decide +kernel
theorem dX0_init_85 : decode cX0_init 85 = .ok (.newarray .int, 2) := by decide +kernel
theorem dX0_init_87 : decode cX0_init 87 = .ok (.putfield 42, 3) := by decide +kernel
theorem dX0_init_90 : decode cX0_init 90 = .ok (.aload_n 0, 1) := by decide +kernel
theorem dX0_init_91 : decode cX0_init 91 = .ok (.iconst 5, 1) := by decide +kernel
theorem dX0_init_92 : decode cX0_init 92 = .ok (.newarray .int, 2) := by decide +kernel
theorem tw_121 : Cond.fieldLink RX0 45 "RingsUnder$Folk" "free" "[I" ∈ wsL_law := List.mem_of_getElem? (i := 121) (by decide +kernel)
theorem dX0_init_94 : decode cX0_init 94 = .ok (.putfield 45, 3) := by decide +kernel
theorem dX0_init_97 : decode cX0_init 97 = .ok (.aload_n 0, 1) := by decide +kernel
theorem dX0_init_98 : decode cX0_init 98 = .ok (.bipush 50, 2) := by decide +kernel
theorem dX0_init_100 : decode cX0_init 100 = .ok (.newarray .int, 2) := by decide +kernel
theorem tw_122 : Cond.fieldLink RX0 48 "RingsUnder$Folk" "groupSize" "[I" ∈ wsL_law := List.mem_of_getElem? (i := 122) (by decide +kernel)
theorem dX0_init_102 : decode cX0_init 102 = .ok (.putfield 48, 3) := by decide +kernel
theorem dX0_init_105 : decode cX0_init 105 = .ok (.aload_n 0, 1) := by decide +kernel
theorem dX0_init_106 : decode cX0_init 106 = .ok (.bipush 50, 2) := by decide +kernel
theorem dX0_init_108 : decode cX0_init 108 = .ok (.newarray .int, 2) := by decide +kernel
theorem tw_123 : Cond.fieldLink RX0 51 "RingsUnder$Folk" "groupLot" "[I" ∈ wsL_law := List.mem_of_getElem? (i := 123) (by decide +kernel)
theorem dX0_init_110 : decode cX0_init 110 = .ok (.putfield 51, 3) := by decide +kernel
theorem dX0_init_113 : decode cX0_init 113 = .ok (.return_, 1) := by decide +kernel
theorem dX1_init_0 : decode cX1_init 0 = .ok (.aload_n 0, 1) := by decide +kernel
theorem tw_136 : Cond.methodLink RX1 3 objectInit ∈ wsL_law := List.mem_of_getElem? (i := 136) (by decide +kernel)
theorem dX1_init_1 : decode cX1_init 1 = .ok (.invokespecial 3, 3) := by decide +kernel
theorem dX1_init_4 : decode cX1_init 4 = .ok (.aload_n 0, 1) := by decide +kernel
theorem dX1_init_5 : decode cX1_init 5 = .ok (.bipush 30, 2) := by decide +kernel
theorem dX1_init_7 : decode cX1_init 7 = .ok (.newarray .int, 2) := by decide +kernel
theorem dX1_init_9 : decode cX1_init 9 = .ok (.putfield 9, 3) := by decide +kernel
theorem dX1_init_12 : decode cX1_init 12 = .ok (.aload_n 0, 1) := by decide +kernel
theorem dX1_init_13 : decode cX1_init 13 = .ok (.bipush 30, 2) := by decide +kernel
theorem tw_81 : Cond.arrayClass .long ∈ wsL_law := List.mem_of_getElem? (i := 81) (by decide +kernel)
theorem dX1_init_15 : decode cX1_init 15 = .ok (.newarray .long, 2) := by decide +kernel
theorem dX1_init_17 : decode cX1_init 17 = .ok (.putfield 15, 3) := by decide +kernel
theorem dX1_init_20 : decode cX1_init 20 = .ok (.return_, 1) := by decide +kernel
set_option maxHeartbeats 8000000 in
set_option maxRecDepth 100000 in
theorem c_X9_init (l : Launch) (D : va_G) (t : pq_T) (σ : pq_S) (I : Nat → Nat → Int32) (J : Nat → Nat → Int64) (ri : Nat → Nat → Int32) (rj : Nat → Nat → Int64) (rq : Nat → Nat → Option Nat) (sz : Nat) (this : Nat) (hL_this : this ∈ σ.1) (hK_this : σ.2.1 this = 9) (hZ : pq_Z I) (hq0 : rq = fun _ _ => none) : MetV l yX9_init (wa yX9_init cX9_init 1 none) ({ frames := 1, cells := 3, slots := 120, locals := 20 }) [.ref this] D t σ (I, J, ri, rj, rq) sz 3 120 (fun (u : pq_S × pq_M) => ∃ (σ' : pq_S) (I' : Nat → Nat → Int32) (J' : Nat → Nat → Int64) (ri' : Nat → Nat → Int32) (rj' : Nat → Nat → Int64) (rq' : Nat → Nat → Option Nat), u = (σ', I', J', ri', rj', rq') ∧ Et this σ σ' I I' ∧ okWells σ' I' this ∧ pq_Z I' ∧ rq' = fun _ _ => none) := by
  refine Met.ofW (cc := cX9_init) (maxL := 1) (ret := none) (by decide) rfl ?_
  intro p e s m args below meth c s₁ B hml hv
  obtain ⟨rfl, hsz, hP, hK, hD0, hN⟩ := hv
  have hx := B.exec
  have hb := B.bytes
  have hr := B.returns
  have hts := atoms_spec (ws := (wa yX9_init cX9_init 1 none)) B.pre
  have hown : s.vm.findClass RX9 = some m.cls := findClass_of_methodNamed B.named
  have hlocks := B.notSynchronized
  have hin : meth.name = "<init>" := (name_of_methodNamed B.named B.method).1
  subst hsz
  have hD : va_D (pq_B t σ (I, J, ri, rj, rq) s.heap.size) (pq_P t σ (I, J, ri, rj, rq)) := hD0.self
  generalize hAe : pq_B t σ (I, J, ri, rj, rq) s.heap.size = A at hD ⊢
  have hA : ∀ q : Nat, s.heap.size ≤ q → A q := fun q h => by rw [← hAe]; exact Or.inr h
  have hS : va_S A s.heap s.heap [] := va_S.rf
  have hl := lv_entry ([.ref this]) (n := 1) (Nat.le_of_ble_eq_true rfl)
  rw [lg_entry_eq]
  generalize (lg_sl ([.ref this]) ++ List.replicate (1 - (lg_sl ([.ref this])).length) Slot.unset).toArray = ls at hl ⊢
  have hl : lv_has ls 1 [(0, .ref this)] := hl
  refine lv_aload_n hx hb dX9_init_0 rfl (lv_at hl 0 rfl) ?_
  refine W.objInit hx hb hown (hts _ (tw_c tw_103)) (hts _ (tw_c tw_11)) (hts _ (tw_c tw_12)) rfl (by rw [hml]; exact hl.1) rfl dX9_init_1 (Nat.le_of_ble_eq_true rfl) (Nat.le_of_ble_eq_true rfl) ?_
  refine W.eq (g2 := F0 m 4 ls []) rfl ?_
  refine lv_aload_n hx hb dX9_init_4 rfl (lv_at hl 0 rfl) ?_
  refine lv_bipush (v := 40) hx hb dX9_init_5 (by decide) ?_
  refine nw_i (N' := 40) hx hb (hts _ (tw_c tw_33)) hK hP hD hS hA (by decide) (by decide) (Nat.le_of_ble_eq_true rfl) (Nat.le_of_ble_eq_true rfl) (Nat.le_of_ble_eq_true rfl) dX9_init_7 (fun q_1 r_3 H hq_2 er_3 hP hD hS => ?_)
  refine pr_F (q := q_1) (C := RX9) (T := TX9) (N := 3) hx hb hts (tw_i inlX9) tyX9 tyX9_ok nmX9 hown hK hP hD hS (As_in hL_this) (As_kk hq_2 hL_this hK_this) (by decide) rfl 0 288 (by decide) (hts _ (tw_c tw_104)) rfl hin rfl (tyX9_ok 0 (by decide)) rfl rfl (Nat.le_of_ble_eq_true rfl) (pr_288 _ _ _ _ _) dX9_init_9 (fun σ_4 H locs hp_5 hP hD hS => ?_)
  have hs_6 := As_of hq_2 hp_5
  have hz_7 := As_es (I := I) hs_6
  have hE := Et_es Et_rf hz_7
  have hA_288 := As_ok hs_6 hL_this
  have hK_this := Es_k hz_7 hL_this hK_this
  have hL_this := Es_at hz_7 hL_this
  refine lv_aload_n hx hb dX9_init_12 rfl (lv_at hl 0 rfl) ?_
  refine lv_bipush (v := 40) hx hb dX9_init_13 (by decide) ?_
  refine nw_i (N' := 40) hx hb (hts _ (tw_c tw_33)) hK hP hD hS hA (by decide) (by decide) (Nat.le_of_ble_eq_true rfl) (Nat.le_of_ble_eq_true rfl) (Nat.le_of_ble_eq_true rfl) dX9_init_15 (fun q_8 r_10 H hq_9 er_10 hP hD hS => ?_)
  refine pr_F (q := q_8) (C := RX9) (T := TX9) (N := 3) hx hb hts (tw_i inlX9) tyX9 tyX9_ok nmX9 hown hK hP hD hS (As_in hL_this) (As_kk hq_9 hL_this hK_this) (by decide) rfl 1 289 (by decide) (hts _ (tw_c tw_105)) rfl hin rfl (tyX9_ok 1 (by decide)) rfl rfl (Nat.le_of_ble_eq_true rfl) (pr_289 _ _ _ _ _) dX9_init_17 (fun σ_11 H locs hp_12 hP hD hS => ?_)
  have hs_13 := As_of hq_9 hp_12
  have hz_14 := As_es (I := I) hs_13
  have hE := Et_es hE hz_14
  have hA_288 := okA_es hz_14 (by decide) hA_288
  have hA_289 := As_ok hs_13 hL_this
  have hK_this := Es_k hz_14 hL_this hK_this
  have hL_this := Es_at hz_14 hL_this
  refine lv_aload_n hx hb dX9_init_20 rfl (lv_at hl 0 rfl) ?_
  refine lv_bipush (v := 40) hx hb dX9_init_21 (by decide) ?_
  refine nw_i (N' := 40) hx hb (hts _ (tw_c tw_33)) hK hP hD hS hA (by decide) (by decide) (Nat.le_of_ble_eq_true rfl) (Nat.le_of_ble_eq_true rfl) (Nat.le_of_ble_eq_true rfl) dX9_init_23 (fun q_15 r_17 H hq_16 er_17 hP hD hS => ?_)
  refine pr_F (q := q_15) (C := RX9) (T := TX9) (N := 3) hx hb hts (tw_i inlX9) tyX9 tyX9_ok nmX9 hown hK hP hD hS (As_in hL_this) (As_kk hq_16 hL_this hK_this) (by decide) rfl 2 290 (by decide) (hts _ (tw_c tw_106)) rfl hin rfl (tyX9_ok 2 (by decide)) rfl rfl (Nat.le_of_ble_eq_true rfl) (pr_290 _ _ _ _ _) dX9_init_25 (fun σ_18 H locs hp_19 hP hD hS => ?_)
  have hs_20 := As_of hq_16 hp_19
  have hz_21 := As_es (I := I) hs_20
  have hE := Et_es hE hz_21
  have hA_288 := okA_es hz_21 (by decide) hA_288
  have hA_289 := okA_es hz_21 (by decide) hA_289
  have hA_290 := As_ok hs_20 hL_this
  have hK_this := Es_k hz_21 hL_this hK_this
  have hL_this := Es_at hz_21 hL_this
  exact W.vret hx hb hr (fun t1 ht hW => ⟨⟨(σ_18, I, J, r_17, rj, rq), rfl, ⟨σ_18, I, J, r_17, rj, rq, rfl, hE, ⟨hA_288, hA_289, hA_290⟩, hZ, hq0⟩, by rw [ht]; exact hP, va_K.moved hW.alike hK, hD⟩, hS.F ht⟩) hS.2.2 dX9_init_28

set_option maxHeartbeats 8000000 in
set_option maxRecDepth 100000 in
theorem c_X0_init (l : Launch) (D : va_G) (t : pq_T) (σ : pq_S) (I : Nat → Nat → Int32) (J : Nat → Nat → Int64) (ri : Nat → Nat → Int32) (rj : Nat → Nat → Int64) (rq : Nat → Nat → Option Nat) (sz : Nat) (this : Nat) (hL_this : this ∈ σ.1) (hK_this : σ.2.1 this = 0) (hZ : pq_Z I) (hq0 : rq = fun _ _ => none) : MetV l yX0_init (wa yX0_init cX0_init 1 none) ({ frames := 1, cells := 14, slots := 475, locals := 20 }) [.ref this] D t σ (I, J, ri, rj, rq) sz 14 475 (fun (u : pq_S × pq_M) => ∃ (σ' : pq_S) (I' : Nat → Nat → Int32) (J' : Nat → Nat → Int64) (ri' : Nat → Nat → Int32) (rj' : Nat → Nat → Int64) (rq' : Nat → Nat → Option Nat), u = (σ', I', J', ri', rj', rq') ∧ Et this σ σ' I I' ∧ okFolk σ' I' this ∧ pq_Z I' ∧ rq' = fun _ _ => none) := by
  refine Met.ofW (cc := cX0_init) (maxL := 1) (ret := none) (by decide) rfl ?_
  intro p e s m args below meth c s₁ B hml hv
  obtain ⟨rfl, hsz, hP, hK, hD0, hN⟩ := hv
  have hx := B.exec
  have hb := B.bytes
  have hr := B.returns
  have hts := atoms_spec (ws := (wa yX0_init cX0_init 1 none)) B.pre
  have hown : s.vm.findClass RX0 = some m.cls := findClass_of_methodNamed B.named
  have hlocks := B.notSynchronized
  have hin : meth.name = "<init>" := (name_of_methodNamed B.named B.method).1
  subst hsz
  have hD : va_D (pq_B t σ (I, J, ri, rj, rq) s.heap.size) (pq_P t σ (I, J, ri, rj, rq)) := hD0.self
  generalize hAe : pq_B t σ (I, J, ri, rj, rq) s.heap.size = A at hD ⊢
  have hA : ∀ q : Nat, s.heap.size ≤ q → A q := fun q h => by rw [← hAe]; exact Or.inr h
  have hS : va_S A s.heap s.heap [] := va_S.rf
  have hl := lv_entry ([.ref this]) (n := 1) (Nat.le_of_ble_eq_true rfl)
  rw [lg_entry_eq]
  generalize (lg_sl ([.ref this]) ++ List.replicate (1 - (lg_sl ([.ref this])).length) Slot.unset).toArray = ls at hl ⊢
  have hl : lv_has ls 1 [(0, .ref this)] := hl
  refine lv_aload_n hx hb dX0_init_0 rfl (lv_at hl 0 rfl) ?_
  refine W.objInit hx hb hown (hts _ (tw_c tw_109)) (hts _ (tw_c tw_11)) (hts _ (tw_c tw_12)) rfl (by rw [hml]; exact hl.1) rfl dX0_init_1 (Nat.le_of_ble_eq_true rfl) (Nat.le_of_ble_eq_true rfl) ?_
  refine W.eq (g2 := F0 m 4 ls []) rfl ?_
  refine lv_aload_n hx hb dX0_init_4 rfl (lv_at hl 0 rfl) ?_
  refine lv_bipush (v := 40) hx hb dX0_init_5 (by decide) ?_
  refine nw_i (N' := 40) hx hb (hts _ (tw_c tw_33)) hK hP hD hS hA (by decide) (by decide) (Nat.le_of_ble_eq_true rfl) (Nat.le_of_ble_eq_true rfl) (Nat.le_of_ble_eq_true rfl) dX0_init_7 (fun q_1 r_3 H hq_2 er_3 hP hD hS => ?_)
  refine pr_F (q := q_1) (C := RX0) (T := TX0) (N := 16) hx hb hts (tw_i inlX0) tyX0 tyX0_ok nmX0 hown hK hP hD hS (As_in hL_this) (As_kk hq_2 hL_this hK_this) (by decide) rfl 1 1 (by decide) (hts _ (tw_c tw_110)) rfl hin rfl (tyX0_ok 1 (by decide)) rfl rfl (Nat.le_of_ble_eq_true rfl) (pr_1 _ _ _ _ _) dX0_init_9 (fun σ_4 H locs hp_5 hP hD hS => ?_)
  have hs_6 := As_of hq_2 hp_5
  have hz_7 := As_es (I := I) hs_6
  have hE := Et_es Et_rf hz_7
  have hA_1 := As_ok hs_6 hL_this
  have hK_this := Es_k hz_7 hL_this hK_this
  have hL_this := Es_at hz_7 hL_this
  refine lv_aload_n hx hb dX0_init_12 rfl (lv_at hl 0 rfl) ?_
  refine lv_bipush (v := 40) hx hb dX0_init_13 (by decide) ?_
  refine nw_i (N' := 40) hx hb (hts _ (tw_c tw_33)) hK hP hD hS hA (by decide) (by decide) (Nat.le_of_ble_eq_true rfl) (Nat.le_of_ble_eq_true rfl) (Nat.le_of_ble_eq_true rfl) dX0_init_15 (fun q_8 r_10 H hq_9 er_10 hP hD hS => ?_)
  refine pr_F (q := q_8) (C := RX0) (T := TX0) (N := 16) hx hb hts (tw_i inlX0) tyX0 tyX0_ok nmX0 hown hK hP hD hS (As_in hL_this) (As_kk hq_9 hL_this hK_this) (by decide) rfl 2 2 (by decide) (hts _ (tw_c tw_111)) rfl hin rfl (tyX0_ok 2 (by decide)) rfl rfl (Nat.le_of_ble_eq_true rfl) (pr_2 _ _ _ _ _) dX0_init_17 (fun σ_11 H locs hp_12 hP hD hS => ?_)
  have hs_13 := As_of hq_9 hp_12
  have hz_14 := As_es (I := I) hs_13
  have hE := Et_es hE hz_14
  have hA_1 := okA_es hz_14 (by decide) hA_1
  have hA_2 := As_ok hs_13 hL_this
  have hK_this := Es_k hz_14 hL_this hK_this
  have hL_this := Es_at hz_14 hL_this
  refine lv_aload_n hx hb dX0_init_20 rfl (lv_at hl 0 rfl) ?_
  refine lv_bipush (v := 40) hx hb dX0_init_21 (by decide) ?_
  refine nw_i (N' := 40) hx hb (hts _ (tw_c tw_33)) hK hP hD hS hA (by decide) (by decide) (Nat.le_of_ble_eq_true rfl) (Nat.le_of_ble_eq_true rfl) (Nat.le_of_ble_eq_true rfl) dX0_init_23 (fun q_15 r_17 H hq_16 er_17 hP hD hS => ?_)
  refine pr_F (q := q_15) (C := RX0) (T := TX0) (N := 16) hx hb hts (tw_i inlX0) tyX0 tyX0_ok nmX0 hown hK hP hD hS (As_in hL_this) (As_kk hq_16 hL_this hK_this) (by decide) rfl 3 3 (by decide) (hts _ (tw_c tw_112)) rfl hin rfl (tyX0_ok 3 (by decide)) rfl rfl (Nat.le_of_ble_eq_true rfl) (pr_3 _ _ _ _ _) dX0_init_25 (fun σ_18 H locs hp_19 hP hD hS => ?_)
  have hs_20 := As_of hq_16 hp_19
  have hz_21 := As_es (I := I) hs_20
  have hE := Et_es hE hz_21
  have hA_1 := okA_es hz_21 (by decide) hA_1
  have hA_2 := okA_es hz_21 (by decide) hA_2
  have hA_3 := As_ok hs_20 hL_this
  have hK_this := Es_k hz_21 hL_this hK_this
  have hL_this := Es_at hz_21 hL_this
  refine lv_aload_n hx hb dX0_init_28 rfl (lv_at hl 0 rfl) ?_
  refine lv_bipush (v := 40) hx hb dX0_init_29 (by decide) ?_
  refine nw_i (N' := 40) hx hb (hts _ (tw_c tw_33)) hK hP hD hS hA (by decide) (by decide) (Nat.le_of_ble_eq_true rfl) (Nat.le_of_ble_eq_true rfl) (Nat.le_of_ble_eq_true rfl) dX0_init_31 (fun q_22 r_24 H hq_23 er_24 hP hD hS => ?_)
  refine pr_F (q := q_22) (C := RX0) (T := TX0) (N := 16) hx hb hts (tw_i inlX0) tyX0 tyX0_ok nmX0 hown hK hP hD hS (As_in hL_this) (As_kk hq_23 hL_this hK_this) (by decide) rfl 4 4 (by decide) (hts _ (tw_c tw_113)) rfl hin rfl (tyX0_ok 4 (by decide)) rfl rfl (Nat.le_of_ble_eq_true rfl) (pr_4 _ _ _ _ _) dX0_init_33 (fun σ_25 H locs hp_26 hP hD hS => ?_)
  have hs_27 := As_of hq_23 hp_26
  have hz_28 := As_es (I := I) hs_27
  have hE := Et_es hE hz_28
  have hA_1 := okA_es hz_28 (by decide) hA_1
  have hA_2 := okA_es hz_28 (by decide) hA_2
  have hA_3 := okA_es hz_28 (by decide) hA_3
  have hA_4 := As_ok hs_27 hL_this
  have hK_this := Es_k hz_28 hL_this hK_this
  have hL_this := Es_at hz_28 hL_this
  refine lv_aload_n hx hb dX0_init_36 rfl (lv_at hl 0 rfl) ?_
  refine lv_bipush (v := 40) hx hb dX0_init_37 (by decide) ?_
  refine nw_i (N' := 40) hx hb (hts _ (tw_c tw_33)) hK hP hD hS hA (by decide) (by decide) (Nat.le_of_ble_eq_true rfl) (Nat.le_of_ble_eq_true rfl) (Nat.le_of_ble_eq_true rfl) dX0_init_39 (fun q_29 r_31 H hq_30 er_31 hP hD hS => ?_)
  refine pr_F (q := q_29) (C := RX0) (T := TX0) (N := 16) hx hb hts (tw_i inlX0) tyX0 tyX0_ok nmX0 hown hK hP hD hS (As_in hL_this) (As_kk hq_30 hL_this hK_this) (by decide) rfl 5 5 (by decide) (hts _ (tw_c tw_114)) rfl hin rfl (tyX0_ok 5 (by decide)) rfl rfl (Nat.le_of_ble_eq_true rfl) (pr_5 _ _ _ _ _) dX0_init_41 (fun σ_32 H locs hp_33 hP hD hS => ?_)
  have hs_34 := As_of hq_30 hp_33
  have hz_35 := As_es (I := I) hs_34
  have hE := Et_es hE hz_35
  have hA_1 := okA_es hz_35 (by decide) hA_1
  have hA_2 := okA_es hz_35 (by decide) hA_2
  have hA_3 := okA_es hz_35 (by decide) hA_3
  have hA_4 := okA_es hz_35 (by decide) hA_4
  have hA_5 := As_ok hs_34 hL_this
  have hK_this := Es_k hz_35 hL_this hK_this
  have hL_this := Es_at hz_35 hL_this
  refine lv_aload_n hx hb dX0_init_44 rfl (lv_at hl 0 rfl) ?_
  refine lv_bipush (v := 40) hx hb dX0_init_45 (by decide) ?_
  refine nw_i (N' := 40) hx hb (hts _ (tw_c tw_33)) hK hP hD hS hA (by decide) (by decide) (Nat.le_of_ble_eq_true rfl) (Nat.le_of_ble_eq_true rfl) (Nat.le_of_ble_eq_true rfl) dX0_init_47 (fun q_36 r_38 H hq_37 er_38 hP hD hS => ?_)
  refine pr_F (q := q_36) (C := RX0) (T := TX0) (N := 16) hx hb hts (tw_i inlX0) tyX0 tyX0_ok nmX0 hown hK hP hD hS (As_in hL_this) (As_kk hq_37 hL_this hK_this) (by decide) rfl 6 6 (by decide) (hts _ (tw_c tw_115)) rfl hin rfl (tyX0_ok 6 (by decide)) rfl rfl (Nat.le_of_ble_eq_true rfl) (pr_6 _ _ _ _ _) dX0_init_49 (fun σ_39 H locs hp_40 hP hD hS => ?_)
  have hs_41 := As_of hq_37 hp_40
  have hz_42 := As_es (I := I) hs_41
  have hE := Et_es hE hz_42
  have hA_1 := okA_es hz_42 (by decide) hA_1
  have hA_2 := okA_es hz_42 (by decide) hA_2
  have hA_3 := okA_es hz_42 (by decide) hA_3
  have hA_4 := okA_es hz_42 (by decide) hA_4
  have hA_5 := okA_es hz_42 (by decide) hA_5
  have hA_6 := As_ok hs_41 hL_this
  have hK_this := Es_k hz_42 hL_this hK_this
  have hL_this := Es_at hz_42 hL_this
  refine lv_aload_n hx hb dX0_init_52 rfl (lv_at hl 0 rfl) ?_
  refine lv_bipush (v := 40) hx hb dX0_init_53 (by decide) ?_
  refine nw_i (N' := 40) hx hb (hts _ (tw_c tw_33)) hK hP hD hS hA (by decide) (by decide) (Nat.le_of_ble_eq_true rfl) (Nat.le_of_ble_eq_true rfl) (Nat.le_of_ble_eq_true rfl) dX0_init_55 (fun q_43 r_45 H hq_44 er_45 hP hD hS => ?_)
  refine pr_F (q := q_43) (C := RX0) (T := TX0) (N := 16) hx hb hts (tw_i inlX0) tyX0 tyX0_ok nmX0 hown hK hP hD hS (As_in hL_this) (As_kk hq_44 hL_this hK_this) (by decide) rfl 7 7 (by decide) (hts _ (tw_c tw_116)) rfl hin rfl (tyX0_ok 7 (by decide)) rfl rfl (Nat.le_of_ble_eq_true rfl) (pr_7 _ _ _ _ _) dX0_init_57 (fun σ_46 H locs hp_47 hP hD hS => ?_)
  have hs_48 := As_of hq_44 hp_47
  have hz_49 := As_es (I := I) hs_48
  have hE := Et_es hE hz_49
  have hA_1 := okA_es hz_49 (by decide) hA_1
  have hA_2 := okA_es hz_49 (by decide) hA_2
  have hA_3 := okA_es hz_49 (by decide) hA_3
  have hA_4 := okA_es hz_49 (by decide) hA_4
  have hA_5 := okA_es hz_49 (by decide) hA_5
  have hA_6 := okA_es hz_49 (by decide) hA_6
  have hA_7 := As_ok hs_48 hL_this
  have hK_this := Es_k hz_49 hL_this hK_this
  have hL_this := Es_at hz_49 hL_this
  refine lv_aload_n hx hb dX0_init_60 rfl (lv_at hl 0 rfl) ?_
  refine lv_bipush (v := 40) hx hb dX0_init_61 (by decide) ?_
  refine nw_i (N' := 40) hx hb (hts _ (tw_c tw_33)) hK hP hD hS hA (by decide) (by decide) (Nat.le_of_ble_eq_true rfl) (Nat.le_of_ble_eq_true rfl) (Nat.le_of_ble_eq_true rfl) dX0_init_63 (fun q_50 r_52 H hq_51 er_52 hP hD hS => ?_)
  refine pr_F (q := q_50) (C := RX0) (T := TX0) (N := 16) hx hb hts (tw_i inlX0) tyX0 tyX0_ok nmX0 hown hK hP hD hS (As_in hL_this) (As_kk hq_51 hL_this hK_this) (by decide) rfl 8 8 (by decide) (hts _ (tw_c tw_117)) rfl hin rfl (tyX0_ok 8 (by decide)) rfl rfl (Nat.le_of_ble_eq_true rfl) (pr_8 _ _ _ _ _) dX0_init_65 (fun σ_53 H locs hp_54 hP hD hS => ?_)
  have hs_55 := As_of hq_51 hp_54
  have hz_56 := As_es (I := I) hs_55
  have hE := Et_es hE hz_56
  have hA_1 := okA_es hz_56 (by decide) hA_1
  have hA_2 := okA_es hz_56 (by decide) hA_2
  have hA_3 := okA_es hz_56 (by decide) hA_3
  have hA_4 := okA_es hz_56 (by decide) hA_4
  have hA_5 := okA_es hz_56 (by decide) hA_5
  have hA_6 := okA_es hz_56 (by decide) hA_6
  have hA_7 := okA_es hz_56 (by decide) hA_7
  have hA_8 := As_ok hs_55 hL_this
  have hK_this := Es_k hz_56 hL_this hK_this
  have hL_this := Es_at hz_56 hL_this
  refine lv_aload_n hx hb dX0_init_68 rfl (lv_at hl 0 rfl) ?_
  refine lv_bipush (v := 40) hx hb dX0_init_69 (by decide) ?_
  refine nw_i (N' := 40) hx hb (hts _ (tw_c tw_33)) hK hP hD hS hA (by decide) (by decide) (Nat.le_of_ble_eq_true rfl) (Nat.le_of_ble_eq_true rfl) (Nat.le_of_ble_eq_true rfl) dX0_init_71 (fun q_57 r_59 H hq_58 er_59 hP hD hS => ?_)
  refine pr_F (q := q_57) (C := RX0) (T := TX0) (N := 16) hx hb hts (tw_i inlX0) tyX0 tyX0_ok nmX0 hown hK hP hD hS (As_in hL_this) (As_kk hq_58 hL_this hK_this) (by decide) rfl 9 9 (by decide) (hts _ (tw_c tw_118)) rfl hin rfl (tyX0_ok 9 (by decide)) rfl rfl (Nat.le_of_ble_eq_true rfl) (pr_9 _ _ _ _ _) dX0_init_73 (fun σ_60 H locs hp_61 hP hD hS => ?_)
  have hs_62 := As_of hq_58 hp_61
  have hz_63 := As_es (I := I) hs_62
  have hE := Et_es hE hz_63
  have hA_1 := okA_es hz_63 (by decide) hA_1
  have hA_2 := okA_es hz_63 (by decide) hA_2
  have hA_3 := okA_es hz_63 (by decide) hA_3
  have hA_4 := okA_es hz_63 (by decide) hA_4
  have hA_5 := okA_es hz_63 (by decide) hA_5
  have hA_6 := okA_es hz_63 (by decide) hA_6
  have hA_7 := okA_es hz_63 (by decide) hA_7
  have hA_8 := okA_es hz_63 (by decide) hA_8
  have hA_9 := As_ok hs_62 hL_this
  have hK_this := Es_k hz_63 hL_this hK_this
  have hL_this := Es_at hz_63 hL_this
  refine lv_aload_n hx hb dX0_init_76 rfl (lv_at hl 0 rfl) ?_
  refine lv_iconst (v := 5) hx hb dX0_init_77 (by decide) ?_
  refine nw_i (N' := 5) hx hb (hts _ (tw_c tw_33)) hK hP hD hS hA (by decide) (by decide) (Nat.le_of_ble_eq_true rfl) (Nat.le_of_ble_eq_true rfl) (Nat.le_of_ble_eq_true rfl) dX0_init_78 (fun q_64 r_66 H hq_65 er_66 hP hD hS => ?_)
  refine pr_F (q := q_64) (C := RX0) (T := TX0) (N := 16) hx hb hts (tw_i inlX0) tyX0 tyX0_ok nmX0 hown hK hP hD hS (As_in hL_this) (As_kk hq_65 hL_this hK_this) (by decide) rfl 11 11 (by decide) (hts _ (tw_c tw_119)) rfl hin rfl (tyX0_ok 11 (by decide)) rfl rfl (Nat.le_of_ble_eq_true rfl) (pr_11 _ _ _ _ _) dX0_init_80 (fun σ_67 H locs hp_68 hP hD hS => ?_)
  have hs_69 := As_of hq_65 hp_68
  have hz_70 := As_es (I := I) hs_69
  have hE := Et_es hE hz_70
  have hA_1 := okA_es hz_70 (by decide) hA_1
  have hA_2 := okA_es hz_70 (by decide) hA_2
  have hA_3 := okA_es hz_70 (by decide) hA_3
  have hA_4 := okA_es hz_70 (by decide) hA_4
  have hA_5 := okA_es hz_70 (by decide) hA_5
  have hA_6 := okA_es hz_70 (by decide) hA_6
  have hA_7 := okA_es hz_70 (by decide) hA_7
  have hA_8 := okA_es hz_70 (by decide) hA_8
  have hA_9 := okA_es hz_70 (by decide) hA_9
  have hA_11 := As_ok hs_69 hL_this
  have hK_this := Es_k hz_70 hL_this hK_this
  have hL_this := Es_at hz_70 hL_this
  refine lv_aload_n hx hb dX0_init_83 rfl (lv_at hl 0 rfl) ?_
  refine lv_iconst (v := 5) hx hb dX0_init_84 (by decide) ?_
  refine nw_i (N' := 5) hx hb (hts _ (tw_c tw_33)) hK hP hD hS hA (by decide) (by decide) (Nat.le_of_ble_eq_true rfl) (Nat.le_of_ble_eq_true rfl) (Nat.le_of_ble_eq_true rfl) dX0_init_85 (fun q_71 r_73 H hq_72 er_73 hP hD hS => ?_)
  refine pr_F (q := q_71) (C := RX0) (T := TX0) (N := 16) hx hb hts (tw_i inlX0) tyX0 tyX0_ok nmX0 hown hK hP hD hS (As_in hL_this) (As_kk hq_72 hL_this hK_this) (by decide) rfl 12 12 (by decide) (hts _ (tw_c tw_120)) rfl hin rfl (tyX0_ok 12 (by decide)) rfl rfl (Nat.le_of_ble_eq_true rfl) (pr_12 _ _ _ _ _) dX0_init_87 (fun σ_74 H locs hp_75 hP hD hS => ?_)
  have hs_76 := As_of hq_72 hp_75
  have hz_77 := As_es (I := I) hs_76
  have hE := Et_es hE hz_77
  have hA_1 := okA_es hz_77 (by decide) hA_1
  have hA_2 := okA_es hz_77 (by decide) hA_2
  have hA_3 := okA_es hz_77 (by decide) hA_3
  have hA_4 := okA_es hz_77 (by decide) hA_4
  have hA_5 := okA_es hz_77 (by decide) hA_5
  have hA_6 := okA_es hz_77 (by decide) hA_6
  have hA_7 := okA_es hz_77 (by decide) hA_7
  have hA_8 := okA_es hz_77 (by decide) hA_8
  have hA_9 := okA_es hz_77 (by decide) hA_9
  have hA_11 := okA_es hz_77 (by decide) hA_11
  have hA_12 := As_ok hs_76 hL_this
  have hK_this := Es_k hz_77 hL_this hK_this
  have hL_this := Es_at hz_77 hL_this
  refine lv_aload_n hx hb dX0_init_90 rfl (lv_at hl 0 rfl) ?_
  refine lv_iconst (v := 5) hx hb dX0_init_91 (by decide) ?_
  refine nw_i (N' := 5) hx hb (hts _ (tw_c tw_33)) hK hP hD hS hA (by decide) (by decide) (Nat.le_of_ble_eq_true rfl) (Nat.le_of_ble_eq_true rfl) (Nat.le_of_ble_eq_true rfl) dX0_init_92 (fun q_78 r_80 H hq_79 er_80 hP hD hS => ?_)
  refine pr_F (q := q_78) (C := RX0) (T := TX0) (N := 16) hx hb hts (tw_i inlX0) tyX0 tyX0_ok nmX0 hown hK hP hD hS (As_in hL_this) (As_kk hq_79 hL_this hK_this) (by decide) rfl 13 13 (by decide) (hts _ (tw_c tw_121)) rfl hin rfl (tyX0_ok 13 (by decide)) rfl rfl (Nat.le_of_ble_eq_true rfl) (pr_13 _ _ _ _ _) dX0_init_94 (fun σ_81 H locs hp_82 hP hD hS => ?_)
  have hs_83 := As_of hq_79 hp_82
  have hz_84 := As_es (I := I) hs_83
  have hE := Et_es hE hz_84
  have hA_1 := okA_es hz_84 (by decide) hA_1
  have hA_2 := okA_es hz_84 (by decide) hA_2
  have hA_3 := okA_es hz_84 (by decide) hA_3
  have hA_4 := okA_es hz_84 (by decide) hA_4
  have hA_5 := okA_es hz_84 (by decide) hA_5
  have hA_6 := okA_es hz_84 (by decide) hA_6
  have hA_7 := okA_es hz_84 (by decide) hA_7
  have hA_8 := okA_es hz_84 (by decide) hA_8
  have hA_9 := okA_es hz_84 (by decide) hA_9
  have hA_11 := okA_es hz_84 (by decide) hA_11
  have hA_12 := okA_es hz_84 (by decide) hA_12
  have hA_13 := As_ok hs_83 hL_this
  have hK_this := Es_k hz_84 hL_this hK_this
  have hL_this := Es_at hz_84 hL_this
  refine lv_aload_n hx hb dX0_init_97 rfl (lv_at hl 0 rfl) ?_
  refine lv_bipush (v := 50) hx hb dX0_init_98 (by decide) ?_
  refine nw_i (N' := 50) hx hb (hts _ (tw_c tw_33)) hK hP hD hS hA (by decide) (by decide) (Nat.le_of_ble_eq_true rfl) (Nat.le_of_ble_eq_true rfl) (Nat.le_of_ble_eq_true rfl) dX0_init_100 (fun q_85 r_87 H hq_86 er_87 hP hD hS => ?_)
  refine pr_F (q := q_85) (C := RX0) (T := TX0) (N := 16) hx hb hts (tw_i inlX0) tyX0 tyX0_ok nmX0 hown hK hP hD hS (As_in hL_this) (As_kk hq_86 hL_this hK_this) (by decide) rfl 14 14 (by decide) (hts _ (tw_c tw_122)) rfl hin rfl (tyX0_ok 14 (by decide)) rfl rfl (Nat.le_of_ble_eq_true rfl) (pr_14 _ _ _ _ _) dX0_init_102 (fun σ_88 H locs hp_89 hP hD hS => ?_)
  have hs_90 := As_of hq_86 hp_89
  have hz_91 := As_es (I := I) hs_90
  have hE := Et_es hE hz_91
  have hA_1 := okA_es hz_91 (by decide) hA_1
  have hA_2 := okA_es hz_91 (by decide) hA_2
  have hA_3 := okA_es hz_91 (by decide) hA_3
  have hA_4 := okA_es hz_91 (by decide) hA_4
  have hA_5 := okA_es hz_91 (by decide) hA_5
  have hA_6 := okA_es hz_91 (by decide) hA_6
  have hA_7 := okA_es hz_91 (by decide) hA_7
  have hA_8 := okA_es hz_91 (by decide) hA_8
  have hA_9 := okA_es hz_91 (by decide) hA_9
  have hA_11 := okA_es hz_91 (by decide) hA_11
  have hA_12 := okA_es hz_91 (by decide) hA_12
  have hA_13 := okA_es hz_91 (by decide) hA_13
  have hA_14 := As_ok hs_90 hL_this
  have hK_this := Es_k hz_91 hL_this hK_this
  have hL_this := Es_at hz_91 hL_this
  refine lv_aload_n hx hb dX0_init_105 rfl (lv_at hl 0 rfl) ?_
  refine lv_bipush (v := 50) hx hb dX0_init_106 (by decide) ?_
  refine nw_i (N' := 50) hx hb (hts _ (tw_c tw_33)) hK hP hD hS hA (by decide) (by decide) (Nat.le_of_ble_eq_true rfl) (Nat.le_of_ble_eq_true rfl) (Nat.le_of_ble_eq_true rfl) dX0_init_108 (fun q_92 r_94 H hq_93 er_94 hP hD hS => ?_)
  refine pr_F (q := q_92) (C := RX0) (T := TX0) (N := 16) hx hb hts (tw_i inlX0) tyX0 tyX0_ok nmX0 hown hK hP hD hS (As_in hL_this) (As_kk hq_93 hL_this hK_this) (by decide) rfl 15 15 (by decide) (hts _ (tw_c tw_123)) rfl hin rfl (tyX0_ok 15 (by decide)) rfl rfl (Nat.le_of_ble_eq_true rfl) (pr_15 _ _ _ _ _) dX0_init_110 (fun σ_95 H locs hp_96 hP hD hS => ?_)
  have hs_97 := As_of hq_93 hp_96
  have hz_98 := As_es (I := I) hs_97
  have hE := Et_es hE hz_98
  have hA_1 := okA_es hz_98 (by decide) hA_1
  have hA_2 := okA_es hz_98 (by decide) hA_2
  have hA_3 := okA_es hz_98 (by decide) hA_3
  have hA_4 := okA_es hz_98 (by decide) hA_4
  have hA_5 := okA_es hz_98 (by decide) hA_5
  have hA_6 := okA_es hz_98 (by decide) hA_6
  have hA_7 := okA_es hz_98 (by decide) hA_7
  have hA_8 := okA_es hz_98 (by decide) hA_8
  have hA_9 := okA_es hz_98 (by decide) hA_9
  have hA_11 := okA_es hz_98 (by decide) hA_11
  have hA_12 := okA_es hz_98 (by decide) hA_12
  have hA_13 := okA_es hz_98 (by decide) hA_13
  have hA_14 := okA_es hz_98 (by decide) hA_14
  have hA_15 := As_ok hs_97 hL_this
  have hK_this := Es_k hz_98 hL_this hK_this
  have hL_this := Es_at hz_98 hL_this
  exact W.vret hx hb hr (fun t1 ht hW => ⟨⟨(σ_95, I, J, r_94, rj, rq), rfl, ⟨σ_95, I, J, r_94, rj, rq, rfl, hE, ⟨hA_1, hA_2, hA_3, hA_4, hA_5, hA_6, hA_7, hA_8, hA_9, hA_11, hA_12, hA_13, hA_14, hA_15⟩, hZ, hq0⟩, by rw [ht]; exact hP, va_K.moved hW.alike hK, hD⟩, hS.F ht⟩) hS.2.2 dX0_init_113

set_option maxHeartbeats 8000000 in
set_option maxRecDepth 100000 in
theorem c_X1_init (l : Launch) (D : va_G) (t : pq_T) (σ : pq_S) (I : Nat → Nat → Int32) (J : Nat → Nat → Int64) (ri : Nat → Nat → Int32) (rj : Nat → Nat → Int64) (rq : Nat → Nat → Option Nat) (sz : Nat) (this : Nat) (hL_this : this ∈ σ.1) (hK_this : σ.2.1 this = 1) (hZ : pq_Z I) (hq0 : rq = fun _ _ => none) : MetV l yX1_init (wa yX1_init cX1_init 1 none) ({ frames := 1, cells := 2, slots := 60, locals := 20 }) [.ref this] D t σ (I, J, ri, rj, rq) sz 2 60 (fun (u : pq_S × pq_M) => ∃ (σ' : pq_S) (I' : Nat → Nat → Int32) (J' : Nat → Nat → Int64) (ri' : Nat → Nat → Int32) (rj' : Nat → Nat → Int64) (rq' : Nat → Nat → Option Nat), u = (σ', I', J', ri', rj', rq') ∧ Et this σ σ' I I' ∧ okGraves σ' I' this ∧ pq_Z I' ∧ rq' = fun _ _ => none) := by
  refine Met.ofW (cc := cX1_init) (maxL := 1) (ret := none) (by decide) rfl ?_
  intro p e s m args below meth c s₁ B hml hv
  obtain ⟨rfl, hsz, hP, hK, hD0, hN⟩ := hv
  have hx := B.exec
  have hb := B.bytes
  have hr := B.returns
  have hts := atoms_spec (ws := (wa yX1_init cX1_init 1 none)) B.pre
  have hown : s.vm.findClass RX1 = some m.cls := findClass_of_methodNamed B.named
  have hlocks := B.notSynchronized
  have hin : meth.name = "<init>" := (name_of_methodNamed B.named B.method).1
  subst hsz
  have hD : va_D (pq_B t σ (I, J, ri, rj, rq) s.heap.size) (pq_P t σ (I, J, ri, rj, rq)) := hD0.self
  generalize hAe : pq_B t σ (I, J, ri, rj, rq) s.heap.size = A at hD ⊢
  have hA : ∀ q : Nat, s.heap.size ≤ q → A q := fun q h => by rw [← hAe]; exact Or.inr h
  have hS : va_S A s.heap s.heap [] := va_S.rf
  have hl := lv_entry ([.ref this]) (n := 1) (Nat.le_of_ble_eq_true rfl)
  rw [lg_entry_eq]
  generalize (lg_sl ([.ref this]) ++ List.replicate (1 - (lg_sl ([.ref this])).length) Slot.unset).toArray = ls at hl ⊢
  have hl : lv_has ls 1 [(0, .ref this)] := hl
  refine lv_aload_n hx hb dX1_init_0 rfl (lv_at hl 0 rfl) ?_
  refine W.objInit hx hb hown (hts _ (tw_c tw_136)) (hts _ (tw_c tw_11)) (hts _ (tw_c tw_12)) rfl (by rw [hml]; exact hl.1) rfl dX1_init_1 (Nat.le_of_ble_eq_true rfl) (Nat.le_of_ble_eq_true rfl) ?_
  refine W.eq (g2 := F0 m 4 ls []) rfl ?_
  refine lv_aload_n hx hb dX1_init_4 rfl (lv_at hl 0 rfl) ?_
  refine lv_bipush (v := 30) hx hb dX1_init_5 (by decide) ?_
  refine nw_i (N' := 30) hx hb (hts _ (tw_c tw_33)) hK hP hD hS hA (by decide) (by decide) (Nat.le_of_ble_eq_true rfl) (Nat.le_of_ble_eq_true rfl) (Nat.le_of_ble_eq_true rfl) dX1_init_7 (fun q_1 r_3 H hq_2 er_3 hP hD hS => ?_)
  refine pr_F (q := q_1) (C := RX1) (T := TX1) (N := 3) hx hb hts (tw_i inlX1) tyX1 tyX1_ok nmX1 hown hK hP hD hS (As_in hL_this) (As_kk hq_2 hL_this hK_this) (by decide) rfl 1 33 (by decide) (hts _ (tw_c tw_137)) rfl hin rfl (tyX1_ok 1 (by decide)) rfl rfl (Nat.le_of_ble_eq_true rfl) (pr_33 _ _ _ _ _) dX1_init_9 (fun σ_4 H locs hp_5 hP hD hS => ?_)
  have hs_6 := As_of hq_2 hp_5
  have hz_7 := As_es (I := I) hs_6
  have hE := Et_es Et_rf hz_7
  have hA_33 := As_ok hs_6 hL_this
  have hK_this := Es_k hz_7 hL_this hK_this
  have hL_this := Es_at hz_7 hL_this
  refine lv_aload_n hx hb dX1_init_12 rfl (lv_at hl 0 rfl) ?_
  refine lv_bipush (v := 30) hx hb dX1_init_13 (by decide) ?_
  refine nw_l (N' := 30) hx hb (hts _ (tw_c tw_81)) hK hP hD hS hA (by decide) (by decide) (Nat.le_of_ble_eq_true rfl) (Nat.le_of_ble_eq_true rfl) (Nat.le_of_ble_eq_true rfl) dX1_init_15 (fun q_8 r_10 H hq_9 er_10 hP hD hS => ?_)
  refine pr_F (q := q_8) (C := RX1) (T := TX1) (N := 3) hx hb hts (tw_i inlX1) tyX1 tyX1_ok nmX1 hown hK hP hD hS (As_in hL_this) (As_kk hq_9 hL_this hK_this) (by decide) rfl 2 34 (by decide) (hts _ (tw_c tw_138)) rfl hin rfl (tyX1_ok 2 (by decide)) rfl rfl (Nat.le_of_ble_eq_true rfl) (pr_34 _ _ _ _ _) dX1_init_17 (fun σ_11 H locs hp_12 hP hD hS => ?_)
  have hs_13 := As_of hq_9 hp_12
  have hz_14 := As_es (I := I) hs_13
  have hE := Et_es hE hz_14
  have hA_33 := okA_es hz_14 (by decide) hA_33
  have hA_34 := As_ok hs_13 hL_this
  have hK_this := Es_k hz_14 hL_this hK_this
  have hL_this := Es_at hz_14 hL_this
  exact W.vret hx hb hr (fun t1 ht hW => ⟨⟨(σ_11, I, J, r_3, r_10, rq), rfl, ⟨σ_11, I, J, r_3, r_10, rq, rfl, hE, ⟨hA_33, hA_34⟩, hZ, hq0⟩, by rw [ht]; exact hP, va_K.moved hW.alike hK, hD⟩, hS.F ht⟩) hS.2.2 dX1_init_20
