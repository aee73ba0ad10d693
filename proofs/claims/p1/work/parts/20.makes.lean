theorem dX2_init_0 : decode cX2_init 0 = .ok (.aload_n 0, 1) := by decide +kernel
theorem tw_80 : Cond.methodLink RX2 3 objectInit ∈ wsL_law := List.mem_of_getElem? (i := 80) (by decide +kernel)
theorem dX2_init_1 : decode cX2_init 1 = .ok (.invokespecial 3, 3) := by decide +kernel
theorem dX2_init_4 : decode cX2_init 4 = .ok (.aload_n 0, 1) := by decide +kernel
theorem dX2_init_5 : decode cX2_init 5 = .ok (.sipush 600, 3) := by decide +kernel
theorem dX2_init_8 : decode cX2_init 8 = .ok (.newarray .long, 2) := by decide +kernel
theorem dX2_init_10 : decode cX2_init 10 = .ok (.putfield 9, 3) := by decide +kernel
theorem dX2_init_13 : decode cX2_init 13 = .ok (.aload_n 0, 1) := by decide +kernel
theorem dX2_init_14 : decode cX2_init 14 = .ok (.bipush 40, 2) := by decide +kernel
theorem dX2_init_16 : decode cX2_init 16 = .ok (.newarray .int, 2) := by decide +kernel
theorem dX2_init_18 : decode cX2_init 18 = .ok (.putfield 15, 3) := by decide +kernel
theorem dX2_init_21 : decode cX2_init 21 = .ok (.aload_n 0, 1) := by decide +kernel
theorem dX2_init_22 : decode cX2_init 22 = .ok (.bipush 40, 2) := by decide +kernel
theorem dX2_init_24 : decode cX2_init 24 = .ok (.newarray .int, 2) := by decide +kernel
theorem dX2_init_26 : decode cX2_init 26 = .ok (.putfield 19, 3) := by decide +kernel
theorem dX2_init_29 : decode cX2_init 29 = .ok (.aload_n 0, 1) := by decide +kernel
theorem dX2_init_30 : decode cX2_init 30 = .ok (.bipush 40, 2) := by decide +kernel
theorem dX2_init_32 : decode cX2_init 32 = .ok (.newarray .int, 2) := by decide +kernel
theorem dX2_init_34 : decode cX2_init 34 = .ok (.putfield 22, 3) := by decide +kernel
theorem dX2_init_37 : decode cX2_init 37 = .ok (.aload_n 0, 1) := by decide +kernel
theorem dX2_init_38 : decode cX2_init 38 = .ok (.bipush 40, 2) := by decide +kernel
theorem dX2_init_40 : decode cX2_init 40 = .ok (.newarray .int, 2) := by decide +kernel
theorem dX2_init_42 : decode cX2_init 42 = .ok (.putfield 25, 3) := by decide +kernel
theorem dX2_init_45 : decode cX2_init 45 = .ok (.aload_n 0, 1) := by decide +kernel
theorem dX2_init_46 : decode cX2_init 46 = .ok (.bipush 40, 2) := by decide +kernel
theorem dX2_init_48 : decode cX2_init 48 = .ok (.newarray .int, 2) := by decide +kernel
theorem dX2_init_50 : decode cX2_init 50 = .ok (.putfield 28, 3) := by decide +kernel
theorem dX2_init_53 : decode cX2_init 53 = .ok (.aload_n 0, 1) := by decide +kernel
theorem dX2_init_54 : decode cX2_init 54 = .ok (.bipush 40, 2) := by decide +kernel
theorem dX2_init_56 : decode cX2_init 56 = .ok (.newarray .int, 2) := by decide +kernel
theorem dX2_init_58 : decode cX2_init 58 = .ok (.putfield 31, 3) := by decide +kernel
theorem dX2_init_61 : decode cX2_init 61 = .ok (.aload_n 0, 1) := by decide +kernel
theorem dX2_init_62 : decode cX2_init 62 = .ok (.bipush 40, 2) := by decide +kernel
theorem dX2_init_64 : decode cX2_init 64 = .ok (.newarray .int, 2) := by decide +kernel
theorem dX2_init_66 : decode cX2_init 66 = .ok (.putfield 34, 3) := by decide +kernel
theorem dX2_init_69 : decode cX2_init 69 = .ok (.aload_n 0, 1) := by decide +kernel
theorem dX2_init_70 : decode cX2_init 70 = .ok (.bipush 40, 2) := by decide +kernel
theorem dX2_init_72 : decode cX2_init 72 = .ok (.newarray .int, 2) := by decide +kernel
theorem dX2_init_74 : decode cX2_init 74 = .ok (.putfield 37, 3) := by decide +kernel
theorem dX2_init_77 : decode cX2_init 77 = .ok (.aload_n 0, 1) := by decide +kernel
theorem dX2_init_78 : decode cX2_init 78 = .ok (.bipush 40, 2) := by decide +kernel
theorem dX2_init_80 : decode cX2_init 80 = .ok (.newarray .int, 2) := by decide +kernel
theorem dX2_init_82 : decode cX2_init 82 = .ok (.putfield 40, 3) := by decide +kernel
theorem dX2_init_85 : decode cX2_init 85 = .ok (.aload_n 0, 1) := by decide +kernel
theorem tw_92 : Cond.classLink RX2 43 RX9 ∈ wsL_law := List.mem_of_getElem? (i := 92) (by decide +kernel)
theorem tw_93 : Cond.instantiable RX9 3 ∈ wsL_law := List.mem_of_getElem? (i := 93) (by decide +kernel)
theorem dX2_init_86 : decode cX2_init 86 = .ok (.new 43, 3) := by decide +kernel
theorem dX2_init_89 : decode cX2_init 89 = .ok (.dup, 1) := by decide +kernel
theorem tw_102 : Cond.code yX9_init cX9_init 1 none ∈ wsL_law := List.mem_of_getElem? (i := 102) (by decide +kernel)
theorem dX2_init_90 : decode cX2_init 90 = .ok (.invokespecial 45, 3) := by decide +kernel
theorem dX2_init_93 : decode cX2_init 93 = .ok (.putfield 46, 3) := by decide +kernel
theorem dX2_init_96 : decode cX2_init 96 = .ok (.aload_n 0, 1) := by decide +kernel
theorem dX2_init_97 : decode cX2_init 97 = .ok (.bipush 40, 2) := by decide +kernel
theorem dX2_init_99 : decode cX2_init 99 = .ok (.newarray .int, 2) := by decide +kernel
theorem dX2_init_101 : decode cX2_init 101 = .ok (.putfield 50, 3) := by decide +kernel
theorem dX2_init_104 : decode cX2_init 104 = .ok (.aload_n 0, 1) := by decide +kernel
theorem dX2_init_105 : decode cX2_init 105 = .ok (.iconst 5, 1) := by decide +kernel
theorem dX2_init_106 : decode cX2_init 106 = .ok (.newarray .int, 2) := by decide +kernel
theorem dX2_init_108 : decode cX2_init 108 = .ok (.putfield 53, 3) := by decide +kernel
theorem dX2_init_111 : decode cX2_init 111 = .ok (.aload_n 0, 1) := by decide +kernel
theorem dX2_init_112 : decode cX2_init 112 = .ok (.bipush 40, 2) := by decide +kernel
theorem dX2_init_114 : decode cX2_init 114 = .ok (.newarray .int, 2) := by decide +kernel
theorem tw_98 : Cond.fieldLink RX2 56 "RingsUnder$Land" "leaves" "[I" ∈ wsL_law := List.mem_of_getElem? (i := 98) (by decide +kernel)
theorem dX2_init_116 : decode cX2_init 116 = .ok (.putfield 56, 3) := by decide +kernel
theorem dX2_init_119 : decode cX2_init 119 = .ok (.aload_n 0, 1) := by decide +kernel
theorem dX2_init_120 : decode cX2_init 120 = .ok (.bipush 32, 2) := by decide +kernel
theorem dX2_init_122 : decode cX2_init 122 = .ok (.newarray .int, 2) := by decide +kernel
theorem dX2_init_124 : decode cX2_init 124 = .ok (.putfield 59, 3) := by decide +kernel
theorem dX2_init_127 : decode cX2_init 127 = .ok (.aload_n 0, 1) := by decide +kernel
theorem dX2_init_128 : decode cX2_init 128 = .ok (.bipush 21, 2) := by decide +kernel
theorem dX2_init_130 : decode cX2_init 130 = .ok (.newarray .int, 2) := by decide +kernel
theorem dX2_init_132 : decode cX2_init 132 = .ok (.putfield 62, 3) := by decide +kernel
theorem dX2_init_135 : decode cX2_init 135 = .ok (.aload_n 0, 1) := by decide +kernel
theorem dX2_init_136 : decode cX2_init 136 = .ok (.getfield 50, 3) := by decide +kernel
theorem dX2_init_139 : decode cX2_init 139 = .ok (.iconst (-1), 1) := by decide +kernel
theorem dX2_init_140 : decode cX2_init 140 = .ok (.invokestatic 65, 3) := by decide +kernel
theorem dX2_init_143 : decode cX2_init 143 = .ok (.aload_n 0, 1) := by decide +kernel
theorem dX2_init_144 : decode cX2_init 144 = .ok (.getfield 53, 3) := by decide +kernel
theorem dX2_init_147 : decode cX2_init 147 = .ok (.iconst (-1), 1) := by decide +kernel
theorem dX2_init_148 : decode cX2_init 148 = .ok (.invokestatic 65, 3) := by decide +kernel
theorem dX2_init_151 : decode cX2_init 151 = .ok (.return_, 1) := by decide +kernel
theorem dX7_init_0 : decode cX7_init 0 = .ok (.aload_n 0, 1) := by decide +kernel
theorem tw_60 : Cond.methodLink RX7 3 objectInit ∈ wsL_law := List.mem_of_getElem? (i := 60) (by decide +kernel)
theorem dX7_init_1 : decode cX7_init 1 = .ok (.invokespecial 3, 3) := by decide +kernel
theorem dX7_init_4 : decode cX7_init 4 = .ok (.aload_n 0, 1) := by decide +kernel
theorem dX7_init_5 : decode cX7_init 5 = .ok (.sipush 200, 3) := by decide +kernel
theorem dX7_init_8 : decode cX7_init 8 = .ok (.newarray .int, 2) := by decide +kernel
theorem dX7_init_10 : decode cX7_init 10 = .ok (.putfield 9, 3) := by decide +kernel
theorem dX7_init_13 : decode cX7_init 13 = .ok (.aload_n 0, 1) := by decide +kernel
theorem dX7_init_14 : decode cX7_init 14 = .ok (.sipush 200, 3) := by decide +kernel
theorem dX7_init_17 : decode cX7_init 17 = .ok (.newarray .int, 2) := by decide +kernel
theorem dX7_init_19 : decode cX7_init 19 = .ok (.putfield 15, 3) := by decide +kernel
theorem dX7_init_22 : decode cX7_init 22 = .ok (.aload_n 0, 1) := by decide +kernel
theorem dX7_init_23 : decode cX7_init 23 = .ok (.sipush 200, 3) := by decide +kernel
theorem dX7_init_26 : decode cX7_init 26 = .ok (.newarray .int, 2) := by decide +kernel
theorem dX7_init_28 : decode cX7_init 28 = .ok (.putfield 18, 3) := by decide +kernel
theorem dX7_init_31 : decode cX7_init 31 = .ok (.aload_n 0, 1) := by decide +kernel
theorem dX7_init_32 : decode cX7_init 32 = .ok (.sipush 200, 3) := by decide +kernel
theorem dX7_init_35 : decode cX7_init 35 = .ok (.newarray .int, 2) := by decide +kernel
theorem dX7_init_37 : decode cX7_init 37 = .ok (.putfield 21, 3) := by decide +kernel
theorem dX7_init_40 : decode cX7_init 40 = .ok (.aload_n 0, 1) := by decide +kernel
theorem dX7_init_41 : decode cX7_init 41 = .ok (.bipush 12, 2) := by decide +kernel
theorem dX7_init_43 : decode cX7_init 43 = .ok (.newarray .int, 2) := by decide +kernel
theorem dX7_init_45 : decode cX7_init 45 = .ok (.putfield 24, 3) := by decide +kernel
theorem dX7_init_48 : decode cX7_init 48 = .ok (.aload_n 0, 1) := by decide +kernel
theorem dX7_init_49 : decode cX7_init 49 = .ok (.bipush 12, 2) := by decide +kernel
theorem dX7_init_51 : decode cX7_init 51 = .ok (.newarray .int, 2) := by decide +kernel
theorem dX7_init_53 : decode cX7_init 53 = .ok (.putfield 27, 3) := by decide +kernel
theorem dX7_init_56 : decode cX7_init 56 = .ok (.aload_n 0, 1) := by decide +kernel
theorem dX7_init_57 : decode cX7_init 57 = .ok (.bipush 12, 2) := by decide +kernel
theorem dX7_init_59 : decode cX7_init 59 = .ok (.newarray .int, 2) := by decide +kernel
theorem dX7_init_61 : decode cX7_init 61 = .ok (.putfield 30, 3) := by decide +kernel
theorem dX7_init_64 : decode cX7_init 64 = .ok (.aload_n 0, 1) := by decide +kernel
theorem dX7_init_65 : decode cX7_init 65 = .ok (.bipush 12, 2) := by decide +kernel
theorem dX7_init_67 : decode cX7_init 67 = .ok (.newarray .int, 2) := by decide +kernel
theorem dX7_init_69 : decode cX7_init 69 = .ok (.putfield 33, 3) := by decide +kernel
theorem dX7_init_72 : decode cX7_init 72 = .ok (.aload_n 0, 1) := by decide +kernel
theorem dX7_init_73 : decode cX7_init 73 = .ok (.bipush 12, 2) := by decide +kernel
theorem dX7_init_75 : decode cX7_init 75 = .ok (.newarray .int, 2) := by decide +kernel
theorem dX7_init_77 : decode cX7_init 77 = .ok (.putfield 36, 3) := by decide +kernel
theorem dX7_init_80 : decode cX7_init 80 = .ok (.aload_n 0, 1) := by decide +kernel
theorem dX7_init_81 : decode cX7_init 81 = .ok (.bipush 29, 2) := by decide +kernel
theorem dX7_init_83 : decode cX7_init 83 = .ok (.putfield 39, 3) := by decide +kernel
theorem dX7_init_86 : decode cX7_init 86 = .ok (.aload_n 0, 1) := by decide +kernel
theorem dX7_init_87 : decode cX7_init 87 = .ok (.iconst 1, 1) := by decide +kernel
theorem dX7_init_88 : decode cX7_init 88 = .ok (.putfield 43, 3) := by decide +kernel
theorem dX7_init_91 : decode cX7_init 91 = .ok (.aload_n 0, 1) := by decide +kernel
theorem dX7_init_92 : decode cX7_init 92 = .ok (.bipush 10, 2) := by decide +kernel
theorem dX7_init_94 : decode cX7_init 94 = .ok (.putfield 46, 3) := by decide +kernel
theorem dX7_init_97 : decode cX7_init 97 = .ok (.aload_n 0, 1) := by decide +kernel
theorem dX7_init_98 : decode cX7_init 98 = .ok (.iconst 3, 1) := by decide +kernel
theorem dX7_init_99 : decode cX7_init 99 = .ok (.putfield 49, 3) := by decide +kernel
theorem dX7_init_102 : decode cX7_init 102 = .ok (.aload_n 0, 1) := by decide +kernel
theorem dX7_init_103 : decode cX7_init 103 = .ok (.iconst 5, 1) := by decide +kernel
theorem dX7_init_104 : decode cX7_init 104 = .ok (.putfield 52, 3) := by decide +kernel
theorem dX7_init_107 : decode cX7_init 107 = .ok (.aload_n 0, 1) := by decide +kernel
theorem dX7_init_108 : decode cX7_init 108 = .ok (.getfield 27, 3) := by decide +kernel
theorem dX7_init_111 : decode cX7_init 111 = .ok (.sipush 500, 3) := by decide +kernel
theorem dX7_init_114 : decode cX7_init 114 = .ok (.invokestatic 55, 3) := by decide +kernel
theorem dX7_init_117 : decode cX7_init 117 = .ok (.aload_n 0, 1) := by decide +kernel
theorem dX7_init_118 : decode cX7_init 118 = .ok (.getfield 30, 3) := by decide +kernel
theorem dX7_init_121 : decode cX7_init 121 = .ok (.bipush 25, 2) := by decide +kernel
theorem dX7_init_123 : decode cX7_init 123 = .ok (.invokestatic 55, 3) := by decide +kernel
theorem dX7_init_126 : decode cX7_init 126 = .ok (.aload_n 0, 1) := by decide +kernel
theorem dX7_init_127 : decode cX7_init 127 = .ok (.getfield 33, 3) := by decide +kernel
theorem dX7_init_130 : decode cX7_init 130 = .ok (.iconst 5, 1) := by decide +kernel
theorem dX7_init_131 : decode cX7_init 131 = .ok (.invokestatic 55, 3) := by decide +kernel
theorem dX7_init_134 : decode cX7_init 134 = .ok (.aload_n 0, 1) := by decide +kernel
theorem dX7_init_135 : decode cX7_init 135 = .ok (.getfield 36, 3) := by decide +kernel
theorem dX7_init_138 : decode cX7_init 138 = .ok (.bipush 20, 2) := by decide +kernel
theorem dX7_init_140 : decode cX7_init 140 = .ok (.invokestatic 55, 3) := by decide +kernel
theorem dX7_init_143 : decode cX7_init 143 = .ok (.return_, 1) := by decide +kernel
set_option maxHeartbeats 8000000 in
set_option maxRecDepth 100000 in
theorem c_X2_init (l : Launch) (D : va_G) (t : pq_T) (σ : pq_S) (I : Nat → Nat → Int32) (J : Nat → Nat → Int64) (ri : Nat → Nat → Int32) (rj : Nat → Nat → Int64) (rq : Nat → Nat → Option Nat) (sz : Nat) (this : Nat) (hL_this : this ∈ σ.1) (hK_this : σ.2.1 this = 2) (hZ : pq_Z I) (hq0 : rq = fun _ _ => none) : MetV l yX2_init (wa yX2_init cX2_init 1 none) ({ frames := 2, cells := 19, slots := 1221, locals := 40 }) [.ref this] D t σ (I, J, ri, rj, rq) sz 19 1221 (fun (u : pq_S × pq_M) => ∃ (σ' : pq_S) (I' : Nat → Nat → Int32) (J' : Nat → Nat → Int64) (ri' : Nat → Nat → Int32) (rj' : Nat → Nat → Int64) (rq' : Nat → Nat → Option Nat), u = (σ', I', J', ri', rj', rq') ∧ Et this σ σ' I I' ∧ okLand σ' I' this ∧ pq_Z I' ∧ rq' = fun _ _ => none) := by
  refine Met.ofW (cc := cX2_init) (maxL := 1) (ret := none) (by decide) rfl ?_
  intro p e s m args below meth c s₁ B hml hv
  obtain ⟨rfl, hsz, hP, hK, hD0, hN⟩ := hv
  have hx := B.exec
  have hb := B.bytes
  have hr := B.returns
  have hts := atoms_spec (ws := (wa yX2_init cX2_init 1 none)) B.pre
  have hown : s.vm.findClass RX2 = some m.cls := findClass_of_methodNamed B.named
  have hlocks := B.notSynchronized
  have hin : meth.name = "<init>" := (name_of_methodNamed B.named B.method).1
  subst hsz
  have hD : va_D (pq_B t σ (I, J, ri, rj, rq) s.heap.size) (pq_P t σ (I, J, ri, rj, rq)) := hD0.self
  generalize hAe : pq_B t σ (I, J, ri, rj, rq) s.heap.size = A at hD ⊢
  have hA : ∀ q : Nat, s.heap.size ≤ q → A q := fun q h => by rw [← hAe]; exact Or.inr h
  have hS : va_S A s.heap s.heap [] := va_S.rf
  have hl := lv_entry ([.ref this]) (n := 1) (Nat.le_of_ble_eq_true rfl)
  rw [lg_entry_eq]
  generalize (lg_sl ([.ref this]) ++ List.replicate (1 - (lg_sl ([.ref this])).length) Slot.unset).toArray = ls at hl ⊢
  have hl : lv_has ls 1 [(0, .ref this)] := hl
  refine lv_aload_n hx hb dX2_init_0 rfl (lv_at hl 0 rfl) ?_
  refine W.objInit hx hb hown (hts _ (tw_c tw_80)) (hts _ (tw_c tw_11)) (hts _ (tw_c tw_12)) rfl (by rw [hml]; exact hl.1) rfl dX2_init_1 (Nat.le_of_ble_eq_true rfl) (Nat.le_of_ble_eq_true rfl) ?_
  refine W.eq (g2 := F0 m 4 ls []) rfl ?_
  refine lv_aload_n hx hb dX2_init_4 rfl (lv_at hl 0 rfl) ?_
  refine lv_sipush (v := 600) hx hb dX2_init_5 (by decide) ?_
  refine nw_l (N' := 600) hx hb (hts _ (tw_c tw_81)) hK hP hD hS hA (by decide) (by decide) (Nat.le_of_ble_eq_true rfl) (Nat.le_of_ble_eq_true rfl) (Nat.le_of_ble_eq_true rfl) dX2_init_8 (fun q_1 r_3 H hq_2 er_3 hP hD hS => ?_)
  refine pr_F (q := q_1) (C := RX2) (T := TX2) (N := 20) hx hb hts (tw_i inlX2) tyX2 tyX2_ok nmX2 hown hK hP hD hS (As_in hL_this) (As_kk hq_2 hL_this hK_this) (by decide) rfl 4 68 (by decide) (hts _ (tw_c tw_82)) rfl hin rfl (tyX2_ok 4 (by decide)) rfl rfl (Nat.le_of_ble_eq_true rfl) (pr_68 _ _ _ _ _) dX2_init_10 (fun σ_4 H locs hp_5 hP hD hS => ?_)
  have hs_6 := As_of hq_2 hp_5
  have hz_7 := As_es (I := I) hs_6
  have hE := Et_es Et_rf hz_7
  have hA_68 := As_ok hs_6 hL_this
  have hK_this := Es_k hz_7 hL_this hK_this
  have hL_this := Es_at hz_7 hL_this
  refine lv_aload_n hx hb dX2_init_13 rfl (lv_at hl 0 rfl) ?_
  refine lv_bipush (v := 40) hx hb dX2_init_14 (by decide) ?_
  refine nw_i (N' := 40) hx hb (hts _ (tw_c tw_33)) hK hP hD hS hA (by decide) (by decide) (Nat.le_of_ble_eq_true rfl) (Nat.le_of_ble_eq_true rfl) (Nat.le_of_ble_eq_true rfl) dX2_init_16 (fun q_8 r_10 H hq_9 er_10 hP hD hS => ?_)
  refine pr_F (q := q_8) (C := RX2) (T := TX2) (N := 20) hx hb hts (tw_i inlX2) tyX2 tyX2_ok nmX2 hown hK hP hD hS (As_in hL_this) (As_kk hq_9 hL_this hK_this) (by decide) rfl 5 69 (by decide) (hts _ (tw_c tw_83)) rfl hin rfl (tyX2_ok 5 (by decide)) rfl rfl (Nat.le_of_ble_eq_true rfl) (pr_69 _ _ _ _ _) dX2_init_18 (fun σ_11 H locs hp_12 hP hD hS => ?_)
  have hs_13 := As_of hq_9 hp_12
  have hz_14 := As_es (I := I) hs_13
  have hE := Et_es hE hz_14
  have hA_68 := okA_es hz_14 (by decide) hA_68
  have hA_69 := As_ok hs_13 hL_this
  have hK_this := Es_k hz_14 hL_this hK_this
  have hL_this := Es_at hz_14 hL_this
  refine lv_aload_n hx hb dX2_init_21 rfl (lv_at hl 0 rfl) ?_
  refine lv_bipush (v := 40) hx hb dX2_init_22 (by decide) ?_
  refine nw_i (N' := 40) hx hb (hts _ (tw_c tw_33)) hK hP hD hS hA (by decide) (by decide) (Nat.le_of_ble_eq_true rfl) (Nat.le_of_ble_eq_true rfl) (Nat.le_of_ble_eq_true rfl) dX2_init_24 (fun q_15 r_17 H hq_16 er_17 hP hD hS => ?_)
  refine pr_F (q := q_15) (C := RX2) (T := TX2) (N := 20) hx hb hts (tw_i inlX2) tyX2 tyX2_ok nmX2 hown hK hP hD hS (As_in hL_this) (As_kk hq_16 hL_this hK_this) (by decide) rfl 6 70 (by decide) (hts _ (tw_c tw_84)) rfl hin rfl (tyX2_ok 6 (by decide)) rfl rfl (Nat.le_of_ble_eq_true rfl) (pr_70 _ _ _ _ _) dX2_init_26 (fun σ_18 H locs hp_19 hP hD hS => ?_)
  have hs_20 := As_of hq_16 hp_19
  have hz_21 := As_es (I := I) hs_20
  have hE := Et_es hE hz_21
  have hA_68 := okA_es hz_21 (by decide) hA_68
  have hA_69 := okA_es hz_21 (by decide) hA_69
  have hA_70 := As_ok hs_20 hL_this
  have hK_this := Es_k hz_21 hL_this hK_this
  have hL_this := Es_at hz_21 hL_this
  refine lv_aload_n hx hb dX2_init_29 rfl (lv_at hl 0 rfl) ?_
  refine lv_bipush (v := 40) hx hb dX2_init_30 (by decide) ?_
  refine nw_i (N' := 40) hx hb (hts _ (tw_c tw_33)) hK hP hD hS hA (by decide) (by decide) (Nat.le_of_ble_eq_true rfl) (Nat.le_of_ble_eq_true rfl) (Nat.le_of_ble_eq_true rfl) dX2_init_32 (fun q_22 r_24 H hq_23 er_24 hP hD hS => ?_)
  refine pr_F (q := q_22) (C := RX2) (T := TX2) (N := 20) hx hb hts (tw_i inlX2) tyX2 tyX2_ok nmX2 hown hK hP hD hS (As_in hL_this) (As_kk hq_23 hL_this hK_this) (by decide) rfl 7 71 (by decide) (hts _ (tw_c tw_85)) rfl hin rfl (tyX2_ok 7 (by decide)) rfl rfl (Nat.le_of_ble_eq_true rfl) (pr_71 _ _ _ _ _) dX2_init_34 (fun σ_25 H locs hp_26 hP hD hS => ?_)
  have hs_27 := As_of hq_23 hp_26
  have hz_28 := As_es (I := I) hs_27
  have hE := Et_es hE hz_28
  have hA_68 := okA_es hz_28 (by decide) hA_68
  have hA_69 := okA_es hz_28 (by decide) hA_69
  have hA_70 := okA_es hz_28 (by decide) hA_70
  have hA_71 := As_ok hs_27 hL_this
  have hK_this := Es_k hz_28 hL_this hK_this
  have hL_this := Es_at hz_28 hL_this
  refine lv_aload_n hx hb dX2_init_37 rfl (lv_at hl 0 rfl) ?_
  refine lv_bipush (v := 40) hx hb dX2_init_38 (by decide) ?_
  refine nw_i (N' := 40) hx hb (hts _ (tw_c tw_33)) hK hP hD hS hA (by decide) (by decide) (Nat.le_of_ble_eq_true rfl) (Nat.le_of_ble_eq_true rfl) (Nat.le_of_ble_eq_true rfl) dX2_init_40 (fun q_29 r_31 H hq_30 er_31 hP hD hS => ?_)
  refine pr_F (q := q_29) (C := RX2) (T := TX2) (N := 20) hx hb hts (tw_i inlX2) tyX2 tyX2_ok nmX2 hown hK hP hD hS (As_in hL_this) (As_kk hq_30 hL_this hK_this) (by decide) rfl 8 72 (by decide) (hts _ (tw_c tw_86)) rfl hin rfl (tyX2_ok 8 (by decide)) rfl rfl (Nat.le_of_ble_eq_true rfl) (pr_72 _ _ _ _ _) dX2_init_42 (fun σ_32 H locs hp_33 hP hD hS => ?_)
  have hs_34 := As_of hq_30 hp_33
  have hz_35 := As_es (I := I) hs_34
  have hE := Et_es hE hz_35
  have hA_68 := okA_es hz_35 (by decide) hA_68
  have hA_69 := okA_es hz_35 (by decide) hA_69
  have hA_70 := okA_es hz_35 (by decide) hA_70
  have hA_71 := okA_es hz_35 (by decide) hA_71
  have hA_72 := As_ok hs_34 hL_this
  have hK_this := Es_k hz_35 hL_this hK_this
  have hL_this := Es_at hz_35 hL_this
  refine lv_aload_n hx hb dX2_init_45 rfl (lv_at hl 0 rfl) ?_
  refine lv_bipush (v := 40) hx hb dX2_init_46 (by decide) ?_
  refine nw_i (N' := 40) hx hb (hts _ (tw_c tw_33)) hK hP hD hS hA (by decide) (by decide) (Nat.le_of_ble_eq_true rfl) (Nat.le_of_ble_eq_true rfl) (Nat.le_of_ble_eq_true rfl) dX2_init_48 (fun q_36 r_38 H hq_37 er_38 hP hD hS => ?_)
  refine pr_F (q := q_36) (C := RX2) (T := TX2) (N := 20) hx hb hts (tw_i inlX2) tyX2 tyX2_ok nmX2 hown hK hP hD hS (As_in hL_this) (As_kk hq_37 hL_this hK_this) (by decide) rfl 9 73 (by decide) (hts _ (tw_c tw_87)) rfl hin rfl (tyX2_ok 9 (by decide)) rfl rfl (Nat.le_of_ble_eq_true rfl) (pr_73 _ _ _ _ _) dX2_init_50 (fun σ_39 H locs hp_40 hP hD hS => ?_)
  have hs_41 := As_of hq_37 hp_40
  have hz_42 := As_es (I := I) hs_41
  have hE := Et_es hE hz_42
  have hA_68 := okA_es hz_42 (by decide) hA_68
  have hA_69 := okA_es hz_42 (by decide) hA_69
  have hA_70 := okA_es hz_42 (by decide) hA_70
  have hA_71 := okA_es hz_42 (by decide) hA_71
  have hA_72 := okA_es hz_42 (by decide) hA_72
  have hA_73 := As_ok hs_41 hL_this
  have hK_this := Es_k hz_42 hL_this hK_this
  have hL_this := Es_at hz_42 hL_this
  refine lv_aload_n hx hb dX2_init_53 rfl (lv_at hl 0 rfl) ?_
  refine lv_bipush (v := 40) hx hb dX2_init_54 (by decide) ?_
  refine nw_i (N' := 40) hx hb (hts _ (tw_c tw_33)) hK hP hD hS hA (by decide) (by decide) (Nat.le_of_ble_eq_true rfl) (Nat.le_of_ble_eq_true rfl) (Nat.le_of_ble_eq_true rfl) dX2_init_56 (fun q_43 r_45 H hq_44 er_45 hP hD hS => ?_)
  refine pr_F (q := q_43) (C := RX2) (T := TX2) (N := 20) hx hb hts (tw_i inlX2) tyX2 tyX2_ok nmX2 hown hK hP hD hS (As_in hL_this) (As_kk hq_44 hL_this hK_this) (by decide) rfl 10 74 (by decide) (hts _ (tw_c tw_88)) rfl hin rfl (tyX2_ok 10 (by decide)) rfl rfl (Nat.le_of_ble_eq_true rfl) (pr_74 _ _ _ _ _) dX2_init_58 (fun σ_46 H locs hp_47 hP hD hS => ?_)
  have hs_48 := As_of hq_44 hp_47
  have hz_49 := As_es (I := I) hs_48
  have hE := Et_es hE hz_49
  have hA_68 := okA_es hz_49 (by decide) hA_68
  have hA_69 := okA_es hz_49 (by decide) hA_69
  have hA_70 := okA_es hz_49 (by decide) hA_70
  have hA_71 := okA_es hz_49 (by decide) hA_71
  have hA_72 := okA_es hz_49 (by decide) hA_72
  have hA_73 := okA_es hz_49 (by decide) hA_73
  have hA_74 := As_ok hs_48 hL_this
  have hK_this := Es_k hz_49 hL_this hK_this
  have hL_this := Es_at hz_49 hL_this
  refine lv_aload_n hx hb dX2_init_61 rfl (lv_at hl 0 rfl) ?_
  refine lv_bipush (v := 40) hx hb dX2_init_62 (by decide) ?_
  refine nw_i (N' := 40) hx hb (hts _ (tw_c tw_33)) hK hP hD hS hA (by decide) (by decide) (Nat.le_of_ble_eq_true rfl) (Nat.le_of_ble_eq_true rfl) (Nat.le_of_ble_eq_true rfl) dX2_init_64 (fun q_50 r_52 H hq_51 er_52 hP hD hS => ?_)
  refine pr_F (q := q_50) (C := RX2) (T := TX2) (N := 20) hx hb hts (tw_i inlX2) tyX2 tyX2_ok nmX2 hown hK hP hD hS (As_in hL_this) (As_kk hq_51 hL_this hK_this) (by decide) rfl 11 75 (by decide) (hts _ (tw_c tw_89)) rfl hin rfl (tyX2_ok 11 (by decide)) rfl rfl (Nat.le_of_ble_eq_true rfl) (pr_75 _ _ _ _ _) dX2_init_66 (fun σ_53 H locs hp_54 hP hD hS => ?_)
  have hs_55 := As_of hq_51 hp_54
  have hz_56 := As_es (I := I) hs_55
  have hE := Et_es hE hz_56
  have hA_68 := okA_es hz_56 (by decide) hA_68
  have hA_69 := okA_es hz_56 (by decide) hA_69
  have hA_70 := okA_es hz_56 (by decide) hA_70
  have hA_71 := okA_es hz_56 (by decide) hA_71
  have hA_72 := okA_es hz_56 (by decide) hA_72
  have hA_73 := okA_es hz_56 (by decide) hA_73
  have hA_74 := okA_es hz_56 (by decide) hA_74
  have hA_75 := As_ok hs_55 hL_this
  have hK_this := Es_k hz_56 hL_this hK_this
  have hL_this := Es_at hz_56 hL_this
  refine lv_aload_n hx hb dX2_init_69 rfl (lv_at hl 0 rfl) ?_
  refine lv_bipush (v := 40) hx hb dX2_init_70 (by decide) ?_
  refine nw_i (N' := 40) hx hb (hts _ (tw_c tw_33)) hK hP hD hS hA (by decide) (by decide) (Nat.le_of_ble_eq_true rfl) (Nat.le_of_ble_eq_true rfl) (Nat.le_of_ble_eq_true rfl) dX2_init_72 (fun q_57 r_59 H hq_58 er_59 hP hD hS => ?_)
  refine pr_F (q := q_57) (C := RX2) (T := TX2) (N := 20) hx hb hts (tw_i inlX2) tyX2 tyX2_ok nmX2 hown hK hP hD hS (As_in hL_this) (As_kk hq_58 hL_this hK_this) (by decide) rfl 12 76 (by decide) (hts _ (tw_c tw_90)) rfl hin rfl (tyX2_ok 12 (by decide)) rfl rfl (Nat.le_of_ble_eq_true rfl) (pr_76 _ _ _ _ _) dX2_init_74 (fun σ_60 H locs hp_61 hP hD hS => ?_)
  have hs_62 := As_of hq_58 hp_61
  have hz_63 := As_es (I := I) hs_62
  have hE := Et_es hE hz_63
  have hA_68 := okA_es hz_63 (by decide) hA_68
  have hA_69 := okA_es hz_63 (by decide) hA_69
  have hA_70 := okA_es hz_63 (by decide) hA_70
  have hA_71 := okA_es hz_63 (by decide) hA_71
  have hA_72 := okA_es hz_63 (by decide) hA_72
  have hA_73 := okA_es hz_63 (by decide) hA_73
  have hA_74 := okA_es hz_63 (by decide) hA_74
  have hA_75 := okA_es hz_63 (by decide) hA_75
  have hA_76 := As_ok hs_62 hL_this
  have hK_this := Es_k hz_63 hL_this hK_this
  have hL_this := Es_at hz_63 hL_this
  refine lv_aload_n hx hb dX2_init_77 rfl (lv_at hl 0 rfl) ?_
  refine lv_bipush (v := 40) hx hb dX2_init_78 (by decide) ?_
  refine nw_i (N' := 40) hx hb (hts _ (tw_c tw_33)) hK hP hD hS hA (by decide) (by decide) (Nat.le_of_ble_eq_true rfl) (Nat.le_of_ble_eq_true rfl) (Nat.le_of_ble_eq_true rfl) dX2_init_80 (fun q_64 r_66 H hq_65 er_66 hP hD hS => ?_)
  refine pr_F (q := q_64) (C := RX2) (T := TX2) (N := 20) hx hb hts (tw_i inlX2) tyX2 tyX2_ok nmX2 hown hK hP hD hS (As_in hL_this) (As_kk hq_65 hL_this hK_this) (by decide) rfl 13 77 (by decide) (hts _ (tw_c tw_91)) rfl hin rfl (tyX2_ok 13 (by decide)) rfl rfl (Nat.le_of_ble_eq_true rfl) (pr_77 _ _ _ _ _) dX2_init_82 (fun σ_67 H locs hp_68 hP hD hS => ?_)
  have hs_69 := As_of hq_65 hp_68
  have hz_70 := As_es (I := I) hs_69
  have hE := Et_es hE hz_70
  have hA_68 := okA_es hz_70 (by decide) hA_68
  have hA_69 := okA_es hz_70 (by decide) hA_69
  have hA_70 := okA_es hz_70 (by decide) hA_70
  have hA_71 := okA_es hz_70 (by decide) hA_71
  have hA_72 := okA_es hz_70 (by decide) hA_72
  have hA_73 := okA_es hz_70 (by decide) hA_73
  have hA_74 := okA_es hz_70 (by decide) hA_74
  have hA_75 := okA_es hz_70 (by decide) hA_75
  have hA_76 := okA_es hz_70 (by decide) hA_76
  have hA_77 := As_ok hs_69 hL_this
  have hK_this := Es_k hz_70 hL_this hK_this
  have hL_this := Es_at hz_70 hL_this
  refine lv_aload_n hx hb dX2_init_85 rfl (lv_at hl 0 rfl) ?_
  refine nw_o (C := RX9) (T := TX9) (N := 3) hx hb hts (tw_i inlX9) tyX9 tyX9_ok hown (hts _ (tw_c tw_92)) (hts _ (tw_c tw_93)) (hts _ (tw_c tw_94)) hK hP hD hS hA (by decide) rfl nf_9 (Nat.le_of_ble_eq_true rfl) (Nat.le_of_ble_eq_true rfl) dX2_init_86 (fun q_71 σ_72 I_73 J_74 H locs hn_75 hP hD hS => ?_)
  refine lv_dup hx hb dX2_init_89 rfl ?_
  refine pk_v (va_runIN (As := []) (rest := [.ref q_71, .ref this]) ⟨hx, hb, hml, hown, hts⟩ (c_X9_init l D t σ_72 I_73 J_74 r_66 r_3 rq H.size q_71 (Ns_in hn_75) (Ns_k hn_75) (Ns_Z hn_75 hZ) hq0) ⟨va_cnB (host := "RingsUnder") 0 hts (tw_W tw_102) rfl rfl rfl (nl_1 hN) (hts _ (tw_c tw_94)) (by decide +kernel) ⟨Nat.le_of_ble_eq_true rfl, Nat.le_of_ble_eq_true rfl⟩, rfl, hts (.instanceMethod yX9_init) (by decide +kernel)⟩ ⟨pq_blind, pq_pre hK hN hP hD⟩ rfl rfl hl.1 rfl (lv_room (Nat.le_of_ble_eq_true rfl)) dX2_init_90 ⟨Nat.le_of_ble_eq_true rfl, Nat.le_of_ble_eq_true rfl⟩) hD hS hA (fun σ1 μ1 H locs hw_77 hP hD hS => ?_)
  obtain ⟨σ_78, I_79, J_80, ri_81, rj_82, rq_83, hu_84, hE2_85, hOK_86, hZ, hqq_87⟩ := hw_77
  obtain ⟨hu_84a, hu_84b⟩ := Prod.mk.inj hu_84
  rw [hu_84a, hu_84b] at hP hD
  refine pr_F (q := q_71) (C := RX2) (T := TX2) (N := 20) hx hb hts (tw_i inlX2) tyX2 tyX2_ok nmX2 hown hK hP hD hS (hE2_85 this (Ns_at hn_75 hL_this)).1 (Et_k hE2_85 (Ns_at hn_75 hL_this) (Ns_kk hn_75 hL_this hK_this)) (by decide) rfl 14 78 (by decide) (hts _ (tw_c tw_95)) rfl hin rfl (tyX2_ok 14 (by decide)) rfl rfl (Nat.le_of_ble_eq_true rfl) (pr_78 _ _ _ _ _) dX2_init_93 (fun σ_88 H locs hp_89 hP hD hS => ?_)
  have hz_90 := Os_es hn_75 hE2_85 hp_89
  have hE := Et_es hE hz_90
  have hA_68 := okA_es hz_90 (by decide) hA_68
  have hA_69 := okA_es hz_90 (by decide) hA_69
  have hA_70 := okA_es hz_90 (by decide) hA_70
  have hA_71 := okA_es hz_90 (by decide) hA_71
  have hA_72 := okA_es hz_90 (by decide) hA_72
  have hA_73 := okA_es hz_90 (by decide) hA_73
  have hA_74 := okA_es hz_90 (by decide) hA_74
  have hA_75 := okA_es hz_90 (by decide) hA_75
  have hA_76 := okA_es hz_90 (by decide) hA_76
  have hA_77 := okA_es hz_90 (by decide) hA_77
  have hO_78 := Os_ok hn_75 hE2_85 hp_89 hL_this hOK_86 (fun h => okWells_es (Ps_es hp_89) (by decide) h)
  have hK_this := Es_k hz_90 hL_this hK_this
  have hL_this := Es_at hz_90 hL_this
  refine lv_aload_n hx hb dX2_init_96 rfl (lv_at hl 0 rfl) ?_
  refine lv_bipush (v := 40) hx hb dX2_init_97 (by decide) ?_
  refine nw_i (N' := 40) hx hb (hts _ (tw_c tw_33)) hK hP hD hS hA (by decide) (by decide) (Nat.le_of_ble_eq_true rfl) (Nat.le_of_ble_eq_true rfl) (Nat.le_of_ble_eq_true rfl) dX2_init_99 (fun q_91 r_93 H hq_92 er_93 hP hD hS => ?_)
  refine pr_F (q := q_91) (C := RX2) (T := TX2) (N := 20) hx hb hts (tw_i inlX2) tyX2 tyX2_ok nmX2 hown hK hP hD hS (As_in hL_this) (As_kk hq_92 hL_this hK_this) (by decide) rfl 15 79 (by decide) (hts _ (tw_c tw_96)) rfl hin rfl (tyX2_ok 15 (by decide)) rfl rfl (Nat.le_of_ble_eq_true rfl) (pr_79 _ _ _ _ _) dX2_init_101 (fun σ_94 H locs hp_95 hP hD hS => ?_)
  have hs_96 := As_of hq_92 hp_95
  have hz_97 := As_es (I := I_79) hs_96
  have hE := Et_es hE hz_97
  have hA_68 := okA_es hz_97 (by decide) hA_68
  have hA_69 := okA_es hz_97 (by decide) hA_69
  have hA_70 := okA_es hz_97 (by decide) hA_70
  have hA_71 := okA_es hz_97 (by decide) hA_71
  have hA_72 := okA_es hz_97 (by decide) hA_72
  have hA_73 := okA_es hz_97 (by decide) hA_73
  have hA_74 := okA_es hz_97 (by decide) hA_74
  have hA_75 := okA_es hz_97 (by decide) hA_75
  have hA_76 := okA_es hz_97 (by decide) hA_76
  have hA_77 := okA_es hz_97 (by decide) hA_77
  have hO_78 := okO_es hz_97 (by decide) (fun q h => okWells_es hz_97 (by decide) h) hO_78
  have hA_79 := As_ok hs_96 hL_this
  have hK_this := Es_k hz_97 hL_this hK_this
  have hL_this := Es_at hz_97 hL_this
  refine lv_aload_n hx hb dX2_init_104 rfl (lv_at hl 0 rfl) ?_
  refine lv_iconst (v := 5) hx hb dX2_init_105 (by decide) ?_
  refine nw_i (N' := 5) hx hb (hts _ (tw_c tw_33)) hK hP hD hS hA (by decide) (by decide) (Nat.le_of_ble_eq_true rfl) (Nat.le_of_ble_eq_true rfl) (Nat.le_of_ble_eq_true rfl) dX2_init_106 (fun q_98 r_100 H hq_99 er_100 hP hD hS => ?_)
  refine pr_F (q := q_98) (C := RX2) (T := TX2) (N := 20) hx hb hts (tw_i inlX2) tyX2 tyX2_ok nmX2 hown hK hP hD hS (As_in hL_this) (As_kk hq_99 hL_this hK_this) (by decide) rfl 16 80 (by decide) (hts _ (tw_c tw_97)) rfl hin rfl (tyX2_ok 16 (by decide)) rfl rfl (Nat.le_of_ble_eq_true rfl) (pr_80 _ _ _ _ _) dX2_init_108 (fun σ_101 H locs hp_102 hP hD hS => ?_)
  have hs_103 := As_of hq_99 hp_102
  have hz_104 := As_es (I := I_79) hs_103
  have hE := Et_es hE hz_104
  have hA_68 := okA_es hz_104 (by decide) hA_68
  have hA_69 := okA_es hz_104 (by decide) hA_69
  have hA_70 := okA_es hz_104 (by decide) hA_70
  have hA_71 := okA_es hz_104 (by decide) hA_71
  have hA_72 := okA_es hz_104 (by decide) hA_72
  have hA_73 := okA_es hz_104 (by decide) hA_73
  have hA_74 := okA_es hz_104 (by decide) hA_74
  have hA_75 := okA_es hz_104 (by decide) hA_75
  have hA_76 := okA_es hz_104 (by decide) hA_76
  have hA_77 := okA_es hz_104 (by decide) hA_77
  have hA_79 := okA_es hz_104 (by decide) hA_79
  have hO_78 := okO_es hz_104 (by decide) (fun q h => okWells_es hz_104 (by decide) h) hO_78
  have hA_80 := As_ok hs_103 hL_this
  have hK_this := Es_k hz_104 hL_this hK_this
  have hL_this := Es_at hz_104 hL_this
  refine lv_aload_n hx hb dX2_init_111 rfl (lv_at hl 0 rfl) ?_
  refine lv_bipush (v := 40) hx hb dX2_init_112 (by decide) ?_
  refine nw_i (N' := 40) hx hb (hts _ (tw_c tw_33)) hK hP hD hS hA (by decide) (by decide) (Nat.le_of_ble_eq_true rfl) (Nat.le_of_ble_eq_true rfl) (Nat.le_of_ble_eq_true rfl) dX2_init_114 (fun q_105 r_107 H hq_106 er_107 hP hD hS => ?_)
  refine pr_F (q := q_105) (C := RX2) (T := TX2) (N := 20) hx hb hts (tw_i inlX2) tyX2 tyX2_ok nmX2 hown hK hP hD hS (As_in hL_this) (As_kk hq_106 hL_this hK_this) (by decide) rfl 17 81 (by decide) (hts _ (tw_c tw_98)) rfl hin rfl (tyX2_ok 17 (by decide)) rfl rfl (Nat.le_of_ble_eq_true rfl) (pr_81 _ _ _ _ _) dX2_init_116 (fun σ_108 H locs hp_109 hP hD hS => ?_)
  have hs_110 := As_of hq_106 hp_109
  have hz_111 := As_es (I := I_79) hs_110
  have hE := Et_es hE hz_111
  have hA_68 := okA_es hz_111 (by decide) hA_68
  have hA_69 := okA_es hz_111 (by decide) hA_69
  have hA_70 := okA_es hz_111 (by decide) hA_70
  have hA_71 := okA_es hz_111 (by decide) hA_71
  have hA_72 := okA_es hz_111 (by decide) hA_72
  have hA_73 := okA_es hz_111 (by decide) hA_73
  have hA_74 := okA_es hz_111 (by decide) hA_74
  have hA_75 := okA_es hz_111 (by decide) hA_75
  have hA_76 := okA_es hz_111 (by decide) hA_76
  have hA_77 := okA_es hz_111 (by decide) hA_77
  have hA_79 := okA_es hz_111 (by decide) hA_79
  have hA_80 := okA_es hz_111 (by decide) hA_80
  have hO_78 := okO_es hz_111 (by decide) (fun q h => okWells_es hz_111 (by decide) h) hO_78
  have hA_81 := As_ok hs_110 hL_this
  have hK_this := Es_k hz_111 hL_this hK_this
  have hL_this := Es_at hz_111 hL_this
  refine lv_aload_n hx hb dX2_init_119 rfl (lv_at hl 0 rfl) ?_
  refine lv_bipush (v := 32) hx hb dX2_init_120 (by decide) ?_
  refine nw_i (N' := 32) hx hb (hts _ (tw_c tw_33)) hK hP hD hS hA (by decide) (by decide) (Nat.le_of_ble_eq_true rfl) (Nat.le_of_ble_eq_true rfl) (Nat.le_of_ble_eq_true rfl) dX2_init_122 (fun q_112 r_114 H hq_113 er_114 hP hD hS => ?_)
  refine pr_F (q := q_112) (C := RX2) (T := TX2) (N := 20) hx hb hts (tw_i inlX2) tyX2 tyX2_ok nmX2 hown hK hP hD hS (As_in hL_this) (As_kk hq_113 hL_this hK_this) (by decide) rfl 18 82 (by decide) (hts _ (tw_c tw_99)) rfl hin rfl (tyX2_ok 18 (by decide)) rfl rfl (Nat.le_of_ble_eq_true rfl) (pr_82 _ _ _ _ _) dX2_init_124 (fun σ_115 H locs hp_116 hP hD hS => ?_)
  have hs_117 := As_of hq_113 hp_116
  have hz_118 := As_es (I := I_79) hs_117
  have hE := Et_es hE hz_118
  have hA_68 := okA_es hz_118 (by decide) hA_68
  have hA_69 := okA_es hz_118 (by decide) hA_69
  have hA_70 := okA_es hz_118 (by decide) hA_70
  have hA_71 := okA_es hz_118 (by decide) hA_71
  have hA_72 := okA_es hz_118 (by decide) hA_72
  have hA_73 := okA_es hz_118 (by decide) hA_73
  have hA_74 := okA_es hz_118 (by decide) hA_74
  have hA_75 := okA_es hz_118 (by decide) hA_75
  have hA_76 := okA_es hz_118 (by decide) hA_76
  have hA_77 := okA_es hz_118 (by decide) hA_77
  have hA_79 := okA_es hz_118 (by decide) hA_79
  have hA_80 := okA_es hz_118 (by decide) hA_80
  have hA_81 := okA_es hz_118 (by decide) hA_81
  have hO_78 := okO_es hz_118 (by decide) (fun q h => okWells_es hz_118 (by decide) h) hO_78
  have hA_82 := As_ok hs_117 hL_this
  have hK_this := Es_k hz_118 hL_this hK_this
  have hL_this := Es_at hz_118 hL_this
  refine lv_aload_n hx hb dX2_init_127 rfl (lv_at hl 0 rfl) ?_
  refine lv_bipush (v := 21) hx hb dX2_init_128 (by decide) ?_
  refine nw_i (N' := 21) hx hb (hts _ (tw_c tw_33)) hK hP hD hS hA (by decide) (by decide) (Nat.le_of_ble_eq_true rfl) (Nat.le_of_ble_eq_true rfl) (Nat.le_of_ble_eq_true rfl) dX2_init_130 (fun q_119 r_121 H hq_120 er_121 hP hD hS => ?_)
  refine pr_F (q := q_119) (C := RX2) (T := TX2) (N := 20) hx hb hts (tw_i inlX2) tyX2 tyX2_ok nmX2 hown hK hP hD hS (As_in hL_this) (As_kk hq_120 hL_this hK_this) (by decide) rfl 19 83 (by decide) (hts _ (tw_c tw_100)) rfl hin rfl (tyX2_ok 19 (by decide)) rfl rfl (Nat.le_of_ble_eq_true rfl) (pr_83 _ _ _ _ _) dX2_init_132 (fun σ_122 H locs hp_123 hP hD hS => ?_)
  have hs_124 := As_of hq_120 hp_123
  have hz_125 := As_es (I := I_79) hs_124
  have hD_82_83 := (by obtain ⟨-, qa, ra, la, -⟩ := hA_82; exact okD_mk hz_125 (by decide) hL_this ra la (by rw [hs_124.2]; exact pq_us σ_115.2.2.1 83 this (some q_119)) hq_120 : okD σ_122 82 83 this)
  have hE := Et_es hE hz_125
  have hA_68 := okA_es hz_125 (by decide) hA_68
  have hA_69 := okA_es hz_125 (by decide) hA_69
  have hA_70 := okA_es hz_125 (by decide) hA_70
  have hA_71 := okA_es hz_125 (by decide) hA_71
  have hA_72 := okA_es hz_125 (by decide) hA_72
  have hA_73 := okA_es hz_125 (by decide) hA_73
  have hA_74 := okA_es hz_125 (by decide) hA_74
  have hA_75 := okA_es hz_125 (by decide) hA_75
  have hA_76 := okA_es hz_125 (by decide) hA_76
  have hA_77 := okA_es hz_125 (by decide) hA_77
  have hA_79 := okA_es hz_125 (by decide) hA_79
  have hA_80 := okA_es hz_125 (by decide) hA_80
  have hA_81 := okA_es hz_125 (by decide) hA_81
  have hA_82 := okA_es hz_125 (by decide) hA_82
  have hO_78 := okO_es hz_125 (by decide) (fun q h => okWells_es hz_125 (by decide) h) hO_78
  have hA_83 := As_ok hs_124 hL_this
  have hK_this := Es_k hz_125 hL_this hK_this
  have hL_this := Es_at hz_125 hL_this
  refine lv_aload_n hx hb dX2_init_135 rfl (lv_at hl 0 rfl) ?_
  obtain ⟨-, w_126, hR_w_126, hL_w_126, hK_w_126, hN_w_126⟩ := id hA_79
  refine pg_f (v := .ref w_126) (C := RX2) (T := TX2) (N := 20) hx hb hts (tw_i inlX2) hown hK hP hL_this hK_this (by decide) rfl 15 (by decide) (hts _ (tw_c tw_96)) (pq_hv rfl hR_w_126) dX2_init_136 ?_
  refine lv_iconst (v := (-1)) hx hb dX2_init_139 (by decide) ?_
  refine pk_v (va_runSN (As := [.ref w_126, .int (-1)]) (rest := []) ⟨hx, hb, hml, hown, hts⟩ (c_X11_fill l D t σ_122 I_79 J_80 r_121 rj_82 rq_83 H.size w_126 (-1 : Int32) 40 hL_w_126 hK_w_126 hN_w_126 (by omega)) ⟨va_cnB (host := "RingsUnder") 2 hts (tw_W tw_76) rfl rfl rfl (nl_2 hN) (hts _ (tw_c tw_2)) (by decide +kernel) ⟨Nat.le_of_ble_eq_true rfl, Nat.le_of_ble_eq_true rfl⟩, hts (.static yX11_fill) (by decide +kernel), trivial⟩ ⟨pq_blind, pq_pre hK hN hP hD⟩ rfl rfl hl.1 rfl (lv_room (Nat.le_of_ble_eq_true rfl)) dX2_init_140 ⟨Nat.le_of_ble_eq_true rfl, Nat.le_of_ble_eq_true rfl⟩) hD hS hA (fun σ1 μ1 H locs hw_128 hP hD hS => ?_)
  obtain ⟨ri_129, hu_130, hu_130p0⟩ := hw_128
  obtain ⟨hu_130a, hu_130b⟩ := Prod.mk.inj hu_130
  rw [hu_130a, hu_130b] at hP hD
  refine lv_aload_n hx hb dX2_init_143 rfl (lv_at hl 0 rfl) ?_
  obtain ⟨-, w_132, hR_w_132, hL_w_132, hK_w_132, hN_w_132⟩ := id hA_80
  refine pg_f (v := .ref w_132) (C := RX2) (T := TX2) (N := 20) hx hb hts (tw_i inlX2) hown hK hP hL_this hK_this (by decide) rfl 16 (by decide) (hts _ (tw_c tw_97)) (pq_hv rfl hR_w_132) dX2_init_144 ?_
  refine lv_iconst (v := (-1)) hx hb dX2_init_147 (by decide) ?_
  refine pk_v (va_runSN (As := [.ref w_132, .int (-1)]) (rest := []) ⟨hx, hb, hml, hown, hts⟩ (c_X11_fill l D t σ_122 I_79 J_80 ri_129 rj_82 rq_83 H.size w_132 (-1 : Int32) 5 hL_w_132 hK_w_132 hN_w_132 (by omega)) ⟨va_cnB (host := "RingsUnder") 2 hts (tw_W tw_76) rfl rfl rfl (nl_2 hN) (hts _ (tw_c tw_2)) (by decide +kernel) ⟨Nat.le_of_ble_eq_true rfl, Nat.le_of_ble_eq_true rfl⟩, hts (.static yX11_fill) (by decide +kernel), trivial⟩ ⟨pq_blind, pq_pre hK hN hP hD⟩ rfl rfl hl.1 rfl (lv_room (Nat.le_of_ble_eq_true rfl)) dX2_init_148 ⟨Nat.le_of_ble_eq_true rfl, Nat.le_of_ble_eq_true rfl⟩) hD hS hA (fun σ1 μ1 H locs hw_134 hP hD hS => ?_)
  obtain ⟨ri_135, hu_136, hu_136p0⟩ := hw_134
  obtain ⟨hu_136a, hu_136b⟩ := Prod.mk.inj hu_136
  rw [hu_136a, hu_136b] at hP hD
  exact W.vret hx hb hr (fun t1 ht hW => ⟨⟨(σ_122, I_79, J_80, ri_135, rj_82, rq_83), rfl, ⟨σ_122, I_79, J_80, ri_135, rj_82, rq_83, rfl, hE, ⟨hA_68, hA_69, hA_70, hA_71, hA_72, hA_73, hA_74, hA_75, hA_76, hA_77, hO_78, hA_79, hA_80, hA_81, hA_82, hA_83, hD_82_83⟩, hZ, hqq_87⟩, by rw [ht]; exact hP, va_K.moved hW.alike hK, hD⟩, hS.F ht⟩) hS.2.2 dX2_init_151

set_option maxHeartbeats 8000000 in
set_option maxRecDepth 100000 in
theorem c_X7_init (l : Launch) (D : va_G) (t : pq_T) (σ : pq_S) (I : Nat → Nat → Int32) (J : Nat → Nat → Int64) (ri : Nat → Nat → Int32) (rj : Nat → Nat → Int64) (rq : Nat → Nat → Option Nat) (sz : Nat) (this : Nat) (hL_this : this ∈ σ.1) (hK_this : σ.2.1 this = 7) (hZ : pq_Z I) (hq0 : rq = fun _ _ => none) : MetV l yX7_init (wa yX7_init cX7_init 1 none) ({ frames := 1, cells := 9, slots := 860, locals := 22 }) [.ref this] D t σ (I, J, ri, rj, rq) sz 9 860 (fun (u : pq_S × pq_M) => ∃ (σ' : pq_S) (I' : Nat → Nat → Int32) (J' : Nat → Nat → Int64) (ri' : Nat → Nat → Int32) (rj' : Nat → Nat → Int64) (rq' : Nat → Nat → Option Nat), u = (σ', I', J', ri', rj', rq') ∧ Et this σ σ' I I' ∧ okSeas σ' I' this ∧ pq_Z I' ∧ rq' = fun _ _ => none) := by
  refine Met.ofW (cc := cX7_init) (maxL := 1) (ret := none) (by decide) rfl ?_
  intro p e s m args below meth c s₁ B hml hv
  obtain ⟨rfl, hsz, hP, hK, hD0, hN⟩ := hv
  have hx := B.exec
  have hb := B.bytes
  have hr := B.returns
  have hts := atoms_spec (ws := (wa yX7_init cX7_init 1 none)) B.pre
  have hown : s.vm.findClass RX7 = some m.cls := findClass_of_methodNamed B.named
  have hlocks := B.notSynchronized
  have hin : meth.name = "<init>" := (name_of_methodNamed B.named B.method).1
  subst hsz
  have hD : va_D (pq_B t σ (I, J, ri, rj, rq) s.heap.size) (pq_P t σ (I, J, ri, rj, rq)) := hD0.self
  generalize hAe : pq_B t σ (I, J, ri, rj, rq) s.heap.size = A at hD ⊢
  have hA : ∀ q : Nat, s.heap.size ≤ q → A q := fun q h => by rw [← hAe]; exact Or.inr h
  have hS : va_S A s.heap s.heap [] := va_S.rf
  have hl := lv_entry ([.ref this]) (n := 1) (Nat.le_of_ble_eq_true rfl)
  rw [lg_entry_eq]
  generalize (lg_sl ([.ref this]) ++ List.replicate (1 - (lg_sl ([.ref this])).length) Slot.unset).toArray = ls at hl ⊢
  have hl : lv_has ls 1 [(0, .ref this)] := hl
  refine lv_aload_n hx hb dX7_init_0 rfl (lv_at hl 0 rfl) ?_
  refine W.objInit hx hb hown (hts _ (tw_c tw_60)) (hts _ (tw_c tw_11)) (hts _ (tw_c tw_12)) rfl (by rw [hml]; exact hl.1) rfl dX7_init_1 (Nat.le_of_ble_eq_true rfl) (Nat.le_of_ble_eq_true rfl) ?_
  refine W.eq (g2 := F0 m 4 ls []) rfl ?_
  refine lv_aload_n hx hb dX7_init_4 rfl (lv_at hl 0 rfl) ?_
  refine lv_sipush (v := 200) hx hb dX7_init_5 (by decide) ?_
  refine nw_i (N' := 200) hx hb (hts _ (tw_c tw_33)) hK hP hD hS hA (by decide) (by decide) (Nat.le_of_ble_eq_true rfl) (Nat.le_of_ble_eq_true rfl) (Nat.le_of_ble_eq_true rfl) dX7_init_8 (fun q_1 r_3 H hq_2 er_3 hP hD hS => ?_)
  refine pr_F (q := q_1) (C := RX7) (T := TX7) (N := 15) hx hb hts (tw_i inlX7) tyX7 tyX7_ok nmX7 hown hK hP hD hS (As_in hL_this) (As_kk hq_2 hL_this hK_this) (by decide) rfl 1 225 (by decide) (hts _ (tw_c tw_61)) rfl hin rfl (tyX7_ok 1 (by decide)) rfl rfl (Nat.le_of_ble_eq_true rfl) (pr_225 _ _ _ _ _) dX7_init_10 (fun σ_4 H locs hp_5 hP hD hS => ?_)
  have hs_6 := As_of hq_2 hp_5
  have hz_7 := As_es (I := I) hs_6
  have hE := Et_es Et_rf hz_7
  have hA_225 := As_ok hs_6 hL_this
  have hK_this := Es_k hz_7 hL_this hK_this
  have hL_this := Es_at hz_7 hL_this
  refine lv_aload_n hx hb dX7_init_13 rfl (lv_at hl 0 rfl) ?_
  refine lv_sipush (v := 200) hx hb dX7_init_14 (by decide) ?_
  refine nw_i (N' := 200) hx hb (hts _ (tw_c tw_33)) hK hP hD hS hA (by decide) (by decide) (Nat.le_of_ble_eq_true rfl) (Nat.le_of_ble_eq_true rfl) (Nat.le_of_ble_eq_true rfl) dX7_init_17 (fun q_8 r_10 H hq_9 er_10 hP hD hS => ?_)
  refine pr_F (q := q_8) (C := RX7) (T := TX7) (N := 15) hx hb hts (tw_i inlX7) tyX7 tyX7_ok nmX7 hown hK hP hD hS (As_in hL_this) (As_kk hq_9 hL_this hK_this) (by decide) rfl 2 226 (by decide) (hts _ (tw_c tw_62)) rfl hin rfl (tyX7_ok 2 (by decide)) rfl rfl (Nat.le_of_ble_eq_true rfl) (pr_226 _ _ _ _ _) dX7_init_19 (fun σ_11 H locs hp_12 hP hD hS => ?_)
  have hs_13 := As_of hq_9 hp_12
  have hz_14 := As_es (I := I) hs_13
  have hE := Et_es hE hz_14
  have hA_225 := okA_es hz_14 (by decide) hA_225
  have hA_226 := As_ok hs_13 hL_this
  have hK_this := Es_k hz_14 hL_this hK_this
  have hL_this := Es_at hz_14 hL_this
  refine lv_aload_n hx hb dX7_init_22 rfl (lv_at hl 0 rfl) ?_
  refine lv_sipush (v := 200) hx hb dX7_init_23 (by decide) ?_
  refine nw_i (N' := 200) hx hb (hts _ (tw_c tw_33)) hK hP hD hS hA (by decide) (by decide) (Nat.le_of_ble_eq_true rfl) (Nat.le_of_ble_eq_true rfl) (Nat.le_of_ble_eq_true rfl) dX7_init_26 (fun q_15 r_17 H hq_16 er_17 hP hD hS => ?_)
  refine pr_F (q := q_15) (C := RX7) (T := TX7) (N := 15) hx hb hts (tw_i inlX7) tyX7 tyX7_ok nmX7 hown hK hP hD hS (As_in hL_this) (As_kk hq_16 hL_this hK_this) (by decide) rfl 3 227 (by decide) (hts _ (tw_c tw_63)) rfl hin rfl (tyX7_ok 3 (by decide)) rfl rfl (Nat.le_of_ble_eq_true rfl) (pr_227 _ _ _ _ _) dX7_init_28 (fun σ_18 H locs hp_19 hP hD hS => ?_)
  have hs_20 := As_of hq_16 hp_19
  have hz_21 := As_es (I := I) hs_20
  have hE := Et_es hE hz_21
  have hA_225 := okA_es hz_21 (by decide) hA_225
  have hA_226 := okA_es hz_21 (by decide) hA_226
  have hA_227 := As_ok hs_20 hL_this
  have hK_this := Es_k hz_21 hL_this hK_this
  have hL_this := Es_at hz_21 hL_this
  refine lv_aload_n hx hb dX7_init_31 rfl (lv_at hl 0 rfl) ?_
  refine lv_sipush (v := 200) hx hb dX7_init_32 (by decide) ?_
  refine nw_i (N' := 200) hx hb (hts _ (tw_c tw_33)) hK hP hD hS hA (by decide) (by decide) (Nat.le_of_ble_eq_true rfl) (Nat.le_of_ble_eq_true rfl) (Nat.le_of_ble_eq_true rfl) dX7_init_35 (fun q_22 r_24 H hq_23 er_24 hP hD hS => ?_)
  refine pr_F (q := q_22) (C := RX7) (T := TX7) (N := 15) hx hb hts (tw_i inlX7) tyX7 tyX7_ok nmX7 hown hK hP hD hS (As_in hL_this) (As_kk hq_23 hL_this hK_this) (by decide) rfl 4 228 (by decide) (hts _ (tw_c tw_64)) rfl hin rfl (tyX7_ok 4 (by decide)) rfl rfl (Nat.le_of_ble_eq_true rfl) (pr_228 _ _ _ _ _) dX7_init_37 (fun σ_25 H locs hp_26 hP hD hS => ?_)
  have hs_27 := As_of hq_23 hp_26
  have hz_28 := As_es (I := I) hs_27
  have hE := Et_es hE hz_28
  have hA_225 := okA_es hz_28 (by decide) hA_225
  have hA_226 := okA_es hz_28 (by decide) hA_226
  have hA_227 := okA_es hz_28 (by decide) hA_227
  have hA_228 := As_ok hs_27 hL_this
  have hK_this := Es_k hz_28 hL_this hK_this
  have hL_this := Es_at hz_28 hL_this
  refine lv_aload_n hx hb dX7_init_40 rfl (lv_at hl 0 rfl) ?_
  refine lv_bipush (v := 12) hx hb dX7_init_41 (by decide) ?_
  refine nw_i (N' := 12) hx hb (hts _ (tw_c tw_33)) hK hP hD hS hA (by decide) (by decide) (Nat.le_of_ble_eq_true rfl) (Nat.le_of_ble_eq_true rfl) (Nat.le_of_ble_eq_true rfl) dX7_init_43 (fun q_29 r_31 H hq_30 er_31 hP hD hS => ?_)
  refine pr_F (q := q_29) (C := RX7) (T := TX7) (N := 15) hx hb hts (tw_i inlX7) tyX7 tyX7_ok nmX7 hown hK hP hD hS (As_in hL_this) (As_kk hq_30 hL_this hK_this) (by decide) rfl 5 229 (by decide) (hts _ (tw_c tw_65)) rfl hin rfl (tyX7_ok 5 (by decide)) rfl rfl (Nat.le_of_ble_eq_true rfl) (pr_229 _ _ _ _ _) dX7_init_45 (fun σ_32 H locs hp_33 hP hD hS => ?_)
  have hs_34 := As_of hq_30 hp_33
  have hz_35 := As_es (I := I) hs_34
  have hE := Et_es hE hz_35
  have hA_225 := okA_es hz_35 (by decide) hA_225
  have hA_226 := okA_es hz_35 (by decide) hA_226
  have hA_227 := okA_es hz_35 (by decide) hA_227
  have hA_228 := okA_es hz_35 (by decide) hA_228
  have hA_229 := As_ok hs_34 hL_this
  have hK_this := Es_k hz_35 hL_this hK_this
  have hL_this := Es_at hz_35 hL_this
  refine lv_aload_n hx hb dX7_init_48 rfl (lv_at hl 0 rfl) ?_
  refine lv_bipush (v := 12) hx hb dX7_init_49 (by decide) ?_
  refine nw_i (N' := 12) hx hb (hts _ (tw_c tw_33)) hK hP hD hS hA (by decide) (by decide) (Nat.le_of_ble_eq_true rfl) (Nat.le_of_ble_eq_true rfl) (Nat.le_of_ble_eq_true rfl) dX7_init_51 (fun q_36 r_38 H hq_37 er_38 hP hD hS => ?_)
  refine pr_F (q := q_36) (C := RX7) (T := TX7) (N := 15) hx hb hts (tw_i inlX7) tyX7 tyX7_ok nmX7 hown hK hP hD hS (As_in hL_this) (As_kk hq_37 hL_this hK_this) (by decide) rfl 6 230 (by decide) (hts _ (tw_c tw_66)) rfl hin rfl (tyX7_ok 6 (by decide)) rfl rfl (Nat.le_of_ble_eq_true rfl) (pr_230 _ _ _ _ _) dX7_init_53 (fun σ_39 H locs hp_40 hP hD hS => ?_)
  have hs_41 := As_of hq_37 hp_40
  have hz_42 := As_es (I := I) hs_41
  have hE := Et_es hE hz_42
  have hA_225 := okA_es hz_42 (by decide) hA_225
  have hA_226 := okA_es hz_42 (by decide) hA_226
  have hA_227 := okA_es hz_42 (by decide) hA_227
  have hA_228 := okA_es hz_42 (by decide) hA_228
  have hA_229 := okA_es hz_42 (by decide) hA_229
  have hA_230 := As_ok hs_41 hL_this
  have hK_this := Es_k hz_42 hL_this hK_this
  have hL_this := Es_at hz_42 hL_this
  refine lv_aload_n hx hb dX7_init_56 rfl (lv_at hl 0 rfl) ?_
  refine lv_bipush (v := 12) hx hb dX7_init_57 (by decide) ?_
  refine nw_i (N' := 12) hx hb (hts _ (tw_c tw_33)) hK hP hD hS hA (by decide) (by decide) (Nat.le_of_ble_eq_true rfl) (Nat.le_of_ble_eq_true rfl) (Nat.le_of_ble_eq_true rfl) dX7_init_59 (fun q_43 r_45 H hq_44 er_45 hP hD hS => ?_)
  refine pr_F (q := q_43) (C := RX7) (T := TX7) (N := 15) hx hb hts (tw_i inlX7) tyX7 tyX7_ok nmX7 hown hK hP hD hS (As_in hL_this) (As_kk hq_44 hL_this hK_this) (by decide) rfl 7 231 (by decide) (hts _ (tw_c tw_67)) rfl hin rfl (tyX7_ok 7 (by decide)) rfl rfl (Nat.le_of_ble_eq_true rfl) (pr_231 _ _ _ _ _) dX7_init_61 (fun σ_46 H locs hp_47 hP hD hS => ?_)
  have hs_48 := As_of hq_44 hp_47
  have hz_49 := As_es (I := I) hs_48
  have hE := Et_es hE hz_49
  have hA_225 := okA_es hz_49 (by decide) hA_225
  have hA_226 := okA_es hz_49 (by decide) hA_226
  have hA_227 := okA_es hz_49 (by decide) hA_227
  have hA_228 := okA_es hz_49 (by decide) hA_228
  have hA_229 := okA_es hz_49 (by decide) hA_229
  have hA_230 := okA_es hz_49 (by decide) hA_230
  have hA_231 := As_ok hs_48 hL_this
  have hK_this := Es_k hz_49 hL_this hK_this
  have hL_this := Es_at hz_49 hL_this
  refine lv_aload_n hx hb dX7_init_64 rfl (lv_at hl 0 rfl) ?_
  refine lv_bipush (v := 12) hx hb dX7_init_65 (by decide) ?_
  refine nw_i (N' := 12) hx hb (hts _ (tw_c tw_33)) hK hP hD hS hA (by decide) (by decide) (Nat.le_of_ble_eq_true rfl) (Nat.le_of_ble_eq_true rfl) (Nat.le_of_ble_eq_true rfl) dX7_init_67 (fun q_50 r_52 H hq_51 er_52 hP hD hS => ?_)
  refine pr_F (q := q_50) (C := RX7) (T := TX7) (N := 15) hx hb hts (tw_i inlX7) tyX7 tyX7_ok nmX7 hown hK hP hD hS (As_in hL_this) (As_kk hq_51 hL_this hK_this) (by decide) rfl 8 232 (by decide) (hts _ (tw_c tw_68)) rfl hin rfl (tyX7_ok 8 (by decide)) rfl rfl (Nat.le_of_ble_eq_true rfl) (pr_232 _ _ _ _ _) dX7_init_69 (fun σ_53 H locs hp_54 hP hD hS => ?_)
  have hs_55 := As_of hq_51 hp_54
  have hz_56 := As_es (I := I) hs_55
  have hE := Et_es hE hz_56
  have hA_225 := okA_es hz_56 (by decide) hA_225
  have hA_226 := okA_es hz_56 (by decide) hA_226
  have hA_227 := okA_es hz_56 (by decide) hA_227
  have hA_228 := okA_es hz_56 (by decide) hA_228
  have hA_229 := okA_es hz_56 (by decide) hA_229
  have hA_230 := okA_es hz_56 (by decide) hA_230
  have hA_231 := okA_es hz_56 (by decide) hA_231
  have hA_232 := As_ok hs_55 hL_this
  have hK_this := Es_k hz_56 hL_this hK_this
  have hL_this := Es_at hz_56 hL_this
  refine lv_aload_n hx hb dX7_init_72 rfl (lv_at hl 0 rfl) ?_
  refine lv_bipush (v := 12) hx hb dX7_init_73 (by decide) ?_
  refine nw_i (N' := 12) hx hb (hts _ (tw_c tw_33)) hK hP hD hS hA (by decide) (by decide) (Nat.le_of_ble_eq_true rfl) (Nat.le_of_ble_eq_true rfl) (Nat.le_of_ble_eq_true rfl) dX7_init_75 (fun q_57 r_59 H hq_58 er_59 hP hD hS => ?_)
  refine pr_F (q := q_57) (C := RX7) (T := TX7) (N := 15) hx hb hts (tw_i inlX7) tyX7 tyX7_ok nmX7 hown hK hP hD hS (As_in hL_this) (As_kk hq_58 hL_this hK_this) (by decide) rfl 9 233 (by decide) (hts _ (tw_c tw_69)) rfl hin rfl (tyX7_ok 9 (by decide)) rfl rfl (Nat.le_of_ble_eq_true rfl) (pr_233 _ _ _ _ _) dX7_init_77 (fun σ_60 H locs hp_61 hP hD hS => ?_)
  have hs_62 := As_of hq_58 hp_61
  have hz_63 := As_es (I := I) hs_62
  have hE := Et_es hE hz_63
  have hA_225 := okA_es hz_63 (by decide) hA_225
  have hA_226 := okA_es hz_63 (by decide) hA_226
  have hA_227 := okA_es hz_63 (by decide) hA_227
  have hA_228 := okA_es hz_63 (by decide) hA_228
  have hA_229 := okA_es hz_63 (by decide) hA_229
  have hA_230 := okA_es hz_63 (by decide) hA_230
  have hA_231 := okA_es hz_63 (by decide) hA_231
  have hA_232 := okA_es hz_63 (by decide) hA_232
  have hA_233 := As_ok hs_62 hL_this
  have hK_this := Es_k hz_63 hL_this hK_this
  have hL_this := Es_at hz_63 hL_this
  refine lv_aload_n hx hb dX7_init_80 rfl (lv_at hl 0 rfl) ?_
  refine lv_bipush (v := 29) hx hb dX7_init_81 (by decide) ?_
  refine pp_i (v := 29) (ty := .int) (C := RX7) (T := TX7) (N := 15) hx hb hts (tw_i inlX7) tyX7 tyX7_ok nmX7 hown hK hP hD hS hL_this hK_this (by decide) rfl 10 234 (by decide) (hts _ (tw_c tw_70)) rfl (by decide +kernel) rfl rfl (Nat.le_of_ble_eq_true rfl) (ps_234 _ _ _ _ _) dX7_init_83 (fun I_64 H locs eI_64 hP hD hS => ?_)
  have hE := Et_put (σ := σ) (σ1 := σ_60) hE eI_64
  have hZ := pq_Zp hZ eI_64 (by decide)
  refine lv_aload_n hx hb dX7_init_86 rfl (lv_at hl 0 rfl) ?_
  refine lv_iconst (v := 1) hx hb dX7_init_87 (by decide) ?_
  refine pp_i (v := 1) (ty := .int) (C := RX7) (T := TX7) (N := 15) hx hb hts (tw_i inlX7) tyX7 tyX7_ok nmX7 hown hK hP hD hS hL_this hK_this (by decide) rfl 11 235 (by decide) (hts _ (tw_c tw_71)) rfl (by decide +kernel) rfl rfl (Nat.le_of_ble_eq_true rfl) (ps_235 _ _ _ _ _) dX7_init_88 (fun I_65 H locs eI_65 hP hD hS => ?_)
  have hE := Et_put (σ := σ) (σ1 := σ_60) hE eI_65
  have hZ := pq_Zp hZ eI_65 (by decide)
  refine lv_aload_n hx hb dX7_init_91 rfl (lv_at hl 0 rfl) ?_
  refine lv_bipush (v := 10) hx hb dX7_init_92 (by decide) ?_
  refine pp_i (v := 10) (ty := .int) (C := RX7) (T := TX7) (N := 15) hx hb hts (tw_i inlX7) tyX7 tyX7_ok nmX7 hown hK hP hD hS hL_this hK_this (by decide) rfl 12 236 (by decide) (hts _ (tw_c tw_72)) rfl (by decide +kernel) rfl rfl (Nat.le_of_ble_eq_true rfl) (ps_236 _ _ _ _ _) dX7_init_94 (fun I_66 H locs eI_66 hP hD hS => ?_)
  have hE := Et_put (σ := σ) (σ1 := σ_60) hE eI_66
  have hZ := pq_Zp hZ eI_66 (by decide)
  refine lv_aload_n hx hb dX7_init_97 rfl (lv_at hl 0 rfl) ?_
  refine lv_iconst (v := 3) hx hb dX7_init_98 (by decide) ?_
  refine pp_i (v := 3) (ty := .int) (C := RX7) (T := TX7) (N := 15) hx hb hts (tw_i inlX7) tyX7 tyX7_ok nmX7 hown hK hP hD hS hL_this hK_this (by decide) rfl 13 237 (by decide) (hts _ (tw_c tw_73)) rfl (by decide +kernel) rfl rfl (Nat.le_of_ble_eq_true rfl) (ps_237 _ _ _ _ _) dX7_init_99 (fun I_67 H locs eI_67 hP hD hS => ?_)
  have hE := Et_put (σ := σ) (σ1 := σ_60) hE eI_67
  have hI_237 := (by rw [eI_67]; exact pq_us _ _ _ _ : I_67 237 this = 3)
  have hZ := pq_Zp hZ eI_67 (by decide)
  refine lv_aload_n hx hb dX7_init_102 rfl (lv_at hl 0 rfl) ?_
  refine lv_iconst (v := 5) hx hb dX7_init_103 (by decide) ?_
  refine pp_i (v := 5) (ty := .int) (C := RX7) (T := TX7) (N := 15) hx hb hts (tw_i inlX7) tyX7 tyX7_ok nmX7 hown hK hP hD hS hL_this hK_this (by decide) rfl 14 238 (by decide) (hts _ (tw_c tw_74)) rfl (by decide +kernel) rfl rfl (Nat.le_of_ble_eq_true rfl) (ps_238 _ _ _ _ _) dX7_init_104 (fun I_68 H locs eI_68 hP hD hS => ?_)
  have hE := Et_put (σ := σ) (σ1 := σ_60) hE eI_68
  have hI_237 := (by rw [eI_68, pq_uf _ _ _ (by decide)]; exact hI_237 : I_68 237 this = 3)
  have hZ := pq_Zp hZ eI_68 (by decide)
  refine lv_aload_n hx hb dX7_init_107 rfl (lv_at hl 0 rfl) ?_
  obtain ⟨-, w_69, hR_w_69, hL_w_69, hK_w_69, hN_w_69⟩ := id hA_230
  refine pg_f (v := .ref w_69) (C := RX7) (T := TX7) (N := 15) hx hb hts (tw_i inlX7) hown hK hP hL_this hK_this (by decide) rfl 6 (by decide) (hts _ (tw_c tw_66)) (pq_hv rfl hR_w_69) dX7_init_108 ?_
  refine lv_sipush (v := 500) hx hb dX7_init_111 (by decide) ?_
  refine pk_v (va_runSN (As := [.ref w_69, .int 500]) (rest := []) ⟨hx, hb, hml, hown, hts⟩ (c_X11_fill l D t σ_60 I_68 J r_59 rj rq H.size w_69 (500 : Int32) 12 hL_w_69 hK_w_69 hN_w_69 (by omega)) ⟨va_cnB (host := "RingsUnder") 2 hts (tw_W tw_76) rfl rfl rfl (nl_0 hN) (hts _ (tw_c tw_2)) (by decide +kernel) ⟨Nat.le_of_ble_eq_true rfl, Nat.le_of_ble_eq_true rfl⟩, hts (.static yX11_fill) (by decide +kernel), trivial⟩ ⟨pq_blind, pq_pre hK hN hP hD⟩ rfl rfl hl.1 rfl (lv_room (Nat.le_of_ble_eq_true rfl)) dX7_init_114 ⟨Nat.le_of_ble_eq_true rfl, Nat.le_of_ble_eq_true rfl⟩) hD hS hA (fun σ1 μ1 H locs hw_71 hP hD hS => ?_)
  obtain ⟨ri_72, hu_73, hu_73p0⟩ := hw_71
  obtain ⟨hu_73a, hu_73b⟩ := Prod.mk.inj hu_73
  rw [hu_73a, hu_73b] at hP hD
  refine lv_aload_n hx hb dX7_init_117 rfl (lv_at hl 0 rfl) ?_
  obtain ⟨-, w_75, hR_w_75, hL_w_75, hK_w_75, hN_w_75⟩ := id hA_231
  refine pg_f (v := .ref w_75) (C := RX7) (T := TX7) (N := 15) hx hb hts (tw_i inlX7) hown hK hP hL_this hK_this (by decide) rfl 7 (by decide) (hts _ (tw_c tw_67)) (pq_hv rfl hR_w_75) dX7_init_118 ?_
  refine lv_bipush (v := 25) hx hb dX7_init_121 (by decide) ?_
  refine pk_v (va_runSN (As := [.ref w_75, .int 25]) (rest := []) ⟨hx, hb, hml, hown, hts⟩ (c_X11_fill l D t σ_60 I_68 J ri_72 rj rq H.size w_75 (25 : Int32) 12 hL_w_75 hK_w_75 hN_w_75 (by omega)) ⟨va_cnB (host := "RingsUnder") 2 hts (tw_W tw_76) rfl rfl rfl (nl_0 hN) (hts _ (tw_c tw_2)) (by decide +kernel) ⟨Nat.le_of_ble_eq_true rfl, Nat.le_of_ble_eq_true rfl⟩, hts (.static yX11_fill) (by decide +kernel), trivial⟩ ⟨pq_blind, pq_pre hK hN hP hD⟩ rfl rfl hl.1 rfl (lv_room (Nat.le_of_ble_eq_true rfl)) dX7_init_123 ⟨Nat.le_of_ble_eq_true rfl, Nat.le_of_ble_eq_true rfl⟩) hD hS hA (fun σ1 μ1 H locs hw_77 hP hD hS => ?_)
  obtain ⟨ri_78, hu_79, hu_79p0⟩ := hw_77
  obtain ⟨hu_79a, hu_79b⟩ := Prod.mk.inj hu_79
  rw [hu_79a, hu_79b] at hP hD
  refine lv_aload_n hx hb dX7_init_126 rfl (lv_at hl 0 rfl) ?_
  obtain ⟨-, w_81, hR_w_81, hL_w_81, hK_w_81, hN_w_81⟩ := id hA_232
  refine pg_f (v := .ref w_81) (C := RX7) (T := TX7) (N := 15) hx hb hts (tw_i inlX7) hown hK hP hL_this hK_this (by decide) rfl 8 (by decide) (hts _ (tw_c tw_68)) (pq_hv rfl hR_w_81) dX7_init_127 ?_
  refine lv_iconst (v := 5) hx hb dX7_init_130 (by decide) ?_
  refine pk_v (va_runSN (As := [.ref w_81, .int 5]) (rest := []) ⟨hx, hb, hml, hown, hts⟩ (c_X11_fill l D t σ_60 I_68 J ri_78 rj rq H.size w_81 (5 : Int32) 12 hL_w_81 hK_w_81 hN_w_81 (by omega)) ⟨va_cnB (host := "RingsUnder") 2 hts (tw_W tw_76) rfl rfl rfl (nl_0 hN) (hts _ (tw_c tw_2)) (by decide +kernel) ⟨Nat.le_of_ble_eq_true rfl, Nat.le_of_ble_eq_true rfl⟩, hts (.static yX11_fill) (by decide +kernel), trivial⟩ ⟨pq_blind, pq_pre hK hN hP hD⟩ rfl rfl hl.1 rfl (lv_room (Nat.le_of_ble_eq_true rfl)) dX7_init_131 ⟨Nat.le_of_ble_eq_true rfl, Nat.le_of_ble_eq_true rfl⟩) hD hS hA (fun σ1 μ1 H locs hw_83 hP hD hS => ?_)
  obtain ⟨ri_84, hu_85, hu_85p0⟩ := hw_83
  obtain ⟨hu_85a, hu_85b⟩ := Prod.mk.inj hu_85
  rw [hu_85a, hu_85b] at hP hD
  refine lv_aload_n hx hb dX7_init_134 rfl (lv_at hl 0 rfl) ?_
  obtain ⟨-, w_87, hR_w_87, hL_w_87, hK_w_87, hN_w_87⟩ := id hA_233
  refine pg_f (v := .ref w_87) (C := RX7) (T := TX7) (N := 15) hx hb hts (tw_i inlX7) hown hK hP hL_this hK_this (by decide) rfl 9 (by decide) (hts _ (tw_c tw_69)) (pq_hv rfl hR_w_87) dX7_init_135 ?_
  refine lv_bipush (v := 20) hx hb dX7_init_138 (by decide) ?_
  refine pk_v (va_runSN (As := [.ref w_87, .int 20]) (rest := []) ⟨hx, hb, hml, hown, hts⟩ (c_X11_fill l D t σ_60 I_68 J ri_84 rj rq H.size w_87 (20 : Int32) 12 hL_w_87 hK_w_87 hN_w_87 (by omega)) ⟨va_cnB (host := "RingsUnder") 2 hts (tw_W tw_76) rfl rfl rfl (nl_0 hN) (hts _ (tw_c tw_2)) (by decide +kernel) ⟨Nat.le_of_ble_eq_true rfl, Nat.le_of_ble_eq_true rfl⟩, hts (.static yX11_fill) (by decide +kernel), trivial⟩ ⟨pq_blind, pq_pre hK hN hP hD⟩ rfl rfl hl.1 rfl (lv_room (Nat.le_of_ble_eq_true rfl)) dX7_init_140 ⟨Nat.le_of_ble_eq_true rfl, Nat.le_of_ble_eq_true rfl⟩) hD hS hA (fun σ1 μ1 H locs hw_89 hP hD hS => ?_)
  obtain ⟨ri_90, hu_91, hu_91p0⟩ := hw_89
  obtain ⟨hu_91a, hu_91b⟩ := Prod.mk.inj hu_91
  rw [hu_91a, hu_91b] at hP hD
  exact W.vret hx hb hr (fun t1 ht hW => ⟨⟨(σ_60, I_68, J, ri_90, rj, rq), rfl, ⟨σ_60, I_68, J, ri_90, rj, rq, rfl, hE, ⟨hA_225, hA_226, hA_227, hA_228, hA_229, hA_230, hA_231, hA_232, hA_233, hI_237⟩, hZ, hq0⟩, by rw [ht]; exact hP, va_K.moved hW.alike hK, hD⟩, hS.F ht⟩) hS.2.2 dX7_init_143
