theorem dX12_clause_0 : decode cX12_clause 0 = .ok (.aload_n 0, 1) := by decide +kernel
theorem tw_853 : Cond.methodLink RX12 242 yX12_sortOf ∈ wsL_law := List.mem_of_getElem? (i := 853) (by decide +kernel)
theorem tw_854 : Cond.instanceMethod yX12_sortOf ∈ wsL_law := List.mem_of_getElem? (i := 854) (by decide +kernel)
theorem tw_855 : Cond.selects RX12 yX12_sortOf yX12_sortOf ∈ wsL_law := List.mem_of_getElem? (i := 855) (by decide +kernel)
theorem tw_856 : Cond.code yX12_sortOf cX12_sortOf 1 (some .int) ∈ wsL_law := List.mem_of_getElem? (i := 856) (by decide +kernel)
theorem dX12_clause_1 : decode cX12_clause 1 = .ok (.invokevirtual 242, 3) := by decide +kernel
theorem dX12_clause_4 : decode cX12_clause 4 = .ok (.istore_n 1, 1) := by decide +kernel
theorem dX12_clause_5 : decode cX12_clause 5 = .ok (.iload_n 1, 1) := by decide +kernel
theorem dX12_clause_6 : decode cX12_clause 6 = .ok (.ifCond .ne 5, 3) := by decide +kernel
theorem dX12_clause_11 : decode cX12_clause 11 = .ok (.iload_n 1, 1) := by decide +kernel
theorem dX12_clause_12 : decode cX12_clause 12 = .ok (.iconst 5, 1) := by decide +kernel
theorem dX12_clause_13 : decode cX12_clause 13 = .ok (.if_icmp .lt 17, 3) := by decide +kernel
theorem dX12_clause_30 : decode cX12_clause 30 = .ok (.aload_n 0, 1) := by decide +kernel
theorem tw_822 : Cond.fieldLink RX12 248 "RingsUnderModel" "clauses" "I" ∈ wsL_law := List.mem_of_getElem? (i := 822) (by decide +kernel)
theorem dX12_clause_31 : decode cX12_clause 31 = .ok (.getfield 248, 3) := by decide +kernel
theorem dX12_clause_34 : decode cX12_clause 34 = .ok (.bipush 20, 2) := by decide +kernel
theorem dX12_clause_36 : decode cX12_clause 36 = .ok (.if_icmp .ne 5, 3) := by decide +kernel
theorem dX12_clause_41 : decode cX12_clause 41 = .ok (.aload_n 0, 1) := by decide +kernel
theorem dX12_clause_42 : decode cX12_clause 42 = .ok (.dup, 1) := by decide +kernel
theorem tw_829 : Cond.fieldLink RX12 245 "RingsUnderModel" "came" "I" ∈ wsL_law := List.mem_of_getElem? (i := 829) (by decide +kernel)
theorem dX12_clause_43 : decode cX12_clause 43 = .ok (.getfield 245, 3) := by decide +kernel
theorem dX12_clause_46 : decode cX12_clause 46 = .ok (.iconst 1, 1) := by decide +kernel
theorem dX12_clause_47 : decode cX12_clause 47 = .ok (.iload_n 1, 1) := by decide +kernel
theorem dX12_clause_48 : decode cX12_clause 48 = .ok (.ishl, 1) := by decide +kernel
theorem dX12_clause_49 : decode cX12_clause 49 = .ok (.ior, 1) := by decide +kernel
theorem dX12_clause_50 : decode cX12_clause 50 = .ok (.putfield 245, 3) := by decide +kernel
theorem dX12_clause_53 : decode cX12_clause 53 = .ok (.aload_n 0, 1) := by decide +kernel
theorem dX12_clause_54 : decode cX12_clause 54 = .ok (.getfield 172, 3) := by decide +kernel
theorem dX12_clause_57 : decode cX12_clause 57 = .ok (.iconst 1, 1) := by decide +kernel
theorem dX12_clause_58 : decode cX12_clause 58 = .ok (.iadd, 1) := by decide +kernel
theorem dX12_clause_59 : decode cX12_clause 59 = .ok (.bipush 12, 2) := by decide +kernel
theorem dX12_clause_61 : decode cX12_clause 61 = .ok (.aload_n 0, 1) := by decide +kernel
theorem dX12_clause_62 : decode cX12_clause 62 = .ok (.getfield 248, 3) := by decide +kernel
theorem dX12_clause_65 : decode cX12_clause 65 = .ok (.imul, 1) := by decide +kernel
theorem dX12_clause_66 : decode cX12_clause 66 = .ok (.iadd, 1) := by decide +kernel
theorem dX12_clause_67 : decode cX12_clause 67 = .ok (.istore_n 2, 1) := by decide +kernel
theorem dX12_clause_68 : decode cX12_clause 68 = .ok (.aload_n 0, 1) := by decide +kernel
theorem dX12_clause_69 : decode cX12_clause 69 = .ok (.getfield 7, 3) := by decide +kernel
theorem dX12_clause_72 : decode cX12_clause 72 = .ok (.iload_n 2, 1) := by decide +kernel
theorem dX12_clause_73 : decode cX12_clause 73 = .ok (.iload_n 1, 1) := by decide +kernel
theorem dX12_clause_74 : decode cX12_clause 74 = .ok (.iastore, 1) := by decide +kernel
theorem dX12_clause_75 : decode cX12_clause 75 = .ok (.aload_n 0, 1) := by decide +kernel
theorem dX12_clause_76 : decode cX12_clause 76 = .ok (.invokevirtual 196, 3) := by decide +kernel
theorem dX12_clause_79 : decode cX12_clause 79 = .ok (.iconst 0, 1) := by decide +kernel
theorem dX12_clause_80 : decode cX12_clause 80 = .ok (.istore_n 3, 1) := by decide +kernel
theorem dX12_clause_81 : decode cX12_clause 81 = .ok (.iload_n 1, 1) := by decide +kernel
theorem dX12_clause_82 : decode cX12_clause 82 = .ok (.iconst 4, 1) := by decide +kernel
theorem dX12_clause_83 : decode cX12_clause 83 = .ok (.if_icmp .gt 35, 3) := by decide +kernel
theorem dX12_clause_86 : decode cX12_clause 86 = .ok (.aload_n 0, 1) := by decide +kernel
theorem dX12_clause_87 : decode cX12_clause 87 = .ok (.getfield 7, 3) := by decide +kernel
theorem dX12_clause_90 : decode cX12_clause 90 = .ok (.iload_n 2, 1) := by decide +kernel
theorem dX12_clause_91 : decode cX12_clause 91 = .ok (.iconst 2, 1) := by decide +kernel
theorem dX12_clause_92 : decode cX12_clause 92 = .ok (.iadd, 1) := by decide +kernel
theorem dX12_clause_93 : decode cX12_clause 93 = .ok (.aload_n 0, 1) := by decide +kernel
theorem dX12_clause_94 : decode cX12_clause 94 = .ok (.getfield 175, 3) := by decide +kernel
theorem dX12_clause_97 : decode cX12_clause 97 = .ok (.iastore, 1) := by decide +kernel
theorem dX12_clause_98 : decode cX12_clause 98 = .ok (.aload_n 0, 1) := by decide +kernel
theorem tw_870 : Cond.methodLink RX12 251 yX12_either ∈ wsL_law := List.mem_of_getElem? (i := 870) (by decide +kernel)
theorem tw_871 : Cond.instanceMethod yX12_either ∈ wsL_law := List.mem_of_getElem? (i := 871) (by decide +kernel)
theorem tw_872 : Cond.selects RX12 yX12_either yX12_either ∈ wsL_law := List.mem_of_getElem? (i := 872) (by decide +kernel)
theorem tw_873 : Cond.code yX12_either cX12_either 6 (some .int) ∈ wsL_law := List.mem_of_getElem? (i := 873) (by decide +kernel)
theorem dX12_clause_99 : decode cX12_clause 99 = .ok (.invokevirtual 251, 3) := by decide +kernel
theorem dX12_clause_102 : decode cX12_clause 102 = .ok (.istore_n 3, 1) := by decide +kernel
theorem dX12_clause_103 : decode cX12_clause 103 = .ok (.aload_n 0, 1) := by decide +kernel
theorem dX12_clause_104 : decode cX12_clause 104 = .ok (.getfield 7, 3) := by decide +kernel
theorem dX12_clause_107 : decode cX12_clause 107 = .ok (.iload_n 2, 1) := by decide +kernel
theorem dX12_clause_108 : decode cX12_clause 108 = .ok (.iconst 3, 1) := by decide +kernel
theorem dX12_clause_109 : decode cX12_clause 109 = .ok (.iadd, 1) := by decide +kernel
theorem dX12_clause_110 : decode cX12_clause 110 = .ok (.aload_n 0, 1) := by decide +kernel
theorem dX12_clause_111 : decode cX12_clause 111 = .ok (.getfield 175, 3) := by decide +kernel
theorem dX12_clause_114 : decode cX12_clause 114 = .ok (.iastore, 1) := by decide +kernel
theorem dX12_clause_115 : decode cX12_clause 115 = .ok (.goto 52, 3) := by decide +kernel
theorem dX12_clause_167 : decode cX12_clause 167 = .ok (.iload_n 3, 1) := by decide +kernel
theorem dX12_clause_168 : decode cX12_clause 168 = .ok (.ifCond .eq 5, 3) := by decide +kernel
theorem dX12_clause_173 : decode cX12_clause 173 = .ok (.aload_n 0, 1) := by decide +kernel
theorem dX12_clause_174 : decode cX12_clause 174 = .ok (.getfield 143, 3) := by decide +kernel
theorem dX12_clause_177 : decode cX12_clause 177 = .ok (.bipush 59, 2) := by decide +kernel
theorem dX12_clause_179 : decode cX12_clause 179 = .ok (.if_icmp .eq 5, 3) := by decide +kernel
theorem dX12_clause_184 : decode cX12_clause 184 = .ok (.aload_n 0, 1) := by decide +kernel
theorem dX12_clause_185 : decode cX12_clause 185 = .ok (.dup, 1) := by decide +kernel
theorem dX12_clause_186 : decode cX12_clause 186 = .ok (.getfield 248, 3) := by decide +kernel
theorem dX12_clause_189 : decode cX12_clause 189 = .ok (.iconst 1, 1) := by decide +kernel
theorem dX12_clause_190 : decode cX12_clause 190 = .ok (.iadd, 1) := by decide +kernel
theorem dX12_clause_191 : decode cX12_clause 191 = .ok (.putfield 248, 3) := by decide +kernel
theorem dX12_clause_194 : decode cX12_clause 194 = .ok (.aload_n 0, 1) := by decide +kernel
theorem dX12_clause_195 : decode cX12_clause 195 = .ok (.invokevirtual 196, 3) := by decide +kernel
theorem dX12_clause_198 : decode cX12_clause 198 = .ok (.iconst 0, 1) := by decide +kernel
theorem dX12_clause_199 : decode cX12_clause 199 = .ok (.ireturn, 1) := by decide +kernel
theorem dX12_clause_182 : decode cX12_clause 182 = .ok (.iconst 1, 1) := by decide +kernel
theorem dX12_clause_183 : decode cX12_clause 183 = .ok (.ireturn, 1) := by decide +kernel
theorem dX12_clause_171 : decode cX12_clause 171 = .ok (.iload_n 3, 1) := by decide +kernel
theorem dX12_clause_172 : decode cX12_clause 172 = .ok (.ireturn, 1) := by decide +kernel
theorem dX12_clause_39 : decode cX12_clause 39 = .ok (.iconst 5, 1) := by decide +kernel
theorem dX12_clause_40 : decode cX12_clause 40 = .ok (.ireturn, 1) := by decide +kernel
theorem dX12_clause_16 : decode cX12_clause 16 = .ok (.aload_n 0, 1) := by decide +kernel
theorem dX12_clause_17 : decode cX12_clause 17 = .ok (.getfield 245, 3) := by decide +kernel
theorem dX12_clause_20 : decode cX12_clause 20 = .ok (.iload_n 1, 1) := by decide +kernel
theorem dX12_clause_21 : decode cX12_clause 21 = .ok (.ishr, 1) := by decide +kernel
theorem dX12_clause_22 : decode cX12_clause 22 = .ok (.iconst 1, 1) := by decide +kernel
theorem dX12_clause_23 : decode cX12_clause 23 = .ok (.iand, 1) := by decide +kernel
theorem dX12_clause_24 : decode cX12_clause 24 = .ok (.iconst 1, 1) := by decide +kernel
theorem dX12_clause_25 : decode cX12_clause 25 = .ok (.if_icmp .ne 5, 3) := by decide +kernel
theorem dX12_clause_118 : decode cX12_clause 118 = .ok (.iload_n 1, 1) := by decide +kernel
theorem dX12_clause_119 : decode cX12_clause 119 = .ok (.bipush 6, 2) := by decide +kernel
theorem dX12_clause_121 : decode cX12_clause 121 = .ok (.if_icmp .gt 12, 3) := by decide +kernel
theorem dX12_clause_133 : decode cX12_clause 133 = .ok (.aload_n 0, 1) := by decide +kernel
theorem dX12_clause_134 : decode cX12_clause 134 = .ok (.iload_n 1, 1) := by decide +kernel
theorem dX12_clause_135 : decode cX12_clause 135 = .ok (.bipush 7, 2) := by decide +kernel
theorem dX12_clause_137 : decode cX12_clause 137 = .ok (.if_icmp .ne 8, 3) := by decide +kernel
theorem dX12_clause_145 : decode cX12_clause 145 = .ok (.iload_n 1, 1) := by decide +kernel
theorem dX12_clause_146 : decode cX12_clause 146 = .ok (.bipush 8, 2) := by decide +kernel
theorem dX12_clause_148 : decode cX12_clause 148 = .ok (.if_icmp .ne 9, 3) := by decide +kernel
theorem dX12_clause_157 : decode cX12_clause 157 = .ok (.sipush 1000, 3) := by decide +kernel
theorem dX12_clause_160 : decode cX12_clause 160 = .ok (.iload_n 2, 1) := by decide +kernel
theorem dX12_clause_161 : decode cX12_clause 161 = .ok (.iconst 1, 1) := by decide +kernel
theorem dX12_clause_162 : decode cX12_clause 162 = .ok (.iadd, 1) := by decide +kernel
theorem tw_933 : Cond.methodLink RX12 257 yX12_take ∈ wsL_law := List.mem_of_getElem? (i := 933) (by decide +kernel)
theorem tw_934 : Cond.instanceMethod yX12_take ∈ wsL_law := List.mem_of_getElem? (i := 934) (by decide +kernel)
theorem tw_935 : Cond.selects RX12 yX12_take yX12_take ∈ wsL_law := List.mem_of_getElem? (i := 935) (by decide +kernel)
theorem tw_936 : Cond.code yX12_take cX12_take 3 (some .int) ∈ wsL_law := List.mem_of_getElem? (i := 936) (by decide +kernel)
theorem dX12_clause_163 : decode cX12_clause 163 = .ok (.invokevirtual 257, 3) := by decide +kernel
theorem dX12_clause_166 : decode cX12_clause 166 = .ok (.istore_n 3, 1) := by decide +kernel
theorem dX12_clause_151 : decode cX12_clause 151 = .ok (.sipush 599, 3) := by decide +kernel
theorem dX12_clause_154 : decode cX12_clause 154 = .ok (.goto 6, 3) := by decide +kernel
theorem dX12_clause_140 : decode cX12_clause 140 = .ok (.bipush 100, 2) := by decide +kernel
theorem dX12_clause_142 : decode cX12_clause 142 = .ok (.goto 18, 3) := by decide +kernel
theorem dX12_clause_124 : decode cX12_clause 124 = .ok (.aload_n 0, 1) := by decide +kernel
theorem dX12_clause_125 : decode cX12_clause 125 = .ok (.iload_n 2, 1) := by decide +kernel
theorem tw_929 : Cond.methodLink RX12 254 yX12_keys ∈ wsL_law := List.mem_of_getElem? (i := 929) (by decide +kernel)
theorem tw_930 : Cond.instanceMethod yX12_keys ∈ wsL_law := List.mem_of_getElem? (i := 930) (by decide +kernel)
theorem tw_931 : Cond.selects RX12 yX12_keys yX12_keys ∈ wsL_law := List.mem_of_getElem? (i := 931) (by decide +kernel)
theorem tw_932 : Cond.code yX12_keys cX12_keys 4 (some .int) ∈ wsL_law := List.mem_of_getElem? (i := 932) (by decide +kernel)
theorem dX12_clause_126 : decode cX12_clause 126 = .ok (.invokevirtual 254, 3) := by decide +kernel
theorem dX12_clause_129 : decode cX12_clause 129 = .ok (.istore_n 3, 1) := by decide +kernel
theorem dX12_clause_130 : decode cX12_clause 130 = .ok (.goto 37, 3) := by decide +kernel
theorem dX12_clause_28 : decode cX12_clause 28 = .ok (.iconst 4, 1) := by decide +kernel
theorem dX12_clause_29 : decode cX12_clause 29 = .ok (.ireturn, 1) := by decide +kernel
theorem dX12_clause_9 : decode cX12_clause 9 = .ok (.iconst 1, 1) := by decide +kernel
theorem dX12_clause_10 : decode cX12_clause 10 = .ok (.ireturn, 1) := by decide +kernel
set_option maxHeartbeats 4000000 in
set_option maxRecDepth 100000 in
theorem s_X12_clause (l : Launch) (D : va_G) (t : pq_T) (σ : pq_S) (I : Nat → Nat → Int32) (J : Nat → Nat → Int64) (ri : Nat → Nat → Int32) (rj : Nat → Nat → Int64) (rq : Nat → Nat → Option Nat) (sz : Nat) (tg : Nat → Nat) (hSH : SH σ tg) (hG0 : GT tg I ri) (this : Nat) (hL_this : this ∈ σ.1) (hK_this : σ.2.1 this = 12) (this_a : Nat) (hR_this_a : σ.2.2.1 384 this = some this_a) (hL_this_a : this_a ∈ σ.1) (hK_this_a : σ.2.1 this_a = 13) (hN_this_a : σ.2.2.2 this_a = 12720) (hT_this_a : tg this_a = 384) (this_pile : Nat) (hR_this_pile : σ.2.2.1 400 this = some this_pile) (hL_this_pile : this_pile ∈ σ.1) (hK_this_pile : σ.2.1 this_pile = 13) (hN_this_pile : σ.2.2.2 this_pile = 160) (hT_this_pile : tg this_pile = 400) (hcl : CLz (I 396 this).toInt (I 398 this).toInt (I 402 this).toInt (I 391 this).toInt (I 393 this).toInt (I 397 this).toInt (ri this_a)) : MetI l yX12_clause (wa yX12_clause cX12_clause 4 (some .int)) ({ frames := 8, cells := 0, slots := 0, locals := 179 }) [.ref this] D t σ (I, J, ri, rj, rq) sz 0 0 (fun (r : Int32) (u : pq_S × pq_M) => ∃ I' : Nat → Nat → Int32, ∃ J' : Nat → Nat → Int64, ∃ ri' : Nat → Nat → Int32, u = (σ, I', J', ri', rj, rq) ∧ GM [391, 392, 393, 401, 398, 402, 397] tg σ I ri I' ri' rq ∧ (r.toInt ≠ 0 ∨ (CLz (I' 396 this).toInt (I' 398 this).toInt (I' 402 this).toInt (I' 391 this).toInt (I' 393 this).toInt (I' 397 this).toInt (ri' this_a) ∧ tmM (I' 391 this).toInt (I' 393 this).toInt < tmM (I 391 this).toInt (I 393 this).toInt)) ∧ rg r 0 5) := by
  refine Met.ofW (cc := cX12_clause) (maxL := 4) (ret := (some .int)) (by decide) rfl ?_
  intro p e s m args below meth c s₁ B hml hv
  obtain ⟨rfl, hsz, hP, hK, hD0, hN⟩ := hv
  have hx := B.exec
  have hb := B.bytes
  have hr := B.returns
  have hts := atoms_spec (ws := (wa yX12_clause cX12_clause 4 (some .int))) B.pre
  have hown : s.vm.findClass RX12 = some m.cls := findClass_of_methodNamed B.named
  have hlocks := B.notSynchronized
  subst hsz
  have hD : va_D (pq_B t σ (I, J, ri, rj, rq) s.heap.size) (pq_P t σ (I, J, ri, rj, rq)) := hD0.self
  generalize hAe : pq_B t σ (I, J, ri, rj, rq) s.heap.size = A at hD ⊢
  have hA : ∀ q : Nat, s.heap.size ≤ q → A q := fun q h => by rw [← hAe]; exact Or.inr h
  have hS : va_S A s.heap s.heap [] := va_S.rf
  have hG : GM [391, 392, 393, 401, 398, 402, 397] tg σ I ri I ri rq := ⟨hG0, fun _ _ _ => rfl, fun _ _ _ _ _ => rfl, fun _ _ _ _ _ _ => rfl⟩
  have hl := lv_entry ([.ref this]) (n := 4) (Nat.le_of_ble_eq_true rfl)
  rw [lg_entry_eq]
  generalize (lg_sl ([.ref this]) ++ List.replicate (4 - (lg_sl ([.ref this])).length) Slot.unset).toArray = ls at hl ⊢
  have hl : lv_has ls 4 [(0, .ref this)] := hl
  refine q_gen (fun Q hQ => ?_)
  have go : ∀ (H : Heap) (locs : List Loc) (ls : Array Slot), va_P D vwCl (pq_P t σ (I, J, ri, rj, rq)) H → va_D A (pq_P t σ (I, J, ri, rj, rq)) → va_S A s.heap H locs → lv_has ls 4 [(0, .ref this)] → W p l e ({ frames := 8, cells := 0, slots := 0, locals := 179 } : Room) s m (List.toArray ([.ref this] : List Value)) below meth c H locs 0 0 Q (F0 m 0 ls []) := by
    intro H locs ls hP hD hS hl
    have hc1 := hcl.1
    have hc3 := hcl.2.2.1
    have hc4 := hcl.2.2.2.1
    have hc5 := hcl.2.2.2.2
    have ce6 := clampE (ri this_a 6)
    have ceC := clampE (I 397 this)
    refine lv_aload_n hx hb dX12_clause_0 rfl (lv_at hl 0 rfl) ?_
    refine pk_i (va_runV (As := []) (rest := []) ⟨hx, hb, hml, hown, hts⟩ (s_X12_sortOf l D t σ I J ri rj rq H.size tg hSH hG.1 this hL_this hK_this) (cwV 0 hts (tw_V tw_853 tw_854 tw_855 tw_5 tw_856) rfl rfl rfl (by decide +kernel) ⟨Nat.le_of_ble_eq_true rfl, Nat.le_of_ble_eq_true rfl⟩) ⟨pq_blind, pq_recv hK hP hL_this hK_this (by decide) rfl, pq_pre hK hN hP hD⟩ rfl rfl hl.1 rfl (lv_room (Nat.le_of_ble_eq_true rfl)) dX12_clause_1 ⟨Nat.le_of_ble_eq_true rfl, Nat.le_of_ble_eq_true rfl⟩) hD hS hA (fun x_1 σ1 μ1 H locs hw_2 hP hD hS => ?_)
    obtain ⟨hu_3, hp_6, hr_5⟩ := hw_2
    obtain ⟨hu_3a, hu_3b⟩ := Prod.mk.inj hu_3
    rw [hu_3a, hu_3b] at hP hD
    have tt_7 := hp_6
    refine lv_istore_n (lv' := [(1, .int x_1), (0, .ref this)]) hx hb dX12_clause_4 rfl hl (by decide) rfl (fun ls hl => ?_)
    refine lv_iload_n hx hb dX12_clause_5 rfl (lv_at hl 0 rfl) ?_
    refine lv_if_ne (tgt := 11) hx hb dX12_clause_6 (by decide) (fun c_8 => ?_) (fun c_8 => ?_)
    · have tc_9 : (x_1).toInt ≠ 0 := fun q => c_8 (Int32.toInt_inj.mp q)
      have h_10 : rg x_1 1 9 := rg_ne c_8 hr_5 0 rfl (by decide)
      have uh_10 := h_10.1
      have vh_10 := h_10.2
      refine lv_iload_n hx hb dX12_clause_11 rfl (lv_at hl 0 rfl) ?_
      refine lv_iconst (v := 5) hx hb dX12_clause_12 (by decide) ?_
      refine lv_icmp_lt (tgt := 30) hx hb dX12_clause_13 (by decide) (fun c_11 => ?_) (fun c_11 => ?_)
      · have tc_12 : (x_1).toInt < 5 := Int32.lt_iff_toInt_lt.mp c_11
        have h_13 : rg x_1 1 4 := rg_lt1 c_11 h_10 (rg_k (5 : Int32) 5 rfl) (by decide)
        have uh_13 := h_13.1
        have vh_13 := h_13.2
        refine lv_aload_n hx hb dX12_clause_30 rfl (lv_at hl 1 rfl) ?_
        refine pg_f (v := .int (I 397 this)) (C := RX12) (T := TX12) (N := 31) hx hb hts (tw_i inlX12) hown hK hP hL_this hK_this (by decide) rfl 13 (by decide) (hts _ (tw_c tw_822)) rfl dX12_clause_31 ?_
        have h_14 : rg (I 397 this) 0 20 := GM.rI hG 397 rfl
        have uh_14 := h_14.1
        have vh_14 := h_14.2
        refine lv_bipush (v := 20) hx hb dX12_clause_34 (by decide) ?_
        refine lv_icmp_ne (tgt := 41) hx hb dX12_clause_36 (by decide) (fun c_15 => ?_) (fun c_15 => ?_)
        · have tc_16 : (I 397 this).toInt ≠ 20 := fun q => c_15 (Int32.toInt_inj.mp q)
          have h_17 : rg (I 397 this) 0 19 := rg_ne c_15 h_14 20 rfl (by decide)
          have uh_17 := h_17.1
          have vh_17 := h_17.2
          refine lv_aload_n hx hb dX12_clause_41 rfl (lv_at hl 1 rfl) ?_
          refine lv_dup hx hb dX12_clause_42 rfl ?_
          refine pg_f (v := .int (I 399 this)) (C := RX12) (T := TX12) (N := 31) hx hb hts (tw_i inlX12) hown hK hP hL_this hK_this (by decide) rfl 15 (by decide) (hts _ (tw_c tw_829)) rfl dX12_clause_43 ?_
          refine lv_iconst (v := 1) hx hb dX12_clause_46 (by decide) ?_
          refine lv_iload_n hx hb dX12_clause_47 rfl (lv_at hl 0 rfl) ?_
          refine lv_ishl hx hb dX12_clause_48 ?_
          refine lv_topi (fun x_18 ex_18 => ?_)
          refine lv_ior hx hb dX12_clause_49 ?_
          refine lv_topi (fun x_19 ex_19 => ?_)
          refine pp_i (v := x_19) (ty := .int) (C := RX12) (T := TX12) (N := 31) hx hb hts (tw_i inlX12) tyX12 tyX12_ok nmX12 hown hK hP hD hS hL_this hK_this (by decide) rfl 15 399 (by decide) (hts _ (tw_c tw_829)) rfl (by decide +kernel) rfl rfl (Nat.le_of_ble_eq_true rfl) (ps_399 _ _ _ _ _) dX12_clause_50 (fun I_20 H locs eI_20 hP hD hS => ?_)
          have hG := GM.wI hG 399 rfl eI_20 (rg_w (rg_full _) (by decide)) (by decide)
          have tt_21 : (I_20 396 this).toInt = (I 396 this).toInt := by rw [eI_20, pq_uf _ _ _ (by decide)]
          have tt_22 : (I_20 398 this).toInt = (I 398 this).toInt := by rw [eI_20, pq_uf _ _ _ (by decide)]
          have tt_23 : (I_20 401 this).toInt = (I 401 this).toInt := by rw [eI_20, pq_uf _ _ _ (by decide)]
          have tt_24 : (I_20 402 this).toInt = (I 402 this).toInt := by rw [eI_20, pq_uf _ _ _ (by decide)]
          have tt_25 : (I_20 391 this).toInt = (I 391 this).toInt := by rw [eI_20, pq_uf _ _ _ (by decide)]
          have tt_26 : (I_20 393 this).toInt = (I 393 this).toInt := by rw [eI_20, pq_uf _ _ _ (by decide)]
          have tt_27 : (I_20 403 this).toInt = (I 403 this).toInt := by rw [eI_20, pq_uf _ _ _ (by decide)]
          have tt_28 : (I_20 397 this).toInt = (I 397 this).toInt := by rw [eI_20, pq_uf _ _ _ (by decide)]
          refine lv_aload_n hx hb dX12_clause_53 rfl (lv_at hl 1 rfl) ?_
          refine pg_f (v := .int (I_20 396 this)) (C := RX12) (T := TX12) (N := 31) hx hb hts (tw_i inlX12) hown hK hP hL_this hK_this (by decide) rfl 12 (by decide) (hts _ (tw_c tw_821)) rfl dX12_clause_54 ?_
          have h_29 : rg (I_20 396 this) 0 11820 := GM.rI hG 396 rfl
          have uh_29 := h_29.1
          have vh_29 := h_29.2
          refine lv_iconst (v := 1) hx hb dX12_clause_57 (by decide) ?_
          refine lv_iadd hx hb dX12_clause_58 ?_
          refine lv_topi (fun x_30 ex_30 => ?_)
          have h_31 : rg x_30 1 11821 := rg_of_eq ex_30 (rg_add h_29 (rg_k (1 : Int32) 1 rfl) (by decide))
          have uh_31 := h_31.1
          have vh_31 := h_31.2
          have tx_30 : (x_30).toInt = (I_20 396 this).toInt + 1 := by rw [ex_30]; exact i_add_rg (a2 := (I_20 396 this).toInt) (b2 := 1) rfl rfl h_29 (rg_k (1 : Int32) 1 rfl) (by decide)
          refine lv_bipush (v := 12) hx hb dX12_clause_59 (by decide) ?_
          refine lv_aload_n hx hb dX12_clause_61 rfl (lv_at hl 1 rfl) ?_
          refine pg_f (v := .int (I_20 397 this)) (C := RX12) (T := TX12) (N := 31) hx hb hts (tw_i inlX12) hown hK hP hL_this hK_this (by decide) rfl 13 (by decide) (hts _ (tw_c tw_822)) rfl dX12_clause_62 ?_
          have h_32 : rg (I_20 397 this) 0 19 := (by rw [eI_20, pq_uf _ _ _ (by decide)]; exact h_17)
          have uh_32 := h_32.1
          have vh_32 := h_32.2
          refine lv_imul hx hb dX12_clause_65 ?_
          refine lv_topi (fun x_33 ex_33 => ?_)
          have h_34 : rg x_33 0 228 := rg_of_eq ex_33 (rg_mul (rg_k (12 : Int32) 12 rfl) h_32 (by decide))
          have uh_34 := h_34.1
          have vh_34 := h_34.2
          have tx_33 : (x_33).toInt = 12 * (I_20 397 this).toInt := by rw [ex_33]; exact i_mul_rg (a2 := 12) (b2 := (I_20 397 this).toInt) rfl rfl (rg_k (12 : Int32) 12 rfl) h_32 (by decide)
          refine lv_iadd hx hb dX12_clause_66 ?_
          refine lv_topi (fun x_35 ex_35 => ?_)
          have h_36 : rg x_35 1 12049 := rg_of_eq ex_35 (rg_add h_31 h_34 (by decide))
          have uh_36 := h_36.1
          have vh_36 := h_36.2
          have tx_35 : (x_35).toInt = (x_30).toInt + (x_33).toInt := by rw [ex_35]; exact i_add_rg (a2 := (x_30).toInt) (b2 := (x_33).toInt) rfl rfl h_31 h_34 (by decide)
          have hcx : (x_35).toInt = 3721 + 900 * (ri this_a 6).toInt + 12 * (I 397 this).toInt := by omega
          have hC19 : rg (I 397 this) 0 19 := ⟨by omega, by omega⟩
          have h_37 : rg x_35 3721 12049 := ⟨by omega, by omega⟩
          have uh_37 := h_37.1
          have vh_37 := h_37.2
          have ceX := clampE x_35
          refine lv_istore_n (lv' := [(2, .int x_35), (1, .int x_1), (0, .ref this)]) hx hb dX12_clause_67 rfl hl (by decide) rfl (fun ls hl => ?_)
          refine lv_aload_n hx hb dX12_clause_68 rfl (lv_at hl 2 rfl) ?_
          refine pg_f (v := .ref this_a) (C := RX12) (T := TX12) (N := 31) hx hb hts (tw_i inlX12) hown hK hP hL_this hK_this (by decide) rfl 0 (by decide) (hts _ (tw_c tw_176)) (pq_hv rfl hR_this_a) dX12_clause_69 ?_
          refine lv_iload_n hx hb dX12_clause_72 rfl (lv_at hl 0 rfl) ?_
          refine lv_iload_n hx hb dX12_clause_73 rfl (lv_at hl 1 rfl) ?_
          refine pt_i hx hb hK hP hD hS hL_this_a hK_this_a hN_this_a (rg_in h_37 (by decide)) dX12_clause_74 (fun r_38 H locs er_38 hP hD hS => ?_)
          have hG := GM.wt hG hT_this_a (by decide) er_38 (zn_tc (t := (ri this_a 6).toNatClampNeg) (c := (I 397 this).toNatClampNeg) (k := 0) (by have z_i := clampE x_35; have z_0 := clampE (ri this_a 6); have z_1 := clampE (I 397 this); omega) (rg_cl1 ⟨hc1.2.1, hc1.2.2⟩ (by decide)) (rg_cl1 hC19 (by decide)) (by decide)) rfl (rg_w h_13 (by decide)) (by have z6 := congrArg Int32.toInt (hG.2.2.1 this_a hT_this_a 6 (by decide) (by decide)); have z_i := clampE x_35; omega) (by decide)
          refine lv_aload_n hx hb dX12_clause_75 rfl (lv_at hl 2 rfl) ?_
          obtain ⟨w_39, hR_w_39, hL_w_39, hK_w_39, hN_w_39, hT_w_39⟩ := sh_a hSH 387 (ci := 12) (kd := 13) (len := 300) rfl (by decide) hL_this hK_this
          refine pk_v (va_runV (As := []) (rest := []) ⟨hx, hb, hml, hown, hts⟩ (s_X12_nextToken_x l D t σ I_20 J r_38 rj rq H.size tg hSH hG.1 this hL_this hK_this w_39 hR_w_39 hL_w_39 hK_w_39 hN_w_39 hT_w_39) (cwV 0 hts (tw_V tw_832 tw_833 tw_834 tw_5 tw_835) rfl rfl rfl (by decide +kernel) ⟨Nat.le_of_ble_eq_true rfl, Nat.le_of_ble_eq_true rfl⟩) ⟨pq_blind, pq_recv hK hP hL_this hK_this (by decide) rfl, pq_pre hK hN hP hD⟩ rfl rfl hl.1 rfl (lv_room (Nat.le_of_ble_eq_true rfl)) dX12_clause_76 ⟨Nat.le_of_ble_eq_true rfl, Nat.le_of_ble_eq_true rfl⟩) hD hS hA (fun σ1 μ1 H locs hw_41 hP hD hS => ?_)
          obtain ⟨I_42, J_43, hu_44, hg_45, hp_47, hp_48, hp_49⟩ := hw_41
          obtain ⟨hu_44a, hu_44b⟩ := Prod.mk.inj hu_44
          rw [hu_44a, hu_44b] at hP hD
          have tt_50 := hp_47
          have tt_51 := hp_48
          have tt_52 := hp_49
          have tt_53 : (I_42 391 this).toInt ≤ 300 := by have z := hg_45.1.1 391 this; exact z.2
          have hG := GM.tr hG hg_45 (by decide)
          have tt_54 : (I_42 396 this).toInt = (I_20 396 this).toInt := by rw [hg_45.2.1 396 (by decide) (by decide)]
          have tt_55 : (I_42 398 this).toInt = (I_20 398 this).toInt := by rw [hg_45.2.1 398 (by decide) (by decide)]
          have tt_56 : (I_42 401 this).toInt = (I_20 401 this).toInt := by rw [hg_45.2.1 401 (by decide) (by decide)]
          have tt_57 : (I_42 402 this).toInt = (I_20 402 this).toInt := by rw [hg_45.2.1 402 (by decide) (by decide)]
          have tt_58 : (I_42 397 this).toInt = (I_20 397 this).toInt := by rw [hg_45.2.1 397 (by decide) (by decide)]
          have htmH : tmM (I_42 391 this).toInt (I_42 393 this).toInt ≤ tmM (I 391 this).toInt (I 393 this).toInt := Int.le_of_lt (tm_lt (by omega) (by omega) (by omega))
          refine lv_iconst (v := 0) hx hb dX12_clause_79 (by decide) ?_
          refine lv_istore_n (lv' := [(3, .int 0), (2, .int x_35), (1, .int x_1), (0, .ref this)]) hx hb dX12_clause_80 rfl hl (by decide) rfl (fun ls hl => ?_)
          refine lv_iload_n hx hb dX12_clause_81 rfl (lv_at hl 2 rfl) ?_
          refine lv_iconst (v := 4) hx hb dX12_clause_82 (by decide) ?_
          refine lv_icmp_gt (tgt := 118) hx hb dX12_clause_83 (by decide) (fun c_59 => ?_) (fun c_59 => ?_)
          · have tc_60 : 4 < (x_1).toInt := Int32.lt_iff_toInt_lt.mp c_59
            exact (rg_empty (rg_lt2 c_59 (rg_k (4 : Int32) 4 rfl) h_13 (lo := 5) (hi := 4) (by decide)) (by decide)).elim
          · have tc_61 : (x_1).toInt ≤ 4 := Int32.le_iff_toInt_le.mp (nlt c_59)
            refine lv_aload_n hx hb dX12_clause_86 rfl (lv_at hl 3 rfl) ?_
            refine pg_f (v := .ref this_a) (C := RX12) (T := TX12) (N := 31) hx hb hts (tw_i inlX12) hown hK hP hL_this hK_this (by decide) rfl 0 (by decide) (hts _ (tw_c tw_176)) (pq_hv rfl hR_this_a) dX12_clause_87 ?_
            refine lv_iload_n hx hb dX12_clause_90 rfl (lv_at hl 1 rfl) ?_
            refine lv_iconst (v := 2) hx hb dX12_clause_91 (by decide) ?_
            refine lv_iadd hx hb dX12_clause_92 ?_
            refine lv_topi (fun x_62 ex_62 => ?_)
            have h_63 : rg x_62 3723 12051 := rg_of_eq ex_62 (rg_add h_37 (rg_k (2 : Int32) 2 rfl) (by decide))
            have uh_63 := h_63.1
            have vh_63 := h_63.2
            have tx_62 : (x_62).toInt = (x_35).toInt + 2 := by rw [ex_62]; exact i_add_rg (a2 := (x_35).toInt) (b2 := 2) rfl rfl h_37 (rg_k (2 : Int32) 2 rfl) (by decide)
            refine lv_aload_n hx hb dX12_clause_93 rfl (lv_at hl 3 rfl) ?_
            refine pg_f (v := .int (I_42 398 this)) (C := RX12) (T := TX12) (N := 31) hx hb hts (tw_i inlX12) hown hK hP hL_this hK_this (by decide) rfl 14 (by decide) (hts _ (tw_c tw_827)) rfl dX12_clause_94 ?_
            have h_64 : rg (I_42 398 this) 0 300 := GM.rI hG 398 rfl
            have uh_64 := h_64.1
            have vh_64 := h_64.2
            refine pt_i hx hb hK hP hD hS hL_this_a hK_this_a hN_this_a (rg_in h_63 (by decide)) dX12_clause_97 (fun r_65 H locs er_65 hP hD hS => ?_)
            have hG := GM.wt hG hT_this_a (by decide) er_65 (zn_tc (t := (ri this_a 6).toNatClampNeg) (c := (I 397 this).toNatClampNeg) (k := 2) (by have z_i := clampE x_62; have z_0 := clampE (ri this_a 6); have z_1 := clampE (I 397 this); omega) (rg_cl1 ⟨hc1.2.1, hc1.2.2⟩ (by decide)) (rg_cl1 hC19 (by decide)) (by decide)) rfl (rg_w h_64 (by decide)) (by have z6 := congrArg Int32.toInt (hG.2.2.1 this_a hT_this_a 6 (by decide) (by decide)); have z_i := clampE x_62; omega) (by decide)
            refine lv_aload_n hx hb dX12_clause_98 rfl (lv_at hl 3 rfl) ?_
            have h26 : r_65 this_a 6 = ri this_a 6 := hG.2.2.1 this_a hT_this_a 6 (by decide) (by decide)
            have hpbN := PBz_new (t := (I_42 396 this).toInt) (w := (I_42 398 this).toInt) (o := (I_42 402 this).toInt) (s := (I_42 391 this).toInt) (k := (I_42 393 this).toInt) (f := r_65 this_a) (by rw [h26]; omega) (by omega) (by omega) (by omega) (fun q => by omega) (by omega)
            refine pk_i (va_runV (As := []) (rest := []) ⟨hx, hb, hml, hown, hts⟩ (s_X12_either l D t σ I_42 J_43 r_65 rj rq H.size tg hSH hG.1 this hL_this hK_this this_a hR_this_a hL_this_a hK_this_a hN_this_a hT_this_a this_pile hR_this_pile hL_this_pile hK_this_pile hN_this_pile hT_this_pile (3970 + 900 * (r_65 this_a 6).toInt + 2 * (I_42 398 this).toInt).toNat (r_65 this_a) (I_42 398 this).toInt 0 0 0 0 (by assumption)) (cwV 0 hts (tw_V tw_870 tw_871 tw_872 tw_5 tw_873) rfl rfl rfl (by decide +kernel) ⟨Nat.le_of_ble_eq_true rfl, Nat.le_of_ble_eq_true rfl⟩) ⟨pq_blind, pq_recv hK hP hL_this hK_this (by decide) rfl, pq_pre hK hN hP hD⟩ rfl rfl hl.1 rfl (lv_room (Nat.le_of_ble_eq_true rfl)) dX12_clause_99 ⟨Nat.le_of_ble_eq_true rfl, Nat.le_of_ble_eq_true rfl⟩) hD hS hA (fun x_66 σ1 μ1 H locs hw_67 hP hD hS => ?_)
            obtain ⟨I_68, J_69, ri_70, hu_71, hg_72, hp_74, hr_73⟩ := hw_67
            obtain ⟨hu_71a, hu_71b⟩ := Prod.mk.inj hu_71
            rw [hu_71a, hu_71b] at hP hD
            have hG := GM.tr hG hg_72 (by decide)
            have tt_75 : (I_68 396 this).toInt = (I_42 396 this).toInt := by rw [hg_72.2.1 396 (by decide) (by decide)]
            have tt_76 : (I_68 397 this).toInt = (I_42 397 this).toInt := by rw [hg_72.2.1 397 (by decide) (by decide)]
            refine lv_istore_n (lv' := [(3, .int x_66), (2, .int x_35), (1, .int x_1), (0, .ref this)]) hx hb dX12_clause_102 rfl hl (by decide) rfl (fun ls hl => ?_)
            refine lv_aload_n hx hb dX12_clause_103 rfl (lv_at hl 3 rfl) ?_
            refine pg_f (v := .ref this_a) (C := RX12) (T := TX12) (N := 31) hx hb hts (tw_i inlX12) hown hK hP hL_this hK_this (by decide) rfl 0 (by decide) (hts _ (tw_c tw_176)) (pq_hv rfl hR_this_a) dX12_clause_104 ?_
            refine lv_iload_n hx hb dX12_clause_107 rfl (lv_at hl 1 rfl) ?_
            refine lv_iconst (v := 3) hx hb dX12_clause_108 (by decide) ?_
            refine lv_iadd hx hb dX12_clause_109 ?_
            refine lv_topi (fun x_77 ex_77 => ?_)
            have h_78 : rg x_77 3724 12052 := rg_of_eq ex_77 (rg_add h_37 (rg_k (3 : Int32) 3 rfl) (by decide))
            have uh_78 := h_78.1
            have vh_78 := h_78.2
            have tx_77 : (x_77).toInt = (x_35).toInt + 3 := by rw [ex_77]; exact i_add_rg (a2 := (x_35).toInt) (b2 := 3) rfl rfl h_37 (rg_k (3 : Int32) 3 rfl) (by decide)
            refine lv_aload_n hx hb dX12_clause_110 rfl (lv_at hl 3 rfl) ?_
            refine pg_f (v := .int (I_68 398 this)) (C := RX12) (T := TX12) (N := 31) hx hb hts (tw_i inlX12) hown hK hP hL_this hK_this (by decide) rfl 14 (by decide) (hts _ (tw_c tw_827)) rfl dX12_clause_111 ?_
            have h_79 : rg (I_68 398 this) 0 300 := GM.rI hG 398 rfl
            have uh_79 := h_79.1
            have vh_79 := h_79.2
            refine pt_i hx hb hK hP hD hS hL_this_a hK_this_a hN_this_a (rg_in h_78 (by decide)) dX12_clause_114 (fun r_80 H locs er_80 hP hD hS => ?_)
            have hG := GM.wt hG hT_this_a (by decide) er_80 (zn_tc (t := (ri this_a 6).toNatClampNeg) (c := (I 397 this).toNatClampNeg) (k := 3) (by have z_i := clampE x_77; have z_0 := clampE (ri this_a 6); have z_1 := clampE (I 397 this); omega) (rg_cl1 ⟨hc1.2.1, hc1.2.2⟩ (by decide)) (rg_cl1 hC19 (by decide)) (by decide)) rfl (rg_w h_79 (by decide)) (by have z6 := congrArg Int32.toInt (hG.2.2.1 this_a hT_this_a 6 (by decide) (by decide)); have z_i := clampE x_77; omega) (by decide)
            refine lv_goto (tgt := 167) hx hb dX12_clause_115 (by decide) ?_
            refine lv_iload_n hx hb dX12_clause_167 rfl (lv_at hl 0 rfl) ?_
            refine lv_if_eq (tgt := 173) hx hb dX12_clause_168 (by decide) (fun c_81 => ?_) (fun c_81 => ?_)
            · have tc_82 : (x_66).toInt = 0 := congrArg Int32.toInt c_81
              have h_83 : rg x_66 0 0 := rg_and hr_73 (rg_of_eq c_81 (rg_k (0 : Int32) 0 rfl)) (by decide)
              have uh_83 := h_83.1
              have vh_83 := h_83.2
              refine lv_aload_n hx hb dX12_clause_173 rfl (lv_at hl 3 rfl) ?_
              refine pg_f (v := .int (I_68 393 this)) (C := RX12) (T := TX12) (N := 31) hx hb hts (tw_i inlX12) hown hK hP hL_this hK_this (by decide) rfl 9 (by decide) (hts _ (tw_c tw_831)) rfl dX12_clause_174 ?_
              refine lv_bipush (v := 59) hx hb dX12_clause_177 (by decide) ?_
              refine lv_icmp_eq (tgt := 184) hx hb dX12_clause_179 (by decide) (fun c_84 => ?_) (fun c_84 => ?_)
              · have tc_85 : (I_68 393 this).toInt = 59 := congrArg Int32.toInt c_84
                have h_86 : rg (I_68 393 this) 59 59 := rg_and (rg_full _) (rg_of_eq c_84 (rg_k (59 : Int32) 59 rfl)) (by decide)
                have uh_86 := h_86.1
                have vh_86 := h_86.2
                refine lv_aload_n hx hb dX12_clause_184 rfl (lv_at hl 3 rfl) ?_
                refine lv_dup hx hb dX12_clause_185 rfl ?_
                refine pg_f (v := .int (I_68 397 this)) (C := RX12) (T := TX12) (N := 31) hx hb hts (tw_i inlX12) hown hK hP hL_this hK_this (by decide) rfl 13 (by decide) (hts _ (tw_c tw_822)) rfl dX12_clause_186 ?_
                have h_87 : rg (I_68 397 this) 0 19 := (by rw [hg_72.2.1 397 (by decide) (by decide)]; exact (by rw [hg_45.2.1 397 (by decide) (by decide)]; exact h_32))
                have uh_87 := h_87.1
                have vh_87 := h_87.2
                refine lv_iconst (v := 1) hx hb dX12_clause_189 (by decide) ?_
                refine lv_iadd hx hb dX12_clause_190 ?_
                refine lv_topi (fun x_88 ex_88 => ?_)
                have h_89 : rg x_88 1 20 := rg_of_eq ex_88 (rg_add h_87 (rg_k (1 : Int32) 1 rfl) (by decide))
                have uh_89 := h_89.1
                have vh_89 := h_89.2
                have tx_88 : (x_88).toInt = (I_68 397 this).toInt + 1 := by rw [ex_88]; exact i_add_rg (a2 := (I_68 397 this).toInt) (b2 := 1) rfl rfl h_87 (rg_k (1 : Int32) 1 rfl) (by decide)
                refine pp_i (v := x_88) (ty := .int) (C := RX12) (T := TX12) (N := 31) hx hb hts (tw_i inlX12) tyX12 tyX12_ok nmX12 hown hK hP hD hS hL_this hK_this (by decide) rfl 13 397 (by decide) (hts _ (tw_c tw_822)) rfl (by decide +kernel) rfl rfl (Nat.le_of_ble_eq_true rfl) (ps_397 _ _ _ _ _) dX12_clause_191 (fun I_90 H locs eI_90 hP hD hS => ?_)
                have hG := GM.wI hG 397 rfl eI_90 (rg_w h_89 (by decide)) (by decide)
                have tt_91 : (I_90 396 this).toInt = (I_68 396 this).toInt := by rw [eI_90, pq_uf _ _ _ (by decide)]
                have tt_92 : (I_90 398 this).toInt = (I_68 398 this).toInt := by rw [eI_90, pq_uf _ _ _ (by decide)]
                have tt_93 : (I_90 401 this).toInt = (I_68 401 this).toInt := by rw [eI_90, pq_uf _ _ _ (by decide)]
                have tt_94 : (I_90 402 this).toInt = (I_68 402 this).toInt := by rw [eI_90, pq_uf _ _ _ (by decide)]
                have tt_95 : (I_90 391 this).toInt = (I_68 391 this).toInt := by rw [eI_90, pq_uf _ _ _ (by decide)]
                have tt_96 : (I_90 393 this).toInt = (I_68 393 this).toInt := by rw [eI_90, pq_uf _ _ _ (by decide)]
                have tt_97 : (I_90 403 this).toInt = (I_68 403 this).toInt := by rw [eI_90, pq_uf _ _ _ (by decide)]
                have tt_98 : (I_90 397 this).toInt = (x_88).toInt := by rw [eI_90, pq_us]
                refine lv_aload_n hx hb dX12_clause_194 rfl (lv_at hl 3 rfl) ?_
                refine pk_v (va_runV (As := []) (rest := []) ⟨hx, hb, hml, hown, hts⟩ (s_X12_nextToken_x l D t σ I_90 J_69 r_80 rj rq H.size tg hSH hG.1 this hL_this hK_this w_39 hR_w_39 hL_w_39 hK_w_39 hN_w_39 hT_w_39) (cwV 0 hts (tw_V tw_832 tw_833 tw_834 tw_5 tw_835) rfl rfl rfl (by decide +kernel) ⟨Nat.le_of_ble_eq_true rfl, Nat.le_of_ble_eq_true rfl⟩) ⟨pq_blind, pq_recv hK hP hL_this hK_this (by decide) rfl, pq_pre hK hN hP hD⟩ rfl rfl hl.1 rfl (lv_room (Nat.le_of_ble_eq_true rfl)) dX12_clause_195 ⟨Nat.le_of_ble_eq_true rfl, Nat.le_of_ble_eq_true rfl⟩) hD hS hA (fun σ1 μ1 H locs hw_100 hP hD hS => ?_)
                obtain ⟨I_101, J_102, hu_103, hg_104, hp_106, hp_107, hp_108⟩ := hw_100
                obtain ⟨hu_103a, hu_103b⟩ := Prod.mk.inj hu_103
                rw [hu_103a, hu_103b] at hP hD
                have tt_109 := hp_106
                have tt_110 := hp_107
                have tt_111 := hp_108
                have tt_112 : (I_101 391 this).toInt ≤ 300 := by have z := hg_104.1.1 391 this; exact z.2
                have hG := GM.tr hG hg_104 (by decide)
                have tt_113 : (I_101 396 this).toInt = (I_90 396 this).toInt := by rw [hg_104.2.1 396 (by decide) (by decide)]
                have tt_114 : (I_101 398 this).toInt = (I_90 398 this).toInt := by rw [hg_104.2.1 398 (by decide) (by decide)]
                have tt_115 : (I_101 401 this).toInt = (I_90 401 this).toInt := by rw [hg_104.2.1 401 (by decide) (by decide)]
                have tt_116 : (I_101 402 this).toInt = (I_90 402 this).toInt := by rw [hg_104.2.1 402 (by decide) (by decide)]
                have tt_117 : (I_101 397 this).toInt = (I_90 397 this).toInt := by rw [hg_104.2.1 397 (by decide) (by decide)]
                refine lv_iconst (v := 0) hx hb dX12_clause_198 (by decide) ?_
                subst hQ
                exact W.iret (v := 0) hx hb hr (fun t1 ht hW => ⟨⟨0, (σ, I_101, J_102, r_80, rj, rq), rfl, ⟨I_101, J_102, r_80, rfl, hG, (Or.inr ⟨(CLz_mk (by rw [show r_80 this_a 6 = ri this_a 6 from hG.2.2.1 this_a hT_this_a 6 (by decide) (by decide)]; omega) (by rw [show (I_101 397 this).toInt = (((I 397 this).toNatClampNeg + 1 : Nat) : Int) from by omega]; have q := TXQ_code (f := ri this_a) (w := (I_42 398 this).toInt) (n := (I 397 this).toNatClampNeg) (ci := (x_35).toNatClampNeg) (by rw [show (((I 397 this).toNatClampNeg : Nat) : Int) = (I 397 this).toInt from by omega, show (I_42 398 this).toInt = (I 398 this).toInt from by omega]; exact hcl.2.1) (by omega) ⟨by omega, by omega⟩ (by omega) (by omega) ((congrFun er_38 _).trans (va_up_self _ _ _)) (by have z0 := clampE x_62; omega) ((congrFun er_65 _).trans (va_up_self _ _ _)) (hp_74.resolve_left (fun q => q (by omega))).1 (by have z0 := clampE x_77; omega) ((congrFun er_80 _).trans (va_up_self _ _ _)) (by omega) (by omega); rw [show (I_101 398 this).toInt = (I_68 398 this).toInt from by omega]; exact q) (by omega) (by omega) (by omega) (fun q => by omega) (by omega)), (by have l1 : tmM (I_101 391 this).toInt (I_101 393 this).toInt < tmM (I_90 391 this).toInt (I_90 393 this).toInt := tm_lt (by omega) (by omega) (by omega); have l2 : tmM (I_90 391 this).toInt (I_90 393 this).toInt = tmM (I_68 391 this).toInt (I_68 393 this).toInt := by rw [show (I_90 391 this).toInt = (I_68 391 this).toInt from by omega, show (I_90 393 this).toInt = (I_68 393 this).toInt from by omega]; have l3 := (Int.le_trans (hp_74.resolve_left (fun q => q (by omega))).2 htmH); omega)⟩), (rg_w (rg_k (0 : Int32) 0 rfl) (by decide))⟩, by rw [ht]; exact hP, va_K.moved hW.alike hK, hD⟩, hS.F ht⟩) hS.2.2 dX12_clause_199
              · have tc_118 : (I_68 393 this).toInt ≠ 59 := fun q => c_84 (Int32.toInt_inj.mp q)
                refine lv_iconst (v := 1) hx hb dX12_clause_182 (by decide) ?_
                subst hQ
                exact W.iret (v := 1) hx hb hr (fun t1 ht hW => ⟨⟨1, (σ, I_68, J_69, r_80, rj, rq), rfl, ⟨I_68, J_69, r_80, rfl, hG, (Or.inl (by decide)), (rg_w (rg_k (1 : Int32) 1 rfl) (by decide))⟩, by rw [ht]; exact hP, va_K.moved hW.alike hK, hD⟩, hS.F ht⟩) hS.2.2 dX12_clause_183
            · have tc_119 : (x_66).toInt ≠ 0 := fun q => c_81 (Int32.toInt_inj.mp q)
              have h_120 : rg x_66 1 3 := rg_ne c_81 hr_73 0 rfl (by decide)
              have uh_120 := h_120.1
              have vh_120 := h_120.2
              refine lv_iload_n hx hb dX12_clause_171 rfl (lv_at hl 0 rfl) ?_
              subst hQ
              exact W.iret (v := x_66) hx hb hr (fun t1 ht hW => ⟨⟨x_66, (σ, I_68, J_69, r_80, rj, rq), rfl, ⟨I_68, J_69, r_80, rfl, hG, (Or.inl (by omega)), (rg_w h_120 (by decide))⟩, by rw [ht]; exact hP, va_K.moved hW.alike hK, hD⟩, hS.F ht⟩) hS.2.2 dX12_clause_172
        · have tc_121 : (I 397 this).toInt = 20 := congrArg Int32.toInt c_15
          have h_122 : rg (I 397 this) 20 20 := rg_and h_14 (rg_of_eq c_15 (rg_k (20 : Int32) 20 rfl)) (by decide)
          have uh_122 := h_122.1
          have vh_122 := h_122.2
          refine lv_iconst (v := 5) hx hb dX12_clause_39 (by decide) ?_
          subst hQ
          exact W.iret (v := 5) hx hb hr (fun t1 ht hW => ⟨⟨5, (σ, I, J, ri, rj, rq), rfl, ⟨I, J, ri, rfl, hG, (Or.inl (by decide)), (rg_w (rg_k (5 : Int32) 5 rfl) (by decide))⟩, by rw [ht]; exact hP, va_K.moved hW.alike hK, hD⟩, hS.F ht⟩) hS.2.2 dX12_clause_40
      · have tc_123 : 5 ≤ (x_1).toInt := Int32.le_iff_toInt_le.mp (nlt c_11)
        have h_124 : rg x_1 5 9 := rg_le2 (nlt c_11) (rg_k (5 : Int32) 5 rfl) h_10 (by decide)
        have uh_124 := h_124.1
        have vh_124 := h_124.2
        refine lv_aload_n hx hb dX12_clause_16 rfl (lv_at hl 1 rfl) ?_
        refine pg_f (v := .int (I 399 this)) (C := RX12) (T := TX12) (N := 31) hx hb hts (tw_i inlX12) hown hK hP hL_this hK_this (by decide) rfl 15 (by decide) (hts _ (tw_c tw_829)) rfl dX12_clause_17 ?_
        refine lv_iload_n hx hb dX12_clause_20 rfl (lv_at hl 0 rfl) ?_
        refine lv_ishr hx hb dX12_clause_21 ?_
        refine lv_topi (fun x_125 ex_125 => ?_)
        refine lv_iconst (v := 1) hx hb dX12_clause_22 (by decide) ?_
        refine lv_iand hx hb dX12_clause_23 ?_
        refine lv_topi (fun x_126 ex_126 => ?_)
        refine lv_iconst (v := 1) hx hb dX12_clause_24 (by decide) ?_
        refine lv_icmp_ne (tgt := 30) hx hb dX12_clause_25 (by decide) (fun c_127 => ?_) (fun c_127 => ?_)
        · have tc_128 : (x_126).toInt ≠ 1 := fun q => c_127 (Int32.toInt_inj.mp q)
          refine lv_aload_n hx hb dX12_clause_30 rfl (lv_at hl 1 rfl) ?_
          refine pg_f (v := .int (I 397 this)) (C := RX12) (T := TX12) (N := 31) hx hb hts (tw_i inlX12) hown hK hP hL_this hK_this (by decide) rfl 13 (by decide) (hts _ (tw_c tw_822)) rfl dX12_clause_31 ?_
          have h_129 : rg (I 397 this) 0 20 := GM.rI hG 397 rfl
          have uh_129 := h_129.1
          have vh_129 := h_129.2
          refine lv_bipush (v := 20) hx hb dX12_clause_34 (by decide) ?_
          refine lv_icmp_ne (tgt := 41) hx hb dX12_clause_36 (by decide) (fun c_130 => ?_) (fun c_130 => ?_)
          · have tc_131 : (I 397 this).toInt ≠ 20 := fun q => c_130 (Int32.toInt_inj.mp q)
            have h_132 : rg (I 397 this) 0 19 := rg_ne c_130 h_129 20 rfl (by decide)
            have uh_132 := h_132.1
            have vh_132 := h_132.2
            refine lv_aload_n hx hb dX12_clause_41 rfl (lv_at hl 1 rfl) ?_
            refine lv_dup hx hb dX12_clause_42 rfl ?_
            refine pg_f (v := .int (I 399 this)) (C := RX12) (T := TX12) (N := 31) hx hb hts (tw_i inlX12) hown hK hP hL_this hK_this (by decide) rfl 15 (by decide) (hts _ (tw_c tw_829)) rfl dX12_clause_43 ?_
            refine lv_iconst (v := 1) hx hb dX12_clause_46 (by decide) ?_
            refine lv_iload_n hx hb dX12_clause_47 rfl (lv_at hl 0 rfl) ?_
            refine lv_ishl hx hb dX12_clause_48 ?_
            refine lv_topi (fun x_133 ex_133 => ?_)
            refine lv_ior hx hb dX12_clause_49 ?_
            refine lv_topi (fun x_134 ex_134 => ?_)
            refine pp_i (v := x_134) (ty := .int) (C := RX12) (T := TX12) (N := 31) hx hb hts (tw_i inlX12) tyX12 tyX12_ok nmX12 hown hK hP hD hS hL_this hK_this (by decide) rfl 15 399 (by decide) (hts _ (tw_c tw_829)) rfl (by decide +kernel) rfl rfl (Nat.le_of_ble_eq_true rfl) (ps_399 _ _ _ _ _) dX12_clause_50 (fun I_135 H locs eI_135 hP hD hS => ?_)
            have hG := GM.wI hG 399 rfl eI_135 (rg_w (rg_full _) (by decide)) (by decide)
            have tt_136 : (I_135 396 this).toInt = (I 396 this).toInt := by rw [eI_135, pq_uf _ _ _ (by decide)]
            have tt_137 : (I_135 398 this).toInt = (I 398 this).toInt := by rw [eI_135, pq_uf _ _ _ (by decide)]
            have tt_138 : (I_135 401 this).toInt = (I 401 this).toInt := by rw [eI_135, pq_uf _ _ _ (by decide)]
            have tt_139 : (I_135 402 this).toInt = (I 402 this).toInt := by rw [eI_135, pq_uf _ _ _ (by decide)]
            have tt_140 : (I_135 391 this).toInt = (I 391 this).toInt := by rw [eI_135, pq_uf _ _ _ (by decide)]
            have tt_141 : (I_135 393 this).toInt = (I 393 this).toInt := by rw [eI_135, pq_uf _ _ _ (by decide)]
            have tt_142 : (I_135 403 this).toInt = (I 403 this).toInt := by rw [eI_135, pq_uf _ _ _ (by decide)]
            have tt_143 : (I_135 397 this).toInt = (I 397 this).toInt := by rw [eI_135, pq_uf _ _ _ (by decide)]
            refine lv_aload_n hx hb dX12_clause_53 rfl (lv_at hl 1 rfl) ?_
            refine pg_f (v := .int (I_135 396 this)) (C := RX12) (T := TX12) (N := 31) hx hb hts (tw_i inlX12) hown hK hP hL_this hK_this (by decide) rfl 12 (by decide) (hts _ (tw_c tw_821)) rfl dX12_clause_54 ?_
            have h_144 : rg (I_135 396 this) 0 11820 := GM.rI hG 396 rfl
            have uh_144 := h_144.1
            have vh_144 := h_144.2
            refine lv_iconst (v := 1) hx hb dX12_clause_57 (by decide) ?_
            refine lv_iadd hx hb dX12_clause_58 ?_
            refine lv_topi (fun x_145 ex_145 => ?_)
            have h_146 : rg x_145 1 11821 := rg_of_eq ex_145 (rg_add h_144 (rg_k (1 : Int32) 1 rfl) (by decide))
            have uh_146 := h_146.1
            have vh_146 := h_146.2
            have tx_145 : (x_145).toInt = (I_135 396 this).toInt + 1 := by rw [ex_145]; exact i_add_rg (a2 := (I_135 396 this).toInt) (b2 := 1) rfl rfl h_144 (rg_k (1 : Int32) 1 rfl) (by decide)
            refine lv_bipush (v := 12) hx hb dX12_clause_59 (by decide) ?_
            refine lv_aload_n hx hb dX12_clause_61 rfl (lv_at hl 1 rfl) ?_
            refine pg_f (v := .int (I_135 397 this)) (C := RX12) (T := TX12) (N := 31) hx hb hts (tw_i inlX12) hown hK hP hL_this hK_this (by decide) rfl 13 (by decide) (hts _ (tw_c tw_822)) rfl dX12_clause_62 ?_
            have h_147 : rg (I_135 397 this) 0 19 := (by rw [eI_135, pq_uf _ _ _ (by decide)]; exact h_132)
            have uh_147 := h_147.1
            have vh_147 := h_147.2
            refine lv_imul hx hb dX12_clause_65 ?_
            refine lv_topi (fun x_148 ex_148 => ?_)
            have h_149 : rg x_148 0 228 := rg_of_eq ex_148 (rg_mul (rg_k (12 : Int32) 12 rfl) h_147 (by decide))
            have uh_149 := h_149.1
            have vh_149 := h_149.2
            have tx_148 : (x_148).toInt = 12 * (I_135 397 this).toInt := by rw [ex_148]; exact i_mul_rg (a2 := 12) (b2 := (I_135 397 this).toInt) rfl rfl (rg_k (12 : Int32) 12 rfl) h_147 (by decide)
            refine lv_iadd hx hb dX12_clause_66 ?_
            refine lv_topi (fun x_150 ex_150 => ?_)
            have h_151 : rg x_150 1 12049 := rg_of_eq ex_150 (rg_add h_146 h_149 (by decide))
            have uh_151 := h_151.1
            have vh_151 := h_151.2
            have tx_150 : (x_150).toInt = (x_145).toInt + (x_148).toInt := by rw [ex_150]; exact i_add_rg (a2 := (x_145).toInt) (b2 := (x_148).toInt) rfl rfl h_146 h_149 (by decide)
            have hcx : (x_150).toInt = 3721 + 900 * (ri this_a 6).toInt + 12 * (I 397 this).toInt := by omega
            have hC19 : rg (I 397 this) 0 19 := ⟨by omega, by omega⟩
            have h_152 : rg x_150 3721 12049 := ⟨by omega, by omega⟩
            have uh_152 := h_152.1
            have vh_152 := h_152.2
            have ceX := clampE x_150
            refine lv_istore_n (lv' := [(2, .int x_150), (1, .int x_1), (0, .ref this)]) hx hb dX12_clause_67 rfl hl (by decide) rfl (fun ls hl => ?_)
            refine lv_aload_n hx hb dX12_clause_68 rfl (lv_at hl 2 rfl) ?_
            refine pg_f (v := .ref this_a) (C := RX12) (T := TX12) (N := 31) hx hb hts (tw_i inlX12) hown hK hP hL_this hK_this (by decide) rfl 0 (by decide) (hts _ (tw_c tw_176)) (pq_hv rfl hR_this_a) dX12_clause_69 ?_
            refine lv_iload_n hx hb dX12_clause_72 rfl (lv_at hl 0 rfl) ?_
            refine lv_iload_n hx hb dX12_clause_73 rfl (lv_at hl 1 rfl) ?_
            refine pt_i hx hb hK hP hD hS hL_this_a hK_this_a hN_this_a (rg_in h_152 (by decide)) dX12_clause_74 (fun r_153 H locs er_153 hP hD hS => ?_)
            have hG := GM.wt hG hT_this_a (by decide) er_153 (zn_tc (t := (ri this_a 6).toNatClampNeg) (c := (I 397 this).toNatClampNeg) (k := 0) (by have z_i := clampE x_150; have z_0 := clampE (ri this_a 6); have z_1 := clampE (I 397 this); omega) (rg_cl1 ⟨hc1.2.1, hc1.2.2⟩ (by decide)) (rg_cl1 hC19 (by decide)) (by decide)) rfl (rg_w h_124 (by decide)) (by have z6 := congrArg Int32.toInt (hG.2.2.1 this_a hT_this_a 6 (by decide) (by decide)); have z_i := clampE x_150; omega) (by decide)
            refine lv_aload_n hx hb dX12_clause_75 rfl (lv_at hl 2 rfl) ?_
            obtain ⟨w_154, hR_w_154, hL_w_154, hK_w_154, hN_w_154, hT_w_154⟩ := sh_a hSH 387 (ci := 12) (kd := 13) (len := 300) rfl (by decide) hL_this hK_this
            refine pk_v (va_runV (As := []) (rest := []) ⟨hx, hb, hml, hown, hts⟩ (s_X12_nextToken_x l D t σ I_135 J r_153 rj rq H.size tg hSH hG.1 this hL_this hK_this w_154 hR_w_154 hL_w_154 hK_w_154 hN_w_154 hT_w_154) (cwV 0 hts (tw_V tw_832 tw_833 tw_834 tw_5 tw_835) rfl rfl rfl (by decide +kernel) ⟨Nat.le_of_ble_eq_true rfl, Nat.le_of_ble_eq_true rfl⟩) ⟨pq_blind, pq_recv hK hP hL_this hK_this (by decide) rfl, pq_pre hK hN hP hD⟩ rfl rfl hl.1 rfl (lv_room (Nat.le_of_ble_eq_true rfl)) dX12_clause_76 ⟨Nat.le_of_ble_eq_true rfl, Nat.le_of_ble_eq_true rfl⟩) hD hS hA (fun σ1 μ1 H locs hw_156 hP hD hS => ?_)
            obtain ⟨I_157, J_158, hu_159, hg_160, hp_162, hp_163, hp_164⟩ := hw_156
            obtain ⟨hu_159a, hu_159b⟩ := Prod.mk.inj hu_159
            rw [hu_159a, hu_159b] at hP hD
            have tt_165 := hp_162
            have tt_166 := hp_163
            have tt_167 := hp_164
            have tt_168 : (I_157 391 this).toInt ≤ 300 := by have z := hg_160.1.1 391 this; exact z.2
            have hG := GM.tr hG hg_160 (by decide)
            have tt_169 : (I_157 396 this).toInt = (I_135 396 this).toInt := by rw [hg_160.2.1 396 (by decide) (by decide)]
            have tt_170 : (I_157 398 this).toInt = (I_135 398 this).toInt := by rw [hg_160.2.1 398 (by decide) (by decide)]
            have tt_171 : (I_157 401 this).toInt = (I_135 401 this).toInt := by rw [hg_160.2.1 401 (by decide) (by decide)]
            have tt_172 : (I_157 402 this).toInt = (I_135 402 this).toInt := by rw [hg_160.2.1 402 (by decide) (by decide)]
            have tt_173 : (I_157 397 this).toInt = (I_135 397 this).toInt := by rw [hg_160.2.1 397 (by decide) (by decide)]
            have htmH : tmM (I_157 391 this).toInt (I_157 393 this).toInt ≤ tmM (I 391 this).toInt (I 393 this).toInt := Int.le_of_lt (tm_lt (by omega) (by omega) (by omega))
            refine lv_iconst (v := 0) hx hb dX12_clause_79 (by decide) ?_
            refine lv_istore_n (lv' := [(3, .int 0), (2, .int x_150), (1, .int x_1), (0, .ref this)]) hx hb dX12_clause_80 rfl hl (by decide) rfl (fun ls hl => ?_)
            refine lv_iload_n hx hb dX12_clause_81 rfl (lv_at hl 2 rfl) ?_
            refine lv_iconst (v := 4) hx hb dX12_clause_82 (by decide) ?_
            refine lv_icmp_gt (tgt := 118) hx hb dX12_clause_83 (by decide) (fun c_174 => ?_) (fun c_174 => ?_)
            · have tc_175 : 4 < (x_1).toInt := Int32.lt_iff_toInt_lt.mp c_174
              refine lv_iload_n hx hb dX12_clause_118 rfl (lv_at hl 2 rfl) ?_
              refine lv_bipush (v := 6) hx hb dX12_clause_119 (by decide) ?_
              refine lv_icmp_gt (tgt := 133) hx hb dX12_clause_121 (by decide) (fun c_176 => ?_) (fun c_176 => ?_)
              · have tc_177 : 6 < (x_1).toInt := Int32.lt_iff_toInt_lt.mp c_176
                have h_178 : rg x_1 7 9 := rg_lt2 c_176 (rg_k (6 : Int32) 6 rfl) h_124 (by decide)
                have uh_178 := h_178.1
                have vh_178 := h_178.2
                refine lv_aload_n hx hb dX12_clause_133 rfl (lv_at hl 3 rfl) ?_
                refine lv_iload_n hx hb dX12_clause_134 rfl (lv_at hl 2 rfl) ?_
                refine lv_bipush (v := 7) hx hb dX12_clause_135 (by decide) ?_
                refine lv_icmp_ne (tgt := 145) hx hb dX12_clause_137 (by decide) (fun c_179 => ?_) (fun c_179 => ?_)
                · have tc_180 : (x_1).toInt ≠ 7 := fun q => c_179 (Int32.toInt_inj.mp q)
                  have h_181 : rg x_1 8 9 := rg_ne c_179 h_178 7 rfl (by decide)
                  have uh_181 := h_181.1
                  have vh_181 := h_181.2
                  refine lv_iload_n hx hb dX12_clause_145 rfl (lv_at hl 2 rfl) ?_
                  refine lv_bipush (v := 8) hx hb dX12_clause_146 (by decide) ?_
                  refine lv_icmp_ne (tgt := 157) hx hb dX12_clause_148 (by decide) (fun c_182 => ?_) (fun c_182 => ?_)
                  · have tc_183 : (x_1).toInt ≠ 8 := fun q => c_182 (Int32.toInt_inj.mp q)
                    have h_184 : rg x_1 9 9 := rg_ne c_182 h_181 8 rfl (by decide)
                    have uh_184 := h_184.1
                    have vh_184 := h_184.2
                    refine lv_sipush (v := 1000) hx hb dX12_clause_157 (by decide) ?_
                    refine lv_iload_n hx hb dX12_clause_160 rfl (lv_at hl 1 rfl) ?_
                    refine lv_iconst (v := 1) hx hb dX12_clause_161 (by decide) ?_
                    refine lv_iadd hx hb dX12_clause_162 ?_
                    refine lv_topi (fun x_185 ex_185 => ?_)
                    have h_186 : rg x_185 3722 12050 := rg_of_eq ex_185 (rg_add h_152 (rg_k (1 : Int32) 1 rfl) (by decide))
                    have uh_186 := h_186.1
                    have vh_186 := h_186.2
                    have tx_185 : (x_185).toInt = (x_150).toInt + 1 := by rw [ex_185]; exact i_add_rg (a2 := (x_150).toInt) (b2 := 1) rfl rfl h_152 (rg_k (1 : Int32) 1 rfl) (by decide)
                    refine pk_i (va_runV (As := [.int 1000, .int x_185]) (rest := []) ⟨hx, hb, hml, hown, hts⟩ (s_X12_take l D t σ I_157 J_158 r_153 rj rq H.size tg hSH hG.1 this (1000 : Int32) x_185 hL_this hK_this this_a hR_this_a hL_this_a hK_this_a hN_this_a hT_this_a (by omega)) (cwV 2 hts (tw_V tw_933 tw_934 tw_935 tw_5 tw_936) rfl rfl rfl (by decide +kernel) ⟨Nat.le_of_ble_eq_true rfl, Nat.le_of_ble_eq_true rfl⟩) ⟨pq_blind, pq_recv hK hP hL_this hK_this (by decide) rfl, pq_pre hK hN hP hD⟩ rfl rfl hl.1 rfl (lv_room (Nat.le_of_ble_eq_true rfl)) dX12_clause_163 ⟨Nat.le_of_ble_eq_true rfl, Nat.le_of_ble_eq_true rfl⟩) hD hS hA (fun x_187 σ1 μ1 H locs hw_188 hP hD hS => ?_)
                    obtain ⟨I_189, J_190, ri_191, hu_192, hg_193, hp_195, hp_196, hp_197, hr_194⟩ := hw_188
                    obtain ⟨hu_192a, hu_192b⟩ := Prod.mk.inj hu_192
                    rw [hu_192a, hu_192b] at hP hD
                    have tt_198 := hp_195
                    have hG := GM.tr hG hg_193 (by decide)
                    have tt_199 : (I_189 396 this).toInt = (I_157 396 this).toInt := by rw [hg_193.2.1 396 (by decide) (by decide)]
                    have tt_200 : (I_189 398 this).toInt = (I_157 398 this).toInt := by rw [hg_193.2.1 398 (by decide) (by decide)]
                    have tt_201 : (I_189 401 this).toInt = (I_157 401 this).toInt := by rw [hg_193.2.1 401 (by decide) (by decide)]
                    have tt_202 : (I_189 402 this).toInt = (I_157 402 this).toInt := by rw [hg_193.2.1 402 (by decide) (by decide)]
                    have tt_203 : (I_189 397 this).toInt = (I_157 397 this).toInt := by rw [hg_193.2.1 397 (by decide) (by decide)]
                    refine lv_istore_n (lv' := [(3, .int x_187), (2, .int x_150), (1, .int x_1), (0, .ref this)]) hx hb dX12_clause_166 rfl hl (by decide) rfl (fun ls hl => ?_)
                    refine lv_iload_n hx hb dX12_clause_167 rfl (lv_at hl 0 rfl) ?_
                    refine lv_if_eq (tgt := 173) hx hb dX12_clause_168 (by decide) (fun c_204 => ?_) (fun c_204 => ?_)
                    · have tc_205 : (x_187).toInt = 0 := congrArg Int32.toInt c_204
                      have h_206 : rg x_187 0 0 := rg_and hr_194 (rg_of_eq c_204 (rg_k (0 : Int32) 0 rfl)) (by decide)
                      have uh_206 := h_206.1
                      have vh_206 := h_206.2
                      refine lv_aload_n hx hb dX12_clause_173 rfl (lv_at hl 3 rfl) ?_
                      refine pg_f (v := .int (I_189 393 this)) (C := RX12) (T := TX12) (N := 31) hx hb hts (tw_i inlX12) hown hK hP hL_this hK_this (by decide) rfl 9 (by decide) (hts _ (tw_c tw_831)) rfl dX12_clause_174 ?_
                      refine lv_bipush (v := 59) hx hb dX12_clause_177 (by decide) ?_
                      refine lv_icmp_eq (tgt := 184) hx hb dX12_clause_179 (by decide) (fun c_207 => ?_) (fun c_207 => ?_)
                      · have tc_208 : (I_189 393 this).toInt = 59 := congrArg Int32.toInt c_207
                        have h_209 : rg (I_189 393 this) 59 59 := rg_and (rg_full _) (rg_of_eq c_207 (rg_k (59 : Int32) 59 rfl)) (by decide)
                        have uh_209 := h_209.1
                        have vh_209 := h_209.2
                        refine lv_aload_n hx hb dX12_clause_184 rfl (lv_at hl 3 rfl) ?_
                        refine lv_dup hx hb dX12_clause_185 rfl ?_
                        refine pg_f (v := .int (I_189 397 this)) (C := RX12) (T := TX12) (N := 31) hx hb hts (tw_i inlX12) hown hK hP hL_this hK_this (by decide) rfl 13 (by decide) (hts _ (tw_c tw_822)) rfl dX12_clause_186 ?_
                        have h_210 : rg (I_189 397 this) 0 19 := (by rw [hg_193.2.1 397 (by decide) (by decide)]; exact (by rw [hg_160.2.1 397 (by decide) (by decide)]; exact h_147))
                        have uh_210 := h_210.1
                        have vh_210 := h_210.2
                        refine lv_iconst (v := 1) hx hb dX12_clause_189 (by decide) ?_
                        refine lv_iadd hx hb dX12_clause_190 ?_
                        refine lv_topi (fun x_211 ex_211 => ?_)
                        have h_212 : rg x_211 1 20 := rg_of_eq ex_211 (rg_add h_210 (rg_k (1 : Int32) 1 rfl) (by decide))
                        have uh_212 := h_212.1
                        have vh_212 := h_212.2
                        have tx_211 : (x_211).toInt = (I_189 397 this).toInt + 1 := by rw [ex_211]; exact i_add_rg (a2 := (I_189 397 this).toInt) (b2 := 1) rfl rfl h_210 (rg_k (1 : Int32) 1 rfl) (by decide)
                        refine pp_i (v := x_211) (ty := .int) (C := RX12) (T := TX12) (N := 31) hx hb hts (tw_i inlX12) tyX12 tyX12_ok nmX12 hown hK hP hD hS hL_this hK_this (by decide) rfl 13 397 (by decide) (hts _ (tw_c tw_822)) rfl (by decide +kernel) rfl rfl (Nat.le_of_ble_eq_true rfl) (ps_397 _ _ _ _ _) dX12_clause_191 (fun I_213 H locs eI_213 hP hD hS => ?_)
                        have hG := GM.wI hG 397 rfl eI_213 (rg_w h_212 (by decide)) (by decide)
                        have tt_214 : (I_213 396 this).toInt = (I_189 396 this).toInt := by rw [eI_213, pq_uf _ _ _ (by decide)]
                        have tt_215 : (I_213 398 this).toInt = (I_189 398 this).toInt := by rw [eI_213, pq_uf _ _ _ (by decide)]
                        have tt_216 : (I_213 401 this).toInt = (I_189 401 this).toInt := by rw [eI_213, pq_uf _ _ _ (by decide)]
                        have tt_217 : (I_213 402 this).toInt = (I_189 402 this).toInt := by rw [eI_213, pq_uf _ _ _ (by decide)]
                        have tt_218 : (I_213 391 this).toInt = (I_189 391 this).toInt := by rw [eI_213, pq_uf _ _ _ (by decide)]
                        have tt_219 : (I_213 393 this).toInt = (I_189 393 this).toInt := by rw [eI_213, pq_uf _ _ _ (by decide)]
                        have tt_220 : (I_213 403 this).toInt = (I_189 403 this).toInt := by rw [eI_213, pq_uf _ _ _ (by decide)]
                        have tt_221 : (I_213 397 this).toInt = (x_211).toInt := by rw [eI_213, pq_us]
                        refine lv_aload_n hx hb dX12_clause_194 rfl (lv_at hl 3 rfl) ?_
                        refine pk_v (va_runV (As := []) (rest := []) ⟨hx, hb, hml, hown, hts⟩ (s_X12_nextToken_x l D t σ I_213 J_190 ri_191 rj rq H.size tg hSH hG.1 this hL_this hK_this w_154 hR_w_154 hL_w_154 hK_w_154 hN_w_154 hT_w_154) (cwV 0 hts (tw_V tw_832 tw_833 tw_834 tw_5 tw_835) rfl rfl rfl (by decide +kernel) ⟨Nat.le_of_ble_eq_true rfl, Nat.le_of_ble_eq_true rfl⟩) ⟨pq_blind, pq_recv hK hP hL_this hK_this (by decide) rfl, pq_pre hK hN hP hD⟩ rfl rfl hl.1 rfl (lv_room (Nat.le_of_ble_eq_true rfl)) dX12_clause_195 ⟨Nat.le_of_ble_eq_true rfl, Nat.le_of_ble_eq_true rfl⟩) hD hS hA (fun σ1 μ1 H locs hw_223 hP hD hS => ?_)
                        obtain ⟨I_224, J_225, hu_226, hg_227, hp_229, hp_230, hp_231⟩ := hw_223
                        obtain ⟨hu_226a, hu_226b⟩ := Prod.mk.inj hu_226
                        rw [hu_226a, hu_226b] at hP hD
                        have tt_232 := hp_229
                        have tt_233 := hp_230
                        have tt_234 := hp_231
                        have tt_235 : (I_224 391 this).toInt ≤ 300 := by have z := hg_227.1.1 391 this; exact z.2
                        have hG := GM.tr hG hg_227 (by decide)
                        have tt_236 : (I_224 396 this).toInt = (I_213 396 this).toInt := by rw [hg_227.2.1 396 (by decide) (by decide)]
                        have tt_237 : (I_224 398 this).toInt = (I_213 398 this).toInt := by rw [hg_227.2.1 398 (by decide) (by decide)]
                        have tt_238 : (I_224 401 this).toInt = (I_213 401 this).toInt := by rw [hg_227.2.1 401 (by decide) (by decide)]
                        have tt_239 : (I_224 402 this).toInt = (I_213 402 this).toInt := by rw [hg_227.2.1 402 (by decide) (by decide)]
                        have tt_240 : (I_224 397 this).toInt = (I_213 397 this).toInt := by rw [hg_227.2.1 397 (by decide) (by decide)]
                        refine lv_iconst (v := 0) hx hb dX12_clause_198 (by decide) ?_
                        subst hQ
                        exact W.iret (v := 0) hx hb hr (fun t1 ht hW => ⟨⟨0, (σ, I_224, J_225, ri_191, rj, rq), rfl, ⟨I_224, J_225, ri_191, rfl, hG, (Or.inr ⟨(CLz_mk (by rw [show ri_191 this_a 6 = ri this_a 6 from hG.2.2.1 this_a hT_this_a 6 (by decide) (by decide)]; omega) (by rw [show (I_224 397 this).toInt = (((I 397 this).toNatClampNeg + 1 : Nat) : Int) from by omega]; have q := TXQ_other (f := ri this_a) (w := (I 398 this).toInt) (n := (I 397 this).toNatClampNeg) (ci := (x_150).toNatClampNeg) (by rw [show (((I 397 this).toNatClampNeg : Nat) : Int) = (I 397 this).toInt from by omega]; exact hcl.2.1) (by omega) ⟨by omega, by omega⟩ (by omega) (by omega) ((congrFun er_153 _).trans (va_up_self _ _ _)) (by omega) (fun j hj => hp_196 j (by omega)); rw [show (I_224 398 this).toInt = (I 398 this).toInt from by omega]; exact q) (by omega) (by omega) (by omega) (fun q => by omega) (by omega)), (by have l1 : tmM (I_224 391 this).toInt (I_224 393 this).toInt < tmM (I_213 391 this).toInt (I_213 393 this).toInt := tm_lt (by omega) (by omega) (by omega); have l2 : tmM (I_213 391 this).toInt (I_213 393 this).toInt = tmM (I_189 391 this).toInt (I_189 393 this).toInt := by rw [show (I_213 391 this).toInt = (I_189 391 this).toInt from by omega, show (I_213 393 this).toInt = (I_189 393 this).toInt from by omega]; have l3 := (Int.le_trans hp_197 htmH); omega)⟩), (rg_w (rg_k (0 : Int32) 0 rfl) (by decide))⟩, by rw [ht]; exact hP, va_K.moved hW.alike hK, hD⟩, hS.F ht⟩) hS.2.2 dX12_clause_199
                      · have tc_241 : (I_189 393 this).toInt ≠ 59 := fun q => c_207 (Int32.toInt_inj.mp q)
                        refine lv_iconst (v := 1) hx hb dX12_clause_182 (by decide) ?_
                        subst hQ
                        exact W.iret (v := 1) hx hb hr (fun t1 ht hW => ⟨⟨1, (σ, I_189, J_190, ri_191, rj, rq), rfl, ⟨I_189, J_190, ri_191, rfl, hG, (Or.inl (by decide)), (rg_w (rg_k (1 : Int32) 1 rfl) (by decide))⟩, by rw [ht]; exact hP, va_K.moved hW.alike hK, hD⟩, hS.F ht⟩) hS.2.2 dX12_clause_183
                    · have tc_242 : (x_187).toInt ≠ 0 := fun q => c_204 (Int32.toInt_inj.mp q)
                      have h_243 : rg x_187 1 2 := rg_ne c_204 hr_194 0 rfl (by decide)
                      have uh_243 := h_243.1
                      have vh_243 := h_243.2
                      refine lv_iload_n hx hb dX12_clause_171 rfl (lv_at hl 0 rfl) ?_
                      subst hQ
                      exact W.iret (v := x_187) hx hb hr (fun t1 ht hW => ⟨⟨x_187, (σ, I_189, J_190, ri_191, rj, rq), rfl, ⟨I_189, J_190, ri_191, rfl, hG, (Or.inl (by omega)), (rg_w h_243 (by decide))⟩, by rw [ht]; exact hP, va_K.moved hW.alike hK, hD⟩, hS.F ht⟩) hS.2.2 dX12_clause_172
                  · have tc_244 : (x_1).toInt = 8 := congrArg Int32.toInt c_182
                    have h_245 : rg x_1 8 8 := rg_and h_181 (rg_of_eq c_182 (rg_k (8 : Int32) 8 rfl)) (by decide)
                    have uh_245 := h_245.1
                    have vh_245 := h_245.2
                    refine lv_sipush (v := 599) hx hb dX12_clause_151 (by decide) ?_
                    refine lv_goto (tgt := 160) hx hb dX12_clause_154 (by decide) ?_
                    refine lv_iload_n hx hb dX12_clause_160 rfl (lv_at hl 1 rfl) ?_
                    refine lv_iconst (v := 1) hx hb dX12_clause_161 (by decide) ?_
                    refine lv_iadd hx hb dX12_clause_162 ?_
                    refine lv_topi (fun x_246 ex_246 => ?_)
                    have h_247 : rg x_246 3722 12050 := rg_of_eq ex_246 (rg_add h_152 (rg_k (1 : Int32) 1 rfl) (by decide))
                    have uh_247 := h_247.1
                    have vh_247 := h_247.2
                    have tx_246 : (x_246).toInt = (x_150).toInt + 1 := by rw [ex_246]; exact i_add_rg (a2 := (x_150).toInt) (b2 := 1) rfl rfl h_152 (rg_k (1 : Int32) 1 rfl) (by decide)
                    refine pk_i (va_runV (As := [.int 599, .int x_246]) (rest := []) ⟨hx, hb, hml, hown, hts⟩ (s_X12_take l D t σ I_157 J_158 r_153 rj rq H.size tg hSH hG.1 this (599 : Int32) x_246 hL_this hK_this this_a hR_this_a hL_this_a hK_this_a hN_this_a hT_this_a (by omega)) (cwV 2 hts (tw_V tw_933 tw_934 tw_935 tw_5 tw_936) rfl rfl rfl (by decide +kernel) ⟨Nat.le_of_ble_eq_true rfl, Nat.le_of_ble_eq_true rfl⟩) ⟨pq_blind, pq_recv hK hP hL_this hK_this (by decide) rfl, pq_pre hK hN hP hD⟩ rfl rfl hl.1 rfl (lv_room (Nat.le_of_ble_eq_true rfl)) dX12_clause_163 ⟨Nat.le_of_ble_eq_true rfl, Nat.le_of_ble_eq_true rfl⟩) hD hS hA (fun x_248 σ1 μ1 H locs hw_249 hP hD hS => ?_)
                    obtain ⟨I_250, J_251, ri_252, hu_253, hg_254, hp_256, hp_257, hp_258, hr_255⟩ := hw_249
                    obtain ⟨hu_253a, hu_253b⟩ := Prod.mk.inj hu_253
                    rw [hu_253a, hu_253b] at hP hD
                    have tt_259 := hp_256
                    have hG := GM.tr hG hg_254 (by decide)
                    have tt_260 : (I_250 396 this).toInt = (I_157 396 this).toInt := by rw [hg_254.2.1 396 (by decide) (by decide)]
                    have tt_261 : (I_250 398 this).toInt = (I_157 398 this).toInt := by rw [hg_254.2.1 398 (by decide) (by decide)]
                    have tt_262 : (I_250 401 this).toInt = (I_157 401 this).toInt := by rw [hg_254.2.1 401 (by decide) (by decide)]
                    have tt_263 : (I_250 402 this).toInt = (I_157 402 this).toInt := by rw [hg_254.2.1 402 (by decide) (by decide)]
                    have tt_264 : (I_250 397 this).toInt = (I_157 397 this).toInt := by rw [hg_254.2.1 397 (by decide) (by decide)]
                    refine lv_istore_n (lv' := [(3, .int x_248), (2, .int x_150), (1, .int x_1), (0, .ref this)]) hx hb dX12_clause_166 rfl hl (by decide) rfl (fun ls hl => ?_)
                    refine lv_iload_n hx hb dX12_clause_167 rfl (lv_at hl 0 rfl) ?_
                    refine lv_if_eq (tgt := 173) hx hb dX12_clause_168 (by decide) (fun c_265 => ?_) (fun c_265 => ?_)
                    · have tc_266 : (x_248).toInt = 0 := congrArg Int32.toInt c_265
                      have h_267 : rg x_248 0 0 := rg_and hr_255 (rg_of_eq c_265 (rg_k (0 : Int32) 0 rfl)) (by decide)
                      have uh_267 := h_267.1
                      have vh_267 := h_267.2
                      refine lv_aload_n hx hb dX12_clause_173 rfl (lv_at hl 3 rfl) ?_
                      refine pg_f (v := .int (I_250 393 this)) (C := RX12) (T := TX12) (N := 31) hx hb hts (tw_i inlX12) hown hK hP hL_this hK_this (by decide) rfl 9 (by decide) (hts _ (tw_c tw_831)) rfl dX12_clause_174 ?_
                      refine lv_bipush (v := 59) hx hb dX12_clause_177 (by decide) ?_
                      refine lv_icmp_eq (tgt := 184) hx hb dX12_clause_179 (by decide) (fun c_268 => ?_) (fun c_268 => ?_)
                      · have tc_269 : (I_250 393 this).toInt = 59 := congrArg Int32.toInt c_268
                        have h_270 : rg (I_250 393 this) 59 59 := rg_and (rg_full _) (rg_of_eq c_268 (rg_k (59 : Int32) 59 rfl)) (by decide)
                        have uh_270 := h_270.1
                        have vh_270 := h_270.2
                        refine lv_aload_n hx hb dX12_clause_184 rfl (lv_at hl 3 rfl) ?_
                        refine lv_dup hx hb dX12_clause_185 rfl ?_
                        refine pg_f (v := .int (I_250 397 this)) (C := RX12) (T := TX12) (N := 31) hx hb hts (tw_i inlX12) hown hK hP hL_this hK_this (by decide) rfl 13 (by decide) (hts _ (tw_c tw_822)) rfl dX12_clause_186 ?_
                        have h_271 : rg (I_250 397 this) 0 19 := (by rw [hg_254.2.1 397 (by decide) (by decide)]; exact (by rw [hg_160.2.1 397 (by decide) (by decide)]; exact h_147))
                        have uh_271 := h_271.1
                        have vh_271 := h_271.2
                        refine lv_iconst (v := 1) hx hb dX12_clause_189 (by decide) ?_
                        refine lv_iadd hx hb dX12_clause_190 ?_
                        refine lv_topi (fun x_272 ex_272 => ?_)
                        have h_273 : rg x_272 1 20 := rg_of_eq ex_272 (rg_add h_271 (rg_k (1 : Int32) 1 rfl) (by decide))
                        have uh_273 := h_273.1
                        have vh_273 := h_273.2
                        have tx_272 : (x_272).toInt = (I_250 397 this).toInt + 1 := by rw [ex_272]; exact i_add_rg (a2 := (I_250 397 this).toInt) (b2 := 1) rfl rfl h_271 (rg_k (1 : Int32) 1 rfl) (by decide)
                        refine pp_i (v := x_272) (ty := .int) (C := RX12) (T := TX12) (N := 31) hx hb hts (tw_i inlX12) tyX12 tyX12_ok nmX12 hown hK hP hD hS hL_this hK_this (by decide) rfl 13 397 (by decide) (hts _ (tw_c tw_822)) rfl (by decide +kernel) rfl rfl (Nat.le_of_ble_eq_true rfl) (ps_397 _ _ _ _ _) dX12_clause_191 (fun I_274 H locs eI_274 hP hD hS => ?_)
                        have hG := GM.wI hG 397 rfl eI_274 (rg_w h_273 (by decide)) (by decide)
                        have tt_275 : (I_274 396 this).toInt = (I_250 396 this).toInt := by rw [eI_274, pq_uf _ _ _ (by decide)]
                        have tt_276 : (I_274 398 this).toInt = (I_250 398 this).toInt := by rw [eI_274, pq_uf _ _ _ (by decide)]
                        have tt_277 : (I_274 401 this).toInt = (I_250 401 this).toInt := by rw [eI_274, pq_uf _ _ _ (by decide)]
                        have tt_278 : (I_274 402 this).toInt = (I_250 402 this).toInt := by rw [eI_274, pq_uf _ _ _ (by decide)]
                        have tt_279 : (I_274 391 this).toInt = (I_250 391 this).toInt := by rw [eI_274, pq_uf _ _ _ (by decide)]
                        have tt_280 : (I_274 393 this).toInt = (I_250 393 this).toInt := by rw [eI_274, pq_uf _ _ _ (by decide)]
                        have tt_281 : (I_274 403 this).toInt = (I_250 403 this).toInt := by rw [eI_274, pq_uf _ _ _ (by decide)]
                        have tt_282 : (I_274 397 this).toInt = (x_272).toInt := by rw [eI_274, pq_us]
                        refine lv_aload_n hx hb dX12_clause_194 rfl (lv_at hl 3 rfl) ?_
                        refine pk_v (va_runV (As := []) (rest := []) ⟨hx, hb, hml, hown, hts⟩ (s_X12_nextToken_x l D t σ I_274 J_251 ri_252 rj rq H.size tg hSH hG.1 this hL_this hK_this w_154 hR_w_154 hL_w_154 hK_w_154 hN_w_154 hT_w_154) (cwV 0 hts (tw_V tw_832 tw_833 tw_834 tw_5 tw_835) rfl rfl rfl (by decide +kernel) ⟨Nat.le_of_ble_eq_true rfl, Nat.le_of_ble_eq_true rfl⟩) ⟨pq_blind, pq_recv hK hP hL_this hK_this (by decide) rfl, pq_pre hK hN hP hD⟩ rfl rfl hl.1 rfl (lv_room (Nat.le_of_ble_eq_true rfl)) dX12_clause_195 ⟨Nat.le_of_ble_eq_true rfl, Nat.le_of_ble_eq_true rfl⟩) hD hS hA (fun σ1 μ1 H locs hw_284 hP hD hS => ?_)
                        obtain ⟨I_285, J_286, hu_287, hg_288, hp_290, hp_291, hp_292⟩ := hw_284
                        obtain ⟨hu_287a, hu_287b⟩ := Prod.mk.inj hu_287
                        rw [hu_287a, hu_287b] at hP hD
                        have tt_293 := hp_290
                        have tt_294 := hp_291
                        have tt_295 := hp_292
                        have tt_296 : (I_285 391 this).toInt ≤ 300 := by have z := hg_288.1.1 391 this; exact z.2
                        have hG := GM.tr hG hg_288 (by decide)
                        have tt_297 : (I_285 396 this).toInt = (I_274 396 this).toInt := by rw [hg_288.2.1 396 (by decide) (by decide)]
                        have tt_298 : (I_285 398 this).toInt = (I_274 398 this).toInt := by rw [hg_288.2.1 398 (by decide) (by decide)]
                        have tt_299 : (I_285 401 this).toInt = (I_274 401 this).toInt := by rw [hg_288.2.1 401 (by decide) (by decide)]
                        have tt_300 : (I_285 402 this).toInt = (I_274 402 this).toInt := by rw [hg_288.2.1 402 (by decide) (by decide)]
                        have tt_301 : (I_285 397 this).toInt = (I_274 397 this).toInt := by rw [hg_288.2.1 397 (by decide) (by decide)]
                        refine lv_iconst (v := 0) hx hb dX12_clause_198 (by decide) ?_
                        subst hQ
                        exact W.iret (v := 0) hx hb hr (fun t1 ht hW => ⟨⟨0, (σ, I_285, J_286, ri_252, rj, rq), rfl, ⟨I_285, J_286, ri_252, rfl, hG, (Or.inr ⟨(CLz_mk (by rw [show ri_252 this_a 6 = ri this_a 6 from hG.2.2.1 this_a hT_this_a 6 (by decide) (by decide)]; omega) (by rw [show (I_285 397 this).toInt = (((I 397 this).toNatClampNeg + 1 : Nat) : Int) from by omega]; have q := TXQ_other (f := ri this_a) (w := (I 398 this).toInt) (n := (I 397 this).toNatClampNeg) (ci := (x_150).toNatClampNeg) (by rw [show (((I 397 this).toNatClampNeg : Nat) : Int) = (I 397 this).toInt from by omega]; exact hcl.2.1) (by omega) ⟨by omega, by omega⟩ (by omega) (by omega) ((congrFun er_153 _).trans (va_up_self _ _ _)) (by omega) (fun j hj => hp_257 j (by omega)); rw [show (I_285 398 this).toInt = (I 398 this).toInt from by omega]; exact q) (by omega) (by omega) (by omega) (fun q => by omega) (by omega)), (by have l1 : tmM (I_285 391 this).toInt (I_285 393 this).toInt < tmM (I_274 391 this).toInt (I_274 393 this).toInt := tm_lt (by omega) (by omega) (by omega); have l2 : tmM (I_274 391 this).toInt (I_274 393 this).toInt = tmM (I_250 391 this).toInt (I_250 393 this).toInt := by rw [show (I_274 391 this).toInt = (I_250 391 this).toInt from by omega, show (I_274 393 this).toInt = (I_250 393 this).toInt from by omega]; have l3 := (Int.le_trans hp_258 htmH); omega)⟩), (rg_w (rg_k (0 : Int32) 0 rfl) (by decide))⟩, by rw [ht]; exact hP, va_K.moved hW.alike hK, hD⟩, hS.F ht⟩) hS.2.2 dX12_clause_199
                      · have tc_302 : (I_250 393 this).toInt ≠ 59 := fun q => c_268 (Int32.toInt_inj.mp q)
                        refine lv_iconst (v := 1) hx hb dX12_clause_182 (by decide) ?_
                        subst hQ
                        exact W.iret (v := 1) hx hb hr (fun t1 ht hW => ⟨⟨1, (σ, I_250, J_251, ri_252, rj, rq), rfl, ⟨I_250, J_251, ri_252, rfl, hG, (Or.inl (by decide)), (rg_w (rg_k (1 : Int32) 1 rfl) (by decide))⟩, by rw [ht]; exact hP, va_K.moved hW.alike hK, hD⟩, hS.F ht⟩) hS.2.2 dX12_clause_183
                    · have tc_303 : (x_248).toInt ≠ 0 := fun q => c_265 (Int32.toInt_inj.mp q)
                      have h_304 : rg x_248 1 2 := rg_ne c_265 hr_255 0 rfl (by decide)
                      have uh_304 := h_304.1
                      have vh_304 := h_304.2
                      refine lv_iload_n hx hb dX12_clause_171 rfl (lv_at hl 0 rfl) ?_
                      subst hQ
                      exact W.iret (v := x_248) hx hb hr (fun t1 ht hW => ⟨⟨x_248, (σ, I_250, J_251, ri_252, rj, rq), rfl, ⟨I_250, J_251, ri_252, rfl, hG, (Or.inl (by omega)), (rg_w h_304 (by decide))⟩, by rw [ht]; exact hP, va_K.moved hW.alike hK, hD⟩, hS.F ht⟩) hS.2.2 dX12_clause_172
                · have tc_305 : (x_1).toInt = 7 := congrArg Int32.toInt c_179
                  have h_306 : rg x_1 7 7 := rg_and h_178 (rg_of_eq c_179 (rg_k (7 : Int32) 7 rfl)) (by decide)
                  have uh_306 := h_306.1
                  have vh_306 := h_306.2
                  refine lv_bipush (v := 100) hx hb dX12_clause_140 (by decide) ?_
                  refine lv_goto (tgt := 160) hx hb dX12_clause_142 (by decide) ?_
                  refine lv_iload_n hx hb dX12_clause_160 rfl (lv_at hl 1 rfl) ?_
                  refine lv_iconst (v := 1) hx hb dX12_clause_161 (by decide) ?_
                  refine lv_iadd hx hb dX12_clause_162 ?_
                  refine lv_topi (fun x_307 ex_307 => ?_)
                  have h_308 : rg x_307 3722 12050 := rg_of_eq ex_307 (rg_add h_152 (rg_k (1 : Int32) 1 rfl) (by decide))
                  have uh_308 := h_308.1
                  have vh_308 := h_308.2
                  have tx_307 : (x_307).toInt = (x_150).toInt + 1 := by rw [ex_307]; exact i_add_rg (a2 := (x_150).toInt) (b2 := 1) rfl rfl h_152 (rg_k (1 : Int32) 1 rfl) (by decide)
                  refine pk_i (va_runV (As := [.int 100, .int x_307]) (rest := []) ⟨hx, hb, hml, hown, hts⟩ (s_X12_take l D t σ I_157 J_158 r_153 rj rq H.size tg hSH hG.1 this (100 : Int32) x_307 hL_this hK_this this_a hR_this_a hL_this_a hK_this_a hN_this_a hT_this_a (by omega)) (cwV 2 hts (tw_V tw_933 tw_934 tw_935 tw_5 tw_936) rfl rfl rfl (by decide +kernel) ⟨Nat.le_of_ble_eq_true rfl, Nat.le_of_ble_eq_true rfl⟩) ⟨pq_blind, pq_recv hK hP hL_this hK_this (by decide) rfl, pq_pre hK hN hP hD⟩ rfl rfl hl.1 rfl (lv_room (Nat.le_of_ble_eq_true rfl)) dX12_clause_163 ⟨Nat.le_of_ble_eq_true rfl, Nat.le_of_ble_eq_true rfl⟩) hD hS hA (fun x_309 σ1 μ1 H locs hw_310 hP hD hS => ?_)
                  obtain ⟨I_311, J_312, ri_313, hu_314, hg_315, hp_317, hp_318, hp_319, hr_316⟩ := hw_310
                  obtain ⟨hu_314a, hu_314b⟩ := Prod.mk.inj hu_314
                  rw [hu_314a, hu_314b] at hP hD
                  have tt_320 := hp_317
                  have hG := GM.tr hG hg_315 (by decide)
                  have tt_321 : (I_311 396 this).toInt = (I_157 396 this).toInt := by rw [hg_315.2.1 396 (by decide) (by decide)]
                  have tt_322 : (I_311 398 this).toInt = (I_157 398 this).toInt := by rw [hg_315.2.1 398 (by decide) (by decide)]
                  have tt_323 : (I_311 401 this).toInt = (I_157 401 this).toInt := by rw [hg_315.2.1 401 (by decide) (by decide)]
                  have tt_324 : (I_311 402 this).toInt = (I_157 402 this).toInt := by rw [hg_315.2.1 402 (by decide) (by decide)]
                  have tt_325 : (I_311 397 this).toInt = (I_157 397 this).toInt := by rw [hg_315.2.1 397 (by decide) (by decide)]
                  refine lv_istore_n (lv' := [(3, .int x_309), (2, .int x_150), (1, .int x_1), (0, .ref this)]) hx hb dX12_clause_166 rfl hl (by decide) rfl (fun ls hl => ?_)
                  refine lv_iload_n hx hb dX12_clause_167 rfl (lv_at hl 0 rfl) ?_
                  refine lv_if_eq (tgt := 173) hx hb dX12_clause_168 (by decide) (fun c_326 => ?_) (fun c_326 => ?_)
                  · have tc_327 : (x_309).toInt = 0 := congrArg Int32.toInt c_326
                    have h_328 : rg x_309 0 0 := rg_and hr_316 (rg_of_eq c_326 (rg_k (0 : Int32) 0 rfl)) (by decide)
                    have uh_328 := h_328.1
                    have vh_328 := h_328.2
                    refine lv_aload_n hx hb dX12_clause_173 rfl (lv_at hl 3 rfl) ?_
                    refine pg_f (v := .int (I_311 393 this)) (C := RX12) (T := TX12) (N := 31) hx hb hts (tw_i inlX12) hown hK hP hL_this hK_this (by decide) rfl 9 (by decide) (hts _ (tw_c tw_831)) rfl dX12_clause_174 ?_
                    refine lv_bipush (v := 59) hx hb dX12_clause_177 (by decide) ?_
                    refine lv_icmp_eq (tgt := 184) hx hb dX12_clause_179 (by decide) (fun c_329 => ?_) (fun c_329 => ?_)
                    · have tc_330 : (I_311 393 this).toInt = 59 := congrArg Int32.toInt c_329
                      have h_331 : rg (I_311 393 this) 59 59 := rg_and (rg_full _) (rg_of_eq c_329 (rg_k (59 : Int32) 59 rfl)) (by decide)
                      have uh_331 := h_331.1
                      have vh_331 := h_331.2
                      refine lv_aload_n hx hb dX12_clause_184 rfl (lv_at hl 3 rfl) ?_
                      refine lv_dup hx hb dX12_clause_185 rfl ?_
                      refine pg_f (v := .int (I_311 397 this)) (C := RX12) (T := TX12) (N := 31) hx hb hts (tw_i inlX12) hown hK hP hL_this hK_this (by decide) rfl 13 (by decide) (hts _ (tw_c tw_822)) rfl dX12_clause_186 ?_
                      have h_332 : rg (I_311 397 this) 0 19 := (by rw [hg_315.2.1 397 (by decide) (by decide)]; exact (by rw [hg_160.2.1 397 (by decide) (by decide)]; exact h_147))
                      have uh_332 := h_332.1
                      have vh_332 := h_332.2
                      refine lv_iconst (v := 1) hx hb dX12_clause_189 (by decide) ?_
                      refine lv_iadd hx hb dX12_clause_190 ?_
                      refine lv_topi (fun x_333 ex_333 => ?_)
                      have h_334 : rg x_333 1 20 := rg_of_eq ex_333 (rg_add h_332 (rg_k (1 : Int32) 1 rfl) (by decide))
                      have uh_334 := h_334.1
                      have vh_334 := h_334.2
                      have tx_333 : (x_333).toInt = (I_311 397 this).toInt + 1 := by rw [ex_333]; exact i_add_rg (a2 := (I_311 397 this).toInt) (b2 := 1) rfl rfl h_332 (rg_k (1 : Int32) 1 rfl) (by decide)
                      refine pp_i (v := x_333) (ty := .int) (C := RX12) (T := TX12) (N := 31) hx hb hts (tw_i inlX12) tyX12 tyX12_ok nmX12 hown hK hP hD hS hL_this hK_this (by decide) rfl 13 397 (by decide) (hts _ (tw_c tw_822)) rfl (by decide +kernel) rfl rfl (Nat.le_of_ble_eq_true rfl) (ps_397 _ _ _ _ _) dX12_clause_191 (fun I_335 H locs eI_335 hP hD hS => ?_)
                      have hG := GM.wI hG 397 rfl eI_335 (rg_w h_334 (by decide)) (by decide)
                      have tt_336 : (I_335 396 this).toInt = (I_311 396 this).toInt := by rw [eI_335, pq_uf _ _ _ (by decide)]
                      have tt_337 : (I_335 398 this).toInt = (I_311 398 this).toInt := by rw [eI_335, pq_uf _ _ _ (by decide)]
                      have tt_338 : (I_335 401 this).toInt = (I_311 401 this).toInt := by rw [eI_335, pq_uf _ _ _ (by decide)]
                      have tt_339 : (I_335 402 this).toInt = (I_311 402 this).toInt := by rw [eI_335, pq_uf _ _ _ (by decide)]
                      have tt_340 : (I_335 391 this).toInt = (I_311 391 this).toInt := by rw [eI_335, pq_uf _ _ _ (by decide)]
                      have tt_341 : (I_335 393 this).toInt = (I_311 393 this).toInt := by rw [eI_335, pq_uf _ _ _ (by decide)]
                      have tt_342 : (I_335 403 this).toInt = (I_311 403 this).toInt := by rw [eI_335, pq_uf _ _ _ (by decide)]
                      have tt_343 : (I_335 397 this).toInt = (x_333).toInt := by rw [eI_335, pq_us]
                      refine lv_aload_n hx hb dX12_clause_194 rfl (lv_at hl 3 rfl) ?_
                      refine pk_v (va_runV (As := []) (rest := []) ⟨hx, hb, hml, hown, hts⟩ (s_X12_nextToken_x l D t σ I_335 J_312 ri_313 rj rq H.size tg hSH hG.1 this hL_this hK_this w_154 hR_w_154 hL_w_154 hK_w_154 hN_w_154 hT_w_154) (cwV 0 hts (tw_V tw_832 tw_833 tw_834 tw_5 tw_835) rfl rfl rfl (by decide +kernel) ⟨Nat.le_of_ble_eq_true rfl, Nat.le_of_ble_eq_true rfl⟩) ⟨pq_blind, pq_recv hK hP hL_this hK_this (by decide) rfl, pq_pre hK hN hP hD⟩ rfl rfl hl.1 rfl (lv_room (Nat.le_of_ble_eq_true rfl)) dX12_clause_195 ⟨Nat.le_of_ble_eq_true rfl, Nat.le_of_ble_eq_true rfl⟩) hD hS hA (fun σ1 μ1 H locs hw_345 hP hD hS => ?_)
                      obtain ⟨I_346, J_347, hu_348, hg_349, hp_351, hp_352, hp_353⟩ := hw_345
                      obtain ⟨hu_348a, hu_348b⟩ := Prod.mk.inj hu_348
                      rw [hu_348a, hu_348b] at hP hD
                      have tt_354 := hp_351
                      have tt_355 := hp_352
                      have tt_356 := hp_353
                      have tt_357 : (I_346 391 this).toInt ≤ 300 := by have z := hg_349.1.1 391 this; exact z.2
                      have hG := GM.tr hG hg_349 (by decide)
                      have tt_358 : (I_346 396 this).toInt = (I_335 396 this).toInt := by rw [hg_349.2.1 396 (by decide) (by decide)]
                      have tt_359 : (I_346 398 this).toInt = (I_335 398 this).toInt := by rw [hg_349.2.1 398 (by decide) (by decide)]
                      have tt_360 : (I_346 401 this).toInt = (I_335 401 this).toInt := by rw [hg_349.2.1 401 (by decide) (by decide)]
                      have tt_361 : (I_346 402 this).toInt = (I_335 402 this).toInt := by rw [hg_349.2.1 402 (by decide) (by decide)]
                      have tt_362 : (I_346 397 this).toInt = (I_335 397 this).toInt := by rw [hg_349.2.1 397 (by decide) (by decide)]
                      refine lv_iconst (v := 0) hx hb dX12_clause_198 (by decide) ?_
                      subst hQ
                      exact W.iret (v := 0) hx hb hr (fun t1 ht hW => ⟨⟨0, (σ, I_346, J_347, ri_313, rj, rq), rfl, ⟨I_346, J_347, ri_313, rfl, hG, (Or.inr ⟨(CLz_mk (by rw [show ri_313 this_a 6 = ri this_a 6 from hG.2.2.1 this_a hT_this_a 6 (by decide) (by decide)]; omega) (by rw [show (I_346 397 this).toInt = (((I 397 this).toNatClampNeg + 1 : Nat) : Int) from by omega]; have q := TXQ_other (f := ri this_a) (w := (I 398 this).toInt) (n := (I 397 this).toNatClampNeg) (ci := (x_150).toNatClampNeg) (by rw [show (((I 397 this).toNatClampNeg : Nat) : Int) = (I 397 this).toInt from by omega]; exact hcl.2.1) (by omega) ⟨by omega, by omega⟩ (by omega) (by omega) ((congrFun er_153 _).trans (va_up_self _ _ _)) (by omega) (fun j hj => hp_318 j (by omega)); rw [show (I_346 398 this).toInt = (I 398 this).toInt from by omega]; exact q) (by omega) (by omega) (by omega) (fun q => by omega) (by omega)), (by have l1 : tmM (I_346 391 this).toInt (I_346 393 this).toInt < tmM (I_335 391 this).toInt (I_335 393 this).toInt := tm_lt (by omega) (by omega) (by omega); have l2 : tmM (I_335 391 this).toInt (I_335 393 this).toInt = tmM (I_311 391 this).toInt (I_311 393 this).toInt := by rw [show (I_335 391 this).toInt = (I_311 391 this).toInt from by omega, show (I_335 393 this).toInt = (I_311 393 this).toInt from by omega]; have l3 := (Int.le_trans hp_319 htmH); omega)⟩), (rg_w (rg_k (0 : Int32) 0 rfl) (by decide))⟩, by rw [ht]; exact hP, va_K.moved hW.alike hK, hD⟩, hS.F ht⟩) hS.2.2 dX12_clause_199
                    · have tc_363 : (I_311 393 this).toInt ≠ 59 := fun q => c_329 (Int32.toInt_inj.mp q)
                      refine lv_iconst (v := 1) hx hb dX12_clause_182 (by decide) ?_
                      subst hQ
                      exact W.iret (v := 1) hx hb hr (fun t1 ht hW => ⟨⟨1, (σ, I_311, J_312, ri_313, rj, rq), rfl, ⟨I_311, J_312, ri_313, rfl, hG, (Or.inl (by decide)), (rg_w (rg_k (1 : Int32) 1 rfl) (by decide))⟩, by rw [ht]; exact hP, va_K.moved hW.alike hK, hD⟩, hS.F ht⟩) hS.2.2 dX12_clause_183
                  · have tc_364 : (x_309).toInt ≠ 0 := fun q => c_326 (Int32.toInt_inj.mp q)
                    have h_365 : rg x_309 1 2 := rg_ne c_326 hr_316 0 rfl (by decide)
                    have uh_365 := h_365.1
                    have vh_365 := h_365.2
                    refine lv_iload_n hx hb dX12_clause_171 rfl (lv_at hl 0 rfl) ?_
                    subst hQ
                    exact W.iret (v := x_309) hx hb hr (fun t1 ht hW => ⟨⟨x_309, (σ, I_311, J_312, ri_313, rj, rq), rfl, ⟨I_311, J_312, ri_313, rfl, hG, (Or.inl (by omega)), (rg_w h_365 (by decide))⟩, by rw [ht]; exact hP, va_K.moved hW.alike hK, hD⟩, hS.F ht⟩) hS.2.2 dX12_clause_172
              · have tc_366 : (x_1).toInt ≤ 6 := Int32.le_iff_toInt_le.mp (nlt c_176)
                have h_367 : rg x_1 5 6 := rg_le1 (nlt c_176) h_124 (rg_k (6 : Int32) 6 rfl) (by decide)
                have uh_367 := h_367.1
                have vh_367 := h_367.2
                refine lv_aload_n hx hb dX12_clause_124 rfl (lv_at hl 3 rfl) ?_
                refine lv_iload_n hx hb dX12_clause_125 rfl (lv_at hl 1 rfl) ?_
                refine pk_i (va_runV (As := [.int x_150]) (rest := []) ⟨hx, hb, hml, hown, hts⟩ (s_X12_keys l D t σ I_157 J_158 r_153 rj rq H.size tg hSH hG.1 this x_150 hL_this hK_this this_a hR_this_a hL_this_a hK_this_a hN_this_a hT_this_a (by omega)) (cwV 1 hts (tw_V tw_929 tw_930 tw_931 tw_5 tw_932) rfl rfl rfl (by decide +kernel) ⟨Nat.le_of_ble_eq_true rfl, Nat.le_of_ble_eq_true rfl⟩) ⟨pq_blind, pq_recv hK hP hL_this hK_this (by decide) rfl, pq_pre hK hN hP hD⟩ rfl rfl hl.1 rfl (lv_room (Nat.le_of_ble_eq_true rfl)) dX12_clause_126 ⟨Nat.le_of_ble_eq_true rfl, Nat.le_of_ble_eq_true rfl⟩) hD hS hA (fun x_368 σ1 μ1 H locs hw_369 hP hD hS => ?_)
                obtain ⟨I_370, J_371, ri_372, hu_373, hg_374, hp_376, hp_377, hp_378, hr_375⟩ := hw_369
                obtain ⟨hu_373a, hu_373b⟩ := Prod.mk.inj hu_373
                rw [hu_373a, hu_373b] at hP hD
                have tt_379 := hp_376
                have hG := GM.tr hG hg_374 (by decide)
                have tt_380 : (I_370 396 this).toInt = (I_157 396 this).toInt := by rw [hg_374.2.1 396 (by decide) (by decide)]
                have tt_381 : (I_370 398 this).toInt = (I_157 398 this).toInt := by rw [hg_374.2.1 398 (by decide) (by decide)]
                have tt_382 : (I_370 401 this).toInt = (I_157 401 this).toInt := by rw [hg_374.2.1 401 (by decide) (by decide)]
                have tt_383 : (I_370 402 this).toInt = (I_157 402 this).toInt := by rw [hg_374.2.1 402 (by decide) (by decide)]
                have tt_384 : (I_370 397 this).toInt = (I_157 397 this).toInt := by rw [hg_374.2.1 397 (by decide) (by decide)]
                refine lv_istore_n (lv' := [(3, .int x_368), (2, .int x_150), (1, .int x_1), (0, .ref this)]) hx hb dX12_clause_129 rfl hl (by decide) rfl (fun ls hl => ?_)
                refine lv_goto (tgt := 167) hx hb dX12_clause_130 (by decide) ?_
                refine lv_iload_n hx hb dX12_clause_167 rfl (lv_at hl 0 rfl) ?_
                refine lv_if_eq (tgt := 173) hx hb dX12_clause_168 (by decide) (fun c_385 => ?_) (fun c_385 => ?_)
                · have tc_386 : (x_368).toInt = 0 := congrArg Int32.toInt c_385
                  have h_387 : rg x_368 0 0 := rg_and hr_375 (rg_of_eq c_385 (rg_k (0 : Int32) 0 rfl)) (by decide)
                  have uh_387 := h_387.1
                  have vh_387 := h_387.2
                  refine lv_aload_n hx hb dX12_clause_173 rfl (lv_at hl 3 rfl) ?_
                  refine pg_f (v := .int (I_370 393 this)) (C := RX12) (T := TX12) (N := 31) hx hb hts (tw_i inlX12) hown hK hP hL_this hK_this (by decide) rfl 9 (by decide) (hts _ (tw_c tw_831)) rfl dX12_clause_174 ?_
                  refine lv_bipush (v := 59) hx hb dX12_clause_177 (by decide) ?_
                  refine lv_icmp_eq (tgt := 184) hx hb dX12_clause_179 (by decide) (fun c_388 => ?_) (fun c_388 => ?_)
                  · have tc_389 : (I_370 393 this).toInt = 59 := congrArg Int32.toInt c_388
                    have h_390 : rg (I_370 393 this) 59 59 := rg_and (rg_full _) (rg_of_eq c_388 (rg_k (59 : Int32) 59 rfl)) (by decide)
                    have uh_390 := h_390.1
                    have vh_390 := h_390.2
                    refine lv_aload_n hx hb dX12_clause_184 rfl (lv_at hl 3 rfl) ?_
                    refine lv_dup hx hb dX12_clause_185 rfl ?_
                    refine pg_f (v := .int (I_370 397 this)) (C := RX12) (T := TX12) (N := 31) hx hb hts (tw_i inlX12) hown hK hP hL_this hK_this (by decide) rfl 13 (by decide) (hts _ (tw_c tw_822)) rfl dX12_clause_186 ?_
                    have h_391 : rg (I_370 397 this) 0 19 := (by rw [hg_374.2.1 397 (by decide) (by decide)]; exact (by rw [hg_160.2.1 397 (by decide) (by decide)]; exact h_147))
                    have uh_391 := h_391.1
                    have vh_391 := h_391.2
                    refine lv_iconst (v := 1) hx hb dX12_clause_189 (by decide) ?_
                    refine lv_iadd hx hb dX12_clause_190 ?_
                    refine lv_topi (fun x_392 ex_392 => ?_)
                    have h_393 : rg x_392 1 20 := rg_of_eq ex_392 (rg_add h_391 (rg_k (1 : Int32) 1 rfl) (by decide))
                    have uh_393 := h_393.1
                    have vh_393 := h_393.2
                    have tx_392 : (x_392).toInt = (I_370 397 this).toInt + 1 := by rw [ex_392]; exact i_add_rg (a2 := (I_370 397 this).toInt) (b2 := 1) rfl rfl h_391 (rg_k (1 : Int32) 1 rfl) (by decide)
                    refine pp_i (v := x_392) (ty := .int) (C := RX12) (T := TX12) (N := 31) hx hb hts (tw_i inlX12) tyX12 tyX12_ok nmX12 hown hK hP hD hS hL_this hK_this (by decide) rfl 13 397 (by decide) (hts _ (tw_c tw_822)) rfl (by decide +kernel) rfl rfl (Nat.le_of_ble_eq_true rfl) (ps_397 _ _ _ _ _) dX12_clause_191 (fun I_394 H locs eI_394 hP hD hS => ?_)
                    have hG := GM.wI hG 397 rfl eI_394 (rg_w h_393 (by decide)) (by decide)
                    have tt_395 : (I_394 396 this).toInt = (I_370 396 this).toInt := by rw [eI_394, pq_uf _ _ _ (by decide)]
                    have tt_396 : (I_394 398 this).toInt = (I_370 398 this).toInt := by rw [eI_394, pq_uf _ _ _ (by decide)]
                    have tt_397 : (I_394 401 this).toInt = (I_370 401 this).toInt := by rw [eI_394, pq_uf _ _ _ (by decide)]
                    have tt_398 : (I_394 402 this).toInt = (I_370 402 this).toInt := by rw [eI_394, pq_uf _ _ _ (by decide)]
                    have tt_399 : (I_394 391 this).toInt = (I_370 391 this).toInt := by rw [eI_394, pq_uf _ _ _ (by decide)]
                    have tt_400 : (I_394 393 this).toInt = (I_370 393 this).toInt := by rw [eI_394, pq_uf _ _ _ (by decide)]
                    have tt_401 : (I_394 403 this).toInt = (I_370 403 this).toInt := by rw [eI_394, pq_uf _ _ _ (by decide)]
                    have tt_402 : (I_394 397 this).toInt = (x_392).toInt := by rw [eI_394, pq_us]
                    refine lv_aload_n hx hb dX12_clause_194 rfl (lv_at hl 3 rfl) ?_
                    refine pk_v (va_runV (As := []) (rest := []) ⟨hx, hb, hml, hown, hts⟩ (s_X12_nextToken_x l D t σ I_394 J_371 ri_372 rj rq H.size tg hSH hG.1 this hL_this hK_this w_154 hR_w_154 hL_w_154 hK_w_154 hN_w_154 hT_w_154) (cwV 0 hts (tw_V tw_832 tw_833 tw_834 tw_5 tw_835) rfl rfl rfl (by decide +kernel) ⟨Nat.le_of_ble_eq_true rfl, Nat.le_of_ble_eq_true rfl⟩) ⟨pq_blind, pq_recv hK hP hL_this hK_this (by decide) rfl, pq_pre hK hN hP hD⟩ rfl rfl hl.1 rfl (lv_room (Nat.le_of_ble_eq_true rfl)) dX12_clause_195 ⟨Nat.le_of_ble_eq_true rfl, Nat.le_of_ble_eq_true rfl⟩) hD hS hA (fun σ1 μ1 H locs hw_404 hP hD hS => ?_)
                    obtain ⟨I_405, J_406, hu_407, hg_408, hp_410, hp_411, hp_412⟩ := hw_404
                    obtain ⟨hu_407a, hu_407b⟩ := Prod.mk.inj hu_407
                    rw [hu_407a, hu_407b] at hP hD
                    have tt_413 := hp_410
                    have tt_414 := hp_411
                    have tt_415 := hp_412
                    have tt_416 : (I_405 391 this).toInt ≤ 300 := by have z := hg_408.1.1 391 this; exact z.2
                    have hG := GM.tr hG hg_408 (by decide)
                    have tt_417 : (I_405 396 this).toInt = (I_394 396 this).toInt := by rw [hg_408.2.1 396 (by decide) (by decide)]
                    have tt_418 : (I_405 398 this).toInt = (I_394 398 this).toInt := by rw [hg_408.2.1 398 (by decide) (by decide)]
                    have tt_419 : (I_405 401 this).toInt = (I_394 401 this).toInt := by rw [hg_408.2.1 401 (by decide) (by decide)]
                    have tt_420 : (I_405 402 this).toInt = (I_394 402 this).toInt := by rw [hg_408.2.1 402 (by decide) (by decide)]
                    have tt_421 : (I_405 397 this).toInt = (I_394 397 this).toInt := by rw [hg_408.2.1 397 (by decide) (by decide)]
                    refine lv_iconst (v := 0) hx hb dX12_clause_198 (by decide) ?_
                    subst hQ
                    exact W.iret (v := 0) hx hb hr (fun t1 ht hW => ⟨⟨0, (σ, I_405, J_406, ri_372, rj, rq), rfl, ⟨I_405, J_406, ri_372, rfl, hG, (Or.inr ⟨(CLz_mk (by rw [show ri_372 this_a 6 = ri this_a 6 from hG.2.2.1 this_a hT_this_a 6 (by decide) (by decide)]; omega) (by rw [show (I_405 397 this).toInt = (((I 397 this).toNatClampNeg + 1 : Nat) : Int) from by omega]; have q := TXQ_other (f := ri this_a) (w := (I 398 this).toInt) (n := (I 397 this).toNatClampNeg) (ci := (x_150).toNatClampNeg) (by rw [show (((I 397 this).toNatClampNeg : Nat) : Int) = (I 397 this).toInt from by omega]; exact hcl.2.1) (by omega) ⟨by omega, by omega⟩ (by omega) (by omega) ((congrFun er_153 _).trans (va_up_self _ _ _)) (by omega) (fun j hj => hp_377 j (by omega)); rw [show (I_405 398 this).toInt = (I 398 this).toInt from by omega]; exact q) (by omega) (by omega) (by omega) (fun q => by omega) (by omega)), (by have l1 : tmM (I_405 391 this).toInt (I_405 393 this).toInt < tmM (I_394 391 this).toInt (I_394 393 this).toInt := tm_lt (by omega) (by omega) (by omega); have l2 : tmM (I_394 391 this).toInt (I_394 393 this).toInt = tmM (I_370 391 this).toInt (I_370 393 this).toInt := by rw [show (I_394 391 this).toInt = (I_370 391 this).toInt from by omega, show (I_394 393 this).toInt = (I_370 393 this).toInt from by omega]; have l3 := (Int.le_trans hp_378 htmH); omega)⟩), (rg_w (rg_k (0 : Int32) 0 rfl) (by decide))⟩, by rw [ht]; exact hP, va_K.moved hW.alike hK, hD⟩, hS.F ht⟩) hS.2.2 dX12_clause_199
                  · have tc_422 : (I_370 393 this).toInt ≠ 59 := fun q => c_388 (Int32.toInt_inj.mp q)
                    refine lv_iconst (v := 1) hx hb dX12_clause_182 (by decide) ?_
                    subst hQ
                    exact W.iret (v := 1) hx hb hr (fun t1 ht hW => ⟨⟨1, (σ, I_370, J_371, ri_372, rj, rq), rfl, ⟨I_370, J_371, ri_372, rfl, hG, (Or.inl (by decide)), (rg_w (rg_k (1 : Int32) 1 rfl) (by decide))⟩, by rw [ht]; exact hP, va_K.moved hW.alike hK, hD⟩, hS.F ht⟩) hS.2.2 dX12_clause_183
                · have tc_423 : (x_368).toInt ≠ 0 := fun q => c_385 (Int32.toInt_inj.mp q)
                  have h_424 : rg x_368 1 5 := rg_ne c_385 hr_375 0 rfl (by decide)
                  have uh_424 := h_424.1
                  have vh_424 := h_424.2
                  refine lv_iload_n hx hb dX12_clause_171 rfl (lv_at hl 0 rfl) ?_
                  subst hQ
                  exact W.iret (v := x_368) hx hb hr (fun t1 ht hW => ⟨⟨x_368, (σ, I_370, J_371, ri_372, rj, rq), rfl, ⟨I_370, J_371, ri_372, rfl, hG, (Or.inl (by omega)), (rg_w h_424 (by decide))⟩, by rw [ht]; exact hP, va_K.moved hW.alike hK, hD⟩, hS.F ht⟩) hS.2.2 dX12_clause_172
            · have tc_425 : (x_1).toInt ≤ 4 := Int32.le_iff_toInt_le.mp (nlt c_174)
              exact (rg_empty (rg_le1 (nlt c_174) h_124 (rg_k (4 : Int32) 4 rfl) (lo := 5) (hi := 4) (by decide)) (by decide)).elim
          · have tc_426 : (I 397 this).toInt = 20 := congrArg Int32.toInt c_130
            have h_427 : rg (I 397 this) 20 20 := rg_and h_129 (rg_of_eq c_130 (rg_k (20 : Int32) 20 rfl)) (by decide)
            have uh_427 := h_427.1
            have vh_427 := h_427.2
            refine lv_iconst (v := 5) hx hb dX12_clause_39 (by decide) ?_
            subst hQ
            exact W.iret (v := 5) hx hb hr (fun t1 ht hW => ⟨⟨5, (σ, I, J, ri, rj, rq), rfl, ⟨I, J, ri, rfl, hG, (Or.inl (by decide)), (rg_w (rg_k (5 : Int32) 5 rfl) (by decide))⟩, by rw [ht]; exact hP, va_K.moved hW.alike hK, hD⟩, hS.F ht⟩) hS.2.2 dX12_clause_40
        · have tc_428 : (x_126).toInt = 1 := congrArg Int32.toInt c_127
          have h_429 : rg x_126 1 1 := rg_and (rg_full _) (rg_of_eq c_127 (rg_k (1 : Int32) 1 rfl)) (by decide)
          have uh_429 := h_429.1
          have vh_429 := h_429.2
          refine lv_iconst (v := 4) hx hb dX12_clause_28 (by decide) ?_
          subst hQ
          exact W.iret (v := 4) hx hb hr (fun t1 ht hW => ⟨⟨4, (σ, I, J, ri, rj, rq), rfl, ⟨I, J, ri, rfl, hG, (Or.inl (by decide)), (rg_w (rg_k (4 : Int32) 4 rfl) (by decide))⟩, by rw [ht]; exact hP, va_K.moved hW.alike hK, hD⟩, hS.F ht⟩) hS.2.2 dX12_clause_29
    · have tc_430 : (x_1).toInt = 0 := congrArg Int32.toInt c_8
      have h_431 : rg x_1 0 0 := rg_and hr_5 (rg_of_eq c_8 (rg_k (0 : Int32) 0 rfl)) (by decide)
      have uh_431 := h_431.1
      have vh_431 := h_431.2
      refine lv_iconst (v := 1) hx hb dX12_clause_9 (by decide) ?_
      subst hQ
      exact W.iret (v := 1) hx hb hr (fun t1 ht hW => ⟨⟨1, (σ, I, J, ri, rj, rq), rfl, ⟨I, J, ri, rfl, hG, (Or.inl (by decide)), (rg_w (rg_k (1 : Int32) 1 rfl) (by decide))⟩, by rw [ht]; exact hP, va_K.moved hW.alike hK, hD⟩, hS.F ht⟩) hS.2.2 dX12_clause_10
  exact go _ _ _ hP hD hS hl
