theorem dX12_compareOf_0 : decode cX12_compareOf 0 = .ok (.aload_n 0, 1) := by decide +kernel
theorem dX12_compareOf_1 : decode cX12_compareOf 1 = .ok (.getfield 143, 3) := by decide +kernel
theorem dX12_compareOf_4 : decode cX12_compareOf 4 = .ok (.bipush 60, 2) := by decide +kernel
theorem dX12_compareOf_6 : decode cX12_compareOf 6 = .ok (.if_icmp .ne 8, 3) := by decide +kernel
theorem dX12_compareOf_14 : decode cX12_compareOf 14 = .ok (.aload_n 0, 1) := by decide +kernel
theorem dX12_compareOf_15 : decode cX12_compareOf 15 = .ok (.getfield 143, 3) := by decide +kernel
theorem dX12_compareOf_18 : decode cX12_compareOf 18 = .ok (.iconst 4, 1) := by decide +kernel
theorem dX12_compareOf_19 : decode cX12_compareOf 19 = .ok (.if_icmp .ne 8, 3) := by decide +kernel
theorem dX12_compareOf_27 : decode cX12_compareOf 27 = .ok (.aload_n 0, 1) := by decide +kernel
theorem dX12_compareOf_28 : decode cX12_compareOf 28 = .ok (.getfield 143, 3) := by decide +kernel
theorem dX12_compareOf_31 : decode cX12_compareOf 31 = .ok (.bipush 62, 2) := by decide +kernel
theorem dX12_compareOf_33 : decode cX12_compareOf 33 = .ok (.if_icmp .ne 8, 3) := by decide +kernel
theorem dX12_compareOf_41 : decode cX12_compareOf 41 = .ok (.aload_n 0, 1) := by decide +kernel
theorem dX12_compareOf_42 : decode cX12_compareOf 42 = .ok (.getfield 143, 3) := by decide +kernel
theorem dX12_compareOf_45 : decode cX12_compareOf 45 = .ok (.iconst 5, 1) := by decide +kernel
theorem dX12_compareOf_46 : decode cX12_compareOf 46 = .ok (.if_icmp .ne 8, 3) := by decide +kernel
theorem dX12_compareOf_54 : decode cX12_compareOf 54 = .ok (.aload_n 0, 1) := by decide +kernel
theorem dX12_compareOf_55 : decode cX12_compareOf 55 = .ok (.getfield 143, 3) := by decide +kernel
theorem dX12_compareOf_58 : decode cX12_compareOf 58 = .ok (.bipush 61, 2) := by decide +kernel
theorem dX12_compareOf_60 : decode cX12_compareOf 60 = .ok (.if_icmp .ne 8, 3) := by decide +kernel
theorem dX12_compareOf_68 : decode cX12_compareOf 68 = .ok (.aload_n 0, 1) := by decide +kernel
theorem dX12_compareOf_69 : decode cX12_compareOf 69 = .ok (.getfield 143, 3) := by decide +kernel
theorem dX12_compareOf_72 : decode cX12_compareOf 72 = .ok (.bipush 35, 2) := by decide +kernel
theorem dX12_compareOf_74 : decode cX12_compareOf 74 = .ok (.if_icmp .ne 8, 3) := by decide +kernel
theorem dX12_compareOf_82 : decode cX12_compareOf 82 = .ok (.iconst (-1), 1) := by decide +kernel
theorem dX12_compareOf_83 : decode cX12_compareOf 83 = .ok (.ireturn, 1) := by decide +kernel
theorem dX12_compareOf_77 : decode cX12_compareOf 77 = .ok (.bipush 15, 2) := by decide +kernel
theorem dX12_compareOf_79 : decode cX12_compareOf 79 = .ok (.goto 4, 3) := by decide +kernel
theorem dX12_compareOf_63 : decode cX12_compareOf 63 = .ok (.bipush 14, 2) := by decide +kernel
theorem dX12_compareOf_65 : decode cX12_compareOf 65 = .ok (.goto 18, 3) := by decide +kernel
theorem dX12_compareOf_49 : decode cX12_compareOf 49 = .ok (.bipush 13, 2) := by decide +kernel
theorem dX12_compareOf_51 : decode cX12_compareOf 51 = .ok (.goto 32, 3) := by decide +kernel
theorem dX12_compareOf_36 : decode cX12_compareOf 36 = .ok (.bipush 12, 2) := by decide +kernel
theorem dX12_compareOf_38 : decode cX12_compareOf 38 = .ok (.goto 45, 3) := by decide +kernel
theorem dX12_compareOf_22 : decode cX12_compareOf 22 = .ok (.bipush 11, 2) := by decide +kernel
theorem dX12_compareOf_24 : decode cX12_compareOf 24 = .ok (.goto 59, 3) := by decide +kernel
theorem dX12_compareOf_9 : decode cX12_compareOf 9 = .ok (.bipush 10, 2) := by decide +kernel
theorem dX12_compareOf_11 : decode cX12_compareOf 11 = .ok (.goto 72, 3) := by decide +kernel
theorem dX12_sortOf_0 : decode cX12_sortOf 0 = .ok (.aload_n 0, 1) := by decide +kernel
theorem dX12_sortOf_1 : decode cX12_sortOf 1 = .ok (.getfield 143, 3) := by decide +kernel
theorem dX12_sortOf_4 : decode cX12_sortOf 4 = .ok (.iconst 2, 1) := by decide +kernel
theorem dX12_sortOf_5 : decode cX12_sortOf 5 = .ok (.if_icmp .eq 5, 3) := by decide +kernel
theorem dX12_sortOf_10 : decode cX12_sortOf 10 = .ok (.aload_n 0, 1) := by decide +kernel
theorem dX12_sortOf_11 : decode cX12_sortOf 11 = .ok (.getfield 156, 3) := by decide +kernel
theorem dX12_sortOf_14 : decode cX12_sortOf 14 = .ok (.bipush 108, 2) := by decide +kernel
theorem dX12_sortOf_16 : decode cX12_sortOf 16 = .ok (.bipush 97, 2) := by decide +kernel
theorem dX12_sortOf_18 : decode cX12_sortOf 18 = .ok (.bipush 115, 2) := by decide +kernel
theorem dX12_sortOf_20 : decode cX12_sortOf 20 = .ok (.bipush 116, 2) := by decide +kernel
theorem dX12_sortOf_22 : decode cX12_sortOf 22 = .ok (.bipush 115, 2) := by decide +kernel
theorem dX12_sortOf_24 : decode cX12_sortOf 24 = .ok (.invokestatic 168, 3) := by decide +kernel
theorem dX12_sortOf_27 : decode cX12_sortOf 27 = .ok (.lcmp, 1) := by decide +kernel
theorem dX12_sortOf_28 : decode cX12_sortOf 28 = .ok (.ifCond .ne 5, 3) := by decide +kernel
theorem dX12_sortOf_33 : decode cX12_sortOf 33 = .ok (.aload_n 0, 1) := by decide +kernel
theorem dX12_sortOf_34 : decode cX12_sortOf 34 = .ok (.getfield 156, 3) := by decide +kernel
theorem dX12_sortOf_37 : decode cX12_sortOf 37 = .ok (.bipush 112, 2) := by decide +kernel
theorem dX12_sortOf_39 : decode cX12_sortOf 39 = .ok (.bipush 101, 2) := by decide +kernel
theorem dX12_sortOf_41 : decode cX12_sortOf 41 = .ok (.bipush 111, 2) := by decide +kernel
theorem dX12_sortOf_43 : decode cX12_sortOf 43 = .ok (.bipush 112, 2) := by decide +kernel
theorem dX12_sortOf_45 : decode cX12_sortOf 45 = .ok (.bipush 108, 2) := by decide +kernel
theorem dX12_sortOf_47 : decode cX12_sortOf 47 = .ok (.bipush 101, 2) := by decide +kernel
theorem tw_867 : Cond.methodLink RX12 236 yX12_w6 ∈ wsL_law := List.mem_of_getElem? (i := 867) (by decide +kernel)
theorem tw_868 : Cond.static yX12_w6 ∈ wsL_law := List.mem_of_getElem? (i := 868) (by decide +kernel)
theorem tw_869 : Cond.code yX12_w6 cX12_w6 6 (some .long) ∈ wsL_law := List.mem_of_getElem? (i := 869) (by decide +kernel)
theorem dX12_sortOf_49 : decode cX12_sortOf 49 = .ok (.invokestatic 236, 3) := by decide +kernel
theorem dX12_sortOf_52 : decode cX12_sortOf 52 = .ok (.lcmp, 1) := by decide +kernel
theorem dX12_sortOf_53 : decode cX12_sortOf 53 = .ok (.ifCond .ne 5, 3) := by decide +kernel
theorem dX12_sortOf_58 : decode cX12_sortOf 58 = .ok (.aload_n 0, 1) := by decide +kernel
theorem dX12_sortOf_59 : decode cX12_sortOf 59 = .ok (.getfield 156, 3) := by decide +kernel
theorem dX12_sortOf_62 : decode cX12_sortOf 62 = .ok (.bipush 109, 2) := by decide +kernel
theorem dX12_sortOf_64 : decode cX12_sortOf 64 = .ok (.bipush 97, 2) := by decide +kernel
theorem dX12_sortOf_66 : decode cX12_sortOf 66 = .ok (.bipush 121, 2) := by decide +kernel
theorem dX12_sortOf_68 : decode cX12_sortOf 68 = .ok (.invokestatic 160, 3) := by decide +kernel
theorem dX12_sortOf_71 : decode cX12_sortOf 71 = .ok (.lcmp, 1) := by decide +kernel
theorem dX12_sortOf_72 : decode cX12_sortOf 72 = .ok (.ifCond .ne 5, 3) := by decide +kernel
theorem dX12_sortOf_77 : decode cX12_sortOf 77 = .ok (.aload_n 0, 1) := by decide +kernel
theorem dX12_sortOf_78 : decode cX12_sortOf 78 = .ok (.getfield 156, 3) := by decide +kernel
theorem dX12_sortOf_81 : decode cX12_sortOf 81 = .ok (.bipush 118, 2) := by decide +kernel
theorem dX12_sortOf_83 : decode cX12_sortOf 83 = .ok (.bipush 111, 2) := by decide +kernel
theorem dX12_sortOf_85 : decode cX12_sortOf 85 = .ok (.bipush 116, 2) := by decide +kernel
theorem dX12_sortOf_87 : decode cX12_sortOf 87 = .ok (.bipush 101, 2) := by decide +kernel
theorem dX12_sortOf_89 : decode cX12_sortOf 89 = .ok (.invokestatic 164, 3) := by decide +kernel
theorem dX12_sortOf_92 : decode cX12_sortOf 92 = .ok (.lcmp, 1) := by decide +kernel
theorem dX12_sortOf_93 : decode cX12_sortOf 93 = .ok (.ifCond .ne 5, 3) := by decide +kernel
theorem dX12_sortOf_98 : decode cX12_sortOf 98 = .ok (.aload_n 0, 1) := by decide +kernel
theorem dX12_sortOf_99 : decode cX12_sortOf 99 = .ok (.getfield 156, 3) := by decide +kernel
theorem dX12_sortOf_102 : decode cX12_sortOf 102 = .ok (.bipush 111, 2) := by decide +kernel
theorem dX12_sortOf_104 : decode cX12_sortOf 104 = .ok (.bipush 114, 2) := by decide +kernel
theorem dX12_sortOf_106 : decode cX12_sortOf 106 = .ok (.bipush 100, 2) := by decide +kernel
theorem dX12_sortOf_108 : decode cX12_sortOf 108 = .ok (.bipush 101, 2) := by decide +kernel
theorem dX12_sortOf_110 : decode cX12_sortOf 110 = .ok (.bipush 114, 2) := by decide +kernel
theorem dX12_sortOf_112 : decode cX12_sortOf 112 = .ok (.invokestatic 168, 3) := by decide +kernel
theorem dX12_sortOf_115 : decode cX12_sortOf 115 = .ok (.lcmp, 1) := by decide +kernel
theorem dX12_sortOf_116 : decode cX12_sortOf 116 = .ok (.ifCond .ne 5, 3) := by decide +kernel
theorem dX12_sortOf_121 : decode cX12_sortOf 121 = .ok (.aload_n 0, 1) := by decide +kernel
theorem dX12_sortOf_122 : decode cX12_sortOf 122 = .ok (.getfield 156, 3) := by decide +kernel
theorem dX12_sortOf_125 : decode cX12_sortOf 125 = .ok (.bipush 104, 2) := by decide +kernel
theorem dX12_sortOf_127 : decode cX12_sortOf 127 = .ok (.bipush 101, 2) := by decide +kernel
theorem dX12_sortOf_129 : decode cX12_sortOf 129 = .ok (.bipush 105, 2) := by decide +kernel
theorem dX12_sortOf_131 : decode cX12_sortOf 131 = .ok (.bipush 114, 2) := by decide +kernel
theorem dX12_sortOf_133 : decode cX12_sortOf 133 = .ok (.invokestatic 164, 3) := by decide +kernel
theorem dX12_sortOf_136 : decode cX12_sortOf 136 = .ok (.lcmp, 1) := by decide +kernel
theorem dX12_sortOf_137 : decode cX12_sortOf 137 = .ok (.ifCond .ne 6, 3) := by decide +kernel
theorem dX12_sortOf_143 : decode cX12_sortOf 143 = .ok (.aload_n 0, 1) := by decide +kernel
theorem dX12_sortOf_144 : decode cX12_sortOf 144 = .ok (.getfield 156, 3) := by decide +kernel
theorem dX12_sortOf_147 : decode cX12_sortOf 147 = .ok (.bipush 99, 2) := by decide +kernel
theorem dX12_sortOf_149 : decode cX12_sortOf 149 = .ok (.bipush 111, 2) := by decide +kernel
theorem dX12_sortOf_151 : decode cX12_sortOf 151 = .ok (.bipush 117, 2) := by decide +kernel
theorem dX12_sortOf_153 : decode cX12_sortOf 153 = .ok (.bipush 110, 2) := by decide +kernel
theorem dX12_sortOf_155 : decode cX12_sortOf 155 = .ok (.bipush 99, 2) := by decide +kernel
theorem dX12_sortOf_157 : decode cX12_sortOf 157 = .ok (.bipush 105, 2) := by decide +kernel
theorem dX12_sortOf_159 : decode cX12_sortOf 159 = .ok (.invokestatic 236, 3) := by decide +kernel
theorem dX12_sortOf_162 : decode cX12_sortOf 162 = .ok (.bipush 8, 2) := by decide +kernel
theorem dX12_sortOf_164 : decode cX12_sortOf 164 = .ok (.lshl, 1) := by decide +kernel
theorem tw_857 : Cond.constantLong RX12 240 (108) ∈ wsL_law := List.mem_of_getElem? (i := 857) (by decide +kernel)
theorem dX12_sortOf_165 : decode cX12_sortOf 165 = .ok (.ldc2_w 240, 3) := by decide +kernel
theorem dX12_sortOf_168 : decode cX12_sortOf 168 = .ok (.lor, 1) := by decide +kernel
theorem dX12_sortOf_169 : decode cX12_sortOf 169 = .ok (.lcmp, 1) := by decide +kernel
theorem dX12_sortOf_170 : decode cX12_sortOf 170 = .ok (.ifCond .ne 6, 3) := by decide +kernel
theorem dX12_sortOf_176 : decode cX12_sortOf 176 = .ok (.aload_n 0, 1) := by decide +kernel
theorem dX12_sortOf_177 : decode cX12_sortOf 177 = .ok (.getfield 156, 3) := by decide +kernel
theorem dX12_sortOf_180 : decode cX12_sortOf 180 = .ok (.bipush 102, 2) := by decide +kernel
theorem dX12_sortOf_182 : decode cX12_sortOf 182 = .ok (.bipush 105, 2) := by decide +kernel
theorem dX12_sortOf_184 : decode cX12_sortOf 184 = .ok (.bipush 120, 2) := by decide +kernel
theorem dX12_sortOf_186 : decode cX12_sortOf 186 = .ok (.invokestatic 160, 3) := by decide +kernel
theorem dX12_sortOf_189 : decode cX12_sortOf 189 = .ok (.lcmp, 1) := by decide +kernel
theorem dX12_sortOf_190 : decode cX12_sortOf 190 = .ok (.ifCond .ne 8, 3) := by decide +kernel
theorem dX12_sortOf_198 : decode cX12_sortOf 198 = .ok (.aload_n 0, 1) := by decide +kernel
theorem dX12_sortOf_199 : decode cX12_sortOf 199 = .ok (.getfield 156, 3) := by decide +kernel
theorem dX12_sortOf_202 : decode cX12_sortOf 202 = .ok (.bipush 108, 2) := by decide +kernel
theorem dX12_sortOf_204 : decode cX12_sortOf 204 = .ok (.bipush 101, 2) := by decide +kernel
theorem dX12_sortOf_206 : decode cX12_sortOf 206 = .ok (.bipush 97, 2) := by decide +kernel
theorem dX12_sortOf_208 : decode cX12_sortOf 208 = .ok (.bipush 118, 2) := by decide +kernel
theorem dX12_sortOf_210 : decode cX12_sortOf 210 = .ok (.bipush 101, 2) := by decide +kernel
theorem dX12_sortOf_212 : decode cX12_sortOf 212 = .ok (.invokestatic 168, 3) := by decide +kernel
theorem dX12_sortOf_215 : decode cX12_sortOf 215 = .ok (.lcmp, 1) := by decide +kernel
theorem dX12_sortOf_216 : decode cX12_sortOf 216 = .ok (.ifCond .ne 8, 3) := by decide +kernel
theorem dX12_sortOf_224 : decode cX12_sortOf 224 = .ok (.iconst 0, 1) := by decide +kernel
theorem dX12_sortOf_225 : decode cX12_sortOf 225 = .ok (.ireturn, 1) := by decide +kernel
theorem dX12_sortOf_219 : decode cX12_sortOf 219 = .ok (.bipush 9, 2) := by decide +kernel
theorem dX12_sortOf_221 : decode cX12_sortOf 221 = .ok (.goto 4, 3) := by decide +kernel
theorem dX12_sortOf_193 : decode cX12_sortOf 193 = .ok (.bipush 8, 2) := by decide +kernel
theorem dX12_sortOf_195 : decode cX12_sortOf 195 = .ok (.goto 30, 3) := by decide +kernel
theorem dX12_sortOf_173 : decode cX12_sortOf 173 = .ok (.bipush 7, 2) := by decide +kernel
theorem dX12_sortOf_175 : decode cX12_sortOf 175 = .ok (.ireturn, 1) := by decide +kernel
theorem dX12_sortOf_140 : decode cX12_sortOf 140 = .ok (.bipush 6, 2) := by decide +kernel
theorem dX12_sortOf_142 : decode cX12_sortOf 142 = .ok (.ireturn, 1) := by decide +kernel
theorem dX12_sortOf_119 : decode cX12_sortOf 119 = .ok (.iconst 5, 1) := by decide +kernel
theorem dX12_sortOf_120 : decode cX12_sortOf 120 = .ok (.ireturn, 1) := by decide +kernel
theorem dX12_sortOf_96 : decode cX12_sortOf 96 = .ok (.iconst 4, 1) := by decide +kernel
theorem dX12_sortOf_97 : decode cX12_sortOf 97 = .ok (.ireturn, 1) := by decide +kernel
theorem dX12_sortOf_75 : decode cX12_sortOf 75 = .ok (.iconst 3, 1) := by decide +kernel
theorem dX12_sortOf_76 : decode cX12_sortOf 76 = .ok (.ireturn, 1) := by decide +kernel
theorem dX12_sortOf_56 : decode cX12_sortOf 56 = .ok (.iconst 2, 1) := by decide +kernel
theorem dX12_sortOf_57 : decode cX12_sortOf 57 = .ok (.ireturn, 1) := by decide +kernel
theorem dX12_sortOf_31 : decode cX12_sortOf 31 = .ok (.iconst 1, 1) := by decide +kernel
theorem dX12_sortOf_32 : decode cX12_sortOf 32 = .ok (.ireturn, 1) := by decide +kernel
theorem dX12_sortOf_8 : decode cX12_sortOf 8 = .ok (.iconst 0, 1) := by decide +kernel
theorem dX12_sortOf_9 : decode cX12_sortOf 9 = .ok (.ireturn, 1) := by decide +kernel
set_option maxHeartbeats 4000000 in
set_option maxRecDepth 100000 in
theorem s_X12_compareOf (l : Launch) (D : va_G) (t : pq_T) (σ : pq_S) (I : Nat → Nat → Int32) (J : Nat → Nat → Int64) (ri : Nat → Nat → Int32) (rj : Nat → Nat → Int64) (rq : Nat → Nat → Option Nat) (sz : Nat) (tg : Nat → Nat) (hSH : SH σ tg) (hG0 : GT tg I ri) (this : Nat) (hL_this : this ∈ σ.1) (hK_this : σ.2.1 this = 12) : MetI l yX12_compareOf (wa yX12_compareOf cX12_compareOf 1 (some .int)) ({ frames := 0, cells := 0, slots := 0, locals := 0 }) [.ref this] D t σ (I, J, ri, rj, rq) sz 0 0 (fun (r : Int32) (u : pq_S × pq_M) => u = (σ, I, J, ri, rj, rq) ∧ rg r (-1) 15) := by
  refine Met.ofW (cc := cX12_compareOf) (maxL := 1) (ret := (some .int)) (by decide) rfl ?_
  intro p e s m args below meth c s₁ B hml hv
  obtain ⟨rfl, hsz, hP, hK, hD0, hN⟩ := hv
  have hx := B.exec
  have hb := B.bytes
  have hr := B.returns
  have hts := atoms_spec (ws := (wa yX12_compareOf cX12_compareOf 1 (some .int))) B.pre
  have hown : s.vm.findClass RX12 = some m.cls := findClass_of_methodNamed B.named
  have hlocks := B.notSynchronized
  subst hsz
  have hD : va_D (pq_B t σ (I, J, ri, rj, rq) s.heap.size) (pq_P t σ (I, J, ri, rj, rq)) := hD0.self
  generalize hAe : pq_B t σ (I, J, ri, rj, rq) s.heap.size = A at hD ⊢
  have hA : ∀ q : Nat, s.heap.size ≤ q → A q := fun q h => by rw [← hAe]; exact Or.inr h
  have hS : va_S A s.heap s.heap [] := va_S.rf
  have hG : GM [] tg σ I ri I ri rq := ⟨hG0, fun _ _ _ => rfl, fun _ _ _ _ _ => rfl, fun _ _ _ _ _ _ => rfl⟩
  have hl := lv_entry ([.ref this]) (n := 1) (Nat.le_of_ble_eq_true rfl)
  rw [lg_entry_eq]
  generalize (lg_sl ([.ref this]) ++ List.replicate (1 - (lg_sl ([.ref this])).length) Slot.unset).toArray = ls at hl ⊢
  have hl : lv_has ls 1 [(0, .ref this)] := hl
  refine q_gen (fun Q hQ => ?_)
  have go : ∀ (H : Heap) (locs : List Loc) (ls : Array Slot), va_P D vwCl (pq_P t σ (I, J, ri, rj, rq)) H → va_D A (pq_P t σ (I, J, ri, rj, rq)) → va_S A s.heap H locs → lv_has ls 1 [(0, .ref this)] → W p l e ({ frames := 0, cells := 0, slots := 0, locals := 0 } : Room) s m (List.toArray ([.ref this] : List Value)) below meth c H locs 0 0 Q (F0 m 0 ls []) := by
    intro H locs ls hP hD hS hl
    refine lv_aload_n hx hb dX12_compareOf_0 rfl (lv_at hl 0 rfl) ?_
    refine pg_f (v := .int (I 393 this)) (C := RX12) (T := TX12) (N := 31) hx hb hts (tw_i inlX12) hown hK hP hL_this hK_this (by decide) rfl 9 (by decide) (hts _ (tw_c tw_831)) rfl dX12_compareOf_1 ?_
    refine lv_bipush (v := 60) hx hb dX12_compareOf_4 (by decide) ?_
    refine lv_icmp_ne (tgt := 14) hx hb dX12_compareOf_6 (by decide) (fun c_1 => ?_) (fun c_1 => ?_)
    · have tc_2 : (I 393 this).toInt ≠ 60 := fun q => c_1 (Int32.toInt_inj.mp q)
      refine lv_aload_n hx hb dX12_compareOf_14 rfl (lv_at hl 0 rfl) ?_
      refine pg_f (v := .int (I 393 this)) (C := RX12) (T := TX12) (N := 31) hx hb hts (tw_i inlX12) hown hK hP hL_this hK_this (by decide) rfl 9 (by decide) (hts _ (tw_c tw_831)) rfl dX12_compareOf_15 ?_
      refine lv_iconst (v := 4) hx hb dX12_compareOf_18 (by decide) ?_
      refine lv_icmp_ne (tgt := 27) hx hb dX12_compareOf_19 (by decide) (fun c_3 => ?_) (fun c_3 => ?_)
      · have tc_4 : (I 393 this).toInt ≠ 4 := fun q => c_3 (Int32.toInt_inj.mp q)
        refine lv_aload_n hx hb dX12_compareOf_27 rfl (lv_at hl 0 rfl) ?_
        refine pg_f (v := .int (I 393 this)) (C := RX12) (T := TX12) (N := 31) hx hb hts (tw_i inlX12) hown hK hP hL_this hK_this (by decide) rfl 9 (by decide) (hts _ (tw_c tw_831)) rfl dX12_compareOf_28 ?_
        refine lv_bipush (v := 62) hx hb dX12_compareOf_31 (by decide) ?_
        refine lv_icmp_ne (tgt := 41) hx hb dX12_compareOf_33 (by decide) (fun c_5 => ?_) (fun c_5 => ?_)
        · have tc_6 : (I 393 this).toInt ≠ 62 := fun q => c_5 (Int32.toInt_inj.mp q)
          refine lv_aload_n hx hb dX12_compareOf_41 rfl (lv_at hl 0 rfl) ?_
          refine pg_f (v := .int (I 393 this)) (C := RX12) (T := TX12) (N := 31) hx hb hts (tw_i inlX12) hown hK hP hL_this hK_this (by decide) rfl 9 (by decide) (hts _ (tw_c tw_831)) rfl dX12_compareOf_42 ?_
          refine lv_iconst (v := 5) hx hb dX12_compareOf_45 (by decide) ?_
          refine lv_icmp_ne (tgt := 54) hx hb dX12_compareOf_46 (by decide) (fun c_7 => ?_) (fun c_7 => ?_)
          · have tc_8 : (I 393 this).toInt ≠ 5 := fun q => c_7 (Int32.toInt_inj.mp q)
            refine lv_aload_n hx hb dX12_compareOf_54 rfl (lv_at hl 0 rfl) ?_
            refine pg_f (v := .int (I 393 this)) (C := RX12) (T := TX12) (N := 31) hx hb hts (tw_i inlX12) hown hK hP hL_this hK_this (by decide) rfl 9 (by decide) (hts _ (tw_c tw_831)) rfl dX12_compareOf_55 ?_
            refine lv_bipush (v := 61) hx hb dX12_compareOf_58 (by decide) ?_
            refine lv_icmp_ne (tgt := 68) hx hb dX12_compareOf_60 (by decide) (fun c_9 => ?_) (fun c_9 => ?_)
            · have tc_10 : (I 393 this).toInt ≠ 61 := fun q => c_9 (Int32.toInt_inj.mp q)
              refine lv_aload_n hx hb dX12_compareOf_68 rfl (lv_at hl 0 rfl) ?_
              refine pg_f (v := .int (I 393 this)) (C := RX12) (T := TX12) (N := 31) hx hb hts (tw_i inlX12) hown hK hP hL_this hK_this (by decide) rfl 9 (by decide) (hts _ (tw_c tw_831)) rfl dX12_compareOf_69 ?_
              refine lv_bipush (v := 35) hx hb dX12_compareOf_72 (by decide) ?_
              refine lv_icmp_ne (tgt := 82) hx hb dX12_compareOf_74 (by decide) (fun c_11 => ?_) (fun c_11 => ?_)
              · have tc_12 : (I 393 this).toInt ≠ 35 := fun q => c_11 (Int32.toInt_inj.mp q)
                refine lv_iconst (v := (-1)) hx hb dX12_compareOf_82 (by decide) ?_
                subst hQ
                exact W.iret (v := (-1)) hx hb hr (fun t1 ht hW => ⟨⟨(-1), (σ, I, J, ri, rj, rq), rfl, ⟨rfl, (rg_w (rg_k (-1 : Int32) (-1) rfl) (by decide))⟩, by rw [ht]; exact hP, va_K.moved hW.alike hK, hD⟩, hS.F ht⟩) hS.2.2 dX12_compareOf_83
              · have tc_13 : (I 393 this).toInt = 35 := congrArg Int32.toInt c_11
                have h_14 : rg (I 393 this) 35 35 := rg_and (rg_full _) (rg_of_eq c_11 (rg_k (35 : Int32) 35 rfl)) (by decide)
                have uh_14 := h_14.1
                have vh_14 := h_14.2
                refine lv_bipush (v := 15) hx hb dX12_compareOf_77 (by decide) ?_
                refine lv_goto (tgt := 83) hx hb dX12_compareOf_79 (by decide) ?_
                subst hQ
                exact W.iret (v := 15) hx hb hr (fun t1 ht hW => ⟨⟨15, (σ, I, J, ri, rj, rq), rfl, ⟨rfl, (rg_w (rg_k (15 : Int32) 15 rfl) (by decide))⟩, by rw [ht]; exact hP, va_K.moved hW.alike hK, hD⟩, hS.F ht⟩) hS.2.2 dX12_compareOf_83
            · have tc_15 : (I 393 this).toInt = 61 := congrArg Int32.toInt c_9
              have h_16 : rg (I 393 this) 61 61 := rg_and (rg_full _) (rg_of_eq c_9 (rg_k (61 : Int32) 61 rfl)) (by decide)
              have uh_16 := h_16.1
              have vh_16 := h_16.2
              refine lv_bipush (v := 14) hx hb dX12_compareOf_63 (by decide) ?_
              refine lv_goto (tgt := 83) hx hb dX12_compareOf_65 (by decide) ?_
              subst hQ
              exact W.iret (v := 14) hx hb hr (fun t1 ht hW => ⟨⟨14, (σ, I, J, ri, rj, rq), rfl, ⟨rfl, (rg_w (rg_k (14 : Int32) 14 rfl) (by decide))⟩, by rw [ht]; exact hP, va_K.moved hW.alike hK, hD⟩, hS.F ht⟩) hS.2.2 dX12_compareOf_83
          · have tc_17 : (I 393 this).toInt = 5 := congrArg Int32.toInt c_7
            have h_18 : rg (I 393 this) 5 5 := rg_and (rg_full _) (rg_of_eq c_7 (rg_k (5 : Int32) 5 rfl)) (by decide)
            have uh_18 := h_18.1
            have vh_18 := h_18.2
            refine lv_bipush (v := 13) hx hb dX12_compareOf_49 (by decide) ?_
            refine lv_goto (tgt := 83) hx hb dX12_compareOf_51 (by decide) ?_
            subst hQ
            exact W.iret (v := 13) hx hb hr (fun t1 ht hW => ⟨⟨13, (σ, I, J, ri, rj, rq), rfl, ⟨rfl, (rg_w (rg_k (13 : Int32) 13 rfl) (by decide))⟩, by rw [ht]; exact hP, va_K.moved hW.alike hK, hD⟩, hS.F ht⟩) hS.2.2 dX12_compareOf_83
        · have tc_19 : (I 393 this).toInt = 62 := congrArg Int32.toInt c_5
          have h_20 : rg (I 393 this) 62 62 := rg_and (rg_full _) (rg_of_eq c_5 (rg_k (62 : Int32) 62 rfl)) (by decide)
          have uh_20 := h_20.1
          have vh_20 := h_20.2
          refine lv_bipush (v := 12) hx hb dX12_compareOf_36 (by decide) ?_
          refine lv_goto (tgt := 83) hx hb dX12_compareOf_38 (by decide) ?_
          subst hQ
          exact W.iret (v := 12) hx hb hr (fun t1 ht hW => ⟨⟨12, (σ, I, J, ri, rj, rq), rfl, ⟨rfl, (rg_w (rg_k (12 : Int32) 12 rfl) (by decide))⟩, by rw [ht]; exact hP, va_K.moved hW.alike hK, hD⟩, hS.F ht⟩) hS.2.2 dX12_compareOf_83
      · have tc_21 : (I 393 this).toInt = 4 := congrArg Int32.toInt c_3
        have h_22 : rg (I 393 this) 4 4 := rg_and (rg_full _) (rg_of_eq c_3 (rg_k (4 : Int32) 4 rfl)) (by decide)
        have uh_22 := h_22.1
        have vh_22 := h_22.2
        refine lv_bipush (v := 11) hx hb dX12_compareOf_22 (by decide) ?_
        refine lv_goto (tgt := 83) hx hb dX12_compareOf_24 (by decide) ?_
        subst hQ
        exact W.iret (v := 11) hx hb hr (fun t1 ht hW => ⟨⟨11, (σ, I, J, ri, rj, rq), rfl, ⟨rfl, (rg_w (rg_k (11 : Int32) 11 rfl) (by decide))⟩, by rw [ht]; exact hP, va_K.moved hW.alike hK, hD⟩, hS.F ht⟩) hS.2.2 dX12_compareOf_83
    · have tc_23 : (I 393 this).toInt = 60 := congrArg Int32.toInt c_1
      have h_24 : rg (I 393 this) 60 60 := rg_and (rg_full _) (rg_of_eq c_1 (rg_k (60 : Int32) 60 rfl)) (by decide)
      have uh_24 := h_24.1
      have vh_24 := h_24.2
      refine lv_bipush (v := 10) hx hb dX12_compareOf_9 (by decide) ?_
      refine lv_goto (tgt := 83) hx hb dX12_compareOf_11 (by decide) ?_
      subst hQ
      exact W.iret (v := 10) hx hb hr (fun t1 ht hW => ⟨⟨10, (σ, I, J, ri, rj, rq), rfl, ⟨rfl, (rg_w (rg_k (10 : Int32) 10 rfl) (by decide))⟩, by rw [ht]; exact hP, va_K.moved hW.alike hK, hD⟩, hS.F ht⟩) hS.2.2 dX12_compareOf_83
  exact go _ _ _ hP hD hS hl

set_option maxHeartbeats 4000000 in
set_option maxRecDepth 100000 in
theorem s_X12_sortOf (l : Launch) (D : va_G) (t : pq_T) (σ : pq_S) (I : Nat → Nat → Int32) (J : Nat → Nat → Int64) (ri : Nat → Nat → Int32) (rj : Nat → Nat → Int64) (rq : Nat → Nat → Option Nat) (sz : Nat) (tg : Nat → Nat) (hSH : SH σ tg) (hG0 : GT tg I ri) (this : Nat) (hL_this : this ∈ σ.1) (hK_this : σ.2.1 this = 12) : MetI l yX12_sortOf (wa yX12_sortOf cX12_sortOf 1 (some .int)) ({ frames := 4, cells := 0, slots := 0, locals := 94 }) [.ref this] D t σ (I, J, ri, rj, rq) sz 0 0 (fun (r : Int32) (u : pq_S × pq_M) => u = (σ, I, J, ri, rj, rq) ∧ rg r 0 9) := by
  refine Met.ofW (cc := cX12_sortOf) (maxL := 1) (ret := (some .int)) (by decide) rfl ?_
  intro p e s m args below meth c s₁ B hml hv
  obtain ⟨rfl, hsz, hP, hK, hD0, hN⟩ := hv
  have hx := B.exec
  have hb := B.bytes
  have hr := B.returns
  have hts := atoms_spec (ws := (wa yX12_sortOf cX12_sortOf 1 (some .int))) B.pre
  have hown : s.vm.findClass RX12 = some m.cls := findClass_of_methodNamed B.named
  have hlocks := B.notSynchronized
  subst hsz
  have hD : va_D (pq_B t σ (I, J, ri, rj, rq) s.heap.size) (pq_P t σ (I, J, ri, rj, rq)) := hD0.self
  generalize hAe : pq_B t σ (I, J, ri, rj, rq) s.heap.size = A at hD ⊢
  have hA : ∀ q : Nat, s.heap.size ≤ q → A q := fun q h => by rw [← hAe]; exact Or.inr h
  have hS : va_S A s.heap s.heap [] := va_S.rf
  have hG : GM [] tg σ I ri I ri rq := ⟨hG0, fun _ _ _ => rfl, fun _ _ _ _ _ => rfl, fun _ _ _ _ _ _ => rfl⟩
  have hl := lv_entry ([.ref this]) (n := 1) (Nat.le_of_ble_eq_true rfl)
  rw [lg_entry_eq]
  generalize (lg_sl ([.ref this]) ++ List.replicate (1 - (lg_sl ([.ref this])).length) Slot.unset).toArray = ls at hl ⊢
  have hl : lv_has ls 1 [(0, .ref this)] := hl
  refine q_gen (fun Q hQ => ?_)
  have go : ∀ (H : Heap) (locs : List Loc) (ls : Array Slot), va_P D vwCl (pq_P t σ (I, J, ri, rj, rq)) H → va_D A (pq_P t σ (I, J, ri, rj, rq)) → va_S A s.heap H locs → lv_has ls 1 [(0, .ref this)] → W p l e ({ frames := 4, cells := 0, slots := 0, locals := 94 } : Room) s m (List.toArray ([.ref this] : List Value)) below meth c H locs 0 0 Q (F0 m 0 ls []) := by
    intro H locs ls hP hD hS hl
    refine lv_aload_n hx hb dX12_sortOf_0 rfl (lv_at hl 0 rfl) ?_
    refine pg_f (v := .int (I 393 this)) (C := RX12) (T := TX12) (N := 31) hx hb hts (tw_i inlX12) hown hK hP hL_this hK_this (by decide) rfl 9 (by decide) (hts _ (tw_c tw_831)) rfl dX12_sortOf_1 ?_
    refine lv_iconst (v := 2) hx hb dX12_sortOf_4 (by decide) ?_
    refine lv_icmp_eq (tgt := 10) hx hb dX12_sortOf_5 (by decide) (fun c_1 => ?_) (fun c_1 => ?_)
    · have tc_2 : (I 393 this).toInt = 2 := congrArg Int32.toInt c_1
      have h_3 : rg (I 393 this) 2 2 := rg_and (rg_full _) (rg_of_eq c_1 (rg_k (2 : Int32) 2 rfl)) (by decide)
      have uh_3 := h_3.1
      have vh_3 := h_3.2
      refine lv_aload_n hx hb dX12_sortOf_10 rfl (lv_at hl 0 rfl) ?_
      refine pg_f (v := .long (J 395 this)) (C := RX12) (T := TX12) (N := 31) hx hb hts (tw_i inlX12) hown hK hP hL_this hK_this (by decide) rfl 11 (by decide) (hts _ (tw_c tw_838)) rfl dX12_sortOf_11 ?_
      refine lv_bipush (v := 108) hx hb dX12_sortOf_14 (by decide) ?_
      refine lv_bipush (v := 97) hx hb dX12_sortOf_16 (by decide) ?_
      refine lv_bipush (v := 115) hx hb dX12_sortOf_18 (by decide) ?_
      refine lv_bipush (v := 116) hx hb dX12_sortOf_20 (by decide) ?_
      refine lv_bipush (v := 115) hx hb dX12_sortOf_22 (by decide) ?_
      refine pk_l (va_runS (As := [.int 108, .int 97, .int 115, .int 116, .int 115]) (rest := [.long (J 395 this)]) ⟨hx, hb, hml, hown, hts⟩ (s_X12_w5 l D t σ I J ri rj rq H.size tg hSH hG.1 (108 : Int32) (97 : Int32) (115 : Int32) (116 : Int32) (115 : Int32)) (va_cwS 5 hts (tw_S tw_858 tw_859 tw_5 tw_860) rfl rfl rfl (by decide +kernel) ⟨Nat.le_of_ble_eq_true rfl, Nat.le_of_ble_eq_true rfl⟩) ⟨pq_blind, pq_pre hK hN hP hD⟩ rfl rfl hl.1 rfl (lv_room (Nat.le_of_ble_eq_true rfl)) dX12_sortOf_24 ⟨Nat.le_of_ble_eq_true rfl, Nat.le_of_ble_eq_true rfl⟩) hD hS hA (fun x_4 σ1 μ1 H locs hw_5 hP hD hS => ?_)
      have hu_6 := hw_5
      obtain ⟨hu_6a, hu_6b⟩ := Prod.mk.inj hu_6
      rw [hu_6a, hu_6b] at hP hD
      refine W.lcmp hx hb dX12_sortOf_27 ?_
      refine lv_topi (fun x_9 ex_9 => ?_)
      refine lv_if_ne (tgt := 33) hx hb dX12_sortOf_28 (by decide) (fun c_10 => ?_) (fun c_10 => ?_)
      · have tc_11 : (x_9).toInt ≠ 0 := fun q => c_10 (Int32.toInt_inj.mp q)
        refine lv_aload_n hx hb dX12_sortOf_33 rfl (lv_at hl 0 rfl) ?_
        refine pg_f (v := .long (J 395 this)) (C := RX12) (T := TX12) (N := 31) hx hb hts (tw_i inlX12) hown hK hP hL_this hK_this (by decide) rfl 11 (by decide) (hts _ (tw_c tw_838)) rfl dX12_sortOf_34 ?_
        refine lv_bipush (v := 112) hx hb dX12_sortOf_37 (by decide) ?_
        refine lv_bipush (v := 101) hx hb dX12_sortOf_39 (by decide) ?_
        refine lv_bipush (v := 111) hx hb dX12_sortOf_41 (by decide) ?_
        refine lv_bipush (v := 112) hx hb dX12_sortOf_43 (by decide) ?_
        refine lv_bipush (v := 108) hx hb dX12_sortOf_45 (by decide) ?_
        refine lv_bipush (v := 101) hx hb dX12_sortOf_47 (by decide) ?_
        refine pk_l (va_runS (As := [.int 112, .int 101, .int 111, .int 112, .int 108, .int 101]) (rest := [.long (J 395 this)]) ⟨hx, hb, hml, hown, hts⟩ (s_X12_w6 l D t σ I J ri rj rq H.size tg hSH hG.1 (112 : Int32) (101 : Int32) (111 : Int32) (112 : Int32) (108 : Int32) (101 : Int32)) (va_cwS 6 hts (tw_S tw_867 tw_868 tw_5 tw_869) rfl rfl rfl (by decide +kernel) ⟨Nat.le_of_ble_eq_true rfl, Nat.le_of_ble_eq_true rfl⟩) ⟨pq_blind, pq_pre hK hN hP hD⟩ rfl rfl hl.1 rfl (lv_room (Nat.le_of_ble_eq_true rfl)) dX12_sortOf_49 ⟨Nat.le_of_ble_eq_true rfl, Nat.le_of_ble_eq_true rfl⟩) hD hS hA (fun x_12 σ1 μ1 H locs hw_13 hP hD hS => ?_)
        have hu_14 := hw_13
        obtain ⟨hu_14a, hu_14b⟩ := Prod.mk.inj hu_14
        rw [hu_14a, hu_14b] at hP hD
        refine W.lcmp hx hb dX12_sortOf_52 ?_
        refine lv_topi (fun x_17 ex_17 => ?_)
        refine lv_if_ne (tgt := 58) hx hb dX12_sortOf_53 (by decide) (fun c_18 => ?_) (fun c_18 => ?_)
        · have tc_19 : (x_17).toInt ≠ 0 := fun q => c_18 (Int32.toInt_inj.mp q)
          refine lv_aload_n hx hb dX12_sortOf_58 rfl (lv_at hl 0 rfl) ?_
          refine pg_f (v := .long (J 395 this)) (C := RX12) (T := TX12) (N := 31) hx hb hts (tw_i inlX12) hown hK hP hL_this hK_this (by decide) rfl 11 (by decide) (hts _ (tw_c tw_838)) rfl dX12_sortOf_59 ?_
          refine lv_bipush (v := 109) hx hb dX12_sortOf_62 (by decide) ?_
          refine lv_bipush (v := 97) hx hb dX12_sortOf_64 (by decide) ?_
          refine lv_bipush (v := 121) hx hb dX12_sortOf_66 (by decide) ?_
          refine pk_l (va_runS (As := [.int 109, .int 97, .int 121]) (rest := [.long (J 395 this)]) ⟨hx, hb, hml, hown, hts⟩ (s_X12_w3 l D t σ I J ri rj rq H.size tg hSH hG.1 (109 : Int32) (97 : Int32) (121 : Int32)) (va_cwS 3 hts (tw_S tw_864 tw_865 tw_5 tw_866) rfl rfl rfl (by decide +kernel) ⟨Nat.le_of_ble_eq_true rfl, Nat.le_of_ble_eq_true rfl⟩) ⟨pq_blind, pq_pre hK hN hP hD⟩ rfl rfl hl.1 rfl (lv_room (Nat.le_of_ble_eq_true rfl)) dX12_sortOf_68 ⟨Nat.le_of_ble_eq_true rfl, Nat.le_of_ble_eq_true rfl⟩) hD hS hA (fun x_20 σ1 μ1 H locs hw_21 hP hD hS => ?_)
          have hu_22 := hw_21
          obtain ⟨hu_22a, hu_22b⟩ := Prod.mk.inj hu_22
          rw [hu_22a, hu_22b] at hP hD
          refine W.lcmp hx hb dX12_sortOf_71 ?_
          refine lv_topi (fun x_25 ex_25 => ?_)
          refine lv_if_ne (tgt := 77) hx hb dX12_sortOf_72 (by decide) (fun c_26 => ?_) (fun c_26 => ?_)
          · have tc_27 : (x_25).toInt ≠ 0 := fun q => c_26 (Int32.toInt_inj.mp q)
            refine lv_aload_n hx hb dX12_sortOf_77 rfl (lv_at hl 0 rfl) ?_
            refine pg_f (v := .long (J 395 this)) (C := RX12) (T := TX12) (N := 31) hx hb hts (tw_i inlX12) hown hK hP hL_this hK_this (by decide) rfl 11 (by decide) (hts _ (tw_c tw_838)) rfl dX12_sortOf_78 ?_
            refine lv_bipush (v := 118) hx hb dX12_sortOf_81 (by decide) ?_
            refine lv_bipush (v := 111) hx hb dX12_sortOf_83 (by decide) ?_
            refine lv_bipush (v := 116) hx hb dX12_sortOf_85 (by decide) ?_
            refine lv_bipush (v := 101) hx hb dX12_sortOf_87 (by decide) ?_
            refine pk_l (va_runS (As := [.int 118, .int 111, .int 116, .int 101]) (rest := [.long (J 395 this)]) ⟨hx, hb, hml, hown, hts⟩ (s_X12_w4 l D t σ I J ri rj rq H.size tg hSH hG.1 (118 : Int32) (111 : Int32) (116 : Int32) (101 : Int32)) (va_cwS 4 hts (tw_S tw_861 tw_862 tw_5 tw_863) rfl rfl rfl (by decide +kernel) ⟨Nat.le_of_ble_eq_true rfl, Nat.le_of_ble_eq_true rfl⟩) ⟨pq_blind, pq_pre hK hN hP hD⟩ rfl rfl hl.1 rfl (lv_room (Nat.le_of_ble_eq_true rfl)) dX12_sortOf_89 ⟨Nat.le_of_ble_eq_true rfl, Nat.le_of_ble_eq_true rfl⟩) hD hS hA (fun x_28 σ1 μ1 H locs hw_29 hP hD hS => ?_)
            have hu_30 := hw_29
            obtain ⟨hu_30a, hu_30b⟩ := Prod.mk.inj hu_30
            rw [hu_30a, hu_30b] at hP hD
            refine W.lcmp hx hb dX12_sortOf_92 ?_
            refine lv_topi (fun x_33 ex_33 => ?_)
            refine lv_if_ne (tgt := 98) hx hb dX12_sortOf_93 (by decide) (fun c_34 => ?_) (fun c_34 => ?_)
            · have tc_35 : (x_33).toInt ≠ 0 := fun q => c_34 (Int32.toInt_inj.mp q)
              refine lv_aload_n hx hb dX12_sortOf_98 rfl (lv_at hl 0 rfl) ?_
              refine pg_f (v := .long (J 395 this)) (C := RX12) (T := TX12) (N := 31) hx hb hts (tw_i inlX12) hown hK hP hL_this hK_this (by decide) rfl 11 (by decide) (hts _ (tw_c tw_838)) rfl dX12_sortOf_99 ?_
              refine lv_bipush (v := 111) hx hb dX12_sortOf_102 (by decide) ?_
              refine lv_bipush (v := 114) hx hb dX12_sortOf_104 (by decide) ?_
              refine lv_bipush (v := 100) hx hb dX12_sortOf_106 (by decide) ?_
              refine lv_bipush (v := 101) hx hb dX12_sortOf_108 (by decide) ?_
              refine lv_bipush (v := 114) hx hb dX12_sortOf_110 (by decide) ?_
              refine pk_l (va_runS (As := [.int 111, .int 114, .int 100, .int 101, .int 114]) (rest := [.long (J 395 this)]) ⟨hx, hb, hml, hown, hts⟩ (s_X12_w5 l D t σ I J ri rj rq H.size tg hSH hG.1 (111 : Int32) (114 : Int32) (100 : Int32) (101 : Int32) (114 : Int32)) (va_cwS 5 hts (tw_S tw_858 tw_859 tw_5 tw_860) rfl rfl rfl (by decide +kernel) ⟨Nat.le_of_ble_eq_true rfl, Nat.le_of_ble_eq_true rfl⟩) ⟨pq_blind, pq_pre hK hN hP hD⟩ rfl rfl hl.1 rfl (lv_room (Nat.le_of_ble_eq_true rfl)) dX12_sortOf_112 ⟨Nat.le_of_ble_eq_true rfl, Nat.le_of_ble_eq_true rfl⟩) hD hS hA (fun x_36 σ1 μ1 H locs hw_37 hP hD hS => ?_)
              have hu_38 := hw_37
              obtain ⟨hu_38a, hu_38b⟩ := Prod.mk.inj hu_38
              rw [hu_38a, hu_38b] at hP hD
              refine W.lcmp hx hb dX12_sortOf_115 ?_
              refine lv_topi (fun x_41 ex_41 => ?_)
              refine lv_if_ne (tgt := 121) hx hb dX12_sortOf_116 (by decide) (fun c_42 => ?_) (fun c_42 => ?_)
              · have tc_43 : (x_41).toInt ≠ 0 := fun q => c_42 (Int32.toInt_inj.mp q)
                refine lv_aload_n hx hb dX12_sortOf_121 rfl (lv_at hl 0 rfl) ?_
                refine pg_f (v := .long (J 395 this)) (C := RX12) (T := TX12) (N := 31) hx hb hts (tw_i inlX12) hown hK hP hL_this hK_this (by decide) rfl 11 (by decide) (hts _ (tw_c tw_838)) rfl dX12_sortOf_122 ?_
                refine lv_bipush (v := 104) hx hb dX12_sortOf_125 (by decide) ?_
                refine lv_bipush (v := 101) hx hb dX12_sortOf_127 (by decide) ?_
                refine lv_bipush (v := 105) hx hb dX12_sortOf_129 (by decide) ?_
                refine lv_bipush (v := 114) hx hb dX12_sortOf_131 (by decide) ?_
                refine pk_l (va_runS (As := [.int 104, .int 101, .int 105, .int 114]) (rest := [.long (J 395 this)]) ⟨hx, hb, hml, hown, hts⟩ (s_X12_w4 l D t σ I J ri rj rq H.size tg hSH hG.1 (104 : Int32) (101 : Int32) (105 : Int32) (114 : Int32)) (va_cwS 4 hts (tw_S tw_861 tw_862 tw_5 tw_863) rfl rfl rfl (by decide +kernel) ⟨Nat.le_of_ble_eq_true rfl, Nat.le_of_ble_eq_true rfl⟩) ⟨pq_blind, pq_pre hK hN hP hD⟩ rfl rfl hl.1 rfl (lv_room (Nat.le_of_ble_eq_true rfl)) dX12_sortOf_133 ⟨Nat.le_of_ble_eq_true rfl, Nat.le_of_ble_eq_true rfl⟩) hD hS hA (fun x_44 σ1 μ1 H locs hw_45 hP hD hS => ?_)
                have hu_46 := hw_45
                obtain ⟨hu_46a, hu_46b⟩ := Prod.mk.inj hu_46
                rw [hu_46a, hu_46b] at hP hD
                refine W.lcmp hx hb dX12_sortOf_136 ?_
                refine lv_topi (fun x_49 ex_49 => ?_)
                refine lv_if_ne (tgt := 143) hx hb dX12_sortOf_137 (by decide) (fun c_50 => ?_) (fun c_50 => ?_)
                · have tc_51 : (x_49).toInt ≠ 0 := fun q => c_50 (Int32.toInt_inj.mp q)
                  refine lv_aload_n hx hb dX12_sortOf_143 rfl (lv_at hl 0 rfl) ?_
                  refine pg_f (v := .long (J 395 this)) (C := RX12) (T := TX12) (N := 31) hx hb hts (tw_i inlX12) hown hK hP hL_this hK_this (by decide) rfl 11 (by decide) (hts _ (tw_c tw_838)) rfl dX12_sortOf_144 ?_
                  refine lv_bipush (v := 99) hx hb dX12_sortOf_147 (by decide) ?_
                  refine lv_bipush (v := 111) hx hb dX12_sortOf_149 (by decide) ?_
                  refine lv_bipush (v := 117) hx hb dX12_sortOf_151 (by decide) ?_
                  refine lv_bipush (v := 110) hx hb dX12_sortOf_153 (by decide) ?_
                  refine lv_bipush (v := 99) hx hb dX12_sortOf_155 (by decide) ?_
                  refine lv_bipush (v := 105) hx hb dX12_sortOf_157 (by decide) ?_
                  refine pk_l (va_runS (As := [.int 99, .int 111, .int 117, .int 110, .int 99, .int 105]) (rest := [.long (J 395 this)]) ⟨hx, hb, hml, hown, hts⟩ (s_X12_w6 l D t σ I J ri rj rq H.size tg hSH hG.1 (99 : Int32) (111 : Int32) (117 : Int32) (110 : Int32) (99 : Int32) (105 : Int32)) (va_cwS 6 hts (tw_S tw_867 tw_868 tw_5 tw_869) rfl rfl rfl (by decide +kernel) ⟨Nat.le_of_ble_eq_true rfl, Nat.le_of_ble_eq_true rfl⟩) ⟨pq_blind, pq_pre hK hN hP hD⟩ rfl rfl hl.1 rfl (lv_room (Nat.le_of_ble_eq_true rfl)) dX12_sortOf_159 ⟨Nat.le_of_ble_eq_true rfl, Nat.le_of_ble_eq_true rfl⟩) hD hS hA (fun x_52 σ1 μ1 H locs hw_53 hP hD hS => ?_)
                  have hu_54 := hw_53
                  obtain ⟨hu_54a, hu_54b⟩ := Prod.mk.inj hu_54
                  rw [hu_54a, hu_54b] at hP hD
                  refine lv_bipush (v := 8) hx hb dX12_sortOf_162 (by decide) ?_
                  refine lv_lshl hx hb dX12_sortOf_164 rfl ?_
                  refine lv_topl (fun x_57 ex_57 => ?_)
                  refine lv_ldc2 hx hb hown (hts _ (tw_c tw_857)) dX12_sortOf_165 ?_
                  refine lv_lor hx hb dX12_sortOf_168 ?_
                  refine lv_topl (fun x_58 ex_58 => ?_)
                  refine W.lcmp hx hb dX12_sortOf_169 ?_
                  refine lv_topi (fun x_59 ex_59 => ?_)
                  refine lv_if_ne (tgt := 176) hx hb dX12_sortOf_170 (by decide) (fun c_60 => ?_) (fun c_60 => ?_)
                  · have tc_61 : (x_59).toInt ≠ 0 := fun q => c_60 (Int32.toInt_inj.mp q)
                    refine lv_aload_n hx hb dX12_sortOf_176 rfl (lv_at hl 0 rfl) ?_
                    refine pg_f (v := .long (J 395 this)) (C := RX12) (T := TX12) (N := 31) hx hb hts (tw_i inlX12) hown hK hP hL_this hK_this (by decide) rfl 11 (by decide) (hts _ (tw_c tw_838)) rfl dX12_sortOf_177 ?_
                    refine lv_bipush (v := 102) hx hb dX12_sortOf_180 (by decide) ?_
                    refine lv_bipush (v := 105) hx hb dX12_sortOf_182 (by decide) ?_
                    refine lv_bipush (v := 120) hx hb dX12_sortOf_184 (by decide) ?_
                    refine pk_l (va_runS (As := [.int 102, .int 105, .int 120]) (rest := [.long (J 395 this)]) ⟨hx, hb, hml, hown, hts⟩ (s_X12_w3 l D t σ I J ri rj rq H.size tg hSH hG.1 (102 : Int32) (105 : Int32) (120 : Int32)) (va_cwS 3 hts (tw_S tw_864 tw_865 tw_5 tw_866) rfl rfl rfl (by decide +kernel) ⟨Nat.le_of_ble_eq_true rfl, Nat.le_of_ble_eq_true rfl⟩) ⟨pq_blind, pq_pre hK hN hP hD⟩ rfl rfl hl.1 rfl (lv_room (Nat.le_of_ble_eq_true rfl)) dX12_sortOf_186 ⟨Nat.le_of_ble_eq_true rfl, Nat.le_of_ble_eq_true rfl⟩) hD hS hA (fun x_62 σ1 μ1 H locs hw_63 hP hD hS => ?_)
                    have hu_64 := hw_63
                    obtain ⟨hu_64a, hu_64b⟩ := Prod.mk.inj hu_64
                    rw [hu_64a, hu_64b] at hP hD
                    refine W.lcmp hx hb dX12_sortOf_189 ?_
                    refine lv_topi (fun x_67 ex_67 => ?_)
                    refine lv_if_ne (tgt := 198) hx hb dX12_sortOf_190 (by decide) (fun c_68 => ?_) (fun c_68 => ?_)
                    · have tc_69 : (x_67).toInt ≠ 0 := fun q => c_68 (Int32.toInt_inj.mp q)
                      refine lv_aload_n hx hb dX12_sortOf_198 rfl (lv_at hl 0 rfl) ?_
                      refine pg_f (v := .long (J 395 this)) (C := RX12) (T := TX12) (N := 31) hx hb hts (tw_i inlX12) hown hK hP hL_this hK_this (by decide) rfl 11 (by decide) (hts _ (tw_c tw_838)) rfl dX12_sortOf_199 ?_
                      refine lv_bipush (v := 108) hx hb dX12_sortOf_202 (by decide) ?_
                      refine lv_bipush (v := 101) hx hb dX12_sortOf_204 (by decide) ?_
                      refine lv_bipush (v := 97) hx hb dX12_sortOf_206 (by decide) ?_
                      refine lv_bipush (v := 118) hx hb dX12_sortOf_208 (by decide) ?_
                      refine lv_bipush (v := 101) hx hb dX12_sortOf_210 (by decide) ?_
                      refine pk_l (va_runS (As := [.int 108, .int 101, .int 97, .int 118, .int 101]) (rest := [.long (J 395 this)]) ⟨hx, hb, hml, hown, hts⟩ (s_X12_w5 l D t σ I J ri rj rq H.size tg hSH hG.1 (108 : Int32) (101 : Int32) (97 : Int32) (118 : Int32) (101 : Int32)) (va_cwS 5 hts (tw_S tw_858 tw_859 tw_5 tw_860) rfl rfl rfl (by decide +kernel) ⟨Nat.le_of_ble_eq_true rfl, Nat.le_of_ble_eq_true rfl⟩) ⟨pq_blind, pq_pre hK hN hP hD⟩ rfl rfl hl.1 rfl (lv_room (Nat.le_of_ble_eq_true rfl)) dX12_sortOf_212 ⟨Nat.le_of_ble_eq_true rfl, Nat.le_of_ble_eq_true rfl⟩) hD hS hA (fun x_70 σ1 μ1 H locs hw_71 hP hD hS => ?_)
                      have hu_72 := hw_71
                      obtain ⟨hu_72a, hu_72b⟩ := Prod.mk.inj hu_72
                      rw [hu_72a, hu_72b] at hP hD
                      refine W.lcmp hx hb dX12_sortOf_215 ?_
                      refine lv_topi (fun x_75 ex_75 => ?_)
                      refine lv_if_ne (tgt := 224) hx hb dX12_sortOf_216 (by decide) (fun c_76 => ?_) (fun c_76 => ?_)
                      · have tc_77 : (x_75).toInt ≠ 0 := fun q => c_76 (Int32.toInt_inj.mp q)
                        refine lv_iconst (v := 0) hx hb dX12_sortOf_224 (by decide) ?_
                        subst hQ
                        exact W.iret (v := 0) hx hb hr (fun t1 ht hW => ⟨⟨0, (σ, I, J, ri, rj, rq), rfl, ⟨rfl, (rg_w (rg_k (0 : Int32) 0 rfl) (by decide))⟩, by rw [ht]; exact hP, va_K.moved hW.alike hK, hD⟩, hS.F ht⟩) hS.2.2 dX12_sortOf_225
                      · have tc_78 : (x_75).toInt = 0 := congrArg Int32.toInt c_76
                        have h_79 : rg x_75 0 0 := rg_and (rg_full _) (rg_of_eq c_76 (rg_k (0 : Int32) 0 rfl)) (by decide)
                        have uh_79 := h_79.1
                        have vh_79 := h_79.2
                        refine lv_bipush (v := 9) hx hb dX12_sortOf_219 (by decide) ?_
                        refine lv_goto (tgt := 225) hx hb dX12_sortOf_221 (by decide) ?_
                        subst hQ
                        exact W.iret (v := 9) hx hb hr (fun t1 ht hW => ⟨⟨9, (σ, I, J, ri, rj, rq), rfl, ⟨rfl, (rg_w (rg_k (9 : Int32) 9 rfl) (by decide))⟩, by rw [ht]; exact hP, va_K.moved hW.alike hK, hD⟩, hS.F ht⟩) hS.2.2 dX12_sortOf_225
                    · have tc_80 : (x_67).toInt = 0 := congrArg Int32.toInt c_68
                      have h_81 : rg x_67 0 0 := rg_and (rg_full _) (rg_of_eq c_68 (rg_k (0 : Int32) 0 rfl)) (by decide)
                      have uh_81 := h_81.1
                      have vh_81 := h_81.2
                      refine lv_bipush (v := 8) hx hb dX12_sortOf_193 (by decide) ?_
                      refine lv_goto (tgt := 225) hx hb dX12_sortOf_195 (by decide) ?_
                      subst hQ
                      exact W.iret (v := 8) hx hb hr (fun t1 ht hW => ⟨⟨8, (σ, I, J, ri, rj, rq), rfl, ⟨rfl, (rg_w (rg_k (8 : Int32) 8 rfl) (by decide))⟩, by rw [ht]; exact hP, va_K.moved hW.alike hK, hD⟩, hS.F ht⟩) hS.2.2 dX12_sortOf_225
                  · have tc_82 : (x_59).toInt = 0 := congrArg Int32.toInt c_60
                    have h_83 : rg x_59 0 0 := rg_and (rg_full _) (rg_of_eq c_60 (rg_k (0 : Int32) 0 rfl)) (by decide)
                    have uh_83 := h_83.1
                    have vh_83 := h_83.2
                    refine lv_bipush (v := 7) hx hb dX12_sortOf_173 (by decide) ?_
                    subst hQ
                    exact W.iret (v := 7) hx hb hr (fun t1 ht hW => ⟨⟨7, (σ, I, J, ri, rj, rq), rfl, ⟨rfl, (rg_w (rg_k (7 : Int32) 7 rfl) (by decide))⟩, by rw [ht]; exact hP, va_K.moved hW.alike hK, hD⟩, hS.F ht⟩) hS.2.2 dX12_sortOf_175
                · have tc_84 : (x_49).toInt = 0 := congrArg Int32.toInt c_50
                  have h_85 : rg x_49 0 0 := rg_and (rg_full _) (rg_of_eq c_50 (rg_k (0 : Int32) 0 rfl)) (by decide)
                  have uh_85 := h_85.1
                  have vh_85 := h_85.2
                  refine lv_bipush (v := 6) hx hb dX12_sortOf_140 (by decide) ?_
                  subst hQ
                  exact W.iret (v := 6) hx hb hr (fun t1 ht hW => ⟨⟨6, (σ, I, J, ri, rj, rq), rfl, ⟨rfl, (rg_w (rg_k (6 : Int32) 6 rfl) (by decide))⟩, by rw [ht]; exact hP, va_K.moved hW.alike hK, hD⟩, hS.F ht⟩) hS.2.2 dX12_sortOf_142
              · have tc_86 : (x_41).toInt = 0 := congrArg Int32.toInt c_42
                have h_87 : rg x_41 0 0 := rg_and (rg_full _) (rg_of_eq c_42 (rg_k (0 : Int32) 0 rfl)) (by decide)
                have uh_87 := h_87.1
                have vh_87 := h_87.2
                refine lv_iconst (v := 5) hx hb dX12_sortOf_119 (by decide) ?_
                subst hQ
                exact W.iret (v := 5) hx hb hr (fun t1 ht hW => ⟨⟨5, (σ, I, J, ri, rj, rq), rfl, ⟨rfl, (rg_w (rg_k (5 : Int32) 5 rfl) (by decide))⟩, by rw [ht]; exact hP, va_K.moved hW.alike hK, hD⟩, hS.F ht⟩) hS.2.2 dX12_sortOf_120
            · have tc_88 : (x_33).toInt = 0 := congrArg Int32.toInt c_34
              have h_89 : rg x_33 0 0 := rg_and (rg_full _) (rg_of_eq c_34 (rg_k (0 : Int32) 0 rfl)) (by decide)
              have uh_89 := h_89.1
              have vh_89 := h_89.2
              refine lv_iconst (v := 4) hx hb dX12_sortOf_96 (by decide) ?_
              subst hQ
              exact W.iret (v := 4) hx hb hr (fun t1 ht hW => ⟨⟨4, (σ, I, J, ri, rj, rq), rfl, ⟨rfl, (rg_w (rg_k (4 : Int32) 4 rfl) (by decide))⟩, by rw [ht]; exact hP, va_K.moved hW.alike hK, hD⟩, hS.F ht⟩) hS.2.2 dX12_sortOf_97
          · have tc_90 : (x_25).toInt = 0 := congrArg Int32.toInt c_26
            have h_91 : rg x_25 0 0 := rg_and (rg_full _) (rg_of_eq c_26 (rg_k (0 : Int32) 0 rfl)) (by decide)
            have uh_91 := h_91.1
            have vh_91 := h_91.2
            refine lv_iconst (v := 3) hx hb dX12_sortOf_75 (by decide) ?_
            subst hQ
            exact W.iret (v := 3) hx hb hr (fun t1 ht hW => ⟨⟨3, (σ, I, J, ri, rj, rq), rfl, ⟨rfl, (rg_w (rg_k (3 : Int32) 3 rfl) (by decide))⟩, by rw [ht]; exact hP, va_K.moved hW.alike hK, hD⟩, hS.F ht⟩) hS.2.2 dX12_sortOf_76
        · have tc_92 : (x_17).toInt = 0 := congrArg Int32.toInt c_18
          have h_93 : rg x_17 0 0 := rg_and (rg_full _) (rg_of_eq c_18 (rg_k (0 : Int32) 0 rfl)) (by decide)
          have uh_93 := h_93.1
          have vh_93 := h_93.2
          refine lv_iconst (v := 2) hx hb dX12_sortOf_56 (by decide) ?_
          subst hQ
          exact W.iret (v := 2) hx hb hr (fun t1 ht hW => ⟨⟨2, (σ, I, J, ri, rj, rq), rfl, ⟨rfl, (rg_w (rg_k (2 : Int32) 2 rfl) (by decide))⟩, by rw [ht]; exact hP, va_K.moved hW.alike hK, hD⟩, hS.F ht⟩) hS.2.2 dX12_sortOf_57
      · have tc_94 : (x_9).toInt = 0 := congrArg Int32.toInt c_10
        have h_95 : rg x_9 0 0 := rg_and (rg_full _) (rg_of_eq c_10 (rg_k (0 : Int32) 0 rfl)) (by decide)
        have uh_95 := h_95.1
        have vh_95 := h_95.2
        refine lv_iconst (v := 1) hx hb dX12_sortOf_31 (by decide) ?_
        subst hQ
        exact W.iret (v := 1) hx hb hr (fun t1 ht hW => ⟨⟨1, (σ, I, J, ri, rj, rq), rfl, ⟨rfl, (rg_w (rg_k (1 : Int32) 1 rfl) (by decide))⟩, by rw [ht]; exact hP, va_K.moved hW.alike hK, hD⟩, hS.F ht⟩) hS.2.2 dX12_sortOf_32
    · have tc_96 : (I 393 this).toInt ≠ 2 := fun q => c_1 (Int32.toInt_inj.mp q)
      refine lv_iconst (v := 0) hx hb dX12_sortOf_8 (by decide) ?_
      subst hQ
      exact W.iret (v := 0) hx hb hr (fun t1 ht hW => ⟨⟨0, (σ, I, J, ri, rj, rq), rfl, ⟨rfl, (rg_w (rg_k (0 : Int32) 0 rfl) (by decide))⟩, by rw [ht]; exact hP, va_K.moved hW.alike hK, hD⟩, hS.F ht⟩) hS.2.2 dX12_sortOf_9
  exact go _ _ _ hP hD hS hl
