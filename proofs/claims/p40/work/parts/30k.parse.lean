theorem dX12_clause_0 : decode cX12_clause 0 = .ok (.aload_n 0, 1) := oc_42 (by decide +kernel)
theorem tw_853 : Cond.methodLink RX12 242 yX12_sortOf ∈ wsL_law := sg_36 _ (List.mem_of_getElem? (i := 13) rfl)
theorem tw_854 : Cond.instanceMethod yX12_sortOf ∈ wsL_law := sg_36 _ (List.mem_of_getElem? (i := 14) rfl)
theorem tw_855 : Cond.selects RX12 yX12_sortOf yX12_sortOf ∈ wsL_law := sg_36 _ (List.mem_of_getElem? (i := 15) rfl)
theorem tw_856 : Cond.code yX12_sortOf cX12_sortOf 1 (some .int) ∈ wsL_law := sg_36 _ (List.mem_of_getElem? (i := 16) rfl)
theorem dX12_clause_1 : decode cX12_clause 1 = .ok (.invokevirtual 242, 3) := oc_182 (a := 0) (b := 242) (by decide +kernel)
theorem dX12_clause_4 : decode cX12_clause 4 = .ok (.istore_n 1, 1) := oc_60 (by decide +kernel)
theorem dX12_clause_5 : decode cX12_clause 5 = .ok (.iload_n 1, 1) := oc_27 (by decide +kernel)
theorem dX12_clause_6 : decode cX12_clause 6 = .ok (.ifCond .ne 5, 3) := oc_154 (a := 0) (b := 5) (by decide +kernel)
theorem dX12_clause_11 : decode cX12_clause 11 = .ok (.iload_n 1, 1) := oc_27 (by decide +kernel)
theorem dX12_clause_12 : decode cX12_clause 12 = .ok (.iconst 5, 1) := oc_8 (by decide +kernel)
theorem dX12_clause_13 : decode cX12_clause 13 = .ok (.if_icmp .lt 17, 3) := oc_161 (a := 0) (b := 17) (by decide +kernel)
theorem dX12_clause_30 : decode cX12_clause 30 = .ok (.aload_n 0, 1) := oc_42 (by decide +kernel)
theorem tw_822 : Cond.fieldLink RX12 248 "RingsUnderModel" "clauses" "I" ∈ wsL_law := sg_35 _ (List.mem_of_getElem? (i := 6) rfl)
theorem dX12_clause_31 : decode cX12_clause 31 = .ok (.getfield 248, 3) := oc_180 (a := 0) (b := 248) (by decide +kernel)
theorem dX12_clause_34 : decode cX12_clause 34 = .ok (.bipush 20, 2) := oc_16 (a := 20) (by decide +kernel)
theorem dX12_clause_36 : decode cX12_clause 36 = .ok (.if_icmp .ne 5, 3) := oc_160 (a := 0) (b := 5) (by decide +kernel)
theorem dX12_clause_41 : decode cX12_clause 41 = .ok (.aload_n 0, 1) := oc_42 (by decide +kernel)
theorem dX12_clause_42 : decode cX12_clause 42 = .ok (.dup, 1) := oc_89 (by decide +kernel)
theorem tw_829 : Cond.fieldLink RX12 245 "RingsUnderModel" "came" "I" ∈ wsL_law := sg_35 _ (List.mem_of_getElem? (i := 13) rfl)
theorem dX12_clause_43 : decode cX12_clause 43 = .ok (.getfield 245, 3) := oc_180 (a := 0) (b := 245) (by decide +kernel)
theorem dX12_clause_46 : decode cX12_clause 46 = .ok (.iconst 1, 1) := oc_4 (by decide +kernel)
theorem dX12_clause_47 : decode cX12_clause 47 = .ok (.iload_n 1, 1) := oc_27 (by decide +kernel)
theorem dX12_clause_48 : decode cX12_clause 48 = .ok (.ishl, 1) := oc_120 (by decide +kernel)
theorem dX12_clause_49 : decode cX12_clause 49 = .ok (.ior, 1) := oc_128 (by decide +kernel)
theorem dX12_clause_50 : decode cX12_clause 50 = .ok (.putfield 245, 3) := oc_181 (a := 0) (b := 245) (by decide +kernel)
theorem dX12_clause_53 : decode cX12_clause 53 = .ok (.aload_n 0, 1) := oc_42 (by decide +kernel)
theorem dX12_clause_54 : decode cX12_clause 54 = .ok (.getfield 172, 3) := oc_180 (a := 0) (b := 172) (by decide +kernel)
theorem dX12_clause_57 : decode cX12_clause 57 = .ok (.iconst 1, 1) := oc_4 (by decide +kernel)
theorem dX12_clause_58 : decode cX12_clause 58 = .ok (.iadd, 1) := oc_96 (by decide +kernel)
theorem dX12_clause_59 : decode cX12_clause 59 = .ok (.bipush 12, 2) := oc_16 (a := 12) (by decide +kernel)
theorem dX12_clause_61 : decode cX12_clause 61 = .ok (.aload_n 0, 1) := oc_42 (by decide +kernel)
theorem dX12_clause_62 : decode cX12_clause 62 = .ok (.getfield 248, 3) := oc_180 (a := 0) (b := 248) (by decide +kernel)
theorem dX12_clause_65 : decode cX12_clause 65 = .ok (.imul, 1) := oc_104 (by decide +kernel)
theorem dX12_clause_66 : decode cX12_clause 66 = .ok (.iadd, 1) := oc_96 (by decide +kernel)
theorem dX12_clause_67 : decode cX12_clause 67 = .ok (.istore_n 2, 1) := oc_61 (by decide +kernel)
theorem dX12_clause_68 : decode cX12_clause 68 = .ok (.aload_n 0, 1) := oc_42 (by decide +kernel)
theorem dX12_clause_69 : decode cX12_clause 69 = .ok (.getfield 7, 3) := oc_180 (a := 0) (b := 7) (by decide +kernel)
theorem dX12_clause_72 : decode cX12_clause 72 = .ok (.iload_n 2, 1) := oc_28 (by decide +kernel)
theorem dX12_clause_73 : decode cX12_clause 73 = .ok (.iload_n 1, 1) := oc_27 (by decide +kernel)
theorem dX12_clause_74 : decode cX12_clause 74 = .ok (.iastore, 1) := oc_79 (by decide +kernel)
theorem dX12_clause_75 : decode cX12_clause 75 = .ok (.aload_n 0, 1) := oc_42 (by decide +kernel)
theorem dX12_clause_76 : decode cX12_clause 76 = .ok (.invokevirtual 196, 3) := oc_182 (a := 0) (b := 196) (by decide +kernel)
theorem dX12_clause_79 : decode cX12_clause 79 = .ok (.iconst 0, 1) := oc_3 (by decide +kernel)
theorem dX12_clause_80 : decode cX12_clause 80 = .ok (.istore_n 3, 1) := oc_62 (by decide +kernel)
theorem dX12_clause_81 : decode cX12_clause 81 = .ok (.iload_n 1, 1) := oc_27 (by decide +kernel)
theorem dX12_clause_82 : decode cX12_clause 82 = .ok (.iconst 4, 1) := oc_7 (by decide +kernel)
theorem dX12_clause_83 : decode cX12_clause 83 = .ok (.if_icmp .gt 35, 3) := oc_163 (a := 0) (b := 35) (by decide +kernel)
theorem dX12_clause_86 : decode cX12_clause 86 = .ok (.aload_n 0, 1) := oc_42 (by decide +kernel)
theorem dX12_clause_87 : decode cX12_clause 87 = .ok (.getfield 7, 3) := oc_180 (a := 0) (b := 7) (by decide +kernel)
theorem dX12_clause_90 : decode cX12_clause 90 = .ok (.iload_n 2, 1) := oc_28 (by decide +kernel)
theorem dX12_clause_91 : decode cX12_clause 91 = .ok (.iconst 2, 1) := oc_5 (by decide +kernel)
theorem dX12_clause_92 : decode cX12_clause 92 = .ok (.iadd, 1) := oc_96 (by decide +kernel)
theorem dX12_clause_93 : decode cX12_clause 93 = .ok (.aload_n 0, 1) := oc_42 (by decide +kernel)
theorem dX12_clause_94 : decode cX12_clause 94 = .ok (.getfield 175, 3) := oc_180 (a := 0) (b := 175) (by decide +kernel)
theorem dX12_clause_97 : decode cX12_clause 97 = .ok (.iastore, 1) := oc_79 (by decide +kernel)
theorem dX12_clause_98 : decode cX12_clause 98 = .ok (.aload_n 0, 1) := oc_42 (by decide +kernel)
theorem tw_870 : Cond.methodLink RX12 251 yX12_either ∈ wsL_law := sg_37 _ (List.mem_of_getElem? (i := 6) rfl)
theorem tw_871 : Cond.instanceMethod yX12_either ∈ wsL_law := sg_37 _ (List.mem_of_getElem? (i := 7) rfl)
theorem tw_872 : Cond.selects RX12 yX12_either yX12_either ∈ wsL_law := sg_37 _ (List.mem_of_getElem? (i := 8) rfl)
theorem tw_873 : Cond.code yX12_either cX12_either 6 (some .int) ∈ wsL_law := sg_37 _ (List.mem_of_getElem? (i := 9) rfl)
theorem dX12_clause_99 : decode cX12_clause 99 = .ok (.invokevirtual 251, 3) := oc_182 (a := 0) (b := 251) (by decide +kernel)
theorem dX12_clause_102 : decode cX12_clause 102 = .ok (.istore_n 3, 1) := oc_62 (by decide +kernel)
theorem dX12_clause_103 : decode cX12_clause 103 = .ok (.aload_n 0, 1) := oc_42 (by decide +kernel)
theorem dX12_clause_104 : decode cX12_clause 104 = .ok (.getfield 7, 3) := oc_180 (a := 0) (b := 7) (by decide +kernel)
theorem dX12_clause_107 : decode cX12_clause 107 = .ok (.iload_n 2, 1) := oc_28 (by decide +kernel)
theorem dX12_clause_108 : decode cX12_clause 108 = .ok (.iconst 3, 1) := oc_6 (by decide +kernel)
theorem dX12_clause_109 : decode cX12_clause 109 = .ok (.iadd, 1) := oc_96 (by decide +kernel)
theorem dX12_clause_110 : decode cX12_clause 110 = .ok (.aload_n 0, 1) := oc_42 (by decide +kernel)
theorem dX12_clause_111 : decode cX12_clause 111 = .ok (.getfield 175, 3) := oc_180 (a := 0) (b := 175) (by decide +kernel)
theorem dX12_clause_114 : decode cX12_clause 114 = .ok (.iastore, 1) := oc_79 (by decide +kernel)
theorem dX12_clause_115 : decode cX12_clause 115 = .ok (.goto 52, 3) := oc_167 (a := 0) (b := 52) (by decide +kernel)
theorem dX12_clause_167 : decode cX12_clause 167 = .ok (.iload_n 3, 1) := oc_29 (by decide +kernel)
theorem dX12_clause_168 : decode cX12_clause 168 = .ok (.ifCond .eq 5, 3) := oc_153 (a := 0) (b := 5) (by decide +kernel)
theorem dX12_clause_173 : decode cX12_clause 173 = .ok (.aload_n 0, 1) := oc_42 (by decide +kernel)
theorem dX12_clause_174 : decode cX12_clause 174 = .ok (.getfield 143, 3) := oc_180 (a := 0) (b := 143) (by decide +kernel)
theorem dX12_clause_177 : decode cX12_clause 177 = .ok (.bipush 59, 2) := oc_16 (a := 59) (by decide +kernel)
theorem dX12_clause_179 : decode cX12_clause 179 = .ok (.if_icmp .eq 5, 3) := oc_159 (a := 0) (b := 5) (by decide +kernel)
theorem dX12_clause_184 : decode cX12_clause 184 = .ok (.aload_n 0, 1) := oc_42 (by decide +kernel)
theorem dX12_clause_185 : decode cX12_clause 185 = .ok (.dup, 1) := oc_89 (by decide +kernel)
theorem dX12_clause_186 : decode cX12_clause 186 = .ok (.getfield 248, 3) := oc_180 (a := 0) (b := 248) (by decide +kernel)
theorem dX12_clause_189 : decode cX12_clause 189 = .ok (.iconst 1, 1) := oc_4 (by decide +kernel)
theorem dX12_clause_190 : decode cX12_clause 190 = .ok (.iadd, 1) := oc_96 (by decide +kernel)
theorem dX12_clause_191 : decode cX12_clause 191 = .ok (.putfield 248, 3) := oc_181 (a := 0) (b := 248) (by decide +kernel)
theorem dX12_clause_194 : decode cX12_clause 194 = .ok (.aload_n 0, 1) := oc_42 (by decide +kernel)
theorem dX12_clause_195 : decode cX12_clause 195 = .ok (.invokevirtual 196, 3) := oc_182 (a := 0) (b := 196) (by decide +kernel)
theorem dX12_clause_198 : decode cX12_clause 198 = .ok (.iconst 0, 1) := oc_3 (by decide +kernel)
theorem dX12_clause_199 : decode cX12_clause 199 = .ok (.ireturn, 1) := oc_172 (by decide +kernel)
theorem dX12_clause_182 : decode cX12_clause 182 = .ok (.iconst 1, 1) := oc_4 (by decide +kernel)
theorem dX12_clause_183 : decode cX12_clause 183 = .ok (.ireturn, 1) := oc_172 (by decide +kernel)
theorem dX12_clause_171 : decode cX12_clause 171 = .ok (.iload_n 3, 1) := oc_29 (by decide +kernel)
theorem dX12_clause_172 : decode cX12_clause 172 = .ok (.ireturn, 1) := oc_172 (by decide +kernel)
theorem dX12_clause_39 : decode cX12_clause 39 = .ok (.iconst 5, 1) := oc_8 (by decide +kernel)
theorem dX12_clause_40 : decode cX12_clause 40 = .ok (.ireturn, 1) := oc_172 (by decide +kernel)
theorem dX12_clause_16 : decode cX12_clause 16 = .ok (.aload_n 0, 1) := oc_42 (by decide +kernel)
theorem dX12_clause_17 : decode cX12_clause 17 = .ok (.getfield 245, 3) := oc_180 (a := 0) (b := 245) (by decide +kernel)
theorem dX12_clause_20 : decode cX12_clause 20 = .ok (.iload_n 1, 1) := oc_27 (by decide +kernel)
theorem dX12_clause_21 : decode cX12_clause 21 = .ok (.ishr, 1) := oc_122 (by decide +kernel)
theorem dX12_clause_22 : decode cX12_clause 22 = .ok (.iconst 1, 1) := oc_4 (by decide +kernel)
theorem dX12_clause_23 : decode cX12_clause 23 = .ok (.iand, 1) := oc_126 (by decide +kernel)
theorem dX12_clause_24 : decode cX12_clause 24 = .ok (.iconst 1, 1) := oc_4 (by decide +kernel)
theorem dX12_clause_25 : decode cX12_clause 25 = .ok (.if_icmp .ne 5, 3) := oc_160 (a := 0) (b := 5) (by decide +kernel)
theorem dX12_clause_118 : decode cX12_clause 118 = .ok (.iload_n 1, 1) := oc_27 (by decide +kernel)
theorem dX12_clause_119 : decode cX12_clause 119 = .ok (.bipush 6, 2) := oc_16 (a := 6) (by decide +kernel)
theorem dX12_clause_121 : decode cX12_clause 121 = .ok (.if_icmp .gt 12, 3) := oc_163 (a := 0) (b := 12) (by decide +kernel)
theorem dX12_clause_133 : decode cX12_clause 133 = .ok (.aload_n 0, 1) := oc_42 (by decide +kernel)
theorem dX12_clause_134 : decode cX12_clause 134 = .ok (.iload_n 1, 1) := oc_27 (by decide +kernel)
theorem dX12_clause_135 : decode cX12_clause 135 = .ok (.bipush 7, 2) := oc_16 (a := 7) (by decide +kernel)
theorem dX12_clause_137 : decode cX12_clause 137 = .ok (.if_icmp .ne 8, 3) := oc_160 (a := 0) (b := 8) (by decide +kernel)
theorem dX12_clause_145 : decode cX12_clause 145 = .ok (.iload_n 1, 1) := oc_27 (by decide +kernel)
theorem dX12_clause_146 : decode cX12_clause 146 = .ok (.bipush 8, 2) := oc_16 (a := 8) (by decide +kernel)
theorem dX12_clause_148 : decode cX12_clause 148 = .ok (.if_icmp .ne 9, 3) := oc_160 (a := 0) (b := 9) (by decide +kernel)
theorem dX12_clause_157 : decode cX12_clause 157 = .ok (.sipush 1000, 3) := oc_17 (a := 3) (b := 232) (by decide +kernel)
theorem dX12_clause_160 : decode cX12_clause 160 = .ok (.iload_n 2, 1) := oc_28 (by decide +kernel)
theorem dX12_clause_161 : decode cX12_clause 161 = .ok (.iconst 1, 1) := oc_4 (by decide +kernel)
theorem dX12_clause_162 : decode cX12_clause 162 = .ok (.iadd, 1) := oc_96 (by decide +kernel)
theorem tw_933 : Cond.methodLink RX12 257 yX12_take ∈ wsL_law := sg_39 _ (List.mem_of_getElem? (i := 21) rfl)
theorem tw_934 : Cond.instanceMethod yX12_take ∈ wsL_law := sg_39 _ (List.mem_of_getElem? (i := 22) rfl)
theorem tw_935 : Cond.selects RX12 yX12_take yX12_take ∈ wsL_law := sg_39 _ (List.mem_of_getElem? (i := 23) rfl)
theorem tw_936 : Cond.code yX12_take cX12_take 3 (some .int) ∈ wsL_law := sg_40 _ (List.mem_of_getElem? (i := 0) rfl)
theorem dX12_clause_163 : decode cX12_clause 163 = .ok (.invokevirtual 257, 3) := oc_182 (a := 1) (b := 1) (by decide +kernel)
theorem dX12_clause_166 : decode cX12_clause 166 = .ok (.istore_n 3, 1) := oc_62 (by decide +kernel)
theorem dX12_clause_151 : decode cX12_clause 151 = .ok (.sipush 599, 3) := oc_17 (a := 2) (b := 87) (by decide +kernel)
theorem dX12_clause_154 : decode cX12_clause 154 = .ok (.goto 6, 3) := oc_167 (a := 0) (b := 6) (by decide +kernel)
theorem dX12_clause_140 : decode cX12_clause 140 = .ok (.bipush 100, 2) := oc_16 (a := 100) (by decide +kernel)
theorem dX12_clause_142 : decode cX12_clause 142 = .ok (.goto 18, 3) := oc_167 (a := 0) (b := 18) (by decide +kernel)
theorem dX12_clause_124 : decode cX12_clause 124 = .ok (.aload_n 0, 1) := oc_42 (by decide +kernel)
theorem dX12_clause_125 : decode cX12_clause 125 = .ok (.iload_n 2, 1) := oc_28 (by decide +kernel)
theorem tw_929 : Cond.methodLink RX12 254 yX12_keys ∈ wsL_law := sg_39 _ (List.mem_of_getElem? (i := 17) rfl)
theorem tw_930 : Cond.instanceMethod yX12_keys ∈ wsL_law := sg_39 _ (List.mem_of_getElem? (i := 18) rfl)
theorem tw_931 : Cond.selects RX12 yX12_keys yX12_keys ∈ wsL_law := sg_39 _ (List.mem_of_getElem? (i := 19) rfl)
theorem tw_932 : Cond.code yX12_keys cX12_keys 4 (some .int) ∈ wsL_law := sg_39 _ (List.mem_of_getElem? (i := 20) rfl)
theorem dX12_clause_126 : decode cX12_clause 126 = .ok (.invokevirtual 254, 3) := oc_182 (a := 0) (b := 254) (by decide +kernel)
theorem dX12_clause_129 : decode cX12_clause 129 = .ok (.istore_n 3, 1) := oc_62 (by decide +kernel)
theorem dX12_clause_130 : decode cX12_clause 130 = .ok (.goto 37, 3) := oc_167 (a := 0) (b := 37) (by decide +kernel)
theorem dX12_clause_28 : decode cX12_clause 28 = .ok (.iconst 4, 1) := oc_7 (by decide +kernel)
theorem dX12_clause_29 : decode cX12_clause 29 = .ok (.ireturn, 1) := oc_172 (by decide +kernel)
theorem dX12_clause_9 : decode cX12_clause 9 = .ok (.iconst 1, 1) := oc_4 (by decide +kernel)
theorem dX12_clause_10 : decode cX12_clause 10 = .ok (.ireturn, 1) := oc_172 (by decide +kernel)
set_option maxHeartbeats 4000000 in
set_option maxRecDepth 100000 in
theorem s_X12_clause (l : Launch) (D : va_G) (t : pq_T) (σ : pq_S) (I : Nat → Nat → Int32) (J : Nat → Nat → Int64) (ri : Nat → Nat → Int32) (rj : Nat → Nat → Int64) (rq : Nat → Nat → Option Nat) (sz : Nat) (tg : Nat → Nat) (hSH : SH σ tg) (hG0 : GT tg I ri) (this : Nat) (hL_this : this ∈ σ.1) (hK_this : σ.2.1 this = 12) (this_a : Nat) (hR_this_a : σ.2.2.1 384 this = some this_a) (hL_this_a : this_a ∈ σ.1) (hK_this_a : σ.2.1 this_a = 13) (hN_this_a : σ.2.2.2 this_a = 12720) (hT_this_a : tg this_a = 384) (this_pile : Nat) (hR_this_pile : σ.2.2.1 400 this = some this_pile) (hL_this_pile : this_pile ∈ σ.1) (hK_this_pile : σ.2.1 this_pile = 13) (hN_this_pile : σ.2.2.2 this_pile = 160) (hT_this_pile : tg this_pile = 400) (hcl : CLz (I 396 this).toInt (I 398 this).toInt (I 402 this).toInt (I 391 this).toInt (I 393 this).toInt (I 397 this).toInt (ri this_a)) : MetI l yX12_clause (wa yX12_clause cX12_clause 4 (some .int)) ({ frames := 8, cells := 0, slots := 0, locals := 179 }) [.ref this] D t σ (I, J, ri, rj, rq) sz 0 0 (fun (r : Int32) (u : pq_S × pq_M) => ∃ I' : Nat → Nat → Int32, ∃ J' : Nat → Nat → Int64, ∃ ri' : Nat → Nat → Int32, u = (σ, I', J', ri', rj, rq) ∧ GM [391, 392, 393, 401, 398, 402, 397] tg σ I ri I' ri' rq ∧ (r.toInt ≠ 0 ∨ (CLz (I' 396 this).toInt (I' 398 this).toInt (I' 402 this).toInt (I' 391 this).toInt (I' 393 this).toInt (I' 397 this).toInt (ri' this_a) ∧ tmM (I' 391 this).toInt (I' 393 this).toInt < tmM (I 391 this).toInt (I 393 this).toInt)) ∧ rg r 0 5) := by
  refine Met.ofW (cc := cX12_clause) (maxL := 4) (ret := (some .int)) (by decide) rfl ?_
  intro p e s m args below meth c s₁ B hml hv
  obtain ⟨rfl, hsz, hP, hK, hD0, hN⟩ := hv
  have hx := B.exec
  have hb := B.bytes
  have hr := B.returns
  have hts := atoms_spec (ws := (wa yX12_clause cX12_clause 4 (some .int))) B.pre
  have hown : s.vm.findClass RX12 = some m.cls := findClass_of_methodNamed B.named
  have hlocks := B.notSynchronized
  subst hsz
  have hD : va_D (pq_B t σ (I, J, ri, rj, rq) s.heap.size) (pq_P t σ (I, J, ri, rj, rq)) := hD0.self
  generalize hAe : pq_B t σ (I, J, ri, rj, rq) s.heap.size = A at hD ⊢
  have hA : ∀ q : Nat, s.heap.size ≤ q → A q := fun q h => by rw [← hAe]; exact Or.inr h
  have hS : va_S A s.heap s.heap [] := va_S.rf
  have hG : GM [391, 392, 393, 401, 398, 402, 397] tg σ I ri I ri rq := ⟨hG0, fun _ _ _ => rfl, fun _ _ _ _ _ => rfl, fun _ _ _ _ _ _ => rfl⟩
  have hl := lv_entry ([.ref this]) (n := 4) (Nat.le_of_ble_eq_true rfl)
  rw [lg_entry_eq]
  generalize (lg_sl ([.ref this]) ++ List.replicate (4 - (lg_sl ([.ref this])).length) Slot.unset).toArray = ls at hl ⊢
  have hl : lv_has ls 4 [(0, .ref this)] := hl
  refine q_gen (fun Q hQ => ?_)
  have go : ∀ (H : Heap) (locs : List Loc) (ls : Array Slot), va_P D vwCl (pq_P t σ (I, J, ri, rj, rq)) H → va_D A (pq_P t σ (I, J, ri, rj, rq)) → va_S A s.heap H locs → lv_has ls 4 [(0, .ref this)] → W p l e ({ frames := 8, cells := 0, slots := 0, locals := 179 } : Room) s m (List.toArray ([.ref this] : List Value)) below meth c H locs 0 0 Q (F0 m 0 ls []) := by
    intro H locs ls hP hD hS hl
    have hc1 := hcl.1
    have hc3 := hcl.2.2.1
    have hc4 := hcl.2.2.2.1
    have hc5 := hcl.2.2.2.2
    have hn6 : ((ri this_a 6).toNatClampNeg : Int) = (ri this_a 6).toInt := by have z := clampE (ri this_a 6); omega
    have hnC : ((I 397 this).toNatClampNeg : Int) = (I 397 this).toInt := by have z := clampE (I 397 this); omega
    refine lv_aload_n hx hb dX12_clause_0 rfl (lv_at hl 0 rfl) ?_
    refine pk_i (va_runV (As := []) (rest := []) ⟨hx, hb, hml, hown, hts⟩ (s_X12_sortOf l D t σ I J ri rj rq H.size tg hSH hG.1 this hL_this hK_this) (cwV 0 hts (tw_V tw_853 tw_854 tw_855 tw_5 tw_856) rfl rfl rfl cv_yX12_sortOf_0 ⟨Nat.le_of_ble_eq_true rfl, Nat.le_of_ble_eq_true rfl⟩) ⟨pq_blind, pq_recv hK hP hL_this hK_this (by decide) rfl, pq_pre hK hN hP hD⟩ rfl rfl hl.1 rfl (lv_room (Nat.le_of_ble_eq_true rfl)) dX12_clause_1 ⟨Nat.le_of_ble_eq_true rfl, Nat.le_of_ble_eq_true rfl⟩) hD hS hA (fun x_1 σ1 μ1 H locs hw_2 hP hD hS => ?_)
    obtain ⟨hu_3, hp_6, hr_5⟩ := hw_2
    obtain ⟨hu_3a, hu_3b⟩ := Prod.mk.inj hu_3
    rw [hu_3a, hu_3b] at hP hD
    refine lv_istore_n (lv' := [(1, .int x_1), (0, .ref this)]) hx hb dX12_clause_4 rfl hl (by decide) rfl (fun ls hl => ?_)
    refine lv_iload_n hx hb dX12_clause_5 rfl (lv_at hl 0 rfl) ?_
    refine lv_if_ne (tgt := 11) hx hb dX12_clause_6 (by decide) (fun c_7 => ?_) (fun c_7 => ?_)
    · have tc_8 : (x_1).toInt ≠ 0 := fun q => c_7 (Int32.toInt_inj.mp q)
      have h_9 : rg x_1 1 9 := rg_ne c_7 hr_5 0 rfl (by decide)
      have uh_9 := h_9.1
      have vh_9 := h_9.2
      have hT2 : (I 393 this).toInt = 2 := (hp_6.resolve_left (by omega)).2.2
      have hwS : (I 398 this).toInt + 1 ≤ (I 391 this).toInt := hc5.2.1 (by omega)
      have hs3 := hc5.2.2
      clear hp_6 hc5 tc_8
      refine lv_iload_n hx hb dX12_clause_11 rfl (lv_at hl 0 rfl) ?_
      refine lv_iconst (v := 5) hx hb dX12_clause_12 (by decide) ?_
      refine lv_icmp_lt (tgt := 30) hx hb dX12_clause_13 (by decide) (fun c_10 => ?_) (fun c_10 => ?_)
      · have tc_11 : (x_1).toInt < 5 := Int32.lt_iff_toInt_lt.mp c_10
        have h_12 : rg x_1 1 4 := rg_lt1 c_10 h_9 (rg_k (5 : Int32) 5 rfl) (by decide)
        have uh_12 := h_12.1
        have vh_12 := h_12.2
        refine lv_aload_n hx hb dX12_clause_30 rfl (lv_at hl 1 rfl) ?_
        refine pg_f (v := .int (I 397 this)) (C := RX12) (T := TX12) (N := 31) hx hb hts (tw_i inlX12) hown hK hP hL_this hK_this (by decide) rfl 13 (by decide) (hts _ (tw_c tw_822)) rfl dX12_clause_31 ?_
        have h_13 : rg (I 397 this) 0 20 := GM.rI hG 397 rfl
        have uh_13 := h_13.1
        have vh_13 := h_13.2
        refine lv_bipush (v := 20) hx hb dX12_clause_34 (by decide) ?_
        refine lv_icmp_ne (tgt := 41) hx hb dX12_clause_36 (by decide) (fun c_14 => ?_) (fun c_14 => ?_)
        · have tc_15 : (I 397 this).toInt ≠ 20 := fun q => c_14 (Int32.toInt_inj.mp q)
          have h_16 : rg (I 397 this) 0 19 := rg_ne c_14 h_13 20 rfl (by decide)
          have uh_16 := h_16.1
          have vh_16 := h_16.2
          clear tc_15
          refine lv_aload_n hx hb dX12_clause_41 rfl (lv_at hl 1 rfl) ?_
          refine lv_dup hx hb dX12_clause_42 rfl ?_
          refine pg_f (v := .int (I 399 this)) (C := RX12) (T := TX12) (N := 31) hx hb hts (tw_i inlX12) hown hK hP hL_this hK_this (by decide) rfl 15 (by decide) (hts _ (tw_c tw_829)) rfl dX12_clause_43 ?_
          refine lv_iconst (v := 1) hx hb dX12_clause_46 (by decide) ?_
          refine lv_iload_n hx hb dX12_clause_47 rfl (lv_at hl 0 rfl) ?_
          refine lv_ishl hx hb dX12_clause_48 ?_
          refine lv_topi (fun x_17 ex_17 => ?_)
          refine lv_ior hx hb dX12_clause_49 ?_
          refine lv_topi (fun x_18 ex_18 => ?_)
          refine pp_i (v := x_18) (ty := .int) (C := RX12) (T := TX12) (N := 31) hx hb hts (tw_i inlX12) tyX12 tyX12_ok nmX12 hown hK hP hD hS hL_this hK_this (by decide) rfl 15 399 (by decide) (hts _ (tw_c tw_829)) rfl (tyX12_ok 15 (by decide)) rfl rfl (Nat.le_of_ble_eq_true rfl) (ps_399 _ _ _ _ _) dX12_clause_50 (fun I_19 H locs eI_19 hP hD hS => ?_)
          have hG := GM.wI hG 399 rfl eI_19 (rg_w (rg_full _) (by decide)) (by decide)
          have tt_20 : (I_19 396 this).toInt = (I 396 this).toInt := by rw [eI_19, pq_uf _ _ _ (by decide)]
          have tt_21 : (I_19 398 this).toInt = (I 398 this).toInt := by rw [eI_19, pq_uf _ _ _ (by decide)]
          have tt_22 : (I_19 401 this).toInt = (I 401 this).toInt := by rw [eI_19, pq_uf _ _ _ (by decide)]
          have tt_23 : (I_19 402 this).toInt = (I 402 this).toInt := by rw [eI_19, pq_uf _ _ _ (by decide)]
          have tt_24 : (I_19 391 this).toInt = (I 391 this).toInt := by rw [eI_19, pq_uf _ _ _ (by decide)]
          have tt_25 : (I_19 393 this).toInt = (I 393 this).toInt := by rw [eI_19, pq_uf _ _ _ (by decide)]
          have tt_26 : (I_19 403 this).toInt = (I 403 this).toInt := by rw [eI_19, pq_uf _ _ _ (by decide)]
          have tt_27 : (I_19 397 this).toInt = (I 397 this).toInt := by rw [eI_19, pq_uf _ _ _ (by decide)]
          refine lv_aload_n hx hb dX12_clause_53 rfl (lv_at hl 1 rfl) ?_
          refine pg_f (v := .int (I_19 396 this)) (C := RX12) (T := TX12) (N := 31) hx hb hts (tw_i inlX12) hown hK hP hL_this hK_this (by decide) rfl 12 (by decide) (hts _ (tw_c tw_821)) rfl dX12_clause_54 ?_
          have h_28 : rg (I_19 396 this) 0 11820 := GM.rI hG 396 rfl
          have uh_28 := h_28.1
          have vh_28 := h_28.2
          refine lv_iconst (v := 1) hx hb dX12_clause_57 (by decide) ?_
          refine lv_iadd hx hb dX12_clause_58 ?_
          refine lv_topi (fun x_29 ex_29 => ?_)
          have h_30 : rg x_29 1 11821 := rg_of_eq ex_29 (rg_add h_28 (rg_k (1 : Int32) 1 rfl) (by decide))
          have uh_30 := h_30.1
          have vh_30 := h_30.2
          have tx_29 : (x_29).toInt = (I_19 396 this).toInt + 1 := by rw [ex_29]; exact i_add_rg (a2 := (I_19 396 this).toInt) (b2 := 1) rfl rfl h_28 (rg_k (1 : Int32) 1 rfl) (by decide)
          refine lv_bipush (v := 12) hx hb dX12_clause_59 (by decide) ?_
          refine lv_aload_n hx hb dX12_clause_61 rfl (lv_at hl 1 rfl) ?_
          refine pg_f (v := .int (I_19 397 this)) (C := RX12) (T := TX12) (N := 31) hx hb hts (tw_i inlX12) hown hK hP hL_this hK_this (by decide) rfl 13 (by decide) (hts _ (tw_c tw_822)) rfl dX12_clause_62 ?_
          have h_31 : rg (I_19 397 this) 0 19 := (by rw [eI_19, pq_uf _ _ _ (by decide)]; exact h_16)
          have uh_31 := h_31.1
          have vh_31 := h_31.2
          refine lv_imul hx hb dX12_clause_65 ?_
          refine lv_topi (fun x_32 ex_32 => ?_)
          have h_33 : rg x_32 0 228 := rg_of_eq ex_32 (rg_mul (rg_k (12 : Int32) 12 rfl) h_31 (by decide))
          have uh_33 := h_33.1
          have vh_33 := h_33.2
          have tx_32 : (x_32).toInt = 12 * (I_19 397 this).toInt := by rw [ex_32]; exact i_mul_rg (a2 := 12) (b2 := (I_19 397 this).toInt) rfl rfl (rg_k (12 : Int32) 12 rfl) h_31 (by decide)
          refine lv_iadd hx hb dX12_clause_66 ?_
          refine lv_topi (fun x_34 ex_34 => ?_)
          have h_35 : rg x_34 1 12049 := rg_of_eq ex_34 (rg_add h_30 h_33 (by decide))
          have uh_35 := h_35.1
          have vh_35 := h_35.2
          have tx_34 : (x_34).toInt = (x_29).toInt + (x_32).toInt := by rw [ex_34]; exact i_add_rg (a2 := (x_29).toInt) (b2 := (x_32).toInt) rfl rfl h_30 h_33 (by decide)
          have hcx : (x_34).toInt = 3721 + 900 * (ri this_a 6).toInt + 12 * (I 397 this).toInt := by omega
          have hC19 : rg (I 397 this) 0 19 := ⟨by omega, by omega⟩
          have h_36 : rg x_34 3721 12049 := ⟨by omega, by omega⟩
          have uh_36 := h_36.1
          have vh_36 := h_36.2
          have hnX : ((x_34).toNatClampNeg : Int) = (x_34).toInt := by have z := clampE x_34; omega
          refine lv_istore_n (lv' := [(2, .int x_34), (1, .int x_1), (0, .ref this)]) hx hb dX12_clause_67 rfl hl (by decide) rfl (fun ls hl => ?_)
          refine lv_aload_n hx hb dX12_clause_68 rfl (lv_at hl 2 rfl) ?_
          refine pg_f (v := .ref this_a) (C := RX12) (T := TX12) (N := 31) hx hb hts (tw_i inlX12) hown hK hP hL_this hK_this (by decide) rfl 0 (by decide) (hts _ (tw_c tw_176)) (pq_hv rfl hR_this_a) dX12_clause_69 ?_
          refine lv_iload_n hx hb dX12_clause_72 rfl (lv_at hl 0 rfl) ?_
          refine lv_iload_n hx hb dX12_clause_73 rfl (lv_at hl 1 rfl) ?_
          refine pt_i hx hb hK hP hD hS hL_this_a hK_this_a hN_this_a (rg_in h_36 (by decide)) dX12_clause_74 (fun r_37 H locs er_37 hP hD hS => ?_)
          have hG := GM.wt hG hT_this_a (by decide) er_37 (zn_tc (t := (ri this_a 6).toNatClampNeg) (c := (I 397 this).toNatClampNeg) (k := 0) (by have z_i := clampE x_34; have z_0 := clampE (ri this_a 6); have z_1 := clampE (I 397 this); omega) (rg_cl1 ⟨hc1.2.1, hc1.2.2⟩ (by decide)) (rg_cl1 hC19 (by decide)) (by decide)) rfl (rg_w h_12 (by decide)) (by have z6 := congrArg Int32.toInt (hG.2.2.1 this_a hT_this_a 6 (by decide) (by decide)); have z_i := clampE x_34; omega) (by decide)
          refine lv_aload_n hx hb dX12_clause_75 rfl (lv_at hl 2 rfl) ?_
          obtain ⟨w_38, hR_w_38, hL_w_38, hK_w_38, hN_w_38, hT_w_38⟩ := sh_a hSH 387 (ci := 12) (kd := 13) (len := 300) rfl (by decide) hL_this hK_this
          refine pk_v (va_runV (As := []) (rest := []) ⟨hx, hb, hml, hown, hts⟩ (s_X12_nextToken_x l D t σ I_19 J r_37 rj rq H.size tg hSH hG.1 this hL_this hK_this w_38 hR_w_38 hL_w_38 hK_w_38 hN_w_38 hT_w_38) (cwV 0 hts (tw_V tw_832 tw_833 tw_834 tw_5 tw_835) rfl rfl rfl cv_yX12_nextToken_0 ⟨Nat.le_of_ble_eq_true rfl, Nat.le_of_ble_eq_true rfl⟩) ⟨pq_blind, pq_recv hK hP hL_this hK_this (by decide) rfl, pq_pre hK hN hP hD⟩ rfl rfl hl.1 rfl (lv_room (Nat.le_of_ble_eq_true rfl)) dX12_clause_76 ⟨Nat.le_of_ble_eq_true rfl, Nat.le_of_ble_eq_true rfl⟩) hD hS hA (fun σ1 μ1 H locs hw_40 hP hD hS => ?_)
          obtain ⟨I_41, J_42, hu_43, hg_44, hp_46, hp_47, hp_48⟩ := hw_40
          obtain ⟨hu_43a, hu_43b⟩ := Prod.mk.inj hu_43
          rw [hu_43a, hu_43b] at hP hD
          have tt_49 : (I_41 391 this).toInt ≤ 300 := by have z := hg_44.1.1 391 this; exact z.2
          have hG := GM.tr hG hg_44 (by decide)
          have tt_50 : (I_41 396 this).toInt = (I_19 396 this).toInt := by rw [hg_44.2.1 396 (by decide) (by decide)]
          have tt_51 : (I_41 398 this).toInt = (I_19 398 this).toInt := by rw [hg_44.2.1 398 (by decide) (by decide)]
          have tt_52 : (I_41 401 this).toInt = (I_19 401 this).toInt := by rw [hg_44.2.1 401 (by decide) (by decide)]
          have tt_53 : (I_41 402 this).toInt = (I_19 402 this).toInt := by rw [hg_44.2.1 402 (by decide) (by decide)]
          have tt_54 : (I_41 397 this).toInt = (I_19 397 this).toInt := by rw [hg_44.2.1 397 (by decide) (by decide)]
          have htmH : tmM (I_41 391 this).toInt (I_41 393 this).toInt ≤ tmM (I 391 this).toInt (I 393 this).toInt := Int.le_of_lt (tm_cg (tm_lt (s := (I_19 391 this).toInt) (k := (I_19 393 this).toInt) (by omega) hp_46 hp_47) rfl rfl (by omega) (by omega))
          clear hp_47
          refine lv_iconst (v := 0) hx hb dX12_clause_79 (by decide) ?_
          refine lv_istore_n (lv' := [(3, .int 0), (2, .int x_34), (1, .int x_1), (0, .ref this)]) hx hb dX12_clause_80 rfl hl (by decide) rfl (fun ls hl => ?_)
          refine lv_iload_n hx hb dX12_clause_81 rfl (lv_at hl 2 rfl) ?_
          refine lv_iconst (v := 4) hx hb dX12_clause_82 (by decide) ?_
          refine lv_icmp_gt (tgt := 118) hx hb dX12_clause_83 (by decide) (fun c_55 => ?_) (fun c_55 => ?_)
          · have tc_56 : 4 < (x_1).toInt := Int32.lt_iff_toInt_lt.mp c_55
            exact (rg_empty (rg_lt2 c_55 (rg_k (4 : Int32) 4 rfl) h_12 (lo := 5) (hi := 4) (by decide)) (by decide)).elim
          · have tc_57 : (x_1).toInt ≤ 4 := Int32.le_iff_toInt_le.mp (nlt c_55)
            refine lv_aload_n hx hb dX12_clause_86 rfl (lv_at hl 3 rfl) ?_
            refine pg_f (v := .ref this_a) (C := RX12) (T := TX12) (N := 31) hx hb hts (tw_i inlX12) hown hK hP hL_this hK_this (by decide) rfl 0 (by decide) (hts _ (tw_c tw_176)) (pq_hv rfl hR_this_a) dX12_clause_87 ?_
            refine lv_iload_n hx hb dX12_clause_90 rfl (lv_at hl 1 rfl) ?_
            refine lv_iconst (v := 2) hx hb dX12_clause_91 (by decide) ?_
            refine lv_iadd hx hb dX12_clause_92 ?_
            refine lv_topi (fun x_58 ex_58 => ?_)
            have h_59 : rg x_58 3723 12051 := rg_of_eq ex_58 (rg_add h_36 (rg_k (2 : Int32) 2 rfl) (by decide))
            have uh_59 := h_59.1
            have vh_59 := h_59.2
            have tx_58 : (x_58).toInt = (x_34).toInt + 2 := by rw [ex_58]; exact i_add_rg (a2 := (x_34).toInt) (b2 := 2) rfl rfl h_36 (rg_k (2 : Int32) 2 rfl) (by decide)
            refine lv_aload_n hx hb dX12_clause_93 rfl (lv_at hl 3 rfl) ?_
            refine pg_f (v := .int (I_41 398 this)) (C := RX12) (T := TX12) (N := 31) hx hb hts (tw_i inlX12) hown hK hP hL_this hK_this (by decide) rfl 14 (by decide) (hts _ (tw_c tw_827)) rfl dX12_clause_94 ?_
            have h_60 : rg (I_41 398 this) 0 300 := GM.rI hG 398 rfl
            have uh_60 := h_60.1
            have vh_60 := h_60.2
            refine pt_i hx hb hK hP hD hS hL_this_a hK_this_a hN_this_a (rg_in h_59 (by decide)) dX12_clause_97 (fun r_61 H locs er_61 hP hD hS => ?_)
            have hG := GM.wt hG hT_this_a (by decide) er_61 (zn_tc (t := (ri this_a 6).toNatClampNeg) (c := (I 397 this).toNatClampNeg) (k := 2) (by have z_i := clampE x_58; have z_0 := clampE (ri this_a 6); have z_1 := clampE (I 397 this); omega) (rg_cl1 ⟨hc1.2.1, hc1.2.2⟩ (by decide)) (rg_cl1 hC19 (by decide)) (by decide)) rfl (rg_w h_60 (by decide)) (by have z6 := congrArg Int32.toInt (hG.2.2.1 this_a hT_this_a 6 (by decide) (by decide)); have z_i := clampE x_58; omega) (by decide)
            refine lv_aload_n hx hb dX12_clause_98 rfl (lv_at hl 3 rfl) ?_
            have h26 : r_61 this_a 6 = ri this_a 6 := hG.2.2.1 this_a hT_this_a 6 (by decide) (by decide)
            have hpbN := PBz_new (t := (I_41 396 this).toInt) (w := (I_41 398 this).toInt) (o := (I_41 402 this).toInt) (s := (I_41 391 this).toInt) (k := (I_41 393 this).toInt) (f := r_61 this_a) (by rw [h26]; omega) (by omega) (by omega) (by omega) (fun q => by omega) (by omega)
            refine pk_i (va_runV (As := []) (rest := []) ⟨hx, hb, hml, hown, hts⟩ (s_X12_either l D t σ I_41 J_42 r_61 rj rq H.size tg hSH hG.1 this hL_this hK_this this_a hR_this_a hL_this_a hK_this_a hN_this_a hT_this_a this_pile hR_this_pile hL_this_pile hK_this_pile hN_this_pile hT_this_pile (3970 + 900 * (r_61 this_a 6).toInt + 2 * (I_41 398 this).toInt).toNat (r_61 this_a) (I_41 398 this).toInt 0 0 0 0 (by assumption)) (cwV 0 hts (tw_V tw_870 tw_871 tw_872 tw_5 tw_873) rfl rfl rfl cv_yX12_either_0 ⟨Nat.le_of_ble_eq_true rfl, Nat.le_of_ble_eq_true rfl⟩) ⟨pq_blind, pq_recv hK hP hL_this hK_this (by decide) rfl, pq_pre hK hN hP hD⟩ rfl rfl hl.1 rfl (lv_room (Nat.le_of_ble_eq_true rfl)) dX12_clause_99 ⟨Nat.le_of_ble_eq_true rfl, Nat.le_of_ble_eq_true rfl⟩) hD hS hA (fun x_62 σ1 μ1 H locs hw_63 hP hD hS => ?_)
            obtain ⟨I_64, J_65, ri_66, hu_67, hg_68, hp_70, hr_69⟩ := hw_63
            obtain ⟨hu_67a, hu_67b⟩ := Prod.mk.inj hu_67
            rw [hu_67a, hu_67b] at hP hD
            have hG := GM.tr hG hg_68 (by decide)
            have tt_71 : (I_64 396 this).toInt = (I_41 396 this).toInt := by rw [hg_68.2.1 396 (by decide) (by decide)]
            have tt_72 : (I_64 397 this).toInt = (I_41 397 this).toInt := by rw [hg_68.2.1 397 (by decide) (by decide)]
            refine lv_istore_n (lv' := [(3, .int x_62), (2, .int x_34), (1, .int x_1), (0, .ref this)]) hx hb dX12_clause_102 rfl hl (by decide) rfl (fun ls hl => ?_)
            refine lv_aload_n hx hb dX12_clause_103 rfl (lv_at hl 3 rfl) ?_
            refine pg_f (v := .ref this_a) (C := RX12) (T := TX12) (N := 31) hx hb hts (tw_i inlX12) hown hK hP hL_this hK_this (by decide) rfl 0 (by decide) (hts _ (tw_c tw_176)) (pq_hv rfl hR_this_a) dX12_clause_104 ?_
            refine lv_iload_n hx hb dX12_clause_107 rfl (lv_at hl 1 rfl) ?_
            refine lv_iconst (v := 3) hx hb dX12_clause_108 (by decide) ?_
            refine lv_iadd hx hb dX12_clause_109 ?_
            refine lv_topi (fun x_73 ex_73 => ?_)
            have h_74 : rg x_73 3724 12052 := rg_of_eq ex_73 (rg_add h_36 (rg_k (3 : Int32) 3 rfl) (by decide))
            have uh_74 := h_74.1
            have vh_74 := h_74.2
            have tx_73 : (x_73).toInt = (x_34).toInt + 3 := by rw [ex_73]; exact i_add_rg (a2 := (x_34).toInt) (b2 := 3) rfl rfl h_36 (rg_k (3 : Int32) 3 rfl) (by decide)
            refine lv_aload_n hx hb dX12_clause_110 rfl (lv_at hl 3 rfl) ?_
            refine pg_f (v := .int (I_64 398 this)) (C := RX12) (T := TX12) (N := 31) hx hb hts (tw_i inlX12) hown hK hP hL_this hK_this (by decide) rfl 14 (by decide) (hts _ (tw_c tw_827)) rfl dX12_clause_111 ?_
            have h_75 : rg (I_64 398 this) 0 300 := GM.rI hG 398 rfl
            have uh_75 := h_75.1
            have vh_75 := h_75.2
            refine pt_i hx hb hK hP hD hS hL_this_a hK_this_a hN_this_a (rg_in h_74 (by decide)) dX12_clause_114 (fun r_76 H locs er_76 hP hD hS => ?_)
            have hG := GM.wt hG hT_this_a (by decide) er_76 (zn_tc (t := (ri this_a 6).toNatClampNeg) (c := (I 397 this).toNatClampNeg) (k := 3) (by have z_i := clampE x_73; have z_0 := clampE (ri this_a 6); have z_1 := clampE (I 397 this); omega) (rg_cl1 ⟨hc1.2.1, hc1.2.2⟩ (by decide)) (rg_cl1 hC19 (by decide)) (by decide)) rfl (rg_w h_75 (by decide)) (by have z6 := congrArg Int32.toInt (hG.2.2.1 this_a hT_this_a 6 (by decide) (by decide)); have z_i := clampE x_73; omega) (by decide)
            refine lv_goto (tgt := 167) hx hb dX12_clause_115 (by decide) ?_
            refine lv_iload_n hx hb dX12_clause_167 rfl (lv_at hl 0 rfl) ?_
            refine lv_if_eq (tgt := 173) hx hb dX12_clause_168 (by decide) (fun c_77 => ?_) (fun c_77 => ?_)
            · have tc_78 : (x_62).toInt = 0 := congrArg Int32.toInt c_77
              have h_79 : rg x_62 0 0 := rg_and hr_69 (rg_of_eq c_77 (rg_k (0 : Int32) 0 rfl)) (by decide)
              have uh_79 := h_79.1
              have vh_79 := h_79.2
              have hE1 := (hp_70.resolve_left (fun q => q (by omega))).1
              have hE2 := (hp_70.resolve_left (fun q => q (by omega))).2
              have hE3 := PBz_all hE1
              clear hp_70
              refine lv_aload_n hx hb dX12_clause_173 rfl (lv_at hl 3 rfl) ?_
              refine pg_f (v := .int (I_64 393 this)) (C := RX12) (T := TX12) (N := 31) hx hb hts (tw_i inlX12) hown hK hP hL_this hK_this (by decide) rfl 9 (by decide) (hts _ (tw_c tw_831)) rfl dX12_clause_174 ?_
              refine lv_bipush (v := 59) hx hb dX12_clause_177 (by decide) ?_
              refine lv_icmp_eq (tgt := 184) hx hb dX12_clause_179 (by decide) (fun c_80 => ?_) (fun c_80 => ?_)
              · have tc_81 : (I_64 393 this).toInt = 59 := congrArg Int32.toInt c_80
                have h_82 : rg (I_64 393 this) 59 59 := rg_and (rg_full _) (rg_of_eq c_80 (rg_k (59 : Int32) 59 rfl)) (by decide)
                have uh_82 := h_82.1
                have vh_82 := h_82.2
                refine lv_aload_n hx hb dX12_clause_184 rfl (lv_at hl 3 rfl) ?_
                refine lv_dup hx hb dX12_clause_185 rfl ?_
                refine pg_f (v := .int (I_64 397 this)) (C := RX12) (T := TX12) (N := 31) hx hb hts (tw_i inlX12) hown hK hP hL_this hK_this (by decide) rfl 13 (by decide) (hts _ (tw_c tw_822)) rfl dX12_clause_186 ?_
                have h_83 : rg (I_64 397 this) 0 19 := (by rw [hg_68.2.1 397 (by decide) (by decide)]; exact (by rw [hg_44.2.1 397 (by decide) (by decide)]; exact h_31))
                have uh_83 := h_83.1
                have vh_83 := h_83.2
                refine lv_iconst (v := 1) hx hb dX12_clause_189 (by decide) ?_
                refine lv_iadd hx hb dX12_clause_190 ?_
                refine lv_topi (fun x_84 ex_84 => ?_)
                have h_85 : rg x_84 1 20 := rg_of_eq ex_84 (rg_add h_83 (rg_k (1 : Int32) 1 rfl) (by decide))
                have uh_85 := h_85.1
                have vh_85 := h_85.2
                have tx_84 : (x_84).toInt = (I_64 397 this).toInt + 1 := by rw [ex_84]; exact i_add_rg (a2 := (I_64 397 this).toInt) (b2 := 1) rfl rfl h_83 (rg_k (1 : Int32) 1 rfl) (by decide)
                refine pp_i (v := x_84) (ty := .int) (C := RX12) (T := TX12) (N := 31) hx hb hts (tw_i inlX12) tyX12 tyX12_ok nmX12 hown hK hP hD hS hL_this hK_this (by decide) rfl 13 397 (by decide) (hts _ (tw_c tw_822)) rfl (tyX12_ok 13 (by decide)) rfl rfl (Nat.le_of_ble_eq_true rfl) (ps_397 _ _ _ _ _) dX12_clause_191 (fun I_86 H locs eI_86 hP hD hS => ?_)
                have hG := GM.wI hG 397 rfl eI_86 (rg_w h_85 (by decide)) (by decide)
                have tt_87 : (I_86 396 this).toInt = (I_64 396 this).toInt := by rw [eI_86, pq_uf _ _ _ (by decide)]
                have tt_88 : (I_86 398 this).toInt = (I_64 398 this).toInt := by rw [eI_86, pq_uf _ _ _ (by decide)]
                have tt_89 : (I_86 401 this).toInt = (I_64 401 this).toInt := by rw [eI_86, pq_uf _ _ _ (by decide)]
                have tt_90 : (I_86 402 this).toInt = (I_64 402 this).toInt := by rw [eI_86, pq_uf _ _ _ (by decide)]
                have tt_91 : (I_86 391 this).toInt = (I_64 391 this).toInt := by rw [eI_86, pq_uf _ _ _ (by decide)]
                have tt_92 : (I_86 393 this).toInt = (I_64 393 this).toInt := by rw [eI_86, pq_uf _ _ _ (by decide)]
                have tt_93 : (I_86 403 this).toInt = (I_64 403 this).toInt := by rw [eI_86, pq_uf _ _ _ (by decide)]
                have tt_94 : (I_86 397 this).toInt = (x_84).toInt := by rw [eI_86, pq_us]
                refine lv_aload_n hx hb dX12_clause_194 rfl (lv_at hl 3 rfl) ?_
                have hkn_95 : (I_86 393 this).toInt ≠ 0 := by omega
                refine pk_v (va_runV (As := []) (rest := []) ⟨hx, hb, hml, hown, hts⟩ (s_X12_nextToken_x l D t σ I_86 J_65 r_76 rj rq H.size tg hSH hG.1 this hL_this hK_this w_38 hR_w_38 hL_w_38 hK_w_38 hN_w_38 hT_w_38) (cwV 0 hts (tw_V tw_832 tw_833 tw_834 tw_5 tw_835) rfl rfl rfl cv_yX12_nextToken_0 ⟨Nat.le_of_ble_eq_true rfl, Nat.le_of_ble_eq_true rfl⟩) ⟨pq_blind, pq_recv hK hP hL_this hK_this (by decide) rfl, pq_pre hK hN hP hD⟩ rfl rfl hl.1 rfl (lv_room (Nat.le_of_ble_eq_true rfl)) dX12_clause_195 ⟨Nat.le_of_ble_eq_true rfl, Nat.le_of_ble_eq_true rfl⟩) hD hS hA (fun σ1 μ1 H locs hw_97 hP hD hS => ?_)
                obtain ⟨I_98, J_99, hu_100, hg_101, hp_103, hp_104, hp_105⟩ := hw_97
                obtain ⟨hu_100a, hu_100b⟩ := Prod.mk.inj hu_100
                rw [hu_100a, hu_100b] at hP hD
                have tt_106 : (I_98 391 this).toInt ≤ 300 := by have z := hg_101.1.1 391 this; exact z.2
                have hG := GM.tr hG hg_101 (by decide)
                have tt_107 : (I_98 396 this).toInt = (I_86 396 this).toInt := by rw [hg_101.2.1 396 (by decide) (by decide)]
                have tt_108 : (I_98 398 this).toInt = (I_86 398 this).toInt := by rw [hg_101.2.1 398 (by decide) (by decide)]
                have tt_109 : (I_98 401 this).toInt = (I_86 401 this).toInt := by rw [hg_101.2.1 401 (by decide) (by decide)]
                have tt_110 : (I_98 402 this).toInt = (I_86 402 this).toInt := by rw [hg_101.2.1 402 (by decide) (by decide)]
                have tt_111 : (I_98 397 this).toInt = (I_86 397 this).toInt := by rw [hg_101.2.1 397 (by decide) (by decide)]
                refine lv_iconst (v := 0) hx hb dX12_clause_198 (by decide) ?_
                subst hQ
                exact W.iret (v := 0) hx hb hr (fun t1 ht hW => ⟨⟨0, (σ, I_98, J_99, r_76, rj, rq), rfl, ⟨I_98, J_99, r_76, rfl, hG, (Or.inr ⟨(CLz_mk (by rw [show r_76 this_a 6 = ri this_a 6 from hG.2.2.1 this_a hT_this_a 6 (by decide) (by decide)]; omega) (by rw [show (I_98 397 this).toInt = (((I 397 this).toNatClampNeg + 1 : Nat) : Int) from by omega]; have q := TXQ_code (f := ri this_a) (w := (I_41 398 this).toInt) (n := (I 397 this).toNatClampNeg) (ci := (x_34).toNatClampNeg) (by rw [show (((I 397 this).toNatClampNeg : Nat) : Int) = (I 397 this).toInt from by omega, show (I_41 398 this).toInt = (I 398 this).toInt from by omega]; exact hcl.2.1) (by omega) ⟨by omega, by omega⟩ (by omega) (by omega) ((congrFun er_37 _).trans (va_up_self _ _ _)) (by have z0 := clampE x_58; omega) ((congrFun er_61 _).trans (va_up_self _ _ _)) hE1 (by have z0 := clampE x_73; omega) ((congrFun er_76 _).trans (va_up_self _ _ _)) (by omega) (by omega); rw [show (I_98 398 this).toInt = (I_64 398 this).toInt from by omega]; exact q) (by omega) (by omega) (by omega) (fun q => by omega) (by omega)), (Int.lt_of_lt_of_le (tm_lt hkn_95 hp_103 hp_104) (tm_lec (Int.le_trans hE2 htmH) (by omega) (by omega)))⟩), (rg_w (rg_k (0 : Int32) 0 rfl) (by decide))⟩, by rw [ht]; exact hP, va_K.moved hW.alike hK, hD⟩, hS.F ht⟩) hS.2.2 dX12_clause_199
              · have tc_112 : (I_64 393 this).toInt ≠ 59 := fun q => c_80 (Int32.toInt_inj.mp q)
                refine lv_iconst (v := 1) hx hb dX12_clause_182 (by decide) ?_
                subst hQ
                exact W.iret (v := 1) hx hb hr (fun t1 ht hW => ⟨⟨1, (σ, I_64, J_65, r_76, rj, rq), rfl, ⟨I_64, J_65, r_76, rfl, hG, (Or.inl (by decide)), (rg_w (rg_k (1 : Int32) 1 rfl) (by decide))⟩, by rw [ht]; exact hP, va_K.moved hW.alike hK, hD⟩, hS.F ht⟩) hS.2.2 dX12_clause_183
            · have tc_113 : (x_62).toInt ≠ 0 := fun q => c_77 (Int32.toInt_inj.mp q)
              have h_114 : rg x_62 1 3 := rg_ne c_77 hr_69 0 rfl (by decide)
              have uh_114 := h_114.1
              have vh_114 := h_114.2
              refine lv_iload_n hx hb dX12_clause_171 rfl (lv_at hl 0 rfl) ?_
              subst hQ
              exact W.iret (v := x_62) hx hb hr (fun t1 ht hW => ⟨⟨x_62, (σ, I_64, J_65, r_76, rj, rq), rfl, ⟨I_64, J_65, r_76, rfl, hG, (Or.inl (by omega)), (rg_w h_114 (by decide))⟩, by rw [ht]; exact hP, va_K.moved hW.alike hK, hD⟩, hS.F ht⟩) hS.2.2 dX12_clause_172
        · have tc_115 : (I 397 this).toInt = 20 := congrArg Int32.toInt c_14
          have h_116 : rg (I 397 this) 20 20 := rg_and h_13 (rg_of_eq c_14 (rg_k (20 : Int32) 20 rfl)) (by decide)
          have uh_116 := h_116.1
          have vh_116 := h_116.2
          refine lv_iconst (v := 5) hx hb dX12_clause_39 (by decide) ?_
          subst hQ
          exact W.iret (v := 5) hx hb hr (fun t1 ht hW => ⟨⟨5, (σ, I, J, ri, rj, rq), rfl, ⟨I, J, ri, rfl, hG, (Or.inl (by decide)), (rg_w (rg_k (5 : Int32) 5 rfl) (by decide))⟩, by rw [ht]; exact hP, va_K.moved hW.alike hK, hD⟩, hS.F ht⟩) hS.2.2 dX12_clause_40
      · have tc_117 : 5 ≤ (x_1).toInt := Int32.le_iff_toInt_le.mp (nlt c_10)
        have h_118 : rg x_1 5 9 := rg_le2 (nlt c_10) (rg_k (5 : Int32) 5 rfl) h_9 (by decide)
        have uh_118 := h_118.1
        have vh_118 := h_118.2
        refine lv_aload_n hx hb dX12_clause_16 rfl (lv_at hl 1 rfl) ?_
        refine pg_f (v := .int (I 399 this)) (C := RX12) (T := TX12) (N := 31) hx hb hts (tw_i inlX12) hown hK hP hL_this hK_this (by decide) rfl 15 (by decide) (hts _ (tw_c tw_829)) rfl dX12_clause_17 ?_
        refine lv_iload_n hx hb dX12_clause_20 rfl (lv_at hl 0 rfl) ?_
        refine lv_ishr hx hb dX12_clause_21 ?_
        refine lv_topi (fun x_119 ex_119 => ?_)
        refine lv_iconst (v := 1) hx hb dX12_clause_22 (by decide) ?_
        refine lv_iand hx hb dX12_clause_23 ?_
        refine lv_topi (fun x_120 ex_120 => ?_)
        refine lv_iconst (v := 1) hx hb dX12_clause_24 (by decide) ?_
        refine lv_icmp_ne (tgt := 30) hx hb dX12_clause_25 (by decide) (fun c_121 => ?_) (fun c_121 => ?_)
        · have tc_122 : (x_120).toInt ≠ 1 := fun q => c_121 (Int32.toInt_inj.mp q)
          refine lv_aload_n hx hb dX12_clause_30 rfl (lv_at hl 1 rfl) ?_
          refine pg_f (v := .int (I 397 this)) (C := RX12) (T := TX12) (N := 31) hx hb hts (tw_i inlX12) hown hK hP hL_this hK_this (by decide) rfl 13 (by decide) (hts _ (tw_c tw_822)) rfl dX12_clause_31 ?_
          have h_123 : rg (I 397 this) 0 20 := GM.rI hG 397 rfl
          have uh_123 := h_123.1
          have vh_123 := h_123.2
          refine lv_bipush (v := 20) hx hb dX12_clause_34 (by decide) ?_
          refine lv_icmp_ne (tgt := 41) hx hb dX12_clause_36 (by decide) (fun c_124 => ?_) (fun c_124 => ?_)
          · have tc_125 : (I 397 this).toInt ≠ 20 := fun q => c_124 (Int32.toInt_inj.mp q)
            have h_126 : rg (I 397 this) 0 19 := rg_ne c_124 h_123 20 rfl (by decide)
            have uh_126 := h_126.1
            have vh_126 := h_126.2
            clear tc_122 tc_125
            refine lv_aload_n hx hb dX12_clause_41 rfl (lv_at hl 1 rfl) ?_
            refine lv_dup hx hb dX12_clause_42 rfl ?_
            refine pg_f (v := .int (I 399 this)) (C := RX12) (T := TX12) (N := 31) hx hb hts (tw_i inlX12) hown hK hP hL_this hK_this (by decide) rfl 15 (by decide) (hts _ (tw_c tw_829)) rfl dX12_clause_43 ?_
            refine lv_iconst (v := 1) hx hb dX12_clause_46 (by decide) ?_
            refine lv_iload_n hx hb dX12_clause_47 rfl (lv_at hl 0 rfl) ?_
            refine lv_ishl hx hb dX12_clause_48 ?_
            refine lv_topi (fun x_127 ex_127 => ?_)
            refine lv_ior hx hb dX12_clause_49 ?_
            refine lv_topi (fun x_128 ex_128 => ?_)
            refine pp_i (v := x_128) (ty := .int) (C := RX12) (T := TX12) (N := 31) hx hb hts (tw_i inlX12) tyX12 tyX12_ok nmX12 hown hK hP hD hS hL_this hK_this (by decide) rfl 15 399 (by decide) (hts _ (tw_c tw_829)) rfl (tyX12_ok 15 (by decide)) rfl rfl (Nat.le_of_ble_eq_true rfl) (ps_399 _ _ _ _ _) dX12_clause_50 (fun I_129 H locs eI_129 hP hD hS => ?_)
            have hG := GM.wI hG 399 rfl eI_129 (rg_w (rg_full _) (by decide)) (by decide)
            have tt_130 : (I_129 396 this).toInt = (I 396 this).toInt := by rw [eI_129, pq_uf _ _ _ (by decide)]
            have tt_131 : (I_129 398 this).toInt = (I 398 this).toInt := by rw [eI_129, pq_uf _ _ _ (by decide)]
            have tt_132 : (I_129 401 this).toInt = (I 401 this).toInt := by rw [eI_129, pq_uf _ _ _ (by decide)]
            have tt_133 : (I_129 402 this).toInt = (I 402 this).toInt := by rw [eI_129, pq_uf _ _ _ (by decide)]
            have tt_134 : (I_129 391 this).toInt = (I 391 this).toInt := by rw [eI_129, pq_uf _ _ _ (by decide)]
            have tt_135 : (I_129 393 this).toInt = (I 393 this).toInt := by rw [eI_129, pq_uf _ _ _ (by decide)]
            have tt_136 : (I_129 403 this).toInt = (I 403 this).toInt := by rw [eI_129, pq_uf _ _ _ (by decide)]
            have tt_137 : (I_129 397 this).toInt = (I 397 this).toInt := by rw [eI_129, pq_uf _ _ _ (by decide)]
            refine lv_aload_n hx hb dX12_clause_53 rfl (lv_at hl 1 rfl) ?_
            refine pg_f (v := .int (I_129 396 this)) (C := RX12) (T := TX12) (N := 31) hx hb hts (tw_i inlX12) hown hK hP hL_this hK_this (by decide) rfl 12 (by decide) (hts _ (tw_c tw_821)) rfl dX12_clause_54 ?_
            have h_138 : rg (I_129 396 this) 0 11820 := GM.rI hG 396 rfl
            have uh_138 := h_138.1
            have vh_138 := h_138.2
            refine lv_iconst (v := 1) hx hb dX12_clause_57 (by decide) ?_
            refine lv_iadd hx hb dX12_clause_58 ?_
            refine lv_topi (fun x_139 ex_139 => ?_)
            have h_140 : rg x_139 1 11821 := rg_of_eq ex_139 (rg_add h_138 (rg_k (1 : Int32) 1 rfl) (by decide))
            have uh_140 := h_140.1
            have vh_140 := h_140.2
            have tx_139 : (x_139).toInt = (I_129 396 this).toInt + 1 := by rw [ex_139]; exact i_add_rg (a2 := (I_129 396 this).toInt) (b2 := 1) rfl rfl h_138 (rg_k (1 : Int32) 1 rfl) (by decide)
            refine lv_bipush (v := 12) hx hb dX12_clause_59 (by decide) ?_
            refine lv_aload_n hx hb dX12_clause_61 rfl (lv_at hl 1 rfl) ?_
            refine pg_f (v := .int (I_129 397 this)) (C := RX12) (T := TX12) (N := 31) hx hb hts (tw_i inlX12) hown hK hP hL_this hK_this (by decide) rfl 13 (by decide) (hts _ (tw_c tw_822)) rfl dX12_clause_62 ?_
            have h_141 : rg (I_129 397 this) 0 19 := (by rw [eI_129, pq_uf _ _ _ (by decide)]; exact h_126)
            have uh_141 := h_141.1
            have vh_141 := h_141.2
            refine lv_imul hx hb dX12_clause_65 ?_
            refine lv_topi (fun x_142 ex_142 => ?_)
            have h_143 : rg x_142 0 228 := rg_of_eq ex_142 (rg_mul (rg_k (12 : Int32) 12 rfl) h_141 (by decide))
            have uh_143 := h_143.1
            have vh_143 := h_143.2
            have tx_142 : (x_142).toInt = 12 * (I_129 397 this).toInt := by rw [ex_142]; exact i_mul_rg (a2 := 12) (b2 := (I_129 397 this).toInt) rfl rfl (rg_k (12 : Int32) 12 rfl) h_141 (by decide)
            refine lv_iadd hx hb dX12_clause_66 ?_
            refine lv_topi (fun x_144 ex_144 => ?_)
            have h_145 : rg x_144 1 12049 := rg_of_eq ex_144 (rg_add h_140 h_143 (by decide))
            have uh_145 := h_145.1
            have vh_145 := h_145.2
            have tx_144 : (x_144).toInt = (x_139).toInt + (x_142).toInt := by rw [ex_144]; exact i_add_rg (a2 := (x_139).toInt) (b2 := (x_142).toInt) rfl rfl h_140 h_143 (by decide)
            have hcx : (x_144).toInt = 3721 + 900 * (ri this_a 6).toInt + 12 * (I 397 this).toInt := by omega
            have hC19 : rg (I 397 this) 0 19 := ⟨by omega, by omega⟩
            have h_146 : rg x_144 3721 12049 := ⟨by omega, by omega⟩
            have uh_146 := h_146.1
            have vh_146 := h_146.2
            have hnX : ((x_144).toNatClampNeg : Int) = (x_144).toInt := by have z := clampE x_144; omega
            refine lv_istore_n (lv' := [(2, .int x_144), (1, .int x_1), (0, .ref this)]) hx hb dX12_clause_67 rfl hl (by decide) rfl (fun ls hl => ?_)
            refine lv_aload_n hx hb dX12_clause_68 rfl (lv_at hl 2 rfl) ?_
            refine pg_f (v := .ref this_a) (C := RX12) (T := TX12) (N := 31) hx hb hts (tw_i inlX12) hown hK hP hL_this hK_this (by decide) rfl 0 (by decide) (hts _ (tw_c tw_176)) (pq_hv rfl hR_this_a) dX12_clause_69 ?_
            refine lv_iload_n hx hb dX12_clause_72 rfl (lv_at hl 0 rfl) ?_
            refine lv_iload_n hx hb dX12_clause_73 rfl (lv_at hl 1 rfl) ?_
            refine pt_i hx hb hK hP hD hS hL_this_a hK_this_a hN_this_a (rg_in h_146 (by decide)) dX12_clause_74 (fun r_147 H locs er_147 hP hD hS => ?_)
            have hG := GM.wt hG hT_this_a (by decide) er_147 (zn_tc (t := (ri this_a 6).toNatClampNeg) (c := (I 397 this).toNatClampNeg) (k := 0) (by have z_i := clampE x_144; have z_0 := clampE (ri this_a 6); have z_1 := clampE (I 397 this); omega) (rg_cl1 ⟨hc1.2.1, hc1.2.2⟩ (by decide)) (rg_cl1 hC19 (by decide)) (by decide)) rfl (rg_w h_118 (by decide)) (by have z6 := congrArg Int32.toInt (hG.2.2.1 this_a hT_this_a 6 (by decide) (by decide)); have z_i := clampE x_144; omega) (by decide)
            refine lv_aload_n hx hb dX12_clause_75 rfl (lv_at hl 2 rfl) ?_
            obtain ⟨w_148, hR_w_148, hL_w_148, hK_w_148, hN_w_148, hT_w_148⟩ := sh_a hSH 387 (ci := 12) (kd := 13) (len := 300) rfl (by decide) hL_this hK_this
            refine pk_v (va_runV (As := []) (rest := []) ⟨hx, hb, hml, hown, hts⟩ (s_X12_nextToken_x l D t σ I_129 J r_147 rj rq H.size tg hSH hG.1 this hL_this hK_this w_148 hR_w_148 hL_w_148 hK_w_148 hN_w_148 hT_w_148) (cwV 0 hts (tw_V tw_832 tw_833 tw_834 tw_5 tw_835) rfl rfl rfl cv_yX12_nextToken_0 ⟨Nat.le_of_ble_eq_true rfl, Nat.le_of_ble_eq_true rfl⟩) ⟨pq_blind, pq_recv hK hP hL_this hK_this (by decide) rfl, pq_pre hK hN hP hD⟩ rfl rfl hl.1 rfl (lv_room (Nat.le_of_ble_eq_true rfl)) dX12_clause_76 ⟨Nat.le_of_ble_eq_true rfl, Nat.le_of_ble_eq_true rfl⟩) hD hS hA (fun σ1 μ1 H locs hw_150 hP hD hS => ?_)
            obtain ⟨I_151, J_152, hu_153, hg_154, hp_156, hp_157, hp_158⟩ := hw_150
            obtain ⟨hu_153a, hu_153b⟩ := Prod.mk.inj hu_153
            rw [hu_153a, hu_153b] at hP hD
            have tt_159 : (I_151 391 this).toInt ≤ 300 := by have z := hg_154.1.1 391 this; exact z.2
            have hG := GM.tr hG hg_154 (by decide)
            have tt_160 : (I_151 396 this).toInt = (I_129 396 this).toInt := by rw [hg_154.2.1 396 (by decide) (by decide)]
            have tt_161 : (I_151 398 this).toInt = (I_129 398 this).toInt := by rw [hg_154.2.1 398 (by decide) (by decide)]
            have tt_162 : (I_151 401 this).toInt = (I_129 401 this).toInt := by rw [hg_154.2.1 401 (by decide) (by decide)]
            have tt_163 : (I_151 402 this).toInt = (I_129 402 this).toInt := by rw [hg_154.2.1 402 (by decide) (by decide)]
            have tt_164 : (I_151 397 this).toInt = (I_129 397 this).toInt := by rw [hg_154.2.1 397 (by decide) (by decide)]
            have htmH : tmM (I_151 391 this).toInt (I_151 393 this).toInt ≤ tmM (I 391 this).toInt (I 393 this).toInt := Int.le_of_lt (tm_cg (tm_lt (s := (I_129 391 this).toInt) (k := (I_129 393 this).toInt) (by omega) hp_156 hp_157) rfl rfl (by omega) (by omega))
            clear hp_157
            refine lv_iconst (v := 0) hx hb dX12_clause_79 (by decide) ?_
            refine lv_istore_n (lv' := [(3, .int 0), (2, .int x_144), (1, .int x_1), (0, .ref this)]) hx hb dX12_clause_80 rfl hl (by decide) rfl (fun ls hl => ?_)
            refine lv_iload_n hx hb dX12_clause_81 rfl (lv_at hl 2 rfl) ?_
            refine lv_iconst (v := 4) hx hb dX12_clause_82 (by decide) ?_
            refine lv_icmp_gt (tgt := 118) hx hb dX12_clause_83 (by decide) (fun c_165 => ?_) (fun c_165 => ?_)
            · have tc_166 : 4 < (x_1).toInt := Int32.lt_iff_toInt_lt.mp c_165
              refine lv_iload_n hx hb dX12_clause_118 rfl (lv_at hl 2 rfl) ?_
              refine lv_bipush (v := 6) hx hb dX12_clause_119 (by decide) ?_
              refine lv_icmp_gt (tgt := 133) hx hb dX12_clause_121 (by decide) (fun c_167 => ?_) (fun c_167 => ?_)
              · have tc_168 : 6 < (x_1).toInt := Int32.lt_iff_toInt_lt.mp c_167
                have h_169 : rg x_1 7 9 := rg_lt2 c_167 (rg_k (6 : Int32) 6 rfl) h_118 (by decide)
                have uh_169 := h_169.1
                have vh_169 := h_169.2
                refine lv_aload_n hx hb dX12_clause_133 rfl (lv_at hl 3 rfl) ?_
                refine lv_iload_n hx hb dX12_clause_134 rfl (lv_at hl 2 rfl) ?_
                refine lv_bipush (v := 7) hx hb dX12_clause_135 (by decide) ?_
                refine lv_icmp_ne (tgt := 145) hx hb dX12_clause_137 (by decide) (fun c_170 => ?_) (fun c_170 => ?_)
                · have tc_171 : (x_1).toInt ≠ 7 := fun q => c_170 (Int32.toInt_inj.mp q)
                  have h_172 : rg x_1 8 9 := rg_ne c_170 h_169 7 rfl (by decide)
                  have uh_172 := h_172.1
                  have vh_172 := h_172.2
                  refine lv_iload_n hx hb dX12_clause_145 rfl (lv_at hl 2 rfl) ?_
                  refine lv_bipush (v := 8) hx hb dX12_clause_146 (by decide) ?_
                  refine lv_icmp_ne (tgt := 157) hx hb dX12_clause_148 (by decide) (fun c_173 => ?_) (fun c_173 => ?_)
                  · have tc_174 : (x_1).toInt ≠ 8 := fun q => c_173 (Int32.toInt_inj.mp q)
                    have h_175 : rg x_1 9 9 := rg_ne c_173 h_172 8 rfl (by decide)
                    have uh_175 := h_175.1
                    have vh_175 := h_175.2
                    refine lv_sipush (v := 1000) hx hb dX12_clause_157 (by decide) ?_
                    refine lv_iload_n hx hb dX12_clause_160 rfl (lv_at hl 1 rfl) ?_
                    refine lv_iconst (v := 1) hx hb dX12_clause_161 (by decide) ?_
                    refine lv_iadd hx hb dX12_clause_162 ?_
                    refine lv_topi (fun x_176 ex_176 => ?_)
                    have h_177 : rg x_176 3722 12050 := rg_of_eq ex_176 (rg_add h_146 (rg_k (1 : Int32) 1 rfl) (by decide))
                    have uh_177 := h_177.1
                    have vh_177 := h_177.2
                    have tx_176 : (x_176).toInt = (x_144).toInt + 1 := by rw [ex_176]; exact i_add_rg (a2 := (x_144).toInt) (b2 := 1) rfl rfl h_146 (rg_k (1 : Int32) 1 rfl) (by decide)
                    have t26 : (r_147 this_a 6).toInt = (ri this_a 6).toInt := congrArg Int32.toInt (hG.2.2.1 this_a hT_this_a 6 (by decide) (by decide))
                    refine pk_i (va_runV (As := [.int 1000, .int x_176]) (rest := []) ⟨hx, hb, hml, hown, hts⟩ (s_X12_take l D t σ I_151 J_152 r_147 rj rq H.size tg hSH hG.1 this (1000 : Int32) x_176 hL_this hK_this this_a hR_this_a hL_this_a hK_this_a hN_this_a hT_this_a (by omega)) (cwV 2 hts (tw_V tw_933 tw_934 tw_935 tw_5 tw_936) rfl rfl rfl cv_yX12_take_2 ⟨Nat.le_of_ble_eq_true rfl, Nat.le_of_ble_eq_true rfl⟩) ⟨pq_blind, pq_recv hK hP hL_this hK_this (by decide) rfl, pq_pre hK hN hP hD⟩ rfl rfl hl.1 rfl (lv_room (Nat.le_of_ble_eq_true rfl)) dX12_clause_163 ⟨Nat.le_of_ble_eq_true rfl, Nat.le_of_ble_eq_true rfl⟩) hD hS hA (fun x_178 σ1 μ1 H locs hw_179 hP hD hS => ?_)
                    obtain ⟨I_180, J_181, ri_182, hu_183, hg_184, hp_186, hp_187, hp_188, hr_185⟩ := hw_179
                    obtain ⟨hu_183a, hu_183b⟩ := Prod.mk.inj hu_183
                    rw [hu_183a, hu_183b] at hP hD
                    have tt_189 := hp_186
                    have hG := GM.tr hG hg_184 (by decide)
                    have tt_190 : (I_180 396 this).toInt = (I_151 396 this).toInt := by rw [hg_184.2.1 396 (by decide) (by decide)]
                    have tt_191 : (I_180 398 this).toInt = (I_151 398 this).toInt := by rw [hg_184.2.1 398 (by decide) (by decide)]
                    have tt_192 : (I_180 401 this).toInt = (I_151 401 this).toInt := by rw [hg_184.2.1 401 (by decide) (by decide)]
                    have tt_193 : (I_180 402 this).toInt = (I_151 402 this).toInt := by rw [hg_184.2.1 402 (by decide) (by decide)]
                    have tt_194 : (I_180 397 this).toInt = (I_151 397 this).toInt := by rw [hg_184.2.1 397 (by decide) (by decide)]
                    refine lv_istore_n (lv' := [(3, .int x_178), (2, .int x_144), (1, .int x_1), (0, .ref this)]) hx hb dX12_clause_166 rfl hl (by decide) rfl (fun ls hl => ?_)
                    refine lv_iload_n hx hb dX12_clause_167 rfl (lv_at hl 0 rfl) ?_
                    refine lv_if_eq (tgt := 173) hx hb dX12_clause_168 (by decide) (fun c_195 => ?_) (fun c_195 => ?_)
                    · have tc_196 : (x_178).toInt = 0 := congrArg Int32.toInt c_195
                      have h_197 : rg x_178 0 0 := rg_and hr_185 (rg_of_eq c_195 (rg_k (0 : Int32) 0 rfl)) (by decide)
                      have uh_197 := h_197.1
                      have vh_197 := h_197.2
                      clear tc_171 tc_174
                      refine lv_aload_n hx hb dX12_clause_173 rfl (lv_at hl 3 rfl) ?_
                      refine pg_f (v := .int (I_180 393 this)) (C := RX12) (T := TX12) (N := 31) hx hb hts (tw_i inlX12) hown hK hP hL_this hK_this (by decide) rfl 9 (by decide) (hts _ (tw_c tw_831)) rfl dX12_clause_174 ?_
                      refine lv_bipush (v := 59) hx hb dX12_clause_177 (by decide) ?_
                      refine lv_icmp_eq (tgt := 184) hx hb dX12_clause_179 (by decide) (fun c_198 => ?_) (fun c_198 => ?_)
                      · have tc_199 : (I_180 393 this).toInt = 59 := congrArg Int32.toInt c_198
                        have h_200 : rg (I_180 393 this) 59 59 := rg_and (rg_full _) (rg_of_eq c_198 (rg_k (59 : Int32) 59 rfl)) (by decide)
                        have uh_200 := h_200.1
                        have vh_200 := h_200.2
                        refine lv_aload_n hx hb dX12_clause_184 rfl (lv_at hl 3 rfl) ?_
                        refine lv_dup hx hb dX12_clause_185 rfl ?_
                        refine pg_f (v := .int (I_180 397 this)) (C := RX12) (T := TX12) (N := 31) hx hb hts (tw_i inlX12) hown hK hP hL_this hK_this (by decide) rfl 13 (by decide) (hts _ (tw_c tw_822)) rfl dX12_clause_186 ?_
                        have h_201 : rg (I_180 397 this) 0 19 := (by rw [hg_184.2.1 397 (by decide) (by decide)]; exact (by rw [hg_154.2.1 397 (by decide) (by decide)]; exact h_141))
                        have uh_201 := h_201.1
                        have vh_201 := h_201.2
                        refine lv_iconst (v := 1) hx hb dX12_clause_189 (by decide) ?_
                        refine lv_iadd hx hb dX12_clause_190 ?_
                        refine lv_topi (fun x_202 ex_202 => ?_)
                        have h_203 : rg x_202 1 20 := rg_of_eq ex_202 (rg_add h_201 (rg_k (1 : Int32) 1 rfl) (by decide))
                        have uh_203 := h_203.1
                        have vh_203 := h_203.2
                        have tx_202 : (x_202).toInt = (I_180 397 this).toInt + 1 := by rw [ex_202]; exact i_add_rg (a2 := (I_180 397 this).toInt) (b2 := 1) rfl rfl h_201 (rg_k (1 : Int32) 1 rfl) (by decide)
                        refine pp_i (v := x_202) (ty := .int) (C := RX12) (T := TX12) (N := 31) hx hb hts (tw_i inlX12) tyX12 tyX12_ok nmX12 hown hK hP hD hS hL_this hK_this (by decide) rfl 13 397 (by decide) (hts _ (tw_c tw_822)) rfl (tyX12_ok 13 (by decide)) rfl rfl (Nat.le_of_ble_eq_true rfl) (ps_397 _ _ _ _ _) dX12_clause_191 (fun I_204 H locs eI_204 hP hD hS => ?_)
                        have hG := GM.wI hG 397 rfl eI_204 (rg_w h_203 (by decide)) (by decide)
                        have tt_205 : (I_204 396 this).toInt = (I_180 396 this).toInt := by rw [eI_204, pq_uf _ _ _ (by decide)]
                        have tt_206 : (I_204 398 this).toInt = (I_180 398 this).toInt := by rw [eI_204, pq_uf _ _ _ (by decide)]
                        have tt_207 : (I_204 401 this).toInt = (I_180 401 this).toInt := by rw [eI_204, pq_uf _ _ _ (by decide)]
                        have tt_208 : (I_204 402 this).toInt = (I_180 402 this).toInt := by rw [eI_204, pq_uf _ _ _ (by decide)]
                        have tt_209 : (I_204 391 this).toInt = (I_180 391 this).toInt := by rw [eI_204, pq_uf _ _ _ (by decide)]
                        have tt_210 : (I_204 393 this).toInt = (I_180 393 this).toInt := by rw [eI_204, pq_uf _ _ _ (by decide)]
                        have tt_211 : (I_204 403 this).toInt = (I_180 403 this).toInt := by rw [eI_204, pq_uf _ _ _ (by decide)]
                        have tt_212 : (I_204 397 this).toInt = (x_202).toInt := by rw [eI_204, pq_us]
                        refine lv_aload_n hx hb dX12_clause_194 rfl (lv_at hl 3 rfl) ?_
                        have hkn_213 : (I_204 393 this).toInt ≠ 0 := by omega
                        refine pk_v (va_runV (As := []) (rest := []) ⟨hx, hb, hml, hown, hts⟩ (s_X12_nextToken_x l D t σ I_204 J_181 ri_182 rj rq H.size tg hSH hG.1 this hL_this hK_this w_148 hR_w_148 hL_w_148 hK_w_148 hN_w_148 hT_w_148) (cwV 0 hts (tw_V tw_832 tw_833 tw_834 tw_5 tw_835) rfl rfl rfl cv_yX12_nextToken_0 ⟨Nat.le_of_ble_eq_true rfl, Nat.le_of_ble_eq_true rfl⟩) ⟨pq_blind, pq_recv hK hP hL_this hK_this (by decide) rfl, pq_pre hK hN hP hD⟩ rfl rfl hl.1 rfl (lv_room (Nat.le_of_ble_eq_true rfl)) dX12_clause_195 ⟨Nat.le_of_ble_eq_true rfl, Nat.le_of_ble_eq_true rfl⟩) hD hS hA (fun σ1 μ1 H locs hw_215 hP hD hS => ?_)
                        obtain ⟨I_216, J_217, hu_218, hg_219, hp_221, hp_222, hp_223⟩ := hw_215
                        obtain ⟨hu_218a, hu_218b⟩ := Prod.mk.inj hu_218
                        rw [hu_218a, hu_218b] at hP hD
                        have tt_224 : (I_216 391 this).toInt ≤ 300 := by have z := hg_219.1.1 391 this; exact z.2
                        have hG := GM.tr hG hg_219 (by decide)
                        have tt_225 : (I_216 396 this).toInt = (I_204 396 this).toInt := by rw [hg_219.2.1 396 (by decide) (by decide)]
                        have tt_226 : (I_216 398 this).toInt = (I_204 398 this).toInt := by rw [hg_219.2.1 398 (by decide) (by decide)]
                        have tt_227 : (I_216 401 this).toInt = (I_204 401 this).toInt := by rw [hg_219.2.1 401 (by decide) (by decide)]
                        have tt_228 : (I_216 402 this).toInt = (I_204 402 this).toInt := by rw [hg_219.2.1 402 (by decide) (by decide)]
                        have tt_229 : (I_216 397 this).toInt = (I_204 397 this).toInt := by rw [hg_219.2.1 397 (by decide) (by decide)]
                        refine lv_iconst (v := 0) hx hb dX12_clause_198 (by decide) ?_
                        subst hQ
                        exact W.iret (v := 0) hx hb hr (fun t1 ht hW => ⟨⟨0, (σ, I_216, J_217, ri_182, rj, rq), rfl, ⟨I_216, J_217, ri_182, rfl, hG, (Or.inr ⟨(CLz_mk (by rw [show ri_182 this_a 6 = ri this_a 6 from hG.2.2.1 this_a hT_this_a 6 (by decide) (by decide)]; omega) (by rw [show (I_216 397 this).toInt = (((I 397 this).toNatClampNeg + 1 : Nat) : Int) from by omega]; have q := TXQ_other (f := ri this_a) (w := (I 398 this).toInt) (n := (I 397 this).toNatClampNeg) (ci := (x_144).toNatClampNeg) (by rw [show (((I 397 this).toNatClampNeg : Nat) : Int) = (I 397 this).toInt from by omega]; exact hcl.2.1) (by omega) ⟨by omega, by omega⟩ (by omega) (by omega) ((congrFun er_147 _).trans (va_up_self _ _ _)) (by omega) (fun j hj => hp_187 j (by omega)); rw [show (I_216 398 this).toInt = (I 398 this).toInt from by omega]; exact q) (by omega) (by omega) (by omega) (fun q => by omega) (by omega)), (Int.lt_of_lt_of_le (tm_lt hkn_213 hp_221 hp_222) (tm_lec (Int.le_trans hp_188 htmH) (by omega) (by omega)))⟩), (rg_w (rg_k (0 : Int32) 0 rfl) (by decide))⟩, by rw [ht]; exact hP, va_K.moved hW.alike hK, hD⟩, hS.F ht⟩) hS.2.2 dX12_clause_199
                      · have tc_230 : (I_180 393 this).toInt ≠ 59 := fun q => c_198 (Int32.toInt_inj.mp q)
                        refine lv_iconst (v := 1) hx hb dX12_clause_182 (by decide) ?_
                        subst hQ
                        exact W.iret (v := 1) hx hb hr (fun t1 ht hW => ⟨⟨1, (σ, I_180, J_181, ri_182, rj, rq), rfl, ⟨I_180, J_181, ri_182, rfl, hG, (Or.inl (by decide)), (rg_w (rg_k (1 : Int32) 1 rfl) (by decide))⟩, by rw [ht]; exact hP, va_K.moved hW.alike hK, hD⟩, hS.F ht⟩) hS.2.2 dX12_clause_183
                    · have tc_231 : (x_178).toInt ≠ 0 := fun q => c_195 (Int32.toInt_inj.mp q)
                      have h_232 : rg x_178 1 2 := rg_ne c_195 hr_185 0 rfl (by decide)
                      have uh_232 := h_232.1
                      have vh_232 := h_232.2
                      refine lv_iload_n hx hb dX12_clause_171 rfl (lv_at hl 0 rfl) ?_
                      subst hQ
                      exact W.iret (v := x_178) hx hb hr (fun t1 ht hW => ⟨⟨x_178, (σ, I_180, J_181, ri_182, rj, rq), rfl, ⟨I_180, J_181, ri_182, rfl, hG, (Or.inl (by omega)), (rg_w h_232 (by decide))⟩, by rw [ht]; exact hP, va_K.moved hW.alike hK, hD⟩, hS.F ht⟩) hS.2.2 dX12_clause_172
                  · have tc_233 : (x_1).toInt = 8 := congrArg Int32.toInt c_173
                    have h_234 : rg x_1 8 8 := rg_and h_172 (rg_of_eq c_173 (rg_k (8 : Int32) 8 rfl)) (by decide)
                    have uh_234 := h_234.1
                    have vh_234 := h_234.2
                    refine lv_sipush (v := 599) hx hb dX12_clause_151 (by decide) ?_
                    refine lv_goto (tgt := 160) hx hb dX12_clause_154 (by decide) ?_
                    refine lv_iload_n hx hb dX12_clause_160 rfl (lv_at hl 1 rfl) ?_
                    refine lv_iconst (v := 1) hx hb dX12_clause_161 (by decide) ?_
                    refine lv_iadd hx hb dX12_clause_162 ?_
                    refine lv_topi (fun x_235 ex_235 => ?_)
                    have h_236 : rg x_235 3722 12050 := rg_of_eq ex_235 (rg_add h_146 (rg_k (1 : Int32) 1 rfl) (by decide))
                    have uh_236 := h_236.1
                    have vh_236 := h_236.2
                    have tx_235 : (x_235).toInt = (x_144).toInt + 1 := by rw [ex_235]; exact i_add_rg (a2 := (x_144).toInt) (b2 := 1) rfl rfl h_146 (rg_k (1 : Int32) 1 rfl) (by decide)
                    have t26 : (r_147 this_a 6).toInt = (ri this_a 6).toInt := congrArg Int32.toInt (hG.2.2.1 this_a hT_this_a 6 (by decide) (by decide))
                    refine pk_i (va_runV (As := [.int 599, .int x_235]) (rest := []) ⟨hx, hb, hml, hown, hts⟩ (s_X12_take l D t σ I_151 J_152 r_147 rj rq H.size tg hSH hG.1 this (599 : Int32) x_235 hL_this hK_this this_a hR_this_a hL_this_a hK_this_a hN_this_a hT_this_a (by omega)) (cwV 2 hts (tw_V tw_933 tw_934 tw_935 tw_5 tw_936) rfl rfl rfl cv_yX12_take_2 ⟨Nat.le_of_ble_eq_true rfl, Nat.le_of_ble_eq_true rfl⟩) ⟨pq_blind, pq_recv hK hP hL_this hK_this (by decide) rfl, pq_pre hK hN hP hD⟩ rfl rfl hl.1 rfl (lv_room (Nat.le_of_ble_eq_true rfl)) dX12_clause_163 ⟨Nat.le_of_ble_eq_true rfl, Nat.le_of_ble_eq_true rfl⟩) hD hS hA (fun x_237 σ1 μ1 H locs hw_238 hP hD hS => ?_)
                    obtain ⟨I_239, J_240, ri_241, hu_242, hg_243, hp_245, hp_246, hp_247, hr_244⟩ := hw_238
                    obtain ⟨hu_242a, hu_242b⟩ := Prod.mk.inj hu_242
                    rw [hu_242a, hu_242b] at hP hD
                    have tt_248 := hp_245
                    have hG := GM.tr hG hg_243 (by decide)
                    have tt_249 : (I_239 396 this).toInt = (I_151 396 this).toInt := by rw [hg_243.2.1 396 (by decide) (by decide)]
                    have tt_250 : (I_239 398 this).toInt = (I_151 398 this).toInt := by rw [hg_243.2.1 398 (by decide) (by decide)]
                    have tt_251 : (I_239 401 this).toInt = (I_151 401 this).toInt := by rw [hg_243.2.1 401 (by decide) (by decide)]
                    have tt_252 : (I_239 402 this).toInt = (I_151 402 this).toInt := by rw [hg_243.2.1 402 (by decide) (by decide)]
                    have tt_253 : (I_239 397 this).toInt = (I_151 397 this).toInt := by rw [hg_243.2.1 397 (by decide) (by decide)]
                    refine lv_istore_n (lv' := [(3, .int x_237), (2, .int x_144), (1, .int x_1), (0, .ref this)]) hx hb dX12_clause_166 rfl hl (by decide) rfl (fun ls hl => ?_)
                    refine lv_iload_n hx hb dX12_clause_167 rfl (lv_at hl 0 rfl) ?_
                    refine lv_if_eq (tgt := 173) hx hb dX12_clause_168 (by decide) (fun c_254 => ?_) (fun c_254 => ?_)
                    · have tc_255 : (x_237).toInt = 0 := congrArg Int32.toInt c_254
                      have h_256 : rg x_237 0 0 := rg_and hr_244 (rg_of_eq c_254 (rg_k (0 : Int32) 0 rfl)) (by decide)
                      have uh_256 := h_256.1
                      have vh_256 := h_256.2
                      clear tc_171
                      refine lv_aload_n hx hb dX12_clause_173 rfl (lv_at hl 3 rfl) ?_
                      refine pg_f (v := .int (I_239 393 this)) (C := RX12) (T := TX12) (N := 31) hx hb hts (tw_i inlX12) hown hK hP hL_this hK_this (by decide) rfl 9 (by decide) (hts _ (tw_c tw_831)) rfl dX12_clause_174 ?_
                      refine lv_bipush (v := 59) hx hb dX12_clause_177 (by decide) ?_
                      refine lv_icmp_eq (tgt := 184) hx hb dX12_clause_179 (by decide) (fun c_257 => ?_) (fun c_257 => ?_)
                      · have tc_258 : (I_239 393 this).toInt = 59 := congrArg Int32.toInt c_257
                        have h_259 : rg (I_239 393 this) 59 59 := rg_and (rg_full _) (rg_of_eq c_257 (rg_k (59 : Int32) 59 rfl)) (by decide)
                        have uh_259 := h_259.1
                        have vh_259 := h_259.2
                        refine lv_aload_n hx hb dX12_clause_184 rfl (lv_at hl 3 rfl) ?_
                        refine lv_dup hx hb dX12_clause_185 rfl ?_
                        refine pg_f (v := .int (I_239 397 this)) (C := RX12) (T := TX12) (N := 31) hx hb hts (tw_i inlX12) hown hK hP hL_this hK_this (by decide) rfl 13 (by decide) (hts _ (tw_c tw_822)) rfl dX12_clause_186 ?_
                        have h_260 : rg (I_239 397 this) 0 19 := (by rw [hg_243.2.1 397 (by decide) (by decide)]; exact (by rw [hg_154.2.1 397 (by decide) (by decide)]; exact h_141))
                        have uh_260 := h_260.1
                        have vh_260 := h_260.2
                        refine lv_iconst (v := 1) hx hb dX12_clause_189 (by decide) ?_
                        refine lv_iadd hx hb dX12_clause_190 ?_
                        refine lv_topi (fun x_261 ex_261 => ?_)
                        have h_262 : rg x_261 1 20 := rg_of_eq ex_261 (rg_add h_260 (rg_k (1 : Int32) 1 rfl) (by decide))
                        have uh_262 := h_262.1
                        have vh_262 := h_262.2
                        have tx_261 : (x_261).toInt = (I_239 397 this).toInt + 1 := by rw [ex_261]; exact i_add_rg (a2 := (I_239 397 this).toInt) (b2 := 1) rfl rfl h_260 (rg_k (1 : Int32) 1 rfl) (by decide)
                        refine pp_i (v := x_261) (ty := .int) (C := RX12) (T := TX12) (N := 31) hx hb hts (tw_i inlX12) tyX12 tyX12_ok nmX12 hown hK hP hD hS hL_this hK_this (by decide) rfl 13 397 (by decide) (hts _ (tw_c tw_822)) rfl (tyX12_ok 13 (by decide)) rfl rfl (Nat.le_of_ble_eq_true rfl) (ps_397 _ _ _ _ _) dX12_clause_191 (fun I_263 H locs eI_263 hP hD hS => ?_)
                        have hG := GM.wI hG 397 rfl eI_263 (rg_w h_262 (by decide)) (by decide)
                        have tt_264 : (I_263 396 this).toInt = (I_239 396 this).toInt := by rw [eI_263, pq_uf _ _ _ (by decide)]
                        have tt_265 : (I_263 398 this).toInt = (I_239 398 this).toInt := by rw [eI_263, pq_uf _ _ _ (by decide)]
                        have tt_266 : (I_263 401 this).toInt = (I_239 401 this).toInt := by rw [eI_263, pq_uf _ _ _ (by decide)]
                        have tt_267 : (I_263 402 this).toInt = (I_239 402 this).toInt := by rw [eI_263, pq_uf _ _ _ (by decide)]
                        have tt_268 : (I_263 391 this).toInt = (I_239 391 this).toInt := by rw [eI_263, pq_uf _ _ _ (by decide)]
                        have tt_269 : (I_263 393 this).toInt = (I_239 393 this).toInt := by rw [eI_263, pq_uf _ _ _ (by decide)]
                        have tt_270 : (I_263 403 this).toInt = (I_239 403 this).toInt := by rw [eI_263, pq_uf _ _ _ (by decide)]
                        have tt_271 : (I_263 397 this).toInt = (x_261).toInt := by rw [eI_263, pq_us]
                        refine lv_aload_n hx hb dX12_clause_194 rfl (lv_at hl 3 rfl) ?_
                        have hkn_272 : (I_263 393 this).toInt ≠ 0 := by omega
                        refine pk_v (va_runV (As := []) (rest := []) ⟨hx, hb, hml, hown, hts⟩ (s_X12_nextToken_x l D t σ I_263 J_240 ri_241 rj rq H.size tg hSH hG.1 this hL_this hK_this w_148 hR_w_148 hL_w_148 hK_w_148 hN_w_148 hT_w_148) (cwV 0 hts (tw_V tw_832 tw_833 tw_834 tw_5 tw_835) rfl rfl rfl cv_yX12_nextToken_0 ⟨Nat.le_of_ble_eq_true rfl, Nat.le_of_ble_eq_true rfl⟩) ⟨pq_blind, pq_recv hK hP hL_this hK_this (by decide) rfl, pq_pre hK hN hP hD⟩ rfl rfl hl.1 rfl (lv_room (Nat.le_of_ble_eq_true rfl)) dX12_clause_195 ⟨Nat.le_of_ble_eq_true rfl, Nat.le_of_ble_eq_true rfl⟩) hD hS hA (fun σ1 μ1 H locs hw_274 hP hD hS => ?_)
                        obtain ⟨I_275, J_276, hu_277, hg_278, hp_280, hp_281, hp_282⟩ := hw_274
                        obtain ⟨hu_277a, hu_277b⟩ := Prod.mk.inj hu_277
                        rw [hu_277a, hu_277b] at hP hD
                        have tt_283 : (I_275 391 this).toInt ≤ 300 := by have z := hg_278.1.1 391 this; exact z.2
                        have hG := GM.tr hG hg_278 (by decide)
                        have tt_284 : (I_275 396 this).toInt = (I_263 396 this).toInt := by rw [hg_278.2.1 396 (by decide) (by decide)]
                        have tt_285 : (I_275 398 this).toInt = (I_263 398 this).toInt := by rw [hg_278.2.1 398 (by decide) (by decide)]
                        have tt_286 : (I_275 401 this).toInt = (I_263 401 this).toInt := by rw [hg_278.2.1 401 (by decide) (by decide)]
                        have tt_287 : (I_275 402 this).toInt = (I_263 402 this).toInt := by rw [hg_278.2.1 402 (by decide) (by decide)]
                        have tt_288 : (I_275 397 this).toInt = (I_263 397 this).toInt := by rw [hg_278.2.1 397 (by decide) (by decide)]
                        refine lv_iconst (v := 0) hx hb dX12_clause_198 (by decide) ?_
                        subst hQ
                        exact W.iret (v := 0) hx hb hr (fun t1 ht hW => ⟨⟨0, (σ, I_275, J_276, ri_241, rj, rq), rfl, ⟨I_275, J_276, ri_241, rfl, hG, (Or.inr ⟨(CLz_mk (by rw [show ri_241 this_a 6 = ri this_a 6 from hG.2.2.1 this_a hT_this_a 6 (by decide) (by decide)]; omega) (by rw [show (I_275 397 this).toInt = (((I 397 this).toNatClampNeg + 1 : Nat) : Int) from by omega]; have q := TXQ_other (f := ri this_a) (w := (I 398 this).toInt) (n := (I 397 this).toNatClampNeg) (ci := (x_144).toNatClampNeg) (by rw [show (((I 397 this).toNatClampNeg : Nat) : Int) = (I 397 this).toInt from by omega]; exact hcl.2.1) (by omega) ⟨by omega, by omega⟩ (by omega) (by omega) ((congrFun er_147 _).trans (va_up_self _ _ _)) (by omega) (fun j hj => hp_246 j (by omega)); rw [show (I_275 398 this).toInt = (I 398 this).toInt from by omega]; exact q) (by omega) (by omega) (by omega) (fun q => by omega) (by omega)), (Int.lt_of_lt_of_le (tm_lt hkn_272 hp_280 hp_281) (tm_lec (Int.le_trans hp_247 htmH) (by omega) (by omega)))⟩), (rg_w (rg_k (0 : Int32) 0 rfl) (by decide))⟩, by rw [ht]; exact hP, va_K.moved hW.alike hK, hD⟩, hS.F ht⟩) hS.2.2 dX12_clause_199
                      · have tc_289 : (I_239 393 this).toInt ≠ 59 := fun q => c_257 (Int32.toInt_inj.mp q)
                        refine lv_iconst (v := 1) hx hb dX12_clause_182 (by decide) ?_
                        subst hQ
                        exact W.iret (v := 1) hx hb hr (fun t1 ht hW => ⟨⟨1, (σ, I_239, J_240, ri_241, rj, rq), rfl, ⟨I_239, J_240, ri_241, rfl, hG, (Or.inl (by decide)), (rg_w (rg_k (1 : Int32) 1 rfl) (by decide))⟩, by rw [ht]; exact hP, va_K.moved hW.alike hK, hD⟩, hS.F ht⟩) hS.2.2 dX12_clause_183
                    · have tc_290 : (x_237).toInt ≠ 0 := fun q => c_254 (Int32.toInt_inj.mp q)
                      have h_291 : rg x_237 1 2 := rg_ne c_254 hr_244 0 rfl (by decide)
                      have uh_291 := h_291.1
                      have vh_291 := h_291.2
                      refine lv_iload_n hx hb dX12_clause_171 rfl (lv_at hl 0 rfl) ?_
                      subst hQ
                      exact W.iret (v := x_237) hx hb hr (fun t1 ht hW => ⟨⟨x_237, (σ, I_239, J_240, ri_241, rj, rq), rfl, ⟨I_239, J_240, ri_241, rfl, hG, (Or.inl (by omega)), (rg_w h_291 (by decide))⟩, by rw [ht]; exact hP, va_K.moved hW.alike hK, hD⟩, hS.F ht⟩) hS.2.2 dX12_clause_172
                · have tc_292 : (x_1).toInt = 7 := congrArg Int32.toInt c_170
                  have h_293 : rg x_1 7 7 := rg_and h_169 (rg_of_eq c_170 (rg_k (7 : Int32) 7 rfl)) (by decide)
                  have uh_293 := h_293.1
                  have vh_293 := h_293.2
                  refine lv_bipush (v := 100) hx hb dX12_clause_140 (by decide) ?_
                  refine lv_goto (tgt := 160) hx hb dX12_clause_142 (by decide) ?_
                  refine lv_iload_n hx hb dX12_clause_160 rfl (lv_at hl 1 rfl) ?_
                  refine lv_iconst (v := 1) hx hb dX12_clause_161 (by decide) ?_
                  refine lv_iadd hx hb dX12_clause_162 ?_
                  refine lv_topi (fun x_294 ex_294 => ?_)
                  have h_295 : rg x_294 3722 12050 := rg_of_eq ex_294 (rg_add h_146 (rg_k (1 : Int32) 1 rfl) (by decide))
                  have uh_295 := h_295.1
                  have vh_295 := h_295.2
                  have tx_294 : (x_294).toInt = (x_144).toInt + 1 := by rw [ex_294]; exact i_add_rg (a2 := (x_144).toInt) (b2 := 1) rfl rfl h_146 (rg_k (1 : Int32) 1 rfl) (by decide)
                  have t26 : (r_147 this_a 6).toInt = (ri this_a 6).toInt := congrArg Int32.toInt (hG.2.2.1 this_a hT_this_a 6 (by decide) (by decide))
                  refine pk_i (va_runV (As := [.int 100, .int x_294]) (rest := []) ⟨hx, hb, hml, hown, hts⟩ (s_X12_take l D t σ I_151 J_152 r_147 rj rq H.size tg hSH hG.1 this (100 : Int32) x_294 hL_this hK_this this_a hR_this_a hL_this_a hK_this_a hN_this_a hT_this_a (by omega)) (cwV 2 hts (tw_V tw_933 tw_934 tw_935 tw_5 tw_936) rfl rfl rfl cv_yX12_take_2 ⟨Nat.le_of_ble_eq_true rfl, Nat.le_of_ble_eq_true rfl⟩) ⟨pq_blind, pq_recv hK hP hL_this hK_this (by decide) rfl, pq_pre hK hN hP hD⟩ rfl rfl hl.1 rfl (lv_room (Nat.le_of_ble_eq_true rfl)) dX12_clause_163 ⟨Nat.le_of_ble_eq_true rfl, Nat.le_of_ble_eq_true rfl⟩) hD hS hA (fun x_296 σ1 μ1 H locs hw_297 hP hD hS => ?_)
                  obtain ⟨I_298, J_299, ri_300, hu_301, hg_302, hp_304, hp_305, hp_306, hr_303⟩ := hw_297
                  obtain ⟨hu_301a, hu_301b⟩ := Prod.mk.inj hu_301
                  rw [hu_301a, hu_301b] at hP hD
                  have tt_307 := hp_304
                  have hG := GM.tr hG hg_302 (by decide)
                  have tt_308 : (I_298 396 this).toInt = (I_151 396 this).toInt := by rw [hg_302.2.1 396 (by decide) (by decide)]
                  have tt_309 : (I_298 398 this).toInt = (I_151 398 this).toInt := by rw [hg_302.2.1 398 (by decide) (by decide)]
                  have tt_310 : (I_298 401 this).toInt = (I_151 401 this).toInt := by rw [hg_302.2.1 401 (by decide) (by decide)]
                  have tt_311 : (I_298 402 this).toInt = (I_151 402 this).toInt := by rw [hg_302.2.1 402 (by decide) (by decide)]
                  have tt_312 : (I_298 397 this).toInt = (I_151 397 this).toInt := by rw [hg_302.2.1 397 (by decide) (by decide)]
                  refine lv_istore_n (lv' := [(3, .int x_296), (2, .int x_144), (1, .int x_1), (0, .ref this)]) hx hb dX12_clause_166 rfl hl (by decide) rfl (fun ls hl => ?_)
                  refine lv_iload_n hx hb dX12_clause_167 rfl (lv_at hl 0 rfl) ?_
                  refine lv_if_eq (tgt := 173) hx hb dX12_clause_168 (by decide) (fun c_313 => ?_) (fun c_313 => ?_)
                  · have tc_314 : (x_296).toInt = 0 := congrArg Int32.toInt c_313
                    have h_315 : rg x_296 0 0 := rg_and hr_303 (rg_of_eq c_313 (rg_k (0 : Int32) 0 rfl)) (by decide)
                    have uh_315 := h_315.1
                    have vh_315 := h_315.2
                    refine lv_aload_n hx hb dX12_clause_173 rfl (lv_at hl 3 rfl) ?_
                    refine pg_f (v := .int (I_298 393 this)) (C := RX12) (T := TX12) (N := 31) hx hb hts (tw_i inlX12) hown hK hP hL_this hK_this (by decide) rfl 9 (by decide) (hts _ (tw_c tw_831)) rfl dX12_clause_174 ?_
                    refine lv_bipush (v := 59) hx hb dX12_clause_177 (by decide) ?_
                    refine lv_icmp_eq (tgt := 184) hx hb dX12_clause_179 (by decide) (fun c_316 => ?_) (fun c_316 => ?_)
                    · have tc_317 : (I_298 393 this).toInt = 59 := congrArg Int32.toInt c_316
                      have h_318 : rg (I_298 393 this) 59 59 := rg_and (rg_full _) (rg_of_eq c_316 (rg_k (59 : Int32) 59 rfl)) (by decide)
                      have uh_318 := h_318.1
                      have vh_318 := h_318.2
                      refine lv_aload_n hx hb dX12_clause_184 rfl (lv_at hl 3 rfl) ?_
                      refine lv_dup hx hb dX12_clause_185 rfl ?_
                      refine pg_f (v := .int (I_298 397 this)) (C := RX12) (T := TX12) (N := 31) hx hb hts (tw_i inlX12) hown hK hP hL_this hK_this (by decide) rfl 13 (by decide) (hts _ (tw_c tw_822)) rfl dX12_clause_186 ?_
                      have h_319 : rg (I_298 397 this) 0 19 := (by rw [hg_302.2.1 397 (by decide) (by decide)]; exact (by rw [hg_154.2.1 397 (by decide) (by decide)]; exact h_141))
                      have uh_319 := h_319.1
                      have vh_319 := h_319.2
                      refine lv_iconst (v := 1) hx hb dX12_clause_189 (by decide) ?_
                      refine lv_iadd hx hb dX12_clause_190 ?_
                      refine lv_topi (fun x_320 ex_320 => ?_)
                      have h_321 : rg x_320 1 20 := rg_of_eq ex_320 (rg_add h_319 (rg_k (1 : Int32) 1 rfl) (by decide))
                      have uh_321 := h_321.1
                      have vh_321 := h_321.2
                      have tx_320 : (x_320).toInt = (I_298 397 this).toInt + 1 := by rw [ex_320]; exact i_add_rg (a2 := (I_298 397 this).toInt) (b2 := 1) rfl rfl h_319 (rg_k (1 : Int32) 1 rfl) (by decide)
                      refine pp_i (v := x_320) (ty := .int) (C := RX12) (T := TX12) (N := 31) hx hb hts (tw_i inlX12) tyX12 tyX12_ok nmX12 hown hK hP hD hS hL_this hK_this (by decide) rfl 13 397 (by decide) (hts _ (tw_c tw_822)) rfl (tyX12_ok 13 (by decide)) rfl rfl (Nat.le_of_ble_eq_true rfl) (ps_397 _ _ _ _ _) dX12_clause_191 (fun I_322 H locs eI_322 hP hD hS => ?_)
                      have hG := GM.wI hG 397 rfl eI_322 (rg_w h_321 (by decide)) (by decide)
                      have tt_323 : (I_322 396 this).toInt = (I_298 396 this).toInt := by rw [eI_322, pq_uf _ _ _ (by decide)]
                      have tt_324 : (I_322 398 this).toInt = (I_298 398 this).toInt := by rw [eI_322, pq_uf _ _ _ (by decide)]
                      have tt_325 : (I_322 401 this).toInt = (I_298 401 this).toInt := by rw [eI_322, pq_uf _ _ _ (by decide)]
                      have tt_326 : (I_322 402 this).toInt = (I_298 402 this).toInt := by rw [eI_322, pq_uf _ _ _ (by decide)]
                      have tt_327 : (I_322 391 this).toInt = (I_298 391 this).toInt := by rw [eI_322, pq_uf _ _ _ (by decide)]
                      have tt_328 : (I_322 393 this).toInt = (I_298 393 this).toInt := by rw [eI_322, pq_uf _ _ _ (by decide)]
                      have tt_329 : (I_322 403 this).toInt = (I_298 403 this).toInt := by rw [eI_322, pq_uf _ _ _ (by decide)]
                      have tt_330 : (I_322 397 this).toInt = (x_320).toInt := by rw [eI_322, pq_us]
                      refine lv_aload_n hx hb dX12_clause_194 rfl (lv_at hl 3 rfl) ?_
                      have hkn_331 : (I_322 393 this).toInt ≠ 0 := by omega
                      refine pk_v (va_runV (As := []) (rest := []) ⟨hx, hb, hml, hown, hts⟩ (s_X12_nextToken_x l D t σ I_322 J_299 ri_300 rj rq H.size tg hSH hG.1 this hL_this hK_this w_148 hR_w_148 hL_w_148 hK_w_148 hN_w_148 hT_w_148) (cwV 0 hts (tw_V tw_832 tw_833 tw_834 tw_5 tw_835) rfl rfl rfl cv_yX12_nextToken_0 ⟨Nat.le_of_ble_eq_true rfl, Nat.le_of_ble_eq_true rfl⟩) ⟨pq_blind, pq_recv hK hP hL_this hK_this (by decide) rfl, pq_pre hK hN hP hD⟩ rfl rfl hl.1 rfl (lv_room (Nat.le_of_ble_eq_true rfl)) dX12_clause_195 ⟨Nat.le_of_ble_eq_true rfl, Nat.le_of_ble_eq_true rfl⟩) hD hS hA (fun σ1 μ1 H locs hw_333 hP hD hS => ?_)
                      obtain ⟨I_334, J_335, hu_336, hg_337, hp_339, hp_340, hp_341⟩ := hw_333
                      obtain ⟨hu_336a, hu_336b⟩ := Prod.mk.inj hu_336
                      rw [hu_336a, hu_336b] at hP hD
                      have tt_342 : (I_334 391 this).toInt ≤ 300 := by have z := hg_337.1.1 391 this; exact z.2
                      have hG := GM.tr hG hg_337 (by decide)
                      have tt_343 : (I_334 396 this).toInt = (I_322 396 this).toInt := by rw [hg_337.2.1 396 (by decide) (by decide)]
                      have tt_344 : (I_334 398 this).toInt = (I_322 398 this).toInt := by rw [hg_337.2.1 398 (by decide) (by decide)]
                      have tt_345 : (I_334 401 this).toInt = (I_322 401 this).toInt := by rw [hg_337.2.1 401 (by decide) (by decide)]
                      have tt_346 : (I_334 402 this).toInt = (I_322 402 this).toInt := by rw [hg_337.2.1 402 (by decide) (by decide)]
                      have tt_347 : (I_334 397 this).toInt = (I_322 397 this).toInt := by rw [hg_337.2.1 397 (by decide) (by decide)]
                      refine lv_iconst (v := 0) hx hb dX12_clause_198 (by decide) ?_
                      subst hQ
                      exact W.iret (v := 0) hx hb hr (fun t1 ht hW => ⟨⟨0, (σ, I_334, J_335, ri_300, rj, rq), rfl, ⟨I_334, J_335, ri_300, rfl, hG, (Or.inr ⟨(CLz_mk (by rw [show ri_300 this_a 6 = ri this_a 6 from hG.2.2.1 this_a hT_this_a 6 (by decide) (by decide)]; omega) (by rw [show (I_334 397 this).toInt = (((I 397 this).toNatClampNeg + 1 : Nat) : Int) from by omega]; have q := TXQ_other (f := ri this_a) (w := (I 398 this).toInt) (n := (I 397 this).toNatClampNeg) (ci := (x_144).toNatClampNeg) (by rw [show (((I 397 this).toNatClampNeg : Nat) : Int) = (I 397 this).toInt from by omega]; exact hcl.2.1) (by omega) ⟨by omega, by omega⟩ (by omega) (by omega) ((congrFun er_147 _).trans (va_up_self _ _ _)) (by omega) (fun j hj => hp_305 j (by omega)); rw [show (I_334 398 this).toInt = (I 398 this).toInt from by omega]; exact q) (by omega) (by omega) (by omega) (fun q => by omega) (by omega)), (Int.lt_of_lt_of_le (tm_lt hkn_331 hp_339 hp_340) (tm_lec (Int.le_trans hp_306 htmH) (by omega) (by omega)))⟩), (rg_w (rg_k (0 : Int32) 0 rfl) (by decide))⟩, by rw [ht]; exact hP, va_K.moved hW.alike hK, hD⟩, hS.F ht⟩) hS.2.2 dX12_clause_199
                    · have tc_348 : (I_298 393 this).toInt ≠ 59 := fun q => c_316 (Int32.toInt_inj.mp q)
                      refine lv_iconst (v := 1) hx hb dX12_clause_182 (by decide) ?_
                      subst hQ
                      exact W.iret (v := 1) hx hb hr (fun t1 ht hW => ⟨⟨1, (σ, I_298, J_299, ri_300, rj, rq), rfl, ⟨I_298, J_299, ri_300, rfl, hG, (Or.inl (by decide)), (rg_w (rg_k (1 : Int32) 1 rfl) (by decide))⟩, by rw [ht]; exact hP, va_K.moved hW.alike hK, hD⟩, hS.F ht⟩) hS.2.2 dX12_clause_183
                  · have tc_349 : (x_296).toInt ≠ 0 := fun q => c_313 (Int32.toInt_inj.mp q)
                    have h_350 : rg x_296 1 2 := rg_ne c_313 hr_303 0 rfl (by decide)
                    have uh_350 := h_350.1
                    have vh_350 := h_350.2
                    refine lv_iload_n hx hb dX12_clause_171 rfl (lv_at hl 0 rfl) ?_
                    subst hQ
                    exact W.iret (v := x_296) hx hb hr (fun t1 ht hW => ⟨⟨x_296, (σ, I_298, J_299, ri_300, rj, rq), rfl, ⟨I_298, J_299, ri_300, rfl, hG, (Or.inl (by omega)), (rg_w h_350 (by decide))⟩, by rw [ht]; exact hP, va_K.moved hW.alike hK, hD⟩, hS.F ht⟩) hS.2.2 dX12_clause_172
              · have tc_351 : (x_1).toInt ≤ 6 := Int32.le_iff_toInt_le.mp (nlt c_167)
                have h_352 : rg x_1 5 6 := rg_le1 (nlt c_167) h_118 (rg_k (6 : Int32) 6 rfl) (by decide)
                have uh_352 := h_352.1
                have vh_352 := h_352.2
                refine lv_aload_n hx hb dX12_clause_124 rfl (lv_at hl 3 rfl) ?_
                refine lv_iload_n hx hb dX12_clause_125 rfl (lv_at hl 1 rfl) ?_
                have t26 : (r_147 this_a 6).toInt = (ri this_a 6).toInt := congrArg Int32.toInt (hG.2.2.1 this_a hT_this_a 6 (by decide) (by decide))
                refine pk_i (va_runV (As := [.int x_144]) (rest := []) ⟨hx, hb, hml, hown, hts⟩ (s_X12_keys l D t σ I_151 J_152 r_147 rj rq H.size tg hSH hG.1 this x_144 hL_this hK_this this_a hR_this_a hL_this_a hK_this_a hN_this_a hT_this_a (by omega)) (cwV 1 hts (tw_V tw_929 tw_930 tw_931 tw_5 tw_932) rfl rfl rfl cv_yX12_keys_1 ⟨Nat.le_of_ble_eq_true rfl, Nat.le_of_ble_eq_true rfl⟩) ⟨pq_blind, pq_recv hK hP hL_this hK_this (by decide) rfl, pq_pre hK hN hP hD⟩ rfl rfl hl.1 rfl (lv_room (Nat.le_of_ble_eq_true rfl)) dX12_clause_126 ⟨Nat.le_of_ble_eq_true rfl, Nat.le_of_ble_eq_true rfl⟩) hD hS hA (fun x_353 σ1 μ1 H locs hw_354 hP hD hS => ?_)
                obtain ⟨I_355, J_356, ri_357, hu_358, hg_359, hp_361, hp_362, hp_363, hr_360⟩ := hw_354
                obtain ⟨hu_358a, hu_358b⟩ := Prod.mk.inj hu_358
                rw [hu_358a, hu_358b] at hP hD
                have tt_364 := hp_361
                have hG := GM.tr hG hg_359 (by decide)
                have tt_365 : (I_355 396 this).toInt = (I_151 396 this).toInt := by rw [hg_359.2.1 396 (by decide) (by decide)]
                have tt_366 : (I_355 398 this).toInt = (I_151 398 this).toInt := by rw [hg_359.2.1 398 (by decide) (by decide)]
                have tt_367 : (I_355 401 this).toInt = (I_151 401 this).toInt := by rw [hg_359.2.1 401 (by decide) (by decide)]
                have tt_368 : (I_355 402 this).toInt = (I_151 402 this).toInt := by rw [hg_359.2.1 402 (by decide) (by decide)]
                have tt_369 : (I_355 397 this).toInt = (I_151 397 this).toInt := by rw [hg_359.2.1 397 (by decide) (by decide)]
                refine lv_istore_n (lv' := [(3, .int x_353), (2, .int x_144), (1, .int x_1), (0, .ref this)]) hx hb dX12_clause_129 rfl hl (by decide) rfl (fun ls hl => ?_)
                refine lv_goto (tgt := 167) hx hb dX12_clause_130 (by decide) ?_
                refine lv_iload_n hx hb dX12_clause_167 rfl (lv_at hl 0 rfl) ?_
                refine lv_if_eq (tgt := 173) hx hb dX12_clause_168 (by decide) (fun c_370 => ?_) (fun c_370 => ?_)
                · have tc_371 : (x_353).toInt = 0 := congrArg Int32.toInt c_370
                  have h_372 : rg x_353 0 0 := rg_and hr_360 (rg_of_eq c_370 (rg_k (0 : Int32) 0 rfl)) (by decide)
                  have uh_372 := h_372.1
                  have vh_372 := h_372.2
                  refine lv_aload_n hx hb dX12_clause_173 rfl (lv_at hl 3 rfl) ?_
                  refine pg_f (v := .int (I_355 393 this)) (C := RX12) (T := TX12) (N := 31) hx hb hts (tw_i inlX12) hown hK hP hL_this hK_this (by decide) rfl 9 (by decide) (hts _ (tw_c tw_831)) rfl dX12_clause_174 ?_
                  refine lv_bipush (v := 59) hx hb dX12_clause_177 (by decide) ?_
                  refine lv_icmp_eq (tgt := 184) hx hb dX12_clause_179 (by decide) (fun c_373 => ?_) (fun c_373 => ?_)
                  · have tc_374 : (I_355 393 this).toInt = 59 := congrArg Int32.toInt c_373
                    have h_375 : rg (I_355 393 this) 59 59 := rg_and (rg_full _) (rg_of_eq c_373 (rg_k (59 : Int32) 59 rfl)) (by decide)
                    have uh_375 := h_375.1
                    have vh_375 := h_375.2
                    refine lv_aload_n hx hb dX12_clause_184 rfl (lv_at hl 3 rfl) ?_
                    refine lv_dup hx hb dX12_clause_185 rfl ?_
                    refine pg_f (v := .int (I_355 397 this)) (C := RX12) (T := TX12) (N := 31) hx hb hts (tw_i inlX12) hown hK hP hL_this hK_this (by decide) rfl 13 (by decide) (hts _ (tw_c tw_822)) rfl dX12_clause_186 ?_
                    have h_376 : rg (I_355 397 this) 0 19 := (by rw [hg_359.2.1 397 (by decide) (by decide)]; exact (by rw [hg_154.2.1 397 (by decide) (by decide)]; exact h_141))
                    have uh_376 := h_376.1
                    have vh_376 := h_376.2
                    refine lv_iconst (v := 1) hx hb dX12_clause_189 (by decide) ?_
                    refine lv_iadd hx hb dX12_clause_190 ?_
                    refine lv_topi (fun x_377 ex_377 => ?_)
                    have h_378 : rg x_377 1 20 := rg_of_eq ex_377 (rg_add h_376 (rg_k (1 : Int32) 1 rfl) (by decide))
                    have uh_378 := h_378.1
                    have vh_378 := h_378.2
                    have tx_377 : (x_377).toInt = (I_355 397 this).toInt + 1 := by rw [ex_377]; exact i_add_rg (a2 := (I_355 397 this).toInt) (b2 := 1) rfl rfl h_376 (rg_k (1 : Int32) 1 rfl) (by decide)
                    refine pp_i (v := x_377) (ty := .int) (C := RX12) (T := TX12) (N := 31) hx hb hts (tw_i inlX12) tyX12 tyX12_ok nmX12 hown hK hP hD hS hL_this hK_this (by decide) rfl 13 397 (by decide) (hts _ (tw_c tw_822)) rfl (tyX12_ok 13 (by decide)) rfl rfl (Nat.le_of_ble_eq_true rfl) (ps_397 _ _ _ _ _) dX12_clause_191 (fun I_379 H locs eI_379 hP hD hS => ?_)
                    have hG := GM.wI hG 397 rfl eI_379 (rg_w h_378 (by decide)) (by decide)
                    have tt_380 : (I_379 396 this).toInt = (I_355 396 this).toInt := by rw [eI_379, pq_uf _ _ _ (by decide)]
                    have tt_381 : (I_379 398 this).toInt = (I_355 398 this).toInt := by rw [eI_379, pq_uf _ _ _ (by decide)]
                    have tt_382 : (I_379 401 this).toInt = (I_355 401 this).toInt := by rw [eI_379, pq_uf _ _ _ (by decide)]
                    have tt_383 : (I_379 402 this).toInt = (I_355 402 this).toInt := by rw [eI_379, pq_uf _ _ _ (by decide)]
                    have tt_384 : (I_379 391 this).toInt = (I_355 391 this).toInt := by rw [eI_379, pq_uf _ _ _ (by decide)]
                    have tt_385 : (I_379 393 this).toInt = (I_355 393 this).toInt := by rw [eI_379, pq_uf _ _ _ (by decide)]
                    have tt_386 : (I_379 403 this).toInt = (I_355 403 this).toInt := by rw [eI_379, pq_uf _ _ _ (by decide)]
                    have tt_387 : (I_379 397 this).toInt = (x_377).toInt := by rw [eI_379, pq_us]
                    refine lv_aload_n hx hb dX12_clause_194 rfl (lv_at hl 3 rfl) ?_
                    have hkn_388 : (I_379 393 this).toInt ≠ 0 := by omega
                    refine pk_v (va_runV (As := []) (rest := []) ⟨hx, hb, hml, hown, hts⟩ (s_X12_nextToken_x l D t σ I_379 J_356 ri_357 rj rq H.size tg hSH hG.1 this hL_this hK_this w_148 hR_w_148 hL_w_148 hK_w_148 hN_w_148 hT_w_148) (cwV 0 hts (tw_V tw_832 tw_833 tw_834 tw_5 tw_835) rfl rfl rfl cv_yX12_nextToken_0 ⟨Nat.le_of_ble_eq_true rfl, Nat.le_of_ble_eq_true rfl⟩) ⟨pq_blind, pq_recv hK hP hL_this hK_this (by decide) rfl, pq_pre hK hN hP hD⟩ rfl rfl hl.1 rfl (lv_room (Nat.le_of_ble_eq_true rfl)) dX12_clause_195 ⟨Nat.le_of_ble_eq_true rfl, Nat.le_of_ble_eq_true rfl⟩) hD hS hA (fun σ1 μ1 H locs hw_390 hP hD hS => ?_)
                    obtain ⟨I_391, J_392, hu_393, hg_394, hp_396, hp_397, hp_398⟩ := hw_390
                    obtain ⟨hu_393a, hu_393b⟩ := Prod.mk.inj hu_393
                    rw [hu_393a, hu_393b] at hP hD
                    have tt_399 : (I_391 391 this).toInt ≤ 300 := by have z := hg_394.1.1 391 this; exact z.2
                    have hG := GM.tr hG hg_394 (by decide)
                    have tt_400 : (I_391 396 this).toInt = (I_379 396 this).toInt := by rw [hg_394.2.1 396 (by decide) (by decide)]
                    have tt_401 : (I_391 398 this).toInt = (I_379 398 this).toInt := by rw [hg_394.2.1 398 (by decide) (by decide)]
                    have tt_402 : (I_391 401 this).toInt = (I_379 401 this).toInt := by rw [hg_394.2.1 401 (by decide) (by decide)]
                    have tt_403 : (I_391 402 this).toInt = (I_379 402 this).toInt := by rw [hg_394.2.1 402 (by decide) (by decide)]
                    have tt_404 : (I_391 397 this).toInt = (I_379 397 this).toInt := by rw [hg_394.2.1 397 (by decide) (by decide)]
                    refine lv_iconst (v := 0) hx hb dX12_clause_198 (by decide) ?_
                    subst hQ
                    exact W.iret (v := 0) hx hb hr (fun t1 ht hW => ⟨⟨0, (σ, I_391, J_392, ri_357, rj, rq), rfl, ⟨I_391, J_392, ri_357, rfl, hG, (Or.inr ⟨(CLz_mk (by rw [show ri_357 this_a 6 = ri this_a 6 from hG.2.2.1 this_a hT_this_a 6 (by decide) (by decide)]; omega) (by rw [show (I_391 397 this).toInt = (((I 397 this).toNatClampNeg + 1 : Nat) : Int) from by omega]; have q := TXQ_other (f := ri this_a) (w := (I 398 this).toInt) (n := (I 397 this).toNatClampNeg) (ci := (x_144).toNatClampNeg) (by rw [show (((I 397 this).toNatClampNeg : Nat) : Int) = (I 397 this).toInt from by omega]; exact hcl.2.1) (by omega) ⟨by omega, by omega⟩ (by omega) (by omega) ((congrFun er_147 _).trans (va_up_self _ _ _)) (by omega) (fun j hj => hp_362 j (by omega)); rw [show (I_391 398 this).toInt = (I 398 this).toInt from by omega]; exact q) (by omega) (by omega) (by omega) (fun q => by omega) (by omega)), (Int.lt_of_lt_of_le (tm_lt hkn_388 hp_396 hp_397) (tm_lec (Int.le_trans hp_363 htmH) (by omega) (by omega)))⟩), (rg_w (rg_k (0 : Int32) 0 rfl) (by decide))⟩, by rw [ht]; exact hP, va_K.moved hW.alike hK, hD⟩, hS.F ht⟩) hS.2.2 dX12_clause_199
                  · have tc_405 : (I_355 393 this).toInt ≠ 59 := fun q => c_373 (Int32.toInt_inj.mp q)
                    refine lv_iconst (v := 1) hx hb dX12_clause_182 (by decide) ?_
                    subst hQ
                    exact W.iret (v := 1) hx hb hr (fun t1 ht hW => ⟨⟨1, (σ, I_355, J_356, ri_357, rj, rq), rfl, ⟨I_355, J_356, ri_357, rfl, hG, (Or.inl (by decide)), (rg_w (rg_k (1 : Int32) 1 rfl) (by decide))⟩, by rw [ht]; exact hP, va_K.moved hW.alike hK, hD⟩, hS.F ht⟩) hS.2.2 dX12_clause_183
                · have tc_406 : (x_353).toInt ≠ 0 := fun q => c_370 (Int32.toInt_inj.mp q)
                  have h_407 : rg x_353 1 5 := rg_ne c_370 hr_360 0 rfl (by decide)
                  have uh_407 := h_407.1
                  have vh_407 := h_407.2
                  refine lv_iload_n hx hb dX12_clause_171 rfl (lv_at hl 0 rfl) ?_
                  subst hQ
                  exact W.iret (v := x_353) hx hb hr (fun t1 ht hW => ⟨⟨x_353, (σ, I_355, J_356, ri_357, rj, rq), rfl, ⟨I_355, J_356, ri_357, rfl, hG, (Or.inl (by omega)), (rg_w h_407 (by decide))⟩, by rw [ht]; exact hP, va_K.moved hW.alike hK, hD⟩, hS.F ht⟩) hS.2.2 dX12_clause_172
            · have tc_408 : (x_1).toInt ≤ 4 := Int32.le_iff_toInt_le.mp (nlt c_165)
              exact (rg_empty (rg_le1 (nlt c_165) h_118 (rg_k (4 : Int32) 4 rfl) (lo := 5) (hi := 4) (by decide)) (by decide)).elim
          · have tc_409 : (I 397 this).toInt = 20 := congrArg Int32.toInt c_124
            have h_410 : rg (I 397 this) 20 20 := rg_and h_123 (rg_of_eq c_124 (rg_k (20 : Int32) 20 rfl)) (by decide)
            have uh_410 := h_410.1
            have vh_410 := h_410.2
            refine lv_iconst (v := 5) hx hb dX12_clause_39 (by decide) ?_
            subst hQ
            exact W.iret (v := 5) hx hb hr (fun t1 ht hW => ⟨⟨5, (σ, I, J, ri, rj, rq), rfl, ⟨I, J, ri, rfl, hG, (Or.inl (by decide)), (rg_w (rg_k (5 : Int32) 5 rfl) (by decide))⟩, by rw [ht]; exact hP, va_K.moved hW.alike hK, hD⟩, hS.F ht⟩) hS.2.2 dX12_clause_40
        · have tc_411 : (x_120).toInt = 1 := congrArg Int32.toInt c_121
          have h_412 : rg x_120 1 1 := rg_and (rg_full _) (rg_of_eq c_121 (rg_k (1 : Int32) 1 rfl)) (by decide)
          have uh_412 := h_412.1
          have vh_412 := h_412.2
          refine lv_iconst (v := 4) hx hb dX12_clause_28 (by decide) ?_
          subst hQ
          exact W.iret (v := 4) hx hb hr (fun t1 ht hW => ⟨⟨4, (σ, I, J, ri, rj, rq), rfl, ⟨I, J, ri, rfl, hG, (Or.inl (by decide)), (rg_w (rg_k (4 : Int32) 4 rfl) (by decide))⟩, by rw [ht]; exact hP, va_K.moved hW.alike hK, hD⟩, hS.F ht⟩) hS.2.2 dX12_clause_29
    · have tc_413 : (x_1).toInt = 0 := congrArg Int32.toInt c_7
      have h_414 : rg x_1 0 0 := rg_and hr_5 (rg_of_eq c_7 (rg_k (0 : Int32) 0 rfl)) (by decide)
      have uh_414 := h_414.1
      have vh_414 := h_414.2
      refine lv_iconst (v := 1) hx hb dX12_clause_9 (by decide) ?_
      subst hQ
      exact W.iret (v := 1) hx hb hr (fun t1 ht hW => ⟨⟨1, (σ, I, J, ri, rj, rq), rfl, ⟨I, J, ri, rfl, hG, (Or.inl (by decide)), (rg_w (rg_k (1 : Int32) 1 rfl) (by decide))⟩, by rw [ht]; exact hP, va_K.moved hW.alike hK, hD⟩, hS.F ht⟩) hS.2.2 dX12_clause_10
  exact go _ _ _ hP hD hS hl
