theorem dX12_readText_0 : decode cX12_readText 0 = .ok (.aload_n 0, 1) := oc_42 (by decide +kernel)
theorem dX12_readText_1 : decode cX12_readText 1 = .ok (.sipush 3720, 3) := oc_17 (a := 14) (b := 136) (by decide +kernel)
theorem dX12_readText_4 : decode cX12_readText 4 = .ok (.sipush 900, 3) := oc_17 (a := 3) (b := 132) (by decide +kernel)
theorem dX12_readText_7 : decode cX12_readText 7 = .ok (.aload_n 0, 1) := oc_42 (by decide +kernel)
theorem dX12_readText_8 : decode cX12_readText 8 = .ok (.getfield 7, 3) := oc_180 (a := 0) (b := 7) (by decide +kernel)
theorem dX12_readText_11 : decode cX12_readText 11 = .ok (.bipush 6, 2) := oc_16 (a := 6) (by decide +kernel)
theorem dX12_readText_13 : decode cX12_readText 13 = .ok (.iaload, 1) := oc_46 (by decide +kernel)
theorem dX12_readText_14 : decode cX12_readText 14 = .ok (.imul, 1) := oc_104 (by decide +kernel)
theorem dX12_readText_15 : decode cX12_readText 15 = .ok (.iadd, 1) := oc_96 (by decide +kernel)
theorem dX12_readText_16 : decode cX12_readText 16 = .ok (.putfield 172, 3) := oc_181 (a := 0) (b := 172) (by decide +kernel)
theorem dX12_readText_19 : decode cX12_readText 19 = .ok (.aload_n 0, 1) := oc_42 (by decide +kernel)
theorem dX12_readText_20 : decode cX12_readText 20 = .ok (.iconst 0, 1) := oc_3 (by decide +kernel)
theorem dX12_readText_21 : decode cX12_readText 21 = .ok (.putfield 248, 3) := oc_181 (a := 0) (b := 248) (by decide +kernel)
theorem dX12_readText_24 : decode cX12_readText 24 = .ok (.aload_n 0, 1) := oc_42 (by decide +kernel)
theorem dX12_readText_25 : decode cX12_readText 25 = .ok (.iconst 0, 1) := oc_3 (by decide +kernel)
theorem dX12_readText_26 : decode cX12_readText 26 = .ok (.putfield 175, 3) := oc_181 (a := 0) (b := 175) (by decide +kernel)
theorem dX12_readText_29 : decode cX12_readText 29 = .ok (.aload_n 0, 1) := oc_42 (by decide +kernel)
theorem dX12_readText_30 : decode cX12_readText 30 = .ok (.iconst 0, 1) := oc_3 (by decide +kernel)
theorem dX12_readText_31 : decode cX12_readText 31 = .ok (.putfield 185, 3) := oc_181 (a := 0) (b := 185) (by decide +kernel)
theorem dX12_readText_34 : decode cX12_readText 34 = .ok (.aload_n 0, 1) := oc_42 (by decide +kernel)
theorem dX12_readText_35 : decode cX12_readText 35 = .ok (.iconst 0, 1) := oc_3 (by decide +kernel)
theorem dX12_readText_36 : decode cX12_readText 36 = .ok (.putfield 245, 3) := oc_181 (a := 0) (b := 245) (by decide +kernel)
theorem dX12_readText_39 : decode cX12_readText 39 = .ok (.aload_n 0, 1) := oc_42 (by decide +kernel)
theorem dX12_readText_40 : decode cX12_readText 40 = .ok (.iconst 0, 1) := oc_3 (by decide +kernel)
theorem dX12_readText_41 : decode cX12_readText 41 = .ok (.putfield 134, 3) := oc_181 (a := 0) (b := 134) (by decide +kernel)
theorem dX12_readText_44 : decode cX12_readText 44 = .ok (.aload_n 0, 1) := oc_42 (by decide +kernel)
theorem dX12_readText_45 : decode cX12_readText 45 = .ok (.invokevirtual 196, 3) := oc_182 (a := 0) (b := 196) (by decide +kernel)
theorem dX12_readText_48 : decode cX12_readText 48 = .ok (.aload_n 0, 1) := oc_42 (by decide +kernel)
theorem dX12_readText_49 : decode cX12_readText 49 = .ok (.getfield 143, 3) := oc_180 (a := 0) (b := 143) (by decide +kernel)
theorem dX12_readText_52 : decode cX12_readText 52 = .ok (.ifCond .eq 17, 3) := oc_153 (a := 0) (b := 17) (by decide +kernel)
theorem dX12_readText_69 : decode cX12_readText 69 = .ok (.iconst 0, 1) := oc_3 (by decide +kernel)
theorem dX12_readText_70 : decode cX12_readText 70 = .ok (.ireturn, 1) := oc_172 (by decide +kernel)
theorem dX12_readText_55 : decode cX12_readText 55 = .ok (.aload_n 0, 1) := oc_42 (by decide +kernel)
theorem tw_849 : Cond.methodLink RX12 260 yX12_clause ∈ wsL_law := sg_36 _ (List.mem_of_getElem? (i := 9) rfl)
theorem tw_850 : Cond.instanceMethod yX12_clause ∈ wsL_law := sg_36 _ (List.mem_of_getElem? (i := 10) rfl)
theorem tw_851 : Cond.selects RX12 yX12_clause yX12_clause ∈ wsL_law := sg_36 _ (List.mem_of_getElem? (i := 11) rfl)
theorem tw_852 : Cond.code yX12_clause cX12_clause 4 (some .int) ∈ wsL_law := sg_36 _ (List.mem_of_getElem? (i := 12) rfl)
theorem dX12_readText_56 : decode cX12_readText 56 = .ok (.invokevirtual 260, 3) := oc_182 (a := 1) (b := 4) (by decide +kernel)
theorem dX12_readText_59 : decode cX12_readText 59 = .ok (.istore_n 1, 1) := oc_60 (by decide +kernel)
theorem dX12_readText_60 : decode cX12_readText 60 = .ok (.iload_n 1, 1) := oc_27 (by decide +kernel)
theorem dX12_readText_61 : decode cX12_readText 61 = .ok (.ifCond .eq 5, 3) := oc_153 (a := 0) (b := 5) (by decide +kernel)
theorem dX12_readText_66 : decode cX12_readText 66 = .ok (.goto (-18), 3) := oc_167 (a := 255) (b := 238) (by decide +kernel)
theorem dX12_readText_64 : decode cX12_readText 64 = .ok (.iload_n 1, 1) := oc_27 (by decide +kernel)
theorem dX12_readText_65 : decode cX12_readText 65 = .ok (.ireturn, 1) := oc_172 (by decide +kernel)
theorem dX12_text_0 : decode cX12_text 0 = .ok (.aload_n 0, 1) := oc_42 (by decide +kernel)
theorem dX12_text_1 : decode cX12_text 1 = .ok (.getfield 7, 3) := oc_180 (a := 0) (b := 7) (by decide +kernel)
theorem dX12_text_4 : decode cX12_text 4 = .ok (.bipush 6, 2) := oc_16 (a := 6) (by decide +kernel)
theorem dX12_text_6 : decode cX12_text 6 = .ok (.iaload, 1) := oc_46 (by decide +kernel)
theorem dX12_text_7 : decode cX12_text 7 = .ok (.bipush 10, 2) := oc_16 (a := 10) (by decide +kernel)
theorem dX12_text_9 : decode cX12_text 9 = .ok (.if_icmp .ne 5, 3) := oc_160 (a := 0) (b := 5) (by decide +kernel)
theorem dX12_text_14 : decode cX12_text 14 = .ok (.aload_n 0, 1) := oc_42 (by decide +kernel)
theorem dX12_text_15 : decode cX12_text 15 = .ok (.aload_n 0, 1) := oc_42 (by decide +kernel)
theorem tw_823 : Cond.methodLink RX12 263 yX12_readText ∈ wsL_law := sg_35 _ (List.mem_of_getElem? (i := 7) rfl)
theorem tw_824 : Cond.instanceMethod yX12_readText ∈ wsL_law := sg_35 _ (List.mem_of_getElem? (i := 8) rfl)
theorem tw_825 : Cond.selects RX12 yX12_readText yX12_readText ∈ wsL_law := sg_35 _ (List.mem_of_getElem? (i := 9) rfl)
theorem tw_826 : Cond.code yX12_readText cX12_readText 2 (some .int) ∈ wsL_law := sg_35 _ (List.mem_of_getElem? (i := 10) rfl)
theorem dX12_text_16 : decode cX12_text 16 = .ok (.invokevirtual 263, 3) := oc_182 (a := 1) (b := 7) (by decide +kernel)
theorem tw_180 : Cond.fieldLink RX12 22 "RingsUnderModel" "fault" "I" ∈ wsL_law := sg_8 _ (List.mem_of_getElem? (i := 12) rfl)
theorem dX12_text_19 : decode cX12_text 19 = .ok (.putfield 22, 3) := oc_181 (a := 0) (b := 22) (by decide +kernel)
theorem dX12_text_22 : decode cX12_text 22 = .ok (.aload_n 0, 1) := oc_42 (by decide +kernel)
theorem dX12_text_23 : decode cX12_text 23 = .ok (.aload_n 0, 1) := oc_42 (by decide +kernel)
theorem dX12_text_24 : decode cX12_text 24 = .ok (.getfield 22, 3) := oc_180 (a := 0) (b := 22) (by decide +kernel)
theorem dX12_text_27 : decode cX12_text 27 = .ok (.ifCond .ne 7, 3) := oc_154 (a := 0) (b := 7) (by decide +kernel)
theorem dX12_text_34 : decode cX12_text 34 = .ok (.aload_n 0, 1) := oc_42 (by decide +kernel)
theorem dX12_text_35 : decode cX12_text 35 = .ok (.getfield 140, 3) := oc_180 (a := 0) (b := 140) (by decide +kernel)
theorem tw_181 : Cond.fieldLink RX12 26 "RingsUnderModel" "faultPlace" "I" ∈ wsL_law := sg_8 _ (List.mem_of_getElem? (i := 13) rfl)
theorem dX12_text_38 : decode cX12_text 38 = .ok (.putfield 26, 3) := oc_181 (a := 0) (b := 26) (by decide +kernel)
theorem dX12_text_41 : decode cX12_text 41 = .ok (.aload_n 0, 1) := oc_42 (by decide +kernel)
theorem dX12_text_42 : decode cX12_text 42 = .ok (.iconst 0, 1) := oc_3 (by decide +kernel)
theorem dX12_text_43 : decode cX12_text 43 = .ok (.putfield 127, 3) := oc_181 (a := 0) (b := 127) (by decide +kernel)
theorem dX12_text_46 : decode cX12_text 46 = .ok (.aload_n 0, 1) := oc_42 (by decide +kernel)
theorem dX12_text_47 : decode cX12_text 47 = .ok (.getfield 22, 3) := oc_180 (a := 0) (b := 22) (by decide +kernel)
theorem dX12_text_50 : decode cX12_text 50 = .ok (.ifCond .eq 5, 3) := oc_153 (a := 0) (b := 5) (by decide +kernel)
theorem dX12_text_53 : decode cX12_text 53 = .ok (.iconst (-1), 1) := oc_2 (by decide +kernel)
theorem dX12_text_54 : decode cX12_text 54 = .ok (.ireturn, 1) := oc_172 (by decide +kernel)
theorem dX12_text_30 : decode cX12_text 30 = .ok (.iconst (-1), 1) := oc_2 (by decide +kernel)
theorem dX12_text_31 : decode cX12_text 31 = .ok (.goto 7, 3) := oc_167 (a := 0) (b := 7) (by decide +kernel)
theorem dX12_text_55 : decode cX12_text 55 = .ok (.aload_n 0, 1) := oc_42 (by decide +kernel)
theorem dX12_text_56 : decode cX12_text 56 = .ok (.getfield 7, 3) := oc_180 (a := 0) (b := 7) (by decide +kernel)
theorem dX12_text_59 : decode cX12_text 59 = .ok (.aload_n 0, 1) := oc_42 (by decide +kernel)
theorem dX12_text_60 : decode cX12_text 60 = .ok (.getfield 172, 3) := oc_180 (a := 0) (b := 172) (by decide +kernel)
theorem dX12_text_63 : decode cX12_text 63 = .ok (.aload_n 0, 1) := oc_42 (by decide +kernel)
theorem dX12_text_64 : decode cX12_text 64 = .ok (.getfield 248, 3) := oc_180 (a := 0) (b := 248) (by decide +kernel)
theorem dX12_text_67 : decode cX12_text 67 = .ok (.iastore, 1) := oc_79 (by decide +kernel)
theorem dX12_text_68 : decode cX12_text 68 = .ok (.aload_n 0, 1) := oc_42 (by decide +kernel)
theorem dX12_text_69 : decode cX12_text 69 = .ok (.getfield 7, 3) := oc_180 (a := 0) (b := 7) (by decide +kernel)
theorem dX12_text_72 : decode cX12_text 72 = .ok (.bipush 6, 2) := oc_16 (a := 6) (by decide +kernel)
theorem dX12_text_74 : decode cX12_text 74 = .ok (.dup2, 1) := oc_92 (by decide +kernel)
theorem dX12_text_75 : decode cX12_text 75 = .ok (.iaload, 1) := oc_46 (by decide +kernel)
theorem dX12_text_76 : decode cX12_text 76 = .ok (.iconst 1, 1) := oc_4 (by decide +kernel)
theorem dX12_text_77 : decode cX12_text 77 = .ok (.iadd, 1) := oc_96 (by decide +kernel)
theorem dX12_text_78 : decode cX12_text 78 = .ok (.iastore, 1) := oc_79 (by decide +kernel)
theorem dX12_text_79 : decode cX12_text 79 = .ok (.aload_n 0, 1) := oc_42 (by decide +kernel)
theorem dX12_text_80 : decode cX12_text 80 = .ok (.getfield 7, 3) := oc_180 (a := 0) (b := 7) (by decide +kernel)
theorem dX12_text_83 : decode cX12_text 83 = .ok (.bipush 6, 2) := oc_16 (a := 6) (by decide +kernel)
theorem dX12_text_85 : decode cX12_text 85 = .ok (.iaload, 1) := oc_46 (by decide +kernel)
theorem dX12_text_86 : decode cX12_text 86 = .ok (.iconst 1, 1) := oc_4 (by decide +kernel)
theorem dX12_text_87 : decode cX12_text 87 = .ok (.isub, 1) := oc_100 (by decide +kernel)
theorem dX12_text_88 : decode cX12_text 88 = .ok (.ireturn, 1) := oc_172 (by decide +kernel)
theorem dX12_text_12 : decode cX12_text 12 = .ok (.iconst (-1), 1) := oc_2 (by decide +kernel)
theorem dX12_text_13 : decode cX12_text 13 = .ok (.ireturn, 1) := oc_172 (by decide +kernel)
set_option maxRecDepth 100000 in
def g_X12_readText_L48 (rj : Nat → Nat → Int64) (rq : Nat → Nat → Option Nat) : Nat → (Nat → Int32) → (Nat → Int64) → (Nat → Nat → Int32) → Int32 × vM
  | 0, I_157, J_158, ri_159 => ((0 : Int32), I_157, J_158, ri_159, rj, rq)
  | n_184 + 1, I_157, J_158, ri_159 => (ap1 (I_157 393) fun (y_189 : Int32) => (if (y_189) = (0 : Int32) then ((0 : Int32), I_157, J_158, ri_159, rj, rq) else (bnI (g_X12_clause I_157 J_158 ri_159 rj rq) fun (x_197 : Int32) (I_199 : Nat → Int32) (J_200 : Nat → Int64) (ri_201 : Nat → Nat → Int32) (_ : Nat → Nat → Int64) (_ : Nat → Nat → Option Nat) => (if x_197 = (0 : Int32) then ((g_X12_readText_L48 rj rq n_184) I_199 J_200 ri_201) else (x_197, I_199, J_200, ri_201, rj, rq)))))
set_option maxRecDepth 100000 in
theorem g_X12_readText_L48_e {rj : Nat → Nat → Int64} {rq : Nat → Nat → Option Nat} {n_184 : Nat} {I_157 : Nat → Int32} {J_158 : Nat → Int64} {ri_159 : Nat → Nat → Int32} : g_X12_readText_L48 rj rq (n_184 + 1) I_157 J_158 ri_159 = (ap1 (I_157 393) fun (y_189 : Int32) => (if (y_189) = (0 : Int32) then ((0 : Int32), I_157, J_158, ri_159, rj, rq) else (bnI (g_X12_clause I_157 J_158 ri_159 rj rq) fun (x_197 : Int32) (I_199 : Nat → Int32) (J_200 : Nat → Int64) (ri_201 : Nat → Nat → Int32) (_ : Nat → Nat → Int64) (_ : Nat → Nat → Option Nat) => (if x_197 = (0 : Int32) then ((g_X12_readText_L48 rj rq n_184) I_199 J_200 ri_201) else (x_197, I_199, J_200, ri_201, rj, rq))))) := rfl
set_option maxRecDepth 100000 in
def g_X12_readText (I : Nat → Int32) (J : Nat → Int64) (ri : Nat → Nat → Int32) (rj : Nat → Nat → Int64) (rq : Nat → Nat → Option Nat) : Int32 × vM := (ap1 (ri 384 6) fun (y_1 : Int32) => (ap1 ((900 : Int32) * (y_1)) fun (x_2 : Int32) => (ap1 ((3720 : Int32) + x_2) fun (x_4 : Int32) => (ap1 (va_up I 396 x_4) fun (I_6 : Nat → Int32) => (ap1 (va_up I_6 397 (0 : Int32)) fun (I_15 : Nat → Int32) => (ap1 (va_up I_15 398 (0 : Int32)) fun (I_24 : Nat → Int32) => (ap1 (va_up I_24 402 (0 : Int32)) fun (I_33 : Nat → Int32) => (ap1 (va_up I_33 399 (0 : Int32)) fun (I_42 : Nat → Int32) => (ap1 (va_up I_42 391 (0 : Int32)) fun (I_51 : Nat → Int32) => (bnV (g_X12_nextToken_x I_51 J ri rj rq) fun (I_63 : Nat → Int32) (J_64 : Nat → Int64) (_ : Nat → Nat → Int32) (_ : Nat → Nat → Int64) (_ : Nat → Nat → Option Nat) => (ap1 (I_63 391) fun (y_218 : Int32) => (ap1 (I_63 393) fun (y_219 : Int32) => (g_X12_readText_L48 rj rq ((tmM (y_218).toInt (y_219).toInt).toNat + 1) I_63 J_64 ri)))))))))))))
set_option maxRecDepth 100000 in
theorem g_X12_readText_e {I : Nat → Int32} {J : Nat → Int64} {ri : Nat → Nat → Int32} {rj : Nat → Nat → Int64} {rq : Nat → Nat → Option Nat} : g_X12_readText I J ri rj rq = (ap1 (ri 384 6) fun (y_1 : Int32) => (ap1 ((900 : Int32) * (y_1)) fun (x_2 : Int32) => (ap1 ((3720 : Int32) + x_2) fun (x_4 : Int32) => (ap1 (va_up I 396 x_4) fun (I_6 : Nat → Int32) => (ap1 (va_up I_6 397 (0 : Int32)) fun (I_15 : Nat → Int32) => (ap1 (va_up I_15 398 (0 : Int32)) fun (I_24 : Nat → Int32) => (ap1 (va_up I_24 402 (0 : Int32)) fun (I_33 : Nat → Int32) => (ap1 (va_up I_33 399 (0 : Int32)) fun (I_42 : Nat → Int32) => (ap1 (va_up I_42 391 (0 : Int32)) fun (I_51 : Nat → Int32) => (bnV (g_X12_nextToken_x I_51 J ri rj rq) fun (I_63 : Nat → Int32) (J_64 : Nat → Int64) (_ : Nat → Nat → Int32) (_ : Nat → Nat → Int64) (_ : Nat → Nat → Option Nat) => (ap1 (I_63 391) fun (y_218 : Int32) => (ap1 (I_63 393) fun (y_219 : Int32) => (g_X12_readText_L48 rj rq ((tmM (y_218).toInt (y_219).toInt).toNat + 1) I_63 J_64 ri))))))))))))) := rfl
set_option maxHeartbeats 4000000 in
set_option maxRecDepth 100000 in
theorem s_X12_readText (l : Launch) (D : va_G) (t : pq_T) (σ : pq_S) (I : Nat → Nat → Int32) (J : Nat → Nat → Int64) (ri : Nat → Nat → Int32) (rj : Nat → Nat → Int64) (rq : Nat → Nat → Option Nat) (sz : Nat) (tg : Nat → Nat) (hSH : SH σ tg) (hG0 : GT tg I ri) (this : Nat) (hL_this : this ∈ σ.1) (hK_this : σ.2.1 this = 12) (this_a : Nat) (hR_this_a : σ.2.2.1 384 this = some this_a) (hL_this_a : this_a ∈ σ.1) (hK_this_a : σ.2.1 this_a = 13) (hN_this_a : σ.2.2.2 this_a = 12720) (hT_this_a : tg this_a = 384) (this_pile : Nat) (hR_this_pile : σ.2.2.1 400 this = some this_pile) (hL_this_pile : this_pile ∈ σ.1) (hK_this_pile : σ.2.1 this_pile = 13) (hN_this_pile : σ.2.2.2 this_pile = 160) (hT_this_pile : tg this_pile = 400) (h69 : (ri this_a 6).toInt ≤ 9) : MetI l yX12_readText (wa yX12_readText cX12_readText 2 (some .int)) ({ frames := 9, cells := 0, slots := 0, locals := 202 }) [.ref this] D t σ (I, J, ri, rj, rq) sz 0 0 (fun (r : Int32) (u : pq_S × pq_M) => ∃ I' : Nat → Nat → Int32, ∃ J' : Nat → Nat → Int64, ∃ ri' : Nat → Nat → Int32, u = (σ, I', J', ri', rj, rq) ∧ GM [396, 397, 398, 402, 391, 392, 393, 1910, 1912, 401, 1930, 1931, 1913, 1911, 1914, 1915, 1916, 1917, 1918] tg σ I ri I' ri' rq ∧ (r.toInt ≠ 0 ∨ CLz (I' 396 this).toInt (I' 398 this).toInt (I' 402 this).toInt (I' 391 this).toInt (I' 393 this).toInt (I' 397 this).toInt (ri' this_a)) ∧ g_X12_readText (vI 12 σ this I) (vJ 12 σ this J) (vR 12 σ this ri) (vL 12 σ this rj) (vQ 12 σ this rq) = (r, (vI 12 σ this I'), (vJ 12 σ this J'), (vR 12 σ this ri'), (vL 12 σ this rj), (vQ 12 σ this rq)) ∧ FR 12 tg σ this (I, J, ri, rj, rq) (I', J', ri', rj, rq) ∧ rg r 0 5) := by
  refine Met.ofW (cc := cX12_readText) (maxL := 2) (ret := (some .int)) (by decide) rfl ?_
  intro p e s m args below meth c s₁ B hml hv
  obtain ⟨rfl, hsz, hP, hK, hD0, hN⟩ := hv
  have hx := B.exec
  have hb := B.bytes
  have hr := B.returns
  have hts := atoms_spec (ws := (wa yX12_readText cX12_readText 2 (some .int))) B.pre
  have hown : s.vm.findClass RX12 = some m.cls := findClass_of_methodNamed B.named
  have hlocks := B.notSynchronized
  subst hsz
  have hD : va_D (pq_B t σ (I, J, ri, rj, rq) s.heap.size) (pq_P t σ (I, J, ri, rj, rq)) := hD0.self
  generalize hAe : pq_B t σ (I, J, ri, rj, rq) s.heap.size = A at hD ⊢
  have hA : ∀ q : Nat, s.heap.size ≤ q → A q := fun q h => by rw [← hAe]; exact Or.inr h
  have hS : va_S A s.heap s.heap [] := va_S.rf
  have hG : GM [396, 397, 398, 402, 391, 392, 393, 1910, 1912, 401, 1930, 1931, 1913, 1911, 1914, 1915, 1916, 1917, 1918] tg σ I ri I ri rq := ⟨hG0, fun _ _ _ => rfl, fun _ _ _ _ _ => rfl, fun _ _ _ _ _ _ => rfl⟩
  have hl := lv_entry ([.ref this]) (n := 2) (Nat.le_of_ble_eq_true rfl)
  rw [lg_entry_eq]
  generalize (lg_sl ([.ref this]) ++ List.replicate (2 - (lg_sl ([.ref this])).length) Slot.unset).toArray = ls at hl ⊢
  have hl : lv_has ls 2 [(0, .ref this)] := hl
  refine q_gen (fun Q hQ => ?_)
  have go : ∀ (H : Heap) (locs : List Loc) (ls : Array Slot), va_P D vwCl (pq_P t σ (I, J, ri, rj, rq)) H → va_D A (pq_P t σ (I, J, ri, rj, rq)) → va_S A s.heap H locs → lv_has ls 2 [(0, .ref this)] → W p l e ({ frames := 9, cells := 0, slots := 0, locals := 202 } : Room) s m (List.toArray ([.ref this] : List Value)) below meth c H locs 0 0 Q (F0 m 0 ls []) := by
    intro H locs ls hP hD hS hl
    have hO_this : this = vo σ 12 this := rfl
    have hVT : VT 12 σ tg this := vt_12 hSH hL_this hK_this
    have hFr : FR 12 tg σ this (I, J, ri, rj, rq) (I, J, ri, rj, rq) := fr_rf
    have hO_this_a : this_a = vrow σ 384 this := vo_k (c := 12) hO_this hR_this_a
    have hO_this_pile : this_pile = vrow σ 400 this := vo_k (c := 12) hO_this hR_this_pile
    obtain ⟨F, hF0⟩ : ∃ F, F = g_X12_readText (vI 12 σ this I) (vJ 12 σ this J) (vR 12 σ this ri) (vL 12 σ this rj) (vQ 12 σ this rq) := ⟨_, rfl⟩
    have hF := hF0.trans g_X12_readText_e
    have h60 := (GM.z0 hG0 (q := this_a) (by rw [hT_this_a]; decide) (i := 6) (k := 6) (lo := 0) (hi := 10) (by decide) rfl).1
    refine lv_aload_n hx hb dX12_readText_0 rfl (lv_at hl 0 rfl) ?_
    refine lv_sipush (v := 3720) hx hb dX12_readText_1 (by decide) ?_
    refine lv_sipush (v := 900) hx hb dX12_readText_4 (by decide) ?_
    refine lv_aload_n hx hb dX12_readText_7 rfl (lv_at hl 0 rfl) ?_
    refine pg_f (v := .ref this_a) (C := RX12) (T := TX12) (N := 31) hx hb hts (tw_i inlX12) hown hK hP hL_this hK_this (by decide) rfl 0 (by decide) (hts _ (tw_c tw_176)) (pq_hv rfl hR_this_a) dX12_readText_8 ?_
    refine lv_bipush (v := 6) hx hb dX12_readText_11 (by decide) ?_
    refine pl_i hx hb hK hP hL_this_a hK_this_a hN_this_a (vp_in_iff.mpr (by decide)) dX12_readText_13 ?_
    refine lv_tov (ri this_a 6) rfl ?_
    replace hF := hF.trans (ap_n (vR_r hO_this_a (by decide) rfl))
    refine lv_imul hx hb dX12_readText_14 ?_
    refine lv_topi (fun x_2 ex_2 => ?_)
    replace hF := hF.trans (ap_n ex_2)
    have h_3 : rg x_2 0 8100 := rg_of_eq ex_2 (rg_mul (rg_k (900 : Int32) 900 rfl) ⟨h60, h69⟩ (by decide))
    have uh_3 := h_3.1
    have vh_3 := h_3.2
    have tx_2 : (x_2).toInt = 900 * (ri this_a 6).toInt := by rw [ex_2]; exact i_mul_rg (a2 := 900) (b2 := (ri this_a 6).toInt) rfl rfl (rg_k (900 : Int32) 900 rfl) ⟨h60, h69⟩ (by decide)
    refine lv_iadd hx hb dX12_readText_15 ?_
    refine lv_topi (fun x_4 ex_4 => ?_)
    replace hF := hF.trans (ap_n ex_4)
    have h_5 : rg x_4 3720 11820 := rg_of_eq ex_4 (rg_add (rg_k (3720 : Int32) 3720 rfl) h_3 (by decide))
    have uh_5 := h_5.1
    have vh_5 := h_5.2
    have tx_4 : (x_4).toInt = 3720 + (x_2).toInt := by rw [ex_4]; exact i_add_rg (a2 := 3720) (b2 := (x_2).toInt) rfl rfl (rg_k (3720 : Int32) 3720 rfl) h_3 (by decide)
    refine pp_i (v := x_4) (ty := .int) (C := RX12) (T := TX12) (N := 31) hx hb hts (tw_i inlX12) tyX12 tyX12_ok nmX12 hown hK hP hD hS hL_this hK_this (by decide) rfl 12 396 (by decide) (hts _ (tw_c tw_821)) rfl (tyX12_ok 12 (by decide)) rfl rfl (Nat.le_of_ble_eq_true rfl) (ps_396 _ _ _ _ _) dX12_readText_16 (fun I_6 H locs eI_6 hP hD hS => ?_)
    replace hFr := fr_I (f := 396) hFr hO_this (by decide) eI_6
    replace hF := hF.trans (ap_n (vI_st (f := 396) hO_this (by decide) eI_6))
    have hG := GM.wI hG 396 rfl eI_6 (rg_w h_5 (by decide)) (by decide)
    have tt_7 : (I_6 396 this).toInt = (x_4).toInt := by rw [eI_6, pq_us]
    have tt_8 : (I_6 398 this).toInt = (I 398 this).toInt := by rw [eI_6, pq_uf _ _ _ (by decide)]
    have tt_9 : (I_6 401 this).toInt = (I 401 this).toInt := by rw [eI_6, pq_uf _ _ _ (by decide)]
    have tt_10 : (I_6 402 this).toInt = (I 402 this).toInt := by rw [eI_6, pq_uf _ _ _ (by decide)]
    have tt_11 : (I_6 391 this).toInt = (I 391 this).toInt := by rw [eI_6, pq_uf _ _ _ (by decide)]
    have tt_12 : (I_6 393 this).toInt = (I 393 this).toInt := by rw [eI_6, pq_uf _ _ _ (by decide)]
    have tt_13 : (I_6 403 this).toInt = (I 403 this).toInt := by rw [eI_6, pq_uf _ _ _ (by decide)]
    have tt_14 : (I_6 397 this).toInt = (I 397 this).toInt := by rw [eI_6, pq_uf _ _ _ (by decide)]
    refine lv_aload_n hx hb dX12_readText_19 rfl (lv_at hl 0 rfl) ?_
    refine lv_iconst (v := 0) hx hb dX12_readText_20 (by decide) ?_
    refine pp_i (v := 0) (ty := .int) (C := RX12) (T := TX12) (N := 31) hx hb hts (tw_i inlX12) tyX12 tyX12_ok nmX12 hown hK hP hD hS hL_this hK_this (by decide) rfl 13 397 (by decide) (hts _ (tw_c tw_822)) rfl (tyX12_ok 13 (by decide)) rfl rfl (Nat.le_of_ble_eq_true rfl) (ps_397 _ _ _ _ _) dX12_readText_21 (fun I_15 H locs eI_15 hP hD hS => ?_)
    replace hFr := fr_I (f := 397) hFr hO_this (by decide) eI_15
    replace hF := hF.trans (ap_n (vI_st (f := 397) hO_this (by decide) eI_15))
    have hG := GM.wI hG 397 rfl eI_15 (rg_w (rg_k (0 : Int32) 0 rfl) (by decide)) (by decide)
    have tt_16 : (I_15 396 this).toInt = (I_6 396 this).toInt := by rw [eI_15, pq_uf _ _ _ (by decide)]
    have tt_17 : (I_15 398 this).toInt = (I_6 398 this).toInt := by rw [eI_15, pq_uf _ _ _ (by decide)]
    have tt_18 : (I_15 401 this).toInt = (I_6 401 this).toInt := by rw [eI_15, pq_uf _ _ _ (by decide)]
    have tt_19 : (I_15 402 this).toInt = (I_6 402 this).toInt := by rw [eI_15, pq_uf _ _ _ (by decide)]
    have tt_20 : (I_15 391 this).toInt = (I_6 391 this).toInt := by rw [eI_15, pq_uf _ _ _ (by decide)]
    have tt_21 : (I_15 393 this).toInt = (I_6 393 this).toInt := by rw [eI_15, pq_uf _ _ _ (by decide)]
    have tt_22 : (I_15 403 this).toInt = (I_6 403 this).toInt := by rw [eI_15, pq_uf _ _ _ (by decide)]
    have tt_23 : (I_15 397 this).toInt = 0 := by rw [eI_15, pq_us]; rfl
    refine lv_aload_n hx hb dX12_readText_24 rfl (lv_at hl 0 rfl) ?_
    refine lv_iconst (v := 0) hx hb dX12_readText_25 (by decide) ?_
    refine pp_i (v := 0) (ty := .int) (C := RX12) (T := TX12) (N := 31) hx hb hts (tw_i inlX12) tyX12 tyX12_ok nmX12 hown hK hP hD hS hL_this hK_this (by decide) rfl 14 398 (by decide) (hts _ (tw_c tw_827)) rfl (tyX12_ok 14 (by decide)) rfl rfl (Nat.le_of_ble_eq_true rfl) (ps_398 _ _ _ _ _) dX12_readText_26 (fun I_24 H locs eI_24 hP hD hS => ?_)
    replace hFr := fr_I (f := 398) hFr hO_this (by decide) eI_24
    replace hF := hF.trans (ap_n (vI_st (f := 398) hO_this (by decide) eI_24))
    have hG := GM.wI hG 398 rfl eI_24 (rg_w (rg_k (0 : Int32) 0 rfl) (by decide)) (by decide)
    have tt_25 : (I_24 396 this).toInt = (I_15 396 this).toInt := by rw [eI_24, pq_uf _ _ _ (by decide)]
    have tt_26 : (I_24 398 this).toInt = 0 := by rw [eI_24, pq_us]; rfl
    have tt_27 : (I_24 401 this).toInt = (I_15 401 this).toInt := by rw [eI_24, pq_uf _ _ _ (by decide)]
    have tt_28 : (I_24 402 this).toInt = (I_15 402 this).toInt := by rw [eI_24, pq_uf _ _ _ (by decide)]
    have tt_29 : (I_24 391 this).toInt = (I_15 391 this).toInt := by rw [eI_24, pq_uf _ _ _ (by decide)]
    have tt_30 : (I_24 393 this).toInt = (I_15 393 this).toInt := by rw [eI_24, pq_uf _ _ _ (by decide)]
    have tt_31 : (I_24 403 this).toInt = (I_15 403 this).toInt := by rw [eI_24, pq_uf _ _ _ (by decide)]
    have tt_32 : (I_24 397 this).toInt = (I_15 397 this).toInt := by rw [eI_24, pq_uf _ _ _ (by decide)]
    refine lv_aload_n hx hb dX12_readText_29 rfl (lv_at hl 0 rfl) ?_
    refine lv_iconst (v := 0) hx hb dX12_readText_30 (by decide) ?_
    refine pp_i (v := 0) (ty := .int) (C := RX12) (T := TX12) (N := 31) hx hb hts (tw_i inlX12) tyX12 tyX12_ok nmX12 hown hK hP hD hS hL_this hK_this (by decide) rfl 18 402 (by decide) (hts _ (tw_c tw_828)) rfl (tyX12_ok 18 (by decide)) rfl rfl (Nat.le_of_ble_eq_true rfl) (ps_402 _ _ _ _ _) dX12_readText_31 (fun I_33 H locs eI_33 hP hD hS => ?_)
    replace hFr := fr_I (f := 402) hFr hO_this (by decide) eI_33
    replace hF := hF.trans (ap_n (vI_st (f := 402) hO_this (by decide) eI_33))
    have hG := GM.wI hG 402 rfl eI_33 (rg_w (rg_k (0 : Int32) 0 rfl) (by decide)) (by decide)
    have tt_34 : (I_33 396 this).toInt = (I_24 396 this).toInt := by rw [eI_33, pq_uf _ _ _ (by decide)]
    have tt_35 : (I_33 398 this).toInt = (I_24 398 this).toInt := by rw [eI_33, pq_uf _ _ _ (by decide)]
    have tt_36 : (I_33 401 this).toInt = (I_24 401 this).toInt := by rw [eI_33, pq_uf _ _ _ (by decide)]
    have tt_37 : (I_33 402 this).toInt = 0 := by rw [eI_33, pq_us]; rfl
    have tt_38 : (I_33 391 this).toInt = (I_24 391 this).toInt := by rw [eI_33, pq_uf _ _ _ (by decide)]
    have tt_39 : (I_33 393 this).toInt = (I_24 393 this).toInt := by rw [eI_33, pq_uf _ _ _ (by decide)]
    have tt_40 : (I_33 403 this).toInt = (I_24 403 this).toInt := by rw [eI_33, pq_uf _ _ _ (by decide)]
    have tt_41 : (I_33 397 this).toInt = (I_24 397 this).toInt := by rw [eI_33, pq_uf _ _ _ (by decide)]
    refine lv_aload_n hx hb dX12_readText_34 rfl (lv_at hl 0 rfl) ?_
    refine lv_iconst (v := 0) hx hb dX12_readText_35 (by decide) ?_
    refine pp_i (v := 0) (ty := .int) (C := RX12) (T := TX12) (N := 31) hx hb hts (tw_i inlX12) tyX12 tyX12_ok nmX12 hown hK hP hD hS hL_this hK_this (by decide) rfl 15 399 (by decide) (hts _ (tw_c tw_829)) rfl (tyX12_ok 15 (by decide)) rfl rfl (Nat.le_of_ble_eq_true rfl) (ps_399 _ _ _ _ _) dX12_readText_36 (fun I_42 H locs eI_42 hP hD hS => ?_)
    replace hFr := fr_I (f := 399) hFr hO_this (by decide) eI_42
    replace hF := hF.trans (ap_n (vI_st (f := 399) hO_this (by decide) eI_42))
    have hG := GM.wI hG 399 rfl eI_42 (rg_w (rg_k (0 : Int32) 0 rfl) (by decide)) (by decide)
    have tt_43 : (I_42 396 this).toInt = (I_33 396 this).toInt := by rw [eI_42, pq_uf _ _ _ (by decide)]
    have tt_44 : (I_42 398 this).toInt = (I_33 398 this).toInt := by rw [eI_42, pq_uf _ _ _ (by decide)]
    have tt_45 : (I_42 401 this).toInt = (I_33 401 this).toInt := by rw [eI_42, pq_uf _ _ _ (by decide)]
    have tt_46 : (I_42 402 this).toInt = (I_33 402 this).toInt := by rw [eI_42, pq_uf _ _ _ (by decide)]
    have tt_47 : (I_42 391 this).toInt = (I_33 391 this).toInt := by rw [eI_42, pq_uf _ _ _ (by decide)]
    have tt_48 : (I_42 393 this).toInt = (I_33 393 this).toInt := by rw [eI_42, pq_uf _ _ _ (by decide)]
    have tt_49 : (I_42 403 this).toInt = (I_33 403 this).toInt := by rw [eI_42, pq_uf _ _ _ (by decide)]
    have tt_50 : (I_42 397 this).toInt = (I_33 397 this).toInt := by rw [eI_42, pq_uf _ _ _ (by decide)]
    refine lv_aload_n hx hb dX12_readText_39 rfl (lv_at hl 0 rfl) ?_
    refine lv_iconst (v := 0) hx hb dX12_readText_40 (by decide) ?_
    refine pp_i (v := 0) (ty := .int) (C := RX12) (T := TX12) (N := 31) hx hb hts (tw_i inlX12) tyX12 tyX12_ok nmX12 hown hK hP hD hS hL_this hK_this (by decide) rfl 7 391 (by decide) (hts _ (tw_c tw_830)) rfl (tyX12_ok 7 (by decide)) rfl rfl (Nat.le_of_ble_eq_true rfl) (ps_391 _ _ _ _ _) dX12_readText_41 (fun I_51 H locs eI_51 hP hD hS => ?_)
    replace hFr := fr_I (f := 391) hFr hO_this (by decide) eI_51
    replace hF := hF.trans (ap_n (vI_st (f := 391) hO_this (by decide) eI_51))
    have hG := GM.wI hG 391 rfl eI_51 (rg_w (rg_k (0 : Int32) 0 rfl) (by decide)) (by decide)
    have tt_52 : (I_51 396 this).toInt = (I_42 396 this).toInt := by rw [eI_51, pq_uf _ _ _ (by decide)]
    have tt_53 : (I_51 398 this).toInt = (I_42 398 this).toInt := by rw [eI_51, pq_uf _ _ _ (by decide)]
    have tt_54 : (I_51 401 this).toInt = (I_42 401 this).toInt := by rw [eI_51, pq_uf _ _ _ (by decide)]
    have tt_55 : (I_51 402 this).toInt = (I_42 402 this).toInt := by rw [eI_51, pq_uf _ _ _ (by decide)]
    have tt_56 : (I_51 391 this).toInt = 0 := by rw [eI_51, pq_us]; rfl
    have tt_57 : (I_51 393 this).toInt = (I_42 393 this).toInt := by rw [eI_51, pq_uf _ _ _ (by decide)]
    have tt_58 : (I_51 403 this).toInt = (I_42 403 this).toInt := by rw [eI_51, pq_uf _ _ _ (by decide)]
    have tt_59 : (I_51 397 this).toInt = (I_42 397 this).toInt := by rw [eI_51, pq_uf _ _ _ (by decide)]
    refine lv_aload_n hx hb dX12_readText_44 rfl (lv_at hl 0 rfl) ?_
    obtain ⟨w_60, hR_w_60, hL_w_60, hK_w_60, hN_w_60, hT_w_60⟩ := sh_a hSH 387 (ci := 12) (kd := 13) (len := 300) rfl (by decide) hL_this hK_this
    have hO_w_60 : w_60 = vrow σ 387 this := vo_k (c := 12) hO_this hR_w_60
    refine pk_v (va_runV (As := []) (rest := []) ⟨hx, hb, hml, hown, hts⟩ (s_X12_nextToken_x l D t σ I_51 J ri rj rq H.size tg hSH hG.1 this hL_this hK_this w_60 hR_w_60 hL_w_60 hK_w_60 hN_w_60 hT_w_60) (cwV 0 hts (tw_V tw_832 tw_833 tw_834 tw_5 tw_835) rfl rfl rfl cv_yX12_nextToken_0 ⟨Nat.le_of_ble_eq_true rfl, Nat.le_of_ble_eq_true rfl⟩) ⟨pq_blind, pq_recv hK hP hL_this hK_this (by decide) rfl, pq_pre hK hN hP hD⟩ rfl rfl hl.1 rfl (lv_room (Nat.le_of_ble_eq_true rfl)) dX12_readText_45 ⟨Nat.le_of_ble_eq_true rfl, Nat.le_of_ble_eq_true rfl⟩) hD hS hA (fun σ1 μ1 H locs hw_62 hP hD hS => ?_)
    obtain ⟨I_63, J_64, hu_65, hg_66, hp_68, hp_69, hp_70, hfn_71, hfr_72⟩ := hw_62
    obtain ⟨hu_65a, hu_65b⟩ := Prod.mk.inj hu_65
    rw [hu_65a, hu_65b] at hP hD
    replace hF := hF.trans (bv_n hfn_71)
    replace hFr := fr_tr hFr hfr_72
    have tt_73 := hp_68
    have tt_74 := hp_69
    have tt_75 := hp_70
    have tt_76 : (I_63 391 this).toInt ≤ 300 := by have z := hg_66.1.1 391 this; exact z.2
    have hG := GM.tr hG hg_66 (by decide)
    have tt_77 : (I_63 396 this).toInt = (I_51 396 this).toInt := by rw [hg_66.2.1 396 (by decide) (by decide)]
    have tt_78 : (I_63 398 this).toInt = (I_51 398 this).toInt := by rw [hg_66.2.1 398 (by decide) (by decide)]
    have tt_79 : (I_63 401 this).toInt = (I_51 401 this).toInt := by rw [hg_66.2.1 401 (by decide) (by decide)]
    have tt_80 : (I_63 402 this).toInt = (I_51 402 this).toInt := by rw [hg_66.2.1 402 (by decide) (by decide)]
    have tt_81 : (I_63 397 this).toInt = (I_51 397 this).toInt := by rw [hg_66.2.1 397 (by decide) (by decide)]
    have L_185 : ∀ (n_184 : Nat) (I_157 : Nat → Nat → Int32) (J_158 : Nat → Nat → Int64) (ri_159 : Nat → Nat → Int32) (H : Heap) (locs : List Loc) (ls : Array Slot), (CLz (I_157 396 this).toInt (I_157 398 this).toInt (I_157 402 this).toInt (I_157 391 this).toInt (I_157 393 this).toInt (I_157 397 this).toInt (ri_159 this_a)) → (tmM (I_157 391 this).toInt (I_157 393 this).toInt).toNat < n_184 → F = g_X12_readText_L48 (vL 12 σ this rj) (vQ 12 σ this rq) n_184 (vI 12 σ this I_157) (vJ 12 σ this J_158) (vR 12 σ this ri_159) → FR 12 tg σ this (I, J, ri, rj, rq) (I_157, J_158, ri_159, rj, rq) → GM [396, 397, 398, 402, 391, 392, 393, 1910, 1912, 401, 1930, 1931, 1913, 1911, 1914, 1915, 1916, 1917, 1918] tg σ I ri I_157 ri_159 rq → va_P D vwCl (pq_P t σ (I_157, J_158, ri_159, rj, rq)) H → va_D A (pq_P t σ (I_157, J_158, ri_159, rj, rq)) → va_S A s.heap H locs → lv_has ls 2 [(0, .ref this)] → W p l e ({ frames := 9, cells := 0, slots := 0, locals := 202 } : Room) s m (List.toArray ([.ref this] : List Value)) below meth c H locs 0 0 Q (F0 m 48 ls []) := by
      intro n_184
      induction n_184 with
      | zero => intro I_157 J_158 ri_159 H locs ls hrel_188 hm_183 hF hFr hG hP hD hS hl; exact absurd hm_183 (Nat.not_lt_zero _)
      | succ n_184 ih_186 =>
        intro I_157 J_158 ri_159 H locs ls hrel_188 hm_183 hF hFr hG hP hD hS hl
        replace hF := hF.trans g_X12_readText_L48_e
        refine lv_aload_n hx hb dX12_readText_48 rfl (lv_at hl 0 rfl) ?_
        refine pg_f (v := .int (I_157 393 this)) (C := RX12) (T := TX12) (N := 31) hx hb hts (tw_i inlX12) hown hK hP hL_this hK_this (by decide) rfl 9 (by decide) (hts _ (tw_c tw_831)) rfl dX12_readText_49 ?_
        replace hF := hF.trans (ap_n (vI_e (f := 393) hO_this (by decide)))
        refine lv_if_eq (tgt := 69) hx hb dX12_readText_52 (by decide) (fun c_190 => ?_) (fun c_190 => ?_)
        · replace hF := hF.trans (if_pos c_190)
          have tc_194 : (I_157 393 this).toInt = 0 := congrArg Int32.toInt c_190
          have h_195 : rg (I_157 393 this) 0 0 := rg_and (rg_full _) (rg_of_eq c_190 (rg_k (0 : Int32) 0 rfl)) (by decide)
          have uh_195 := h_195.1
          have vh_195 := h_195.2
          refine lv_iconst (v := 0) hx hb dX12_readText_69 (by decide) ?_
          subst hQ
          exact W.iret (v := 0) hx hb hr (fun t1 ht hW => ⟨⟨0, (σ, I_157, J_158, ri_159, rj, rq), rfl, ⟨I_157, J_158, ri_159, rfl, hG, (Or.inr hrel_188), (hF0.symm.trans hF), hFr, (rg_w (rg_k (0 : Int32) 0 rfl) (by decide))⟩, by rw [ht]; exact hP, va_K.moved hW.alike hK, hD⟩, hS.F ht⟩) hS.2.2 dX12_readText_70
        · replace hF := hF.trans (if_neg c_190)
          have tc_196 : (I_157 393 this).toInt ≠ 0 := fun q => c_190 (Int32.toInt_inj.mp q)
          refine lv_aload_n hx hb dX12_readText_55 rfl (lv_at hl 0 rfl) ?_
          refine pk_i (va_runV (As := []) (rest := []) ⟨hx, hb, hml, hown, hts⟩ (s_X12_clause l D t σ I_157 J_158 ri_159 rj rq H.size tg hSH hG.1 this hL_this hK_this this_a hR_this_a hL_this_a hK_this_a hN_this_a hT_this_a this_pile hR_this_pile hL_this_pile hK_this_pile hN_this_pile hT_this_pile (by assumption)) (cwV 0 hts (tw_V tw_849 tw_850 tw_851 tw_5 tw_852) rfl rfl rfl cv_yX12_clause_0 ⟨Nat.le_of_ble_eq_true rfl, Nat.le_of_ble_eq_true rfl⟩) ⟨pq_blind, pq_recv hK hP hL_this hK_this (by decide) rfl, pq_pre hK hN hP hD⟩ rfl rfl hl.1 rfl (lv_room (Nat.le_of_ble_eq_true rfl)) dX12_readText_56 ⟨Nat.le_of_ble_eq_true rfl, Nat.le_of_ble_eq_true rfl⟩) hD hS hA (fun x_197 σ1 μ1 H locs hw_198 hP hD hS => ?_)
          obtain ⟨I_199, J_200, ri_201, hu_202, hg_203, hp_205, hfn_206, hfr_207, hr_204⟩ := hw_198
          obtain ⟨hu_202a, hu_202b⟩ := Prod.mk.inj hu_202
          rw [hu_202a, hu_202b] at hP hD
          replace hF := hF.trans (bn_n hfn_206)
          replace hFr := fr_tr hFr hfr_207
          have hG := GM.tr hG hg_203 (by decide)
          have tt_208 : (I_199 396 this).toInt = (I_157 396 this).toInt := by rw [hg_203.2.1 396 (by decide) (by decide)]
          refine lv_istore_n (lv' := [(1, .int x_197), (0, .ref this)]) hx hb dX12_readText_59 rfl hl (by decide) rfl (fun ls hl => ?_)
          refine lv_iload_n hx hb dX12_readText_60 rfl (lv_at hl 0 rfl) ?_
          refine lv_if_eq (tgt := 66) hx hb dX12_readText_61 (by decide) (fun c_209 => ?_) (fun c_209 => ?_)
          · replace hF := hF.trans (if_pos c_209)
            have tc_214 : (x_197).toInt = 0 := congrArg Int32.toInt c_209
            have h_215 : rg x_197 0 0 := rg_and hr_204 (rg_of_eq c_209 (rg_k (0 : Int32) 0 rfl)) (by decide)
            have uh_215 := h_215.1
            have vh_215 := h_215.2
            refine lv_goto (tgt := 48) hx hb dX12_readText_66 (by decide) ?_
            exact ih_186 I_199 J_200 ri_201 _ _ _ (hp_205.resolve_left (fun q => q (by omega))).1 (tm_ms hm_183 (hp_205.resolve_left (fun q => q (by omega))).2 (tm_b ((hG.1.1 391 this).2))) hF hFr hG hP hD hS (lv_sub hl [1] rfl)
          · replace hF := hF.trans (if_neg c_209)
            have tc_216 : (x_197).toInt ≠ 0 := fun q => c_209 (Int32.toInt_inj.mp q)
            have h_217 : rg x_197 1 5 := rg_ne c_209 hr_204 0 rfl (by decide)
            have uh_217 := h_217.1
            have vh_217 := h_217.2
            refine lv_iload_n hx hb dX12_readText_64 rfl (lv_at hl 0 rfl) ?_
            subst hQ
            exact W.iret (v := x_197) hx hb hr (fun t1 ht hW => ⟨⟨x_197, (σ, I_199, J_200, ri_201, rj, rq), rfl, ⟨I_199, J_200, ri_201, rfl, hG, (Or.inl (by omega)), (hF0.symm.trans hF), hFr, (rg_w h_217 (by decide))⟩, by rw [ht]; exact hP, va_K.moved hW.alike hK, hD⟩, hS.F ht⟩) hS.2.2 dX12_readText_65
    replace hF := hF.trans (ap_n (vI_e (f := 391) hO_this (by decide)))
    replace hF := hF.trans (ap_n (vI_e (f := 393) hO_this (by decide)))
    exact L_185 _ I_63 J_64 ri _ _ _ (CLz_mk (by omega) (by rw [show (I_63 397 this).toInt = 0 from by omega]; exact TXQ_0) (by omega) (by omega) (by omega) (fun q => by omega) (by omega)) (Nat.lt_succ_self _) hF hFr hG hP hD hS (lv_sub hl [0] rfl)
  exact go _ _ _ hP hD hS hl

set_option maxRecDepth 100000 in
def g_X12_text (I : Nat → Int32) (J : Nat → Int64) (ri : Nat → Nat → Int32) (rj : Nat → Nat → Int64) (rq : Nat → Nat → Option Nat) : Int32 × vM := (ap1 (ri 384 ((6 : Int32)).toNatClampNeg) fun (x_1 : Int32) => (if x_1 = (10 : Int32) then ((-1 : Int32), I, J, ri, rj, rq) else (bnI (g_X12_readText I J ri rj rq) fun (x_11 : Int32) (I_13 : Nat → Int32) (J_14 : Nat → Int64) (ri_15 : Nat → Nat → Int32) (_ : Nat → Nat → Int64) (_ : Nat → Nat → Option Nat) => (ap1 (va_up I_13 389 x_11) fun (I_23 : Nat → Int32) => (ap1 (I_23 389) fun (y_29 : Int32) => (if (y_29) = (0 : Int32) then (ap1 (va_up I_23 390 (-1 : Int32)) fun (I_58 : Nat → Int32) => (ap1 (va_up I_58 388 (0 : Int32)) fun (I_63 : Nat → Int32) => (ap1 (I_63 389) fun (y_69 : Int32) => (ap1 (I_63 396) fun (y_75 : Int32) => (ap1 (I_63 397) fun (y_77 : Int32) => (ap1 (va_up ri_15 384 (upd (ri_15 384) ((y_75)).toNatClampNeg (y_77))) fun (r_79 : Nat → Nat → Int32) => (ap1 (x_1 + (1 : Int32)) fun (x_81 : Int32) => (ap1 (va_up r_79 384 (upd (r_79 384) ((6 : Int32)).toNatClampNeg x_81)) fun (r_83 : Nat → Nat → Int32) => (ap1 (x_81 - (1 : Int32)) fun (x_85 : Int32) => (x_85, I_63, J_14, r_83, rj, rq)))))))))) else (ap1 (I_23 392) fun (y_38 : Int32) => (ap1 (va_up I_23 390 (y_38)) fun (I_39 : Nat → Int32) => (ap1 (va_up I_39 388 (0 : Int32)) fun (I_44 : Nat → Int32) => (ap1 (I_44 389) fun (y_50 : Int32) => ((-1 : Int32), I_44, J_14, ri_15, rj, rq)))))))))))
set_option maxRecDepth 100000 in
theorem g_X12_text_e {I : Nat → Int32} {J : Nat → Int64} {ri : Nat → Nat → Int32} {rj : Nat → Nat → Int64} {rq : Nat → Nat → Option Nat} : g_X12_text I J ri rj rq = (ap1 (ri 384 ((6 : Int32)).toNatClampNeg) fun (x_1 : Int32) => (if x_1 = (10 : Int32) then ((-1 : Int32), I, J, ri, rj, rq) else (bnI (g_X12_readText I J ri rj rq) fun (x_11 : Int32) (I_13 : Nat → Int32) (J_14 : Nat → Int64) (ri_15 : Nat → Nat → Int32) (_ : Nat → Nat → Int64) (_ : Nat → Nat → Option Nat) => (ap1 (va_up I_13 389 x_11) fun (I_23 : Nat → Int32) => (ap1 (I_23 389) fun (y_29 : Int32) => (if (y_29) = (0 : Int32) then (ap1 (va_up I_23 390 (-1 : Int32)) fun (I_58 : Nat → Int32) => (ap1 (va_up I_58 388 (0 : Int32)) fun (I_63 : Nat → Int32) => (ap1 (I_63 389) fun (y_69 : Int32) => (ap1 (I_63 396) fun (y_75 : Int32) => (ap1 (I_63 397) fun (y_77 : Int32) => (ap1 (va_up ri_15 384 (upd (ri_15 384) ((y_75)).toNatClampNeg (y_77))) fun (r_79 : Nat → Nat → Int32) => (ap1 (x_1 + (1 : Int32)) fun (x_81 : Int32) => (ap1 (va_up r_79 384 (upd (r_79 384) ((6 : Int32)).toNatClampNeg x_81)) fun (r_83 : Nat → Nat → Int32) => (ap1 (x_81 - (1 : Int32)) fun (x_85 : Int32) => (x_85, I_63, J_14, r_83, rj, rq)))))))))) else (ap1 (I_23 392) fun (y_38 : Int32) => (ap1 (va_up I_23 390 (y_38)) fun (I_39 : Nat → Int32) => (ap1 (va_up I_39 388 (0 : Int32)) fun (I_44 : Nat → Int32) => (ap1 (I_44 389) fun (y_50 : Int32) => ((-1 : Int32), I_44, J_14, ri_15, rj, rq))))))))))) := rfl
set_option maxHeartbeats 4000000 in
set_option maxRecDepth 100000 in
theorem s_X12_text (l : Launch) (D : va_G) (t : pq_T) (σ : pq_S) (I : Nat → Nat → Int32) (J : Nat → Nat → Int64) (ri : Nat → Nat → Int32) (rj : Nat → Nat → Int64) (rq : Nat → Nat → Option Nat) (sz : Nat) (tg : Nat → Nat) (hSH : SH σ tg) (hG0 : GT tg I ri) (this : Nat) (hL_this : this ∈ σ.1) (hK_this : σ.2.1 this = 12) (this_a : Nat) (hR_this_a : σ.2.2.1 384 this = some this_a) (hL_this_a : this_a ∈ σ.1) (hK_this_a : σ.2.1 this_a = 13) (hN_this_a : σ.2.2.2 this_a = 12720) (hT_this_a : tg this_a = 384) : MetI l yX12_text (wa yX12_text cX12_text 1 (some .int)) ({ frames := 10, cells := 0, slots := 0, locals := 223 }) [.ref this] D t σ (I, J, ri, rj, rq) sz 0 0 (fun (r : Int32) (u : pq_S × pq_M) => ∃ I' : Nat → Nat → Int32, ∃ J' : Nat → Nat → Int64, ∃ ri' : Nat → Nat → Int32, u = (σ, I', J', ri', rj, rq) ∧ GM [396, 397, 398, 402, 391, 392, 393, 1910, 1912, 401, 1930, 1931, 1913, 1911, 1914, 1915, 1916, 1917, 1918, 389, 390, 388, 1900, 1006] tg σ I ri I' ri' rq ∧ (r = -1 → ri' this_a 6 = ri this_a 6) ∧ g_X12_text (vI 12 σ this I) (vJ 12 σ this J) (vR 12 σ this ri) (vL 12 σ this rj) (vQ 12 σ this rq) = (r, (vI 12 σ this I'), (vJ 12 σ this J'), (vR 12 σ this ri'), (vL 12 σ this rj), (vQ 12 σ this rq)) ∧ FR 12 tg σ this (I, J, ri, rj, rq) (I', J', ri', rj, rq) ∧ rg r (-1) 9) := by
  refine Met.ofW (cc := cX12_text) (maxL := 1) (ret := (some .int)) (by decide) rfl ?_
  intro p e s m args below meth c s₁ B hml hv
  obtain ⟨rfl, hsz, hP, hK, hD0, hN⟩ := hv
  have hx := B.exec
  have hb := B.bytes
  have hr := B.returns
  have hts := atoms_spec (ws := (wa yX12_text cX12_text 1 (some .int))) B.pre
  have hown : s.vm.findClass RX12 = some m.cls := findClass_of_methodNamed B.named
  have hlocks := B.notSynchronized
  subst hsz
  have hD : va_D (pq_B t σ (I, J, ri, rj, rq) s.heap.size) (pq_P t σ (I, J, ri, rj, rq)) := hD0.self
  generalize hAe : pq_B t σ (I, J, ri, rj, rq) s.heap.size = A at hD ⊢
  have hA : ∀ q : Nat, s.heap.size ≤ q → A q := fun q h => by rw [← hAe]; exact Or.inr h
  have hS : va_S A s.heap s.heap [] := va_S.rf
  have hG : GM [396, 397, 398, 402, 391, 392, 393, 1910, 1912, 401, 1930, 1931, 1913, 1911, 1914, 1915, 1916, 1917, 1918, 389, 390, 388, 1900, 1006] tg σ I ri I ri rq := ⟨hG0, fun _ _ _ => rfl, fun _ _ _ _ _ => rfl, fun _ _ _ _ _ _ => rfl⟩
  have hl := lv_entry ([.ref this]) (n := 1) (Nat.le_of_ble_eq_true rfl)
  rw [lg_entry_eq]
  generalize (lg_sl ([.ref this]) ++ List.replicate (1 - (lg_sl ([.ref this])).length) Slot.unset).toArray = ls at hl ⊢
  have hl : lv_has ls 1 [(0, .ref this)] := hl
  refine q_gen (fun Q hQ => ?_)
  have go : ∀ (H : Heap) (locs : List Loc) (ls : Array Slot), va_P D vwCl (pq_P t σ (I, J, ri, rj, rq)) H → va_D A (pq_P t σ (I, J, ri, rj, rq)) → va_S A s.heap H locs → lv_has ls 1 [(0, .ref this)] → W p l e ({ frames := 10, cells := 0, slots := 0, locals := 223 } : Room) s m (List.toArray ([.ref this] : List Value)) below meth c H locs 0 0 Q (F0 m 0 ls []) := by
    intro H locs ls hP hD hS hl
    have hO_this : this = vo σ 12 this := rfl
    have hVT : VT 12 σ tg this := vt_12 hSH hL_this hK_this
    have hFr : FR 12 tg σ this (I, J, ri, rj, rq) (I, J, ri, rj, rq) := fr_rf
    have hO_this_a : this_a = vrow σ 384 this := vo_k (c := 12) hO_this hR_this_a
    obtain ⟨F, hF0⟩ : ∃ F, F = g_X12_text (vI 12 σ this I) (vJ 12 σ this J) (vR 12 σ this ri) (vL 12 σ this rj) (vQ 12 σ this rq) := ⟨_, rfl⟩
    have hF := hF0.trans g_X12_text_e
    refine lv_aload_n hx hb dX12_text_0 rfl (lv_at hl 0 rfl) ?_
    refine pg_f (v := .ref this_a) (C := RX12) (T := TX12) (N := 31) hx hb hts (tw_i inlX12) hown hK hP hL_this hK_this (by decide) rfl 0 (by decide) (hts _ (tw_c tw_176)) (pq_hv rfl hR_this_a) dX12_text_1 ?_
    refine lv_bipush (v := 6) hx hb dX12_text_4 (by decide) ?_
    refine pl_i hx hb hK hP hL_this_a hK_this_a hN_this_a (vp_in_iff.mpr (by decide)) dX12_text_6 ?_
    refine lv_topi (fun x_1 ex_1 => ?_)
    replace hF := hF.trans (ap_n (vR_r hO_this_a (by decide) ex_1))
    have ex_1 : x_1 = ri this_a ((6 : Int32)).toNatClampNeg := ex_1
    have h_2 : rg x_1 0 10 := rg_of_eq ex_1 (GM.z hG (by rw [hT_this_a]; decide) (show zn ((6 : Int32)).toNatClampNeg = 6 from by decide) rfl)
    have uh_2 := h_2.1
    have vh_2 := h_2.2
    refine lv_bipush (v := 10) hx hb dX12_text_7 (by decide) ?_
    refine lv_icmp_ne (tgt := 14) hx hb dX12_text_9 (by decide) (fun c_3 => ?_) (fun c_3 => ?_)
    · replace hF := hF.trans (if_neg c_3)
      have tc_8 : (x_1).toInt ≠ 10 := fun q => c_3 (Int32.toInt_inj.mp q)
      have h_9 : rg x_1 0 9 := rg_ne c_3 h_2 10 rfl (by decide)
      have uh_9 := h_9.1
      have vh_9 := h_9.2
      have t6 : (ri this_a 6).toInt = (x_1).toInt := congrArg Int32.toInt (show ri this_a 6 = x_1 from ex_1.symm)
      refine lv_aload_n hx hb dX12_text_14 rfl (lv_at hl 0 rfl) ?_
      refine lv_aload_n hx hb dX12_text_15 rfl (lv_at hl 0 rfl) ?_
      obtain ⟨w_10, hR_w_10, hL_w_10, hK_w_10, hN_w_10, hT_w_10⟩ := sh_a hSH 400 (ci := 12) (kd := 13) (len := 160) rfl (by decide) hL_this hK_this
      have hO_w_10 : w_10 = vrow σ 400 this := vo_k (c := 12) hO_this hR_w_10
      refine pk_i (va_runV (As := []) (rest := [.ref this]) ⟨hx, hb, hml, hown, hts⟩ (s_X12_readText l D t σ I J ri rj rq H.size tg hSH hG.1 this hL_this hK_this this_a hR_this_a hL_this_a hK_this_a hN_this_a hT_this_a w_10 hR_w_10 hL_w_10 hK_w_10 hN_w_10 hT_w_10 (by omega)) (cwV 0 hts (tw_V tw_823 tw_824 tw_825 tw_5 tw_826) rfl rfl rfl cv_yX12_readText_0 ⟨Nat.le_of_ble_eq_true rfl, Nat.le_of_ble_eq_true rfl⟩) ⟨pq_blind, pq_recv hK hP hL_this hK_this (by decide) rfl, pq_pre hK hN hP hD⟩ rfl rfl hl.1 rfl (lv_room (Nat.le_of_ble_eq_true rfl)) dX12_text_16 ⟨Nat.le_of_ble_eq_true rfl, Nat.le_of_ble_eq_true rfl⟩) hD hS hA (fun x_11 σ1 μ1 H locs hw_12 hP hD hS => ?_)
      obtain ⟨I_13, J_14, ri_15, hu_16, hg_17, hp_19, hfn_20, hfr_21, hr_18⟩ := hw_12
      obtain ⟨hu_16a, hu_16b⟩ := Prod.mk.inj hu_16
      rw [hu_16a, hu_16b] at hP hD
      replace hF := hF.trans (bn_n hfn_20)
      replace hFr := fr_tr hFr hfr_21
      have hG := GM.tr hG hg_17 (by decide)
      have tt_22 : (I_13 389 this).toInt = (I 389 this).toInt := by rw [hg_17.2.1 389 (by decide) (by decide)]
      refine pp_i (v := x_11) (ty := .int) (C := RX12) (T := TX12) (N := 31) hx hb hts (tw_i inlX12) tyX12 tyX12_ok nmX12 hown hK hP hD hS hL_this hK_this (by decide) rfl 5 389 (by decide) (hts _ (tw_c tw_180)) rfl (tyX12_ok 5 (by decide)) rfl rfl (Nat.le_of_ble_eq_true rfl) (ps_389 _ _ _ _ _) dX12_text_19 (fun I_23 H locs eI_23 hP hD hS => ?_)
      replace hFr := fr_I (f := 389) hFr hO_this (by decide) eI_23
      replace hF := hF.trans (ap_n (vI_st (f := 389) hO_this (by decide) eI_23))
      have hG := GM.wI hG 389 rfl eI_23 (rg_w hr_18 (by decide)) (by decide)
      have tt_24 : (I_23 389 this).toInt = (x_11).toInt := by rw [eI_23, pq_us]
      have tt_25 : (I_23 396 this).toInt = (I_13 396 this).toInt := by rw [eI_23, pq_uf _ _ _ (by decide)]
      have tt_26 : (I_23 397 this).toInt = (I_13 397 this).toInt := by rw [eI_23, pq_uf _ _ _ (by decide)]
      have tt_27 : (I_23 398 this).toInt = (I_13 398 this).toInt := by rw [eI_23, pq_uf _ _ _ (by decide)]
      refine lv_aload_n hx hb dX12_text_22 rfl (lv_at hl 0 rfl) ?_
      refine lv_aload_n hx hb dX12_text_23 rfl (lv_at hl 0 rfl) ?_
      refine pg_f (v := .int (I_23 389 this)) (C := RX12) (T := TX12) (N := 31) hx hb hts (tw_i inlX12) hown hK hP hL_this hK_this (by decide) rfl 5 (by decide) (hts _ (tw_c tw_180)) rfl dX12_text_24 ?_
      have h_28 : rg (I_23 389 this) 0 5 := (by rw [eI_23, pq_us]; exact hr_18)
      have uh_28 := h_28.1
      have vh_28 := h_28.2
      replace hF := hF.trans (ap_n (vI_e (f := 389) hO_this (by decide)))
      refine lv_if_ne (tgt := 34) hx hb dX12_text_27 (by decide) (fun c_30 => ?_) (fun c_30 => ?_)
      · replace hF := hF.trans (if_neg c_30)
        have tc_35 : (I_23 389 this).toInt ≠ 0 := fun q => c_30 (Int32.toInt_inj.mp q)
        have h_36 : rg (I_23 389 this) 1 5 := rg_ne c_30 h_28 0 rfl (by decide)
        have uh_36 := h_36.1
        have vh_36 := h_36.2
        refine lv_aload_n hx hb dX12_text_34 rfl (lv_at hl 0 rfl) ?_
        refine pg_f (v := .int (I_23 392 this)) (C := RX12) (T := TX12) (N := 31) hx hb hts (tw_i inlX12) hown hK hP hL_this hK_this (by decide) rfl 8 (by decide) (hts _ (tw_c tw_820)) rfl dX12_text_35 ?_
        have h_37 : rg (I_23 392 this) 0 300 := GM.rI hG 392 rfl
        have uh_37 := h_37.1
        have vh_37 := h_37.2
        replace hF := hF.trans (ap_n (vI_e (f := 392) hO_this (by decide)))
        refine pp_i (v := (I_23 392 this)) (ty := .int) (C := RX12) (T := TX12) (N := 31) hx hb hts (tw_i inlX12) tyX12 tyX12_ok nmX12 hown hK hP hD hS hL_this hK_this (by decide) rfl 6 390 (by decide) (hts _ (tw_c tw_181)) rfl (tyX12_ok 6 (by decide)) rfl rfl (Nat.le_of_ble_eq_true rfl) (ps_390 _ _ _ _ _) dX12_text_38 (fun I_39 H locs eI_39 hP hD hS => ?_)
        replace hFr := fr_I (f := 390) hFr hO_this (by decide) eI_39
        replace hF := hF.trans (ap_n (vI_st (f := 390) hO_this (by decide) eI_39))
        have hG := GM.wI hG 390 rfl eI_39 (rg_w h_37 (by decide)) (by decide)
        have tt_40 : (I_39 389 this).toInt = (I_23 389 this).toInt := by rw [eI_39, pq_uf _ _ _ (by decide)]
        have tt_41 : (I_39 396 this).toInt = (I_23 396 this).toInt := by rw [eI_39, pq_uf _ _ _ (by decide)]
        have tt_42 : (I_39 397 this).toInt = (I_23 397 this).toInt := by rw [eI_39, pq_uf _ _ _ (by decide)]
        have tt_43 : (I_39 398 this).toInt = (I_23 398 this).toInt := by rw [eI_39, pq_uf _ _ _ (by decide)]
        refine lv_aload_n hx hb dX12_text_41 rfl (lv_at hl 0 rfl) ?_
        refine lv_iconst (v := 0) hx hb dX12_text_42 (by decide) ?_
        refine pp_i (v := 0) (ty := .int) (C := RX12) (T := TX12) (N := 31) hx hb hts (tw_i inlX12) tyX12 tyX12_ok nmX12 hown hK hP hD hS hL_this hK_this (by decide) rfl 4 388 (by decide) (hts _ (tw_c tw_631)) rfl (tyX12_ok 4 (by decide)) rfl rfl (Nat.le_of_ble_eq_true rfl) (ps_388 _ _ _ _ _) dX12_text_43 (fun I_44 H locs eI_44 hP hD hS => ?_)
        replace hFr := fr_I (f := 388) hFr hO_this (by decide) eI_44
        replace hF := hF.trans (ap_n (vI_st (f := 388) hO_this (by decide) eI_44))
        have hG := GM.wI hG 388 rfl eI_44 (rg_w (rg_k (0 : Int32) 0 rfl) (by decide)) (by decide)
        have tt_45 : (I_44 389 this).toInt = (I_39 389 this).toInt := by rw [eI_44, pq_uf _ _ _ (by decide)]
        have tt_46 : (I_44 396 this).toInt = (I_39 396 this).toInt := by rw [eI_44, pq_uf _ _ _ (by decide)]
        have tt_47 : (I_44 397 this).toInt = (I_39 397 this).toInt := by rw [eI_44, pq_uf _ _ _ (by decide)]
        have tt_48 : (I_44 398 this).toInt = (I_39 398 this).toInt := by rw [eI_44, pq_uf _ _ _ (by decide)]
        refine lv_aload_n hx hb dX12_text_46 rfl (lv_at hl 0 rfl) ?_
        refine pg_f (v := .int (I_44 389 this)) (C := RX12) (T := TX12) (N := 31) hx hb hts (tw_i inlX12) hown hK hP hL_this hK_this (by decide) rfl 5 (by decide) (hts _ (tw_c tw_180)) rfl dX12_text_47 ?_
        have h_49 : rg (I_44 389 this) 1 5 := (by rw [eI_44, pq_uf _ _ _ (by decide)]; exact (by rw [eI_39, pq_uf _ _ _ (by decide)]; exact h_36))
        have uh_49 := h_49.1
        have vh_49 := h_49.2
        replace hF := hF.trans (ap_n (vI_e (f := 389) hO_this (by decide)))
        refine lv_if_eq (tgt := 55) hx hb dX12_text_50 (by decide) (fun c_51 => ?_) (fun c_51 => ?_)
        · have tc_54 : (I_44 389 this).toInt = 0 := congrArg Int32.toInt c_51
          exact (rg_empty (rg_and h_49 (rg_of_eq c_51 (rg_k (0 : Int32) 0 rfl)) (lo := 1) (hi := 0) (by decide)) (by decide)).elim
        · have tc_55 : (I_44 389 this).toInt ≠ 0 := fun q => c_51 (Int32.toInt_inj.mp q)
          refine lv_iconst (v := (-1)) hx hb dX12_text_53 (by decide) ?_
          subst hQ
          exact W.iret (v := (-1)) hx hb hr (fun t1 ht hW => ⟨⟨(-1), (σ, I_44, J_14, ri_15, rj, rq), rfl, ⟨I_44, J_14, ri_15, rfl, hG, fun _ => hg_17.2.2.1 this_a hT_this_a 6 (by decide) (by decide), (hF0.symm.trans hF), hFr, (rg_w (rg_k (-1 : Int32) (-1) rfl) (by decide))⟩, by rw [ht]; exact hP, va_K.moved hW.alike hK, hD⟩, hS.F ht⟩) hS.2.2 dX12_text_54
      · replace hF := hF.trans (if_pos c_30)
        have tc_56 : (I_23 389 this).toInt = 0 := congrArg Int32.toInt c_30
        have h_57 : rg (I_23 389 this) 0 0 := rg_and h_28 (rg_of_eq c_30 (rg_k (0 : Int32) 0 rfl)) (by decide)
        have uh_57 := h_57.1
        have vh_57 := h_57.2
        refine lv_iconst (v := (-1)) hx hb dX12_text_30 (by decide) ?_
        refine lv_goto (tgt := 38) hx hb dX12_text_31 (by decide) ?_
        refine pp_i (v := (-1)) (ty := .int) (C := RX12) (T := TX12) (N := 31) hx hb hts (tw_i inlX12) tyX12 tyX12_ok nmX12 hown hK hP hD hS hL_this hK_this (by decide) rfl 6 390 (by decide) (hts _ (tw_c tw_181)) rfl (tyX12_ok 6 (by decide)) rfl rfl (Nat.le_of_ble_eq_true rfl) (ps_390 _ _ _ _ _) dX12_text_38 (fun I_58 H locs eI_58 hP hD hS => ?_)
        replace hFr := fr_I (f := 390) hFr hO_this (by decide) eI_58
        replace hF := hF.trans (ap_n (vI_st (f := 390) hO_this (by decide) eI_58))
        have hG := GM.wI hG 390 rfl eI_58 (rg_w (rg_k (-1 : Int32) (-1) rfl) (by decide)) (by decide)
        have tt_59 : (I_58 389 this).toInt = (I_23 389 this).toInt := by rw [eI_58, pq_uf _ _ _ (by decide)]
        have tt_60 : (I_58 396 this).toInt = (I_23 396 this).toInt := by rw [eI_58, pq_uf _ _ _ (by decide)]
        have tt_61 : (I_58 397 this).toInt = (I_23 397 this).toInt := by rw [eI_58, pq_uf _ _ _ (by decide)]
        have tt_62 : (I_58 398 this).toInt = (I_23 398 this).toInt := by rw [eI_58, pq_uf _ _ _ (by decide)]
        refine lv_aload_n hx hb dX12_text_41 rfl (lv_at hl 0 rfl) ?_
        refine lv_iconst (v := 0) hx hb dX12_text_42 (by decide) ?_
        refine pp_i (v := 0) (ty := .int) (C := RX12) (T := TX12) (N := 31) hx hb hts (tw_i inlX12) tyX12 tyX12_ok nmX12 hown hK hP hD hS hL_this hK_this (by decide) rfl 4 388 (by decide) (hts _ (tw_c tw_631)) rfl (tyX12_ok 4 (by decide)) rfl rfl (Nat.le_of_ble_eq_true rfl) (ps_388 _ _ _ _ _) dX12_text_43 (fun I_63 H locs eI_63 hP hD hS => ?_)
        replace hFr := fr_I (f := 388) hFr hO_this (by decide) eI_63
        replace hF := hF.trans (ap_n (vI_st (f := 388) hO_this (by decide) eI_63))
        have hG := GM.wI hG 388 rfl eI_63 (rg_w (rg_k (0 : Int32) 0 rfl) (by decide)) (by decide)
        have tt_64 : (I_63 389 this).toInt = (I_58 389 this).toInt := by rw [eI_63, pq_uf _ _ _ (by decide)]
        have tt_65 : (I_63 396 this).toInt = (I_58 396 this).toInt := by rw [eI_63, pq_uf _ _ _ (by decide)]
        have tt_66 : (I_63 397 this).toInt = (I_58 397 this).toInt := by rw [eI_63, pq_uf _ _ _ (by decide)]
        have tt_67 : (I_63 398 this).toInt = (I_58 398 this).toInt := by rw [eI_63, pq_uf _ _ _ (by decide)]
        refine lv_aload_n hx hb dX12_text_46 rfl (lv_at hl 0 rfl) ?_
        refine pg_f (v := .int (I_63 389 this)) (C := RX12) (T := TX12) (N := 31) hx hb hts (tw_i inlX12) hown hK hP hL_this hK_this (by decide) rfl 5 (by decide) (hts _ (tw_c tw_180)) rfl dX12_text_47 ?_
        have h_68 : rg (I_63 389 this) 0 0 := (by rw [eI_63, pq_uf _ _ _ (by decide)]; exact (by rw [eI_58, pq_uf _ _ _ (by decide)]; exact h_57))
        have uh_68 := h_68.1
        have vh_68 := h_68.2
        replace hF := hF.trans (ap_n (vI_e (f := 389) hO_this (by decide)))
        refine lv_if_eq (tgt := 55) hx hb dX12_text_50 (by decide) (fun c_70 => ?_) (fun c_70 => ?_)
        · have tc_73 : (I_63 389 this).toInt = 0 := congrArg Int32.toInt c_70
          have hcl := hp_19.resolve_left (fun q => q (by omega))
          have hc1 := hcl.1
          have hc3 := hcl.2.2.1
          have hc5 := hcl.2.2.2.2
          have h66 : ri_15 this_a 6 = ri this_a 6 := hg_17.2.2.1 this_a hT_this_a 6 (by decide) (by decide)
          have ce6 := clampE (ri_15 this_a 6)
          have h60 := (GM.z0 hG0 (q := this_a) (by rw [hT_this_a]; decide) (i := 6) (k := 6) (lo := 0) (hi := 10) (by decide) rfl).1
          have t66 := congrArg Int32.toInt h66
          have h69 : rg (ri this_a 6) 0 9 := ⟨h60, by omega⟩
          refine lv_aload_n hx hb dX12_text_55 rfl (lv_at hl 0 rfl) ?_
          refine pg_f (v := .ref this_a) (C := RX12) (T := TX12) (N := 31) hx hb hts (tw_i inlX12) hown hK hP hL_this hK_this (by decide) rfl 0 (by decide) (hts _ (tw_c tw_176)) (pq_hv rfl hR_this_a) dX12_text_56 ?_
          refine lv_aload_n hx hb dX12_text_59 rfl (lv_at hl 0 rfl) ?_
          refine pg_f (v := .int (I_63 396 this)) (C := RX12) (T := TX12) (N := 31) hx hb hts (tw_i inlX12) hown hK hP hL_this hK_this (by decide) rfl 12 (by decide) (hts _ (tw_c tw_821)) rfl dX12_text_60 ?_
          have h_74 : rg (I_63 396 this) 0 11820 := GM.rI hG 396 rfl
          have uh_74 := h_74.1
          have vh_74 := h_74.2
          replace hF := hF.trans (ap_n (vI_e (f := 396) hO_this (by decide)))
          refine lv_aload_n hx hb dX12_text_63 rfl (lv_at hl 0 rfl) ?_
          refine pg_f (v := .int (I_63 397 this)) (C := RX12) (T := TX12) (N := 31) hx hb hts (tw_i inlX12) hown hK hP hL_this hK_this (by decide) rfl 13 (by decide) (hts _ (tw_c tw_822)) rfl dX12_text_64 ?_
          have h_76 : rg (I_63 397 this) 0 20 := GM.rI hG 397 rfl
          have uh_76 := h_76.1
          have vh_76 := h_76.2
          replace hF := hF.trans (ap_n (vI_e (f := 397) hO_this (by decide)))
          have h_78 : rg (I_63 396 this) 3720 11820 := ⟨by omega, by omega⟩
          have uh_78 := h_78.1
          have vh_78 := h_78.2
          refine pt_i hx hb hK hP hD hS hL_this_a hK_this_a hN_this_a (rg_in h_78 (by decide)) dX12_text_67 (fun r_79 H locs er_79 hP hD hS => ?_)
          replace hFr := fr_R hFr hO_this_a (by decide) er_79
          replace hF := hF.trans (ap_n (vR_st hVT hO_this_a (by decide) er_79))
          have hG := GM.wt hG hT_this_a (by decide) er_79 (zn_t0 (t := (ri this_a 6).toNatClampNeg) (by have z_i := clampE (I_63 396 this); have z_0 := clampE (ri this_a 6); omega) (rg_cl1 h69 (by decide))) rfl (rg_w h_76 (by decide)) (by have z_i := clampE (I_63 396 this); omega) (by decide)
          have h_80 : r_79 this_a 6 = x_1 := cz_ne er_79 (zn_t0 (t := (ri this_a 6).toNatClampNeg) (by have z_i := clampE (I_63 396 this); have z_0 := clampE (ri this_a 6); omega) (rg_cl1 h69 (by decide))) (by decide) (by decide) ((hg_17.2.2.1 this_a hT_this_a 6 (by decide) (by decide)).trans ex_1.symm)
          refine lv_aload_n hx hb dX12_text_68 rfl (lv_at hl 0 rfl) ?_
          refine pg_f (v := .ref this_a) (C := RX12) (T := TX12) (N := 31) hx hb hts (tw_i inlX12) hown hK hP hL_this hK_this (by decide) rfl 0 (by decide) (hts _ (tw_c tw_176)) (pq_hv rfl hR_this_a) dX12_text_69 ?_
          refine lv_bipush (v := 6) hx hb dX12_text_72 (by decide) ?_
          refine lv_dup2_11 hx hb dX12_text_74 rfl rfl ?_
          refine pl_i hx hb hK hP hL_this_a hK_this_a hN_this_a (vp_in_iff.mpr (by decide)) dX12_text_75 ?_
          refine lv_tov x_1 h_80 ?_
          refine lv_iconst (v := 1) hx hb dX12_text_76 (by decide) ?_
          refine lv_iadd hx hb dX12_text_77 ?_
          refine lv_topi (fun x_81 ex_81 => ?_)
          replace hF := hF.trans (ap_n ex_81)
          have h_82 : rg x_81 1 10 := rg_of_eq ex_81 (rg_add h_9 (rg_k (1 : Int32) 1 rfl) (by decide))
          have uh_82 := h_82.1
          have vh_82 := h_82.2
          have tx_81 : (x_81).toInt = (x_1).toInt + 1 := by rw [ex_81]; exact i_add_rg (a2 := (x_1).toInt) (b2 := 1) rfl rfl h_9 (rg_k (1 : Int32) 1 rfl) (by decide)
          refine pt_i hx hb hK hP hD hS hL_this_a hK_this_a hN_this_a (vp_in_iff.mpr (by decide)) dX12_text_78 (fun r_83 H locs er_83 hP hD hS => ?_)
          replace hFr := fr_R hFr hO_this_a (by decide) er_83
          replace hF := hF.trans (ap_n (vR_st hVT hO_this_a (by decide) er_83))
          have hz6 : (x_1).toInt = (r_79 this_a 6).toInt := (congrArg Int32.toInt (show r_79 this_a 6 = x_1 from h_80)).symm
          have h76 : r_79 this_a 6 = ri this_a 6 := h_80.trans ex_1
          have t76 := congrArg Int32.toInt h76
          have hq6 : TXQ (r_79 this_a) 300 (r_79 this_a (3720 + 900 * (r_79 this_a 6).toNatClampNeg)).toInt := TXQ_end (i := ((I_63 396 this)).toNatClampNeg) hcl.2.1 (by omega) (by omega) ⟨by omega, by omega⟩ (by have z0 := clampE (I_63 396 this); omega) ((congrFun er_79 _).trans (va_up_self _ _ _)) (by omega)
          have hG := GM.w6 hG hT_this_a (by decide) er_83 rfl (by omega) (by omega) hq6 (by decide)
          have h_84 : r_83 this_a 6 = x_81 := cz_eq er_83
          refine lv_aload_n hx hb dX12_text_79 rfl (lv_at hl 0 rfl) ?_
          refine pg_f (v := .ref this_a) (C := RX12) (T := TX12) (N := 31) hx hb hts (tw_i inlX12) hown hK hP hL_this hK_this (by decide) rfl 0 (by decide) (hts _ (tw_c tw_176)) (pq_hv rfl hR_this_a) dX12_text_80 ?_
          refine lv_bipush (v := 6) hx hb dX12_text_83 (by decide) ?_
          refine pl_i hx hb hK hP hL_this_a hK_this_a hN_this_a (vp_in_iff.mpr (by decide)) dX12_text_85 ?_
          refine lv_tov x_81 h_84 ?_
          refine lv_iconst (v := 1) hx hb dX12_text_86 (by decide) ?_
          refine lv_isub hx hb dX12_text_87 ?_
          refine lv_topi (fun x_85 ex_85 => ?_)
          replace hF := hF.trans (ap_n ex_85)
          have h_86 : rg x_85 0 9 := rg_of_eq ex_85 (rg_sub h_82 (rg_k (1 : Int32) 1 rfl) (by decide))
          have uh_86 := h_86.1
          have vh_86 := h_86.2
          have tx_85 : (x_85).toInt = (x_81).toInt - 1 := by rw [ex_85]; exact i_sub_rg (a2 := (x_81).toInt) (b2 := 1) rfl rfl h_82 (rg_k (1 : Int32) 1 rfl) (by decide)
          subst hQ
          exact W.iret (v := x_85) hx hb hr (fun t1 ht hW => ⟨⟨x_85, (σ, I_63, J_14, r_83, rj, rq), rfl, ⟨I_63, J_14, r_83, rfl, hG, fun q => absurd h_86.1 (by rw [q]; decide), (hF0.symm.trans hF), hFr, (rg_w h_86 (by decide))⟩, by rw [ht]; exact hP, va_K.moved hW.alike hK, hD⟩, hS.F ht⟩) hS.2.2 dX12_text_88
        · have tc_87 : (I_63 389 this).toInt ≠ 0 := fun q => c_70 (Int32.toInt_inj.mp q)
          exact (rg_empty (rg_ne c_70 h_68 0 rfl (lo := 1) (hi := (-1)) (by decide)) (by decide)).elim
    · replace hF := hF.trans (if_pos c_3)
      have tc_88 : (x_1).toInt = 10 := congrArg Int32.toInt c_3
      have h_89 : rg x_1 10 10 := rg_and h_2 (rg_of_eq c_3 (rg_k (10 : Int32) 10 rfl)) (by decide)
      have uh_89 := h_89.1
      have vh_89 := h_89.2
      refine lv_iconst (v := (-1)) hx hb dX12_text_12 (by decide) ?_
      subst hQ
      exact W.iret (v := (-1)) hx hb hr (fun t1 ht hW => ⟨⟨(-1), (σ, I, J, ri, rj, rq), rfl, ⟨I, J, ri, rfl, hG, fun _ => rfl, (hF0.symm.trans hF), hFr, (rg_w (rg_k (-1 : Int32) (-1) rfl) (by decide))⟩, by rw [ht]; exact hP, va_K.moved hW.alike hK, hD⟩, hS.F ht⟩) hS.2.2 dX12_text_13
  exact go _ _ _ hP hD hS hl
