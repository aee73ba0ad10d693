theorem dX12_init_0 : decode cX12_init 0 = .ok (.aload_n 0, 1) := by decide +kernel
theorem tw_175 : Cond.methodLink RX12 1 objectInit ∈ wsL_law := List.mem_of_getElem? (i := 175) (by decide +kernel)
theorem dX12_init_1 : decode cX12_init 1 = .ok (.invokespecial 1, 3) := by decide +kernel
theorem dX12_init_4 : decode cX12_init 4 = .ok (.aload_n 0, 1) := by decide +kernel
theorem dX12_init_5 : decode cX12_init 5 = .ok (.sipush 12720, 3) := by decide +kernel
theorem dX12_init_8 : decode cX12_init 8 = .ok (.newarray .int, 2) := by decide +kernel
theorem dX12_init_10 : decode cX12_init 10 = .ok (.putfield 7, 3) := by decide +kernel
theorem dX12_init_13 : decode cX12_init 13 = .ok (.aload_n 0, 1) := by decide +kernel
theorem dX12_init_14 : decode cX12_init 14 = .ok (.sipush 12720, 3) := by decide +kernel
theorem dX12_init_17 : decode cX12_init 17 = .ok (.newarray .int, 2) := by decide +kernel
theorem dX12_init_19 : decode cX12_init 19 = .ok (.putfield 13, 3) := by decide +kernel
theorem dX12_init_22 : decode cX12_init 22 = .ok (.aload_n 0, 1) := by decide +kernel
theorem dX12_init_23 : decode cX12_init 23 = .ok (.sipush 12720, 3) := by decide +kernel
theorem dX12_init_26 : decode cX12_init 26 = .ok (.newarray .int, 2) := by decide +kernel
theorem dX12_init_28 : decode cX12_init 28 = .ok (.putfield 16, 3) := by decide +kernel
theorem dX12_init_31 : decode cX12_init 31 = .ok (.aload_n 0, 1) := by decide +kernel
theorem dX12_init_32 : decode cX12_init 32 = .ok (.sipush 300, 3) := by decide +kernel
theorem dX12_init_35 : decode cX12_init 35 = .ok (.newarray .int, 2) := by decide +kernel
theorem dX12_init_37 : decode cX12_init 37 = .ok (.putfield 19, 3) := by decide +kernel
theorem dX12_init_40 : decode cX12_init 40 = .ok (.aload_n 0, 1) := by decide +kernel
theorem dX12_init_41 : decode cX12_init 41 = .ok (.iconst (-1), 1) := by decide +kernel
theorem dX12_init_42 : decode cX12_init 42 = .ok (.putfield 22, 3) := by decide +kernel
theorem dX12_init_45 : decode cX12_init 45 = .ok (.aload_n 0, 1) := by decide +kernel
theorem dX12_init_46 : decode cX12_init 46 = .ok (.iconst (-1), 1) := by decide +kernel
theorem dX12_init_47 : decode cX12_init 47 = .ok (.putfield 26, 3) := by decide +kernel
theorem dX12_init_50 : decode cX12_init 50 = .ok (.aload_n 0, 1) := by decide +kernel
theorem dX12_init_51 : decode cX12_init 51 = .ok (.sipush 160, 3) := by decide +kernel
theorem dX12_init_54 : decode cX12_init 54 = .ok (.newarray .int, 2) := by decide +kernel
theorem tw_182 : Cond.fieldLink RX12 29 "RingsUnderModel" "pile" "[I" ∈ wsL_law := List.mem_of_getElem? (i := 182) (by decide +kernel)
theorem dX12_init_56 : decode cX12_init 56 = .ok (.putfield 29, 3) := by decide +kernel
theorem dX12_init_59 : decode cX12_init 59 = .ok (.aload_n 0, 1) := by decide +kernel
theorem dX12_init_60 : decode cX12_init 60 = .ok (.sipush 330, 3) := by decide +kernel
theorem dX12_init_63 : decode cX12_init 63 = .ok (.newarray .long, 2) := by decide +kernel
theorem tw_183 : Cond.fieldLink RX12 32 "RingsUnderModel" "values" "[J" ∈ wsL_law := List.mem_of_getElem? (i := 183) (by decide +kernel)
theorem dX12_init_65 : decode cX12_init 65 = .ok (.putfield 32, 3) := by decide +kernel
theorem dX12_init_68 : decode cX12_init 68 = .ok (.aload_n 0, 1) := by decide +kernel
theorem dX12_init_69 : decode cX12_init 69 = .ok (.sipush 330, 3) := by decide +kernel
theorem tw_184 : Cond.arrayClass .boolean ∈ wsL_law := List.mem_of_getElem? (i := 184) (by decide +kernel)
theorem dX12_init_72 : decode cX12_init 72 = .ok (.newarray .boolean, 2) := by decide +kernel
theorem tw_185 : Cond.fieldLink RX12 36 "RingsUnderModel" "truth" "[Z" ∈ wsL_law := List.mem_of_getElem? (i := 185) (by decide +kernel)
theorem dX12_init_74 : decode cX12_init 74 = .ok (.putfield 36, 3) := by decide +kernel
theorem dX12_init_77 : decode cX12_init 77 = .ok (.aload_n 0, 1) := by decide +kernel
theorem dX12_init_78 : decode cX12_init 78 = .ok (.iconst 5, 1) := by decide +kernel
theorem dX12_init_79 : decode cX12_init 79 = .ok (.newarray .int, 2) := by decide +kernel
theorem tw_186 : Cond.fieldLink RX12 40 "RingsUnderModel" "rankOf" "[I" ∈ wsL_law := List.mem_of_getElem? (i := 186) (by decide +kernel)
theorem dX12_init_81 : decode cX12_init 81 = .ok (.putfield 40, 3) := by decide +kernel
theorem dX12_init_84 : decode cX12_init 84 = .ok (.aload_n 0, 1) := by decide +kernel
theorem dX12_init_85 : decode cX12_init 85 = .ok (.bipush 40, 2) := by decide +kernel
theorem dX12_init_87 : decode cX12_init 87 = .ok (.newarray .int, 2) := by decide +kernel
theorem tw_187 : Cond.fieldLink RX12 43 "RingsUnderModel" "leaves" "[I" ∈ wsL_law := List.mem_of_getElem? (i := 187) (by decide +kernel)
theorem dX12_init_89 : decode cX12_init 89 = .ok (.putfield 43, 3) := by decide +kernel
theorem dX12_init_92 : decode cX12_init 92 = .ok (.aload_n 0, 1) := by decide +kernel
theorem dX12_init_93 : decode cX12_init 93 = .ok (.bipush 40, 2) := by decide +kernel
theorem dX12_init_95 : decode cX12_init 95 = .ok (.newarray .int, 2) := by decide +kernel
theorem tw_188 : Cond.fieldLink RX12 46 "RingsUnderModel" "row" "[I" ∈ wsL_law := List.mem_of_getElem? (i := 188) (by decide +kernel)
theorem dX12_init_97 : decode cX12_init 97 = .ok (.putfield 46, 3) := by decide +kernel
theorem dX12_init_100 : decode cX12_init 100 = .ok (.aload_n 0, 1) := by decide +kernel
theorem dX12_init_101 : decode cX12_init 101 = .ok (.bipush 40, 2) := by decide +kernel
theorem dX12_init_103 : decode cX12_init 103 = .ok (.newarray .boolean, 2) := by decide +kernel
theorem tw_189 : Cond.fieldLink RX12 49 "RingsUnderModel" "looked" "[Z" ∈ wsL_law := List.mem_of_getElem? (i := 189) (by decide +kernel)
theorem dX12_init_105 : decode cX12_init 105 = .ok (.putfield 49, 3) := by decide +kernel
theorem dX12_init_108 : decode cX12_init 108 = .ok (.aload_n 0, 1) := by decide +kernel
theorem dX12_init_109 : decode cX12_init 109 = .ok (.iconst 5, 1) := by decide +kernel
theorem dX12_init_110 : decode cX12_init 110 = .ok (.newarray .int, 2) := by decide +kernel
theorem tw_190 : Cond.fieldLink RX12 52 "RingsUnderModel" "bestRow" "[I" ∈ wsL_law := List.mem_of_getElem? (i := 190) (by decide +kernel)
theorem dX12_init_112 : decode cX12_init 112 = .ok (.putfield 52, 3) := by decide +kernel
theorem dX12_init_115 : decode cX12_init 115 = .ok (.aload_n 0, 1) := by decide +kernel
theorem dX12_init_116 : decode cX12_init 116 = .ok (.iconst 5, 1) := by decide +kernel
theorem dX12_init_117 : decode cX12_init 117 = .ok (.newarray .int, 2) := by decide +kernel
theorem dX12_init_119 : decode cX12_init 119 = .ok (.putfield 55, 3) := by decide +kernel
theorem dX12_init_122 : decode cX12_init 122 = .ok (.aload_n 0, 1) := by decide +kernel
theorem dX12_init_123 : decode cX12_init 123 = .ok (.getfield 7, 3) := by decide +kernel
theorem dX12_init_126 : decode cX12_init 126 = .ok (.bipush 12, 2) := by decide +kernel
theorem dX12_init_128 : decode cX12_init 128 = .ok (.iconst (-1), 1) := by decide +kernel
theorem dX12_init_129 : decode cX12_init 129 = .ok (.iastore, 1) := by decide +kernel
theorem dX12_init_130 : decode cX12_init 130 = .ok (.aload_n 0, 1) := by decide +kernel
theorem dX12_init_131 : decode cX12_init 131 = .ok (.getfield 7, 3) := by decide +kernel
theorem dX12_init_134 : decode cX12_init 134 = .ok (.bipush 13, 2) := by decide +kernel
theorem dX12_init_136 : decode cX12_init 136 = .ok (.bipush 29, 2) := by decide +kernel
theorem dX12_init_138 : decode cX12_init 138 = .ok (.iastore, 1) := by decide +kernel
theorem dX12_init_139 : decode cX12_init 139 = .ok (.aload_n 0, 1) := by decide +kernel
theorem dX12_init_140 : decode cX12_init 140 = .ok (.getfield 7, 3) := by decide +kernel
theorem dX12_init_143 : decode cX12_init 143 = .ok (.bipush 14, 2) := by decide +kernel
theorem dX12_init_145 : decode cX12_init 145 = .ok (.iconst 1, 1) := by decide +kernel
theorem dX12_init_146 : decode cX12_init 146 = .ok (.iastore, 1) := by decide +kernel
theorem dX12_init_147 : decode cX12_init 147 = .ok (.aload_n 0, 1) := by decide +kernel
theorem dX12_init_148 : decode cX12_init 148 = .ok (.getfield 7, 3) := by decide +kernel
theorem dX12_init_151 : decode cX12_init 151 = .ok (.bipush 15, 2) := by decide +kernel
theorem dX12_init_153 : decode cX12_init 153 = .ok (.bipush 10, 2) := by decide +kernel
theorem dX12_init_155 : decode cX12_init 155 = .ok (.iastore, 1) := by decide +kernel
theorem dX12_init_156 : decode cX12_init 156 = .ok (.aload_n 0, 1) := by decide +kernel
theorem dX12_init_157 : decode cX12_init 157 = .ok (.getfield 7, 3) := by decide +kernel
theorem dX12_init_160 : decode cX12_init 160 = .ok (.bipush 16, 2) := by decide +kernel
theorem dX12_init_162 : decode cX12_init 162 = .ok (.iconst 3, 1) := by decide +kernel
theorem dX12_init_163 : decode cX12_init 163 = .ok (.iastore, 1) := by decide +kernel
theorem dX12_init_164 : decode cX12_init 164 = .ok (.aload_n 0, 1) := by decide +kernel
theorem dX12_init_165 : decode cX12_init 165 = .ok (.getfield 7, 3) := by decide +kernel
theorem dX12_init_168 : decode cX12_init 168 = .ok (.bipush 17, 2) := by decide +kernel
theorem dX12_init_170 : decode cX12_init 170 = .ok (.iconst 5, 1) := by decide +kernel
theorem dX12_init_171 : decode cX12_init 171 = .ok (.iastore, 1) := by decide +kernel
theorem dX12_init_172 : decode cX12_init 172 = .ok (.iconst 0, 1) := by decide +kernel
theorem dX12_init_173 : decode cX12_init 173 = .ok (.istore_n 1, 1) := by decide +kernel
theorem dX12_init_174 : decode cX12_init 174 = .ok (.iload_n 1, 1) := by decide +kernel
theorem dX12_init_175 : decode cX12_init 175 = .ok (.bipush 12, 2) := by decide +kernel
theorem dX12_init_177 : decode cX12_init 177 = .ok (.if_icmp .ge 69, 3) := by decide +kernel
theorem dX12_init_180 : decode cX12_init 180 = .ok (.aload_n 0, 1) := by decide +kernel
theorem dX12_init_181 : decode cX12_init 181 = .ok (.getfield 7, 3) := by decide +kernel
theorem dX12_init_184 : decode cX12_init 184 = .ok (.bipush 20, 2) := by decide +kernel
theorem dX12_init_186 : decode cX12_init 186 = .ok (.iconst 5, 1) := by decide +kernel
theorem dX12_init_187 : decode cX12_init 187 = .ok (.iload_n 1, 1) := by decide +kernel
theorem dX12_init_188 : decode cX12_init 188 = .ok (.imul, 1) := by decide +kernel
theorem dX12_init_189 : decode cX12_init 189 = .ok (.iadd, 1) := by decide +kernel
theorem dX12_init_190 : decode cX12_init 190 = .ok (.iconst 1, 1) := by decide +kernel
theorem dX12_init_191 : decode cX12_init 191 = .ok (.iadd, 1) := by decide +kernel
theorem dX12_init_192 : decode cX12_init 192 = .ok (.sipush 500, 3) := by decide +kernel
theorem dX12_init_195 : decode cX12_init 195 = .ok (.iastore, 1) := by decide +kernel
theorem dX12_init_196 : decode cX12_init 196 = .ok (.aload_n 0, 1) := by decide +kernel
theorem dX12_init_197 : decode cX12_init 197 = .ok (.getfield 7, 3) := by decide +kernel
theorem dX12_init_200 : decode cX12_init 200 = .ok (.bipush 20, 2) := by decide +kernel
theorem dX12_init_202 : decode cX12_init 202 = .ok (.iconst 5, 1) := by decide +kernel
theorem dX12_init_203 : decode cX12_init 203 = .ok (.iload_n 1, 1) := by decide +kernel
theorem dX12_init_204 : decode cX12_init 204 = .ok (.imul, 1) := by decide +kernel
theorem dX12_init_205 : decode cX12_init 205 = .ok (.iadd, 1) := by decide +kernel
theorem dX12_init_206 : decode cX12_init 206 = .ok (.iconst 2, 1) := by decide +kernel
theorem dX12_init_207 : decode cX12_init 207 = .ok (.iadd, 1) := by decide +kernel
theorem dX12_init_208 : decode cX12_init 208 = .ok (.bipush 25, 2) := by decide +kernel
theorem dX12_init_210 : decode cX12_init 210 = .ok (.iastore, 1) := by decide +kernel
theorem dX12_init_211 : decode cX12_init 211 = .ok (.aload_n 0, 1) := by decide +kernel
theorem dX12_init_212 : decode cX12_init 212 = .ok (.getfield 7, 3) := by decide +kernel
theorem dX12_init_215 : decode cX12_init 215 = .ok (.bipush 20, 2) := by decide +kernel
theorem dX12_init_217 : decode cX12_init 217 = .ok (.iconst 5, 1) := by decide +kernel
theorem dX12_init_218 : decode cX12_init 218 = .ok (.iload_n 1, 1) := by decide +kernel
theorem dX12_init_219 : decode cX12_init 219 = .ok (.imul, 1) := by decide +kernel
theorem dX12_init_220 : decode cX12_init 220 = .ok (.iadd, 1) := by decide +kernel
theorem dX12_init_221 : decode cX12_init 221 = .ok (.iconst 3, 1) := by decide +kernel
theorem dX12_init_222 : decode cX12_init 222 = .ok (.iadd, 1) := by decide +kernel
theorem dX12_init_223 : decode cX12_init 223 = .ok (.iconst 5, 1) := by decide +kernel
theorem dX12_init_224 : decode cX12_init 224 = .ok (.iastore, 1) := by decide +kernel
theorem dX12_init_225 : decode cX12_init 225 = .ok (.aload_n 0, 1) := by decide +kernel
theorem dX12_init_226 : decode cX12_init 226 = .ok (.getfield 7, 3) := by decide +kernel
theorem dX12_init_229 : decode cX12_init 229 = .ok (.bipush 20, 2) := by decide +kernel
theorem dX12_init_231 : decode cX12_init 231 = .ok (.iconst 5, 1) := by decide +kernel
theorem dX12_init_232 : decode cX12_init 232 = .ok (.iload_n 1, 1) := by decide +kernel
theorem dX12_init_233 : decode cX12_init 233 = .ok (.imul, 1) := by decide +kernel
theorem dX12_init_234 : decode cX12_init 234 = .ok (.iadd, 1) := by decide +kernel
theorem dX12_init_235 : decode cX12_init 235 = .ok (.iconst 4, 1) := by decide +kernel
theorem dX12_init_236 : decode cX12_init 236 = .ok (.iadd, 1) := by decide +kernel
theorem dX12_init_237 : decode cX12_init 237 = .ok (.bipush 20, 2) := by decide +kernel
theorem dX12_init_239 : decode cX12_init 239 = .ok (.iastore, 1) := by decide +kernel
theorem dX12_init_240 : decode cX12_init 240 = .ok (.iinc 1 1, 3) := by decide +kernel
theorem dX12_init_243 : decode cX12_init 243 = .ok (.goto (-69), 3) := by decide +kernel
theorem dX12_init_246 : decode cX12_init 246 = .ok (.aload_n 0, 1) := by decide +kernel
theorem dX12_init_247 : decode cX12_init 247 = .ok (.getfield 7, 3) := by decide +kernel
theorem dX12_init_250 : decode cX12_init 250 = .ok (.aload_n 0, 1) := by decide +kernel
theorem dX12_init_251 : decode cX12_init 251 = .ok (.getfield 13, 3) := by decide +kernel
theorem dX12_init_254 : decode cX12_init 254 = .ok (.invokestatic 58, 3) := by decide +kernel
theorem dX12_init_257 : decode cX12_init 257 = .ok (.return_, 1) := by decide +kernel
/-- row a while it is made: the first k of its numbers are there -/
def fmq (k : Nat) (f : Nat → Int32) : Prop := ∀ j, j < 20 → j ≠ 18 → f j = if j < 12 + k then fm_b j else 0
theorem fmq_0 {f : Nat → Int32} (h : f = fun _ => 0) : fmq 0 f := by
  subst h
  intro j h1 h2
  show (0 : Int32) = _
  split
  · next q =>
    unfold fm_b
    rw [if_neg (by omega), if_neg (by omega), if_neg (by omega), if_neg (by omega), if_neg (by omega), if_neg (by omega)]
  · rfl
theorem fmq_w {r r1 : Nat → Nat → Int32} {a k : Nat} {i x : Int32} (h : fmq k (r a)) (e : r1 = va_up r a (upd (r a) i.toNatClampNeg x)) (hi : i.toNatClampNeg = 12 + k) (hx : x = fm_b (12 + k)) : fmq (k + 1) (r1 a) := by
  subst e
  rw [va_up_self]
  intro j h1 h2
  unfold upd
  rw [hi]
  by_cases q : j = 12 + k
  · rw [if_pos q, if_pos (by omega), q]; exact hx
  · rw [if_neg q, h j h1 h2]
    by_cases q2 : j < 12 + k
    · rw [if_pos q2, if_pos (by omega)]
    · rw [if_neg q2, if_neg (by omega)]
theorem fmq_hi {r r1 : Nat → Nat → Int32} {a k : Nat} {i x : Int32} (h : fmq k (r a)) (e : r1 = va_up r a (upd (r a) i.toNatClampNeg x)) (hi : 20 ≤ i.toNatClampNeg) : fmq k (r1 a) := by
  subst e
  rw [va_up_self]
  intro j h1 h2
  unfold upd
  rw [if_neg (by omega)]
  exact h j h1 h2
theorem fmq_end {f : Nat → Int32} (h : fmq 6 f) : fm f 0 := by
  refine ⟨(h 0 (by decide) (by decide)).trans (by decide), fun j h1 h2 h3 => ?_⟩
  rw [h j h1 h3]
  split
  · rfl
  · next q =>
    unfold fm_b
    rw [if_neg (by omega), if_neg (by omega), if_neg (by omega), if_neg (by omega), if_neg (by omega), if_neg (by omega)]
/-- the row in field g of b, as it stands -/
def okF (σ : pq_S) (ri : Nat → Nat → Int32) (g b : Nat) (P : (Nat → Int32) → Prop) : Prop := b ∈ σ.1 ∧ ∃ q, σ.2.2.1 g b = some q ∧ q ∈ σ.1 ∧ P (ri q)
theorem okF_es {f a g b : Nat} {P : (Nat → Int32) → Prop} {σ σ' : pq_S} {I I' r : Nat → Nat → Int32} (h : Es f a σ σ' I I') (hf : g ≠ f) (x : okF σ r g b P) : okF σ' r g b P := by
  obtain ⟨x1, q, x2, x3, x4⟩ := x
  obtain ⟨b1, b2, b3, b4, -⟩ := h b x1
  exact ⟨b1, q, (b4 g (Or.inl hf)).trans x2, (h q x3).1, x4⟩
theorem okF_up {g b q : Nat} {P : (Nat → Int32) → Prop} {σ : pq_S} {r r1 : Nat → Nat → Int32} {v : Nat → Int32} (hq : q ∉ σ.1) (e : r1 = va_up r q v) (x : okF σ r g b P) : okF σ r1 g b P := by
  obtain ⟨x1, w, x2, x3, x4⟩ := x
  refine ⟨x1, w, x2, x3, ?_⟩
  rw [e, va_up_ne _ _ (fun (z : w = q) => hq (z ▸ x3))]
  exact x4
theorem okF_mk {f a q k n : Nat} {P : (Nat → Int32) → Prop} {σ σ1 : pq_S} {r : Nat → Nat → Int32} (h : As f a q k n σ σ1) (ha : a ∈ σ1.1) (hP : P (r q)) : okF σ1 r f a P := by
  obtain ⟨h1, rfl⟩ := h
  exact ⟨ha, q, pq_us _ _ _ _, List.mem_append_right _ (List.mem_singleton.mpr rfl), hP⟩
theorem okF_at {g b w : Nat} {P : (Nat → Int32) → Prop} {σ : pq_S} {r : Nat → Nat → Int32} (x : okF σ r g b P) (h : σ.2.2.1 g b = some w) : P (r w) := by
  obtain ⟨-, q, x2, -, x4⟩ := x
  have e := Option.some.inj (h.symm.trans x2)
  rw [e]
  exact x4
theorem okF_in {g b w : Nat} {P : (Nat → Int32) → Prop} {σ : pq_S} {r : Nat → Nat → Int32} (hb : b ∈ σ.1) (h : σ.2.2.1 g b = some w) (hw : w ∈ σ.1) (hP : P (r w)) : okF σ r g b P := ⟨hb, w, h, hw, hP⟩
theorem okD_at {g1 g2 a r w : Nat} {σ : pq_S} (h : okD σ g1 g2 a) (h1 : σ.2.2.1 g1 a = some r) (h2 : σ.2.2.1 g2 a = some w) : r ≠ w := h.2 r w h1 h2

def okModel (σ : pq_S) (I r : Nat → Nat → Int32) (a : Nat) : Prop := okA σ 384 a 13 12720 ∧ okA σ 385 a 13 12720 ∧ okA σ 386 a 13 12720 ∧ okA σ 387 a 13 300 ∧ okA σ 400 a 13 160 ∧ okA σ 404 a 14 330 ∧ okA σ 405 a 15 330 ∧ okA σ 408 a 13 5 ∧ okA σ 409 a 13 40 ∧ okA σ 411 a 13 40 ∧ okA σ 412 a 15 40 ∧ okA σ 413 a 13 5 ∧ okA σ 414 a 13 5 ∧ I 388 a = 0 ∧ I 389 a = (-1) ∧ I 390 a = (-1) ∧ I 391 a = 0 ∧ okD σ 384 385 a ∧ okD σ 384 386 a ∧ okD σ 384 414 a ∧ okD σ 386 414 a ∧ okF σ r 384 a (fun f => fm f 0) ∧ okF σ r 385 a (fun f => fm f 0)

set_option maxHeartbeats 16000000 in
set_option maxRecDepth 100000 in
theorem c_X12_init (l : Launch) (D : va_G) (t : pq_T) (σ : pq_S) (I : Nat → Nat → Int32) (J : Nat → Nat → Int64) (ri : Nat → Nat → Int32) (rj : Nat → Nat → Int64) (rq : Nat → Nat → Option Nat) (sz : Nat) (this : Nat) (hL_this : this ∈ σ.1) (hK_this : σ.2.1 this = 12) (hq0 : rq = fun _ _ => none) (hZ : pq_Z I) (hI_388 : I 388 this = 0) (hI_391 : I 391 this = 0) : MetV l yX12_init (wa yX12_init cX12_init 2 none) ({ frames := 1, cells := 13, slots := 39415, locals := 22 }) [.ref this] D t σ (I, J, ri, rj, rq) sz 13 39415 (fun (u : pq_S × pq_M) => ∃ (σ' : pq_S) (I' : Nat → Nat → Int32) (J' : Nat → Nat → Int64) (ri' : Nat → Nat → Int32) (rj' : Nat → Nat → Int64) (rq' : Nat → Nat → Option Nat), u = (σ', I', J', ri', rj', rq') ∧ Et this σ σ' I I' ∧ okModel σ' I' ri' this) := by
  refine Met.ofW (cc := cX12_init) (maxL := 2) (ret := none) (by decide) rfl ?_
  intro p e s m args below meth c s₁ B hml hv
  obtain ⟨rfl, hsz, hP, hK, hD0, hN⟩ := hv
  have hx := B.exec
  have hb := B.bytes
  have hr := B.returns
  have hts := atoms_spec (ws := (wa yX12_init cX12_init 2 none)) B.pre
  have hown : s.vm.findClass RX12 = some m.cls := findClass_of_methodNamed B.named
  have hlocks := B.notSynchronized
  have hin : meth.name = "<init>" := (name_of_methodNamed B.named B.method).1
  subst hsz
  have hD : va_D (pq_B t σ (I, J, ri, rj, rq) s.heap.size) (pq_P t σ (I, J, ri, rj, rq)) := hD0.self
  generalize hAe : pq_B t σ (I, J, ri, rj, rq) s.heap.size = A at hD ⊢
  have hA : ∀ q : Nat, s.heap.size ≤ q → A q := fun q h => by rw [← hAe]; exact Or.inr h
  have hS : va_S A s.heap s.heap [] := va_S.rf
  have hl := lv_entry ([.ref this]) (n := 2) (Nat.le_of_ble_eq_true rfl)
  rw [lg_entry_eq]
  generalize (lg_sl ([.ref this]) ++ List.replicate (2 - (lg_sl ([.ref this])).length) Slot.unset).toArray = ls at hl ⊢
  have hl : lv_has ls 2 [(0, .ref this)] := hl
  refine lv_aload_n hx hb dX12_init_0 rfl (lv_at hl 0 rfl) ?_
  refine W.objInit hx hb hown (hts _ (tw_c tw_175)) (hts _ (tw_c tw_11)) (hts _ (tw_c tw_12)) rfl (by rw [hml]; exact hl.1) rfl dX12_init_1 (Nat.le_of_ble_eq_true rfl) (Nat.le_of_ble_eq_true rfl) ?_
  refine W.eq (g2 := F0 m 4 ls []) rfl ?_
  refine lv_aload_n hx hb dX12_init_4 rfl (lv_at hl 0 rfl) ?_
  refine lv_sipush (v := 12720) hx hb dX12_init_5 (by decide) ?_
  refine nw_i (N' := 12720) hx hb (hts _ (tw_c tw_33)) hK hP hD hS hA (by decide) (by decide) (Nat.le_of_ble_eq_true rfl) (Nat.le_of_ble_eq_true rfl) (Nat.le_of_ble_eq_true rfl) dX12_init_8 (fun q_1 r_3 H hq_2 er_3 hP hD hS => ?_)
  refine pr_F (q := q_1) (C := RX12) (T := TX12) (N := 31) hx hb hts (tw_i inlX12) tyX12 tyX12_ok nmX12 hown hK hP hD hS (As_in hL_this) (As_kk hq_2 hL_this hK_this) (by decide) rfl 0 384 (by decide) (hts _ (tw_c tw_176)) rfl hin rfl (tyX12_ok 0 (by decide)) rfl rfl (Nat.le_of_ble_eq_true rfl) (pr_384 _ _ _ _ _) dX12_init_10 (fun σ_4 H locs hp_5 hP hD hS => ?_)
  have hs_6 := As_of hq_2 hp_5
  have hz_7 := As_es (I := I) hs_6
  have hE := Et_es Et_rf hz_7
  have hI_388 := Es_i hz_7 hL_this hI_388
  have hI_391 := Es_i hz_7 hL_this hI_391
  have hA_384 := As_ok hs_6 hL_this
  have hK_this := Es_k hz_7 hL_this hK_this
  have hL_this := Es_at hz_7 hL_this
  have hF_384 : okF σ_4 r_3 384 this (fmq 0) := okF_mk hs_6 hL_this (fmq_0 (by rw [er_3]; exact va_up_self _ _ _))
  refine lv_aload_n hx hb dX12_init_13 rfl (lv_at hl 0 rfl) ?_
  refine lv_sipush (v := 12720) hx hb dX12_init_14 (by decide) ?_
  refine nw_i (N' := 12720) hx hb (hts _ (tw_c tw_33)) hK hP hD hS hA (by decide) (by decide) (Nat.le_of_ble_eq_true rfl) (Nat.le_of_ble_eq_true rfl) (Nat.le_of_ble_eq_true rfl) dX12_init_17 (fun q_8 r_10 H hq_9 er_10 hP hD hS => ?_)
  refine pr_F (q := q_8) (C := RX12) (T := TX12) (N := 31) hx hb hts (tw_i inlX12) tyX12 tyX12_ok nmX12 hown hK hP hD hS (As_in hL_this) (As_kk hq_9 hL_this hK_this) (by decide) rfl 1 385 (by decide) (hts _ (tw_c tw_177)) rfl hin rfl (tyX12_ok 1 (by decide)) rfl rfl (Nat.le_of_ble_eq_true rfl) (pr_385 _ _ _ _ _) dX12_init_19 (fun σ_11 H locs hp_12 hP hD hS => ?_)
  have hs_13 := As_of hq_9 hp_12
  have hz_14 := As_es (I := I) hs_13
  have hD_384_385 := (by obtain ⟨-, qa, ra, la, -⟩ := hA_384; exact okD_mk hz_14 (by decide) hL_this ra la (by rw [hs_13.2]; exact pq_us σ_4.2.2.1 385 this (some q_8)) hq_9 : okD σ_11 384 385 this)
  have hE := Et_es hE hz_14
  have hA_384 := okA_es hz_14 (by decide) hA_384
  have hI_388 := Es_i hz_14 hL_this hI_388
  have hI_391 := Es_i hz_14 hL_this hI_391
  have hA_385 := As_ok hs_13 hL_this
  have hK_this := Es_k hz_14 hL_this hK_this
  have hL_this := Es_at hz_14 hL_this
  have hF_384 := okF_up hq_9 er_10 hF_384
  have hF_384 := okF_es hz_14 (by decide) hF_384
  refine lv_aload_n hx hb dX12_init_22 rfl (lv_at hl 0 rfl) ?_
  refine lv_sipush (v := 12720) hx hb dX12_init_23 (by decide) ?_
  refine nw_i (N' := 12720) hx hb (hts _ (tw_c tw_33)) hK hP hD hS hA (by decide) (by decide) (Nat.le_of_ble_eq_true rfl) (Nat.le_of_ble_eq_true rfl) (Nat.le_of_ble_eq_true rfl) dX12_init_26 (fun q_15 r_17 H hq_16 er_17 hP hD hS => ?_)
  refine pr_F (q := q_15) (C := RX12) (T := TX12) (N := 31) hx hb hts (tw_i inlX12) tyX12 tyX12_ok nmX12 hown hK hP hD hS (As_in hL_this) (As_kk hq_16 hL_this hK_this) (by decide) rfl 2 386 (by decide) (hts _ (tw_c tw_178)) rfl hin rfl (tyX12_ok 2 (by decide)) rfl rfl (Nat.le_of_ble_eq_true rfl) (pr_386 _ _ _ _ _) dX12_init_28 (fun σ_18 H locs hp_19 hP hD hS => ?_)
  have hs_20 := As_of hq_16 hp_19
  have hz_21 := As_es (I := I) hs_20
  have hD_384_386 := (by obtain ⟨-, qa, ra, la, -⟩ := hA_384; exact okD_mk hz_21 (by decide) hL_this ra la (by rw [hs_20.2]; exact pq_us σ_11.2.2.1 386 this (some q_15)) hq_16 : okD σ_18 384 386 this)
  have hE := Et_es hE hz_21
  have hA_384 := okA_es hz_21 (by decide) hA_384
  have hA_385 := okA_es hz_21 (by decide) hA_385
  have hD_384_385 := okD_es hz_21 (by decide) (by decide) hD_384_385
  have hI_388 := Es_i hz_21 hL_this hI_388
  have hI_391 := Es_i hz_21 hL_this hI_391
  have hA_386 := As_ok hs_20 hL_this
  have hK_this := Es_k hz_21 hL_this hK_this
  have hL_this := Es_at hz_21 hL_this
  have hF_384 := okF_up hq_16 er_17 hF_384
  have hF_384 := okF_es hz_21 (by decide) hF_384
  refine lv_aload_n hx hb dX12_init_31 rfl (lv_at hl 0 rfl) ?_
  refine lv_sipush (v := 300) hx hb dX12_init_32 (by decide) ?_
  refine nw_i (N' := 300) hx hb (hts _ (tw_c tw_33)) hK hP hD hS hA (by decide) (by decide) (Nat.le_of_ble_eq_true rfl) (Nat.le_of_ble_eq_true rfl) (Nat.le_of_ble_eq_true rfl) dX12_init_35 (fun q_22 r_24 H hq_23 er_24 hP hD hS => ?_)
  refine pr_F (q := q_22) (C := RX12) (T := TX12) (N := 31) hx hb hts (tw_i inlX12) tyX12 tyX12_ok nmX12 hown hK hP hD hS (As_in hL_this) (As_kk hq_23 hL_this hK_this) (by decide) rfl 3 387 (by decide) (hts _ (tw_c tw_179)) rfl hin rfl (tyX12_ok 3 (by decide)) rfl rfl (Nat.le_of_ble_eq_true rfl) (pr_387 _ _ _ _ _) dX12_init_37 (fun σ_25 H locs hp_26 hP hD hS => ?_)
  have hs_27 := As_of hq_23 hp_26
  have hz_28 := As_es (I := I) hs_27
  have hE := Et_es hE hz_28
  have hA_384 := okA_es hz_28 (by decide) hA_384
  have hA_385 := okA_es hz_28 (by decide) hA_385
  have hA_386 := okA_es hz_28 (by decide) hA_386
  have hD_384_385 := okD_es hz_28 (by decide) (by decide) hD_384_385
  have hD_384_386 := okD_es hz_28 (by decide) (by decide) hD_384_386
  have hI_388 := Es_i hz_28 hL_this hI_388
  have hI_391 := Es_i hz_28 hL_this hI_391
  have hA_387 := As_ok hs_27 hL_this
  have hK_this := Es_k hz_28 hL_this hK_this
  have hL_this := Es_at hz_28 hL_this
  have hF_384 := okF_up hq_23 er_24 hF_384
  have hF_384 := okF_es hz_28 (by decide) hF_384
  refine lv_aload_n hx hb dX12_init_40 rfl (lv_at hl 0 rfl) ?_
  refine lv_iconst (v := (-1)) hx hb dX12_init_41 (by decide) ?_
  refine pp_i (v := (-1)) (ty := .int) (C := RX12) (T := TX12) (N := 31) hx hb hts (tw_i inlX12) tyX12 tyX12_ok nmX12 hown hK hP hD hS hL_this hK_this (by decide) rfl 5 389 (by decide) (hts _ (tw_c tw_180)) rfl (by decide +kernel) rfl rfl (Nat.le_of_ble_eq_true rfl) (ps_389 _ _ _ _ _) dX12_init_42 (fun I_29 H locs eI_29 hP hD hS => ?_)
  have hE := Et_put (σ := σ) (σ1 := σ_25) hE eI_29
  have hI_388 := (by rw [eI_29, pq_uf _ _ _ (by decide)]; exact hI_388 : I_29 388 this = 0)
  have hI_391 := (by rw [eI_29, pq_uf _ _ _ (by decide)]; exact hI_391 : I_29 391 this = 0)
  have hI_389 := (by rw [eI_29]; exact pq_us _ _ _ _ : I_29 389 this = (-1))
  have hZ := pq_Zp hZ eI_29 (by decide)
  refine lv_aload_n hx hb dX12_init_45 rfl (lv_at hl 0 rfl) ?_
  refine lv_iconst (v := (-1)) hx hb dX12_init_46 (by decide) ?_
  refine pp_i (v := (-1)) (ty := .int) (C := RX12) (T := TX12) (N := 31) hx hb hts (tw_i inlX12) tyX12 tyX12_ok nmX12 hown hK hP hD hS hL_this hK_this (by decide) rfl 6 390 (by decide) (hts _ (tw_c tw_181)) rfl (by decide +kernel) rfl rfl (Nat.le_of_ble_eq_true rfl) (ps_390 _ _ _ _ _) dX12_init_47 (fun I_30 H locs eI_30 hP hD hS => ?_)
  have hE := Et_put (σ := σ) (σ1 := σ_25) hE eI_30
  have hI_388 := (by rw [eI_30, pq_uf _ _ _ (by decide)]; exact hI_388 : I_30 388 this = 0)
  have hI_391 := (by rw [eI_30, pq_uf _ _ _ (by decide)]; exact hI_391 : I_30 391 this = 0)
  have hI_389 := (by rw [eI_30, pq_uf _ _ _ (by decide)]; exact hI_389 : I_30 389 this = (-1))
  have hI_390 := (by rw [eI_30]; exact pq_us _ _ _ _ : I_30 390 this = (-1))
  have hZ := pq_Zp hZ eI_30 (by decide)
  refine lv_aload_n hx hb dX12_init_50 rfl (lv_at hl 0 rfl) ?_
  refine lv_sipush (v := 160) hx hb dX12_init_51 (by decide) ?_
  refine nw_i (N' := 160) hx hb (hts _ (tw_c tw_33)) hK hP hD hS hA (by decide) (by decide) (Nat.le_of_ble_eq_true rfl) (Nat.le_of_ble_eq_true rfl) (Nat.le_of_ble_eq_true rfl) dX12_init_54 (fun q_31 r_33 H hq_32 er_33 hP hD hS => ?_)
  refine pr_F (q := q_31) (C := RX12) (T := TX12) (N := 31) hx hb hts (tw_i inlX12) tyX12 tyX12_ok nmX12 hown hK hP hD hS (As_in hL_this) (As_kk hq_32 hL_this hK_this) (by decide) rfl 16 400 (by decide) (hts _ (tw_c tw_182)) rfl hin rfl (tyX12_ok 16 (by decide)) rfl rfl (Nat.le_of_ble_eq_true rfl) (pr_400 _ _ _ _ _) dX12_init_56 (fun σ_34 H locs hp_35 hP hD hS => ?_)
  have hs_36 := As_of hq_32 hp_35
  have hz_37 := As_es (I := I_30) hs_36
  have hE := Et_es hE hz_37
  have hA_384 := okA_es hz_37 (by decide) hA_384
  have hA_385 := okA_es hz_37 (by decide) hA_385
  have hA_386 := okA_es hz_37 (by decide) hA_386
  have hA_387 := okA_es hz_37 (by decide) hA_387
  have hD_384_385 := okD_es hz_37 (by decide) (by decide) hD_384_385
  have hD_384_386 := okD_es hz_37 (by decide) (by decide) hD_384_386
  have hI_388 := Es_i hz_37 hL_this hI_388
  have hI_391 := Es_i hz_37 hL_this hI_391
  have hI_389 := Es_i hz_37 hL_this hI_389
  have hI_390 := Es_i hz_37 hL_this hI_390
  have hA_400 := As_ok hs_36 hL_this
  have hK_this := Es_k hz_37 hL_this hK_this
  have hL_this := Es_at hz_37 hL_this
  have hF_384 := okF_up hq_32 er_33 hF_384
  have hF_384 := okF_es hz_37 (by decide) hF_384
  refine lv_aload_n hx hb dX12_init_59 rfl (lv_at hl 0 rfl) ?_
  refine lv_sipush (v := 330) hx hb dX12_init_60 (by decide) ?_
  refine nw_l (N' := 330) hx hb (hts _ (tw_c tw_81)) hK hP hD hS hA (by decide) (by decide) (Nat.le_of_ble_eq_true rfl) (Nat.le_of_ble_eq_true rfl) (Nat.le_of_ble_eq_true rfl) dX12_init_63 (fun q_38 r_40 H hq_39 er_40 hP hD hS => ?_)
  refine pr_F (q := q_38) (C := RX12) (T := TX12) (N := 31) hx hb hts (tw_i inlX12) tyX12 tyX12_ok nmX12 hown hK hP hD hS (As_in hL_this) (As_kk hq_39 hL_this hK_this) (by decide) rfl 20 404 (by decide) (hts _ (tw_c tw_183)) rfl hin rfl (tyX12_ok 20 (by decide)) rfl rfl (Nat.le_of_ble_eq_true rfl) (pr_404 _ _ _ _ _) dX12_init_65 (fun σ_41 H locs hp_42 hP hD hS => ?_)
  have hs_43 := As_of hq_39 hp_42
  have hz_44 := As_es (I := I_30) hs_43
  have hE := Et_es hE hz_44
  have hA_384 := okA_es hz_44 (by decide) hA_384
  have hA_385 := okA_es hz_44 (by decide) hA_385
  have hA_386 := okA_es hz_44 (by decide) hA_386
  have hA_387 := okA_es hz_44 (by decide) hA_387
  have hA_400 := okA_es hz_44 (by decide) hA_400
  have hD_384_385 := okD_es hz_44 (by decide) (by decide) hD_384_385
  have hD_384_386 := okD_es hz_44 (by decide) (by decide) hD_384_386
  have hI_388 := Es_i hz_44 hL_this hI_388
  have hI_391 := Es_i hz_44 hL_this hI_391
  have hI_389 := Es_i hz_44 hL_this hI_389
  have hI_390 := Es_i hz_44 hL_this hI_390
  have hA_404 := As_ok hs_43 hL_this
  have hK_this := Es_k hz_44 hL_this hK_this
  have hL_this := Es_at hz_44 hL_this
  have hF_384 := okF_es hz_44 (by decide) hF_384
  refine lv_aload_n hx hb dX12_init_68 rfl (lv_at hl 0 rfl) ?_
  refine lv_sipush (v := 330) hx hb dX12_init_69 (by decide) ?_
  refine nw_z (N' := 330) hx hb (hts _ (tw_c tw_184)) hK hP hD hS hA (by decide) (by decide) (Nat.le_of_ble_eq_true rfl) (Nat.le_of_ble_eq_true rfl) (Nat.le_of_ble_eq_true rfl) dX12_init_72 (fun q_45 r_47 H hq_46 er_47 hP hD hS => ?_)
  refine pr_F (q := q_45) (C := RX12) (T := TX12) (N := 31) hx hb hts (tw_i inlX12) tyX12 tyX12_ok nmX12 hown hK hP hD hS (As_in hL_this) (As_kk hq_46 hL_this hK_this) (by decide) rfl 21 405 (by decide) (hts _ (tw_c tw_185)) rfl hin rfl (tyX12_ok 21 (by decide)) rfl rfl (Nat.le_of_ble_eq_true rfl) (pr_405 _ _ _ _ _) dX12_init_74 (fun σ_48 H locs hp_49 hP hD hS => ?_)
  have hs_50 := As_of hq_46 hp_49
  have hz_51 := As_es (I := I_30) hs_50
  have hE := Et_es hE hz_51
  have hA_384 := okA_es hz_51 (by decide) hA_384
  have hA_385 := okA_es hz_51 (by decide) hA_385
  have hA_386 := okA_es hz_51 (by decide) hA_386
  have hA_387 := okA_es hz_51 (by decide) hA_387
  have hA_400 := okA_es hz_51 (by decide) hA_400
  have hA_404 := okA_es hz_51 (by decide) hA_404
  have hD_384_385 := okD_es hz_51 (by decide) (by decide) hD_384_385
  have hD_384_386 := okD_es hz_51 (by decide) (by decide) hD_384_386
  have hI_388 := Es_i hz_51 hL_this hI_388
  have hI_391 := Es_i hz_51 hL_this hI_391
  have hI_389 := Es_i hz_51 hL_this hI_389
  have hI_390 := Es_i hz_51 hL_this hI_390
  have hA_405 := As_ok hs_50 hL_this
  have hK_this := Es_k hz_51 hL_this hK_this
  have hL_this := Es_at hz_51 hL_this
  have hF_384 := okF_up hq_46 er_47 hF_384
  have hF_384 := okF_es hz_51 (by decide) hF_384
  refine lv_aload_n hx hb dX12_init_77 rfl (lv_at hl 0 rfl) ?_
  refine lv_iconst (v := 5) hx hb dX12_init_78 (by decide) ?_
  refine nw_i (N' := 5) hx hb (hts _ (tw_c tw_33)) hK hP hD hS hA (by decide) (by decide) (Nat.le_of_ble_eq_true rfl) (Nat.le_of_ble_eq_true rfl) (Nat.le_of_ble_eq_true rfl) dX12_init_79 (fun q_52 r_54 H hq_53 er_54 hP hD hS => ?_)
  refine pr_F (q := q_52) (C := RX12) (T := TX12) (N := 31) hx hb hts (tw_i inlX12) tyX12 tyX12_ok nmX12 hown hK hP hD hS (As_in hL_this) (As_kk hq_53 hL_this hK_this) (by decide) rfl 24 408 (by decide) (hts _ (tw_c tw_186)) rfl hin rfl (tyX12_ok 24 (by decide)) rfl rfl (Nat.le_of_ble_eq_true rfl) (pr_408 _ _ _ _ _) dX12_init_81 (fun σ_55 H locs hp_56 hP hD hS => ?_)
  have hs_57 := As_of hq_53 hp_56
  have hz_58 := As_es (I := I_30) hs_57
  have hE := Et_es hE hz_58
  have hA_384 := okA_es hz_58 (by decide) hA_384
  have hA_385 := okA_es hz_58 (by decide) hA_385
  have hA_386 := okA_es hz_58 (by decide) hA_386
  have hA_387 := okA_es hz_58 (by decide) hA_387
  have hA_400 := okA_es hz_58 (by decide) hA_400
  have hA_404 := okA_es hz_58 (by decide) hA_404
  have hA_405 := okA_es hz_58 (by decide) hA_405
  have hD_384_385 := okD_es hz_58 (by decide) (by decide) hD_384_385
  have hD_384_386 := okD_es hz_58 (by decide) (by decide) hD_384_386
  have hI_388 := Es_i hz_58 hL_this hI_388
  have hI_391 := Es_i hz_58 hL_this hI_391
  have hI_389 := Es_i hz_58 hL_this hI_389
  have hI_390 := Es_i hz_58 hL_this hI_390
  have hA_408 := As_ok hs_57 hL_this
  have hK_this := Es_k hz_58 hL_this hK_this
  have hL_this := Es_at hz_58 hL_this
  have hF_384 := okF_up hq_53 er_54 hF_384
  have hF_384 := okF_es hz_58 (by decide) hF_384
  refine lv_aload_n hx hb dX12_init_84 rfl (lv_at hl 0 rfl) ?_
  refine lv_bipush (v := 40) hx hb dX12_init_85 (by decide) ?_
  refine nw_i (N' := 40) hx hb (hts _ (tw_c tw_33)) hK hP hD hS hA (by decide) (by decide) (Nat.le_of_ble_eq_true rfl) (Nat.le_of_ble_eq_true rfl) (Nat.le_of_ble_eq_true rfl) dX12_init_87 (fun q_59 r_61 H hq_60 er_61 hP hD hS => ?_)
  refine pr_F (q := q_59) (C := RX12) (T := TX12) (N := 31) hx hb hts (tw_i inlX12) tyX12 tyX12_ok nmX12 hown hK hP hD hS (As_in hL_this) (As_kk hq_60 hL_this hK_this) (by decide) rfl 25 409 (by decide) (hts _ (tw_c tw_187)) rfl hin rfl (tyX12_ok 25 (by decide)) rfl rfl (Nat.le_of_ble_eq_true rfl) (pr_409 _ _ _ _ _) dX12_init_89 (fun σ_62 H locs hp_63 hP hD hS => ?_)
  have hs_64 := As_of hq_60 hp_63
  have hz_65 := As_es (I := I_30) hs_64
  have hE := Et_es hE hz_65
  have hA_384 := okA_es hz_65 (by decide) hA_384
  have hA_385 := okA_es hz_65 (by decide) hA_385
  have hA_386 := okA_es hz_65 (by decide) hA_386
  have hA_387 := okA_es hz_65 (by decide) hA_387
  have hA_400 := okA_es hz_65 (by decide) hA_400
  have hA_404 := okA_es hz_65 (by decide) hA_404
  have hA_405 := okA_es hz_65 (by decide) hA_405
  have hA_408 := okA_es hz_65 (by decide) hA_408
  have hD_384_385 := okD_es hz_65 (by decide) (by decide) hD_384_385
  have hD_384_386 := okD_es hz_65 (by decide) (by decide) hD_384_386
  have hI_388 := Es_i hz_65 hL_this hI_388
  have hI_391 := Es_i hz_65 hL_this hI_391
  have hI_389 := Es_i hz_65 hL_this hI_389
  have hI_390 := Es_i hz_65 hL_this hI_390
  have hA_409 := As_ok hs_64 hL_this
  have hK_this := Es_k hz_65 hL_this hK_this
  have hL_this := Es_at hz_65 hL_this
  have hF_384 := okF_up hq_60 er_61 hF_384
  have hF_384 := okF_es hz_65 (by decide) hF_384
  refine lv_aload_n hx hb dX12_init_92 rfl (lv_at hl 0 rfl) ?_
  refine lv_bipush (v := 40) hx hb dX12_init_93 (by decide) ?_
  refine nw_i (N' := 40) hx hb (hts _ (tw_c tw_33)) hK hP hD hS hA (by decide) (by decide) (Nat.le_of_ble_eq_true rfl) (Nat.le_of_ble_eq_true rfl) (Nat.le_of_ble_eq_true rfl) dX12_init_95 (fun q_66 r_68 H hq_67 er_68 hP hD hS => ?_)
  refine pr_F (q := q_66) (C := RX12) (T := TX12) (N := 31) hx hb hts (tw_i inlX12) tyX12 tyX12_ok nmX12 hown hK hP hD hS (As_in hL_this) (As_kk hq_67 hL_this hK_this) (by decide) rfl 27 411 (by decide) (hts _ (tw_c tw_188)) rfl hin rfl (tyX12_ok 27 (by decide)) rfl rfl (Nat.le_of_ble_eq_true rfl) (pr_411 _ _ _ _ _) dX12_init_97 (fun σ_69 H locs hp_70 hP hD hS => ?_)
  have hs_71 := As_of hq_67 hp_70
  have hz_72 := As_es (I := I_30) hs_71
  have hE := Et_es hE hz_72
  have hA_384 := okA_es hz_72 (by decide) hA_384
  have hA_385 := okA_es hz_72 (by decide) hA_385
  have hA_386 := okA_es hz_72 (by decide) hA_386
  have hA_387 := okA_es hz_72 (by decide) hA_387
  have hA_400 := okA_es hz_72 (by decide) hA_400
  have hA_404 := okA_es hz_72 (by decide) hA_404
  have hA_405 := okA_es hz_72 (by decide) hA_405
  have hA_408 := okA_es hz_72 (by decide) hA_408
  have hA_409 := okA_es hz_72 (by decide) hA_409
  have hD_384_385 := okD_es hz_72 (by decide) (by decide) hD_384_385
  have hD_384_386 := okD_es hz_72 (by decide) (by decide) hD_384_386
  have hI_388 := Es_i hz_72 hL_this hI_388
  have hI_391 := Es_i hz_72 hL_this hI_391
  have hI_389 := Es_i hz_72 hL_this hI_389
  have hI_390 := Es_i hz_72 hL_this hI_390
  have hA_411 := As_ok hs_71 hL_this
  have hK_this := Es_k hz_72 hL_this hK_this
  have hL_this := Es_at hz_72 hL_this
  have hF_384 := okF_up hq_67 er_68 hF_384
  have hF_384 := okF_es hz_72 (by decide) hF_384
  refine lv_aload_n hx hb dX12_init_100 rfl (lv_at hl 0 rfl) ?_
  refine lv_bipush (v := 40) hx hb dX12_init_101 (by decide) ?_
  refine nw_z (N' := 40) hx hb (hts _ (tw_c tw_184)) hK hP hD hS hA (by decide) (by decide) (Nat.le_of_ble_eq_true rfl) (Nat.le_of_ble_eq_true rfl) (Nat.le_of_ble_eq_true rfl) dX12_init_103 (fun q_73 r_75 H hq_74 er_75 hP hD hS => ?_)
  refine pr_F (q := q_73) (C := RX12) (T := TX12) (N := 31) hx hb hts (tw_i inlX12) tyX12 tyX12_ok nmX12 hown hK hP hD hS (As_in hL_this) (As_kk hq_74 hL_this hK_this) (by decide) rfl 28 412 (by decide) (hts _ (tw_c tw_189)) rfl hin rfl (tyX12_ok 28 (by decide)) rfl rfl (Nat.le_of_ble_eq_true rfl) (pr_412 _ _ _ _ _) dX12_init_105 (fun σ_76 H locs hp_77 hP hD hS => ?_)
  have hs_78 := As_of hq_74 hp_77
  have hz_79 := As_es (I := I_30) hs_78
  have hE := Et_es hE hz_79
  have hA_384 := okA_es hz_79 (by decide) hA_384
  have hA_385 := okA_es hz_79 (by decide) hA_385
  have hA_386 := okA_es hz_79 (by decide) hA_386
  have hA_387 := okA_es hz_79 (by decide) hA_387
  have hA_400 := okA_es hz_79 (by decide) hA_400
  have hA_404 := okA_es hz_79 (by decide) hA_404
  have hA_405 := okA_es hz_79 (by decide) hA_405
  have hA_408 := okA_es hz_79 (by decide) hA_408
  have hA_409 := okA_es hz_79 (by decide) hA_409
  have hA_411 := okA_es hz_79 (by decide) hA_411
  have hD_384_385 := okD_es hz_79 (by decide) (by decide) hD_384_385
  have hD_384_386 := okD_es hz_79 (by decide) (by decide) hD_384_386
  have hI_388 := Es_i hz_79 hL_this hI_388
  have hI_391 := Es_i hz_79 hL_this hI_391
  have hI_389 := Es_i hz_79 hL_this hI_389
  have hI_390 := Es_i hz_79 hL_this hI_390
  have hA_412 := As_ok hs_78 hL_this
  have hK_this := Es_k hz_79 hL_this hK_this
  have hL_this := Es_at hz_79 hL_this
  have hF_384 := okF_up hq_74 er_75 hF_384
  have hF_384 := okF_es hz_79 (by decide) hF_384
  refine lv_aload_n hx hb dX12_init_108 rfl (lv_at hl 0 rfl) ?_
  refine lv_iconst (v := 5) hx hb dX12_init_109 (by decide) ?_
  refine nw_i (N' := 5) hx hb (hts _ (tw_c tw_33)) hK hP hD hS hA (by decide) (by decide) (Nat.le_of_ble_eq_true rfl) (Nat.le_of_ble_eq_true rfl) (Nat.le_of_ble_eq_true rfl) dX12_init_110 (fun q_80 r_82 H hq_81 er_82 hP hD hS => ?_)
  refine pr_F (q := q_80) (C := RX12) (T := TX12) (N := 31) hx hb hts (tw_i inlX12) tyX12 tyX12_ok nmX12 hown hK hP hD hS (As_in hL_this) (As_kk hq_81 hL_this hK_this) (by decide) rfl 29 413 (by decide) (hts _ (tw_c tw_190)) rfl hin rfl (tyX12_ok 29 (by decide)) rfl rfl (Nat.le_of_ble_eq_true rfl) (pr_413 _ _ _ _ _) dX12_init_112 (fun σ_83 H locs hp_84 hP hD hS => ?_)
  have hs_85 := As_of hq_81 hp_84
  have hz_86 := As_es (I := I_30) hs_85
  have hE := Et_es hE hz_86
  have hA_384 := okA_es hz_86 (by decide) hA_384
  have hA_385 := okA_es hz_86 (by decide) hA_385
  have hA_386 := okA_es hz_86 (by decide) hA_386
  have hA_387 := okA_es hz_86 (by decide) hA_387
  have hA_400 := okA_es hz_86 (by decide) hA_400
  have hA_404 := okA_es hz_86 (by decide) hA_404
  have hA_405 := okA_es hz_86 (by decide) hA_405
  have hA_408 := okA_es hz_86 (by decide) hA_408
  have hA_409 := okA_es hz_86 (by decide) hA_409
  have hA_411 := okA_es hz_86 (by decide) hA_411
  have hA_412 := okA_es hz_86 (by decide) hA_412
  have hD_384_385 := okD_es hz_86 (by decide) (by decide) hD_384_385
  have hD_384_386 := okD_es hz_86 (by decide) (by decide) hD_384_386
  have hI_388 := Es_i hz_86 hL_this hI_388
  have hI_391 := Es_i hz_86 hL_this hI_391
  have hI_389 := Es_i hz_86 hL_this hI_389
  have hI_390 := Es_i hz_86 hL_this hI_390
  have hA_413 := As_ok hs_85 hL_this
  have hK_this := Es_k hz_86 hL_this hK_this
  have hL_this := Es_at hz_86 hL_this
  have hF_384 := okF_up hq_81 er_82 hF_384
  have hF_384 := okF_es hz_86 (by decide) hF_384
  refine lv_aload_n hx hb dX12_init_115 rfl (lv_at hl 0 rfl) ?_
  refine lv_iconst (v := 5) hx hb dX12_init_116 (by decide) ?_
  refine nw_i (N' := 5) hx hb (hts _ (tw_c tw_33)) hK hP hD hS hA (by decide) (by decide) (Nat.le_of_ble_eq_true rfl) (Nat.le_of_ble_eq_true rfl) (Nat.le_of_ble_eq_true rfl) dX12_init_117 (fun q_87 r_89 H hq_88 er_89 hP hD hS => ?_)
  refine pr_F (q := q_87) (C := RX12) (T := TX12) (N := 31) hx hb hts (tw_i inlX12) tyX12 tyX12_ok nmX12 hown hK hP hD hS (As_in hL_this) (As_kk hq_88 hL_this hK_this) (by decide) rfl 30 414 (by decide) (hts _ (tw_c tw_191)) rfl hin rfl (tyX12_ok 30 (by decide)) rfl rfl (Nat.le_of_ble_eq_true rfl) (pr_414 _ _ _ _ _) dX12_init_119 (fun σ_90 H locs hp_91 hP hD hS => ?_)
  have hs_92 := As_of hq_88 hp_91
  have hz_93 := As_es (I := I_30) hs_92
  have hD_384_414 := (by obtain ⟨-, qa, ra, la, -⟩ := hA_384; exact okD_mk hz_93 (by decide) hL_this ra la (by rw [hs_92.2]; exact pq_us σ_83.2.2.1 414 this (some q_87)) hq_88 : okD σ_90 384 414 this)
  have hD_386_414 := (by obtain ⟨-, qa, ra, la, -⟩ := hA_386; exact okD_mk hz_93 (by decide) hL_this ra la (by rw [hs_92.2]; exact pq_us σ_83.2.2.1 414 this (some q_87)) hq_88 : okD σ_90 386 414 this)
  have hE := Et_es hE hz_93
  have hA_384 := okA_es hz_93 (by decide) hA_384
  have hA_385 := okA_es hz_93 (by decide) hA_385
  have hA_386 := okA_es hz_93 (by decide) hA_386
  have hA_387 := okA_es hz_93 (by decide) hA_387
  have hA_400 := okA_es hz_93 (by decide) hA_400
  have hA_404 := okA_es hz_93 (by decide) hA_404
  have hA_405 := okA_es hz_93 (by decide) hA_405
  have hA_408 := okA_es hz_93 (by decide) hA_408
  have hA_409 := okA_es hz_93 (by decide) hA_409
  have hA_411 := okA_es hz_93 (by decide) hA_411
  have hA_412 := okA_es hz_93 (by decide) hA_412
  have hA_413 := okA_es hz_93 (by decide) hA_413
  have hD_384_385 := okD_es hz_93 (by decide) (by decide) hD_384_385
  have hD_384_386 := okD_es hz_93 (by decide) (by decide) hD_384_386
  have hI_388 := Es_i hz_93 hL_this hI_388
  have hI_391 := Es_i hz_93 hL_this hI_391
  have hI_389 := Es_i hz_93 hL_this hI_389
  have hI_390 := Es_i hz_93 hL_this hI_390
  have hA_414 := As_ok hs_92 hL_this
  have hK_this := Es_k hz_93 hL_this hK_this
  have hL_this := Es_at hz_93 hL_this
  have hF_384 := okF_up hq_88 er_89 hF_384
  have hF_384 := okF_es hz_93 (by decide) hF_384
  refine lv_aload_n hx hb dX12_init_122 rfl (lv_at hl 0 rfl) ?_
  obtain ⟨-, w_94, hR_w_94, hL_w_94, hK_w_94, hN_w_94⟩ := id hA_384
  refine pg_f (v := .ref w_94) (C := RX12) (T := TX12) (N := 31) hx hb hts (tw_i inlX12) hown hK hP hL_this hK_this (by decide) rfl 0 (by decide) (hts _ (tw_c tw_176)) (pq_hv rfl hR_w_94) dX12_init_123 ?_
  have hf := okF_at hF_384 hR_w_94
  refine lv_bipush (v := 12) hx hb dX12_init_126 (by decide) ?_
  refine lv_iconst (v := (-1)) hx hb dX12_init_128 (by decide) ?_
  refine pt_i hx hb hK hP hD hS hL_w_94 hK_w_94 hN_w_94 (vp_in_iff.mpr (by decide)) dX12_init_129 (fun r_95 H locs er_95 hP hD hS => ?_)
  have hf := fmq_w hf er_95 (by decide) (by decide)
  refine lv_aload_n hx hb dX12_init_130 rfl (lv_at hl 0 rfl) ?_
  refine pg_f (v := .ref w_94) (C := RX12) (T := TX12) (N := 31) hx hb hts (tw_i inlX12) hown hK hP hL_this hK_this (by decide) rfl 0 (by decide) (hts _ (tw_c tw_176)) (pq_hv rfl hR_w_94) dX12_init_131 ?_
  refine lv_bipush (v := 13) hx hb dX12_init_134 (by decide) ?_
  refine lv_bipush (v := 29) hx hb dX12_init_136 (by decide) ?_
  refine pt_i hx hb hK hP hD hS hL_w_94 hK_w_94 hN_w_94 (vp_in_iff.mpr (by decide)) dX12_init_138 (fun r_96 H locs er_96 hP hD hS => ?_)
  have hf := fmq_w hf er_96 (by decide) (by decide)
  refine lv_aload_n hx hb dX12_init_139 rfl (lv_at hl 0 rfl) ?_
  refine pg_f (v := .ref w_94) (C := RX12) (T := TX12) (N := 31) hx hb hts (tw_i inlX12) hown hK hP hL_this hK_this (by decide) rfl 0 (by decide) (hts _ (tw_c tw_176)) (pq_hv rfl hR_w_94) dX12_init_140 ?_
  refine lv_bipush (v := 14) hx hb dX12_init_143 (by decide) ?_
  refine lv_iconst (v := 1) hx hb dX12_init_145 (by decide) ?_
  refine pt_i hx hb hK hP hD hS hL_w_94 hK_w_94 hN_w_94 (vp_in_iff.mpr (by decide)) dX12_init_146 (fun r_97 H locs er_97 hP hD hS => ?_)
  have hf := fmq_w hf er_97 (by decide) (by decide)
  refine lv_aload_n hx hb dX12_init_147 rfl (lv_at hl 0 rfl) ?_
  refine pg_f (v := .ref w_94) (C := RX12) (T := TX12) (N := 31) hx hb hts (tw_i inlX12) hown hK hP hL_this hK_this (by decide) rfl 0 (by decide) (hts _ (tw_c tw_176)) (pq_hv rfl hR_w_94) dX12_init_148 ?_
  refine lv_bipush (v := 15) hx hb dX12_init_151 (by decide) ?_
  refine lv_bipush (v := 10) hx hb dX12_init_153 (by decide) ?_
  refine pt_i hx hb hK hP hD hS hL_w_94 hK_w_94 hN_w_94 (vp_in_iff.mpr (by decide)) dX12_init_155 (fun r_98 H locs er_98 hP hD hS => ?_)
  have hf := fmq_w hf er_98 (by decide) (by decide)
  refine lv_aload_n hx hb dX12_init_156 rfl (lv_at hl 0 rfl) ?_
  refine pg_f (v := .ref w_94) (C := RX12) (T := TX12) (N := 31) hx hb hts (tw_i inlX12) hown hK hP hL_this hK_this (by decide) rfl 0 (by decide) (hts _ (tw_c tw_176)) (pq_hv rfl hR_w_94) dX12_init_157 ?_
  refine lv_bipush (v := 16) hx hb dX12_init_160 (by decide) ?_
  refine lv_iconst (v := 3) hx hb dX12_init_162 (by decide) ?_
  refine pt_i hx hb hK hP hD hS hL_w_94 hK_w_94 hN_w_94 (vp_in_iff.mpr (by decide)) dX12_init_163 (fun r_99 H locs er_99 hP hD hS => ?_)
  have hf := fmq_w hf er_99 (by decide) (by decide)
  refine lv_aload_n hx hb dX12_init_164 rfl (lv_at hl 0 rfl) ?_
  refine pg_f (v := .ref w_94) (C := RX12) (T := TX12) (N := 31) hx hb hts (tw_i inlX12) hown hK hP hL_this hK_this (by decide) rfl 0 (by decide) (hts _ (tw_c tw_176)) (pq_hv rfl hR_w_94) dX12_init_165 ?_
  refine lv_bipush (v := 17) hx hb dX12_init_168 (by decide) ?_
  refine lv_iconst (v := 5) hx hb dX12_init_170 (by decide) ?_
  refine pt_i hx hb hK hP hD hS hL_w_94 hK_w_94 hN_w_94 (vp_in_iff.mpr (by decide)) dX12_init_171 (fun r_100 H locs er_100 hP hD hS => ?_)
  have hf := fmq_w hf er_100 (by decide) (by decide)
  refine lv_iconst (v := 0) hx hb dX12_init_172 (by decide) ?_
  refine lv_istore_n (lv' := [(1, .int 0), (0, .ref this)]) hx hb dX12_init_173 rfl hl (by decide) rfl (fun ls hl => ?_)
  refine lv_iload_n hx hb dX12_init_174 rfl (lv_at hl 0 rfl) ?_
  refine lv_bipush (v := 12) hx hb dX12_init_175 (by decide) ?_
  refine lv_icmp_ge (tgt := 246) hx hb dX12_init_177 (by decide) (fun c_101 => absurd c_101 (by decide)) (fun c_101 => ?_)
  refine lv_aload_n hx hb dX12_init_180 rfl (lv_at hl 1 rfl) ?_
  refine pg_f (v := .ref w_94) (C := RX12) (T := TX12) (N := 31) hx hb hts (tw_i inlX12) hown hK hP hL_this hK_this (by decide) rfl 0 (by decide) (hts _ (tw_c tw_176)) (pq_hv rfl hR_w_94) dX12_init_181 ?_
  refine lv_bipush (v := 20) hx hb dX12_init_184 (by decide) ?_
  refine lv_iconst (v := 5) hx hb dX12_init_186 (by decide) ?_
  refine lv_iload_n hx hb dX12_init_187 rfl (lv_at hl 0 rfl) ?_
  refine lv_imul hx hb dX12_init_188 ?_
  refine lv_tov 0 (by decide) ?_
  refine lv_iadd hx hb dX12_init_189 ?_
  refine lv_tov 20 (by decide) ?_
  refine lv_iconst (v := 1) hx hb dX12_init_190 (by decide) ?_
  refine lv_iadd hx hb dX12_init_191 ?_
  refine lv_tov 21 (by decide) ?_
  refine lv_sipush (v := 500) hx hb dX12_init_192 (by decide) ?_
  refine pt_i hx hb hK hP hD hS hL_w_94 hK_w_94 hN_w_94 (vp_in_iff.mpr (by decide)) dX12_init_195 (fun r_102 H locs er_102 hP hD hS => ?_)
  have hf := fmq_hi hf er_102 (by decide)
  refine lv_aload_n hx hb dX12_init_196 rfl (lv_at hl 1 rfl) ?_
  refine pg_f (v := .ref w_94) (C := RX12) (T := TX12) (N := 31) hx hb hts (tw_i inlX12) hown hK hP hL_this hK_this (by decide) rfl 0 (by decide) (hts _ (tw_c tw_176)) (pq_hv rfl hR_w_94) dX12_init_197 ?_
  refine lv_bipush (v := 20) hx hb dX12_init_200 (by decide) ?_
  refine lv_iconst (v := 5) hx hb dX12_init_202 (by decide) ?_
  refine lv_iload_n hx hb dX12_init_203 rfl (lv_at hl 0 rfl) ?_
  refine lv_imul hx hb dX12_init_204 ?_
  refine lv_tov 0 (by decide) ?_
  refine lv_iadd hx hb dX12_init_205 ?_
  refine lv_tov 20 (by decide) ?_
  refine lv_iconst (v := 2) hx hb dX12_init_206 (by decide) ?_
  refine lv_iadd hx hb dX12_init_207 ?_
  refine lv_tov 22 (by decide) ?_
  refine lv_bipush (v := 25) hx hb dX12_init_208 (by decide) ?_
  refine pt_i hx hb hK hP hD hS hL_w_94 hK_w_94 hN_w_94 (vp_in_iff.mpr (by decide)) dX12_init_210 (fun r_103 H locs er_103 hP hD hS => ?_)
  have hf := fmq_hi hf er_103 (by decide)
  refine lv_aload_n hx hb dX12_init_211 rfl (lv_at hl 1 rfl) ?_
  refine pg_f (v := .ref w_94) (C := RX12) (T := TX12) (N := 31) hx hb hts (tw_i inlX12) hown hK hP hL_this hK_this (by decide) rfl 0 (by decide) (hts _ (tw_c tw_176)) (pq_hv rfl hR_w_94) dX12_init_212 ?_
  refine lv_bipush (v := 20) hx hb dX12_init_215 (by decide) ?_
  refine lv_iconst (v := 5) hx hb dX12_init_217 (by decide) ?_
  refine lv_iload_n hx hb dX12_init_218 rfl (lv_at hl 0 rfl) ?_
  refine lv_imul hx hb dX12_init_219 ?_
  refine lv_tov 0 (by decide) ?_
  refine lv_iadd hx hb dX12_init_220 ?_
  refine lv_tov 20 (by decide) ?_
  refine lv_iconst (v := 3) hx hb dX12_init_221 (by decide) ?_
  refine lv_iadd hx hb dX12_init_222 ?_
  refine lv_tov 23 (by decide) ?_
  refine lv_iconst (v := 5) hx hb dX12_init_223 (by decide) ?_
  refine pt_i hx hb hK hP hD hS hL_w_94 hK_w_94 hN_w_94 (vp_in_iff.mpr (by decide)) dX12_init_224 (fun r_104 H locs er_104 hP hD hS => ?_)
  have hf := fmq_hi hf er_104 (by decide)
  refine lv_aload_n hx hb dX12_init_225 rfl (lv_at hl 1 rfl) ?_
  refine pg_f (v := .ref w_94) (C := RX12) (T := TX12) (N := 31) hx hb hts (tw_i inlX12) hown hK hP hL_this hK_this (by decide) rfl 0 (by decide) (hts _ (tw_c tw_176)) (pq_hv rfl hR_w_94) dX12_init_226 ?_
  refine lv_bipush (v := 20) hx hb dX12_init_229 (by decide) ?_
  refine lv_iconst (v := 5) hx hb dX12_init_231 (by decide) ?_
  refine lv_iload_n hx hb dX12_init_232 rfl (lv_at hl 0 rfl) ?_
  refine lv_imul hx hb dX12_init_233 ?_
  refine lv_tov 0 (by decide) ?_
  refine lv_iadd hx hb dX12_init_234 ?_
  refine lv_tov 20 (by decide) ?_
  refine lv_iconst (v := 4) hx hb dX12_init_235 (by decide) ?_
  refine lv_iadd hx hb dX12_init_236 ?_
  refine lv_tov 24 (by decide) ?_
  refine lv_bipush (v := 20) hx hb dX12_init_237 (by decide) ?_
  refine pt_i hx hb hK hP hD hS hL_w_94 hK_w_94 hN_w_94 (vp_in_iff.mpr (by decide)) dX12_init_239 (fun r_105 H locs er_105 hP hD hS => ?_)
  have hf := fmq_hi hf er_105 (by decide)
  refine lv_iinc (v := 1) (lv' := [(1, .int 1), (0, .ref this)]) hx hb dX12_init_240 hl (k := 0) rfl (by decide) (by decide) rfl (fun ls hl => ?_)
  refine lv_goto (tgt := 174) hx hb dX12_init_243 (by decide) ?_
  refine lv_iload_n hx hb dX12_init_174 rfl (lv_at hl 0 rfl) ?_
  refine lv_bipush (v := 12) hx hb dX12_init_175 (by decide) ?_
  refine lv_icmp_ge (tgt := 246) hx hb dX12_init_177 (by decide) (fun c_106 => absurd c_106 (by decide)) (fun c_106 => ?_)
  refine lv_aload_n hx hb dX12_init_180 rfl (lv_at hl 1 rfl) ?_
  refine pg_f (v := .ref w_94) (C := RX12) (T := TX12) (N := 31) hx hb hts (tw_i inlX12) hown hK hP hL_this hK_this (by decide) rfl 0 (by decide) (hts _ (tw_c tw_176)) (pq_hv rfl hR_w_94) dX12_init_181 ?_
  refine lv_bipush (v := 20) hx hb dX12_init_184 (by decide) ?_
  refine lv_iconst (v := 5) hx hb dX12_init_186 (by decide) ?_
  refine lv_iload_n hx hb dX12_init_187 rfl (lv_at hl 0 rfl) ?_
  refine lv_imul hx hb dX12_init_188 ?_
  refine lv_tov 5 (by decide) ?_
  refine lv_iadd hx hb dX12_init_189 ?_
  refine lv_tov 25 (by decide) ?_
  refine lv_iconst (v := 1) hx hb dX12_init_190 (by decide) ?_
  refine lv_iadd hx hb dX12_init_191 ?_
  refine lv_tov 26 (by decide) ?_
  refine lv_sipush (v := 500) hx hb dX12_init_192 (by decide) ?_
  refine pt_i hx hb hK hP hD hS hL_w_94 hK_w_94 hN_w_94 (vp_in_iff.mpr (by decide)) dX12_init_195 (fun r_107 H locs er_107 hP hD hS => ?_)
  have hf := fmq_hi hf er_107 (by decide)
  refine lv_aload_n hx hb dX12_init_196 rfl (lv_at hl 1 rfl) ?_
  refine pg_f (v := .ref w_94) (C := RX12) (T := TX12) (N := 31) hx hb hts (tw_i inlX12) hown hK hP hL_this hK_this (by decide) rfl 0 (by decide) (hts _ (tw_c tw_176)) (pq_hv rfl hR_w_94) dX12_init_197 ?_
  refine lv_bipush (v := 20) hx hb dX12_init_200 (by decide) ?_
  refine lv_iconst (v := 5) hx hb dX12_init_202 (by decide) ?_
  refine lv_iload_n hx hb dX12_init_203 rfl (lv_at hl 0 rfl) ?_
  refine lv_imul hx hb dX12_init_204 ?_
  refine lv_tov 5 (by decide) ?_
  refine lv_iadd hx hb dX12_init_205 ?_
  refine lv_tov 25 (by decide) ?_
  refine lv_iconst (v := 2) hx hb dX12_init_206 (by decide) ?_
  refine lv_iadd hx hb dX12_init_207 ?_
  refine lv_tov 27 (by decide) ?_
  refine lv_bipush (v := 25) hx hb dX12_init_208 (by decide) ?_
  refine pt_i hx hb hK hP hD hS hL_w_94 hK_w_94 hN_w_94 (vp_in_iff.mpr (by decide)) dX12_init_210 (fun r_108 H locs er_108 hP hD hS => ?_)
  have hf := fmq_hi hf er_108 (by decide)
  refine lv_aload_n hx hb dX12_init_211 rfl (lv_at hl 1 rfl) ?_
  refine pg_f (v := .ref w_94) (C := RX12) (T := TX12) (N := 31) hx hb hts (tw_i inlX12) hown hK hP hL_this hK_this (by decide) rfl 0 (by decide) (hts _ (tw_c tw_176)) (pq_hv rfl hR_w_94) dX12_init_212 ?_
  refine lv_bipush (v := 20) hx hb dX12_init_215 (by decide) ?_
  refine lv_iconst (v := 5) hx hb dX12_init_217 (by decide) ?_
  refine lv_iload_n hx hb dX12_init_218 rfl (lv_at hl 0 rfl) ?_
  refine lv_imul hx hb dX12_init_219 ?_
  refine lv_tov 5 (by decide) ?_
  refine lv_iadd hx hb dX12_init_220 ?_
  refine lv_tov 25 (by decide) ?_
  refine lv_iconst (v := 3) hx hb dX12_init_221 (by decide) ?_
  refine lv_iadd hx hb dX12_init_222 ?_
  refine lv_tov 28 (by decide) ?_
  refine lv_iconst (v := 5) hx hb dX12_init_223 (by decide) ?_
  refine pt_i hx hb hK hP hD hS hL_w_94 hK_w_94 hN_w_94 (vp_in_iff.mpr (by decide)) dX12_init_224 (fun r_109 H locs er_109 hP hD hS => ?_)
  have hf := fmq_hi hf er_109 (by decide)
  refine lv_aload_n hx hb dX12_init_225 rfl (lv_at hl 1 rfl) ?_
  refine pg_f (v := .ref w_94) (C := RX12) (T := TX12) (N := 31) hx hb hts (tw_i inlX12) hown hK hP hL_this hK_this (by decide) rfl 0 (by decide) (hts _ (tw_c tw_176)) (pq_hv rfl hR_w_94) dX12_init_226 ?_
  refine lv_bipush (v := 20) hx hb dX12_init_229 (by decide) ?_
  refine lv_iconst (v := 5) hx hb dX12_init_231 (by decide) ?_
  refine lv_iload_n hx hb dX12_init_232 rfl (lv_at hl 0 rfl) ?_
  refine lv_imul hx hb dX12_init_233 ?_
  refine lv_tov 5 (by decide) ?_
  refine lv_iadd hx hb dX12_init_234 ?_
  refine lv_tov 25 (by decide) ?_
  refine lv_iconst (v := 4) hx hb dX12_init_235 (by decide) ?_
  refine lv_iadd hx hb dX12_init_236 ?_
  refine lv_tov 29 (by decide) ?_
  refine lv_bipush (v := 20) hx hb dX12_init_237 (by decide) ?_
  refine pt_i hx hb hK hP hD hS hL_w_94 hK_w_94 hN_w_94 (vp_in_iff.mpr (by decide)) dX12_init_239 (fun r_110 H locs er_110 hP hD hS => ?_)
  have hf := fmq_hi hf er_110 (by decide)
  refine lv_iinc (v := 2) (lv' := [(1, .int 2), (0, .ref this)]) hx hb dX12_init_240 hl (k := 0) rfl (by decide) (by decide) rfl (fun ls hl => ?_)
  refine lv_goto (tgt := 174) hx hb dX12_init_243 (by decide) ?_
  refine lv_iload_n hx hb dX12_init_174 rfl (lv_at hl 0 rfl) ?_
  refine lv_bipush (v := 12) hx hb dX12_init_175 (by decide) ?_
  refine lv_icmp_ge (tgt := 246) hx hb dX12_init_177 (by decide) (fun c_111 => absurd c_111 (by decide)) (fun c_111 => ?_)
  refine lv_aload_n hx hb dX12_init_180 rfl (lv_at hl 1 rfl) ?_
  refine pg_f (v := .ref w_94) (C := RX12) (T := TX12) (N := 31) hx hb hts (tw_i inlX12) hown hK hP hL_this hK_this (by decide) rfl 0 (by decide) (hts _ (tw_c tw_176)) (pq_hv rfl hR_w_94) dX12_init_181 ?_
  refine lv_bipush (v := 20) hx hb dX12_init_184 (by decide) ?_
  refine lv_iconst (v := 5) hx hb dX12_init_186 (by decide) ?_
  refine lv_iload_n hx hb dX12_init_187 rfl (lv_at hl 0 rfl) ?_
  refine lv_imul hx hb dX12_init_188 ?_
  refine lv_tov 10 (by decide) ?_
  refine lv_iadd hx hb dX12_init_189 ?_
  refine lv_tov 30 (by decide) ?_
  refine lv_iconst (v := 1) hx hb dX12_init_190 (by decide) ?_
  refine lv_iadd hx hb dX12_init_191 ?_
  refine lv_tov 31 (by decide) ?_
  refine lv_sipush (v := 500) hx hb dX12_init_192 (by decide) ?_
  refine pt_i hx hb hK hP hD hS hL_w_94 hK_w_94 hN_w_94 (vp_in_iff.mpr (by decide)) dX12_init_195 (fun r_112 H locs er_112 hP hD hS => ?_)
  have hf := fmq_hi hf er_112 (by decide)
  refine lv_aload_n hx hb dX12_init_196 rfl (lv_at hl 1 rfl) ?_
  refine pg_f (v := .ref w_94) (C := RX12) (T := TX12) (N := 31) hx hb hts (tw_i inlX12) hown hK hP hL_this hK_this (by decide) rfl 0 (by decide) (hts _ (tw_c tw_176)) (pq_hv rfl hR_w_94) dX12_init_197 ?_
  refine lv_bipush (v := 20) hx hb dX12_init_200 (by decide) ?_
  refine lv_iconst (v := 5) hx hb dX12_init_202 (by decide) ?_
  refine lv_iload_n hx hb dX12_init_203 rfl (lv_at hl 0 rfl) ?_
  refine lv_imul hx hb dX12_init_204 ?_
  refine lv_tov 10 (by decide) ?_
  refine lv_iadd hx hb dX12_init_205 ?_
  refine lv_tov 30 (by decide) ?_
  refine lv_iconst (v := 2) hx hb dX12_init_206 (by decide) ?_
  refine lv_iadd hx hb dX12_init_207 ?_
  refine lv_tov 32 (by decide) ?_
  refine lv_bipush (v := 25) hx hb dX12_init_208 (by decide) ?_
  refine pt_i hx hb hK hP hD hS hL_w_94 hK_w_94 hN_w_94 (vp_in_iff.mpr (by decide)) dX12_init_210 (fun r_113 H locs er_113 hP hD hS => ?_)
  have hf := fmq_hi hf er_113 (by decide)
  refine lv_aload_n hx hb dX12_init_211 rfl (lv_at hl 1 rfl) ?_
  refine pg_f (v := .ref w_94) (C := RX12) (T := TX12) (N := 31) hx hb hts (tw_i inlX12) hown hK hP hL_this hK_this (by decide) rfl 0 (by decide) (hts _ (tw_c tw_176)) (pq_hv rfl hR_w_94) dX12_init_212 ?_
  refine lv_bipush (v := 20) hx hb dX12_init_215 (by decide) ?_
  refine lv_iconst (v := 5) hx hb dX12_init_217 (by decide) ?_
  refine lv_iload_n hx hb dX12_init_218 rfl (lv_at hl 0 rfl) ?_
  refine lv_imul hx hb dX12_init_219 ?_
  refine lv_tov 10 (by decide) ?_
  refine lv_iadd hx hb dX12_init_220 ?_
  refine lv_tov 30 (by decide) ?_
  refine lv_iconst (v := 3) hx hb dX12_init_221 (by decide) ?_
  refine lv_iadd hx hb dX12_init_222 ?_
  refine lv_tov 33 (by decide) ?_
  refine lv_iconst (v := 5) hx hb dX12_init_223 (by decide) ?_
  refine pt_i hx hb hK hP hD hS hL_w_94 hK_w_94 hN_w_94 (vp_in_iff.mpr (by decide)) dX12_init_224 (fun r_114 H locs er_114 hP hD hS => ?_)
  have hf := fmq_hi hf er_114 (by decide)
  refine lv_aload_n hx hb dX12_init_225 rfl (lv_at hl 1 rfl) ?_
  refine pg_f (v := .ref w_94) (C := RX12) (T := TX12) (N := 31) hx hb hts (tw_i inlX12) hown hK hP hL_this hK_this (by decide) rfl 0 (by decide) (hts _ (tw_c tw_176)) (pq_hv rfl hR_w_94) dX12_init_226 ?_
  refine lv_bipush (v := 20) hx hb dX12_init_229 (by decide) ?_
  refine lv_iconst (v := 5) hx hb dX12_init_231 (by decide) ?_
  refine lv_iload_n hx hb dX12_init_232 rfl (lv_at hl 0 rfl) ?_
  refine lv_imul hx hb dX12_init_233 ?_
  refine lv_tov 10 (by decide) ?_
  refine lv_iadd hx hb dX12_init_234 ?_
  refine lv_tov 30 (by decide) ?_
  refine lv_iconst (v := 4) hx hb dX12_init_235 (by decide) ?_
  refine lv_iadd hx hb dX12_init_236 ?_
  refine lv_tov 34 (by decide) ?_
  refine lv_bipush (v := 20) hx hb dX12_init_237 (by decide) ?_
  refine pt_i hx hb hK hP hD hS hL_w_94 hK_w_94 hN_w_94 (vp_in_iff.mpr (by decide)) dX12_init_239 (fun r_115 H locs er_115 hP hD hS => ?_)
  have hf := fmq_hi hf er_115 (by decide)
  refine lv_iinc (v := 3) (lv' := [(1, .int 3), (0, .ref this)]) hx hb dX12_init_240 hl (k := 0) rfl (by decide) (by decide) rfl (fun ls hl => ?_)
  refine lv_goto (tgt := 174) hx hb dX12_init_243 (by decide) ?_
  refine lv_iload_n hx hb dX12_init_174 rfl (lv_at hl 0 rfl) ?_
  refine lv_bipush (v := 12) hx hb dX12_init_175 (by decide) ?_
  refine lv_icmp_ge (tgt := 246) hx hb dX12_init_177 (by decide) (fun c_116 => absurd c_116 (by decide)) (fun c_116 => ?_)
  refine lv_aload_n hx hb dX12_init_180 rfl (lv_at hl 1 rfl) ?_
  refine pg_f (v := .ref w_94) (C := RX12) (T := TX12) (N := 31) hx hb hts (tw_i inlX12) hown hK hP hL_this hK_this (by decide) rfl 0 (by decide) (hts _ (tw_c tw_176)) (pq_hv rfl hR_w_94) dX12_init_181 ?_
  refine lv_bipush (v := 20) hx hb dX12_init_184 (by decide) ?_
  refine lv_iconst (v := 5) hx hb dX12_init_186 (by decide) ?_
  refine lv_iload_n hx hb dX12_init_187 rfl (lv_at hl 0 rfl) ?_
  refine lv_imul hx hb dX12_init_188 ?_
  refine lv_tov 15 (by decide) ?_
  refine lv_iadd hx hb dX12_init_189 ?_
  refine lv_tov 35 (by decide) ?_
  refine lv_iconst (v := 1) hx hb dX12_init_190 (by decide) ?_
  refine lv_iadd hx hb dX12_init_191 ?_
  refine lv_tov 36 (by decide) ?_
  refine lv_sipush (v := 500) hx hb dX12_init_192 (by decide) ?_
  refine pt_i hx hb hK hP hD hS hL_w_94 hK_w_94 hN_w_94 (vp_in_iff.mpr (by decide)) dX12_init_195 (fun r_117 H locs er_117 hP hD hS => ?_)
  have hf := fmq_hi hf er_117 (by decide)
  refine lv_aload_n hx hb dX12_init_196 rfl (lv_at hl 1 rfl) ?_
  refine pg_f (v := .ref w_94) (C := RX12) (T := TX12) (N := 31) hx hb hts (tw_i inlX12) hown hK hP hL_this hK_this (by decide) rfl 0 (by decide) (hts _ (tw_c tw_176)) (pq_hv rfl hR_w_94) dX12_init_197 ?_
  refine lv_bipush (v := 20) hx hb dX12_init_200 (by decide) ?_
  refine lv_iconst (v := 5) hx hb dX12_init_202 (by decide) ?_
  refine lv_iload_n hx hb dX12_init_203 rfl (lv_at hl 0 rfl) ?_
  refine lv_imul hx hb dX12_init_204 ?_
  refine lv_tov 15 (by decide) ?_
  refine lv_iadd hx hb dX12_init_205 ?_
  refine lv_tov 35 (by decide) ?_
  refine lv_iconst (v := 2) hx hb dX12_init_206 (by decide) ?_
  refine lv_iadd hx hb dX12_init_207 ?_
  refine lv_tov 37 (by decide) ?_
  refine lv_bipush (v := 25) hx hb dX12_init_208 (by decide) ?_
  refine pt_i hx hb hK hP hD hS hL_w_94 hK_w_94 hN_w_94 (vp_in_iff.mpr (by decide)) dX12_init_210 (fun r_118 H locs er_118 hP hD hS => ?_)
  have hf := fmq_hi hf er_118 (by decide)
  refine lv_aload_n hx hb dX12_init_211 rfl (lv_at hl 1 rfl) ?_
  refine pg_f (v := .ref w_94) (C := RX12) (T := TX12) (N := 31) hx hb hts (tw_i inlX12) hown hK hP hL_this hK_this (by decide) rfl 0 (by decide) (hts _ (tw_c tw_176)) (pq_hv rfl hR_w_94) dX12_init_212 ?_
  refine lv_bipush (v := 20) hx hb dX12_init_215 (by decide) ?_
  refine lv_iconst (v := 5) hx hb dX12_init_217 (by decide) ?_
  refine lv_iload_n hx hb dX12_init_218 rfl (lv_at hl 0 rfl) ?_
  refine lv_imul hx hb dX12_init_219 ?_
  refine lv_tov 15 (by decide) ?_
  refine lv_iadd hx hb dX12_init_220 ?_
  refine lv_tov 35 (by decide) ?_
  refine lv_iconst (v := 3) hx hb dX12_init_221 (by decide) ?_
  refine lv_iadd hx hb dX12_init_222 ?_
  refine lv_tov 38 (by decide) ?_
  refine lv_iconst (v := 5) hx hb dX12_init_223 (by decide) ?_
  refine pt_i hx hb hK hP hD hS hL_w_94 hK_w_94 hN_w_94 (vp_in_iff.mpr (by decide)) dX12_init_224 (fun r_119 H locs er_119 hP hD hS => ?_)
  have hf := fmq_hi hf er_119 (by decide)
  refine lv_aload_n hx hb dX12_init_225 rfl (lv_at hl 1 rfl) ?_
  refine pg_f (v := .ref w_94) (C := RX12) (T := TX12) (N := 31) hx hb hts (tw_i inlX12) hown hK hP hL_this hK_this (by decide) rfl 0 (by decide) (hts _ (tw_c tw_176)) (pq_hv rfl hR_w_94) dX12_init_226 ?_
  refine lv_bipush (v := 20) hx hb dX12_init_229 (by decide) ?_
  refine lv_iconst (v := 5) hx hb dX12_init_231 (by decide) ?_
  refine lv_iload_n hx hb dX12_init_232 rfl (lv_at hl 0 rfl) ?_
  refine lv_imul hx hb dX12_init_233 ?_
  refine lv_tov 15 (by decide) ?_
  refine lv_iadd hx hb dX12_init_234 ?_
  refine lv_tov 35 (by decide) ?_
  refine lv_iconst (v := 4) hx hb dX12_init_235 (by decide) ?_
  refine lv_iadd hx hb dX12_init_236 ?_
  refine lv_tov 39 (by decide) ?_
  refine lv_bipush (v := 20) hx hb dX12_init_237 (by decide) ?_
  refine pt_i hx hb hK hP hD hS hL_w_94 hK_w_94 hN_w_94 (vp_in_iff.mpr (by decide)) dX12_init_239 (fun r_120 H locs er_120 hP hD hS => ?_)
  have hf := fmq_hi hf er_120 (by decide)
  refine lv_iinc (v := 4) (lv' := [(1, .int 4), (0, .ref this)]) hx hb dX12_init_240 hl (k := 0) rfl (by decide) (by decide) rfl (fun ls hl => ?_)
  refine lv_goto (tgt := 174) hx hb dX12_init_243 (by decide) ?_
  refine lv_iload_n hx hb dX12_init_174 rfl (lv_at hl 0 rfl) ?_
  refine lv_bipush (v := 12) hx hb dX12_init_175 (by decide) ?_
  refine lv_icmp_ge (tgt := 246) hx hb dX12_init_177 (by decide) (fun c_121 => absurd c_121 (by decide)) (fun c_121 => ?_)
  refine lv_aload_n hx hb dX12_init_180 rfl (lv_at hl 1 rfl) ?_
  refine pg_f (v := .ref w_94) (C := RX12) (T := TX12) (N := 31) hx hb hts (tw_i inlX12) hown hK hP hL_this hK_this (by decide) rfl 0 (by decide) (hts _ (tw_c tw_176)) (pq_hv rfl hR_w_94) dX12_init_181 ?_
  refine lv_bipush (v := 20) hx hb dX12_init_184 (by decide) ?_
  refine lv_iconst (v := 5) hx hb dX12_init_186 (by decide) ?_
  refine lv_iload_n hx hb dX12_init_187 rfl (lv_at hl 0 rfl) ?_
  refine lv_imul hx hb dX12_init_188 ?_
  refine lv_tov 20 (by decide) ?_
  refine lv_iadd hx hb dX12_init_189 ?_
  refine lv_tov 40 (by decide) ?_
  refine lv_iconst (v := 1) hx hb dX12_init_190 (by decide) ?_
  refine lv_iadd hx hb dX12_init_191 ?_
  refine lv_tov 41 (by decide) ?_
  refine lv_sipush (v := 500) hx hb dX12_init_192 (by decide) ?_
  refine pt_i hx hb hK hP hD hS hL_w_94 hK_w_94 hN_w_94 (vp_in_iff.mpr (by decide)) dX12_init_195 (fun r_122 H locs er_122 hP hD hS => ?_)
  have hf := fmq_hi hf er_122 (by decide)
  refine lv_aload_n hx hb dX12_init_196 rfl (lv_at hl 1 rfl) ?_
  refine pg_f (v := .ref w_94) (C := RX12) (T := TX12) (N := 31) hx hb hts (tw_i inlX12) hown hK hP hL_this hK_this (by decide) rfl 0 (by decide) (hts _ (tw_c tw_176)) (pq_hv rfl hR_w_94) dX12_init_197 ?_
  refine lv_bipush (v := 20) hx hb dX12_init_200 (by decide) ?_
  refine lv_iconst (v := 5) hx hb dX12_init_202 (by decide) ?_
  refine lv_iload_n hx hb dX12_init_203 rfl (lv_at hl 0 rfl) ?_
  refine lv_imul hx hb dX12_init_204 ?_
  refine lv_tov 20 (by decide) ?_
  refine lv_iadd hx hb dX12_init_205 ?_
  refine lv_tov 40 (by decide) ?_
  refine lv_iconst (v := 2) hx hb dX12_init_206 (by decide) ?_
  refine lv_iadd hx hb dX12_init_207 ?_
  refine lv_tov 42 (by decide) ?_
  refine lv_bipush (v := 25) hx hb dX12_init_208 (by decide) ?_
  refine pt_i hx hb hK hP hD hS hL_w_94 hK_w_94 hN_w_94 (vp_in_iff.mpr (by decide)) dX12_init_210 (fun r_123 H locs er_123 hP hD hS => ?_)
  have hf := fmq_hi hf er_123 (by decide)
  refine lv_aload_n hx hb dX12_init_211 rfl (lv_at hl 1 rfl) ?_
  refine pg_f (v := .ref w_94) (C := RX12) (T := TX12) (N := 31) hx hb hts (tw_i inlX12) hown hK hP hL_this hK_this (by decide) rfl 0 (by decide) (hts _ (tw_c tw_176)) (pq_hv rfl hR_w_94) dX12_init_212 ?_
  refine lv_bipush (v := 20) hx hb dX12_init_215 (by decide) ?_
  refine lv_iconst (v := 5) hx hb dX12_init_217 (by decide) ?_
  refine lv_iload_n hx hb dX12_init_218 rfl (lv_at hl 0 rfl) ?_
  refine lv_imul hx hb dX12_init_219 ?_
  refine lv_tov 20 (by decide) ?_
  refine lv_iadd hx hb dX12_init_220 ?_
  refine lv_tov 40 (by decide) ?_
  refine lv_iconst (v := 3) hx hb dX12_init_221 (by decide) ?_
  refine lv_iadd hx hb dX12_init_222 ?_
  refine lv_tov 43 (by decide) ?_
  refine lv_iconst (v := 5) hx hb dX12_init_223 (by decide) ?_
  refine pt_i hx hb hK hP hD hS hL_w_94 hK_w_94 hN_w_94 (vp_in_iff.mpr (by decide)) dX12_init_224 (fun r_124 H locs er_124 hP hD hS => ?_)
  have hf := fmq_hi hf er_124 (by decide)
  refine lv_aload_n hx hb dX12_init_225 rfl (lv_at hl 1 rfl) ?_
  refine pg_f (v := .ref w_94) (C := RX12) (T := TX12) (N := 31) hx hb hts (tw_i inlX12) hown hK hP hL_this hK_this (by decide) rfl 0 (by decide) (hts _ (tw_c tw_176)) (pq_hv rfl hR_w_94) dX12_init_226 ?_
  refine lv_bipush (v := 20) hx hb dX12_init_229 (by decide) ?_
  refine lv_iconst (v := 5) hx hb dX12_init_231 (by decide) ?_
  refine lv_iload_n hx hb dX12_init_232 rfl (lv_at hl 0 rfl) ?_
  refine lv_imul hx hb dX12_init_233 ?_
  refine lv_tov 20 (by decide) ?_
  refine lv_iadd hx hb dX12_init_234 ?_
  refine lv_tov 40 (by decide) ?_
  refine lv_iconst (v := 4) hx hb dX12_init_235 (by decide) ?_
  refine lv_iadd hx hb dX12_init_236 ?_
  refine lv_tov 44 (by decide) ?_
  refine lv_bipush (v := 20) hx hb dX12_init_237 (by decide) ?_
  refine pt_i hx hb hK hP hD hS hL_w_94 hK_w_94 hN_w_94 (vp_in_iff.mpr (by decide)) dX12_init_239 (fun r_125 H locs er_125 hP hD hS => ?_)
  have hf := fmq_hi hf er_125 (by decide)
  refine lv_iinc (v := 5) (lv' := [(1, .int 5), (0, .ref this)]) hx hb dX12_init_240 hl (k := 0) rfl (by decide) (by decide) rfl (fun ls hl => ?_)
  refine lv_goto (tgt := 174) hx hb dX12_init_243 (by decide) ?_
  refine lv_iload_n hx hb dX12_init_174 rfl (lv_at hl 0 rfl) ?_
  refine lv_bipush (v := 12) hx hb dX12_init_175 (by decide) ?_
  refine lv_icmp_ge (tgt := 246) hx hb dX12_init_177 (by decide) (fun c_126 => absurd c_126 (by decide)) (fun c_126 => ?_)
  refine lv_aload_n hx hb dX12_init_180 rfl (lv_at hl 1 rfl) ?_
  refine pg_f (v := .ref w_94) (C := RX12) (T := TX12) (N := 31) hx hb hts (tw_i inlX12) hown hK hP hL_this hK_this (by decide) rfl 0 (by decide) (hts _ (tw_c tw_176)) (pq_hv rfl hR_w_94) dX12_init_181 ?_
  refine lv_bipush (v := 20) hx hb dX12_init_184 (by decide) ?_
  refine lv_iconst (v := 5) hx hb dX12_init_186 (by decide) ?_
  refine lv_iload_n hx hb dX12_init_187 rfl (lv_at hl 0 rfl) ?_
  refine lv_imul hx hb dX12_init_188 ?_
  refine lv_tov 25 (by decide) ?_
  refine lv_iadd hx hb dX12_init_189 ?_
  refine lv_tov 45 (by decide) ?_
  refine lv_iconst (v := 1) hx hb dX12_init_190 (by decide) ?_
  refine lv_iadd hx hb dX12_init_191 ?_
  refine lv_tov 46 (by decide) ?_
  refine lv_sipush (v := 500) hx hb dX12_init_192 (by decide) ?_
  refine pt_i hx hb hK hP hD hS hL_w_94 hK_w_94 hN_w_94 (vp_in_iff.mpr (by decide)) dX12_init_195 (fun r_127 H locs er_127 hP hD hS => ?_)
  have hf := fmq_hi hf er_127 (by decide)
  refine lv_aload_n hx hb dX12_init_196 rfl (lv_at hl 1 rfl) ?_
  refine pg_f (v := .ref w_94) (C := RX12) (T := TX12) (N := 31) hx hb hts (tw_i inlX12) hown hK hP hL_this hK_this (by decide) rfl 0 (by decide) (hts _ (tw_c tw_176)) (pq_hv rfl hR_w_94) dX12_init_197 ?_
  refine lv_bipush (v := 20) hx hb dX12_init_200 (by decide) ?_
  refine lv_iconst (v := 5) hx hb dX12_init_202 (by decide) ?_
  refine lv_iload_n hx hb dX12_init_203 rfl (lv_at hl 0 rfl) ?_
  refine lv_imul hx hb dX12_init_204 ?_
  refine lv_tov 25 (by decide) ?_
  refine lv_iadd hx hb dX12_init_205 ?_
  refine lv_tov 45 (by decide) ?_
  refine lv_iconst (v := 2) hx hb dX12_init_206 (by decide) ?_
  refine lv_iadd hx hb dX12_init_207 ?_
  refine lv_tov 47 (by decide) ?_
  refine lv_bipush (v := 25) hx hb dX12_init_208 (by decide) ?_
  refine pt_i hx hb hK hP hD hS hL_w_94 hK_w_94 hN_w_94 (vp_in_iff.mpr (by decide)) dX12_init_210 (fun r_128 H locs er_128 hP hD hS => ?_)
  have hf := fmq_hi hf er_128 (by decide)
  refine lv_aload_n hx hb dX12_init_211 rfl (lv_at hl 1 rfl) ?_
  refine pg_f (v := .ref w_94) (C := RX12) (T := TX12) (N := 31) hx hb hts (tw_i inlX12) hown hK hP hL_this hK_this (by decide) rfl 0 (by decide) (hts _ (tw_c tw_176)) (pq_hv rfl hR_w_94) dX12_init_212 ?_
  refine lv_bipush (v := 20) hx hb dX12_init_215 (by decide) ?_
  refine lv_iconst (v := 5) hx hb dX12_init_217 (by decide) ?_
  refine lv_iload_n hx hb dX12_init_218 rfl (lv_at hl 0 rfl) ?_
  refine lv_imul hx hb dX12_init_219 ?_
  refine lv_tov 25 (by decide) ?_
  refine lv_iadd hx hb dX12_init_220 ?_
  refine lv_tov 45 (by decide) ?_
  refine lv_iconst (v := 3) hx hb dX12_init_221 (by decide) ?_
  refine lv_iadd hx hb dX12_init_222 ?_
  refine lv_tov 48 (by decide) ?_
  refine lv_iconst (v := 5) hx hb dX12_init_223 (by decide) ?_
  refine pt_i hx hb hK hP hD hS hL_w_94 hK_w_94 hN_w_94 (vp_in_iff.mpr (by decide)) dX12_init_224 (fun r_129 H locs er_129 hP hD hS => ?_)
  have hf := fmq_hi hf er_129 (by decide)
  refine lv_aload_n hx hb dX12_init_225 rfl (lv_at hl 1 rfl) ?_
  refine pg_f (v := .ref w_94) (C := RX12) (T := TX12) (N := 31) hx hb hts (tw_i inlX12) hown hK hP hL_this hK_this (by decide) rfl 0 (by decide) (hts _ (tw_c tw_176)) (pq_hv rfl hR_w_94) dX12_init_226 ?_
  refine lv_bipush (v := 20) hx hb dX12_init_229 (by decide) ?_
  refine lv_iconst (v := 5) hx hb dX12_init_231 (by decide) ?_
  refine lv_iload_n hx hb dX12_init_232 rfl (lv_at hl 0 rfl) ?_
  refine lv_imul hx hb dX12_init_233 ?_
  refine lv_tov 25 (by decide) ?_
  refine lv_iadd hx hb dX12_init_234 ?_
  refine lv_tov 45 (by decide) ?_
  refine lv_iconst (v := 4) hx hb dX12_init_235 (by decide) ?_
  refine lv_iadd hx hb dX12_init_236 ?_
  refine lv_tov 49 (by decide) ?_
  refine lv_bipush (v := 20) hx hb dX12_init_237 (by decide) ?_
  refine pt_i hx hb hK hP hD hS hL_w_94 hK_w_94 hN_w_94 (vp_in_iff.mpr (by decide)) dX12_init_239 (fun r_130 H locs er_130 hP hD hS => ?_)
  have hf := fmq_hi hf er_130 (by decide)
  refine lv_iinc (v := 6) (lv' := [(1, .int 6), (0, .ref this)]) hx hb dX12_init_240 hl (k := 0) rfl (by decide) (by decide) rfl (fun ls hl => ?_)
  refine lv_goto (tgt := 174) hx hb dX12_init_243 (by decide) ?_
  refine lv_iload_n hx hb dX12_init_174 rfl (lv_at hl 0 rfl) ?_
  refine lv_bipush (v := 12) hx hb dX12_init_175 (by decide) ?_
  refine lv_icmp_ge (tgt := 246) hx hb dX12_init_177 (by decide) (fun c_131 => absurd c_131 (by decide)) (fun c_131 => ?_)
  refine lv_aload_n hx hb dX12_init_180 rfl (lv_at hl 1 rfl) ?_
  refine pg_f (v := .ref w_94) (C := RX12) (T := TX12) (N := 31) hx hb hts (tw_i inlX12) hown hK hP hL_this hK_this (by decide) rfl 0 (by decide) (hts _ (tw_c tw_176)) (pq_hv rfl hR_w_94) dX12_init_181 ?_
  refine lv_bipush (v := 20) hx hb dX12_init_184 (by decide) ?_
  refine lv_iconst (v := 5) hx hb dX12_init_186 (by decide) ?_
  refine lv_iload_n hx hb dX12_init_187 rfl (lv_at hl 0 rfl) ?_
  refine lv_imul hx hb dX12_init_188 ?_
  refine lv_tov 30 (by decide) ?_
  refine lv_iadd hx hb dX12_init_189 ?_
  refine lv_tov 50 (by decide) ?_
  refine lv_iconst (v := 1) hx hb dX12_init_190 (by decide) ?_
  refine lv_iadd hx hb dX12_init_191 ?_
  refine lv_tov 51 (by decide) ?_
  refine lv_sipush (v := 500) hx hb dX12_init_192 (by decide) ?_
  refine pt_i hx hb hK hP hD hS hL_w_94 hK_w_94 hN_w_94 (vp_in_iff.mpr (by decide)) dX12_init_195 (fun r_132 H locs er_132 hP hD hS => ?_)
  have hf := fmq_hi hf er_132 (by decide)
  refine lv_aload_n hx hb dX12_init_196 rfl (lv_at hl 1 rfl) ?_
  refine pg_f (v := .ref w_94) (C := RX12) (T := TX12) (N := 31) hx hb hts (tw_i inlX12) hown hK hP hL_this hK_this (by decide) rfl 0 (by decide) (hts _ (tw_c tw_176)) (pq_hv rfl hR_w_94) dX12_init_197 ?_
  refine lv_bipush (v := 20) hx hb dX12_init_200 (by decide) ?_
  refine lv_iconst (v := 5) hx hb dX12_init_202 (by decide) ?_
  refine lv_iload_n hx hb dX12_init_203 rfl (lv_at hl 0 rfl) ?_
  refine lv_imul hx hb dX12_init_204 ?_
  refine lv_tov 30 (by decide) ?_
  refine lv_iadd hx hb dX12_init_205 ?_
  refine lv_tov 50 (by decide) ?_
  refine lv_iconst (v := 2) hx hb dX12_init_206 (by decide) ?_
  refine lv_iadd hx hb dX12_init_207 ?_
  refine lv_tov 52 (by decide) ?_
  refine lv_bipush (v := 25) hx hb dX12_init_208 (by decide) ?_
  refine pt_i hx hb hK hP hD hS hL_w_94 hK_w_94 hN_w_94 (vp_in_iff.mpr (by decide)) dX12_init_210 (fun r_133 H locs er_133 hP hD hS => ?_)
  have hf := fmq_hi hf er_133 (by decide)
  refine lv_aload_n hx hb dX12_init_211 rfl (lv_at hl 1 rfl) ?_
  refine pg_f (v := .ref w_94) (C := RX12) (T := TX12) (N := 31) hx hb hts (tw_i inlX12) hown hK hP hL_this hK_this (by decide) rfl 0 (by decide) (hts _ (tw_c tw_176)) (pq_hv rfl hR_w_94) dX12_init_212 ?_
  refine lv_bipush (v := 20) hx hb dX12_init_215 (by decide) ?_
  refine lv_iconst (v := 5) hx hb dX12_init_217 (by decide) ?_
  refine lv_iload_n hx hb dX12_init_218 rfl (lv_at hl 0 rfl) ?_
  refine lv_imul hx hb dX12_init_219 ?_
  refine lv_tov 30 (by decide) ?_
  refine lv_iadd hx hb dX12_init_220 ?_
  refine lv_tov 50 (by decide) ?_
  refine lv_iconst (v := 3) hx hb dX12_init_221 (by decide) ?_
  refine lv_iadd hx hb dX12_init_222 ?_
  refine lv_tov 53 (by decide) ?_
  refine lv_iconst (v := 5) hx hb dX12_init_223 (by decide) ?_
  refine pt_i hx hb hK hP hD hS hL_w_94 hK_w_94 hN_w_94 (vp_in_iff.mpr (by decide)) dX12_init_224 (fun r_134 H locs er_134 hP hD hS => ?_)
  have hf := fmq_hi hf er_134 (by decide)
  refine lv_aload_n hx hb dX12_init_225 rfl (lv_at hl 1 rfl) ?_
  refine pg_f (v := .ref w_94) (C := RX12) (T := TX12) (N := 31) hx hb hts (tw_i inlX12) hown hK hP hL_this hK_this (by decide) rfl 0 (by decide) (hts _ (tw_c tw_176)) (pq_hv rfl hR_w_94) dX12_init_226 ?_
  refine lv_bipush (v := 20) hx hb dX12_init_229 (by decide) ?_
  refine lv_iconst (v := 5) hx hb dX12_init_231 (by decide) ?_
  refine lv_iload_n hx hb dX12_init_232 rfl (lv_at hl 0 rfl) ?_
  refine lv_imul hx hb dX12_init_233 ?_
  refine lv_tov 30 (by decide) ?_
  refine lv_iadd hx hb dX12_init_234 ?_
  refine lv_tov 50 (by decide) ?_
  refine lv_iconst (v := 4) hx hb dX12_init_235 (by decide) ?_
  refine lv_iadd hx hb dX12_init_236 ?_
  refine lv_tov 54 (by decide) ?_
  refine lv_bipush (v := 20) hx hb dX12_init_237 (by decide) ?_
  refine pt_i hx hb hK hP hD hS hL_w_94 hK_w_94 hN_w_94 (vp_in_iff.mpr (by decide)) dX12_init_239 (fun r_135 H locs er_135 hP hD hS => ?_)
  have hf := fmq_hi hf er_135 (by decide)
  refine lv_iinc (v := 7) (lv' := [(1, .int 7), (0, .ref this)]) hx hb dX12_init_240 hl (k := 0) rfl (by decide) (by decide) rfl (fun ls hl => ?_)
  refine lv_goto (tgt := 174) hx hb dX12_init_243 (by decide) ?_
  refine lv_iload_n hx hb dX12_init_174 rfl (lv_at hl 0 rfl) ?_
  refine lv_bipush (v := 12) hx hb dX12_init_175 (by decide) ?_
  refine lv_icmp_ge (tgt := 246) hx hb dX12_init_177 (by decide) (fun c_136 => absurd c_136 (by decide)) (fun c_136 => ?_)
  refine lv_aload_n hx hb dX12_init_180 rfl (lv_at hl 1 rfl) ?_
  refine pg_f (v := .ref w_94) (C := RX12) (T := TX12) (N := 31) hx hb hts (tw_i inlX12) hown hK hP hL_this hK_this (by decide) rfl 0 (by decide) (hts _ (tw_c tw_176)) (pq_hv rfl hR_w_94) dX12_init_181 ?_
  refine lv_bipush (v := 20) hx hb dX12_init_184 (by decide) ?_
  refine lv_iconst (v := 5) hx hb dX12_init_186 (by decide) ?_
  refine lv_iload_n hx hb dX12_init_187 rfl (lv_at hl 0 rfl) ?_
  refine lv_imul hx hb dX12_init_188 ?_
  refine lv_tov 35 (by decide) ?_
  refine lv_iadd hx hb dX12_init_189 ?_
  refine lv_tov 55 (by decide) ?_
  refine lv_iconst (v := 1) hx hb dX12_init_190 (by decide) ?_
  refine lv_iadd hx hb dX12_init_191 ?_
  refine lv_tov 56 (by decide) ?_
  refine lv_sipush (v := 500) hx hb dX12_init_192 (by decide) ?_
  refine pt_i hx hb hK hP hD hS hL_w_94 hK_w_94 hN_w_94 (vp_in_iff.mpr (by decide)) dX12_init_195 (fun r_137 H locs er_137 hP hD hS => ?_)
  have hf := fmq_hi hf er_137 (by decide)
  refine lv_aload_n hx hb dX12_init_196 rfl (lv_at hl 1 rfl) ?_
  refine pg_f (v := .ref w_94) (C := RX12) (T := TX12) (N := 31) hx hb hts (tw_i inlX12) hown hK hP hL_this hK_this (by decide) rfl 0 (by decide) (hts _ (tw_c tw_176)) (pq_hv rfl hR_w_94) dX12_init_197 ?_
  refine lv_bipush (v := 20) hx hb dX12_init_200 (by decide) ?_
  refine lv_iconst (v := 5) hx hb dX12_init_202 (by decide) ?_
  refine lv_iload_n hx hb dX12_init_203 rfl (lv_at hl 0 rfl) ?_
  refine lv_imul hx hb dX12_init_204 ?_
  refine lv_tov 35 (by decide) ?_
  refine lv_iadd hx hb dX12_init_205 ?_
  refine lv_tov 55 (by decide) ?_
  refine lv_iconst (v := 2) hx hb dX12_init_206 (by decide) ?_
  refine lv_iadd hx hb dX12_init_207 ?_
  refine lv_tov 57 (by decide) ?_
  refine lv_bipush (v := 25) hx hb dX12_init_208 (by decide) ?_
  refine pt_i hx hb hK hP hD hS hL_w_94 hK_w_94 hN_w_94 (vp_in_iff.mpr (by decide)) dX12_init_210 (fun r_138 H locs er_138 hP hD hS => ?_)
  have hf := fmq_hi hf er_138 (by decide)
  refine lv_aload_n hx hb dX12_init_211 rfl (lv_at hl 1 rfl) ?_
  refine pg_f (v := .ref w_94) (C := RX12) (T := TX12) (N := 31) hx hb hts (tw_i inlX12) hown hK hP hL_this hK_this (by decide) rfl 0 (by decide) (hts _ (tw_c tw_176)) (pq_hv rfl hR_w_94) dX12_init_212 ?_
  refine lv_bipush (v := 20) hx hb dX12_init_215 (by decide) ?_
  refine lv_iconst (v := 5) hx hb dX12_init_217 (by decide) ?_
  refine lv_iload_n hx hb dX12_init_218 rfl (lv_at hl 0 rfl) ?_
  refine lv_imul hx hb dX12_init_219 ?_
  refine lv_tov 35 (by decide) ?_
  refine lv_iadd hx hb dX12_init_220 ?_
  refine lv_tov 55 (by decide) ?_
  refine lv_iconst (v := 3) hx hb dX12_init_221 (by decide) ?_
  refine lv_iadd hx hb dX12_init_222 ?_
  refine lv_tov 58 (by decide) ?_
  refine lv_iconst (v := 5) hx hb dX12_init_223 (by decide) ?_
  refine pt_i hx hb hK hP hD hS hL_w_94 hK_w_94 hN_w_94 (vp_in_iff.mpr (by decide)) dX12_init_224 (fun r_139 H locs er_139 hP hD hS => ?_)
  have hf := fmq_hi hf er_139 (by decide)
  refine lv_aload_n hx hb dX12_init_225 rfl (lv_at hl 1 rfl) ?_
  refine pg_f (v := .ref w_94) (C := RX12) (T := TX12) (N := 31) hx hb hts (tw_i inlX12) hown hK hP hL_this hK_this (by decide) rfl 0 (by decide) (hts _ (tw_c tw_176)) (pq_hv rfl hR_w_94) dX12_init_226 ?_
  refine lv_bipush (v := 20) hx hb dX12_init_229 (by decide) ?_
  refine lv_iconst (v := 5) hx hb dX12_init_231 (by decide) ?_
  refine lv_iload_n hx hb dX12_init_232 rfl (lv_at hl 0 rfl) ?_
  refine lv_imul hx hb dX12_init_233 ?_
  refine lv_tov 35 (by decide) ?_
  refine lv_iadd hx hb dX12_init_234 ?_
  refine lv_tov 55 (by decide) ?_
  refine lv_iconst (v := 4) hx hb dX12_init_235 (by decide) ?_
  refine lv_iadd hx hb dX12_init_236 ?_
  refine lv_tov 59 (by decide) ?_
  refine lv_bipush (v := 20) hx hb dX12_init_237 (by decide) ?_
  refine pt_i hx hb hK hP hD hS hL_w_94 hK_w_94 hN_w_94 (vp_in_iff.mpr (by decide)) dX12_init_239 (fun r_140 H locs er_140 hP hD hS => ?_)
  have hf := fmq_hi hf er_140 (by decide)
  refine lv_iinc (v := 8) (lv' := [(1, .int 8), (0, .ref this)]) hx hb dX12_init_240 hl (k := 0) rfl (by decide) (by decide) rfl (fun ls hl => ?_)
  refine lv_goto (tgt := 174) hx hb dX12_init_243 (by decide) ?_
  refine lv_iload_n hx hb dX12_init_174 rfl (lv_at hl 0 rfl) ?_
  refine lv_bipush (v := 12) hx hb dX12_init_175 (by decide) ?_
  refine lv_icmp_ge (tgt := 246) hx hb dX12_init_177 (by decide) (fun c_141 => absurd c_141 (by decide)) (fun c_141 => ?_)
  refine lv_aload_n hx hb dX12_init_180 rfl (lv_at hl 1 rfl) ?_
  refine pg_f (v := .ref w_94) (C := RX12) (T := TX12) (N := 31) hx hb hts (tw_i inlX12) hown hK hP hL_this hK_this (by decide) rfl 0 (by decide) (hts _ (tw_c tw_176)) (pq_hv rfl hR_w_94) dX12_init_181 ?_
  refine lv_bipush (v := 20) hx hb dX12_init_184 (by decide) ?_
  refine lv_iconst (v := 5) hx hb dX12_init_186 (by decide) ?_
  refine lv_iload_n hx hb dX12_init_187 rfl (lv_at hl 0 rfl) ?_
  refine lv_imul hx hb dX12_init_188 ?_
  refine lv_tov 40 (by decide) ?_
  refine lv_iadd hx hb dX12_init_189 ?_
  refine lv_tov 60 (by decide) ?_
  refine lv_iconst (v := 1) hx hb dX12_init_190 (by decide) ?_
  refine lv_iadd hx hb dX12_init_191 ?_
  refine lv_tov 61 (by decide) ?_
  refine lv_sipush (v := 500) hx hb dX12_init_192 (by decide) ?_
  refine pt_i hx hb hK hP hD hS hL_w_94 hK_w_94 hN_w_94 (vp_in_iff.mpr (by decide)) dX12_init_195 (fun r_142 H locs er_142 hP hD hS => ?_)
  have hf := fmq_hi hf er_142 (by decide)
  refine lv_aload_n hx hb dX12_init_196 rfl (lv_at hl 1 rfl) ?_
  refine pg_f (v := .ref w_94) (C := RX12) (T := TX12) (N := 31) hx hb hts (tw_i inlX12) hown hK hP hL_this hK_this (by decide) rfl 0 (by decide) (hts _ (tw_c tw_176)) (pq_hv rfl hR_w_94) dX12_init_197 ?_
  refine lv_bipush (v := 20) hx hb dX12_init_200 (by decide) ?_
  refine lv_iconst (v := 5) hx hb dX12_init_202 (by decide) ?_
  refine lv_iload_n hx hb dX12_init_203 rfl (lv_at hl 0 rfl) ?_
  refine lv_imul hx hb dX12_init_204 ?_
  refine lv_tov 40 (by decide) ?_
  refine lv_iadd hx hb dX12_init_205 ?_
  refine lv_tov 60 (by decide) ?_
  refine lv_iconst (v := 2) hx hb dX12_init_206 (by decide) ?_
  refine lv_iadd hx hb dX12_init_207 ?_
  refine lv_tov 62 (by decide) ?_
  refine lv_bipush (v := 25) hx hb dX12_init_208 (by decide) ?_
  refine pt_i hx hb hK hP hD hS hL_w_94 hK_w_94 hN_w_94 (vp_in_iff.mpr (by decide)) dX12_init_210 (fun r_143 H locs er_143 hP hD hS => ?_)
  have hf := fmq_hi hf er_143 (by decide)
  refine lv_aload_n hx hb dX12_init_211 rfl (lv_at hl 1 rfl) ?_
  refine pg_f (v := .ref w_94) (C := RX12) (T := TX12) (N := 31) hx hb hts (tw_i inlX12) hown hK hP hL_this hK_this (by decide) rfl 0 (by decide) (hts _ (tw_c tw_176)) (pq_hv rfl hR_w_94) dX12_init_212 ?_
  refine lv_bipush (v := 20) hx hb dX12_init_215 (by decide) ?_
  refine lv_iconst (v := 5) hx hb dX12_init_217 (by decide) ?_
  refine lv_iload_n hx hb dX12_init_218 rfl (lv_at hl 0 rfl) ?_
  refine lv_imul hx hb dX12_init_219 ?_
  refine lv_tov 40 (by decide) ?_
  refine lv_iadd hx hb dX12_init_220 ?_
  refine lv_tov 60 (by decide) ?_
  refine lv_iconst (v := 3) hx hb dX12_init_221 (by decide) ?_
  refine lv_iadd hx hb dX12_init_222 ?_
  refine lv_tov 63 (by decide) ?_
  refine lv_iconst (v := 5) hx hb dX12_init_223 (by decide) ?_
  refine pt_i hx hb hK hP hD hS hL_w_94 hK_w_94 hN_w_94 (vp_in_iff.mpr (by decide)) dX12_init_224 (fun r_144 H locs er_144 hP hD hS => ?_)
  have hf := fmq_hi hf er_144 (by decide)
  refine lv_aload_n hx hb dX12_init_225 rfl (lv_at hl 1 rfl) ?_
  refine pg_f (v := .ref w_94) (C := RX12) (T := TX12) (N := 31) hx hb hts (tw_i inlX12) hown hK hP hL_this hK_this (by decide) rfl 0 (by decide) (hts _ (tw_c tw_176)) (pq_hv rfl hR_w_94) dX12_init_226 ?_
  refine lv_bipush (v := 20) hx hb dX12_init_229 (by decide) ?_
  refine lv_iconst (v := 5) hx hb dX12_init_231 (by decide) ?_
  refine lv_iload_n hx hb dX12_init_232 rfl (lv_at hl 0 rfl) ?_
  refine lv_imul hx hb dX12_init_233 ?_
  refine lv_tov 40 (by decide) ?_
  refine lv_iadd hx hb dX12_init_234 ?_
  refine lv_tov 60 (by decide) ?_
  refine lv_iconst (v := 4) hx hb dX12_init_235 (by decide) ?_
  refine lv_iadd hx hb dX12_init_236 ?_
  refine lv_tov 64 (by decide) ?_
  refine lv_bipush (v := 20) hx hb dX12_init_237 (by decide) ?_
  refine pt_i hx hb hK hP hD hS hL_w_94 hK_w_94 hN_w_94 (vp_in_iff.mpr (by decide)) dX12_init_239 (fun r_145 H locs er_145 hP hD hS => ?_)
  have hf := fmq_hi hf er_145 (by decide)
  refine lv_iinc (v := 9) (lv' := [(1, .int 9), (0, .ref this)]) hx hb dX12_init_240 hl (k := 0) rfl (by decide) (by decide) rfl (fun ls hl => ?_)
  refine lv_goto (tgt := 174) hx hb dX12_init_243 (by decide) ?_
  refine lv_iload_n hx hb dX12_init_174 rfl (lv_at hl 0 rfl) ?_
  refine lv_bipush (v := 12) hx hb dX12_init_175 (by decide) ?_
  refine lv_icmp_ge (tgt := 246) hx hb dX12_init_177 (by decide) (fun c_146 => absurd c_146 (by decide)) (fun c_146 => ?_)
  refine lv_aload_n hx hb dX12_init_180 rfl (lv_at hl 1 rfl) ?_
  refine pg_f (v := .ref w_94) (C := RX12) (T := TX12) (N := 31) hx hb hts (tw_i inlX12) hown hK hP hL_this hK_this (by decide) rfl 0 (by decide) (hts _ (tw_c tw_176)) (pq_hv rfl hR_w_94) dX12_init_181 ?_
  refine lv_bipush (v := 20) hx hb dX12_init_184 (by decide) ?_
  refine lv_iconst (v := 5) hx hb dX12_init_186 (by decide) ?_
  refine lv_iload_n hx hb dX12_init_187 rfl (lv_at hl 0 rfl) ?_
  refine lv_imul hx hb dX12_init_188 ?_
  refine lv_tov 45 (by decide) ?_
  refine lv_iadd hx hb dX12_init_189 ?_
  refine lv_tov 65 (by decide) ?_
  refine lv_iconst (v := 1) hx hb dX12_init_190 (by decide) ?_
  refine lv_iadd hx hb dX12_init_191 ?_
  refine lv_tov 66 (by decide) ?_
  refine lv_sipush (v := 500) hx hb dX12_init_192 (by decide) ?_
  refine pt_i hx hb hK hP hD hS hL_w_94 hK_w_94 hN_w_94 (vp_in_iff.mpr (by decide)) dX12_init_195 (fun r_147 H locs er_147 hP hD hS => ?_)
  have hf := fmq_hi hf er_147 (by decide)
  refine lv_aload_n hx hb dX12_init_196 rfl (lv_at hl 1 rfl) ?_
  refine pg_f (v := .ref w_94) (C := RX12) (T := TX12) (N := 31) hx hb hts (tw_i inlX12) hown hK hP hL_this hK_this (by decide) rfl 0 (by decide) (hts _ (tw_c tw_176)) (pq_hv rfl hR_w_94) dX12_init_197 ?_
  refine lv_bipush (v := 20) hx hb dX12_init_200 (by decide) ?_
  refine lv_iconst (v := 5) hx hb dX12_init_202 (by decide) ?_
  refine lv_iload_n hx hb dX12_init_203 rfl (lv_at hl 0 rfl) ?_
  refine lv_imul hx hb dX12_init_204 ?_
  refine lv_tov 45 (by decide) ?_
  refine lv_iadd hx hb dX12_init_205 ?_
  refine lv_tov 65 (by decide) ?_
  refine lv_iconst (v := 2) hx hb dX12_init_206 (by decide) ?_
  refine lv_iadd hx hb dX12_init_207 ?_
  refine lv_tov 67 (by decide) ?_
  refine lv_bipush (v := 25) hx hb dX12_init_208 (by decide) ?_
  refine pt_i hx hb hK hP hD hS hL_w_94 hK_w_94 hN_w_94 (vp_in_iff.mpr (by decide)) dX12_init_210 (fun r_148 H locs er_148 hP hD hS => ?_)
  have hf := fmq_hi hf er_148 (by decide)
  refine lv_aload_n hx hb dX12_init_211 rfl (lv_at hl 1 rfl) ?_
  refine pg_f (v := .ref w_94) (C := RX12) (T := TX12) (N := 31) hx hb hts (tw_i inlX12) hown hK hP hL_this hK_this (by decide) rfl 0 (by decide) (hts _ (tw_c tw_176)) (pq_hv rfl hR_w_94) dX12_init_212 ?_
  refine lv_bipush (v := 20) hx hb dX12_init_215 (by decide) ?_
  refine lv_iconst (v := 5) hx hb dX12_init_217 (by decide) ?_
  refine lv_iload_n hx hb dX12_init_218 rfl (lv_at hl 0 rfl) ?_
  refine lv_imul hx hb dX12_init_219 ?_
  refine lv_tov 45 (by decide) ?_
  refine lv_iadd hx hb dX12_init_220 ?_
  refine lv_tov 65 (by decide) ?_
  refine lv_iconst (v := 3) hx hb dX12_init_221 (by decide) ?_
  refine lv_iadd hx hb dX12_init_222 ?_
  refine lv_tov 68 (by decide) ?_
  refine lv_iconst (v := 5) hx hb dX12_init_223 (by decide) ?_
  refine pt_i hx hb hK hP hD hS hL_w_94 hK_w_94 hN_w_94 (vp_in_iff.mpr (by decide)) dX12_init_224 (fun r_149 H locs er_149 hP hD hS => ?_)
  have hf := fmq_hi hf er_149 (by decide)
  refine lv_aload_n hx hb dX12_init_225 rfl (lv_at hl 1 rfl) ?_
  refine pg_f (v := .ref w_94) (C := RX12) (T := TX12) (N := 31) hx hb hts (tw_i inlX12) hown hK hP hL_this hK_this (by decide) rfl 0 (by decide) (hts _ (tw_c tw_176)) (pq_hv rfl hR_w_94) dX12_init_226 ?_
  refine lv_bipush (v := 20) hx hb dX12_init_229 (by decide) ?_
  refine lv_iconst (v := 5) hx hb dX12_init_231 (by decide) ?_
  refine lv_iload_n hx hb dX12_init_232 rfl (lv_at hl 0 rfl) ?_
  refine lv_imul hx hb dX12_init_233 ?_
  refine lv_tov 45 (by decide) ?_
  refine lv_iadd hx hb dX12_init_234 ?_
  refine lv_tov 65 (by decide) ?_
  refine lv_iconst (v := 4) hx hb dX12_init_235 (by decide) ?_
  refine lv_iadd hx hb dX12_init_236 ?_
  refine lv_tov 69 (by decide) ?_
  refine lv_bipush (v := 20) hx hb dX12_init_237 (by decide) ?_
  refine pt_i hx hb hK hP hD hS hL_w_94 hK_w_94 hN_w_94 (vp_in_iff.mpr (by decide)) dX12_init_239 (fun r_150 H locs er_150 hP hD hS => ?_)
  have hf := fmq_hi hf er_150 (by decide)
  refine lv_iinc (v := 10) (lv' := [(1, .int 10), (0, .ref this)]) hx hb dX12_init_240 hl (k := 0) rfl (by decide) (by decide) rfl (fun ls hl => ?_)
  refine lv_goto (tgt := 174) hx hb dX12_init_243 (by decide) ?_
  refine lv_iload_n hx hb dX12_init_174 rfl (lv_at hl 0 rfl) ?_
  refine lv_bipush (v := 12) hx hb dX12_init_175 (by decide) ?_
  refine lv_icmp_ge (tgt := 246) hx hb dX12_init_177 (by decide) (fun c_151 => absurd c_151 (by decide)) (fun c_151 => ?_)
  refine lv_aload_n hx hb dX12_init_180 rfl (lv_at hl 1 rfl) ?_
  refine pg_f (v := .ref w_94) (C := RX12) (T := TX12) (N := 31) hx hb hts (tw_i inlX12) hown hK hP hL_this hK_this (by decide) rfl 0 (by decide) (hts _ (tw_c tw_176)) (pq_hv rfl hR_w_94) dX12_init_181 ?_
  refine lv_bipush (v := 20) hx hb dX12_init_184 (by decide) ?_
  refine lv_iconst (v := 5) hx hb dX12_init_186 (by decide) ?_
  refine lv_iload_n hx hb dX12_init_187 rfl (lv_at hl 0 rfl) ?_
  refine lv_imul hx hb dX12_init_188 ?_
  refine lv_tov 50 (by decide) ?_
  refine lv_iadd hx hb dX12_init_189 ?_
  refine lv_tov 70 (by decide) ?_
  refine lv_iconst (v := 1) hx hb dX12_init_190 (by decide) ?_
  refine lv_iadd hx hb dX12_init_191 ?_
  refine lv_tov 71 (by decide) ?_
  refine lv_sipush (v := 500) hx hb dX12_init_192 (by decide) ?_
  refine pt_i hx hb hK hP hD hS hL_w_94 hK_w_94 hN_w_94 (vp_in_iff.mpr (by decide)) dX12_init_195 (fun r_152 H locs er_152 hP hD hS => ?_)
  have hf := fmq_hi hf er_152 (by decide)
  refine lv_aload_n hx hb dX12_init_196 rfl (lv_at hl 1 rfl) ?_
  refine pg_f (v := .ref w_94) (C := RX12) (T := TX12) (N := 31) hx hb hts (tw_i inlX12) hown hK hP hL_this hK_this (by decide) rfl 0 (by decide) (hts _ (tw_c tw_176)) (pq_hv rfl hR_w_94) dX12_init_197 ?_
  refine lv_bipush (v := 20) hx hb dX12_init_200 (by decide) ?_
  refine lv_iconst (v := 5) hx hb dX12_init_202 (by decide) ?_
  refine lv_iload_n hx hb dX12_init_203 rfl (lv_at hl 0 rfl) ?_
  refine lv_imul hx hb dX12_init_204 ?_
  refine lv_tov 50 (by decide) ?_
  refine lv_iadd hx hb dX12_init_205 ?_
  refine lv_tov 70 (by decide) ?_
  refine lv_iconst (v := 2) hx hb dX12_init_206 (by decide) ?_
  refine lv_iadd hx hb dX12_init_207 ?_
  refine lv_tov 72 (by decide) ?_
  refine lv_bipush (v := 25) hx hb dX12_init_208 (by decide) ?_
  refine pt_i hx hb hK hP hD hS hL_w_94 hK_w_94 hN_w_94 (vp_in_iff.mpr (by decide)) dX12_init_210 (fun r_153 H locs er_153 hP hD hS => ?_)
  have hf := fmq_hi hf er_153 (by decide)
  refine lv_aload_n hx hb dX12_init_211 rfl (lv_at hl 1 rfl) ?_
  refine pg_f (v := .ref w_94) (C := RX12) (T := TX12) (N := 31) hx hb hts (tw_i inlX12) hown hK hP hL_this hK_this (by decide) rfl 0 (by decide) (hts _ (tw_c tw_176)) (pq_hv rfl hR_w_94) dX12_init_212 ?_
  refine lv_bipush (v := 20) hx hb dX12_init_215 (by decide) ?_
  refine lv_iconst (v := 5) hx hb dX12_init_217 (by decide) ?_
  refine lv_iload_n hx hb dX12_init_218 rfl (lv_at hl 0 rfl) ?_
  refine lv_imul hx hb dX12_init_219 ?_
  refine lv_tov 50 (by decide) ?_
  refine lv_iadd hx hb dX12_init_220 ?_
  refine lv_tov 70 (by decide) ?_
  refine lv_iconst (v := 3) hx hb dX12_init_221 (by decide) ?_
  refine lv_iadd hx hb dX12_init_222 ?_
  refine lv_tov 73 (by decide) ?_
  refine lv_iconst (v := 5) hx hb dX12_init_223 (by decide) ?_
  refine pt_i hx hb hK hP hD hS hL_w_94 hK_w_94 hN_w_94 (vp_in_iff.mpr (by decide)) dX12_init_224 (fun r_154 H locs er_154 hP hD hS => ?_)
  have hf := fmq_hi hf er_154 (by decide)
  refine lv_aload_n hx hb dX12_init_225 rfl (lv_at hl 1 rfl) ?_
  refine pg_f (v := .ref w_94) (C := RX12) (T := TX12) (N := 31) hx hb hts (tw_i inlX12) hown hK hP hL_this hK_this (by decide) rfl 0 (by decide) (hts _ (tw_c tw_176)) (pq_hv rfl hR_w_94) dX12_init_226 ?_
  refine lv_bipush (v := 20) hx hb dX12_init_229 (by decide) ?_
  refine lv_iconst (v := 5) hx hb dX12_init_231 (by decide) ?_
  refine lv_iload_n hx hb dX12_init_232 rfl (lv_at hl 0 rfl) ?_
  refine lv_imul hx hb dX12_init_233 ?_
  refine lv_tov 50 (by decide) ?_
  refine lv_iadd hx hb dX12_init_234 ?_
  refine lv_tov 70 (by decide) ?_
  refine lv_iconst (v := 4) hx hb dX12_init_235 (by decide) ?_
  refine lv_iadd hx hb dX12_init_236 ?_
  refine lv_tov 74 (by decide) ?_
  refine lv_bipush (v := 20) hx hb dX12_init_237 (by decide) ?_
  refine pt_i hx hb hK hP hD hS hL_w_94 hK_w_94 hN_w_94 (vp_in_iff.mpr (by decide)) dX12_init_239 (fun r_155 H locs er_155 hP hD hS => ?_)
  have hf := fmq_hi hf er_155 (by decide)
  refine lv_iinc (v := 11) (lv' := [(1, .int 11), (0, .ref this)]) hx hb dX12_init_240 hl (k := 0) rfl (by decide) (by decide) rfl (fun ls hl => ?_)
  refine lv_goto (tgt := 174) hx hb dX12_init_243 (by decide) ?_
  refine lv_iload_n hx hb dX12_init_174 rfl (lv_at hl 0 rfl) ?_
  refine lv_bipush (v := 12) hx hb dX12_init_175 (by decide) ?_
  refine lv_icmp_ge (tgt := 246) hx hb dX12_init_177 (by decide) (fun c_156 => absurd c_156 (by decide)) (fun c_156 => ?_)
  refine lv_aload_n hx hb dX12_init_180 rfl (lv_at hl 1 rfl) ?_
  refine pg_f (v := .ref w_94) (C := RX12) (T := TX12) (N := 31) hx hb hts (tw_i inlX12) hown hK hP hL_this hK_this (by decide) rfl 0 (by decide) (hts _ (tw_c tw_176)) (pq_hv rfl hR_w_94) dX12_init_181 ?_
  refine lv_bipush (v := 20) hx hb dX12_init_184 (by decide) ?_
  refine lv_iconst (v := 5) hx hb dX12_init_186 (by decide) ?_
  refine lv_iload_n hx hb dX12_init_187 rfl (lv_at hl 0 rfl) ?_
  refine lv_imul hx hb dX12_init_188 ?_
  refine lv_tov 55 (by decide) ?_
  refine lv_iadd hx hb dX12_init_189 ?_
  refine lv_tov 75 (by decide) ?_
  refine lv_iconst (v := 1) hx hb dX12_init_190 (by decide) ?_
  refine lv_iadd hx hb dX12_init_191 ?_
  refine lv_tov 76 (by decide) ?_
  refine lv_sipush (v := 500) hx hb dX12_init_192 (by decide) ?_
  refine pt_i hx hb hK hP hD hS hL_w_94 hK_w_94 hN_w_94 (vp_in_iff.mpr (by decide)) dX12_init_195 (fun r_157 H locs er_157 hP hD hS => ?_)
  have hf := fmq_hi hf er_157 (by decide)
  refine lv_aload_n hx hb dX12_init_196 rfl (lv_at hl 1 rfl) ?_
  refine pg_f (v := .ref w_94) (C := RX12) (T := TX12) (N := 31) hx hb hts (tw_i inlX12) hown hK hP hL_this hK_this (by decide) rfl 0 (by decide) (hts _ (tw_c tw_176)) (pq_hv rfl hR_w_94) dX12_init_197 ?_
  refine lv_bipush (v := 20) hx hb dX12_init_200 (by decide) ?_
  refine lv_iconst (v := 5) hx hb dX12_init_202 (by decide) ?_
  refine lv_iload_n hx hb dX12_init_203 rfl (lv_at hl 0 rfl) ?_
  refine lv_imul hx hb dX12_init_204 ?_
  refine lv_tov 55 (by decide) ?_
  refine lv_iadd hx hb dX12_init_205 ?_
  refine lv_tov 75 (by decide) ?_
  refine lv_iconst (v := 2) hx hb dX12_init_206 (by decide) ?_
  refine lv_iadd hx hb dX12_init_207 ?_
  refine lv_tov 77 (by decide) ?_
  refine lv_bipush (v := 25) hx hb dX12_init_208 (by decide) ?_
  refine pt_i hx hb hK hP hD hS hL_w_94 hK_w_94 hN_w_94 (vp_in_iff.mpr (by decide)) dX12_init_210 (fun r_158 H locs er_158 hP hD hS => ?_)
  have hf := fmq_hi hf er_158 (by decide)
  refine lv_aload_n hx hb dX12_init_211 rfl (lv_at hl 1 rfl) ?_
  refine pg_f (v := .ref w_94) (C := RX12) (T := TX12) (N := 31) hx hb hts (tw_i inlX12) hown hK hP hL_this hK_this (by decide) rfl 0 (by decide) (hts _ (tw_c tw_176)) (pq_hv rfl hR_w_94) dX12_init_212 ?_
  refine lv_bipush (v := 20) hx hb dX12_init_215 (by decide) ?_
  refine lv_iconst (v := 5) hx hb dX12_init_217 (by decide) ?_
  refine lv_iload_n hx hb dX12_init_218 rfl (lv_at hl 0 rfl) ?_
  refine lv_imul hx hb dX12_init_219 ?_
  refine lv_tov 55 (by decide) ?_
  refine lv_iadd hx hb dX12_init_220 ?_
  refine lv_tov 75 (by decide) ?_
  refine lv_iconst (v := 3) hx hb dX12_init_221 (by decide) ?_
  refine lv_iadd hx hb dX12_init_222 ?_
  refine lv_tov 78 (by decide) ?_
  refine lv_iconst (v := 5) hx hb dX12_init_223 (by decide) ?_
  refine pt_i hx hb hK hP hD hS hL_w_94 hK_w_94 hN_w_94 (vp_in_iff.mpr (by decide)) dX12_init_224 (fun r_159 H locs er_159 hP hD hS => ?_)
  have hf := fmq_hi hf er_159 (by decide)
  refine lv_aload_n hx hb dX12_init_225 rfl (lv_at hl 1 rfl) ?_
  refine pg_f (v := .ref w_94) (C := RX12) (T := TX12) (N := 31) hx hb hts (tw_i inlX12) hown hK hP hL_this hK_this (by decide) rfl 0 (by decide) (hts _ (tw_c tw_176)) (pq_hv rfl hR_w_94) dX12_init_226 ?_
  refine lv_bipush (v := 20) hx hb dX12_init_229 (by decide) ?_
  refine lv_iconst (v := 5) hx hb dX12_init_231 (by decide) ?_
  refine lv_iload_n hx hb dX12_init_232 rfl (lv_at hl 0 rfl) ?_
  refine lv_imul hx hb dX12_init_233 ?_
  refine lv_tov 55 (by decide) ?_
  refine lv_iadd hx hb dX12_init_234 ?_
  refine lv_tov 75 (by decide) ?_
  refine lv_iconst (v := 4) hx hb dX12_init_235 (by decide) ?_
  refine lv_iadd hx hb dX12_init_236 ?_
  refine lv_tov 79 (by decide) ?_
  refine lv_bipush (v := 20) hx hb dX12_init_237 (by decide) ?_
  refine pt_i hx hb hK hP hD hS hL_w_94 hK_w_94 hN_w_94 (vp_in_iff.mpr (by decide)) dX12_init_239 (fun r_160 H locs er_160 hP hD hS => ?_)
  have hf := fmq_hi hf er_160 (by decide)
  refine lv_iinc (v := 12) (lv' := [(1, .int 12), (0, .ref this)]) hx hb dX12_init_240 hl (k := 0) rfl (by decide) (by decide) rfl (fun ls hl => ?_)
  refine lv_goto (tgt := 174) hx hb dX12_init_243 (by decide) ?_
  refine lv_iload_n hx hb dX12_init_174 rfl (lv_at hl 0 rfl) ?_
  refine lv_bipush (v := 12) hx hb dX12_init_175 (by decide) ?_
  refine lv_icmp_ge (tgt := 246) hx hb dX12_init_177 (by decide) (fun c_161 => ?_) (fun c_161 => absurd c_161 (by decide))
  refine lv_aload_n hx hb dX12_init_246 rfl (lv_at hl 1 rfl) ?_
  refine pg_f (v := .ref w_94) (C := RX12) (T := TX12) (N := 31) hx hb hts (tw_i inlX12) hown hK hP hL_this hK_this (by decide) rfl 0 (by decide) (hts _ (tw_c tw_176)) (pq_hv rfl hR_w_94) dX12_init_247 ?_
  refine lv_aload_n hx hb dX12_init_250 rfl (lv_at hl 1 rfl) ?_
  obtain ⟨-, w_162, hR_w_162, hL_w_162, hK_w_162, hN_w_162⟩ := id hA_385
  refine pg_f (v := .ref w_162) (C := RX12) (T := TX12) (N := 31) hx hb hts (tw_i inlX12) hown hK hP hL_this hK_this (by decide) rfl 1 (by decide) (hts _ (tw_c tw_177)) (pq_hv rfl hR_w_162) dX12_init_251 ?_
  have hne : w_94 ≠ w_162 := okD_at hD_384_385 hR_w_94 hR_w_162
  refine pk_v (va_runS (As := [.ref w_94, .ref w_162]) (rest := []) ⟨hx, hb, hml, hown, hts⟩ (c_X12_copy l D t σ_90 I_30 J r_160 r_40 rq H.size w_94 w_162 12720 hL_w_94 hK_w_94 hN_w_94 hL_w_162 hK_w_162 hN_w_162 rfl hne) (va_cwS 2 hts (tw_S tw_192 tw_193 tw_5 tw_194) rfl rfl rfl (by decide +kernel) ⟨Nat.le_of_ble_eq_true rfl, Nat.le_of_ble_eq_true rfl⟩) ⟨pq_blind, pq_pre hK hN hP hD⟩ rfl rfl hl.1 rfl (lv_room (Nat.le_of_ble_eq_true rfl)) dX12_init_254 ⟨Nat.le_of_ble_eq_true rfl, Nat.le_of_ble_eq_true rfl⟩) hD hS hA (fun σ1 μ1 H locs hw_164 hP hD hS => ?_)
  obtain ⟨ri_165, hu_166, hu_166p0⟩ := hw_164
  obtain ⟨hu_166a, hu_166b⟩ := Prod.mk.inj hu_166
  rw [hu_166a, hu_166b] at hP hD
  have hm := fmq_end hf
  have hFa : okF σ_90 ri_165 384 this (fun f => fm f 0) := okF_in hL_this hR_w_94 hL_w_94 (fm_eq hm (hu_166p0.2 _ hne))
  have hFi : okF σ_90 ri_165 385 this (fun f => fm f 0) := okF_in hL_this hR_w_162 hL_w_162 (fm_cp hm hu_166p0.1)
  exact W.vret hx hb hr (fun t1 ht hW => ⟨⟨(σ_90, I_30, J, ri_165, r_40, rq), rfl, ⟨σ_90, I_30, J, ri_165, r_40, rq, rfl, hE, ⟨hA_384, hA_385, hA_386, hA_387, hA_400, hA_404, hA_405, hA_408, hA_409, hA_411, hA_412, hA_413, hA_414, hI_388, hI_389, hI_390, hI_391, hD_384_385, hD_384_386, hD_384_414, hD_386_414, hFa, hFi⟩⟩, by rw [ht]; exact hP, va_K.moved hW.alike hK, hD⟩, hS.F ht⟩) hS.2.2 dX12_init_257
