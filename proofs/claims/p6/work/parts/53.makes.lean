theorem dX12_init_122 : decode cX12_init 122 = .ok (.aload_n 0, 1) := oc_42 (by decide +kernel)
theorem dX12_init_123 : decode cX12_init 123 = .ok (.getfield 7, 3) := oc_180 (a := 0) (b := 7) (by decide +kernel)
theorem dX12_init_126 : decode cX12_init 126 = .ok (.bipush 12, 2) := oc_16 (a := 12) (by decide +kernel)
theorem dX12_init_128 : decode cX12_init 128 = .ok (.iconst (-1), 1) := oc_2 (by decide +kernel)
theorem dX12_init_129 : decode cX12_init 129 = .ok (.iastore, 1) := oc_79 (by decide +kernel)
theorem dX12_init_130 : decode cX12_init 130 = .ok (.aload_n 0, 1) := oc_42 (by decide +kernel)
theorem dX12_init_131 : decode cX12_init 131 = .ok (.getfield 7, 3) := oc_180 (a := 0) (b := 7) (by decide +kernel)
theorem dX12_init_134 : decode cX12_init 134 = .ok (.bipush 13, 2) := oc_16 (a := 13) (by decide +kernel)
theorem dX12_init_136 : decode cX12_init 136 = .ok (.bipush 29, 2) := oc_16 (a := 29) (by decide +kernel)
theorem dX12_init_138 : decode cX12_init 138 = .ok (.iastore, 1) := oc_79 (by decide +kernel)
theorem dX12_init_139 : decode cX12_init 139 = .ok (.aload_n 0, 1) := oc_42 (by decide +kernel)
theorem dX12_init_140 : decode cX12_init 140 = .ok (.getfield 7, 3) := oc_180 (a := 0) (b := 7) (by decide +kernel)
theorem dX12_init_143 : decode cX12_init 143 = .ok (.bipush 14, 2) := oc_16 (a := 14) (by decide +kernel)
theorem dX12_init_145 : decode cX12_init 145 = .ok (.iconst 1, 1) := oc_4 (by decide +kernel)
theorem dX12_init_146 : decode cX12_init 146 = .ok (.iastore, 1) := oc_79 (by decide +kernel)
theorem dX12_init_147 : decode cX12_init 147 = .ok (.aload_n 0, 1) := oc_42 (by decide +kernel)
theorem dX12_init_148 : decode cX12_init 148 = .ok (.getfield 7, 3) := oc_180 (a := 0) (b := 7) (by decide +kernel)
theorem dX12_init_151 : decode cX12_init 151 = .ok (.bipush 15, 2) := oc_16 (a := 15) (by decide +kernel)
theorem dX12_init_153 : decode cX12_init 153 = .ok (.bipush 10, 2) := oc_16 (a := 10) (by decide +kernel)
theorem dX12_init_155 : decode cX12_init 155 = .ok (.iastore, 1) := oc_79 (by decide +kernel)
theorem dX12_init_156 : decode cX12_init 156 = .ok (.aload_n 0, 1) := oc_42 (by decide +kernel)
theorem dX12_init_157 : decode cX12_init 157 = .ok (.getfield 7, 3) := oc_180 (a := 0) (b := 7) (by decide +kernel)
theorem dX12_init_160 : decode cX12_init 160 = .ok (.bipush 16, 2) := oc_16 (a := 16) (by decide +kernel)
theorem dX12_init_162 : decode cX12_init 162 = .ok (.iconst 3, 1) := oc_6 (by decide +kernel)
theorem dX12_init_163 : decode cX12_init 163 = .ok (.iastore, 1) := oc_79 (by decide +kernel)
theorem dX12_init_164 : decode cX12_init 164 = .ok (.aload_n 0, 1) := oc_42 (by decide +kernel)
theorem dX12_init_165 : decode cX12_init 165 = .ok (.getfield 7, 3) := oc_180 (a := 0) (b := 7) (by decide +kernel)
theorem dX12_init_168 : decode cX12_init 168 = .ok (.bipush 17, 2) := oc_16 (a := 17) (by decide +kernel)
theorem dX12_init_170 : decode cX12_init 170 = .ok (.iconst 5, 1) := oc_8 (by decide +kernel)
theorem dX12_init_171 : decode cX12_init 171 = .ok (.iastore, 1) := oc_79 (by decide +kernel)
theorem dX12_init_172 : decode cX12_init 172 = .ok (.iconst 0, 1) := oc_3 (by decide +kernel)
theorem dX12_init_173 : decode cX12_init 173 = .ok (.istore_n 1, 1) := oc_60 (by decide +kernel)
theorem dX12_init_174 : decode cX12_init 174 = .ok (.iload_n 1, 1) := oc_27 (by decide +kernel)
theorem dX12_init_175 : decode cX12_init 175 = .ok (.bipush 12, 2) := oc_16 (a := 12) (by decide +kernel)
theorem dX12_init_177 : decode cX12_init 177 = .ok (.if_icmp .ge 69, 3) := oc_162 (a := 0) (b := 69) (by decide +kernel)
theorem dX12_init_246 : decode cX12_init 246 = .ok (.aload_n 0, 1) := oc_42 (by decide +kernel)
theorem dX12_init_247 : decode cX12_init 247 = .ok (.getfield 7, 3) := oc_180 (a := 0) (b := 7) (by decide +kernel)
theorem dX12_init_250 : decode cX12_init 250 = .ok (.aload_n 0, 1) := oc_42 (by decide +kernel)
theorem dX12_init_251 : decode cX12_init 251 = .ok (.getfield 13, 3) := oc_180 (a := 0) (b := 13) (by decide +kernel)
theorem dX12_init_254 : decode cX12_init 254 = .ok (.invokestatic 58, 3) := oc_184 (a := 0) (b := 58) (by decide +kernel)
theorem dX12_init_180 : decode cX12_init 180 = .ok (.aload_n 0, 1) := oc_42 (by decide +kernel)
theorem dX12_init_181 : decode cX12_init 181 = .ok (.getfield 7, 3) := oc_180 (a := 0) (b := 7) (by decide +kernel)
theorem dX12_init_184 : decode cX12_init 184 = .ok (.bipush 20, 2) := oc_16 (a := 20) (by decide +kernel)
theorem dX12_init_186 : decode cX12_init 186 = .ok (.iconst 5, 1) := oc_8 (by decide +kernel)
theorem dX12_init_187 : decode cX12_init 187 = .ok (.iload_n 1, 1) := oc_27 (by decide +kernel)
theorem dX12_init_188 : decode cX12_init 188 = .ok (.imul, 1) := oc_104 (by decide +kernel)
theorem dX12_init_189 : decode cX12_init 189 = .ok (.iadd, 1) := oc_96 (by decide +kernel)
theorem dX12_init_190 : decode cX12_init 190 = .ok (.iconst 1, 1) := oc_4 (by decide +kernel)
theorem dX12_init_191 : decode cX12_init 191 = .ok (.iadd, 1) := oc_96 (by decide +kernel)
theorem dX12_init_192 : decode cX12_init 192 = .ok (.sipush 500, 3) := oc_17 (a := 1) (b := 244) (by decide +kernel)
theorem dX12_init_195 : decode cX12_init 195 = .ok (.iastore, 1) := oc_79 (by decide +kernel)
theorem dX12_init_196 : decode cX12_init 196 = .ok (.aload_n 0, 1) := oc_42 (by decide +kernel)
theorem dX12_init_197 : decode cX12_init 197 = .ok (.getfield 7, 3) := oc_180 (a := 0) (b := 7) (by decide +kernel)
theorem dX12_init_200 : decode cX12_init 200 = .ok (.bipush 20, 2) := oc_16 (a := 20) (by decide +kernel)
theorem dX12_init_202 : decode cX12_init 202 = .ok (.iconst 5, 1) := oc_8 (by decide +kernel)
theorem dX12_init_203 : decode cX12_init 203 = .ok (.iload_n 1, 1) := oc_27 (by decide +kernel)
theorem dX12_init_204 : decode cX12_init 204 = .ok (.imul, 1) := oc_104 (by decide +kernel)
theorem dX12_init_205 : decode cX12_init 205 = .ok (.iadd, 1) := oc_96 (by decide +kernel)
theorem dX12_init_206 : decode cX12_init 206 = .ok (.iconst 2, 1) := oc_5 (by decide +kernel)
theorem dX12_init_207 : decode cX12_init 207 = .ok (.iadd, 1) := oc_96 (by decide +kernel)
theorem dX12_init_208 : decode cX12_init 208 = .ok (.bipush 25, 2) := oc_16 (a := 25) (by decide +kernel)
theorem dX12_init_210 : decode cX12_init 210 = .ok (.iastore, 1) := oc_79 (by decide +kernel)
theorem dX12_init_211 : decode cX12_init 211 = .ok (.aload_n 0, 1) := oc_42 (by decide +kernel)
theorem dX12_init_212 : decode cX12_init 212 = .ok (.getfield 7, 3) := oc_180 (a := 0) (b := 7) (by decide +kernel)
theorem dX12_init_215 : decode cX12_init 215 = .ok (.bipush 20, 2) := oc_16 (a := 20) (by decide +kernel)
theorem dX12_init_217 : decode cX12_init 217 = .ok (.iconst 5, 1) := oc_8 (by decide +kernel)
theorem dX12_init_218 : decode cX12_init 218 = .ok (.iload_n 1, 1) := oc_27 (by decide +kernel)
theorem dX12_init_219 : decode cX12_init 219 = .ok (.imul, 1) := oc_104 (by decide +kernel)
theorem dX12_init_220 : decode cX12_init 220 = .ok (.iadd, 1) := oc_96 (by decide +kernel)
theorem dX12_init_221 : decode cX12_init 221 = .ok (.iconst 3, 1) := oc_6 (by decide +kernel)
theorem dX12_init_222 : decode cX12_init 222 = .ok (.iadd, 1) := oc_96 (by decide +kernel)
theorem dX12_init_223 : decode cX12_init 223 = .ok (.iconst 5, 1) := oc_8 (by decide +kernel)
theorem dX12_init_224 : decode cX12_init 224 = .ok (.iastore, 1) := oc_79 (by decide +kernel)
theorem dX12_init_225 : decode cX12_init 225 = .ok (.aload_n 0, 1) := oc_42 (by decide +kernel)
theorem dX12_init_226 : decode cX12_init 226 = .ok (.getfield 7, 3) := oc_180 (a := 0) (b := 7) (by decide +kernel)
theorem dX12_init_229 : decode cX12_init 229 = .ok (.bipush 20, 2) := oc_16 (a := 20) (by decide +kernel)
theorem dX12_init_231 : decode cX12_init 231 = .ok (.iconst 5, 1) := oc_8 (by decide +kernel)
theorem dX12_init_232 : decode cX12_init 232 = .ok (.iload_n 1, 1) := oc_27 (by decide +kernel)
theorem dX12_init_233 : decode cX12_init 233 = .ok (.imul, 1) := oc_104 (by decide +kernel)
theorem dX12_init_234 : decode cX12_init 234 = .ok (.iadd, 1) := oc_96 (by decide +kernel)
theorem dX12_init_235 : decode cX12_init 235 = .ok (.iconst 4, 1) := oc_7 (by decide +kernel)
theorem dX12_init_236 : decode cX12_init 236 = .ok (.iadd, 1) := oc_96 (by decide +kernel)
theorem dX12_init_237 : decode cX12_init 237 = .ok (.bipush 20, 2) := oc_16 (a := 20) (by decide +kernel)
theorem dX12_init_239 : decode cX12_init 239 = .ok (.iastore, 1) := oc_79 (by decide +kernel)
theorem dX12_init_240 : decode cX12_init 240 = .ok (.iinc 1 1, 3) := oc_132 (b := 1) (by decide +kernel)
theorem dX12_init_243 : decode cX12_init 243 = .ok (.goto (-69), 3) := oc_167 (a := 255) (b := 187) (by decide +kernel)
theorem dX12_init_0 : decode cX12_init 0 = .ok (.aload_n 0, 1) := oc_42 (by decide +kernel)
theorem tw_175 : Cond.methodLink RX12 1 objectInit ∈ wsL_law := sg_8 _ (List.mem_of_getElem? (i := 7) rfl)
theorem dX12_init_1 : decode cX12_init 1 = .ok (.invokespecial 1, 3) := oc_183 (a := 0) (b := 1) (by decide +kernel)
theorem dX12_init_4 : decode cX12_init 4 = .ok (.aload_n 0, 1) := oc_42 (by decide +kernel)
theorem dX12_init_5 : decode cX12_init 5 = .ok (.sipush 12720, 3) := oc_17 (a := 49) (b := 176) (by decide +kernel)
theorem dX12_init_8 : decode cX12_init 8 = .ok (.newarray .int, 2) := by decide +kernel
theorem dX12_init_10 : decode cX12_init 10 = .ok (.putfield 7, 3) := oc_181 (a := 0) (b := 7) (by decide +kernel)
theorem dX12_init_13 : decode cX12_init 13 = .ok (.aload_n 0, 1) := oc_42 (by decide +kernel)
theorem dX12_init_14 : decode cX12_init 14 = .ok (.sipush 12720, 3) := oc_17 (a := 49) (b := 176) (by decide +kernel)
theorem dX12_init_17 : decode cX12_init 17 = .ok (.newarray .int, 2) := by decide +kernel
theorem dX12_init_19 : decode cX12_init 19 = .ok (.putfield 13, 3) := oc_181 (a := 0) (b := 13) (by decide +kernel)
theorem dX12_init_22 : decode cX12_init 22 = .ok (.aload_n 0, 1) := oc_42 (by decide +kernel)
theorem dX12_init_23 : decode cX12_init 23 = .ok (.sipush 12720, 3) := oc_17 (a := 49) (b := 176) (by decide +kernel)
theorem dX12_init_26 : decode cX12_init 26 = .ok (.newarray .int, 2) := by decide +kernel
theorem dX12_init_28 : decode cX12_init 28 = .ok (.putfield 16, 3) := oc_181 (a := 0) (b := 16) (by decide +kernel)
theorem dX12_init_31 : decode cX12_init 31 = .ok (.aload_n 0, 1) := oc_42 (by decide +kernel)
theorem dX12_init_32 : decode cX12_init 32 = .ok (.sipush 300, 3) := oc_17 (a := 1) (b := 44) (by decide +kernel)
theorem dX12_init_35 : decode cX12_init 35 = .ok (.newarray .int, 2) := by decide +kernel
theorem dX12_init_37 : decode cX12_init 37 = .ok (.putfield 19, 3) := oc_181 (a := 0) (b := 19) (by decide +kernel)
theorem dX12_init_40 : decode cX12_init 40 = .ok (.aload_n 0, 1) := oc_42 (by decide +kernel)
theorem dX12_init_41 : decode cX12_init 41 = .ok (.iconst (-1), 1) := oc_2 (by decide +kernel)
theorem dX12_init_42 : decode cX12_init 42 = .ok (.putfield 22, 3) := oc_181 (a := 0) (b := 22) (by decide +kernel)
theorem dX12_init_45 : decode cX12_init 45 = .ok (.aload_n 0, 1) := oc_42 (by decide +kernel)
theorem dX12_init_46 : decode cX12_init 46 = .ok (.iconst (-1), 1) := oc_2 (by decide +kernel)
theorem dX12_init_47 : decode cX12_init 47 = .ok (.putfield 26, 3) := oc_181 (a := 0) (b := 26) (by decide +kernel)
theorem dX12_init_50 : decode cX12_init 50 = .ok (.aload_n 0, 1) := oc_42 (by decide +kernel)
theorem dX12_init_51 : decode cX12_init 51 = .ok (.sipush 160, 3) := oc_17 (a := 0) (b := 160) (by decide +kernel)
theorem dX12_init_54 : decode cX12_init 54 = .ok (.newarray .int, 2) := by decide +kernel
theorem dX12_init_56 : decode cX12_init 56 = .ok (.putfield 29, 3) := oc_181 (a := 0) (b := 29) (by decide +kernel)
theorem dX12_init_59 : decode cX12_init 59 = .ok (.aload_n 0, 1) := oc_42 (by decide +kernel)
theorem dX12_init_60 : decode cX12_init 60 = .ok (.sipush 330, 3) := oc_17 (a := 1) (b := 74) (by decide +kernel)
theorem dX12_init_63 : decode cX12_init 63 = .ok (.newarray .long, 2) := by decide +kernel
theorem dX12_init_65 : decode cX12_init 65 = .ok (.putfield 32, 3) := oc_181 (a := 0) (b := 32) (by decide +kernel)
theorem dX12_init_68 : decode cX12_init 68 = .ok (.aload_n 0, 1) := oc_42 (by decide +kernel)
theorem dX12_init_69 : decode cX12_init 69 = .ok (.sipush 330, 3) := oc_17 (a := 1) (b := 74) (by decide +kernel)
theorem dX12_init_72 : decode cX12_init 72 = .ok (.newarray .boolean, 2) := by decide +kernel
theorem dX12_init_74 : decode cX12_init 74 = .ok (.putfield 36, 3) := oc_181 (a := 0) (b := 36) (by decide +kernel)
theorem dX12_init_77 : decode cX12_init 77 = .ok (.aload_n 0, 1) := oc_42 (by decide +kernel)
theorem dX12_init_78 : decode cX12_init 78 = .ok (.iconst 5, 1) := oc_8 (by decide +kernel)
theorem dX12_init_79 : decode cX12_init 79 = .ok (.newarray .int, 2) := by decide +kernel
theorem dX12_init_81 : decode cX12_init 81 = .ok (.putfield 40, 3) := oc_181 (a := 0) (b := 40) (by decide +kernel)
theorem dX12_init_84 : decode cX12_init 84 = .ok (.aload_n 0, 1) := oc_42 (by decide +kernel)
theorem dX12_init_85 : decode cX12_init 85 = .ok (.bipush 40, 2) := oc_16 (a := 40) (by decide +kernel)
theorem dX12_init_87 : decode cX12_init 87 = .ok (.newarray .int, 2) := by decide +kernel
theorem dX12_init_89 : decode cX12_init 89 = .ok (.putfield 43, 3) := oc_181 (a := 0) (b := 43) (by decide +kernel)
theorem dX12_init_92 : decode cX12_init 92 = .ok (.aload_n 0, 1) := oc_42 (by decide +kernel)
theorem dX12_init_93 : decode cX12_init 93 = .ok (.bipush 40, 2) := oc_16 (a := 40) (by decide +kernel)
theorem dX12_init_95 : decode cX12_init 95 = .ok (.newarray .int, 2) := by decide +kernel
theorem dX12_init_97 : decode cX12_init 97 = .ok (.putfield 46, 3) := oc_181 (a := 0) (b := 46) (by decide +kernel)
theorem dX12_init_100 : decode cX12_init 100 = .ok (.aload_n 0, 1) := oc_42 (by decide +kernel)
theorem dX12_init_101 : decode cX12_init 101 = .ok (.bipush 40, 2) := oc_16 (a := 40) (by decide +kernel)
theorem dX12_init_103 : decode cX12_init 103 = .ok (.newarray .boolean, 2) := by decide +kernel
theorem dX12_init_105 : decode cX12_init 105 = .ok (.putfield 49, 3) := oc_181 (a := 0) (b := 49) (by decide +kernel)
theorem dX12_init_108 : decode cX12_init 108 = .ok (.aload_n 0, 1) := oc_42 (by decide +kernel)
theorem dX12_init_109 : decode cX12_init 109 = .ok (.iconst 5, 1) := oc_8 (by decide +kernel)
theorem dX12_init_110 : decode cX12_init 110 = .ok (.newarray .int, 2) := by decide +kernel
theorem dX12_init_112 : decode cX12_init 112 = .ok (.putfield 52, 3) := oc_181 (a := 0) (b := 52) (by decide +kernel)
theorem dX12_init_115 : decode cX12_init 115 = .ok (.aload_n 0, 1) := oc_42 (by decide +kernel)
theorem dX12_init_116 : decode cX12_init 116 = .ok (.iconst 5, 1) := oc_8 (by decide +kernel)
theorem dX12_init_117 : decode cX12_init 117 = .ok (.newarray .int, 2) := by decide +kernel
theorem dX12_init_119 : decode cX12_init 119 = .ok (.putfield 55, 3) := oc_181 (a := 0) (b := 55) (by decide +kernel)
theorem dX12_init_257 : decode cX12_init 257 = .ok (.return_, 1) := oc_177 (by decide +kernel)
theorem rIm_0 (f : Nat) : rg (0 : Int32) (rIm f).1 (rIm f).2 := by
  by_cases hf : f < 415
  · exact rg0 ((by decide +kernel : ∀ f, f < 415 → (rIm f).1 ≤ 0 ∧ 0 ≤ (rIm f).2) f hf)
  · unfold rIm
    rw [if_neg (by omega), show rIml[f - 384]? = none from List.getElem?_eq_none (by show 31 ≤ f - 384; omega)]
    exact rg0 ⟨by decide +kernel, by decide +kernel⟩
theorem rAm_0 (f : Nat) : rg (0 : Int32) (rAm f).1 (rAm f).2 := by
  by_cases hf : f < 415
  · exact rg0 ((by decide +kernel : ∀ f, f < 415 → (rAm f).1 ≤ 0 ∧ 0 ≤ (rAm f).2) f hf)
  · unfold rAm
    rw [if_neg (by omega), show rAml[f - 384]? = none from List.getElem?_eq_none (by show 31 ≤ f - 384; omega)]
    exact rg0 ⟨by decide +kernel, by decide +kernel⟩
theorem zn_lt (i : Nat) : zn i < 1000 := by
  unfold zn
  by_cases h0 : i < 20
  · rw [if_pos h0]; omega
  rw [if_neg h0]
  by_cases h1 : i < 80
  · rw [if_pos h1]; omega
  rw [if_neg h1]
  by_cases h2 : i < 85
  · rw [if_pos h2]; omega
  rw [if_neg h2]
  by_cases h3 : i < 100
  · rw [if_pos h3]; omega
  rw [if_neg h3]
  by_cases h4 : i < 740
  · rw [if_pos h4]; omega
  rw [if_neg h4]
  by_cases h5 : i < 1220
  · rw [if_pos h5]; omega
  rw [if_neg h5]
  by_cases h6 : i < 2220
  · rw [if_pos h6]; omega
  rw [if_neg h6]
  by_cases h7 : i < 2340
  · rw [if_pos h7]; omega
  rw [if_neg h7]
  by_cases h8 : i < 2400
  · rw [if_pos h8]; omega
  rw [if_neg h8]
  by_cases h9 : i < 2520
  · rw [if_pos h9]; omega
  rw [if_neg h9]
  by_cases h10 : i < 3720
  · rw [if_pos h10]; omega
  rw [if_neg h10]
  by_cases h : i < 12720
  · rw [if_pos h]
    by_cases g1 : (i - 3720) % 900 = 0
    · rw [if_pos g1]; omega
    rw [if_neg g1]
    by_cases g2 : (i - 3720) % 900 < 241
    · rw [if_pos g2]; omega
    rw [if_neg g2]
    by_cases g3 : (i - 3720) % 900 < 250
    · rw [if_pos g3]; omega
    · rw [if_neg g3]; omega
  · rw [if_neg h]; omega
theorem GA_0 {f : Nat → Int32} (h : ∀ j, f j = 0) : GA f := by
  have z : (0 : Int32).toInt = 0 := rfl
  refine ⟨⟨fun i => ?_, fun i _ => ?_⟩, fun t ht c hc h1 h2 => ?_, fun q hq => ?_⟩
  · rw [h i]
    exact rg0 ((by decide +kernel : ∀ k, k < 1000 → (rzt k).1 ≤ 0 ∧ 0 ≤ (rzt k).2) _ (zn_lt i))
  · rw [h i, z]; exact Or.inl (by decide +kernel)
  · rw [h 6, z] at ht; omega
  · rw [h 7, z] at hq; omega
theorem GT_0 {tg : Nat → Nat} {I ri : Nat → Nat → Int32} (hz : ∀ q j, ri q j = 0) (hi : ∀ f a, f ≠ 389 → f ≠ 390 → I f a = 0) : GT tg I ri := by
  refine ⟨fun f a => ?_, fun q j => ?_, fun q _ => GA_0 (hz q), fun a => Or.inr (Or.inl ?_)⟩
  · by_cases h1 : f = 389
    · rw [h1]; exact rg_full _
    · by_cases h2 : f = 390
      · rw [h2]; exact rg_full _
      · rw [hi f a h1 h2]; exact rIm_0 f
  · rw [hz q j]; exact rAm_0 _
  · rw [hi _ a (by decide +kernel) (by decide +kernel)]; rfl
set_option maxHeartbeats 4000000 in
set_option maxRecDepth 100000 in
theorem s_X12_init_rest {p : Program} {e : Env} {s : State} {m : MethodId} {args : Array Value} {below : List Frame} {meth : Method} {c : Code} {Q : State → Prop} {A : Nat → Prop} (l : Launch) (D : va_G) (t : pq_T) (σ : pq_S) (I : Nat → Nat → Int32) (J : Nat → Nat → Int64) (ri : Nat → Nat → Int32) (rj : Nat → Nat → Int64) (rq : Nat → Nat → Option Nat) (tg : Nat → Nat) (hSH : SH σ tg) (hG0 : GT tg I ri) (this : Nat) (hL_this : this ∈ σ.1) (hK_this : σ.2.1 this = 12) (this_a : Nat) (hR_this_a : σ.2.2.1 384 this = some this_a) (hL_this_a : this_a ∈ σ.1) (hK_this_a : σ.2.1 this_a = 13) (hN_this_a : σ.2.2.2 this_a = 12720) (hT_this_a : tg this_a = 384) (this_image : Nat) (hR_this_image : σ.2.2.1 385 this = some this_image) (hL_this_image : this_image ∈ σ.1) (hK_this_image : σ.2.1 this_image = 13) (hN_this_image : σ.2.2.2 this_image = 12720) (hT_this_image : tg this_image = 385) (hx : p.tables.exec = Jvm.exec) (hb : c.code = cX12_init) (hml : c.maxLocals = 2) (hts : ∀ w ∈ (wa yX12_init cX12_init 2 none), w.before args s = true) (hown : s.vm.findClass RX12 = some m.cls) (hK : va_K D vwCl (pq_ty t) s) (hN : pq_N s) (hA : ∀ q, s.heap.size ≤ q → A q) (H : Heap) (locs : List Loc) (ls : Array Slot) (hP : va_P D vwCl (pq_P t σ (I, J, ri, rj, rq)) H) (hD : va_D A (pq_P t σ (I, J, ri, rj, rq))) (hS : va_S A s.heap H locs) (hl : lv_has ls 2 [(0, .ref this)]) (kr : ∀ (ri' : Nat → Nat → Int32) (H : Heap) (locs : List Loc) (ls : Array Slot), GM [1013, 1014, 1015, 1101, 1102, 1103, 1104, 2000] tg σ I ri I ri' rq → (∀ j, zn j ∈ ztl → ri' this_image j = ri' this_a j) → TBK (ri' this_a) 12 → va_P D vwCl (pq_P t σ (I, J, ri', rj, rq)) H → va_D A (pq_P t σ (I, J, ri', rj, rq)) → va_S A s.heap H locs → ls.size = 2 → W p l e ({ frames := 1, cells := 13, slots := 39415, locals := 22 } : Room) s m args below meth c H locs 13 39415 Q (F0 m 257 ls [])) : W p l e ({ frames := 1, cells := 13, slots := 39415, locals := 22 } : Room) s m args below meth c H locs 13 39415 Q (F0 m 122 ls []) := by
  have hG : GM [1013, 1014, 1015, 1101, 1102, 1103, 1104, 2000] tg σ I ri I ri rq := ⟨hG0, fun _ _ _ => rfl, fun _ _ _ _ _ => rfl, fun _ _ _ _ _ _ => rfl⟩
  refine lv_aload_n hx hb dX12_init_122 rfl (lv_at hl 0 rfl) ?_
  refine pg_f (v := .ref this_a) (C := RX12) (T := TX12) (N := 31) hx hb hts (tw_i inlX12) hown hK hP hL_this hK_this (by decide +kernel) rfl 0 (by decide +kernel) (hts _ (tw_c tw_176)) (pq_hv rfl hR_this_a) dX12_init_123 ?_
  refine lv_bipush (v := 12) hx hb dX12_init_126 (by decide +kernel) ?_
  refine lv_iconst (v := (-1)) hx hb dX12_init_128 (by decide +kernel) ?_
  refine pt_i hx hb hK hP hD hS hL_this_a hK_this_a hN_this_a (vp_in_iff.mpr (by decide +kernel)) dX12_init_129 (fun r_1 H locs er_1 hP hD hS => ?_)
  have hG := GM.wz hG hT_this_a (by decide +kernel) er_1 (show zn ((12 : Int32)).toNatClampNeg = 12 from by decide +kernel) rfl (rg_w (rg_k (-1 : Int32) (-1) rfl) (by decide +kernel)) (by decide +kernel)
  refine lv_aload_n hx hb dX12_init_130 rfl (lv_at hl 0 rfl) ?_
  refine pg_f (v := .ref this_a) (C := RX12) (T := TX12) (N := 31) hx hb hts (tw_i inlX12) hown hK hP hL_this hK_this (by decide +kernel) rfl 0 (by decide +kernel) (hts _ (tw_c tw_176)) (pq_hv rfl hR_this_a) dX12_init_131 ?_
  refine lv_bipush (v := 13) hx hb dX12_init_134 (by decide +kernel) ?_
  refine lv_bipush (v := 29) hx hb dX12_init_136 (by decide +kernel) ?_
  refine pt_i hx hb hK hP hD hS hL_this_a hK_this_a hN_this_a (vp_in_iff.mpr (by decide +kernel)) dX12_init_138 (fun r_2 H locs er_2 hP hD hS => ?_)
  have hG := GM.wz hG hT_this_a (by decide +kernel) er_2 (show zn ((13 : Int32)).toNatClampNeg = 13 from by decide +kernel) rfl (rg_w (rg_k (29 : Int32) 29 rfl) (by decide +kernel)) (by decide +kernel)
  refine lv_aload_n hx hb dX12_init_139 rfl (lv_at hl 0 rfl) ?_
  refine pg_f (v := .ref this_a) (C := RX12) (T := TX12) (N := 31) hx hb hts (tw_i inlX12) hown hK hP hL_this hK_this (by decide +kernel) rfl 0 (by decide +kernel) (hts _ (tw_c tw_176)) (pq_hv rfl hR_this_a) dX12_init_140 ?_
  refine lv_bipush (v := 14) hx hb dX12_init_143 (by decide +kernel) ?_
  refine lv_iconst (v := 1) hx hb dX12_init_145 (by decide +kernel) ?_
  refine pt_i hx hb hK hP hD hS hL_this_a hK_this_a hN_this_a (vp_in_iff.mpr (by decide +kernel)) dX12_init_146 (fun r_3 H locs er_3 hP hD hS => ?_)
  have hG := GM.wz hG hT_this_a (by decide +kernel) er_3 (show zn ((14 : Int32)).toNatClampNeg = 14 from by decide +kernel) rfl (rg_w (rg_k (1 : Int32) 1 rfl) (by decide +kernel)) (by decide +kernel)
  refine lv_aload_n hx hb dX12_init_147 rfl (lv_at hl 0 rfl) ?_
  refine pg_f (v := .ref this_a) (C := RX12) (T := TX12) (N := 31) hx hb hts (tw_i inlX12) hown hK hP hL_this hK_this (by decide +kernel) rfl 0 (by decide +kernel) (hts _ (tw_c tw_176)) (pq_hv rfl hR_this_a) dX12_init_148 ?_
  refine lv_bipush (v := 15) hx hb dX12_init_151 (by decide +kernel) ?_
  refine lv_bipush (v := 10) hx hb dX12_init_153 (by decide +kernel) ?_
  refine pt_i hx hb hK hP hD hS hL_this_a hK_this_a hN_this_a (vp_in_iff.mpr (by decide +kernel)) dX12_init_155 (fun r_4 H locs er_4 hP hD hS => ?_)
  have hG := GM.wz hG hT_this_a (by decide +kernel) er_4 (show zn ((15 : Int32)).toNatClampNeg = 15 from by decide +kernel) rfl (rg_w (rg_k (10 : Int32) 10 rfl) (by decide +kernel)) (by decide +kernel)
  refine lv_aload_n hx hb dX12_init_156 rfl (lv_at hl 0 rfl) ?_
  refine pg_f (v := .ref this_a) (C := RX12) (T := TX12) (N := 31) hx hb hts (tw_i inlX12) hown hK hP hL_this hK_this (by decide +kernel) rfl 0 (by decide +kernel) (hts _ (tw_c tw_176)) (pq_hv rfl hR_this_a) dX12_init_157 ?_
  refine lv_bipush (v := 16) hx hb dX12_init_160 (by decide +kernel) ?_
  refine lv_iconst (v := 3) hx hb dX12_init_162 (by decide +kernel) ?_
  refine pt_i hx hb hK hP hD hS hL_this_a hK_this_a hN_this_a (vp_in_iff.mpr (by decide +kernel)) dX12_init_163 (fun r_5 H locs er_5 hP hD hS => ?_)
  have hG := GM.wz hG hT_this_a (by decide +kernel) er_5 (show zn ((16 : Int32)).toNatClampNeg = 16 from by decide +kernel) rfl (rg_w (rg_k (3 : Int32) 3 rfl) (by decide +kernel)) (by decide +kernel)
  refine lv_aload_n hx hb dX12_init_164 rfl (lv_at hl 0 rfl) ?_
  refine pg_f (v := .ref this_a) (C := RX12) (T := TX12) (N := 31) hx hb hts (tw_i inlX12) hown hK hP hL_this hK_this (by decide +kernel) rfl 0 (by decide +kernel) (hts _ (tw_c tw_176)) (pq_hv rfl hR_this_a) dX12_init_165 ?_
  refine lv_bipush (v := 17) hx hb dX12_init_168 (by decide +kernel) ?_
  refine lv_iconst (v := 5) hx hb dX12_init_170 (by decide +kernel) ?_
  refine pt_i hx hb hK hP hD hS hL_this_a hK_this_a hN_this_a (vp_in_iff.mpr (by decide +kernel)) dX12_init_171 (fun r_6 H locs er_6 hP hD hS => ?_)
  have hG := GM.wz hG hT_this_a (by decide +kernel) er_6 (show zn ((17 : Int32)).toNatClampNeg = 17 from by decide +kernel) rfl (rg_w (rg_k (5 : Int32) 5 rfl) (by decide +kernel)) (by decide +kernel)
  refine lv_iconst (v := 0) hx hb dX12_init_172 (by decide +kernel) ?_
  refine lv_istore_n (lv' := [(1, .int 0), (0, .ref this)]) hx hb dX12_init_173 rfl hl (by decide +kernel) rfl (fun ls hl => ?_)
  have L_498 : ∀ (n_497 : Nat) (x_444 : Int32) (ri_445 : Nat → Nat → Int32) (H : Heap) (locs : List Loc) (ls : Array Slot), rg x_444 0 12 → (TBK (ri_445 this_a) (x_444).toNatClampNeg) → (12 - (x_444).toInt).toNat < n_497 → GM [1013, 1014, 1015, 1101, 1102, 1103, 1104, 2000] tg σ I ri I ri_445 rq → va_P D vwCl (pq_P t σ (I, J, ri_445, rj, rq)) H → va_D A (pq_P t σ (I, J, ri_445, rj, rq)) → va_S A s.heap H locs → lv_has ls 2 [(0, .ref this), (1, .int x_444)] → W p l e ({ frames := 1, cells := 13, slots := 39415, locals := 22 } : Room) s m args below meth c H locs 13 39415 Q (F0 m 174 ls []) := by
    intro n_497
    induction n_497 with
    | zero => intro x_444 ri_445 H locs ls h_502 hrel_503 hm_496 hG hP hD hS hl; exact absurd hm_496 (Nat.not_lt_zero _)
    | succ n_497 ih_499 =>
      intro x_444 ri_445 H locs ls h_502 hrel_503 hm_496 hG hP hD hS hl
      have uh_502 := h_502.1
      have vh_502 := h_502.2
      refine lv_iload_n hx hb dX12_init_174 rfl (lv_at hl 1 rfl) ?_
      refine lv_bipush (v := 12) hx hb dX12_init_175 (by decide +kernel) ?_
      refine lv_icmp_ge (tgt := 246) hx hb dX12_init_177 (by decide +kernel) (fun c_504 => ?_) (fun c_504 => ?_)
      · have tc_505 : 12 ≤ (x_444).toInt := Int32.le_iff_toInt_le.mp c_504
        have h_506 : rg x_444 12 12 := rg_le2 c_504 (rg_k (12 : Int32) 12 rfl) h_502 (by decide +kernel)
        have uh_506 := h_506.1
        have vh_506 := h_506.2
        refine lv_aload_n hx hb dX12_init_246 rfl (lv_at hl 0 rfl) ?_
        refine pg_f (v := .ref this_a) (C := RX12) (T := TX12) (N := 31) hx hb hts (tw_i inlX12) hown hK hP hL_this hK_this (by decide +kernel) rfl 0 (by decide +kernel) (hts _ (tw_c tw_176)) (pq_hv rfl hR_this_a) dX12_init_247 ?_
        refine lv_aload_n hx hb dX12_init_250 rfl (lv_at hl 0 rfl) ?_
        refine pg_f (v := .ref this_image) (C := RX12) (T := TX12) (N := 31) hx hb hts (tw_i inlX12) hown hK hP hL_this hK_this (by decide +kernel) rfl 1 (by decide +kernel) (hts _ (tw_c tw_177)) (pq_hv rfl hR_this_image) dX12_init_251 ?_
        refine pk_v (va_runS (As := [.ref this_a, .ref this_image]) (rest := []) ⟨hx, hb, hml, hown, hts⟩ (c_X12_copy l D t σ I J ri_445 rj rq H.size this_a this_image 12720 hL_this_a hK_this_a hN_this_a hL_this_image hK_this_image hN_this_image rfl (tg_ne hT_this_a hT_this_image (by decide +kernel))) (va_cwS 2 hts (tw_S tw_192 tw_193 tw_5 tw_194) rfl rfl rfl cd_yX12_copy_2 ⟨Nat.le_of_ble_eq_true rfl, Nat.le_of_ble_eq_true rfl⟩) ⟨pq_blind, pq_pre hK hN hP hD⟩ rfl rfl hl.1 rfl (lv_room (Nat.le_of_ble_eq_true rfl)) dX12_init_254 ⟨Nat.le_of_ble_eq_true rfl, Nat.le_of_ble_eq_true rfl⟩) hD hS hA (fun σ1 μ1 H locs hw_508 hP hD hS => ?_)
        obtain ⟨ri_509, hu_510, hp_513, hp_514, hp_515⟩ := hw_508
        obtain ⟨hu_510a, hu_510b⟩ := Prod.mk.inj hu_510
        rw [hu_510a, hu_510b] at hP hD
        have tt_518 : (ri_509 this_image 0).toInt = (ri_445 this_a 0).toInt := congrArg Int32.toInt (hp_513 0 (by decide +kernel))
        have tt_519 : (ri_509 this_a 0).toInt = (ri_445 this_a 0).toInt := congrArg Int32.toInt (congrFun (hp_514 this_a (tg_ne hT_this_a hT_this_image (by decide +kernel))) 0)
        have hG := GM.cp hG hT_this_a hT_this_image (by decide +kernel) hp_513 hp_514 (by decide +kernel)
        exact kr ri_509 H locs ls hG (fun j hj => (hp_513 j (zl_lt hj)).trans (congrFun (hp_514 this_a (tg_ne hT_this_a hT_this_image (by decide +kernel))) j).symm) (by rw [hp_514 this_a (tg_ne hT_this_a hT_this_image (by decide +kernel))]; exact tbk_le hrel_503 (by have z_i := clampE x_444; omega)) hP hD hS hl.1
      · have tc_520 : (x_444).toInt < 12 := Int32.lt_iff_toInt_lt.mp (nle c_504)
        have h_521 : rg x_444 0 11 := rg_lt1 (nle c_504) h_502 (rg_k (12 : Int32) 12 rfl) (by decide +kernel)
        have uh_521 := h_521.1
        have vh_521 := h_521.2
        refine lv_aload_n hx hb dX12_init_180 rfl (lv_at hl 0 rfl) ?_
        refine pg_f (v := .ref this_a) (C := RX12) (T := TX12) (N := 31) hx hb hts (tw_i inlX12) hown hK hP hL_this hK_this (by decide +kernel) rfl 0 (by decide +kernel) (hts _ (tw_c tw_176)) (pq_hv rfl hR_this_a) dX12_init_181 ?_
        refine lv_bipush (v := 20) hx hb dX12_init_184 (by decide +kernel) ?_
        refine lv_iconst (v := 5) hx hb dX12_init_186 (by decide +kernel) ?_
        refine lv_iload_n hx hb dX12_init_187 rfl (lv_at hl 1 rfl) ?_
        refine lv_imul hx hb dX12_init_188 ?_
        refine lv_topi (fun x_522 ex_522 => ?_)
        have h_523 : rg x_522 0 55 := rg_of_eq ex_522 (rg_mul (rg_k (5 : Int32) 5 rfl) h_521 (by decide +kernel))
        have uh_523 := h_523.1
        have vh_523 := h_523.2
        have tx_522 : (x_522).toInt = 5 * (x_444).toInt := by rw [ex_522]; exact i_mul_rg (a2 := 5) (b2 := (x_444).toInt) rfl rfl (rg_k (5 : Int32) 5 rfl) h_521 (by decide +kernel)
        refine lv_iadd hx hb dX12_init_189 ?_
        refine lv_topi (fun x_524 ex_524 => ?_)
        have h_525 : rg x_524 20 75 := rg_of_eq ex_524 (rg_add (rg_k (20 : Int32) 20 rfl) h_523 (by decide +kernel))
        have uh_525 := h_525.1
        have vh_525 := h_525.2
        have tx_524 : (x_524).toInt = 20 + (x_522).toInt := by rw [ex_524]; exact i_add_rg (a2 := 20) (b2 := (x_522).toInt) rfl rfl (rg_k (20 : Int32) 20 rfl) h_523 (by decide +kernel)
        refine lv_iconst (v := 1) hx hb dX12_init_190 (by decide +kernel) ?_
        refine lv_iadd hx hb dX12_init_191 ?_
        refine lv_topi (fun x_526 ex_526 => ?_)
        have h_527 : rg x_526 21 76 := rg_of_eq ex_526 (rg_add h_525 (rg_k (1 : Int32) 1 rfl) (by decide +kernel))
        have uh_527 := h_527.1
        have vh_527 := h_527.2
        have tx_526 : (x_526).toInt = (x_524).toInt + 1 := by rw [ex_526]; exact i_add_rg (a2 := (x_524).toInt) (b2 := 1) rfl rfl h_525 (rg_k (1 : Int32) 1 rfl) (by decide +kernel)
        refine lv_sipush (v := 500) hx hb dX12_init_192 (by decide +kernel) ?_
        refine pt_i hx hb hK hP hD hS hL_this_a hK_this_a hN_this_a (rg_in h_527 (by decide +kernel)) dX12_init_195 (fun r_528 H locs er_528 hP hD hS => ?_)
        have hG := GM.wz hG hT_this_a (by decide +kernel) er_528 (zn_TABLE (c := x_444.toNatClampNeg) (k := 1) (by have z_i := clampE x_526; have z_0 := clampE x_444; omega) (rg_cl1 h_521 (by decide +kernel)) (by decide +kernel)) rfl (rg_w (rg_k (500 : Int32) 500 rfl) (by decide +kernel)) (by decide +kernel)
        refine lv_aload_n hx hb dX12_init_196 rfl (lv_at hl 0 rfl) ?_
        refine pg_f (v := .ref this_a) (C := RX12) (T := TX12) (N := 31) hx hb hts (tw_i inlX12) hown hK hP hL_this hK_this (by decide +kernel) rfl 0 (by decide +kernel) (hts _ (tw_c tw_176)) (pq_hv rfl hR_this_a) dX12_init_197 ?_
        refine lv_bipush (v := 20) hx hb dX12_init_200 (by decide +kernel) ?_
        refine lv_iconst (v := 5) hx hb dX12_init_202 (by decide +kernel) ?_
        refine lv_iload_n hx hb dX12_init_203 rfl (lv_at hl 1 rfl) ?_
        refine lv_imul hx hb dX12_init_204 ?_
        refine lv_topi (fun x_529 ex_529 => ?_)
        have h_530 : rg x_529 0 55 := rg_of_eq ex_529 (rg_mul (rg_k (5 : Int32) 5 rfl) h_521 (by decide +kernel))
        have uh_530 := h_530.1
        have vh_530 := h_530.2
        have tx_529 : (x_529).toInt = 5 * (x_444).toInt := by rw [ex_529]; exact i_mul_rg (a2 := 5) (b2 := (x_444).toInt) rfl rfl (rg_k (5 : Int32) 5 rfl) h_521 (by decide +kernel)
        refine lv_iadd hx hb dX12_init_205 ?_
        refine lv_topi (fun x_531 ex_531 => ?_)
        have h_532 : rg x_531 20 75 := rg_of_eq ex_531 (rg_add (rg_k (20 : Int32) 20 rfl) h_530 (by decide +kernel))
        have uh_532 := h_532.1
        have vh_532 := h_532.2
        have tx_531 : (x_531).toInt = 20 + (x_529).toInt := by rw [ex_531]; exact i_add_rg (a2 := 20) (b2 := (x_529).toInt) rfl rfl (rg_k (20 : Int32) 20 rfl) h_530 (by decide +kernel)
        refine lv_iconst (v := 2) hx hb dX12_init_206 (by decide +kernel) ?_
        refine lv_iadd hx hb dX12_init_207 ?_
        refine lv_topi (fun x_533 ex_533 => ?_)
        have h_534 : rg x_533 22 77 := rg_of_eq ex_533 (rg_add h_532 (rg_k (2 : Int32) 2 rfl) (by decide +kernel))
        have uh_534 := h_534.1
        have vh_534 := h_534.2
        have tx_533 : (x_533).toInt = (x_531).toInt + 2 := by rw [ex_533]; exact i_add_rg (a2 := (x_531).toInt) (b2 := 2) rfl rfl h_532 (rg_k (2 : Int32) 2 rfl) (by decide +kernel)
        refine lv_bipush (v := 25) hx hb dX12_init_208 (by decide +kernel) ?_
        refine pt_i hx hb hK hP hD hS hL_this_a hK_this_a hN_this_a (rg_in h_534 (by decide +kernel)) dX12_init_210 (fun r_535 H locs er_535 hP hD hS => ?_)
        have hG := GM.wz hG hT_this_a (by decide +kernel) er_535 (zn_TABLE (c := x_444.toNatClampNeg) (k := 2) (by have z_i := clampE x_533; have z_0 := clampE x_444; omega) (rg_cl1 h_521 (by decide +kernel)) (by decide +kernel)) rfl (rg_w (rg_k (25 : Int32) 25 rfl) (by decide +kernel)) (by decide +kernel)
        refine lv_aload_n hx hb dX12_init_211 rfl (lv_at hl 0 rfl) ?_
        refine pg_f (v := .ref this_a) (C := RX12) (T := TX12) (N := 31) hx hb hts (tw_i inlX12) hown hK hP hL_this hK_this (by decide +kernel) rfl 0 (by decide +kernel) (hts _ (tw_c tw_176)) (pq_hv rfl hR_this_a) dX12_init_212 ?_
        refine lv_bipush (v := 20) hx hb dX12_init_215 (by decide +kernel) ?_
        refine lv_iconst (v := 5) hx hb dX12_init_217 (by decide +kernel) ?_
        refine lv_iload_n hx hb dX12_init_218 rfl (lv_at hl 1 rfl) ?_
        refine lv_imul hx hb dX12_init_219 ?_
        refine lv_topi (fun x_536 ex_536 => ?_)
        have h_537 : rg x_536 0 55 := rg_of_eq ex_536 (rg_mul (rg_k (5 : Int32) 5 rfl) h_521 (by decide +kernel))
        have uh_537 := h_537.1
        have vh_537 := h_537.2
        have tx_536 : (x_536).toInt = 5 * (x_444).toInt := by rw [ex_536]; exact i_mul_rg (a2 := 5) (b2 := (x_444).toInt) rfl rfl (rg_k (5 : Int32) 5 rfl) h_521 (by decide +kernel)
        refine lv_iadd hx hb dX12_init_220 ?_
        refine lv_topi (fun x_538 ex_538 => ?_)
        have h_539 : rg x_538 20 75 := rg_of_eq ex_538 (rg_add (rg_k (20 : Int32) 20 rfl) h_537 (by decide +kernel))
        have uh_539 := h_539.1
        have vh_539 := h_539.2
        have tx_538 : (x_538).toInt = 20 + (x_536).toInt := by rw [ex_538]; exact i_add_rg (a2 := 20) (b2 := (x_536).toInt) rfl rfl (rg_k (20 : Int32) 20 rfl) h_537 (by decide +kernel)
        refine lv_iconst (v := 3) hx hb dX12_init_221 (by decide +kernel) ?_
        refine lv_iadd hx hb dX12_init_222 ?_
        refine lv_topi (fun x_540 ex_540 => ?_)
        have h_541 : rg x_540 23 78 := rg_of_eq ex_540 (rg_add h_539 (rg_k (3 : Int32) 3 rfl) (by decide +kernel))
        have uh_541 := h_541.1
        have vh_541 := h_541.2
        have tx_540 : (x_540).toInt = (x_538).toInt + 3 := by rw [ex_540]; exact i_add_rg (a2 := (x_538).toInt) (b2 := 3) rfl rfl h_539 (rg_k (3 : Int32) 3 rfl) (by decide +kernel)
        refine lv_iconst (v := 5) hx hb dX12_init_223 (by decide +kernel) ?_
        refine pt_i hx hb hK hP hD hS hL_this_a hK_this_a hN_this_a (rg_in h_541 (by decide +kernel)) dX12_init_224 (fun r_542 H locs er_542 hP hD hS => ?_)
        have hG := GM.wz hG hT_this_a (by decide +kernel) er_542 (zn_TABLE (c := x_444.toNatClampNeg) (k := 3) (by have z_i := clampE x_540; have z_0 := clampE x_444; omega) (rg_cl1 h_521 (by decide +kernel)) (by decide +kernel)) rfl (rg_w (rg_k (5 : Int32) 5 rfl) (by decide +kernel)) (by decide +kernel)
        refine lv_aload_n hx hb dX12_init_225 rfl (lv_at hl 0 rfl) ?_
        refine pg_f (v := .ref this_a) (C := RX12) (T := TX12) (N := 31) hx hb hts (tw_i inlX12) hown hK hP hL_this hK_this (by decide +kernel) rfl 0 (by decide +kernel) (hts _ (tw_c tw_176)) (pq_hv rfl hR_this_a) dX12_init_226 ?_
        refine lv_bipush (v := 20) hx hb dX12_init_229 (by decide +kernel) ?_
        refine lv_iconst (v := 5) hx hb dX12_init_231 (by decide +kernel) ?_
        refine lv_iload_n hx hb dX12_init_232 rfl (lv_at hl 1 rfl) ?_
        refine lv_imul hx hb dX12_init_233 ?_
        refine lv_topi (fun x_543 ex_543 => ?_)
        have h_544 : rg x_543 0 55 := rg_of_eq ex_543 (rg_mul (rg_k (5 : Int32) 5 rfl) h_521 (by decide +kernel))
        have uh_544 := h_544.1
        have vh_544 := h_544.2
        have tx_543 : (x_543).toInt = 5 * (x_444).toInt := by rw [ex_543]; exact i_mul_rg (a2 := 5) (b2 := (x_444).toInt) rfl rfl (rg_k (5 : Int32) 5 rfl) h_521 (by decide +kernel)
        refine lv_iadd hx hb dX12_init_234 ?_
        refine lv_topi (fun x_545 ex_545 => ?_)
        have h_546 : rg x_545 20 75 := rg_of_eq ex_545 (rg_add (rg_k (20 : Int32) 20 rfl) h_544 (by decide +kernel))
        have uh_546 := h_546.1
        have vh_546 := h_546.2
        have tx_545 : (x_545).toInt = 20 + (x_543).toInt := by rw [ex_545]; exact i_add_rg (a2 := 20) (b2 := (x_543).toInt) rfl rfl (rg_k (20 : Int32) 20 rfl) h_544 (by decide +kernel)
        refine lv_iconst (v := 4) hx hb dX12_init_235 (by decide +kernel) ?_
        refine lv_iadd hx hb dX12_init_236 ?_
        refine lv_topi (fun x_547 ex_547 => ?_)
        have h_548 : rg x_547 24 79 := rg_of_eq ex_547 (rg_add h_546 (rg_k (4 : Int32) 4 rfl) (by decide +kernel))
        have uh_548 := h_548.1
        have vh_548 := h_548.2
        have tx_547 : (x_547).toInt = (x_545).toInt + 4 := by rw [ex_547]; exact i_add_rg (a2 := (x_545).toInt) (b2 := 4) rfl rfl h_546 (rg_k (4 : Int32) 4 rfl) (by decide +kernel)
        refine lv_bipush (v := 20) hx hb dX12_init_237 (by decide +kernel) ?_
        refine pt_i hx hb hK hP hD hS hL_this_a hK_this_a hN_this_a (rg_in h_548 (by decide +kernel)) dX12_init_239 (fun r_549 H locs er_549 hP hD hS => ?_)
        have hG := GM.wz hG hT_this_a (by decide +kernel) er_549 (zn_TABLE (c := x_444.toNatClampNeg) (k := 4) (by have z_i := clampE x_547; have z_0 := clampE x_444; omega) (rg_cl1 h_521 (by decide +kernel)) (by decide +kernel)) rfl (rg_w (rg_k (20 : Int32) 20 rfl) (by decide +kernel)) (by decide +kernel)
        obtain ⟨x_550, ex_550⟩ : ∃ y : Int32, y = x_444 + Int32.ofInt 1 := ⟨_, rfl⟩
        have h_551 : rg x_550 1 12 := rg_of_eq ex_550 (rg_add h_521 (rg_k (Int32.ofInt 1) 1 rfl) (by decide +kernel))
        have uh_551 := h_551.1
        have vh_551 := h_551.2
        have tx_550 : (x_550).toInt = (x_444).toInt + 1 := by rw [ex_550]; exact i_add_rg (a2 := (x_444).toInt) (b2 := 1) rfl rfl h_521 (rg_k (Int32.ofInt 1) 1 rfl) (by decide +kernel)
        refine lv_iinc (v := x_550) (lv' := [(1, .int x_550), (0, .ref this)]) hx hb dX12_init_240 hl (k := 1) rfl ex_550.symm (by decide +kernel) rfl (fun ls hl => ?_)
        refine lv_goto (tgt := 174) hx hb dX12_init_243 (by decide +kernel) ?_
        exact ih_499 x_550 r_549 _ _ _ (rg_w h_551 (by decide +kernel)) (tbk_s hrel_503 er_528 er_535 er_542 er_549 (by have z_i := clampE x_526; have z_0 := clampE x_444; omega) (by have z_i := clampE x_533; have z_0 := clampE x_444; omega) (by have z_i := clampE x_540; have z_0 := clampE x_444; omega) (by have z_i := clampE x_547; have z_0 := clampE x_444; omega) (by have z_n := clampE x_550; have z_0 := clampE x_444; omega)) (ms_up 1 hm_496 ex_550 rfl (by decide +kernel) h_521 (by decide +kernel) (by decide +kernel)) hG hP hD hS (lv_sub hl [1, 0] rfl)
  exact L_498 _ (0 : Int32) r_6 _ _ _ (rg_w (rg_k (0 : Int32) 0 rfl) (by decide +kernel)) (tbk_0 er_2 er_3 er_4 er_5 er_6) (Nat.lt_succ_self _) hG hP hD hS (lv_sub hl [1, 0] rfl)
set_option maxHeartbeats 8000000 in
set_option maxRecDepth 100000 in
theorem s_X12_init (l : Launch) (D : va_G) (t : pq_T) (σ : pq_S) (I : Nat → Nat → Int32) (J : Nat → Nat → Int64) (ri : Nat → Nat → Int32) (rj : Nat → Nat → Int64) (rq : Nat → Nat → Option Nat) (sz : Nat) (this : Nat) (h0 : σ = pq_T1 this 12) (hI0 : I = (fun _ _ => 0)) (hr0 : ri = (fun _ _ => 0)) (hq0 : rq = fun _ _ => none) : MetV l yX12_init (wa yX12_init cX12_init 2 none) ({ frames := 1, cells := 13, slots := 39415, locals := 22 }) [.ref this] D t σ (I, J, ri, rj, rq) sz 13 39415 (fun (u : pq_S × pq_M) => ∃ (σ' : pq_S) (I' : Nat → Nat → Int32) (J' : Nat → Nat → Int64) (ri' : Nat → Nat → Int32) (rj' : Nat → Nat → Int64) (rq' : Nat → Nat → Option Nat) (tg' : Nat → Nat), u = (σ', I', J', ri', rj', rq') ∧ SH σ' tg' ∧ GT tg' I' ri' ∧ this ∈ σ'.1 ∧ σ'.2.1 this = 12 ∧ ((I' 388 this = 0 ∧ I' 389 this = -1 ∧ I' 390 this = -1) ∧ ∀ q, σ'.2.2.1 387 this = some q → ∀ j, ri' q j = 0) ∧ ∀ wa wi, σ'.2.2.1 384 this = some wa → σ'.2.2.1 385 this = some wi → (∀ j, zn j ∈ zrl → ri' wa j = 0 ∧ ri' wi j = 0) ∧ TBK (ri' wa) 12 ∧ TBK (ri' wi) 12) := by
  refine Met.ofW (cc := cX12_init) (maxL := 2) (ret := none) (by decide +kernel) rfl ?_
  intro p e s m args below meth c s₁ B hml hv
  obtain ⟨rfl, hsz, hP, hK, hD0, hN⟩ := hv
  have hx := B.exec
  have hb := B.bytes
  have hr := B.returns
  have hts := atoms_spec (ws := (wa yX12_init cX12_init 2 none)) B.pre
  have hown : s.vm.findClass RX12 = some m.cls := findClass_of_methodNamed B.named
  have hlocks := B.notSynchronized
  have hin : meth.name = "<init>" := (name_of_methodNamed B.named B.method).1
  subst hsz
  have hD : va_D (pq_B t σ (I, J, ri, rj, rq) s.heap.size) (pq_P t σ (I, J, ri, rj, rq)) := hD0.self
  generalize hAe : pq_B t σ (I, J, ri, rj, rq) s.heap.size = A at hD ⊢
  have hA : ∀ q : Nat, s.heap.size ≤ q → A q := fun q h => by rw [← hAe]; exact Or.inr h
  have hS : va_S A s.heap s.heap [] := va_S.rf
  have hl := lv_entry ([.ref this]) (n := 2) (Nat.le_of_ble_eq_true rfl)
  rw [lg_entry_eq]
  generalize (lg_sl ([.ref this]) ++ List.replicate (2 - (lg_sl ([.ref this])).length) Slot.unset).toArray = ls at hl ⊢
  have hl : lv_has ls 2 [(0, .ref this)] := hl
  have hL_this : this ∈ σ.1 := by rw [h0]; exact List.mem_singleton.mpr rfl
  have hK_this : σ.2.1 this = 12 := by rw [h0]; rfl
  obtain ⟨tg, hCI⟩ : ∃ tg, CI σ tg this 12 [] I ri rq := ⟨_, by rw [h0, hI0, hr0, hq0]; exact CI_0 this 12⟩
  have hz0 : ∀ q j, ri q j = 0 := fun q j => by rw [hr0]
  have hi0 : ∀ f a, f ≠ 389 → f ≠ 390 → I f a = 0 := fun f a _ _ => by rw [hI0]
  refine lv_aload_n hx hb dX12_init_0 rfl (lv_at hl 0 rfl) ?_
  refine W.objInit hx hb hown (hts _ (tw_c tw_175)) (hts _ (tw_c tw_11)) (hts _ (tw_c tw_12)) rfl (by rw [hml]; exact hl.1) rfl dX12_init_1 (Nat.le_of_ble_eq_true rfl) (Nat.le_of_ble_eq_true rfl) ?_
  refine W.eq (g2 := F0 m 4 ls []) rfl ?_
  refine lv_aload_n hx hb dX12_init_4 rfl (lv_at hl 0 rfl) ?_
  refine lv_sipush (v := 12720) hx hb dX12_init_5 (by decide +kernel) ?_
  refine nw_i (N' := 12720) hx hb (hts _ (tw_c tw_33)) hK hP hD hS hA (by decide +kernel) (by decide +kernel) (Nat.le_of_ble_eq_true rfl) (Nat.le_of_ble_eq_true rfl) (Nat.le_of_ble_eq_true rfl) dX12_init_8 (fun q_1 r_3 H hq_2 er_3 hP hD hS => ?_)
  have hz0 : ∀ q j, r_3 q j = 0 := fun q j => by rw [er_3]; unfold va_up; split; exact rfl; exact hz0 q j
  refine pr_F (q := q_1) (C := RX12) (T := TX12) (N := 31) hx hb hts (tw_i inlX12) tyX12 tyX12_ok nmX12 hown hK hP hD hS (As_in hL_this) (As_kk hq_2 hL_this hK_this) (by decide +kernel) rfl 0 384 (by decide +kernel) (hts _ (tw_c tw_176)) rfl hin rfl (tyX12_ok 0 (by decide +kernel)) rfl rfl (Nat.le_of_ble_eq_true rfl) (pr_384 _ _ _ _ _) dX12_init_10 (fun σ_4 H locs hp_5 hP hD hS => ?_)
  have hs_z1 := As_of hq_2 hp_5
  obtain ⟨tg, hCI⟩ : ∃ tg, CI σ_4 tg this 12 [384] I r_3 rq := ⟨_, CI_as hCI hs_z1 rfl (by decide +kernel) (Or.inl er_3) (Or.inl rfl) (by decide +kernel)⟩
  have hL_this := hCI.1.1
  have hK_this := hCI.1.2
  refine lv_aload_n hx hb dX12_init_13 rfl (lv_at hl 0 rfl) ?_
  refine lv_sipush (v := 12720) hx hb dX12_init_14 (by decide +kernel) ?_
  refine nw_i (N' := 12720) hx hb (hts _ (tw_c tw_33)) hK hP hD hS hA (by decide +kernel) (by decide +kernel) (Nat.le_of_ble_eq_true rfl) (Nat.le_of_ble_eq_true rfl) (Nat.le_of_ble_eq_true rfl) dX12_init_17 (fun q_8 r_10 H hq_9 er_10 hP hD hS => ?_)
  have hz0 : ∀ q j, r_10 q j = 0 := fun q j => by rw [er_10]; unfold va_up; split; exact rfl; exact hz0 q j
  refine pr_F (q := q_8) (C := RX12) (T := TX12) (N := 31) hx hb hts (tw_i inlX12) tyX12 tyX12_ok nmX12 hown hK hP hD hS (As_in hL_this) (As_kk hq_9 hL_this hK_this) (by decide +kernel) rfl 1 385 (by decide +kernel) (hts _ (tw_c tw_177)) rfl hin rfl (tyX12_ok 1 (by decide +kernel)) rfl rfl (Nat.le_of_ble_eq_true rfl) (pr_385 _ _ _ _ _) dX12_init_19 (fun σ_11 H locs hp_12 hP hD hS => ?_)
  have hs_z2 := As_of hq_9 hp_12
  obtain ⟨tg, hCI⟩ : ∃ tg, CI σ_11 tg this 12 [385, 384] I r_10 rq := ⟨_, CI_as hCI hs_z2 rfl (by decide +kernel) (Or.inl er_10) (Or.inl rfl) (by decide +kernel)⟩
  have hL_this := hCI.1.1
  have hK_this := hCI.1.2
  refine lv_aload_n hx hb dX12_init_22 rfl (lv_at hl 0 rfl) ?_
  refine lv_sipush (v := 12720) hx hb dX12_init_23 (by decide +kernel) ?_
  refine nw_i (N' := 12720) hx hb (hts _ (tw_c tw_33)) hK hP hD hS hA (by decide +kernel) (by decide +kernel) (Nat.le_of_ble_eq_true rfl) (Nat.le_of_ble_eq_true rfl) (Nat.le_of_ble_eq_true rfl) dX12_init_26 (fun q_15 r_17 H hq_16 er_17 hP hD hS => ?_)
  have hz0 : ∀ q j, r_17 q j = 0 := fun q j => by rw [er_17]; unfold va_up; split; exact rfl; exact hz0 q j
  refine pr_F (q := q_15) (C := RX12) (T := TX12) (N := 31) hx hb hts (tw_i inlX12) tyX12 tyX12_ok nmX12 hown hK hP hD hS (As_in hL_this) (As_kk hq_16 hL_this hK_this) (by decide +kernel) rfl 2 386 (by decide +kernel) (hts _ (tw_c tw_178)) rfl hin rfl (tyX12_ok 2 (by decide +kernel)) rfl rfl (Nat.le_of_ble_eq_true rfl) (pr_386 _ _ _ _ _) dX12_init_28 (fun σ_18 H locs hp_19 hP hD hS => ?_)
  have hs_z3 := As_of hq_16 hp_19
  obtain ⟨tg, hCI⟩ : ∃ tg, CI σ_18 tg this 12 [386, 385, 384] I r_17 rq := ⟨_, CI_as hCI hs_z3 rfl (by decide +kernel) (Or.inl er_17) (Or.inl rfl) (by decide +kernel)⟩
  have hL_this := hCI.1.1
  have hK_this := hCI.1.2
  refine lv_aload_n hx hb dX12_init_31 rfl (lv_at hl 0 rfl) ?_
  refine lv_sipush (v := 300) hx hb dX12_init_32 (by decide +kernel) ?_
  refine nw_i (N' := 300) hx hb (hts _ (tw_c tw_33)) hK hP hD hS hA (by decide +kernel) (by decide +kernel) (Nat.le_of_ble_eq_true rfl) (Nat.le_of_ble_eq_true rfl) (Nat.le_of_ble_eq_true rfl) dX12_init_35 (fun q_22 r_24 H hq_23 er_24 hP hD hS => ?_)
  have hz0 : ∀ q j, r_24 q j = 0 := fun q j => by rw [er_24]; unfold va_up; split; exact rfl; exact hz0 q j
  refine pr_F (q := q_22) (C := RX12) (T := TX12) (N := 31) hx hb hts (tw_i inlX12) tyX12 tyX12_ok nmX12 hown hK hP hD hS (As_in hL_this) (As_kk hq_23 hL_this hK_this) (by decide +kernel) rfl 3 387 (by decide +kernel) (hts _ (tw_c tw_179)) rfl hin rfl (tyX12_ok 3 (by decide +kernel)) rfl rfl (Nat.le_of_ble_eq_true rfl) (pr_387 _ _ _ _ _) dX12_init_37 (fun σ_25 H locs hp_26 hP hD hS => ?_)
  have hs_z4 := As_of hq_23 hp_26
  obtain ⟨tg, hCI⟩ : ∃ tg, CI σ_25 tg this 12 [387, 386, 385, 384] I r_24 rq := ⟨_, CI_as hCI hs_z4 rfl (by decide +kernel) (Or.inl er_24) (Or.inl rfl) (by decide +kernel)⟩
  have hL_this := hCI.1.1
  have hK_this := hCI.1.2
  refine lv_aload_n hx hb dX12_init_40 rfl (lv_at hl 0 rfl) ?_
  refine lv_iconst (v := (-1)) hx hb dX12_init_41 (by decide +kernel) ?_
  refine pp_i (v := (-1)) (ty := .int) (C := RX12) (T := TX12) (N := 31) hx hb hts (tw_i inlX12) tyX12 tyX12_ok nmX12 hown hK hP hD hS hL_this hK_this (by decide +kernel) rfl 5 389 (by decide +kernel) (hts _ (tw_c tw_180)) rfl (tyX12_ok 5 (by decide +kernel)) rfl rfl (Nat.le_of_ble_eq_true rfl) (ps_389 _ _ _ _ _) dX12_init_42 (fun I_29 H locs eI_29 hP hD hS => ?_)
  have hi389 : I_29 389 this = (-1) := by rw [eI_29, pq_us]
  have hCI : CI σ_25 tg this 12 [387, 386, 385, 384] I_29 r_24 rq := CI_put hCI eI_29 (lo := (-2147483648)) (hi := 2147483647) rfl (rg_w (rg_k (-1 : Int32) (-1) rfl) (by decide +kernel)) (by decide +kernel)
  have hi0 : ∀ f a, f ≠ 389 → f ≠ 390 → I_29 f a = 0 := fun f a h1 h2 => by rw [eI_29, pq_uf _ _ _ (fun y => h1 y)]; exact hi0 f a h1 h2
  refine lv_aload_n hx hb dX12_init_45 rfl (lv_at hl 0 rfl) ?_
  refine lv_iconst (v := (-1)) hx hb dX12_init_46 (by decide +kernel) ?_
  refine pp_i (v := (-1)) (ty := .int) (C := RX12) (T := TX12) (N := 31) hx hb hts (tw_i inlX12) tyX12 tyX12_ok nmX12 hown hK hP hD hS hL_this hK_this (by decide +kernel) rfl 6 390 (by decide +kernel) (hts _ (tw_c tw_181)) rfl (tyX12_ok 6 (by decide +kernel)) rfl rfl (Nat.le_of_ble_eq_true rfl) (ps_390 _ _ _ _ _) dX12_init_47 (fun I_30 H locs eI_30 hP hD hS => ?_)
  have hi389 : I_30 389 this = (-1) := by rw [eI_30, pq_uf _ _ _ (by decide +kernel)]; exact hi389
  have hi390 : I_30 390 this = (-1) := by rw [eI_30, pq_us]
  have hCI : CI σ_25 tg this 12 [387, 386, 385, 384] I_30 r_24 rq := CI_put hCI eI_30 (lo := (-2147483648)) (hi := 2147483647) rfl (rg_w (rg_k (-1 : Int32) (-1) rfl) (by decide +kernel)) (by decide +kernel)
  have hi0 : ∀ f a, f ≠ 389 → f ≠ 390 → I_30 f a = 0 := fun f a h1 h2 => by rw [eI_30, pq_uf _ _ _ (fun y => h2 y)]; exact hi0 f a h1 h2
  refine lv_aload_n hx hb dX12_init_50 rfl (lv_at hl 0 rfl) ?_
  refine lv_sipush (v := 160) hx hb dX12_init_51 (by decide +kernel) ?_
  refine nw_i (N' := 160) hx hb (hts _ (tw_c tw_33)) hK hP hD hS hA (by decide +kernel) (by decide +kernel) (Nat.le_of_ble_eq_true rfl) (Nat.le_of_ble_eq_true rfl) (Nat.le_of_ble_eq_true rfl) dX12_init_54 (fun q_31 r_33 H hq_32 er_33 hP hD hS => ?_)
  have hz0 : ∀ q j, r_33 q j = 0 := fun q j => by rw [er_33]; unfold va_up; split; exact rfl; exact hz0 q j
  refine pr_F (q := q_31) (C := RX12) (T := TX12) (N := 31) hx hb hts (tw_i inlX12) tyX12 tyX12_ok nmX12 hown hK hP hD hS (As_in hL_this) (As_kk hq_32 hL_this hK_this) (by decide +kernel) rfl 16 400 (by decide +kernel) (hts _ (tw_c tw_182)) rfl hin rfl (tyX12_ok 16 (by decide +kernel)) rfl rfl (Nat.le_of_ble_eq_true rfl) (pr_400 _ _ _ _ _) dX12_init_56 (fun σ_34 H locs hp_35 hP hD hS => ?_)
  have hs_z5 := As_of hq_32 hp_35
  obtain ⟨tg, hCI⟩ : ∃ tg, CI σ_34 tg this 12 [400, 387, 386, 385, 384] I_30 r_33 rq := ⟨_, CI_as hCI hs_z5 rfl (by decide +kernel) (Or.inl er_33) (Or.inl rfl) (by decide +kernel)⟩
  have hL_this := hCI.1.1
  have hK_this := hCI.1.2
  refine lv_aload_n hx hb dX12_init_59 rfl (lv_at hl 0 rfl) ?_
  refine lv_sipush (v := 330) hx hb dX12_init_60 (by decide +kernel) ?_
  refine nw_l (N' := 330) hx hb (hts _ (tw_c tw_81)) hK hP hD hS hA (by decide +kernel) (by decide +kernel) (Nat.le_of_ble_eq_true rfl) (Nat.le_of_ble_eq_true rfl) (Nat.le_of_ble_eq_true rfl) dX12_init_63 (fun q_38 r_40 H hq_39 er_40 hP hD hS => ?_)
  refine pr_F (q := q_38) (C := RX12) (T := TX12) (N := 31) hx hb hts (tw_i inlX12) tyX12 tyX12_ok nmX12 hown hK hP hD hS (As_in hL_this) (As_kk hq_39 hL_this hK_this) (by decide +kernel) rfl 20 404 (by decide +kernel) (hts _ (tw_c tw_183)) rfl hin rfl (tyX12_ok 20 (by decide +kernel)) rfl rfl (Nat.le_of_ble_eq_true rfl) (pr_404 _ _ _ _ _) dX12_init_65 (fun σ_41 H locs hp_42 hP hD hS => ?_)
  have hs_z6 := As_of hq_39 hp_42
  obtain ⟨tg, hCI⟩ : ∃ tg, CI σ_41 tg this 12 [404, 400, 387, 386, 385, 384] I_30 r_33 rq := ⟨_, CI_as hCI hs_z6 rfl (by decide +kernel) (Or.inr ⟨rfl, rfl, by decide +kernel⟩) (Or.inl rfl) (by decide +kernel)⟩
  have hL_this := hCI.1.1
  have hK_this := hCI.1.2
  refine lv_aload_n hx hb dX12_init_68 rfl (lv_at hl 0 rfl) ?_
  refine lv_sipush (v := 330) hx hb dX12_init_69 (by decide +kernel) ?_
  refine nw_z (N' := 330) hx hb (hts _ (tw_c tw_184)) hK hP hD hS hA (by decide +kernel) (by decide +kernel) (Nat.le_of_ble_eq_true rfl) (Nat.le_of_ble_eq_true rfl) (Nat.le_of_ble_eq_true rfl) dX12_init_72 (fun q_45 r_47 H hq_46 er_47 hP hD hS => ?_)
  have hz0 : ∀ q j, r_47 q j = 0 := fun q j => by rw [er_47]; unfold va_up; split; exact rfl; exact hz0 q j
  refine pr_F (q := q_45) (C := RX12) (T := TX12) (N := 31) hx hb hts (tw_i inlX12) tyX12 tyX12_ok nmX12 hown hK hP hD hS (As_in hL_this) (As_kk hq_46 hL_this hK_this) (by decide +kernel) rfl 21 405 (by decide +kernel) (hts _ (tw_c tw_185)) rfl hin rfl (tyX12_ok 21 (by decide +kernel)) rfl rfl (Nat.le_of_ble_eq_true rfl) (pr_405 _ _ _ _ _) dX12_init_74 (fun σ_48 H locs hp_49 hP hD hS => ?_)
  have hs_z7 := As_of hq_46 hp_49
  obtain ⟨tg, hCI⟩ : ∃ tg, CI σ_48 tg this 12 [405, 404, 400, 387, 386, 385, 384] I_30 r_47 rq := ⟨_, CI_as hCI hs_z7 rfl (by decide +kernel) (Or.inl er_47) (Or.inl rfl) (by decide +kernel)⟩
  have hL_this := hCI.1.1
  have hK_this := hCI.1.2
  refine lv_aload_n hx hb dX12_init_77 rfl (lv_at hl 0 rfl) ?_
  refine lv_iconst (v := 5) hx hb dX12_init_78 (by decide +kernel) ?_
  refine nw_i (N' := 5) hx hb (hts _ (tw_c tw_33)) hK hP hD hS hA (by decide +kernel) (by decide +kernel) (Nat.le_of_ble_eq_true rfl) (Nat.le_of_ble_eq_true rfl) (Nat.le_of_ble_eq_true rfl) dX12_init_79 (fun q_52 r_54 H hq_53 er_54 hP hD hS => ?_)
  have hz0 : ∀ q j, r_54 q j = 0 := fun q j => by rw [er_54]; unfold va_up; split; exact rfl; exact hz0 q j
  refine pr_F (q := q_52) (C := RX12) (T := TX12) (N := 31) hx hb hts (tw_i inlX12) tyX12 tyX12_ok nmX12 hown hK hP hD hS (As_in hL_this) (As_kk hq_53 hL_this hK_this) (by decide +kernel) rfl 24 408 (by decide +kernel) (hts _ (tw_c tw_186)) rfl hin rfl (tyX12_ok 24 (by decide +kernel)) rfl rfl (Nat.le_of_ble_eq_true rfl) (pr_408 _ _ _ _ _) dX12_init_81 (fun σ_55 H locs hp_56 hP hD hS => ?_)
  have hs_z8 := As_of hq_53 hp_56
  obtain ⟨tg, hCI⟩ : ∃ tg, CI σ_55 tg this 12 [408, 405, 404, 400, 387, 386, 385, 384] I_30 r_54 rq := ⟨_, CI_as hCI hs_z8 rfl (by decide +kernel) (Or.inl er_54) (Or.inl rfl) (by decide +kernel)⟩
  have hL_this := hCI.1.1
  have hK_this := hCI.1.2
  refine lv_aload_n hx hb dX12_init_84 rfl (lv_at hl 0 rfl) ?_
  refine lv_bipush (v := 40) hx hb dX12_init_85 (by decide +kernel) ?_
  refine nw_i (N' := 40) hx hb (hts _ (tw_c tw_33)) hK hP hD hS hA (by decide +kernel) (by decide +kernel) (Nat.le_of_ble_eq_true rfl) (Nat.le_of_ble_eq_true rfl) (Nat.le_of_ble_eq_true rfl) dX12_init_87 (fun q_59 r_61 H hq_60 er_61 hP hD hS => ?_)
  have hz0 : ∀ q j, r_61 q j = 0 := fun q j => by rw [er_61]; unfold va_up; split; exact rfl; exact hz0 q j
  refine pr_F (q := q_59) (C := RX12) (T := TX12) (N := 31) hx hb hts (tw_i inlX12) tyX12 tyX12_ok nmX12 hown hK hP hD hS (As_in hL_this) (As_kk hq_60 hL_this hK_this) (by decide +kernel) rfl 25 409 (by decide +kernel) (hts _ (tw_c tw_187)) rfl hin rfl (tyX12_ok 25 (by decide +kernel)) rfl rfl (Nat.le_of_ble_eq_true rfl) (pr_409 _ _ _ _ _) dX12_init_89 (fun σ_62 H locs hp_63 hP hD hS => ?_)
  have hs_z9 := As_of hq_60 hp_63
  obtain ⟨tg, hCI⟩ : ∃ tg, CI σ_62 tg this 12 [409, 408, 405, 404, 400, 387, 386, 385, 384] I_30 r_61 rq := ⟨_, CI_as hCI hs_z9 rfl (by decide +kernel) (Or.inl er_61) (Or.inl rfl) (by decide +kernel)⟩
  have hL_this := hCI.1.1
  have hK_this := hCI.1.2
  refine lv_aload_n hx hb dX12_init_92 rfl (lv_at hl 0 rfl) ?_
  refine lv_bipush (v := 40) hx hb dX12_init_93 (by decide +kernel) ?_
  refine nw_i (N' := 40) hx hb (hts _ (tw_c tw_33)) hK hP hD hS hA (by decide +kernel) (by decide +kernel) (Nat.le_of_ble_eq_true rfl) (Nat.le_of_ble_eq_true rfl) (Nat.le_of_ble_eq_true rfl) dX12_init_95 (fun q_66 r_68 H hq_67 er_68 hP hD hS => ?_)
  have hz0 : ∀ q j, r_68 q j = 0 := fun q j => by rw [er_68]; unfold va_up; split; exact rfl; exact hz0 q j
  refine pr_F (q := q_66) (C := RX12) (T := TX12) (N := 31) hx hb hts (tw_i inlX12) tyX12 tyX12_ok nmX12 hown hK hP hD hS (As_in hL_this) (As_kk hq_67 hL_this hK_this) (by decide +kernel) rfl 27 411 (by decide +kernel) (hts _ (tw_c tw_188)) rfl hin rfl (tyX12_ok 27 (by decide +kernel)) rfl rfl (Nat.le_of_ble_eq_true rfl) (pr_411 _ _ _ _ _) dX12_init_97 (fun σ_69 H locs hp_70 hP hD hS => ?_)
  have hs_z10 := As_of hq_67 hp_70
  obtain ⟨tg, hCI⟩ : ∃ tg, CI σ_69 tg this 12 [411, 409, 408, 405, 404, 400, 387, 386, 385, 384] I_30 r_68 rq := ⟨_, CI_as hCI hs_z10 rfl (by decide +kernel) (Or.inl er_68) (Or.inl rfl) (by decide +kernel)⟩
  have hL_this := hCI.1.1
  have hK_this := hCI.1.2
  refine lv_aload_n hx hb dX12_init_100 rfl (lv_at hl 0 rfl) ?_
  refine lv_bipush (v := 40) hx hb dX12_init_101 (by decide +kernel) ?_
  refine nw_z (N' := 40) hx hb (hts _ (tw_c tw_184)) hK hP hD hS hA (by decide +kernel) (by decide +kernel) (Nat.le_of_ble_eq_true rfl) (Nat.le_of_ble_eq_true rfl) (Nat.le_of_ble_eq_true rfl) dX12_init_103 (fun q_73 r_75 H hq_74 er_75 hP hD hS => ?_)
  have hz0 : ∀ q j, r_75 q j = 0 := fun q j => by rw [er_75]; unfold va_up; split; exact rfl; exact hz0 q j
  refine pr_F (q := q_73) (C := RX12) (T := TX12) (N := 31) hx hb hts (tw_i inlX12) tyX12 tyX12_ok nmX12 hown hK hP hD hS (As_in hL_this) (As_kk hq_74 hL_this hK_this) (by decide +kernel) rfl 28 412 (by decide +kernel) (hts _ (tw_c tw_189)) rfl hin rfl (tyX12_ok 28 (by decide +kernel)) rfl rfl (Nat.le_of_ble_eq_true rfl) (pr_412 _ _ _ _ _) dX12_init_105 (fun σ_76 H locs hp_77 hP hD hS => ?_)
  have hs_z11 := As_of hq_74 hp_77
  obtain ⟨tg, hCI⟩ : ∃ tg, CI σ_76 tg this 12 [412, 411, 409, 408, 405, 404, 400, 387, 386, 385, 384] I_30 r_75 rq := ⟨_, CI_as hCI hs_z11 rfl (by decide +kernel) (Or.inl er_75) (Or.inl rfl) (by decide +kernel)⟩
  have hL_this := hCI.1.1
  have hK_this := hCI.1.2
  refine lv_aload_n hx hb dX12_init_108 rfl (lv_at hl 0 rfl) ?_
  refine lv_iconst (v := 5) hx hb dX12_init_109 (by decide +kernel) ?_
  refine nw_i (N' := 5) hx hb (hts _ (tw_c tw_33)) hK hP hD hS hA (by decide +kernel) (by decide +kernel) (Nat.le_of_ble_eq_true rfl) (Nat.le_of_ble_eq_true rfl) (Nat.le_of_ble_eq_true rfl) dX12_init_110 (fun q_80 r_82 H hq_81 er_82 hP hD hS => ?_)
  have hz0 : ∀ q j, r_82 q j = 0 := fun q j => by rw [er_82]; unfold va_up; split; exact rfl; exact hz0 q j
  refine pr_F (q := q_80) (C := RX12) (T := TX12) (N := 31) hx hb hts (tw_i inlX12) tyX12 tyX12_ok nmX12 hown hK hP hD hS (As_in hL_this) (As_kk hq_81 hL_this hK_this) (by decide +kernel) rfl 29 413 (by decide +kernel) (hts _ (tw_c tw_190)) rfl hin rfl (tyX12_ok 29 (by decide +kernel)) rfl rfl (Nat.le_of_ble_eq_true rfl) (pr_413 _ _ _ _ _) dX12_init_112 (fun σ_83 H locs hp_84 hP hD hS => ?_)
  have hs_z12 := As_of hq_81 hp_84
  obtain ⟨tg, hCI⟩ : ∃ tg, CI σ_83 tg this 12 [413, 412, 411, 409, 408, 405, 404, 400, 387, 386, 385, 384] I_30 r_82 rq := ⟨_, CI_as hCI hs_z12 rfl (by decide +kernel) (Or.inl er_82) (Or.inl rfl) (by decide +kernel)⟩
  have hL_this := hCI.1.1
  have hK_this := hCI.1.2
  refine lv_aload_n hx hb dX12_init_115 rfl (lv_at hl 0 rfl) ?_
  refine lv_iconst (v := 5) hx hb dX12_init_116 (by decide +kernel) ?_
  refine nw_i (N' := 5) hx hb (hts _ (tw_c tw_33)) hK hP hD hS hA (by decide +kernel) (by decide +kernel) (Nat.le_of_ble_eq_true rfl) (Nat.le_of_ble_eq_true rfl) (Nat.le_of_ble_eq_true rfl) dX12_init_117 (fun q_87 r_89 H hq_88 er_89 hP hD hS => ?_)
  have hz0 : ∀ q j, r_89 q j = 0 := fun q j => by rw [er_89]; unfold va_up; split; exact rfl; exact hz0 q j
  refine pr_F (q := q_87) (C := RX12) (T := TX12) (N := 31) hx hb hts (tw_i inlX12) tyX12 tyX12_ok nmX12 hown hK hP hD hS (As_in hL_this) (As_kk hq_88 hL_this hK_this) (by decide +kernel) rfl 30 414 (by decide +kernel) (hts _ (tw_c tw_191)) rfl hin rfl (tyX12_ok 30 (by decide +kernel)) rfl rfl (Nat.le_of_ble_eq_true rfl) (pr_414 _ _ _ _ _) dX12_init_119 (fun σ_90 H locs hp_91 hP hD hS => ?_)
  have hs_z13 := As_of hq_88 hp_91
  obtain ⟨tg, hCI⟩ : ∃ tg, CI σ_90 tg this 12 [414, 413, 412, 411, 409, 408, 405, 404, 400, 387, 386, 385, 384] I_30 r_89 rq := ⟨_, CI_as hCI hs_z13 rfl (by decide +kernel) (Or.inl er_89) (Or.inl rfl) (by decide +kernel)⟩
  have hL_this := hCI.1.1
  have hK_this := hCI.1.2
  have hDN := CI_done hCI (by decide +kernel) (by decide +kernel)
  obtain ⟨wa, hR_wa, hL_wa, hK_wa, hN_wa, hT_wa⟩ := sh_a hDN.1 384 (ci := 12) (kd := 13) (len := 12720) rfl (by decide +kernel) hL_this hK_this
  obtain ⟨wi, hR_wi, hL_wi, hK_wi, hN_wi, hT_wi⟩ := sh_a hDN.1 385 (ci := 12) (kd := 13) (len := 12720) rfl (by decide +kernel) hL_this hK_this
  refine s_X12_init_rest l D t σ_90 I_30 J r_89 r_40 rq tg hDN.1 (GT_0 hz0 hi0) this hL_this hK_this wa hR_wa hL_wa hK_wa hN_wa hT_wa wi hR_wi hL_wi hK_wi hN_wi hT_wi hx hb hml hts hown hK hN hA H _ _ hP hD hS hl ?_
  intro ri' H locs ls hG him htb hP hD hS hls
  have h387 : ∀ q, σ_90.2.2.1 387 this = some q → ri' q = r_89 q := fun q hq => by
    obtain ⟨z, x1, x2, x3, x4, x5⟩ := sh_a hDN.1 387 (ci := 12) (kd := 13) (len := 300) rfl (by decide +kernel) hL_this hK_this
    exact hG.2.2.2 387 2003 (by decide +kernel) (by decide +kernel) q (by rw [← Option.some.inj (x1.symm.trans hq)]; exact x5)
  have hza : ∀ j, zn j ∈ zrl → ri' wa j = 0 := fun j hj => (hG.2.2.1 wa hT_wa j (zrl_z hj) (zrl_x hj (by decide +kernel))).trans (hz0 wa j)
  exact W.vret hx hb hr (fun t1 ht hW => ⟨⟨(σ_90, I_30, J, ri', r_40, rq), rfl, ⟨σ_90, I_30, J, ri', r_40, rq, tg, rfl, hDN.1, hG.1, hL_this, hK_this, ⟨⟨hi0 388 this (by decide +kernel) (by decide +kernel), hi389, hi390⟩, fun q hq j => by rw [h387 q hq]; exact hz0 q j⟩, fun a1 a2 e1 e2 => by rw [← Option.some.inj (hR_wa.symm.trans e1), ← Option.some.inj (hR_wi.symm.trans e2)]; exact ⟨fun j hj => ⟨hza j hj, (him j (zrl_z hj)).trans (hza j hj)⟩, htb, tbk_cg htb him⟩⟩, by rw [ht]; exact hP, va_K.moved hW.alike hK, hD⟩, hS.F ht⟩) hS.2.2 dX12_init_257
