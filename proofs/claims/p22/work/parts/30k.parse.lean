theorem dX12_take_0 : decode cX12_take 0 = .ok (.aload_n 0, 1) := oc_42 (by decide +kernel)
theorem dX12_take_1 : decode cX12_take 1 = .ok (.getfield 143, 3) := oc_180 (a := 0) (b := 143) (by decide +kernel)
theorem dX12_take_4 : decode cX12_take 4 = .ok (.iconst 1, 1) := oc_4 (by decide +kernel)
theorem dX12_take_5 : decode cX12_take 5 = .ok (.if_icmp .eq 5, 3) := oc_159 (a := 0) (b := 5) (by decide +kernel)
theorem dX12_take_10 : decode cX12_take 10 = .ok (.aload_n 0, 1) := oc_42 (by decide +kernel)
theorem dX12_take_11 : decode cX12_take 11 = .ok (.getfield 149, 3) := oc_180 (a := 0) (b := 149) (by decide +kernel)
theorem dX12_take_14 : decode cX12_take 14 = .ok (.iload_n 1, 1) := oc_27 (by decide +kernel)
theorem dX12_take_15 : decode cX12_take 15 = .ok (.if_icmp .le 5, 3) := oc_164 (a := 0) (b := 5) (by decide +kernel)
theorem dX12_take_20 : decode cX12_take 20 = .ok (.aload_n 0, 1) := oc_42 (by decide +kernel)
theorem dX12_take_21 : decode cX12_take 21 = .ok (.getfield 7, 3) := oc_180 (a := 0) (b := 7) (by decide +kernel)
theorem dX12_take_24 : decode cX12_take 24 = .ok (.iload_n 2, 1) := oc_28 (by decide +kernel)
theorem dX12_take_25 : decode cX12_take 25 = .ok (.aload_n 0, 1) := oc_42 (by decide +kernel)
theorem dX12_take_26 : decode cX12_take 26 = .ok (.getfield 149, 3) := oc_180 (a := 0) (b := 149) (by decide +kernel)
theorem dX12_take_29 : decode cX12_take 29 = .ok (.iastore, 1) := oc_79 (by decide +kernel)
theorem dX12_take_30 : decode cX12_take 30 = .ok (.aload_n 0, 1) := oc_42 (by decide +kernel)
theorem dX12_take_31 : decode cX12_take 31 = .ok (.invokevirtual 196, 3) := oc_182 (a := 0) (b := 196) (by decide +kernel)
theorem dX12_take_34 : decode cX12_take 34 = .ok (.iconst 0, 1) := oc_3 (by decide +kernel)
theorem dX12_take_35 : decode cX12_take 35 = .ok (.ireturn, 1) := oc_172 (by decide +kernel)
theorem dX12_take_18 : decode cX12_take 18 = .ok (.iconst 2, 1) := oc_5 (by decide +kernel)
theorem dX12_take_19 : decode cX12_take 19 = .ok (.ireturn, 1) := oc_172 (by decide +kernel)
theorem dX12_take_8 : decode cX12_take 8 = .ok (.iconst 1, 1) := oc_4 (by decide +kernel)
theorem dX12_take_9 : decode cX12_take 9 = .ok (.ireturn, 1) := oc_172 (by decide +kernel)
theorem dX12_sortOf_0 : decode cX12_sortOf 0 = .ok (.aload_n 0, 1) := oc_42 (by decide +kernel)
theorem dX12_sortOf_1 : decode cX12_sortOf 1 = .ok (.getfield 143, 3) := oc_180 (a := 0) (b := 143) (by decide +kernel)
theorem dX12_sortOf_4 : decode cX12_sortOf 4 = .ok (.iconst 2, 1) := oc_5 (by decide +kernel)
theorem dX12_sortOf_5 : decode cX12_sortOf 5 = .ok (.if_icmp .eq 5, 3) := oc_159 (a := 0) (b := 5) (by decide +kernel)
theorem dX12_sortOf_10 : decode cX12_sortOf 10 = .ok (.aload_n 0, 1) := oc_42 (by decide +kernel)
theorem dX12_sortOf_11 : decode cX12_sortOf 11 = .ok (.getfield 156, 3) := oc_180 (a := 0) (b := 156) (by decide +kernel)
theorem dX12_sortOf_14 : decode cX12_sortOf 14 = .ok (.bipush 108, 2) := oc_16 (a := 108) (by decide +kernel)
theorem dX12_sortOf_16 : decode cX12_sortOf 16 = .ok (.bipush 97, 2) := oc_16 (a := 97) (by decide +kernel)
theorem dX12_sortOf_18 : decode cX12_sortOf 18 = .ok (.bipush 115, 2) := oc_16 (a := 115) (by decide +kernel)
theorem dX12_sortOf_20 : decode cX12_sortOf 20 = .ok (.bipush 116, 2) := oc_16 (a := 116) (by decide +kernel)
theorem dX12_sortOf_22 : decode cX12_sortOf 22 = .ok (.bipush 115, 2) := oc_16 (a := 115) (by decide +kernel)
theorem dX12_sortOf_24 : decode cX12_sortOf 24 = .ok (.invokestatic 168, 3) := oc_184 (a := 0) (b := 168) (by decide +kernel)
theorem dX12_sortOf_27 : decode cX12_sortOf 27 = .ok (.lcmp, 1) := oc_148 (by decide +kernel)
theorem dX12_sortOf_28 : decode cX12_sortOf 28 = .ok (.ifCond .ne 5, 3) := oc_154 (a := 0) (b := 5) (by decide +kernel)
theorem dX12_sortOf_33 : decode cX12_sortOf 33 = .ok (.aload_n 0, 1) := oc_42 (by decide +kernel)
theorem dX12_sortOf_34 : decode cX12_sortOf 34 = .ok (.getfield 156, 3) := oc_180 (a := 0) (b := 156) (by decide +kernel)
theorem dX12_sortOf_37 : decode cX12_sortOf 37 = .ok (.bipush 112, 2) := oc_16 (a := 112) (by decide +kernel)
theorem dX12_sortOf_39 : decode cX12_sortOf 39 = .ok (.bipush 101, 2) := oc_16 (a := 101) (by decide +kernel)
theorem dX12_sortOf_41 : decode cX12_sortOf 41 = .ok (.bipush 111, 2) := oc_16 (a := 111) (by decide +kernel)
theorem dX12_sortOf_43 : decode cX12_sortOf 43 = .ok (.bipush 112, 2) := oc_16 (a := 112) (by decide +kernel)
theorem dX12_sortOf_45 : decode cX12_sortOf 45 = .ok (.bipush 108, 2) := oc_16 (a := 108) (by decide +kernel)
theorem dX12_sortOf_47 : decode cX12_sortOf 47 = .ok (.bipush 101, 2) := oc_16 (a := 101) (by decide +kernel)
theorem tw_867 : Cond.methodLink RX12 236 yX12_w6 ∈ wsL_law := sg_37 _ (List.mem_of_getElem? (i := 3) rfl)
theorem tw_868 : Cond.static yX12_w6 ∈ wsL_law := sg_37 _ (List.mem_of_getElem? (i := 4) rfl)
theorem tw_869 : Cond.code yX12_w6 cX12_w6 6 (some .long) ∈ wsL_law := sg_37 _ (List.mem_of_getElem? (i := 5) rfl)
theorem dX12_sortOf_49 : decode cX12_sortOf 49 = .ok (.invokestatic 236, 3) := oc_184 (a := 0) (b := 236) (by decide +kernel)
theorem dX12_sortOf_52 : decode cX12_sortOf 52 = .ok (.lcmp, 1) := oc_148 (by decide +kernel)
theorem dX12_sortOf_53 : decode cX12_sortOf 53 = .ok (.ifCond .ne 5, 3) := oc_154 (a := 0) (b := 5) (by decide +kernel)
theorem dX12_sortOf_58 : decode cX12_sortOf 58 = .ok (.aload_n 0, 1) := oc_42 (by decide +kernel)
theorem dX12_sortOf_59 : decode cX12_sortOf 59 = .ok (.getfield 156, 3) := oc_180 (a := 0) (b := 156) (by decide +kernel)
theorem dX12_sortOf_62 : decode cX12_sortOf 62 = .ok (.bipush 109, 2) := oc_16 (a := 109) (by decide +kernel)
theorem dX12_sortOf_64 : decode cX12_sortOf 64 = .ok (.bipush 97, 2) := oc_16 (a := 97) (by decide +kernel)
theorem dX12_sortOf_66 : decode cX12_sortOf 66 = .ok (.bipush 121, 2) := oc_16 (a := 121) (by decide +kernel)
theorem dX12_sortOf_68 : decode cX12_sortOf 68 = .ok (.invokestatic 160, 3) := oc_184 (a := 0) (b := 160) (by decide +kernel)
theorem dX12_sortOf_71 : decode cX12_sortOf 71 = .ok (.lcmp, 1) := oc_148 (by decide +kernel)
theorem dX12_sortOf_72 : decode cX12_sortOf 72 = .ok (.ifCond .ne 5, 3) := oc_154 (a := 0) (b := 5) (by decide +kernel)
theorem dX12_sortOf_77 : decode cX12_sortOf 77 = .ok (.aload_n 0, 1) := oc_42 (by decide +kernel)
theorem dX12_sortOf_78 : decode cX12_sortOf 78 = .ok (.getfield 156, 3) := oc_180 (a := 0) (b := 156) (by decide +kernel)
theorem dX12_sortOf_81 : decode cX12_sortOf 81 = .ok (.bipush 118, 2) := oc_16 (a := 118) (by decide +kernel)
theorem dX12_sortOf_83 : decode cX12_sortOf 83 = .ok (.bipush 111, 2) := oc_16 (a := 111) (by decide +kernel)
theorem dX12_sortOf_85 : decode cX12_sortOf 85 = .ok (.bipush 116, 2) := oc_16 (a := 116) (by decide +kernel)
theorem dX12_sortOf_87 : decode cX12_sortOf 87 = .ok (.bipush 101, 2) := oc_16 (a := 101) (by decide +kernel)
theorem dX12_sortOf_89 : decode cX12_sortOf 89 = .ok (.invokestatic 164, 3) := oc_184 (a := 0) (b := 164) (by decide +kernel)
theorem dX12_sortOf_92 : decode cX12_sortOf 92 = .ok (.lcmp, 1) := oc_148 (by decide +kernel)
theorem dX12_sortOf_93 : decode cX12_sortOf 93 = .ok (.ifCond .ne 5, 3) := oc_154 (a := 0) (b := 5) (by decide +kernel)
theorem dX12_sortOf_98 : decode cX12_sortOf 98 = .ok (.aload_n 0, 1) := oc_42 (by decide +kernel)
theorem dX12_sortOf_99 : decode cX12_sortOf 99 = .ok (.getfield 156, 3) := oc_180 (a := 0) (b := 156) (by decide +kernel)
theorem dX12_sortOf_102 : decode cX12_sortOf 102 = .ok (.bipush 111, 2) := oc_16 (a := 111) (by decide +kernel)
theorem dX12_sortOf_104 : decode cX12_sortOf 104 = .ok (.bipush 114, 2) := oc_16 (a := 114) (by decide +kernel)
theorem dX12_sortOf_106 : decode cX12_sortOf 106 = .ok (.bipush 100, 2) := oc_16 (a := 100) (by decide +kernel)
theorem dX12_sortOf_108 : decode cX12_sortOf 108 = .ok (.bipush 101, 2) := oc_16 (a := 101) (by decide +kernel)
theorem dX12_sortOf_110 : decode cX12_sortOf 110 = .ok (.bipush 114, 2) := oc_16 (a := 114) (by decide +kernel)
theorem dX12_sortOf_112 : decode cX12_sortOf 112 = .ok (.invokestatic 168, 3) := oc_184 (a := 0) (b := 168) (by decide +kernel)
theorem dX12_sortOf_115 : decode cX12_sortOf 115 = .ok (.lcmp, 1) := oc_148 (by decide +kernel)
theorem dX12_sortOf_116 : decode cX12_sortOf 116 = .ok (.ifCond .ne 5, 3) := oc_154 (a := 0) (b := 5) (by decide +kernel)
theorem dX12_sortOf_121 : decode cX12_sortOf 121 = .ok (.aload_n 0, 1) := oc_42 (by decide +kernel)
theorem dX12_sortOf_122 : decode cX12_sortOf 122 = .ok (.getfield 156, 3) := oc_180 (a := 0) (b := 156) (by decide +kernel)
theorem dX12_sortOf_125 : decode cX12_sortOf 125 = .ok (.bipush 104, 2) := oc_16 (a := 104) (by decide +kernel)
theorem dX12_sortOf_127 : decode cX12_sortOf 127 = .ok (.bipush 101, 2) := oc_16 (a := 101) (by decide +kernel)
theorem dX12_sortOf_129 : decode cX12_sortOf 129 = .ok (.bipush 105, 2) := oc_16 (a := 105) (by decide +kernel)
theorem dX12_sortOf_131 : decode cX12_sortOf 131 = .ok (.bipush 114, 2) := oc_16 (a := 114) (by decide +kernel)
theorem dX12_sortOf_133 : decode cX12_sortOf 133 = .ok (.invokestatic 164, 3) := oc_184 (a := 0) (b := 164) (by decide +kernel)
theorem dX12_sortOf_136 : decode cX12_sortOf 136 = .ok (.lcmp, 1) := oc_148 (by decide +kernel)
theorem dX12_sortOf_137 : decode cX12_sortOf 137 = .ok (.ifCond .ne 6, 3) := oc_154 (a := 0) (b := 6) (by decide +kernel)
theorem dX12_sortOf_143 : decode cX12_sortOf 143 = .ok (.aload_n 0, 1) := oc_42 (by decide +kernel)
theorem dX12_sortOf_144 : decode cX12_sortOf 144 = .ok (.getfield 156, 3) := oc_180 (a := 0) (b := 156) (by decide +kernel)
theorem dX12_sortOf_147 : decode cX12_sortOf 147 = .ok (.bipush 99, 2) := oc_16 (a := 99) (by decide +kernel)
theorem dX12_sortOf_149 : decode cX12_sortOf 149 = .ok (.bipush 111, 2) := oc_16 (a := 111) (by decide +kernel)
theorem dX12_sortOf_151 : decode cX12_sortOf 151 = .ok (.bipush 117, 2) := oc_16 (a := 117) (by decide +kernel)
theorem dX12_sortOf_153 : decode cX12_sortOf 153 = .ok (.bipush 110, 2) := oc_16 (a := 110) (by decide +kernel)
theorem dX12_sortOf_155 : decode cX12_sortOf 155 = .ok (.bipush 99, 2) := oc_16 (a := 99) (by decide +kernel)
theorem dX12_sortOf_157 : decode cX12_sortOf 157 = .ok (.bipush 105, 2) := oc_16 (a := 105) (by decide +kernel)
theorem dX12_sortOf_159 : decode cX12_sortOf 159 = .ok (.invokestatic 236, 3) := oc_184 (a := 0) (b := 236) (by decide +kernel)
theorem dX12_sortOf_162 : decode cX12_sortOf 162 = .ok (.bipush 8, 2) := oc_16 (a := 8) (by decide +kernel)
theorem dX12_sortOf_164 : decode cX12_sortOf 164 = .ok (.lshl, 1) := oc_121 (by decide +kernel)
theorem tw_857 : Cond.constantLong RX12 240 (108) ∈ wsL_law := sg_36 _ (List.mem_of_getElem? (i := 17) rfl)
theorem dX12_sortOf_165 : decode cX12_sortOf 165 = .ok (.ldc2_w 240, 3) := oc_20 (a := 0) (b := 240) (by decide +kernel)
theorem dX12_sortOf_168 : decode cX12_sortOf 168 = .ok (.lor, 1) := oc_129 (by decide +kernel)
theorem dX12_sortOf_169 : decode cX12_sortOf 169 = .ok (.lcmp, 1) := oc_148 (by decide +kernel)
theorem dX12_sortOf_170 : decode cX12_sortOf 170 = .ok (.ifCond .ne 6, 3) := oc_154 (a := 0) (b := 6) (by decide +kernel)
theorem dX12_sortOf_176 : decode cX12_sortOf 176 = .ok (.aload_n 0, 1) := oc_42 (by decide +kernel)
theorem dX12_sortOf_177 : decode cX12_sortOf 177 = .ok (.getfield 156, 3) := oc_180 (a := 0) (b := 156) (by decide +kernel)
theorem dX12_sortOf_180 : decode cX12_sortOf 180 = .ok (.bipush 102, 2) := oc_16 (a := 102) (by decide +kernel)
theorem dX12_sortOf_182 : decode cX12_sortOf 182 = .ok (.bipush 105, 2) := oc_16 (a := 105) (by decide +kernel)
theorem dX12_sortOf_184 : decode cX12_sortOf 184 = .ok (.bipush 120, 2) := oc_16 (a := 120) (by decide +kernel)
theorem dX12_sortOf_186 : decode cX12_sortOf 186 = .ok (.invokestatic 160, 3) := oc_184 (a := 0) (b := 160) (by decide +kernel)
theorem dX12_sortOf_189 : decode cX12_sortOf 189 = .ok (.lcmp, 1) := oc_148 (by decide +kernel)
theorem dX12_sortOf_190 : decode cX12_sortOf 190 = .ok (.ifCond .ne 8, 3) := oc_154 (a := 0) (b := 8) (by decide +kernel)
theorem dX12_sortOf_198 : decode cX12_sortOf 198 = .ok (.aload_n 0, 1) := oc_42 (by decide +kernel)
theorem dX12_sortOf_199 : decode cX12_sortOf 199 = .ok (.getfield 156, 3) := oc_180 (a := 0) (b := 156) (by decide +kernel)
theorem dX12_sortOf_202 : decode cX12_sortOf 202 = .ok (.bipush 108, 2) := oc_16 (a := 108) (by decide +kernel)
theorem dX12_sortOf_204 : decode cX12_sortOf 204 = .ok (.bipush 101, 2) := oc_16 (a := 101) (by decide +kernel)
theorem dX12_sortOf_206 : decode cX12_sortOf 206 = .ok (.bipush 97, 2) := oc_16 (a := 97) (by decide +kernel)
theorem dX12_sortOf_208 : decode cX12_sortOf 208 = .ok (.bipush 118, 2) := oc_16 (a := 118) (by decide +kernel)
theorem dX12_sortOf_210 : decode cX12_sortOf 210 = .ok (.bipush 101, 2) := oc_16 (a := 101) (by decide +kernel)
theorem dX12_sortOf_212 : decode cX12_sortOf 212 = .ok (.invokestatic 168, 3) := oc_184 (a := 0) (b := 168) (by decide +kernel)
theorem dX12_sortOf_215 : decode cX12_sortOf 215 = .ok (.lcmp, 1) := oc_148 (by decide +kernel)
theorem dX12_sortOf_216 : decode cX12_sortOf 216 = .ok (.ifCond .ne 8, 3) := oc_154 (a := 0) (b := 8) (by decide +kernel)
theorem dX12_sortOf_224 : decode cX12_sortOf 224 = .ok (.iconst 0, 1) := oc_3 (by decide +kernel)
theorem dX12_sortOf_225 : decode cX12_sortOf 225 = .ok (.ireturn, 1) := oc_172 (by decide +kernel)
theorem dX12_sortOf_219 : decode cX12_sortOf 219 = .ok (.bipush 9, 2) := oc_16 (a := 9) (by decide +kernel)
theorem dX12_sortOf_221 : decode cX12_sortOf 221 = .ok (.goto 4, 3) := oc_167 (a := 0) (b := 4) (by decide +kernel)
theorem dX12_sortOf_193 : decode cX12_sortOf 193 = .ok (.bipush 8, 2) := oc_16 (a := 8) (by decide +kernel)
theorem dX12_sortOf_195 : decode cX12_sortOf 195 = .ok (.goto 30, 3) := oc_167 (a := 0) (b := 30) (by decide +kernel)
theorem dX12_sortOf_173 : decode cX12_sortOf 173 = .ok (.bipush 7, 2) := oc_16 (a := 7) (by decide +kernel)
theorem dX12_sortOf_175 : decode cX12_sortOf 175 = .ok (.ireturn, 1) := oc_172 (by decide +kernel)
theorem dX12_sortOf_140 : decode cX12_sortOf 140 = .ok (.bipush 6, 2) := oc_16 (a := 6) (by decide +kernel)
theorem dX12_sortOf_142 : decode cX12_sortOf 142 = .ok (.ireturn, 1) := oc_172 (by decide +kernel)
theorem dX12_sortOf_119 : decode cX12_sortOf 119 = .ok (.iconst 5, 1) := oc_8 (by decide +kernel)
theorem dX12_sortOf_120 : decode cX12_sortOf 120 = .ok (.ireturn, 1) := oc_172 (by decide +kernel)
theorem dX12_sortOf_96 : decode cX12_sortOf 96 = .ok (.iconst 4, 1) := oc_7 (by decide +kernel)
theorem dX12_sortOf_97 : decode cX12_sortOf 97 = .ok (.ireturn, 1) := oc_172 (by decide +kernel)
theorem dX12_sortOf_75 : decode cX12_sortOf 75 = .ok (.iconst 3, 1) := oc_6 (by decide +kernel)
theorem dX12_sortOf_76 : decode cX12_sortOf 76 = .ok (.ireturn, 1) := oc_172 (by decide +kernel)
theorem dX12_sortOf_56 : decode cX12_sortOf 56 = .ok (.iconst 2, 1) := oc_5 (by decide +kernel)
theorem dX12_sortOf_57 : decode cX12_sortOf 57 = .ok (.ireturn, 1) := oc_172 (by decide +kernel)
theorem dX12_sortOf_31 : decode cX12_sortOf 31 = .ok (.iconst 1, 1) := oc_4 (by decide +kernel)
theorem dX12_sortOf_32 : decode cX12_sortOf 32 = .ok (.ireturn, 1) := oc_172 (by decide +kernel)
theorem dX12_sortOf_8 : decode cX12_sortOf 8 = .ok (.iconst 0, 1) := oc_3 (by decide +kernel)
theorem dX12_sortOf_9 : decode cX12_sortOf 9 = .ok (.ireturn, 1) := oc_172 (by decide +kernel)
set_option maxRecDepth 100000 in
def g_X12_take (a0 : Int32) (a1 : Int32) (I : Nat → Int32) (J : Nat → Int64) (ri : Nat → Nat → Int32) (rj : Nat → Nat → Int64) (rq : Nat → Nat → Option Nat) : Int32 × vM := (ap1 (I 393) fun (y_2 : Int32) => (if (y_2) = (1 : Int32) then (ap1 (I 394) fun (y_9 : Int32) => (if (y_9) ≤ a0 then (ap1 (va_up ri 384 (upd (ri 384) (a1).toNatClampNeg (y_9))) fun (r_16 : Nat → Nat → Int32) => (bnV (g_X12_nextToken_x I J r_16 rj rq) fun (I_21 : Nat → Int32) (J_22 : Nat → Int64) (_ : Nat → Nat → Int32) (_ : Nat → Nat → Int64) (_ : Nat → Nat → Option Nat) => ((0 : Int32), I_21, J_22, r_16, rj, rq))) else ((2 : Int32), I, J, ri, rj, rq))) else ((1 : Int32), I, J, ri, rj, rq)))
set_option maxRecDepth 100000 in
theorem g_X12_take_e {a0 : Int32} {a1 : Int32} {I : Nat → Int32} {J : Nat → Int64} {ri : Nat → Nat → Int32} {rj : Nat → Nat → Int64} {rq : Nat → Nat → Option Nat} : g_X12_take a0 a1 I J ri rj rq = (ap1 (I 393) fun (y_2 : Int32) => (if (y_2) = (1 : Int32) then (ap1 (I 394) fun (y_9 : Int32) => (if (y_9) ≤ a0 then (ap1 (va_up ri 384 (upd (ri 384) (a1).toNatClampNeg (y_9))) fun (r_16 : Nat → Nat → Int32) => (bnV (g_X12_nextToken_x I J r_16 rj rq) fun (I_21 : Nat → Int32) (J_22 : Nat → Int64) (_ : Nat → Nat → Int32) (_ : Nat → Nat → Int64) (_ : Nat → Nat → Option Nat) => ((0 : Int32), I_21, J_22, r_16, rj, rq))) else ((2 : Int32), I, J, ri, rj, rq))) else ((1 : Int32), I, J, ri, rj, rq))) := rfl
set_option maxHeartbeats 4000000 in
set_option maxRecDepth 100000 in
theorem s_X12_take (l : Launch) (D : va_G) (t : pq_T) (σ : pq_S) (I : Nat → Nat → Int32) (J : Nat → Nat → Int64) (ri : Nat → Nat → Int32) (rj : Nat → Nat → Int64) (rq : Nat → Nat → Option Nat) (sz : Nat) (tg : Nat → Nat) (hSH : SH σ tg) (hG0 : GT tg I ri) (this : Nat) (a0 : Int32) (a1 : Int32) (hL_this : this ∈ σ.1) (hK_this : σ.2.1 this = 12) (this_a : Nat) (hR_this_a : σ.2.2.1 384 this = some this_a) (hL_this_a : this_a ∈ σ.1) (hK_this_a : σ.2.1 this_a = 13) (hN_this_a : σ.2.2.2 this_a = 12720) (hT_this_a : tg this_a = 384) (hc : a1.toInt = 3722 + 900 * (ri this_a 6).toInt + 12 * (I 397 this).toInt ∧ 0 ≤ (I 397 this).toInt ∧ (I 397 this).toInt ≤ 19 ∧ 0 ≤ (ri this_a 6).toInt ∧ (ri this_a 6).toInt ≤ 9) : MetI l yX12_take (wa yX12_take cX12_take 3 (some .int)) ({ frames := 3, cells := 0, slots := 0, locals := 64 }) [.ref this, .int a0, .int a1] D t σ (I, J, ri, rj, rq) sz 0 0 (fun (r : Int32) (u : pq_S × pq_M) => ∃ I' : Nat → Nat → Int32, ∃ J' : Nat → Nat → Int64, ∃ ri' : Nat → Nat → Int32, u = (σ, I', J', ri', rj, rq) ∧ GM [1911, 391, 392, 393] tg σ I ri I' ri' rq ∧ ((I 391 this).toInt ≤ (I' 391 this).toInt) ∧ (∀ j : Nat, (j : Int) ≠ a1.toInt → ri' this_a j = ri this_a j) ∧ (tmM (I' 391 this).toInt (I' 393 this).toInt ≤ tmM (I 391 this).toInt (I 393 this).toInt) ∧ g_X12_take a0 a1 (vI 12 σ this I) (vJ 12 σ this J) (vR 12 σ this ri) (vL 12 σ this rj) (vQ 12 σ this rq) = (r, (vI 12 σ this I'), (vJ 12 σ this J'), (vR 12 σ this ri'), (vL 12 σ this rj), (vQ 12 σ this rq)) ∧ FR 12 tg σ this (I, J, ri, rj, rq) (I', J', ri', rj, rq) ∧ rg r 0 2) := by
  refine Met.ofW (cc := cX12_take) (maxL := 3) (ret := (some .int)) (by decide) rfl ?_
  intro p e s m args below meth c s₁ B hml hv
  obtain ⟨rfl, hsz, hP, hK, hD0, hN⟩ := hv
  have hx := B.exec
  have hb := B.bytes
  have hr := B.returns
  have hts := atoms_spec (ws := (wa yX12_take cX12_take 3 (some .int))) B.pre
  have hown : s.vm.findClass RX12 = some m.cls := findClass_of_methodNamed B.named
  have hlocks := B.notSynchronized
  subst hsz
  have hD : va_D (pq_B t σ (I, J, ri, rj, rq) s.heap.size) (pq_P t σ (I, J, ri, rj, rq)) := hD0.self
  generalize hAe : pq_B t σ (I, J, ri, rj, rq) s.heap.size = A at hD ⊢
  have hA : ∀ q : Nat, s.heap.size ≤ q → A q := fun q h => by rw [← hAe]; exact Or.inr h
  have hS : va_S A s.heap s.heap [] := va_S.rf
  have hG : GM [1911, 391, 392, 393] tg σ I ri I ri rq := ⟨hG0, fun _ _ _ => rfl, fun _ _ _ _ _ => rfl, fun _ _ _ _ _ _ => rfl⟩
  have hl := lv_entry ([.ref this, .int a0, .int a1]) (n := 3) (Nat.le_of_ble_eq_true rfl)
  rw [lg_entry_eq]
  generalize (lg_sl ([.ref this, .int a0, .int a1]) ++ List.replicate (3 - (lg_sl ([.ref this, .int a0, .int a1])).length) Slot.unset).toArray = ls at hl ⊢
  have hl : lv_has ls 3 [(0, .ref this), (1, .int a0), (2, .int a1)] := hl
  refine q_gen (fun Q hQ => ?_)
  have go : ∀ (H : Heap) (locs : List Loc) (ls : Array Slot), va_P D vwCl (pq_P t σ (I, J, ri, rj, rq)) H → va_D A (pq_P t σ (I, J, ri, rj, rq)) → va_S A s.heap H locs → lv_has ls 3 [(0, .ref this), (1, .int a0), (2, .int a1)] → W p l e ({ frames := 3, cells := 0, slots := 0, locals := 64 } : Room) s m (List.toArray ([.ref this, .int a0, .int a1] : List Value)) below meth c H locs 0 0 Q (F0 m 0 ls []) := by
    intro H locs ls hP hD hS hl
    have hO_this : this = vo σ 12 this := rfl
    have hVT : VT 12 σ tg this := vt_12 hSH hL_this hK_this
    have hFr : FR 12 tg σ this (I, J, ri, rj, rq) (I, J, ri, rj, rq) := fr_rf
    have hO_this_a : this_a = vrow σ 384 this := vo_k (c := 12) hO_this hR_this_a
    obtain ⟨F, hF0⟩ : ∃ F, F = g_X12_take a0 a1 (vI 12 σ this I) (vJ 12 σ this J) (vR 12 σ this ri) (vL 12 σ this rj) (vQ 12 σ this rq) := ⟨_, rfl⟩
    have hF := hF0.trans g_X12_take_e
    have ce6 := clampE (ri this_a 6)
    have ceC := clampE (I 397 this)
    have ceA := clampE a1
    have h_1 : rg a1 3722 12050 := ⟨by omega, by omega⟩
    have uh_1 := h_1.1
    have vh_1 := h_1.2
    refine lv_aload_n hx hb dX12_take_0 rfl (lv_at hl 0 rfl) ?_
    refine pg_f (v := .int (I 393 this)) (C := RX12) (T := TX12) (N := 31) hx hb hts (tw_i inlX12) hown hK hP hL_this hK_this (by decide) rfl 9 (by decide) (hts _ (tw_c tw_831)) rfl dX12_take_1 ?_
    replace hF := hF.trans (ap_n (vI_e (f := 393) hO_this (by decide)))
    refine lv_iconst (v := 1) hx hb dX12_take_4 (by decide) ?_
    refine lv_icmp_eq (tgt := 10) hx hb dX12_take_5 (by decide) (fun c_3 => ?_) (fun c_3 => ?_)
    · replace hF := hF.trans (if_pos c_3)
      have tc_7 : (I 393 this).toInt = 1 := congrArg Int32.toInt c_3
      have h_8 : rg (I 393 this) 1 1 := rg_and (rg_full _) (rg_of_eq c_3 (rg_k (1 : Int32) 1 rfl)) (by decide)
      have uh_8 := h_8.1
      have vh_8 := h_8.2
      refine lv_aload_n hx hb dX12_take_10 rfl (lv_at hl 0 rfl) ?_
      refine pg_f (v := .int (I 394 this)) (C := RX12) (T := TX12) (N := 31) hx hb hts (tw_i inlX12) hown hK hP hL_this hK_this (by decide) rfl 10 (by decide) (hts _ (tw_c tw_836)) rfl dX12_take_11 ?_
      replace hF := hF.trans (ap_n (vI_e (f := 394) hO_this (by decide)))
      refine lv_iload_n hx hb dX12_take_14 rfl (lv_at hl 1 rfl) ?_
      refine lv_icmp_le (tgt := 20) hx hb dX12_take_15 (by decide) (fun c_10 => ?_) (fun c_10 => ?_)
      · replace hF := hF.trans (if_pos c_10)
        have tc_15 : (I 394 this).toInt ≤ (a0).toInt := Int32.le_iff_toInt_le.mp c_10
        refine lv_aload_n hx hb dX12_take_20 rfl (lv_at hl 0 rfl) ?_
        refine pg_f (v := .ref this_a) (C := RX12) (T := TX12) (N := 31) hx hb hts (tw_i inlX12) hown hK hP hL_this hK_this (by decide) rfl 0 (by decide) (hts _ (tw_c tw_176)) (pq_hv rfl hR_this_a) dX12_take_21 ?_
        refine lv_iload_n hx hb dX12_take_24 rfl (lv_at hl 2 rfl) ?_
        refine lv_aload_n hx hb dX12_take_25 rfl (lv_at hl 0 rfl) ?_
        refine pg_f (v := .int (I 394 this)) (C := RX12) (T := TX12) (N := 31) hx hb hts (tw_i inlX12) hown hK hP hL_this hK_this (by decide) rfl 10 (by decide) (hts _ (tw_c tw_836)) rfl dX12_take_26 ?_
        refine pt_i hx hb hK hP hD hS hL_this_a hK_this_a hN_this_a (rg_in h_1 (by decide)) dX12_take_29 (fun r_16 H locs er_16 hP hD hS => ?_)
        replace hFr := fr_R hFr hO_this_a (by decide) er_16
        replace hF := hF.trans (ap_n (vR_st hVT hO_this_a (by decide) er_16))
        have hG := GM.wt hG hT_this_a (by decide) er_16 (zn_tc (t := (ri this_a 6).toNatClampNeg) (c := (I 397 this).toNatClampNeg) (k := 1) (by have z_i := clampE a1; have z_0 := clampE (ri this_a 6); have z_1 := clampE (I 397 this); omega) (rg_cl1 ⟨hc.2.2.2.1, hc.2.2.2.2⟩ (by decide)) (rg_cl1 ⟨hc.2.1, hc.2.2.1⟩ (by decide)) (by decide)) rfl (rg_w (rg_full _) (by decide)) (by have z6 := congrArg Int32.toInt (hG.2.2.1 this_a hT_this_a 6 (by decide) (by decide)); have z_i := clampE a1; omega) (by decide)
        refine lv_aload_n hx hb dX12_take_30 rfl (lv_at hl 0 rfl) ?_
        have hkn_17 : (I 393 this).toInt ≠ 0 := by omega
        obtain ⟨w_18, hR_w_18, hL_w_18, hK_w_18, hN_w_18, hT_w_18⟩ := sh_a hSH 387 (ci := 12) (kd := 13) (len := 300) rfl (by decide) hL_this hK_this
        have hO_w_18 : w_18 = vrow σ 387 this := vo_k (c := 12) hO_this hR_w_18
        refine pk_v (va_runV (As := []) (rest := []) ⟨hx, hb, hml, hown, hts⟩ (s_X12_nextToken_x l D t σ I J r_16 rj rq H.size tg hSH hG.1 this hL_this hK_this w_18 hR_w_18 hL_w_18 hK_w_18 hN_w_18 hT_w_18) (cwV 0 hts (tw_V tw_832 tw_833 tw_834 tw_5 tw_835) rfl rfl rfl cv_yX12_nextToken_0 ⟨Nat.le_of_ble_eq_true rfl, Nat.le_of_ble_eq_true rfl⟩) ⟨pq_blind, pq_recv hK hP hL_this hK_this (by decide) rfl, pq_pre hK hN hP hD⟩ rfl rfl hl.1 rfl (lv_room (Nat.le_of_ble_eq_true rfl)) dX12_take_31 ⟨Nat.le_of_ble_eq_true rfl, Nat.le_of_ble_eq_true rfl⟩) hD hS hA (fun σ1 μ1 H locs hw_20 hP hD hS => ?_)
        obtain ⟨I_21, J_22, hu_23, hg_24, hp_26, hp_27, hp_28, hfn_29, hfr_30⟩ := hw_20
        obtain ⟨hu_23a, hu_23b⟩ := Prod.mk.inj hu_23
        rw [hu_23a, hu_23b] at hP hD
        replace hF := hF.trans (bv_n hfn_29)
        replace hFr := fr_tr hFr hfr_30
        have tt_31 : (I_21 391 this).toInt ≤ 300 := by have z := hg_24.1.1 391 this; exact z.2
        have hG := GM.tr hG hg_24 (by decide)
        have tt_32 : (I_21 397 this).toInt = (I 397 this).toInt := by rw [hg_24.2.1 397 (by decide) (by decide)]
        refine lv_iconst (v := 0) hx hb dX12_take_34 (by decide) ?_
        subst hQ
        exact W.iret (v := 0) hx hb hr (fun t1 ht hW => ⟨⟨0, (σ, I_21, J_22, r_16, rj, rq), rfl, ⟨I_21, J_22, r_16, rfl, hG, (by omega), (fun j hj => by rw [er_16, va_up_self, upd_off (by omega)]), (Int.le_of_lt (Int.lt_of_lt_of_le (tm_lt hkn_17 hp_26 hp_27) (Int.le_refl _))), (hF0.symm.trans hF), hFr, (rg_w (rg_k (0 : Int32) 0 rfl) (by decide))⟩, by rw [ht]; exact hP, va_K.moved hW.alike hK, hD⟩, hS.F ht⟩) hS.2.2 dX12_take_35
      · replace hF := hF.trans (if_neg c_10)
        have tc_33 : (a0).toInt < (I 394 this).toInt := Int32.lt_iff_toInt_lt.mp (nle c_10)
        have h_34 : rg a0 (-2147483648) 2147483646 := rg_lt1 (nle c_10) (rg_full _) (rg_full _) (by decide)
        have uh_34 := h_34.1
        have vh_34 := h_34.2
        have h_35 : rg (I 394 this) (-2147483647) 2147483647 := rg_lt2 (nle c_10) (rg_full _) (rg_full _) (by decide)
        have uh_35 := h_35.1
        have vh_35 := h_35.2
        refine lv_iconst (v := 2) hx hb dX12_take_18 (by decide) ?_
        subst hQ
        exact W.iret (v := 2) hx hb hr (fun t1 ht hW => ⟨⟨2, (σ, I, J, ri, rj, rq), rfl, ⟨I, J, ri, rfl, hG, (by omega), (fun _ _ => rfl), (Int.le_refl _), (hF0.symm.trans hF), hFr, (rg_w (rg_k (2 : Int32) 2 rfl) (by decide))⟩, by rw [ht]; exact hP, va_K.moved hW.alike hK, hD⟩, hS.F ht⟩) hS.2.2 dX12_take_19
    · replace hF := hF.trans (if_neg c_3)
      have tc_36 : (I 393 this).toInt ≠ 1 := fun q => c_3 (Int32.toInt_inj.mp q)
      refine lv_iconst (v := 1) hx hb dX12_take_8 (by decide) ?_
      subst hQ
      exact W.iret (v := 1) hx hb hr (fun t1 ht hW => ⟨⟨1, (σ, I, J, ri, rj, rq), rfl, ⟨I, J, ri, rfl, hG, (by omega), (fun _ _ => rfl), (Int.le_refl _), (hF0.symm.trans hF), hFr, (rg_w (rg_k (1 : Int32) 1 rfl) (by decide))⟩, by rw [ht]; exact hP, va_K.moved hW.alike hK, hD⟩, hS.F ht⟩) hS.2.2 dX12_take_9
  exact go _ _ _ hP hD hS hl

set_option maxRecDepth 100000 in
def g_X12_sortOf (I : Nat → Int32) (J : Nat → Int64) (ri : Nat → Nat → Int32) (rj : Nat → Nat → Int64) (rq : Nat → Nat → Option Nat) : Int32 × vM := (ap1 (I 393) fun (y_1 : Int32) => (if (y_1) = (2 : Int32) then (ap1 (J 395) fun (y_8 : Int64) => (ap1 (g_X12_w5_d (108 : Int32) (97 : Int32) (115 : Int32) (116 : Int32) (115 : Int32)) fun (x_9 : Int64) => (ap1 (lg_cmp (y_8) x_9) fun (x_17 : Int32) => (if x_17 = (0 : Int32) then ((1 : Int32), I, J, ri, rj, rq) else (ap1 (g_X12_w6_x (112 : Int32) (101 : Int32) (111 : Int32) (112 : Int32) (108 : Int32) (101 : Int32)) fun (x_23 : Int64) => (ap1 (lg_cmp (y_8) x_23) fun (x_30 : Int32) => (if x_30 = (0 : Int32) then ((2 : Int32), I, J, ri, rj, rq) else (ap1 (g_X12_w3_d (109 : Int32) (97 : Int32) (121 : Int32)) fun (x_36 : Int64) => (ap1 (lg_cmp (y_8) x_36) fun (x_44 : Int32) => (if x_44 = (0 : Int32) then ((3 : Int32), I, J, ri, rj, rq) else (ap1 (g_X12_w4_d (118 : Int32) (111 : Int32) (116 : Int32) (101 : Int32)) fun (x_50 : Int64) => (ap1 (lg_cmp (y_8) x_50) fun (x_58 : Int32) => (if x_58 = (0 : Int32) then ((4 : Int32), I, J, ri, rj, rq) else (ap1 (g_X12_w5_d (111 : Int32) (114 : Int32) (100 : Int32) (101 : Int32) (114 : Int32)) fun (x_64 : Int64) => (ap1 (lg_cmp (y_8) x_64) fun (x_72 : Int32) => (if x_72 = (0 : Int32) then ((5 : Int32), I, J, ri, rj, rq) else (ap1 (g_X12_w4_d (104 : Int32) (101 : Int32) (105 : Int32) (114 : Int32)) fun (x_78 : Int64) => (ap1 (lg_cmp (y_8) x_78) fun (x_86 : Int32) => (if x_86 = (0 : Int32) then ((6 : Int32), I, J, ri, rj, rq) else (ap1 (g_X12_w6_x (99 : Int32) (111 : Int32) (117 : Int32) (110 : Int32) (99 : Int32) (105 : Int32)) fun (x_92 : Int64) => (ap1 (x_92 <<< ((8 : Int32).toInt64 &&& 63)) fun (x_99 : Int64) => (ap1 (x_99 ||| (108 : Int64)) fun (x_100 : Int64) => (ap1 (lg_cmp (y_8) x_100) fun (x_101 : Int32) => (if x_101 = (0 : Int32) then ((7 : Int32), I, J, ri, rj, rq) else (ap1 (g_X12_w3_d (102 : Int32) (105 : Int32) (120 : Int32)) fun (x_107 : Int64) => (ap1 (lg_cmp (y_8) x_107) fun (x_115 : Int32) => (if x_115 = (0 : Int32) then ((8 : Int32), I, J, ri, rj, rq) else (ap1 (g_X12_w5_d (108 : Int32) (101 : Int32) (97 : Int32) (118 : Int32) (101 : Int32)) fun (x_121 : Int64) => (ap1 (lg_cmp (y_8) x_121) fun (x_129 : Int32) => (if x_129 = (0 : Int32) then ((9 : Int32), I, J, ri, rj, rq) else ((0 : Int32), I, J, ri, rj, rq))))))))))))))))))))))))))))))) else ((0 : Int32), I, J, ri, rj, rq)))
set_option maxRecDepth 100000 in
theorem g_X12_sortOf_e {I : Nat → Int32} {J : Nat → Int64} {ri : Nat → Nat → Int32} {rj : Nat → Nat → Int64} {rq : Nat → Nat → Option Nat} : g_X12_sortOf I J ri rj rq = (ap1 (I 393) fun (y_1 : Int32) => (if (y_1) = (2 : Int32) then (ap1 (J 395) fun (y_8 : Int64) => (ap1 (g_X12_w5_d (108 : Int32) (97 : Int32) (115 : Int32) (116 : Int32) (115 : Int32)) fun (x_9 : Int64) => (ap1 (lg_cmp (y_8) x_9) fun (x_17 : Int32) => (if x_17 = (0 : Int32) then ((1 : Int32), I, J, ri, rj, rq) else (ap1 (g_X12_w6_x (112 : Int32) (101 : Int32) (111 : Int32) (112 : Int32) (108 : Int32) (101 : Int32)) fun (x_23 : Int64) => (ap1 (lg_cmp (y_8) x_23) fun (x_30 : Int32) => (if x_30 = (0 : Int32) then ((2 : Int32), I, J, ri, rj, rq) else (ap1 (g_X12_w3_d (109 : Int32) (97 : Int32) (121 : Int32)) fun (x_36 : Int64) => (ap1 (lg_cmp (y_8) x_36) fun (x_44 : Int32) => (if x_44 = (0 : Int32) then ((3 : Int32), I, J, ri, rj, rq) else (ap1 (g_X12_w4_d (118 : Int32) (111 : Int32) (116 : Int32) (101 : Int32)) fun (x_50 : Int64) => (ap1 (lg_cmp (y_8) x_50) fun (x_58 : Int32) => (if x_58 = (0 : Int32) then ((4 : Int32), I, J, ri, rj, rq) else (ap1 (g_X12_w5_d (111 : Int32) (114 : Int32) (100 : Int32) (101 : Int32) (114 : Int32)) fun (x_64 : Int64) => (ap1 (lg_cmp (y_8) x_64) fun (x_72 : Int32) => (if x_72 = (0 : Int32) then ((5 : Int32), I, J, ri, rj, rq) else (ap1 (g_X12_w4_d (104 : Int32) (101 : Int32) (105 : Int32) (114 : Int32)) fun (x_78 : Int64) => (ap1 (lg_cmp (y_8) x_78) fun (x_86 : Int32) => (if x_86 = (0 : Int32) then ((6 : Int32), I, J, ri, rj, rq) else (ap1 (g_X12_w6_x (99 : Int32) (111 : Int32) (117 : Int32) (110 : Int32) (99 : Int32) (105 : Int32)) fun (x_92 : Int64) => (ap1 (x_92 <<< ((8 : Int32).toInt64 &&& 63)) fun (x_99 : Int64) => (ap1 (x_99 ||| (108 : Int64)) fun (x_100 : Int64) => (ap1 (lg_cmp (y_8) x_100) fun (x_101 : Int32) => (if x_101 = (0 : Int32) then ((7 : Int32), I, J, ri, rj, rq) else (ap1 (g_X12_w3_d (102 : Int32) (105 : Int32) (120 : Int32)) fun (x_107 : Int64) => (ap1 (lg_cmp (y_8) x_107) fun (x_115 : Int32) => (if x_115 = (0 : Int32) then ((8 : Int32), I, J, ri, rj, rq) else (ap1 (g_X12_w5_d (108 : Int32) (101 : Int32) (97 : Int32) (118 : Int32) (101 : Int32)) fun (x_121 : Int64) => (ap1 (lg_cmp (y_8) x_121) fun (x_129 : Int32) => (if x_129 = (0 : Int32) then ((9 : Int32), I, J, ri, rj, rq) else ((0 : Int32), I, J, ri, rj, rq))))))))))))))))))))))))))))))) else ((0 : Int32), I, J, ri, rj, rq))) := rfl
set_option maxHeartbeats 4000000 in
set_option maxRecDepth 100000 in
theorem s_X12_sortOf (l : Launch) (D : va_G) (t : pq_T) (σ : pq_S) (I : Nat → Nat → Int32) (J : Nat → Nat → Int64) (ri : Nat → Nat → Int32) (rj : Nat → Nat → Int64) (rq : Nat → Nat → Option Nat) (sz : Nat) (tg : Nat → Nat) (hSH : SH σ tg) (hG0 : GT tg I ri) (this : Nat) (hL_this : this ∈ σ.1) (hK_this : σ.2.1 this = 12) : MetI l yX12_sortOf (wa yX12_sortOf cX12_sortOf 1 (some .int)) ({ frames := 4, cells := 0, slots := 0, locals := 94 }) [.ref this] D t σ (I, J, ri, rj, rq) sz 0 0 (fun (r : Int32) (u : pq_S × pq_M) => u = (σ, I, J, ri, rj, rq) ∧ (r.toInt = 0 ∨ (1 ≤ r.toInt ∧ r.toInt ≤ 9 ∧ (I 393 this).toInt = 2)) ∧ g_X12_sortOf (vI 12 σ this I) (vJ 12 σ this J) (vR 12 σ this ri) (vL 12 σ this rj) (vQ 12 σ this rq) = (r, (vI 12 σ this I), (vJ 12 σ this J), (vR 12 σ this ri), (vL 12 σ this rj), (vQ 12 σ this rq)) ∧ rg r 0 9) := by
  refine Met.ofW (cc := cX12_sortOf) (maxL := 1) (ret := (some .int)) (by decide) rfl ?_
  intro p e s m args below meth c s₁ B hml hv
  obtain ⟨rfl, hsz, hP, hK, hD0, hN⟩ := hv
  have hx := B.exec
  have hb := B.bytes
  have hr := B.returns
  have hts := atoms_spec (ws := (wa yX12_sortOf cX12_sortOf 1 (some .int))) B.pre
  have hown : s.vm.findClass RX12 = some m.cls := findClass_of_methodNamed B.named
  have hlocks := B.notSynchronized
  subst hsz
  have hD : va_D (pq_B t σ (I, J, ri, rj, rq) s.heap.size) (pq_P t σ (I, J, ri, rj, rq)) := hD0.self
  generalize hAe : pq_B t σ (I, J, ri, rj, rq) s.heap.size = A at hD ⊢
  have hA : ∀ q : Nat, s.heap.size ≤ q → A q := fun q h => by rw [← hAe]; exact Or.inr h
  have hS : va_S A s.heap s.heap [] := va_S.rf
  have hG : GM [] tg σ I ri I ri rq := ⟨hG0, fun _ _ _ => rfl, fun _ _ _ _ _ => rfl, fun _ _ _ _ _ _ => rfl⟩
  have hl := lv_entry ([.ref this]) (n := 1) (Nat.le_of_ble_eq_true rfl)
  rw [lg_entry_eq]
  generalize (lg_sl ([.ref this]) ++ List.replicate (1 - (lg_sl ([.ref this])).length) Slot.unset).toArray = ls at hl ⊢
  have hl : lv_has ls 1 [(0, .ref this)] := hl
  refine q_gen (fun Q hQ => ?_)
  have go : ∀ (H : Heap) (locs : List Loc) (ls : Array Slot), va_P D vwCl (pq_P t σ (I, J, ri, rj, rq)) H → va_D A (pq_P t σ (I, J, ri, rj, rq)) → va_S A s.heap H locs → lv_has ls 1 [(0, .ref this)] → W p l e ({ frames := 4, cells := 0, slots := 0, locals := 94 } : Room) s m (List.toArray ([.ref this] : List Value)) below meth c H locs 0 0 Q (F0 m 0 ls []) := by
    intro H locs ls hP hD hS hl
    have hO_this : this = vo σ 12 this := rfl
    have hVT : VT 12 σ tg this := vt_12 hSH hL_this hK_this
    have hFr : FR 12 tg σ this (I, J, ri, rj, rq) (I, J, ri, rj, rq) := fr_rf
    obtain ⟨F, hF0⟩ : ∃ F, F = g_X12_sortOf (vI 12 σ this I) (vJ 12 σ this J) (vR 12 σ this ri) (vL 12 σ this rj) (vQ 12 σ this rq) := ⟨_, rfl⟩
    have hF := hF0.trans g_X12_sortOf_e
    refine lv_aload_n hx hb dX12_sortOf_0 rfl (lv_at hl 0 rfl) ?_
    refine pg_f (v := .int (I 393 this)) (C := RX12) (T := TX12) (N := 31) hx hb hts (tw_i inlX12) hown hK hP hL_this hK_this (by decide) rfl 9 (by decide) (hts _ (tw_c tw_831)) rfl dX12_sortOf_1 ?_
    replace hF := hF.trans (ap_n (vI_e (f := 393) hO_this (by decide)))
    refine lv_iconst (v := 2) hx hb dX12_sortOf_4 (by decide) ?_
    refine lv_icmp_eq (tgt := 10) hx hb dX12_sortOf_5 (by decide) (fun c_2 => ?_) (fun c_2 => ?_)
    · replace hF := hF.trans (if_pos c_2)
      have tc_6 : (I 393 this).toInt = 2 := congrArg Int32.toInt c_2
      have h_7 : rg (I 393 this) 2 2 := rg_and (rg_full _) (rg_of_eq c_2 (rg_k (2 : Int32) 2 rfl)) (by decide)
      have uh_7 := h_7.1
      have vh_7 := h_7.2
      refine lv_aload_n hx hb dX12_sortOf_10 rfl (lv_at hl 0 rfl) ?_
      refine pg_f (v := .long (J 395 this)) (C := RX12) (T := TX12) (N := 31) hx hb hts (tw_i inlX12) hown hK hP hL_this hK_this (by decide) rfl 11 (by decide) (hts _ (tw_c tw_838)) rfl dX12_sortOf_11 ?_
      replace hF := hF.trans (ap_n (vJ_e (f := 395) hO_this (by decide)))
      refine lv_bipush (v := 108) hx hb dX12_sortOf_14 (by decide) ?_
      refine lv_bipush (v := 97) hx hb dX12_sortOf_16 (by decide) ?_
      refine lv_bipush (v := 115) hx hb dX12_sortOf_18 (by decide) ?_
      refine lv_bipush (v := 116) hx hb dX12_sortOf_20 (by decide) ?_
      refine lv_bipush (v := 115) hx hb dX12_sortOf_22 (by decide) ?_
      refine pk_l (va_runS (As := [.int 108, .int 97, .int 115, .int 116, .int 115]) (rest := [.long (J 395 this)]) ⟨hx, hb, hml, hown, hts⟩ (s_X12_w5_d l D t σ I J ri rj rq H.size tg hSH hG.1 (108 : Int32) (97 : Int32) (115 : Int32) (116 : Int32) (115 : Int32)) (va_cwS 5 hts (tw_S tw_858 tw_859 tw_5 tw_860) rfl rfl rfl cd_yX12_w5_5 ⟨Nat.le_of_ble_eq_true rfl, Nat.le_of_ble_eq_true rfl⟩) ⟨pq_blind, pq_pre hK hN hP hD⟩ rfl rfl hl.1 rfl (lv_room (Nat.le_of_ble_eq_true rfl)) dX12_sortOf_24 ⟨Nat.le_of_ble_eq_true rfl, Nat.le_of_ble_eq_true rfl⟩) hD hS hA (fun x_9 σ1 μ1 H locs hw_10 hP hD hS => ?_)
      obtain ⟨hu_11, hp_14, hfn_15⟩ := hw_10
      obtain ⟨hu_11a, hu_11b⟩ := Prod.mk.inj hu_11
      rw [hu_11a, hu_11b] at hP hD
      replace hF := hF.trans (ap_n hfn_15.symm)
      refine W.lcmp hx hb dX12_sortOf_27 ?_
      refine lv_topi (fun x_17 ex_17 => ?_)
      replace hF := hF.trans (ap_n ex_17)
      refine lv_if_ne (tgt := 33) hx hb dX12_sortOf_28 (by decide) (fun c_18 => ?_) (fun c_18 => ?_)
      · replace hF := hF.trans (if_neg c_18)
        have tc_22 : (x_17).toInt ≠ 0 := fun q => c_18 (Int32.toInt_inj.mp q)
        refine lv_aload_n hx hb dX12_sortOf_33 rfl (lv_at hl 0 rfl) ?_
        refine pg_f (v := .long (J 395 this)) (C := RX12) (T := TX12) (N := 31) hx hb hts (tw_i inlX12) hown hK hP hL_this hK_this (by decide) rfl 11 (by decide) (hts _ (tw_c tw_838)) rfl dX12_sortOf_34 ?_
        refine lv_bipush (v := 112) hx hb dX12_sortOf_37 (by decide) ?_
        refine lv_bipush (v := 101) hx hb dX12_sortOf_39 (by decide) ?_
        refine lv_bipush (v := 111) hx hb dX12_sortOf_41 (by decide) ?_
        refine lv_bipush (v := 112) hx hb dX12_sortOf_43 (by decide) ?_
        refine lv_bipush (v := 108) hx hb dX12_sortOf_45 (by decide) ?_
        refine lv_bipush (v := 101) hx hb dX12_sortOf_47 (by decide) ?_
        refine pk_l (va_runS (As := [.int 112, .int 101, .int 111, .int 112, .int 108, .int 101]) (rest := [.long (J 395 this)]) ⟨hx, hb, hml, hown, hts⟩ (s_X12_w6_x l D t σ I J ri rj rq H.size tg hSH hG.1 (112 : Int32) (101 : Int32) (111 : Int32) (112 : Int32) (108 : Int32) (101 : Int32)) (va_cwS 6 hts (tw_S tw_867 tw_868 tw_5 tw_869) rfl rfl rfl cd_yX12_w6_6 ⟨Nat.le_of_ble_eq_true rfl, Nat.le_of_ble_eq_true rfl⟩) ⟨pq_blind, pq_pre hK hN hP hD⟩ rfl rfl hl.1 rfl (lv_room (Nat.le_of_ble_eq_true rfl)) dX12_sortOf_49 ⟨Nat.le_of_ble_eq_true rfl, Nat.le_of_ble_eq_true rfl⟩) hD hS hA (fun x_23 σ1 μ1 H locs hw_24 hP hD hS => ?_)
        obtain ⟨hu_25, hfn_28⟩ := hw_24
        obtain ⟨hu_25a, hu_25b⟩ := Prod.mk.inj hu_25
        rw [hu_25a, hu_25b] at hP hD
        replace hF := hF.trans (ap_n hfn_28.symm)
        refine W.lcmp hx hb dX12_sortOf_52 ?_
        refine lv_topi (fun x_30 ex_30 => ?_)
        replace hF := hF.trans (ap_n ex_30)
        refine lv_if_ne (tgt := 58) hx hb dX12_sortOf_53 (by decide) (fun c_31 => ?_) (fun c_31 => ?_)
        · replace hF := hF.trans (if_neg c_31)
          have tc_35 : (x_30).toInt ≠ 0 := fun q => c_31 (Int32.toInt_inj.mp q)
          refine lv_aload_n hx hb dX12_sortOf_58 rfl (lv_at hl 0 rfl) ?_
          refine pg_f (v := .long (J 395 this)) (C := RX12) (T := TX12) (N := 31) hx hb hts (tw_i inlX12) hown hK hP hL_this hK_this (by decide) rfl 11 (by decide) (hts _ (tw_c tw_838)) rfl dX12_sortOf_59 ?_
          refine lv_bipush (v := 109) hx hb dX12_sortOf_62 (by decide) ?_
          refine lv_bipush (v := 97) hx hb dX12_sortOf_64 (by decide) ?_
          refine lv_bipush (v := 121) hx hb dX12_sortOf_66 (by decide) ?_
          refine pk_l (va_runS (As := [.int 109, .int 97, .int 121]) (rest := [.long (J 395 this)]) ⟨hx, hb, hml, hown, hts⟩ (s_X12_w3_d l D t σ I J ri rj rq H.size tg hSH hG.1 (109 : Int32) (97 : Int32) (121 : Int32)) (va_cwS 3 hts (tw_S tw_864 tw_865 tw_5 tw_866) rfl rfl rfl cd_yX12_w3_3 ⟨Nat.le_of_ble_eq_true rfl, Nat.le_of_ble_eq_true rfl⟩) ⟨pq_blind, pq_pre hK hN hP hD⟩ rfl rfl hl.1 rfl (lv_room (Nat.le_of_ble_eq_true rfl)) dX12_sortOf_68 ⟨Nat.le_of_ble_eq_true rfl, Nat.le_of_ble_eq_true rfl⟩) hD hS hA (fun x_36 σ1 μ1 H locs hw_37 hP hD hS => ?_)
          obtain ⟨hu_38, hp_41, hfn_42⟩ := hw_37
          obtain ⟨hu_38a, hu_38b⟩ := Prod.mk.inj hu_38
          rw [hu_38a, hu_38b] at hP hD
          replace hF := hF.trans (ap_n hfn_42.symm)
          refine W.lcmp hx hb dX12_sortOf_71 ?_
          refine lv_topi (fun x_44 ex_44 => ?_)
          replace hF := hF.trans (ap_n ex_44)
          refine lv_if_ne (tgt := 77) hx hb dX12_sortOf_72 (by decide) (fun c_45 => ?_) (fun c_45 => ?_)
          · replace hF := hF.trans (if_neg c_45)
            have tc_49 : (x_44).toInt ≠ 0 := fun q => c_45 (Int32.toInt_inj.mp q)
            refine lv_aload_n hx hb dX12_sortOf_77 rfl (lv_at hl 0 rfl) ?_
            refine pg_f (v := .long (J 395 this)) (C := RX12) (T := TX12) (N := 31) hx hb hts (tw_i inlX12) hown hK hP hL_this hK_this (by decide) rfl 11 (by decide) (hts _ (tw_c tw_838)) rfl dX12_sortOf_78 ?_
            refine lv_bipush (v := 118) hx hb dX12_sortOf_81 (by decide) ?_
            refine lv_bipush (v := 111) hx hb dX12_sortOf_83 (by decide) ?_
            refine lv_bipush (v := 116) hx hb dX12_sortOf_85 (by decide) ?_
            refine lv_bipush (v := 101) hx hb dX12_sortOf_87 (by decide) ?_
            refine pk_l (va_runS (As := [.int 118, .int 111, .int 116, .int 101]) (rest := [.long (J 395 this)]) ⟨hx, hb, hml, hown, hts⟩ (s_X12_w4_d l D t σ I J ri rj rq H.size tg hSH hG.1 (118 : Int32) (111 : Int32) (116 : Int32) (101 : Int32)) (va_cwS 4 hts (tw_S tw_861 tw_862 tw_5 tw_863) rfl rfl rfl cd_yX12_w4_4 ⟨Nat.le_of_ble_eq_true rfl, Nat.le_of_ble_eq_true rfl⟩) ⟨pq_blind, pq_pre hK hN hP hD⟩ rfl rfl hl.1 rfl (lv_room (Nat.le_of_ble_eq_true rfl)) dX12_sortOf_89 ⟨Nat.le_of_ble_eq_true rfl, Nat.le_of_ble_eq_true rfl⟩) hD hS hA (fun x_50 σ1 μ1 H locs hw_51 hP hD hS => ?_)
            obtain ⟨hu_52, hp_55, hfn_56⟩ := hw_51
            obtain ⟨hu_52a, hu_52b⟩ := Prod.mk.inj hu_52
            rw [hu_52a, hu_52b] at hP hD
            replace hF := hF.trans (ap_n hfn_56.symm)
            refine W.lcmp hx hb dX12_sortOf_92 ?_
            refine lv_topi (fun x_58 ex_58 => ?_)
            replace hF := hF.trans (ap_n ex_58)
            refine lv_if_ne (tgt := 98) hx hb dX12_sortOf_93 (by decide) (fun c_59 => ?_) (fun c_59 => ?_)
            · replace hF := hF.trans (if_neg c_59)
              have tc_63 : (x_58).toInt ≠ 0 := fun q => c_59 (Int32.toInt_inj.mp q)
              refine lv_aload_n hx hb dX12_sortOf_98 rfl (lv_at hl 0 rfl) ?_
              refine pg_f (v := .long (J 395 this)) (C := RX12) (T := TX12) (N := 31) hx hb hts (tw_i inlX12) hown hK hP hL_this hK_this (by decide) rfl 11 (by decide) (hts _ (tw_c tw_838)) rfl dX12_sortOf_99 ?_
              refine lv_bipush (v := 111) hx hb dX12_sortOf_102 (by decide) ?_
              refine lv_bipush (v := 114) hx hb dX12_sortOf_104 (by decide) ?_
              refine lv_bipush (v := 100) hx hb dX12_sortOf_106 (by decide) ?_
              refine lv_bipush (v := 101) hx hb dX12_sortOf_108 (by decide) ?_
              refine lv_bipush (v := 114) hx hb dX12_sortOf_110 (by decide) ?_
              refine pk_l (va_runS (As := [.int 111, .int 114, .int 100, .int 101, .int 114]) (rest := [.long (J 395 this)]) ⟨hx, hb, hml, hown, hts⟩ (s_X12_w5_d l D t σ I J ri rj rq H.size tg hSH hG.1 (111 : Int32) (114 : Int32) (100 : Int32) (101 : Int32) (114 : Int32)) (va_cwS 5 hts (tw_S tw_858 tw_859 tw_5 tw_860) rfl rfl rfl cd_yX12_w5_5 ⟨Nat.le_of_ble_eq_true rfl, Nat.le_of_ble_eq_true rfl⟩) ⟨pq_blind, pq_pre hK hN hP hD⟩ rfl rfl hl.1 rfl (lv_room (Nat.le_of_ble_eq_true rfl)) dX12_sortOf_112 ⟨Nat.le_of_ble_eq_true rfl, Nat.le_of_ble_eq_true rfl⟩) hD hS hA (fun x_64 σ1 μ1 H locs hw_65 hP hD hS => ?_)
              obtain ⟨hu_66, hp_69, hfn_70⟩ := hw_65
              obtain ⟨hu_66a, hu_66b⟩ := Prod.mk.inj hu_66
              rw [hu_66a, hu_66b] at hP hD
              replace hF := hF.trans (ap_n hfn_70.symm)
              refine W.lcmp hx hb dX12_sortOf_115 ?_
              refine lv_topi (fun x_72 ex_72 => ?_)
              replace hF := hF.trans (ap_n ex_72)
              refine lv_if_ne (tgt := 121) hx hb dX12_sortOf_116 (by decide) (fun c_73 => ?_) (fun c_73 => ?_)
              · replace hF := hF.trans (if_neg c_73)
                have tc_77 : (x_72).toInt ≠ 0 := fun q => c_73 (Int32.toInt_inj.mp q)
                refine lv_aload_n hx hb dX12_sortOf_121 rfl (lv_at hl 0 rfl) ?_
                refine pg_f (v := .long (J 395 this)) (C := RX12) (T := TX12) (N := 31) hx hb hts (tw_i inlX12) hown hK hP hL_this hK_this (by decide) rfl 11 (by decide) (hts _ (tw_c tw_838)) rfl dX12_sortOf_122 ?_
                refine lv_bipush (v := 104) hx hb dX12_sortOf_125 (by decide) ?_
                refine lv_bipush (v := 101) hx hb dX12_sortOf_127 (by decide) ?_
                refine lv_bipush (v := 105) hx hb dX12_sortOf_129 (by decide) ?_
                refine lv_bipush (v := 114) hx hb dX12_sortOf_131 (by decide) ?_
                refine pk_l (va_runS (As := [.int 104, .int 101, .int 105, .int 114]) (rest := [.long (J 395 this)]) ⟨hx, hb, hml, hown, hts⟩ (s_X12_w4_d l D t σ I J ri rj rq H.size tg hSH hG.1 (104 : Int32) (101 : Int32) (105 : Int32) (114 : Int32)) (va_cwS 4 hts (tw_S tw_861 tw_862 tw_5 tw_863) rfl rfl rfl cd_yX12_w4_4 ⟨Nat.le_of_ble_eq_true rfl, Nat.le_of_ble_eq_true rfl⟩) ⟨pq_blind, pq_pre hK hN hP hD⟩ rfl rfl hl.1 rfl (lv_room (Nat.le_of_ble_eq_true rfl)) dX12_sortOf_133 ⟨Nat.le_of_ble_eq_true rfl, Nat.le_of_ble_eq_true rfl⟩) hD hS hA (fun x_78 σ1 μ1 H locs hw_79 hP hD hS => ?_)
                obtain ⟨hu_80, hp_83, hfn_84⟩ := hw_79
                obtain ⟨hu_80a, hu_80b⟩ := Prod.mk.inj hu_80
                rw [hu_80a, hu_80b] at hP hD
                replace hF := hF.trans (ap_n hfn_84.symm)
                refine W.lcmp hx hb dX12_sortOf_136 ?_
                refine lv_topi (fun x_86 ex_86 => ?_)
                replace hF := hF.trans (ap_n ex_86)
                refine lv_if_ne (tgt := 143) hx hb dX12_sortOf_137 (by decide) (fun c_87 => ?_) (fun c_87 => ?_)
                · replace hF := hF.trans (if_neg c_87)
                  have tc_91 : (x_86).toInt ≠ 0 := fun q => c_87 (Int32.toInt_inj.mp q)
                  refine lv_aload_n hx hb dX12_sortOf_143 rfl (lv_at hl 0 rfl) ?_
                  refine pg_f (v := .long (J 395 this)) (C := RX12) (T := TX12) (N := 31) hx hb hts (tw_i inlX12) hown hK hP hL_this hK_this (by decide) rfl 11 (by decide) (hts _ (tw_c tw_838)) rfl dX12_sortOf_144 ?_
                  refine lv_bipush (v := 99) hx hb dX12_sortOf_147 (by decide) ?_
                  refine lv_bipush (v := 111) hx hb dX12_sortOf_149 (by decide) ?_
                  refine lv_bipush (v := 117) hx hb dX12_sortOf_151 (by decide) ?_
                  refine lv_bipush (v := 110) hx hb dX12_sortOf_153 (by decide) ?_
                  refine lv_bipush (v := 99) hx hb dX12_sortOf_155 (by decide) ?_
                  refine lv_bipush (v := 105) hx hb dX12_sortOf_157 (by decide) ?_
                  refine pk_l (va_runS (As := [.int 99, .int 111, .int 117, .int 110, .int 99, .int 105]) (rest := [.long (J 395 this)]) ⟨hx, hb, hml, hown, hts⟩ (s_X12_w6_x l D t σ I J ri rj rq H.size tg hSH hG.1 (99 : Int32) (111 : Int32) (117 : Int32) (110 : Int32) (99 : Int32) (105 : Int32)) (va_cwS 6 hts (tw_S tw_867 tw_868 tw_5 tw_869) rfl rfl rfl cd_yX12_w6_6 ⟨Nat.le_of_ble_eq_true rfl, Nat.le_of_ble_eq_true rfl⟩) ⟨pq_blind, pq_pre hK hN hP hD⟩ rfl rfl hl.1 rfl (lv_room (Nat.le_of_ble_eq_true rfl)) dX12_sortOf_159 ⟨Nat.le_of_ble_eq_true rfl, Nat.le_of_ble_eq_true rfl⟩) hD hS hA (fun x_92 σ1 μ1 H locs hw_93 hP hD hS => ?_)
                  obtain ⟨hu_94, hfn_97⟩ := hw_93
                  obtain ⟨hu_94a, hu_94b⟩ := Prod.mk.inj hu_94
                  rw [hu_94a, hu_94b] at hP hD
                  replace hF := hF.trans (ap_n hfn_97.symm)
                  refine lv_bipush (v := 8) hx hb dX12_sortOf_162 (by decide) ?_
                  refine lv_lshl hx hb dX12_sortOf_164 rfl ?_
                  refine lv_topl (fun x_99 ex_99 => ?_)
                  replace hF := hF.trans (ap_n ex_99)
                  refine lv_ldc2 hx hb hown (hts _ (tw_c tw_857)) dX12_sortOf_165 ?_
                  refine lv_lor hx hb dX12_sortOf_168 ?_
                  refine lv_topl (fun x_100 ex_100 => ?_)
                  replace hF := hF.trans (ap_n ex_100)
                  refine W.lcmp hx hb dX12_sortOf_169 ?_
                  refine lv_topi (fun x_101 ex_101 => ?_)
                  replace hF := hF.trans (ap_n ex_101)
                  refine lv_if_ne (tgt := 176) hx hb dX12_sortOf_170 (by decide) (fun c_102 => ?_) (fun c_102 => ?_)
                  · replace hF := hF.trans (if_neg c_102)
                    have tc_106 : (x_101).toInt ≠ 0 := fun q => c_102 (Int32.toInt_inj.mp q)
                    refine lv_aload_n hx hb dX12_sortOf_176 rfl (lv_at hl 0 rfl) ?_
                    refine pg_f (v := .long (J 395 this)) (C := RX12) (T := TX12) (N := 31) hx hb hts (tw_i inlX12) hown hK hP hL_this hK_this (by decide) rfl 11 (by decide) (hts _ (tw_c tw_838)) rfl dX12_sortOf_177 ?_
                    refine lv_bipush (v := 102) hx hb dX12_sortOf_180 (by decide) ?_
                    refine lv_bipush (v := 105) hx hb dX12_sortOf_182 (by decide) ?_
                    refine lv_bipush (v := 120) hx hb dX12_sortOf_184 (by decide) ?_
                    refine pk_l (va_runS (As := [.int 102, .int 105, .int 120]) (rest := [.long (J 395 this)]) ⟨hx, hb, hml, hown, hts⟩ (s_X12_w3_d l D t σ I J ri rj rq H.size tg hSH hG.1 (102 : Int32) (105 : Int32) (120 : Int32)) (va_cwS 3 hts (tw_S tw_864 tw_865 tw_5 tw_866) rfl rfl rfl cd_yX12_w3_3 ⟨Nat.le_of_ble_eq_true rfl, Nat.le_of_ble_eq_true rfl⟩) ⟨pq_blind, pq_pre hK hN hP hD⟩ rfl rfl hl.1 rfl (lv_room (Nat.le_of_ble_eq_true rfl)) dX12_sortOf_186 ⟨Nat.le_of_ble_eq_true rfl, Nat.le_of_ble_eq_true rfl⟩) hD hS hA (fun x_107 σ1 μ1 H locs hw_108 hP hD hS => ?_)
                    obtain ⟨hu_109, hp_112, hfn_113⟩ := hw_108
                    obtain ⟨hu_109a, hu_109b⟩ := Prod.mk.inj hu_109
                    rw [hu_109a, hu_109b] at hP hD
                    replace hF := hF.trans (ap_n hfn_113.symm)
                    refine W.lcmp hx hb dX12_sortOf_189 ?_
                    refine lv_topi (fun x_115 ex_115 => ?_)
                    replace hF := hF.trans (ap_n ex_115)
                    refine lv_if_ne (tgt := 198) hx hb dX12_sortOf_190 (by decide) (fun c_116 => ?_) (fun c_116 => ?_)
                    · replace hF := hF.trans (if_neg c_116)
                      have tc_120 : (x_115).toInt ≠ 0 := fun q => c_116 (Int32.toInt_inj.mp q)
                      refine lv_aload_n hx hb dX12_sortOf_198 rfl (lv_at hl 0 rfl) ?_
                      refine pg_f (v := .long (J 395 this)) (C := RX12) (T := TX12) (N := 31) hx hb hts (tw_i inlX12) hown hK hP hL_this hK_this (by decide) rfl 11 (by decide) (hts _ (tw_c tw_838)) rfl dX12_sortOf_199 ?_
                      refine lv_bipush (v := 108) hx hb dX12_sortOf_202 (by decide) ?_
                      refine lv_bipush (v := 101) hx hb dX12_sortOf_204 (by decide) ?_
                      refine lv_bipush (v := 97) hx hb dX12_sortOf_206 (by decide) ?_
                      refine lv_bipush (v := 118) hx hb dX12_sortOf_208 (by decide) ?_
                      refine lv_bipush (v := 101) hx hb dX12_sortOf_210 (by decide) ?_
                      refine pk_l (va_runS (As := [.int 108, .int 101, .int 97, .int 118, .int 101]) (rest := [.long (J 395 this)]) ⟨hx, hb, hml, hown, hts⟩ (s_X12_w5_d l D t σ I J ri rj rq H.size tg hSH hG.1 (108 : Int32) (101 : Int32) (97 : Int32) (118 : Int32) (101 : Int32)) (va_cwS 5 hts (tw_S tw_858 tw_859 tw_5 tw_860) rfl rfl rfl cd_yX12_w5_5 ⟨Nat.le_of_ble_eq_true rfl, Nat.le_of_ble_eq_true rfl⟩) ⟨pq_blind, pq_pre hK hN hP hD⟩ rfl rfl hl.1 rfl (lv_room (Nat.le_of_ble_eq_true rfl)) dX12_sortOf_212 ⟨Nat.le_of_ble_eq_true rfl, Nat.le_of_ble_eq_true rfl⟩) hD hS hA (fun x_121 σ1 μ1 H locs hw_122 hP hD hS => ?_)
                      obtain ⟨hu_123, hp_126, hfn_127⟩ := hw_122
                      obtain ⟨hu_123a, hu_123b⟩ := Prod.mk.inj hu_123
                      rw [hu_123a, hu_123b] at hP hD
                      replace hF := hF.trans (ap_n hfn_127.symm)
                      refine W.lcmp hx hb dX12_sortOf_215 ?_
                      refine lv_topi (fun x_129 ex_129 => ?_)
                      replace hF := hF.trans (ap_n ex_129)
                      refine lv_if_ne (tgt := 224) hx hb dX12_sortOf_216 (by decide) (fun c_130 => ?_) (fun c_130 => ?_)
                      · replace hF := hF.trans (if_neg c_130)
                        have tc_134 : (x_129).toInt ≠ 0 := fun q => c_130 (Int32.toInt_inj.mp q)
                        refine lv_iconst (v := 0) hx hb dX12_sortOf_224 (by decide) ?_
                        subst hQ
                        exact W.iret (v := 0) hx hb hr (fun t1 ht hW => ⟨⟨0, (σ, I, J, ri, rj, rq), rfl, ⟨rfl, (by have z9 : (0 : Int32).toInt = 0 := rfl; omega), (hF0.symm.trans hF), (rg_w (rg_k (0 : Int32) 0 rfl) (by decide))⟩, by rw [ht]; exact hP, va_K.moved hW.alike hK, hD⟩, hS.F ht⟩) hS.2.2 dX12_sortOf_225
                      · replace hF := hF.trans (if_pos c_130)
                        have tc_135 : (x_129).toInt = 0 := congrArg Int32.toInt c_130
                        have h_136 : rg x_129 0 0 := rg_and (rg_full _) (rg_of_eq c_130 (rg_k (0 : Int32) 0 rfl)) (by decide)
                        have uh_136 := h_136.1
                        have vh_136 := h_136.2
                        refine lv_bipush (v := 9) hx hb dX12_sortOf_219 (by decide) ?_
                        refine lv_goto (tgt := 225) hx hb dX12_sortOf_221 (by decide) ?_
                        subst hQ
                        exact W.iret (v := 9) hx hb hr (fun t1 ht hW => ⟨⟨9, (σ, I, J, ri, rj, rq), rfl, ⟨rfl, (by have z9 : (9 : Int32).toInt = 9 := rfl; omega), (hF0.symm.trans hF), (rg_w (rg_k (9 : Int32) 9 rfl) (by decide))⟩, by rw [ht]; exact hP, va_K.moved hW.alike hK, hD⟩, hS.F ht⟩) hS.2.2 dX12_sortOf_225
                    · replace hF := hF.trans (if_pos c_116)
                      have tc_137 : (x_115).toInt = 0 := congrArg Int32.toInt c_116
                      have h_138 : rg x_115 0 0 := rg_and (rg_full _) (rg_of_eq c_116 (rg_k (0 : Int32) 0 rfl)) (by decide)
                      have uh_138 := h_138.1
                      have vh_138 := h_138.2
                      refine lv_bipush (v := 8) hx hb dX12_sortOf_193 (by decide) ?_
                      refine lv_goto (tgt := 225) hx hb dX12_sortOf_195 (by decide) ?_
                      subst hQ
                      exact W.iret (v := 8) hx hb hr (fun t1 ht hW => ⟨⟨8, (σ, I, J, ri, rj, rq), rfl, ⟨rfl, (by have z9 : (8 : Int32).toInt = 8 := rfl; omega), (hF0.symm.trans hF), (rg_w (rg_k (8 : Int32) 8 rfl) (by decide))⟩, by rw [ht]; exact hP, va_K.moved hW.alike hK, hD⟩, hS.F ht⟩) hS.2.2 dX12_sortOf_225
                  · replace hF := hF.trans (if_pos c_102)
                    have tc_139 : (x_101).toInt = 0 := congrArg Int32.toInt c_102
                    have h_140 : rg x_101 0 0 := rg_and (rg_full _) (rg_of_eq c_102 (rg_k (0 : Int32) 0 rfl)) (by decide)
                    have uh_140 := h_140.1
                    have vh_140 := h_140.2
                    refine lv_bipush (v := 7) hx hb dX12_sortOf_173 (by decide) ?_
                    subst hQ
                    exact W.iret (v := 7) hx hb hr (fun t1 ht hW => ⟨⟨7, (σ, I, J, ri, rj, rq), rfl, ⟨rfl, (by have z9 : (7 : Int32).toInt = 7 := rfl; omega), (hF0.symm.trans hF), (rg_w (rg_k (7 : Int32) 7 rfl) (by decide))⟩, by rw [ht]; exact hP, va_K.moved hW.alike hK, hD⟩, hS.F ht⟩) hS.2.2 dX12_sortOf_175
                · replace hF := hF.trans (if_pos c_87)
                  have tc_141 : (x_86).toInt = 0 := congrArg Int32.toInt c_87
                  have h_142 : rg x_86 0 0 := rg_and (rg_full _) (rg_of_eq c_87 (rg_k (0 : Int32) 0 rfl)) (by decide)
                  have uh_142 := h_142.1
                  have vh_142 := h_142.2
                  refine lv_bipush (v := 6) hx hb dX12_sortOf_140 (by decide) ?_
                  subst hQ
                  exact W.iret (v := 6) hx hb hr (fun t1 ht hW => ⟨⟨6, (σ, I, J, ri, rj, rq), rfl, ⟨rfl, (by have z9 : (6 : Int32).toInt = 6 := rfl; omega), (hF0.symm.trans hF), (rg_w (rg_k (6 : Int32) 6 rfl) (by decide))⟩, by rw [ht]; exact hP, va_K.moved hW.alike hK, hD⟩, hS.F ht⟩) hS.2.2 dX12_sortOf_142
              · replace hF := hF.trans (if_pos c_73)
                have tc_143 : (x_72).toInt = 0 := congrArg Int32.toInt c_73
                have h_144 : rg x_72 0 0 := rg_and (rg_full _) (rg_of_eq c_73 (rg_k (0 : Int32) 0 rfl)) (by decide)
                have uh_144 := h_144.1
                have vh_144 := h_144.2
                refine lv_iconst (v := 5) hx hb dX12_sortOf_119 (by decide) ?_
                subst hQ
                exact W.iret (v := 5) hx hb hr (fun t1 ht hW => ⟨⟨5, (σ, I, J, ri, rj, rq), rfl, ⟨rfl, (by have z9 : (5 : Int32).toInt = 5 := rfl; omega), (hF0.symm.trans hF), (rg_w (rg_k (5 : Int32) 5 rfl) (by decide))⟩, by rw [ht]; exact hP, va_K.moved hW.alike hK, hD⟩, hS.F ht⟩) hS.2.2 dX12_sortOf_120
            · replace hF := hF.trans (if_pos c_59)
              have tc_145 : (x_58).toInt = 0 := congrArg Int32.toInt c_59
              have h_146 : rg x_58 0 0 := rg_and (rg_full _) (rg_of_eq c_59 (rg_k (0 : Int32) 0 rfl)) (by decide)
              have uh_146 := h_146.1
              have vh_146 := h_146.2
              refine lv_iconst (v := 4) hx hb dX12_sortOf_96 (by decide) ?_
              subst hQ
              exact W.iret (v := 4) hx hb hr (fun t1 ht hW => ⟨⟨4, (σ, I, J, ri, rj, rq), rfl, ⟨rfl, (by have z9 : (4 : Int32).toInt = 4 := rfl; omega), (hF0.symm.trans hF), (rg_w (rg_k (4 : Int32) 4 rfl) (by decide))⟩, by rw [ht]; exact hP, va_K.moved hW.alike hK, hD⟩, hS.F ht⟩) hS.2.2 dX12_sortOf_97
          · replace hF := hF.trans (if_pos c_45)
            have tc_147 : (x_44).toInt = 0 := congrArg Int32.toInt c_45
            have h_148 : rg x_44 0 0 := rg_and (rg_full _) (rg_of_eq c_45 (rg_k (0 : Int32) 0 rfl)) (by decide)
            have uh_148 := h_148.1
            have vh_148 := h_148.2
            refine lv_iconst (v := 3) hx hb dX12_sortOf_75 (by decide) ?_
            subst hQ
            exact W.iret (v := 3) hx hb hr (fun t1 ht hW => ⟨⟨3, (σ, I, J, ri, rj, rq), rfl, ⟨rfl, (by have z9 : (3 : Int32).toInt = 3 := rfl; omega), (hF0.symm.trans hF), (rg_w (rg_k (3 : Int32) 3 rfl) (by decide))⟩, by rw [ht]; exact hP, va_K.moved hW.alike hK, hD⟩, hS.F ht⟩) hS.2.2 dX12_sortOf_76
        · replace hF := hF.trans (if_pos c_31)
          have tc_149 : (x_30).toInt = 0 := congrArg Int32.toInt c_31
          have h_150 : rg x_30 0 0 := rg_and (rg_full _) (rg_of_eq c_31 (rg_k (0 : Int32) 0 rfl)) (by decide)
          have uh_150 := h_150.1
          have vh_150 := h_150.2
          refine lv_iconst (v := 2) hx hb dX12_sortOf_56 (by decide) ?_
          subst hQ
          exact W.iret (v := 2) hx hb hr (fun t1 ht hW => ⟨⟨2, (σ, I, J, ri, rj, rq), rfl, ⟨rfl, (by have z9 : (2 : Int32).toInt = 2 := rfl; omega), (hF0.symm.trans hF), (rg_w (rg_k (2 : Int32) 2 rfl) (by decide))⟩, by rw [ht]; exact hP, va_K.moved hW.alike hK, hD⟩, hS.F ht⟩) hS.2.2 dX12_sortOf_57
      · replace hF := hF.trans (if_pos c_18)
        have tc_151 : (x_17).toInt = 0 := congrArg Int32.toInt c_18
        have h_152 : rg x_17 0 0 := rg_and (rg_full _) (rg_of_eq c_18 (rg_k (0 : Int32) 0 rfl)) (by decide)
        have uh_152 := h_152.1
        have vh_152 := h_152.2
        refine lv_iconst (v := 1) hx hb dX12_sortOf_31 (by decide) ?_
        subst hQ
        exact W.iret (v := 1) hx hb hr (fun t1 ht hW => ⟨⟨1, (σ, I, J, ri, rj, rq), rfl, ⟨rfl, (by have z9 : (1 : Int32).toInt = 1 := rfl; omega), (hF0.symm.trans hF), (rg_w (rg_k (1 : Int32) 1 rfl) (by decide))⟩, by rw [ht]; exact hP, va_K.moved hW.alike hK, hD⟩, hS.F ht⟩) hS.2.2 dX12_sortOf_32
    · replace hF := hF.trans (if_neg c_2)
      have tc_153 : (I 393 this).toInt ≠ 2 := fun q => c_2 (Int32.toInt_inj.mp q)
      refine lv_iconst (v := 0) hx hb dX12_sortOf_8 (by decide) ?_
      subst hQ
      exact W.iret (v := 0) hx hb hr (fun t1 ht hW => ⟨⟨0, (σ, I, J, ri, rj, rq), rfl, ⟨rfl, (by have z9 : (0 : Int32).toInt = 0 := rfl; omega), (hF0.symm.trans hF), (rg_w (rg_k (0 : Int32) 0 rfl) (by decide))⟩, by rw [ht]; exact hP, va_K.moved hW.alike hK, hD⟩, hS.F ht⟩) hS.2.2 dX12_sortOf_9
  exact go _ _ _ hP hD hS hl
