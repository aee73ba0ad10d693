theorem dX12_take_0 : decode cX12_take 0 = .ok (.aload_n 0, 1) := oc_42 (by decide +kernel)
theorem dX12_take_1 : decode cX12_take 1 = .ok (.getfield 143, 3) := oc_180 (a := 0) (b := 143) (by decide +kernel)
theorem dX12_take_4 : decode cX12_take 4 = .ok (.iconst 1, 1) := oc_4 (by decide +kernel)
theorem dX12_take_5 : decode cX12_take 5 = .ok (.if_icmp .eq 5, 3) := oc_159 (a := 0) (b := 5) (by decide +kernel)
theorem dX12_take_10 : decode cX12_take 10 = .ok (.aload_n 0, 1) := oc_42 (by decide +kernel)
theorem dX12_take_11 : decode cX12_take 11 = .ok (.getfield 149, 3) := oc_180 (a := 0) (b := 149) (by decide +kernel)
theorem dX12_take_14 : decode cX12_take 14 = .ok (.iload_n 1, 1) := oc_27 (by decide +kernel)
theorem dX12_take_15 : decode cX12_take 15 = .ok (.if_icmp .le 5, 3) := oc_164 (a := 0) (b := 5) (by decide +kernel)
theorem dX12_take_20 : decode cX12_take 20 = .ok (.aload_n 0, 1) := oc_42 (by decide +kernel)
theorem dX12_take_21 : decode cX12_take 21 = .ok (.getfield 7, 3) := oc_180 (a := 0) (b := 7) (by decide +kernel)
theorem dX12_take_24 : decode cX12_take 24 = .ok (.iload_n 2, 1) := oc_28 (by decide +kernel)
theorem dX12_take_25 : decode cX12_take 25 = .ok (.aload_n 0, 1) := oc_42 (by decide +kernel)
theorem dX12_take_26 : decode cX12_take 26 = .ok (.getfield 149, 3) := oc_180 (a := 0) (b := 149) (by decide +kernel)
theorem dX12_take_29 : decode cX12_take 29 = .ok (.iastore, 1) := oc_79 (by decide +kernel)
theorem dX12_take_30 : decode cX12_take 30 = .ok (.aload_n 0, 1) := oc_42 (by decide +kernel)
theorem dX12_take_31 : decode cX12_take 31 = .ok (.invokevirtual 196, 3) := oc_182 (a := 0) (b := 196) (by decide +kernel)
theorem dX12_take_34 : decode cX12_take 34 = .ok (.iconst 0, 1) := oc_3 (by decide +kernel)
theorem dX12_take_35 : decode cX12_take 35 = .ok (.ireturn, 1) := oc_172 (by decide +kernel)
theorem dX12_take_18 : decode cX12_take 18 = .ok (.iconst 2, 1) := oc_5 (by decide +kernel)
theorem dX12_take_19 : decode cX12_take 19 = .ok (.ireturn, 1) := oc_172 (by decide +kernel)
theorem dX12_take_8 : decode cX12_take 8 = .ok (.iconst 1, 1) := oc_4 (by decide +kernel)
theorem dX12_take_9 : decode cX12_take 9 = .ok (.ireturn, 1) := oc_172 (by decide +kernel)
theorem dX12_sortOf_0 : decode cX12_sortOf 0 = .ok (.aload_n 0, 1) := oc_42 (by decide +kernel)
theorem dX12_sortOf_1 : decode cX12_sortOf 1 = .ok (.getfield 143, 3) := oc_180 (a := 0) (b := 143) (by decide +kernel)
theorem dX12_sortOf_4 : decode cX12_sortOf 4 = .ok (.iconst 2, 1) := oc_5 (by decide +kernel)
theorem dX12_sortOf_5 : decode cX12_sortOf 5 = .ok (.if_icmp .eq 5, 3) := oc_159 (a := 0) (b := 5) (by decide +kernel)
theorem dX12_sortOf_10 : decode cX12_sortOf 10 = .ok (.aload_n 0, 1) := oc_42 (by decide +kernel)
theorem dX12_sortOf_11 : decode cX12_sortOf 11 = .ok (.getfield 156, 3) := oc_180 (a := 0) (b := 156) (by decide +kernel)
theorem dX12_sortOf_14 : decode cX12_sortOf 14 = .ok (.bipush 108, 2) := oc_16 (a := 108) (by decide +kernel)
theorem dX12_sortOf_16 : decode cX12_sortOf 16 = .ok (.bipush 97, 2) := oc_16 (a := 97) (by decide +kernel)
theorem dX12_sortOf_18 : decode cX12_sortOf 18 = .ok (.bipush 115, 2) := oc_16 (a := 115) (by decide +kernel)
theorem dX12_sortOf_20 : decode cX12_sortOf 20 = .ok (.bipush 116, 2) := oc_16 (a := 116) (by decide +kernel)
theorem dX12_sortOf_22 : decode cX12_sortOf 22 = .ok (.bipush 115, 2) := oc_16 (a := 115) (by decide +kernel)
theorem dX12_sortOf_24 : decode cX12_sortOf 24 = .ok (.invokestatic 168, 3) := oc_184 (a := 0) (b := 168) (by decide +kernel)
theorem dX12_sortOf_27 : decode cX12_sortOf 27 = .ok (.lcmp, 1) := oc_148 (by decide +kernel)
theorem dX12_sortOf_28 : decode cX12_sortOf 28 = .ok (.ifCond .ne 5, 3) := oc_154 (a := 0) (b := 5) (by decide +kernel)
theorem dX12_sortOf_33 : decode cX12_sortOf 33 = .ok (.aload_n 0, 1) := oc_42 (by decide +kernel)
theorem dX12_sortOf_34 : decode cX12_sortOf 34 = .ok (.getfield 156, 3) := oc_180 (a := 0) (b := 156) (by decide +kernel)
theorem dX12_sortOf_37 : decode cX12_sortOf 37 = .ok (.bipush 112, 2) := oc_16 (a := 112) (by decide +kernel)
theorem dX12_sortOf_39 : decode cX12_sortOf 39 = .ok (.bipush 101, 2) := oc_16 (a := 101) (by decide +kernel)
theorem dX12_sortOf_41 : decode cX12_sortOf 41 = .ok (.bipush 111, 2) := oc_16 (a := 111) (by decide +kernel)
theorem dX12_sortOf_43 : decode cX12_sortOf 43 = .ok (.bipush 112, 2) := oc_16 (a := 112) (by decide +kernel)
theorem dX12_sortOf_45 : decode cX12_sortOf 45 = .ok (.bipush 108, 2) := oc_16 (a := 108) (by decide +kernel)
theorem dX12_sortOf_47 : decode cX12_sortOf 47 = .ok (.bipush 101, 2) := oc_16 (a := 101) (by decide +kernel)
theorem tw_867 : Cond.methodLink RX12 236 yX12_w6 ∈ wsL_law := sg_37 _ (List.mem_of_getElem? (i := 3) rfl)
theorem tw_868 : Cond.static yX12_w6 ∈ wsL_law := sg_37 _ (List.mem_of_getElem? (i := 4) rfl)
theorem tw_869 : Cond.code yX12_w6 cX12_w6 6 (some .long) ∈ wsL_law := sg_37 _ (List.mem_of_getElem? (i := 5) rfl)
theorem dX12_sortOf_49 : decode cX12_sortOf 49 = .ok (.invokestatic 236, 3) := oc_184 (a := 0) (b := 236) (by decide +kernel)
theorem dX12_sortOf_52 : decode cX12_sortOf 52 = .ok (.lcmp, 1) := oc_148 (by decide +kernel)
theorem dX12_sortOf_53 : decode cX12_sortOf 53 = .ok (.ifCond .ne 5, 3) := oc_154 (a := 0) (b := 5) (by decide +kernel)
theorem dX12_sortOf_58 : decode cX12_sortOf 58 = .ok (.aload_n 0, 1) := oc_42 (by decide +kernel)
theorem dX12_sortOf_59 : decode cX12_sortOf 59 = .ok (.getfield 156, 3) := oc_180 (a := 0) (b := 156) (by decide +kernel)
theorem dX12_sortOf_62 : decode cX12_sortOf 62 = .ok (.bipush 109, 2) := oc_16 (a := 109) (by decide +kernel)
theorem dX12_sortOf_64 : decode cX12_sortOf 64 = .ok (.bipush 97, 2) := oc_16 (a := 97) (by decide +kernel)
theorem dX12_sortOf_66 : decode cX12_sortOf 66 = .ok (.bipush 121, 2) := oc_16 (a := 121) (by decide +kernel)
theorem dX12_sortOf_68 : decode cX12_sortOf 68 = .ok (.invokestatic 160, 3) := oc_184 (a := 0) (b := 160) (by decide +kernel)
theorem dX12_sortOf_71 : decode cX12_sortOf 71 = .ok (.lcmp, 1) := oc_148 (by decide +kernel)
theorem dX12_sortOf_72 : decode cX12_sortOf 72 = .ok (.ifCond .ne 5, 3) := oc_154 (a := 0) (b := 5) (by decide +kernel)
theorem dX12_sortOf_77 : decode cX12_sortOf 77 = .ok (.aload_n 0, 1) := oc_42 (by decide +kernel)
theorem dX12_sortOf_78 : decode cX12_sortOf 78 = .ok (.getfield 156, 3) := oc_180 (a := 0) (b := 156) (by decide +kernel)
theorem dX12_sortOf_81 : decode cX12_sortOf 81 = .ok (.bipush 118, 2) := oc_16 (a := 118) (by decide +kernel)
theorem dX12_sortOf_83 : decode cX12_sortOf 83 = .ok (.bipush 111, 2) := oc_16 (a := 111) (by decide +kernel)
theorem dX12_sortOf_85 : decode cX12_sortOf 85 = .ok (.bipush 116, 2) := oc_16 (a := 116) (by decide +kernel)
theorem dX12_sortOf_87 : decode cX12_sortOf 87 = .ok (.bipush 101, 2) := oc_16 (a := 101) (by decide +kernel)
theorem dX12_sortOf_89 : decode cX12_sortOf 89 = .ok (.invokestatic 164, 3) := oc_184 (a := 0) (b := 164) (by decide +kernel)
theorem dX12_sortOf_92 : decode cX12_sortOf 92 = .ok (.lcmp, 1) := oc_148 (by decide +kernel)
theorem dX12_sortOf_93 : decode cX12_sortOf 93 = .ok (.ifCond .ne 5, 3) := oc_154 (a := 0) (b := 5) (by decide +kernel)
theorem dX12_sortOf_98 : decode cX12_sortOf 98 = .ok (.aload_n 0, 1) := oc_42 (by decide +kernel)
theorem dX12_sortOf_99 : decode cX12_sortOf 99 = .ok (.getfield 156, 3) := oc_180 (a := 0) (b := 156) (by decide +kernel)
theorem dX12_sortOf_102 : decode cX12_sortOf 102 = .ok (.bipush 111, 2) := oc_16 (a := 111) (by decide +kernel)
theorem dX12_sortOf_104 : decode cX12_sortOf 104 = .ok (.bipush 114, 2) := oc_16 (a := 114) (by decide +kernel)
theorem dX12_sortOf_106 : decode cX12_sortOf 106 = .ok (.bipush 100, 2) := oc_16 (a := 100) (by decide +kernel)
theorem dX12_sortOf_108 : decode cX12_sortOf 108 = .ok (.bipush 101, 2) := oc_16 (a := 101) (by decide +kernel)
theorem dX12_sortOf_110 : decode cX12_sortOf 110 = .ok (.bipush 114, 2) := oc_16 (a := 114) (by decide +kernel)
theorem dX12_sortOf_112 : decode cX12_sortOf 112 = .ok (.invokestatic 168, 3) := oc_184 (a := 0) (b := 168) (by decide +kernel)
theorem dX12_sortOf_115 : decode cX12_sortOf 115 = .ok (.lcmp, 1) := oc_148 (by decide +kernel)
theorem dX12_sortOf_116 : decode cX12_sortOf 116 = .ok (.ifCond .ne 5, 3) := oc_154 (a := 0) (b := 5) (by decide +kernel)
theorem dX12_sortOf_121 : decode cX12_sortOf 121 = .ok (.aload_n 0, 1) := oc_42 (by decide +kernel)
theorem dX12_sortOf_122 : decode cX12_sortOf 122 = .ok (.getfield 156, 3) := oc_180 (a := 0) (b := 156) (by decide +kernel)
theorem dX12_sortOf_125 : decode cX12_sortOf 125 = .ok (.bipush 104, 2) := oc_16 (a := 104) (by decide +kernel)
theorem dX12_sortOf_127 : decode cX12_sortOf 127 = .ok (.bipush 101, 2) := oc_16 (a := 101) (by decide +kernel)
theorem dX12_sortOf_129 : decode cX12_sortOf 129 = .ok (.bipush 105, 2) := oc_16 (a := 105) (by decide +kernel)
theorem dX12_sortOf_131 : decode cX12_sortOf 131 = .ok (.bipush 114, 2) := oc_16 (a := 114) (by decide +kernel)
theorem dX12_sortOf_133 : decode cX12_sortOf 133 = .ok (.invokestatic 164, 3) := oc_184 (a := 0) (b := 164) (by decide +kernel)
theorem dX12_sortOf_136 : decode cX12_sortOf 136 = .ok (.lcmp, 1) := oc_148 (by decide +kernel)
theorem dX12_sortOf_137 : decode cX12_sortOf 137 = .ok (.ifCond .ne 6, 3) := oc_154 (a := 0) (b := 6) (by decide +kernel)
theorem dX12_sortOf_143 : decode cX12_sortOf 143 = .ok (.aload_n 0, 1) := oc_42 (by decide +kernel)
theorem dX12_sortOf_144 : decode cX12_sortOf 144 = .ok (.getfield 156, 3) := oc_180 (a := 0) (b := 156) (by decide +kernel)
theorem dX12_sortOf_147 : decode cX12_sortOf 147 = .ok (.bipush 99, 2) := oc_16 (a := 99) (by decide +kernel)
theorem dX12_sortOf_149 : decode cX12_sortOf 149 = .ok (.bipush 111, 2) := oc_16 (a := 111) (by decide +kernel)
theorem dX12_sortOf_151 : decode cX12_sortOf 151 = .ok (.bipush 117, 2) := oc_16 (a := 117) (by decide +kernel)
theorem dX12_sortOf_153 : decode cX12_sortOf 153 = .ok (.bipush 110, 2) := oc_16 (a := 110) (by decide +kernel)
theorem dX12_sortOf_155 : decode cX12_sortOf 155 = .ok (.bipush 99, 2) := oc_16 (a := 99) (by decide +kernel)
theorem dX12_sortOf_157 : decode cX12_sortOf 157 = .ok (.bipush 105, 2) := oc_16 (a := 105) (by decide +kernel)
theorem dX12_sortOf_159 : decode cX12_sortOf 159 = .ok (.invokestatic 236, 3) := oc_184 (a := 0) (b := 236) (by decide +kernel)
theorem dX12_sortOf_162 : decode cX12_sortOf 162 = .ok (.bipush 8, 2) := oc_16 (a := 8) (by decide +kernel)
theorem dX12_sortOf_164 : decode cX12_sortOf 164 = .ok (.lshl, 1) := oc_121 (by decide +kernel)
theorem tw_857 : Cond.constantLong RX12 240 (108) ∈ wsL_law := sg_36 _ (List.mem_of_getElem? (i := 17) rfl)
theorem dX12_sortOf_165 : decode cX12_sortOf 165 = .ok (.ldc2_w 240, 3) := oc_20 (a := 0) (b := 240) (by decide +kernel)
theorem dX12_sortOf_168 : decode cX12_sortOf 168 = .ok (.lor, 1) := oc_129 (by decide +kernel)
theorem dX12_sortOf_169 : decode cX12_sortOf 169 = .ok (.lcmp, 1) := oc_148 (by decide +kernel)
theorem dX12_sortOf_170 : decode cX12_sortOf 170 = .ok (.ifCond .ne 6, 3) := oc_154 (a := 0) (b := 6) (by decide +kernel)
theorem dX12_sortOf_176 : decode cX12_sortOf 176 = .ok (.aload_n 0, 1) := oc_42 (by decide +kernel)
theorem dX12_sortOf_177 : decode cX12_sortOf 177 = .ok (.getfield 156, 3) := oc_180 (a := 0) (b := 156) (by decide +kernel)
theorem dX12_sortOf_180 : decode cX12_sortOf 180 = .ok (.bipush 102, 2) := oc_16 (a := 102) (by decide +kernel)
theorem dX12_sortOf_182 : decode cX12_sortOf 182 = .ok (.bipush 105, 2) := oc_16 (a := 105) (by decide +kernel)
theorem dX12_sortOf_184 : decode cX12_sortOf 184 = .ok (.bipush 120, 2) := oc_16 (a := 120) (by decide +kernel)
theorem dX12_sortOf_186 : decode cX12_sortOf 186 = .ok (.invokestatic 160, 3) := oc_184 (a := 0) (b := 160) (by decide +kernel)
theorem dX12_sortOf_189 : decode cX12_sortOf 189 = .ok (.lcmp, 1) := oc_148 (by decide +kernel)
theorem dX12_sortOf_190 : decode cX12_sortOf 190 = .ok (.ifCond .ne 8, 3) := oc_154 (a := 0) (b := 8) (by decide +kernel)
theorem dX12_sortOf_198 : decode cX12_sortOf 198 = .ok (.aload_n 0, 1) := oc_42 (by decide +kernel)
theorem dX12_sortOf_199 : decode cX12_sortOf 199 = .ok (.getfield 156, 3) := oc_180 (a := 0) (b := 156) (by decide +kernel)
theorem dX12_sortOf_202 : decode cX12_sortOf 202 = .ok (.bipush 108, 2) := oc_16 (a := 108) (by decide +kernel)
theorem dX12_sortOf_204 : decode cX12_sortOf 204 = .ok (.bipush 101, 2) := oc_16 (a := 101) (by decide +kernel)
theorem dX12_sortOf_206 : decode cX12_sortOf 206 = .ok (.bipush 97, 2) := oc_16 (a := 97) (by decide +kernel)
theorem dX12_sortOf_208 : decode cX12_sortOf 208 = .ok (.bipush 118, 2) := oc_16 (a := 118) (by decide +kernel)
theorem dX12_sortOf_210 : decode cX12_sortOf 210 = .ok (.bipush 101, 2) := oc_16 (a := 101) (by decide +kernel)
theorem dX12_sortOf_212 : decode cX12_sortOf 212 = .ok (.invokestatic 168, 3) := oc_184 (a := 0) (b := 168) (by decide +kernel)
theorem dX12_sortOf_215 : decode cX12_sortOf 215 = .ok (.lcmp, 1) := oc_148 (by decide +kernel)
theorem dX12_sortOf_216 : decode cX12_sortOf 216 = .ok (.ifCond .ne 8, 3) := oc_154 (a := 0) (b := 8) (by decide +kernel)
theorem dX12_sortOf_224 : decode cX12_sortOf 224 = .ok (.iconst 0, 1) := oc_3 (by decide +kernel)
theorem dX12_sortOf_225 : decode cX12_sortOf 225 = .ok (.ireturn, 1) := oc_172 (by decide +kernel)
theorem dX12_sortOf_219 : decode cX12_sortOf 219 = .ok (.bipush 9, 2) := oc_16 (a := 9) (by decide +kernel)
theorem dX12_sortOf_221 : decode cX12_sortOf 221 = .ok (.goto 4, 3) := oc_167 (a := 0) (b := 4) (by decide +kernel)
theorem dX12_sortOf_193 : decode cX12_sortOf 193 = .ok (.bipush 8, 2) := oc_16 (a := 8) (by decide +kernel)
theorem dX12_sortOf_195 : decode cX12_sortOf 195 = .ok (.goto 30, 3) := oc_167 (a := 0) (b := 30) (by decide +kernel)
theorem dX12_sortOf_173 : decode cX12_sortOf 173 = .ok (.bipush 7, 2) := oc_16 (a := 7) (by decide +kernel)
theorem dX12_sortOf_175 : decode cX12_sortOf 175 = .ok (.ireturn, 1) := oc_172 (by decide +kernel)
theorem dX12_sortOf_140 : decode cX12_sortOf 140 = .ok (.bipush 6, 2) := oc_16 (a := 6) (by decide +kernel)
theorem dX12_sortOf_142 : decode cX12_sortOf 142 = .ok (.ireturn, 1) := oc_172 (by decide +kernel)
theorem dX12_sortOf_119 : decode cX12_sortOf 119 = .ok (.iconst 5, 1) := oc_8 (by decide +kernel)
theorem dX12_sortOf_120 : decode cX12_sortOf 120 = .ok (.ireturn, 1) := oc_172 (by decide +kernel)
theorem dX12_sortOf_96 : decode cX12_sortOf 96 = .ok (.iconst 4, 1) := oc_7 (by decide +kernel)
theorem dX12_sortOf_97 : decode cX12_sortOf 97 = .ok (.ireturn, 1) := oc_172 (by decide +kernel)
theorem dX12_sortOf_75 : decode cX12_sortOf 75 = .ok (.iconst 3, 1) := oc_6 (by decide +kernel)
theorem dX12_sortOf_76 : decode cX12_sortOf 76 = .ok (.ireturn, 1) := oc_172 (by decide +kernel)
theorem dX12_sortOf_56 : decode cX12_sortOf 56 = .ok (.iconst 2, 1) := oc_5 (by decide +kernel)
theorem dX12_sortOf_57 : decode cX12_sortOf 57 = .ok (.ireturn, 1) := oc_172 (by decide +kernel)
theorem dX12_sortOf_31 : decode cX12_sortOf 31 = .ok (.iconst 1, 1) := oc_4 (by decide +kernel)
theorem dX12_sortOf_32 : decode cX12_sortOf 32 = .ok (.ireturn, 1) := oc_172 (by decide +kernel)
theorem dX12_sortOf_8 : decode cX12_sortOf 8 = .ok (.iconst 0, 1) := oc_3 (by decide +kernel)
theorem dX12_sortOf_9 : decode cX12_sortOf 9 = .ok (.ireturn, 1) := oc_172 (by decide +kernel)
set_option maxRecDepth 100000 in
def g_X12_take (a0 : Int32) (a1 : Int32) (I : Nat → Int32) (J : Nat → Int64) (ri : Nat → Nat → Int32) (rj : Nat → Nat → Int64) (rq : Nat → Nat → Option Nat) : Int32 × vM := (ap1 (I 393) fun (y_2 : Int32) => (if (y_2) = (1 : Int32) then (ap1 (I 394) fun (y_9 : Int32) => (if (y_9) ≤ a0 then (ap1 (va_up ri 384 (upd (ri 384) (a1).toNatClampNeg (y_9))) fun (r_16 : Nat → Nat → Int32) => (bnV (g_X12_nextToken_x I J r_16 rj rq) fun (I_21 : Nat → Int32) (J_22 : Nat → Int64) (_ : Nat → Nat → Int32) (_ : Nat → Nat → Int64) (_ : Nat → Nat → Option Nat) => ((0 : Int32), I_21, J_22, r_16, rj, rq))) else ((2 : Int32), I, J, ri, rj, rq))) else ((1 : Int32), I, J, ri, rj, rq)))
set_option maxRecDepth 100000 in
theorem g_X12_take_e {a0 : Int32} {a1 : Int32} {I : Nat → Int32} {J : Nat → Int64} {ri : Nat → Nat → Int32} {rj : Nat → Nat → Int64} {rq : Nat → Nat → Option Nat} : g_X12_take a0 a1 I J ri rj rq = (ap1 (I 393) fun (y_2 : Int32) => (if (y_2) = (1 : Int32) then (ap1 (I 394) fun (y_9 : Int32) => (if (y_9) ≤ a0 then (ap1 (va_up ri 384 (upd (ri 384) (a1).toNatClampNeg (y_9))) fun (r_16 : Nat → Nat → Int32) => (bnV (g_X12_nextToken_x I J r_16 rj rq) fun (I_21 : Nat → Int32) (J_22 : Nat → Int64) (_ : Nat → Nat → Int32) (_ : Nat → Nat → Int64) (_ : Nat → Nat → Option Nat) => ((0 : Int32), I_21, J_22, r_16, rj, rq))) else ((2 : Int32), I, J, ri, rj, rq))) else ((1 : Int32), I, J, ri, rj, rq))) := rfl
set_option maxHeartbeats 4000000 in
set_option maxRecDepth 100000 in
theorem s_X12_take (l : Launch) (D : va_G) (t : pq_T) (σ : pq_S) (I : Nat → Nat → Int32) (J : Nat → Nat → Int64) (ri : Nat → Nat → Int32) (rj : Nat → Nat → Int64) (rq : Nat → Nat → Option Nat) (sz : Nat) (tg : Nat → Nat) (hSH : SH σ tg) (hG0 : GT tg I ri) (this : Nat) (a0 : Int32) (a1 : Int32) (hL_this : this ∈ σ.1) (hK_this : σ.2.1 this = 12) (this_a : Nat) (hR_this_a : σ.2.2.1 384 this = some this_a) (hL_this_a : this_a ∈ σ.1) (hK_this_a : σ.2.1 this_a = 13) (hN_this_a : σ.2.2.2 this_a = 12720) (hT_this_a : tg this_a = 384) (hc : a1.toInt = 3722 + 900 * (ri this_a 6).toInt + 12 * (I 397 this).toInt ∧ 0 ≤ (I 397 this).toInt ∧ (I 397 this).toInt ≤ 19 ∧ 0 ≤ (ri this_a 6).toInt ∧ (ri this_a 6).toInt ≤ 9) : MetI l yX12_take (wa yX12_take cX12_take 3 (some .int)) ({ frames := 3, cells := 0, slots := 0, locals := 64 }) [.ref this, .int a0, .int a1] D t σ (I, J, ri, rj, rq) sz 0 0 (fun (r : Int32) (u : pq_S × pq_M) => ∃ I' : Nat → Nat → Int32, ∃ J' : Nat → Nat → Int64, ∃ ri' : Nat → Nat → Int32, u = (σ, I', J', ri', rj, rq) ∧ GM [391, 392, 393] tg σ I ri I' ri' rq ∧ ((I 391 this).toInt ≤ (I' 391 this).toInt) ∧ (∀ j : Nat, (j : Int) ≠ a1.toInt → ri' this_a j = ri this_a j) ∧ (tmM (I' 391 this).toInt (I' 393 this).toInt ≤ tmM (I 391 this).toInt (I 393 this).toInt) ∧ g_X12_take a0 a1 (vI 12 σ this I) (vJ 12 σ this J) (vR 12 σ this ri) (vL 12 σ this rj) (vQ 12 σ this rq) = (r, (vI 12 σ this I'), (vJ 12 σ this J'), (vR 12 σ this ri'), (vL 12 σ this rj), (vQ 12 σ this rq)) ∧ FR 12 tg σ this (I, J, ri, rj, rq) (I', J', ri', rj, rq) ∧ rg r 0 2) := by
  refine Met.ofW (cc := cX12_take) (maxL := 3) (ret := (some .int)) (by decide +kernel) rfl ?_
  intro p e s m args below meth c s₁ B hml hv
  obtain ⟨rfl, hsz, hP, hK, hD0, hN⟩ := hv
  have hx := B.exec
  have hb := B.bytes
  have hr := B.returns
  have hts := atoms_spec (ws := (wa yX12_take cX12_take 3 (some .int))) B.pre
  have hown : s.vm.findClass RX12 = some m.cls := findClass_of_methodNamed B.named
  have hlocks := B.notSynchronized
  subst hsz
  have hD : va_D (pq_B t σ (I, J, ri, rj, rq) s.heap.size) (pq_P t σ (I, J, ri, rj, rq)) := hD0.self
  generalize hAe : pq_B t σ (I, J, ri, rj, rq) s.heap.size = A at hD ⊢
  have hA : ∀ q : Nat, s.heap.size ≤ q → A q := fun q h => by rw [← hAe]; exact Or.inr h
  have hS : va_S A s.heap s.heap [] := va_S.rf
  have hG : GM [391, 392, 393] tg σ I ri I ri rq := ⟨hG0, fun _ _ _ => rfl, fun _ _ _ _ _ => rfl, fun _ _ _ _ _ _ => rfl⟩
  have hl := lv_entry ([.ref this, .int a0, .int a1]) (n := 3) (Nat.le_of_ble_eq_true rfl)
  rw [lg_entry_eq]
  generalize (lg_sl ([.ref this, .int a0, .int a1]) ++ List.replicate (3 - (lg_sl ([.ref this, .int a0, .int a1])).length) Slot.unset).toArray = ls at hl ⊢
  have hl : lv_has ls 3 [(0, .ref this), (1, .int a0), (2, .int a1)] := hl
  refine q_gen (fun Q hQ => ?_)
  have go : ∀ (H : Heap) (locs : List Loc) (ls : Array Slot), va_P D vwCl (pq_P t σ (I, J, ri, rj, rq)) H → va_D A (pq_P t σ (I, J, ri, rj, rq)) → va_S A s.heap H locs → lv_has ls 3 [(0, .ref this), (1, .int a0), (2, .int a1)] → W p l e ({ frames := 3, cells := 0, slots := 0, locals := 64 } : Room) s m (List.toArray ([.ref this, .int a0, .int a1] : List Value)) below meth c H locs 0 0 Q (F0 m 0 ls []) := by
    intro H locs ls hP hD hS hl
    have hO_this : this = vo σ 12 this := rfl
    have hVT : VT 12 σ tg this := vt_12 hSH hL_this hK_this
    have hFr : FR 12 tg σ this (I, J, ri, rj, rq) (I, J, ri, rj, rq) := fr_rf
    have hO_this_a : this_a = vrow σ 384 this := vo_k (c := 12) hO_this hR_this_a
    obtain ⟨F, hF0⟩ : ∃ F, F = g_X12_take a0 a1 (vI 12 σ this I) (vJ 12 σ this J) (vR 12 σ this ri) (vL 12 σ this rj) (vQ 12 σ this rq) := ⟨_, rfl⟩
    have hF := hF0.trans g_X12_take_e
    have ce6 := clampE (ri this_a 6)
    have ceC := clampE (I 397 this)
    have ceA := clampE a1
    have h_1 : rg a1 3722 12050 := ⟨by omega, by omega⟩
    have uh_1 := h_1.1
    have vh_1 := h_1.2
    refine lv_aload_n hx hb dX12_take_0 rfl (lv_at hl 0 rfl) ?_
    refine pg_f (v := .int (I 393 this)) (C := RX12) (T := TX12) (N := 31) hx hb hts (tw_i inlX12) hown hK hP hL_this hK_this (by decide +kernel) rfl 9 (by decide +kernel) (hts _ (tw_c tw_831)) rfl dX12_take_1 ?_
    replace hF := hF.trans (ap_n (vI_e (f := 393) hO_this (by decide +kernel)))
    refine lv_iconst (v := 1) hx hb dX12_take_4 (by decide +kernel) ?_
    refine lv_icmp_eq (tgt := 10) hx hb dX12_take_5 (by decide +kernel) (fun c_3 => ?_) (fun c_3 => ?_)
    · replace hF := hF.trans (if_pos c_3)
      have tc_7 : (I 393 this).toInt = 1 := congrArg Int32.toInt c_3
      have h_8 : rg (I 393 this) 1 1 := rg_and (rg_full _) (rg_of_eq c_3 (rg_k (1 : Int32) 1 rfl)) (by decide +kernel)
      have uh_8 := h_8.1
      have vh_8 := h_8.2
      refine lv_aload_n hx hb dX12_take_10 rfl (lv_at hl 0 rfl) ?_
      refine pg_f (v := .int (I 394 this)) (C := RX12) (T := TX12) (N := 31) hx hb hts (tw_i inlX12) hown hK hP hL_this hK_this (by decide +kernel) rfl 10 (by decide +kernel) (hts _ (tw_c tw_836)) rfl dX12_take_11 ?_
      replace hF := hF.trans (ap_n (vI_e (f := 394) hO_this (by decide +kernel)))
      refine lv_iload_n hx hb dX12_take_14 rfl (lv_at hl 1 rfl) ?_
      refine lv_icmp_le (tgt := 20) hx hb dX12_take_15 (by decide +kernel) (fun c_10 => ?_) (fun c_10 => ?_)
      · replace hF := hF.trans (if_pos c_10)
        have tc_15 : (I 394 this).toInt ≤ (a0).toInt := Int32.le_iff_toInt_le.mp c_10
        refine lv_aload_n hx hb dX12_take_20 rfl (lv_at hl 0 rfl) ?_
        refine pg_f (v := .ref this_a) (C := RX12) (T := TX12) (N := 31) hx hb hts (tw_i inlX12) hown hK hP hL_this hK_this (by decide +kernel) rfl 0 (by decide +kernel) (hts _ (tw_c tw_176)) (pq_hv rfl hR_this_a) dX12_take_21 ?_
        refine lv_iload_n hx hb dX12_take_24 rfl (lv_at hl 2 rfl) ?_
        refine lv_aload_n hx hb dX12_take_25 rfl (lv_at hl 0 rfl) ?_
        refine pg_f (v := .int (I 394 this)) (C := RX12) (T := TX12) (N := 31) hx hb hts (tw_i inlX12) hown hK hP hL_this hK_this (by decide +kernel) rfl 10 (by decide +kernel) (hts _ (tw_c tw_836)) rfl dX12_take_26 ?_
        refine pt_i hx hb hK hP hD hS hL_this_a hK_this_a hN_this_a (rg_in h_1 (by decide +kernel)) dX12_take_29 (fun r_16 H locs er_16 hP hD hS => ?_)
        replace hFr := fr_R hFr hO_this_a (by decide +kernel) er_16
        replace hF := hF.trans (ap_n (vR_st hVT hO_this_a (by decide +kernel) er_16))
        have hG := GM.wt hG hT_this_a (by decide +kernel) er_16 (zn_tc (t := (ri this_a 6).toNatClampNeg) (c := (I 397 this).toNatClampNeg) (k := 1) (by have z_i := clampE a1; have z_0 := clampE (ri this_a 6); have z_1 := clampE (I 397 this); omega) (rg_cl1 ⟨hc.2.2.2.1, hc.2.2.2.2⟩ (by decide +kernel)) (rg_cl1 ⟨hc.2.1, hc.2.2.1⟩ (by decide +kernel)) (by decide +kernel)) rfl (rg_w (rg_full _) (by decide +kernel)) (by have z6 := congrArg Int32.toInt (hG.2.2.1 this_a hT_this_a 6 (by decide +kernel) (by decide +kernel)); have z_i := clampE a1; omega) (by decide +kernel)
        refine lv_aload_n hx hb dX12_take_30 rfl (lv_at hl 0 rfl) ?_
        have hkn_17 : (I 393 this).toInt ≠ 0 := by omega
        obtain ⟨w_18, hR_w_18, hL_w_18, hK_w_18, hN_w_18, hT_w_18⟩ := sh_a hSH 387 (ci := 12) (kd := 13) (len := 300) rfl (by decide +kernel) hL_this hK_this
        have hO_w_18 : w_18 = vrow σ 387 this := vo_k (c := 12) hO_this hR_w_18
        refine pk_v (va_runV (As := []) (rest := []) ⟨hx, hb, hml, hown, hts⟩ (s_X12_nextToken_x l D t σ I J r_16 rj rq H.size tg hSH hG.1 this hL_this hK_this w_18 hR_w_18 hL_w_18 hK_w_18 hN_w_18 hT_w_18) (cwV 0 hts (tw_V tw_832 tw_833 tw_834 tw_5 tw_835) rfl rfl rfl cv_yX12_nextToken_0 ⟨Nat.le_of_ble_eq_true rfl, Nat.le_of_ble_eq_true rfl⟩) ⟨pq_blind, pq_recv hK hP hL_this hK_this (by decide +kernel) rfl, pq_pre hK hN hP hD⟩ rfl rfl hl.1 rfl (lv_room (Nat.le_of_ble_eq_true rfl)) dX12_take_31 ⟨Nat.le_of_ble_eq_true rfl, Nat.le_of_ble_eq_true rfl⟩) hD hS hA (fun σ1 μ1 H locs hw_20 hP hD hS => ?_)
        obtain ⟨I_21, J_22, hu_23, hg_24, hp_26, hp_27, hp_28, hfn_29, hfr_30⟩ := hw_20
        obtain ⟨hu_23a, hu_23b⟩ := Prod.mk.inj hu_23
        rw [hu_23a, hu_23b] at hP hD
        replace hF := hF.trans (bv_n hfn_29)
        replace hFr := fr_tr hFr hfr_30
        have tt_31 : (I_21 391 this).toInt ≤ 300 := by have z := hg_24.1.1 391 this; exact z.2
        have hG := GM.tr hG hg_24 (by decide +kernel)
        have tt_32 : (I_21 397 this).toInt = (I 397 this).toInt := by rw [hg_24.2.1 397 (by decide +kernel) (by decide +kernel)]
        refine lv_iconst (v := 0) hx hb dX12_take_34 (by decide +kernel) ?_
        subst hQ
        exact W.iret (v := 0) hx hb hr (fun t1 ht hW => ⟨⟨0, (σ, I_21, J_22, r_16, rj, rq), rfl, ⟨I_21, J_22, r_16, rfl, hG, (by omega), (fun j hj => by rw [er_16, va_up_self, upd_off (by omega)]), (Int.le_of_lt (Int.lt_of_lt_of_le (tm_lt hkn_17 hp_26 hp_27) (Int.le_refl _))), (hF0.symm.trans hF), hFr, (rg_w (rg_k (0 : Int32) 0 rfl) (by decide +kernel))⟩, by rw [ht]; exact hP, va_K.moved hW.alike hK, hD⟩, hS.F ht⟩) hS.2.2 dX12_take_35
      · replace hF := hF.trans (if_neg c_10)
        have tc_33 : (a0).toInt < (I 394 this).toInt := Int32.lt_iff_toInt_lt.mp (nle c_10)
        have h_34 : rg a0 (-2147483648) 2147483646 := rg_lt1 (nle c_10) (rg_full _) (rg_full _) (by decide +kernel)
        have uh_34 := h_34.1
        have vh_34 := h_34.2
        have h_35 : rg (I 394 this) (-2147483647) 2147483647 := rg_lt2 (nle c_10) (rg_full _) (rg_full _) (by decide +kernel)
        have uh_35 := h_35.1
        have vh_35 := h_35.2
        refine lv_iconst (v := 2) hx hb dX12_take_18 (by decide +kernel) ?_
        subst hQ
        exact W.iret (v := 2) hx hb hr (fun t1 ht hW => ⟨⟨2, (σ, I, J, ri, rj, rq), rfl, ⟨I, J, ri, rfl, hG, (by omega), (fun _ _ => rfl), (Int.le_refl _), (hF0.symm.trans hF), hFr, (rg_w (rg_k (2 : Int32) 2 rfl) (by decide +kernel))⟩, by rw [ht]; exact hP, va_K.moved hW.alike hK, hD⟩, hS.F ht⟩) hS.2.2 dX12_take_19
    · replace hF := hF.trans (if_neg c_3)
      have tc_36 : (I 393 this).toInt ≠ 1 := fun q => c_3 (Int32.toInt_inj.mp q)
      refine lv_iconst (v := 1) hx hb dX12_take_8 (by decide +kernel) ?_
      subst hQ
      exact W.iret (v := 1) hx hb hr (fun t1 ht hW => ⟨⟨1, (σ, I, J, ri, rj, rq), rfl, ⟨I, J, ri, rfl, hG, (by omega), (fun _ _ => rfl), (Int.le_refl _), (hF0.symm.trans hF), hFr, (rg_w (rg_k (1 : Int32) 1 rfl) (by decide +kernel))⟩, by rw [ht]; exact hP, va_K.moved hW.alike hK, hD⟩, hS.F ht⟩) hS.2.2 dX12_take_9
  exact go _ _ _ hP hD hS hl

set_option maxRecDepth 100000 in
def g_X12_sortOf (I : Nat → Int32) (J : Nat → Int64) (ri : Nat → Nat → Int32) (rj : Nat → Nat → Int64) (rq : Nat → Nat → Option Nat) : Int32 × vM := (ap1 (I 393) fun (y_1 : Int32) => (if (y_1) = (2 : Int32) then (ap1 (J 395) fun (y_8 : Int64) => (ap1 (g_X12_w5_d (108 : Int32) (97 : Int32) (115 : Int32) (116 : Int32) (115 : Int32)) fun (x_9 : Int64) => (ap1 (lg_cmp (y_8) x_9) fun (x_17 : Int32) => (if x_17 = (0 : Int32) then ((1 : Int32), I, J, ri, rj, rq) else (ap1 (g_X12_w6_x (112 : Int32) (101 : Int32) (111 : Int32) (112 : Int32) (108 : Int32) (101 : Int32)) fun (x_23 : Int64) => (ap1 (lg_cmp (y_8) x_23) fun (x_30 : Int32) => (if x_30 = (0 : Int32) then ((2 : Int32), I, J, ri, rj, rq) else (ap1 (g_X12_w3_d (109 : Int32) (97 : Int32) (121 : Int32)) fun (x_36 : Int64) => (ap1 (lg_cmp (y_8) x_36) fun (x_44 : Int32) => (if x_44 = (0 : Int32) then ((3 : Int32), I, J, ri, rj, rq) else (ap1 (g_X12_w4_d (118 : Int32) (111 : Int32) (116 : Int32) (101 : Int32)) fun (x_50 : Int64) => (ap1 (lg_cmp (y_8) x_50) fun (x_58 : Int32) => (if x_58 = (0 : Int32) then ((4 : Int32), I, J, ri, rj, rq) else (ap1 (g_X12_w5_d (111 : Int32) (114 : Int32) (100 : Int32) (101 : Int32) (114 : Int32)) fun (x_64 : Int64) => (ap1 (lg_cmp (y_8) x_64) fun (x_72 : Int32) => (if x_72 = (0 : Int32) then ((5 : Int32), I, J, ri, rj, rq) else (ap1 (g_X12_w4_d (104 : Int32) (101 : Int32) (105 : Int32) (114 : Int32)) fun (x_78 : Int64) => (ap1 (lg_cmp (y_8) x_78) fun (x_86 : Int32) => (if x_86 = (0 : Int32) then ((6 : Int32), I, J, ri, rj, rq) else (ap1 (g_X12_w6_x (99 : Int32) (111 : Int32) (117 : Int32) (110 : Int32) (99 : Int32) (105 : Int32)) fun (x_92 : Int64) => (ap1 (x_92 <<< ((8 : Int32).toInt64 &&& 63)) fun (x_99 : Int64) => (ap1 (x_99 ||| (108 : Int64)) fun (x_100 : Int64) => (ap1 (lg_cmp (y_8) x_100) fun (x_101 : Int32) => (if x_101 = (0 : Int32) then ((7 : Int32), I, J, ri, rj, rq) else (ap1 (g_X12_w3_d (102 : Int32) (105 : Int32) (120 : Int32)) fun (x_107 : Int64) => (ap1 (lg_cmp (y_8) x_107) fun (x_115 : Int32) => (if x_115 = (0 : Int32) then ((8 : Int32), I, J, ri, rj, rq) else (ap1 (g_X12_w5_d (108 : Int32) (101 : Int32) (97 : Int32) (118 : Int32) (101 : Int32)) fun (x_121 : Int64) => (ap1 (lg_cmp (y_8) x_121) fun (x_129 : Int32) => (if x_129 = (0 : Int32) then ((9 : Int32), I, J, ri, rj, rq) else ((0 : Int32), I, J, ri, rj, rq))))))))))))))))))))))))))))))) else ((0 : Int32), I, J, ri, rj, rq)))
set_option maxRecDepth 100000 in
theorem g_X12_sortOf_e {I : Nat → Int32} {J : Nat → Int64} {ri : Nat → Nat → Int32} {rj : Nat → Nat → Int64} {rq : Nat → Nat → Option Nat} : g_X12_sortOf I J ri rj rq = (ap1 (I 393) fun (y_1 : Int32) => (if (y_1) = (2 : Int32) then (ap1 (J 395) fun (y_8 : Int64) => (ap1 (g_X12_w5_d (108 : Int32) (97 : Int32) (115 : Int32) (116 : Int32) (115 : Int32)) fun (x_9 : Int64) => (ap1 (lg_cmp (y_8) x_9) fun (x_17 : Int32) => (if x_17 = (0 : Int32) then ((1 : Int32), I, J, ri, rj, rq) else (ap1 (g_X12_w6_x (112 : Int32) (101 : Int32) (111 : Int32) (112 : Int32) (108 : Int32) (101 : Int32)) fun (x_23 : Int64) => (ap1 (lg_cmp (y_8) x_23) fun (x_30 : Int32) => (if x_30 = (0 : Int32) then ((2 : Int32), I, J, ri, rj, rq) else (ap1 (g_X12_w3_d (109 : Int32) (97 : Int32) (121 : Int32)) fun (x_36 : Int64) => (ap1 (lg_cmp (y_8) x_36) fun (x_44 : Int32) => (if x_44 = (0 : Int32) then ((3 : Int32), I, J, ri, rj, rq) else (ap1 (g_X12_w4_d (118 : Int32) (111 : Int32) (116 : Int32) (101 : Int32)) fun (x_50 : Int64) => (ap1 (lg_cmp (y_8) x_50) fun (x_58 : Int32) => (if x_58 = (0 : Int32) then ((4 : Int32), I, J, ri, rj, rq) else (ap1 (g_X12_w5_d (111 : Int32) (114 : Int32) (100 : Int32) (101 : Int32) (114 : Int32)) fun (x_64 : Int64) => (ap1 (lg_cmp (y_8) x_64) fun (x_72 : Int32) => (if x_72 = (0 : Int32) then ((5 : Int32), I, J, ri, rj, rq) else (ap1 (g_X12_w4_d (104 : Int32) (101 : Int32) (105 : Int32) (114 : Int32)) fun (x_78 : Int64) => (ap1 (lg_cmp (y_8) x_78) fun (x_86 : Int32) => (if x_86 = (0 : Int32) then ((6 : Int32), I, J, ri, rj, rq) else (ap1 (g_X12_w6_x (99 : Int32) (111 : Int32) (117 : Int32) (110 : Int32) (99 : Int32) (105 : Int32)) fun (x_92 : Int64) => (ap1 (x_92 <<< ((8 : Int32).toInt64 &&& 63)) fun (x_99 : Int64) => (ap1 (x_99 ||| (108 : Int64)) fun (x_100 : Int64) => (ap1 (lg_cmp (y_8) x_100) fun (x_101 : Int32) => (if x_101 = (0 : Int32) then ((7 : Int32), I, J, ri, rj, rq) else (ap1 (g_X12_w3_d (102 : Int32) (105 : Int32) (120 : Int32)) fun (x_107 : Int64) => (ap1 (lg_cmp (y_8) x_107) fun (x_115 : Int32) => (if x_115 = (0 : Int32) then ((8 : Int32), I, J, ri, rj, rq) else (ap1 (g_X12_w5_d (108 : Int32) (101 : Int32) (97 : Int32) (118 : Int32) (101 : Int32)) fun (x_121 : Int64) => (ap1 (lg_cmp (y_8) x_121) fun (x_129 : Int32) => (if x_129 = (0 : Int32) then ((9 : Int32), I, J, ri, rj, rq) else ((0 : Int32), I, J, ri, rj, rq))))))))))))))))))))))))))))))) else ((0 : Int32), I, J, ri, rj, rq))) := rfl
set_option maxHeartbeats 4000000 in
set_option maxRecDepth 100000 in
theorem s_X12_sortOf (l : Launch) (D : va_G) (t : pq_T) (σ : pq_S) (I : Nat → Nat → Int32) (J : Nat → Nat → Int64) (ri : Nat → Nat → Int32) (rj : Nat → Nat → Int64) (rq : Nat → Nat → Option Nat) (sz : Nat) (tg : Nat → Nat) (hSH : SH σ tg) (hG0 : GT tg I ri) (this : Nat) (hL_this : this ∈ σ.1) (hK_this : σ.2.1 this = 12) : MetI l yX12_sortOf (wa yX12_sortOf cX12_sortOf 1 (some .int)) ({ frames := 4, cells := 0, slots := 0, locals := 94 }) [.ref this] D t σ (I, J, ri, rj, rq) sz 0 0 (fun (r : Int32) (u : pq_S × pq_M) => u = (σ, I, J, ri, rj, rq) ∧ (r.toInt = 0 ∨ (1 ≤ r.toInt ∧ r.toInt ≤ 9 ∧ (I 393 this).toInt = 2)) ∧ g_X12_sortOf (vI 12 σ this I) (vJ 12 σ this J) (vR 12 σ this ri) (vL 12 σ this rj) (vQ 12 σ this rq) = (r, (vI 12 σ this I), (vJ 12 σ this J), (vR 12 σ this ri), (vL 12 σ this rj), (vQ 12 σ this rq)) ∧ rg r 0 9) := by
  refine Met.ofW (cc := cX12_sortOf) (maxL := 1) (ret := (some .int)) (by decide +kernel) rfl ?_
  intro p e s m args below meth c s₁ B hml hv
  obtain ⟨rfl, hsz, hP, hK, hD0, hN⟩ := hv
  have hx := B.exec
  have hb := B.bytes
  have hr := B.returns
  have hts := atoms_spec (ws := (wa yX12_sortOf cX12_sortOf 1 (some .int))) B.pre
  have hown : s.vm.findClass RX12 = some m.cls := findClass_of_methodNamed B.named
  have hlocks := B.notSynchronized
  subst hsz
  have hD : va_D (pq_B t σ (I, J, ri, rj, rq) s.heap.size) (pq_P t σ (I, J, ri, rj, rq)) := hD0.self
  generalize hAe : pq_B t σ (I, J, ri, rj, rq) s.heap.size = A at hD ⊢
  have hA : ∀ q : Nat, s.heap.size ≤ q → A q := fun q h => by rw [← hAe]; exact Or.inr h
  have hS : va_S A s.heap s.heap [] := va_S.rf
  have hG : GM [] tg σ I ri I ri rq := ⟨hG0, fun _ _ _ => rfl, fun _ _ _ _ _ => rfl, fun _ _ _ _ _ _ => rfl⟩
  have hl := lv_entry ([.ref this]) (n := 1) (Nat.le_of_ble_eq_true rfl)
  rw [lg_entry_eq]
  generalize (lg_sl ([.ref this]) ++ List.replicate (1 - (lg_sl ([.ref this])).length) Slot.unset).toArray = ls at hl ⊢
  have hl : lv_has ls 1 [(0, .ref this)] := hl
  refine q_gen (fun Q hQ => ?_)
  have go : ∀ (H : Heap) (locs : List Loc) (ls : Array Slot), va_P D vwCl (pq_P t σ (I, J, ri, rj, rq)) H → va_D A (pq_P t σ (I, J, ri, rj, rq)) → va_S A s.heap H locs → lv_has ls 1 [(0, .ref this)] → W p l e ({ frames := 4, cells := 0, slots := 0, locals := 94 } : Room) s m (List.toArray ([.ref this] : List Value)) below meth c H locs 0 0 Q (F0 m 0 ls []) := by
    intro H locs ls hP hD hS hl
    have hO_this : this = vo σ 12 this := rfl
    have hVT : VT 12 σ tg this := vt_12 hSH hL_this hK_this
    have hFr : FR 12 tg σ this (I, J, ri, rj, rq) (I, J, ri, rj, rq) := fr_rf
    obtain ⟨F, hF0⟩ : ∃ F, F = g_X12_sortOf (vI 12 σ this I) (vJ 12 σ this J) (vR 12 σ this ri) (vL 12 σ this rj) (vQ 12 σ this rq) := ⟨_, rfl⟩
    have hF := hF0.trans g_X12_sortOf_e
    refine lv_aload_n hx hb dX12_sortOf_0 rfl (lv_at hl 0 rfl) ?_
    refine pg_f (v := .int (I 393 this)) (C := RX12) (T := TX12) (N := 31) hx hb hts (tw_i inlX12) hown hK hP hL_this hK_this (by decide +kernel) rfl 9 (by decide +kernel) (hts _ (tw_c tw_831)) rfl dX12_sortOf_1 ?_
    replace hF := hF.trans (ap_n (vI_e (f := 393) hO_this (by decide +kernel)))
    refine lv_iconst (v := 2) hx hb dX12_sortOf_4 (by decide +kernel) ?_
    refine lv_icmp_eq (tgt := 10) hx hb dX12_sortOf_5 (by decide +kernel) (fun c_2 => ?_) (fun c_2 => ?_)
    · replace hF := hF.trans (if_pos c_2)
      have tc_6 : (I 393 this).toInt = 2 := congrArg Int32.toInt c_2
      have h_7 : rg (I 393 this) 2 2 := rg_and (rg_full _) (rg_of_eq c_2 (rg_k (2 : Int32) 2 rfl)) (by decide +kernel)
      have uh_7 := h_7.1
      have vh_7 := h_7.2
      refine lv_aload_n hx hb dX12_sortOf_10 rfl (lv_at hl 0 rfl) ?_
      refine pg_f (v := .long (J 395 this)) (C := RX12) (T := TX12) (N := 31) hx hb hts (tw_i inlX12) hown hK hP hL_this hK_this (by decide +kernel) rfl 11 (by decide +kernel) (hts _ (tw_c tw_838)) rfl dX12_sortOf_11 ?_
      replace hF := hF.trans (ap_n (vJ_e (f := 395) hO_this (by decide +kernel)))
      refine lv_bipush (v := 108) hx hb dX12_sortOf_14 (by decide +kernel) ?_
      refine lv_bipush (v := 97) hx hb dX12_sortOf_16 (by decide +kernel) ?_
      refine lv_bipush (v := 115) hx hb dX12_sortOf_18 (by decide +kernel) ?_
      refine lv_bipush (v := 116) hx hb dX12_sortOf_20 (by decide +kernel) ?_
      refine lv_bipush (v := 115) hx hb dX12_sortOf_22 (by decide +kernel) ?_
      refine pk_l (va_runS (As := [.int 108, .int 97, .int 115, .int 116, .int 115]) (rest := [.long (J 395 this)]) ⟨hx, hb, hml, hown, hts⟩ (s_X12_w5_d l D t σ I J ri rj rq H.size tg hSH hG.1 (108 : Int32) (97 : Int32) (115 : Int32) (116 : Int32) (115 : Int32)) (va_cwS 5 hts (tw_S tw_858 tw_859 tw_5 tw_860) rfl rfl rfl cd_yX12_w5_5 ⟨Nat.le_of_ble_eq_true rfl, Nat.le_of_ble_eq_true rfl⟩) ⟨pq_blind, pq_pre hK hN hP hD⟩ rfl rfl hl.1 rfl (lv_room (Nat.le_of_ble_eq_true rfl)) dX12_sortOf_24 ⟨Nat.le_of_ble_eq_true rfl, Nat.le_of_ble_eq_true rfl⟩) hD hS hA (fun x_9 σ1 μ1 H locs hw_10 hP hD hS => ?_)
      obtain ⟨hu_11, hp_14, hfn_15⟩ := hw_10
      obtain ⟨hu_11a, hu_11b⟩ := Prod.mk.inj hu_11
      rw [hu_11a, hu_11b] at hP hD
      replace hF := hF.trans (ap_n hfn_15.symm)
      refine W.lcmp hx hb dX12_sortOf_27 ?_
      refine lv_topi (fun x_17 ex_17 => ?_)
      replace hF := hF.trans (ap_n ex_17)
      refine lv_if_ne (tgt := 33) hx hb dX12_sortOf_28 (by decide +kernel) (fun c_18 => ?_) (fun c_18 => ?_)
      · replace hF := hF.trans (if_neg c_18)
        have tc_22 : (x_17).toInt ≠ 0 := fun q => c_18 (Int32.toInt_inj.mp q)
        refine lv_aload_n hx hb dX12_sortOf_33 rfl (lv_at hl 0 rfl) ?_
        refine pg_f (v := .long (J 395 this)) (C := RX12) (T := TX12) (N := 31) hx hb hts (tw_i inlX12) hown hK hP hL_this hK_this (by decide +kernel) rfl 11 (by decide +kernel) (hts _ (tw_c tw_838)) rfl dX12_sortOf_34 ?_
        refine lv_bipush (v := 112) hx hb dX12_sortOf_37 (by decide +kernel) ?_
        refine lv_bipush (v := 101) hx hb dX12_sortOf_39 (by decide +kernel) ?_
        refine lv_bipush (v := 111) hx hb dX12_sortOf_41 (by decide +kernel) ?_
        refine lv_bipush (v := 112) hx hb dX12_sortOf_43 (by decide +kernel) ?_
        refine lv_bipush (v := 108) hx hb dX12_sortOf_45 (by decide +kernel) ?_
        refine lv_bipush (v := 101) hx hb dX12_sortOf_47 (by decide +kernel) ?_
        refine pk_l (va_runS (As := [.int 112, .int 101, .int 111, .int 112, .int 108, .int 101]) (rest := [.long (J 395 this)]) ⟨hx, hb, hml, hown, hts⟩ (s_X12_w6_x l D t σ I J ri rj rq H.size tg hSH hG.1 (112 : Int32) (101 : Int32) (111 : Int32) (112 : Int32) (108 : Int32) (101 : Int32)) (va_cwS 6 hts (tw_S tw_867 tw_868 tw_5 tw_869) rfl rfl rfl cd_yX12_w6_6 ⟨Nat.le_of_ble_eq_true rfl, Nat.le_of_ble_eq_true rfl⟩) ⟨pq_blind, pq_pre hK hN hP hD⟩ rfl rfl hl.1 rfl (lv_room (Nat.le_of_ble_eq_true rfl)) dX12_sortOf_49 ⟨Nat.le_of_ble_eq_true rfl, Nat.le_of_ble_eq_true rfl⟩) hD hS hA (fun x_23 σ1 μ1 H locs hw_24 hP hD hS => ?_)
        obtain ⟨hu_25, hfn_28⟩ := hw_24
        obtain ⟨hu_25a, hu_25b⟩ := Prod.mk.inj hu_25
        rw [hu_25a, hu_25b] at hP hD
        replace hF := hF.trans (ap_n hfn_28.symm)
        refine W.lcmp hx hb dX12_sortOf_52 ?_
        refine lv_topi (fun x_30 ex_30 => ?_)
        replace hF := hF.trans (ap_n ex_30)
        refine lv_if_ne (tgt := 58) hx hb dX12_sortOf_53 (by decide +kernel) (fun c_31 => ?_) (fun c_31 => ?_)
        · replace hF := hF.trans (if_neg c_31)
          have tc_35 : (x_30).toInt ≠ 0 := fun q => c_31 (Int32.toInt_inj.mp q)
          refine lv_aload_n hx hb dX12_sortOf_58 rfl (lv_at hl 0 rfl) ?_
          refine pg_f (v := .long (J 395 this)) (C := RX12) (T := TX12) (N := 31) hx hb hts (tw_i inlX12) hown hK hP hL_this hK_this (by decide +kernel) rfl 11 (by decide +kernel) (hts _ (tw_c tw_838)) rfl dX12_sortOf_59 ?_
          refine lv_bipush (v := 109) hx hb dX12_sortOf_62 (by decide +kernel) ?_
          refine lv_bipush (v := 97) hx hb dX12_sortOf_64 (by decide +kernel) ?_
          refine lv_bipush (v := 121) hx hb dX12_sortOf_66 (by decide +kernel) ?_
          refine pk_l (va_runS (As := [.int 109, .int 97, .int 121]) (rest := [.long (J 395 this)]) ⟨hx, hb, hml, hown, hts⟩ (s_X12_w3_d l D t σ I J ri rj rq H.size tg hSH hG.1 (109 : Int32) (97 : Int32) (121 : Int32)) (va_cwS 3 hts (tw_S tw_864 tw_865 tw_5 tw_866) rfl rfl rfl cd_yX12_w3_3 ⟨Nat.le_of_ble_eq_true rfl, Nat.le_of_ble_eq_true rfl⟩) ⟨pq_blind, pq_pre hK hN hP hD⟩ rfl rfl hl.1 rfl (lv_room (Nat.le_of_ble_eq_true rfl)) dX12_sortOf_68 ⟨Nat.le_of_ble_eq_true rfl, Nat.le_of_ble_eq_true rfl⟩) hD hS hA (fun x_36 σ1 μ1 H locs hw_37 hP hD hS => ?_)
          obtain ⟨hu_38, hp_41, hfn_42⟩ := hw_37
          obtain ⟨hu_38a, hu_38b⟩ := Prod.mk.inj hu_38
          rw [hu_38a, hu_38b] at hP hD
          replace hF := hF.trans (ap_n hfn_42.symm)
          refine W.lcmp hx hb dX12_sortOf_71 ?_
          refine lv_topi (fun x_44 ex_44 => ?_)
          replace hF := hF.trans (ap_n ex_44)
          refine lv_if_ne (tgt := 77) hx hb dX12_sortOf_72 (by decide +kernel) (fun c_45 => ?_) (fun c_45 => ?_)
          · replace hF := hF.trans (if_neg c_45)
            have tc_49 : (x_44).toInt ≠ 0 := fun q => c_45 (Int32.toInt_inj.mp q)
            refine lv_aload_n hx hb dX12_sortOf_77 rfl (lv_at hl 0 rfl) ?_
            refine pg_f (v := .long (J 395 this)) (C := RX12) (T := TX12) (N := 31) hx hb hts (tw_i inlX12) hown hK hP hL_this hK_this (by decide +kernel) rfl 11 (by decide +kernel) (hts _ (tw_c tw_838)) rfl dX12_sortOf_78 ?_
            refine lv_bipush (v := 118) hx hb dX12_sortOf_81 (by decide +kernel) ?_
            refine lv_bipush (v := 111) hx hb dX12_sortOf_83 (by decide +kernel) ?_
            refine lv_bipush (v := 116) hx hb dX12_sortOf_85 (by decide +kernel) ?_
            refine lv_bipush (v := 101) hx hb dX12_sortOf_87 (by decide +kernel) ?_
            refine pk_l (va_runS (As := [.int 118, .int 111, .int 116, .int 101]) (rest := [.long (J 395 this)]) ⟨hx, hb, hml, hown, hts⟩ (s_X12_w4_d l D t σ I J ri rj rq H.size tg hSH hG.1 (118 : Int32) (111 : Int32) (116 : Int32) (101 : Int32)) (va_cwS 4 hts (tw_S tw_861 tw_862 tw_5 tw_863) rfl rfl rfl cd_yX12_w4_4 ⟨Nat.le_of_ble_eq_true rfl, Nat.le_of_ble_eq_true rfl⟩) ⟨pq_blind, pq_pre hK hN hP hD⟩ rfl rfl hl.1 rfl (lv_room (Nat.le_of_ble_eq_true rfl)) dX12_sortOf_89 ⟨Nat.le_of_ble_eq_true rfl, Nat.le_of_ble_eq_true rfl⟩) hD hS hA (fun x_50 σ1 μ1 H locs hw_51 hP hD hS => ?_)
            obtain ⟨hu_52, hp_55, hfn_56⟩ := hw_51
            obtain ⟨hu_52a, hu_52b⟩ := Prod.mk.inj hu_52
            rw [hu_52a, hu_52b] at hP hD
            replace hF := hF.trans (ap_n hfn_56.symm)
            refine W.lcmp hx hb dX12_sortOf_92 ?_
            refine lv_topi (fun x_58 ex_58 => ?_)
            replace hF := hF.trans (ap_n ex_58)
            refine lv_if_ne (tgt := 98) hx hb dX12_sortOf_93 (by decide +kernel) (fun c_59 => ?_) (fun c_59 => ?_)
            · replace hF := hF.trans (if_neg c_59)
              have tc_63 : (x_58).toInt ≠ 0 := fun q => c_59 (Int32.toInt_inj.mp q)
              refine lv_aload_n hx hb dX12_sortOf_98 rfl (lv_at hl 0 rfl) ?_
              refine pg_f (v := .long (J 395 this)) (C := RX12) (T := TX12) (N := 31) hx hb hts (tw_i inlX12) hown hK hP hL_this hK_this (by decide +kernel) rfl 11 (by decide +kernel) (hts _ (tw_c tw_838)) rfl dX12_sortOf_99 ?_
              refine lv_bipush (v := 111) hx hb dX12_sortOf_102 (by decide +kernel) ?_
              refine lv_bipush (v := 114) hx hb dX12_sortOf_104 (by decide +kernel) ?_
              refine lv_bipush (v := 100) hx hb dX12_sortOf_106 (by decide +kernel) ?_
              refine lv_bipush (v := 101) hx hb dX12_sortOf_108 (by decide +kernel) ?_
              refine lv_bipush (v := 114) hx hb dX12_sortOf_110 (by decide +kernel) ?_
              refine pk_l (va_runS (As := [.int 111, .int 114, .int 100, .int 101, .int 114]) (rest := [.long (J 395 this)]) ⟨hx, hb, hml, hown, hts⟩ (s_X12_w5_d l D t σ I J ri rj rq H.size tg hSH hG.1 (111 : Int32) (114 : Int32) (100 : Int32) (101 : Int32) (114 : Int32)) (va_cwS 5 hts (tw_S tw_858 tw_859 tw_5 tw_860) rfl rfl rfl cd_yX12_w5_5 ⟨Nat.le_of_ble_eq_true rfl, Nat.le_of_ble_eq_true rfl⟩) ⟨pq_blind, pq_pre hK hN hP hD⟩ rfl rfl hl.1 rfl (lv_room (Nat.le_of_ble_eq_true rfl)) dX12_sortOf_112 ⟨Nat.le_of_ble_eq_true rfl, Nat.le_of_ble_eq_true rfl⟩) hD hS hA (fun x_64 σ1 μ1 H locs hw_65 hP hD hS => ?_)
              obtain ⟨hu_66, hp_69, hfn_70⟩ := hw_65
              obtain ⟨hu_66a, hu_66b⟩ := Prod.mk.inj hu_66
              rw [hu_66a, hu_66b] at hP hD
              replace hF := hF.trans (ap_n hfn_70.symm)
              refine W.lcmp hx hb dX12_sortOf_115 ?_
              refine lv_topi (fun x_72 ex_72 => ?_)
              replace hF := hF.trans (ap_n ex_72)
              refine lv_if_ne (tgt := 121) hx hb dX12_sortOf_116 (by decide +kernel) (fun c_73 => ?_) (fun c_73 => ?_)
              · replace hF := hF.trans (if_neg c_73)
                have tc_77 : (x_72).toInt ≠ 0 := fun q => c_73 (Int32.toInt_inj.mp q)
                refine lv_aload_n hx hb dX12_sortOf_121 rfl (lv_at hl 0 rfl) ?_
                refine pg_f (v := .long (J 395 this)) (C := RX12) (T := TX12) (N := 31) hx hb hts (tw_i inlX12) hown hK hP hL_this hK_this (by decide +kernel) rfl 11 (by decide +kernel) (hts _ (tw_c tw_838)) rfl dX12_sortOf_122 ?_
                refine lv_bipush (v := 104) hx hb dX12_sortOf_125 (by decide +kernel) ?_
                refine lv_bipush (v := 101) hx hb dX12_sortOf_127 (by decide +kernel) ?_
                refine lv_bipush (v := 105) hx hb dX12_sortOf_129 (by decide +kernel) ?_
                refine lv_bipush (v := 114) hx hb dX12_sortOf_131 (by decide +kernel) ?_
                refine pk_l (va_runS (As := [.int 104, .int 101, .int 105, .int 114]) (rest := [.long (J 395 this)]) ⟨hx, hb, hml, hown, hts⟩ (s_X12_w4_d l D t σ I J ri rj rq H.size tg hSH hG.1 (104 : Int32) (101 : Int32) (105 : Int32) (114 : Int32)) (va_cwS 4 hts (tw_S tw_861 tw_862 tw_5 tw_863) rfl rfl rfl cd_yX12_w4_4 ⟨Nat.le_of_ble_eq_true rfl, Nat.le_of_ble_eq_true rfl⟩) ⟨pq_blind, pq_pre hK hN hP hD⟩ rfl rfl hl.1 rfl (lv_room (Nat.le_of_ble_eq_true rfl)) dX12_sortOf_133 ⟨Nat.le_of_ble_eq_true rfl, Nat.le_of_ble_eq_true rfl⟩) hD hS hA (fun x_78 σ1 μ1 H locs hw_79 hP hD hS => ?_)
                obtain ⟨hu_80, hp_83, hfn_84⟩ := hw_79
                obtain ⟨hu_80a, hu_80b⟩ := Prod.mk.inj hu_80
                rw [hu_80a, hu_80b] at hP hD
                replace hF := hF.trans (ap_n hfn_84.symm)
                refine W.lcmp hx hb dX12_sortOf_136 ?_
                refine lv_topi (fun x_86 ex_86 => ?_)
                replace hF := hF.trans (ap_n ex_86)
                refine lv_if_ne (tgt := 143) hx hb dX12_sortOf_137 (by decide +kernel) (fun c_87 => ?_) (fun c_87 => ?_)
                · replace hF := hF.trans (if_neg c_87)
                  have tc_91 : (x_86).toInt ≠ 0 := fun q => c_87 (Int32.toInt_inj.mp q)
                  refine lv_aload_n hx hb dX12_sortOf_143 rfl (lv_at hl 0 rfl) ?_
                  refine pg_f (v := .long (J 395 this)) (C := RX12) (T := TX12) (N := 31) hx hb hts (tw_i inlX12) hown hK hP hL_this hK_this (by decide +kernel) rfl 11 (by decide +kernel) (hts _ (tw_c tw_838)) rfl dX12_sortOf_144 ?_
                  refine lv_bipush (v := 99) hx hb dX12_sortOf_147 (by decide +kernel) ?_
                  refine lv_bipush (v := 111) hx hb dX12_sortOf_149 (by decide +kernel) ?_
                  refine lv_bipush (v := 117) hx hb dX12_sortOf_151 (by decide +kernel) ?_
                  refine lv_bipush (v := 110) hx hb dX12_sortOf_153 (by decide +kernel) ?_
                  refine lv_bipush (v := 99) hx hb dX12_sortOf_155 (by decide +kernel) ?_
                  refine lv_bipush (v := 105) hx hb dX12_sortOf_157 (by decide +kernel) ?_
                  refine pk_l (va_runS (As := [.int 99, .int 111, .int 117, .int 110, .int 99, .int 105]) (rest := [.long (J 395 this)]) ⟨hx, hb, hml, hown, hts⟩ (s_X12_w6_x l D t σ I J ri rj rq H.size tg hSH hG.1 (99 : Int32) (111 : Int32) (117 : Int32) (110 : Int32) (99 : Int32) (105 : Int32)) (va_cwS 6 hts (tw_S tw_867 tw_868 tw_5 tw_869) rfl rfl rfl cd_yX12_w6_6 ⟨Nat.le_of_ble_eq_true rfl, Nat.le_of_ble_eq_true rfl⟩) ⟨pq_blind, pq_pre hK hN hP hD⟩ rfl rfl hl.1 rfl (lv_room (Nat.le_of_ble_eq_true rfl)) dX12_sortOf_159 ⟨Nat.le_of_ble_eq_true rfl, Nat.le_of_ble_eq_true rfl⟩) hD hS hA (fun x_92 σ1 μ1 H locs hw_93 hP hD hS => ?_)
                  obtain ⟨hu_94, hfn_97⟩ := hw_93
                  obtain ⟨hu_94a, hu_94b⟩ := Prod.mk.inj hu_94
                  rw [hu_94a, hu_94b] at hP hD
                  replace hF := hF.trans (ap_n hfn_97.symm)
                  refine lv_bipush (v := 8) hx hb dX12_sortOf_162 (by decide +kernel) ?_
                  refine lv_lshl hx hb dX12_sortOf_164 rfl ?_
                  refine lv_topl (fun x_99 ex_99 => ?_)
                  replace hF := hF.trans (ap_n ex_99)
                  refine lv_ldc2 hx hb hown (hts _ (tw_c tw_857)) dX12_sortOf_165 ?_
                  refine lv_lor hx hb dX12_sortOf_168 ?_
                  refine lv_topl (fun x_100 ex_100 => ?_)
                  replace hF := hF.trans (ap_n ex_100)
                  refine W.lcmp hx hb dX12_sortOf_169 ?_
                  refine lv_topi (fun x_101 ex_101 => ?_)
                  replace hF := hF.trans (ap_n ex_101)
                  refine lv_if_ne (tgt := 176) hx hb dX12_sortOf_170 (by decide +kernel) (fun c_102 => ?_) (fun c_102 => ?_)
                  · replace hF := hF.trans (if_neg c_102)
                    have tc_106 : (x_101).toInt ≠ 0 := fun q => c_102 (Int32.toInt_inj.mp q)
                    refine lv_aload_n hx hb dX12_sortOf_176 rfl (lv_at hl 0 rfl) ?_
                    refine pg_f (v := .long (J 395 this)) (C := RX12) (T := TX12) (N := 31) hx hb hts (tw_i inlX12) hown hK hP hL_this hK_this (by decide +kernel) rfl 11 (by decide +kernel) (hts _ (tw_c tw_838)) rfl dX12_sortOf_177 ?_
                    refine lv_bipush (v := 102) hx hb dX12_sortOf_180 (by decide +kernel) ?_
                    refine lv_bipush (v := 105) hx hb dX12_sortOf_182 (by decide +kernel) ?_
                    refine lv_bipush (v := 120) hx hb dX12_sortOf_184 (by decide +kernel) ?_
                    refine pk_l (va_runS (As := [.int 102, .int 105, .int 120]) (rest := [.long (J 395 this)]) ⟨hx, hb, hml, hown, hts⟩ (s_X12_w3_d l D t σ I J ri rj rq H.size tg hSH hG.1 (102 : Int32) (105 : Int32) (120 : Int32)) (va_cwS 3 hts (tw_S tw_864 tw_865 tw_5 tw_866) rfl rfl rfl cd_yX12_w3_3 ⟨Nat.le_of_ble_eq_true rfl, Nat.le_of_ble_eq_true rfl⟩) ⟨pq_blind, pq_pre hK hN hP hD⟩ rfl rfl hl.1 rfl (lv_room (Nat.le_of_ble_eq_true rfl)) dX12_sortOf_186 ⟨Nat.le_of_ble_eq_true rfl, Nat.le_of_ble_eq_true rfl⟩) hD hS hA (fun x_107 σ1 μ1 H locs hw_108 hP hD hS => ?_)
                    obtain ⟨hu_109, hp_112, hfn_113⟩ := hw_108
                    obtain ⟨hu_109a, hu_109b⟩ := Prod.mk.inj hu_109
                    rw [hu_109a, hu_109b] at hP hD
                    replace hF := hF.trans (ap_n hfn_113.symm)
                    refine W.lcmp hx hb dX12_sortOf_189 ?_
                    refine lv_topi (fun x_115 ex_115 => ?_)
                    replace hF := hF.trans (ap_n ex_115)
                    refine lv_if_ne (tgt := 198) hx hb dX12_sortOf_190 (by decide +kernel) (fun c_116 => ?_) (fun c_116 => ?_)
                    · replace hF := hF.trans (if_neg c_116)
                      have tc_120 : (x_115).toInt ≠ 0 := fun q => c_116 (Int32.toInt_inj.mp q)
                      refine lv_aload_n hx hb dX12_sortOf_198 rfl (lv_at hl 0 rfl) ?_
                      refine pg_f (v := .long (J 395 this)) (C := RX12) (T := TX12) (N := 31) hx hb hts (tw_i inlX12) hown hK hP hL_this hK_this (by decide +kernel) rfl 11 (by decide +kernel) (hts _ (tw_c tw_838)) rfl dX12_sortOf_199 ?_
                      refine lv_bipush (v := 108) hx hb dX12_sortOf_202 (by decide +kernel) ?_
                      refine lv_bipush (v := 101) hx hb dX12_sortOf_204 (by decide +kernel) ?_
                      refine lv_bipush (v := 97) hx hb dX12_sortOf_206 (by decide +kernel) ?_
                      refine lv_bipush (v := 118) hx hb dX12_sortOf_208 (by decide +kernel) ?_
                      refine lv_bipush (v := 101) hx hb dX12_sortOf_210 (by decide +kernel) ?_
                      refine pk_l (va_runS (As := [.int 108, .int 101, .int 97, .int 118, .int 101]) (rest := [.long (J 395 this)]) ⟨hx, hb, hml, hown, hts⟩ (s_X12_w5_d l D t σ I J ri rj rq H.size tg hSH hG.1 (108 : Int32) (101 : Int32) (97 : Int32) (118 : Int32) (101 : Int32)) (va_cwS 5 hts (tw_S tw_858 tw_859 tw_5 tw_860) rfl rfl rfl cd_yX12_w5_5 ⟨Nat.le_of_ble_eq_true rfl, Nat.le_of_ble_eq_true rfl⟩) ⟨pq_blind, pq_pre hK hN hP hD⟩ rfl rfl hl.1 rfl (lv_room (Nat.le_of_ble_eq_true rfl)) dX12_sortOf_212 ⟨Nat.le_of_ble_eq_true rfl, Nat.le_of_ble_eq_true rfl⟩) hD hS hA (fun x_121 σ1 μ1 H locs hw_122 hP hD hS => ?_)
                      obtain ⟨hu_123, hp_126, hfn_127⟩ := hw_122
                      obtain ⟨hu_123a, hu_123b⟩ := Prod.mk.inj hu_123
                      rw [hu_123a, hu_123b] at hP hD
                      replace hF := hF.trans (ap_n hfn_127.symm)
                      refine W.lcmp hx hb dX12_sortOf_215 ?_
                      refine lv_topi (fun x_129 ex_129 => ?_)
                      replace hF := hF.trans (ap_n ex_129)
                      refine lv_if_ne (tgt := 224) hx hb dX12_sortOf_216 (by decide +kernel) (fun c_130 => ?_) (fun c_130 => ?_)
                      · replace hF := hF.trans (if_neg c_130)
                        have tc_134 : (x_129).toInt ≠ 0 := fun q => c_130 (Int32.toInt_inj.mp q)
                        refine lv_iconst (v := 0) hx hb dX12_sortOf_224 (by decide +kernel) ?_
                        subst hQ
                        exact W.iret (v := 0) hx hb hr (fun t1 ht hW => ⟨⟨0, (σ, I, J, ri, rj, rq), rfl, ⟨rfl, (by have z9 : (0 : Int32).toInt = 0 := rfl; omega), (hF0.symm.trans hF), (rg_w (rg_k (0 : Int32) 0 rfl) (by decide +kernel))⟩, by rw [ht]; exact hP, va_K.moved hW.alike hK, hD⟩, hS.F ht⟩) hS.2.2 dX12_sortOf_225
                      · replace hF := hF.trans (if_pos c_130)
                        have tc_135 : (x_129).toInt = 0 := congrArg Int32.toInt c_130
                        have h_136 : rg x_129 0 0 := rg_and (rg_full _) (rg_of_eq c_130 (rg_k (0 : Int32) 0 rfl)) (by decide +kernel)
                        have uh_136 := h_136.1
                        have vh_136 := h_136.2
                        refine lv_bipush (v := 9) hx hb dX12_sortOf_219 (by decide +kernel) ?_
                        refine lv_goto (tgt := 225) hx hb dX12_sortOf_221 (by decide +kernel) ?_
                        subst hQ
                        exact W.iret (v := 9) hx hb hr (fun t1 ht hW => ⟨⟨9, (σ, I, J, ri, rj, rq), rfl, ⟨rfl, (by have z9 : (9 : Int32).toInt = 9 := rfl; omega), (hF0.symm.trans hF), (rg_w (rg_k (9 : Int32) 9 rfl) (by decide +kernel))⟩, by rw [ht]; exact hP, va_K.moved hW.alike hK, hD⟩, hS.F ht⟩) hS.2.2 dX12_sortOf_225
                    · replace hF := hF.trans (if_pos c_116)
                      have tc_137 : (x_115).toInt = 0 := congrArg Int32.toInt c_116
                      have h_138 : rg x_115 0 0 := rg_and (rg_full _) (rg_of_eq c_116 (rg_k (0 : Int32) 0 rfl)) (by decide +kernel)
                      have uh_138 := h_138.1
                      have vh_138 := h_138.2
                      refine lv_bipush (v := 8) hx hb dX12_sortOf_193 (by decide +kernel) ?_
                      refine lv_goto (tgt := 225) hx hb dX12_sortOf_195 (by decide +kernel) ?_
                      subst hQ
                      exact W.iret (v := 8) hx hb hr (fun t1 ht hW => ⟨⟨8, (σ, I, J, ri, rj, rq), rfl, ⟨rfl, (by have z9 : (8 : Int32).toInt = 8 := rfl; omega), (hF0.symm.trans hF), (rg_w (rg_k (8 : Int32) 8 rfl) (by decide +kernel))⟩, by rw [ht]; exact hP, va_K.moved hW.alike hK, hD⟩, hS.F ht⟩) hS.2.2 dX12_sortOf_225
                  · replace hF := hF.trans (if_pos c_102)
                    have tc_139 : (x_101).toInt = 0 := congrArg Int32.toInt c_102
                    have h_140 : rg x_101 0 0 := rg_and (rg_full _) (rg_of_eq c_102 (rg_k (0 : Int32) 0 rfl)) (by decide +kernel)
                    have uh_140 := h_140.1
                    have vh_140 := h_140.2
                    refine lv_bipush (v := 7) hx hb dX12_sortOf_173 (by decide +kernel) ?_
                    subst hQ
                    exact W.iret (v := 7) hx hb hr (fun t1 ht hW => ⟨⟨7, (σ, I, J, ri, rj, rq), rfl, ⟨rfl, (by have z9 : (7 : Int32).toInt = 7 := rfl; omega), (hF0.symm.trans hF), (rg_w (rg_k (7 : Int32) 7 rfl) (by decide +kernel))⟩, by rw [ht]; exact hP, va_K.moved hW.alike hK, hD⟩, hS.F ht⟩) hS.2.2 dX12_sortOf_175
                · replace hF := hF.trans (if_pos c_87)
                  have tc_141 : (x_86).toInt = 0 := congrArg Int32.toInt c_87
                  have h_142 : rg x_86 0 0 := rg_and (rg_full _) (rg_of_eq c_87 (rg_k (0 : Int32) 0 rfl)) (by decide +kernel)
                  have uh_142 := h_142.1
                  have vh_142 := h_142.2
                  refine lv_bipush (v := 6) hx hb dX12_sortOf_140 (by decide +kernel) ?_
                  subst hQ
                  exact W.iret (v := 6) hx hb hr (fun t1 ht hW => ⟨⟨6, (σ, I, J, ri, rj, rq), rfl, ⟨rfl, (by have z9 : (6 : Int32).toInt = 6 := rfl; omega), (hF0.symm.trans hF), (rg_w (rg_k (6 : Int32) 6 rfl) (by decide +kernel))⟩, by rw [ht]; exact hP, va_K.moved hW.alike hK, hD⟩, hS.F ht⟩) hS.2.2 dX12_sortOf_142
              · replace hF := hF.trans (if_pos c_73)
                have tc_143 : (x_72).toInt = 0 := congrArg Int32.toInt c_73
                have h_144 : rg x_72 0 0 := rg_and (rg_full _) (rg_of_eq c_73 (rg_k (0 : Int32) 0 rfl)) (by decide +kernel)
                have uh_144 := h_144.1
                have vh_144 := h_144.2
                refine lv_iconst (v := 5) hx hb dX12_sortOf_119 (by decide +kernel) ?_
                subst hQ
                exact W.iret (v := 5) hx hb hr (fun t1 ht hW => ⟨⟨5, (σ, I, J, ri, rj, rq), rfl, ⟨rfl, (by have z9 : (5 : Int32).toInt = 5 := rfl; omega), (hF0.symm.trans hF), (rg_w (rg_k (5 : Int32) 5 rfl) (by decide +kernel))⟩, by rw [ht]; exact hP, va_K.moved hW.alike hK, hD⟩, hS.F ht⟩) hS.2.2 dX12_sortOf_120
            · replace hF := hF.trans (if_pos c_59)
              have tc_145 : (x_58).toInt = 0 := congrArg Int32.toInt c_59
              have h_146 : rg x_58 0 0 := rg_and (rg_full _) (rg_of_eq c_59 (rg_k (0 : Int32) 0 rfl)) (by decide +kernel)
              have uh_146 := h_146.1
              have vh_146 := h_146.2
              refine lv_iconst (v := 4) hx hb dX12_sortOf_96 (by decide +kernel) ?_
              subst hQ
              exact W.iret (v := 4) hx hb hr (fun t1 ht hW => ⟨⟨4, (σ, I, J, ri, rj, rq), rfl, ⟨rfl, (by have z9 : (4 : Int32).toInt = 4 := rfl; omega), (hF0.symm.trans hF), (rg_w (rg_k (4 : Int32) 4 rfl) (by decide +kernel))⟩, by rw [ht]; exact hP, va_K.moved hW.alike hK, hD⟩, hS.F ht⟩) hS.2.2 dX12_sortOf_97
          · replace hF := hF.trans (if_pos c_45)
            have tc_147 : (x_44).toInt = 0 := congrArg Int32.toInt c_45
            have h_148 : rg x_44 0 0 := rg_and (rg_full _) (rg_of_eq c_45 (rg_k (0 : Int32) 0 rfl)) (by decide +kernel)
            have uh_148 := h_148.1
            have vh_148 := h_148.2
            refine lv_iconst (v := 3) hx hb dX12_sortOf_75 (by decide +kernel) ?_
            subst hQ
            exact W.iret (v := 3) hx hb hr (fun t1 ht hW => ⟨⟨3, (σ, I, J, ri, rj, rq), rfl, ⟨rfl, (by have z9 : (3 : Int32).toInt = 3 := rfl; omega), (hF0.symm.trans hF), (rg_w (rg_k (3 : Int32) 3 rfl) (by decide +kernel))⟩, by rw [ht]; exact hP, va_K.moved hW.alike hK, hD⟩, hS.F ht⟩) hS.2.2 dX12_sortOf_76
        · replace hF := hF.trans (if_pos c_31)
          have tc_149 : (x_30).toInt = 0 := congrArg Int32.toInt c_31
          have h_150 : rg x_30 0 0 := rg_and (rg_full _) (rg_of_eq c_31 (rg_k (0 : Int32) 0 rfl)) (by decide +kernel)
          have uh_150 := h_150.1
          have vh_150 := h_150.2
          refine lv_iconst (v := 2) hx hb dX12_sortOf_56 (by decide +kernel) ?_
          subst hQ
          exact W.iret (v := 2) hx hb hr (fun t1 ht hW => ⟨⟨2, (σ, I, J, ri, rj, rq), rfl, ⟨rfl, (by have z9 : (2 : Int32).toInt = 2 := rfl; omega), (hF0.symm.trans hF), (rg_w (rg_k (2 : Int32) 2 rfl) (by decide +kernel))⟩, by rw [ht]; exact hP, va_K.moved hW.alike hK, hD⟩, hS.F ht⟩) hS.2.2 dX12_sortOf_57
      · replace hF := hF.trans (if_pos c_18)
        have tc_151 : (x_17).toInt = 0 := congrArg Int32.toInt c_18
        have h_152 : rg x_17 0 0 := rg_and (rg_full _) (rg_of_eq c_18 (rg_k (0 : Int32) 0 rfl)) (by decide +kernel)
        have uh_152 := h_152.1
        have vh_152 := h_152.2
        refine lv_iconst (v := 1) hx hb dX12_sortOf_31 (by decide +kernel) ?_
        subst hQ
        exact W.iret (v := 1) hx hb hr (fun t1 ht hW => ⟨⟨1, (σ, I, J, ri, rj, rq), rfl, ⟨rfl, (by have z9 : (1 : Int32).toInt = 1 := rfl; omega), (hF0.symm.trans hF), (rg_w (rg_k (1 : Int32) 1 rfl) (by decide +kernel))⟩, by rw [ht]; exact hP, va_K.moved hW.alike hK, hD⟩, hS.F ht⟩) hS.2.2 dX12_sortOf_32
    · replace hF := hF.trans (if_neg c_2)
      have tc_153 : (I 393 this).toInt ≠ 2 := fun q => c_2 (Int32.toInt_inj.mp q)
      refine lv_iconst (v := 0) hx hb dX12_sortOf_8 (by decide +kernel) ?_
      subst hQ
      exact W.iret (v := 0) hx hb hr (fun t1 ht hW => ⟨⟨0, (σ, I, J, ri, rj, rq), rfl, ⟨rfl, (by have z9 : (0 : Int32).toInt = 0 := rfl; omega), (hF0.symm.trans hF), (rg_w (rg_k (0 : Int32) 0 rfl) (by decide +kernel))⟩, by rw [ht]; exact hP, va_K.moved hW.alike hK, hD⟩, hS.F ht⟩) hS.2.2 dX12_sortOf_9
  exact go _ _ _ hP hD hS hl
theorem dX12_clause_0 : decode cX12_clause 0 = .ok (.aload_n 0, 1) := oc_42 (by decide +kernel)
theorem tw_853 : Cond.methodLink RX12 242 yX12_sortOf ∈ wsL_law := sg_36 _ (List.mem_of_getElem? (i := 13) rfl)
theorem tw_854 : Cond.instanceMethod yX12_sortOf ∈ wsL_law := sg_36 _ (List.mem_of_getElem? (i := 14) rfl)
theorem tw_855 : Cond.selects RX12 yX12_sortOf yX12_sortOf ∈ wsL_law := sg_36 _ (List.mem_of_getElem? (i := 15) rfl)
theorem tw_856 : Cond.code yX12_sortOf cX12_sortOf 1 (some .int) ∈ wsL_law := sg_36 _ (List.mem_of_getElem? (i := 16) rfl)
theorem dX12_clause_1 : decode cX12_clause 1 = .ok (.invokevirtual 242, 3) := oc_182 (a := 0) (b := 242) (by decide +kernel)
theorem dX12_clause_4 : decode cX12_clause 4 = .ok (.istore_n 1, 1) := oc_60 (by decide +kernel)
theorem dX12_clause_5 : decode cX12_clause 5 = .ok (.iload_n 1, 1) := oc_27 (by decide +kernel)
theorem dX12_clause_6 : decode cX12_clause 6 = .ok (.ifCond .ne 5, 3) := oc_154 (a := 0) (b := 5) (by decide +kernel)
theorem dX12_clause_11 : decode cX12_clause 11 = .ok (.iload_n 1, 1) := oc_27 (by decide +kernel)
theorem dX12_clause_12 : decode cX12_clause 12 = .ok (.iconst 5, 1) := oc_8 (by decide +kernel)
theorem dX12_clause_13 : decode cX12_clause 13 = .ok (.if_icmp .lt 17, 3) := oc_161 (a := 0) (b := 17) (by decide +kernel)
theorem dX12_clause_30 : decode cX12_clause 30 = .ok (.aload_n 0, 1) := oc_42 (by decide +kernel)
theorem tw_822 : Cond.fieldLink RX12 248 "RingsUnderModel" "clauses" "I" ∈ wsL_law := sg_35 _ (List.mem_of_getElem? (i := 6) rfl)
theorem dX12_clause_31 : decode cX12_clause 31 = .ok (.getfield 248, 3) := oc_180 (a := 0) (b := 248) (by decide +kernel)
theorem dX12_clause_34 : decode cX12_clause 34 = .ok (.bipush 20, 2) := oc_16 (a := 20) (by decide +kernel)
theorem dX12_clause_36 : decode cX12_clause 36 = .ok (.if_icmp .ne 5, 3) := oc_160 (a := 0) (b := 5) (by decide +kernel)
theorem dX12_clause_41 : decode cX12_clause 41 = .ok (.aload_n 0, 1) := oc_42 (by decide +kernel)
theorem dX12_clause_42 : decode cX12_clause 42 = .ok (.dup, 1) := oc_89 (by decide +kernel)
theorem tw_829 : Cond.fieldLink RX12 245 "RingsUnderModel" "came" "I" ∈ wsL_law := sg_35 _ (List.mem_of_getElem? (i := 13) rfl)
theorem dX12_clause_43 : decode cX12_clause 43 = .ok (.getfield 245, 3) := oc_180 (a := 0) (b := 245) (by decide +kernel)
theorem dX12_clause_46 : decode cX12_clause 46 = .ok (.iconst 1, 1) := oc_4 (by decide +kernel)
theorem dX12_clause_47 : decode cX12_clause 47 = .ok (.iload_n 1, 1) := oc_27 (by decide +kernel)
theorem dX12_clause_48 : decode cX12_clause 48 = .ok (.ishl, 1) := oc_120 (by decide +kernel)
theorem dX12_clause_49 : decode cX12_clause 49 = .ok (.ior, 1) := oc_128 (by decide +kernel)
theorem dX12_clause_50 : decode cX12_clause 50 = .ok (.putfield 245, 3) := oc_181 (a := 0) (b := 245) (by decide +kernel)
theorem dX12_clause_53 : decode cX12_clause 53 = .ok (.aload_n 0, 1) := oc_42 (by decide +kernel)
theorem dX12_clause_54 : decode cX12_clause 54 = .ok (.getfield 172, 3) := oc_180 (a := 0) (b := 172) (by decide +kernel)
theorem dX12_clause_57 : decode cX12_clause 57 = .ok (.iconst 1, 1) := oc_4 (by decide +kernel)
theorem dX12_clause_58 : decode cX12_clause 58 = .ok (.iadd, 1) := oc_96 (by decide +kernel)
theorem dX12_clause_59 : decode cX12_clause 59 = .ok (.bipush 12, 2) := oc_16 (a := 12) (by decide +kernel)
theorem dX12_clause_61 : decode cX12_clause 61 = .ok (.aload_n 0, 1) := oc_42 (by decide +kernel)
theorem dX12_clause_62 : decode cX12_clause 62 = .ok (.getfield 248, 3) := oc_180 (a := 0) (b := 248) (by decide +kernel)
theorem dX12_clause_65 : decode cX12_clause 65 = .ok (.imul, 1) := oc_104 (by decide +kernel)
theorem dX12_clause_66 : decode cX12_clause 66 = .ok (.iadd, 1) := oc_96 (by decide +kernel)
theorem dX12_clause_67 : decode cX12_clause 67 = .ok (.istore_n 2, 1) := oc_61 (by decide +kernel)
theorem dX12_clause_68 : decode cX12_clause 68 = .ok (.aload_n 0, 1) := oc_42 (by decide +kernel)
theorem dX12_clause_69 : decode cX12_clause 69 = .ok (.getfield 7, 3) := oc_180 (a := 0) (b := 7) (by decide +kernel)
theorem dX12_clause_72 : decode cX12_clause 72 = .ok (.iload_n 2, 1) := oc_28 (by decide +kernel)
theorem dX12_clause_73 : decode cX12_clause 73 = .ok (.iload_n 1, 1) := oc_27 (by decide +kernel)
theorem dX12_clause_74 : decode cX12_clause 74 = .ok (.iastore, 1) := oc_79 (by decide +kernel)
theorem dX12_clause_75 : decode cX12_clause 75 = .ok (.aload_n 0, 1) := oc_42 (by decide +kernel)
theorem dX12_clause_76 : decode cX12_clause 76 = .ok (.invokevirtual 196, 3) := oc_182 (a := 0) (b := 196) (by decide +kernel)
theorem dX12_clause_79 : decode cX12_clause 79 = .ok (.iconst 0, 1) := oc_3 (by decide +kernel)
theorem dX12_clause_80 : decode cX12_clause 80 = .ok (.istore_n 3, 1) := oc_62 (by decide +kernel)
theorem dX12_clause_81 : decode cX12_clause 81 = .ok (.iload_n 1, 1) := oc_27 (by decide +kernel)
theorem dX12_clause_82 : decode cX12_clause 82 = .ok (.iconst 4, 1) := oc_7 (by decide +kernel)
theorem dX12_clause_83 : decode cX12_clause 83 = .ok (.if_icmp .gt 35, 3) := oc_163 (a := 0) (b := 35) (by decide +kernel)
theorem dX12_clause_86 : decode cX12_clause 86 = .ok (.aload_n 0, 1) := oc_42 (by decide +kernel)
theorem dX12_clause_87 : decode cX12_clause 87 = .ok (.getfield 7, 3) := oc_180 (a := 0) (b := 7) (by decide +kernel)
theorem dX12_clause_90 : decode cX12_clause 90 = .ok (.iload_n 2, 1) := oc_28 (by decide +kernel)
theorem dX12_clause_91 : decode cX12_clause 91 = .ok (.iconst 2, 1) := oc_5 (by decide +kernel)
theorem dX12_clause_92 : decode cX12_clause 92 = .ok (.iadd, 1) := oc_96 (by decide +kernel)
theorem dX12_clause_93 : decode cX12_clause 93 = .ok (.aload_n 0, 1) := oc_42 (by decide +kernel)
theorem dX12_clause_94 : decode cX12_clause 94 = .ok (.getfield 175, 3) := oc_180 (a := 0) (b := 175) (by decide +kernel)
theorem dX12_clause_97 : decode cX12_clause 97 = .ok (.iastore, 1) := oc_79 (by decide +kernel)
theorem dX12_clause_98 : decode cX12_clause 98 = .ok (.aload_n 0, 1) := oc_42 (by decide +kernel)
theorem tw_870 : Cond.methodLink RX12 251 yX12_either ∈ wsL_law := sg_37 _ (List.mem_of_getElem? (i := 6) rfl)
theorem tw_871 : Cond.instanceMethod yX12_either ∈ wsL_law := sg_37 _ (List.mem_of_getElem? (i := 7) rfl)
theorem tw_872 : Cond.selects RX12 yX12_either yX12_either ∈ wsL_law := sg_37 _ (List.mem_of_getElem? (i := 8) rfl)
theorem tw_873 : Cond.code yX12_either cX12_either 6 (some .int) ∈ wsL_law := sg_37 _ (List.mem_of_getElem? (i := 9) rfl)
theorem dX12_clause_99 : decode cX12_clause 99 = .ok (.invokevirtual 251, 3) := oc_182 (a := 0) (b := 251) (by decide +kernel)
theorem dX12_clause_102 : decode cX12_clause 102 = .ok (.istore_n 3, 1) := oc_62 (by decide +kernel)
theorem dX12_clause_103 : decode cX12_clause 103 = .ok (.aload_n 0, 1) := oc_42 (by decide +kernel)
theorem dX12_clause_104 : decode cX12_clause 104 = .ok (.getfield 7, 3) := oc_180 (a := 0) (b := 7) (by decide +kernel)
theorem dX12_clause_107 : decode cX12_clause 107 = .ok (.iload_n 2, 1) := oc_28 (by decide +kernel)
theorem dX12_clause_108 : decode cX12_clause 108 = .ok (.iconst 3, 1) := oc_6 (by decide +kernel)
theorem dX12_clause_109 : decode cX12_clause 109 = .ok (.iadd, 1) := oc_96 (by decide +kernel)
theorem dX12_clause_110 : decode cX12_clause 110 = .ok (.aload_n 0, 1) := oc_42 (by decide +kernel)
theorem dX12_clause_111 : decode cX12_clause 111 = .ok (.getfield 175, 3) := oc_180 (a := 0) (b := 175) (by decide +kernel)
theorem dX12_clause_114 : decode cX12_clause 114 = .ok (.iastore, 1) := oc_79 (by decide +kernel)
theorem dX12_clause_115 : decode cX12_clause 115 = .ok (.goto 52, 3) := oc_167 (a := 0) (b := 52) (by decide +kernel)
theorem dX12_clause_167 : decode cX12_clause 167 = .ok (.iload_n 3, 1) := oc_29 (by decide +kernel)
theorem dX12_clause_168 : decode cX12_clause 168 = .ok (.ifCond .eq 5, 3) := oc_153 (a := 0) (b := 5) (by decide +kernel)
theorem dX12_clause_173 : decode cX12_clause 173 = .ok (.aload_n 0, 1) := oc_42 (by decide +kernel)
theorem dX12_clause_174 : decode cX12_clause 174 = .ok (.getfield 143, 3) := oc_180 (a := 0) (b := 143) (by decide +kernel)
theorem dX12_clause_177 : decode cX12_clause 177 = .ok (.bipush 59, 2) := oc_16 (a := 59) (by decide +kernel)
theorem dX12_clause_179 : decode cX12_clause 179 = .ok (.if_icmp .eq 5, 3) := oc_159 (a := 0) (b := 5) (by decide +kernel)
theorem dX12_clause_184 : decode cX12_clause 184 = .ok (.aload_n 0, 1) := oc_42 (by decide +kernel)
theorem dX12_clause_185 : decode cX12_clause 185 = .ok (.dup, 1) := oc_89 (by decide +kernel)
theorem dX12_clause_186 : decode cX12_clause 186 = .ok (.getfield 248, 3) := oc_180 (a := 0) (b := 248) (by decide +kernel)
theorem dX12_clause_189 : decode cX12_clause 189 = .ok (.iconst 1, 1) := oc_4 (by decide +kernel)
theorem dX12_clause_190 : decode cX12_clause 190 = .ok (.iadd, 1) := oc_96 (by decide +kernel)
theorem dX12_clause_191 : decode cX12_clause 191 = .ok (.putfield 248, 3) := oc_181 (a := 0) (b := 248) (by decide +kernel)
theorem dX12_clause_194 : decode cX12_clause 194 = .ok (.aload_n 0, 1) := oc_42 (by decide +kernel)
theorem dX12_clause_195 : decode cX12_clause 195 = .ok (.invokevirtual 196, 3) := oc_182 (a := 0) (b := 196) (by decide +kernel)
theorem dX12_clause_198 : decode cX12_clause 198 = .ok (.iconst 0, 1) := oc_3 (by decide +kernel)
theorem dX12_clause_199 : decode cX12_clause 199 = .ok (.ireturn, 1) := oc_172 (by decide +kernel)
theorem dX12_clause_182 : decode cX12_clause 182 = .ok (.iconst 1, 1) := oc_4 (by decide +kernel)
theorem dX12_clause_183 : decode cX12_clause 183 = .ok (.ireturn, 1) := oc_172 (by decide +kernel)
theorem dX12_clause_171 : decode cX12_clause 171 = .ok (.iload_n 3, 1) := oc_29 (by decide +kernel)
theorem dX12_clause_172 : decode cX12_clause 172 = .ok (.ireturn, 1) := oc_172 (by decide +kernel)
theorem dX12_clause_39 : decode cX12_clause 39 = .ok (.iconst 5, 1) := oc_8 (by decide +kernel)
theorem dX12_clause_40 : decode cX12_clause 40 = .ok (.ireturn, 1) := oc_172 (by decide +kernel)
theorem dX12_clause_16 : decode cX12_clause 16 = .ok (.aload_n 0, 1) := oc_42 (by decide +kernel)
theorem dX12_clause_17 : decode cX12_clause 17 = .ok (.getfield 245, 3) := oc_180 (a := 0) (b := 245) (by decide +kernel)
theorem dX12_clause_20 : decode cX12_clause 20 = .ok (.iload_n 1, 1) := oc_27 (by decide +kernel)
theorem dX12_clause_21 : decode cX12_clause 21 = .ok (.ishr, 1) := oc_122 (by decide +kernel)
theorem dX12_clause_22 : decode cX12_clause 22 = .ok (.iconst 1, 1) := oc_4 (by decide +kernel)
theorem dX12_clause_23 : decode cX12_clause 23 = .ok (.iand, 1) := oc_126 (by decide +kernel)
theorem dX12_clause_24 : decode cX12_clause 24 = .ok (.iconst 1, 1) := oc_4 (by decide +kernel)
theorem dX12_clause_25 : decode cX12_clause 25 = .ok (.if_icmp .ne 5, 3) := oc_160 (a := 0) (b := 5) (by decide +kernel)
theorem dX12_clause_118 : decode cX12_clause 118 = .ok (.iload_n 1, 1) := oc_27 (by decide +kernel)
theorem dX12_clause_119 : decode cX12_clause 119 = .ok (.bipush 6, 2) := oc_16 (a := 6) (by decide +kernel)
theorem dX12_clause_121 : decode cX12_clause 121 = .ok (.if_icmp .gt 12, 3) := oc_163 (a := 0) (b := 12) (by decide +kernel)
theorem dX12_clause_133 : decode cX12_clause 133 = .ok (.aload_n 0, 1) := oc_42 (by decide +kernel)
theorem dX12_clause_134 : decode cX12_clause 134 = .ok (.iload_n 1, 1) := oc_27 (by decide +kernel)
theorem dX12_clause_135 : decode cX12_clause 135 = .ok (.bipush 7, 2) := oc_16 (a := 7) (by decide +kernel)
theorem dX12_clause_137 : decode cX12_clause 137 = .ok (.if_icmp .ne 8, 3) := oc_160 (a := 0) (b := 8) (by decide +kernel)
theorem dX12_clause_145 : decode cX12_clause 145 = .ok (.iload_n 1, 1) := oc_27 (by decide +kernel)
theorem dX12_clause_146 : decode cX12_clause 146 = .ok (.bipush 8, 2) := oc_16 (a := 8) (by decide +kernel)
theorem dX12_clause_148 : decode cX12_clause 148 = .ok (.if_icmp .ne 9, 3) := oc_160 (a := 0) (b := 9) (by decide +kernel)
theorem dX12_clause_157 : decode cX12_clause 157 = .ok (.sipush 1000, 3) := oc_17 (a := 3) (b := 232) (by decide +kernel)
theorem dX12_clause_160 : decode cX12_clause 160 = .ok (.iload_n 2, 1) := oc_28 (by decide +kernel)
theorem dX12_clause_161 : decode cX12_clause 161 = .ok (.iconst 1, 1) := oc_4 (by decide +kernel)
theorem dX12_clause_162 : decode cX12_clause 162 = .ok (.iadd, 1) := oc_96 (by decide +kernel)
theorem tw_933 : Cond.methodLink RX12 257 yX12_take ∈ wsL_law := sg_39 _ (List.mem_of_getElem? (i := 21) rfl)
theorem tw_934 : Cond.instanceMethod yX12_take ∈ wsL_law := sg_39 _ (List.mem_of_getElem? (i := 22) rfl)
theorem tw_935 : Cond.selects RX12 yX12_take yX12_take ∈ wsL_law := sg_39 _ (List.mem_of_getElem? (i := 23) rfl)
theorem tw_936 : Cond.code yX12_take cX12_take 3 (some .int) ∈ wsL_law := sg_40 _ (List.mem_of_getElem? (i := 0) rfl)
theorem dX12_clause_163 : decode cX12_clause 163 = .ok (.invokevirtual 257, 3) := oc_182 (a := 1) (b := 1) (by decide +kernel)
theorem dX12_clause_166 : decode cX12_clause 166 = .ok (.istore_n 3, 1) := oc_62 (by decide +kernel)
theorem dX12_clause_151 : decode cX12_clause 151 = .ok (.sipush 599, 3) := oc_17 (a := 2) (b := 87) (by decide +kernel)
theorem dX12_clause_154 : decode cX12_clause 154 = .ok (.goto 6, 3) := oc_167 (a := 0) (b := 6) (by decide +kernel)
theorem dX12_clause_140 : decode cX12_clause 140 = .ok (.bipush 100, 2) := oc_16 (a := 100) (by decide +kernel)
theorem dX12_clause_142 : decode cX12_clause 142 = .ok (.goto 18, 3) := oc_167 (a := 0) (b := 18) (by decide +kernel)
theorem dX12_clause_124 : decode cX12_clause 124 = .ok (.aload_n 0, 1) := oc_42 (by decide +kernel)
theorem dX12_clause_125 : decode cX12_clause 125 = .ok (.iload_n 2, 1) := oc_28 (by decide +kernel)
theorem tw_929 : Cond.methodLink RX12 254 yX12_keys ∈ wsL_law := sg_39 _ (List.mem_of_getElem? (i := 17) rfl)
theorem tw_930 : Cond.instanceMethod yX12_keys ∈ wsL_law := sg_39 _ (List.mem_of_getElem? (i := 18) rfl)
theorem tw_931 : Cond.selects RX12 yX12_keys yX12_keys ∈ wsL_law := sg_39 _ (List.mem_of_getElem? (i := 19) rfl)
theorem tw_932 : Cond.code yX12_keys cX12_keys 4 (some .int) ∈ wsL_law := sg_39 _ (List.mem_of_getElem? (i := 20) rfl)
theorem dX12_clause_126 : decode cX12_clause 126 = .ok (.invokevirtual 254, 3) := oc_182 (a := 0) (b := 254) (by decide +kernel)
theorem dX12_clause_129 : decode cX12_clause 129 = .ok (.istore_n 3, 1) := oc_62 (by decide +kernel)
theorem dX12_clause_130 : decode cX12_clause 130 = .ok (.goto 37, 3) := oc_167 (a := 0) (b := 37) (by decide +kernel)
theorem dX12_clause_28 : decode cX12_clause 28 = .ok (.iconst 4, 1) := oc_7 (by decide +kernel)
theorem dX12_clause_29 : decode cX12_clause 29 = .ok (.ireturn, 1) := oc_172 (by decide +kernel)
theorem dX12_clause_9 : decode cX12_clause 9 = .ok (.iconst 1, 1) := oc_4 (by decide +kernel)
theorem dX12_clause_10 : decode cX12_clause 10 = .ok (.ireturn, 1) := oc_172 (by decide +kernel)
set_option maxRecDepth 100000 in
def g_X12_clause (I : Nat → Int32) (J : Nat → Int64) (ri : Nat → Nat → Int32) (rj : Nat → Nat → Int64) (rq : Nat → Nat → Option Nat) : Int32 × vM := (bnI (g_X12_sortOf I J ri rj rq) fun (x_1 : Int32) (_ : Nat → Int32) (_ : Nat → Int64) (_ : Nat → Nat → Int32) (_ : Nat → Nat → Int64) (_ : Nat → Nat → Option Nat) => (if x_1 = (0 : Int32) then ((1 : Int32), I, J, ri, rj, rq) else (if x_1 < (5 : Int32) then (ap1 (I 397) fun (y_24 : Int32) => (if (y_24) = (20 : Int32) then ((5 : Int32), I, J, ri, rj, rq) else (ap1 (I 399) fun (y_32 : Int32) => (ap1 ((1 : Int32) <<< (x_1 &&& 31)) fun (x_33 : Int32) => (ap1 ((y_32) ||| x_33) fun (x_34 : Int32) => (ap1 (va_up I 399 x_34) fun (I_35 : Nat → Int32) => (ap1 (I_35 396) fun (y_45 : Int32) => (ap1 ((y_45) + (1 : Int32)) fun (x_46 : Int32) => (ap1 (I_35 397) fun (y_49 : Int32) => (ap1 ((12 : Int32) * (y_49)) fun (x_50 : Int32) => (ap1 (x_46 + x_50) fun (x_52 : Int32) => (ap1 (va_up ri 384 (upd (ri 384) (x_52).toNatClampNeg x_1)) fun (r_55 : Nat → Nat → Int32) => (bnV (g_X12_nextToken_x I_35 J r_55 rj rq) fun (I_59 : Nat → Int32) (J_60 : Nat → Int64) (_ : Nat → Nat → Int32) (_ : Nat → Nat → Int64) (_ : Nat → Nat → Option Nat) => (ap1 (x_52 + (2 : Int32)) fun (x_80 : Int32) => (ap1 (I_59 398) fun (y_83 : Int32) => (ap1 (va_up r_55 384 (upd (r_55 384) (x_80).toNatClampNeg (y_83))) fun (r_84 : Nat → Nat → Int32) => (bnI (g_X12_either I_59 J_60 r_84 rj rq) fun (x_85 : Int32) (I_87 : Nat → Int32) (J_88 : Nat → Int64) (ri_89 : Nat → Nat → Int32) (_ : Nat → Nat → Int64) (_ : Nat → Nat → Option Nat) => (ap1 (x_52 + (3 : Int32)) fun (x_98 : Int32) => (ap1 (I_87 398) fun (y_101 : Int32) => (ap1 (va_up ri_89 384 (upd (ri_89 384) (x_98).toNatClampNeg (y_101))) fun (r_102 : Nat → Nat → Int32) => (if x_85 = (0 : Int32) then (ap1 (I_87 393) fun (y_110 : Int32) => (if (y_110) = (59 : Int32) then (ap1 (I_87 397) fun (y_118 : Int32) => (ap1 ((y_118) + (1 : Int32)) fun (x_119 : Int32) => (ap1 (va_up I_87 397 x_119) fun (I_121 : Nat → Int32) => (bnV (g_X12_nextToken_x I_121 J_88 r_102 rj rq) fun (I_133 : Nat → Int32) (J_134 : Nat → Int64) (_ : Nat → Nat → Int32) (_ : Nat → Nat → Int64) (_ : Nat → Nat → Option Nat) => ((0 : Int32), I_133, J_134, r_102, rj, rq))))) else ((1 : Int32), I_87, J_88, r_102, rj, rq))) else (x_85, I_87, J_88, r_102, rj, rq)))))))))))))))))))))) else (ap1 (I 399) fun (y_156 : Int32) => (ap1 ((y_156) >>> (x_1 &&& 31)) fun (x_157 : Int32) => (ap1 (x_157 &&& (1 : Int32)) fun (x_158 : Int32) => (if x_158 = (1 : Int32) then ((4 : Int32), I, J, ri, rj, rq) else (ap1 (I 397) fun (y_165 : Int32) => (if (y_165) = (20 : Int32) then ((5 : Int32), I, J, ri, rj, rq) else (ap1 ((1 : Int32) <<< (x_1 &&& 31)) fun (x_173 : Int32) => (ap1 ((y_156) ||| x_173) fun (x_174 : Int32) => (ap1 (va_up I 399 x_174) fun (I_175 : Nat → Int32) => (ap1 (I_175 396) fun (y_185 : Int32) => (ap1 ((y_185) + (1 : Int32)) fun (x_186 : Int32) => (ap1 (I_175 397) fun (y_189 : Int32) => (ap1 ((12 : Int32) * (y_189)) fun (x_190 : Int32) => (ap1 (x_186 + x_190) fun (x_192 : Int32) => (ap1 (va_up ri 384 (upd (ri 384) (x_192).toNatClampNeg x_1)) fun (r_195 : Nat → Nat → Int32) => (bnV (g_X12_nextToken_x I_175 J r_195 rj rq) fun (I_199 : Nat → Int32) (J_200 : Nat → Int64) (_ : Nat → Nat → Int32) (_ : Nat → Nat → Int64) (_ : Nat → Nat → Option Nat) => (if (6 : Int32) < x_1 then (if x_1 = (7 : Int32) then (ap1 (x_192 + (1 : Int32)) fun (x_384 : Int32) => (bnI (g_X12_take (100 : Int32) x_384 I_199 J_200 r_195 rj rq) fun (x_386 : Int32) (I_388 : Nat → Int32) (J_389 : Nat → Int64) (ri_390 : Nat → Nat → Int32) (_ : Nat → Nat → Int64) (_ : Nat → Nat → Option Nat) => (if x_386 = (0 : Int32) then (ap1 (I_388 393) fun (y_412 : Int32) => (if (y_412) = (59 : Int32) then (ap1 (I_388 397) fun (y_420 : Int32) => (ap1 ((y_420) + (1 : Int32)) fun (x_421 : Int32) => (ap1 (va_up I_388 397 x_421) fun (I_423 : Nat → Int32) => (bnV (g_X12_nextToken_x I_423 J_389 ri_390 rj rq) fun (I_435 : Nat → Int32) (J_436 : Nat → Int64) (_ : Nat → Nat → Int32) (_ : Nat → Nat → Int64) (_ : Nat → Nat → Option Nat) => ((0 : Int32), I_435, J_436, ri_390, rj, rq))))) else ((1 : Int32), I_388, J_389, ri_390, rj, rq))) else (x_386, I_388, J_389, ri_390, rj, rq)))) else (if x_1 = (8 : Int32) then (ap1 (x_192 + (1 : Int32)) fun (x_312 : Int32) => (bnI (g_X12_take (599 : Int32) x_312 I_199 J_200 r_195 rj rq) fun (x_314 : Int32) (I_316 : Nat → Int32) (J_317 : Nat → Int64) (ri_318 : Nat → Nat → Int32) (_ : Nat → Nat → Int64) (_ : Nat → Nat → Option Nat) => (if x_314 = (0 : Int32) then (ap1 (I_316 393) fun (y_340 : Int32) => (if (y_340) = (59 : Int32) then (ap1 (I_316 397) fun (y_348 : Int32) => (ap1 ((y_348) + (1 : Int32)) fun (x_349 : Int32) => (ap1 (va_up I_316 397 x_349) fun (I_351 : Nat → Int32) => (bnV (g_X12_nextToken_x I_351 J_317 ri_318 rj rq) fun (I_363 : Nat → Int32) (J_364 : Nat → Int64) (_ : Nat → Nat → Int32) (_ : Nat → Nat → Int64) (_ : Nat → Nat → Option Nat) => ((0 : Int32), I_363, J_364, ri_318, rj, rq))))) else ((1 : Int32), I_316, J_317, ri_318, rj, rq))) else (x_314, I_316, J_317, ri_318, rj, rq)))) else (ap1 (x_192 + (1 : Int32)) fun (x_240 : Int32) => (bnI (g_X12_take (1000 : Int32) x_240 I_199 J_200 r_195 rj rq) fun (x_242 : Int32) (I_244 : Nat → Int32) (J_245 : Nat → Int64) (ri_246 : Nat → Nat → Int32) (_ : Nat → Nat → Int64) (_ : Nat → Nat → Option Nat) => (if x_242 = (0 : Int32) then (ap1 (I_244 393) fun (y_268 : Int32) => (if (y_268) = (59 : Int32) then (ap1 (I_244 397) fun (y_276 : Int32) => (ap1 ((y_276) + (1 : Int32)) fun (x_277 : Int32) => (ap1 (va_up I_244 397 x_277) fun (I_279 : Nat → Int32) => (bnV (g_X12_nextToken_x I_279 J_245 ri_246 rj rq) fun (I_291 : Nat → Int32) (J_292 : Nat → Int64) (_ : Nat → Nat → Int32) (_ : Nat → Nat → Int64) (_ : Nat → Nat → Option Nat) => ((0 : Int32), I_291, J_292, ri_246, rj, rq))))) else ((1 : Int32), I_244, J_245, ri_246, rj, rq))) else (x_242, I_244, J_245, ri_246, rj, rq)))))) else (bnI (g_X12_keys x_192 I_199 J_200 r_195 rj rq) fun (x_456 : Int32) (I_458 : Nat → Int32) (J_459 : Nat → Int64) (ri_460 : Nat → Nat → Int32) (_ : Nat → Nat → Int64) (_ : Nat → Nat → Option Nat) => (if x_456 = (0 : Int32) then (ap1 (I_458 393) fun (y_482 : Int32) => (if (y_482) = (59 : Int32) then (ap1 (I_458 397) fun (y_490 : Int32) => (ap1 ((y_490) + (1 : Int32)) fun (x_491 : Int32) => (ap1 (va_up I_458 397 x_491) fun (I_493 : Nat → Int32) => (bnV (g_X12_nextToken_x I_493 J_459 ri_460 rj rq) fun (I_505 : Nat → Int32) (J_506 : Nat → Int64) (_ : Nat → Nat → Int32) (_ : Nat → Nat → Int64) (_ : Nat → Nat → Option Nat) => ((0 : Int32), I_505, J_506, ri_460, rj, rq))))) else ((1 : Int32), I_458, J_459, ri_460, rj, rq))) else (x_456, I_458, J_459, ri_460, rj, rq)))))))))))))))))))))))
set_option maxRecDepth 100000 in
theorem g_X12_clause_e {I : Nat → Int32} {J : Nat → Int64} {ri : Nat → Nat → Int32} {rj : Nat → Nat → Int64} {rq : Nat → Nat → Option Nat} : g_X12_clause I J ri rj rq = (bnI (g_X12_sortOf I J ri rj rq) fun (x_1 : Int32) (_ : Nat → Int32) (_ : Nat → Int64) (_ : Nat → Nat → Int32) (_ : Nat → Nat → Int64) (_ : Nat → Nat → Option Nat) => (if x_1 = (0 : Int32) then ((1 : Int32), I, J, ri, rj, rq) else (if x_1 < (5 : Int32) then (ap1 (I 397) fun (y_24 : Int32) => (if (y_24) = (20 : Int32) then ((5 : Int32), I, J, ri, rj, rq) else (ap1 (I 399) fun (y_32 : Int32) => (ap1 ((1 : Int32) <<< (x_1 &&& 31)) fun (x_33 : Int32) => (ap1 ((y_32) ||| x_33) fun (x_34 : Int32) => (ap1 (va_up I 399 x_34) fun (I_35 : Nat → Int32) => (ap1 (I_35 396) fun (y_45 : Int32) => (ap1 ((y_45) + (1 : Int32)) fun (x_46 : Int32) => (ap1 (I_35 397) fun (y_49 : Int32) => (ap1 ((12 : Int32) * (y_49)) fun (x_50 : Int32) => (ap1 (x_46 + x_50) fun (x_52 : Int32) => (ap1 (va_up ri 384 (upd (ri 384) (x_52).toNatClampNeg x_1)) fun (r_55 : Nat → Nat → Int32) => (bnV (g_X12_nextToken_x I_35 J r_55 rj rq) fun (I_59 : Nat → Int32) (J_60 : Nat → Int64) (_ : Nat → Nat → Int32) (_ : Nat → Nat → Int64) (_ : Nat → Nat → Option Nat) => (ap1 (x_52 + (2 : Int32)) fun (x_80 : Int32) => (ap1 (I_59 398) fun (y_83 : Int32) => (ap1 (va_up r_55 384 (upd (r_55 384) (x_80).toNatClampNeg (y_83))) fun (r_84 : Nat → Nat → Int32) => (bnI (g_X12_either I_59 J_60 r_84 rj rq) fun (x_85 : Int32) (I_87 : Nat → Int32) (J_88 : Nat → Int64) (ri_89 : Nat → Nat → Int32) (_ : Nat → Nat → Int64) (_ : Nat → Nat → Option Nat) => (ap1 (x_52 + (3 : Int32)) fun (x_98 : Int32) => (ap1 (I_87 398) fun (y_101 : Int32) => (ap1 (va_up ri_89 384 (upd (ri_89 384) (x_98).toNatClampNeg (y_101))) fun (r_102 : Nat → Nat → Int32) => (if x_85 = (0 : Int32) then (ap1 (I_87 393) fun (y_110 : Int32) => (if (y_110) = (59 : Int32) then (ap1 (I_87 397) fun (y_118 : Int32) => (ap1 ((y_118) + (1 : Int32)) fun (x_119 : Int32) => (ap1 (va_up I_87 397 x_119) fun (I_121 : Nat → Int32) => (bnV (g_X12_nextToken_x I_121 J_88 r_102 rj rq) fun (I_133 : Nat → Int32) (J_134 : Nat → Int64) (_ : Nat → Nat → Int32) (_ : Nat → Nat → Int64) (_ : Nat → Nat → Option Nat) => ((0 : Int32), I_133, J_134, r_102, rj, rq))))) else ((1 : Int32), I_87, J_88, r_102, rj, rq))) else (x_85, I_87, J_88, r_102, rj, rq)))))))))))))))))))))) else (ap1 (I 399) fun (y_156 : Int32) => (ap1 ((y_156) >>> (x_1 &&& 31)) fun (x_157 : Int32) => (ap1 (x_157 &&& (1 : Int32)) fun (x_158 : Int32) => (if x_158 = (1 : Int32) then ((4 : Int32), I, J, ri, rj, rq) else (ap1 (I 397) fun (y_165 : Int32) => (if (y_165) = (20 : Int32) then ((5 : Int32), I, J, ri, rj, rq) else (ap1 ((1 : Int32) <<< (x_1 &&& 31)) fun (x_173 : Int32) => (ap1 ((y_156) ||| x_173) fun (x_174 : Int32) => (ap1 (va_up I 399 x_174) fun (I_175 : Nat → Int32) => (ap1 (I_175 396) fun (y_185 : Int32) => (ap1 ((y_185) + (1 : Int32)) fun (x_186 : Int32) => (ap1 (I_175 397) fun (y_189 : Int32) => (ap1 ((12 : Int32) * (y_189)) fun (x_190 : Int32) => (ap1 (x_186 + x_190) fun (x_192 : Int32) => (ap1 (va_up ri 384 (upd (ri 384) (x_192).toNatClampNeg x_1)) fun (r_195 : Nat → Nat → Int32) => (bnV (g_X12_nextToken_x I_175 J r_195 rj rq) fun (I_199 : Nat → Int32) (J_200 : Nat → Int64) (_ : Nat → Nat → Int32) (_ : Nat → Nat → Int64) (_ : Nat → Nat → Option Nat) => (if (6 : Int32) < x_1 then (if x_1 = (7 : Int32) then (ap1 (x_192 + (1 : Int32)) fun (x_384 : Int32) => (bnI (g_X12_take (100 : Int32) x_384 I_199 J_200 r_195 rj rq) fun (x_386 : Int32) (I_388 : Nat → Int32) (J_389 : Nat → Int64) (ri_390 : Nat → Nat → Int32) (_ : Nat → Nat → Int64) (_ : Nat → Nat → Option Nat) => (if x_386 = (0 : Int32) then (ap1 (I_388 393) fun (y_412 : Int32) => (if (y_412) = (59 : Int32) then (ap1 (I_388 397) fun (y_420 : Int32) => (ap1 ((y_420) + (1 : Int32)) fun (x_421 : Int32) => (ap1 (va_up I_388 397 x_421) fun (I_423 : Nat → Int32) => (bnV (g_X12_nextToken_x I_423 J_389 ri_390 rj rq) fun (I_435 : Nat → Int32) (J_436 : Nat → Int64) (_ : Nat → Nat → Int32) (_ : Nat → Nat → Int64) (_ : Nat → Nat → Option Nat) => ((0 : Int32), I_435, J_436, ri_390, rj, rq))))) else ((1 : Int32), I_388, J_389, ri_390, rj, rq))) else (x_386, I_388, J_389, ri_390, rj, rq)))) else (if x_1 = (8 : Int32) then (ap1 (x_192 + (1 : Int32)) fun (x_312 : Int32) => (bnI (g_X12_take (599 : Int32) x_312 I_199 J_200 r_195 rj rq) fun (x_314 : Int32) (I_316 : Nat → Int32) (J_317 : Nat → Int64) (ri_318 : Nat → Nat → Int32) (_ : Nat → Nat → Int64) (_ : Nat → Nat → Option Nat) => (if x_314 = (0 : Int32) then (ap1 (I_316 393) fun (y_340 : Int32) => (if (y_340) = (59 : Int32) then (ap1 (I_316 397) fun (y_348 : Int32) => (ap1 ((y_348) + (1 : Int32)) fun (x_349 : Int32) => (ap1 (va_up I_316 397 x_349) fun (I_351 : Nat → Int32) => (bnV (g_X12_nextToken_x I_351 J_317 ri_318 rj rq) fun (I_363 : Nat → Int32) (J_364 : Nat → Int64) (_ : Nat → Nat → Int32) (_ : Nat → Nat → Int64) (_ : Nat → Nat → Option Nat) => ((0 : Int32), I_363, J_364, ri_318, rj, rq))))) else ((1 : Int32), I_316, J_317, ri_318, rj, rq))) else (x_314, I_316, J_317, ri_318, rj, rq)))) else (ap1 (x_192 + (1 : Int32)) fun (x_240 : Int32) => (bnI (g_X12_take (1000 : Int32) x_240 I_199 J_200 r_195 rj rq) fun (x_242 : Int32) (I_244 : Nat → Int32) (J_245 : Nat → Int64) (ri_246 : Nat → Nat → Int32) (_ : Nat → Nat → Int64) (_ : Nat → Nat → Option Nat) => (if x_242 = (0 : Int32) then (ap1 (I_244 393) fun (y_268 : Int32) => (if (y_268) = (59 : Int32) then (ap1 (I_244 397) fun (y_276 : Int32) => (ap1 ((y_276) + (1 : Int32)) fun (x_277 : Int32) => (ap1 (va_up I_244 397 x_277) fun (I_279 : Nat → Int32) => (bnV (g_X12_nextToken_x I_279 J_245 ri_246 rj rq) fun (I_291 : Nat → Int32) (J_292 : Nat → Int64) (_ : Nat → Nat → Int32) (_ : Nat → Nat → Int64) (_ : Nat → Nat → Option Nat) => ((0 : Int32), I_291, J_292, ri_246, rj, rq))))) else ((1 : Int32), I_244, J_245, ri_246, rj, rq))) else (x_242, I_244, J_245, ri_246, rj, rq)))))) else (bnI (g_X12_keys x_192 I_199 J_200 r_195 rj rq) fun (x_456 : Int32) (I_458 : Nat → Int32) (J_459 : Nat → Int64) (ri_460 : Nat → Nat → Int32) (_ : Nat → Nat → Int64) (_ : Nat → Nat → Option Nat) => (if x_456 = (0 : Int32) then (ap1 (I_458 393) fun (y_482 : Int32) => (if (y_482) = (59 : Int32) then (ap1 (I_458 397) fun (y_490 : Int32) => (ap1 ((y_490) + (1 : Int32)) fun (x_491 : Int32) => (ap1 (va_up I_458 397 x_491) fun (I_493 : Nat → Int32) => (bnV (g_X12_nextToken_x I_493 J_459 ri_460 rj rq) fun (I_505 : Nat → Int32) (J_506 : Nat → Int64) (_ : Nat → Nat → Int32) (_ : Nat → Nat → Int64) (_ : Nat → Nat → Option Nat) => ((0 : Int32), I_505, J_506, ri_460, rj, rq))))) else ((1 : Int32), I_458, J_459, ri_460, rj, rq))) else (x_456, I_458, J_459, ri_460, rj, rq))))))))))))))))))))))) := rfl
set_option maxHeartbeats 4000000 in
set_option maxRecDepth 100000 in
theorem s_X12_clause (l : Launch) (D : va_G) (t : pq_T) (σ : pq_S) (I : Nat → Nat → Int32) (J : Nat → Nat → Int64) (ri : Nat → Nat → Int32) (rj : Nat → Nat → Int64) (rq : Nat → Nat → Option Nat) (sz : Nat) (tg : Nat → Nat) (hSH : SH σ tg) (hG0 : GT tg I ri) (this : Nat) (hL_this : this ∈ σ.1) (hK_this : σ.2.1 this = 12) (this_a : Nat) (hR_this_a : σ.2.2.1 384 this = some this_a) (hL_this_a : this_a ∈ σ.1) (hK_this_a : σ.2.1 this_a = 13) (hN_this_a : σ.2.2.2 this_a = 12720) (hT_this_a : tg this_a = 384) (this_pile : Nat) (hR_this_pile : σ.2.2.1 400 this = some this_pile) (hL_this_pile : this_pile ∈ σ.1) (hK_this_pile : σ.2.1 this_pile = 13) (hN_this_pile : σ.2.2.2 this_pile = 160) (hT_this_pile : tg this_pile = 400) (hcl : CLz (I 396 this).toInt (I 398 this).toInt (I 402 this).toInt (I 391 this).toInt (I 393 this).toInt (I 397 this).toInt (ri this_a)) : MetI l yX12_clause (wa yX12_clause cX12_clause 4 (some .int)) ({ frames := 8, cells := 0, slots := 0, locals := 179 }) [.ref this] D t σ (I, J, ri, rj, rq) sz 0 0 (fun (r : Int32) (u : pq_S × pq_M) => ∃ I' : Nat → Nat → Int32, ∃ J' : Nat → Nat → Int64, ∃ ri' : Nat → Nat → Int32, u = (σ, I', J', ri', rj, rq) ∧ GM [391, 392, 393, 401, 398, 402, 397] tg σ I ri I' ri' rq ∧ (r.toInt ≠ 0 ∨ (CLz (I' 396 this).toInt (I' 398 this).toInt (I' 402 this).toInt (I' 391 this).toInt (I' 393 this).toInt (I' 397 this).toInt (ri' this_a) ∧ tmM (I' 391 this).toInt (I' 393 this).toInt < tmM (I 391 this).toInt (I 393 this).toInt)) ∧ g_X12_clause (vI 12 σ this I) (vJ 12 σ this J) (vR 12 σ this ri) (vL 12 σ this rj) (vQ 12 σ this rq) = (r, (vI 12 σ this I'), (vJ 12 σ this J'), (vR 12 σ this ri'), (vL 12 σ this rj), (vQ 12 σ this rq)) ∧ FR 12 tg σ this (I, J, ri, rj, rq) (I', J', ri', rj, rq) ∧ rg r 0 5) := by
  refine Met.ofW (cc := cX12_clause) (maxL := 4) (ret := (some .int)) (by decide +kernel) rfl ?_
  intro p e s m args below meth c s₁ B hml hv
  obtain ⟨rfl, hsz, hP, hK, hD0, hN⟩ := hv
  have hx := B.exec
  have hb := B.bytes
  have hr := B.returns
  have hts := atoms_spec (ws := (wa yX12_clause cX12_clause 4 (some .int))) B.pre
  have hown : s.vm.findClass RX12 = some m.cls := findClass_of_methodNamed B.named
  have hlocks := B.notSynchronized
  subst hsz
  have hD : va_D (pq_B t σ (I, J, ri, rj, rq) s.heap.size) (pq_P t σ (I, J, ri, rj, rq)) := hD0.self
  generalize hAe : pq_B t σ (I, J, ri, rj, rq) s.heap.size = A at hD ⊢
  have hA : ∀ q : Nat, s.heap.size ≤ q → A q := fun q h => by rw [← hAe]; exact Or.inr h
  have hS : va_S A s.heap s.heap [] := va_S.rf
  have hG : GM [391, 392, 393, 401, 398, 402, 397] tg σ I ri I ri rq := ⟨hG0, fun _ _ _ => rfl, fun _ _ _ _ _ => rfl, fun _ _ _ _ _ _ => rfl⟩
  have hl := lv_entry ([.ref this]) (n := 4) (Nat.le_of_ble_eq_true rfl)
  rw [lg_entry_eq]
  generalize (lg_sl ([.ref this]) ++ List.replicate (4 - (lg_sl ([.ref this])).length) Slot.unset).toArray = ls at hl ⊢
  have hl : lv_has ls 4 [(0, .ref this)] := hl
  refine q_gen (fun Q hQ => ?_)
  have go : ∀ (H : Heap) (locs : List Loc) (ls : Array Slot), va_P D vwCl (pq_P t σ (I, J, ri, rj, rq)) H → va_D A (pq_P t σ (I, J, ri, rj, rq)) → va_S A s.heap H locs → lv_has ls 4 [(0, .ref this)] → W p l e ({ frames := 8, cells := 0, slots := 0, locals := 179 } : Room) s m (List.toArray ([.ref this] : List Value)) below meth c H locs 0 0 Q (F0 m 0 ls []) := by
    intro H locs ls hP hD hS hl
    have hO_this : this = vo σ 12 this := rfl
    have hVT : VT 12 σ tg this := vt_12 hSH hL_this hK_this
    have hFr : FR 12 tg σ this (I, J, ri, rj, rq) (I, J, ri, rj, rq) := fr_rf
    have hO_this_a : this_a = vrow σ 384 this := vo_k (c := 12) hO_this hR_this_a
    have hO_this_pile : this_pile = vrow σ 400 this := vo_k (c := 12) hO_this hR_this_pile
    obtain ⟨F, hF0⟩ : ∃ F, F = g_X12_clause (vI 12 σ this I) (vJ 12 σ this J) (vR 12 σ this ri) (vL 12 σ this rj) (vQ 12 σ this rq) := ⟨_, rfl⟩
    have hF := hF0.trans g_X12_clause_e
    have hc1 := hcl.1
    have hc3 := hcl.2.2.1
    have hc4 := hcl.2.2.2.1
    have hc5 := hcl.2.2.2.2
    have hn6 : ((ri this_a 6).toNatClampNeg : Int) = (ri this_a 6).toInt := by have z := clampE (ri this_a 6); omega
    have hnC : ((I 397 this).toNatClampNeg : Int) = (I 397 this).toInt := by have z := clampE (I 397 this); omega
    refine lv_aload_n hx hb dX12_clause_0 rfl (lv_at hl 0 rfl) ?_
    refine pk_i (va_runV (As := []) (rest := []) ⟨hx, hb, hml, hown, hts⟩ (s_X12_sortOf l D t σ I J ri rj rq H.size tg hSH hG.1 this hL_this hK_this) (cwV 0 hts (tw_V tw_853 tw_854 tw_855 tw_5 tw_856) rfl rfl rfl cv_yX12_sortOf_0 ⟨Nat.le_of_ble_eq_true rfl, Nat.le_of_ble_eq_true rfl⟩) ⟨pq_blind, pq_recv hK hP hL_this hK_this (by decide +kernel) rfl, pq_pre hK hN hP hD⟩ rfl rfl hl.1 rfl (lv_room (Nat.le_of_ble_eq_true rfl)) dX12_clause_1 ⟨Nat.le_of_ble_eq_true rfl, Nat.le_of_ble_eq_true rfl⟩) hD hS hA (fun x_1 σ1 μ1 H locs hw_2 hP hD hS => ?_)
    obtain ⟨hu_3, hp_6, hfn_7, hr_5⟩ := hw_2
    obtain ⟨hu_3a, hu_3b⟩ := Prod.mk.inj hu_3
    rw [hu_3a, hu_3b] at hP hD
    replace hF := hF.trans (bn_n hfn_7)
    refine lv_istore_n (lv' := [(1, .int x_1), (0, .ref this)]) hx hb dX12_clause_4 rfl hl (by decide +kernel) rfl (fun ls hl => ?_)
    refine lv_iload_n hx hb dX12_clause_5 rfl (lv_at hl 0 rfl) ?_
    refine lv_if_ne (tgt := 11) hx hb dX12_clause_6 (by decide +kernel) (fun c_9 => ?_) (fun c_9 => ?_)
    · replace hF := hF.trans (if_neg c_9)
      have tc_14 : (x_1).toInt ≠ 0 := fun q => c_9 (Int32.toInt_inj.mp q)
      have h_15 : rg x_1 1 9 := rg_ne c_9 hr_5 0 rfl (by decide +kernel)
      have uh_15 := h_15.1
      have vh_15 := h_15.2
      have hT2 : (I 393 this).toInt = 2 := (hp_6.resolve_left (by omega)).2.2
      have hwS : (I 398 this).toInt + 1 ≤ (I 391 this).toInt := hc5.2.1 (by omega)
      have hs3 := hc5.2.2
      clear hp_6 hc5 tc_14
      refine lv_iload_n hx hb dX12_clause_11 rfl (lv_at hl 0 rfl) ?_
      refine lv_iconst (v := 5) hx hb dX12_clause_12 (by decide +kernel) ?_
      refine lv_icmp_lt (tgt := 30) hx hb dX12_clause_13 (by decide +kernel) (fun c_16 => ?_) (fun c_16 => ?_)
      · replace hF := hF.trans (if_pos c_16)
        have tc_21 : (x_1).toInt < 5 := Int32.lt_iff_toInt_lt.mp c_16
        have h_22 : rg x_1 1 4 := rg_lt1 c_16 h_15 (rg_k (5 : Int32) 5 rfl) (by decide +kernel)
        have uh_22 := h_22.1
        have vh_22 := h_22.2
        refine lv_aload_n hx hb dX12_clause_30 rfl (lv_at hl 1 rfl) ?_
        refine pg_f (v := .int (I 397 this)) (C := RX12) (T := TX12) (N := 31) hx hb hts (tw_i inlX12) hown hK hP hL_this hK_this (by decide +kernel) rfl 13 (by decide +kernel) (hts _ (tw_c tw_822)) rfl dX12_clause_31 ?_
        have h_23 : rg (I 397 this) 0 20 := GM.rI hG 397 rfl
        have uh_23 := h_23.1
        have vh_23 := h_23.2
        replace hF := hF.trans (ap_n (vI_e (f := 397) hO_this (by decide +kernel)))
        refine lv_bipush (v := 20) hx hb dX12_clause_34 (by decide +kernel) ?_
        refine lv_icmp_ne (tgt := 41) hx hb dX12_clause_36 (by decide +kernel) (fun c_25 => ?_) (fun c_25 => ?_)
        · replace hF := hF.trans (if_neg c_25)
          have tc_30 : (I 397 this).toInt ≠ 20 := fun q => c_25 (Int32.toInt_inj.mp q)
          have h_31 : rg (I 397 this) 0 19 := rg_ne c_25 h_23 20 rfl (by decide +kernel)
          have uh_31 := h_31.1
          have vh_31 := h_31.2
          clear tc_30
          refine lv_aload_n hx hb dX12_clause_41 rfl (lv_at hl 1 rfl) ?_
          refine lv_dup hx hb dX12_clause_42 rfl ?_
          refine pg_f (v := .int (I 399 this)) (C := RX12) (T := TX12) (N := 31) hx hb hts (tw_i inlX12) hown hK hP hL_this hK_this (by decide +kernel) rfl 15 (by decide +kernel) (hts _ (tw_c tw_829)) rfl dX12_clause_43 ?_
          replace hF := hF.trans (ap_n (vI_e (f := 399) hO_this (by decide +kernel)))
          refine lv_iconst (v := 1) hx hb dX12_clause_46 (by decide +kernel) ?_
          refine lv_iload_n hx hb dX12_clause_47 rfl (lv_at hl 0 rfl) ?_
          refine lv_ishl hx hb dX12_clause_48 ?_
          refine lv_topi (fun x_33 ex_33 => ?_)
          replace hF := hF.trans (ap_n ex_33)
          refine lv_ior hx hb dX12_clause_49 ?_
          refine lv_topi (fun x_34 ex_34 => ?_)
          replace hF := hF.trans (ap_n ex_34)
          refine pp_i (v := x_34) (ty := .int) (C := RX12) (T := TX12) (N := 31) hx hb hts (tw_i inlX12) tyX12 tyX12_ok nmX12 hown hK hP hD hS hL_this hK_this (by decide +kernel) rfl 15 399 (by decide +kernel) (hts _ (tw_c tw_829)) rfl (tyX12_ok 15 (by decide +kernel)) rfl rfl (Nat.le_of_ble_eq_true rfl) (ps_399 _ _ _ _ _) dX12_clause_50 (fun I_35 H locs eI_35 hP hD hS => ?_)
          replace hFr := fr_I (f := 399) hFr hO_this (by decide +kernel) eI_35
          replace hF := hF.trans (ap_n (vI_st (f := 399) hO_this (by decide +kernel) eI_35))
          have hG := GM.wI hG 399 rfl eI_35 (rg_w (rg_full _) (by decide +kernel)) (by decide +kernel)
          have tt_36 : (I_35 396 this).toInt = (I 396 this).toInt := by rw [eI_35, pq_uf _ _ _ (by decide +kernel)]
          have tt_37 : (I_35 398 this).toInt = (I 398 this).toInt := by rw [eI_35, pq_uf _ _ _ (by decide +kernel)]
          have tt_38 : (I_35 401 this).toInt = (I 401 this).toInt := by rw [eI_35, pq_uf _ _ _ (by decide +kernel)]
          have tt_39 : (I_35 402 this).toInt = (I 402 this).toInt := by rw [eI_35, pq_uf _ _ _ (by decide +kernel)]
          have tt_40 : (I_35 391 this).toInt = (I 391 this).toInt := by rw [eI_35, pq_uf _ _ _ (by decide +kernel)]
          have tt_41 : (I_35 393 this).toInt = (I 393 this).toInt := by rw [eI_35, pq_uf _ _ _ (by decide +kernel)]
          have tt_42 : (I_35 403 this).toInt = (I 403 this).toInt := by rw [eI_35, pq_uf _ _ _ (by decide +kernel)]
          have tt_43 : (I_35 397 this).toInt = (I 397 this).toInt := by rw [eI_35, pq_uf _ _ _ (by decide +kernel)]
          refine lv_aload_n hx hb dX12_clause_53 rfl (lv_at hl 1 rfl) ?_
          refine pg_f (v := .int (I_35 396 this)) (C := RX12) (T := TX12) (N := 31) hx hb hts (tw_i inlX12) hown hK hP hL_this hK_this (by decide +kernel) rfl 12 (by decide +kernel) (hts _ (tw_c tw_821)) rfl dX12_clause_54 ?_
          have h_44 : rg (I_35 396 this) 0 11820 := GM.rI hG 396 rfl
          have uh_44 := h_44.1
          have vh_44 := h_44.2
          replace hF := hF.trans (ap_n (vI_e (f := 396) hO_this (by decide +kernel)))
          refine lv_iconst (v := 1) hx hb dX12_clause_57 (by decide +kernel) ?_
          refine lv_iadd hx hb dX12_clause_58 ?_
          refine lv_topi (fun x_46 ex_46 => ?_)
          replace hF := hF.trans (ap_n ex_46)
          have h_47 : rg x_46 1 11821 := rg_of_eq ex_46 (rg_add h_44 (rg_k (1 : Int32) 1 rfl) (by decide +kernel))
          have uh_47 := h_47.1
          have vh_47 := h_47.2
          have tx_46 : (x_46).toInt = (I_35 396 this).toInt + 1 := by rw [ex_46]; exact i_add_rg (a2 := (I_35 396 this).toInt) (b2 := 1) rfl rfl h_44 (rg_k (1 : Int32) 1 rfl) (by decide +kernel)
          refine lv_bipush (v := 12) hx hb dX12_clause_59 (by decide +kernel) ?_
          refine lv_aload_n hx hb dX12_clause_61 rfl (lv_at hl 1 rfl) ?_
          refine pg_f (v := .int (I_35 397 this)) (C := RX12) (T := TX12) (N := 31) hx hb hts (tw_i inlX12) hown hK hP hL_this hK_this (by decide +kernel) rfl 13 (by decide +kernel) (hts _ (tw_c tw_822)) rfl dX12_clause_62 ?_
          have h_48 : rg (I_35 397 this) 0 19 := (by rw [eI_35, pq_uf _ _ _ (by decide +kernel)]; exact h_31)
          have uh_48 := h_48.1
          have vh_48 := h_48.2
          replace hF := hF.trans (ap_n (vI_e (f := 397) hO_this (by decide +kernel)))
          refine lv_imul hx hb dX12_clause_65 ?_
          refine lv_topi (fun x_50 ex_50 => ?_)
          replace hF := hF.trans (ap_n ex_50)
          have h_51 : rg x_50 0 228 := rg_of_eq ex_50 (rg_mul (rg_k (12 : Int32) 12 rfl) h_48 (by decide +kernel))
          have uh_51 := h_51.1
          have vh_51 := h_51.2
          have tx_50 : (x_50).toInt = 12 * (I_35 397 this).toInt := by rw [ex_50]; exact i_mul_rg (a2 := 12) (b2 := (I_35 397 this).toInt) rfl rfl (rg_k (12 : Int32) 12 rfl) h_48 (by decide +kernel)
          refine lv_iadd hx hb dX12_clause_66 ?_
          refine lv_topi (fun x_52 ex_52 => ?_)
          replace hF := hF.trans (ap_n ex_52)
          have h_53 : rg x_52 1 12049 := rg_of_eq ex_52 (rg_add h_47 h_51 (by decide +kernel))
          have uh_53 := h_53.1
          have vh_53 := h_53.2
          have tx_52 : (x_52).toInt = (x_46).toInt + (x_50).toInt := by rw [ex_52]; exact i_add_rg (a2 := (x_46).toInt) (b2 := (x_50).toInt) rfl rfl h_47 h_51 (by decide +kernel)
          have hcx : (x_52).toInt = 3721 + 900 * (ri this_a 6).toInt + 12 * (I 397 this).toInt := by omega
          have hC19 : rg (I 397 this) 0 19 := ⟨by omega, by omega⟩
          have h_54 : rg x_52 3721 12049 := ⟨by omega, by omega⟩
          have uh_54 := h_54.1
          have vh_54 := h_54.2
          have hnX : ((x_52).toNatClampNeg : Int) = (x_52).toInt := by have z := clampE x_52; omega
          refine lv_istore_n (lv' := [(2, .int x_52), (1, .int x_1), (0, .ref this)]) hx hb dX12_clause_67 rfl hl (by decide +kernel) rfl (fun ls hl => ?_)
          refine lv_aload_n hx hb dX12_clause_68 rfl (lv_at hl 2 rfl) ?_
          refine pg_f (v := .ref this_a) (C := RX12) (T := TX12) (N := 31) hx hb hts (tw_i inlX12) hown hK hP hL_this hK_this (by decide +kernel) rfl 0 (by decide +kernel) (hts _ (tw_c tw_176)) (pq_hv rfl hR_this_a) dX12_clause_69 ?_
          refine lv_iload_n hx hb dX12_clause_72 rfl (lv_at hl 0 rfl) ?_
          refine lv_iload_n hx hb dX12_clause_73 rfl (lv_at hl 1 rfl) ?_
          refine pt_i hx hb hK hP hD hS hL_this_a hK_this_a hN_this_a (rg_in h_54 (by decide +kernel)) dX12_clause_74 (fun r_55 H locs er_55 hP hD hS => ?_)
          replace hFr := fr_R hFr hO_this_a (by decide +kernel) er_55
          replace hF := hF.trans (ap_n (vR_st hVT hO_this_a (by decide +kernel) er_55))
          have hG := GM.wt hG hT_this_a (by decide +kernel) er_55 (zn_tc (t := (ri this_a 6).toNatClampNeg) (c := (I 397 this).toNatClampNeg) (k := 0) (by have z_i := clampE x_52; have z_0 := clampE (ri this_a 6); have z_1 := clampE (I 397 this); omega) (rg_cl1 ⟨hc1.2.1, hc1.2.2⟩ (by decide +kernel)) (rg_cl1 hC19 (by decide +kernel)) (by decide +kernel)) rfl (rg_w h_22 (by decide +kernel)) (by have z6 := congrArg Int32.toInt (hG.2.2.1 this_a hT_this_a 6 (by decide +kernel) (by decide +kernel)); have z_i := clampE x_52; omega) (by decide +kernel)
          refine lv_aload_n hx hb dX12_clause_75 rfl (lv_at hl 2 rfl) ?_
          obtain ⟨w_56, hR_w_56, hL_w_56, hK_w_56, hN_w_56, hT_w_56⟩ := sh_a hSH 387 (ci := 12) (kd := 13) (len := 300) rfl (by decide +kernel) hL_this hK_this
          have hO_w_56 : w_56 = vrow σ 387 this := vo_k (c := 12) hO_this hR_w_56
          refine pk_v (va_runV (As := []) (rest := []) ⟨hx, hb, hml, hown, hts⟩ (s_X12_nextToken_x l D t σ I_35 J r_55 rj rq H.size tg hSH hG.1 this hL_this hK_this w_56 hR_w_56 hL_w_56 hK_w_56 hN_w_56 hT_w_56) (cwV 0 hts (tw_V tw_832 tw_833 tw_834 tw_5 tw_835) rfl rfl rfl cv_yX12_nextToken_0 ⟨Nat.le_of_ble_eq_true rfl, Nat.le_of_ble_eq_true rfl⟩) ⟨pq_blind, pq_recv hK hP hL_this hK_this (by decide +kernel) rfl, pq_pre hK hN hP hD⟩ rfl rfl hl.1 rfl (lv_room (Nat.le_of_ble_eq_true rfl)) dX12_clause_76 ⟨Nat.le_of_ble_eq_true rfl, Nat.le_of_ble_eq_true rfl⟩) hD hS hA (fun σ1 μ1 H locs hw_58 hP hD hS => ?_)
          obtain ⟨I_59, J_60, hu_61, hg_62, hp_64, hp_65, hp_66, hfn_67, hfr_68⟩ := hw_58
          obtain ⟨hu_61a, hu_61b⟩ := Prod.mk.inj hu_61
          rw [hu_61a, hu_61b] at hP hD
          replace hF := hF.trans (bv_n hfn_67)
          replace hFr := fr_tr hFr hfr_68
          have tt_69 : (I_59 391 this).toInt ≤ 300 := by have z := hg_62.1.1 391 this; exact z.2
          have hG := GM.tr hG hg_62 (by decide +kernel)
          have tt_70 : (I_59 396 this).toInt = (I_35 396 this).toInt := by rw [hg_62.2.1 396 (by decide +kernel) (by decide +kernel)]
          have tt_71 : (I_59 398 this).toInt = (I_35 398 this).toInt := by rw [hg_62.2.1 398 (by decide +kernel) (by decide +kernel)]
          have tt_72 : (I_59 401 this).toInt = (I_35 401 this).toInt := by rw [hg_62.2.1 401 (by decide +kernel) (by decide +kernel)]
          have tt_73 : (I_59 402 this).toInt = (I_35 402 this).toInt := by rw [hg_62.2.1 402 (by decide +kernel) (by decide +kernel)]
          have tt_74 : (I_59 397 this).toInt = (I_35 397 this).toInt := by rw [hg_62.2.1 397 (by decide +kernel) (by decide +kernel)]
          have htmH : tmM (I_59 391 this).toInt (I_59 393 this).toInt ≤ tmM (I 391 this).toInt (I 393 this).toInt := Int.le_of_lt (tm_cg (tm_lt (s := (I_35 391 this).toInt) (k := (I_35 393 this).toInt) (by omega) hp_64 hp_65) rfl rfl (by omega) (by omega))
          clear hp_65
          refine lv_iconst (v := 0) hx hb dX12_clause_79 (by decide +kernel) ?_
          refine lv_istore_n (lv' := [(3, .int 0), (2, .int x_52), (1, .int x_1), (0, .ref this)]) hx hb dX12_clause_80 rfl hl (by decide +kernel) rfl (fun ls hl => ?_)
          refine lv_iload_n hx hb dX12_clause_81 rfl (lv_at hl 2 rfl) ?_
          refine lv_iconst (v := 4) hx hb dX12_clause_82 (by decide +kernel) ?_
          refine lv_icmp_gt (tgt := 118) hx hb dX12_clause_83 (by decide +kernel) (fun c_75 => ?_) (fun c_75 => ?_)
          · have tc_78 : 4 < (x_1).toInt := Int32.lt_iff_toInt_lt.mp c_75
            exact (rg_empty (rg_lt2 c_75 (rg_k (4 : Int32) 4 rfl) h_22 (lo := 5) (hi := 4) (by decide +kernel)) (by decide +kernel)).elim
          · have tc_79 : (x_1).toInt ≤ 4 := Int32.le_iff_toInt_le.mp (nlt c_75)
            refine lv_aload_n hx hb dX12_clause_86 rfl (lv_at hl 3 rfl) ?_
            refine pg_f (v := .ref this_a) (C := RX12) (T := TX12) (N := 31) hx hb hts (tw_i inlX12) hown hK hP hL_this hK_this (by decide +kernel) rfl 0 (by decide +kernel) (hts _ (tw_c tw_176)) (pq_hv rfl hR_this_a) dX12_clause_87 ?_
            refine lv_iload_n hx hb dX12_clause_90 rfl (lv_at hl 1 rfl) ?_
            refine lv_iconst (v := 2) hx hb dX12_clause_91 (by decide +kernel) ?_
            refine lv_iadd hx hb dX12_clause_92 ?_
            refine lv_topi (fun x_80 ex_80 => ?_)
            replace hF := hF.trans (ap_n ex_80)
            have h_81 : rg x_80 3723 12051 := rg_of_eq ex_80 (rg_add h_54 (rg_k (2 : Int32) 2 rfl) (by decide +kernel))
            have uh_81 := h_81.1
            have vh_81 := h_81.2
            have tx_80 : (x_80).toInt = (x_52).toInt + 2 := by rw [ex_80]; exact i_add_rg (a2 := (x_52).toInt) (b2 := 2) rfl rfl h_54 (rg_k (2 : Int32) 2 rfl) (by decide +kernel)
            refine lv_aload_n hx hb dX12_clause_93 rfl (lv_at hl 3 rfl) ?_
            refine pg_f (v := .int (I_59 398 this)) (C := RX12) (T := TX12) (N := 31) hx hb hts (tw_i inlX12) hown hK hP hL_this hK_this (by decide +kernel) rfl 14 (by decide +kernel) (hts _ (tw_c tw_827)) rfl dX12_clause_94 ?_
            have h_82 : rg (I_59 398 this) 0 300 := GM.rI hG 398 rfl
            have uh_82 := h_82.1
            have vh_82 := h_82.2
            replace hF := hF.trans (ap_n (vI_e (f := 398) hO_this (by decide +kernel)))
            refine pt_i hx hb hK hP hD hS hL_this_a hK_this_a hN_this_a (rg_in h_81 (by decide +kernel)) dX12_clause_97 (fun r_84 H locs er_84 hP hD hS => ?_)
            replace hFr := fr_R hFr hO_this_a (by decide +kernel) er_84
            replace hF := hF.trans (ap_n (vR_st hVT hO_this_a (by decide +kernel) er_84))
            have hG := GM.wt hG hT_this_a (by decide +kernel) er_84 (zn_tc (t := (ri this_a 6).toNatClampNeg) (c := (I 397 this).toNatClampNeg) (k := 2) (by have z_i := clampE x_80; have z_0 := clampE (ri this_a 6); have z_1 := clampE (I 397 this); omega) (rg_cl1 ⟨hc1.2.1, hc1.2.2⟩ (by decide +kernel)) (rg_cl1 hC19 (by decide +kernel)) (by decide +kernel)) rfl (rg_w h_82 (by decide +kernel)) (by have z6 := congrArg Int32.toInt (hG.2.2.1 this_a hT_this_a 6 (by decide +kernel) (by decide +kernel)); have z_i := clampE x_80; omega) (by decide +kernel)
            refine lv_aload_n hx hb dX12_clause_98 rfl (lv_at hl 3 rfl) ?_
            have h26 : r_84 this_a 6 = ri this_a 6 := hG.2.2.1 this_a hT_this_a 6 (by decide +kernel) (by decide +kernel)
            have hpbN := PBz_new (t := (I_59 396 this).toInt) (w := (I_59 398 this).toInt) (o := (I_59 402 this).toInt) (s := (I_59 391 this).toInt) (k := (I_59 393 this).toInt) (f := r_84 this_a) (by rw [h26]; omega) (by omega) (by omega) (by omega) (fun q => by omega) (by omega)
            refine pk_i (va_runV (As := []) (rest := []) ⟨hx, hb, hml, hown, hts⟩ (s_X12_either l D t σ I_59 J_60 r_84 rj rq H.size tg hSH hG.1 this hL_this hK_this this_a hR_this_a hL_this_a hK_this_a hN_this_a hT_this_a this_pile hR_this_pile hL_this_pile hK_this_pile hN_this_pile hT_this_pile (3970 + 900 * (r_84 this_a 6).toInt + 2 * (I_59 398 this).toInt).toNat (r_84 this_a) (I_59 398 this).toInt 0 0 0 0 (by assumption)) (cwV 0 hts (tw_V tw_870 tw_871 tw_872 tw_5 tw_873) rfl rfl rfl cv_yX12_either_0 ⟨Nat.le_of_ble_eq_true rfl, Nat.le_of_ble_eq_true rfl⟩) ⟨pq_blind, pq_recv hK hP hL_this hK_this (by decide +kernel) rfl, pq_pre hK hN hP hD⟩ rfl rfl hl.1 rfl (lv_room (Nat.le_of_ble_eq_true rfl)) dX12_clause_99 ⟨Nat.le_of_ble_eq_true rfl, Nat.le_of_ble_eq_true rfl⟩) hD hS hA (fun x_85 σ1 μ1 H locs hw_86 hP hD hS => ?_)
            obtain ⟨I_87, J_88, ri_89, hu_90, hg_91, hp_93, hfn_94, hfr_95, hr_92⟩ := hw_86
            obtain ⟨hu_90a, hu_90b⟩ := Prod.mk.inj hu_90
            rw [hu_90a, hu_90b] at hP hD
            replace hF := hF.trans (bn_n hfn_94)
            replace hFr := fr_tr hFr hfr_95
            have hG := GM.tr hG hg_91 (by decide +kernel)
            have tt_96 : (I_87 396 this).toInt = (I_59 396 this).toInt := by rw [hg_91.2.1 396 (by decide +kernel) (by decide +kernel)]
            have tt_97 : (I_87 397 this).toInt = (I_59 397 this).toInt := by rw [hg_91.2.1 397 (by decide +kernel) (by decide +kernel)]
            refine lv_istore_n (lv' := [(3, .int x_85), (2, .int x_52), (1, .int x_1), (0, .ref this)]) hx hb dX12_clause_102 rfl hl (by decide +kernel) rfl (fun ls hl => ?_)
            refine lv_aload_n hx hb dX12_clause_103 rfl (lv_at hl 3 rfl) ?_
            refine pg_f (v := .ref this_a) (C := RX12) (T := TX12) (N := 31) hx hb hts (tw_i inlX12) hown hK hP hL_this hK_this (by decide +kernel) rfl 0 (by decide +kernel) (hts _ (tw_c tw_176)) (pq_hv rfl hR_this_a) dX12_clause_104 ?_
            refine lv_iload_n hx hb dX12_clause_107 rfl (lv_at hl 1 rfl) ?_
            refine lv_iconst (v := 3) hx hb dX12_clause_108 (by decide +kernel) ?_
            refine lv_iadd hx hb dX12_clause_109 ?_
            refine lv_topi (fun x_98 ex_98 => ?_)
            replace hF := hF.trans (ap_n ex_98)
            have h_99 : rg x_98 3724 12052 := rg_of_eq ex_98 (rg_add h_54 (rg_k (3 : Int32) 3 rfl) (by decide +kernel))
            have uh_99 := h_99.1
            have vh_99 := h_99.2
            have tx_98 : (x_98).toInt = (x_52).toInt + 3 := by rw [ex_98]; exact i_add_rg (a2 := (x_52).toInt) (b2 := 3) rfl rfl h_54 (rg_k (3 : Int32) 3 rfl) (by decide +kernel)
            refine lv_aload_n hx hb dX12_clause_110 rfl (lv_at hl 3 rfl) ?_
            refine pg_f (v := .int (I_87 398 this)) (C := RX12) (T := TX12) (N := 31) hx hb hts (tw_i inlX12) hown hK hP hL_this hK_this (by decide +kernel) rfl 14 (by decide +kernel) (hts _ (tw_c tw_827)) rfl dX12_clause_111 ?_
            have h_100 : rg (I_87 398 this) 0 300 := GM.rI hG 398 rfl
            have uh_100 := h_100.1
            have vh_100 := h_100.2
            replace hF := hF.trans (ap_n (vI_e (f := 398) hO_this (by decide +kernel)))
            refine pt_i hx hb hK hP hD hS hL_this_a hK_this_a hN_this_a (rg_in h_99 (by decide +kernel)) dX12_clause_114 (fun r_102 H locs er_102 hP hD hS => ?_)
            replace hFr := fr_R hFr hO_this_a (by decide +kernel) er_102
            replace hF := hF.trans (ap_n (vR_st hVT hO_this_a (by decide +kernel) er_102))
            have hG := GM.wt hG hT_this_a (by decide +kernel) er_102 (zn_tc (t := (ri this_a 6).toNatClampNeg) (c := (I 397 this).toNatClampNeg) (k := 3) (by have z_i := clampE x_98; have z_0 := clampE (ri this_a 6); have z_1 := clampE (I 397 this); omega) (rg_cl1 ⟨hc1.2.1, hc1.2.2⟩ (by decide +kernel)) (rg_cl1 hC19 (by decide +kernel)) (by decide +kernel)) rfl (rg_w h_100 (by decide +kernel)) (by have z6 := congrArg Int32.toInt (hG.2.2.1 this_a hT_this_a 6 (by decide +kernel) (by decide +kernel)); have z_i := clampE x_98; omega) (by decide +kernel)
            refine lv_goto (tgt := 167) hx hb dX12_clause_115 (by decide +kernel) ?_
            refine lv_iload_n hx hb dX12_clause_167 rfl (lv_at hl 0 rfl) ?_
            refine lv_if_eq (tgt := 173) hx hb dX12_clause_168 (by decide +kernel) (fun c_103 => ?_) (fun c_103 => ?_)
            · replace hF := hF.trans (if_pos c_103)
              have tc_108 : (x_85).toInt = 0 := congrArg Int32.toInt c_103
              have h_109 : rg x_85 0 0 := rg_and hr_92 (rg_of_eq c_103 (rg_k (0 : Int32) 0 rfl)) (by decide +kernel)
              have uh_109 := h_109.1
              have vh_109 := h_109.2
              have hE1 := (hp_93.resolve_left (fun q => q (by omega))).1
              have hE2 := (hp_93.resolve_left (fun q => q (by omega))).2
              have hE3 := PBz_all hE1
              clear hp_93
              refine lv_aload_n hx hb dX12_clause_173 rfl (lv_at hl 3 rfl) ?_
              refine pg_f (v := .int (I_87 393 this)) (C := RX12) (T := TX12) (N := 31) hx hb hts (tw_i inlX12) hown hK hP hL_this hK_this (by decide +kernel) rfl 9 (by decide +kernel) (hts _ (tw_c tw_831)) rfl dX12_clause_174 ?_
              replace hF := hF.trans (ap_n (vI_e (f := 393) hO_this (by decide +kernel)))
              refine lv_bipush (v := 59) hx hb dX12_clause_177 (by decide +kernel) ?_
              refine lv_icmp_eq (tgt := 184) hx hb dX12_clause_179 (by decide +kernel) (fun c_111 => ?_) (fun c_111 => ?_)
              · replace hF := hF.trans (if_pos c_111)
                have tc_115 : (I_87 393 this).toInt = 59 := congrArg Int32.toInt c_111
                have h_116 : rg (I_87 393 this) 59 59 := rg_and (rg_full _) (rg_of_eq c_111 (rg_k (59 : Int32) 59 rfl)) (by decide +kernel)
                have uh_116 := h_116.1
                have vh_116 := h_116.2
                refine lv_aload_n hx hb dX12_clause_184 rfl (lv_at hl 3 rfl) ?_
                refine lv_dup hx hb dX12_clause_185 rfl ?_
                refine pg_f (v := .int (I_87 397 this)) (C := RX12) (T := TX12) (N := 31) hx hb hts (tw_i inlX12) hown hK hP hL_this hK_this (by decide +kernel) rfl 13 (by decide +kernel) (hts _ (tw_c tw_822)) rfl dX12_clause_186 ?_
                have h_117 : rg (I_87 397 this) 0 19 := (by rw [hg_91.2.1 397 (by decide +kernel) (by decide +kernel)]; exact (by rw [hg_62.2.1 397 (by decide +kernel) (by decide +kernel)]; exact h_48))
                have uh_117 := h_117.1
                have vh_117 := h_117.2
                replace hF := hF.trans (ap_n (vI_e (f := 397) hO_this (by decide +kernel)))
                refine lv_iconst (v := 1) hx hb dX12_clause_189 (by decide +kernel) ?_
                refine lv_iadd hx hb dX12_clause_190 ?_
                refine lv_topi (fun x_119 ex_119 => ?_)
                replace hF := hF.trans (ap_n ex_119)
                have h_120 : rg x_119 1 20 := rg_of_eq ex_119 (rg_add h_117 (rg_k (1 : Int32) 1 rfl) (by decide +kernel))
                have uh_120 := h_120.1
                have vh_120 := h_120.2
                have tx_119 : (x_119).toInt = (I_87 397 this).toInt + 1 := by rw [ex_119]; exact i_add_rg (a2 := (I_87 397 this).toInt) (b2 := 1) rfl rfl h_117 (rg_k (1 : Int32) 1 rfl) (by decide +kernel)
                refine pp_i (v := x_119) (ty := .int) (C := RX12) (T := TX12) (N := 31) hx hb hts (tw_i inlX12) tyX12 tyX12_ok nmX12 hown hK hP hD hS hL_this hK_this (by decide +kernel) rfl 13 397 (by decide +kernel) (hts _ (tw_c tw_822)) rfl (tyX12_ok 13 (by decide +kernel)) rfl rfl (Nat.le_of_ble_eq_true rfl) (ps_397 _ _ _ _ _) dX12_clause_191 (fun I_121 H locs eI_121 hP hD hS => ?_)
                replace hFr := fr_I (f := 397) hFr hO_this (by decide +kernel) eI_121
                replace hF := hF.trans (ap_n (vI_st (f := 397) hO_this (by decide +kernel) eI_121))
                have hG := GM.wI hG 397 rfl eI_121 (rg_w h_120 (by decide +kernel)) (by decide +kernel)
                have tt_122 : (I_121 396 this).toInt = (I_87 396 this).toInt := by rw [eI_121, pq_uf _ _ _ (by decide +kernel)]
                have tt_123 : (I_121 398 this).toInt = (I_87 398 this).toInt := by rw [eI_121, pq_uf _ _ _ (by decide +kernel)]
                have tt_124 : (I_121 401 this).toInt = (I_87 401 this).toInt := by rw [eI_121, pq_uf _ _ _ (by decide +kernel)]
                have tt_125 : (I_121 402 this).toInt = (I_87 402 this).toInt := by rw [eI_121, pq_uf _ _ _ (by decide +kernel)]
                have tt_126 : (I_121 391 this).toInt = (I_87 391 this).toInt := by rw [eI_121, pq_uf _ _ _ (by decide +kernel)]
                have tt_127 : (I_121 393 this).toInt = (I_87 393 this).toInt := by rw [eI_121, pq_uf _ _ _ (by decide +kernel)]
                have tt_128 : (I_121 403 this).toInt = (I_87 403 this).toInt := by rw [eI_121, pq_uf _ _ _ (by decide +kernel)]
                have tt_129 : (I_121 397 this).toInt = (x_119).toInt := by rw [eI_121, pq_us]
                refine lv_aload_n hx hb dX12_clause_194 rfl (lv_at hl 3 rfl) ?_
                have hkn_130 : (I_121 393 this).toInt ≠ 0 := by omega
                refine pk_v (va_runV (As := []) (rest := []) ⟨hx, hb, hml, hown, hts⟩ (s_X12_nextToken_x l D t σ I_121 J_88 r_102 rj rq H.size tg hSH hG.1 this hL_this hK_this w_56 hR_w_56 hL_w_56 hK_w_56 hN_w_56 hT_w_56) (cwV 0 hts (tw_V tw_832 tw_833 tw_834 tw_5 tw_835) rfl rfl rfl cv_yX12_nextToken_0 ⟨Nat.le_of_ble_eq_true rfl, Nat.le_of_ble_eq_true rfl⟩) ⟨pq_blind, pq_recv hK hP hL_this hK_this (by decide +kernel) rfl, pq_pre hK hN hP hD⟩ rfl rfl hl.1 rfl (lv_room (Nat.le_of_ble_eq_true rfl)) dX12_clause_195 ⟨Nat.le_of_ble_eq_true rfl, Nat.le_of_ble_eq_true rfl⟩) hD hS hA (fun σ1 μ1 H locs hw_132 hP hD hS => ?_)
                obtain ⟨I_133, J_134, hu_135, hg_136, hp_138, hp_139, hp_140, hfn_141, hfr_142⟩ := hw_132
                obtain ⟨hu_135a, hu_135b⟩ := Prod.mk.inj hu_135
                rw [hu_135a, hu_135b] at hP hD
                replace hF := hF.trans (bv_n hfn_141)
                replace hFr := fr_tr hFr hfr_142
                have tt_143 : (I_133 391 this).toInt ≤ 300 := by have z := hg_136.1.1 391 this; exact z.2
                have hG := GM.tr hG hg_136 (by decide +kernel)
                have tt_144 : (I_133 396 this).toInt = (I_121 396 this).toInt := by rw [hg_136.2.1 396 (by decide +kernel) (by decide +kernel)]
                have tt_145 : (I_133 398 this).toInt = (I_121 398 this).toInt := by rw [hg_136.2.1 398 (by decide +kernel) (by decide +kernel)]
                have tt_146 : (I_133 401 this).toInt = (I_121 401 this).toInt := by rw [hg_136.2.1 401 (by decide +kernel) (by decide +kernel)]
                have tt_147 : (I_133 402 this).toInt = (I_121 402 this).toInt := by rw [hg_136.2.1 402 (by decide +kernel) (by decide +kernel)]
                have tt_148 : (I_133 397 this).toInt = (I_121 397 this).toInt := by rw [hg_136.2.1 397 (by decide +kernel) (by decide +kernel)]
                refine lv_iconst (v := 0) hx hb dX12_clause_198 (by decide +kernel) ?_
                subst hQ
                exact W.iret (v := 0) hx hb hr (fun t1 ht hW => ⟨⟨0, (σ, I_133, J_134, r_102, rj, rq), rfl, ⟨I_133, J_134, r_102, rfl, hG, (Or.inr ⟨(CLz_mk (by rw [show r_102 this_a 6 = ri this_a 6 from hG.2.2.1 this_a hT_this_a 6 (by decide +kernel) (by decide +kernel)]; omega) (by rw [show (I_133 397 this).toInt = (((I 397 this).toNatClampNeg + 1 : Nat) : Int) from by omega]; have q := TXQ_code (f := ri this_a) (w := (I_59 398 this).toInt) (n := (I 397 this).toNatClampNeg) (ci := (x_52).toNatClampNeg) (by rw [show (((I 397 this).toNatClampNeg : Nat) : Int) = (I 397 this).toInt from by omega, show (I_59 398 this).toInt = (I 398 this).toInt from by omega]; exact hcl.2.1) (by omega) ⟨by omega, by omega⟩ (by omega) (by omega) ((congrFun er_55 _).trans (va_up_self _ _ _)) (by have z0 := clampE x_80; omega) ((congrFun er_84 _).trans (va_up_self _ _ _)) hE1 (by have z0 := clampE x_98; omega) ((congrFun er_102 _).trans (va_up_self _ _ _)) (by omega) (by omega); rw [show (I_133 398 this).toInt = (I_87 398 this).toInt from by omega]; exact q) (by omega) (by omega) (by omega) (fun q => by omega) (by omega)), (Int.lt_of_lt_of_le (tm_lt hkn_130 hp_138 hp_139) (tm_lec (Int.le_trans hE2 htmH) (by omega) (by omega)))⟩), (hF0.symm.trans hF), hFr, (rg_w (rg_k (0 : Int32) 0 rfl) (by decide +kernel))⟩, by rw [ht]; exact hP, va_K.moved hW.alike hK, hD⟩, hS.F ht⟩) hS.2.2 dX12_clause_199
              · replace hF := hF.trans (if_neg c_111)
                have tc_149 : (I_87 393 this).toInt ≠ 59 := fun q => c_111 (Int32.toInt_inj.mp q)
                refine lv_iconst (v := 1) hx hb dX12_clause_182 (by decide +kernel) ?_
                subst hQ
                exact W.iret (v := 1) hx hb hr (fun t1 ht hW => ⟨⟨1, (σ, I_87, J_88, r_102, rj, rq), rfl, ⟨I_87, J_88, r_102, rfl, hG, (Or.inl (by decide +kernel)), (hF0.symm.trans hF), hFr, (rg_w (rg_k (1 : Int32) 1 rfl) (by decide +kernel))⟩, by rw [ht]; exact hP, va_K.moved hW.alike hK, hD⟩, hS.F ht⟩) hS.2.2 dX12_clause_183
            · replace hF := hF.trans (if_neg c_103)
              have tc_150 : (x_85).toInt ≠ 0 := fun q => c_103 (Int32.toInt_inj.mp q)
              have h_151 : rg x_85 1 3 := rg_ne c_103 hr_92 0 rfl (by decide +kernel)
              have uh_151 := h_151.1
              have vh_151 := h_151.2
              refine lv_iload_n hx hb dX12_clause_171 rfl (lv_at hl 0 rfl) ?_
              subst hQ
              exact W.iret (v := x_85) hx hb hr (fun t1 ht hW => ⟨⟨x_85, (σ, I_87, J_88, r_102, rj, rq), rfl, ⟨I_87, J_88, r_102, rfl, hG, (Or.inl (by omega)), (hF0.symm.trans hF), hFr, (rg_w h_151 (by decide +kernel))⟩, by rw [ht]; exact hP, va_K.moved hW.alike hK, hD⟩, hS.F ht⟩) hS.2.2 dX12_clause_172
        · replace hF := hF.trans (if_pos c_25)
          have tc_152 : (I 397 this).toInt = 20 := congrArg Int32.toInt c_25
          have h_153 : rg (I 397 this) 20 20 := rg_and h_23 (rg_of_eq c_25 (rg_k (20 : Int32) 20 rfl)) (by decide +kernel)
          have uh_153 := h_153.1
          have vh_153 := h_153.2
          refine lv_iconst (v := 5) hx hb dX12_clause_39 (by decide +kernel) ?_
          subst hQ
          exact W.iret (v := 5) hx hb hr (fun t1 ht hW => ⟨⟨5, (σ, I, J, ri, rj, rq), rfl, ⟨I, J, ri, rfl, hG, (Or.inl (by decide +kernel)), (hF0.symm.trans hF), hFr, (rg_w (rg_k (5 : Int32) 5 rfl) (by decide +kernel))⟩, by rw [ht]; exact hP, va_K.moved hW.alike hK, hD⟩, hS.F ht⟩) hS.2.2 dX12_clause_40
      · replace hF := hF.trans (if_neg c_16)
        have tc_154 : 5 ≤ (x_1).toInt := Int32.le_iff_toInt_le.mp (nlt c_16)
        have h_155 : rg x_1 5 9 := rg_le2 (nlt c_16) (rg_k (5 : Int32) 5 rfl) h_15 (by decide +kernel)
        have uh_155 := h_155.1
        have vh_155 := h_155.2
        refine lv_aload_n hx hb dX12_clause_16 rfl (lv_at hl 1 rfl) ?_
        refine pg_f (v := .int (I 399 this)) (C := RX12) (T := TX12) (N := 31) hx hb hts (tw_i inlX12) hown hK hP hL_this hK_this (by decide +kernel) rfl 15 (by decide +kernel) (hts _ (tw_c tw_829)) rfl dX12_clause_17 ?_
        replace hF := hF.trans (ap_n (vI_e (f := 399) hO_this (by decide +kernel)))
        refine lv_iload_n hx hb dX12_clause_20 rfl (lv_at hl 0 rfl) ?_
        refine lv_ishr hx hb dX12_clause_21 ?_
        refine lv_topi (fun x_157 ex_157 => ?_)
        replace hF := hF.trans (ap_n ex_157)
        refine lv_iconst (v := 1) hx hb dX12_clause_22 (by decide +kernel) ?_
        refine lv_iand hx hb dX12_clause_23 ?_
        refine lv_topi (fun x_158 ex_158 => ?_)
        replace hF := hF.trans (ap_n ex_158)
        refine lv_iconst (v := 1) hx hb dX12_clause_24 (by decide +kernel) ?_
        refine lv_icmp_ne (tgt := 30) hx hb dX12_clause_25 (by decide +kernel) (fun c_159 => ?_) (fun c_159 => ?_)
        · replace hF := hF.trans (if_neg c_159)
          have tc_163 : (x_158).toInt ≠ 1 := fun q => c_159 (Int32.toInt_inj.mp q)
          refine lv_aload_n hx hb dX12_clause_30 rfl (lv_at hl 1 rfl) ?_
          refine pg_f (v := .int (I 397 this)) (C := RX12) (T := TX12) (N := 31) hx hb hts (tw_i inlX12) hown hK hP hL_this hK_this (by decide +kernel) rfl 13 (by decide +kernel) (hts _ (tw_c tw_822)) rfl dX12_clause_31 ?_
          have h_164 : rg (I 397 this) 0 20 := GM.rI hG 397 rfl
          have uh_164 := h_164.1
          have vh_164 := h_164.2
          replace hF := hF.trans (ap_n (vI_e (f := 397) hO_this (by decide +kernel)))
          refine lv_bipush (v := 20) hx hb dX12_clause_34 (by decide +kernel) ?_
          refine lv_icmp_ne (tgt := 41) hx hb dX12_clause_36 (by decide +kernel) (fun c_166 => ?_) (fun c_166 => ?_)
          · replace hF := hF.trans (if_neg c_166)
            have tc_171 : (I 397 this).toInt ≠ 20 := fun q => c_166 (Int32.toInt_inj.mp q)
            have h_172 : rg (I 397 this) 0 19 := rg_ne c_166 h_164 20 rfl (by decide +kernel)
            have uh_172 := h_172.1
            have vh_172 := h_172.2
            clear tc_163 tc_171
            refine lv_aload_n hx hb dX12_clause_41 rfl (lv_at hl 1 rfl) ?_
            refine lv_dup hx hb dX12_clause_42 rfl ?_
            refine pg_f (v := .int (I 399 this)) (C := RX12) (T := TX12) (N := 31) hx hb hts (tw_i inlX12) hown hK hP hL_this hK_this (by decide +kernel) rfl 15 (by decide +kernel) (hts _ (tw_c tw_829)) rfl dX12_clause_43 ?_
            refine lv_iconst (v := 1) hx hb dX12_clause_46 (by decide +kernel) ?_
            refine lv_iload_n hx hb dX12_clause_47 rfl (lv_at hl 0 rfl) ?_
            refine lv_ishl hx hb dX12_clause_48 ?_
            refine lv_topi (fun x_173 ex_173 => ?_)
            replace hF := hF.trans (ap_n ex_173)
            refine lv_ior hx hb dX12_clause_49 ?_
            refine lv_topi (fun x_174 ex_174 => ?_)
            replace hF := hF.trans (ap_n ex_174)
            refine pp_i (v := x_174) (ty := .int) (C := RX12) (T := TX12) (N := 31) hx hb hts (tw_i inlX12) tyX12 tyX12_ok nmX12 hown hK hP hD hS hL_this hK_this (by decide +kernel) rfl 15 399 (by decide +kernel) (hts _ (tw_c tw_829)) rfl (tyX12_ok 15 (by decide +kernel)) rfl rfl (Nat.le_of_ble_eq_true rfl) (ps_399 _ _ _ _ _) dX12_clause_50 (fun I_175 H locs eI_175 hP hD hS => ?_)
            replace hFr := fr_I (f := 399) hFr hO_this (by decide +kernel) eI_175
            replace hF := hF.trans (ap_n (vI_st (f := 399) hO_this (by decide +kernel) eI_175))
            have hG := GM.wI hG 399 rfl eI_175 (rg_w (rg_full _) (by decide +kernel)) (by decide +kernel)
            have tt_176 : (I_175 396 this).toInt = (I 396 this).toInt := by rw [eI_175, pq_uf _ _ _ (by decide +kernel)]
            have tt_177 : (I_175 398 this).toInt = (I 398 this).toInt := by rw [eI_175, pq_uf _ _ _ (by decide +kernel)]
            have tt_178 : (I_175 401 this).toInt = (I 401 this).toInt := by rw [eI_175, pq_uf _ _ _ (by decide +kernel)]
            have tt_179 : (I_175 402 this).toInt = (I 402 this).toInt := by rw [eI_175, pq_uf _ _ _ (by decide +kernel)]
            have tt_180 : (I_175 391 this).toInt = (I 391 this).toInt := by rw [eI_175, pq_uf _ _ _ (by decide +kernel)]
            have tt_181 : (I_175 393 this).toInt = (I 393 this).toInt := by rw [eI_175, pq_uf _ _ _ (by decide +kernel)]
            have tt_182 : (I_175 403 this).toInt = (I 403 this).toInt := by rw [eI_175, pq_uf _ _ _ (by decide +kernel)]
            have tt_183 : (I_175 397 this).toInt = (I 397 this).toInt := by rw [eI_175, pq_uf _ _ _ (by decide +kernel)]
            refine lv_aload_n hx hb dX12_clause_53 rfl (lv_at hl 1 rfl) ?_
            refine pg_f (v := .int (I_175 396 this)) (C := RX12) (T := TX12) (N := 31) hx hb hts (tw_i inlX12) hown hK hP hL_this hK_this (by decide +kernel) rfl 12 (by decide +kernel) (hts _ (tw_c tw_821)) rfl dX12_clause_54 ?_
            have h_184 : rg (I_175 396 this) 0 11820 := GM.rI hG 396 rfl
            have uh_184 := h_184.1
            have vh_184 := h_184.2
            replace hF := hF.trans (ap_n (vI_e (f := 396) hO_this (by decide +kernel)))
            refine lv_iconst (v := 1) hx hb dX12_clause_57 (by decide +kernel) ?_
            refine lv_iadd hx hb dX12_clause_58 ?_
            refine lv_topi (fun x_186 ex_186 => ?_)
            replace hF := hF.trans (ap_n ex_186)
            have h_187 : rg x_186 1 11821 := rg_of_eq ex_186 (rg_add h_184 (rg_k (1 : Int32) 1 rfl) (by decide +kernel))
            have uh_187 := h_187.1
            have vh_187 := h_187.2
            have tx_186 : (x_186).toInt = (I_175 396 this).toInt + 1 := by rw [ex_186]; exact i_add_rg (a2 := (I_175 396 this).toInt) (b2 := 1) rfl rfl h_184 (rg_k (1 : Int32) 1 rfl) (by decide +kernel)
            refine lv_bipush (v := 12) hx hb dX12_clause_59 (by decide +kernel) ?_
            refine lv_aload_n hx hb dX12_clause_61 rfl (lv_at hl 1 rfl) ?_
            refine pg_f (v := .int (I_175 397 this)) (C := RX12) (T := TX12) (N := 31) hx hb hts (tw_i inlX12) hown hK hP hL_this hK_this (by decide +kernel) rfl 13 (by decide +kernel) (hts _ (tw_c tw_822)) rfl dX12_clause_62 ?_
            have h_188 : rg (I_175 397 this) 0 19 := (by rw [eI_175, pq_uf _ _ _ (by decide +kernel)]; exact h_172)
            have uh_188 := h_188.1
            have vh_188 := h_188.2
            replace hF := hF.trans (ap_n (vI_e (f := 397) hO_this (by decide +kernel)))
            refine lv_imul hx hb dX12_clause_65 ?_
            refine lv_topi (fun x_190 ex_190 => ?_)
            replace hF := hF.trans (ap_n ex_190)
            have h_191 : rg x_190 0 228 := rg_of_eq ex_190 (rg_mul (rg_k (12 : Int32) 12 rfl) h_188 (by decide +kernel))
            have uh_191 := h_191.1
            have vh_191 := h_191.2
            have tx_190 : (x_190).toInt = 12 * (I_175 397 this).toInt := by rw [ex_190]; exact i_mul_rg (a2 := 12) (b2 := (I_175 397 this).toInt) rfl rfl (rg_k (12 : Int32) 12 rfl) h_188 (by decide +kernel)
            refine lv_iadd hx hb dX12_clause_66 ?_
            refine lv_topi (fun x_192 ex_192 => ?_)
            replace hF := hF.trans (ap_n ex_192)
            have h_193 : rg x_192 1 12049 := rg_of_eq ex_192 (rg_add h_187 h_191 (by decide +kernel))
            have uh_193 := h_193.1
            have vh_193 := h_193.2
            have tx_192 : (x_192).toInt = (x_186).toInt + (x_190).toInt := by rw [ex_192]; exact i_add_rg (a2 := (x_186).toInt) (b2 := (x_190).toInt) rfl rfl h_187 h_191 (by decide +kernel)
            have hcx : (x_192).toInt = 3721 + 900 * (ri this_a 6).toInt + 12 * (I 397 this).toInt := by omega
            have hC19 : rg (I 397 this) 0 19 := ⟨by omega, by omega⟩
            have h_194 : rg x_192 3721 12049 := ⟨by omega, by omega⟩
            have uh_194 := h_194.1
            have vh_194 := h_194.2
            have hnX : ((x_192).toNatClampNeg : Int) = (x_192).toInt := by have z := clampE x_192; omega
            refine lv_istore_n (lv' := [(2, .int x_192), (1, .int x_1), (0, .ref this)]) hx hb dX12_clause_67 rfl hl (by decide +kernel) rfl (fun ls hl => ?_)
            refine lv_aload_n hx hb dX12_clause_68 rfl (lv_at hl 2 rfl) ?_
            refine pg_f (v := .ref this_a) (C := RX12) (T := TX12) (N := 31) hx hb hts (tw_i inlX12) hown hK hP hL_this hK_this (by decide +kernel) rfl 0 (by decide +kernel) (hts _ (tw_c tw_176)) (pq_hv rfl hR_this_a) dX12_clause_69 ?_
            refine lv_iload_n hx hb dX12_clause_72 rfl (lv_at hl 0 rfl) ?_
            refine lv_iload_n hx hb dX12_clause_73 rfl (lv_at hl 1 rfl) ?_
            refine pt_i hx hb hK hP hD hS hL_this_a hK_this_a hN_this_a (rg_in h_194 (by decide +kernel)) dX12_clause_74 (fun r_195 H locs er_195 hP hD hS => ?_)
            replace hFr := fr_R hFr hO_this_a (by decide +kernel) er_195
            replace hF := hF.trans (ap_n (vR_st hVT hO_this_a (by decide +kernel) er_195))
            have hG := GM.wt hG hT_this_a (by decide +kernel) er_195 (zn_tc (t := (ri this_a 6).toNatClampNeg) (c := (I 397 this).toNatClampNeg) (k := 0) (by have z_i := clampE x_192; have z_0 := clampE (ri this_a 6); have z_1 := clampE (I 397 this); omega) (rg_cl1 ⟨hc1.2.1, hc1.2.2⟩ (by decide +kernel)) (rg_cl1 hC19 (by decide +kernel)) (by decide +kernel)) rfl (rg_w h_155 (by decide +kernel)) (by have z6 := congrArg Int32.toInt (hG.2.2.1 this_a hT_this_a 6 (by decide +kernel) (by decide +kernel)); have z_i := clampE x_192; omega) (by decide +kernel)
            refine lv_aload_n hx hb dX12_clause_75 rfl (lv_at hl 2 rfl) ?_
            obtain ⟨w_196, hR_w_196, hL_w_196, hK_w_196, hN_w_196, hT_w_196⟩ := sh_a hSH 387 (ci := 12) (kd := 13) (len := 300) rfl (by decide +kernel) hL_this hK_this
            have hO_w_196 : w_196 = vrow σ 387 this := vo_k (c := 12) hO_this hR_w_196
            refine pk_v (va_runV (As := []) (rest := []) ⟨hx, hb, hml, hown, hts⟩ (s_X12_nextToken_x l D t σ I_175 J r_195 rj rq H.size tg hSH hG.1 this hL_this hK_this w_196 hR_w_196 hL_w_196 hK_w_196 hN_w_196 hT_w_196) (cwV 0 hts (tw_V tw_832 tw_833 tw_834 tw_5 tw_835) rfl rfl rfl cv_yX12_nextToken_0 ⟨Nat.le_of_ble_eq_true rfl, Nat.le_of_ble_eq_true rfl⟩) ⟨pq_blind, pq_recv hK hP hL_this hK_this (by decide +kernel) rfl, pq_pre hK hN hP hD⟩ rfl rfl hl.1 rfl (lv_room (Nat.le_of_ble_eq_true rfl)) dX12_clause_76 ⟨Nat.le_of_ble_eq_true rfl, Nat.le_of_ble_eq_true rfl⟩) hD hS hA (fun σ1 μ1 H locs hw_198 hP hD hS => ?_)
            obtain ⟨I_199, J_200, hu_201, hg_202, hp_204, hp_205, hp_206, hfn_207, hfr_208⟩ := hw_198
            obtain ⟨hu_201a, hu_201b⟩ := Prod.mk.inj hu_201
            rw [hu_201a, hu_201b] at hP hD
            replace hF := hF.trans (bv_n hfn_207)
            replace hFr := fr_tr hFr hfr_208
            have tt_209 : (I_199 391 this).toInt ≤ 300 := by have z := hg_202.1.1 391 this; exact z.2
            have hG := GM.tr hG hg_202 (by decide +kernel)
            have tt_210 : (I_199 396 this).toInt = (I_175 396 this).toInt := by rw [hg_202.2.1 396 (by decide +kernel) (by decide +kernel)]
            have tt_211 : (I_199 398 this).toInt = (I_175 398 this).toInt := by rw [hg_202.2.1 398 (by decide +kernel) (by decide +kernel)]
            have tt_212 : (I_199 401 this).toInt = (I_175 401 this).toInt := by rw [hg_202.2.1 401 (by decide +kernel) (by decide +kernel)]
            have tt_213 : (I_199 402 this).toInt = (I_175 402 this).toInt := by rw [hg_202.2.1 402 (by decide +kernel) (by decide +kernel)]
            have tt_214 : (I_199 397 this).toInt = (I_175 397 this).toInt := by rw [hg_202.2.1 397 (by decide +kernel) (by decide +kernel)]
            have htmH : tmM (I_199 391 this).toInt (I_199 393 this).toInt ≤ tmM (I 391 this).toInt (I 393 this).toInt := Int.le_of_lt (tm_cg (tm_lt (s := (I_175 391 this).toInt) (k := (I_175 393 this).toInt) (by omega) hp_204 hp_205) rfl rfl (by omega) (by omega))
            clear hp_205
            refine lv_iconst (v := 0) hx hb dX12_clause_79 (by decide +kernel) ?_
            refine lv_istore_n (lv' := [(3, .int 0), (2, .int x_192), (1, .int x_1), (0, .ref this)]) hx hb dX12_clause_80 rfl hl (by decide +kernel) rfl (fun ls hl => ?_)
            refine lv_iload_n hx hb dX12_clause_81 rfl (lv_at hl 2 rfl) ?_
            refine lv_iconst (v := 4) hx hb dX12_clause_82 (by decide +kernel) ?_
            refine lv_icmp_gt (tgt := 118) hx hb dX12_clause_83 (by decide +kernel) (fun c_215 => ?_) (fun c_215 => ?_)
            · have tc_218 : 4 < (x_1).toInt := Int32.lt_iff_toInt_lt.mp c_215
              refine lv_iload_n hx hb dX12_clause_118 rfl (lv_at hl 2 rfl) ?_
              refine lv_bipush (v := 6) hx hb dX12_clause_119 (by decide +kernel) ?_
              refine lv_icmp_gt (tgt := 133) hx hb dX12_clause_121 (by decide +kernel) (fun c_219 => ?_) (fun c_219 => ?_)
              · replace hF := hF.trans (if_pos c_219)
                have tc_224 : 6 < (x_1).toInt := Int32.lt_iff_toInt_lt.mp c_219
                have h_225 : rg x_1 7 9 := rg_lt2 c_219 (rg_k (6 : Int32) 6 rfl) h_155 (by decide +kernel)
                have uh_225 := h_225.1
                have vh_225 := h_225.2
                refine lv_aload_n hx hb dX12_clause_133 rfl (lv_at hl 3 rfl) ?_
                refine lv_iload_n hx hb dX12_clause_134 rfl (lv_at hl 2 rfl) ?_
                refine lv_bipush (v := 7) hx hb dX12_clause_135 (by decide +kernel) ?_
                refine lv_icmp_ne (tgt := 145) hx hb dX12_clause_137 (by decide +kernel) (fun c_226 => ?_) (fun c_226 => ?_)
                · replace hF := hF.trans (if_neg c_226)
                  have tc_231 : (x_1).toInt ≠ 7 := fun q => c_226 (Int32.toInt_inj.mp q)
                  have h_232 : rg x_1 8 9 := rg_ne c_226 h_225 7 rfl (by decide +kernel)
                  have uh_232 := h_232.1
                  have vh_232 := h_232.2
                  refine lv_iload_n hx hb dX12_clause_145 rfl (lv_at hl 2 rfl) ?_
                  refine lv_bipush (v := 8) hx hb dX12_clause_146 (by decide +kernel) ?_
                  refine lv_icmp_ne (tgt := 157) hx hb dX12_clause_148 (by decide +kernel) (fun c_233 => ?_) (fun c_233 => ?_)
                  · replace hF := hF.trans (if_neg c_233)
                    have tc_238 : (x_1).toInt ≠ 8 := fun q => c_233 (Int32.toInt_inj.mp q)
                    have h_239 : rg x_1 9 9 := rg_ne c_233 h_232 8 rfl (by decide +kernel)
                    have uh_239 := h_239.1
                    have vh_239 := h_239.2
                    refine lv_sipush (v := 1000) hx hb dX12_clause_157 (by decide +kernel) ?_
                    refine lv_iload_n hx hb dX12_clause_160 rfl (lv_at hl 1 rfl) ?_
                    refine lv_iconst (v := 1) hx hb dX12_clause_161 (by decide +kernel) ?_
                    refine lv_iadd hx hb dX12_clause_162 ?_
                    refine lv_topi (fun x_240 ex_240 => ?_)
                    replace hF := hF.trans (ap_n ex_240)
                    have h_241 : rg x_240 3722 12050 := rg_of_eq ex_240 (rg_add h_194 (rg_k (1 : Int32) 1 rfl) (by decide +kernel))
                    have uh_241 := h_241.1
                    have vh_241 := h_241.2
                    have tx_240 : (x_240).toInt = (x_192).toInt + 1 := by rw [ex_240]; exact i_add_rg (a2 := (x_192).toInt) (b2 := 1) rfl rfl h_194 (rg_k (1 : Int32) 1 rfl) (by decide +kernel)
                    have t26 : (r_195 this_a 6).toInt = (ri this_a 6).toInt := congrArg Int32.toInt (hG.2.2.1 this_a hT_this_a 6 (by decide +kernel) (by decide +kernel))
                    refine pk_i (va_runV (As := [.int 1000, .int x_240]) (rest := []) ⟨hx, hb, hml, hown, hts⟩ (s_X12_take l D t σ I_199 J_200 r_195 rj rq H.size tg hSH hG.1 this (1000 : Int32) x_240 hL_this hK_this this_a hR_this_a hL_this_a hK_this_a hN_this_a hT_this_a (by omega)) (cwV 2 hts (tw_V tw_933 tw_934 tw_935 tw_5 tw_936) rfl rfl rfl cv_yX12_take_2 ⟨Nat.le_of_ble_eq_true rfl, Nat.le_of_ble_eq_true rfl⟩) ⟨pq_blind, pq_recv hK hP hL_this hK_this (by decide +kernel) rfl, pq_pre hK hN hP hD⟩ rfl rfl hl.1 rfl (lv_room (Nat.le_of_ble_eq_true rfl)) dX12_clause_163 ⟨Nat.le_of_ble_eq_true rfl, Nat.le_of_ble_eq_true rfl⟩) hD hS hA (fun x_242 σ1 μ1 H locs hw_243 hP hD hS => ?_)
                    obtain ⟨I_244, J_245, ri_246, hu_247, hg_248, hp_250, hp_251, hp_252, hfn_253, hfr_254, hr_249⟩ := hw_243
                    obtain ⟨hu_247a, hu_247b⟩ := Prod.mk.inj hu_247
                    rw [hu_247a, hu_247b] at hP hD
                    replace hF := hF.trans (bn_n hfn_253)
                    replace hFr := fr_tr hFr hfr_254
                    have tt_255 := hp_250
                    have hG := GM.tr hG hg_248 (by decide +kernel)
                    have tt_256 : (I_244 396 this).toInt = (I_199 396 this).toInt := by rw [hg_248.2.1 396 (by decide +kernel) (by decide +kernel)]
                    have tt_257 : (I_244 398 this).toInt = (I_199 398 this).toInt := by rw [hg_248.2.1 398 (by decide +kernel) (by decide +kernel)]
                    have tt_258 : (I_244 401 this).toInt = (I_199 401 this).toInt := by rw [hg_248.2.1 401 (by decide +kernel) (by decide +kernel)]
                    have tt_259 : (I_244 402 this).toInt = (I_199 402 this).toInt := by rw [hg_248.2.1 402 (by decide +kernel) (by decide +kernel)]
                    have tt_260 : (I_244 397 this).toInt = (I_199 397 this).toInt := by rw [hg_248.2.1 397 (by decide +kernel) (by decide +kernel)]
                    refine lv_istore_n (lv' := [(3, .int x_242), (2, .int x_192), (1, .int x_1), (0, .ref this)]) hx hb dX12_clause_166 rfl hl (by decide +kernel) rfl (fun ls hl => ?_)
                    refine lv_iload_n hx hb dX12_clause_167 rfl (lv_at hl 0 rfl) ?_
                    refine lv_if_eq (tgt := 173) hx hb dX12_clause_168 (by decide +kernel) (fun c_261 => ?_) (fun c_261 => ?_)
                    · replace hF := hF.trans (if_pos c_261)
                      have tc_266 : (x_242).toInt = 0 := congrArg Int32.toInt c_261
                      have h_267 : rg x_242 0 0 := rg_and hr_249 (rg_of_eq c_261 (rg_k (0 : Int32) 0 rfl)) (by decide +kernel)
                      have uh_267 := h_267.1
                      have vh_267 := h_267.2
                      clear tc_231 tc_238
                      refine lv_aload_n hx hb dX12_clause_173 rfl (lv_at hl 3 rfl) ?_
                      refine pg_f (v := .int (I_244 393 this)) (C := RX12) (T := TX12) (N := 31) hx hb hts (tw_i inlX12) hown hK hP hL_this hK_this (by decide +kernel) rfl 9 (by decide +kernel) (hts _ (tw_c tw_831)) rfl dX12_clause_174 ?_
                      replace hF := hF.trans (ap_n (vI_e (f := 393) hO_this (by decide +kernel)))
                      refine lv_bipush (v := 59) hx hb dX12_clause_177 (by decide +kernel) ?_
                      refine lv_icmp_eq (tgt := 184) hx hb dX12_clause_179 (by decide +kernel) (fun c_269 => ?_) (fun c_269 => ?_)
                      · replace hF := hF.trans (if_pos c_269)
                        have tc_273 : (I_244 393 this).toInt = 59 := congrArg Int32.toInt c_269
                        have h_274 : rg (I_244 393 this) 59 59 := rg_and (rg_full _) (rg_of_eq c_269 (rg_k (59 : Int32) 59 rfl)) (by decide +kernel)
                        have uh_274 := h_274.1
                        have vh_274 := h_274.2
                        refine lv_aload_n hx hb dX12_clause_184 rfl (lv_at hl 3 rfl) ?_
                        refine lv_dup hx hb dX12_clause_185 rfl ?_
                        refine pg_f (v := .int (I_244 397 this)) (C := RX12) (T := TX12) (N := 31) hx hb hts (tw_i inlX12) hown hK hP hL_this hK_this (by decide +kernel) rfl 13 (by decide +kernel) (hts _ (tw_c tw_822)) rfl dX12_clause_186 ?_
                        have h_275 : rg (I_244 397 this) 0 19 := (by rw [hg_248.2.1 397 (by decide +kernel) (by decide +kernel)]; exact (by rw [hg_202.2.1 397 (by decide +kernel) (by decide +kernel)]; exact h_188))
                        have uh_275 := h_275.1
                        have vh_275 := h_275.2
                        replace hF := hF.trans (ap_n (vI_e (f := 397) hO_this (by decide +kernel)))
                        refine lv_iconst (v := 1) hx hb dX12_clause_189 (by decide +kernel) ?_
                        refine lv_iadd hx hb dX12_clause_190 ?_
                        refine lv_topi (fun x_277 ex_277 => ?_)
                        replace hF := hF.trans (ap_n ex_277)
                        have h_278 : rg x_277 1 20 := rg_of_eq ex_277 (rg_add h_275 (rg_k (1 : Int32) 1 rfl) (by decide +kernel))
                        have uh_278 := h_278.1
                        have vh_278 := h_278.2
                        have tx_277 : (x_277).toInt = (I_244 397 this).toInt + 1 := by rw [ex_277]; exact i_add_rg (a2 := (I_244 397 this).toInt) (b2 := 1) rfl rfl h_275 (rg_k (1 : Int32) 1 rfl) (by decide +kernel)
                        refine pp_i (v := x_277) (ty := .int) (C := RX12) (T := TX12) (N := 31) hx hb hts (tw_i inlX12) tyX12 tyX12_ok nmX12 hown hK hP hD hS hL_this hK_this (by decide +kernel) rfl 13 397 (by decide +kernel) (hts _ (tw_c tw_822)) rfl (tyX12_ok 13 (by decide +kernel)) rfl rfl (Nat.le_of_ble_eq_true rfl) (ps_397 _ _ _ _ _) dX12_clause_191 (fun I_279 H locs eI_279 hP hD hS => ?_)
                        replace hFr := fr_I (f := 397) hFr hO_this (by decide +kernel) eI_279
                        replace hF := hF.trans (ap_n (vI_st (f := 397) hO_this (by decide +kernel) eI_279))
                        have hG := GM.wI hG 397 rfl eI_279 (rg_w h_278 (by decide +kernel)) (by decide +kernel)
                        have tt_280 : (I_279 396 this).toInt = (I_244 396 this).toInt := by rw [eI_279, pq_uf _ _ _ (by decide +kernel)]
                        have tt_281 : (I_279 398 this).toInt = (I_244 398 this).toInt := by rw [eI_279, pq_uf _ _ _ (by decide +kernel)]
                        have tt_282 : (I_279 401 this).toInt = (I_244 401 this).toInt := by rw [eI_279, pq_uf _ _ _ (by decide +kernel)]
                        have tt_283 : (I_279 402 this).toInt = (I_244 402 this).toInt := by rw [eI_279, pq_uf _ _ _ (by decide +kernel)]
                        have tt_284 : (I_279 391 this).toInt = (I_244 391 this).toInt := by rw [eI_279, pq_uf _ _ _ (by decide +kernel)]
                        have tt_285 : (I_279 393 this).toInt = (I_244 393 this).toInt := by rw [eI_279, pq_uf _ _ _ (by decide +kernel)]
                        have tt_286 : (I_279 403 this).toInt = (I_244 403 this).toInt := by rw [eI_279, pq_uf _ _ _ (by decide +kernel)]
                        have tt_287 : (I_279 397 this).toInt = (x_277).toInt := by rw [eI_279, pq_us]
                        refine lv_aload_n hx hb dX12_clause_194 rfl (lv_at hl 3 rfl) ?_
                        have hkn_288 : (I_279 393 this).toInt ≠ 0 := by omega
                        refine pk_v (va_runV (As := []) (rest := []) ⟨hx, hb, hml, hown, hts⟩ (s_X12_nextToken_x l D t σ I_279 J_245 ri_246 rj rq H.size tg hSH hG.1 this hL_this hK_this w_196 hR_w_196 hL_w_196 hK_w_196 hN_w_196 hT_w_196) (cwV 0 hts (tw_V tw_832 tw_833 tw_834 tw_5 tw_835) rfl rfl rfl cv_yX12_nextToken_0 ⟨Nat.le_of_ble_eq_true rfl, Nat.le_of_ble_eq_true rfl⟩) ⟨pq_blind, pq_recv hK hP hL_this hK_this (by decide +kernel) rfl, pq_pre hK hN hP hD⟩ rfl rfl hl.1 rfl (lv_room (Nat.le_of_ble_eq_true rfl)) dX12_clause_195 ⟨Nat.le_of_ble_eq_true rfl, Nat.le_of_ble_eq_true rfl⟩) hD hS hA (fun σ1 μ1 H locs hw_290 hP hD hS => ?_)
                        obtain ⟨I_291, J_292, hu_293, hg_294, hp_296, hp_297, hp_298, hfn_299, hfr_300⟩ := hw_290
                        obtain ⟨hu_293a, hu_293b⟩ := Prod.mk.inj hu_293
                        rw [hu_293a, hu_293b] at hP hD
                        replace hF := hF.trans (bv_n hfn_299)
                        replace hFr := fr_tr hFr hfr_300
                        have tt_301 : (I_291 391 this).toInt ≤ 300 := by have z := hg_294.1.1 391 this; exact z.2
                        have hG := GM.tr hG hg_294 (by decide +kernel)
                        have tt_302 : (I_291 396 this).toInt = (I_279 396 this).toInt := by rw [hg_294.2.1 396 (by decide +kernel) (by decide +kernel)]
                        have tt_303 : (I_291 398 this).toInt = (I_279 398 this).toInt := by rw [hg_294.2.1 398 (by decide +kernel) (by decide +kernel)]
                        have tt_304 : (I_291 401 this).toInt = (I_279 401 this).toInt := by rw [hg_294.2.1 401 (by decide +kernel) (by decide +kernel)]
                        have tt_305 : (I_291 402 this).toInt = (I_279 402 this).toInt := by rw [hg_294.2.1 402 (by decide +kernel) (by decide +kernel)]
                        have tt_306 : (I_291 397 this).toInt = (I_279 397 this).toInt := by rw [hg_294.2.1 397 (by decide +kernel) (by decide +kernel)]
                        refine lv_iconst (v := 0) hx hb dX12_clause_198 (by decide +kernel) ?_
                        subst hQ
                        exact W.iret (v := 0) hx hb hr (fun t1 ht hW => ⟨⟨0, (σ, I_291, J_292, ri_246, rj, rq), rfl, ⟨I_291, J_292, ri_246, rfl, hG, (Or.inr ⟨(CLz_mk (by rw [show ri_246 this_a 6 = ri this_a 6 from hG.2.2.1 this_a hT_this_a 6 (by decide +kernel) (by decide +kernel)]; omega) (by rw [show (I_291 397 this).toInt = (((I 397 this).toNatClampNeg + 1 : Nat) : Int) from by omega]; have q := TXQ_other (f := ri this_a) (w := (I 398 this).toInt) (n := (I 397 this).toNatClampNeg) (ci := (x_192).toNatClampNeg) (by rw [show (((I 397 this).toNatClampNeg : Nat) : Int) = (I 397 this).toInt from by omega]; exact hcl.2.1) (by omega) ⟨by omega, by omega⟩ (by omega) (by omega) ((congrFun er_195 _).trans (va_up_self _ _ _)) (by omega) (fun j hj => hp_251 j (by omega)); rw [show (I_291 398 this).toInt = (I 398 this).toInt from by omega]; exact q) (by omega) (by omega) (by omega) (fun q => by omega) (by omega)), (Int.lt_of_lt_of_le (tm_lt hkn_288 hp_296 hp_297) (tm_lec (Int.le_trans hp_252 htmH) (by omega) (by omega)))⟩), (hF0.symm.trans hF), hFr, (rg_w (rg_k (0 : Int32) 0 rfl) (by decide +kernel))⟩, by rw [ht]; exact hP, va_K.moved hW.alike hK, hD⟩, hS.F ht⟩) hS.2.2 dX12_clause_199
                      · replace hF := hF.trans (if_neg c_269)
                        have tc_307 : (I_244 393 this).toInt ≠ 59 := fun q => c_269 (Int32.toInt_inj.mp q)
                        refine lv_iconst (v := 1) hx hb dX12_clause_182 (by decide +kernel) ?_
                        subst hQ
                        exact W.iret (v := 1) hx hb hr (fun t1 ht hW => ⟨⟨1, (σ, I_244, J_245, ri_246, rj, rq), rfl, ⟨I_244, J_245, ri_246, rfl, hG, (Or.inl (by decide +kernel)), (hF0.symm.trans hF), hFr, (rg_w (rg_k (1 : Int32) 1 rfl) (by decide +kernel))⟩, by rw [ht]; exact hP, va_K.moved hW.alike hK, hD⟩, hS.F ht⟩) hS.2.2 dX12_clause_183
                    · replace hF := hF.trans (if_neg c_261)
                      have tc_308 : (x_242).toInt ≠ 0 := fun q => c_261 (Int32.toInt_inj.mp q)
                      have h_309 : rg x_242 1 2 := rg_ne c_261 hr_249 0 rfl (by decide +kernel)
                      have uh_309 := h_309.1
                      have vh_309 := h_309.2
                      refine lv_iload_n hx hb dX12_clause_171 rfl (lv_at hl 0 rfl) ?_
                      subst hQ
                      exact W.iret (v := x_242) hx hb hr (fun t1 ht hW => ⟨⟨x_242, (σ, I_244, J_245, ri_246, rj, rq), rfl, ⟨I_244, J_245, ri_246, rfl, hG, (Or.inl (by omega)), (hF0.symm.trans hF), hFr, (rg_w h_309 (by decide +kernel))⟩, by rw [ht]; exact hP, va_K.moved hW.alike hK, hD⟩, hS.F ht⟩) hS.2.2 dX12_clause_172
                  · replace hF := hF.trans (if_pos c_233)
                    have tc_310 : (x_1).toInt = 8 := congrArg Int32.toInt c_233
                    have h_311 : rg x_1 8 8 := rg_and h_232 (rg_of_eq c_233 (rg_k (8 : Int32) 8 rfl)) (by decide +kernel)
                    have uh_311 := h_311.1
                    have vh_311 := h_311.2
                    refine lv_sipush (v := 599) hx hb dX12_clause_151 (by decide +kernel) ?_
                    refine lv_goto (tgt := 160) hx hb dX12_clause_154 (by decide +kernel) ?_
                    refine lv_iload_n hx hb dX12_clause_160 rfl (lv_at hl 1 rfl) ?_
                    refine lv_iconst (v := 1) hx hb dX12_clause_161 (by decide +kernel) ?_
                    refine lv_iadd hx hb dX12_clause_162 ?_
                    refine lv_topi (fun x_312 ex_312 => ?_)
                    replace hF := hF.trans (ap_n ex_312)
                    have h_313 : rg x_312 3722 12050 := rg_of_eq ex_312 (rg_add h_194 (rg_k (1 : Int32) 1 rfl) (by decide +kernel))
                    have uh_313 := h_313.1
                    have vh_313 := h_313.2
                    have tx_312 : (x_312).toInt = (x_192).toInt + 1 := by rw [ex_312]; exact i_add_rg (a2 := (x_192).toInt) (b2 := 1) rfl rfl h_194 (rg_k (1 : Int32) 1 rfl) (by decide +kernel)
                    have t26 : (r_195 this_a 6).toInt = (ri this_a 6).toInt := congrArg Int32.toInt (hG.2.2.1 this_a hT_this_a 6 (by decide +kernel) (by decide +kernel))
                    refine pk_i (va_runV (As := [.int 599, .int x_312]) (rest := []) ⟨hx, hb, hml, hown, hts⟩ (s_X12_take l D t σ I_199 J_200 r_195 rj rq H.size tg hSH hG.1 this (599 : Int32) x_312 hL_this hK_this this_a hR_this_a hL_this_a hK_this_a hN_this_a hT_this_a (by omega)) (cwV 2 hts (tw_V tw_933 tw_934 tw_935 tw_5 tw_936) rfl rfl rfl cv_yX12_take_2 ⟨Nat.le_of_ble_eq_true rfl, Nat.le_of_ble_eq_true rfl⟩) ⟨pq_blind, pq_recv hK hP hL_this hK_this (by decide +kernel) rfl, pq_pre hK hN hP hD⟩ rfl rfl hl.1 rfl (lv_room (Nat.le_of_ble_eq_true rfl)) dX12_clause_163 ⟨Nat.le_of_ble_eq_true rfl, Nat.le_of_ble_eq_true rfl⟩) hD hS hA (fun x_314 σ1 μ1 H locs hw_315 hP hD hS => ?_)
                    obtain ⟨I_316, J_317, ri_318, hu_319, hg_320, hp_322, hp_323, hp_324, hfn_325, hfr_326, hr_321⟩ := hw_315
                    obtain ⟨hu_319a, hu_319b⟩ := Prod.mk.inj hu_319
                    rw [hu_319a, hu_319b] at hP hD
                    replace hF := hF.trans (bn_n hfn_325)
                    replace hFr := fr_tr hFr hfr_326
                    have tt_327 := hp_322
                    have hG := GM.tr hG hg_320 (by decide +kernel)
                    have tt_328 : (I_316 396 this).toInt = (I_199 396 this).toInt := by rw [hg_320.2.1 396 (by decide +kernel) (by decide +kernel)]
                    have tt_329 : (I_316 398 this).toInt = (I_199 398 this).toInt := by rw [hg_320.2.1 398 (by decide +kernel) (by decide +kernel)]
                    have tt_330 : (I_316 401 this).toInt = (I_199 401 this).toInt := by rw [hg_320.2.1 401 (by decide +kernel) (by decide +kernel)]
                    have tt_331 : (I_316 402 this).toInt = (I_199 402 this).toInt := by rw [hg_320.2.1 402 (by decide +kernel) (by decide +kernel)]
                    have tt_332 : (I_316 397 this).toInt = (I_199 397 this).toInt := by rw [hg_320.2.1 397 (by decide +kernel) (by decide +kernel)]
                    refine lv_istore_n (lv' := [(3, .int x_314), (2, .int x_192), (1, .int x_1), (0, .ref this)]) hx hb dX12_clause_166 rfl hl (by decide +kernel) rfl (fun ls hl => ?_)
                    refine lv_iload_n hx hb dX12_clause_167 rfl (lv_at hl 0 rfl) ?_
                    refine lv_if_eq (tgt := 173) hx hb dX12_clause_168 (by decide +kernel) (fun c_333 => ?_) (fun c_333 => ?_)
                    · replace hF := hF.trans (if_pos c_333)
                      have tc_338 : (x_314).toInt = 0 := congrArg Int32.toInt c_333
                      have h_339 : rg x_314 0 0 := rg_and hr_321 (rg_of_eq c_333 (rg_k (0 : Int32) 0 rfl)) (by decide +kernel)
                      have uh_339 := h_339.1
                      have vh_339 := h_339.2
                      clear tc_231
                      refine lv_aload_n hx hb dX12_clause_173 rfl (lv_at hl 3 rfl) ?_
                      refine pg_f (v := .int (I_316 393 this)) (C := RX12) (T := TX12) (N := 31) hx hb hts (tw_i inlX12) hown hK hP hL_this hK_this (by decide +kernel) rfl 9 (by decide +kernel) (hts _ (tw_c tw_831)) rfl dX12_clause_174 ?_
                      replace hF := hF.trans (ap_n (vI_e (f := 393) hO_this (by decide +kernel)))
                      refine lv_bipush (v := 59) hx hb dX12_clause_177 (by decide +kernel) ?_
                      refine lv_icmp_eq (tgt := 184) hx hb dX12_clause_179 (by decide +kernel) (fun c_341 => ?_) (fun c_341 => ?_)
                      · replace hF := hF.trans (if_pos c_341)
                        have tc_345 : (I_316 393 this).toInt = 59 := congrArg Int32.toInt c_341
                        have h_346 : rg (I_316 393 this) 59 59 := rg_and (rg_full _) (rg_of_eq c_341 (rg_k (59 : Int32) 59 rfl)) (by decide +kernel)
                        have uh_346 := h_346.1
                        have vh_346 := h_346.2
                        refine lv_aload_n hx hb dX12_clause_184 rfl (lv_at hl 3 rfl) ?_
                        refine lv_dup hx hb dX12_clause_185 rfl ?_
                        refine pg_f (v := .int (I_316 397 this)) (C := RX12) (T := TX12) (N := 31) hx hb hts (tw_i inlX12) hown hK hP hL_this hK_this (by decide +kernel) rfl 13 (by decide +kernel) (hts _ (tw_c tw_822)) rfl dX12_clause_186 ?_
                        have h_347 : rg (I_316 397 this) 0 19 := (by rw [hg_320.2.1 397 (by decide +kernel) (by decide +kernel)]; exact (by rw [hg_202.2.1 397 (by decide +kernel) (by decide +kernel)]; exact h_188))
                        have uh_347 := h_347.1
                        have vh_347 := h_347.2
                        replace hF := hF.trans (ap_n (vI_e (f := 397) hO_this (by decide +kernel)))
                        refine lv_iconst (v := 1) hx hb dX12_clause_189 (by decide +kernel) ?_
                        refine lv_iadd hx hb dX12_clause_190 ?_
                        refine lv_topi (fun x_349 ex_349 => ?_)
                        replace hF := hF.trans (ap_n ex_349)
                        have h_350 : rg x_349 1 20 := rg_of_eq ex_349 (rg_add h_347 (rg_k (1 : Int32) 1 rfl) (by decide +kernel))
                        have uh_350 := h_350.1
                        have vh_350 := h_350.2
                        have tx_349 : (x_349).toInt = (I_316 397 this).toInt + 1 := by rw [ex_349]; exact i_add_rg (a2 := (I_316 397 this).toInt) (b2 := 1) rfl rfl h_347 (rg_k (1 : Int32) 1 rfl) (by decide +kernel)
                        refine pp_i (v := x_349) (ty := .int) (C := RX12) (T := TX12) (N := 31) hx hb hts (tw_i inlX12) tyX12 tyX12_ok nmX12 hown hK hP hD hS hL_this hK_this (by decide +kernel) rfl 13 397 (by decide +kernel) (hts _ (tw_c tw_822)) rfl (tyX12_ok 13 (by decide +kernel)) rfl rfl (Nat.le_of_ble_eq_true rfl) (ps_397 _ _ _ _ _) dX12_clause_191 (fun I_351 H locs eI_351 hP hD hS => ?_)
                        replace hFr := fr_I (f := 397) hFr hO_this (by decide +kernel) eI_351
                        replace hF := hF.trans (ap_n (vI_st (f := 397) hO_this (by decide +kernel) eI_351))
                        have hG := GM.wI hG 397 rfl eI_351 (rg_w h_350 (by decide +kernel)) (by decide +kernel)
                        have tt_352 : (I_351 396 this).toInt = (I_316 396 this).toInt := by rw [eI_351, pq_uf _ _ _ (by decide +kernel)]
                        have tt_353 : (I_351 398 this).toInt = (I_316 398 this).toInt := by rw [eI_351, pq_uf _ _ _ (by decide +kernel)]
                        have tt_354 : (I_351 401 this).toInt = (I_316 401 this).toInt := by rw [eI_351, pq_uf _ _ _ (by decide +kernel)]
                        have tt_355 : (I_351 402 this).toInt = (I_316 402 this).toInt := by rw [eI_351, pq_uf _ _ _ (by decide +kernel)]
                        have tt_356 : (I_351 391 this).toInt = (I_316 391 this).toInt := by rw [eI_351, pq_uf _ _ _ (by decide +kernel)]
                        have tt_357 : (I_351 393 this).toInt = (I_316 393 this).toInt := by rw [eI_351, pq_uf _ _ _ (by decide +kernel)]
                        have tt_358 : (I_351 403 this).toInt = (I_316 403 this).toInt := by rw [eI_351, pq_uf _ _ _ (by decide +kernel)]
                        have tt_359 : (I_351 397 this).toInt = (x_349).toInt := by rw [eI_351, pq_us]
                        refine lv_aload_n hx hb dX12_clause_194 rfl (lv_at hl 3 rfl) ?_
                        have hkn_360 : (I_351 393 this).toInt ≠ 0 := by omega
                        refine pk_v (va_runV (As := []) (rest := []) ⟨hx, hb, hml, hown, hts⟩ (s_X12_nextToken_x l D t σ I_351 J_317 ri_318 rj rq H.size tg hSH hG.1 this hL_this hK_this w_196 hR_w_196 hL_w_196 hK_w_196 hN_w_196 hT_w_196) (cwV 0 hts (tw_V tw_832 tw_833 tw_834 tw_5 tw_835) rfl rfl rfl cv_yX12_nextToken_0 ⟨Nat.le_of_ble_eq_true rfl, Nat.le_of_ble_eq_true rfl⟩) ⟨pq_blind, pq_recv hK hP hL_this hK_this (by decide +kernel) rfl, pq_pre hK hN hP hD⟩ rfl rfl hl.1 rfl (lv_room (Nat.le_of_ble_eq_true rfl)) dX12_clause_195 ⟨Nat.le_of_ble_eq_true rfl, Nat.le_of_ble_eq_true rfl⟩) hD hS hA (fun σ1 μ1 H locs hw_362 hP hD hS => ?_)
                        obtain ⟨I_363, J_364, hu_365, hg_366, hp_368, hp_369, hp_370, hfn_371, hfr_372⟩ := hw_362
                        obtain ⟨hu_365a, hu_365b⟩ := Prod.mk.inj hu_365
                        rw [hu_365a, hu_365b] at hP hD
                        replace hF := hF.trans (bv_n hfn_371)
                        replace hFr := fr_tr hFr hfr_372
                        have tt_373 : (I_363 391 this).toInt ≤ 300 := by have z := hg_366.1.1 391 this; exact z.2
                        have hG := GM.tr hG hg_366 (by decide +kernel)
                        have tt_374 : (I_363 396 this).toInt = (I_351 396 this).toInt := by rw [hg_366.2.1 396 (by decide +kernel) (by decide +kernel)]
                        have tt_375 : (I_363 398 this).toInt = (I_351 398 this).toInt := by rw [hg_366.2.1 398 (by decide +kernel) (by decide +kernel)]
                        have tt_376 : (I_363 401 this).toInt = (I_351 401 this).toInt := by rw [hg_366.2.1 401 (by decide +kernel) (by decide +kernel)]
                        have tt_377 : (I_363 402 this).toInt = (I_351 402 this).toInt := by rw [hg_366.2.1 402 (by decide +kernel) (by decide +kernel)]
                        have tt_378 : (I_363 397 this).toInt = (I_351 397 this).toInt := by rw [hg_366.2.1 397 (by decide +kernel) (by decide +kernel)]
                        refine lv_iconst (v := 0) hx hb dX12_clause_198 (by decide +kernel) ?_
                        subst hQ
                        exact W.iret (v := 0) hx hb hr (fun t1 ht hW => ⟨⟨0, (σ, I_363, J_364, ri_318, rj, rq), rfl, ⟨I_363, J_364, ri_318, rfl, hG, (Or.inr ⟨(CLz_mk (by rw [show ri_318 this_a 6 = ri this_a 6 from hG.2.2.1 this_a hT_this_a 6 (by decide +kernel) (by decide +kernel)]; omega) (by rw [show (I_363 397 this).toInt = (((I 397 this).toNatClampNeg + 1 : Nat) : Int) from by omega]; have q := TXQ_other (f := ri this_a) (w := (I 398 this).toInt) (n := (I 397 this).toNatClampNeg) (ci := (x_192).toNatClampNeg) (by rw [show (((I 397 this).toNatClampNeg : Nat) : Int) = (I 397 this).toInt from by omega]; exact hcl.2.1) (by omega) ⟨by omega, by omega⟩ (by omega) (by omega) ((congrFun er_195 _).trans (va_up_self _ _ _)) (by omega) (fun j hj => hp_323 j (by omega)); rw [show (I_363 398 this).toInt = (I 398 this).toInt from by omega]; exact q) (by omega) (by omega) (by omega) (fun q => by omega) (by omega)), (Int.lt_of_lt_of_le (tm_lt hkn_360 hp_368 hp_369) (tm_lec (Int.le_trans hp_324 htmH) (by omega) (by omega)))⟩), (hF0.symm.trans hF), hFr, (rg_w (rg_k (0 : Int32) 0 rfl) (by decide +kernel))⟩, by rw [ht]; exact hP, va_K.moved hW.alike hK, hD⟩, hS.F ht⟩) hS.2.2 dX12_clause_199
                      · replace hF := hF.trans (if_neg c_341)
                        have tc_379 : (I_316 393 this).toInt ≠ 59 := fun q => c_341 (Int32.toInt_inj.mp q)
                        refine lv_iconst (v := 1) hx hb dX12_clause_182 (by decide +kernel) ?_
                        subst hQ
                        exact W.iret (v := 1) hx hb hr (fun t1 ht hW => ⟨⟨1, (σ, I_316, J_317, ri_318, rj, rq), rfl, ⟨I_316, J_317, ri_318, rfl, hG, (Or.inl (by decide +kernel)), (hF0.symm.trans hF), hFr, (rg_w (rg_k (1 : Int32) 1 rfl) (by decide +kernel))⟩, by rw [ht]; exact hP, va_K.moved hW.alike hK, hD⟩, hS.F ht⟩) hS.2.2 dX12_clause_183
                    · replace hF := hF.trans (if_neg c_333)
                      have tc_380 : (x_314).toInt ≠ 0 := fun q => c_333 (Int32.toInt_inj.mp q)
                      have h_381 : rg x_314 1 2 := rg_ne c_333 hr_321 0 rfl (by decide +kernel)
                      have uh_381 := h_381.1
                      have vh_381 := h_381.2
                      refine lv_iload_n hx hb dX12_clause_171 rfl (lv_at hl 0 rfl) ?_
                      subst hQ
                      exact W.iret (v := x_314) hx hb hr (fun t1 ht hW => ⟨⟨x_314, (σ, I_316, J_317, ri_318, rj, rq), rfl, ⟨I_316, J_317, ri_318, rfl, hG, (Or.inl (by omega)), (hF0.symm.trans hF), hFr, (rg_w h_381 (by decide +kernel))⟩, by rw [ht]; exact hP, va_K.moved hW.alike hK, hD⟩, hS.F ht⟩) hS.2.2 dX12_clause_172
                · replace hF := hF.trans (if_pos c_226)
                  have tc_382 : (x_1).toInt = 7 := congrArg Int32.toInt c_226
                  have h_383 : rg x_1 7 7 := rg_and h_225 (rg_of_eq c_226 (rg_k (7 : Int32) 7 rfl)) (by decide +kernel)
                  have uh_383 := h_383.1
                  have vh_383 := h_383.2
                  refine lv_bipush (v := 100) hx hb dX12_clause_140 (by decide +kernel) ?_
                  refine lv_goto (tgt := 160) hx hb dX12_clause_142 (by decide +kernel) ?_
                  refine lv_iload_n hx hb dX12_clause_160 rfl (lv_at hl 1 rfl) ?_
                  refine lv_iconst (v := 1) hx hb dX12_clause_161 (by decide +kernel) ?_
                  refine lv_iadd hx hb dX12_clause_162 ?_
                  refine lv_topi (fun x_384 ex_384 => ?_)
                  replace hF := hF.trans (ap_n ex_384)
                  have h_385 : rg x_384 3722 12050 := rg_of_eq ex_384 (rg_add h_194 (rg_k (1 : Int32) 1 rfl) (by decide +kernel))
                  have uh_385 := h_385.1
                  have vh_385 := h_385.2
                  have tx_384 : (x_384).toInt = (x_192).toInt + 1 := by rw [ex_384]; exact i_add_rg (a2 := (x_192).toInt) (b2 := 1) rfl rfl h_194 (rg_k (1 : Int32) 1 rfl) (by decide +kernel)
                  have t26 : (r_195 this_a 6).toInt = (ri this_a 6).toInt := congrArg Int32.toInt (hG.2.2.1 this_a hT_this_a 6 (by decide +kernel) (by decide +kernel))
                  refine pk_i (va_runV (As := [.int 100, .int x_384]) (rest := []) ⟨hx, hb, hml, hown, hts⟩ (s_X12_take l D t σ I_199 J_200 r_195 rj rq H.size tg hSH hG.1 this (100 : Int32) x_384 hL_this hK_this this_a hR_this_a hL_this_a hK_this_a hN_this_a hT_this_a (by omega)) (cwV 2 hts (tw_V tw_933 tw_934 tw_935 tw_5 tw_936) rfl rfl rfl cv_yX12_take_2 ⟨Nat.le_of_ble_eq_true rfl, Nat.le_of_ble_eq_true rfl⟩) ⟨pq_blind, pq_recv hK hP hL_this hK_this (by decide +kernel) rfl, pq_pre hK hN hP hD⟩ rfl rfl hl.1 rfl (lv_room (Nat.le_of_ble_eq_true rfl)) dX12_clause_163 ⟨Nat.le_of_ble_eq_true rfl, Nat.le_of_ble_eq_true rfl⟩) hD hS hA (fun x_386 σ1 μ1 H locs hw_387 hP hD hS => ?_)
                  obtain ⟨I_388, J_389, ri_390, hu_391, hg_392, hp_394, hp_395, hp_396, hfn_397, hfr_398, hr_393⟩ := hw_387
                  obtain ⟨hu_391a, hu_391b⟩ := Prod.mk.inj hu_391
                  rw [hu_391a, hu_391b] at hP hD
                  replace hF := hF.trans (bn_n hfn_397)
                  replace hFr := fr_tr hFr hfr_398
                  have tt_399 := hp_394
                  have hG := GM.tr hG hg_392 (by decide +kernel)
                  have tt_400 : (I_388 396 this).toInt = (I_199 396 this).toInt := by rw [hg_392.2.1 396 (by decide +kernel) (by decide +kernel)]
                  have tt_401 : (I_388 398 this).toInt = (I_199 398 this).toInt := by rw [hg_392.2.1 398 (by decide +kernel) (by decide +kernel)]
                  have tt_402 : (I_388 401 this).toInt = (I_199 401 this).toInt := by rw [hg_392.2.1 401 (by decide +kernel) (by decide +kernel)]
                  have tt_403 : (I_388 402 this).toInt = (I_199 402 this).toInt := by rw [hg_392.2.1 402 (by decide +kernel) (by decide +kernel)]
                  have tt_404 : (I_388 397 this).toInt = (I_199 397 this).toInt := by rw [hg_392.2.1 397 (by decide +kernel) (by decide +kernel)]
                  refine lv_istore_n (lv' := [(3, .int x_386), (2, .int x_192), (1, .int x_1), (0, .ref this)]) hx hb dX12_clause_166 rfl hl (by decide +kernel) rfl (fun ls hl => ?_)
                  refine lv_iload_n hx hb dX12_clause_167 rfl (lv_at hl 0 rfl) ?_
                  refine lv_if_eq (tgt := 173) hx hb dX12_clause_168 (by decide +kernel) (fun c_405 => ?_) (fun c_405 => ?_)
                  · replace hF := hF.trans (if_pos c_405)
                    have tc_410 : (x_386).toInt = 0 := congrArg Int32.toInt c_405
                    have h_411 : rg x_386 0 0 := rg_and hr_393 (rg_of_eq c_405 (rg_k (0 : Int32) 0 rfl)) (by decide +kernel)
                    have uh_411 := h_411.1
                    have vh_411 := h_411.2
                    refine lv_aload_n hx hb dX12_clause_173 rfl (lv_at hl 3 rfl) ?_
                    refine pg_f (v := .int (I_388 393 this)) (C := RX12) (T := TX12) (N := 31) hx hb hts (tw_i inlX12) hown hK hP hL_this hK_this (by decide +kernel) rfl 9 (by decide +kernel) (hts _ (tw_c tw_831)) rfl dX12_clause_174 ?_
                    replace hF := hF.trans (ap_n (vI_e (f := 393) hO_this (by decide +kernel)))
                    refine lv_bipush (v := 59) hx hb dX12_clause_177 (by decide +kernel) ?_
                    refine lv_icmp_eq (tgt := 184) hx hb dX12_clause_179 (by decide +kernel) (fun c_413 => ?_) (fun c_413 => ?_)
                    · replace hF := hF.trans (if_pos c_413)
                      have tc_417 : (I_388 393 this).toInt = 59 := congrArg Int32.toInt c_413
                      have h_418 : rg (I_388 393 this) 59 59 := rg_and (rg_full _) (rg_of_eq c_413 (rg_k (59 : Int32) 59 rfl)) (by decide +kernel)
                      have uh_418 := h_418.1
                      have vh_418 := h_418.2
                      refine lv_aload_n hx hb dX12_clause_184 rfl (lv_at hl 3 rfl) ?_
                      refine lv_dup hx hb dX12_clause_185 rfl ?_
                      refine pg_f (v := .int (I_388 397 this)) (C := RX12) (T := TX12) (N := 31) hx hb hts (tw_i inlX12) hown hK hP hL_this hK_this (by decide +kernel) rfl 13 (by decide +kernel) (hts _ (tw_c tw_822)) rfl dX12_clause_186 ?_
                      have h_419 : rg (I_388 397 this) 0 19 := (by rw [hg_392.2.1 397 (by decide +kernel) (by decide +kernel)]; exact (by rw [hg_202.2.1 397 (by decide +kernel) (by decide +kernel)]; exact h_188))
                      have uh_419 := h_419.1
                      have vh_419 := h_419.2
                      replace hF := hF.trans (ap_n (vI_e (f := 397) hO_this (by decide +kernel)))
                      refine lv_iconst (v := 1) hx hb dX12_clause_189 (by decide +kernel) ?_
                      refine lv_iadd hx hb dX12_clause_190 ?_
                      refine lv_topi (fun x_421 ex_421 => ?_)
                      replace hF := hF.trans (ap_n ex_421)
                      have h_422 : rg x_421 1 20 := rg_of_eq ex_421 (rg_add h_419 (rg_k (1 : Int32) 1 rfl) (by decide +kernel))
                      have uh_422 := h_422.1
                      have vh_422 := h_422.2
                      have tx_421 : (x_421).toInt = (I_388 397 this).toInt + 1 := by rw [ex_421]; exact i_add_rg (a2 := (I_388 397 this).toInt) (b2 := 1) rfl rfl h_419 (rg_k (1 : Int32) 1 rfl) (by decide +kernel)
                      refine pp_i (v := x_421) (ty := .int) (C := RX12) (T := TX12) (N := 31) hx hb hts (tw_i inlX12) tyX12 tyX12_ok nmX12 hown hK hP hD hS hL_this hK_this (by decide +kernel) rfl 13 397 (by decide +kernel) (hts _ (tw_c tw_822)) rfl (tyX12_ok 13 (by decide +kernel)) rfl rfl (Nat.le_of_ble_eq_true rfl) (ps_397 _ _ _ _ _) dX12_clause_191 (fun I_423 H locs eI_423 hP hD hS => ?_)
                      replace hFr := fr_I (f := 397) hFr hO_this (by decide +kernel) eI_423
                      replace hF := hF.trans (ap_n (vI_st (f := 397) hO_this (by decide +kernel) eI_423))
                      have hG := GM.wI hG 397 rfl eI_423 (rg_w h_422 (by decide +kernel)) (by decide +kernel)
                      have tt_424 : (I_423 396 this).toInt = (I_388 396 this).toInt := by rw [eI_423, pq_uf _ _ _ (by decide +kernel)]
                      have tt_425 : (I_423 398 this).toInt = (I_388 398 this).toInt := by rw [eI_423, pq_uf _ _ _ (by decide +kernel)]
                      have tt_426 : (I_423 401 this).toInt = (I_388 401 this).toInt := by rw [eI_423, pq_uf _ _ _ (by decide +kernel)]
                      have tt_427 : (I_423 402 this).toInt = (I_388 402 this).toInt := by rw [eI_423, pq_uf _ _ _ (by decide +kernel)]
                      have tt_428 : (I_423 391 this).toInt = (I_388 391 this).toInt := by rw [eI_423, pq_uf _ _ _ (by decide +kernel)]
                      have tt_429 : (I_423 393 this).toInt = (I_388 393 this).toInt := by rw [eI_423, pq_uf _ _ _ (by decide +kernel)]
                      have tt_430 : (I_423 403 this).toInt = (I_388 403 this).toInt := by rw [eI_423, pq_uf _ _ _ (by decide +kernel)]
                      have tt_431 : (I_423 397 this).toInt = (x_421).toInt := by rw [eI_423, pq_us]
                      refine lv_aload_n hx hb dX12_clause_194 rfl (lv_at hl 3 rfl) ?_
                      have hkn_432 : (I_423 393 this).toInt ≠ 0 := by omega
                      refine pk_v (va_runV (As := []) (rest := []) ⟨hx, hb, hml, hown, hts⟩ (s_X12_nextToken_x l D t σ I_423 J_389 ri_390 rj rq H.size tg hSH hG.1 this hL_this hK_this w_196 hR_w_196 hL_w_196 hK_w_196 hN_w_196 hT_w_196) (cwV 0 hts (tw_V tw_832 tw_833 tw_834 tw_5 tw_835) rfl rfl rfl cv_yX12_nextToken_0 ⟨Nat.le_of_ble_eq_true rfl, Nat.le_of_ble_eq_true rfl⟩) ⟨pq_blind, pq_recv hK hP hL_this hK_this (by decide +kernel) rfl, pq_pre hK hN hP hD⟩ rfl rfl hl.1 rfl (lv_room (Nat.le_of_ble_eq_true rfl)) dX12_clause_195 ⟨Nat.le_of_ble_eq_true rfl, Nat.le_of_ble_eq_true rfl⟩) hD hS hA (fun σ1 μ1 H locs hw_434 hP hD hS => ?_)
                      obtain ⟨I_435, J_436, hu_437, hg_438, hp_440, hp_441, hp_442, hfn_443, hfr_444⟩ := hw_434
                      obtain ⟨hu_437a, hu_437b⟩ := Prod.mk.inj hu_437
                      rw [hu_437a, hu_437b] at hP hD
                      replace hF := hF.trans (bv_n hfn_443)
                      replace hFr := fr_tr hFr hfr_444
                      have tt_445 : (I_435 391 this).toInt ≤ 300 := by have z := hg_438.1.1 391 this; exact z.2
                      have hG := GM.tr hG hg_438 (by decide +kernel)
                      have tt_446 : (I_435 396 this).toInt = (I_423 396 this).toInt := by rw [hg_438.2.1 396 (by decide +kernel) (by decide +kernel)]
                      have tt_447 : (I_435 398 this).toInt = (I_423 398 this).toInt := by rw [hg_438.2.1 398 (by decide +kernel) (by decide +kernel)]
                      have tt_448 : (I_435 401 this).toInt = (I_423 401 this).toInt := by rw [hg_438.2.1 401 (by decide +kernel) (by decide +kernel)]
                      have tt_449 : (I_435 402 this).toInt = (I_423 402 this).toInt := by rw [hg_438.2.1 402 (by decide +kernel) (by decide +kernel)]
                      have tt_450 : (I_435 397 this).toInt = (I_423 397 this).toInt := by rw [hg_438.2.1 397 (by decide +kernel) (by decide +kernel)]
                      refine lv_iconst (v := 0) hx hb dX12_clause_198 (by decide +kernel) ?_
                      subst hQ
                      exact W.iret (v := 0) hx hb hr (fun t1 ht hW => ⟨⟨0, (σ, I_435, J_436, ri_390, rj, rq), rfl, ⟨I_435, J_436, ri_390, rfl, hG, (Or.inr ⟨(CLz_mk (by rw [show ri_390 this_a 6 = ri this_a 6 from hG.2.2.1 this_a hT_this_a 6 (by decide +kernel) (by decide +kernel)]; omega) (by rw [show (I_435 397 this).toInt = (((I 397 this).toNatClampNeg + 1 : Nat) : Int) from by omega]; have q := TXQ_other (f := ri this_a) (w := (I 398 this).toInt) (n := (I 397 this).toNatClampNeg) (ci := (x_192).toNatClampNeg) (by rw [show (((I 397 this).toNatClampNeg : Nat) : Int) = (I 397 this).toInt from by omega]; exact hcl.2.1) (by omega) ⟨by omega, by omega⟩ (by omega) (by omega) ((congrFun er_195 _).trans (va_up_self _ _ _)) (by omega) (fun j hj => hp_395 j (by omega)); rw [show (I_435 398 this).toInt = (I 398 this).toInt from by omega]; exact q) (by omega) (by omega) (by omega) (fun q => by omega) (by omega)), (Int.lt_of_lt_of_le (tm_lt hkn_432 hp_440 hp_441) (tm_lec (Int.le_trans hp_396 htmH) (by omega) (by omega)))⟩), (hF0.symm.trans hF), hFr, (rg_w (rg_k (0 : Int32) 0 rfl) (by decide +kernel))⟩, by rw [ht]; exact hP, va_K.moved hW.alike hK, hD⟩, hS.F ht⟩) hS.2.2 dX12_clause_199
                    · replace hF := hF.trans (if_neg c_413)
                      have tc_451 : (I_388 393 this).toInt ≠ 59 := fun q => c_413 (Int32.toInt_inj.mp q)
                      refine lv_iconst (v := 1) hx hb dX12_clause_182 (by decide +kernel) ?_
                      subst hQ
                      exact W.iret (v := 1) hx hb hr (fun t1 ht hW => ⟨⟨1, (σ, I_388, J_389, ri_390, rj, rq), rfl, ⟨I_388, J_389, ri_390, rfl, hG, (Or.inl (by decide +kernel)), (hF0.symm.trans hF), hFr, (rg_w (rg_k (1 : Int32) 1 rfl) (by decide +kernel))⟩, by rw [ht]; exact hP, va_K.moved hW.alike hK, hD⟩, hS.F ht⟩) hS.2.2 dX12_clause_183
                  · replace hF := hF.trans (if_neg c_405)
                    have tc_452 : (x_386).toInt ≠ 0 := fun q => c_405 (Int32.toInt_inj.mp q)
                    have h_453 : rg x_386 1 2 := rg_ne c_405 hr_393 0 rfl (by decide +kernel)
                    have uh_453 := h_453.1
                    have vh_453 := h_453.2
                    refine lv_iload_n hx hb dX12_clause_171 rfl (lv_at hl 0 rfl) ?_
                    subst hQ
                    exact W.iret (v := x_386) hx hb hr (fun t1 ht hW => ⟨⟨x_386, (σ, I_388, J_389, ri_390, rj, rq), rfl, ⟨I_388, J_389, ri_390, rfl, hG, (Or.inl (by omega)), (hF0.symm.trans hF), hFr, (rg_w h_453 (by decide +kernel))⟩, by rw [ht]; exact hP, va_K.moved hW.alike hK, hD⟩, hS.F ht⟩) hS.2.2 dX12_clause_172
              · replace hF := hF.trans (if_neg c_219)
                have tc_454 : (x_1).toInt ≤ 6 := Int32.le_iff_toInt_le.mp (nlt c_219)
                have h_455 : rg x_1 5 6 := rg_le1 (nlt c_219) h_155 (rg_k (6 : Int32) 6 rfl) (by decide +kernel)
                have uh_455 := h_455.1
                have vh_455 := h_455.2
                refine lv_aload_n hx hb dX12_clause_124 rfl (lv_at hl 3 rfl) ?_
                refine lv_iload_n hx hb dX12_clause_125 rfl (lv_at hl 1 rfl) ?_
                have t26 : (r_195 this_a 6).toInt = (ri this_a 6).toInt := congrArg Int32.toInt (hG.2.2.1 this_a hT_this_a 6 (by decide +kernel) (by decide +kernel))
                refine pk_i (va_runV (As := [.int x_192]) (rest := []) ⟨hx, hb, hml, hown, hts⟩ (s_X12_keys l D t σ I_199 J_200 r_195 rj rq H.size tg hSH hG.1 this x_192 hL_this hK_this this_a hR_this_a hL_this_a hK_this_a hN_this_a hT_this_a (by omega)) (cwV 1 hts (tw_V tw_929 tw_930 tw_931 tw_5 tw_932) rfl rfl rfl cv_yX12_keys_1 ⟨Nat.le_of_ble_eq_true rfl, Nat.le_of_ble_eq_true rfl⟩) ⟨pq_blind, pq_recv hK hP hL_this hK_this (by decide +kernel) rfl, pq_pre hK hN hP hD⟩ rfl rfl hl.1 rfl (lv_room (Nat.le_of_ble_eq_true rfl)) dX12_clause_126 ⟨Nat.le_of_ble_eq_true rfl, Nat.le_of_ble_eq_true rfl⟩) hD hS hA (fun x_456 σ1 μ1 H locs hw_457 hP hD hS => ?_)
                obtain ⟨I_458, J_459, ri_460, hu_461, hg_462, hp_464, hp_465, hp_466, hfn_467, hfr_468, hr_463⟩ := hw_457
                obtain ⟨hu_461a, hu_461b⟩ := Prod.mk.inj hu_461
                rw [hu_461a, hu_461b] at hP hD
                replace hF := hF.trans (bn_n hfn_467)
                replace hFr := fr_tr hFr hfr_468
                have tt_469 := hp_464
                have hG := GM.tr hG hg_462 (by decide +kernel)
                have tt_470 : (I_458 396 this).toInt = (I_199 396 this).toInt := by rw [hg_462.2.1 396 (by decide +kernel) (by decide +kernel)]
                have tt_471 : (I_458 398 this).toInt = (I_199 398 this).toInt := by rw [hg_462.2.1 398 (by decide +kernel) (by decide +kernel)]
                have tt_472 : (I_458 401 this).toInt = (I_199 401 this).toInt := by rw [hg_462.2.1 401 (by decide +kernel) (by decide +kernel)]
                have tt_473 : (I_458 402 this).toInt = (I_199 402 this).toInt := by rw [hg_462.2.1 402 (by decide +kernel) (by decide +kernel)]
                have tt_474 : (I_458 397 this).toInt = (I_199 397 this).toInt := by rw [hg_462.2.1 397 (by decide +kernel) (by decide +kernel)]
                refine lv_istore_n (lv' := [(3, .int x_456), (2, .int x_192), (1, .int x_1), (0, .ref this)]) hx hb dX12_clause_129 rfl hl (by decide +kernel) rfl (fun ls hl => ?_)
                refine lv_goto (tgt := 167) hx hb dX12_clause_130 (by decide +kernel) ?_
                refine lv_iload_n hx hb dX12_clause_167 rfl (lv_at hl 0 rfl) ?_
                refine lv_if_eq (tgt := 173) hx hb dX12_clause_168 (by decide +kernel) (fun c_475 => ?_) (fun c_475 => ?_)
                · replace hF := hF.trans (if_pos c_475)
                  have tc_480 : (x_456).toInt = 0 := congrArg Int32.toInt c_475
                  have h_481 : rg x_456 0 0 := rg_and hr_463 (rg_of_eq c_475 (rg_k (0 : Int32) 0 rfl)) (by decide +kernel)
                  have uh_481 := h_481.1
                  have vh_481 := h_481.2
                  refine lv_aload_n hx hb dX12_clause_173 rfl (lv_at hl 3 rfl) ?_
                  refine pg_f (v := .int (I_458 393 this)) (C := RX12) (T := TX12) (N := 31) hx hb hts (tw_i inlX12) hown hK hP hL_this hK_this (by decide +kernel) rfl 9 (by decide +kernel) (hts _ (tw_c tw_831)) rfl dX12_clause_174 ?_
                  replace hF := hF.trans (ap_n (vI_e (f := 393) hO_this (by decide +kernel)))
                  refine lv_bipush (v := 59) hx hb dX12_clause_177 (by decide +kernel) ?_
                  refine lv_icmp_eq (tgt := 184) hx hb dX12_clause_179 (by decide +kernel) (fun c_483 => ?_) (fun c_483 => ?_)
                  · replace hF := hF.trans (if_pos c_483)
                    have tc_487 : (I_458 393 this).toInt = 59 := congrArg Int32.toInt c_483
                    have h_488 : rg (I_458 393 this) 59 59 := rg_and (rg_full _) (rg_of_eq c_483 (rg_k (59 : Int32) 59 rfl)) (by decide +kernel)
                    have uh_488 := h_488.1
                    have vh_488 := h_488.2
                    refine lv_aload_n hx hb dX12_clause_184 rfl (lv_at hl 3 rfl) ?_
                    refine lv_dup hx hb dX12_clause_185 rfl ?_
                    refine pg_f (v := .int (I_458 397 this)) (C := RX12) (T := TX12) (N := 31) hx hb hts (tw_i inlX12) hown hK hP hL_this hK_this (by decide +kernel) rfl 13 (by decide +kernel) (hts _ (tw_c tw_822)) rfl dX12_clause_186 ?_
                    have h_489 : rg (I_458 397 this) 0 19 := (by rw [hg_462.2.1 397 (by decide +kernel) (by decide +kernel)]; exact (by rw [hg_202.2.1 397 (by decide +kernel) (by decide +kernel)]; exact h_188))
                    have uh_489 := h_489.1
                    have vh_489 := h_489.2
                    replace hF := hF.trans (ap_n (vI_e (f := 397) hO_this (by decide +kernel)))
                    refine lv_iconst (v := 1) hx hb dX12_clause_189 (by decide +kernel) ?_
                    refine lv_iadd hx hb dX12_clause_190 ?_
                    refine lv_topi (fun x_491 ex_491 => ?_)
                    replace hF := hF.trans (ap_n ex_491)
                    have h_492 : rg x_491 1 20 := rg_of_eq ex_491 (rg_add h_489 (rg_k (1 : Int32) 1 rfl) (by decide +kernel))
                    have uh_492 := h_492.1
                    have vh_492 := h_492.2
                    have tx_491 : (x_491).toInt = (I_458 397 this).toInt + 1 := by rw [ex_491]; exact i_add_rg (a2 := (I_458 397 this).toInt) (b2 := 1) rfl rfl h_489 (rg_k (1 : Int32) 1 rfl) (by decide +kernel)
                    refine pp_i (v := x_491) (ty := .int) (C := RX12) (T := TX12) (N := 31) hx hb hts (tw_i inlX12) tyX12 tyX12_ok nmX12 hown hK hP hD hS hL_this hK_this (by decide +kernel) rfl 13 397 (by decide +kernel) (hts _ (tw_c tw_822)) rfl (tyX12_ok 13 (by decide +kernel)) rfl rfl (Nat.le_of_ble_eq_true rfl) (ps_397 _ _ _ _ _) dX12_clause_191 (fun I_493 H locs eI_493 hP hD hS => ?_)
                    replace hFr := fr_I (f := 397) hFr hO_this (by decide +kernel) eI_493
                    replace hF := hF.trans (ap_n (vI_st (f := 397) hO_this (by decide +kernel) eI_493))
                    have hG := GM.wI hG 397 rfl eI_493 (rg_w h_492 (by decide +kernel)) (by decide +kernel)
                    have tt_494 : (I_493 396 this).toInt = (I_458 396 this).toInt := by rw [eI_493, pq_uf _ _ _ (by decide +kernel)]
                    have tt_495 : (I_493 398 this).toInt = (I_458 398 this).toInt := by rw [eI_493, pq_uf _ _ _ (by decide +kernel)]
                    have tt_496 : (I_493 401 this).toInt = (I_458 401 this).toInt := by rw [eI_493, pq_uf _ _ _ (by decide +kernel)]
                    have tt_497 : (I_493 402 this).toInt = (I_458 402 this).toInt := by rw [eI_493, pq_uf _ _ _ (by decide +kernel)]
                    have tt_498 : (I_493 391 this).toInt = (I_458 391 this).toInt := by rw [eI_493, pq_uf _ _ _ (by decide +kernel)]
                    have tt_499 : (I_493 393 this).toInt = (I_458 393 this).toInt := by rw [eI_493, pq_uf _ _ _ (by decide +kernel)]
                    have tt_500 : (I_493 403 this).toInt = (I_458 403 this).toInt := by rw [eI_493, pq_uf _ _ _ (by decide +kernel)]
                    have tt_501 : (I_493 397 this).toInt = (x_491).toInt := by rw [eI_493, pq_us]
                    refine lv_aload_n hx hb dX12_clause_194 rfl (lv_at hl 3 rfl) ?_
                    have hkn_502 : (I_493 393 this).toInt ≠ 0 := by omega
                    refine pk_v (va_runV (As := []) (rest := []) ⟨hx, hb, hml, hown, hts⟩ (s_X12_nextToken_x l D t σ I_493 J_459 ri_460 rj rq H.size tg hSH hG.1 this hL_this hK_this w_196 hR_w_196 hL_w_196 hK_w_196 hN_w_196 hT_w_196) (cwV 0 hts (tw_V tw_832 tw_833 tw_834 tw_5 tw_835) rfl rfl rfl cv_yX12_nextToken_0 ⟨Nat.le_of_ble_eq_true rfl, Nat.le_of_ble_eq_true rfl⟩) ⟨pq_blind, pq_recv hK hP hL_this hK_this (by decide +kernel) rfl, pq_pre hK hN hP hD⟩ rfl rfl hl.1 rfl (lv_room (Nat.le_of_ble_eq_true rfl)) dX12_clause_195 ⟨Nat.le_of_ble_eq_true rfl, Nat.le_of_ble_eq_true rfl⟩) hD hS hA (fun σ1 μ1 H locs hw_504 hP hD hS => ?_)
                    obtain ⟨I_505, J_506, hu_507, hg_508, hp_510, hp_511, hp_512, hfn_513, hfr_514⟩ := hw_504
                    obtain ⟨hu_507a, hu_507b⟩ := Prod.mk.inj hu_507
                    rw [hu_507a, hu_507b] at hP hD
                    replace hF := hF.trans (bv_n hfn_513)
                    replace hFr := fr_tr hFr hfr_514
                    have tt_515 : (I_505 391 this).toInt ≤ 300 := by have z := hg_508.1.1 391 this; exact z.2
                    have hG := GM.tr hG hg_508 (by decide +kernel)
                    have tt_516 : (I_505 396 this).toInt = (I_493 396 this).toInt := by rw [hg_508.2.1 396 (by decide +kernel) (by decide +kernel)]
                    have tt_517 : (I_505 398 this).toInt = (I_493 398 this).toInt := by rw [hg_508.2.1 398 (by decide +kernel) (by decide +kernel)]
                    have tt_518 : (I_505 401 this).toInt = (I_493 401 this).toInt := by rw [hg_508.2.1 401 (by decide +kernel) (by decide +kernel)]
                    have tt_519 : (I_505 402 this).toInt = (I_493 402 this).toInt := by rw [hg_508.2.1 402 (by decide +kernel) (by decide +kernel)]
                    have tt_520 : (I_505 397 this).toInt = (I_493 397 this).toInt := by rw [hg_508.2.1 397 (by decide +kernel) (by decide +kernel)]
                    refine lv_iconst (v := 0) hx hb dX12_clause_198 (by decide +kernel) ?_
                    subst hQ
                    exact W.iret (v := 0) hx hb hr (fun t1 ht hW => ⟨⟨0, (σ, I_505, J_506, ri_460, rj, rq), rfl, ⟨I_505, J_506, ri_460, rfl, hG, (Or.inr ⟨(CLz_mk (by rw [show ri_460 this_a 6 = ri this_a 6 from hG.2.2.1 this_a hT_this_a 6 (by decide +kernel) (by decide +kernel)]; omega) (by rw [show (I_505 397 this).toInt = (((I 397 this).toNatClampNeg + 1 : Nat) : Int) from by omega]; have q := TXQ_other (f := ri this_a) (w := (I 398 this).toInt) (n := (I 397 this).toNatClampNeg) (ci := (x_192).toNatClampNeg) (by rw [show (((I 397 this).toNatClampNeg : Nat) : Int) = (I 397 this).toInt from by omega]; exact hcl.2.1) (by omega) ⟨by omega, by omega⟩ (by omega) (by omega) ((congrFun er_195 _).trans (va_up_self _ _ _)) (by omega) (fun j hj => hp_465 j (by omega)); rw [show (I_505 398 this).toInt = (I 398 this).toInt from by omega]; exact q) (by omega) (by omega) (by omega) (fun q => by omega) (by omega)), (Int.lt_of_lt_of_le (tm_lt hkn_502 hp_510 hp_511) (tm_lec (Int.le_trans hp_466 htmH) (by omega) (by omega)))⟩), (hF0.symm.trans hF), hFr, (rg_w (rg_k (0 : Int32) 0 rfl) (by decide +kernel))⟩, by rw [ht]; exact hP, va_K.moved hW.alike hK, hD⟩, hS.F ht⟩) hS.2.2 dX12_clause_199
                  · replace hF := hF.trans (if_neg c_483)
                    have tc_521 : (I_458 393 this).toInt ≠ 59 := fun q => c_483 (Int32.toInt_inj.mp q)
                    refine lv_iconst (v := 1) hx hb dX12_clause_182 (by decide +kernel) ?_
                    subst hQ
                    exact W.iret (v := 1) hx hb hr (fun t1 ht hW => ⟨⟨1, (σ, I_458, J_459, ri_460, rj, rq), rfl, ⟨I_458, J_459, ri_460, rfl, hG, (Or.inl (by decide +kernel)), (hF0.symm.trans hF), hFr, (rg_w (rg_k (1 : Int32) 1 rfl) (by decide +kernel))⟩, by rw [ht]; exact hP, va_K.moved hW.alike hK, hD⟩, hS.F ht⟩) hS.2.2 dX12_clause_183
                · replace hF := hF.trans (if_neg c_475)
                  have tc_522 : (x_456).toInt ≠ 0 := fun q => c_475 (Int32.toInt_inj.mp q)
                  have h_523 : rg x_456 1 5 := rg_ne c_475 hr_463 0 rfl (by decide +kernel)
                  have uh_523 := h_523.1
                  have vh_523 := h_523.2
                  refine lv_iload_n hx hb dX12_clause_171 rfl (lv_at hl 0 rfl) ?_
                  subst hQ
                  exact W.iret (v := x_456) hx hb hr (fun t1 ht hW => ⟨⟨x_456, (σ, I_458, J_459, ri_460, rj, rq), rfl, ⟨I_458, J_459, ri_460, rfl, hG, (Or.inl (by omega)), (hF0.symm.trans hF), hFr, (rg_w h_523 (by decide +kernel))⟩, by rw [ht]; exact hP, va_K.moved hW.alike hK, hD⟩, hS.F ht⟩) hS.2.2 dX12_clause_172
            · have tc_524 : (x_1).toInt ≤ 4 := Int32.le_iff_toInt_le.mp (nlt c_215)
              exact (rg_empty (rg_le1 (nlt c_215) h_155 (rg_k (4 : Int32) 4 rfl) (lo := 5) (hi := 4) (by decide +kernel)) (by decide +kernel)).elim
          · replace hF := hF.trans (if_pos c_166)
            have tc_525 : (I 397 this).toInt = 20 := congrArg Int32.toInt c_166
            have h_526 : rg (I 397 this) 20 20 := rg_and h_164 (rg_of_eq c_166 (rg_k (20 : Int32) 20 rfl)) (by decide +kernel)
            have uh_526 := h_526.1
            have vh_526 := h_526.2
            refine lv_iconst (v := 5) hx hb dX12_clause_39 (by decide +kernel) ?_
            subst hQ
            exact W.iret (v := 5) hx hb hr (fun t1 ht hW => ⟨⟨5, (σ, I, J, ri, rj, rq), rfl, ⟨I, J, ri, rfl, hG, (Or.inl (by decide +kernel)), (hF0.symm.trans hF), hFr, (rg_w (rg_k (5 : Int32) 5 rfl) (by decide +kernel))⟩, by rw [ht]; exact hP, va_K.moved hW.alike hK, hD⟩, hS.F ht⟩) hS.2.2 dX12_clause_40
        · replace hF := hF.trans (if_pos c_159)
          have tc_527 : (x_158).toInt = 1 := congrArg Int32.toInt c_159
          have h_528 : rg x_158 1 1 := rg_and (rg_full _) (rg_of_eq c_159 (rg_k (1 : Int32) 1 rfl)) (by decide +kernel)
          have uh_528 := h_528.1
          have vh_528 := h_528.2
          refine lv_iconst (v := 4) hx hb dX12_clause_28 (by decide +kernel) ?_
          subst hQ
          exact W.iret (v := 4) hx hb hr (fun t1 ht hW => ⟨⟨4, (σ, I, J, ri, rj, rq), rfl, ⟨I, J, ri, rfl, hG, (Or.inl (by decide +kernel)), (hF0.symm.trans hF), hFr, (rg_w (rg_k (4 : Int32) 4 rfl) (by decide +kernel))⟩, by rw [ht]; exact hP, va_K.moved hW.alike hK, hD⟩, hS.F ht⟩) hS.2.2 dX12_clause_29
    · replace hF := hF.trans (if_pos c_9)
      have tc_529 : (x_1).toInt = 0 := congrArg Int32.toInt c_9
      have h_530 : rg x_1 0 0 := rg_and hr_5 (rg_of_eq c_9 (rg_k (0 : Int32) 0 rfl)) (by decide +kernel)
      have uh_530 := h_530.1
      have vh_530 := h_530.2
      refine lv_iconst (v := 1) hx hb dX12_clause_9 (by decide +kernel) ?_
      subst hQ
      exact W.iret (v := 1) hx hb hr (fun t1 ht hW => ⟨⟨1, (σ, I, J, ri, rj, rq), rfl, ⟨I, J, ri, rfl, hG, (Or.inl (by decide +kernel)), (hF0.symm.trans hF), hFr, (rg_w (rg_k (1 : Int32) 1 rfl) (by decide +kernel))⟩, by rw [ht]; exact hP, va_K.moved hW.alike hK, hD⟩, hS.F ht⟩) hS.2.2 dX12_clause_10
  exact go _ _ _ hP hD hS hl
theorem dX12_readText_0 : decode cX12_readText 0 = .ok (.aload_n 0, 1) := oc_42 (by decide +kernel)
theorem dX12_readText_1 : decode cX12_readText 1 = .ok (.sipush 3720, 3) := oc_17 (a := 14) (b := 136) (by decide +kernel)
theorem dX12_readText_4 : decode cX12_readText 4 = .ok (.sipush 900, 3) := oc_17 (a := 3) (b := 132) (by decide +kernel)
theorem dX12_readText_7 : decode cX12_readText 7 = .ok (.aload_n 0, 1) := oc_42 (by decide +kernel)
theorem dX12_readText_8 : decode cX12_readText 8 = .ok (.getfield 7, 3) := oc_180 (a := 0) (b := 7) (by decide +kernel)
theorem dX12_readText_11 : decode cX12_readText 11 = .ok (.bipush 6, 2) := oc_16 (a := 6) (by decide +kernel)
theorem dX12_readText_13 : decode cX12_readText 13 = .ok (.iaload, 1) := oc_46 (by decide +kernel)
theorem dX12_readText_14 : decode cX12_readText 14 = .ok (.imul, 1) := oc_104 (by decide +kernel)
theorem dX12_readText_15 : decode cX12_readText 15 = .ok (.iadd, 1) := oc_96 (by decide +kernel)
theorem dX12_readText_16 : decode cX12_readText 16 = .ok (.putfield 172, 3) := oc_181 (a := 0) (b := 172) (by decide +kernel)
theorem dX12_readText_19 : decode cX12_readText 19 = .ok (.aload_n 0, 1) := oc_42 (by decide +kernel)
theorem dX12_readText_20 : decode cX12_readText 20 = .ok (.iconst 0, 1) := oc_3 (by decide +kernel)
theorem dX12_readText_21 : decode cX12_readText 21 = .ok (.putfield 248, 3) := oc_181 (a := 0) (b := 248) (by decide +kernel)
theorem dX12_readText_24 : decode cX12_readText 24 = .ok (.aload_n 0, 1) := oc_42 (by decide +kernel)
theorem dX12_readText_25 : decode cX12_readText 25 = .ok (.iconst 0, 1) := oc_3 (by decide +kernel)
theorem dX12_readText_26 : decode cX12_readText 26 = .ok (.putfield 175, 3) := oc_181 (a := 0) (b := 175) (by decide +kernel)
theorem dX12_readText_29 : decode cX12_readText 29 = .ok (.aload_n 0, 1) := oc_42 (by decide +kernel)
theorem dX12_readText_30 : decode cX12_readText 30 = .ok (.iconst 0, 1) := oc_3 (by decide +kernel)
theorem dX12_readText_31 : decode cX12_readText 31 = .ok (.putfield 185, 3) := oc_181 (a := 0) (b := 185) (by decide +kernel)
theorem dX12_readText_34 : decode cX12_readText 34 = .ok (.aload_n 0, 1) := oc_42 (by decide +kernel)
theorem dX12_readText_35 : decode cX12_readText 35 = .ok (.iconst 0, 1) := oc_3 (by decide +kernel)
theorem dX12_readText_36 : decode cX12_readText 36 = .ok (.putfield 245, 3) := oc_181 (a := 0) (b := 245) (by decide +kernel)
theorem dX12_readText_39 : decode cX12_readText 39 = .ok (.aload_n 0, 1) := oc_42 (by decide +kernel)
theorem dX12_readText_40 : decode cX12_readText 40 = .ok (.iconst 0, 1) := oc_3 (by decide +kernel)
theorem dX12_readText_41 : decode cX12_readText 41 = .ok (.putfield 134, 3) := oc_181 (a := 0) (b := 134) (by decide +kernel)
theorem dX12_readText_44 : decode cX12_readText 44 = .ok (.aload_n 0, 1) := oc_42 (by decide +kernel)
theorem dX12_readText_45 : decode cX12_readText 45 = .ok (.invokevirtual 196, 3) := oc_182 (a := 0) (b := 196) (by decide +kernel)
theorem dX12_readText_48 : decode cX12_readText 48 = .ok (.aload_n 0, 1) := oc_42 (by decide +kernel)
theorem dX12_readText_49 : decode cX12_readText 49 = .ok (.getfield 143, 3) := oc_180 (a := 0) (b := 143) (by decide +kernel)
theorem dX12_readText_52 : decode cX12_readText 52 = .ok (.ifCond .eq 17, 3) := oc_153 (a := 0) (b := 17) (by decide +kernel)
theorem dX12_readText_69 : decode cX12_readText 69 = .ok (.iconst 0, 1) := oc_3 (by decide +kernel)
theorem dX12_readText_70 : decode cX12_readText 70 = .ok (.ireturn, 1) := oc_172 (by decide +kernel)
theorem dX12_readText_55 : decode cX12_readText 55 = .ok (.aload_n 0, 1) := oc_42 (by decide +kernel)
theorem tw_849 : Cond.methodLink RX12 260 yX12_clause ∈ wsL_law := sg_36 _ (List.mem_of_getElem? (i := 9) rfl)
theorem tw_850 : Cond.instanceMethod yX12_clause ∈ wsL_law := sg_36 _ (List.mem_of_getElem? (i := 10) rfl)
theorem tw_851 : Cond.selects RX12 yX12_clause yX12_clause ∈ wsL_law := sg_36 _ (List.mem_of_getElem? (i := 11) rfl)
theorem tw_852 : Cond.code yX12_clause cX12_clause 4 (some .int) ∈ wsL_law := sg_36 _ (List.mem_of_getElem? (i := 12) rfl)
theorem dX12_readText_56 : decode cX12_readText 56 = .ok (.invokevirtual 260, 3) := oc_182 (a := 1) (b := 4) (by decide +kernel)
theorem dX12_readText_59 : decode cX12_readText 59 = .ok (.istore_n 1, 1) := oc_60 (by decide +kernel)
theorem dX12_readText_60 : decode cX12_readText 60 = .ok (.iload_n 1, 1) := oc_27 (by decide +kernel)
theorem dX12_readText_61 : decode cX12_readText 61 = .ok (.ifCond .eq 5, 3) := oc_153 (a := 0) (b := 5) (by decide +kernel)
theorem dX12_readText_66 : decode cX12_readText 66 = .ok (.goto (-18), 3) := oc_167 (a := 255) (b := 238) (by decide +kernel)
theorem dX12_readText_64 : decode cX12_readText 64 = .ok (.iload_n 1, 1) := oc_27 (by decide +kernel)
theorem dX12_readText_65 : decode cX12_readText 65 = .ok (.ireturn, 1) := oc_172 (by decide +kernel)
theorem dX12_text_0 : decode cX12_text 0 = .ok (.aload_n 0, 1) := oc_42 (by decide +kernel)
theorem dX12_text_1 : decode cX12_text 1 = .ok (.getfield 7, 3) := oc_180 (a := 0) (b := 7) (by decide +kernel)
theorem dX12_text_4 : decode cX12_text 4 = .ok (.bipush 6, 2) := oc_16 (a := 6) (by decide +kernel)
theorem dX12_text_6 : decode cX12_text 6 = .ok (.iaload, 1) := oc_46 (by decide +kernel)
theorem dX12_text_7 : decode cX12_text 7 = .ok (.bipush 10, 2) := oc_16 (a := 10) (by decide +kernel)
theorem dX12_text_9 : decode cX12_text 9 = .ok (.if_icmp .ne 5, 3) := oc_160 (a := 0) (b := 5) (by decide +kernel)
theorem dX12_text_14 : decode cX12_text 14 = .ok (.aload_n 0, 1) := oc_42 (by decide +kernel)
theorem dX12_text_15 : decode cX12_text 15 = .ok (.aload_n 0, 1) := oc_42 (by decide +kernel)
theorem tw_823 : Cond.methodLink RX12 263 yX12_readText ∈ wsL_law := sg_35 _ (List.mem_of_getElem? (i := 7) rfl)
theorem tw_824 : Cond.instanceMethod yX12_readText ∈ wsL_law := sg_35 _ (List.mem_of_getElem? (i := 8) rfl)
theorem tw_825 : Cond.selects RX12 yX12_readText yX12_readText ∈ wsL_law := sg_35 _ (List.mem_of_getElem? (i := 9) rfl)
theorem tw_826 : Cond.code yX12_readText cX12_readText 2 (some .int) ∈ wsL_law := sg_35 _ (List.mem_of_getElem? (i := 10) rfl)
theorem dX12_text_16 : decode cX12_text 16 = .ok (.invokevirtual 263, 3) := oc_182 (a := 1) (b := 7) (by decide +kernel)
theorem tw_180 : Cond.fieldLink RX12 22 "RingsUnderModel" "fault" "I" ∈ wsL_law := sg_8 _ (List.mem_of_getElem? (i := 12) rfl)
theorem dX12_text_19 : decode cX12_text 19 = .ok (.putfield 22, 3) := oc_181 (a := 0) (b := 22) (by decide +kernel)
theorem dX12_text_22 : decode cX12_text 22 = .ok (.aload_n 0, 1) := oc_42 (by decide +kernel)
theorem dX12_text_23 : decode cX12_text 23 = .ok (.aload_n 0, 1) := oc_42 (by decide +kernel)
theorem dX12_text_24 : decode cX12_text 24 = .ok (.getfield 22, 3) := oc_180 (a := 0) (b := 22) (by decide +kernel)
theorem dX12_text_27 : decode cX12_text 27 = .ok (.ifCond .ne 7, 3) := oc_154 (a := 0) (b := 7) (by decide +kernel)
theorem dX12_text_34 : decode cX12_text 34 = .ok (.aload_n 0, 1) := oc_42 (by decide +kernel)
theorem dX12_text_35 : decode cX12_text 35 = .ok (.getfield 140, 3) := oc_180 (a := 0) (b := 140) (by decide +kernel)
theorem tw_181 : Cond.fieldLink RX12 26 "RingsUnderModel" "faultPlace" "I" ∈ wsL_law := sg_8 _ (List.mem_of_getElem? (i := 13) rfl)
theorem dX12_text_38 : decode cX12_text 38 = .ok (.putfield 26, 3) := oc_181 (a := 0) (b := 26) (by decide +kernel)
theorem dX12_text_41 : decode cX12_text 41 = .ok (.aload_n 0, 1) := oc_42 (by decide +kernel)
theorem dX12_text_42 : decode cX12_text 42 = .ok (.iconst 0, 1) := oc_3 (by decide +kernel)
theorem dX12_text_43 : decode cX12_text 43 = .ok (.putfield 127, 3) := oc_181 (a := 0) (b := 127) (by decide +kernel)
theorem dX12_text_46 : decode cX12_text 46 = .ok (.aload_n 0, 1) := oc_42 (by decide +kernel)
theorem dX12_text_47 : decode cX12_text 47 = .ok (.getfield 22, 3) := oc_180 (a := 0) (b := 22) (by decide +kernel)
theorem dX12_text_50 : decode cX12_text 50 = .ok (.ifCond .eq 5, 3) := oc_153 (a := 0) (b := 5) (by decide +kernel)
theorem dX12_text_53 : decode cX12_text 53 = .ok (.iconst (-1), 1) := oc_2 (by decide +kernel)
theorem dX12_text_54 : decode cX12_text 54 = .ok (.ireturn, 1) := oc_172 (by decide +kernel)
theorem dX12_text_30 : decode cX12_text 30 = .ok (.iconst (-1), 1) := oc_2 (by decide +kernel)
theorem dX12_text_31 : decode cX12_text 31 = .ok (.goto 7, 3) := oc_167 (a := 0) (b := 7) (by decide +kernel)
theorem dX12_text_55 : decode cX12_text 55 = .ok (.aload_n 0, 1) := oc_42 (by decide +kernel)
theorem dX12_text_56 : decode cX12_text 56 = .ok (.getfield 7, 3) := oc_180 (a := 0) (b := 7) (by decide +kernel)
theorem dX12_text_59 : decode cX12_text 59 = .ok (.aload_n 0, 1) := oc_42 (by decide +kernel)
theorem dX12_text_60 : decode cX12_text 60 = .ok (.getfield 172, 3) := oc_180 (a := 0) (b := 172) (by decide +kernel)
theorem dX12_text_63 : decode cX12_text 63 = .ok (.aload_n 0, 1) := oc_42 (by decide +kernel)
theorem dX12_text_64 : decode cX12_text 64 = .ok (.getfield 248, 3) := oc_180 (a := 0) (b := 248) (by decide +kernel)
theorem dX12_text_67 : decode cX12_text 67 = .ok (.iastore, 1) := oc_79 (by decide +kernel)
theorem dX12_text_68 : decode cX12_text 68 = .ok (.aload_n 0, 1) := oc_42 (by decide +kernel)
theorem dX12_text_69 : decode cX12_text 69 = .ok (.getfield 7, 3) := oc_180 (a := 0) (b := 7) (by decide +kernel)
theorem dX12_text_72 : decode cX12_text 72 = .ok (.bipush 6, 2) := oc_16 (a := 6) (by decide +kernel)
theorem dX12_text_74 : decode cX12_text 74 = .ok (.dup2, 1) := oc_92 (by decide +kernel)
theorem dX12_text_75 : decode cX12_text 75 = .ok (.iaload, 1) := oc_46 (by decide +kernel)
theorem dX12_text_76 : decode cX12_text 76 = .ok (.iconst 1, 1) := oc_4 (by decide +kernel)
theorem dX12_text_77 : decode cX12_text 77 = .ok (.iadd, 1) := oc_96 (by decide +kernel)
theorem dX12_text_78 : decode cX12_text 78 = .ok (.iastore, 1) := oc_79 (by decide +kernel)
theorem dX12_text_79 : decode cX12_text 79 = .ok (.aload_n 0, 1) := oc_42 (by decide +kernel)
theorem dX12_text_80 : decode cX12_text 80 = .ok (.getfield 7, 3) := oc_180 (a := 0) (b := 7) (by decide +kernel)
theorem dX12_text_83 : decode cX12_text 83 = .ok (.bipush 6, 2) := oc_16 (a := 6) (by decide +kernel)
theorem dX12_text_85 : decode cX12_text 85 = .ok (.iaload, 1) := oc_46 (by decide +kernel)
theorem dX12_text_86 : decode cX12_text 86 = .ok (.iconst 1, 1) := oc_4 (by decide +kernel)
theorem dX12_text_87 : decode cX12_text 87 = .ok (.isub, 1) := oc_100 (by decide +kernel)
theorem dX12_text_88 : decode cX12_text 88 = .ok (.ireturn, 1) := oc_172 (by decide +kernel)
theorem dX12_text_12 : decode cX12_text 12 = .ok (.iconst (-1), 1) := oc_2 (by decide +kernel)
theorem dX12_text_13 : decode cX12_text 13 = .ok (.ireturn, 1) := oc_172 (by decide +kernel)
set_option maxRecDepth 100000 in
def g_X12_readText_L48 (rj : Nat → Nat → Int64) (rq : Nat → Nat → Option Nat) : Nat → (Nat → Int32) → (Nat → Int64) → (Nat → Nat → Int32) → Int32 × vM
  | 0, I_157, J_158, ri_159 => ((0 : Int32), I_157, J_158, ri_159, rj, rq)
  | n_184 + 1, I_157, J_158, ri_159 => (ap1 (I_157 393) fun (y_189 : Int32) => (if (y_189) = (0 : Int32) then ((0 : Int32), I_157, J_158, ri_159, rj, rq) else (bnI (g_X12_clause I_157 J_158 ri_159 rj rq) fun (x_197 : Int32) (I_199 : Nat → Int32) (J_200 : Nat → Int64) (ri_201 : Nat → Nat → Int32) (_ : Nat → Nat → Int64) (_ : Nat → Nat → Option Nat) => (if x_197 = (0 : Int32) then ((g_X12_readText_L48 rj rq n_184) I_199 J_200 ri_201) else (x_197, I_199, J_200, ri_201, rj, rq)))))
set_option maxRecDepth 100000 in
theorem g_X12_readText_L48_e {rj : Nat → Nat → Int64} {rq : Nat → Nat → Option Nat} {n_184 : Nat} {I_157 : Nat → Int32} {J_158 : Nat → Int64} {ri_159 : Nat → Nat → Int32} : g_X12_readText_L48 rj rq (n_184 + 1) I_157 J_158 ri_159 = (ap1 (I_157 393) fun (y_189 : Int32) => (if (y_189) = (0 : Int32) then ((0 : Int32), I_157, J_158, ri_159, rj, rq) else (bnI (g_X12_clause I_157 J_158 ri_159 rj rq) fun (x_197 : Int32) (I_199 : Nat → Int32) (J_200 : Nat → Int64) (ri_201 : Nat → Nat → Int32) (_ : Nat → Nat → Int64) (_ : Nat → Nat → Option Nat) => (if x_197 = (0 : Int32) then ((g_X12_readText_L48 rj rq n_184) I_199 J_200 ri_201) else (x_197, I_199, J_200, ri_201, rj, rq))))) := rfl
set_option maxRecDepth 100000 in
def g_X12_readText (I : Nat → Int32) (J : Nat → Int64) (ri : Nat → Nat → Int32) (rj : Nat → Nat → Int64) (rq : Nat → Nat → Option Nat) : Int32 × vM := (ap1 (ri 384 6) fun (y_1 : Int32) => (ap1 ((900 : Int32) * (y_1)) fun (x_2 : Int32) => (ap1 ((3720 : Int32) + x_2) fun (x_4 : Int32) => (ap1 (va_up I 396 x_4) fun (I_6 : Nat → Int32) => (ap1 (va_up I_6 397 (0 : Int32)) fun (I_15 : Nat → Int32) => (ap1 (va_up I_15 398 (0 : Int32)) fun (I_24 : Nat → Int32) => (ap1 (va_up I_24 402 (0 : Int32)) fun (I_33 : Nat → Int32) => (ap1 (va_up I_33 399 (0 : Int32)) fun (I_42 : Nat → Int32) => (ap1 (va_up I_42 391 (0 : Int32)) fun (I_51 : Nat → Int32) => (bnV (g_X12_nextToken_x I_51 J ri rj rq) fun (I_63 : Nat → Int32) (J_64 : Nat → Int64) (_ : Nat → Nat → Int32) (_ : Nat → Nat → Int64) (_ : Nat → Nat → Option Nat) => (ap1 (I_63 391) fun (y_218 : Int32) => (ap1 (I_63 393) fun (y_219 : Int32) => (g_X12_readText_L48 rj rq ((tmM (y_218).toInt (y_219).toInt).toNat + 1) I_63 J_64 ri)))))))))))))
set_option maxRecDepth 100000 in
theorem g_X12_readText_e {I : Nat → Int32} {J : Nat → Int64} {ri : Nat → Nat → Int32} {rj : Nat → Nat → Int64} {rq : Nat → Nat → Option Nat} : g_X12_readText I J ri rj rq = (ap1 (ri 384 6) fun (y_1 : Int32) => (ap1 ((900 : Int32) * (y_1)) fun (x_2 : Int32) => (ap1 ((3720 : Int32) + x_2) fun (x_4 : Int32) => (ap1 (va_up I 396 x_4) fun (I_6 : Nat → Int32) => (ap1 (va_up I_6 397 (0 : Int32)) fun (I_15 : Nat → Int32) => (ap1 (va_up I_15 398 (0 : Int32)) fun (I_24 : Nat → Int32) => (ap1 (va_up I_24 402 (0 : Int32)) fun (I_33 : Nat → Int32) => (ap1 (va_up I_33 399 (0 : Int32)) fun (I_42 : Nat → Int32) => (ap1 (va_up I_42 391 (0 : Int32)) fun (I_51 : Nat → Int32) => (bnV (g_X12_nextToken_x I_51 J ri rj rq) fun (I_63 : Nat → Int32) (J_64 : Nat → Int64) (_ : Nat → Nat → Int32) (_ : Nat → Nat → Int64) (_ : Nat → Nat → Option Nat) => (ap1 (I_63 391) fun (y_218 : Int32) => (ap1 (I_63 393) fun (y_219 : Int32) => (g_X12_readText_L48 rj rq ((tmM (y_218).toInt (y_219).toInt).toNat + 1) I_63 J_64 ri))))))))))))) := rfl
set_option maxHeartbeats 4000000 in
set_option maxRecDepth 100000 in
theorem s_X12_readText (l : Launch) (D : va_G) (t : pq_T) (σ : pq_S) (I : Nat → Nat → Int32) (J : Nat → Nat → Int64) (ri : Nat → Nat → Int32) (rj : Nat → Nat → Int64) (rq : Nat → Nat → Option Nat) (sz : Nat) (tg : Nat → Nat) (hSH : SH σ tg) (hG0 : GT tg I ri) (this : Nat) (hL_this : this ∈ σ.1) (hK_this : σ.2.1 this = 12) (this_a : Nat) (hR_this_a : σ.2.2.1 384 this = some this_a) (hL_this_a : this_a ∈ σ.1) (hK_this_a : σ.2.1 this_a = 13) (hN_this_a : σ.2.2.2 this_a = 12720) (hT_this_a : tg this_a = 384) (this_pile : Nat) (hR_this_pile : σ.2.2.1 400 this = some this_pile) (hL_this_pile : this_pile ∈ σ.1) (hK_this_pile : σ.2.1 this_pile = 13) (hN_this_pile : σ.2.2.2 this_pile = 160) (hT_this_pile : tg this_pile = 400) (h69 : (ri this_a 6).toInt ≤ 9) : MetI l yX12_readText (wa yX12_readText cX12_readText 2 (some .int)) ({ frames := 9, cells := 0, slots := 0, locals := 202 }) [.ref this] D t σ (I, J, ri, rj, rq) sz 0 0 (fun (r : Int32) (u : pq_S × pq_M) => ∃ I' : Nat → Nat → Int32, ∃ J' : Nat → Nat → Int64, ∃ ri' : Nat → Nat → Int32, u = (σ, I', J', ri', rj, rq) ∧ GM [396, 397, 398, 402, 391, 392, 393, 401] tg σ I ri I' ri' rq ∧ (r.toInt ≠ 0 ∨ CLz (I' 396 this).toInt (I' 398 this).toInt (I' 402 this).toInt (I' 391 this).toInt (I' 393 this).toInt (I' 397 this).toInt (ri' this_a)) ∧ g_X12_readText (vI 12 σ this I) (vJ 12 σ this J) (vR 12 σ this ri) (vL 12 σ this rj) (vQ 12 σ this rq) = (r, (vI 12 σ this I'), (vJ 12 σ this J'), (vR 12 σ this ri'), (vL 12 σ this rj), (vQ 12 σ this rq)) ∧ FR 12 tg σ this (I, J, ri, rj, rq) (I', J', ri', rj, rq) ∧ rg r 0 5) := by
  refine Met.ofW (cc := cX12_readText) (maxL := 2) (ret := (some .int)) (by decide +kernel) rfl ?_
  intro p e s m args below meth c s₁ B hml hv
  obtain ⟨rfl, hsz, hP, hK, hD0, hN⟩ := hv
  have hx := B.exec
  have hb := B.bytes
  have hr := B.returns
  have hts := atoms_spec (ws := (wa yX12_readText cX12_readText 2 (some .int))) B.pre
  have hown : s.vm.findClass RX12 = some m.cls := findClass_of_methodNamed B.named
  have hlocks := B.notSynchronized
  subst hsz
  have hD : va_D (pq_B t σ (I, J, ri, rj, rq) s.heap.size) (pq_P t σ (I, J, ri, rj, rq)) := hD0.self
  generalize hAe : pq_B t σ (I, J, ri, rj, rq) s.heap.size = A at hD ⊢
  have hA : ∀ q : Nat, s.heap.size ≤ q → A q := fun q h => by rw [← hAe]; exact Or.inr h
  have hS : va_S A s.heap s.heap [] := va_S.rf
  have hG : GM [396, 397, 398, 402, 391, 392, 393, 401] tg σ I ri I ri rq := ⟨hG0, fun _ _ _ => rfl, fun _ _ _ _ _ => rfl, fun _ _ _ _ _ _ => rfl⟩
  have hl := lv_entry ([.ref this]) (n := 2) (Nat.le_of_ble_eq_true rfl)
  rw [lg_entry_eq]
  generalize (lg_sl ([.ref this]) ++ List.replicate (2 - (lg_sl ([.ref this])).length) Slot.unset).toArray = ls at hl ⊢
  have hl : lv_has ls 2 [(0, .ref this)] := hl
  refine q_gen (fun Q hQ => ?_)
  have go : ∀ (H : Heap) (locs : List Loc) (ls : Array Slot), va_P D vwCl (pq_P t σ (I, J, ri, rj, rq)) H → va_D A (pq_P t σ (I, J, ri, rj, rq)) → va_S A s.heap H locs → lv_has ls 2 [(0, .ref this)] → W p l e ({ frames := 9, cells := 0, slots := 0, locals := 202 } : Room) s m (List.toArray ([.ref this] : List Value)) below meth c H locs 0 0 Q (F0 m 0 ls []) := by
    intro H locs ls hP hD hS hl
    have hO_this : this = vo σ 12 this := rfl
    have hVT : VT 12 σ tg this := vt_12 hSH hL_this hK_this
    have hFr : FR 12 tg σ this (I, J, ri, rj, rq) (I, J, ri, rj, rq) := fr_rf
    have hO_this_a : this_a = vrow σ 384 this := vo_k (c := 12) hO_this hR_this_a
    have hO_this_pile : this_pile = vrow σ 400 this := vo_k (c := 12) hO_this hR_this_pile
    obtain ⟨F, hF0⟩ : ∃ F, F = g_X12_readText (vI 12 σ this I) (vJ 12 σ this J) (vR 12 σ this ri) (vL 12 σ this rj) (vQ 12 σ this rq) := ⟨_, rfl⟩
    have hF := hF0.trans g_X12_readText_e
    have h60 := (GM.z0 hG0 (q := this_a) (by rw [hT_this_a]; decide) (i := 6) (k := 6) (lo := 0) (hi := 10) (by decide +kernel) rfl).1
    refine lv_aload_n hx hb dX12_readText_0 rfl (lv_at hl 0 rfl) ?_
    refine lv_sipush (v := 3720) hx hb dX12_readText_1 (by decide +kernel) ?_
    refine lv_sipush (v := 900) hx hb dX12_readText_4 (by decide +kernel) ?_
    refine lv_aload_n hx hb dX12_readText_7 rfl (lv_at hl 0 rfl) ?_
    refine pg_f (v := .ref this_a) (C := RX12) (T := TX12) (N := 31) hx hb hts (tw_i inlX12) hown hK hP hL_this hK_this (by decide +kernel) rfl 0 (by decide +kernel) (hts _ (tw_c tw_176)) (pq_hv rfl hR_this_a) dX12_readText_8 ?_
    refine lv_bipush (v := 6) hx hb dX12_readText_11 (by decide +kernel) ?_
    refine pl_i hx hb hK hP hL_this_a hK_this_a hN_this_a (vp_in_iff.mpr (by decide +kernel)) dX12_readText_13 ?_
    refine lv_tov (ri this_a 6) rfl ?_
    replace hF := hF.trans (ap_n (vR_r hO_this_a (by decide +kernel) rfl))
    refine lv_imul hx hb dX12_readText_14 ?_
    refine lv_topi (fun x_2 ex_2 => ?_)
    replace hF := hF.trans (ap_n ex_2)
    have h_3 : rg x_2 0 8100 := rg_of_eq ex_2 (rg_mul (rg_k (900 : Int32) 900 rfl) ⟨h60, h69⟩ (by decide +kernel))
    have uh_3 := h_3.1
    have vh_3 := h_3.2
    have tx_2 : (x_2).toInt = 900 * (ri this_a 6).toInt := by rw [ex_2]; exact i_mul_rg (a2 := 900) (b2 := (ri this_a 6).toInt) rfl rfl (rg_k (900 : Int32) 900 rfl) ⟨h60, h69⟩ (by decide +kernel)
    refine lv_iadd hx hb dX12_readText_15 ?_
    refine lv_topi (fun x_4 ex_4 => ?_)
    replace hF := hF.trans (ap_n ex_4)
    have h_5 : rg x_4 3720 11820 := rg_of_eq ex_4 (rg_add (rg_k (3720 : Int32) 3720 rfl) h_3 (by decide +kernel))
    have uh_5 := h_5.1
    have vh_5 := h_5.2
    have tx_4 : (x_4).toInt = 3720 + (x_2).toInt := by rw [ex_4]; exact i_add_rg (a2 := 3720) (b2 := (x_2).toInt) rfl rfl (rg_k (3720 : Int32) 3720 rfl) h_3 (by decide +kernel)
    refine pp_i (v := x_4) (ty := .int) (C := RX12) (T := TX12) (N := 31) hx hb hts (tw_i inlX12) tyX12 tyX12_ok nmX12 hown hK hP hD hS hL_this hK_this (by decide +kernel) rfl 12 396 (by decide +kernel) (hts _ (tw_c tw_821)) rfl (tyX12_ok 12 (by decide +kernel)) rfl rfl (Nat.le_of_ble_eq_true rfl) (ps_396 _ _ _ _ _) dX12_readText_16 (fun I_6 H locs eI_6 hP hD hS => ?_)
    replace hFr := fr_I (f := 396) hFr hO_this (by decide +kernel) eI_6
    replace hF := hF.trans (ap_n (vI_st (f := 396) hO_this (by decide +kernel) eI_6))
    have hG := GM.wI hG 396 rfl eI_6 (rg_w h_5 (by decide +kernel)) (by decide +kernel)
    have tt_7 : (I_6 396 this).toInt = (x_4).toInt := by rw [eI_6, pq_us]
    have tt_8 : (I_6 398 this).toInt = (I 398 this).toInt := by rw [eI_6, pq_uf _ _ _ (by decide +kernel)]
    have tt_9 : (I_6 401 this).toInt = (I 401 this).toInt := by rw [eI_6, pq_uf _ _ _ (by decide +kernel)]
    have tt_10 : (I_6 402 this).toInt = (I 402 this).toInt := by rw [eI_6, pq_uf _ _ _ (by decide +kernel)]
    have tt_11 : (I_6 391 this).toInt = (I 391 this).toInt := by rw [eI_6, pq_uf _ _ _ (by decide +kernel)]
    have tt_12 : (I_6 393 this).toInt = (I 393 this).toInt := by rw [eI_6, pq_uf _ _ _ (by decide +kernel)]
    have tt_13 : (I_6 403 this).toInt = (I 403 this).toInt := by rw [eI_6, pq_uf _ _ _ (by decide +kernel)]
    have tt_14 : (I_6 397 this).toInt = (I 397 this).toInt := by rw [eI_6, pq_uf _ _ _ (by decide +kernel)]
    refine lv_aload_n hx hb dX12_readText_19 rfl (lv_at hl 0 rfl) ?_
    refine lv_iconst (v := 0) hx hb dX12_readText_20 (by decide +kernel) ?_
    refine pp_i (v := 0) (ty := .int) (C := RX12) (T := TX12) (N := 31) hx hb hts (tw_i inlX12) tyX12 tyX12_ok nmX12 hown hK hP hD hS hL_this hK_this (by decide +kernel) rfl 13 397 (by decide +kernel) (hts _ (tw_c tw_822)) rfl (tyX12_ok 13 (by decide +kernel)) rfl rfl (Nat.le_of_ble_eq_true rfl) (ps_397 _ _ _ _ _) dX12_readText_21 (fun I_15 H locs eI_15 hP hD hS => ?_)
    replace hFr := fr_I (f := 397) hFr hO_this (by decide +kernel) eI_15
    replace hF := hF.trans (ap_n (vI_st (f := 397) hO_this (by decide +kernel) eI_15))
    have hG := GM.wI hG 397 rfl eI_15 (rg_w (rg_k (0 : Int32) 0 rfl) (by decide +kernel)) (by decide +kernel)
    have tt_16 : (I_15 396 this).toInt = (I_6 396 this).toInt := by rw [eI_15, pq_uf _ _ _ (by decide +kernel)]
    have tt_17 : (I_15 398 this).toInt = (I_6 398 this).toInt := by rw [eI_15, pq_uf _ _ _ (by decide +kernel)]
    have tt_18 : (I_15 401 this).toInt = (I_6 401 this).toInt := by rw [eI_15, pq_uf _ _ _ (by decide +kernel)]
    have tt_19 : (I_15 402 this).toInt = (I_6 402 this).toInt := by rw [eI_15, pq_uf _ _ _ (by decide +kernel)]
    have tt_20 : (I_15 391 this).toInt = (I_6 391 this).toInt := by rw [eI_15, pq_uf _ _ _ (by decide +kernel)]
    have tt_21 : (I_15 393 this).toInt = (I_6 393 this).toInt := by rw [eI_15, pq_uf _ _ _ (by decide +kernel)]
    have tt_22 : (I_15 403 this).toInt = (I_6 403 this).toInt := by rw [eI_15, pq_uf _ _ _ (by decide +kernel)]
    have tt_23 : (I_15 397 this).toInt = 0 := by rw [eI_15, pq_us]; rfl
    refine lv_aload_n hx hb dX12_readText_24 rfl (lv_at hl 0 rfl) ?_
    refine lv_iconst (v := 0) hx hb dX12_readText_25 (by decide +kernel) ?_
    refine pp_i (v := 0) (ty := .int) (C := RX12) (T := TX12) (N := 31) hx hb hts (tw_i inlX12) tyX12 tyX12_ok nmX12 hown hK hP hD hS hL_this hK_this (by decide +kernel) rfl 14 398 (by decide +kernel) (hts _ (tw_c tw_827)) rfl (tyX12_ok 14 (by decide +kernel)) rfl rfl (Nat.le_of_ble_eq_true rfl) (ps_398 _ _ _ _ _) dX12_readText_26 (fun I_24 H locs eI_24 hP hD hS => ?_)
    replace hFr := fr_I (f := 398) hFr hO_this (by decide +kernel) eI_24
    replace hF := hF.trans (ap_n (vI_st (f := 398) hO_this (by decide +kernel) eI_24))
    have hG := GM.wI hG 398 rfl eI_24 (rg_w (rg_k (0 : Int32) 0 rfl) (by decide +kernel)) (by decide +kernel)
    have tt_25 : (I_24 396 this).toInt = (I_15 396 this).toInt := by rw [eI_24, pq_uf _ _ _ (by decide +kernel)]
    have tt_26 : (I_24 398 this).toInt = 0 := by rw [eI_24, pq_us]; rfl
    have tt_27 : (I_24 401 this).toInt = (I_15 401 this).toInt := by rw [eI_24, pq_uf _ _ _ (by decide +kernel)]
    have tt_28 : (I_24 402 this).toInt = (I_15 402 this).toInt := by rw [eI_24, pq_uf _ _ _ (by decide +kernel)]
    have tt_29 : (I_24 391 this).toInt = (I_15 391 this).toInt := by rw [eI_24, pq_uf _ _ _ (by decide +kernel)]
    have tt_30 : (I_24 393 this).toInt = (I_15 393 this).toInt := by rw [eI_24, pq_uf _ _ _ (by decide +kernel)]
    have tt_31 : (I_24 403 this).toInt = (I_15 403 this).toInt := by rw [eI_24, pq_uf _ _ _ (by decide +kernel)]
    have tt_32 : (I_24 397 this).toInt = (I_15 397 this).toInt := by rw [eI_24, pq_uf _ _ _ (by decide +kernel)]
    refine lv_aload_n hx hb dX12_readText_29 rfl (lv_at hl 0 rfl) ?_
    refine lv_iconst (v := 0) hx hb dX12_readText_30 (by decide +kernel) ?_
    refine pp_i (v := 0) (ty := .int) (C := RX12) (T := TX12) (N := 31) hx hb hts (tw_i inlX12) tyX12 tyX12_ok nmX12 hown hK hP hD hS hL_this hK_this (by decide +kernel) rfl 18 402 (by decide +kernel) (hts _ (tw_c tw_828)) rfl (tyX12_ok 18 (by decide +kernel)) rfl rfl (Nat.le_of_ble_eq_true rfl) (ps_402 _ _ _ _ _) dX12_readText_31 (fun I_33 H locs eI_33 hP hD hS => ?_)
    replace hFr := fr_I (f := 402) hFr hO_this (by decide +kernel) eI_33
    replace hF := hF.trans (ap_n (vI_st (f := 402) hO_this (by decide +kernel) eI_33))
    have hG := GM.wI hG 402 rfl eI_33 (rg_w (rg_k (0 : Int32) 0 rfl) (by decide +kernel)) (by decide +kernel)
    have tt_34 : (I_33 396 this).toInt = (I_24 396 this).toInt := by rw [eI_33, pq_uf _ _ _ (by decide +kernel)]
    have tt_35 : (I_33 398 this).toInt = (I_24 398 this).toInt := by rw [eI_33, pq_uf _ _ _ (by decide +kernel)]
    have tt_36 : (I_33 401 this).toInt = (I_24 401 this).toInt := by rw [eI_33, pq_uf _ _ _ (by decide +kernel)]
    have tt_37 : (I_33 402 this).toInt = 0 := by rw [eI_33, pq_us]; rfl
    have tt_38 : (I_33 391 this).toInt = (I_24 391 this).toInt := by rw [eI_33, pq_uf _ _ _ (by decide +kernel)]
    have tt_39 : (I_33 393 this).toInt = (I_24 393 this).toInt := by rw [eI_33, pq_uf _ _ _ (by decide +kernel)]
    have tt_40 : (I_33 403 this).toInt = (I_24 403 this).toInt := by rw [eI_33, pq_uf _ _ _ (by decide +kernel)]
    have tt_41 : (I_33 397 this).toInt = (I_24 397 this).toInt := by rw [eI_33, pq_uf _ _ _ (by decide +kernel)]
    refine lv_aload_n hx hb dX12_readText_34 rfl (lv_at hl 0 rfl) ?_
    refine lv_iconst (v := 0) hx hb dX12_readText_35 (by decide +kernel) ?_
    refine pp_i (v := 0) (ty := .int) (C := RX12) (T := TX12) (N := 31) hx hb hts (tw_i inlX12) tyX12 tyX12_ok nmX12 hown hK hP hD hS hL_this hK_this (by decide +kernel) rfl 15 399 (by decide +kernel) (hts _ (tw_c tw_829)) rfl (tyX12_ok 15 (by decide +kernel)) rfl rfl (Nat.le_of_ble_eq_true rfl) (ps_399 _ _ _ _ _) dX12_readText_36 (fun I_42 H locs eI_42 hP hD hS => ?_)
    replace hFr := fr_I (f := 399) hFr hO_this (by decide +kernel) eI_42
    replace hF := hF.trans (ap_n (vI_st (f := 399) hO_this (by decide +kernel) eI_42))
    have hG := GM.wI hG 399 rfl eI_42 (rg_w (rg_k (0 : Int32) 0 rfl) (by decide +kernel)) (by decide +kernel)
    have tt_43 : (I_42 396 this).toInt = (I_33 396 this).toInt := by rw [eI_42, pq_uf _ _ _ (by decide +kernel)]
    have tt_44 : (I_42 398 this).toInt = (I_33 398 this).toInt := by rw [eI_42, pq_uf _ _ _ (by decide +kernel)]
    have tt_45 : (I_42 401 this).toInt = (I_33 401 this).toInt := by rw [eI_42, pq_uf _ _ _ (by decide +kernel)]
    have tt_46 : (I_42 402 this).toInt = (I_33 402 this).toInt := by rw [eI_42, pq_uf _ _ _ (by decide +kernel)]
    have tt_47 : (I_42 391 this).toInt = (I_33 391 this).toInt := by rw [eI_42, pq_uf _ _ _ (by decide +kernel)]
    have tt_48 : (I_42 393 this).toInt = (I_33 393 this).toInt := by rw [eI_42, pq_uf _ _ _ (by decide +kernel)]
    have tt_49 : (I_42 403 this).toInt = (I_33 403 this).toInt := by rw [eI_42, pq_uf _ _ _ (by decide +kernel)]
    have tt_50 : (I_42 397 this).toInt = (I_33 397 this).toInt := by rw [eI_42, pq_uf _ _ _ (by decide +kernel)]
    refine lv_aload_n hx hb dX12_readText_39 rfl (lv_at hl 0 rfl) ?_
    refine lv_iconst (v := 0) hx hb dX12_readText_40 (by decide +kernel) ?_
    refine pp_i (v := 0) (ty := .int) (C := RX12) (T := TX12) (N := 31) hx hb hts (tw_i inlX12) tyX12 tyX12_ok nmX12 hown hK hP hD hS hL_this hK_this (by decide +kernel) rfl 7 391 (by decide +kernel) (hts _ (tw_c tw_830)) rfl (tyX12_ok 7 (by decide +kernel)) rfl rfl (Nat.le_of_ble_eq_true rfl) (ps_391 _ _ _ _ _) dX12_readText_41 (fun I_51 H locs eI_51 hP hD hS => ?_)
    replace hFr := fr_I (f := 391) hFr hO_this (by decide +kernel) eI_51
    replace hF := hF.trans (ap_n (vI_st (f := 391) hO_this (by decide +kernel) eI_51))
    have hG := GM.wI hG 391 rfl eI_51 (rg_w (rg_k (0 : Int32) 0 rfl) (by decide +kernel)) (by decide +kernel)
    have tt_52 : (I_51 396 this).toInt = (I_42 396 this).toInt := by rw [eI_51, pq_uf _ _ _ (by decide +kernel)]
    have tt_53 : (I_51 398 this).toInt = (I_42 398 this).toInt := by rw [eI_51, pq_uf _ _ _ (by decide +kernel)]
    have tt_54 : (I_51 401 this).toInt = (I_42 401 this).toInt := by rw [eI_51, pq_uf _ _ _ (by decide +kernel)]
    have tt_55 : (I_51 402 this).toInt = (I_42 402 this).toInt := by rw [eI_51, pq_uf _ _ _ (by decide +kernel)]
    have tt_56 : (I_51 391 this).toInt = 0 := by rw [eI_51, pq_us]; rfl
    have tt_57 : (I_51 393 this).toInt = (I_42 393 this).toInt := by rw [eI_51, pq_uf _ _ _ (by decide +kernel)]
    have tt_58 : (I_51 403 this).toInt = (I_42 403 this).toInt := by rw [eI_51, pq_uf _ _ _ (by decide +kernel)]
    have tt_59 : (I_51 397 this).toInt = (I_42 397 this).toInt := by rw [eI_51, pq_uf _ _ _ (by decide +kernel)]
    refine lv_aload_n hx hb dX12_readText_44 rfl (lv_at hl 0 rfl) ?_
    obtain ⟨w_60, hR_w_60, hL_w_60, hK_w_60, hN_w_60, hT_w_60⟩ := sh_a hSH 387 (ci := 12) (kd := 13) (len := 300) rfl (by decide +kernel) hL_this hK_this
    have hO_w_60 : w_60 = vrow σ 387 this := vo_k (c := 12) hO_this hR_w_60
    refine pk_v (va_runV (As := []) (rest := []) ⟨hx, hb, hml, hown, hts⟩ (s_X12_nextToken_x l D t σ I_51 J ri rj rq H.size tg hSH hG.1 this hL_this hK_this w_60 hR_w_60 hL_w_60 hK_w_60 hN_w_60 hT_w_60) (cwV 0 hts (tw_V tw_832 tw_833 tw_834 tw_5 tw_835) rfl rfl rfl cv_yX12_nextToken_0 ⟨Nat.le_of_ble_eq_true rfl, Nat.le_of_ble_eq_true rfl⟩) ⟨pq_blind, pq_recv hK hP hL_this hK_this (by decide +kernel) rfl, pq_pre hK hN hP hD⟩ rfl rfl hl.1 rfl (lv_room (Nat.le_of_ble_eq_true rfl)) dX12_readText_45 ⟨Nat.le_of_ble_eq_true rfl, Nat.le_of_ble_eq_true rfl⟩) hD hS hA (fun σ1 μ1 H locs hw_62 hP hD hS => ?_)
    obtain ⟨I_63, J_64, hu_65, hg_66, hp_68, hp_69, hp_70, hfn_71, hfr_72⟩ := hw_62
    obtain ⟨hu_65a, hu_65b⟩ := Prod.mk.inj hu_65
    rw [hu_65a, hu_65b] at hP hD
    replace hF := hF.trans (bv_n hfn_71)
    replace hFr := fr_tr hFr hfr_72
    have tt_73 := hp_68
    have tt_74 := hp_69
    have tt_75 := hp_70
    have tt_76 : (I_63 391 this).toInt ≤ 300 := by have z := hg_66.1.1 391 this; exact z.2
    have hG := GM.tr hG hg_66 (by decide +kernel)
    have tt_77 : (I_63 396 this).toInt = (I_51 396 this).toInt := by rw [hg_66.2.1 396 (by decide +kernel) (by decide +kernel)]
    have tt_78 : (I_63 398 this).toInt = (I_51 398 this).toInt := by rw [hg_66.2.1 398 (by decide +kernel) (by decide +kernel)]
    have tt_79 : (I_63 401 this).toInt = (I_51 401 this).toInt := by rw [hg_66.2.1 401 (by decide +kernel) (by decide +kernel)]
    have tt_80 : (I_63 402 this).toInt = (I_51 402 this).toInt := by rw [hg_66.2.1 402 (by decide +kernel) (by decide +kernel)]
    have tt_81 : (I_63 397 this).toInt = (I_51 397 this).toInt := by rw [hg_66.2.1 397 (by decide +kernel) (by decide +kernel)]
    have L_185 : ∀ (n_184 : Nat) (I_157 : Nat → Nat → Int32) (J_158 : Nat → Nat → Int64) (ri_159 : Nat → Nat → Int32) (H : Heap) (locs : List Loc) (ls : Array Slot), (CLz (I_157 396 this).toInt (I_157 398 this).toInt (I_157 402 this).toInt (I_157 391 this).toInt (I_157 393 this).toInt (I_157 397 this).toInt (ri_159 this_a)) → (tmM (I_157 391 this).toInt (I_157 393 this).toInt).toNat < n_184 → F = g_X12_readText_L48 (vL 12 σ this rj) (vQ 12 σ this rq) n_184 (vI 12 σ this I_157) (vJ 12 σ this J_158) (vR 12 σ this ri_159) → FR 12 tg σ this (I, J, ri, rj, rq) (I_157, J_158, ri_159, rj, rq) → GM [396, 397, 398, 402, 391, 392, 393, 401] tg σ I ri I_157 ri_159 rq → va_P D vwCl (pq_P t σ (I_157, J_158, ri_159, rj, rq)) H → va_D A (pq_P t σ (I_157, J_158, ri_159, rj, rq)) → va_S A s.heap H locs → lv_has ls 2 [(0, .ref this)] → W p l e ({ frames := 9, cells := 0, slots := 0, locals := 202 } : Room) s m (List.toArray ([.ref this] : List Value)) below meth c H locs 0 0 Q (F0 m 48 ls []) := by
      intro n_184
      induction n_184 with
      | zero => intro I_157 J_158 ri_159 H locs ls hrel_188 hm_183 hF hFr hG hP hD hS hl; exact absurd hm_183 (Nat.not_lt_zero _)
      | succ n_184 ih_186 =>
        intro I_157 J_158 ri_159 H locs ls hrel_188 hm_183 hF hFr hG hP hD hS hl
        replace hF := hF.trans g_X12_readText_L48_e
        refine lv_aload_n hx hb dX12_readText_48 rfl (lv_at hl 0 rfl) ?_
        refine pg_f (v := .int (I_157 393 this)) (C := RX12) (T := TX12) (N := 31) hx hb hts (tw_i inlX12) hown hK hP hL_this hK_this (by decide +kernel) rfl 9 (by decide +kernel) (hts _ (tw_c tw_831)) rfl dX12_readText_49 ?_
        replace hF := hF.trans (ap_n (vI_e (f := 393) hO_this (by decide +kernel)))
        refine lv_if_eq (tgt := 69) hx hb dX12_readText_52 (by decide +kernel) (fun c_190 => ?_) (fun c_190 => ?_)
        · replace hF := hF.trans (if_pos c_190)
          have tc_194 : (I_157 393 this).toInt = 0 := congrArg Int32.toInt c_190
          have h_195 : rg (I_157 393 this) 0 0 := rg_and (rg_full _) (rg_of_eq c_190 (rg_k (0 : Int32) 0 rfl)) (by decide +kernel)
          have uh_195 := h_195.1
          have vh_195 := h_195.2
          refine lv_iconst (v := 0) hx hb dX12_readText_69 (by decide +kernel) ?_
          subst hQ
          exact W.iret (v := 0) hx hb hr (fun t1 ht hW => ⟨⟨0, (σ, I_157, J_158, ri_159, rj, rq), rfl, ⟨I_157, J_158, ri_159, rfl, hG, (Or.inr hrel_188), (hF0.symm.trans hF), hFr, (rg_w (rg_k (0 : Int32) 0 rfl) (by decide +kernel))⟩, by rw [ht]; exact hP, va_K.moved hW.alike hK, hD⟩, hS.F ht⟩) hS.2.2 dX12_readText_70
        · replace hF := hF.trans (if_neg c_190)
          have tc_196 : (I_157 393 this).toInt ≠ 0 := fun q => c_190 (Int32.toInt_inj.mp q)
          refine lv_aload_n hx hb dX12_readText_55 rfl (lv_at hl 0 rfl) ?_
          refine pk_i (va_runV (As := []) (rest := []) ⟨hx, hb, hml, hown, hts⟩ (s_X12_clause l D t σ I_157 J_158 ri_159 rj rq H.size tg hSH hG.1 this hL_this hK_this this_a hR_this_a hL_this_a hK_this_a hN_this_a hT_this_a this_pile hR_this_pile hL_this_pile hK_this_pile hN_this_pile hT_this_pile (by assumption)) (cwV 0 hts (tw_V tw_849 tw_850 tw_851 tw_5 tw_852) rfl rfl rfl cv_yX12_clause_0 ⟨Nat.le_of_ble_eq_true rfl, Nat.le_of_ble_eq_true rfl⟩) ⟨pq_blind, pq_recv hK hP hL_this hK_this (by decide +kernel) rfl, pq_pre hK hN hP hD⟩ rfl rfl hl.1 rfl (lv_room (Nat.le_of_ble_eq_true rfl)) dX12_readText_56 ⟨Nat.le_of_ble_eq_true rfl, Nat.le_of_ble_eq_true rfl⟩) hD hS hA (fun x_197 σ1 μ1 H locs hw_198 hP hD hS => ?_)
          obtain ⟨I_199, J_200, ri_201, hu_202, hg_203, hp_205, hfn_206, hfr_207, hr_204⟩ := hw_198
          obtain ⟨hu_202a, hu_202b⟩ := Prod.mk.inj hu_202
          rw [hu_202a, hu_202b] at hP hD
          replace hF := hF.trans (bn_n hfn_206)
          replace hFr := fr_tr hFr hfr_207
          have hG := GM.tr hG hg_203 (by decide +kernel)
          have tt_208 : (I_199 396 this).toInt = (I_157 396 this).toInt := by rw [hg_203.2.1 396 (by decide +kernel) (by decide +kernel)]
          refine lv_istore_n (lv' := [(1, .int x_197), (0, .ref this)]) hx hb dX12_readText_59 rfl hl (by decide +kernel) rfl (fun ls hl => ?_)
          refine lv_iload_n hx hb dX12_readText_60 rfl (lv_at hl 0 rfl) ?_
          refine lv_if_eq (tgt := 66) hx hb dX12_readText_61 (by decide +kernel) (fun c_209 => ?_) (fun c_209 => ?_)
          · replace hF := hF.trans (if_pos c_209)
            have tc_214 : (x_197).toInt = 0 := congrArg Int32.toInt c_209
            have h_215 : rg x_197 0 0 := rg_and hr_204 (rg_of_eq c_209 (rg_k (0 : Int32) 0 rfl)) (by decide +kernel)
            have uh_215 := h_215.1
            have vh_215 := h_215.2
            refine lv_goto (tgt := 48) hx hb dX12_readText_66 (by decide +kernel) ?_
            exact ih_186 I_199 J_200 ri_201 _ _ _ (hp_205.resolve_left (fun q => q (by omega))).1 (tm_ms hm_183 (hp_205.resolve_left (fun q => q (by omega))).2 (tm_b ((hG.1.1 391 this).2))) hF hFr hG hP hD hS (lv_sub hl [1] rfl)
          · replace hF := hF.trans (if_neg c_209)
            have tc_216 : (x_197).toInt ≠ 0 := fun q => c_209 (Int32.toInt_inj.mp q)
            have h_217 : rg x_197 1 5 := rg_ne c_209 hr_204 0 rfl (by decide +kernel)
            have uh_217 := h_217.1
            have vh_217 := h_217.2
            refine lv_iload_n hx hb dX12_readText_64 rfl (lv_at hl 0 rfl) ?_
            subst hQ
            exact W.iret (v := x_197) hx hb hr (fun t1 ht hW => ⟨⟨x_197, (σ, I_199, J_200, ri_201, rj, rq), rfl, ⟨I_199, J_200, ri_201, rfl, hG, (Or.inl (by omega)), (hF0.symm.trans hF), hFr, (rg_w h_217 (by decide +kernel))⟩, by rw [ht]; exact hP, va_K.moved hW.alike hK, hD⟩, hS.F ht⟩) hS.2.2 dX12_readText_65
    replace hF := hF.trans (ap_n (vI_e (f := 391) hO_this (by decide +kernel)))
    replace hF := hF.trans (ap_n (vI_e (f := 393) hO_this (by decide +kernel)))
    exact L_185 _ I_63 J_64 ri _ _ _ (CLz_mk (by omega) (by rw [show (I_63 397 this).toInt = 0 from by omega]; exact TXQ_0) (by omega) (by omega) (by omega) (fun q => by omega) (by omega)) (Nat.lt_succ_self _) hF hFr hG hP hD hS (lv_sub hl [0] rfl)
  exact go _ _ _ hP hD hS hl

set_option maxRecDepth 100000 in
def g_X12_text (I : Nat → Int32) (J : Nat → Int64) (ri : Nat → Nat → Int32) (rj : Nat → Nat → Int64) (rq : Nat → Nat → Option Nat) : Int32 × vM := (ap1 (ri 384 ((6 : Int32)).toNatClampNeg) fun (x_1 : Int32) => (if x_1 = (10 : Int32) then ((-1 : Int32), I, J, ri, rj, rq) else (bnI (g_X12_readText I J ri rj rq) fun (x_11 : Int32) (I_13 : Nat → Int32) (J_14 : Nat → Int64) (ri_15 : Nat → Nat → Int32) (_ : Nat → Nat → Int64) (_ : Nat → Nat → Option Nat) => (ap1 (va_up I_13 389 x_11) fun (I_23 : Nat → Int32) => (ap1 (I_23 389) fun (y_29 : Int32) => (if (y_29) = (0 : Int32) then (ap1 (va_up I_23 390 (-1 : Int32)) fun (I_58 : Nat → Int32) => (ap1 (va_up I_58 388 (0 : Int32)) fun (I_63 : Nat → Int32) => (ap1 (I_63 389) fun (y_69 : Int32) => (ap1 (I_63 396) fun (y_75 : Int32) => (ap1 (I_63 397) fun (y_77 : Int32) => (ap1 (va_up ri_15 384 (upd (ri_15 384) ((y_75)).toNatClampNeg (y_77))) fun (r_79 : Nat → Nat → Int32) => (ap1 (x_1 + (1 : Int32)) fun (x_81 : Int32) => (ap1 (va_up r_79 384 (upd (r_79 384) ((6 : Int32)).toNatClampNeg x_81)) fun (r_83 : Nat → Nat → Int32) => (ap1 (x_81 - (1 : Int32)) fun (x_85 : Int32) => (x_85, I_63, J_14, r_83, rj, rq)))))))))) else (ap1 (I_23 392) fun (y_38 : Int32) => (ap1 (va_up I_23 390 (y_38)) fun (I_39 : Nat → Int32) => (ap1 (va_up I_39 388 (0 : Int32)) fun (I_44 : Nat → Int32) => (ap1 (I_44 389) fun (y_50 : Int32) => ((-1 : Int32), I_44, J_14, ri_15, rj, rq)))))))))))
set_option maxRecDepth 100000 in
theorem g_X12_text_e {I : Nat → Int32} {J : Nat → Int64} {ri : Nat → Nat → Int32} {rj : Nat → Nat → Int64} {rq : Nat → Nat → Option Nat} : g_X12_text I J ri rj rq = (ap1 (ri 384 ((6 : Int32)).toNatClampNeg) fun (x_1 : Int32) => (if x_1 = (10 : Int32) then ((-1 : Int32), I, J, ri, rj, rq) else (bnI (g_X12_readText I J ri rj rq) fun (x_11 : Int32) (I_13 : Nat → Int32) (J_14 : Nat → Int64) (ri_15 : Nat → Nat → Int32) (_ : Nat → Nat → Int64) (_ : Nat → Nat → Option Nat) => (ap1 (va_up I_13 389 x_11) fun (I_23 : Nat → Int32) => (ap1 (I_23 389) fun (y_29 : Int32) => (if (y_29) = (0 : Int32) then (ap1 (va_up I_23 390 (-1 : Int32)) fun (I_58 : Nat → Int32) => (ap1 (va_up I_58 388 (0 : Int32)) fun (I_63 : Nat → Int32) => (ap1 (I_63 389) fun (y_69 : Int32) => (ap1 (I_63 396) fun (y_75 : Int32) => (ap1 (I_63 397) fun (y_77 : Int32) => (ap1 (va_up ri_15 384 (upd (ri_15 384) ((y_75)).toNatClampNeg (y_77))) fun (r_79 : Nat → Nat → Int32) => (ap1 (x_1 + (1 : Int32)) fun (x_81 : Int32) => (ap1 (va_up r_79 384 (upd (r_79 384) ((6 : Int32)).toNatClampNeg x_81)) fun (r_83 : Nat → Nat → Int32) => (ap1 (x_81 - (1 : Int32)) fun (x_85 : Int32) => (x_85, I_63, J_14, r_83, rj, rq)))))))))) else (ap1 (I_23 392) fun (y_38 : Int32) => (ap1 (va_up I_23 390 (y_38)) fun (I_39 : Nat → Int32) => (ap1 (va_up I_39 388 (0 : Int32)) fun (I_44 : Nat → Int32) => (ap1 (I_44 389) fun (y_50 : Int32) => ((-1 : Int32), I_44, J_14, ri_15, rj, rq))))))))))) := rfl
set_option maxHeartbeats 4000000 in
set_option maxRecDepth 100000 in
theorem s_X12_text (l : Launch) (D : va_G) (t : pq_T) (σ : pq_S) (I : Nat → Nat → Int32) (J : Nat → Nat → Int64) (ri : Nat → Nat → Int32) (rj : Nat → Nat → Int64) (rq : Nat → Nat → Option Nat) (sz : Nat) (tg : Nat → Nat) (hSH : SH σ tg) (hG0 : GT tg I ri) (this : Nat) (hL_this : this ∈ σ.1) (hK_this : σ.2.1 this = 12) (this_a : Nat) (hR_this_a : σ.2.2.1 384 this = some this_a) (hL_this_a : this_a ∈ σ.1) (hK_this_a : σ.2.1 this_a = 13) (hN_this_a : σ.2.2.2 this_a = 12720) (hT_this_a : tg this_a = 384) : MetI l yX12_text (wa yX12_text cX12_text 1 (some .int)) ({ frames := 10, cells := 0, slots := 0, locals := 223 }) [.ref this] D t σ (I, J, ri, rj, rq) sz 0 0 (fun (r : Int32) (u : pq_S × pq_M) => ∃ I' : Nat → Nat → Int32, ∃ J' : Nat → Nat → Int64, ∃ ri' : Nat → Nat → Int32, u = (σ, I', J', ri', rj, rq) ∧ GM [396, 397, 398, 402, 391, 392, 393, 401, 389, 390, 388, 1006] tg σ I ri I' ri' rq ∧ (r = -1 → ri' this_a 6 = ri this_a 6) ∧ g_X12_text (vI 12 σ this I) (vJ 12 σ this J) (vR 12 σ this ri) (vL 12 σ this rj) (vQ 12 σ this rq) = (r, (vI 12 σ this I'), (vJ 12 σ this J'), (vR 12 σ this ri'), (vL 12 σ this rj), (vQ 12 σ this rq)) ∧ FR 12 tg σ this (I, J, ri, rj, rq) (I', J', ri', rj, rq) ∧ rg r (-1) 9) := by
  refine Met.ofW (cc := cX12_text) (maxL := 1) (ret := (some .int)) (by decide +kernel) rfl ?_
  intro p e s m args below meth c s₁ B hml hv
  obtain ⟨rfl, hsz, hP, hK, hD0, hN⟩ := hv
  have hx := B.exec
  have hb := B.bytes
  have hr := B.returns
  have hts := atoms_spec (ws := (wa yX12_text cX12_text 1 (some .int))) B.pre
  have hown : s.vm.findClass RX12 = some m.cls := findClass_of_methodNamed B.named
  have hlocks := B.notSynchronized
  subst hsz
  have hD : va_D (pq_B t σ (I, J, ri, rj, rq) s.heap.size) (pq_P t σ (I, J, ri, rj, rq)) := hD0.self
  generalize hAe : pq_B t σ (I, J, ri, rj, rq) s.heap.size = A at hD ⊢
  have hA : ∀ q : Nat, s.heap.size ≤ q → A q := fun q h => by rw [← hAe]; exact Or.inr h
  have hS : va_S A s.heap s.heap [] := va_S.rf
  have hG : GM [396, 397, 398, 402, 391, 392, 393, 401, 389, 390, 388, 1006] tg σ I ri I ri rq := ⟨hG0, fun _ _ _ => rfl, fun _ _ _ _ _ => rfl, fun _ _ _ _ _ _ => rfl⟩
  have hl := lv_entry ([.ref this]) (n := 1) (Nat.le_of_ble_eq_true rfl)
  rw [lg_entry_eq]
  generalize (lg_sl ([.ref this]) ++ List.replicate (1 - (lg_sl ([.ref this])).length) Slot.unset).toArray = ls at hl ⊢
  have hl : lv_has ls 1 [(0, .ref this)] := hl
  refine q_gen (fun Q hQ => ?_)
  have go : ∀ (H : Heap) (locs : List Loc) (ls : Array Slot), va_P D vwCl (pq_P t σ (I, J, ri, rj, rq)) H → va_D A (pq_P t σ (I, J, ri, rj, rq)) → va_S A s.heap H locs → lv_has ls 1 [(0, .ref this)] → W p l e ({ frames := 10, cells := 0, slots := 0, locals := 223 } : Room) s m (List.toArray ([.ref this] : List Value)) below meth c H locs 0 0 Q (F0 m 0 ls []) := by
    intro H locs ls hP hD hS hl
    have hO_this : this = vo σ 12 this := rfl
    have hVT : VT 12 σ tg this := vt_12 hSH hL_this hK_this
    have hFr : FR 12 tg σ this (I, J, ri, rj, rq) (I, J, ri, rj, rq) := fr_rf
    have hO_this_a : this_a = vrow σ 384 this := vo_k (c := 12) hO_this hR_this_a
    obtain ⟨F, hF0⟩ : ∃ F, F = g_X12_text (vI 12 σ this I) (vJ 12 σ this J) (vR 12 σ this ri) (vL 12 σ this rj) (vQ 12 σ this rq) := ⟨_, rfl⟩
    have hF := hF0.trans g_X12_text_e
    refine lv_aload_n hx hb dX12_text_0 rfl (lv_at hl 0 rfl) ?_
    refine pg_f (v := .ref this_a) (C := RX12) (T := TX12) (N := 31) hx hb hts (tw_i inlX12) hown hK hP hL_this hK_this (by decide +kernel) rfl 0 (by decide +kernel) (hts _ (tw_c tw_176)) (pq_hv rfl hR_this_a) dX12_text_1 ?_
    refine lv_bipush (v := 6) hx hb dX12_text_4 (by decide +kernel) ?_
    refine pl_i hx hb hK hP hL_this_a hK_this_a hN_this_a (vp_in_iff.mpr (by decide +kernel)) dX12_text_6 ?_
    refine lv_topi (fun x_1 ex_1 => ?_)
    replace hF := hF.trans (ap_n (vR_r hO_this_a (by decide +kernel) ex_1))
    have ex_1 : x_1 = ri this_a ((6 : Int32)).toNatClampNeg := ex_1
    have h_2 : rg x_1 0 10 := rg_of_eq ex_1 (GM.z hG (by rw [hT_this_a]; decide) (show zn ((6 : Int32)).toNatClampNeg = 6 from by decide +kernel) rfl)
    have uh_2 := h_2.1
    have vh_2 := h_2.2
    refine lv_bipush (v := 10) hx hb dX12_text_7 (by decide +kernel) ?_
    refine lv_icmp_ne (tgt := 14) hx hb dX12_text_9 (by decide +kernel) (fun c_3 => ?_) (fun c_3 => ?_)
    · replace hF := hF.trans (if_neg c_3)
      have tc_8 : (x_1).toInt ≠ 10 := fun q => c_3 (Int32.toInt_inj.mp q)
      have h_9 : rg x_1 0 9 := rg_ne c_3 h_2 10 rfl (by decide +kernel)
      have uh_9 := h_9.1
      have vh_9 := h_9.2
      have t6 : (ri this_a 6).toInt = (x_1).toInt := congrArg Int32.toInt (show ri this_a 6 = x_1 from ex_1.symm)
      refine lv_aload_n hx hb dX12_text_14 rfl (lv_at hl 0 rfl) ?_
      refine lv_aload_n hx hb dX12_text_15 rfl (lv_at hl 0 rfl) ?_
      obtain ⟨w_10, hR_w_10, hL_w_10, hK_w_10, hN_w_10, hT_w_10⟩ := sh_a hSH 400 (ci := 12) (kd := 13) (len := 160) rfl (by decide +kernel) hL_this hK_this
      have hO_w_10 : w_10 = vrow σ 400 this := vo_k (c := 12) hO_this hR_w_10
      refine pk_i (va_runV (As := []) (rest := [.ref this]) ⟨hx, hb, hml, hown, hts⟩ (s_X12_readText l D t σ I J ri rj rq H.size tg hSH hG.1 this hL_this hK_this this_a hR_this_a hL_this_a hK_this_a hN_this_a hT_this_a w_10 hR_w_10 hL_w_10 hK_w_10 hN_w_10 hT_w_10 (by omega)) (cwV 0 hts (tw_V tw_823 tw_824 tw_825 tw_5 tw_826) rfl rfl rfl cv_yX12_readText_0 ⟨Nat.le_of_ble_eq_true rfl, Nat.le_of_ble_eq_true rfl⟩) ⟨pq_blind, pq_recv hK hP hL_this hK_this (by decide +kernel) rfl, pq_pre hK hN hP hD⟩ rfl rfl hl.1 rfl (lv_room (Nat.le_of_ble_eq_true rfl)) dX12_text_16 ⟨Nat.le_of_ble_eq_true rfl, Nat.le_of_ble_eq_true rfl⟩) hD hS hA (fun x_11 σ1 μ1 H locs hw_12 hP hD hS => ?_)
      obtain ⟨I_13, J_14, ri_15, hu_16, hg_17, hp_19, hfn_20, hfr_21, hr_18⟩ := hw_12
      obtain ⟨hu_16a, hu_16b⟩ := Prod.mk.inj hu_16
      rw [hu_16a, hu_16b] at hP hD
      replace hF := hF.trans (bn_n hfn_20)
      replace hFr := fr_tr hFr hfr_21
      have hG := GM.tr hG hg_17 (by decide +kernel)
      have tt_22 : (I_13 389 this).toInt = (I 389 this).toInt := by rw [hg_17.2.1 389 (by decide +kernel) (by decide +kernel)]
      refine pp_i (v := x_11) (ty := .int) (C := RX12) (T := TX12) (N := 31) hx hb hts (tw_i inlX12) tyX12 tyX12_ok nmX12 hown hK hP hD hS hL_this hK_this (by decide +kernel) rfl 5 389 (by decide +kernel) (hts _ (tw_c tw_180)) rfl (tyX12_ok 5 (by decide +kernel)) rfl rfl (Nat.le_of_ble_eq_true rfl) (ps_389 _ _ _ _ _) dX12_text_19 (fun I_23 H locs eI_23 hP hD hS => ?_)
      replace hFr := fr_I (f := 389) hFr hO_this (by decide +kernel) eI_23
      replace hF := hF.trans (ap_n (vI_st (f := 389) hO_this (by decide +kernel) eI_23))
      have hG := GM.wI hG 389 rfl eI_23 (rg_w hr_18 (by decide +kernel)) (by decide +kernel)
      have tt_24 : (I_23 389 this).toInt = (x_11).toInt := by rw [eI_23, pq_us]
      have tt_25 : (I_23 396 this).toInt = (I_13 396 this).toInt := by rw [eI_23, pq_uf _ _ _ (by decide +kernel)]
      have tt_26 : (I_23 397 this).toInt = (I_13 397 this).toInt := by rw [eI_23, pq_uf _ _ _ (by decide +kernel)]
      have tt_27 : (I_23 398 this).toInt = (I_13 398 this).toInt := by rw [eI_23, pq_uf _ _ _ (by decide +kernel)]
      refine lv_aload_n hx hb dX12_text_22 rfl (lv_at hl 0 rfl) ?_
      refine lv_aload_n hx hb dX12_text_23 rfl (lv_at hl 0 rfl) ?_
      refine pg_f (v := .int (I_23 389 this)) (C := RX12) (T := TX12) (N := 31) hx hb hts (tw_i inlX12) hown hK hP hL_this hK_this (by decide +kernel) rfl 5 (by decide +kernel) (hts _ (tw_c tw_180)) rfl dX12_text_24 ?_
      have h_28 : rg (I_23 389 this) 0 5 := (by rw [eI_23, pq_us]; exact hr_18)
      have uh_28 := h_28.1
      have vh_28 := h_28.2
      replace hF := hF.trans (ap_n (vI_e (f := 389) hO_this (by decide +kernel)))
      refine lv_if_ne (tgt := 34) hx hb dX12_text_27 (by decide +kernel) (fun c_30 => ?_) (fun c_30 => ?_)
      · replace hF := hF.trans (if_neg c_30)
        have tc_35 : (I_23 389 this).toInt ≠ 0 := fun q => c_30 (Int32.toInt_inj.mp q)
        have h_36 : rg (I_23 389 this) 1 5 := rg_ne c_30 h_28 0 rfl (by decide +kernel)
        have uh_36 := h_36.1
        have vh_36 := h_36.2
        refine lv_aload_n hx hb dX12_text_34 rfl (lv_at hl 0 rfl) ?_
        refine pg_f (v := .int (I_23 392 this)) (C := RX12) (T := TX12) (N := 31) hx hb hts (tw_i inlX12) hown hK hP hL_this hK_this (by decide +kernel) rfl 8 (by decide +kernel) (hts _ (tw_c tw_820)) rfl dX12_text_35 ?_
        have h_37 : rg (I_23 392 this) 0 300 := GM.rI hG 392 rfl
        have uh_37 := h_37.1
        have vh_37 := h_37.2
        replace hF := hF.trans (ap_n (vI_e (f := 392) hO_this (by decide +kernel)))
        refine pp_i (v := (I_23 392 this)) (ty := .int) (C := RX12) (T := TX12) (N := 31) hx hb hts (tw_i inlX12) tyX12 tyX12_ok nmX12 hown hK hP hD hS hL_this hK_this (by decide +kernel) rfl 6 390 (by decide +kernel) (hts _ (tw_c tw_181)) rfl (tyX12_ok 6 (by decide +kernel)) rfl rfl (Nat.le_of_ble_eq_true rfl) (ps_390 _ _ _ _ _) dX12_text_38 (fun I_39 H locs eI_39 hP hD hS => ?_)
        replace hFr := fr_I (f := 390) hFr hO_this (by decide +kernel) eI_39
        replace hF := hF.trans (ap_n (vI_st (f := 390) hO_this (by decide +kernel) eI_39))
        have hG := GM.wI hG 390 rfl eI_39 (rg_w h_37 (by decide +kernel)) (by decide +kernel)
        have tt_40 : (I_39 389 this).toInt = (I_23 389 this).toInt := by rw [eI_39, pq_uf _ _ _ (by decide +kernel)]
        have tt_41 : (I_39 396 this).toInt = (I_23 396 this).toInt := by rw [eI_39, pq_uf _ _ _ (by decide +kernel)]
        have tt_42 : (I_39 397 this).toInt = (I_23 397 this).toInt := by rw [eI_39, pq_uf _ _ _ (by decide +kernel)]
        have tt_43 : (I_39 398 this).toInt = (I_23 398 this).toInt := by rw [eI_39, pq_uf _ _ _ (by decide +kernel)]
        refine lv_aload_n hx hb dX12_text_41 rfl (lv_at hl 0 rfl) ?_
        refine lv_iconst (v := 0) hx hb dX12_text_42 (by decide +kernel) ?_
        refine pp_i (v := 0) (ty := .int) (C := RX12) (T := TX12) (N := 31) hx hb hts (tw_i inlX12) tyX12 tyX12_ok nmX12 hown hK hP hD hS hL_this hK_this (by decide +kernel) rfl 4 388 (by decide +kernel) (hts _ (tw_c tw_631)) rfl (tyX12_ok 4 (by decide +kernel)) rfl rfl (Nat.le_of_ble_eq_true rfl) (ps_388 _ _ _ _ _) dX12_text_43 (fun I_44 H locs eI_44 hP hD hS => ?_)
        replace hFr := fr_I (f := 388) hFr hO_this (by decide +kernel) eI_44
        replace hF := hF.trans (ap_n (vI_st (f := 388) hO_this (by decide +kernel) eI_44))
        have hG := GM.wI hG 388 rfl eI_44 (rg_w (rg_k (0 : Int32) 0 rfl) (by decide +kernel)) (by decide +kernel)
        have tt_45 : (I_44 389 this).toInt = (I_39 389 this).toInt := by rw [eI_44, pq_uf _ _ _ (by decide +kernel)]
        have tt_46 : (I_44 396 this).toInt = (I_39 396 this).toInt := by rw [eI_44, pq_uf _ _ _ (by decide +kernel)]
        have tt_47 : (I_44 397 this).toInt = (I_39 397 this).toInt := by rw [eI_44, pq_uf _ _ _ (by decide +kernel)]
        have tt_48 : (I_44 398 this).toInt = (I_39 398 this).toInt := by rw [eI_44, pq_uf _ _ _ (by decide +kernel)]
        refine lv_aload_n hx hb dX12_text_46 rfl (lv_at hl 0 rfl) ?_
        refine pg_f (v := .int (I_44 389 this)) (C := RX12) (T := TX12) (N := 31) hx hb hts (tw_i inlX12) hown hK hP hL_this hK_this (by decide +kernel) rfl 5 (by decide +kernel) (hts _ (tw_c tw_180)) rfl dX12_text_47 ?_
        have h_49 : rg (I_44 389 this) 1 5 := (by rw [eI_44, pq_uf _ _ _ (by decide +kernel)]; exact (by rw [eI_39, pq_uf _ _ _ (by decide +kernel)]; exact h_36))
        have uh_49 := h_49.1
        have vh_49 := h_49.2
        replace hF := hF.trans (ap_n (vI_e (f := 389) hO_this (by decide +kernel)))
        refine lv_if_eq (tgt := 55) hx hb dX12_text_50 (by decide +kernel) (fun c_51 => ?_) (fun c_51 => ?_)
        · have tc_54 : (I_44 389 this).toInt = 0 := congrArg Int32.toInt c_51
          exact (rg_empty (rg_and h_49 (rg_of_eq c_51 (rg_k (0 : Int32) 0 rfl)) (lo := 1) (hi := 0) (by decide +kernel)) (by decide +kernel)).elim
        · have tc_55 : (I_44 389 this).toInt ≠ 0 := fun q => c_51 (Int32.toInt_inj.mp q)
          refine lv_iconst (v := (-1)) hx hb dX12_text_53 (by decide +kernel) ?_
          subst hQ
          exact W.iret (v := (-1)) hx hb hr (fun t1 ht hW => ⟨⟨(-1), (σ, I_44, J_14, ri_15, rj, rq), rfl, ⟨I_44, J_14, ri_15, rfl, hG, fun _ => hg_17.2.2.1 this_a hT_this_a 6 (by decide +kernel) (by decide +kernel), (hF0.symm.trans hF), hFr, (rg_w (rg_k (-1 : Int32) (-1) rfl) (by decide +kernel))⟩, by rw [ht]; exact hP, va_K.moved hW.alike hK, hD⟩, hS.F ht⟩) hS.2.2 dX12_text_54
      · replace hF := hF.trans (if_pos c_30)
        have tc_56 : (I_23 389 this).toInt = 0 := congrArg Int32.toInt c_30
        have h_57 : rg (I_23 389 this) 0 0 := rg_and h_28 (rg_of_eq c_30 (rg_k (0 : Int32) 0 rfl)) (by decide +kernel)
        have uh_57 := h_57.1
        have vh_57 := h_57.2
        refine lv_iconst (v := (-1)) hx hb dX12_text_30 (by decide +kernel) ?_
        refine lv_goto (tgt := 38) hx hb dX12_text_31 (by decide +kernel) ?_
        refine pp_i (v := (-1)) (ty := .int) (C := RX12) (T := TX12) (N := 31) hx hb hts (tw_i inlX12) tyX12 tyX12_ok nmX12 hown hK hP hD hS hL_this hK_this (by decide +kernel) rfl 6 390 (by decide +kernel) (hts _ (tw_c tw_181)) rfl (tyX12_ok 6 (by decide +kernel)) rfl rfl (Nat.le_of_ble_eq_true rfl) (ps_390 _ _ _ _ _) dX12_text_38 (fun I_58 H locs eI_58 hP hD hS => ?_)
        replace hFr := fr_I (f := 390) hFr hO_this (by decide +kernel) eI_58
        replace hF := hF.trans (ap_n (vI_st (f := 390) hO_this (by decide +kernel) eI_58))
        have hG := GM.wI hG 390 rfl eI_58 (rg_w (rg_k (-1 : Int32) (-1) rfl) (by decide +kernel)) (by decide +kernel)
        have tt_59 : (I_58 389 this).toInt = (I_23 389 this).toInt := by rw [eI_58, pq_uf _ _ _ (by decide +kernel)]
        have tt_60 : (I_58 396 this).toInt = (I_23 396 this).toInt := by rw [eI_58, pq_uf _ _ _ (by decide +kernel)]
        have tt_61 : (I_58 397 this).toInt = (I_23 397 this).toInt := by rw [eI_58, pq_uf _ _ _ (by decide +kernel)]
        have tt_62 : (I_58 398 this).toInt = (I_23 398 this).toInt := by rw [eI_58, pq_uf _ _ _ (by decide +kernel)]
        refine lv_aload_n hx hb dX12_text_41 rfl (lv_at hl 0 rfl) ?_
        refine lv_iconst (v := 0) hx hb dX12_text_42 (by decide +kernel) ?_
        refine pp_i (v := 0) (ty := .int) (C := RX12) (T := TX12) (N := 31) hx hb hts (tw_i inlX12) tyX12 tyX12_ok nmX12 hown hK hP hD hS hL_this hK_this (by decide +kernel) rfl 4 388 (by decide +kernel) (hts _ (tw_c tw_631)) rfl (tyX12_ok 4 (by decide +kernel)) rfl rfl (Nat.le_of_ble_eq_true rfl) (ps_388 _ _ _ _ _) dX12_text_43 (fun I_63 H locs eI_63 hP hD hS => ?_)
        replace hFr := fr_I (f := 388) hFr hO_this (by decide +kernel) eI_63
        replace hF := hF.trans (ap_n (vI_st (f := 388) hO_this (by decide +kernel) eI_63))
        have hG := GM.wI hG 388 rfl eI_63 (rg_w (rg_k (0 : Int32) 0 rfl) (by decide +kernel)) (by decide +kernel)
        have tt_64 : (I_63 389 this).toInt = (I_58 389 this).toInt := by rw [eI_63, pq_uf _ _ _ (by decide +kernel)]
        have tt_65 : (I_63 396 this).toInt = (I_58 396 this).toInt := by rw [eI_63, pq_uf _ _ _ (by decide +kernel)]
        have tt_66 : (I_63 397 this).toInt = (I_58 397 this).toInt := by rw [eI_63, pq_uf _ _ _ (by decide +kernel)]
        have tt_67 : (I_63 398 this).toInt = (I_58 398 this).toInt := by rw [eI_63, pq_uf _ _ _ (by decide +kernel)]
        refine lv_aload_n hx hb dX12_text_46 rfl (lv_at hl 0 rfl) ?_
        refine pg_f (v := .int (I_63 389 this)) (C := RX12) (T := TX12) (N := 31) hx hb hts (tw_i inlX12) hown hK hP hL_this hK_this (by decide +kernel) rfl 5 (by decide +kernel) (hts _ (tw_c tw_180)) rfl dX12_text_47 ?_
        have h_68 : rg (I_63 389 this) 0 0 := (by rw [eI_63, pq_uf _ _ _ (by decide +kernel)]; exact (by rw [eI_58, pq_uf _ _ _ (by decide +kernel)]; exact h_57))
        have uh_68 := h_68.1
        have vh_68 := h_68.2
        replace hF := hF.trans (ap_n (vI_e (f := 389) hO_this (by decide +kernel)))
        refine lv_if_eq (tgt := 55) hx hb dX12_text_50 (by decide +kernel) (fun c_70 => ?_) (fun c_70 => ?_)
        · have tc_73 : (I_63 389 this).toInt = 0 := congrArg Int32.toInt c_70
          have hcl := hp_19.resolve_left (fun q => q (by omega))
          have hc1 := hcl.1
          have hc3 := hcl.2.2.1
          have hc5 := hcl.2.2.2.2
          have h66 : ri_15 this_a 6 = ri this_a 6 := hg_17.2.2.1 this_a hT_this_a 6 (by decide +kernel) (by decide +kernel)
          have ce6 := clampE (ri_15 this_a 6)
          have h60 := (GM.z0 hG0 (q := this_a) (by rw [hT_this_a]; decide) (i := 6) (k := 6) (lo := 0) (hi := 10) (by decide +kernel) rfl).1
          have t66 := congrArg Int32.toInt h66
          have h69 : rg (ri this_a 6) 0 9 := ⟨h60, by omega⟩
          refine lv_aload_n hx hb dX12_text_55 rfl (lv_at hl 0 rfl) ?_
          refine pg_f (v := .ref this_a) (C := RX12) (T := TX12) (N := 31) hx hb hts (tw_i inlX12) hown hK hP hL_this hK_this (by decide +kernel) rfl 0 (by decide +kernel) (hts _ (tw_c tw_176)) (pq_hv rfl hR_this_a) dX12_text_56 ?_
          refine lv_aload_n hx hb dX12_text_59 rfl (lv_at hl 0 rfl) ?_
          refine pg_f (v := .int (I_63 396 this)) (C := RX12) (T := TX12) (N := 31) hx hb hts (tw_i inlX12) hown hK hP hL_this hK_this (by decide +kernel) rfl 12 (by decide +kernel) (hts _ (tw_c tw_821)) rfl dX12_text_60 ?_
          have h_74 : rg (I_63 396 this) 0 11820 := GM.rI hG 396 rfl
          have uh_74 := h_74.1
          have vh_74 := h_74.2
          replace hF := hF.trans (ap_n (vI_e (f := 396) hO_this (by decide +kernel)))
          refine lv_aload_n hx hb dX12_text_63 rfl (lv_at hl 0 rfl) ?_
          refine pg_f (v := .int (I_63 397 this)) (C := RX12) (T := TX12) (N := 31) hx hb hts (tw_i inlX12) hown hK hP hL_this hK_this (by decide +kernel) rfl 13 (by decide +kernel) (hts _ (tw_c tw_822)) rfl dX12_text_64 ?_
          have h_76 : rg (I_63 397 this) 0 20 := GM.rI hG 397 rfl
          have uh_76 := h_76.1
          have vh_76 := h_76.2
          replace hF := hF.trans (ap_n (vI_e (f := 397) hO_this (by decide +kernel)))
          have h_78 : rg (I_63 396 this) 3720 11820 := ⟨by omega, by omega⟩
          have uh_78 := h_78.1
          have vh_78 := h_78.2
          refine pt_i hx hb hK hP hD hS hL_this_a hK_this_a hN_this_a (rg_in h_78 (by decide +kernel)) dX12_text_67 (fun r_79 H locs er_79 hP hD hS => ?_)
          replace hFr := fr_R hFr hO_this_a (by decide +kernel) er_79
          replace hF := hF.trans (ap_n (vR_st hVT hO_this_a (by decide +kernel) er_79))
          have hG := GM.wt hG hT_this_a (by decide +kernel) er_79 (zn_t0 (t := (ri this_a 6).toNatClampNeg) (by have z_i := clampE (I_63 396 this); have z_0 := clampE (ri this_a 6); omega) (rg_cl1 h69 (by decide +kernel))) rfl (rg_w h_76 (by decide +kernel)) (by have z_i := clampE (I_63 396 this); omega) (by decide +kernel)
          have h_80 : r_79 this_a 6 = x_1 := cz_ne er_79 (zn_t0 (t := (ri this_a 6).toNatClampNeg) (by have z_i := clampE (I_63 396 this); have z_0 := clampE (ri this_a 6); omega) (rg_cl1 h69 (by decide +kernel))) (by decide +kernel) (by decide +kernel) ((hg_17.2.2.1 this_a hT_this_a 6 (by decide +kernel) (by decide +kernel)).trans ex_1.symm)
          refine lv_aload_n hx hb dX12_text_68 rfl (lv_at hl 0 rfl) ?_
          refine pg_f (v := .ref this_a) (C := RX12) (T := TX12) (N := 31) hx hb hts (tw_i inlX12) hown hK hP hL_this hK_this (by decide +kernel) rfl 0 (by decide +kernel) (hts _ (tw_c tw_176)) (pq_hv rfl hR_this_a) dX12_text_69 ?_
          refine lv_bipush (v := 6) hx hb dX12_text_72 (by decide +kernel) ?_
          refine lv_dup2_11 hx hb dX12_text_74 rfl rfl ?_
          refine pl_i hx hb hK hP hL_this_a hK_this_a hN_this_a (vp_in_iff.mpr (by decide +kernel)) dX12_text_75 ?_
          refine lv_tov x_1 h_80 ?_
          refine lv_iconst (v := 1) hx hb dX12_text_76 (by decide +kernel) ?_
          refine lv_iadd hx hb dX12_text_77 ?_
          refine lv_topi (fun x_81 ex_81 => ?_)
          replace hF := hF.trans (ap_n ex_81)
          have h_82 : rg x_81 1 10 := rg_of_eq ex_81 (rg_add h_9 (rg_k (1 : Int32) 1 rfl) (by decide +kernel))
          have uh_82 := h_82.1
          have vh_82 := h_82.2
          have tx_81 : (x_81).toInt = (x_1).toInt + 1 := by rw [ex_81]; exact i_add_rg (a2 := (x_1).toInt) (b2 := 1) rfl rfl h_9 (rg_k (1 : Int32) 1 rfl) (by decide +kernel)
          refine pt_i hx hb hK hP hD hS hL_this_a hK_this_a hN_this_a (vp_in_iff.mpr (by decide +kernel)) dX12_text_78 (fun r_83 H locs er_83 hP hD hS => ?_)
          replace hFr := fr_R hFr hO_this_a (by decide +kernel) er_83
          replace hF := hF.trans (ap_n (vR_st hVT hO_this_a (by decide +kernel) er_83))
          have hz6 : (x_1).toInt = (r_79 this_a 6).toInt := (congrArg Int32.toInt (show r_79 this_a 6 = x_1 from h_80)).symm
          have h76 : r_79 this_a 6 = ri this_a 6 := h_80.trans ex_1
          have t76 := congrArg Int32.toInt h76
          have hq6 : TXQ (r_79 this_a) 300 (r_79 this_a (3720 + 900 * (r_79 this_a 6).toNatClampNeg)).toInt := TXQ_end (i := ((I_63 396 this)).toNatClampNeg) hcl.2.1 (by omega) (by omega) ⟨by omega, by omega⟩ (by have z0 := clampE (I_63 396 this); omega) ((congrFun er_79 _).trans (va_up_self _ _ _)) (by omega)
          have hG := GM.w6 hG hT_this_a (by decide +kernel) er_83 rfl (by omega) (by omega) hq6 (by decide +kernel)
          have h_84 : r_83 this_a 6 = x_81 := cz_eq er_83
          refine lv_aload_n hx hb dX12_text_79 rfl (lv_at hl 0 rfl) ?_
          refine pg_f (v := .ref this_a) (C := RX12) (T := TX12) (N := 31) hx hb hts (tw_i inlX12) hown hK hP hL_this hK_this (by decide +kernel) rfl 0 (by decide +kernel) (hts _ (tw_c tw_176)) (pq_hv rfl hR_this_a) dX12_text_80 ?_
          refine lv_bipush (v := 6) hx hb dX12_text_83 (by decide +kernel) ?_
          refine pl_i hx hb hK hP hL_this_a hK_this_a hN_this_a (vp_in_iff.mpr (by decide +kernel)) dX12_text_85 ?_
          refine lv_tov x_81 h_84 ?_
          refine lv_iconst (v := 1) hx hb dX12_text_86 (by decide +kernel) ?_
          refine lv_isub hx hb dX12_text_87 ?_
          refine lv_topi (fun x_85 ex_85 => ?_)
          replace hF := hF.trans (ap_n ex_85)
          have h_86 : rg x_85 0 9 := rg_of_eq ex_85 (rg_sub h_82 (rg_k (1 : Int32) 1 rfl) (by decide +kernel))
          have uh_86 := h_86.1
          have vh_86 := h_86.2
          have tx_85 : (x_85).toInt = (x_81).toInt - 1 := by rw [ex_85]; exact i_sub_rg (a2 := (x_81).toInt) (b2 := 1) rfl rfl h_82 (rg_k (1 : Int32) 1 rfl) (by decide +kernel)
          subst hQ
          exact W.iret (v := x_85) hx hb hr (fun t1 ht hW => ⟨⟨x_85, (σ, I_63, J_14, r_83, rj, rq), rfl, ⟨I_63, J_14, r_83, rfl, hG, fun q => absurd h_86.1 (by rw [q]; decide), (hF0.symm.trans hF), hFr, (rg_w h_86 (by decide +kernel))⟩, by rw [ht]; exact hP, va_K.moved hW.alike hK, hD⟩, hS.F ht⟩) hS.2.2 dX12_text_88
        · have tc_87 : (I_63 389 this).toInt ≠ 0 := fun q => c_70 (Int32.toInt_inj.mp q)
          exact (rg_empty (rg_ne c_70 h_68 0 rfl (lo := 1) (hi := (-1)) (by decide +kernel)) (by decide +kernel)).elim
    · replace hF := hF.trans (if_pos c_3)
      have tc_88 : (x_1).toInt = 10 := congrArg Int32.toInt c_3
      have h_89 : rg x_1 10 10 := rg_and h_2 (rg_of_eq c_3 (rg_k (10 : Int32) 10 rfl)) (by decide +kernel)
      have uh_89 := h_89.1
      have vh_89 := h_89.2
      refine lv_iconst (v := (-1)) hx hb dX12_text_12 (by decide +kernel) ?_
      subst hQ
      exact W.iret (v := (-1)) hx hb hr (fun t1 ht hW => ⟨⟨(-1), (σ, I, J, ri, rj, rq), rfl, ⟨I, J, ri, rfl, hG, fun _ => rfl, (hF0.symm.trans hF), hFr, (rg_w (rg_k (-1 : Int32) (-1) rfl) (by decide +kernel))⟩, by rw [ht]; exact hP, va_K.moved hW.alike hK, hD⟩, hS.F ht⟩) hS.2.2 dX12_text_13
  exact go _ _ _ hP hD hS hl
