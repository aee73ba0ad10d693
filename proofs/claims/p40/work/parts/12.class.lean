theorem dX3_clauseBy_0 : decode cX3_clauseBy 0 = .ok (.aload_n 0, 1) := oc_42 (by decide +kernel)
theorem dX3_clauseBy_1 : decode cX3_clauseBy 1 = .ok (.iload_n 1, 1) := oc_27 (by decide +kernel)
theorem dX3_clauseBy_2 : decode cX3_clauseBy 2 = .ok (.iload_n 2, 1) := oc_28 (by decide +kernel)
theorem dX3_clauseBy_3 : decode cX3_clauseBy 3 = .ok (.invokevirtual 52, 3) := oc_182 (a := 0) (b := 52) (by decide +kernel)
theorem dX3_clauseBy_6 : decode cX3_clauseBy 6 = .ok (.astore 5, 2) := oc_58 (by decide +kernel)
theorem dX3_clauseBy_8 : decode cX3_clauseBy 8 = .ok (.aload 5, 2) := oc_25 (by decide +kernel)
theorem dX3_clauseBy_10 : decode cX3_clauseBy 10 = .ok (.ifnonnull 5, 3) := oc_199 (a := 0) (b := 5) (by decide +kernel)
theorem dX3_clauseBy_13 : decode cX3_clauseBy 13 = .ok (.iconst (-1), 1) := oc_2 (by decide +kernel)
theorem dX3_clauseBy_14 : decode cX3_clauseBy 14 = .ok (.ireturn, 1) := oc_172 (by decide +kernel)
theorem dX3_clauseBy_15 : decode cX3_clauseBy 15 = .ok (.aload_n 0, 1) := oc_42 (by decide +kernel)
theorem dX3_clauseBy_16 : decode cX3_clauseBy 16 = .ok (.aload_n 3, 1) := oc_45 (by decide +kernel)
theorem dX3_clauseBy_17 : decode cX3_clauseBy 17 = .ok (.iload 4, 2) := oc_21 (by decide +kernel)
theorem dX3_clauseBy_19 : decode cX3_clauseBy 19 = .ok (.iload_n 2, 1) := oc_28 (by decide +kernel)
theorem dX3_clauseBy_20 : decode cX3_clauseBy 20 = .ok (.iconst 0, 1) := oc_3 (by decide +kernel)
theorem dX3_clauseBy_21 : decode cX3_clauseBy 21 = .ok (.invokevirtual 69, 3) := oc_182 (a := 0) (b := 69) (by decide +kernel)
theorem dX3_clauseBy_24 : decode cX3_clauseBy 24 = .ok (.aload 5, 2) := oc_25 (by decide +kernel)
theorem dX3_clauseBy_26 : decode cX3_clauseBy 26 = .ok (.iload_n 1, 1) := oc_27 (by decide +kernel)
theorem dX3_clauseBy_27 : decode cX3_clauseBy 27 = .ok (.aload_n 0, 1) := oc_42 (by decide +kernel)
theorem dX3_clauseBy_28 : decode cX3_clauseBy 28 = .ok (.getfield 27, 3) := oc_180 (a := 0) (b := 27) (by decide +kernel)
theorem dX3_clauseBy_31 : decode cX3_clauseBy 31 = .ok (.aload_n 0, 1) := oc_42 (by decide +kernel)
theorem dX3_clauseBy_32 : decode cX3_clauseBy 32 = .ok (.getfield 30, 3) := oc_180 (a := 0) (b := 30) (by decide +kernel)
theorem dX3_clauseBy_35 : decode cX3_clauseBy 35 = .ok (.invokevirtual 73, 3) := oc_182 (a := 0) (b := 73) (by decide +kernel)
theorem dX3_clauseBy_38 : decode cX3_clauseBy 38 = .ok (.ireturn, 1) := oc_172 (by decide +kernel)
theorem dX3_lastsFor_0 : decode cX3_lastsFor 0 = .ok (.aload_n 0, 1) := oc_42 (by decide +kernel)
theorem dX3_lastsFor_1 : decode cX3_lastsFor 1 = .ok (.iconst 0, 1) := oc_3 (by decide +kernel)
theorem dX3_lastsFor_2 : decode cX3_lastsFor 2 = .ok (.iload_n 1, 1) := oc_27 (by decide +kernel)
theorem dX3_lastsFor_3 : decode cX3_lastsFor 3 = .ok (.invokevirtual 52, 3) := oc_182 (a := 0) (b := 52) (by decide +kernel)
theorem dX3_lastsFor_6 : decode cX3_lastsFor 6 = .ok (.astore 5, 2) := oc_58 (by decide +kernel)
theorem dX3_lastsFor_8 : decode cX3_lastsFor 8 = .ok (.aload 5, 2) := oc_25 (by decide +kernel)
theorem dX3_lastsFor_10 : decode cX3_lastsFor 10 = .ok (.ifnonnull 5, 3) := oc_199 (a := 0) (b := 5) (by decide +kernel)
theorem dX3_lastsFor_13 : decode cX3_lastsFor 13 = .ok (.iconst 0, 1) := oc_3 (by decide +kernel)
theorem dX3_lastsFor_14 : decode cX3_lastsFor 14 = .ok (.ireturn, 1) := oc_172 (by decide +kernel)
theorem dX3_lastsFor_15 : decode cX3_lastsFor 15 = .ok (.aload_n 0, 1) := oc_42 (by decide +kernel)
theorem dX3_lastsFor_16 : decode cX3_lastsFor 16 = .ok (.aload_n 2, 1) := oc_44 (by decide +kernel)
theorem dX3_lastsFor_17 : decode cX3_lastsFor 17 = .ok (.iload_n 3, 1) := oc_29 (by decide +kernel)
theorem dX3_lastsFor_18 : decode cX3_lastsFor 18 = .ok (.iload_n 1, 1) := oc_27 (by decide +kernel)
theorem dX3_lastsFor_19 : decode cX3_lastsFor 19 = .ok (.iload 4, 2) := oc_21 (by decide +kernel)
theorem dX3_lastsFor_21 : decode cX3_lastsFor 21 = .ok (.invokevirtual 69, 3) := oc_182 (a := 0) (b := 69) (by decide +kernel)
theorem dX3_lastsFor_24 : decode cX3_lastsFor 24 = .ok (.aload 5, 2) := oc_25 (by decide +kernel)
theorem dX3_lastsFor_26 : decode cX3_lastsFor 26 = .ok (.iconst 0, 1) := oc_3 (by decide +kernel)
theorem dX3_lastsFor_27 : decode cX3_lastsFor 27 = .ok (.aload_n 0, 1) := oc_42 (by decide +kernel)
theorem dX3_lastsFor_28 : decode cX3_lastsFor 28 = .ok (.getfield 27, 3) := oc_180 (a := 0) (b := 27) (by decide +kernel)
theorem dX3_lastsFor_31 : decode cX3_lastsFor 31 = .ok (.aload_n 0, 1) := oc_42 (by decide +kernel)
theorem dX3_lastsFor_32 : decode cX3_lastsFor 32 = .ok (.getfield 30, 3) := oc_180 (a := 0) (b := 30) (by decide +kernel)
theorem dX3_lastsFor_35 : decode cX3_lastsFor 35 = .ok (.invokevirtual 73, 3) := oc_182 (a := 0) (b := 73) (by decide +kernel)
theorem dX3_lastsFor_38 : decode cX3_lastsFor 38 = .ok (.iconst (-1), 1) := oc_2 (by decide +kernel)
theorem dX3_lastsFor_39 : decode cX3_lastsFor 39 = .ok (.if_icmp .eq 7, 3) := oc_159 (a := 0) (b := 7) (by decide +kernel)
theorem dX3_lastsFor_46 : decode cX3_lastsFor 46 = .ok (.iconst 0, 1) := oc_3 (by decide +kernel)
theorem dX3_lastsFor_47 : decode cX3_lastsFor 47 = .ok (.ireturn, 1) := oc_172 (by decide +kernel)
theorem dX3_lastsFor_42 : decode cX3_lastsFor 42 = .ok (.iconst 1, 1) := oc_4 (by decide +kernel)
theorem dX3_lastsFor_43 : decode cX3_lastsFor 43 = .ok (.goto 4, 3) := oc_167 (a := 0) (b := 4) (by decide +kernel)
theorem dX7_isNumber_0 : decode cX7_isNumber 0 = .ok (.iload_n 0, 1) := oc_26 (by decide +kernel)
theorem dX7_isNumber_1 : decode cX7_isNumber 1 = .ok (.sipush (-5000), 3) := oc_17 (a := 236) (b := 120) (by decide +kernel)
theorem dX7_isNumber_4 : decode cX7_isNumber 4 = .ok (.if_icmp .le 7, 3) := oc_164 (a := 0) (b := 7) (by decide +kernel)
theorem dX7_isNumber_11 : decode cX7_isNumber 11 = .ok (.iconst 0, 1) := oc_3 (by decide +kernel)
theorem dX7_isNumber_12 : decode cX7_isNumber 12 = .ok (.ireturn, 1) := oc_172 (by decide +kernel)
theorem dX7_isNumber_7 : decode cX7_isNumber 7 = .ok (.iconst 1, 1) := oc_4 (by decide +kernel)
theorem dX7_isNumber_8 : decode cX7_isNumber 8 = .ok (.goto 4, 3) := oc_167 (a := 0) (b := 4) (by decide +kernel)
theorem dX7_meanOfNumbers_0 : decode cX7_meanOfNumbers 0 = .ok (.iload_n 0, 1) := oc_26 (by decide +kernel)
theorem tw_278 : Cond.methodLink RX7 72 yX7_isNumber ∈ wsL_law := sg_12 _ (List.mem_of_getElem? (i := 14) rfl)
theorem tw_279 : Cond.static yX7_isNumber ∈ wsL_law := sg_12 _ (List.mem_of_getElem? (i := 15) rfl)
theorem tw_37 : Cond.initialized RX7 ∈ wsL_law := sg_2 _ (List.mem_of_getElem? (i := 13) rfl)
theorem tw_280 : Cond.code yX7_isNumber cX7_isNumber 1 (some .boolean) ∈ wsL_law := sg_12 _ (List.mem_of_getElem? (i := 16) rfl)
theorem dX7_meanOfNumbers_1 : decode cX7_meanOfNumbers 1 = .ok (.invokestatic 72, 3) := oc_184 (a := 0) (b := 72) (by decide +kernel)
theorem dX7_meanOfNumbers_4 : decode cX7_meanOfNumbers 4 = .ok (.ifCond .ne 5, 3) := oc_154 (a := 0) (b := 5) (by decide +kernel)
theorem dX7_meanOfNumbers_9 : decode cX7_meanOfNumbers 9 = .ok (.iload_n 1, 1) := oc_27 (by decide +kernel)
theorem dX7_meanOfNumbers_10 : decode cX7_meanOfNumbers 10 = .ok (.invokestatic 72, 3) := oc_184 (a := 0) (b := 72) (by decide +kernel)
theorem dX7_meanOfNumbers_13 : decode cX7_meanOfNumbers 13 = .ok (.ifCond .eq 11, 3) := oc_153 (a := 0) (b := 11) (by decide +kernel)
theorem dX7_meanOfNumbers_24 : decode cX7_meanOfNumbers 24 = .ok (.iload_n 0, 1) := oc_26 (by decide +kernel)
theorem dX7_meanOfNumbers_25 : decode cX7_meanOfNumbers 25 = .ok (.ireturn, 1) := oc_172 (by decide +kernel)
theorem dX7_meanOfNumbers_16 : decode cX7_meanOfNumbers 16 = .ok (.iload_n 0, 1) := oc_26 (by decide +kernel)
theorem dX7_meanOfNumbers_17 : decode cX7_meanOfNumbers 17 = .ok (.iload_n 1, 1) := oc_27 (by decide +kernel)
theorem dX7_meanOfNumbers_18 : decode cX7_meanOfNumbers 18 = .ok (.iadd, 1) := oc_96 (by decide +kernel)
theorem dX7_meanOfNumbers_19 : decode cX7_meanOfNumbers 19 = .ok (.iconst 2, 1) := oc_5 (by decide +kernel)
theorem dX7_meanOfNumbers_20 : decode cX7_meanOfNumbers 20 = .ok (.idiv, 1) := oc_108 (by decide +kernel)
theorem dX7_meanOfNumbers_21 : decode cX7_meanOfNumbers 21 = .ok (.goto 4, 3) := oc_167 (a := 0) (b := 4) (by decide +kernel)
theorem dX7_meanOfNumbers_7 : decode cX7_meanOfNumbers 7 = .ok (.iload_n 1, 1) := oc_27 (by decide +kernel)
theorem dX7_meanOfNumbers_8 : decode cX7_meanOfNumbers 8 = .ok (.ireturn, 1) := oc_172 (by decide +kernel)
theorem dX7_known_0 : decode cX7_known 0 = .ok (.sipush (-6000), 3) := oc_17 (a := 232) (b := 144) (by decide +kernel)
theorem dX7_known_3 : decode cX7_known 3 = .ok (.istore 4, 2) := oc_54 (by decide +kernel)
theorem dX7_known_5 : decode cX7_known 5 = .ok (.sipush (-6000), 3) := oc_17 (a := 232) (b := 144) (by decide +kernel)
theorem dX7_known_8 : decode cX7_known 8 = .ok (.istore 5, 2) := oc_54 (by decide +kernel)
theorem dX7_known_10 : decode cX7_known 10 = .ok (.sipush (-6000), 3) := oc_17 (a := 232) (b := 144) (by decide +kernel)
theorem dX7_known_13 : decode cX7_known 13 = .ok (.istore 6, 2) := oc_54 (by decide +kernel)
theorem dX7_known_15 : decode cX7_known 15 = .ok (.sipush (-6000), 3) := oc_17 (a := 232) (b := 144) (by decide +kernel)
theorem dX7_known_18 : decode cX7_known 18 = .ok (.istore 7, 2) := oc_54 (by decide +kernel)
theorem dX7_known_20 : decode cX7_known 20 = .ok (.iconst 0, 1) := oc_3 (by decide +kernel)
theorem dX7_known_21 : decode cX7_known 21 = .ok (.istore 8, 2) := oc_54 (by decide +kernel)
theorem dX7_known_23 : decode cX7_known 23 = .ok (.iload 8, 2) := oc_21 (by decide +kernel)
theorem dX7_known_25 : decode cX7_known 25 = .ok (.aload_n 0, 1) := oc_42 (by decide +kernel)
theorem tw_254 : Cond.fieldLink RX7 59 "RingsUnder$Seas" "levels" "I" ∈ wsL_law := sg_11 _ (List.mem_of_getElem? (i := 14) rfl)
theorem dX7_known_26 : decode cX7_known 26 = .ok (.getfield 59, 3) := oc_180 (a := 0) (b := 59) (by decide +kernel)
theorem dX7_known_29 : decode cX7_known 29 = .ok (.if_icmp .ge 115, 3) := oc_162 (a := 0) (b := 115) (by decide +kernel)
theorem dX7_known_144 : decode cX7_known 144 = .ok (.iload 4, 2) := oc_21 (by decide +kernel)
theorem dX7_known_146 : decode cX7_known 146 = .ok (.invokestatic 72, 3) := oc_184 (a := 0) (b := 72) (by decide +kernel)
theorem dX7_known_149 : decode cX7_known 149 = .ok (.ifCond .eq 6, 3) := oc_153 (a := 0) (b := 6) (by decide +kernel)
theorem dX7_known_155 : decode cX7_known 155 = .ok (.iload 4, 2) := oc_21 (by decide +kernel)
theorem dX7_known_157 : decode cX7_known 157 = .ok (.sipush (-5000), 3) := oc_17 (a := 236) (b := 120) (by decide +kernel)
theorem dX7_known_187 : decode cX7_known 187 = .ok (.iload 7, 2) := oc_21 (by decide +kernel)
theorem dX7_known_189 : decode cX7_known 189 = .ok (.invokestatic 72, 3) := oc_184 (a := 0) (b := 72) (by decide +kernel)
theorem dX7_known_192 : decode cX7_known 192 = .ok (.ifCond .eq 8, 3) := oc_153 (a := 0) (b := 8) (by decide +kernel)
theorem dX7_known_200 : decode cX7_known 200 = .ok (.iconst 0, 1) := oc_3 (by decide +kernel)
theorem dX7_known_201 : decode cX7_known 201 = .ok (.ireturn, 1) := oc_172 (by decide +kernel)
theorem dX7_known_195 : decode cX7_known 195 = .ok (.iload 7, 2) := oc_21 (by decide +kernel)
theorem dX7_known_197 : decode cX7_known 197 = .ok (.goto 4, 3) := oc_167 (a := 0) (b := 4) (by decide +kernel)
theorem dX7_known_160 : decode cX7_known 160 = .ok (.if_icmp .ne 27, 3) := oc_160 (a := 0) (b := 27) (by decide +kernel)
theorem dX7_known_163 : decode cX7_known 163 = .ok (.iload 5, 2) := oc_21 (by decide +kernel)
theorem dX7_known_165 : decode cX7_known 165 = .ok (.invokestatic 72, 3) := oc_184 (a := 0) (b := 72) (by decide +kernel)
theorem dX7_known_179 : decode cX7_known 179 = .ok (.iload 5, 2) := oc_21 (by decide +kernel)
theorem dX7_known_181 : decode cX7_known 181 = .ok (.iload 6, 2) := oc_21 (by decide +kernel)
theorem tw_281 : Cond.methodLink RX7 76 yX7_meanOfNumbers ∈ wsL_law := sg_12 _ (List.mem_of_getElem? (i := 17) rfl)
theorem tw_282 : Cond.static yX7_meanOfNumbers ∈ wsL_law := sg_12 _ (List.mem_of_getElem? (i := 18) rfl)
theorem tw_283 : Cond.code yX7_meanOfNumbers cX7_meanOfNumbers 2 (some .int) ∈ wsL_law := sg_12 _ (List.mem_of_getElem? (i := 19) rfl)
theorem dX7_known_183 : decode cX7_known 183 = .ok (.invokestatic 76, 3) := oc_184 (a := 0) (b := 76) (by decide +kernel)
theorem dX7_known_186 : decode cX7_known 186 = .ok (.ireturn, 1) := oc_172 (by decide +kernel)
theorem dX7_known_168 : decode cX7_known 168 = .ok (.ifCond .ne 11, 3) := oc_154 (a := 0) (b := 11) (by decide +kernel)
theorem dX7_known_171 : decode cX7_known 171 = .ok (.iload 6, 2) := oc_21 (by decide +kernel)
theorem dX7_known_173 : decode cX7_known 173 = .ok (.invokestatic 72, 3) := oc_184 (a := 0) (b := 72) (by decide +kernel)
theorem dX7_known_176 : decode cX7_known 176 = .ok (.ifCond .eq 11, 3) := oc_153 (a := 0) (b := 11) (by decide +kernel)
theorem dX7_known_152 : decode cX7_known 152 = .ok (.iload 4, 2) := oc_21 (by decide +kernel)
theorem dX7_known_154 : decode cX7_known 154 = .ok (.ireturn, 1) := oc_172 (by decide +kernel)
theorem dX7_known_32 : decode cX7_known 32 = .ok (.aload_n 0, 1) := oc_42 (by decide +kernel)
theorem tw_61 : Cond.fieldLink RX7 9 "RingsUnder$Seas" "rise" "[I" ∈ wsL_law := sg_3 _ (List.mem_of_getElem? (i := 13) rfl)
theorem dX7_known_33 : decode cX7_known 33 = .ok (.getfield 9, 3) := oc_180 (a := 0) (b := 9) (by decide +kernel)
theorem dX7_known_36 : decode cX7_known 36 = .ok (.iload 8, 2) := oc_21 (by decide +kernel)
theorem dX7_known_38 : decode cX7_known 38 = .ok (.iaload, 1) := oc_46 (by decide +kernel)
theorem dX7_known_39 : decode cX7_known 39 = .ok (.iload_n 1, 1) := oc_27 (by decide +kernel)
theorem dX7_known_138 : decode cX7_known 138 = .ok (.iinc 8 1, 3) := oc_132 (b := 1) (by decide +kernel)
theorem dX7_known_141 : decode cX7_known 141 = .ok (.goto (-118), 3) := oc_167 (a := 255) (b := 138) (by decide +kernel)
theorem dX7_known_40 : decode cX7_known 40 = .ok (.if_icmp .ne 98, 3) := oc_160 (a := 0) (b := 98) (by decide +kernel)
theorem dX7_known_43 : decode cX7_known 43 = .ok (.aload_n 0, 1) := oc_42 (by decide +kernel)
theorem tw_64 : Cond.fieldLink RX7 21 "RingsUnder$Seas" "told" "[I" ∈ wsL_law := sg_3 _ (List.mem_of_getElem? (i := 16) rfl)
theorem dX7_known_44 : decode cX7_known 44 = .ok (.getfield 21, 3) := oc_180 (a := 0) (b := 21) (by decide +kernel)
theorem dX7_known_47 : decode cX7_known 47 = .ok (.iload 8, 2) := oc_21 (by decide +kernel)
theorem dX7_known_49 : decode cX7_known 49 = .ok (.iaload, 1) := oc_46 (by decide +kernel)
theorem dX7_known_50 : decode cX7_known 50 = .ok (.iload_n 3, 1) := oc_29 (by decide +kernel)
theorem dX7_known_51 : decode cX7_known 51 = .ok (.if_icmp .gt 87, 3) := oc_163 (a := 0) (b := 87) (by decide +kernel)
theorem dX7_known_54 : decode cX7_known 54 = .ok (.iload 7, 2) := oc_21 (by decide +kernel)
theorem dX7_known_56 : decode cX7_known 56 = .ok (.aload_n 0, 1) := oc_42 (by decide +kernel)
theorem tw_63 : Cond.fieldLink RX7 18 "RingsUnder$Seas" "value" "[I" ∈ wsL_law := sg_3 _ (List.mem_of_getElem? (i := 15) rfl)
theorem dX7_known_57 : decode cX7_known 57 = .ok (.getfield 18, 3) := oc_180 (a := 0) (b := 18) (by decide +kernel)
theorem dX7_known_60 : decode cX7_known 60 = .ok (.iload 8, 2) := oc_21 (by decide +kernel)
theorem dX7_known_62 : decode cX7_known 62 = .ok (.iaload, 1) := oc_46 (by decide +kernel)
theorem tw_274 : Cond.methodLink RX7 66 Lib.Math.max.name ∈ wsL_law := sg_12 _ (List.mem_of_getElem? (i := 10) rfl)
theorem dX7_known_63 : decode cX7_known 63 = .ok (.invokestatic 66, 3) := oc_184 (a := 0) (b := 66) (by decide +kernel)
theorem dX7_known_66 : decode cX7_known 66 = .ok (.istore 7, 2) := oc_54 (by decide +kernel)
theorem dX7_known_68 : decode cX7_known 68 = .ok (.aload_n 0, 1) := oc_42 (by decide +kernel)
theorem tw_62 : Cond.fieldLink RX7 15 "RingsUnder$Seas" "month" "[I" ∈ wsL_law := sg_3 _ (List.mem_of_getElem? (i := 14) rfl)
theorem dX7_known_69 : decode cX7_known 69 = .ok (.getfield 15, 3) := oc_180 (a := 0) (b := 15) (by decide +kernel)
theorem dX7_known_72 : decode cX7_known 72 = .ok (.iload 8, 2) := oc_21 (by decide +kernel)
theorem dX7_known_74 : decode cX7_known 74 = .ok (.iaload, 1) := oc_46 (by decide +kernel)
theorem dX7_known_75 : decode cX7_known 75 = .ok (.iload_n 2, 1) := oc_28 (by decide +kernel)
theorem dX7_known_76 : decode cX7_known 76 = .ok (.if_icmp .ne 15, 3) := oc_160 (a := 0) (b := 15) (by decide +kernel)
theorem dX7_known_91 : decode cX7_known 91 = .ok (.aload_n 0, 1) := oc_42 (by decide +kernel)
theorem dX7_known_92 : decode cX7_known 92 = .ok (.getfield 15, 3) := oc_180 (a := 0) (b := 15) (by decide +kernel)
theorem dX7_known_95 : decode cX7_known 95 = .ok (.iload 8, 2) := oc_21 (by decide +kernel)
theorem dX7_known_97 : decode cX7_known 97 = .ok (.iaload, 1) := oc_46 (by decide +kernel)
theorem dX7_known_98 : decode cX7_known 98 = .ok (.iload_n 2, 1) := oc_28 (by decide +kernel)
theorem dX7_known_99 : decode cX7_known 99 = .ok (.iconst 1, 1) := oc_4 (by decide +kernel)
theorem dX7_known_100 : decode cX7_known 100 = .ok (.isub, 1) := oc_100 (by decide +kernel)
theorem dX7_known_101 : decode cX7_known 101 = .ok (.if_icmp .ne 15, 3) := oc_160 (a := 0) (b := 15) (by decide +kernel)
theorem dX7_known_116 : decode cX7_known 116 = .ok (.aload_n 0, 1) := oc_42 (by decide +kernel)
theorem dX7_known_117 : decode cX7_known 117 = .ok (.getfield 15, 3) := oc_180 (a := 0) (b := 15) (by decide +kernel)
theorem dX7_known_120 : decode cX7_known 120 = .ok (.iload 8, 2) := oc_21 (by decide +kernel)
theorem dX7_known_122 : decode cX7_known 122 = .ok (.iaload, 1) := oc_46 (by decide +kernel)
theorem dX7_known_123 : decode cX7_known 123 = .ok (.iload_n 2, 1) := oc_28 (by decide +kernel)
theorem dX7_known_124 : decode cX7_known 124 = .ok (.iconst 1, 1) := oc_4 (by decide +kernel)
theorem dX7_known_125 : decode cX7_known 125 = .ok (.iadd, 1) := oc_96 (by decide +kernel)
theorem dX7_known_126 : decode cX7_known 126 = .ok (.if_icmp .ne 12, 3) := oc_160 (a := 0) (b := 12) (by decide +kernel)
theorem dX7_known_129 : decode cX7_known 129 = .ok (.aload_n 0, 1) := oc_42 (by decide +kernel)
theorem dX7_known_130 : decode cX7_known 130 = .ok (.getfield 18, 3) := oc_180 (a := 0) (b := 18) (by decide +kernel)
theorem dX7_known_133 : decode cX7_known 133 = .ok (.iload 8, 2) := oc_21 (by decide +kernel)
theorem dX7_known_135 : decode cX7_known 135 = .ok (.iaload, 1) := oc_46 (by decide +kernel)
theorem dX7_known_136 : decode cX7_known 136 = .ok (.istore 6, 2) := oc_54 (by decide +kernel)
theorem dX7_known_104 : decode cX7_known 104 = .ok (.aload_n 0, 1) := oc_42 (by decide +kernel)
theorem dX7_known_105 : decode cX7_known 105 = .ok (.getfield 18, 3) := oc_180 (a := 0) (b := 18) (by decide +kernel)
theorem dX7_known_108 : decode cX7_known 108 = .ok (.iload 8, 2) := oc_21 (by decide +kernel)
theorem dX7_known_110 : decode cX7_known 110 = .ok (.iaload, 1) := oc_46 (by decide +kernel)
theorem dX7_known_111 : decode cX7_known 111 = .ok (.istore 5, 2) := oc_54 (by decide +kernel)
theorem dX7_known_113 : decode cX7_known 113 = .ok (.goto 25, 3) := oc_167 (a := 0) (b := 25) (by decide +kernel)
theorem dX7_known_79 : decode cX7_known 79 = .ok (.aload_n 0, 1) := oc_42 (by decide +kernel)
theorem dX7_known_80 : decode cX7_known 80 = .ok (.getfield 18, 3) := oc_180 (a := 0) (b := 18) (by decide +kernel)
theorem dX7_known_83 : decode cX7_known 83 = .ok (.iload 8, 2) := oc_21 (by decide +kernel)
theorem dX7_known_85 : decode cX7_known 85 = .ok (.iaload, 1) := oc_46 (by decide +kernel)
theorem dX7_known_86 : decode cX7_known 86 = .ok (.istore 4, 2) := oc_54 (by decide +kernel)
theorem dX7_known_88 : decode cX7_known 88 = .ok (.goto 50, 3) := oc_167 (a := 0) (b := 50) (by decide +kernel)
theorem dX10_nature_0 : decode cX10_nature 0 = .ok (.aload_n 0, 1) := oc_42 (by decide +kernel)
theorem tw_457 : Cond.fieldLink RX10 67 "RingsUnder$World" "clock" "I" ∈ wsL_law := sg_20 _ (List.mem_of_getElem? (i := 1) rfl)
theorem dX10_nature_1 : decode cX10_nature 1 = .ok (.getfield 67, 3) := oc_180 (a := 0) (b := 67) (by decide +kernel)
theorem dX10_nature_4 : decode cX10_nature 4 = .ok (.sipush 600, 3) := oc_17 (a := 2) (b := 88) (by decide +kernel)
theorem dX10_nature_7 : decode cX10_nature 7 = .ok (.if_icmp .lt 4, 3) := oc_161 (a := 0) (b := 4) (by decide +kernel)
theorem dX10_nature_11 : decode cX10_nature 11 = .ok (.aload_n 0, 1) := oc_42 (by decide +kernel)
theorem dX10_nature_12 : decode cX10_nature 12 = .ok (.getfield 67, 3) := oc_180 (a := 0) (b := 67) (by decide +kernel)
theorem dX10_nature_15 : decode cX10_nature 15 = .ok (.bipush 12, 2) := oc_16 (a := 12) (by decide +kernel)
theorem dX10_nature_17 : decode cX10_nature 17 = .ok (.irem, 1) := oc_112 (by decide +kernel)
theorem dX10_nature_18 : decode cX10_nature 18 = .ok (.istore_n 2, 1) := oc_61 (by decide +kernel)
theorem dX10_nature_19 : decode cX10_nature 19 = .ok (.aload_n 0, 1) := oc_42 (by decide +kernel)
theorem tw_38 : Cond.fieldLink RX10 25 "RingsUnder$World" "seas" "LRingsUnder$Seas;" ∈ wsL_law := sg_2 _ (List.mem_of_getElem? (i := 14) rfl)
theorem dX10_nature_20 : decode cX10_nature 20 = .ok (.getfield 25, 3) := oc_180 (a := 0) (b := 25) (by decide +kernel)
theorem dX10_nature_23 : decode cX10_nature 23 = .ok (.iload_n 1, 1) := oc_27 (by decide +kernel)
theorem dX10_nature_24 : decode cX10_nature 24 = .ok (.aload_n 0, 1) := oc_42 (by decide +kernel)
theorem dX10_nature_25 : decode cX10_nature 25 = .ok (.getfield 67, 3) := oc_180 (a := 0) (b := 67) (by decide +kernel)
theorem dX10_nature_28 : decode cX10_nature 28 = .ok (.aload_n 0, 1) := oc_42 (by decide +kernel)
theorem dX10_nature_29 : decode cX10_nature 29 = .ok (.getfield 67, 3) := oc_180 (a := 0) (b := 67) (by decide +kernel)
theorem tw_1058 : Cond.methodLink RX10 153 yX7_known ∈ wsL_law := sg_45 _ (List.mem_of_getElem? (i := 2) rfl)
theorem tw_271 : Cond.instanceMethod yX7_known ∈ wsL_law := sg_12 _ (List.mem_of_getElem? (i := 7) rfl)
theorem tw_272 : Cond.selects RX7 yX7_known yX7_known ∈ wsL_law := sg_12 _ (List.mem_of_getElem? (i := 8) rfl)
theorem tw_273 : Cond.code yX7_known cX7_known 9 (some .int) ∈ wsL_law := sg_12 _ (List.mem_of_getElem? (i := 9) rfl)
theorem dX10_nature_32 : decode cX10_nature 32 = .ok (.invokevirtual 153, 3) := oc_182 (a := 0) (b := 153) (by decide +kernel)
theorem dX10_nature_35 : decode cX10_nature 35 = .ok (.istore_n 3, 1) := oc_62 (by decide +kernel)
theorem dX10_nature_36 : decode cX10_nature 36 = .ok (.aload_n 0, 1) := oc_42 (by decide +kernel)
theorem tw_42 : Cond.fieldLink RX10 32 "RingsUnder$World" "land" "LRingsUnder$Land;" ∈ wsL_law := sg_2 _ (List.mem_of_getElem? (i := 18) rfl)
theorem dX10_nature_37 : decode cX10_nature 37 = .ok (.getfield 32, 3) := oc_180 (a := 0) (b := 32) (by decide +kernel)
theorem dX10_nature_40 : decode cX10_nature 40 = .ok (.aload_n 0, 1) := oc_42 (by decide +kernel)
theorem dX10_nature_41 : decode cX10_nature 41 = .ok (.getfield 25, 3) := oc_180 (a := 0) (b := 25) (by decide +kernel)
theorem tw_1051 : Cond.fieldLink RX10 157 "RingsUnder$Seas" "warm" "[I" ∈ wsL_law := sg_44 _ (List.mem_of_getElem? (i := 19) rfl)
theorem dX10_nature_44 : decode cX10_nature 44 = .ok (.getfield 157, 3) := oc_180 (a := 0) (b := 157) (by decide +kernel)
theorem dX10_nature_47 : decode cX10_nature 47 = .ok (.iload_n 2, 1) := oc_28 (by decide +kernel)
theorem dX10_nature_48 : decode cX10_nature 48 = .ok (.iaload, 1) := oc_46 (by decide +kernel)
theorem dX10_nature_49 : decode cX10_nature 49 = .ok (.aload_n 0, 1) := oc_42 (by decide +kernel)
theorem dX10_nature_50 : decode cX10_nature 50 = .ok (.getfield 25, 3) := oc_180 (a := 0) (b := 25) (by decide +kernel)
theorem tw_1052 : Cond.fieldLink RX10 160 "RingsUnder$Seas" "bear" "I" ∈ wsL_law := sg_44 _ (List.mem_of_getElem? (i := 20) rfl)
theorem dX10_nature_53 : decode cX10_nature 53 = .ok (.getfield 160, 3) := oc_180 (a := 0) (b := 160) (by decide +kernel)
theorem tw_1059 : Cond.methodLink RX10 169 yX2_growReef ∈ wsL_law := sg_45 _ (List.mem_of_getElem? (i := 3) rfl)
theorem tw_1060 : Cond.instanceMethod yX2_growReef ∈ wsL_law := sg_45 _ (List.mem_of_getElem? (i := 4) rfl)
theorem tw_1061 : Cond.selects RX2 yX2_growReef yX2_growReef ∈ wsL_law := sg_45 _ (List.mem_of_getElem? (i := 5) rfl)
theorem tw_1062 : Cond.code yX2_growReef cX2_growReef 3 none ∈ wsL_law := sg_45 _ (List.mem_of_getElem? (i := 6) rfl)
theorem dX10_nature_77 : decode cX10_nature 77 = .ok (.invokevirtual 169, 3) := oc_182 (a := 0) (b := 169) (by decide +kernel)
theorem dX10_nature_80 : decode cX10_nature 80 = .ok (.aload_n 0, 1) := oc_42 (by decide +kernel)
theorem dX10_nature_81 : decode cX10_nature 81 = .ok (.getfield 32, 3) := oc_180 (a := 0) (b := 32) (by decide +kernel)
theorem dX10_nature_84 : decode cX10_nature 84 = .ok (.aload_n 0, 1) := oc_42 (by decide +kernel)
theorem dX10_nature_85 : decode cX10_nature 85 = .ok (.getfield 25, 3) := oc_180 (a := 0) (b := 25) (by decide +kernel)
theorem tw_1055 : Cond.fieldLink RX10 172 "RingsUnder$Seas" "drift" "[I" ∈ wsL_law := sg_44 _ (List.mem_of_getElem? (i := 23) rfl)
theorem dX10_nature_88 : decode cX10_nature 88 = .ok (.getfield 172, 3) := oc_180 (a := 0) (b := 172) (by decide +kernel)
theorem dX10_nature_91 : decode cX10_nature 91 = .ok (.iload_n 2, 1) := oc_28 (by decide +kernel)
theorem dX10_nature_92 : decode cX10_nature 92 = .ok (.iaload, 1) := oc_46 (by decide +kernel)
theorem tw_1065 : Cond.methodLink RX10 175 yX2_walk ∈ wsL_law := sg_45 _ (List.mem_of_getElem? (i := 9) rfl)
theorem tw_1066 : Cond.instanceMethod yX2_walk ∈ wsL_law := sg_45 _ (List.mem_of_getElem? (i := 10) rfl)
theorem tw_1067 : Cond.selects RX2 yX2_walk yX2_walk ∈ wsL_law := sg_45 _ (List.mem_of_getElem? (i := 11) rfl)
theorem tw_1068 : Cond.code yX2_walk cX2_walk 3 none ∈ wsL_law := sg_45 _ (List.mem_of_getElem? (i := 12) rfl)
theorem dX10_nature_93 : decode cX10_nature 93 = .ok (.invokevirtual 175, 3) := oc_182 (a := 0) (b := 175) (by decide +kernel)
theorem dX10_nature_96 : decode cX10_nature 96 = .ok (.aload_n 0, 1) := oc_42 (by decide +kernel)
theorem dX10_nature_97 : decode cX10_nature 97 = .ok (.getfield 32, 3) := oc_180 (a := 0) (b := 32) (by decide +kernel)
theorem dX10_nature_100 : decode cX10_nature 100 = .ok (.aload_n 0, 1) := oc_42 (by decide +kernel)
theorem dX10_nature_101 : decode cX10_nature 101 = .ok (.getfield 67, 3) := oc_180 (a := 0) (b := 67) (by decide +kernel)
theorem dX10_nature_104 : decode cX10_nature 104 = .ok (.iload_n 3, 1) := oc_29 (by decide +kernel)
theorem dX10_nature_105 : decode cX10_nature 105 = .ok (.aload_n 0, 1) := oc_42 (by decide +kernel)
theorem dX10_nature_106 : decode cX10_nature 106 = .ok (.getfield 25, 3) := oc_180 (a := 0) (b := 25) (by decide +kernel)
theorem tw_1056 : Cond.fieldLink RX10 178 "RingsUnder$Seas" "high" "[I" ∈ wsL_law := sg_45 _ (List.mem_of_getElem? (i := 0) rfl)
theorem dX10_nature_109 : decode cX10_nature 109 = .ok (.getfield 178, 3) := oc_180 (a := 0) (b := 178) (by decide +kernel)
theorem dX10_nature_112 : decode cX10_nature 112 = .ok (.iload_n 2, 1) := oc_28 (by decide +kernel)
theorem dX10_nature_113 : decode cX10_nature 113 = .ok (.iaload, 1) := oc_46 (by decide +kernel)
theorem dX10_nature_114 : decode cX10_nature 114 = .ok (.iadd, 1) := oc_96 (by decide +kernel)
theorem dX10_nature_115 : decode cX10_nature 115 = .ok (.iload_n 3, 1) := oc_29 (by decide +kernel)
theorem dX10_nature_116 : decode cX10_nature 116 = .ok (.aload_n 0, 1) := oc_42 (by decide +kernel)
theorem dX10_nature_117 : decode cX10_nature 117 = .ok (.getfield 25, 3) := oc_180 (a := 0) (b := 25) (by decide +kernel)
theorem tw_1057 : Cond.fieldLink RX10 181 "RingsUnder$Seas" "low" "[I" ∈ wsL_law := sg_45 _ (List.mem_of_getElem? (i := 1) rfl)
theorem dX10_nature_120 : decode cX10_nature 120 = .ok (.getfield 181, 3) := oc_180 (a := 0) (b := 181) (by decide +kernel)
theorem dX10_nature_123 : decode cX10_nature 123 = .ok (.iload_n 2, 1) := oc_28 (by decide +kernel)
theorem dX10_nature_124 : decode cX10_nature 124 = .ok (.iaload, 1) := oc_46 (by decide +kernel)
theorem dX10_nature_125 : decode cX10_nature 125 = .ok (.iadd, 1) := oc_96 (by decide +kernel)
theorem tw_1070 : Cond.methodLink RX10 184 yX2_tide ∈ wsL_law := sg_45 _ (List.mem_of_getElem? (i := 14) rfl)
theorem tw_1071 : Cond.instanceMethod yX2_tide ∈ wsL_law := sg_45 _ (List.mem_of_getElem? (i := 15) rfl)
theorem tw_1072 : Cond.selects RX2 yX2_tide yX2_tide ∈ wsL_law := sg_45 _ (List.mem_of_getElem? (i := 16) rfl)
theorem tw_1073 : Cond.code yX2_tide cX2_tide 8 none ∈ wsL_law := sg_45 _ (List.mem_of_getElem? (i := 17) rfl)
theorem dX10_nature_126 : decode cX10_nature 126 = .ok (.invokevirtual 184, 3) := oc_182 (a := 0) (b := 184) (by decide +kernel)
theorem dX10_nature_129 : decode cX10_nature 129 = .ok (.aload_n 0, 1) := oc_42 (by decide +kernel)
theorem dX10_nature_130 : decode cX10_nature 130 = .ok (.getfield 32, 3) := oc_180 (a := 0) (b := 32) (by decide +kernel)
theorem tw_1078 : Cond.methodLink RX10 188 yX2_giveUpBeds ∈ wsL_law := sg_45 _ (List.mem_of_getElem? (i := 22) rfl)
theorem tw_1079 : Cond.instanceMethod yX2_giveUpBeds ∈ wsL_law := sg_45 _ (List.mem_of_getElem? (i := 23) rfl)
theorem tw_1080 : Cond.selects RX2 yX2_giveUpBeds yX2_giveUpBeds ∈ wsL_law := sg_46 _ (List.mem_of_getElem? (i := 0) rfl)
theorem tw_1081 : Cond.code yX2_giveUpBeds cX2_giveUpBeds 2 none ∈ wsL_law := sg_46 _ (List.mem_of_getElem? (i := 1) rfl)
theorem dX10_nature_133 : decode cX10_nature 133 = .ok (.invokevirtual 188, 3) := oc_182 (a := 0) (b := 188) (by decide +kernel)
theorem dX10_nature_136 : decode cX10_nature 136 = .ok (.return_, 1) := oc_177 (by decide +kernel)
theorem dX10_nature_56 : decode cX10_nature 56 = .ok (.if_icmp .gt 13, 3) := oc_163 (a := 0) (b := 13) (by decide +kernel)
theorem dX10_nature_69 : decode cX10_nature 69 = .ok (.aload_n 0, 1) := oc_42 (by decide +kernel)
theorem dX10_nature_70 : decode cX10_nature 70 = .ok (.getfield 25, 3) := oc_180 (a := 0) (b := 25) (by decide +kernel)
theorem tw_1054 : Cond.fieldLink RX10 166 "RingsUnder$Seas" "die" "I" ∈ wsL_law := sg_44 _ (List.mem_of_getElem? (i := 22) rfl)
theorem dX10_nature_73 : decode cX10_nature 73 = .ok (.getfield 166, 3) := oc_180 (a := 0) (b := 166) (by decide +kernel)
theorem dX10_nature_76 : decode cX10_nature 76 = .ok (.ineg, 1) := oc_116 (by decide +kernel)
theorem dX10_nature_59 : decode cX10_nature 59 = .ok (.aload_n 0, 1) := oc_42 (by decide +kernel)
theorem dX10_nature_60 : decode cX10_nature 60 = .ok (.getfield 25, 3) := oc_180 (a := 0) (b := 25) (by decide +kernel)
theorem tw_1053 : Cond.fieldLink RX10 163 "RingsUnder$Seas" "grow" "I" ∈ wsL_law := sg_44 _ (List.mem_of_getElem? (i := 21) rfl)
theorem dX10_nature_63 : decode cX10_nature 63 = .ok (.getfield 163, 3) := oc_180 (a := 0) (b := 163) (by decide +kernel)
theorem dX10_nature_66 : decode cX10_nature 66 = .ok (.goto 11, 3) := oc_167 (a := 0) (b := 11) (by decide +kernel)
theorem dX10_nature_10 : decode cX10_nature 10 = .ok (.return_, 1) := oc_177 (by decide +kernel)
theorem dX2_countBeds_0 : decode cX2_countBeds 0 = .ok (.iload_n 2, 1) := oc_28 (by decide +kernel)
theorem dX2_countBeds_1 : decode cX2_countBeds 1 = .ok (.ifCond .lt 11, 3) := oc_155 (a := 0) (b := 11) (by decide +kernel)
theorem dX2_countBeds_4 : decode cX2_countBeds 4 = .ok (.iload_n 2, 1) := oc_28 (by decide +kernel)
theorem dX2_countBeds_5 : decode cX2_countBeds 5 = .ok (.iconst 5, 1) := oc_8 (by decide +kernel)
theorem dX2_countBeds_6 : decode cX2_countBeds 6 = .ok (.iadd, 1) := oc_96 (by decide +kernel)
theorem dX2_countBeds_7 : decode cX2_countBeds 7 = .ok (.aload_n 1, 1) := oc_43 (by decide +kernel)
theorem dX2_countBeds_8 : decode cX2_countBeds 8 = .ok (.arraylength, 1) := oc_190 (by decide +kernel)
theorem dX2_countBeds_9 : decode cX2_countBeds 9 = .ok (.if_icmp .le 4, 3) := oc_164 (a := 0) (b := 4) (by decide +kernel)
theorem dX2_countBeds_13 : decode cX2_countBeds 13 = .ok (.iconst 0, 1) := oc_3 (by decide +kernel)
theorem dX2_countBeds_14 : decode cX2_countBeds 14 = .ok (.istore_n 3, 1) := oc_62 (by decide +kernel)
theorem dX2_countBeds_15 : decode cX2_countBeds 15 = .ok (.iload_n 3, 1) := oc_29 (by decide +kernel)
theorem dX2_countBeds_16 : decode cX2_countBeds 16 = .ok (.iconst 5, 1) := oc_8 (by decide +kernel)
theorem dX2_countBeds_17 : decode cX2_countBeds 17 = .ok (.if_icmp .ge 15, 3) := oc_162 (a := 0) (b := 15) (by decide +kernel)
theorem dX2_countBeds_32 : decode cX2_countBeds 32 = .ok (.iconst 0, 1) := oc_3 (by decide +kernel)
theorem dX2_countBeds_33 : decode cX2_countBeds 33 = .ok (.istore_n 3, 1) := oc_62 (by decide +kernel)
theorem dX2_countBeds_34 : decode cX2_countBeds 34 = .ok (.iload_n 3, 1) := oc_29 (by decide +kernel)
theorem dX2_countBeds_35 : decode cX2_countBeds 35 = .ok (.aload_n 0, 1) := oc_42 (by decide +kernel)
theorem dX2_countBeds_36 : decode cX2_countBeds 36 = .ok (.getfield 73, 3) := oc_180 (a := 0) (b := 73) (by decide +kernel)
theorem dX2_countBeds_39 : decode cX2_countBeds 39 = .ok (.if_icmp .ge 28, 3) := oc_162 (a := 0) (b := 28) (by decide +kernel)
theorem dX2_countBeds_67 : decode cX2_countBeds 67 = .ok (.return_, 1) := oc_177 (by decide +kernel)
theorem dX2_countBeds_42 : decode cX2_countBeds 42 = .ok (.aload_n 1, 1) := oc_43 (by decide +kernel)
theorem dX2_countBeds_43 : decode cX2_countBeds 43 = .ok (.iload_n 2, 1) := oc_28 (by decide +kernel)
theorem dX2_countBeds_44 : decode cX2_countBeds 44 = .ok (.aload_n 0, 1) := oc_42 (by decide +kernel)
theorem dX2_countBeds_45 : decode cX2_countBeds 45 = .ok (.getfield 15, 3) := oc_180 (a := 0) (b := 15) (by decide +kernel)
theorem dX2_countBeds_48 : decode cX2_countBeds 48 = .ok (.iload_n 3, 1) := oc_29 (by decide +kernel)
theorem dX2_countBeds_49 : decode cX2_countBeds 49 = .ok (.iaload, 1) := oc_46 (by decide +kernel)
theorem dX2_countBeds_50 : decode cX2_countBeds 50 = .ok (.iadd, 1) := oc_96 (by decide +kernel)
theorem dX2_countBeds_51 : decode cX2_countBeds 51 = .ok (.dup2, 1) := oc_92 (by decide +kernel)
theorem dX2_countBeds_52 : decode cX2_countBeds 52 = .ok (.iaload, 1) := oc_46 (by decide +kernel)
theorem dX2_countBeds_53 : decode cX2_countBeds 53 = .ok (.aload_n 0, 1) := oc_42 (by decide +kernel)
theorem dX2_countBeds_54 : decode cX2_countBeds 54 = .ok (.getfield 37, 3) := oc_180 (a := 0) (b := 37) (by decide +kernel)
theorem dX2_countBeds_57 : decode cX2_countBeds 57 = .ok (.iload_n 3, 1) := oc_29 (by decide +kernel)
theorem dX2_countBeds_58 : decode cX2_countBeds 58 = .ok (.iaload, 1) := oc_46 (by decide +kernel)
theorem dX2_countBeds_59 : decode cX2_countBeds 59 = .ok (.iadd, 1) := oc_96 (by decide +kernel)
theorem dX2_countBeds_60 : decode cX2_countBeds 60 = .ok (.iastore, 1) := oc_79 (by decide +kernel)
theorem dX2_countBeds_61 : decode cX2_countBeds 61 = .ok (.iinc 3 1, 3) := oc_132 (b := 1) (by decide +kernel)
theorem dX2_countBeds_64 : decode cX2_countBeds 64 = .ok (.goto (-30), 3) := oc_167 (a := 255) (b := 226) (by decide +kernel)
theorem dX2_countBeds_20 : decode cX2_countBeds 20 = .ok (.aload_n 1, 1) := oc_43 (by decide +kernel)
theorem dX2_countBeds_21 : decode cX2_countBeds 21 = .ok (.iload_n 2, 1) := oc_28 (by decide +kernel)
theorem dX2_countBeds_22 : decode cX2_countBeds 22 = .ok (.iload_n 3, 1) := oc_29 (by decide +kernel)
theorem dX2_countBeds_23 : decode cX2_countBeds 23 = .ok (.iadd, 1) := oc_96 (by decide +kernel)
theorem dX2_countBeds_24 : decode cX2_countBeds 24 = .ok (.iconst 0, 1) := oc_3 (by decide +kernel)
theorem dX2_countBeds_25 : decode cX2_countBeds 25 = .ok (.iastore, 1) := oc_79 (by decide +kernel)
theorem dX2_countBeds_26 : decode cX2_countBeds 26 = .ok (.iinc 3 1, 3) := oc_132 (b := 1) (by decide +kernel)
theorem dX2_countBeds_29 : decode cX2_countBeds 29 = .ok (.goto (-14), 3) := oc_167 (a := 255) (b := 242) (by decide +kernel)
theorem dX5_foresee_0 : decode cX5_foresee 0 = .ok (.aload_n 1, 1) := oc_43 (by decide +kernel)
theorem tw_1446 : Cond.fieldLink RX5 68 "RingsUnder$World" "folk" "LRingsUnder$Folk;" ∈ wsL_law := sg_61 _ (List.mem_of_getElem? (i := 6) rfl)
theorem dX5_foresee_1 : decode cX5_foresee 1 = .ok (.getfield 68, 3) := oc_180 (a := 0) (b := 68) (by decide +kernel)
theorem tw_1450 : Cond.methodLink RX5 72 yX0_onRings ∈ wsL_law := sg_61 _ (List.mem_of_getElem? (i := 10) rfl)
theorem tw_1163 : Cond.instanceMethod yX0_onRings ∈ wsL_law := sg_49 _ (List.mem_of_getElem? (i := 11) rfl)
theorem tw_1164 : Cond.selects RX0 yX0_onRings yX0_onRings ∈ wsL_law := sg_49 _ (List.mem_of_getElem? (i := 12) rfl)
theorem tw_1165 : Cond.code yX0_onRings cX0_onRings 4 (some .long) ∈ wsL_law := sg_49 _ (List.mem_of_getElem? (i := 13) rfl)
theorem dX5_foresee_4 : decode cX5_foresee 4 = .ok (.invokevirtual 72, 3) := oc_182 (a := 0) (b := 72) (by decide +kernel)
theorem dX5_foresee_7 : decode cX5_foresee 7 = .ok (.lstore 4, 2) := oc_55 (by decide +kernel)
theorem dX5_foresee_9 : decode cX5_foresee 9 = .ok (.iconst 0, 1) := oc_3 (by decide +kernel)
theorem dX5_foresee_10 : decode cX5_foresee 10 = .ok (.istore 6, 2) := oc_54 (by decide +kernel)
theorem dX5_foresee_12 : decode cX5_foresee 12 = .ok (.iload 6, 2) := oc_21 (by decide +kernel)
theorem dX5_foresee_14 : decode cX5_foresee 14 = .ok (.iload_n 3, 1) := oc_29 (by decide +kernel)
theorem dX5_foresee_15 : decode cX5_foresee 15 = .ok (.if_icmp .ge 78, 3) := oc_162 (a := 0) (b := 78) (by decide +kernel)
theorem dX5_foresee_93 : decode cX5_foresee 93 = .ok (.return_, 1) := oc_177 (by decide +kernel)
theorem dX5_foresee_18 : decode cX5_foresee 18 = .ok (.aload_n 1, 1) := oc_43 (by decide +kernel)
theorem dX5_foresee_19 : decode cX5_foresee 19 = .ok (.iload_n 2, 1) := oc_28 (by decide +kernel)
theorem tw_1451 : Cond.methodLink RX5 78 yX10_nature ∈ wsL_law := sg_61 _ (List.mem_of_getElem? (i := 11) rfl)
theorem tw_1048 : Cond.instanceMethod yX10_nature ∈ wsL_law := sg_44 _ (List.mem_of_getElem? (i := 16) rfl)
theorem tw_1049 : Cond.selects RX10 yX10_nature yX10_nature ∈ wsL_law := sg_44 _ (List.mem_of_getElem? (i := 17) rfl)
theorem tw_15 : Cond.initialized RX10 ∈ wsL_law := sg_1 _ (List.mem_of_getElem? (i := 15) rfl)
theorem tw_1050 : Cond.code yX10_nature cX10_nature 4 none ∈ wsL_law := sg_44 _ (List.mem_of_getElem? (i := 18) rfl)
theorem dX5_foresee_20 : decode cX5_foresee 20 = .ok (.invokevirtual 78, 3) := oc_182 (a := 0) (b := 78) (by decide +kernel)
theorem dX5_foresee_23 : decode cX5_foresee 23 = .ok (.aload_n 0, 1) := oc_42 (by decide +kernel)
theorem tw_145 : Cond.fieldLink RX5 21 "RingsUnder$RingOrders" "dry" "[J" ∈ wsL_law := sg_7 _ (List.mem_of_getElem? (i := 1) rfl)
theorem dX5_foresee_24 : decode cX5_foresee 24 = .ok (.getfield 21, 3) := oc_180 (a := 0) (b := 21) (by decide +kernel)
theorem dX5_foresee_27 : decode cX5_foresee 27 = .ok (.iload 6, 2) := oc_21 (by decide +kernel)
theorem dX5_foresee_29 : decode cX5_foresee 29 = .ok (.aload_n 1, 1) := oc_43 (by decide +kernel)
theorem tw_1438 : Cond.fieldLink RX5 31 "RingsUnder$World" "land" "LRingsUnder$Land;" ∈ wsL_law := sg_60 _ (List.mem_of_getElem? (i := 22) rfl)
theorem dX5_foresee_30 : decode cX5_foresee 30 = .ok (.getfield 31, 3) := oc_180 (a := 0) (b := 31) (by decide +kernel)
theorem tw_1447 : Cond.fieldLink RX5 82 "RingsUnder$Land" "dry" "J" ∈ wsL_law := sg_61 _ (List.mem_of_getElem? (i := 7) rfl)
theorem dX5_foresee_33 : decode cX5_foresee 33 = .ok (.getfield 82, 3) := oc_180 (a := 0) (b := 82) (by decide +kernel)
theorem dX5_foresee_36 : decode cX5_foresee 36 = .ok (.lastore, 1) := oc_80 (by decide +kernel)
theorem dX5_foresee_37 : decode cX5_foresee 37 = .ok (.aload_n 1, 1) := oc_43 (by decide +kernel)
theorem dX5_foresee_38 : decode cX5_foresee 38 = .ok (.getfield 31, 3) := oc_180 (a := 0) (b := 31) (by decide +kernel)
theorem dX5_foresee_41 : decode cX5_foresee 41 = .ok (.aload_n 0, 1) := oc_42 (by decide +kernel)
theorem tw_146 : Cond.fieldLink RX5 25 "RingsUnder$RingOrders" "beds" "[I" ∈ wsL_law := sg_7 _ (List.mem_of_getElem? (i := 2) rfl)
theorem dX5_foresee_42 : decode cX5_foresee 42 = .ok (.getfield 25, 3) := oc_180 (a := 0) (b := 25) (by decide +kernel)
theorem dX5_foresee_45 : decode cX5_foresee 45 = .ok (.iload 6, 2) := oc_21 (by decide +kernel)
theorem dX5_foresee_47 : decode cX5_foresee 47 = .ok (.iconst 5, 1) := oc_8 (by decide +kernel)
theorem dX5_foresee_48 : decode cX5_foresee 48 = .ok (.imul, 1) := oc_104 (by decide +kernel)
theorem tw_1452 : Cond.methodLink RX5 85 yX2_countBeds ∈ wsL_law := sg_61 _ (List.mem_of_getElem? (i := 12) rfl)
theorem tw_1091 : Cond.instanceMethod yX2_countBeds ∈ wsL_law := sg_46 _ (List.mem_of_getElem? (i := 11) rfl)
theorem tw_1092 : Cond.selects RX2 yX2_countBeds yX2_countBeds ∈ wsL_law := sg_46 _ (List.mem_of_getElem? (i := 12) rfl)
theorem tw_1093 : Cond.code yX2_countBeds cX2_countBeds 4 none ∈ wsL_law := sg_46 _ (List.mem_of_getElem? (i := 13) rfl)
theorem dX5_foresee_49 : decode cX5_foresee 49 = .ok (.invokevirtual 85, 3) := oc_182 (a := 0) (b := 85) (by decide +kernel)
theorem dX5_foresee_52 : decode cX5_foresee 52 = .ok (.aload_n 0, 1) := oc_42 (by decide +kernel)
theorem tw_147 : Cond.fieldLink RX5 28 "RingsUnder$RingOrders" "may" "[J" ∈ wsL_law := sg_7 _ (List.mem_of_getElem? (i := 3) rfl)
theorem dX5_foresee_53 : decode cX5_foresee 53 = .ok (.getfield 28, 3) := oc_180 (a := 0) (b := 28) (by decide +kernel)
theorem dX5_foresee_56 : decode cX5_foresee 56 = .ok (.iload 6, 2) := oc_21 (by decide +kernel)
theorem dX5_foresee_58 : decode cX5_foresee 58 = .ok (.aload_n 1, 1) := oc_43 (by decide +kernel)
theorem tw_1448 : Cond.fieldLink RX5 89 "RingsUnder$World" "law" "LRingsUnder$Law;" ∈ wsL_law := sg_61 _ (List.mem_of_getElem? (i := 8) rfl)
theorem dX5_foresee_59 : decode cX5_foresee 59 = .ok (.getfield 89, 3) := oc_180 (a := 0) (b := 89) (by decide +kernel)
theorem dX5_foresee_62 : decode cX5_foresee 62 = .ok (.iconst 2, 1) := oc_5 (by decide +kernel)
theorem dX5_foresee_63 : decode cX5_foresee 63 = .ok (.aload_n 1, 1) := oc_43 (by decide +kernel)
theorem tw_1449 : Cond.fieldLink RX5 93 "RingsUnder$World" "clock" "I" ∈ wsL_law := sg_61 _ (List.mem_of_getElem? (i := 9) rfl)
theorem dX5_foresee_64 : decode cX5_foresee 64 = .ok (.getfield 93, 3) := oc_180 (a := 0) (b := 93) (by decide +kernel)
theorem dX5_foresee_67 : decode cX5_foresee 67 = .ok (.aload_n 1, 1) := oc_43 (by decide +kernel)
theorem dX5_foresee_68 : decode cX5_foresee 68 = .ok (.getfield 68, 3) := oc_180 (a := 0) (b := 68) (by decide +kernel)
theorem dX5_foresee_71 : decode cX5_foresee 71 = .ok (.lload 4, 2) := oc_22 (by decide +kernel)
theorem tw_1453 : Cond.methodLink RX5 96 yX3_whoIsSo ∈ wsL_law := sg_61 _ (List.mem_of_getElem? (i := 13) rfl)
theorem tw_964 : Cond.instanceMethod yX3_whoIsSo ∈ wsL_law := sg_41 _ (List.mem_of_getElem? (i := 4) rfl)
theorem tw_965 : Cond.selects RX3 yX3_whoIsSo yX3_whoIsSo ∈ wsL_law := sg_41 _ (List.mem_of_getElem? (i := 5) rfl)
theorem tw_966 : Cond.code yX3_whoIsSo cX3_whoIsSo 10 (some .long) ∈ wsL_law := sg_41 _ (List.mem_of_getElem? (i := 6) rfl)
theorem dX5_foresee_73 : decode cX5_foresee 73 = .ok (.invokevirtual 96, 3) := oc_182 (a := 0) (b := 96) (by decide +kernel)
theorem dX5_foresee_76 : decode cX5_foresee 76 = .ok (.lastore, 1) := oc_80 (by decide +kernel)
theorem dX5_foresee_77 : decode cX5_foresee 77 = .ok (.aload_n 1, 1) := oc_43 (by decide +kernel)
theorem dX5_foresee_78 : decode cX5_foresee 78 = .ok (.dup, 1) := oc_89 (by decide +kernel)
theorem dX5_foresee_79 : decode cX5_foresee 79 = .ok (.getfield 93, 3) := oc_180 (a := 0) (b := 93) (by decide +kernel)
theorem dX5_foresee_82 : decode cX5_foresee 82 = .ok (.iconst 1, 1) := oc_4 (by decide +kernel)
theorem dX5_foresee_83 : decode cX5_foresee 83 = .ok (.iadd, 1) := oc_96 (by decide +kernel)
theorem dX5_foresee_84 : decode cX5_foresee 84 = .ok (.putfield 93, 3) := oc_181 (a := 0) (b := 93) (by decide +kernel)
theorem dX5_foresee_87 : decode cX5_foresee 87 = .ok (.iinc 6 1, 3) := oc_132 (b := 1) (by decide +kernel)
theorem dX5_foresee_90 : decode cX5_foresee 90 = .ok (.goto (-78), 3) := oc_167 (a := 255) (b := 178) (by decide +kernel)
theorem dX5_lineUp_0 : decode cX5_lineUp 0 = .ok (.aload_n 0, 1) := oc_42 (by decide +kernel)
theorem dX5_lineUp_1 : decode cX5_lineUp 1 = .ok (.iconst 0, 1) := oc_3 (by decide +kernel)
theorem tw_1464 : Cond.fieldLink RX5 146 "RingsUnder$RingOrders" "queued" "I" ∈ wsL_law := sg_62 _ (List.mem_of_getElem? (i := 0) rfl)
theorem dX5_lineUp_2 : decode cX5_lineUp 2 = .ok (.putfield 146, 3) := oc_181 (a := 0) (b := 146) (by decide +kernel)
theorem dX5_lineUp_5 : decode cX5_lineUp 5 = .ok (.iconst 0, 1) := oc_3 (by decide +kernel)
theorem dX5_lineUp_6 : decode cX5_lineUp 6 = .ok (.istore_n 3, 1) := oc_62 (by decide +kernel)
theorem dX5_lineUp_7 : decode cX5_lineUp 7 = .ok (.iload_n 3, 1) := oc_29 (by decide +kernel)
theorem dX5_lineUp_8 : decode cX5_lineUp 8 = .ok (.iload_n 2, 1) := oc_28 (by decide +kernel)
theorem dX5_lineUp_9 : decode cX5_lineUp 9 = .ok (.if_icmp .ge 73, 3) := oc_162 (a := 0) (b := 73) (by decide +kernel)
theorem dX5_lineUp_82 : decode cX5_lineUp 82 = .ok (.return_, 1) := oc_177 (by decide +kernel)
theorem dX5_lineUp_12 : decode cX5_lineUp 12 = .ok (.iconst 0, 1) := oc_3 (by decide +kernel)
theorem dX5_lineUp_13 : decode cX5_lineUp 13 = .ok (.istore 4, 2) := oc_54 (by decide +kernel)
theorem dX5_lineUp_15 : decode cX5_lineUp 15 = .ok (.iload 4, 2) := oc_21 (by decide +kernel)
theorem dX5_lineUp_17 : decode cX5_lineUp 17 = .ok (.aload_n 1, 1) := oc_43 (by decide +kernel)
theorem tw_1470 : Cond.fieldLink RX5 153 "RingsUnder$Folk" "persons" "I" ∈ wsL_law := sg_62 _ (List.mem_of_getElem? (i := 6) rfl)
theorem dX5_lineUp_18 : decode cX5_lineUp 18 = .ok (.getfield 153, 3) := oc_180 (a := 0) (b := 153) (by decide +kernel)
theorem dX5_lineUp_76 : decode cX5_lineUp 76 = .ok (.iinc 3 1, 3) := oc_132 (b := 1) (by decide +kernel)
theorem dX5_lineUp_79 : decode cX5_lineUp 79 = .ok (.goto (-72), 3) := oc_167 (a := 255) (b := 184) (by decide +kernel)
theorem dX5_lineUp_21 : decode cX5_lineUp 21 = .ok (.if_icmp .ge 55, 3) := oc_162 (a := 0) (b := 55) (by decide +kernel)
theorem dX5_lineUp_24 : decode cX5_lineUp 24 = .ok (.aload_n 0, 1) := oc_42 (by decide +kernel)
theorem dX5_lineUp_25 : decode cX5_lineUp 25 = .ok (.getfield 146, 3) := oc_180 (a := 0) (b := 146) (by decide +kernel)
theorem dX5_lineUp_28 : decode cX5_lineUp 28 = .ok (.bipush 40, 2) := oc_16 (a := 40) (by decide +kernel)
theorem dX5_lineUp_30 : decode cX5_lineUp 30 = .ok (.if_icmp .ge 46, 3) := oc_162 (a := 0) (b := 46) (by decide +kernel)
theorem dX5_lineUp_33 : decode cX5_lineUp 33 = .ok (.aload_n 1, 1) := oc_43 (by decide +kernel)
theorem tw_1459 : Cond.fieldLink RX5 112 "RingsUnder$Folk" "place" "[I" ∈ wsL_law := sg_61 _ (List.mem_of_getElem? (i := 19) rfl)
theorem dX5_lineUp_34 : decode cX5_lineUp 34 = .ok (.getfield 112, 3) := oc_180 (a := 0) (b := 112) (by decide +kernel)
theorem dX5_lineUp_37 : decode cX5_lineUp 37 = .ok (.iload 4, 2) := oc_21 (by decide +kernel)
theorem dX5_lineUp_39 : decode cX5_lineUp 39 = .ok (.iaload, 1) := oc_46 (by decide +kernel)
theorem dX5_lineUp_40 : decode cX5_lineUp 40 = .ok (.aload_n 0, 1) := oc_42 (by decide +kernel)
theorem tw_143 : Cond.fieldLink RX5 15 "RingsUnder$RingOrders" "order" "[I" ∈ wsL_law := sg_6 _ (List.mem_of_getElem? (i := 23) rfl)
theorem dX5_lineUp_41 : decode cX5_lineUp 41 = .ok (.getfield 15, 3) := oc_180 (a := 0) (b := 15) (by decide +kernel)
theorem dX5_lineUp_44 : decode cX5_lineUp 44 = .ok (.iload_n 3, 1) := oc_29 (by decide +kernel)
theorem dX5_lineUp_45 : decode cX5_lineUp 45 = .ok (.iaload, 1) := oc_46 (by decide +kernel)
theorem dX5_lineUp_70 : decode cX5_lineUp 70 = .ok (.iinc 4 1, 3) := oc_132 (b := 1) (by decide +kernel)
theorem dX5_lineUp_73 : decode cX5_lineUp 73 = .ok (.goto (-58), 3) := oc_167 (a := 255) (b := 198) (by decide +kernel)
theorem dX5_lineUp_46 : decode cX5_lineUp 46 = .ok (.if_icmp .ne 24, 3) := oc_160 (a := 0) (b := 24) (by decide +kernel)
theorem dX5_lineUp_49 : decode cX5_lineUp 49 = .ok (.aload_n 0, 1) := oc_42 (by decide +kernel)
theorem tw_144 : Cond.fieldLink RX5 18 "RingsUnder$RingOrders" "queue" "[I" ∈ wsL_law := sg_7 _ (List.mem_of_getElem? (i := 0) rfl)
theorem dX5_lineUp_50 : decode cX5_lineUp 50 = .ok (.getfield 18, 3) := oc_180 (a := 0) (b := 18) (by decide +kernel)
theorem dX5_lineUp_53 : decode cX5_lineUp 53 = .ok (.aload_n 0, 1) := oc_42 (by decide +kernel)
theorem dX5_lineUp_54 : decode cX5_lineUp 54 = .ok (.getfield 146, 3) := oc_180 (a := 0) (b := 146) (by decide +kernel)
theorem dX5_lineUp_57 : decode cX5_lineUp 57 = .ok (.iload 4, 2) := oc_21 (by decide +kernel)
theorem dX5_lineUp_59 : decode cX5_lineUp 59 = .ok (.iastore, 1) := oc_79 (by decide +kernel)
theorem dX5_lineUp_60 : decode cX5_lineUp 60 = .ok (.aload_n 0, 1) := oc_42 (by decide +kernel)
theorem dX5_lineUp_61 : decode cX5_lineUp 61 = .ok (.dup, 1) := oc_89 (by decide +kernel)
theorem dX5_lineUp_62 : decode cX5_lineUp 62 = .ok (.getfield 146, 3) := oc_180 (a := 0) (b := 146) (by decide +kernel)
theorem dX5_lineUp_65 : decode cX5_lineUp 65 = .ok (.iconst 1, 1) := oc_4 (by decide +kernel)
theorem dX5_lineUp_66 : decode cX5_lineUp 66 = .ok (.iadd, 1) := oc_96 (by decide +kernel)
theorem dX5_lineUp_67 : decode cX5_lineUp 67 = .ok (.putfield 146, 3) := oc_181 (a := 0) (b := 146) (by decide +kernel)
theorem dX9_fillUp_0 : decode cX9_fillUp 0 = .ok (.iconst 0, 1) := oc_3 (by decide +kernel)
theorem dX9_fillUp_1 : decode cX9_fillUp 1 = .ok (.istore 5, 2) := oc_54 (by decide +kernel)
theorem dX9_fillUp_3 : decode cX9_fillUp 3 = .ok (.iload 5, 2) := oc_21 (by decide +kernel)
theorem dX9_fillUp_5 : decode cX9_fillUp 5 = .ok (.iload_n 1, 1) := oc_27 (by decide +kernel)
theorem dX9_fillUp_6 : decode cX9_fillUp 6 = .ok (.if_icmp .ge 106, 3) := oc_162 (a := 0) (b := 106) (by decide +kernel)
theorem dX9_fillUp_112 : decode cX9_fillUp 112 = .ok (.return_, 1) := oc_177 (by decide +kernel)
theorem dX9_fillUp_9 : decode cX9_fillUp 9 = .ok (.aload_n 0, 1) := oc_42 (by decide +kernel)
theorem dX9_fillUp_10 : decode cX9_fillUp 10 = .ok (.iload 5, 2) := oc_21 (by decide +kernel)
theorem dX9_fillUp_12 : decode cX9_fillUp 12 = .ok (.invokevirtual 25, 3) := oc_182 (a := 0) (b := 25) (by decide +kernel)
theorem dX9_fillUp_106 : decode cX9_fillUp 106 = .ok (.iinc 5 1, 3) := oc_132 (b := 1) (by decide +kernel)
theorem dX9_fillUp_109 : decode cX9_fillUp 109 = .ok (.goto (-106), 3) := oc_167 (a := 255) (b := 150) (by decide +kernel)
theorem dX9_fillUp_15 : decode cX9_fillUp 15 = .ok (.ifCond .ne 6, 3) := oc_154 (a := 0) (b := 6) (by decide +kernel)
theorem dX9_fillUp_21 : decode cX9_fillUp 21 = .ok (.lload_n 2, 1) := oc_32 (by decide +kernel)
theorem dX9_fillUp_22 : decode cX9_fillUp 22 = .ok (.iload 5, 2) := oc_21 (by decide +kernel)
theorem dX9_fillUp_24 : decode cX9_fillUp 24 = .ok (.invokestatic 29, 3) := oc_184 (a := 0) (b := 29) (by decide +kernel)
theorem dX9_fillUp_27 : decode cX9_fillUp 27 = .ok (.ifCond .eq 57, 3) := oc_153 (a := 0) (b := 57) (by decide +kernel)
theorem dX9_fillUp_84 : decode cX9_fillUp 84 = .ok (.aload_n 0, 1) := oc_42 (by decide +kernel)
theorem dX9_fillUp_85 : decode cX9_fillUp 85 = .ok (.getfield 18, 3) := oc_180 (a := 0) (b := 18) (by decide +kernel)
theorem dX9_fillUp_88 : decode cX9_fillUp 88 = .ok (.iload 5, 2) := oc_21 (by decide +kernel)
theorem dX9_fillUp_90 : decode cX9_fillUp 90 = .ok (.bipush 100, 2) := oc_16 (a := 100) (by decide +kernel)
theorem dX9_fillUp_92 : decode cX9_fillUp 92 = .ok (.aload_n 0, 1) := oc_42 (by decide +kernel)
theorem dX9_fillUp_93 : decode cX9_fillUp 93 = .ok (.getfield 18, 3) := oc_180 (a := 0) (b := 18) (by decide +kernel)
theorem dX9_fillUp_96 : decode cX9_fillUp 96 = .ok (.iload 5, 2) := oc_21 (by decide +kernel)
theorem dX9_fillUp_98 : decode cX9_fillUp 98 = .ok (.iaload, 1) := oc_46 (by decide +kernel)
theorem dX9_fillUp_99 : decode cX9_fillUp 99 = .ok (.bipush 10, 2) := oc_16 (a := 10) (by decide +kernel)
theorem dX9_fillUp_101 : decode cX9_fillUp 101 = .ok (.iadd, 1) := oc_96 (by decide +kernel)
theorem tw_1087 : Cond.methodLink RX9 33 Lib.Math.min.name ∈ wsL_law := sg_46 _ (List.mem_of_getElem? (i := 7) rfl)
theorem dX9_fillUp_102 : decode cX9_fillUp 102 = .ok (.invokestatic 33, 3) := oc_184 (a := 0) (b := 33) (by decide +kernel)
theorem dX9_fillUp_105 : decode cX9_fillUp 105 = .ok (.iastore, 1) := oc_79 (by decide +kernel)
theorem dX9_fillUp_30 : decode cX9_fillUp 30 = .ok (.aload_n 0, 1) := oc_42 (by decide +kernel)
theorem dX9_fillUp_31 : decode cX9_fillUp 31 = .ok (.getfield 15, 3) := oc_180 (a := 0) (b := 15) (by decide +kernel)
theorem dX9_fillUp_34 : decode cX9_fillUp 34 = .ok (.iload 5, 2) := oc_21 (by decide +kernel)
theorem dX9_fillUp_36 : decode cX9_fillUp 36 = .ok (.sipush 10000, 3) := oc_17 (a := 39) (b := 16) (by decide +kernel)
theorem dX9_fillUp_39 : decode cX9_fillUp 39 = .ok (.aload_n 0, 1) := oc_42 (by decide +kernel)
theorem dX9_fillUp_40 : decode cX9_fillUp 40 = .ok (.getfield 15, 3) := oc_180 (a := 0) (b := 15) (by decide +kernel)
theorem dX9_fillUp_43 : decode cX9_fillUp 43 = .ok (.iload 5, 2) := oc_21 (by decide +kernel)
theorem dX9_fillUp_45 : decode cX9_fillUp 45 = .ok (.iaload, 1) := oc_46 (by decide +kernel)
theorem dX9_fillUp_46 : decode cX9_fillUp 46 = .ok (.iload 4, 2) := oc_21 (by decide +kernel)
theorem dX9_fillUp_48 : decode cX9_fillUp 48 = .ok (.aload_n 0, 1) := oc_42 (by decide +kernel)
theorem dX9_fillUp_49 : decode cX9_fillUp 49 = .ok (.getfield 9, 3) := oc_180 (a := 0) (b := 9) (by decide +kernel)
theorem dX9_fillUp_52 : decode cX9_fillUp 52 = .ok (.iload 5, 2) := oc_21 (by decide +kernel)
theorem dX9_fillUp_54 : decode cX9_fillUp 54 = .ok (.iaload, 1) := oc_46 (by decide +kernel)
theorem dX9_fillUp_55 : decode cX9_fillUp 55 = .ok (.imul, 1) := oc_104 (by decide +kernel)
theorem dX9_fillUp_56 : decode cX9_fillUp 56 = .ok (.iadd, 1) := oc_96 (by decide +kernel)
theorem dX9_fillUp_57 : decode cX9_fillUp 57 = .ok (.invokestatic 33, 3) := oc_184 (a := 0) (b := 33) (by decide +kernel)
theorem dX9_fillUp_60 : decode cX9_fillUp 60 = .ok (.iastore, 1) := oc_79 (by decide +kernel)
theorem dX9_fillUp_61 : decode cX9_fillUp 61 = .ok (.aload_n 0, 1) := oc_42 (by decide +kernel)
theorem dX9_fillUp_62 : decode cX9_fillUp 62 = .ok (.getfield 18, 3) := oc_180 (a := 0) (b := 18) (by decide +kernel)
theorem dX9_fillUp_65 : decode cX9_fillUp 65 = .ok (.iload 5, 2) := oc_21 (by decide +kernel)
theorem dX9_fillUp_67 : decode cX9_fillUp 67 = .ok (.iconst 0, 1) := oc_3 (by decide +kernel)
theorem dX9_fillUp_68 : decode cX9_fillUp 68 = .ok (.aload_n 0, 1) := oc_42 (by decide +kernel)
theorem dX9_fillUp_69 : decode cX9_fillUp 69 = .ok (.getfield 18, 3) := oc_180 (a := 0) (b := 18) (by decide +kernel)
theorem dX9_fillUp_72 : decode cX9_fillUp 72 = .ok (.iload 5, 2) := oc_21 (by decide +kernel)
theorem dX9_fillUp_74 : decode cX9_fillUp 74 = .ok (.iaload, 1) := oc_46 (by decide +kernel)
theorem dX9_fillUp_75 : decode cX9_fillUp 75 = .ok (.iconst 1, 1) := oc_4 (by decide +kernel)
theorem dX9_fillUp_76 : decode cX9_fillUp 76 = .ok (.isub, 1) := oc_100 (by decide +kernel)
theorem tw_1088 : Cond.methodLink RX9 39 Lib.Math.max.name ∈ wsL_law := sg_46 _ (List.mem_of_getElem? (i := 8) rfl)
theorem dX9_fillUp_77 : decode cX9_fillUp 77 = .ok (.invokestatic 39, 3) := oc_184 (a := 0) (b := 39) (by decide +kernel)
theorem dX9_fillUp_80 : decode cX9_fillUp 80 = .ok (.iastore, 1) := oc_79 (by decide +kernel)
theorem dX9_fillUp_81 : decode cX9_fillUp 81 = .ok (.goto 25, 3) := oc_167 (a := 0) (b := 25) (by decide +kernel)
theorem dX9_fillUp_18 : decode cX9_fillUp 18 = .ok (.goto 88, 3) := oc_167 (a := 0) (b := 88) (by decide +kernel)
set_option maxHeartbeats 4000000 in
set_option maxRecDepth 100000 in
theorem s_X3_clauseBy (l : Launch) (D : va_G) (t : pq_T) (σ : pq_S) (I : Nat → Nat → Int32) (J : Nat → Nat → Int64) (ri : Nat → Nat → Int32) (rj : Nat → Nat → Int64) (rq : Nat → Nat → Option Nat) (sz : Nat) (tg : Nat → Nat) (hSH : SH σ tg) (hG0 : GS tg σ I ri rq) (this : Nat) (a0 : Int32) (a1 : Int32) (a2 : Nat) (a3 : Int32) (hL_this : this ∈ σ.1) (hK_this : σ.2.1 this = 3) (hL_a2 : a2 ∈ σ.1) (hK_a2 : σ.2.1 a2 = 0) (h_a3 : rg a3 0 39) : MetI l yX3_clauseBy (wa yX3_clauseBy cX3_clauseBy 6 (some .int)) ({ frames := 4, cells := 0, slots := 0, locals := 114 }) [.ref this, .int a0, .int a1, .ref a2, .int a3] D t σ (I, J, ri, rj, rq) sz 0 0 (fun (r : Int32) (u : pq_S × pq_M) => ∃ ri' : Nat → Nat → Int32, u = (σ, I, J, ri', rj, rq) ∧ GX [] tg σ I ri rj I ri' rj rq ∧ rg r (-1) 19) := by
  refine Met.ofW (cc := cX3_clauseBy) (maxL := 6) (ret := (some .int)) (by decide) rfl ?_
  intro p e s m args below meth c s₁ B hml hv
  obtain ⟨rfl, hsz, hP, hK, hD0, hN⟩ := hv
  have hx := B.exec
  have hb := B.bytes
  have hr := B.returns
  have hts := atoms_spec (ws := (wa yX3_clauseBy cX3_clauseBy 6 (some .int))) B.pre
  have hown : s.vm.findClass RX3 = some m.cls := findClass_of_methodNamed B.named
  have hlocks := B.notSynchronized
  subst hsz
  have hD : va_D (pq_B t σ (I, J, ri, rj, rq) s.heap.size) (pq_P t σ (I, J, ri, rj, rq)) := hD0.self
  generalize hAe : pq_B t σ (I, J, ri, rj, rq) s.heap.size = A at hD ⊢
  have hA : ∀ q : Nat, s.heap.size ≤ q → A q := fun q h => by rw [← hAe]; exact Or.inr h
  have hS : va_S A s.heap s.heap [] := va_S.rf
  have hG : GX [] tg σ I ri rj I ri rj rq := ⟨hG0, fun _ _ _ => rfl, fun _ _ _ _ _ => rfl, fun _ _ _ _ _ => rfl⟩
  have hl := lv_entry ([.ref this, .int a0, .int a1, .ref a2, .int a3]) (n := 6) (Nat.le_of_ble_eq_true rfl)
  rw [lg_entry_eq]
  generalize (lg_sl ([.ref this, .int a0, .int a1, .ref a2, .int a3]) ++ List.replicate (6 - (lg_sl ([.ref this, .int a0, .int a1, .ref a2, .int a3])).length) Slot.unset).toArray = ls at hl ⊢
  have hl : lv_has ls 6 [(0, .ref this), (1, .int a0), (2, .int a1), (3, .ref a2), (4, .int a3)] := hl
  refine q_gen (fun Q hQ => ?_)
  have go : ∀ (H : Heap) (locs : List Loc) (ls : Array Slot), va_P D vwCl (pq_P t σ (I, J, ri, rj, rq)) H → va_D A (pq_P t σ (I, J, ri, rj, rq)) → va_S A s.heap H locs → lv_has ls 6 [(0, .ref this), (1, .int a0), (2, .int a1), (3, .ref a2), (4, .int a3)] → W p l e ({ frames := 4, cells := 0, slots := 0, locals := 114 } : Room) s m (List.toArray ([.ref this, .int a0, .int a1, .ref a2, .int a3] : List Value)) below meth c H locs 0 0 Q (F0 m 0 ls []) := by
    intro H locs ls hP hD hS hl
    refine lv_aload_n hx hb dX3_clauseBy_0 rfl (lv_at hl 0 rfl) ?_
    refine lv_iload_n hx hb dX3_clauseBy_1 rfl (lv_at hl 1 rfl) ?_
    refine lv_iload_n hx hb dX3_clauseBy_2 rfl (lv_at hl 2 rfl) ?_
    refine pk_q (va_runV (As := [.int a0, .int a1]) (rest := []) ⟨hx, hb, hml, hown, hts⟩ (s_X3_textFor l D t σ I J ri rj rq H.size tg hSH hG.1 this a0 a1 hL_this hK_this) (cwV 2 hts (tw_V tw_469 tw_470 tw_471 tw_49 tw_472) rfl rfl rfl cv_yX3_textFor_2 ⟨Nat.le_of_ble_eq_true rfl, Nat.le_of_ble_eq_true rfl⟩) ⟨pq_blind, pq_recv hK hP hL_this hK_this (by decide) rfl, pq_pre hK hN hP hD⟩ rfl rfl hl.1 rfl (lv_room (Nat.le_of_ble_eq_true rfl)) dX3_clauseBy_3 ⟨Nat.le_of_ble_eq_true rfl, Nat.le_of_ble_eq_true rfl⟩) hD hS hA (fun x_1 σ1 μ1 H locs hw_2 hP hD hS => ?_)
    obtain ⟨hu_3, hr_5⟩ := hw_2
    obtain ⟨hu_3a, hu_3b⟩ := Prod.mk.inj hu_3
    rw [hu_3a, hu_3b] at hP hD
    rcases hr_5 with rfl | ⟨w_x_1, rfl, hL_w_x_1, hK_w_x_1⟩
    · refine lv_astoreN (lv' := [(5, .null), (0, .ref this), (1, .int a0), (2, .int a1), (3, .ref a2), (4, .int a3)]) hx hb dX3_clauseBy_6 hl (by decide) rfl (fun ls hl => ?_)
      refine lv_aloadN hx hb dX3_clauseBy_8 (lv_at hl 0 rfl) ?_
      refine lv_ifnonnullN hx hb dX3_clauseBy_10 ?_
      refine lv_iconst (v := (-1)) hx hb dX3_clauseBy_13 (by decide) ?_
      subst hQ
      exact W.iret (v := (-1)) hx hb hr (fun t1 ht hW => ⟨⟨(-1), (σ, I, J, ri, rj, rq), rfl, ⟨ri, rfl, hG, (rg_w (rg_k (-1 : Int32) (-1) rfl) (by decide))⟩, by rw [ht]; exact hP, va_K.moved hW.alike hK, hD⟩, hS.F ht⟩) hS.2.2 dX3_clauseBy_14
    · refine lv_astore (lv' := [(5, .ref w_x_1), (0, .ref this), (1, .int a0), (2, .int a1), (3, .ref a2), (4, .int a3)]) hx hb dX3_clauseBy_6 hl (by decide) rfl (fun ls hl => ?_)
      refine lv_aload hx hb dX3_clauseBy_8 (lv_at hl 0 rfl) ?_
      refine lv_ifnonnull (tgt := 15) hx hb dX3_clauseBy_10 (by decide) ?_
      refine lv_aload_n hx hb dX3_clauseBy_15 rfl (lv_at hl 1 rfl) ?_
      refine lv_aload_n hx hb dX3_clauseBy_16 rfl (lv_at hl 4 rfl) ?_
      refine lv_iload hx hb dX3_clauseBy_17 (lv_at hl 5 rfl) ?_
      refine lv_iload_n hx hb dX3_clauseBy_19 rfl (lv_at hl 3 rfl) ?_
      refine lv_iconst (v := 0) hx hb dX3_clauseBy_20 (by decide) ?_
      refine pk_v (va_runV (As := [.ref a2, .int a3, .int a1, .int 0]) (rest := []) ⟨hx, hb, hml, hown, hts⟩ (s_X3_nameAll l D t σ I J ri rj rq H.size tg hSH hG.1 this a2 a3 a1 (0 : Int32) hL_this hK_this hL_a2 hK_a2 (rg_w h_a3 (by decide))) (cwV 4 hts (tw_V tw_565 tw_566 tw_567 tw_49 tw_568) rfl rfl rfl cv_yX3_nameAll_4 ⟨Nat.le_of_ble_eq_true rfl, Nat.le_of_ble_eq_true rfl⟩) ⟨pq_blind, pq_recv hK hP hL_this hK_this (by decide) rfl, pq_pre hK hN hP hD⟩ rfl rfl hl.1 rfl (lv_room (Nat.le_of_ble_eq_true rfl)) dX3_clauseBy_21 ⟨Nat.le_of_ble_eq_true rfl, Nat.le_of_ble_eq_true rfl⟩) hD hS hA (fun σ1 μ1 H locs hw_7 hP hD hS => ?_)
      obtain ⟨ri_8, hu_9, hg_10⟩ := hw_7
      obtain ⟨hu_9a, hu_9b⟩ := Prod.mk.inj hu_9
      rw [hu_9a, hu_9b] at hP hD
      have hG := GX.tr hG hg_10 (by decide)
      refine lv_aload hx hb dX3_clauseBy_24 (lv_at hl 0 rfl) ?_
      refine lv_iload_n hx hb dX3_clauseBy_26 rfl (lv_at hl 2 rfl) ?_
      refine lv_aload_n hx hb dX3_clauseBy_27 rfl (lv_at hl 1 rfl) ?_
      obtain ⟨w_12, hR_w_12, hL_w_12, hK_w_12, hN_w_12, hT_w_12⟩ := sh_a hSH 102 (ci := 3) (kd := 13) (len := 6) rfl (by decide) hL_this hK_this
      refine pg_f (v := .ref w_12) (C := RX3) (T := TX3) (N := 8) hx hb hts (tw_i inlX3) hown hK hP hL_this hK_this (by decide) rfl 6 (by decide) (hts _ (tw_c tw_132)) (pq_hv rfl hR_w_12) dX3_clauseBy_28 ?_
      refine lv_aload_n hx hb dX3_clauseBy_31 rfl (lv_at hl 1 rfl) ?_
      obtain ⟨w_13, hR_w_13, hL_w_13, hK_w_13, hN_w_13, hT_w_13⟩ := sh_a hSH 103 (ci := 3) (kd := 13) (len := 40) rfl (by decide) hL_this hK_this
      refine pg_f (v := .ref w_13) (C := RX3) (T := TX3) (N := 8) hx hb hts (tw_i inlX3) hown hK hP hL_this hK_this (by decide) rfl 7 (by decide) (hts _ (tw_c tw_133)) (pq_hv rfl hR_w_13) dX3_clauseBy_32 ?_
      refine pk_i (va_runV (As := [.int a0, .ref w_12, .ref w_13]) (rest := []) ⟨hx, hb, hml, hown, hts⟩ (s_X8_firstSo_102_103 l D t σ I J ri_8 rj rq H.size tg hSH hG.1 w_x_1 a0 w_12 w_13 hL_w_x_1 hK_w_x_1 hL_w_12 hK_w_12 hN_w_12 hT_w_12 hL_w_13 hK_w_13 hN_w_13 hT_w_13) (cwV 3 hts (tw_V tw_570 tw_571 tw_572 tw_159 tw_573) rfl rfl rfl cv_yX8_firstSo_3 ⟨Nat.le_of_ble_eq_true rfl, Nat.le_of_ble_eq_true rfl⟩) ⟨pq_blind, pq_recv hK hP hL_w_x_1 hK_w_x_1 (by decide) rfl, pq_pre hK hN hP hD⟩ rfl rfl hl.1 rfl (lv_room (Nat.le_of_ble_eq_true rfl)) dX3_clauseBy_35 ⟨Nat.le_of_ble_eq_true rfl, Nat.le_of_ble_eq_true rfl⟩) hD hS hA (fun x_14 σ1 μ1 H locs hw_15 hP hD hS => ?_)
      obtain ⟨ri_16, hu_17, hg_18, hr_19⟩ := hw_15
      obtain ⟨hu_17a, hu_17b⟩ := Prod.mk.inj hu_17
      rw [hu_17a, hu_17b] at hP hD
      have hG := GX.tr hG hg_18 (by decide)
      subst hQ
      exact W.iret (v := x_14) hx hb hr (fun t1 ht hW => ⟨⟨x_14, (σ, I, J, ri_16, rj, rq), rfl, ⟨ri_16, rfl, hG, (rg_w hr_19 (by decide))⟩, by rw [ht]; exact hP, va_K.moved hW.alike hK, hD⟩, hS.F ht⟩) hS.2.2 dX3_clauseBy_38
  exact go _ _ _ hP hD hS hl

set_option maxHeartbeats 4000000 in
set_option maxRecDepth 100000 in
theorem s_X3_lastsFor (l : Launch) (D : va_G) (t : pq_T) (σ : pq_S) (I : Nat → Nat → Int32) (J : Nat → Nat → Int64) (ri : Nat → Nat → Int32) (rj : Nat → Nat → Int64) (rq : Nat → Nat → Option Nat) (sz : Nat) (tg : Nat → Nat) (hSH : SH σ tg) (hG0 : GS tg σ I ri rq) (this : Nat) (a0 : Int32) (a1 : Nat) (a2 : Int32) (a3 : Int32) (hL_this : this ∈ σ.1) (hK_this : σ.2.1 this = 3) (hL_a1 : a1 ∈ σ.1) (hK_a1 : σ.2.1 a1 = 0) (h_a2 : rg a2 0 39) : MetI l yX3_lastsFor (wa yX3_lastsFor cX3_lastsFor 6 (some .boolean)) ({ frames := 4, cells := 0, slots := 0, locals := 114 }) [.ref this, .int a0, .ref a1, .int a2, .int a3] D t σ (I, J, ri, rj, rq) sz 0 0 (fun (r : Int32) (u : pq_S × pq_M) => ∃ ri' : Nat → Nat → Int32, u = (σ, I, J, ri', rj, rq) ∧ GX [] tg σ I ri rj I ri' rj rq ∧ ((r = 1 ∧ True) ∨ (r = 0 ∧ True))) := by
  refine Met.ofW (cc := cX3_lastsFor) (maxL := 6) (ret := (some .boolean)) (by decide) rfl ?_
  intro p e s m args below meth c s₁ B hml hv
  obtain ⟨rfl, hsz, hP, hK, hD0, hN⟩ := hv
  have hx := B.exec
  have hb := B.bytes
  have hr := B.returns
  have hts := atoms_spec (ws := (wa yX3_lastsFor cX3_lastsFor 6 (some .boolean))) B.pre
  have hown : s.vm.findClass RX3 = some m.cls := findClass_of_methodNamed B.named
  have hlocks := B.notSynchronized
  subst hsz
  have hD : va_D (pq_B t σ (I, J, ri, rj, rq) s.heap.size) (pq_P t σ (I, J, ri, rj, rq)) := hD0.self
  generalize hAe : pq_B t σ (I, J, ri, rj, rq) s.heap.size = A at hD ⊢
  have hA : ∀ q : Nat, s.heap.size ≤ q → A q := fun q h => by rw [← hAe]; exact Or.inr h
  have hS : va_S A s.heap s.heap [] := va_S.rf
  have hG : GX [] tg σ I ri rj I ri rj rq := ⟨hG0, fun _ _ _ => rfl, fun _ _ _ _ _ => rfl, fun _ _ _ _ _ => rfl⟩
  have hl := lv_entry ([.ref this, .int a0, .ref a1, .int a2, .int a3]) (n := 6) (Nat.le_of_ble_eq_true rfl)
  rw [lg_entry_eq]
  generalize (lg_sl ([.ref this, .int a0, .ref a1, .int a2, .int a3]) ++ List.replicate (6 - (lg_sl ([.ref this, .int a0, .ref a1, .int a2, .int a3])).length) Slot.unset).toArray = ls at hl ⊢
  have hl : lv_has ls 6 [(0, .ref this), (1, .int a0), (2, .ref a1), (3, .int a2), (4, .int a3)] := hl
  refine q_gen (fun Q hQ => ?_)
  have go : ∀ (H : Heap) (locs : List Loc) (ls : Array Slot), va_P D vwCl (pq_P t σ (I, J, ri, rj, rq)) H → va_D A (pq_P t σ (I, J, ri, rj, rq)) → va_S A s.heap H locs → lv_has ls 6 [(0, .ref this), (1, .int a0), (2, .ref a1), (3, .int a2), (4, .int a3)] → W p l e ({ frames := 4, cells := 0, slots := 0, locals := 114 } : Room) s m (List.toArray ([.ref this, .int a0, .ref a1, .int a2, .int a3] : List Value)) below meth c H locs 0 0 Q (F0 m 0 ls []) := by
    intro H locs ls hP hD hS hl
    refine lv_aload_n hx hb dX3_lastsFor_0 rfl (lv_at hl 0 rfl) ?_
    refine lv_iconst (v := 0) hx hb dX3_lastsFor_1 (by decide) ?_
    refine lv_iload_n hx hb dX3_lastsFor_2 rfl (lv_at hl 1 rfl) ?_
    refine pk_q (va_runV (As := [.int 0, .int a0]) (rest := []) ⟨hx, hb, hml, hown, hts⟩ (s_X3_textFor l D t σ I J ri rj rq H.size tg hSH hG.1 this (0 : Int32) a0 hL_this hK_this) (cwV 2 hts (tw_V tw_469 tw_470 tw_471 tw_49 tw_472) rfl rfl rfl cv_yX3_textFor_2 ⟨Nat.le_of_ble_eq_true rfl, Nat.le_of_ble_eq_true rfl⟩) ⟨pq_blind, pq_recv hK hP hL_this hK_this (by decide) rfl, pq_pre hK hN hP hD⟩ rfl rfl hl.1 rfl (lv_room (Nat.le_of_ble_eq_true rfl)) dX3_lastsFor_3 ⟨Nat.le_of_ble_eq_true rfl, Nat.le_of_ble_eq_true rfl⟩) hD hS hA (fun x_1 σ1 μ1 H locs hw_2 hP hD hS => ?_)
    obtain ⟨hu_3, hr_5⟩ := hw_2
    obtain ⟨hu_3a, hu_3b⟩ := Prod.mk.inj hu_3
    rw [hu_3a, hu_3b] at hP hD
    rcases hr_5 with rfl | ⟨w_x_1, rfl, hL_w_x_1, hK_w_x_1⟩
    · refine lv_astoreN (lv' := [(5, .null), (0, .ref this), (1, .int a0), (2, .ref a1), (3, .int a2), (4, .int a3)]) hx hb dX3_lastsFor_6 hl (by decide) rfl (fun ls hl => ?_)
      refine lv_aloadN hx hb dX3_lastsFor_8 (lv_at hl 0 rfl) ?_
      refine lv_ifnonnullN hx hb dX3_lastsFor_10 ?_
      refine lv_iconst (v := 0) hx hb dX3_lastsFor_13 (by decide) ?_
      subst hQ
      exact W.zret (v := 0) hx hb hr (by decide) (fun t1 ht hW => ⟨⟨0, (σ, I, J, ri, rj, rq), rfl, ⟨ri, rfl, hG, (Or.inr ⟨rfl, trivial⟩)⟩, by rw [ht]; exact hP, va_K.moved hW.alike hK, hD⟩, hS.F ht⟩) hS.2.2 dX3_lastsFor_14
    · refine lv_astore (lv' := [(5, .ref w_x_1), (0, .ref this), (1, .int a0), (2, .ref a1), (3, .int a2), (4, .int a3)]) hx hb dX3_lastsFor_6 hl (by decide) rfl (fun ls hl => ?_)
      refine lv_aload hx hb dX3_lastsFor_8 (lv_at hl 0 rfl) ?_
      refine lv_ifnonnull (tgt := 15) hx hb dX3_lastsFor_10 (by decide) ?_
      refine lv_aload_n hx hb dX3_lastsFor_15 rfl (lv_at hl 1 rfl) ?_
      refine lv_aload_n hx hb dX3_lastsFor_16 rfl (lv_at hl 3 rfl) ?_
      refine lv_iload_n hx hb dX3_lastsFor_17 rfl (lv_at hl 4 rfl) ?_
      refine lv_iload_n hx hb dX3_lastsFor_18 rfl (lv_at hl 2 rfl) ?_
      refine lv_iload hx hb dX3_lastsFor_19 (lv_at hl 5 rfl) ?_
      refine pk_v (va_runV (As := [.ref a1, .int a2, .int a0, .int a3]) (rest := []) ⟨hx, hb, hml, hown, hts⟩ (s_X3_nameAll l D t σ I J ri rj rq H.size tg hSH hG.1 this a1 a2 a0 a3 hL_this hK_this hL_a1 hK_a1 (rg_w h_a2 (by decide))) (cwV 4 hts (tw_V tw_565 tw_566 tw_567 tw_49 tw_568) rfl rfl rfl cv_yX3_nameAll_4 ⟨Nat.le_of_ble_eq_true rfl, Nat.le_of_ble_eq_true rfl⟩) ⟨pq_blind, pq_recv hK hP hL_this hK_this (by decide) rfl, pq_pre hK hN hP hD⟩ rfl rfl hl.1 rfl (lv_room (Nat.le_of_ble_eq_true rfl)) dX3_lastsFor_21 ⟨Nat.le_of_ble_eq_true rfl, Nat.le_of_ble_eq_true rfl⟩) hD hS hA (fun σ1 μ1 H locs hw_7 hP hD hS => ?_)
      obtain ⟨ri_8, hu_9, hg_10⟩ := hw_7
      obtain ⟨hu_9a, hu_9b⟩ := Prod.mk.inj hu_9
      rw [hu_9a, hu_9b] at hP hD
      have hG := GX.tr hG hg_10 (by decide)
      refine lv_aload hx hb dX3_lastsFor_24 (lv_at hl 0 rfl) ?_
      refine lv_iconst (v := 0) hx hb dX3_lastsFor_26 (by decide) ?_
      refine lv_aload_n hx hb dX3_lastsFor_27 rfl (lv_at hl 1 rfl) ?_
      obtain ⟨w_12, hR_w_12, hL_w_12, hK_w_12, hN_w_12, hT_w_12⟩ := sh_a hSH 102 (ci := 3) (kd := 13) (len := 6) rfl (by decide) hL_this hK_this
      refine pg_f (v := .ref w_12) (C := RX3) (T := TX3) (N := 8) hx hb hts (tw_i inlX3) hown hK hP hL_this hK_this (by decide) rfl 6 (by decide) (hts _ (tw_c tw_132)) (pq_hv rfl hR_w_12) dX3_lastsFor_28 ?_
      refine lv_aload_n hx hb dX3_lastsFor_31 rfl (lv_at hl 1 rfl) ?_
      obtain ⟨w_13, hR_w_13, hL_w_13, hK_w_13, hN_w_13, hT_w_13⟩ := sh_a hSH 103 (ci := 3) (kd := 13) (len := 40) rfl (by decide) hL_this hK_this
      refine pg_f (v := .ref w_13) (C := RX3) (T := TX3) (N := 8) hx hb hts (tw_i inlX3) hown hK hP hL_this hK_this (by decide) rfl 7 (by decide) (hts _ (tw_c tw_133)) (pq_hv rfl hR_w_13) dX3_lastsFor_32 ?_
      refine pk_i (va_runV (As := [.int 0, .ref w_12, .ref w_13]) (rest := []) ⟨hx, hb, hml, hown, hts⟩ (s_X8_firstSo_102_103 l D t σ I J ri_8 rj rq H.size tg hSH hG.1 w_x_1 (0 : Int32) w_12 w_13 hL_w_x_1 hK_w_x_1 hL_w_12 hK_w_12 hN_w_12 hT_w_12 hL_w_13 hK_w_13 hN_w_13 hT_w_13) (cwV 3 hts (tw_V tw_570 tw_571 tw_572 tw_159 tw_573) rfl rfl rfl cv_yX8_firstSo_3 ⟨Nat.le_of_ble_eq_true rfl, Nat.le_of_ble_eq_true rfl⟩) ⟨pq_blind, pq_recv hK hP hL_w_x_1 hK_w_x_1 (by decide) rfl, pq_pre hK hN hP hD⟩ rfl rfl hl.1 rfl (lv_room (Nat.le_of_ble_eq_true rfl)) dX3_lastsFor_35 ⟨Nat.le_of_ble_eq_true rfl, Nat.le_of_ble_eq_true rfl⟩) hD hS hA (fun x_14 σ1 μ1 H locs hw_15 hP hD hS => ?_)
      obtain ⟨ri_16, hu_17, hg_18, hr_19⟩ := hw_15
      obtain ⟨hu_17a, hu_17b⟩ := Prod.mk.inj hu_17
      rw [hu_17a, hu_17b] at hP hD
      have hG := GX.tr hG hg_18 (by decide)
      refine lv_iconst (v := (-1)) hx hb dX3_lastsFor_38 (by decide) ?_
      refine lv_icmp_eq (tgt := 46) hx hb dX3_lastsFor_39 (by decide) (fun c_20 => ?_) (fun c_20 => ?_)
      · have h_21 : rg x_14 (-1) (-1) := rg_and hr_19 (rg_of_eq c_20 (rg_k (-1 : Int32) (-1) rfl)) (by decide)
        refine lv_iconst (v := 0) hx hb dX3_lastsFor_46 (by decide) ?_
        subst hQ
        exact W.zret (v := 0) hx hb hr (by decide) (fun t1 ht hW => ⟨⟨0, (σ, I, J, ri_16, rj, rq), rfl, ⟨ri_16, rfl, hG, (Or.inr ⟨rfl, trivial⟩)⟩, by rw [ht]; exact hP, va_K.moved hW.alike hK, hD⟩, hS.F ht⟩) hS.2.2 dX3_lastsFor_47
      · have h_22 : rg x_14 0 19 := rg_ne c_20 hr_19 (-1) rfl (by decide)
        refine lv_iconst (v := 1) hx hb dX3_lastsFor_42 (by decide) ?_
        refine lv_goto (tgt := 47) hx hb dX3_lastsFor_43 (by decide) ?_
        subst hQ
        exact W.zret (v := 1) hx hb hr (by decide) (fun t1 ht hW => ⟨⟨1, (σ, I, J, ri_16, rj, rq), rfl, ⟨ri_16, rfl, hG, (Or.inl ⟨rfl, trivial⟩)⟩, by rw [ht]; exact hP, va_K.moved hW.alike hK, hD⟩, hS.F ht⟩) hS.2.2 dX3_lastsFor_47
  exact go _ _ _ hP hD hS hl

set_option maxHeartbeats 4000000 in
set_option maxRecDepth 100000 in
theorem s_X7_isNumber (l : Launch) (D : va_G) (t : pq_T) (σ : pq_S) (I : Nat → Nat → Int32) (J : Nat → Nat → Int64) (ri : Nat → Nat → Int32) (rj : Nat → Nat → Int64) (rq : Nat → Nat → Option Nat) (sz : Nat) (tg : Nat → Nat) (hSH : SH σ tg) (hG0 : GS tg σ I ri rq) (a0 : Int32) : MetI l yX7_isNumber (wa yX7_isNumber cX7_isNumber 1 (some .boolean)) ({ frames := 0, cells := 0, slots := 0, locals := 0 }) [.int a0] D t σ (I, J, ri, rj, rq) sz 0 0 (fun (r : Int32) (u : pq_S × pq_M) => u = (σ, I, J, ri, rj, rq) ∧ ((r = 1 ∧ rg a0 (-4999) 2147483647) ∨ (r = 0 ∧ rg a0 (-2147483648) (-5000)))) := by
  refine Met.ofW (cc := cX7_isNumber) (maxL := 1) (ret := (some .boolean)) (by decide) rfl ?_
  intro p e s m args below meth c s₁ B hml hv
  obtain ⟨rfl, hsz, hP, hK, hD0, hN⟩ := hv
  have hx := B.exec
  have hb := B.bytes
  have hr := B.returns
  have hts := atoms_spec (ws := (wa yX7_isNumber cX7_isNumber 1 (some .boolean))) B.pre
  have hown : s.vm.findClass RX7 = some m.cls := findClass_of_methodNamed B.named
  have hlocks := B.notSynchronized
  subst hsz
  have hD : va_D (pq_B t σ (I, J, ri, rj, rq) s.heap.size) (pq_P t σ (I, J, ri, rj, rq)) := hD0.self
  generalize hAe : pq_B t σ (I, J, ri, rj, rq) s.heap.size = A at hD ⊢
  have hA : ∀ q : Nat, s.heap.size ≤ q → A q := fun q h => by rw [← hAe]; exact Or.inr h
  have hS : va_S A s.heap s.heap [] := va_S.rf
  have hG : GX [] tg σ I ri rj I ri rj rq := ⟨hG0, fun _ _ _ => rfl, fun _ _ _ _ _ => rfl, fun _ _ _ _ _ => rfl⟩
  have hl := lv_entry ([.int a0]) (n := 1) (Nat.le_of_ble_eq_true rfl)
  rw [lg_entry_eq]
  generalize (lg_sl ([.int a0]) ++ List.replicate (1 - (lg_sl ([.int a0])).length) Slot.unset).toArray = ls at hl ⊢
  have hl : lv_has ls 1 [(0, .int a0)] := hl
  refine q_gen (fun Q hQ => ?_)
  have go : ∀ (H : Heap) (locs : List Loc) (ls : Array Slot), va_P D vwCl (pq_P t σ (I, J, ri, rj, rq)) H → va_D A (pq_P t σ (I, J, ri, rj, rq)) → va_S A s.heap H locs → lv_has ls 1 [(0, .int a0)] → W p l e ({ frames := 0, cells := 0, slots := 0, locals := 0 } : Room) s m (List.toArray ([.int a0] : List Value)) below meth c H locs 0 0 Q (F0 m 0 ls []) := by
    intro H locs ls hP hD hS hl
    refine lv_iload_n hx hb dX7_isNumber_0 rfl (lv_at hl 0 rfl) ?_
    refine lv_sipush (v := (-5000)) hx hb dX7_isNumber_1 (by decide) ?_
    refine lv_icmp_le (tgt := 11) hx hb dX7_isNumber_4 (by decide) (fun c_1 => ?_) (fun c_1 => ?_)
    · have h_2 : rg a0 (-2147483648) (-5000) := rg_le1 c_1 (rg_full _) (rg_k (-5000 : Int32) (-5000) rfl) (by decide)
      refine lv_iconst (v := 0) hx hb dX7_isNumber_11 (by decide) ?_
      subst hQ
      exact W.zret (v := 0) hx hb hr (by decide) (fun t1 ht hW => ⟨⟨0, (σ, I, J, ri, rj, rq), rfl, ⟨rfl, (Or.inr ⟨rfl, (rg_w h_2 (by decide))⟩)⟩, by rw [ht]; exact hP, va_K.moved hW.alike hK, hD⟩, hS.F ht⟩) hS.2.2 dX7_isNumber_12
    · have h_3 : rg a0 (-4999) 2147483647 := rg_lt2 (nle c_1) (rg_k (-5000 : Int32) (-5000) rfl) (rg_full _) (by decide)
      refine lv_iconst (v := 1) hx hb dX7_isNumber_7 (by decide) ?_
      refine lv_goto (tgt := 12) hx hb dX7_isNumber_8 (by decide) ?_
      subst hQ
      exact W.zret (v := 1) hx hb hr (by decide) (fun t1 ht hW => ⟨⟨1, (σ, I, J, ri, rj, rq), rfl, ⟨rfl, (Or.inl ⟨rfl, (rg_w h_3 (by decide))⟩)⟩, by rw [ht]; exact hP, va_K.moved hW.alike hK, hD⟩, hS.F ht⟩) hS.2.2 dX7_isNumber_12
  exact go _ _ _ hP hD hS hl

set_option maxHeartbeats 4000000 in
set_option maxRecDepth 100000 in
theorem s_X7_meanOfNumbers (l : Launch) (D : va_G) (t : pq_T) (σ : pq_S) (I : Nat → Nat → Int32) (J : Nat → Nat → Int64) (ri : Nat → Nat → Int32) (rj : Nat → Nat → Int64) (rq : Nat → Nat → Option Nat) (sz : Nat) (tg : Nat → Nat) (hSH : SH σ tg) (hG0 : GS tg σ I ri rq) (a0 : Int32) (a1 : Int32) : MetI l yX7_meanOfNumbers (wa yX7_meanOfNumbers cX7_meanOfNumbers 2 (some .int)) ({ frames := 1, cells := 0, slots := 0, locals := 20 }) [.int a0, .int a1] D t σ (I, J, ri, rj, rq) sz 0 0 (fun (r : Int32) (u : pq_S × pq_M) => u = (σ, I, J, ri, rj, rq)) := by
  refine Met.ofW (cc := cX7_meanOfNumbers) (maxL := 2) (ret := (some .int)) (by decide) rfl ?_
  intro p e s m args below meth c s₁ B hml hv
  obtain ⟨rfl, hsz, hP, hK, hD0, hN⟩ := hv
  have hx := B.exec
  have hb := B.bytes
  have hr := B.returns
  have hts := atoms_spec (ws := (wa yX7_meanOfNumbers cX7_meanOfNumbers 2 (some .int))) B.pre
  have hown : s.vm.findClass RX7 = some m.cls := findClass_of_methodNamed B.named
  have hlocks := B.notSynchronized
  subst hsz
  have hD : va_D (pq_B t σ (I, J, ri, rj, rq) s.heap.size) (pq_P t σ (I, J, ri, rj, rq)) := hD0.self
  generalize hAe : pq_B t σ (I, J, ri, rj, rq) s.heap.size = A at hD ⊢
  have hA : ∀ q : Nat, s.heap.size ≤ q → A q := fun q h => by rw [← hAe]; exact Or.inr h
  have hS : va_S A s.heap s.heap [] := va_S.rf
  have hG : GX [] tg σ I ri rj I ri rj rq := ⟨hG0, fun _ _ _ => rfl, fun _ _ _ _ _ => rfl, fun _ _ _ _ _ => rfl⟩
  have hl := lv_entry ([.int a0, .int a1]) (n := 2) (Nat.le_of_ble_eq_true rfl)
  rw [lg_entry_eq]
  generalize (lg_sl ([.int a0, .int a1]) ++ List.replicate (2 - (lg_sl ([.int a0, .int a1])).length) Slot.unset).toArray = ls at hl ⊢
  have hl : lv_has ls 2 [(0, .int a0), (1, .int a1)] := hl
  refine q_gen (fun Q hQ => ?_)
  have go : ∀ (H : Heap) (locs : List Loc) (ls : Array Slot), va_P D vwCl (pq_P t σ (I, J, ri, rj, rq)) H → va_D A (pq_P t σ (I, J, ri, rj, rq)) → va_S A s.heap H locs → lv_has ls 2 [(0, .int a0), (1, .int a1)] → W p l e ({ frames := 1, cells := 0, slots := 0, locals := 20 } : Room) s m (List.toArray ([.int a0, .int a1] : List Value)) below meth c H locs 0 0 Q (F0 m 0 ls []) := by
    intro H locs ls hP hD hS hl
    refine lv_iload_n hx hb dX7_meanOfNumbers_0 rfl (lv_at hl 0 rfl) ?_
    refine pk_i (va_runS (As := [.int a0]) (rest := []) ⟨hx, hb, hml, hown, hts⟩ (s_X7_isNumber l D t σ I J ri rj rq H.size tg hSH hG.1 a0) (va_cwS 1 hts (tw_S tw_278 tw_279 tw_37 tw_280) rfl rfl rfl cd_yX7_isNumber_1 ⟨Nat.le_of_ble_eq_true rfl, Nat.le_of_ble_eq_true rfl⟩) ⟨pq_blind, pq_pre hK hN hP hD⟩ rfl rfl hl.1 rfl (lv_room (Nat.le_of_ble_eq_true rfl)) dX7_meanOfNumbers_1 ⟨Nat.le_of_ble_eq_true rfl, Nat.le_of_ble_eq_true rfl⟩) hD hS hA (fun x_1 σ1 μ1 H locs hw_2 hP hD hS => ?_)
    obtain ⟨hu_3, hr_5⟩ := hw_2
    obtain ⟨hu_3a, hu_3b⟩ := Prod.mk.inj hu_3
    rw [hu_3a, hu_3b] at hP hD
    have h_6 : rg x_1 0 1 := by rcases hr_5 with ⟨q, -⟩ | ⟨q, -⟩ <;> rw [q] <;> exact ⟨by decide, by decide⟩
    refine lv_if_ne (tgt := 9) hx hb dX7_meanOfNumbers_4 (by decide) (fun c_7 => ?_) (fun c_7 => ?_)
    · have f_8 := (hr_5.resolve_right (fun q => c_7 q.1)).2
      have h_9 : rg x_1 1 1 := rg_ne c_7 h_6 0 rfl (by decide)
      refine lv_iload_n hx hb dX7_meanOfNumbers_9 rfl (lv_at hl 1 rfl) ?_
      refine pk_i (va_runS (As := [.int a1]) (rest := []) ⟨hx, hb, hml, hown, hts⟩ (s_X7_isNumber l D t σ I J ri rj rq H.size tg hSH hG.1 a1) (va_cwS 1 hts (tw_S tw_278 tw_279 tw_37 tw_280) rfl rfl rfl cd_yX7_isNumber_1 ⟨Nat.le_of_ble_eq_true rfl, Nat.le_of_ble_eq_true rfl⟩) ⟨pq_blind, pq_pre hK hN hP hD⟩ rfl rfl hl.1 rfl (lv_room (Nat.le_of_ble_eq_true rfl)) dX7_meanOfNumbers_10 ⟨Nat.le_of_ble_eq_true rfl, Nat.le_of_ble_eq_true rfl⟩) hD hS hA (fun x_10 σ1 μ1 H locs hw_11 hP hD hS => ?_)
      obtain ⟨hu_12, hr_14⟩ := hw_11
      obtain ⟨hu_12a, hu_12b⟩ := Prod.mk.inj hu_12
      rw [hu_12a, hu_12b] at hP hD
      have h_15 : rg x_10 0 1 := by rcases hr_14 with ⟨q, -⟩ | ⟨q, -⟩ <;> rw [q] <;> exact ⟨by decide, by decide⟩
      refine lv_if_eq (tgt := 24) hx hb dX7_meanOfNumbers_13 (by decide) (fun c_16 => ?_) (fun c_16 => ?_)
      · have f_17 := (hr_14.resolve_left (fun q => absurd (q.1.symm.trans c_16) (by decide))).2
        have h_18 : rg x_10 0 0 := rg_and h_15 (rg_of_eq c_16 (rg_k (0 : Int32) 0 rfl)) (by decide)
        refine lv_iload_n hx hb dX7_meanOfNumbers_24 rfl (lv_at hl 0 rfl) ?_
        subst hQ
        exact W.iret (v := a0) hx hb hr (fun t1 ht hW => ⟨⟨a0, (σ, I, J, ri, rj, rq), rfl, rfl, by rw [ht]; exact hP, va_K.moved hW.alike hK, hD⟩, hS.F ht⟩) hS.2.2 dX7_meanOfNumbers_25
      · have f_19 := (hr_14.resolve_right (fun q => c_16 q.1)).2
        have h_20 : rg x_10 1 1 := rg_ne c_16 h_15 0 rfl (by decide)
        refine lv_iload_n hx hb dX7_meanOfNumbers_16 rfl (lv_at hl 0 rfl) ?_
        refine lv_iload_n hx hb dX7_meanOfNumbers_17 rfl (lv_at hl 1 rfl) ?_
        refine lv_iadd hx hb dX7_meanOfNumbers_18 ?_
        refine lv_topi (fun x_21 ex_21 => ?_)
        refine lv_iconst (v := 2) hx hb dX7_meanOfNumbers_19 (by decide) ?_
        refine lv_idiv hx hb dX7_meanOfNumbers_20 (by decide) ?_
        refine lv_topi (fun x_22 ex_22 => ?_)
        refine lv_goto (tgt := 25) hx hb dX7_meanOfNumbers_21 (by decide) ?_
        subst hQ
        exact W.iret (v := x_22) hx hb hr (fun t1 ht hW => ⟨⟨x_22, (σ, I, J, ri, rj, rq), rfl, rfl, by rw [ht]; exact hP, va_K.moved hW.alike hK, hD⟩, hS.F ht⟩) hS.2.2 dX7_meanOfNumbers_25
    · have f_23 := (hr_5.resolve_left (fun q => absurd (q.1.symm.trans c_7) (by decide))).2
      have h_24 : rg x_1 0 0 := rg_and h_6 (rg_of_eq c_7 (rg_k (0 : Int32) 0 rfl)) (by decide)
      refine lv_iload_n hx hb dX7_meanOfNumbers_7 rfl (lv_at hl 1 rfl) ?_
      subst hQ
      exact W.iret (v := a1) hx hb hr (fun t1 ht hW => ⟨⟨a1, (σ, I, J, ri, rj, rq), rfl, rfl, by rw [ht]; exact hP, va_K.moved hW.alike hK, hD⟩, hS.F ht⟩) hS.2.2 dX7_meanOfNumbers_8
  exact go _ _ _ hP hD hS hl

set_option maxHeartbeats 4000000 in
set_option maxRecDepth 100000 in
theorem s_X7_known (l : Launch) (D : va_G) (t : pq_T) (σ : pq_S) (I : Nat → Nat → Int32) (J : Nat → Nat → Int64) (ri : Nat → Nat → Int32) (rj : Nat → Nat → Int64) (rq : Nat → Nat → Option Nat) (sz : Nat) (tg : Nat → Nat) (hSH : SH σ tg) (hG0 : GS tg σ I ri rq) (this : Nat) (a0 : Int32) (a1 : Int32) (a2 : Int32) (hL_this : this ∈ σ.1) (hK_this : σ.2.1 this = 7) : MetI l yX7_known (wa yX7_known cX7_known 9 (some .int)) ({ frames := 2, cells := 0, slots := 0, locals := 41 }) [.ref this, .int a0, .int a1, .int a2] D t σ (I, J, ri, rj, rq) sz 0 0 (fun (r : Int32) (u : pq_S × pq_M) => u = (σ, I, J, ri, rj, rq)) := by
  refine Met.ofW (cc := cX7_known) (maxL := 9) (ret := (some .int)) (by decide) rfl ?_
  intro p e s m args below meth c s₁ B hml hv
  obtain ⟨rfl, hsz, hP, hK, hD0, hN⟩ := hv
  have hx := B.exec
  have hb := B.bytes
  have hr := B.returns
  have hts := atoms_spec (ws := (wa yX7_known cX7_known 9 (some .int))) B.pre
  have hown : s.vm.findClass RX7 = some m.cls := findClass_of_methodNamed B.named
  have hlocks := B.notSynchronized
  subst hsz
  have hD : va_D (pq_B t σ (I, J, ri, rj, rq) s.heap.size) (pq_P t σ (I, J, ri, rj, rq)) := hD0.self
  generalize hAe : pq_B t σ (I, J, ri, rj, rq) s.heap.size = A at hD ⊢
  have hA : ∀ q : Nat, s.heap.size ≤ q → A q := fun q h => by rw [← hAe]; exact Or.inr h
  have hS : va_S A s.heap s.heap [] := va_S.rf
  have hG : GX [] tg σ I ri rj I ri rj rq := ⟨hG0, fun _ _ _ => rfl, fun _ _ _ _ _ => rfl, fun _ _ _ _ _ => rfl⟩
  have hl := lv_entry ([.ref this, .int a0, .int a1, .int a2]) (n := 9) (Nat.le_of_ble_eq_true rfl)
  rw [lg_entry_eq]
  generalize (lg_sl ([.ref this, .int a0, .int a1, .int a2]) ++ List.replicate (9 - (lg_sl ([.ref this, .int a0, .int a1, .int a2])).length) Slot.unset).toArray = ls at hl ⊢
  have hl : lv_has ls 9 [(0, .ref this), (1, .int a0), (2, .int a1), (3, .int a2)] := hl
  refine q_gen (fun Q hQ => ?_)
  have go : ∀ (H : Heap) (locs : List Loc) (ls : Array Slot), va_P D vwCl (pq_P t σ (I, J, ri, rj, rq)) H → va_D A (pq_P t σ (I, J, ri, rj, rq)) → va_S A s.heap H locs → lv_has ls 9 [(0, .ref this), (1, .int a0), (2, .int a1), (3, .int a2)] → W p l e ({ frames := 2, cells := 0, slots := 0, locals := 41 } : Room) s m (List.toArray ([.ref this, .int a0, .int a1, .int a2] : List Value)) below meth c H locs 0 0 Q (F0 m 0 ls []) := by
    intro H locs ls hP hD hS hl
    refine lv_sipush (v := (-6000)) hx hb dX7_known_0 (by decide) ?_
    refine lv_istore (lv' := [(4, .int (-6000)), (0, .ref this), (1, .int a0), (2, .int a1), (3, .int a2)]) hx hb dX7_known_3 hl (by decide) rfl (fun ls hl => ?_)
    refine lv_sipush (v := (-6000)) hx hb dX7_known_5 (by decide) ?_
    refine lv_istore (lv' := [(5, .int (-6000)), (4, .int (-6000)), (0, .ref this), (1, .int a0), (2, .int a1), (3, .int a2)]) hx hb dX7_known_8 hl (by decide) rfl (fun ls hl => ?_)
    refine lv_sipush (v := (-6000)) hx hb dX7_known_10 (by decide) ?_
    refine lv_istore (lv' := [(6, .int (-6000)), (5, .int (-6000)), (4, .int (-6000)), (0, .ref this), (1, .int a0), (2, .int a1), (3, .int a2)]) hx hb dX7_known_13 hl (by decide) rfl (fun ls hl => ?_)
    refine lv_sipush (v := (-6000)) hx hb dX7_known_15 (by decide) ?_
    refine lv_istore (lv' := [(7, .int (-6000)), (6, .int (-6000)), (5, .int (-6000)), (4, .int (-6000)), (0, .ref this), (1, .int a0), (2, .int a1), (3, .int a2)]) hx hb dX7_known_18 hl (by decide) rfl (fun ls hl => ?_)
    refine lv_iconst (v := 0) hx hb dX7_known_20 (by decide) ?_
    refine lv_istore (lv' := [(8, .int 0), (7, .int (-6000)), (6, .int (-6000)), (5, .int (-6000)), (4, .int (-6000)), (0, .ref this), (1, .int a0), (2, .int a1), (3, .int a2)]) hx hb dX7_known_21 hl (by decide) rfl (fun ls hl => ?_)
    have L_1555 : ∀ (n_1554 : Nat) (x_1463 : Int32) (x_1464 : Int32) (x_1465 : Int32) (x_1466 : Int32) (x_1467 : Int32) (H : Heap) (locs : List Loc) (ls : Array Slot), rg x_1466 (-6000) 2147483647 → rg x_1467 0 200 → (200 - (x_1467).toInt).toNat < n_1554 → GX [] tg σ I ri rj I ri rj rq → va_P D vwCl (pq_P t σ (I, J, ri, rj, rq)) H → va_D A (pq_P t σ (I, J, ri, rj, rq)) → va_S A s.heap H locs → lv_has ls 9 [(0, .ref this), (1, .int a0), (2, .int a1), (3, .int a2), (4, .int x_1463), (5, .int x_1464), (6, .int x_1465), (7, .int x_1466), (8, .int x_1467)] → W p l e ({ frames := 2, cells := 0, slots := 0, locals := 41 } : Room) s m (List.toArray ([.ref this, .int a0, .int a1, .int a2] : List Value)) below meth c H locs 0 0 Q (F0 m 23 ls []) := by
      intro n_1554
      induction n_1554 with
      | zero => intro x_1463 x_1464 x_1465 x_1466 x_1467 H locs ls h_1559 h_1560 hm_1553 hG hP hD hS hl; exact absurd hm_1553 (Nat.not_lt_zero _)
      | succ n_1554 ih_1556 =>
        intro x_1463 x_1464 x_1465 x_1466 x_1467 H locs ls h_1559 h_1560 hm_1553 hG hP hD hS hl
        refine lv_iload hx hb dX7_known_23 (lv_at hl 8 rfl) ?_
        refine lv_aload_n hx hb dX7_known_25 rfl (lv_at hl 0 rfl) ?_
        refine pg_f (v := .int (I 224 this)) (C := RX7) (T := TX7) (N := 15) hx hb hts (tw_i inlX7) hown hK hP hL_this hK_this (by decide) rfl 0 (by decide) (hts _ (tw_c tw_254)) rfl dX7_known_26 ?_
        have h_1561 : rg (I 224 this) 0 200 := GX.rI hG 224 rfl
        refine lv_icmp_ge (tgt := 144) hx hb dX7_known_29 (by decide) (fun c_1562 => ?_) (fun c_1562 => ?_)
        · refine lv_iload hx hb dX7_known_144 (lv_at hl 4 rfl) ?_
          refine pk_i (va_runS (As := [.int x_1463]) (rest := []) ⟨hx, hb, hml, hown, hts⟩ (s_X7_isNumber l D t σ I J ri rj rq H.size tg hSH hG.1 x_1463) (va_cwS 1 hts (tw_S tw_278 tw_279 tw_37 tw_280) rfl rfl rfl cd_yX7_isNumber_1 ⟨Nat.le_of_ble_eq_true rfl, Nat.le_of_ble_eq_true rfl⟩) ⟨pq_blind, pq_pre hK hN hP hD⟩ rfl rfl hl.1 rfl (lv_room (Nat.le_of_ble_eq_true rfl)) dX7_known_146 ⟨Nat.le_of_ble_eq_true rfl, Nat.le_of_ble_eq_true rfl⟩) hD hS hA (fun x_1563 σ1 μ1 H locs hw_1564 hP hD hS => ?_)
          obtain ⟨hu_1565, hr_1567⟩ := hw_1564
          obtain ⟨hu_1565a, hu_1565b⟩ := Prod.mk.inj hu_1565
          rw [hu_1565a, hu_1565b] at hP hD
          have h_1568 : rg x_1563 0 1 := by rcases hr_1567 with ⟨q, -⟩ | ⟨q, -⟩ <;> rw [q] <;> exact ⟨by decide, by decide⟩
          refine lv_if_eq (tgt := 155) hx hb dX7_known_149 (by decide) (fun c_1569 => ?_) (fun c_1569 => ?_)
          · have f_1570 := (hr_1567.resolve_left (fun q => absurd (q.1.symm.trans c_1569) (by decide))).2
            have h_1571 : rg x_1563 0 0 := rg_and h_1568 (rg_of_eq c_1569 (rg_k (0 : Int32) 0 rfl)) (by decide)
            refine lv_iload hx hb dX7_known_155 (lv_at hl 4 rfl) ?_
            refine lv_sipush (v := (-5000)) hx hb dX7_known_157 (by decide) ?_
            have K_1614 : ∀  (H : Heap) (locs : List Loc) (ls : Array Slot), GX [] tg σ I ri rj I ri rj rq → va_P D vwCl (pq_P t σ (I, J, ri, rj, rq)) H → va_D A (pq_P t σ (I, J, ri, rj, rq)) → va_S A s.heap H locs → lv_has ls 9 [(7, .int x_1466)] → W p l e ({ frames := 2, cells := 0, slots := 0, locals := 41 } : Room) s m (List.toArray ([.ref this, .int a0, .int a1, .int a2] : List Value)) below meth c H locs 0 0 Q (F0 m 187 ls []) := by
              intro H locs ls hG hP hD hS hl
              refine lv_iload hx hb dX7_known_187 (lv_at hl 0 rfl) ?_
              refine pk_i (va_runS (As := [.int x_1466]) (rest := []) ⟨hx, hb, hml, hown, hts⟩ (s_X7_isNumber l D t σ I J ri rj rq H.size tg hSH hG.1 x_1466) (va_cwS 1 hts (tw_S tw_278 tw_279 tw_37 tw_280) rfl rfl rfl cd_yX7_isNumber_1 ⟨Nat.le_of_ble_eq_true rfl, Nat.le_of_ble_eq_true rfl⟩) ⟨pq_blind, pq_pre hK hN hP hD⟩ rfl rfl hl.1 rfl (lv_room (Nat.le_of_ble_eq_true rfl)) dX7_known_189 ⟨Nat.le_of_ble_eq_true rfl, Nat.le_of_ble_eq_true rfl⟩) hD hS hA (fun x_1615 σ1 μ1 H locs hw_1616 hP hD hS => ?_)
              obtain ⟨hu_1617, hr_1619⟩ := hw_1616
              obtain ⟨hu_1617a, hu_1617b⟩ := Prod.mk.inj hu_1617
              rw [hu_1617a, hu_1617b] at hP hD
              have h_1620 : rg x_1615 0 1 := by rcases hr_1619 with ⟨q, -⟩ | ⟨q, -⟩ <;> rw [q] <;> exact ⟨by decide, by decide⟩
              refine lv_if_eq (tgt := 200) hx hb dX7_known_192 (by decide) (fun c_1621 => ?_) (fun c_1621 => ?_)
              · have f_1622 := (hr_1619.resolve_left (fun q => absurd (q.1.symm.trans c_1621) (by decide))).2
                have h_1623 : rg x_1466 (-6000) (-5000) := rg_and h_1559 f_1622 (by decide)
                have h_1624 : rg x_1615 0 0 := rg_and h_1620 (rg_of_eq c_1621 (rg_k (0 : Int32) 0 rfl)) (by decide)
                refine lv_iconst (v := 0) hx hb dX7_known_200 (by decide) ?_
                subst hQ
                exact W.iret (v := 0) hx hb hr (fun t1 ht hW => ⟨⟨0, (σ, I, J, ri, rj, rq), rfl, rfl, by rw [ht]; exact hP, va_K.moved hW.alike hK, hD⟩, hS.F ht⟩) hS.2.2 dX7_known_201
              · have f_1625 := (hr_1619.resolve_right (fun q => c_1621 q.1)).2
                have h_1626 : rg x_1615 1 1 := rg_ne c_1621 h_1620 0 rfl (by decide)
                refine lv_iload hx hb dX7_known_195 (lv_at hl 0 rfl) ?_
                refine lv_goto (tgt := 201) hx hb dX7_known_197 (by decide) ?_
                subst hQ
                exact W.iret (v := x_1466) hx hb hr (fun t1 ht hW => ⟨⟨x_1466, (σ, I, J, ri, rj, rq), rfl, rfl, by rw [ht]; exact hP, va_K.moved hW.alike hK, hD⟩, hS.F ht⟩) hS.2.2 dX7_known_201
            refine lv_icmp_ne (tgt := 187) hx hb dX7_known_160 (by decide) (fun c_1627 => ?_) (fun c_1627 => ?_)
            · have h_1628 : rg x_1463 (-2147483648) (-5001) := rg_ne c_1627 f_1570 (-5000) rfl (by decide)
              exact K_1614 _ _ _ hG hP hD hS (lv_sub hl [7] rfl)
            · have h_1629 : rg x_1463 (-5000) (-5000) := rg_and f_1570 (rg_of_eq c_1627 (rg_k (-5000 : Int32) (-5000) rfl)) (by decide)
              refine lv_iload hx hb dX7_known_163 (lv_at hl 5 rfl) ?_
              refine pk_i (va_runS (As := [.int x_1464]) (rest := []) ⟨hx, hb, hml, hown, hts⟩ (s_X7_isNumber l D t σ I J ri rj rq H.size tg hSH hG.1 x_1464) (va_cwS 1 hts (tw_S tw_278 tw_279 tw_37 tw_280) rfl rfl rfl cd_yX7_isNumber_1 ⟨Nat.le_of_ble_eq_true rfl, Nat.le_of_ble_eq_true rfl⟩) ⟨pq_blind, pq_pre hK hN hP hD⟩ rfl rfl hl.1 rfl (lv_room (Nat.le_of_ble_eq_true rfl)) dX7_known_165 ⟨Nat.le_of_ble_eq_true rfl, Nat.le_of_ble_eq_true rfl⟩) hD hS hA (fun x_1630 σ1 μ1 H locs hw_1631 hP hD hS => ?_)
              obtain ⟨hu_1632, hr_1634⟩ := hw_1631
              obtain ⟨hu_1632a, hu_1632b⟩ := Prod.mk.inj hu_1632
              rw [hu_1632a, hu_1632b] at hP hD
              have h_1635 : rg x_1630 0 1 := by rcases hr_1634 with ⟨q, -⟩ | ⟨q, -⟩ <;> rw [q] <;> exact ⟨by decide, by decide⟩
              have K_1657 : ∀  (H : Heap) (locs : List Loc) (ls : Array Slot), GX [] tg σ I ri rj I ri rj rq → va_P D vwCl (pq_P t σ (I, J, ri, rj, rq)) H → va_D A (pq_P t σ (I, J, ri, rj, rq)) → va_S A s.heap H locs → lv_has ls 9 [(5, .int x_1464), (6, .int x_1465)] → W p l e ({ frames := 2, cells := 0, slots := 0, locals := 41 } : Room) s m (List.toArray ([.ref this, .int a0, .int a1, .int a2] : List Value)) below meth c H locs 0 0 Q (F0 m 179 ls []) := by
                intro H locs ls hG hP hD hS hl
                refine lv_iload hx hb dX7_known_179 (lv_at hl 0 rfl) ?_
                refine lv_iload hx hb dX7_known_181 (lv_at hl 1 rfl) ?_
                refine pk_i (va_runS (As := [.int x_1464, .int x_1465]) (rest := []) ⟨hx, hb, hml, hown, hts⟩ (s_X7_meanOfNumbers l D t σ I J ri rj rq H.size tg hSH hG.1 x_1464 x_1465) (va_cwS 2 hts (tw_S tw_281 tw_282 tw_37 tw_283) rfl rfl rfl cd_yX7_meanOfNumbers_2 ⟨Nat.le_of_ble_eq_true rfl, Nat.le_of_ble_eq_true rfl⟩) ⟨pq_blind, pq_pre hK hN hP hD⟩ rfl rfl hl.1 rfl (lv_room (Nat.le_of_ble_eq_true rfl)) dX7_known_183 ⟨Nat.le_of_ble_eq_true rfl, Nat.le_of_ble_eq_true rfl⟩) hD hS hA (fun x_1658 σ1 μ1 H locs hw_1659 hP hD hS => ?_)
                have hu_1660 := hw_1659
                obtain ⟨hu_1660a, hu_1660b⟩ := Prod.mk.inj hu_1660
                rw [hu_1660a, hu_1660b] at hP hD
                subst hQ
                exact W.iret (v := x_1658) hx hb hr (fun t1 ht hW => ⟨⟨x_1658, (σ, I, J, ri, rj, rq), rfl, rfl, by rw [ht]; exact hP, va_K.moved hW.alike hK, hD⟩, hS.F ht⟩) hS.2.2 dX7_known_186
              refine lv_if_ne (tgt := 179) hx hb dX7_known_168 (by decide) (fun c_1663 => ?_) (fun c_1663 => ?_)
              · have f_1664 := (hr_1634.resolve_right (fun q => c_1663 q.1)).2
                have h_1665 : rg x_1630 1 1 := rg_ne c_1663 h_1635 0 rfl (by decide)
                exact K_1657 _ _ _ hG hP hD hS (lv_sub hl [5, 6] rfl)
              · have f_1666 := (hr_1634.resolve_left (fun q => absurd (q.1.symm.trans c_1663) (by decide))).2
                have h_1667 : rg x_1630 0 0 := rg_and h_1635 (rg_of_eq c_1663 (rg_k (0 : Int32) 0 rfl)) (by decide)
                refine lv_iload hx hb dX7_known_171 (lv_at hl 6 rfl) ?_
                refine pk_i (va_runS (As := [.int x_1465]) (rest := []) ⟨hx, hb, hml, hown, hts⟩ (s_X7_isNumber l D t σ I J ri rj rq H.size tg hSH hG.1 x_1465) (va_cwS 1 hts (tw_S tw_278 tw_279 tw_37 tw_280) rfl rfl rfl cd_yX7_isNumber_1 ⟨Nat.le_of_ble_eq_true rfl, Nat.le_of_ble_eq_true rfl⟩) ⟨pq_blind, pq_pre hK hN hP hD⟩ rfl rfl hl.1 rfl (lv_room (Nat.le_of_ble_eq_true rfl)) dX7_known_173 ⟨Nat.le_of_ble_eq_true rfl, Nat.le_of_ble_eq_true rfl⟩) hD hS hA (fun x_1668 σ1 μ1 H locs hw_1669 hP hD hS => ?_)
                obtain ⟨hu_1670, hr_1672⟩ := hw_1669
                obtain ⟨hu_1670a, hu_1670b⟩ := Prod.mk.inj hu_1670
                rw [hu_1670a, hu_1670b] at hP hD
                have h_1673 : rg x_1668 0 1 := by rcases hr_1672 with ⟨q, -⟩ | ⟨q, -⟩ <;> rw [q] <;> exact ⟨by decide, by decide⟩
                refine lv_if_eq (tgt := 187) hx hb dX7_known_176 (by decide) (fun c_1674 => ?_) (fun c_1674 => ?_)
                · have f_1675 := (hr_1672.resolve_left (fun q => absurd (q.1.symm.trans c_1674) (by decide))).2
                  have h_1676 : rg x_1668 0 0 := rg_and h_1673 (rg_of_eq c_1674 (rg_k (0 : Int32) 0 rfl)) (by decide)
                  exact K_1614 _ _ _ hG hP hD hS (lv_sub hl [7] rfl)
                · have f_1677 := (hr_1672.resolve_right (fun q => c_1674 q.1)).2
                  have h_1678 : rg x_1668 1 1 := rg_ne c_1674 h_1673 0 rfl (by decide)
                  exact K_1657 _ _ _ hG hP hD hS (lv_sub hl [5, 6] rfl)
          · have f_1679 := (hr_1567.resolve_right (fun q => c_1569 q.1)).2
            have h_1680 : rg x_1563 1 1 := rg_ne c_1569 h_1568 0 rfl (by decide)
            refine lv_iload hx hb dX7_known_152 (lv_at hl 4 rfl) ?_
            subst hQ
            exact W.iret (v := x_1463) hx hb hr (fun t1 ht hW => ⟨⟨x_1463, (σ, I, J, ri, rj, rq), rfl, rfl, by rw [ht]; exact hP, va_K.moved hW.alike hK, hD⟩, hS.F ht⟩) hS.2.2 dX7_known_154
        · have h_1681 : rg x_1467 0 199 := rg_lt1 (nle c_1562) h_1560 h_1561 (by decide)
          have h_1682 : rg (I 224 this) 1 200 := rg_lt2 (nle c_1562) h_1560 h_1561 (by decide)
          refine lv_aload_n hx hb dX7_known_32 rfl (lv_at hl 0 rfl) ?_
          obtain ⟨w_1683, hR_w_1683, hL_w_1683, hK_w_1683, hN_w_1683, hT_w_1683⟩ := sh_a hSH 225 (ci := 7) (kd := 13) (len := 200) rfl (by decide) hL_this hK_this
          refine pg_f (v := .ref w_1683) (C := RX7) (T := TX7) (N := 15) hx hb hts (tw_i inlX7) hown hK hP hL_this hK_this (by decide) rfl 1 (by decide) (hts _ (tw_c tw_61)) (pq_hv rfl hR_w_1683) dX7_known_33 ?_
          refine lv_iload hx hb dX7_known_36 (lv_at hl 8 rfl) ?_
          refine pl_i hx hb hK hP hL_w_1683 hK_w_1683 hN_w_1683 (rg_in h_1681 (by decide)) dX7_known_38 ?_
          refine lv_topi (fun x_1684 ex_1684 => ?_)
          refine lv_iload_n hx hb dX7_known_39 rfl (lv_at hl 1 rfl) ?_
          have K_1709 : ∀  (x_1702 : Int32) (x_1703 : Int32) (x_1704 : Int32) (x_1705 : Int32) (H : Heap) (locs : List Loc) (ls : Array Slot), rg x_1705 (-6000) 2147483647 → GX [] tg σ I ri rj I ri rj rq → va_P D vwCl (pq_P t σ (I, J, ri, rj, rq)) H → va_D A (pq_P t σ (I, J, ri, rj, rq)) → va_S A s.heap H locs → lv_has ls 9 [(0, .ref this), (1, .int a0), (2, .int a1), (3, .int a2), (4, .int x_1702), (5, .int x_1703), (6, .int x_1704), (7, .int x_1705), (8, .int x_1467)] → W p l e ({ frames := 2, cells := 0, slots := 0, locals := 41 } : Room) s m (List.toArray ([.ref this, .int a0, .int a1, .int a2] : List Value)) below meth c H locs 0 0 Q (F0 m 138 ls []) := by
            intro x_1702 x_1703 x_1704 x_1705 H locs ls h_1711 hG hP hD hS hl
            obtain ⟨x_1712, ex_1712⟩ : ∃ y : Int32, y = x_1467 + Int32.ofInt 1 := ⟨_, rfl⟩
            have h_1713 : rg x_1712 1 200 := rg_of_eq ex_1712 (rg_add h_1681 (rg_k (Int32.ofInt 1) 1 rfl) (by decide))
            refine lv_iinc (v := x_1712) (lv' := [(8, .int x_1712), (0, .ref this), (1, .int a0), (2, .int a1), (3, .int a2), (4, .int x_1702), (5, .int x_1703), (6, .int x_1704), (7, .int x_1705)]) hx hb dX7_known_138 hl (k := 8) rfl ex_1712.symm (by decide) rfl (fun ls hl => ?_)
            refine lv_goto (tgt := 23) hx hb dX7_known_141 (by decide) ?_
            exact ih_1556 x_1702 x_1703 x_1704 x_1705 x_1712 _ _ _ (rg_w h_1711 (by decide)) (rg_w h_1713 (by decide)) (ms_up 1 hm_1553 ex_1712 rfl (by decide) h_1681 (by decide) (by decide)) hG hP hD hS (lv_sub hl [1, 2, 3, 4, 5, 6, 7, 8, 0] rfl)
          refine lv_icmp_ne (tgt := 138) hx hb dX7_known_40 (by decide) (fun c_1714 => ?_) (fun c_1714 => ?_)
          · exact K_1709 x_1463 x_1464 x_1465 x_1466 _ _ _ (rg_w h_1559 (by decide)) hG hP hD hS (lv_sub hl [0, 1, 2, 3, 4, 5, 6, 7, 8] rfl)
          · refine lv_aload_n hx hb dX7_known_43 rfl (lv_at hl 0 rfl) ?_
            obtain ⟨w_1715, hR_w_1715, hL_w_1715, hK_w_1715, hN_w_1715, hT_w_1715⟩ := sh_a hSH 228 (ci := 7) (kd := 13) (len := 200) rfl (by decide) hL_this hK_this
            refine pg_f (v := .ref w_1715) (C := RX7) (T := TX7) (N := 15) hx hb hts (tw_i inlX7) hown hK hP hL_this hK_this (by decide) rfl 4 (by decide) (hts _ (tw_c tw_64)) (pq_hv rfl hR_w_1715) dX7_known_44 ?_
            refine lv_iload hx hb dX7_known_47 (lv_at hl 8 rfl) ?_
            refine pl_i hx hb hK hP hL_w_1715 hK_w_1715 hN_w_1715 (rg_in h_1681 (by decide)) dX7_known_49 ?_
            refine lv_topi (fun x_1716 ex_1716 => ?_)
            refine lv_iload_n hx hb dX7_known_50 rfl (lv_at hl 3 rfl) ?_
            refine lv_icmp_gt (tgt := 138) hx hb dX7_known_51 (by decide) (fun c_1717 => ?_) (fun c_1717 => ?_)
            · have h_1718 : rg a2 (-2147483648) 2147483646 := rg_lt1 c_1717 (rg_full _) (rg_full _) (by decide)
              have h_1719 : rg x_1716 (-2147483647) 2147483647 := rg_lt2 c_1717 (rg_full _) (rg_full _) (by decide)
              exact K_1709 x_1463 x_1464 x_1465 x_1466 _ _ _ (rg_w h_1559 (by decide)) hG hP hD hS (lv_sub hl [0, 1, 2, 3, 4, 5, 6, 7, 8] rfl)
            · refine lv_iload hx hb dX7_known_54 (lv_at hl 7 rfl) ?_
              refine lv_aload_n hx hb dX7_known_56 rfl (lv_at hl 0 rfl) ?_
              obtain ⟨w_1720, hR_w_1720, hL_w_1720, hK_w_1720, hN_w_1720, hT_w_1720⟩ := sh_a hSH 227 (ci := 7) (kd := 13) (len := 200) rfl (by decide) hL_this hK_this
              refine pg_f (v := .ref w_1720) (C := RX7) (T := TX7) (N := 15) hx hb hts (tw_i inlX7) hown hK hP hL_this hK_this (by decide) rfl 3 (by decide) (hts _ (tw_c tw_63)) (pq_hv rfl hR_w_1720) dX7_known_57 ?_
              refine lv_iload hx hb dX7_known_60 (lv_at hl 8 rfl) ?_
              refine pl_i hx hb hK hP hL_w_1720 hK_w_1720 hN_w_1720 (rg_in h_1681 (by decide)) dX7_known_62 ?_
              refine lv_topi (fun x_1721 ex_1721 => ?_)
              refine va_mmax hx hb (hml.trans hl.1.symm) hown (hts _ (tw_c tw_274)) (hts _ (tw_c tw_275)) (hts _ (tw_c tw_276)) (hts _ (tw_c tw_277)) (Nat.le_of_ble_eq_true rfl) (Nat.le_of_ble_eq_true rfl) (Nat.zero_le _) (Nat.zero_le _) dX7_known_63 ?_
              refine lv_topi (fun x_1722 ex_1722 => ?_)
              have h_1723 : rg x_1722 (-6000) 2147483647 := rg_of_eq ex_1722 (rg_max2 h_1559 (rg_full _) (by decide))
              refine lv_istore (lv' := [(7, .int x_1722), (0, .ref this), (1, .int a0), (2, .int a1), (3, .int a2), (4, .int x_1463), (5, .int x_1464), (6, .int x_1465), (8, .int x_1467)]) hx hb dX7_known_66 hl (by decide) rfl (fun ls hl => ?_)
              refine lv_aload_n hx hb dX7_known_68 rfl (lv_at hl 1 rfl) ?_
              obtain ⟨w_1724, hR_w_1724, hL_w_1724, hK_w_1724, hN_w_1724, hT_w_1724⟩ := sh_a hSH 226 (ci := 7) (kd := 13) (len := 200) rfl (by decide) hL_this hK_this
              refine pg_f (v := .ref w_1724) (C := RX7) (T := TX7) (N := 15) hx hb hts (tw_i inlX7) hown hK hP hL_this hK_this (by decide) rfl 2 (by decide) (hts _ (tw_c tw_62)) (pq_hv rfl hR_w_1724) dX7_known_69 ?_
              refine lv_iload hx hb dX7_known_72 (lv_at hl 8 rfl) ?_
              refine pl_i hx hb hK hP hL_w_1724 hK_w_1724 hN_w_1724 (rg_in h_1681 (by decide)) dX7_known_74 ?_
              refine lv_topi (fun x_1725 ex_1725 => ?_)
              refine lv_iload_n hx hb dX7_known_75 rfl (lv_at hl 3 rfl) ?_
              refine lv_icmp_ne (tgt := 91) hx hb dX7_known_76 (by decide) (fun c_1726 => ?_) (fun c_1726 => ?_)
              · refine lv_aload_n hx hb dX7_known_91 rfl (lv_at hl 1 rfl) ?_
                refine pg_f (v := .ref w_1724) (C := RX7) (T := TX7) (N := 15) hx hb hts (tw_i inlX7) hown hK hP hL_this hK_this (by decide) rfl 2 (by decide) (hts _ (tw_c tw_62)) (pq_hv rfl hR_w_1724) dX7_known_92 ?_
                refine lv_iload hx hb dX7_known_95 (lv_at hl 8 rfl) ?_
                refine pl_i hx hb hK hP hL_w_1724 hK_w_1724 hN_w_1724 (rg_in h_1681 (by decide)) dX7_known_97 ?_
                refine lv_tov x_1725 ex_1725.symm ?_
                refine lv_iload_n hx hb dX7_known_98 rfl (lv_at hl 3 rfl) ?_
                refine lv_iconst (v := 1) hx hb dX7_known_99 (by decide) ?_
                refine lv_isub hx hb dX7_known_100 ?_
                refine lv_topi (fun x_1727 ex_1727 => ?_)
                refine lv_icmp_ne (tgt := 116) hx hb dX7_known_101 (by decide) (fun c_1728 => ?_) (fun c_1728 => ?_)
                · refine lv_aload_n hx hb dX7_known_116 rfl (lv_at hl 1 rfl) ?_
                  refine pg_f (v := .ref w_1724) (C := RX7) (T := TX7) (N := 15) hx hb hts (tw_i inlX7) hown hK hP hL_this hK_this (by decide) rfl 2 (by decide) (hts _ (tw_c tw_62)) (pq_hv rfl hR_w_1724) dX7_known_117 ?_
                  refine lv_iload hx hb dX7_known_120 (lv_at hl 8 rfl) ?_
                  refine pl_i hx hb hK hP hL_w_1724 hK_w_1724 hN_w_1724 (rg_in h_1681 (by decide)) dX7_known_122 ?_
                  refine lv_tov x_1725 ex_1725.symm ?_
                  refine lv_iload_n hx hb dX7_known_123 rfl (lv_at hl 3 rfl) ?_
                  refine lv_iconst (v := 1) hx hb dX7_known_124 (by decide) ?_
                  refine lv_iadd hx hb dX7_known_125 ?_
                  refine lv_topi (fun x_1729 ex_1729 => ?_)
                  refine lv_icmp_ne (tgt := 138) hx hb dX7_known_126 (by decide) (fun c_1730 => ?_) (fun c_1730 => ?_)
                  · exact K_1709 x_1463 x_1464 x_1465 x_1722 _ _ _ (rg_w h_1723 (by decide)) hG hP hD hS (lv_sub hl [1, 2, 3, 4, 5, 6, 7, 0, 8] rfl)
                  · refine lv_aload_n hx hb dX7_known_129 rfl (lv_at hl 1 rfl) ?_
                    refine pg_f (v := .ref w_1720) (C := RX7) (T := TX7) (N := 15) hx hb hts (tw_i inlX7) hown hK hP hL_this hK_this (by decide) rfl 3 (by decide) (hts _ (tw_c tw_63)) (pq_hv rfl hR_w_1720) dX7_known_130 ?_
                    refine lv_iload hx hb dX7_known_133 (lv_at hl 8 rfl) ?_
                    refine pl_i hx hb hK hP hL_w_1720 hK_w_1720 hN_w_1720 (rg_in h_1681 (by decide)) dX7_known_135 ?_
                    refine lv_tov x_1721 ex_1721.symm ?_
                    refine lv_istore (lv' := [(6, .int x_1721), (7, .int x_1722), (0, .ref this), (1, .int a0), (2, .int a1), (3, .int a2), (4, .int x_1463), (5, .int x_1464), (8, .int x_1467)]) hx hb dX7_known_136 hl (by decide) rfl (fun ls hl => ?_)
                    exact K_1709 x_1463 x_1464 x_1721 x_1722 _ _ _ (rg_w h_1723 (by decide)) hG hP hD hS (lv_sub hl [2, 3, 4, 5, 6, 7, 0, 1, 8] rfl)
                · refine lv_aload_n hx hb dX7_known_104 rfl (lv_at hl 1 rfl) ?_
                  refine pg_f (v := .ref w_1720) (C := RX7) (T := TX7) (N := 15) hx hb hts (tw_i inlX7) hown hK hP hL_this hK_this (by decide) rfl 3 (by decide) (hts _ (tw_c tw_63)) (pq_hv rfl hR_w_1720) dX7_known_105 ?_
                  refine lv_iload hx hb dX7_known_108 (lv_at hl 8 rfl) ?_
                  refine pl_i hx hb hK hP hL_w_1720 hK_w_1720 hN_w_1720 (rg_in h_1681 (by decide)) dX7_known_110 ?_
                  refine lv_tov x_1721 ex_1721.symm ?_
                  refine lv_istore (lv' := [(5, .int x_1721), (7, .int x_1722), (0, .ref this), (1, .int a0), (2, .int a1), (3, .int a2), (4, .int x_1463), (6, .int x_1465), (8, .int x_1467)]) hx hb dX7_known_111 hl (by decide) rfl (fun ls hl => ?_)
                  refine lv_goto (tgt := 138) hx hb dX7_known_113 (by decide) ?_
                  exact K_1709 x_1463 x_1721 x_1465 x_1722 _ _ _ (rg_w h_1723 (by decide)) hG hP hD hS (lv_sub hl [2, 3, 4, 5, 6, 0, 7, 1, 8] rfl)
              · refine lv_aload_n hx hb dX7_known_79 rfl (lv_at hl 1 rfl) ?_
                refine pg_f (v := .ref w_1720) (C := RX7) (T := TX7) (N := 15) hx hb hts (tw_i inlX7) hown hK hP hL_this hK_this (by decide) rfl 3 (by decide) (hts _ (tw_c tw_63)) (pq_hv rfl hR_w_1720) dX7_known_80 ?_
                refine lv_iload hx hb dX7_known_83 (lv_at hl 8 rfl) ?_
                refine pl_i hx hb hK hP hL_w_1720 hK_w_1720 hN_w_1720 (rg_in h_1681 (by decide)) dX7_known_85 ?_
                refine lv_tov x_1721 ex_1721.symm ?_
                refine lv_istore (lv' := [(4, .int x_1721), (7, .int x_1722), (0, .ref this), (1, .int a0), (2, .int a1), (3, .int a2), (5, .int x_1464), (6, .int x_1465), (8, .int x_1467)]) hx hb dX7_known_86 hl (by decide) rfl (fun ls hl => ?_)
                refine lv_goto (tgt := 138) hx hb dX7_known_88 (by decide) ?_
                exact K_1709 x_1721 x_1464 x_1465 x_1722 _ _ _ (rg_w h_1723 (by decide)) hG hP hD hS (lv_sub hl [2, 3, 4, 5, 0, 6, 7, 1, 8] rfl)
    exact L_1555 _ (-6000 : Int32) (-6000 : Int32) (-6000 : Int32) (-6000 : Int32) (0 : Int32) _ _ _ (rg_w (rg_k (-6000 : Int32) (-6000) rfl) (by decide)) (rg_w (rg_k (0 : Int32) 0 rfl) (by decide)) (Nat.lt_succ_self _) hG hP hD hS (lv_sub hl [5, 6, 7, 8, 4, 3, 2, 1, 0] rfl)
  exact go _ _ _ hP hD hS hl

set_option maxHeartbeats 4000000 in
set_option maxRecDepth 100000 in
theorem s_X10_nature (l : Launch) (D : va_G) (t : pq_T) (σ : pq_S) (I : Nat → Nat → Int32) (J : Nat → Nat → Int64) (ri : Nat → Nat → Int32) (rj : Nat → Nat → Int64) (rq : Nat → Nat → Option Nat) (sz : Nat) (tg : Nat → Nat) (hSH : SH σ tg) (hG0 : GS tg σ I ri rq) (this : Nat) (a0 : Int32) (hL_this : this ∈ σ.1) (hK_this : σ.2.1 this = 10) : MetV l yX10_nature (wa yX10_nature cX10_nature 4 none) ({ frames := 3, cells := 0, slots := 0, locals := 69 }) [.ref this, .int a0] D t σ (I, J, ri, rj, rq) sz 0 0 (fun (u : pq_S × pq_M) => ∃ I' : Nat → Nat → Int32, ∃ J' : Nat → Nat → Int64, ∃ ri' : Nat → Nat → Int32, ∃ rj' : Nat → Nat → Int64, u = (σ, I', J', ri', rj', rq) ∧ GX [1074, 1073] tg σ I ri rj I' ri' rj' rq) := by
  refine Met.ofW (cc := cX10_nature) (maxL := 4) (ret := none) (by decide) rfl ?_
  intro p e s m args below meth c s₁ B hml hv
  obtain ⟨rfl, hsz, hP, hK, hD0, hN⟩ := hv
  have hx := B.exec
  have hb := B.bytes
  have hr := B.returns
  have hts := atoms_spec (ws := (wa yX10_nature cX10_nature 4 none)) B.pre
  have hown : s.vm.findClass RX10 = some m.cls := findClass_of_methodNamed B.named
  have hlocks := B.notSynchronized
  subst hsz
  have hD : va_D (pq_B t σ (I, J, ri, rj, rq) s.heap.size) (pq_P t σ (I, J, ri, rj, rq)) := hD0.self
  generalize hAe : pq_B t σ (I, J, ri, rj, rq) s.heap.size = A at hD ⊢
  have hA : ∀ q : Nat, s.heap.size ≤ q → A q := fun q h => by rw [← hAe]; exact Or.inr h
  have hS : va_S A s.heap s.heap [] := va_S.rf
  have hG : GX [1074, 1073] tg σ I ri rj I ri rj rq := ⟨hG0, fun _ _ _ => rfl, fun _ _ _ _ _ => rfl, fun _ _ _ _ _ => rfl⟩
  have hl := lv_entry ([.ref this, .int a0]) (n := 4) (Nat.le_of_ble_eq_true rfl)
  rw [lg_entry_eq]
  generalize (lg_sl ([.ref this, .int a0]) ++ List.replicate (4 - (lg_sl ([.ref this, .int a0])).length) Slot.unset).toArray = ls at hl ⊢
  have hl : lv_has ls 4 [(0, .ref this), (1, .int a0)] := hl
  refine q_gen (fun Q hQ => ?_)
  have go : ∀ (H : Heap) (locs : List Loc) (ls : Array Slot), va_P D vwCl (pq_P t σ (I, J, ri, rj, rq)) H → va_D A (pq_P t σ (I, J, ri, rj, rq)) → va_S A s.heap H locs → lv_has ls 4 [(0, .ref this), (1, .int a0)] → W p l e ({ frames := 3, cells := 0, slots := 0, locals := 69 } : Room) s m (List.toArray ([.ref this, .int a0] : List Value)) below meth c H locs 0 0 Q (F0 m 0 ls []) := by
    intro H locs ls hP hD hS hl
    refine lv_aload_n hx hb dX10_nature_0 rfl (lv_at hl 0 rfl) ?_
    refine pg_f (v := .int (I 320 this)) (C := RX10) (T := TX10) (N := 13) hx hb hts (tw_i inlX10) hown hK hP hL_this hK_this (by decide) rfl 0 (by decide) (hts _ (tw_c tw_457)) rfl dX10_nature_1 ?_
    have h_1 : rg (I 320 this) 0 600 := GX.rI hG 320 rfl
    refine lv_sipush (v := 600) hx hb dX10_nature_4 (by decide) ?_
    refine lv_icmp_lt (tgt := 11) hx hb dX10_nature_7 (by decide) (fun c_2 => ?_) (fun c_2 => ?_)
    · have h_3 : rg (I 320 this) 0 599 := rg_lt1 c_2 h_1 (rg_k (600 : Int32) 600 rfl) (by decide)
      refine lv_aload_n hx hb dX10_nature_11 rfl (lv_at hl 0 rfl) ?_
      refine pg_f (v := .int (I 320 this)) (C := RX10) (T := TX10) (N := 13) hx hb hts (tw_i inlX10) hown hK hP hL_this hK_this (by decide) rfl 0 (by decide) (hts _ (tw_c tw_457)) rfl dX10_nature_12 ?_
      refine lv_bipush (v := 12) hx hb dX10_nature_15 (by decide) ?_
      refine lv_irem hx hb dX10_nature_17 (by decide) ?_
      refine lv_topi (fun x_4 ex_4 => ?_)
      have h_5 : rg x_4 0 11 := rg_of_eq ex_4 (rg_rem h_3 rfl (by decide))
      refine lv_istore_n (lv' := [(2, .int x_4), (0, .ref this), (1, .int a0)]) hx hb dX10_nature_18 rfl hl (by decide) rfl (fun ls hl => ?_)
      refine lv_aload_n hx hb dX10_nature_19 rfl (lv_at hl 1 rfl) ?_
      obtain ⟨w_6, hR_w_6, hL_w_6, hK_w_6⟩ := sh_o hSH 326 (ci := 10) (kd := 7) rfl hL_this hK_this
      refine pg_f (v := .ref w_6) (C := RX10) (T := TX10) (N := 13) hx hb hts (tw_i inlX10) hown hK hP hL_this hK_this (by decide) rfl 6 (by decide) (hts _ (tw_c tw_38)) (pq_hv rfl hR_w_6) dX10_nature_20 ?_
      refine lv_iload_n hx hb dX10_nature_23 rfl (lv_at hl 2 rfl) ?_
      refine lv_aload_n hx hb dX10_nature_24 rfl (lv_at hl 1 rfl) ?_
      refine pg_f (v := .int (I 320 this)) (C := RX10) (T := TX10) (N := 13) hx hb hts (tw_i inlX10) hown hK hP hL_this hK_this (by decide) rfl 0 (by decide) (hts _ (tw_c tw_457)) rfl dX10_nature_25 ?_
      refine lv_aload_n hx hb dX10_nature_28 rfl (lv_at hl 1 rfl) ?_
      refine pg_f (v := .int (I 320 this)) (C := RX10) (T := TX10) (N := 13) hx hb hts (tw_i inlX10) hown hK hP hL_this hK_this (by decide) rfl 0 (by decide) (hts _ (tw_c tw_457)) rfl dX10_nature_29 ?_
      refine pk_i (va_runV (As := [.int a0, .int (I 320 this), .int (I 320 this)]) (rest := []) ⟨hx, hb, hml, hown, hts⟩ (s_X7_known l D t σ I J ri rj rq H.size tg hSH hG.1 w_6 a0 (I 320 this) (I 320 this) hL_w_6 hK_w_6) (cwV 3 hts (tw_V tw_1058 tw_271 tw_272 tw_37 tw_273) rfl rfl rfl cv_yX7_known_3 ⟨Nat.le_of_ble_eq_true rfl, Nat.le_of_ble_eq_true rfl⟩) ⟨pq_blind, pq_recv hK hP hL_w_6 hK_w_6 (by decide) rfl, pq_pre hK hN hP hD⟩ rfl rfl hl.1 rfl (lv_room (Nat.le_of_ble_eq_true rfl)) dX10_nature_32 ⟨Nat.le_of_ble_eq_true rfl, Nat.le_of_ble_eq_true rfl⟩) hD hS hA (fun x_7 σ1 μ1 H locs hw_8 hP hD hS => ?_)
      have hu_9 := hw_8
      obtain ⟨hu_9a, hu_9b⟩ := Prod.mk.inj hu_9
      rw [hu_9a, hu_9b] at hP hD
      refine lv_istore_n (lv' := [(3, .int x_7), (2, .int x_4), (0, .ref this), (1, .int a0)]) hx hb dX10_nature_35 rfl hl (by decide) rfl (fun ls hl => ?_)
      refine lv_aload_n hx hb dX10_nature_36 rfl (lv_at hl 2 rfl) ?_
      obtain ⟨w_12, hR_w_12, hL_w_12, hK_w_12⟩ := sh_o hSH 327 (ci := 10) (kd := 2) rfl hL_this hK_this
      refine pg_f (v := .ref w_12) (C := RX10) (T := TX10) (N := 13) hx hb hts (tw_i inlX10) hown hK hP hL_this hK_this (by decide) rfl 7 (by decide) (hts _ (tw_c tw_42)) (pq_hv rfl hR_w_12) dX10_nature_37 ?_
      refine lv_aload_n hx hb dX10_nature_40 rfl (lv_at hl 2 rfl) ?_
      refine pg_f (v := .ref w_6) (C := RX10) (T := TX10) (N := 13) hx hb hts (tw_i inlX10) hown hK hP hL_this hK_this (by decide) rfl 6 (by decide) (hts _ (tw_c tw_38)) (pq_hv rfl hR_w_6) dX10_nature_41 ?_
      obtain ⟨w_13, hR_w_13, hL_w_13, hK_w_13, hN_w_13, hT_w_13⟩ := sh_a hSH 231 (ci := 7) (kd := 13) (len := 12) rfl (by decide) hL_w_6 hK_w_6
      refine pg_f (v := .ref w_13) (C := RX7) (T := TX7) (N := 15) hx hb hts (tw_i inlX7) hown hK hP hL_w_6 hK_w_6 (by decide) rfl 7 (by decide) (hts _ (tw_c tw_1051)) (pq_hv rfl hR_w_13) dX10_nature_44 ?_
      refine lv_iload_n hx hb dX10_nature_47 rfl (lv_at hl 1 rfl) ?_
      refine pl_i hx hb hK hP hL_w_13 hK_w_13 hN_w_13 (rg_in h_5 (by decide)) dX10_nature_48 ?_
      refine lv_topi (fun x_14 ex_14 => ?_)
      refine lv_aload_n hx hb dX10_nature_49 rfl (lv_at hl 2 rfl) ?_
      refine pg_f (v := .ref w_6) (C := RX10) (T := TX10) (N := 13) hx hb hts (tw_i inlX10) hown hK hP hL_this hK_this (by decide) rfl 6 (by decide) (hts _ (tw_c tw_38)) (pq_hv rfl hR_w_6) dX10_nature_50 ?_
      refine pg_f (v := .int (I 234 w_6)) (C := RX7) (T := TX7) (N := 15) hx hb hts (tw_i inlX7) hown hK hP hL_w_6 hK_w_6 (by decide) rfl 10 (by decide) (hts _ (tw_c tw_1052)) rfl dX10_nature_53 ?_
      have K_56 : ∀  (x_19 : Int32) (H : Heap) (locs : List Loc) (ls : Array Slot), GX [1074, 1073] tg σ I ri rj I ri rj rq → va_P D vwCl (pq_P t σ (I, J, ri, rj, rq)) H → va_D A (pq_P t σ (I, J, ri, rj, rq)) → va_S A s.heap H locs → lv_has ls 4 [(0, .ref this), (2, .int x_4), (3, .int x_7)] → W p l e ({ frames := 3, cells := 0, slots := 0, locals := 69 } : Room) s m (List.toArray ([.ref this, .int a0] : List Value)) below meth c H locs 0 0 Q (F0 m 77 ls [.int x_19, .ref w_12]) := by
        intro x_19 H locs ls hG hP hD hS hl
        refine pk_v (va_runV (As := [.int x_19]) (rest := []) ⟨hx, hb, hml, hown, hts⟩ (s_X2_growReef l D t σ I J ri rj rq H.size tg hSH hG.1 w_12 x_19 hL_w_12 hK_w_12) (cwV 1 hts (tw_V tw_1059 tw_1060 tw_1061 tw_41 tw_1062) rfl rfl rfl cv_yX2_growReef_1 ⟨Nat.le_of_ble_eq_true rfl, Nat.le_of_ble_eq_true rfl⟩) ⟨pq_blind, pq_recv hK hP hL_w_12 hK_w_12 (by decide) rfl, pq_pre hK hN hP hD⟩ rfl rfl hl.1 rfl (lv_room (Nat.le_of_ble_eq_true rfl)) dX10_nature_77 ⟨Nat.le_of_ble_eq_true rfl, Nat.le_of_ble_eq_true rfl⟩) hD hS hA (fun σ1 μ1 H locs hw_58 hP hD hS => ?_)
        obtain ⟨ri_59, hu_60, hg_61⟩ := hw_58
        obtain ⟨hu_60a, hu_60b⟩ := Prod.mk.inj hu_60
        rw [hu_60a, hu_60b] at hP hD
        have hG := GX.tr hG hg_61 (by decide)
        refine lv_aload_n hx hb dX10_nature_80 rfl (lv_at hl 0 rfl) ?_
        refine pg_f (v := .ref w_12) (C := RX10) (T := TX10) (N := 13) hx hb hts (tw_i inlX10) hown hK hP hL_this hK_this (by decide) rfl 7 (by decide) (hts _ (tw_c tw_42)) (pq_hv rfl hR_w_12) dX10_nature_81 ?_
        refine lv_aload_n hx hb dX10_nature_84 rfl (lv_at hl 0 rfl) ?_
        refine pg_f (v := .ref w_6) (C := RX10) (T := TX10) (N := 13) hx hb hts (tw_i inlX10) hown hK hP hL_this hK_this (by decide) rfl 6 (by decide) (hts _ (tw_c tw_38)) (pq_hv rfl hR_w_6) dX10_nature_85 ?_
        obtain ⟨w_63, hR_w_63, hL_w_63, hK_w_63, hN_w_63, hT_w_63⟩ := sh_a hSH 232 (ci := 7) (kd := 13) (len := 12) rfl (by decide) hL_w_6 hK_w_6
        refine pg_f (v := .ref w_63) (C := RX7) (T := TX7) (N := 15) hx hb hts (tw_i inlX7) hown hK hP hL_w_6 hK_w_6 (by decide) rfl 8 (by decide) (hts _ (tw_c tw_1055)) (pq_hv rfl hR_w_63) dX10_nature_88 ?_
        refine lv_iload_n hx hb dX10_nature_91 rfl (lv_at hl 1 rfl) ?_
        refine pl_i hx hb hK hP hL_w_63 hK_w_63 hN_w_63 (rg_in h_5 (by decide)) dX10_nature_92 ?_
        refine lv_topi (fun x_64 ex_64 => ?_)
        refine pk_v (va_runV (As := [.int x_64]) (rest := []) ⟨hx, hb, hml, hown, hts⟩ (s_X2_walk l D t σ I J ri_59 rj rq H.size tg hSH hG.1 w_12 x_64 hL_w_12 hK_w_12) (cwV 1 hts (tw_V tw_1065 tw_1066 tw_1067 tw_41 tw_1068) rfl rfl rfl cv_yX2_walk_1 ⟨Nat.le_of_ble_eq_true rfl, Nat.le_of_ble_eq_true rfl⟩) ⟨pq_blind, pq_recv hK hP hL_w_12 hK_w_12 (by decide) rfl, pq_pre hK hN hP hD⟩ rfl rfl hl.1 rfl (lv_room (Nat.le_of_ble_eq_true rfl)) dX10_nature_93 ⟨Nat.le_of_ble_eq_true rfl, Nat.le_of_ble_eq_true rfl⟩) hD hS hA (fun σ1 μ1 H locs hw_66 hP hD hS => ?_)
        obtain ⟨I_67, ri_68, hu_69, hg_70⟩ := hw_66
        obtain ⟨hu_69a, hu_69b⟩ := Prod.mk.inj hu_69
        rw [hu_69a, hu_69b] at hP hD
        have hG := GX.tr hG hg_70 (by decide)
        refine lv_aload_n hx hb dX10_nature_96 rfl (lv_at hl 0 rfl) ?_
        refine pg_f (v := .ref w_12) (C := RX10) (T := TX10) (N := 13) hx hb hts (tw_i inlX10) hown hK hP hL_this hK_this (by decide) rfl 7 (by decide) (hts _ (tw_c tw_42)) (pq_hv rfl hR_w_12) dX10_nature_97 ?_
        refine lv_aload_n hx hb dX10_nature_100 rfl (lv_at hl 0 rfl) ?_
        refine pg_f (v := .int (I_67 320 this)) (C := RX10) (T := TX10) (N := 13) hx hb hts (tw_i inlX10) hown hK hP hL_this hK_this (by decide) rfl 0 (by decide) (hts _ (tw_c tw_457)) rfl dX10_nature_101 ?_
        have h_72 : rg (I_67 320 this) 0 599 := (by rw [hG.2.1 320 (by decide) (by decide)]; exact h_3)
        refine lv_iload_n hx hb dX10_nature_104 rfl (lv_at hl 2 rfl) ?_
        refine lv_aload_n hx hb dX10_nature_105 rfl (lv_at hl 0 rfl) ?_
        refine pg_f (v := .ref w_6) (C := RX10) (T := TX10) (N := 13) hx hb hts (tw_i inlX10) hown hK hP hL_this hK_this (by decide) rfl 6 (by decide) (hts _ (tw_c tw_38)) (pq_hv rfl hR_w_6) dX10_nature_106 ?_
        obtain ⟨w_73, hR_w_73, hL_w_73, hK_w_73, hN_w_73, hT_w_73⟩ := sh_a hSH 230 (ci := 7) (kd := 13) (len := 12) rfl (by decide) hL_w_6 hK_w_6
        refine pg_f (v := .ref w_73) (C := RX7) (T := TX7) (N := 15) hx hb hts (tw_i inlX7) hown hK hP hL_w_6 hK_w_6 (by decide) rfl 6 (by decide) (hts _ (tw_c tw_1056)) (pq_hv rfl hR_w_73) dX10_nature_109 ?_
        refine lv_iload_n hx hb dX10_nature_112 rfl (lv_at hl 1 rfl) ?_
        refine pl_i hx hb hK hP hL_w_73 hK_w_73 hN_w_73 (rg_in h_5 (by decide)) dX10_nature_113 ?_
        refine lv_topi (fun x_74 ex_74 => ?_)
        refine lv_iadd hx hb dX10_nature_114 ?_
        refine lv_topi (fun x_75 ex_75 => ?_)
        refine lv_iload_n hx hb dX10_nature_115 rfl (lv_at hl 2 rfl) ?_
        refine lv_aload_n hx hb dX10_nature_116 rfl (lv_at hl 0 rfl) ?_
        refine pg_f (v := .ref w_6) (C := RX10) (T := TX10) (N := 13) hx hb hts (tw_i inlX10) hown hK hP hL_this hK_this (by decide) rfl 6 (by decide) (hts _ (tw_c tw_38)) (pq_hv rfl hR_w_6) dX10_nature_117 ?_
        obtain ⟨w_76, hR_w_76, hL_w_76, hK_w_76, hN_w_76, hT_w_76⟩ := sh_a hSH 229 (ci := 7) (kd := 13) (len := 12) rfl (by decide) hL_w_6 hK_w_6
        refine pg_f (v := .ref w_76) (C := RX7) (T := TX7) (N := 15) hx hb hts (tw_i inlX7) hown hK hP hL_w_6 hK_w_6 (by decide) rfl 5 (by decide) (hts _ (tw_c tw_1057)) (pq_hv rfl hR_w_76) dX10_nature_120 ?_
        refine lv_iload_n hx hb dX10_nature_123 rfl (lv_at hl 1 rfl) ?_
        refine pl_i hx hb hK hP hL_w_76 hK_w_76 hN_w_76 (rg_in h_5 (by decide)) dX10_nature_124 ?_
        refine lv_topi (fun x_77 ex_77 => ?_)
        refine lv_iadd hx hb dX10_nature_125 ?_
        refine lv_topi (fun x_78 ex_78 => ?_)
        refine pk_v (va_runV (As := [.int (I_67 320 this), .int x_75, .int x_78]) (rest := []) ⟨hx, hb, hml, hown, hts⟩ (s_X2_tide l D t σ I_67 J ri_68 rj rq H.size tg hSH hG.1 w_12 (I_67 320 this) x_75 x_78 hL_w_12 hK_w_12) (cwV 3 hts (tw_V tw_1070 tw_1071 tw_1072 tw_41 tw_1073) rfl rfl rfl cv_yX2_tide_3 ⟨Nat.le_of_ble_eq_true rfl, Nat.le_of_ble_eq_true rfl⟩) ⟨pq_blind, pq_recv hK hP hL_w_12 hK_w_12 (by decide) rfl, pq_pre hK hN hP hD⟩ rfl rfl hl.1 rfl (lv_room (Nat.le_of_ble_eq_true rfl)) dX10_nature_126 ⟨Nat.le_of_ble_eq_true rfl, Nat.le_of_ble_eq_true rfl⟩) hD hS hA (fun σ1 μ1 H locs hw_80 hP hD hS => ?_)
        obtain ⟨J_81, ri_82, rj_83, hu_84, hg_85⟩ := hw_80
        obtain ⟨hu_84a, hu_84b⟩ := Prod.mk.inj hu_84
        rw [hu_84a, hu_84b] at hP hD
        have hG := GX.tr hG hg_85 (by decide)
        refine lv_aload_n hx hb dX10_nature_129 rfl (lv_at hl 0 rfl) ?_
        refine pg_f (v := .ref w_12) (C := RX10) (T := TX10) (N := 13) hx hb hts (tw_i inlX10) hown hK hP hL_this hK_this (by decide) rfl 7 (by decide) (hts _ (tw_c tw_42)) (pq_hv rfl hR_w_12) dX10_nature_130 ?_
        refine pk_v (va_runV (As := []) (rest := []) ⟨hx, hb, hml, hown, hts⟩ (s_X2_giveUpBeds l D t σ I_67 J_81 ri_82 rj_83 rq H.size tg hSH hG.1 w_12 hL_w_12 hK_w_12) (cwV 0 hts (tw_V tw_1078 tw_1079 tw_1080 tw_41 tw_1081) rfl rfl rfl cv_yX2_giveUpBeds_0 ⟨Nat.le_of_ble_eq_true rfl, Nat.le_of_ble_eq_true rfl⟩) ⟨pq_blind, pq_recv hK hP hL_w_12 hK_w_12 (by decide) rfl, pq_pre hK hN hP hD⟩ rfl rfl hl.1 rfl (lv_room (Nat.le_of_ble_eq_true rfl)) dX10_nature_133 ⟨Nat.le_of_ble_eq_true rfl, Nat.le_of_ble_eq_true rfl⟩) hD hS hA (fun σ1 μ1 H locs hw_88 hP hD hS => ?_)
        obtain ⟨ri_89, hu_90, hg_91⟩ := hw_88
        obtain ⟨hu_90a, hu_90b⟩ := Prod.mk.inj hu_90
        rw [hu_90a, hu_90b] at hP hD
        have hG := GX.tr hG hg_91 (by decide)
        subst hQ
        exact W.vret hx hb hr (fun t1 ht hW => ⟨⟨(σ, I_67, J_81, ri_89, rj_83, rq), rfl, ⟨I_67, J_81, ri_89, rj_83, rfl, hG⟩, by rw [ht]; exact hP, va_K.moved hW.alike hK, hD⟩, hS.F ht⟩) hS.2.2 dX10_nature_136
      refine lv_icmp_gt (tgt := 69) hx hb dX10_nature_56 (by decide) (fun c_93 => ?_) (fun c_93 => ?_)
      · have h_94 : rg (I 234 w_6) (-2147483648) 2147483646 := rg_lt1 c_93 (rg_full _) (rg_full _) (by decide)
        have h_95 : rg x_14 (-2147483647) 2147483647 := rg_lt2 c_93 (rg_full _) (rg_full _) (by decide)
        refine lv_aload_n hx hb dX10_nature_69 rfl (lv_at hl 2 rfl) ?_
        refine pg_f (v := .ref w_6) (C := RX10) (T := TX10) (N := 13) hx hb hts (tw_i inlX10) hown hK hP hL_this hK_this (by decide) rfl 6 (by decide) (hts _ (tw_c tw_38)) (pq_hv rfl hR_w_6) dX10_nature_70 ?_
        refine pg_f (v := .int (I 236 w_6)) (C := RX7) (T := TX7) (N := 15) hx hb hts (tw_i inlX7) hown hK hP hL_w_6 hK_w_6 (by decide) rfl 12 (by decide) (hts _ (tw_c tw_1054)) rfl dX10_nature_73 ?_
        refine lv_ineg hx hb dX10_nature_76 ?_
        refine lv_topi (fun x_96 ex_96 => ?_)
        exact K_56 x_96 _ _ _ hG hP hD hS (lv_sub hl [2, 1, 0] rfl)
      · refine lv_aload_n hx hb dX10_nature_59 rfl (lv_at hl 2 rfl) ?_
        refine pg_f (v := .ref w_6) (C := RX10) (T := TX10) (N := 13) hx hb hts (tw_i inlX10) hown hK hP hL_this hK_this (by decide) rfl 6 (by decide) (hts _ (tw_c tw_38)) (pq_hv rfl hR_w_6) dX10_nature_60 ?_
        refine pg_f (v := .int (I 235 w_6)) (C := RX7) (T := TX7) (N := 15) hx hb hts (tw_i inlX7) hown hK hP hL_w_6 hK_w_6 (by decide) rfl 11 (by decide) (hts _ (tw_c tw_1053)) rfl dX10_nature_63 ?_
        refine lv_goto (tgt := 77) hx hb dX10_nature_66 (by decide) ?_
        exact K_56 (I 235 w_6) _ _ _ hG hP hD hS (lv_sub hl [2, 1, 0] rfl)
    · have h_97 : rg (I 320 this) 600 600 := rg_le2 (nlt c_2) (rg_k (600 : Int32) 600 rfl) h_1 (by decide)
      subst hQ
      exact W.vret hx hb hr (fun t1 ht hW => ⟨⟨(σ, I, J, ri, rj, rq), rfl, ⟨I, J, ri, rj, rfl, hG⟩, by rw [ht]; exact hP, va_K.moved hW.alike hK, hD⟩, hS.F ht⟩) hS.2.2 dX10_nature_10
  exact go _ _ _ hP hD hS hl

set_option maxHeartbeats 4000000 in
set_option maxRecDepth 100000 in
theorem s_X2_countBeds_166 (l : Launch) (D : va_G) (t : pq_T) (σ : pq_S) (I : Nat → Nat → Int32) (J : Nat → Nat → Int64) (ri : Nat → Nat → Int32) (rj : Nat → Nat → Int64) (rq : Nat → Nat → Option Nat) (sz : Nat) (tg : Nat → Nat) (hSH : SH σ tg) (hG0 : GS tg σ I ri rq) (this : Nat) (a0 : Nat) (a1 : Int32) (hL_this : this ∈ σ.1) (hK_this : σ.2.1 this = 2) (hL_a0 : a0 ∈ σ.1) (hK_a0 : σ.2.1 a0 = 13) (hN_a0 : σ.2.2.2 a0 = 60) (hT_a0 : tg a0 = 166) (h_a1 : rg a1 0 55) : MetV l yX2_countBeds (wa yX2_countBeds cX2_countBeds 4 none) ({ frames := 0, cells := 0, slots := 0, locals := 0 }) [.ref this, .ref a0, .int a1] D t σ (I, J, ri, rj, rq) sz 0 0 (fun (u : pq_S × pq_M) => ∃ ri' : Nat → Nat → Int32, u = (σ, I, J, ri', rj, rq) ∧ GX [] tg σ I ri rj I ri' rj rq) := by
  refine Met.ofW (cc := cX2_countBeds) (maxL := 4) (ret := none) (by decide) rfl ?_
  intro p e s m args below meth c s₁ B hml hv
  obtain ⟨rfl, hsz, hP, hK, hD0, hN⟩ := hv
  have hx := B.exec
  have hb := B.bytes
  have hr := B.returns
  have hts := atoms_spec (ws := (wa yX2_countBeds cX2_countBeds 4 none)) B.pre
  have hown : s.vm.findClass RX2 = some m.cls := findClass_of_methodNamed B.named
  have hlocks := B.notSynchronized
  subst hsz
  have hD : va_D (pq_B t σ (I, J, ri, rj, rq) s.heap.size) (pq_P t σ (I, J, ri, rj, rq)) := hD0.self
  generalize hAe : pq_B t σ (I, J, ri, rj, rq) s.heap.size = A at hD ⊢
  have hA : ∀ q : Nat, s.heap.size ≤ q → A q := fun q h => by rw [← hAe]; exact Or.inr h
  have hS : va_S A s.heap s.heap [] := va_S.rf
  have hG : GX [] tg σ I ri rj I ri rj rq := ⟨hG0, fun _ _ _ => rfl, fun _ _ _ _ _ => rfl, fun _ _ _ _ _ => rfl⟩
  have hl := lv_entry ([.ref this, .ref a0, .int a1]) (n := 4) (Nat.le_of_ble_eq_true rfl)
  rw [lg_entry_eq]
  generalize (lg_sl ([.ref this, .ref a0, .int a1]) ++ List.replicate (4 - (lg_sl ([.ref this, .ref a0, .int a1])).length) Slot.unset).toArray = ls at hl ⊢
  have hl : lv_has ls 4 [(0, .ref this), (1, .ref a0), (2, .int a1)] := hl
  refine q_gen (fun Q hQ => ?_)
  have go : ∀ (H : Heap) (locs : List Loc) (ls : Array Slot), va_P D vwCl (pq_P t σ (I, J, ri, rj, rq)) H → va_D A (pq_P t σ (I, J, ri, rj, rq)) → va_S A s.heap H locs → lv_has ls 4 [(0, .ref this), (1, .ref a0), (2, .int a1)] → W p l e ({ frames := 0, cells := 0, slots := 0, locals := 0 } : Room) s m (List.toArray ([.ref this, .ref a0, .int a1] : List Value)) below meth c H locs 0 0 Q (F0 m 0 ls []) := by
    intro H locs ls hP hD hS hl
    refine lv_iload_n hx hb dX2_countBeds_0 rfl (lv_at hl 2 rfl) ?_
    refine lv_if_lt (tgt := 12) hx hb dX2_countBeds_1 (by decide) (fun c_1 => ?_) (fun c_1 => ?_)
    · exact (rg_empty (rg_lt1 c_1 h_a1 (rg_k (0 : Int32) 0 rfl) (lo := 0) (hi := (-1)) (by decide)) (by decide)).elim
    · refine lv_iload_n hx hb dX2_countBeds_4 rfl (lv_at hl 2 rfl) ?_
      refine lv_iconst (v := 5) hx hb dX2_countBeds_5 (by decide) ?_
      refine lv_iadd hx hb dX2_countBeds_6 ?_
      refine lv_topi (fun x_2 ex_2 => ?_)
      have h_3 : rg x_2 5 60 := rg_of_eq ex_2 (rg_add h_a1 (rg_k (5 : Int32) 5 rfl) (by decide))
      refine lv_aload_n hx hb dX2_countBeds_7 rfl (lv_at hl 1 rfl) ?_
      refine pn_i (v := 60) hx hb hK hP hL_a0 hK_a0 hN_a0 (by decide) dX2_countBeds_8 ?_
      refine lv_icmp_le (tgt := 13) hx hb dX2_countBeds_9 (by decide) (fun c_4 => ?_) (fun c_4 => ?_)
      · refine lv_iconst (v := 0) hx hb dX2_countBeds_13 (by decide) ?_
        refine lv_istore_n (lv' := [(3, .int 0), (0, .ref this), (1, .ref a0), (2, .int a1)]) hx hb dX2_countBeds_14 rfl hl (by decide) rfl (fun ls hl => ?_)
        have L_870 : ∀ (n_869 : Nat) (x_594 : Int32) (ri_595 : Nat → Nat → Int32) (H : Heap) (locs : List Loc) (ls : Array Slot), rg x_594 0 5 → (5 - (x_594).toInt).toNat < n_869 → GX [] tg σ I ri rj I ri_595 rj rq → va_P D vwCl (pq_P t σ (I, J, ri_595, rj, rq)) H → va_D A (pq_P t σ (I, J, ri_595, rj, rq)) → va_S A s.heap H locs → lv_has ls 4 [(0, .ref this), (1, .ref a0), (2, .int a1), (3, .int x_594)] → W p l e ({ frames := 0, cells := 0, slots := 0, locals := 0 } : Room) s m (List.toArray ([.ref this, .ref a0, .int a1] : List Value)) below meth c H locs 0 0 Q (F0 m 15 ls []) := by
          intro n_869
          induction n_869 with
          | zero => intro x_594 ri_595 H locs ls h_873 hm_868 hG hP hD hS hl; exact absurd hm_868 (Nat.not_lt_zero _)
          | succ n_869 ih_871 =>
            intro x_594 ri_595 H locs ls h_873 hm_868 hG hP hD hS hl
            refine lv_iload_n hx hb dX2_countBeds_15 rfl (lv_at hl 3 rfl) ?_
            refine lv_iconst (v := 5) hx hb dX2_countBeds_16 (by decide) ?_
            refine lv_icmp_ge (tgt := 32) hx hb dX2_countBeds_17 (by decide) (fun c_874 => ?_) (fun c_874 => ?_)
            · have h_875 : rg x_594 5 5 := rg_le2 c_874 (rg_k (5 : Int32) 5 rfl) h_873 (by decide)
              refine lv_iconst (v := 0) hx hb dX2_countBeds_32 (by decide) ?_
              refine lv_istore_n (lv' := [(3, .int 0), (0, .ref this), (1, .ref a0), (2, .int a1)]) hx hb dX2_countBeds_33 rfl hl (by decide) rfl (fun ls hl => ?_)
              have L_1122 : ∀ (n_1121 : Nat) (x_1101 : Int32) (ri_1102 : Nat → Nat → Int32) (H : Heap) (locs : List Loc) (ls : Array Slot), rg x_1101 0 40 → (40 - (x_1101).toInt).toNat < n_1121 → GX [] tg σ I ri rj I ri_1102 rj rq → va_P D vwCl (pq_P t σ (I, J, ri_1102, rj, rq)) H → va_D A (pq_P t σ (I, J, ri_1102, rj, rq)) → va_S A s.heap H locs → lv_has ls 4 [(0, .ref this), (1, .ref a0), (2, .int a1), (3, .int x_1101)] → W p l e ({ frames := 0, cells := 0, slots := 0, locals := 0 } : Room) s m (List.toArray ([.ref this, .ref a0, .int a1] : List Value)) below meth c H locs 0 0 Q (F0 m 34 ls []) := by
                intro n_1121
                induction n_1121 with
                | zero => intro x_1101 ri_1102 H locs ls h_1125 hm_1120 hG hP hD hS hl; exact absurd hm_1120 (Nat.not_lt_zero _)
                | succ n_1121 ih_1123 =>
                  intro x_1101 ri_1102 H locs ls h_1125 hm_1120 hG hP hD hS hl
                  refine lv_iload_n hx hb dX2_countBeds_34 rfl (lv_at hl 3 rfl) ?_
                  refine lv_aload_n hx hb dX2_countBeds_35 rfl (lv_at hl 0 rfl) ?_
                  refine pg_f (v := .int (I 65 this)) (C := RX2) (T := TX2) (N := 20) hx hb hts (tw_i inlX2) hown hK hP hL_this hK_this (by decide) rfl 1 (by decide) (hts _ (tw_c tw_222)) rfl dX2_countBeds_36 ?_
                  have h_1126 : rg (I 65 this) 0 40 := GX.rI hG 65 rfl
                  refine lv_icmp_ge (tgt := 67) hx hb dX2_countBeds_39 (by decide) (fun c_1127 => ?_) (fun c_1127 => ?_)
                  · subst hQ
                    exact W.vret hx hb hr (fun t1 ht hW => ⟨⟨(σ, I, J, ri_1102, rj, rq), rfl, ⟨ri_1102, rfl, hG⟩, by rw [ht]; exact hP, va_K.moved hW.alike hK, hD⟩, hS.F ht⟩) hS.2.2 dX2_countBeds_67
                  · have h_1128 : rg x_1101 0 39 := rg_lt1 (nle c_1127) h_1125 h_1126 (by decide)
                    have h_1129 : rg (I 65 this) 1 40 := rg_lt2 (nle c_1127) h_1125 h_1126 (by decide)
                    refine lv_aload_n hx hb dX2_countBeds_42 rfl (lv_at hl 1 rfl) ?_
                    refine lv_iload_n hx hb dX2_countBeds_43 rfl (lv_at hl 2 rfl) ?_
                    refine lv_aload_n hx hb dX2_countBeds_44 rfl (lv_at hl 0 rfl) ?_
                    obtain ⟨w_1130, hR_w_1130, hL_w_1130, hK_w_1130, hN_w_1130, hT_w_1130⟩ := sh_a hSH 69 (ci := 2) (kd := 13) (len := 40) rfl (by decide) hL_this hK_this
                    refine pg_f (v := .ref w_1130) (C := RX2) (T := TX2) (N := 20) hx hb hts (tw_i inlX2) hown hK hP hL_this hK_this (by decide) rfl 5 (by decide) (hts _ (tw_c tw_83)) (pq_hv rfl hR_w_1130) dX2_countBeds_45 ?_
                    refine lv_iload_n hx hb dX2_countBeds_48 rfl (lv_at hl 3 rfl) ?_
                    refine pl_i hx hb hK hP hL_w_1130 hK_w_1130 hN_w_1130 (rg_in h_1128 (by decide)) dX2_countBeds_49 ?_
                    refine lv_topi (fun x_1131 ex_1131 => ?_)
                    have h_1132 : rg x_1131 0 4 := rg_of_eq ex_1131 (GX.rR hG hT_w_1130 rfl)
                    refine lv_iadd hx hb dX2_countBeds_50 ?_
                    refine lv_topi (fun x_1133 ex_1133 => ?_)
                    have h_1134 : rg x_1133 0 59 := rg_of_eq ex_1133 (rg_add h_a1 h_1132 (by decide))
                    refine lv_dup2_11 hx hb dX2_countBeds_51 rfl rfl ?_
                    refine pl_i hx hb hK hP hL_a0 hK_a0 hN_a0 (rg_in h_1134 (by decide)) dX2_countBeds_52 ?_
                    refine lv_topi (fun x_1135 ex_1135 => ?_)
                    refine lv_aload_n hx hb dX2_countBeds_53 rfl (lv_at hl 0 rfl) ?_
                    obtain ⟨w_1136, hR_w_1136, hL_w_1136, hK_w_1136, hN_w_1136, hT_w_1136⟩ := sh_a hSH 76 (ci := 2) (kd := 13) (len := 40) rfl (by decide) hL_this hK_this
                    refine pg_f (v := .ref w_1136) (C := RX2) (T := TX2) (N := 20) hx hb hts (tw_i inlX2) hown hK hP hL_this hK_this (by decide) rfl 12 (by decide) (hts _ (tw_c tw_90)) (pq_hv rfl hR_w_1136) dX2_countBeds_54 ?_
                    refine lv_iload_n hx hb dX2_countBeds_57 rfl (lv_at hl 3 rfl) ?_
                    refine pl_i hx hb hK hP hL_w_1136 hK_w_1136 hN_w_1136 (rg_in h_1128 (by decide)) dX2_countBeds_58 ?_
                    refine lv_topi (fun x_1137 ex_1137 => ?_)
                    refine lv_iadd hx hb dX2_countBeds_59 ?_
                    refine lv_topi (fun x_1138 ex_1138 => ?_)
                    refine pt_i hx hb hK hP hD hS hL_a0 hK_a0 hN_a0 (rg_in h_1134 (by decide)) dX2_countBeds_60 (fun r_1139 H locs er_1139 hP hD hS => ?_)
                    have hG := GX.wR hG hSH hT_a0 rfl er_1139 (rg_w (rg_full _) (by decide)) (by decide)
                    obtain ⟨x_1140, ex_1140⟩ : ∃ y : Int32, y = x_1101 + Int32.ofInt 1 := ⟨_, rfl⟩
                    have h_1141 : rg x_1140 1 40 := rg_of_eq ex_1140 (rg_add h_1128 (rg_k (Int32.ofInt 1) 1 rfl) (by decide))
                    refine lv_iinc (v := x_1140) (lv' := [(3, .int x_1140), (0, .ref this), (1, .ref a0), (2, .int a1)]) hx hb dX2_countBeds_61 hl (k := 3) rfl ex_1140.symm (by decide) rfl (fun ls hl => ?_)
                    refine lv_goto (tgt := 34) hx hb dX2_countBeds_64 (by decide) ?_
                    exact ih_1123 x_1140 r_1139 _ _ _ (rg_w h_1141 (by decide)) (ms_up 1 hm_1120 ex_1140 rfl (by decide) h_1128 (by decide) (by decide)) hG hP hD hS (lv_sub hl [1, 2, 3, 0] rfl)
              exact L_1122 _ (0 : Int32) ri_595 _ _ _ (rg_w (rg_k (0 : Int32) 0 rfl) (by decide)) (Nat.lt_succ_self _) hG hP hD hS (lv_sub hl [1, 2, 3, 0] rfl)
            · have h_1142 : rg x_594 0 4 := rg_lt1 (nle c_874) h_873 (rg_k (5 : Int32) 5 rfl) (by decide)
              refine lv_aload_n hx hb dX2_countBeds_20 rfl (lv_at hl 1 rfl) ?_
              refine lv_iload_n hx hb dX2_countBeds_21 rfl (lv_at hl 2 rfl) ?_
              refine lv_iload_n hx hb dX2_countBeds_22 rfl (lv_at hl 3 rfl) ?_
              refine lv_iadd hx hb dX2_countBeds_23 ?_
              refine lv_topi (fun x_1143 ex_1143 => ?_)
              have h_1144 : rg x_1143 0 59 := rg_of_eq ex_1143 (rg_add h_a1 h_1142 (by decide))
              refine lv_iconst (v := 0) hx hb dX2_countBeds_24 (by decide) ?_
              refine pt_i hx hb hK hP hD hS hL_a0 hK_a0 hN_a0 (rg_in h_1144 (by decide)) dX2_countBeds_25 (fun r_1145 H locs er_1145 hP hD hS => ?_)
              have hG := GX.wR hG hSH hT_a0 rfl er_1145 (rg_w (rg_k (0 : Int32) 0 rfl) (by decide)) (by decide)
              obtain ⟨x_1146, ex_1146⟩ : ∃ y : Int32, y = x_594 + Int32.ofInt 1 := ⟨_, rfl⟩
              have h_1147 : rg x_1146 1 5 := rg_of_eq ex_1146 (rg_add h_1142 (rg_k (Int32.ofInt 1) 1 rfl) (by decide))
              refine lv_iinc (v := x_1146) (lv' := [(3, .int x_1146), (0, .ref this), (1, .ref a0), (2, .int a1)]) hx hb dX2_countBeds_26 hl (k := 3) rfl ex_1146.symm (by decide) rfl (fun ls hl => ?_)
              refine lv_goto (tgt := 15) hx hb dX2_countBeds_29 (by decide) ?_
              exact ih_871 x_1146 r_1145 _ _ _ (rg_w h_1147 (by decide)) (ms_up 1 hm_868 ex_1146 rfl (by decide) h_1142 (by decide) (by decide)) hG hP hD hS (lv_sub hl [1, 2, 3, 0] rfl)
        exact L_870 _ (0 : Int32) ri _ _ _ (rg_w (rg_k (0 : Int32) 0 rfl) (by decide)) (Nat.lt_succ_self _) hG hP hD hS (lv_sub hl [1, 2, 3, 0] rfl)
      · exact (rg_empty (rg_lt2 (nle c_4) (rg_k (60 : Int32) 60 rfl) h_3 (lo := 61) (hi := 60) (by decide)) (by decide)).elim
  exact go _ _ _ hP hD hS hl

set_option maxHeartbeats 4000000 in
set_option maxRecDepth 100000 in
theorem s_X5_lineUp (l : Launch) (D : va_G) (t : pq_T) (σ : pq_S) (I : Nat → Nat → Int32) (J : Nat → Nat → Int64) (ri : Nat → Nat → Int32) (rj : Nat → Nat → Int64) (rq : Nat → Nat → Option Nat) (sz : Nat) (tg : Nat → Nat) (hSH : SH σ tg) (hG0 : GS tg σ I ri rq) (this : Nat) (a0 : Nat) (a1 : Int32) (hL_this : this ∈ σ.1) (hK_this : σ.2.1 this = 5) (hL_a0 : a0 ∈ σ.1) (hK_a0 : σ.2.1 a0 = 0) (h_a1 : rg a1 0 5) : MetV l yX5_lineUp (wa yX5_lineUp cX5_lineUp 5 none) ({ frames := 0, cells := 0, slots := 0, locals := 0 }) [.ref this, .ref a0, .int a1] D t σ (I, J, ri, rj, rq) sz 0 0 (fun (u : pq_S × pq_M) => ∃ I' : Nat → Nat → Int32, ∃ ri' : Nat → Nat → Int32, u = (σ, I', J, ri', rj, rq) ∧ GX [] tg σ I ri rj I' ri' rj rq) := by
  refine Met.ofW (cc := cX5_lineUp) (maxL := 5) (ret := none) (by decide) rfl ?_
  intro p e s m args below meth c s₁ B hml hv
  obtain ⟨rfl, hsz, hP, hK, hD0, hN⟩ := hv
  have hx := B.exec
  have hb := B.bytes
  have hr := B.returns
  have hts := atoms_spec (ws := (wa yX5_lineUp cX5_lineUp 5 none)) B.pre
  have hown : s.vm.findClass RX5 = some m.cls := findClass_of_methodNamed B.named
  have hlocks := B.notSynchronized
  subst hsz
  have hD : va_D (pq_B t σ (I, J, ri, rj, rq) s.heap.size) (pq_P t σ (I, J, ri, rj, rq)) := hD0.self
  generalize hAe : pq_B t σ (I, J, ri, rj, rq) s.heap.size = A at hD ⊢
  have hA : ∀ q : Nat, s.heap.size ≤ q → A q := fun q h => by rw [← hAe]; exact Or.inr h
  have hS : va_S A s.heap s.heap [] := va_S.rf
  have hG : GX [] tg σ I ri rj I ri rj rq := ⟨hG0, fun _ _ _ => rfl, fun _ _ _ _ _ => rfl, fun _ _ _ _ _ => rfl⟩
  have hl := lv_entry ([.ref this, .ref a0, .int a1]) (n := 5) (Nat.le_of_ble_eq_true rfl)
  rw [lg_entry_eq]
  generalize (lg_sl ([.ref this, .ref a0, .int a1]) ++ List.replicate (5 - (lg_sl ([.ref this, .ref a0, .int a1])).length) Slot.unset).toArray = ls at hl ⊢
  have hl : lv_has ls 5 [(0, .ref this), (1, .ref a0), (2, .int a1)] := hl
  refine q_gen (fun Q hQ => ?_)
  have go : ∀ (H : Heap) (locs : List Loc) (ls : Array Slot), va_P D vwCl (pq_P t σ (I, J, ri, rj, rq)) H → va_D A (pq_P t σ (I, J, ri, rj, rq)) → va_S A s.heap H locs → lv_has ls 5 [(0, .ref this), (1, .ref a0), (2, .int a1)] → W p l e ({ frames := 0, cells := 0, slots := 0, locals := 0 } : Room) s m (List.toArray ([.ref this, .ref a0, .int a1] : List Value)) below meth c H locs 0 0 Q (F0 m 0 ls []) := by
    intro H locs ls hP hD hS hl
    refine lv_aload_n hx hb dX5_lineUp_0 rfl (lv_at hl 0 rfl) ?_
    refine lv_iconst (v := 0) hx hb dX5_lineUp_1 (by decide) ?_
    refine pp_i (v := 0) (ty := .int) (C := RX5) (T := TX5) (N := 8) hx hb hts (tw_i inlX5) tyX5 tyX5_ok nmX5 hown hK hP hD hS hL_this hK_this (by decide) rfl 4 164 (by decide) (hts _ (tw_c tw_1464)) rfl (tyX5_ok 4 (by decide)) rfl rfl (Nat.le_of_ble_eq_true rfl) (ps_164 _ _ _ _ _) dX5_lineUp_2 (fun I_1 H locs eI_1 hP hD hS => ?_)
    have hG := GX.wI hG 164 rfl eI_1 (rg_w (rg_k (0 : Int32) 0 rfl) (by decide)) (by decide)
    refine lv_iconst (v := 0) hx hb dX5_lineUp_5 (by decide) ?_
    refine lv_istore_n (lv' := [(3, .int 0), (0, .ref this), (1, .ref a0), (2, .int a1)]) hx hb dX5_lineUp_6 rfl hl (by decide) rfl (fun ls hl => ?_)
    have L_3150 : ∀ (n_3149 : Nat) (x_2698 : Int32) (I_2699 : Nat → Nat → Int32) (ri_2700 : Nat → Nat → Int32) (H : Heap) (locs : List Loc) (ls : Array Slot), rg x_2698 0 5 → (5 - (x_2698).toInt).toNat < n_3149 → GX [] tg σ I ri rj I_2699 ri_2700 rj rq → va_P D vwCl (pq_P t σ (I_2699, J, ri_2700, rj, rq)) H → va_D A (pq_P t σ (I_2699, J, ri_2700, rj, rq)) → va_S A s.heap H locs → lv_has ls 5 [(0, .ref this), (1, .ref a0), (2, .int a1), (3, .int x_2698)] → W p l e ({ frames := 0, cells := 0, slots := 0, locals := 0 } : Room) s m (List.toArray ([.ref this, .ref a0, .int a1] : List Value)) below meth c H locs 0 0 Q (F0 m 7 ls []) := by
      intro n_3149
      induction n_3149 with
      | zero => intro x_2698 I_2699 ri_2700 H locs ls h_3153 hm_3148 hG hP hD hS hl; exact absurd hm_3148 (Nat.not_lt_zero _)
      | succ n_3149 ih_3151 =>
        intro x_2698 I_2699 ri_2700 H locs ls h_3153 hm_3148 hG hP hD hS hl
        refine lv_iload_n hx hb dX5_lineUp_7 rfl (lv_at hl 3 rfl) ?_
        refine lv_iload_n hx hb dX5_lineUp_8 rfl (lv_at hl 2 rfl) ?_
        refine lv_icmp_ge (tgt := 82) hx hb dX5_lineUp_9 (by decide) (fun c_3154 => ?_) (fun c_3154 => ?_)
        · subst hQ
          exact W.vret hx hb hr (fun t1 ht hW => ⟨⟨(σ, I_2699, J, ri_2700, rj, rq), rfl, ⟨I_2699, ri_2700, rfl, hG⟩, by rw [ht]; exact hP, va_K.moved hW.alike hK, hD⟩, hS.F ht⟩) hS.2.2 dX5_lineUp_82
        · have h_3155 : rg x_2698 0 4 := rg_lt1 (nle c_3154) h_3153 h_a1 (by decide)
          have h_3156 : rg a1 1 5 := rg_lt2 (nle c_3154) h_3153 h_a1 (by decide)
          refine lv_iconst (v := 0) hx hb dX5_lineUp_12 (by decide) ?_
          refine lv_istore (lv' := [(4, .int 0), (0, .ref this), (1, .ref a0), (2, .int a1), (3, .int x_2698)]) hx hb dX5_lineUp_13 hl (by decide) rfl (fun ls hl => ?_)
          have L_3571 : ∀ (n_3570 : Nat) (x_3537 : Int32) (I_3538 : Nat → Nat → Int32) (ri_3539 : Nat → Nat → Int32) (H : Heap) (locs : List Loc) (ls : Array Slot), rg x_3537 0 40 → (40 - (x_3537).toInt).toNat < n_3570 → GX [] tg σ I ri rj I_3538 ri_3539 rj rq → va_P D vwCl (pq_P t σ (I_3538, J, ri_3539, rj, rq)) H → va_D A (pq_P t σ (I_3538, J, ri_3539, rj, rq)) → va_S A s.heap H locs → lv_has ls 5 [(0, .ref this), (1, .ref a0), (2, .int a1), (3, .int x_2698), (4, .int x_3537)] → W p l e ({ frames := 0, cells := 0, slots := 0, locals := 0 } : Room) s m (List.toArray ([.ref this, .ref a0, .int a1] : List Value)) below meth c H locs 0 0 Q (F0 m 15 ls []) := by
            intro n_3570
            induction n_3570 with
            | zero => intro x_3537 I_3538 ri_3539 H locs ls h_3574 hm_3569 hG hP hD hS hl; exact absurd hm_3569 (Nat.not_lt_zero _)
            | succ n_3570 ih_3572 =>
              intro x_3537 I_3538 ri_3539 H locs ls h_3574 hm_3569 hG hP hD hS hl
              refine lv_iload hx hb dX5_lineUp_15 (lv_at hl 4 rfl) ?_
              refine lv_aload_n hx hb dX5_lineUp_17 rfl (lv_at hl 1 rfl) ?_
              refine pg_f (v := .int (I_3538 0 a0)) (C := RX0) (T := TX0) (N := 16) hx hb hts (tw_i inlX0) hown hK hP hL_a0 hK_a0 (by decide) rfl 0 (by decide) (hts _ (tw_c tw_1470)) rfl dX5_lineUp_18 ?_
              have h_3575 : rg (I_3538 0 a0) 0 40 := GX.rI hG 0 rfl
              have K_3603 : ∀  (H : Heap) (locs : List Loc) (ls : Array Slot), GX [] tg σ I ri rj I_3538 ri_3539 rj rq → va_P D vwCl (pq_P t σ (I_3538, J, ri_3539, rj, rq)) H → va_D A (pq_P t σ (I_3538, J, ri_3539, rj, rq)) → va_S A s.heap H locs → lv_has ls 5 [(0, .ref this), (1, .ref a0), (2, .int a1), (3, .int x_2698)] → W p l e ({ frames := 0, cells := 0, slots := 0, locals := 0 } : Room) s m (List.toArray ([.ref this, .ref a0, .int a1] : List Value)) below meth c H locs 0 0 Q (F0 m 76 ls []) := by
                intro H locs ls hG hP hD hS hl
                obtain ⟨x_3604, ex_3604⟩ : ∃ y : Int32, y = x_2698 + Int32.ofInt 1 := ⟨_, rfl⟩
                have h_3605 : rg x_3604 1 5 := rg_of_eq ex_3604 (rg_add h_3155 (rg_k (Int32.ofInt 1) 1 rfl) (by decide))
                refine lv_iinc (v := x_3604) (lv' := [(3, .int x_3604), (0, .ref this), (1, .ref a0), (2, .int a1)]) hx hb dX5_lineUp_76 hl (k := 3) rfl ex_3604.symm (by decide) rfl (fun ls hl => ?_)
                refine lv_goto (tgt := 7) hx hb dX5_lineUp_79 (by decide) ?_
                exact ih_3151 x_3604 I_3538 ri_3539 _ _ _ (rg_w h_3605 (by decide)) (ms_up 1 hm_3148 ex_3604 rfl (by decide) h_3155 (by decide) (by decide)) hG hP hD hS (lv_sub hl [1, 2, 3, 0] rfl)
              refine lv_icmp_ge (tgt := 76) hx hb dX5_lineUp_21 (by decide) (fun c_3606 => ?_) (fun c_3606 => ?_)
              · exact K_3603 _ _ _ hG hP hD hS (lv_sub hl [0, 1, 2, 3] rfl)
              · have h_3607 : rg x_3537 0 39 := rg_lt1 (nle c_3606) h_3574 h_3575 (by decide)
                have h_3608 : rg (I_3538 0 a0) 1 40 := rg_lt2 (nle c_3606) h_3574 h_3575 (by decide)
                refine lv_aload_n hx hb dX5_lineUp_24 rfl (lv_at hl 0 rfl) ?_
                refine pg_f (v := .int (I_3538 164 this)) (C := RX5) (T := TX5) (N := 8) hx hb hts (tw_i inlX5) hown hK hP hL_this hK_this (by decide) rfl 4 (by decide) (hts _ (tw_c tw_1464)) rfl dX5_lineUp_25 ?_
                have h_3609 : rg (I_3538 164 this) 0 40 := GX.rI hG 164 rfl
                refine lv_bipush (v := 40) hx hb dX5_lineUp_28 (by decide) ?_
                refine lv_icmp_ge (tgt := 76) hx hb dX5_lineUp_30 (by decide) (fun c_3610 => ?_) (fun c_3610 => ?_)
                · have h_3611 : rg (I_3538 164 this) 40 40 := rg_le2 c_3610 (rg_k (40 : Int32) 40 rfl) h_3609 (by decide)
                  exact K_3603 _ _ _ hG hP hD hS (lv_sub hl [0, 1, 2, 3] rfl)
                · have h_3612 : rg (I_3538 164 this) 0 39 := rg_lt1 (nle c_3610) h_3609 (rg_k (40 : Int32) 40 rfl) (by decide)
                  refine lv_aload_n hx hb dX5_lineUp_33 rfl (lv_at hl 1 rfl) ?_
                  obtain ⟨w_3613, hR_w_3613, hL_w_3613, hK_w_3613, hN_w_3613, hT_w_3613⟩ := sh_a hSH 5 (ci := 0) (kd := 13) (len := 40) rfl (by decide) hL_a0 hK_a0
                  refine pg_f (v := .ref w_3613) (C := RX0) (T := TX0) (N := 16) hx hb hts (tw_i inlX0) hown hK hP hL_a0 hK_a0 (by decide) rfl 5 (by decide) (hts _ (tw_c tw_1459)) (pq_hv rfl hR_w_3613) dX5_lineUp_34 ?_
                  refine lv_iload hx hb dX5_lineUp_37 (lv_at hl 4 rfl) ?_
                  refine pl_i hx hb hK hP hL_w_3613 hK_w_3613 hN_w_3613 (rg_in h_3607 (by decide)) dX5_lineUp_39 ?_
                  refine lv_topi (fun x_3614 ex_3614 => ?_)
                  have h_3615 : rg x_3614 0 300 := rg_of_eq ex_3614 (GX.rR hG hT_w_3613 rfl)
                  refine lv_aload_n hx hb dX5_lineUp_40 rfl (lv_at hl 0 rfl) ?_
                  obtain ⟨w_3616, hR_w_3616, hL_w_3616, hK_w_3616, hN_w_3616, hT_w_3616⟩ := sh_a hSH 162 (ci := 5) (kd := 13) (len := 5) rfl (by decide) hL_this hK_this
                  refine pg_f (v := .ref w_3616) (C := RX5) (T := TX5) (N := 8) hx hb hts (tw_i inlX5) hown hK hP hL_this hK_this (by decide) rfl 2 (by decide) (hts _ (tw_c tw_143)) (pq_hv rfl hR_w_3616) dX5_lineUp_41 ?_
                  refine lv_iload_n hx hb dX5_lineUp_44 rfl (lv_at hl 3 rfl) ?_
                  refine pl_i hx hb hK hP hL_w_3616 hK_w_3616 hN_w_3616 (rg_in h_3155 (by decide)) dX5_lineUp_45 ?_
                  refine lv_topi (fun x_3617 ex_3617 => ?_)
                  have h_3618 : rg x_3617 0 4 := rg_of_eq ex_3617 (GX.rR hG hT_w_3616 rfl)
                  have K_3631 : ∀  (I_3626 : Nat → Nat → Int32) (ri_3627 : Nat → Nat → Int32) (H : Heap) (locs : List Loc) (ls : Array Slot), rg (I_3626 0 a0) 1 40 → GX [] tg σ I ri rj I_3626 ri_3627 rj rq → va_P D vwCl (pq_P t σ (I_3626, J, ri_3627, rj, rq)) H → va_D A (pq_P t σ (I_3626, J, ri_3627, rj, rq)) → va_S A s.heap H locs → lv_has ls 5 [(0, .ref this), (1, .ref a0), (2, .int a1), (3, .int x_2698), (4, .int x_3537)] → W p l e ({ frames := 0, cells := 0, slots := 0, locals := 0 } : Room) s m (List.toArray ([.ref this, .ref a0, .int a1] : List Value)) below meth c H locs 0 0 Q (F0 m 70 ls []) := by
                    intro I_3626 ri_3627 H locs ls h_3633 hG hP hD hS hl
                    obtain ⟨x_3634, ex_3634⟩ : ∃ y : Int32, y = x_3537 + Int32.ofInt 1 := ⟨_, rfl⟩
                    have h_3635 : rg x_3634 1 40 := rg_of_eq ex_3634 (rg_add h_3607 (rg_k (Int32.ofInt 1) 1 rfl) (by decide))
                    refine lv_iinc (v := x_3634) (lv' := [(4, .int x_3634), (0, .ref this), (1, .ref a0), (2, .int a1), (3, .int x_2698)]) hx hb dX5_lineUp_70 hl (k := 4) rfl ex_3634.symm (by decide) rfl (fun ls hl => ?_)
                    refine lv_goto (tgt := 15) hx hb dX5_lineUp_73 (by decide) ?_
                    exact ih_3572 x_3634 I_3626 ri_3627 _ _ _ (rg_w h_3635 (by decide)) (ms_up 1 hm_3569 ex_3634 rfl (by decide) h_3607 (by decide) (by decide)) hG hP hD hS (lv_sub hl [1, 2, 3, 4, 0] rfl)
                  refine lv_icmp_ne (tgt := 70) hx hb dX5_lineUp_46 (by decide) (fun c_3636 => ?_) (fun c_3636 => ?_)
                  · exact K_3631 I_3538 ri_3539 _ _ _ (rg_w h_3608 (by decide)) hG hP hD hS (lv_sub hl [0, 1, 2, 3, 4] rfl)
                  · have h_3637 : rg x_3614 0 4 := rg_and h_3615 (rg_of_eq c_3636 h_3618) (by decide)
                    refine lv_aload_n hx hb dX5_lineUp_49 rfl (lv_at hl 0 rfl) ?_
                    obtain ⟨w_3638, hR_w_3638, hL_w_3638, hK_w_3638, hN_w_3638, hT_w_3638⟩ := sh_a hSH 163 (ci := 5) (kd := 13) (len := 40) rfl (by decide) hL_this hK_this
                    refine pg_f (v := .ref w_3638) (C := RX5) (T := TX5) (N := 8) hx hb hts (tw_i inlX5) hown hK hP hL_this hK_this (by decide) rfl 3 (by decide) (hts _ (tw_c tw_144)) (pq_hv rfl hR_w_3638) dX5_lineUp_50 ?_
                    refine lv_aload_n hx hb dX5_lineUp_53 rfl (lv_at hl 0 rfl) ?_
                    refine pg_f (v := .int (I_3538 164 this)) (C := RX5) (T := TX5) (N := 8) hx hb hts (tw_i inlX5) hown hK hP hL_this hK_this (by decide) rfl 4 (by decide) (hts _ (tw_c tw_1464)) rfl dX5_lineUp_54 ?_
                    refine lv_iload hx hb dX5_lineUp_57 (lv_at hl 4 rfl) ?_
                    refine pt_i hx hb hK hP hD hS hL_w_3638 hK_w_3638 hN_w_3638 (rg_in h_3612 (by decide)) dX5_lineUp_59 (fun r_3639 H locs er_3639 hP hD hS => ?_)
                    have hG := GX.wR hG hSH hT_w_3638 rfl er_3639 (rg_w h_3607 (by decide)) (by decide)
                    refine lv_aload_n hx hb dX5_lineUp_60 rfl (lv_at hl 0 rfl) ?_
                    refine lv_dup hx hb dX5_lineUp_61 rfl ?_
                    refine pg_f (v := .int (I_3538 164 this)) (C := RX5) (T := TX5) (N := 8) hx hb hts (tw_i inlX5) hown hK hP hL_this hK_this (by decide) rfl 4 (by decide) (hts _ (tw_c tw_1464)) rfl dX5_lineUp_62 ?_
                    refine lv_iconst (v := 1) hx hb dX5_lineUp_65 (by decide) ?_
                    refine lv_iadd hx hb dX5_lineUp_66 ?_
                    refine lv_topi (fun x_3640 ex_3640 => ?_)
                    have h_3641 : rg x_3640 1 40 := rg_of_eq ex_3640 (rg_add h_3612 (rg_k (1 : Int32) 1 rfl) (by decide))
                    refine pp_i (v := x_3640) (ty := .int) (C := RX5) (T := TX5) (N := 8) hx hb hts (tw_i inlX5) tyX5 tyX5_ok nmX5 hown hK hP hD hS hL_this hK_this (by decide) rfl 4 164 (by decide) (hts _ (tw_c tw_1464)) rfl (tyX5_ok 4 (by decide)) rfl rfl (Nat.le_of_ble_eq_true rfl) (ps_164 _ _ _ _ _) dX5_lineUp_67 (fun I_3642 H locs eI_3642 hP hD hS => ?_)
                    have hG := GX.wI hG 164 rfl eI_3642 (rg_w h_3641 (by decide)) (by decide)
                    exact K_3631 I_3642 r_3639 _ _ _ (rg_w (by rw [eI_3642, pq_uf _ _ _ (by decide)]; exact h_3608) (by decide)) hG hP hD hS (lv_sub hl [0, 1, 2, 3, 4] rfl)
          exact L_3571 _ (0 : Int32) I_2699 ri_2700 _ _ _ (rg_w (rg_k (0 : Int32) 0 rfl) (by decide)) (Nat.lt_succ_self _) hG hP hD hS (lv_sub hl [1, 2, 3, 4, 0] rfl)
    exact L_3150 _ (0 : Int32) I_1 ri _ _ _ (rg_w (rg_k (0 : Int32) 0 rfl) (by decide)) (Nat.lt_succ_self _) hG hP hD hS (lv_sub hl [1, 2, 3, 0] rfl)
  exact go _ _ _ hP hD hS hl

set_option maxHeartbeats 4000000 in
set_option maxRecDepth 100000 in
theorem s_X9_fillUp (l : Launch) (D : va_G) (t : pq_T) (σ : pq_S) (I : Nat → Nat → Int32) (J : Nat → Nat → Int64) (ri : Nat → Nat → Int32) (rj : Nat → Nat → Int64) (rq : Nat → Nat → Option Nat) (sz : Nat) (tg : Nat → Nat) (hSH : SH σ tg) (hG0 : GS tg σ I ri rq) (this : Nat) (a0 : Int32) (a1 : Int64) (a2 : Int32) (hL_this : this ∈ σ.1) (hK_this : σ.2.1 this = 9) (h_a0 : rg a0 0 40) : MetV l yX9_fillUp (wa yX9_fillUp cX9_fillUp 6 none) ({ frames := 1, cells := 0, slots := 0, locals := 40 }) [.ref this, .int a0, .long a1, .int a2] D t σ (I, J, ri, rj, rq) sz 0 0 (fun (u : pq_S × pq_M) => ∃ ri' : Nat → Nat → Int32, u = (σ, I, J, ri', rj, rq) ∧ GX [] tg σ I ri rj I ri' rj rq) := by
  refine Met.ofW (cc := cX9_fillUp) (maxL := 6) (ret := none) (by decide) rfl ?_
  intro p e s m args below meth c s₁ B hml hv
  obtain ⟨rfl, hsz, hP, hK, hD0, hN⟩ := hv
  have hx := B.exec
  have hb := B.bytes
  have hr := B.returns
  have hts := atoms_spec (ws := (wa yX9_fillUp cX9_fillUp 6 none)) B.pre
  have hown : s.vm.findClass RX9 = some m.cls := findClass_of_methodNamed B.named
  have hlocks := B.notSynchronized
  subst hsz
  have hD : va_D (pq_B t σ (I, J, ri, rj, rq) s.heap.size) (pq_P t σ (I, J, ri, rj, rq)) := hD0.self
  generalize hAe : pq_B t σ (I, J, ri, rj, rq) s.heap.size = A at hD ⊢
  have hA : ∀ q : Nat, s.heap.size ≤ q → A q := fun q h => by rw [← hAe]; exact Or.inr h
  have hS : va_S A s.heap s.heap [] := va_S.rf
  have hG : GX [] tg σ I ri rj I ri rj rq := ⟨hG0, fun _ _ _ => rfl, fun _ _ _ _ _ => rfl, fun _ _ _ _ _ => rfl⟩
  have hl := lv_entry ([.ref this, .int a0, .long a1, .int a2]) (n := 6) (Nat.le_of_ble_eq_true rfl)
  rw [lg_entry_eq]
  generalize (lg_sl ([.ref this, .int a0, .long a1, .int a2]) ++ List.replicate (6 - (lg_sl ([.ref this, .int a0, .long a1, .int a2])).length) Slot.unset).toArray = ls at hl ⊢
  have hl : lv_has ls 6 [(0, .ref this), (1, .int a0), (2, .long a1), (4, .int a2)] := hl
  refine q_gen (fun Q hQ => ?_)
  have go : ∀ (H : Heap) (locs : List Loc) (ls : Array Slot), va_P D vwCl (pq_P t σ (I, J, ri, rj, rq)) H → va_D A (pq_P t σ (I, J, ri, rj, rq)) → va_S A s.heap H locs → lv_has ls 6 [(0, .ref this), (1, .int a0), (2, .long a1), (4, .int a2)] → W p l e ({ frames := 1, cells := 0, slots := 0, locals := 40 } : Room) s m (List.toArray ([.ref this, .int a0, .long a1, .int a2] : List Value)) below meth c H locs 0 0 Q (F0 m 0 ls []) := by
    intro H locs ls hP hD hS hl
    refine lv_iconst (v := 0) hx hb dX9_fillUp_0 (by decide) ?_
    refine lv_istore (lv' := [(5, .int 0), (0, .ref this), (1, .int a0), (2, .long a1), (4, .int a2)]) hx hb dX9_fillUp_1 hl (by decide) rfl (fun ls hl => ?_)
    have L_624 : ∀ (n_623 : Nat) (x_574 : Int32) (ri_575 : Nat → Nat → Int32) (H : Heap) (locs : List Loc) (ls : Array Slot), rg x_574 0 40 → (40 - (x_574).toInt).toNat < n_623 → GX [] tg σ I ri rj I ri_575 rj rq → va_P D vwCl (pq_P t σ (I, J, ri_575, rj, rq)) H → va_D A (pq_P t σ (I, J, ri_575, rj, rq)) → va_S A s.heap H locs → lv_has ls 6 [(0, .ref this), (1, .int a0), (2, .long a1), (4, .int a2), (5, .int x_574)] → W p l e ({ frames := 1, cells := 0, slots := 0, locals := 40 } : Room) s m (List.toArray ([.ref this, .int a0, .long a1, .int a2] : List Value)) below meth c H locs 0 0 Q (F0 m 3 ls []) := by
      intro n_623
      induction n_623 with
      | zero => intro x_574 ri_575 H locs ls h_627 hm_622 hG hP hD hS hl; exact absurd hm_622 (Nat.not_lt_zero _)
      | succ n_623 ih_625 =>
        intro x_574 ri_575 H locs ls h_627 hm_622 hG hP hD hS hl
        refine lv_iload hx hb dX9_fillUp_3 (lv_at hl 4 rfl) ?_
        refine lv_iload_n hx hb dX9_fillUp_5 rfl (lv_at hl 1 rfl) ?_
        refine lv_icmp_ge (tgt := 112) hx hb dX9_fillUp_6 (by decide) (fun c_628 => ?_) (fun c_628 => ?_)
        · subst hQ
          exact W.vret hx hb hr (fun t1 ht hW => ⟨⟨(σ, I, J, ri_575, rj, rq), rfl, ⟨ri_575, rfl, hG⟩, by rw [ht]; exact hP, va_K.moved hW.alike hK, hD⟩, hS.F ht⟩) hS.2.2 dX9_fillUp_112
        · have h_629 : rg x_574 0 39 := rg_lt1 (nle c_628) h_627 h_a0 (by decide)
          have h_630 : rg a0 1 40 := rg_lt2 (nle c_628) h_627 h_a0 (by decide)
          refine lv_aload_n hx hb dX9_fillUp_9 rfl (lv_at hl 0 rfl) ?_
          refine lv_iload hx hb dX9_fillUp_10 (lv_at hl 4 rfl) ?_
          refine pk_i (va_runV (As := [.int x_574]) (rest := []) ⟨hx, hb, hml, hown, hts⟩ (s_X9_isAt l D t σ I J ri_575 rj rq H.size tg hSH hG.1 this x_574 hL_this hK_this (rg_w h_629 (by decide))) (cwV 1 hts (tw_V tw_1089 tw_350 tw_351 tw_94 tw_352) rfl rfl rfl cv_yX9_isAt_1 ⟨Nat.le_of_ble_eq_true rfl, Nat.le_of_ble_eq_true rfl⟩) ⟨pq_blind, pq_recv hK hP hL_this hK_this (by decide) rfl, pq_pre hK hN hP hD⟩ rfl rfl hl.1 rfl (lv_room (Nat.le_of_ble_eq_true rfl)) dX9_fillUp_12 ⟨Nat.le_of_ble_eq_true rfl, Nat.le_of_ble_eq_true rfl⟩) hD hS hA (fun x_631 σ1 μ1 H locs hw_632 hP hD hS => ?_)
          obtain ⟨hu_633, hr_635⟩ := hw_632
          obtain ⟨hu_633a, hu_633b⟩ := Prod.mk.inj hu_633
          rw [hu_633a, hu_633b] at hP hD
          have h_636 : rg x_631 0 1 := by rcases hr_635 with ⟨q, -⟩ | ⟨q, -⟩ <;> rw [q] <;> exact ⟨by decide, by decide⟩
          have K_673 : ∀  (ri_670 : Nat → Nat → Int32) (H : Heap) (locs : List Loc) (ls : Array Slot), GX [] tg σ I ri rj I ri_670 rj rq → va_P D vwCl (pq_P t σ (I, J, ri_670, rj, rq)) H → va_D A (pq_P t σ (I, J, ri_670, rj, rq)) → va_S A s.heap H locs → lv_has ls 6 [(0, .ref this), (1, .int a0), (2, .long a1), (4, .int a2), (5, .int x_574)] → W p l e ({ frames := 1, cells := 0, slots := 0, locals := 40 } : Room) s m (List.toArray ([.ref this, .int a0, .long a1, .int a2] : List Value)) below meth c H locs 0 0 Q (F0 m 106 ls []) := by
            intro ri_670 H locs ls hG hP hD hS hl
            obtain ⟨x_674, ex_674⟩ : ∃ y : Int32, y = x_574 + Int32.ofInt 1 := ⟨_, rfl⟩
            have h_675 : rg x_674 1 40 := rg_of_eq ex_674 (rg_add h_629 (rg_k (Int32.ofInt 1) 1 rfl) (by decide))
            refine lv_iinc (v := x_674) (lv' := [(5, .int x_674), (0, .ref this), (1, .int a0), (2, .long a1), (4, .int a2)]) hx hb dX9_fillUp_106 hl (k := 4) rfl ex_674.symm (by decide) rfl (fun ls hl => ?_)
            refine lv_goto (tgt := 3) hx hb dX9_fillUp_109 (by decide) ?_
            exact ih_625 x_674 ri_670 _ _ _ (rg_w h_675 (by decide)) (ms_up 1 hm_622 ex_674 rfl (by decide) h_629 (by decide) (by decide)) hG hP hD hS (lv_sub hl [1, 2, 3, 4, 0] rfl)
          refine lv_if_ne (tgt := 21) hx hb dX9_fillUp_15 (by decide) (fun c_676 => ?_) (fun c_676 => ?_)
          · have h_677 : rg x_631 1 1 := rg_ne c_676 h_636 0 rfl (by decide)
            refine lv_lload_n hx hb dX9_fillUp_21 rfl (lv_at hl 2 rfl) ?_
            refine lv_iload hx hb dX9_fillUp_22 (lv_at hl 4 rfl) ?_
            refine pk_i (va_runSN (As := [.long a1, .int x_574]) (rest := []) ⟨hx, hb, hml, hown, hts⟩ (s_X11_hasBit l D t σ I J ri_575 rj rq H.size tg hSH hG.1 a1 x_574) ⟨va_cnB (host := "RingsUnder") 2 hts (tw_W tw_560) rfl rfl rfl (nl_14 hN) (hts _ (tw_c tw_2)) cd_yX11_hasBit_2 ⟨Nat.le_of_ble_eq_true rfl, Nat.le_of_ble_eq_true rfl⟩, hts (.static yX11_hasBit) (tw_c tq_static_yX11_hasBit), trivial⟩ ⟨pq_blind, pq_pre hK hN hP hD⟩ rfl rfl hl.1 rfl (lv_room (Nat.le_of_ble_eq_true rfl)) dX9_fillUp_24 ⟨Nat.le_of_ble_eq_true rfl, Nat.le_of_ble_eq_true rfl⟩) hD hS hA (fun x_678 σ1 μ1 H locs hw_679 hP hD hS => ?_)
            obtain ⟨hu_680, hr_682⟩ := hw_679
            obtain ⟨hu_680a, hu_680b⟩ := Prod.mk.inj hu_680
            rw [hu_680a, hu_680b] at hP hD
            have h_683 : rg x_678 0 1 := by rcases hr_682 with ⟨q, -⟩ | ⟨q, -⟩ <;> rw [q] <;> exact ⟨by decide, by decide⟩
            refine lv_if_eq (tgt := 84) hx hb dX9_fillUp_27 (by decide) (fun c_684 => ?_) (fun c_684 => ?_)
            · have h_685 : rg x_678 0 0 := rg_and h_683 (rg_of_eq c_684 (rg_k (0 : Int32) 0 rfl)) (by decide)
              refine lv_aload_n hx hb dX9_fillUp_84 rfl (lv_at hl 0 rfl) ?_
              obtain ⟨w_686, hR_w_686, hL_w_686, hK_w_686, hN_w_686, hT_w_686⟩ := sh_a hSH 290 (ci := 9) (kd := 13) (len := 40) rfl (by decide) hL_this hK_this
              refine pg_f (v := .ref w_686) (C := RX9) (T := TX9) (N := 3) hx hb hts (tw_i inlX9) hown hK hP hL_this hK_this (by decide) rfl 2 (by decide) (hts _ (tw_c tw_106)) (pq_hv rfl hR_w_686) dX9_fillUp_85 ?_
              refine lv_iload hx hb dX9_fillUp_88 (lv_at hl 4 rfl) ?_
              refine lv_bipush (v := 100) hx hb dX9_fillUp_90 (by decide) ?_
              refine lv_aload_n hx hb dX9_fillUp_92 rfl (lv_at hl 0 rfl) ?_
              refine pg_f (v := .ref w_686) (C := RX9) (T := TX9) (N := 3) hx hb hts (tw_i inlX9) hown hK hP hL_this hK_this (by decide) rfl 2 (by decide) (hts _ (tw_c tw_106)) (pq_hv rfl hR_w_686) dX9_fillUp_93 ?_
              refine lv_iload hx hb dX9_fillUp_96 (lv_at hl 4 rfl) ?_
              refine pl_i hx hb hK hP hL_w_686 hK_w_686 hN_w_686 (rg_in h_629 (by decide)) dX9_fillUp_98 ?_
              refine lv_topi (fun x_687 ex_687 => ?_)
              refine lv_bipush (v := 10) hx hb dX9_fillUp_99 (by decide) ?_
              refine lv_iadd hx hb dX9_fillUp_101 ?_
              refine lv_topi (fun x_688 ex_688 => ?_)
              refine va_mmin hx hb (hml.trans hl.1.symm) hown (hts _ (tw_c tw_1087)) (hts _ (tw_c tw_467)) (hts _ (tw_c tw_276)) (hts _ (tw_c tw_468)) (Nat.le_of_ble_eq_true rfl) (Nat.le_of_ble_eq_true rfl) (Nat.zero_le _) (Nat.zero_le _) dX9_fillUp_102 ?_
              refine lv_topi (fun x_689 ex_689 => ?_)
              have h_690 : rg x_689 (-2147483648) 100 := rg_of_eq ex_689 (rg_min2 (rg_k (100 : Int32) 100 rfl) (rg_full _) (by decide))
              refine pt_i hx hb hK hP hD hS hL_w_686 hK_w_686 hN_w_686 (rg_in h_629 (by decide)) dX9_fillUp_105 (fun r_691 H locs er_691 hP hD hS => ?_)
              have hG := GX.wR hG hSH hT_w_686 rfl er_691 (rg_w h_690 (by decide)) (by decide)
              exact K_673 r_691 _ _ _ hG hP hD hS (lv_sub hl [0, 1, 2, 3, 4] rfl)
            · have h_692 : rg x_678 1 1 := rg_ne c_684 h_683 0 rfl (by decide)
              refine lv_aload_n hx hb dX9_fillUp_30 rfl (lv_at hl 0 rfl) ?_
              obtain ⟨w_693, hR_w_693, hL_w_693, hK_w_693, hN_w_693, hT_w_693⟩ := sh_a hSH 289 (ci := 9) (kd := 13) (len := 40) rfl (by decide) hL_this hK_this
              refine pg_f (v := .ref w_693) (C := RX9) (T := TX9) (N := 3) hx hb hts (tw_i inlX9) hown hK hP hL_this hK_this (by decide) rfl 1 (by decide) (hts _ (tw_c tw_105)) (pq_hv rfl hR_w_693) dX9_fillUp_31 ?_
              refine lv_iload hx hb dX9_fillUp_34 (lv_at hl 4 rfl) ?_
              refine lv_sipush (v := 10000) hx hb dX9_fillUp_36 (by decide) ?_
              refine lv_aload_n hx hb dX9_fillUp_39 rfl (lv_at hl 0 rfl) ?_
              refine pg_f (v := .ref w_693) (C := RX9) (T := TX9) (N := 3) hx hb hts (tw_i inlX9) hown hK hP hL_this hK_this (by decide) rfl 1 (by decide) (hts _ (tw_c tw_105)) (pq_hv rfl hR_w_693) dX9_fillUp_40 ?_
              refine lv_iload hx hb dX9_fillUp_43 (lv_at hl 4 rfl) ?_
              refine pl_i hx hb hK hP hL_w_693 hK_w_693 hN_w_693 (rg_in h_629 (by decide)) dX9_fillUp_45 ?_
              refine lv_topi (fun x_694 ex_694 => ?_)
              refine lv_iload hx hb dX9_fillUp_46 (lv_at hl 3 rfl) ?_
              refine lv_aload_n hx hb dX9_fillUp_48 rfl (lv_at hl 0 rfl) ?_
              obtain ⟨w_695, hR_w_695, hL_w_695, hK_w_695, hN_w_695, hT_w_695⟩ := sh_a hSH 288 (ci := 9) (kd := 13) (len := 40) rfl (by decide) hL_this hK_this
              refine pg_f (v := .ref w_695) (C := RX9) (T := TX9) (N := 3) hx hb hts (tw_i inlX9) hown hK hP hL_this hK_this (by decide) rfl 0 (by decide) (hts _ (tw_c tw_104)) (pq_hv rfl hR_w_695) dX9_fillUp_49 ?_
              refine lv_iload hx hb dX9_fillUp_52 (lv_at hl 4 rfl) ?_
              refine pl_i hx hb hK hP hL_w_695 hK_w_695 hN_w_695 (rg_in h_629 (by decide)) dX9_fillUp_54 ?_
              refine lv_topi (fun x_696 ex_696 => ?_)
              refine lv_imul hx hb dX9_fillUp_55 ?_
              refine lv_topi (fun x_697 ex_697 => ?_)
              refine lv_iadd hx hb dX9_fillUp_56 ?_
              refine lv_topi (fun x_698 ex_698 => ?_)
              refine va_mmin hx hb (hml.trans hl.1.symm) hown (hts _ (tw_c tw_1087)) (hts _ (tw_c tw_467)) (hts _ (tw_c tw_276)) (hts _ (tw_c tw_468)) (Nat.le_of_ble_eq_true rfl) (Nat.le_of_ble_eq_true rfl) (Nat.zero_le _) (Nat.zero_le _) dX9_fillUp_57 ?_
              refine lv_topi (fun x_699 ex_699 => ?_)
              have h_700 : rg x_699 (-2147483648) 10000 := rg_of_eq ex_699 (rg_min2 (rg_k (10000 : Int32) 10000 rfl) (rg_full _) (by decide))
              refine pt_i hx hb hK hP hD hS hL_w_693 hK_w_693 hN_w_693 (rg_in h_629 (by decide)) dX9_fillUp_60 (fun r_701 H locs er_701 hP hD hS => ?_)
              have hG := GX.wR hG hSH hT_w_693 rfl er_701 (rg_w h_700 (by decide)) (by decide)
              refine lv_aload_n hx hb dX9_fillUp_61 rfl (lv_at hl 0 rfl) ?_
              obtain ⟨w_702, hR_w_702, hL_w_702, hK_w_702, hN_w_702, hT_w_702⟩ := sh_a hSH 290 (ci := 9) (kd := 13) (len := 40) rfl (by decide) hL_this hK_this
              refine pg_f (v := .ref w_702) (C := RX9) (T := TX9) (N := 3) hx hb hts (tw_i inlX9) hown hK hP hL_this hK_this (by decide) rfl 2 (by decide) (hts _ (tw_c tw_106)) (pq_hv rfl hR_w_702) dX9_fillUp_62 ?_
              refine lv_iload hx hb dX9_fillUp_65 (lv_at hl 4 rfl) ?_
              refine lv_iconst (v := 0) hx hb dX9_fillUp_67 (by decide) ?_
              refine lv_aload_n hx hb dX9_fillUp_68 rfl (lv_at hl 0 rfl) ?_
              refine pg_f (v := .ref w_702) (C := RX9) (T := TX9) (N := 3) hx hb hts (tw_i inlX9) hown hK hP hL_this hK_this (by decide) rfl 2 (by decide) (hts _ (tw_c tw_106)) (pq_hv rfl hR_w_702) dX9_fillUp_69 ?_
              refine lv_iload hx hb dX9_fillUp_72 (lv_at hl 4 rfl) ?_
              refine pl_i hx hb hK hP hL_w_702 hK_w_702 hN_w_702 (rg_in h_629 (by decide)) dX9_fillUp_74 ?_
              refine lv_topi (fun x_703 ex_703 => ?_)
              refine lv_iconst (v := 1) hx hb dX9_fillUp_75 (by decide) ?_
              refine lv_isub hx hb dX9_fillUp_76 ?_
              refine lv_topi (fun x_704 ex_704 => ?_)
              refine va_mmax hx hb (hml.trans hl.1.symm) hown (hts _ (tw_c tw_1088)) (hts _ (tw_c tw_275)) (hts _ (tw_c tw_276)) (hts _ (tw_c tw_277)) (Nat.le_of_ble_eq_true rfl) (Nat.le_of_ble_eq_true rfl) (Nat.zero_le _) (Nat.zero_le _) dX9_fillUp_77 ?_
              refine lv_topi (fun x_705 ex_705 => ?_)
              have h_706 : rg x_705 0 2147483647 := rg_of_eq ex_705 (rg_max2 (rg_k (0 : Int32) 0 rfl) (rg_full _) (by decide))
              refine pt_i hx hb hK hP hD hS hL_w_702 hK_w_702 hN_w_702 (rg_in h_629 (by decide)) dX9_fillUp_80 (fun r_707 H locs er_707 hP hD hS => ?_)
              have hG := GX.wR hG hSH hT_w_702 rfl er_707 (rg_w h_706 (by decide)) (by decide)
              refine lv_goto (tgt := 106) hx hb dX9_fillUp_81 (by decide) ?_
              exact K_673 r_707 _ _ _ hG hP hD hS (lv_sub hl [0, 1, 2, 3, 4] rfl)
          · have h_708 : rg x_631 0 0 := rg_and h_636 (rg_of_eq c_676 (rg_k (0 : Int32) 0 rfl)) (by decide)
            refine lv_goto (tgt := 106) hx hb dX9_fillUp_18 (by decide) ?_
            exact K_673 ri_575 _ _ _ hG hP hD hS (lv_sub hl [0, 1, 2, 3, 4] rfl)
    exact L_624 _ (0 : Int32) ri _ _ _ (rg_w (rg_k (0 : Int32) 0 rfl) (by decide)) (Nat.lt_succ_self _) hG hP hD hS (lv_sub hl [1, 2, 3, 4, 0] rfl)
  exact go _ _ _ hP hD hS hl
