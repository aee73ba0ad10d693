theorem dX12_w3_0 : decode cX12_w3 0 = .ok (.iload_n 0, 1) := oc_26 (by decide +kernel)
theorem dX12_w3_1 : decode cX12_w3 1 = .ok (.i2l, 1) := oc_133 (by decide +kernel)
theorem dX12_w3_2 : decode cX12_w3 2 = .ok (.bipush 8, 2) := oc_16 (a := 8) (by decide +kernel)
theorem dX12_w3_4 : decode cX12_w3 4 = .ok (.lshl, 1) := oc_121 (by decide +kernel)
theorem dX12_w3_5 : decode cX12_w3 5 = .ok (.iload_n 1, 1) := oc_27 (by decide +kernel)
theorem dX12_w3_6 : decode cX12_w3 6 = .ok (.i2l, 1) := oc_133 (by decide +kernel)
theorem dX12_w3_7 : decode cX12_w3 7 = .ok (.lor, 1) := oc_129 (by decide +kernel)
theorem dX12_w3_8 : decode cX12_w3 8 = .ok (.bipush 8, 2) := oc_16 (a := 8) (by decide +kernel)
theorem dX12_w3_10 : decode cX12_w3 10 = .ok (.lshl, 1) := oc_121 (by decide +kernel)
theorem dX12_w3_11 : decode cX12_w3 11 = .ok (.iload_n 2, 1) := oc_28 (by decide +kernel)
theorem dX12_w3_12 : decode cX12_w3 12 = .ok (.i2l, 1) := oc_133 (by decide +kernel)
theorem dX12_w3_13 : decode cX12_w3 13 = .ok (.lor, 1) := oc_129 (by decide +kernel)
theorem dX12_w3_14 : decode cX12_w3 14 = .ok (.lreturn, 1) := oc_173 (by decide +kernel)
theorem dX12_w4_0 : decode cX12_w4 0 = .ok (.iload_n 0, 1) := oc_26 (by decide +kernel)
theorem dX12_w4_1 : decode cX12_w4 1 = .ok (.iload_n 1, 1) := oc_27 (by decide +kernel)
theorem dX12_w4_2 : decode cX12_w4 2 = .ok (.iload_n 2, 1) := oc_28 (by decide +kernel)
theorem tw_864 : Cond.methodLink RX12 160 yX12_w3 ∈ wsL_law := sg_37 _ (List.mem_of_getElem? (i := 0) rfl)
theorem tw_865 : Cond.static yX12_w3 ∈ wsL_law := sg_37 _ (List.mem_of_getElem? (i := 1) rfl)
theorem tw_5 : Cond.initialized RX12 ∈ wsL_law := sg_1 _ (List.mem_of_getElem? (i := 5) rfl)
theorem tw_866 : Cond.code yX12_w3 cX12_w3 3 (some .long) ∈ wsL_law := sg_37 _ (List.mem_of_getElem? (i := 2) rfl)
theorem dX12_w4_3 : decode cX12_w4 3 = .ok (.invokestatic 160, 3) := oc_184 (a := 0) (b := 160) (by decide +kernel)
theorem dX12_w4_6 : decode cX12_w4 6 = .ok (.bipush 8, 2) := oc_16 (a := 8) (by decide +kernel)
theorem dX12_w4_8 : decode cX12_w4 8 = .ok (.lshl, 1) := oc_121 (by decide +kernel)
theorem dX12_w4_9 : decode cX12_w4 9 = .ok (.iload_n 3, 1) := oc_29 (by decide +kernel)
theorem dX12_w4_10 : decode cX12_w4 10 = .ok (.i2l, 1) := oc_133 (by decide +kernel)
theorem dX12_w4_11 : decode cX12_w4 11 = .ok (.lor, 1) := oc_129 (by decide +kernel)
theorem dX12_w4_12 : decode cX12_w4 12 = .ok (.lreturn, 1) := oc_173 (by decide +kernel)
theorem dX12_w5_0 : decode cX12_w5 0 = .ok (.iload_n 0, 1) := oc_26 (by decide +kernel)
theorem dX12_w5_1 : decode cX12_w5 1 = .ok (.iload_n 1, 1) := oc_27 (by decide +kernel)
theorem dX12_w5_2 : decode cX12_w5 2 = .ok (.iload_n 2, 1) := oc_28 (by decide +kernel)
theorem dX12_w5_3 : decode cX12_w5 3 = .ok (.iload_n 3, 1) := oc_29 (by decide +kernel)
theorem tw_861 : Cond.methodLink RX12 164 yX12_w4 ∈ wsL_law := sg_36 _ (List.mem_of_getElem? (i := 21) rfl)
theorem tw_862 : Cond.static yX12_w4 ∈ wsL_law := sg_36 _ (List.mem_of_getElem? (i := 22) rfl)
theorem tw_863 : Cond.code yX12_w4 cX12_w4 4 (some .long) ∈ wsL_law := sg_36 _ (List.mem_of_getElem? (i := 23) rfl)
theorem dX12_w5_4 : decode cX12_w5 4 = .ok (.invokestatic 164, 3) := oc_184 (a := 0) (b := 164) (by decide +kernel)
theorem dX12_w5_7 : decode cX12_w5 7 = .ok (.bipush 8, 2) := oc_16 (a := 8) (by decide +kernel)
theorem dX12_w5_9 : decode cX12_w5 9 = .ok (.lshl, 1) := oc_121 (by decide +kernel)
theorem dX12_w5_10 : decode cX12_w5 10 = .ok (.iload 4, 2) := oc_21 (by decide +kernel)
theorem dX12_w5_12 : decode cX12_w5 12 = .ok (.i2l, 1) := oc_133 (by decide +kernel)
theorem dX12_w5_13 : decode cX12_w5 13 = .ok (.lor, 1) := oc_129 (by decide +kernel)
theorem dX12_w5_14 : decode cX12_w5 14 = .ok (.lreturn, 1) := oc_173 (by decide +kernel)
theorem dX12_w6_0 : decode cX12_w6 0 = .ok (.iload_n 0, 1) := oc_26 (by decide +kernel)
theorem dX12_w6_1 : decode cX12_w6 1 = .ok (.iload_n 1, 1) := oc_27 (by decide +kernel)
theorem dX12_w6_2 : decode cX12_w6 2 = .ok (.iload_n 2, 1) := oc_28 (by decide +kernel)
theorem dX12_w6_3 : decode cX12_w6 3 = .ok (.iload_n 3, 1) := oc_29 (by decide +kernel)
theorem dX12_w6_4 : decode cX12_w6 4 = .ok (.iload 4, 2) := oc_21 (by decide +kernel)
theorem tw_858 : Cond.methodLink RX12 168 yX12_w5 ∈ wsL_law := sg_36 _ (List.mem_of_getElem? (i := 18) rfl)
theorem tw_859 : Cond.static yX12_w5 ∈ wsL_law := sg_36 _ (List.mem_of_getElem? (i := 19) rfl)
theorem tw_860 : Cond.code yX12_w5 cX12_w5 5 (some .long) ∈ wsL_law := sg_36 _ (List.mem_of_getElem? (i := 20) rfl)
theorem dX12_w6_6 : decode cX12_w6 6 = .ok (.invokestatic 168, 3) := oc_184 (a := 0) (b := 168) (by decide +kernel)
theorem dX12_w6_9 : decode cX12_w6 9 = .ok (.bipush 8, 2) := oc_16 (a := 8) (by decide +kernel)
theorem dX12_w6_11 : decode cX12_w6 11 = .ok (.lshl, 1) := oc_121 (by decide +kernel)
theorem dX12_w6_12 : decode cX12_w6 12 = .ok (.iload 5, 2) := oc_21 (by decide +kernel)
theorem dX12_w6_14 : decode cX12_w6 14 = .ok (.i2l, 1) := oc_133 (by decide +kernel)
theorem dX12_w6_15 : decode cX12_w6 15 = .ok (.lor, 1) := oc_129 (by decide +kernel)
theorem dX12_w6_16 : decode cX12_w6 16 = .ok (.lreturn, 1) := oc_173 (by decide +kernel)
theorem dX12_isIn_0 : decode cX12_isIn 0 = .ok (.iload_n 0, 1) := oc_26 (by decide +kernel)
theorem dX12_isIn_1 : decode cX12_isIn 1 = .ok (.iload_n 1, 1) := oc_27 (by decide +kernel)
theorem dX12_isIn_2 : decode cX12_isIn 2 = .ok (.if_icmp .lt 12, 3) := oc_161 (a := 0) (b := 12) (by decide +kernel)
theorem dX12_isIn_14 : decode cX12_isIn 14 = .ok (.iconst 0, 1) := oc_3 (by decide +kernel)
theorem dX12_isIn_15 : decode cX12_isIn 15 = .ok (.ireturn, 1) := oc_172 (by decide +kernel)
theorem dX12_isIn_5 : decode cX12_isIn 5 = .ok (.iload_n 0, 1) := oc_26 (by decide +kernel)
theorem dX12_isIn_6 : decode cX12_isIn 6 = .ok (.iload_n 2, 1) := oc_28 (by decide +kernel)
theorem dX12_isIn_7 : decode cX12_isIn 7 = .ok (.if_icmp .gt 7, 3) := oc_163 (a := 0) (b := 7) (by decide +kernel)
theorem dX12_isIn_10 : decode cX12_isIn 10 = .ok (.iconst 1, 1) := oc_4 (by decide +kernel)
theorem dX12_isIn_11 : decode cX12_isIn 11 = .ok (.goto 4, 3) := oc_167 (a := 0) (b := 4) (by decide +kernel)
theorem dX12_isDigit_0 : decode cX12_isDigit 0 = .ok (.iload_n 0, 1) := oc_26 (by decide +kernel)
theorem dX12_isDigit_1 : decode cX12_isDigit 1 = .ok (.bipush 48, 2) := oc_16 (a := 48) (by decide +kernel)
theorem dX12_isDigit_3 : decode cX12_isDigit 3 = .ok (.bipush 57, 2) := oc_16 (a := 57) (by decide +kernel)
theorem tw_235 : Cond.methodLink RX12 62 yX12_isIn ∈ wsL_law := sg_10 _ (List.mem_of_getElem? (i := 19) rfl)
theorem tw_236 : Cond.static yX12_isIn ∈ wsL_law := sg_10 _ (List.mem_of_getElem? (i := 20) rfl)
theorem tw_237 : Cond.code yX12_isIn cX12_isIn 3 (some .boolean) ∈ wsL_law := sg_10 _ (List.mem_of_getElem? (i := 21) rfl)
theorem dX12_isDigit_5 : decode cX12_isDigit 5 = .ok (.invokestatic 62, 3) := oc_184 (a := 0) (b := 62) (by decide +kernel)
theorem dX12_isDigit_8 : decode cX12_isDigit 8 = .ok (.ireturn, 1) := oc_172 (by decide +kernel)
theorem dX12_isLetter_0 : decode cX12_isLetter 0 = .ok (.iload_n 0, 1) := oc_26 (by decide +kernel)
theorem dX12_isLetter_1 : decode cX12_isLetter 1 = .ok (.bipush 97, 2) := oc_16 (a := 97) (by decide +kernel)
theorem dX12_isLetter_3 : decode cX12_isLetter 3 = .ok (.bipush 122, 2) := oc_16 (a := 122) (by decide +kernel)
theorem dX12_isLetter_5 : decode cX12_isLetter 5 = .ok (.invokestatic 62, 3) := oc_184 (a := 0) (b := 62) (by decide +kernel)
theorem dX12_isLetter_8 : decode cX12_isLetter 8 = .ok (.ifCond .ne 14, 3) := oc_154 (a := 0) (b := 14) (by decide +kernel)
theorem dX12_isLetter_22 : decode cX12_isLetter 22 = .ok (.iconst 1, 1) := oc_4 (by decide +kernel)
theorem dX12_isLetter_23 : decode cX12_isLetter 23 = .ok (.goto 4, 3) := oc_167 (a := 0) (b := 4) (by decide +kernel)
theorem dX12_isLetter_27 : decode cX12_isLetter 27 = .ok (.ireturn, 1) := oc_172 (by decide +kernel)
theorem dX12_isLetter_11 : decode cX12_isLetter 11 = .ok (.iload_n 0, 1) := oc_26 (by decide +kernel)
theorem dX12_isLetter_12 : decode cX12_isLetter 12 = .ok (.bipush 65, 2) := oc_16 (a := 65) (by decide +kernel)
theorem dX12_isLetter_14 : decode cX12_isLetter 14 = .ok (.bipush 90, 2) := oc_16 (a := 90) (by decide +kernel)
theorem dX12_isLetter_16 : decode cX12_isLetter 16 = .ok (.invokestatic 62, 3) := oc_184 (a := 0) (b := 62) (by decide +kernel)
theorem dX12_isLetter_19 : decode cX12_isLetter 19 = .ok (.ifCond .eq 7, 3) := oc_153 (a := 0) (b := 7) (by decide +kernel)
theorem dX12_isLetter_26 : decode cX12_isLetter 26 = .ok (.iconst 0, 1) := oc_3 (by decide +kernel)
theorem dX12_see_0 : decode cX12_see 0 = .ok (.iload_n 1, 1) := oc_27 (by decide +kernel)
theorem dX12_see_1 : decode cX12_see 1 = .ok (.aload_n 0, 1) := oc_42 (by decide +kernel)
theorem tw_631 : Cond.fieldLink RX12 127 "RingsUnderModel" "taped" "I" ∈ wsL_law := sg_27 _ (List.mem_of_getElem? (i := 7) rfl)
theorem dX12_see_2 : decode cX12_see 2 = .ok (.getfield 127, 3) := oc_180 (a := 0) (b := 127) (by decide +kernel)
theorem dX12_see_5 : decode cX12_see 5 = .ok (.if_icmp .ge 12, 3) := oc_162 (a := 0) (b := 12) (by decide +kernel)
theorem dX12_see_17 : decode cX12_see 17 = .ok (.iconst (-1), 1) := oc_2 (by decide +kernel)
theorem dX12_see_18 : decode cX12_see 18 = .ok (.ireturn, 1) := oc_172 (by decide +kernel)
theorem dX12_see_8 : decode cX12_see 8 = .ok (.aload_n 0, 1) := oc_42 (by decide +kernel)
theorem tw_179 : Cond.fieldLink RX12 19 "RingsUnderModel" "tape" "[I" ∈ wsL_law := sg_8 _ (List.mem_of_getElem? (i := 11) rfl)
theorem dX12_see_9 : decode cX12_see 9 = .ok (.getfield 19, 3) := oc_180 (a := 0) (b := 19) (by decide +kernel)
theorem dX12_see_12 : decode cX12_see 12 = .ok (.iload_n 1, 1) := oc_27 (by decide +kernel)
theorem dX12_see_13 : decode cX12_see 13 = .ok (.iaload, 1) := oc_46 (by decide +kernel)
theorem dX12_see_14 : decode cX12_see 14 = .ok (.goto 4, 3) := oc_167 (a := 0) (b := 4) (by decide +kernel)
theorem dX12_nextToken_0 : decode cX12_nextToken 0 = .ok (.aload_n 0, 1) := oc_42 (by decide +kernel)
theorem dX12_nextToken_1 : decode cX12_nextToken 1 = .ok (.aload_n 0, 1) := oc_42 (by decide +kernel)
theorem tw_830 : Cond.fieldLink RX12 134 "RingsUnderModel" "at" "I" ∈ wsL_law := sg_35 _ (List.mem_of_getElem? (i := 14) rfl)
theorem dX12_nextToken_2 : decode cX12_nextToken 2 = .ok (.getfield 134, 3) := oc_180 (a := 0) (b := 134) (by decide +kernel)
theorem tw_839 : Cond.methodLink RX12 137 yX12_see ∈ wsL_law := sg_35 _ (List.mem_of_getElem? (i := 23) rfl)
theorem tw_840 : Cond.instanceMethod yX12_see ∈ wsL_law := sg_36 _ (List.mem_of_getElem? (i := 0) rfl)
theorem tw_841 : Cond.selects RX12 yX12_see yX12_see ∈ wsL_law := sg_36 _ (List.mem_of_getElem? (i := 1) rfl)
theorem tw_842 : Cond.code yX12_see cX12_see 2 (some .int) ∈ wsL_law := sg_36 _ (List.mem_of_getElem? (i := 2) rfl)
theorem dX12_nextToken_5 : decode cX12_nextToken 5 = .ok (.invokevirtual 137, 3) := oc_182 (a := 0) (b := 137) (by decide +kernel)
theorem dX12_nextToken_8 : decode cX12_nextToken 8 = .ok (.bipush 32, 2) := oc_16 (a := 32) (by decide +kernel)
theorem dX12_nextToken_10 : decode cX12_nextToken 10 = .ok (.if_icmp .eq 16, 3) := oc_159 (a := 0) (b := 16) (by decide +kernel)
theorem dX12_nextToken_26 : decode cX12_nextToken 26 = .ok (.aload_n 0, 1) := oc_42 (by decide +kernel)
theorem dX12_nextToken_27 : decode cX12_nextToken 27 = .ok (.dup, 1) := oc_89 (by decide +kernel)
theorem dX12_nextToken_28 : decode cX12_nextToken 28 = .ok (.getfield 134, 3) := oc_180 (a := 0) (b := 134) (by decide +kernel)
theorem dX12_nextToken_31 : decode cX12_nextToken 31 = .ok (.iconst 1, 1) := oc_4 (by decide +kernel)
theorem dX12_nextToken_32 : decode cX12_nextToken 32 = .ok (.iadd, 1) := oc_96 (by decide +kernel)
theorem dX12_nextToken_33 : decode cX12_nextToken 33 = .ok (.putfield 134, 3) := oc_181 (a := 0) (b := 134) (by decide +kernel)
theorem dX12_nextToken_36 : decode cX12_nextToken 36 = .ok (.goto (-36), 3) := oc_167 (a := 255) (b := 220) (by decide +kernel)
theorem dX12_nextToken_13 : decode cX12_nextToken 13 = .ok (.aload_n 0, 1) := oc_42 (by decide +kernel)
theorem dX12_nextToken_14 : decode cX12_nextToken 14 = .ok (.aload_n 0, 1) := oc_42 (by decide +kernel)
theorem dX12_nextToken_15 : decode cX12_nextToken 15 = .ok (.getfield 134, 3) := oc_180 (a := 0) (b := 134) (by decide +kernel)
theorem dX12_nextToken_18 : decode cX12_nextToken 18 = .ok (.invokevirtual 137, 3) := oc_182 (a := 0) (b := 137) (by decide +kernel)
theorem dX12_nextToken_21 : decode cX12_nextToken 21 = .ok (.bipush 10, 2) := oc_16 (a := 10) (by decide +kernel)
theorem dX12_nextToken_23 : decode cX12_nextToken 23 = .ok (.if_icmp .ne 16, 3) := oc_160 (a := 0) (b := 16) (by decide +kernel)
theorem dX12_nextToken_39 : decode cX12_nextToken 39 = .ok (.aload_n 0, 1) := oc_42 (by decide +kernel)
theorem dX12_nextToken_40 : decode cX12_nextToken 40 = .ok (.aload_n 0, 1) := oc_42 (by decide +kernel)
theorem dX12_nextToken_41 : decode cX12_nextToken 41 = .ok (.getfield 134, 3) := oc_180 (a := 0) (b := 134) (by decide +kernel)
theorem tw_820 : Cond.fieldLink RX12 140 "RingsUnderModel" "place" "I" ∈ wsL_law := sg_35 _ (List.mem_of_getElem? (i := 4) rfl)
theorem dX12_nextToken_44 : decode cX12_nextToken 44 = .ok (.putfield 140, 3) := oc_181 (a := 0) (b := 140) (by decide +kernel)
theorem dX12_nextToken_47 : decode cX12_nextToken 47 = .ok (.aload_n 0, 1) := oc_42 (by decide +kernel)
theorem dX12_nextToken_48 : decode cX12_nextToken 48 = .ok (.aload_n 0, 1) := oc_42 (by decide +kernel)
theorem dX12_nextToken_49 : decode cX12_nextToken 49 = .ok (.getfield 134, 3) := oc_180 (a := 0) (b := 134) (by decide +kernel)
theorem dX12_nextToken_52 : decode cX12_nextToken 52 = .ok (.invokevirtual 137, 3) := oc_182 (a := 0) (b := 137) (by decide +kernel)
theorem dX12_nextToken_55 : decode cX12_nextToken 55 = .ok (.istore_n 1, 1) := oc_60 (by decide +kernel)
theorem dX12_nextToken_56 : decode cX12_nextToken 56 = .ok (.iload_n 1, 1) := oc_27 (by decide +kernel)
theorem dX12_nextToken_57 : decode cX12_nextToken 57 = .ok (.ifCond .ge 11, 3) := oc_156 (a := 0) (b := 11) (by decide +kernel)
theorem dX12_nextToken_68 : decode cX12_nextToken 68 = .ok (.iload_n 1, 1) := oc_27 (by decide +kernel)
theorem tw_843 : Cond.methodLink RX12 146 yX12_isDigit ∈ wsL_law := sg_36 _ (List.mem_of_getElem? (i := 3) rfl)
theorem tw_844 : Cond.static yX12_isDigit ∈ wsL_law := sg_36 _ (List.mem_of_getElem? (i := 4) rfl)
theorem tw_845 : Cond.code yX12_isDigit cX12_isDigit 1 (some .boolean) ∈ wsL_law := sg_36 _ (List.mem_of_getElem? (i := 5) rfl)
theorem dX12_nextToken_69 : decode cX12_nextToken 69 = .ok (.invokestatic 146, 3) := oc_184 (a := 0) (b := 146) (by decide +kernel)
theorem dX12_nextToken_72 : decode cX12_nextToken 72 = .ok (.ifCond .eq 72, 3) := oc_153 (a := 0) (b := 72) (by decide +kernel)
theorem dX12_nextToken_144 : decode cX12_nextToken 144 = .ok (.iload_n 1, 1) := oc_27 (by decide +kernel)
theorem tw_846 : Cond.methodLink RX12 153 yX12_isLetter ∈ wsL_law := sg_36 _ (List.mem_of_getElem? (i := 6) rfl)
theorem tw_847 : Cond.static yX12_isLetter ∈ wsL_law := sg_36 _ (List.mem_of_getElem? (i := 7) rfl)
theorem tw_848 : Cond.code yX12_isLetter cX12_isLetter 1 (some .boolean) ∈ wsL_law := sg_36 _ (List.mem_of_getElem? (i := 8) rfl)
theorem dX12_nextToken_145 : decode cX12_nextToken 145 = .ok (.invokestatic 153, 3) := oc_184 (a := 0) (b := 153) (by decide +kernel)
theorem dX12_nextToken_148 : decode cX12_nextToken 148 = .ok (.ifCond .eq 97, 3) := oc_153 (a := 0) (b := 97) (by decide +kernel)
theorem dX12_nextToken_245 : decode cX12_nextToken 245 = .ok (.aload_n 0, 1) := oc_42 (by decide +kernel)
theorem dX12_nextToken_246 : decode cX12_nextToken 246 = .ok (.dup, 1) := oc_89 (by decide +kernel)
theorem dX12_nextToken_247 : decode cX12_nextToken 247 = .ok (.getfield 134, 3) := oc_180 (a := 0) (b := 134) (by decide +kernel)
theorem dX12_nextToken_250 : decode cX12_nextToken 250 = .ok (.iconst 1, 1) := oc_4 (by decide +kernel)
theorem dX12_nextToken_251 : decode cX12_nextToken 251 = .ok (.iadd, 1) := oc_96 (by decide +kernel)
theorem dX12_nextToken_252 : decode cX12_nextToken 252 = .ok (.putfield 134, 3) := oc_181 (a := 0) (b := 134) (by decide +kernel)
theorem dX12_nextToken_255 : decode cX12_nextToken 255 = .ok (.iload_n 1, 1) := oc_27 (by decide +kernel)
theorem dX12_nextToken_256 : decode cX12_nextToken 256 = .ok (.bipush 60, 2) := oc_16 (a := 60) (by decide +kernel)
theorem dX12_nextToken_332 : decode cX12_nextToken 332 = .ok (.istore_n 2, 1) := oc_61 (by decide +kernel)
theorem dX12_nextToken_333 : decode cX12_nextToken 333 = .ok (.aload_n 0, 1) := oc_42 (by decide +kernel)
theorem dX12_nextToken_334 : decode cX12_nextToken 334 = .ok (.iload_n 2, 1) := oc_28 (by decide +kernel)
theorem tw_831 : Cond.fieldLink RX12 143 "RingsUnderModel" "token" "I" ∈ wsL_law := sg_35 _ (List.mem_of_getElem? (i := 15) rfl)
theorem dX12_nextToken_343 : decode cX12_nextToken 343 = .ok (.putfield 143, 3) := oc_181 (a := 0) (b := 143) (by decide +kernel)
theorem dX12_nextToken_346 : decode cX12_nextToken 346 = .ok (.iload_n 1, 1) := oc_27 (by decide +kernel)
theorem dX12_nextToken_347 : decode cX12_nextToken 347 = .ok (.bipush 60, 2) := oc_16 (a := 60) (by decide +kernel)
theorem dX12_nextToken_349 : decode cX12_nextToken 349 = .ok (.if_icmp .eq 9, 3) := oc_159 (a := 0) (b := 9) (by decide +kernel)
theorem dX12_nextToken_358 : decode cX12_nextToken 358 = .ok (.aload_n 0, 1) := oc_42 (by decide +kernel)
theorem dX12_nextToken_359 : decode cX12_nextToken 359 = .ok (.aload_n 0, 1) := oc_42 (by decide +kernel)
theorem dX12_nextToken_360 : decode cX12_nextToken 360 = .ok (.getfield 134, 3) := oc_180 (a := 0) (b := 134) (by decide +kernel)
theorem dX12_nextToken_363 : decode cX12_nextToken 363 = .ok (.invokevirtual 137, 3) := oc_182 (a := 0) (b := 137) (by decide +kernel)
theorem dX12_nextToken_366 : decode cX12_nextToken 366 = .ok (.bipush 61, 2) := oc_16 (a := 61) (by decide +kernel)
theorem dX12_nextToken_368 : decode cX12_nextToken 368 = .ok (.if_icmp .ne 28, 3) := oc_160 (a := 0) (b := 28) (by decide +kernel)
theorem dX12_nextToken_396 : decode cX12_nextToken 396 = .ok (.return_, 1) := oc_177 (by decide +kernel)
theorem dX12_nextToken_371 : decode cX12_nextToken 371 = .ok (.aload_n 0, 1) := oc_42 (by decide +kernel)
theorem dX12_nextToken_372 : decode cX12_nextToken 372 = .ok (.dup, 1) := oc_89 (by decide +kernel)
theorem dX12_nextToken_373 : decode cX12_nextToken 373 = .ok (.getfield 134, 3) := oc_180 (a := 0) (b := 134) (by decide +kernel)
theorem dX12_nextToken_376 : decode cX12_nextToken 376 = .ok (.iconst 1, 1) := oc_4 (by decide +kernel)
theorem dX12_nextToken_377 : decode cX12_nextToken 377 = .ok (.iadd, 1) := oc_96 (by decide +kernel)
theorem dX12_nextToken_378 : decode cX12_nextToken 378 = .ok (.putfield 134, 3) := oc_181 (a := 0) (b := 134) (by decide +kernel)
theorem dX12_nextToken_381 : decode cX12_nextToken 381 = .ok (.aload_n 0, 1) := oc_42 (by decide +kernel)
theorem dX12_nextToken_382 : decode cX12_nextToken 382 = .ok (.iload_n 1, 1) := oc_27 (by decide +kernel)
theorem dX12_nextToken_383 : decode cX12_nextToken 383 = .ok (.bipush 60, 2) := oc_16 (a := 60) (by decide +kernel)
theorem dX12_nextToken_385 : decode cX12_nextToken 385 = .ok (.if_icmp .ne 7, 3) := oc_160 (a := 0) (b := 7) (by decide +kernel)
theorem dX12_nextToken_388 : decode cX12_nextToken 388 = .ok (.iconst 4, 1) := oc_7 (by decide +kernel)
theorem dX12_nextToken_389 : decode cX12_nextToken 389 = .ok (.goto 4, 3) := oc_167 (a := 0) (b := 4) (by decide +kernel)
theorem dX12_nextToken_393 : decode cX12_nextToken 393 = .ok (.putfield 143, 3) := oc_181 (a := 0) (b := 143) (by decide +kernel)
theorem dX12_nextToken_352 : decode cX12_nextToken 352 = .ok (.iload_n 1, 1) := oc_27 (by decide +kernel)
theorem dX12_nextToken_353 : decode cX12_nextToken 353 = .ok (.bipush 62, 2) := oc_16 (a := 62) (by decide +kernel)
theorem dX12_nextToken_355 : decode cX12_nextToken 355 = .ok (.if_icmp .ne 41, 3) := oc_160 (a := 0) (b := 41) (by decide +kernel)
theorem dX12_nextToken_392 : decode cX12_nextToken 392 = .ok (.iconst 5, 1) := oc_8 (by decide +kernel)
theorem dX12_nextToken_335 : decode cX12_nextToken 335 = .ok (.ifCond .eq 7, 3) := oc_153 (a := 0) (b := 7) (by decide +kernel)
theorem dX12_nextToken_342 : decode cX12_nextToken 342 = .ok (.iconst 3, 1) := oc_6 (by decide +kernel)
theorem dX12_nextToken_338 : decode cX12_nextToken 338 = .ok (.iload_n 1, 1) := oc_27 (by decide +kernel)
theorem dX12_nextToken_339 : decode cX12_nextToken 339 = .ok (.goto 4, 3) := oc_167 (a := 0) (b := 4) (by decide +kernel)
theorem dX12_nextToken_327 : decode cX12_nextToken 327 = .ok (.iconst 1, 1) := oc_4 (by decide +kernel)
theorem dX12_nextToken_328 : decode cX12_nextToken 328 = .ok (.goto 4, 3) := oc_167 (a := 0) (b := 4) (by decide +kernel)
theorem dX12_nextToken_258 : decode cX12_nextToken 258 = .ok (.if_icmp .eq 69, 3) := oc_159 (a := 0) (b := 69) (by decide +kernel)
theorem dX12_nextToken_261 : decode cX12_nextToken 261 = .ok (.iload_n 1, 1) := oc_27 (by decide +kernel)
theorem dX12_nextToken_262 : decode cX12_nextToken 262 = .ok (.bipush 62, 2) := oc_16 (a := 62) (by decide +kernel)
theorem dX12_nextToken_264 : decode cX12_nextToken 264 = .ok (.if_icmp .eq 63, 3) := oc_159 (a := 0) (b := 63) (by decide +kernel)
theorem dX12_nextToken_267 : decode cX12_nextToken 267 = .ok (.iload_n 1, 1) := oc_27 (by decide +kernel)
theorem dX12_nextToken_268 : decode cX12_nextToken 268 = .ok (.bipush 61, 2) := oc_16 (a := 61) (by decide +kernel)
theorem dX12_nextToken_270 : decode cX12_nextToken 270 = .ok (.if_icmp .eq 57, 3) := oc_159 (a := 0) (b := 57) (by decide +kernel)
theorem dX12_nextToken_273 : decode cX12_nextToken 273 = .ok (.iload_n 1, 1) := oc_27 (by decide +kernel)
theorem dX12_nextToken_274 : decode cX12_nextToken 274 = .ok (.bipush 35, 2) := oc_16 (a := 35) (by decide +kernel)
theorem dX12_nextToken_276 : decode cX12_nextToken 276 = .ok (.if_icmp .eq 51, 3) := oc_159 (a := 0) (b := 51) (by decide +kernel)
theorem dX12_nextToken_279 : decode cX12_nextToken 279 = .ok (.iload_n 1, 1) := oc_27 (by decide +kernel)
theorem dX12_nextToken_280 : decode cX12_nextToken 280 = .ok (.bipush 43, 2) := oc_16 (a := 43) (by decide +kernel)
theorem dX12_nextToken_282 : decode cX12_nextToken 282 = .ok (.if_icmp .eq 45, 3) := oc_159 (a := 0) (b := 45) (by decide +kernel)
theorem dX12_nextToken_285 : decode cX12_nextToken 285 = .ok (.iload_n 1, 1) := oc_27 (by decide +kernel)
theorem dX12_nextToken_286 : decode cX12_nextToken 286 = .ok (.bipush 45, 2) := oc_16 (a := 45) (by decide +kernel)
theorem dX12_nextToken_288 : decode cX12_nextToken 288 = .ok (.if_icmp .eq 39, 3) := oc_159 (a := 0) (b := 39) (by decide +kernel)
theorem dX12_nextToken_291 : decode cX12_nextToken 291 = .ok (.iload_n 1, 1) := oc_27 (by decide +kernel)
theorem dX12_nextToken_292 : decode cX12_nextToken 292 = .ok (.bipush 42, 2) := oc_16 (a := 42) (by decide +kernel)
theorem dX12_nextToken_294 : decode cX12_nextToken 294 = .ok (.if_icmp .eq 33, 3) := oc_159 (a := 0) (b := 33) (by decide +kernel)
theorem dX12_nextToken_297 : decode cX12_nextToken 297 = .ok (.iload_n 1, 1) := oc_27 (by decide +kernel)
theorem dX12_nextToken_298 : decode cX12_nextToken 298 = .ok (.bipush 47, 2) := oc_16 (a := 47) (by decide +kernel)
theorem dX12_nextToken_300 : decode cX12_nextToken 300 = .ok (.if_icmp .eq 27, 3) := oc_159 (a := 0) (b := 27) (by decide +kernel)
theorem dX12_nextToken_303 : decode cX12_nextToken 303 = .ok (.iload_n 1, 1) := oc_27 (by decide +kernel)
theorem dX12_nextToken_304 : decode cX12_nextToken 304 = .ok (.bipush 40, 2) := oc_16 (a := 40) (by decide +kernel)
theorem dX12_nextToken_306 : decode cX12_nextToken 306 = .ok (.if_icmp .eq 21, 3) := oc_159 (a := 0) (b := 21) (by decide +kernel)
theorem dX12_nextToken_309 : decode cX12_nextToken 309 = .ok (.iload_n 1, 1) := oc_27 (by decide +kernel)
theorem dX12_nextToken_310 : decode cX12_nextToken 310 = .ok (.bipush 41, 2) := oc_16 (a := 41) (by decide +kernel)
theorem dX12_nextToken_312 : decode cX12_nextToken 312 = .ok (.if_icmp .eq 15, 3) := oc_159 (a := 0) (b := 15) (by decide +kernel)
theorem dX12_nextToken_315 : decode cX12_nextToken 315 = .ok (.iload_n 1, 1) := oc_27 (by decide +kernel)
theorem dX12_nextToken_316 : decode cX12_nextToken 316 = .ok (.bipush 44, 2) := oc_16 (a := 44) (by decide +kernel)
theorem dX12_nextToken_318 : decode cX12_nextToken 318 = .ok (.if_icmp .eq 9, 3) := oc_159 (a := 0) (b := 9) (by decide +kernel)
theorem dX12_nextToken_321 : decode cX12_nextToken 321 = .ok (.iload_n 1, 1) := oc_27 (by decide +kernel)
theorem dX12_nextToken_322 : decode cX12_nextToken 322 = .ok (.bipush 59, 2) := oc_16 (a := 59) (by decide +kernel)
theorem dX12_nextToken_324 : decode cX12_nextToken 324 = .ok (.if_icmp .ne 7, 3) := oc_160 (a := 0) (b := 7) (by decide +kernel)
theorem dX12_nextToken_331 : decode cX12_nextToken 331 = .ok (.iconst 0, 1) := oc_3 (by decide +kernel)
theorem dX12_nextToken_151 : decode cX12_nextToken 151 = .ok (.aload_n 0, 1) := oc_42 (by decide +kernel)
theorem dX12_nextToken_152 : decode cX12_nextToken 152 = .ok (.iconst 2, 1) := oc_5 (by decide +kernel)
theorem dX12_nextToken_153 : decode cX12_nextToken 153 = .ok (.putfield 143, 3) := oc_181 (a := 0) (b := 143) (by decide +kernel)
theorem dX12_nextToken_156 : decode cX12_nextToken 156 = .ok (.aload_n 0, 1) := oc_42 (by decide +kernel)
theorem dX12_nextToken_157 : decode cX12_nextToken 157 = .ok (.lconst 0, 1) := oc_9 (by decide +kernel)
theorem tw_838 : Cond.fieldLink RX12 156 "RingsUnderModel" "word" "J" ∈ wsL_law := sg_35 _ (List.mem_of_getElem? (i := 22) rfl)
theorem dX12_nextToken_158 : decode cX12_nextToken 158 = .ok (.putfield 156, 3) := oc_181 (a := 0) (b := 156) (by decide +kernel)
theorem dX12_nextToken_161 : decode cX12_nextToken 161 = .ok (.aload_n 0, 1) := oc_42 (by decide +kernel)
theorem dX12_nextToken_162 : decode cX12_nextToken 162 = .ok (.aload_n 0, 1) := oc_42 (by decide +kernel)
theorem dX12_nextToken_163 : decode cX12_nextToken 163 = .ok (.getfield 134, 3) := oc_180 (a := 0) (b := 134) (by decide +kernel)
theorem dX12_nextToken_166 : decode cX12_nextToken 166 = .ok (.invokevirtual 137, 3) := oc_182 (a := 0) (b := 137) (by decide +kernel)
theorem dX12_nextToken_169 : decode cX12_nextToken 169 = .ok (.invokestatic 153, 3) := oc_184 (a := 0) (b := 153) (by decide +kernel)
theorem dX12_nextToken_172 : decode cX12_nextToken 172 = .ok (.ifCond .eq 51, 3) := oc_153 (a := 0) (b := 51) (by decide +kernel)
theorem dX12_nextToken_223 : decode cX12_nextToken 223 = .ok (.aload_n 0, 1) := oc_42 (by decide +kernel)
theorem dX12_nextToken_224 : decode cX12_nextToken 224 = .ok (.getfield 134, 3) := oc_180 (a := 0) (b := 134) (by decide +kernel)
theorem dX12_nextToken_227 : decode cX12_nextToken 227 = .ok (.aload_n 0, 1) := oc_42 (by decide +kernel)
theorem dX12_nextToken_228 : decode cX12_nextToken 228 = .ok (.getfield 140, 3) := oc_180 (a := 0) (b := 140) (by decide +kernel)
theorem dX12_nextToken_231 : decode cX12_nextToken 231 = .ok (.isub, 1) := oc_100 (by decide +kernel)
theorem dX12_nextToken_232 : decode cX12_nextToken 232 = .ok (.bipush 7, 2) := oc_16 (a := 7) (by decide +kernel)
theorem dX12_nextToken_234 : decode cX12_nextToken 234 = .ok (.if_icmp .le 162, 3) := oc_164 (a := 0) (b := 162) (by decide +kernel)
theorem dX12_nextToken_237 : decode cX12_nextToken 237 = .ok (.aload_n 0, 1) := oc_42 (by decide +kernel)
theorem dX12_nextToken_238 : decode cX12_nextToken 238 = .ok (.lconst 0, 1) := oc_9 (by decide +kernel)
theorem dX12_nextToken_239 : decode cX12_nextToken 239 = .ok (.putfield 156, 3) := oc_181 (a := 0) (b := 156) (by decide +kernel)
theorem dX12_nextToken_242 : decode cX12_nextToken 242 = .ok (.goto 154, 3) := oc_167 (a := 0) (b := 154) (by decide +kernel)
theorem dX12_nextToken_175 : decode cX12_nextToken 175 = .ok (.aload_n 0, 1) := oc_42 (by decide +kernel)
theorem dX12_nextToken_176 : decode cX12_nextToken 176 = .ok (.getfield 134, 3) := oc_180 (a := 0) (b := 134) (by decide +kernel)
theorem dX12_nextToken_179 : decode cX12_nextToken 179 = .ok (.aload_n 0, 1) := oc_42 (by decide +kernel)
theorem dX12_nextToken_180 : decode cX12_nextToken 180 = .ok (.getfield 140, 3) := oc_180 (a := 0) (b := 140) (by decide +kernel)
theorem dX12_nextToken_183 : decode cX12_nextToken 183 = .ok (.isub, 1) := oc_100 (by decide +kernel)
theorem dX12_nextToken_184 : decode cX12_nextToken 184 = .ok (.bipush 7, 2) := oc_16 (a := 7) (by decide +kernel)
theorem dX12_nextToken_186 : decode cX12_nextToken 186 = .ok (.if_icmp .ge 24, 3) := oc_162 (a := 0) (b := 24) (by decide +kernel)
theorem dX12_nextToken_210 : decode cX12_nextToken 210 = .ok (.aload_n 0, 1) := oc_42 (by decide +kernel)
theorem dX12_nextToken_211 : decode cX12_nextToken 211 = .ok (.dup, 1) := oc_89 (by decide +kernel)
theorem dX12_nextToken_212 : decode cX12_nextToken 212 = .ok (.getfield 134, 3) := oc_180 (a := 0) (b := 134) (by decide +kernel)
theorem dX12_nextToken_215 : decode cX12_nextToken 215 = .ok (.iconst 1, 1) := oc_4 (by decide +kernel)
theorem dX12_nextToken_216 : decode cX12_nextToken 216 = .ok (.iadd, 1) := oc_96 (by decide +kernel)
theorem dX12_nextToken_217 : decode cX12_nextToken 217 = .ok (.putfield 134, 3) := oc_181 (a := 0) (b := 134) (by decide +kernel)
theorem dX12_nextToken_220 : decode cX12_nextToken 220 = .ok (.goto (-59), 3) := oc_167 (a := 255) (b := 197) (by decide +kernel)
theorem dX12_nextToken_189 : decode cX12_nextToken 189 = .ok (.aload_n 0, 1) := oc_42 (by decide +kernel)
theorem dX12_nextToken_190 : decode cX12_nextToken 190 = .ok (.aload_n 0, 1) := oc_42 (by decide +kernel)
theorem dX12_nextToken_191 : decode cX12_nextToken 191 = .ok (.getfield 156, 3) := oc_180 (a := 0) (b := 156) (by decide +kernel)
theorem dX12_nextToken_194 : decode cX12_nextToken 194 = .ok (.bipush 8, 2) := oc_16 (a := 8) (by decide +kernel)
theorem dX12_nextToken_196 : decode cX12_nextToken 196 = .ok (.lshl, 1) := oc_121 (by decide +kernel)
theorem dX12_nextToken_197 : decode cX12_nextToken 197 = .ok (.aload_n 0, 1) := oc_42 (by decide +kernel)
theorem dX12_nextToken_198 : decode cX12_nextToken 198 = .ok (.aload_n 0, 1) := oc_42 (by decide +kernel)
theorem dX12_nextToken_199 : decode cX12_nextToken 199 = .ok (.getfield 134, 3) := oc_180 (a := 0) (b := 134) (by decide +kernel)
theorem dX12_nextToken_202 : decode cX12_nextToken 202 = .ok (.invokevirtual 137, 3) := oc_182 (a := 0) (b := 137) (by decide +kernel)
theorem dX12_nextToken_205 : decode cX12_nextToken 205 = .ok (.i2l, 1) := oc_133 (by decide +kernel)
theorem dX12_nextToken_206 : decode cX12_nextToken 206 = .ok (.lor, 1) := oc_129 (by decide +kernel)
theorem dX12_nextToken_207 : decode cX12_nextToken 207 = .ok (.putfield 156, 3) := oc_181 (a := 0) (b := 156) (by decide +kernel)
theorem dX12_nextToken_75 : decode cX12_nextToken 75 = .ok (.aload_n 0, 1) := oc_42 (by decide +kernel)
theorem dX12_nextToken_76 : decode cX12_nextToken 76 = .ok (.iconst 1, 1) := oc_4 (by decide +kernel)
theorem dX12_nextToken_77 : decode cX12_nextToken 77 = .ok (.putfield 143, 3) := oc_181 (a := 0) (b := 143) (by decide +kernel)
theorem dX12_nextToken_80 : decode cX12_nextToken 80 = .ok (.aload_n 0, 1) := oc_42 (by decide +kernel)
theorem dX12_nextToken_81 : decode cX12_nextToken 81 = .ok (.iconst 0, 1) := oc_3 (by decide +kernel)
theorem tw_836 : Cond.fieldLink RX12 149 "RingsUnderModel" "number" "I" ∈ wsL_law := sg_35 _ (List.mem_of_getElem? (i := 20) rfl)
theorem dX12_nextToken_82 : decode cX12_nextToken 82 = .ok (.putfield 149, 3) := oc_181 (a := 0) (b := 149) (by decide +kernel)
theorem dX12_nextToken_85 : decode cX12_nextToken 85 = .ok (.aload_n 0, 1) := oc_42 (by decide +kernel)
theorem dX12_nextToken_86 : decode cX12_nextToken 86 = .ok (.aload_n 0, 1) := oc_42 (by decide +kernel)
theorem dX12_nextToken_87 : decode cX12_nextToken 87 = .ok (.getfield 134, 3) := oc_180 (a := 0) (b := 134) (by decide +kernel)
theorem dX12_nextToken_90 : decode cX12_nextToken 90 = .ok (.invokevirtual 137, 3) := oc_182 (a := 0) (b := 137) (by decide +kernel)
theorem dX12_nextToken_93 : decode cX12_nextToken 93 = .ok (.invokestatic 146, 3) := oc_184 (a := 0) (b := 146) (by decide +kernel)
theorem dX12_nextToken_96 : decode cX12_nextToken 96 = .ok (.ifCond .eq 300, 3) := oc_153 (a := 1) (b := 44) (by decide +kernel)
theorem dX12_nextToken_99 : decode cX12_nextToken 99 = .ok (.aload_n 0, 1) := oc_42 (by decide +kernel)
theorem dX12_nextToken_100 : decode cX12_nextToken 100 = .ok (.getfield 149, 3) := oc_180 (a := 0) (b := 149) (by decide +kernel)
theorem tw_837 : Cond.constant RX12 152 (100000) ∈ wsL_law := sg_35 _ (List.mem_of_getElem? (i := 21) rfl)
theorem dX12_nextToken_103 : decode cX12_nextToken 103 = .ok (.ldc 152, 2) := oc_18 (by decide +kernel)
theorem dX12_nextToken_105 : decode cX12_nextToken 105 = .ok (.if_icmp .ge 26, 3) := oc_162 (a := 0) (b := 26) (by decide +kernel)
theorem dX12_nextToken_131 : decode cX12_nextToken 131 = .ok (.aload_n 0, 1) := oc_42 (by decide +kernel)
theorem dX12_nextToken_132 : decode cX12_nextToken 132 = .ok (.dup, 1) := oc_89 (by decide +kernel)
theorem dX12_nextToken_133 : decode cX12_nextToken 133 = .ok (.getfield 134, 3) := oc_180 (a := 0) (b := 134) (by decide +kernel)
theorem dX12_nextToken_136 : decode cX12_nextToken 136 = .ok (.iconst 1, 1) := oc_4 (by decide +kernel)
theorem dX12_nextToken_137 : decode cX12_nextToken 137 = .ok (.iadd, 1) := oc_96 (by decide +kernel)
theorem dX12_nextToken_138 : decode cX12_nextToken 138 = .ok (.putfield 134, 3) := oc_181 (a := 0) (b := 134) (by decide +kernel)
theorem dX12_nextToken_141 : decode cX12_nextToken 141 = .ok (.goto (-56), 3) := oc_167 (a := 255) (b := 200) (by decide +kernel)
theorem dX12_nextToken_108 : decode cX12_nextToken 108 = .ok (.aload_n 0, 1) := oc_42 (by decide +kernel)
theorem dX12_nextToken_109 : decode cX12_nextToken 109 = .ok (.bipush 10, 2) := oc_16 (a := 10) (by decide +kernel)
theorem dX12_nextToken_111 : decode cX12_nextToken 111 = .ok (.aload_n 0, 1) := oc_42 (by decide +kernel)
theorem dX12_nextToken_112 : decode cX12_nextToken 112 = .ok (.getfield 149, 3) := oc_180 (a := 0) (b := 149) (by decide +kernel)
theorem dX12_nextToken_115 : decode cX12_nextToken 115 = .ok (.imul, 1) := oc_104 (by decide +kernel)
theorem dX12_nextToken_116 : decode cX12_nextToken 116 = .ok (.aload_n 0, 1) := oc_42 (by decide +kernel)
theorem dX12_nextToken_117 : decode cX12_nextToken 117 = .ok (.aload_n 0, 1) := oc_42 (by decide +kernel)
theorem dX12_nextToken_118 : decode cX12_nextToken 118 = .ok (.getfield 134, 3) := oc_180 (a := 0) (b := 134) (by decide +kernel)
theorem dX12_nextToken_121 : decode cX12_nextToken 121 = .ok (.invokevirtual 137, 3) := oc_182 (a := 0) (b := 137) (by decide +kernel)
theorem dX12_nextToken_124 : decode cX12_nextToken 124 = .ok (.iadd, 1) := oc_96 (by decide +kernel)
theorem dX12_nextToken_125 : decode cX12_nextToken 125 = .ok (.bipush 48, 2) := oc_16 (a := 48) (by decide +kernel)
theorem dX12_nextToken_127 : decode cX12_nextToken 127 = .ok (.isub, 1) := oc_100 (by decide +kernel)
theorem dX12_nextToken_128 : decode cX12_nextToken 128 = .ok (.putfield 149, 3) := oc_181 (a := 0) (b := 149) (by decide +kernel)
theorem dX12_nextToken_60 : decode cX12_nextToken 60 = .ok (.aload_n 0, 1) := oc_42 (by decide +kernel)
theorem dX12_nextToken_61 : decode cX12_nextToken 61 = .ok (.iconst 0, 1) := oc_3 (by decide +kernel)
theorem dX12_nextToken_62 : decode cX12_nextToken 62 = .ok (.putfield 143, 3) := oc_181 (a := 0) (b := 143) (by decide +kernel)
theorem dX12_nextToken_65 : decode cX12_nextToken 65 = .ok (.goto 331, 3) := oc_167 (a := 1) (b := 75) (by decide +kernel)
set_option maxRecDepth 100000 in
def g_X12_w3_x (a0 : Int32) (a1 : Int32) (a2 : Int32) : Int64 := (ap1 (a0.toInt64) fun (x_1 : Int64) => (ap1 (x_1 <<< ((8 : Int32).toInt64 &&& 63)) fun (x_2 : Int64) => (ap1 (a1.toInt64) fun (x_3 : Int64) => (ap1 (x_2 ||| x_3) fun (x_4 : Int64) => (ap1 (x_4 <<< ((8 : Int32).toInt64 &&& 63)) fun (x_5 : Int64) => (ap1 (a2.toInt64) fun (x_6 : Int64) => (ap1 (x_5 ||| x_6) fun (x_7 : Int64) => x_7)))))))
set_option maxRecDepth 100000 in
theorem g_X12_w3_x_e {a0 : Int32} {a1 : Int32} {a2 : Int32} : g_X12_w3_x a0 a1 a2 = (ap1 (a0.toInt64) fun (x_1 : Int64) => (ap1 (x_1 <<< ((8 : Int32).toInt64 &&& 63)) fun (x_2 : Int64) => (ap1 (a1.toInt64) fun (x_3 : Int64) => (ap1 (x_2 ||| x_3) fun (x_4 : Int64) => (ap1 (x_4 <<< ((8 : Int32).toInt64 &&& 63)) fun (x_5 : Int64) => (ap1 (a2.toInt64) fun (x_6 : Int64) => (ap1 (x_5 ||| x_6) fun (x_7 : Int64) => x_7))))))) := rfl
set_option maxHeartbeats 4000000 in
set_option maxRecDepth 100000 in
theorem s_X12_w3_x (l : Launch) (D : va_G) (t : pq_T) (σ : pq_S) (I : Nat → Nat → Int32) (J : Nat → Nat → Int64) (ri : Nat → Nat → Int32) (rj : Nat → Nat → Int64) (rq : Nat → Nat → Option Nat) (sz : Nat) (tg : Nat → Nat) (hSH : SH σ tg) (hG0 : GT tg I ri) (a0 : Int32) (a1 : Int32) (a2 : Int32) : MetL l yX12_w3 (wa yX12_w3 cX12_w3 3 (some .long)) ({ frames := 0, cells := 0, slots := 0, locals := 0 }) [.int a0, .int a1, .int a2] D t σ (I, J, ri, rj, rq) sz 0 0 (fun (r : Int64) (u : pq_S × pq_M) => u = (σ, I, J, ri, rj, rq) ∧ g_X12_w3_x a0 a1 a2 = r) := by
  refine Met.ofW (cc := cX12_w3) (maxL := 3) (ret := (some .long)) (by decide) rfl ?_
  intro p e s m args below meth c s₁ B hml hv
  obtain ⟨rfl, hsz, hP, hK, hD0, hN⟩ := hv
  have hx := B.exec
  have hb := B.bytes
  have hr := B.returns
  have hts := atoms_spec (ws := (wa yX12_w3 cX12_w3 3 (some .long))) B.pre
  have hown : s.vm.findClass RX12 = some m.cls := findClass_of_methodNamed B.named
  have hlocks := B.notSynchronized
  subst hsz
  have hD : va_D (pq_B t σ (I, J, ri, rj, rq) s.heap.size) (pq_P t σ (I, J, ri, rj, rq)) := hD0.self
  generalize hAe : pq_B t σ (I, J, ri, rj, rq) s.heap.size = A at hD ⊢
  have hA : ∀ q : Nat, s.heap.size ≤ q → A q := fun q h => by rw [← hAe]; exact Or.inr h
  have hS : va_S A s.heap s.heap [] := va_S.rf
  have hG : GM [] tg σ I ri I ri rq := ⟨hG0, fun _ _ _ => rfl, fun _ _ _ _ _ => rfl, fun _ _ _ _ _ _ => rfl⟩
  have hl := lv_entry ([.int a0, .int a1, .int a2]) (n := 3) (Nat.le_of_ble_eq_true rfl)
  rw [lg_entry_eq]
  generalize (lg_sl ([.int a0, .int a1, .int a2]) ++ List.replicate (3 - (lg_sl ([.int a0, .int a1, .int a2])).length) Slot.unset).toArray = ls at hl ⊢
  have hl : lv_has ls 3 [(0, .int a0), (1, .int a1), (2, .int a2)] := hl
  refine q_gen (fun Q hQ => ?_)
  have go : ∀ (H : Heap) (locs : List Loc) (ls : Array Slot), va_P D vwCl (pq_P t σ (I, J, ri, rj, rq)) H → va_D A (pq_P t σ (I, J, ri, rj, rq)) → va_S A s.heap H locs → lv_has ls 3 [(0, .int a0), (1, .int a1), (2, .int a2)] → W p l e ({ frames := 0, cells := 0, slots := 0, locals := 0 } : Room) s m (List.toArray ([.int a0, .int a1, .int a2] : List Value)) below meth c H locs 0 0 Q (F0 m 0 ls []) := by
    intro H locs ls hP hD hS hl
    obtain ⟨F, hF0⟩ : ∃ F, F = g_X12_w3_x a0 a1 a2 := ⟨_, rfl⟩
    have hF := hF0.trans g_X12_w3_x_e
    refine lv_iload_n hx hb dX12_w3_0 rfl (lv_at hl 0 rfl) ?_
    refine lv_i2l hx hb dX12_w3_1 rfl ?_
    refine lv_topl (fun x_1 ex_1 => ?_)
    replace hF := hF.trans (ap_n ex_1)
    refine lv_bipush (v := 8) hx hb dX12_w3_2 (by decide) ?_
    refine lv_lshl hx hb dX12_w3_4 rfl ?_
    refine lv_topl (fun x_2 ex_2 => ?_)
    replace hF := hF.trans (ap_n ex_2)
    refine lv_iload_n hx hb dX12_w3_5 rfl (lv_at hl 1 rfl) ?_
    refine lv_i2l hx hb dX12_w3_6 rfl ?_
    refine lv_topl (fun x_3 ex_3 => ?_)
    replace hF := hF.trans (ap_n ex_3)
    refine lv_lor hx hb dX12_w3_7 ?_
    refine lv_topl (fun x_4 ex_4 => ?_)
    replace hF := hF.trans (ap_n ex_4)
    refine lv_bipush (v := 8) hx hb dX12_w3_8 (by decide) ?_
    refine lv_lshl hx hb dX12_w3_10 rfl ?_
    refine lv_topl (fun x_5 ex_5 => ?_)
    replace hF := hF.trans (ap_n ex_5)
    refine lv_iload_n hx hb dX12_w3_11 rfl (lv_at hl 2 rfl) ?_
    refine lv_i2l hx hb dX12_w3_12 rfl ?_
    refine lv_topl (fun x_6 ex_6 => ?_)
    replace hF := hF.trans (ap_n ex_6)
    refine lv_lor hx hb dX12_w3_13 ?_
    refine lv_topl (fun x_7 ex_7 => ?_)
    replace hF := hF.trans (ap_n ex_7)
    subst hQ
    exact W.lret (v := x_7) hx hb hr (fun t1 ht hW => ⟨⟨x_7, (σ, I, J, ri, rj, rq), rfl, ⟨rfl, (hF0.symm.trans hF)⟩, by rw [ht]; exact hP, va_K.moved hW.alike hK, hD⟩, hS.F ht⟩) hS.2.2 dX12_w3_14
  exact go _ _ _ hP hD hS hl

set_option maxRecDepth 100000 in
def g_X12_w4_x (a0 : Int32) (a1 : Int32) (a2 : Int32) (a3 : Int32) : Int64 := (ap1 (g_X12_w3_x a0 a1 a2) fun (x_1 : Int64) => (ap1 (x_1 <<< ((8 : Int32).toInt64 &&& 63)) fun (x_8 : Int64) => (ap1 (a3.toInt64) fun (x_9 : Int64) => (ap1 (x_8 ||| x_9) fun (x_10 : Int64) => x_10))))
set_option maxRecDepth 100000 in
theorem g_X12_w4_x_e {a0 : Int32} {a1 : Int32} {a2 : Int32} {a3 : Int32} : g_X12_w4_x a0 a1 a2 a3 = (ap1 (g_X12_w3_x a0 a1 a2) fun (x_1 : Int64) => (ap1 (x_1 <<< ((8 : Int32).toInt64 &&& 63)) fun (x_8 : Int64) => (ap1 (a3.toInt64) fun (x_9 : Int64) => (ap1 (x_8 ||| x_9) fun (x_10 : Int64) => x_10)))) := rfl
set_option maxHeartbeats 4000000 in
set_option maxRecDepth 100000 in
theorem s_X12_w4_x (l : Launch) (D : va_G) (t : pq_T) (σ : pq_S) (I : Nat → Nat → Int32) (J : Nat → Nat → Int64) (ri : Nat → Nat → Int32) (rj : Nat → Nat → Int64) (rq : Nat → Nat → Option Nat) (sz : Nat) (tg : Nat → Nat) (hSH : SH σ tg) (hG0 : GT tg I ri) (a0 : Int32) (a1 : Int32) (a2 : Int32) (a3 : Int32) : MetL l yX12_w4 (wa yX12_w4 cX12_w4 4 (some .long)) ({ frames := 1, cells := 0, slots := 0, locals := 22 }) [.int a0, .int a1, .int a2, .int a3] D t σ (I, J, ri, rj, rq) sz 0 0 (fun (r : Int64) (u : pq_S × pq_M) => u = (σ, I, J, ri, rj, rq) ∧ g_X12_w4_x a0 a1 a2 a3 = r) := by
  refine Met.ofW (cc := cX12_w4) (maxL := 4) (ret := (some .long)) (by decide) rfl ?_
  intro p e s m args below meth c s₁ B hml hv
  obtain ⟨rfl, hsz, hP, hK, hD0, hN⟩ := hv
  have hx := B.exec
  have hb := B.bytes
  have hr := B.returns
  have hts := atoms_spec (ws := (wa yX12_w4 cX12_w4 4 (some .long))) B.pre
  have hown : s.vm.findClass RX12 = some m.cls := findClass_of_methodNamed B.named
  have hlocks := B.notSynchronized
  subst hsz
  have hD : va_D (pq_B t σ (I, J, ri, rj, rq) s.heap.size) (pq_P t σ (I, J, ri, rj, rq)) := hD0.self
  generalize hAe : pq_B t σ (I, J, ri, rj, rq) s.heap.size = A at hD ⊢
  have hA : ∀ q : Nat, s.heap.size ≤ q → A q := fun q h => by rw [← hAe]; exact Or.inr h
  have hS : va_S A s.heap s.heap [] := va_S.rf
  have hG : GM [] tg σ I ri I ri rq := ⟨hG0, fun _ _ _ => rfl, fun _ _ _ _ _ => rfl, fun _ _ _ _ _ _ => rfl⟩
  have hl := lv_entry ([.int a0, .int a1, .int a2, .int a3]) (n := 4) (Nat.le_of_ble_eq_true rfl)
  rw [lg_entry_eq]
  generalize (lg_sl ([.int a0, .int a1, .int a2, .int a3]) ++ List.replicate (4 - (lg_sl ([.int a0, .int a1, .int a2, .int a3])).length) Slot.unset).toArray = ls at hl ⊢
  have hl : lv_has ls 4 [(0, .int a0), (1, .int a1), (2, .int a2), (3, .int a3)] := hl
  refine q_gen (fun Q hQ => ?_)
  have go : ∀ (H : Heap) (locs : List Loc) (ls : Array Slot), va_P D vwCl (pq_P t σ (I, J, ri, rj, rq)) H → va_D A (pq_P t σ (I, J, ri, rj, rq)) → va_S A s.heap H locs → lv_has ls 4 [(0, .int a0), (1, .int a1), (2, .int a2), (3, .int a3)] → W p l e ({ frames := 1, cells := 0, slots := 0, locals := 22 } : Room) s m (List.toArray ([.int a0, .int a1, .int a2, .int a3] : List Value)) below meth c H locs 0 0 Q (F0 m 0 ls []) := by
    intro H locs ls hP hD hS hl
    obtain ⟨F, hF0⟩ : ∃ F, F = g_X12_w4_x a0 a1 a2 a3 := ⟨_, rfl⟩
    have hF := hF0.trans g_X12_w4_x_e
    refine lv_iload_n hx hb dX12_w4_0 rfl (lv_at hl 0 rfl) ?_
    refine lv_iload_n hx hb dX12_w4_1 rfl (lv_at hl 1 rfl) ?_
    refine lv_iload_n hx hb dX12_w4_2 rfl (lv_at hl 2 rfl) ?_
    refine pk_l (va_runS (As := [.int a0, .int a1, .int a2]) (rest := []) ⟨hx, hb, hml, hown, hts⟩ (s_X12_w3_x l D t σ I J ri rj rq H.size tg hSH hG.1 a0 a1 a2) (va_cwS 3 hts (tw_S tw_864 tw_865 tw_5 tw_866) rfl rfl rfl cd_yX12_w3_3 ⟨Nat.le_of_ble_eq_true rfl, Nat.le_of_ble_eq_true rfl⟩) ⟨pq_blind, pq_pre hK hN hP hD⟩ rfl rfl hl.1 rfl (lv_room (Nat.le_of_ble_eq_true rfl)) dX12_w4_3 ⟨Nat.le_of_ble_eq_true rfl, Nat.le_of_ble_eq_true rfl⟩) hD hS hA (fun x_1 σ1 μ1 H locs hw_2 hP hD hS => ?_)
    obtain ⟨hu_3, hfn_6⟩ := hw_2
    obtain ⟨hu_3a, hu_3b⟩ := Prod.mk.inj hu_3
    rw [hu_3a, hu_3b] at hP hD
    replace hF := hF.trans (ap_n hfn_6.symm)
    refine lv_bipush (v := 8) hx hb dX12_w4_6 (by decide) ?_
    refine lv_lshl hx hb dX12_w4_8 rfl ?_
    refine lv_topl (fun x_8 ex_8 => ?_)
    replace hF := hF.trans (ap_n ex_8)
    refine lv_iload_n hx hb dX12_w4_9 rfl (lv_at hl 3 rfl) ?_
    refine lv_i2l hx hb dX12_w4_10 rfl ?_
    refine lv_topl (fun x_9 ex_9 => ?_)
    replace hF := hF.trans (ap_n ex_9)
    refine lv_lor hx hb dX12_w4_11 ?_
    refine lv_topl (fun x_10 ex_10 => ?_)
    replace hF := hF.trans (ap_n ex_10)
    subst hQ
    exact W.lret (v := x_10) hx hb hr (fun t1 ht hW => ⟨⟨x_10, (σ, I, J, ri, rj, rq), rfl, ⟨rfl, (hF0.symm.trans hF)⟩, by rw [ht]; exact hP, va_K.moved hW.alike hK, hD⟩, hS.F ht⟩) hS.2.2 dX12_w4_12
  exact go _ _ _ hP hD hS hl

set_option maxRecDepth 100000 in
def g_X12_w5_x (a0 : Int32) (a1 : Int32) (a2 : Int32) (a3 : Int32) (a4 : Int32) : Int64 := (ap1 (g_X12_w4_x a0 a1 a2 a3) fun (x_1 : Int64) => (ap1 (x_1 <<< ((8 : Int32).toInt64 &&& 63)) fun (x_8 : Int64) => (ap1 (a4.toInt64) fun (x_9 : Int64) => (ap1 (x_8 ||| x_9) fun (x_10 : Int64) => x_10))))
set_option maxRecDepth 100000 in
theorem g_X12_w5_x_e {a0 : Int32} {a1 : Int32} {a2 : Int32} {a3 : Int32} {a4 : Int32} : g_X12_w5_x a0 a1 a2 a3 a4 = (ap1 (g_X12_w4_x a0 a1 a2 a3) fun (x_1 : Int64) => (ap1 (x_1 <<< ((8 : Int32).toInt64 &&& 63)) fun (x_8 : Int64) => (ap1 (a4.toInt64) fun (x_9 : Int64) => (ap1 (x_8 ||| x_9) fun (x_10 : Int64) => x_10)))) := rfl
set_option maxHeartbeats 4000000 in
set_option maxRecDepth 100000 in
theorem s_X12_w5_x (l : Launch) (D : va_G) (t : pq_T) (σ : pq_S) (I : Nat → Nat → Int32) (J : Nat → Nat → Int64) (ri : Nat → Nat → Int32) (rj : Nat → Nat → Int64) (rq : Nat → Nat → Option Nat) (sz : Nat) (tg : Nat → Nat) (hSH : SH σ tg) (hG0 : GT tg I ri) (a0 : Int32) (a1 : Int32) (a2 : Int32) (a3 : Int32) (a4 : Int32) : MetL l yX12_w5 (wa yX12_w5 cX12_w5 5 (some .long)) ({ frames := 2, cells := 0, slots := 0, locals := 45 }) [.int a0, .int a1, .int a2, .int a3, .int a4] D t σ (I, J, ri, rj, rq) sz 0 0 (fun (r : Int64) (u : pq_S × pq_M) => u = (σ, I, J, ri, rj, rq) ∧ g_X12_w5_x a0 a1 a2 a3 a4 = r) := by
  refine Met.ofW (cc := cX12_w5) (maxL := 5) (ret := (some .long)) (by decide) rfl ?_
  intro p e s m args below meth c s₁ B hml hv
  obtain ⟨rfl, hsz, hP, hK, hD0, hN⟩ := hv
  have hx := B.exec
  have hb := B.bytes
  have hr := B.returns
  have hts := atoms_spec (ws := (wa yX12_w5 cX12_w5 5 (some .long))) B.pre
  have hown : s.vm.findClass RX12 = some m.cls := findClass_of_methodNamed B.named
  have hlocks := B.notSynchronized
  subst hsz
  have hD : va_D (pq_B t σ (I, J, ri, rj, rq) s.heap.size) (pq_P t σ (I, J, ri, rj, rq)) := hD0.self
  generalize hAe : pq_B t σ (I, J, ri, rj, rq) s.heap.size = A at hD ⊢
  have hA : ∀ q : Nat, s.heap.size ≤ q → A q := fun q h => by rw [← hAe]; exact Or.inr h
  have hS : va_S A s.heap s.heap [] := va_S.rf
  have hG : GM [] tg σ I ri I ri rq := ⟨hG0, fun _ _ _ => rfl, fun _ _ _ _ _ => rfl, fun _ _ _ _ _ _ => rfl⟩
  have hl := lv_entry ([.int a0, .int a1, .int a2, .int a3, .int a4]) (n := 5) (Nat.le_of_ble_eq_true rfl)
  rw [lg_entry_eq]
  generalize (lg_sl ([.int a0, .int a1, .int a2, .int a3, .int a4]) ++ List.replicate (5 - (lg_sl ([.int a0, .int a1, .int a2, .int a3, .int a4])).length) Slot.unset).toArray = ls at hl ⊢
  have hl : lv_has ls 5 [(0, .int a0), (1, .int a1), (2, .int a2), (3, .int a3), (4, .int a4)] := hl
  refine q_gen (fun Q hQ => ?_)
  have go : ∀ (H : Heap) (locs : List Loc) (ls : Array Slot), va_P D vwCl (pq_P t σ (I, J, ri, rj, rq)) H → va_D A (pq_P t σ (I, J, ri, rj, rq)) → va_S A s.heap H locs → lv_has ls 5 [(0, .int a0), (1, .int a1), (2, .int a2), (3, .int a3), (4, .int a4)] → W p l e ({ frames := 2, cells := 0, slots := 0, locals := 45 } : Room) s m (List.toArray ([.int a0, .int a1, .int a2, .int a3, .int a4] : List Value)) below meth c H locs 0 0 Q (F0 m 0 ls []) := by
    intro H locs ls hP hD hS hl
    obtain ⟨F, hF0⟩ : ∃ F, F = g_X12_w5_x a0 a1 a2 a3 a4 := ⟨_, rfl⟩
    have hF := hF0.trans g_X12_w5_x_e
    refine lv_iload_n hx hb dX12_w5_0 rfl (lv_at hl 0 rfl) ?_
    refine lv_iload_n hx hb dX12_w5_1 rfl (lv_at hl 1 rfl) ?_
    refine lv_iload_n hx hb dX12_w5_2 rfl (lv_at hl 2 rfl) ?_
    refine lv_iload_n hx hb dX12_w5_3 rfl (lv_at hl 3 rfl) ?_
    refine pk_l (va_runS (As := [.int a0, .int a1, .int a2, .int a3]) (rest := []) ⟨hx, hb, hml, hown, hts⟩ (s_X12_w4_x l D t σ I J ri rj rq H.size tg hSH hG.1 a0 a1 a2 a3) (va_cwS 4 hts (tw_S tw_861 tw_862 tw_5 tw_863) rfl rfl rfl cd_yX12_w4_4 ⟨Nat.le_of_ble_eq_true rfl, Nat.le_of_ble_eq_true rfl⟩) ⟨pq_blind, pq_pre hK hN hP hD⟩ rfl rfl hl.1 rfl (lv_room (Nat.le_of_ble_eq_true rfl)) dX12_w5_4 ⟨Nat.le_of_ble_eq_true rfl, Nat.le_of_ble_eq_true rfl⟩) hD hS hA (fun x_1 σ1 μ1 H locs hw_2 hP hD hS => ?_)
    obtain ⟨hu_3, hfn_6⟩ := hw_2
    obtain ⟨hu_3a, hu_3b⟩ := Prod.mk.inj hu_3
    rw [hu_3a, hu_3b] at hP hD
    replace hF := hF.trans (ap_n hfn_6.symm)
    refine lv_bipush (v := 8) hx hb dX12_w5_7 (by decide) ?_
    refine lv_lshl hx hb dX12_w5_9 rfl ?_
    refine lv_topl (fun x_8 ex_8 => ?_)
    replace hF := hF.trans (ap_n ex_8)
    refine lv_iload hx hb dX12_w5_10 (lv_at hl 4 rfl) ?_
    refine lv_i2l hx hb dX12_w5_12 rfl ?_
    refine lv_topl (fun x_9 ex_9 => ?_)
    replace hF := hF.trans (ap_n ex_9)
    refine lv_lor hx hb dX12_w5_13 ?_
    refine lv_topl (fun x_10 ex_10 => ?_)
    replace hF := hF.trans (ap_n ex_10)
    subst hQ
    exact W.lret (v := x_10) hx hb hr (fun t1 ht hW => ⟨⟨x_10, (σ, I, J, ri, rj, rq), rfl, ⟨rfl, (hF0.symm.trans hF)⟩, by rw [ht]; exact hP, va_K.moved hW.alike hK, hD⟩, hS.F ht⟩) hS.2.2 dX12_w5_14
  exact go _ _ _ hP hD hS hl

set_option maxRecDepth 100000 in
def g_X12_w6_x (a0 : Int32) (a1 : Int32) (a2 : Int32) (a3 : Int32) (a4 : Int32) (a5 : Int32) : Int64 := (ap1 (g_X12_w5_x a0 a1 a2 a3 a4) fun (x_1 : Int64) => (ap1 (x_1 <<< ((8 : Int32).toInt64 &&& 63)) fun (x_8 : Int64) => (ap1 (a5.toInt64) fun (x_9 : Int64) => (ap1 (x_8 ||| x_9) fun (x_10 : Int64) => x_10))))
set_option maxRecDepth 100000 in
theorem g_X12_w6_x_e {a0 : Int32} {a1 : Int32} {a2 : Int32} {a3 : Int32} {a4 : Int32} {a5 : Int32} : g_X12_w6_x a0 a1 a2 a3 a4 a5 = (ap1 (g_X12_w5_x a0 a1 a2 a3 a4) fun (x_1 : Int64) => (ap1 (x_1 <<< ((8 : Int32).toInt64 &&& 63)) fun (x_8 : Int64) => (ap1 (a5.toInt64) fun (x_9 : Int64) => (ap1 (x_8 ||| x_9) fun (x_10 : Int64) => x_10)))) := rfl
set_option maxHeartbeats 4000000 in
set_option maxRecDepth 100000 in
theorem s_X12_w6_x (l : Launch) (D : va_G) (t : pq_T) (σ : pq_S) (I : Nat → Nat → Int32) (J : Nat → Nat → Int64) (ri : Nat → Nat → Int32) (rj : Nat → Nat → Int64) (rq : Nat → Nat → Option Nat) (sz : Nat) (tg : Nat → Nat) (hSH : SH σ tg) (hG0 : GT tg I ri) (a0 : Int32) (a1 : Int32) (a2 : Int32) (a3 : Int32) (a4 : Int32) (a5 : Int32) : MetL l yX12_w6 (wa yX12_w6 cX12_w6 6 (some .long)) ({ frames := 3, cells := 0, slots := 0, locals := 69 }) [.int a0, .int a1, .int a2, .int a3, .int a4, .int a5] D t σ (I, J, ri, rj, rq) sz 0 0 (fun (r : Int64) (u : pq_S × pq_M) => u = (σ, I, J, ri, rj, rq) ∧ g_X12_w6_x a0 a1 a2 a3 a4 a5 = r) := by
  refine Met.ofW (cc := cX12_w6) (maxL := 6) (ret := (some .long)) (by decide) rfl ?_
  intro p e s m args below meth c s₁ B hml hv
  obtain ⟨rfl, hsz, hP, hK, hD0, hN⟩ := hv
  have hx := B.exec
  have hb := B.bytes
  have hr := B.returns
  have hts := atoms_spec (ws := (wa yX12_w6 cX12_w6 6 (some .long))) B.pre
  have hown : s.vm.findClass RX12 = some m.cls := findClass_of_methodNamed B.named
  have hlocks := B.notSynchronized
  subst hsz
  have hD : va_D (pq_B t σ (I, J, ri, rj, rq) s.heap.size) (pq_P t σ (I, J, ri, rj, rq)) := hD0.self
  generalize hAe : pq_B t σ (I, J, ri, rj, rq) s.heap.size = A at hD ⊢
  have hA : ∀ q : Nat, s.heap.size ≤ q → A q := fun q h => by rw [← hAe]; exact Or.inr h
  have hS : va_S A s.heap s.heap [] := va_S.rf
  have hG : GM [] tg σ I ri I ri rq := ⟨hG0, fun _ _ _ => rfl, fun _ _ _ _ _ => rfl, fun _ _ _ _ _ _ => rfl⟩
  have hl := lv_entry ([.int a0, .int a1, .int a2, .int a3, .int a4, .int a5]) (n := 6) (Nat.le_of_ble_eq_true rfl)
  rw [lg_entry_eq]
  generalize (lg_sl ([.int a0, .int a1, .int a2, .int a3, .int a4, .int a5]) ++ List.replicate (6 - (lg_sl ([.int a0, .int a1, .int a2, .int a3, .int a4, .int a5])).length) Slot.unset).toArray = ls at hl ⊢
  have hl : lv_has ls 6 [(0, .int a0), (1, .int a1), (2, .int a2), (3, .int a3), (4, .int a4), (5, .int a5)] := hl
  refine q_gen (fun Q hQ => ?_)
  have go : ∀ (H : Heap) (locs : List Loc) (ls : Array Slot), va_P D vwCl (pq_P t σ (I, J, ri, rj, rq)) H → va_D A (pq_P t σ (I, J, ri, rj, rq)) → va_S A s.heap H locs → lv_has ls 6 [(0, .int a0), (1, .int a1), (2, .int a2), (3, .int a3), (4, .int a4), (5, .int a5)] → W p l e ({ frames := 3, cells := 0, slots := 0, locals := 69 } : Room) s m (List.toArray ([.int a0, .int a1, .int a2, .int a3, .int a4, .int a5] : List Value)) below meth c H locs 0 0 Q (F0 m 0 ls []) := by
    intro H locs ls hP hD hS hl
    obtain ⟨F, hF0⟩ : ∃ F, F = g_X12_w6_x a0 a1 a2 a3 a4 a5 := ⟨_, rfl⟩
    have hF := hF0.trans g_X12_w6_x_e
    refine lv_iload_n hx hb dX12_w6_0 rfl (lv_at hl 0 rfl) ?_
    refine lv_iload_n hx hb dX12_w6_1 rfl (lv_at hl 1 rfl) ?_
    refine lv_iload_n hx hb dX12_w6_2 rfl (lv_at hl 2 rfl) ?_
    refine lv_iload_n hx hb dX12_w6_3 rfl (lv_at hl 3 rfl) ?_
    refine lv_iload hx hb dX12_w6_4 (lv_at hl 4 rfl) ?_
    refine pk_l (va_runS (As := [.int a0, .int a1, .int a2, .int a3, .int a4]) (rest := []) ⟨hx, hb, hml, hown, hts⟩ (s_X12_w5_x l D t σ I J ri rj rq H.size tg hSH hG.1 a0 a1 a2 a3 a4) (va_cwS 5 hts (tw_S tw_858 tw_859 tw_5 tw_860) rfl rfl rfl cd_yX12_w5_5 ⟨Nat.le_of_ble_eq_true rfl, Nat.le_of_ble_eq_true rfl⟩) ⟨pq_blind, pq_pre hK hN hP hD⟩ rfl rfl hl.1 rfl (lv_room (Nat.le_of_ble_eq_true rfl)) dX12_w6_6 ⟨Nat.le_of_ble_eq_true rfl, Nat.le_of_ble_eq_true rfl⟩) hD hS hA (fun x_1 σ1 μ1 H locs hw_2 hP hD hS => ?_)
    obtain ⟨hu_3, hfn_6⟩ := hw_2
    obtain ⟨hu_3a, hu_3b⟩ := Prod.mk.inj hu_3
    rw [hu_3a, hu_3b] at hP hD
    replace hF := hF.trans (ap_n hfn_6.symm)
    refine lv_bipush (v := 8) hx hb dX12_w6_9 (by decide) ?_
    refine lv_lshl hx hb dX12_w6_11 rfl ?_
    refine lv_topl (fun x_8 ex_8 => ?_)
    replace hF := hF.trans (ap_n ex_8)
    refine lv_iload hx hb dX12_w6_12 (lv_at hl 5 rfl) ?_
    refine lv_i2l hx hb dX12_w6_14 rfl ?_
    refine lv_topl (fun x_9 ex_9 => ?_)
    replace hF := hF.trans (ap_n ex_9)
    refine lv_lor hx hb dX12_w6_15 ?_
    refine lv_topl (fun x_10 ex_10 => ?_)
    replace hF := hF.trans (ap_n ex_10)
    subst hQ
    exact W.lret (v := x_10) hx hb hr (fun t1 ht hW => ⟨⟨x_10, (σ, I, J, ri, rj, rq), rfl, ⟨rfl, (hF0.symm.trans hF)⟩, by rw [ht]; exact hP, va_K.moved hW.alike hK, hD⟩, hS.F ht⟩) hS.2.2 dX12_w6_16
  exact go _ _ _ hP hD hS hl

set_option maxRecDepth 100000 in
def g_X12_isIn_x (a0 : Int32) (a1 : Int32) (a2 : Int32) : Int32 := (if a0 < a1 then (0 : Int32) else (if a2 < a0 then (0 : Int32) else (1 : Int32)))
set_option maxRecDepth 100000 in
theorem g_X12_isIn_x_e {a0 : Int32} {a1 : Int32} {a2 : Int32} : g_X12_isIn_x a0 a1 a2 = (if a0 < a1 then (0 : Int32) else (if a2 < a0 then (0 : Int32) else (1 : Int32))) := rfl
set_option maxHeartbeats 4000000 in
set_option maxRecDepth 100000 in
theorem s_X12_isIn_x (l : Launch) (D : va_G) (t : pq_T) (σ : pq_S) (I : Nat → Nat → Int32) (J : Nat → Nat → Int64) (ri : Nat → Nat → Int32) (rj : Nat → Nat → Int64) (rq : Nat → Nat → Option Nat) (sz : Nat) (tg : Nat → Nat) (hSH : SH σ tg) (hG0 : GT tg I ri) (a0 : Int32) (a1 : Int32) (a2 : Int32) : MetI l yX12_isIn (wa yX12_isIn cX12_isIn 3 (some .boolean)) ({ frames := 0, cells := 0, slots := 0, locals := 0 }) [.int a0, .int a1, .int a2] D t σ (I, J, ri, rj, rq) sz 0 0 (fun (r : Int32) (u : pq_S × pq_M) => u = (σ, I, J, ri, rj, rq) ∧ g_X12_isIn_x a0 a1 a2 = r ∧ ((r = 1 ∧ a1 ≤ a0 ∧ a0 ≤ a2) ∨ (r = 0 ∧ (a0.toInt < a1.toInt ∨ a2.toInt < a0.toInt)))) := by
  refine Met.ofW (cc := cX12_isIn) (maxL := 3) (ret := (some .boolean)) (by decide) rfl ?_
  intro p e s m args below meth c s₁ B hml hv
  obtain ⟨rfl, hsz, hP, hK, hD0, hN⟩ := hv
  have hx := B.exec
  have hb := B.bytes
  have hr := B.returns
  have hts := atoms_spec (ws := (wa yX12_isIn cX12_isIn 3 (some .boolean))) B.pre
  have hown : s.vm.findClass RX12 = some m.cls := findClass_of_methodNamed B.named
  have hlocks := B.notSynchronized
  subst hsz
  have hD : va_D (pq_B t σ (I, J, ri, rj, rq) s.heap.size) (pq_P t σ (I, J, ri, rj, rq)) := hD0.self
  generalize hAe : pq_B t σ (I, J, ri, rj, rq) s.heap.size = A at hD ⊢
  have hA : ∀ q : Nat, s.heap.size ≤ q → A q := fun q h => by rw [← hAe]; exact Or.inr h
  have hS : va_S A s.heap s.heap [] := va_S.rf
  have hG : GM [] tg σ I ri I ri rq := ⟨hG0, fun _ _ _ => rfl, fun _ _ _ _ _ => rfl, fun _ _ _ _ _ _ => rfl⟩
  have hl := lv_entry ([.int a0, .int a1, .int a2]) (n := 3) (Nat.le_of_ble_eq_true rfl)
  rw [lg_entry_eq]
  generalize (lg_sl ([.int a0, .int a1, .int a2]) ++ List.replicate (3 - (lg_sl ([.int a0, .int a1, .int a2])).length) Slot.unset).toArray = ls at hl ⊢
  have hl : lv_has ls 3 [(0, .int a0), (1, .int a1), (2, .int a2)] := hl
  refine q_gen (fun Q hQ => ?_)
  have go : ∀ (H : Heap) (locs : List Loc) (ls : Array Slot), va_P D vwCl (pq_P t σ (I, J, ri, rj, rq)) H → va_D A (pq_P t σ (I, J, ri, rj, rq)) → va_S A s.heap H locs → lv_has ls 3 [(0, .int a0), (1, .int a1), (2, .int a2)] → W p l e ({ frames := 0, cells := 0, slots := 0, locals := 0 } : Room) s m (List.toArray ([.int a0, .int a1, .int a2] : List Value)) below meth c H locs 0 0 Q (F0 m 0 ls []) := by
    intro H locs ls hP hD hS hl
    obtain ⟨F, hF0⟩ : ∃ F, F = g_X12_isIn_x a0 a1 a2 := ⟨_, rfl⟩
    have hF := hF0.trans g_X12_isIn_x_e
    refine lv_iload_n hx hb dX12_isIn_0 rfl (lv_at hl 0 rfl) ?_
    refine lv_iload_n hx hb dX12_isIn_1 rfl (lv_at hl 1 rfl) ?_
    refine lv_icmp_lt (tgt := 14) hx hb dX12_isIn_2 (by decide) (fun c_1 => ?_) (fun c_1 => ?_)
    · replace hF := hF.trans (if_pos c_1)
      have tc_6 : (a0).toInt < (a1).toInt := Int32.lt_iff_toInt_lt.mp c_1
      have h_7 : rg a0 (-2147483648) 2147483646 := rg_lt1 c_1 (rg_full _) (rg_full _) (by decide)
      have uh_7 := h_7.1
      have vh_7 := h_7.2
      have h_8 : rg a1 (-2147483647) 2147483647 := rg_lt2 c_1 (rg_full _) (rg_full _) (by decide)
      have uh_8 := h_8.1
      have vh_8 := h_8.2
      refine lv_iconst (v := 0) hx hb dX12_isIn_14 (by decide) ?_
      subst hQ
      exact W.zret (v := 0) hx hb hr (by decide) (fun t1 ht hW => ⟨⟨0, (σ, I, J, ri, rj, rq), rfl, ⟨rfl, (hF0.symm.trans hF), (Or.inr ⟨rfl, (by omega)⟩)⟩, by rw [ht]; exact hP, va_K.moved hW.alike hK, hD⟩, hS.F ht⟩) hS.2.2 dX12_isIn_15
    · replace hF := hF.trans (if_neg c_1)
      have tc_9 : (a1).toInt ≤ (a0).toInt := Int32.le_iff_toInt_le.mp (nlt c_1)
      refine lv_iload_n hx hb dX12_isIn_5 rfl (lv_at hl 0 rfl) ?_
      refine lv_iload_n hx hb dX12_isIn_6 rfl (lv_at hl 2 rfl) ?_
      refine lv_icmp_gt (tgt := 14) hx hb dX12_isIn_7 (by decide) (fun c_10 => ?_) (fun c_10 => ?_)
      · replace hF := hF.trans (if_pos c_10)
        have tc_15 : (a2).toInt < (a0).toInt := Int32.lt_iff_toInt_lt.mp c_10
        have h_16 : rg a2 (-2147483648) 2147483646 := rg_lt1 c_10 (rg_full _) (rg_full _) (by decide)
        have uh_16 := h_16.1
        have vh_16 := h_16.2
        have h_17 : rg a0 (-2147483647) 2147483647 := rg_lt2 c_10 (rg_full _) (rg_full _) (by decide)
        have uh_17 := h_17.1
        have vh_17 := h_17.2
        refine lv_iconst (v := 0) hx hb dX12_isIn_14 (by decide) ?_
        subst hQ
        exact W.zret (v := 0) hx hb hr (by decide) (fun t1 ht hW => ⟨⟨0, (σ, I, J, ri, rj, rq), rfl, ⟨rfl, (hF0.symm.trans hF), (Or.inr ⟨rfl, (by omega)⟩)⟩, by rw [ht]; exact hP, va_K.moved hW.alike hK, hD⟩, hS.F ht⟩) hS.2.2 dX12_isIn_15
      · replace hF := hF.trans (if_neg c_10)
        have tc_18 : (a0).toInt ≤ (a2).toInt := Int32.le_iff_toInt_le.mp (nlt c_10)
        refine lv_iconst (v := 1) hx hb dX12_isIn_10 (by decide) ?_
        refine lv_goto (tgt := 15) hx hb dX12_isIn_11 (by decide) ?_
        subst hQ
        exact W.zret (v := 1) hx hb hr (by decide) (fun t1 ht hW => ⟨⟨1, (σ, I, J, ri, rj, rq), rfl, ⟨rfl, (hF0.symm.trans hF), (Or.inl ⟨rfl, (nlt c_1), (nlt c_10)⟩)⟩, by rw [ht]; exact hP, va_K.moved hW.alike hK, hD⟩, hS.F ht⟩) hS.2.2 dX12_isIn_15
  exact go _ _ _ hP hD hS hl

set_option maxRecDepth 100000 in
def g_X12_isDigit_x (a0 : Int32) : Int32 := (ap1 (g_X12_isIn_x a0 (48 : Int32) (57 : Int32)) fun (x_1 : Int32) => x_1)
set_option maxRecDepth 100000 in
theorem g_X12_isDigit_x_e {a0 : Int32} : g_X12_isDigit_x a0 = (ap1 (g_X12_isIn_x a0 (48 : Int32) (57 : Int32)) fun (x_1 : Int32) => x_1) := rfl
set_option maxHeartbeats 4000000 in
set_option maxRecDepth 100000 in
theorem s_X12_isDigit_x (l : Launch) (D : va_G) (t : pq_T) (σ : pq_S) (I : Nat → Nat → Int32) (J : Nat → Nat → Int64) (ri : Nat → Nat → Int32) (rj : Nat → Nat → Int64) (rq : Nat → Nat → Option Nat) (sz : Nat) (tg : Nat → Nat) (hSH : SH σ tg) (hG0 : GT tg I ri) (a0 : Int32) : MetI l yX12_isDigit (wa yX12_isDigit cX12_isDigit 1 (some .boolean)) ({ frames := 1, cells := 0, slots := 0, locals := 22 }) [.int a0] D t σ (I, J, ri, rj, rq) sz 0 0 (fun (r : Int32) (u : pq_S × pq_M) => u = (σ, I, J, ri, rj, rq) ∧ g_X12_isDigit_x a0 = r ∧ ((r = 1 ∧ rg a0 48 57 ∧ (48 ≤ a0.toInt ∧ a0.toInt ≤ 57)) ∨ (r = 0 ∧ (a0.toInt < 48 ∨ 57 < a0.toInt)))) := by
  refine Met.ofW (cc := cX12_isDigit) (maxL := 1) (ret := (some .boolean)) (by decide) rfl ?_
  intro p e s m args below meth c s₁ B hml hv
  obtain ⟨rfl, hsz, hP, hK, hD0, hN⟩ := hv
  have hx := B.exec
  have hb := B.bytes
  have hr := B.returns
  have hts := atoms_spec (ws := (wa yX12_isDigit cX12_isDigit 1 (some .boolean))) B.pre
  have hown : s.vm.findClass RX12 = some m.cls := findClass_of_methodNamed B.named
  have hlocks := B.notSynchronized
  subst hsz
  have hD : va_D (pq_B t σ (I, J, ri, rj, rq) s.heap.size) (pq_P t σ (I, J, ri, rj, rq)) := hD0.self
  generalize hAe : pq_B t σ (I, J, ri, rj, rq) s.heap.size = A at hD ⊢
  have hA : ∀ q : Nat, s.heap.size ≤ q → A q := fun q h => by rw [← hAe]; exact Or.inr h
  have hS : va_S A s.heap s.heap [] := va_S.rf
  have hG : GM [] tg σ I ri I ri rq := ⟨hG0, fun _ _ _ => rfl, fun _ _ _ _ _ => rfl, fun _ _ _ _ _ _ => rfl⟩
  have hl := lv_entry ([.int a0]) (n := 1) (Nat.le_of_ble_eq_true rfl)
  rw [lg_entry_eq]
  generalize (lg_sl ([.int a0]) ++ List.replicate (1 - (lg_sl ([.int a0])).length) Slot.unset).toArray = ls at hl ⊢
  have hl : lv_has ls 1 [(0, .int a0)] := hl
  refine q_gen (fun Q hQ => ?_)
  have go : ∀ (H : Heap) (locs : List Loc) (ls : Array Slot), va_P D vwCl (pq_P t σ (I, J, ri, rj, rq)) H → va_D A (pq_P t σ (I, J, ri, rj, rq)) → va_S A s.heap H locs → lv_has ls 1 [(0, .int a0)] → W p l e ({ frames := 1, cells := 0, slots := 0, locals := 22 } : Room) s m (List.toArray ([.int a0] : List Value)) below meth c H locs 0 0 Q (F0 m 0 ls []) := by
    intro H locs ls hP hD hS hl
    obtain ⟨F, hF0⟩ : ∃ F, F = g_X12_isDigit_x a0 := ⟨_, rfl⟩
    have hF := hF0.trans g_X12_isDigit_x_e
    refine lv_iload_n hx hb dX12_isDigit_0 rfl (lv_at hl 0 rfl) ?_
    refine lv_bipush (v := 48) hx hb dX12_isDigit_1 (by decide) ?_
    refine lv_bipush (v := 57) hx hb dX12_isDigit_3 (by decide) ?_
    refine pk_i (va_runS (As := [.int a0, .int 48, .int 57]) (rest := []) ⟨hx, hb, hml, hown, hts⟩ (s_X12_isIn_x l D t σ I J ri rj rq H.size tg hSH hG.1 a0 (48 : Int32) (57 : Int32)) (va_cwS 3 hts (tw_S tw_235 tw_236 tw_5 tw_237) rfl rfl rfl cd_yX12_isIn_3 ⟨Nat.le_of_ble_eq_true rfl, Nat.le_of_ble_eq_true rfl⟩) ⟨pq_blind, pq_pre hK hN hP hD⟩ rfl rfl hl.1 rfl (lv_room (Nat.le_of_ble_eq_true rfl)) dX12_isDigit_5 ⟨Nat.le_of_ble_eq_true rfl, Nat.le_of_ble_eq_true rfl⟩) hD hS hA (fun x_1 σ1 μ1 H locs hw_2 hP hD hS => ?_)
    obtain ⟨hu_3, hfn_6, hr_5⟩ := hw_2
    obtain ⟨hu_3a, hu_3b⟩ := Prod.mk.inj hu_3
    rw [hu_3a, hu_3b] at hP hD
    replace hF := hF.trans (ap_n hfn_6.symm)
    have h_8 : rg x_1 0 1 := by rcases hr_5 with ⟨q, -⟩ | ⟨q, -⟩ <;> rw [q] <;> exact ⟨by decide, by decide⟩
    have uh_8 := h_8.1
    have vh_8 := h_8.2
    rcases hr_5 with ⟨e_12, f_9, f_10⟩ | ⟨e_12, f_11⟩
    · refine lv_tov 1 e_12 ?_
      have tc_13 : 48 ≤ (a0).toInt := Int32.le_iff_toInt_le.mp f_9
      have h_14 : rg a0 48 2147483647 := rg_le2 f_9 (rg_k (48 : Int32) 48 rfl) (rg_full _) (by decide)
      have uh_14 := h_14.1
      have vh_14 := h_14.2
      have tc_15 : (a0).toInt ≤ 57 := Int32.le_iff_toInt_le.mp f_10
      have h_16 : rg a0 48 57 := rg_le1 f_10 h_14 (rg_k (57 : Int32) 57 rfl) (by decide)
      have uh_16 := h_16.1
      have vh_16 := h_16.2
      subst hQ
      exact W.zret (v := 1) hx hb hr (by decide) (fun t1 ht hW => ⟨⟨1, (σ, I, J, ri, rj, rq), rfl, ⟨rfl, (hF0.symm.trans (hF.trans (by rw [e_12]))), (Or.inl ⟨rfl, (rg_w h_16 (by decide)), (by omega)⟩)⟩, by rw [ht]; exact hP, va_K.moved hW.alike hK, hD⟩, hS.F ht⟩) hS.2.2 dX12_isDigit_8
    · refine lv_tov 0 e_12 ?_
      have zk_17 : (48 : Int32).toInt = 48 := rfl
      have zk_18 : (57 : Int32).toInt = 57 := rfl
      subst hQ
      exact W.zret (v := 0) hx hb hr (by decide) (fun t1 ht hW => ⟨⟨0, (σ, I, J, ri, rj, rq), rfl, ⟨rfl, (hF0.symm.trans (hF.trans (by rw [e_12]))), (Or.inr ⟨rfl, (by omega)⟩)⟩, by rw [ht]; exact hP, va_K.moved hW.alike hK, hD⟩, hS.F ht⟩) hS.2.2 dX12_isDigit_8
  exact go _ _ _ hP hD hS hl

set_option maxRecDepth 100000 in
def g_X12_isLetter_x (a0 : Int32) : Int32 := (ap1 (g_X12_isIn_x a0 (97 : Int32) (122 : Int32)) fun (x_1 : Int32) => (if x_1 = (0 : Int32) then (ap1 (g_X12_isIn_x a0 (65 : Int32) (90 : Int32)) fun (x_36 : Int32) => (if x_36 = (0 : Int32) then (0 : Int32) else (1 : Int32))) else (1 : Int32)))
set_option maxRecDepth 100000 in
theorem g_X12_isLetter_x_e {a0 : Int32} : g_X12_isLetter_x a0 = (ap1 (g_X12_isIn_x a0 (97 : Int32) (122 : Int32)) fun (x_1 : Int32) => (if x_1 = (0 : Int32) then (ap1 (g_X12_isIn_x a0 (65 : Int32) (90 : Int32)) fun (x_36 : Int32) => (if x_36 = (0 : Int32) then (0 : Int32) else (1 : Int32))) else (1 : Int32))) := rfl
set_option maxHeartbeats 4000000 in
set_option maxRecDepth 100000 in
theorem s_X12_isLetter_x (l : Launch) (D : va_G) (t : pq_T) (σ : pq_S) (I : Nat → Nat → Int32) (J : Nat → Nat → Int64) (ri : Nat → Nat → Int32) (rj : Nat → Nat → Int64) (rq : Nat → Nat → Option Nat) (sz : Nat) (tg : Nat → Nat) (hSH : SH σ tg) (hG0 : GT tg I ri) (a0 : Int32) : MetI l yX12_isLetter (wa yX12_isLetter cX12_isLetter 1 (some .boolean)) ({ frames := 1, cells := 0, slots := 0, locals := 22 }) [.int a0] D t σ (I, J, ri, rj, rq) sz 0 0 (fun (r : Int32) (u : pq_S × pq_M) => u = (σ, I, J, ri, rj, rq) ∧ g_X12_isLetter_x a0 = r ∧ ((r = 1 ∧ rg a0 65 122 ∧ ((65 ≤ a0.toInt ∧ a0.toInt ≤ 90 ∨ 97 ≤ a0.toInt ∧ a0.toInt ≤ 122))) ∨ (r = 0 ∧ (¬ (65 ≤ a0.toInt ∧ a0.toInt ≤ 90 ∨ 97 ≤ a0.toInt ∧ a0.toInt ≤ 122))))) := by
  refine Met.ofW (cc := cX12_isLetter) (maxL := 1) (ret := (some .boolean)) (by decide) rfl ?_
  intro p e s m args below meth c s₁ B hml hv
  obtain ⟨rfl, hsz, hP, hK, hD0, hN⟩ := hv
  have hx := B.exec
  have hb := B.bytes
  have hr := B.returns
  have hts := atoms_spec (ws := (wa yX12_isLetter cX12_isLetter 1 (some .boolean))) B.pre
  have hown : s.vm.findClass RX12 = some m.cls := findClass_of_methodNamed B.named
  have hlocks := B.notSynchronized
  subst hsz
  have hD : va_D (pq_B t σ (I, J, ri, rj, rq) s.heap.size) (pq_P t σ (I, J, ri, rj, rq)) := hD0.self
  generalize hAe : pq_B t σ (I, J, ri, rj, rq) s.heap.size = A at hD ⊢
  have hA : ∀ q : Nat, s.heap.size ≤ q → A q := fun q h => by rw [← hAe]; exact Or.inr h
  have hS : va_S A s.heap s.heap [] := va_S.rf
  have hG : GM [] tg σ I ri I ri rq := ⟨hG0, fun _ _ _ => rfl, fun _ _ _ _ _ => rfl, fun _ _ _ _ _ _ => rfl⟩
  have hl := lv_entry ([.int a0]) (n := 1) (Nat.le_of_ble_eq_true rfl)
  rw [lg_entry_eq]
  generalize (lg_sl ([.int a0]) ++ List.replicate (1 - (lg_sl ([.int a0])).length) Slot.unset).toArray = ls at hl ⊢
  have hl : lv_has ls 1 [(0, .int a0)] := hl
  refine q_gen (fun Q hQ => ?_)
  have go : ∀ (H : Heap) (locs : List Loc) (ls : Array Slot), va_P D vwCl (pq_P t σ (I, J, ri, rj, rq)) H → va_D A (pq_P t σ (I, J, ri, rj, rq)) → va_S A s.heap H locs → lv_has ls 1 [(0, .int a0)] → W p l e ({ frames := 1, cells := 0, slots := 0, locals := 22 } : Room) s m (List.toArray ([.int a0] : List Value)) below meth c H locs 0 0 Q (F0 m 0 ls []) := by
    intro H locs ls hP hD hS hl
    obtain ⟨F, hF0⟩ : ∃ F, F = g_X12_isLetter_x a0 := ⟨_, rfl⟩
    have hF := hF0.trans g_X12_isLetter_x_e
    refine lv_iload_n hx hb dX12_isLetter_0 rfl (lv_at hl 0 rfl) ?_
    refine lv_bipush (v := 97) hx hb dX12_isLetter_1 (by decide) ?_
    refine lv_bipush (v := 122) hx hb dX12_isLetter_3 (by decide) ?_
    refine pk_i (va_runS (As := [.int a0, .int 97, .int 122]) (rest := []) ⟨hx, hb, hml, hown, hts⟩ (s_X12_isIn_x l D t σ I J ri rj rq H.size tg hSH hG.1 a0 (97 : Int32) (122 : Int32)) (va_cwS 3 hts (tw_S tw_235 tw_236 tw_5 tw_237) rfl rfl rfl cd_yX12_isIn_3 ⟨Nat.le_of_ble_eq_true rfl, Nat.le_of_ble_eq_true rfl⟩) ⟨pq_blind, pq_pre hK hN hP hD⟩ rfl rfl hl.1 rfl (lv_room (Nat.le_of_ble_eq_true rfl)) dX12_isLetter_5 ⟨Nat.le_of_ble_eq_true rfl, Nat.le_of_ble_eq_true rfl⟩) hD hS hA (fun x_1 σ1 μ1 H locs hw_2 hP hD hS => ?_)
    obtain ⟨hu_3, hfn_6, hr_5⟩ := hw_2
    obtain ⟨hu_3a, hu_3b⟩ := Prod.mk.inj hu_3
    rw [hu_3a, hu_3b] at hP hD
    replace hF := hF.trans (ap_n hfn_6.symm)
    have h_8 : rg x_1 0 1 := by rcases hr_5 with ⟨q, -⟩ | ⟨q, -⟩ <;> rw [q] <;> exact ⟨by decide, by decide⟩
    have uh_8 := h_8.1
    have vh_8 := h_8.2
    refine lv_if_ne (tgt := 22) hx hb dX12_isLetter_8 (by decide) (fun c_9 => ?_) (fun c_9 => ?_)
    · replace hF := hF.trans (if_neg c_9)
      obtain ⟨f_23, f_24⟩ := (hr_5.resolve_right (fun q => c_9 q.1)).2
      have tc_25 : 97 ≤ (a0).toInt := Int32.le_iff_toInt_le.mp f_23
      have h_26 : rg a0 97 2147483647 := rg_le2 f_23 (rg_k (97 : Int32) 97 rfl) (rg_full _) (by decide)
      have uh_26 := h_26.1
      have vh_26 := h_26.2
      have tc_27 : (a0).toInt ≤ 122 := Int32.le_iff_toInt_le.mp f_24
      have h_28 : rg a0 97 122 := rg_le1 f_24 h_26 (rg_k (122 : Int32) 122 rfl) (by decide)
      have uh_28 := h_28.1
      have vh_28 := h_28.2
      have tc_29 : (x_1).toInt ≠ 0 := fun q => c_9 (Int32.toInt_inj.mp q)
      have h_30 : rg x_1 1 1 := rg_ne c_9 h_8 0 rfl (by decide)
      have uh_30 := h_30.1
      have vh_30 := h_30.2
      refine lv_iconst (v := 1) hx hb dX12_isLetter_22 (by decide) ?_
      refine lv_goto (tgt := 27) hx hb dX12_isLetter_23 (by decide) ?_
      subst hQ
      exact W.zret (v := 1) hx hb hr (by decide) (fun t1 ht hW => ⟨⟨1, (σ, I, J, ri, rj, rq), rfl, ⟨rfl, (hF0.symm.trans hF), (Or.inl ⟨rfl, (rg_w h_28 (by decide)), (by omega)⟩)⟩, by rw [ht]; exact hP, va_K.moved hW.alike hK, hD⟩, hS.F ht⟩) hS.2.2 dX12_isLetter_27
    · replace hF := hF.trans (if_pos c_9)
      have f_31 := (hr_5.resolve_left (fun q => absurd (q.1.symm.trans c_9) (by decide))).2
      have zk_32 : (122 : Int32).toInt = 122 := rfl
      have zk_33 : (97 : Int32).toInt = 97 := rfl
      have tc_34 : (x_1).toInt = 0 := congrArg Int32.toInt c_9
      have h_35 : rg x_1 0 0 := rg_and h_8 (rg_of_eq c_9 (rg_k (0 : Int32) 0 rfl)) (by decide)
      have uh_35 := h_35.1
      have vh_35 := h_35.2
      refine lv_iload_n hx hb dX12_isLetter_11 rfl (lv_at hl 0 rfl) ?_
      refine lv_bipush (v := 65) hx hb dX12_isLetter_12 (by decide) ?_
      refine lv_bipush (v := 90) hx hb dX12_isLetter_14 (by decide) ?_
      refine pk_i (va_runS (As := [.int a0, .int 65, .int 90]) (rest := []) ⟨hx, hb, hml, hown, hts⟩ (s_X12_isIn_x l D t σ I J ri rj rq H.size tg hSH hG.1 a0 (65 : Int32) (90 : Int32)) (va_cwS 3 hts (tw_S tw_235 tw_236 tw_5 tw_237) rfl rfl rfl cd_yX12_isIn_3 ⟨Nat.le_of_ble_eq_true rfl, Nat.le_of_ble_eq_true rfl⟩) ⟨pq_blind, pq_pre hK hN hP hD⟩ rfl rfl hl.1 rfl (lv_room (Nat.le_of_ble_eq_true rfl)) dX12_isLetter_16 ⟨Nat.le_of_ble_eq_true rfl, Nat.le_of_ble_eq_true rfl⟩) hD hS hA (fun x_36 σ1 μ1 H locs hw_37 hP hD hS => ?_)
      obtain ⟨hu_38, hfn_41, hr_40⟩ := hw_37
      obtain ⟨hu_38a, hu_38b⟩ := Prod.mk.inj hu_38
      rw [hu_38a, hu_38b] at hP hD
      replace hF := hF.trans (ap_n hfn_41.symm)
      have h_43 : rg x_36 0 1 := by rcases hr_40 with ⟨q, -⟩ | ⟨q, -⟩ <;> rw [q] <;> exact ⟨by decide, by decide⟩
      have uh_43 := h_43.1
      have vh_43 := h_43.2
      refine lv_if_eq (tgt := 26) hx hb dX12_isLetter_19 (by decide) (fun c_44 => ?_) (fun c_44 => ?_)
      · replace hF := hF.trans (if_pos c_44)
        have f_58 := (hr_40.resolve_left (fun q => absurd (q.1.symm.trans c_44) (by decide))).2
        have zk_59 : (65 : Int32).toInt = 65 := rfl
        have zk_60 : (90 : Int32).toInt = 90 := rfl
        have tc_61 : (x_36).toInt = 0 := congrArg Int32.toInt c_44
        have h_62 : rg x_36 0 0 := rg_and h_43 (rg_of_eq c_44 (rg_k (0 : Int32) 0 rfl)) (by decide)
        have uh_62 := h_62.1
        have vh_62 := h_62.2
        refine lv_iconst (v := 0) hx hb dX12_isLetter_26 (by decide) ?_
        subst hQ
        exact W.zret (v := 0) hx hb hr (by decide) (fun t1 ht hW => ⟨⟨0, (σ, I, J, ri, rj, rq), rfl, ⟨rfl, (hF0.symm.trans hF), (Or.inr ⟨rfl, (by omega)⟩)⟩, by rw [ht]; exact hP, va_K.moved hW.alike hK, hD⟩, hS.F ht⟩) hS.2.2 dX12_isLetter_27
      · replace hF := hF.trans (if_neg c_44)
        obtain ⟨f_63, f_64⟩ := (hr_40.resolve_right (fun q => c_44 q.1)).2
        have tc_65 : 65 ≤ (a0).toInt := Int32.le_iff_toInt_le.mp f_63
        have h_66 : rg a0 65 2147483647 := rg_le2 f_63 (rg_k (65 : Int32) 65 rfl) (rg_full _) (by decide)
        have uh_66 := h_66.1
        have vh_66 := h_66.2
        have tc_67 : (a0).toInt ≤ 90 := Int32.le_iff_toInt_le.mp f_64
        have h_68 : rg a0 65 90 := rg_le1 f_64 h_66 (rg_k (90 : Int32) 90 rfl) (by decide)
        have uh_68 := h_68.1
        have vh_68 := h_68.2
        have tc_69 : (x_36).toInt ≠ 0 := fun q => c_44 (Int32.toInt_inj.mp q)
        have h_70 : rg x_36 1 1 := rg_ne c_44 h_43 0 rfl (by decide)
        have uh_70 := h_70.1
        have vh_70 := h_70.2
        refine lv_iconst (v := 1) hx hb dX12_isLetter_22 (by decide) ?_
        refine lv_goto (tgt := 27) hx hb dX12_isLetter_23 (by decide) ?_
        subst hQ
        exact W.zret (v := 1) hx hb hr (by decide) (fun t1 ht hW => ⟨⟨1, (σ, I, J, ri, rj, rq), rfl, ⟨rfl, (hF0.symm.trans hF), (Or.inl ⟨rfl, (rg_w h_68 (by decide)), (by omega)⟩)⟩, by rw [ht]; exact hP, va_K.moved hW.alike hK, hD⟩, hS.F ht⟩) hS.2.2 dX12_isLetter_27
  exact go _ _ _ hP hD hS hl

set_option maxRecDepth 100000 in
def g_X12_see_x (a0 : Int32) (I : Nat → Int32) (J : Nat → Int64) (ri : Nat → Nat → Int32) (rj : Nat → Nat → Int64) (rq : Nat → Nat → Option Nat) : Int32 × vM := (ap1 (I 388) fun (y_2 : Int32) => (if (y_2) ≤ a0 then ((-1 : Int32), I, J, ri, rj, rq) else (ap1 (ri 387 (a0).toNatClampNeg) fun (x_12 : Int32) => (x_12, I, J, ri, rj, rq))))
set_option maxRecDepth 100000 in
theorem g_X12_see_x_e {a0 : Int32} {I : Nat → Int32} {J : Nat → Int64} {ri : Nat → Nat → Int32} {rj : Nat → Nat → Int64} {rq : Nat → Nat → Option Nat} : g_X12_see_x a0 I J ri rj rq = (ap1 (I 388) fun (y_2 : Int32) => (if (y_2) ≤ a0 then ((-1 : Int32), I, J, ri, rj, rq) else (ap1 (ri 387 (a0).toNatClampNeg) fun (x_12 : Int32) => (x_12, I, J, ri, rj, rq)))) := rfl
set_option maxHeartbeats 4000000 in
set_option maxRecDepth 100000 in
theorem s_X12_see_x (l : Launch) (D : va_G) (t : pq_T) (σ : pq_S) (I : Nat → Nat → Int32) (J : Nat → Nat → Int64) (ri : Nat → Nat → Int32) (rj : Nat → Nat → Int64) (rq : Nat → Nat → Option Nat) (sz : Nat) (tg : Nat → Nat) (hSH : SH σ tg) (hG0 : GT tg I ri) (this : Nat) (a0 : Int32) (hL_this : this ∈ σ.1) (hK_this : σ.2.1 this = 12) (h_a0 : rg a0 0 300) (this_tape : Nat) (hR_this_tape : σ.2.2.1 387 this = some this_tape) (hL_this_tape : this_tape ∈ σ.1) (hK_this_tape : σ.2.1 this_tape = 13) (hN_this_tape : σ.2.2.2 this_tape = 300) (hT_this_tape : tg this_tape = 387) : MetI l yX12_see (wa yX12_see cX12_see 2 (some .int)) ({ frames := 0, cells := 0, slots := 0, locals := 0 }) [.ref this, .int a0] D t σ (I, J, ri, rj, rq) sz 0 0 (fun (r : Int32) (u : pq_S × pq_M) => u = (σ, I, J, ri, rj, rq) ∧ ((r.toInt = -1 ∧ (I 388 this).toInt ≤ a0.toInt) ∨ (r = ri this_tape a0.toNatClampNeg ∧ 0 ≤ r.toInt ∧ a0.toInt < (I 388 this).toInt)) ∧ g_X12_see_x a0 (vI 12 σ this I) (vJ 12 σ this J) (vR 12 σ this ri) (vL 12 σ this rj) (vQ 12 σ this rq) = (r, (vI 12 σ this I), (vJ 12 σ this J), (vR 12 σ this ri), (vL 12 σ this rj), (vQ 12 σ this rq)) ∧ rg r (-1) 255) := by
  refine Met.ofW (cc := cX12_see) (maxL := 2) (ret := (some .int)) (by decide) rfl ?_
  intro p e s m args below meth c s₁ B hml hv
  obtain ⟨rfl, hsz, hP, hK, hD0, hN⟩ := hv
  have hx := B.exec
  have hb := B.bytes
  have hr := B.returns
  have hts := atoms_spec (ws := (wa yX12_see cX12_see 2 (some .int))) B.pre
  have hown : s.vm.findClass RX12 = some m.cls := findClass_of_methodNamed B.named
  have hlocks := B.notSynchronized
  subst hsz
  have hD : va_D (pq_B t σ (I, J, ri, rj, rq) s.heap.size) (pq_P t σ (I, J, ri, rj, rq)) := hD0.self
  generalize hAe : pq_B t σ (I, J, ri, rj, rq) s.heap.size = A at hD ⊢
  have hA : ∀ q : Nat, s.heap.size ≤ q → A q := fun q h => by rw [← hAe]; exact Or.inr h
  have hS : va_S A s.heap s.heap [] := va_S.rf
  have hG : GM [] tg σ I ri I ri rq := ⟨hG0, fun _ _ _ => rfl, fun _ _ _ _ _ => rfl, fun _ _ _ _ _ _ => rfl⟩
  have hl := lv_entry ([.ref this, .int a0]) (n := 2) (Nat.le_of_ble_eq_true rfl)
  rw [lg_entry_eq]
  generalize (lg_sl ([.ref this, .int a0]) ++ List.replicate (2 - (lg_sl ([.ref this, .int a0])).length) Slot.unset).toArray = ls at hl ⊢
  have hl : lv_has ls 2 [(0, .ref this), (1, .int a0)] := hl
  refine q_gen (fun Q hQ => ?_)
  have go : ∀ (H : Heap) (locs : List Loc) (ls : Array Slot), va_P D vwCl (pq_P t σ (I, J, ri, rj, rq)) H → va_D A (pq_P t σ (I, J, ri, rj, rq)) → va_S A s.heap H locs → lv_has ls 2 [(0, .ref this), (1, .int a0)] → W p l e ({ frames := 0, cells := 0, slots := 0, locals := 0 } : Room) s m (List.toArray ([.ref this, .int a0] : List Value)) below meth c H locs 0 0 Q (F0 m 0 ls []) := by
    intro H locs ls hP hD hS hl
    have hO_this : this = vo σ 12 this := rfl
    have hVT : VT 12 σ tg this := vt_12 hSH hL_this hK_this
    have hFr : FR 12 tg σ this (I, J, ri, rj, rq) (I, J, ri, rj, rq) := fr_rf
    have hO_this_tape : this_tape = vrow σ 387 this := vo_k (c := 12) hO_this hR_this_tape
    obtain ⟨F, hF0⟩ : ∃ F, F = g_X12_see_x a0 (vI 12 σ this I) (vJ 12 σ this J) (vR 12 σ this ri) (vL 12 σ this rj) (vQ 12 σ this rq) := ⟨_, rfl⟩
    have hF := hF0.trans g_X12_see_x_e
    refine lv_iload_n hx hb dX12_see_0 rfl (lv_at hl 1 rfl) ?_
    refine lv_aload_n hx hb dX12_see_1 rfl (lv_at hl 0 rfl) ?_
    refine pg_f (v := .int (I 388 this)) (C := RX12) (T := TX12) (N := 31) hx hb hts (tw_i inlX12) hown hK hP hL_this hK_this (by decide) rfl 4 (by decide) (hts _ (tw_c tw_631)) rfl dX12_see_2 ?_
    have h_1 : rg (I 388 this) 0 300 := GM.rI hG 388 rfl
    have uh_1 := h_1.1
    have vh_1 := h_1.2
    replace hF := hF.trans (ap_n (vI_e (f := 388) hO_this (by decide)))
    refine lv_icmp_ge (tgt := 17) hx hb dX12_see_5 (by decide) (fun c_3 => ?_) (fun c_3 => ?_)
    · replace hF := hF.trans (if_pos c_3)
      have tc_8 : (I 388 this).toInt ≤ (a0).toInt := Int32.le_iff_toInt_le.mp c_3
      refine lv_iconst (v := (-1)) hx hb dX12_see_17 (by decide) ?_
      subst hQ
      exact W.iret (v := (-1)) hx hb hr (fun t1 ht hW => ⟨⟨(-1), (σ, I, J, ri, rj, rq), rfl, ⟨rfl, (Or.inl ⟨rfl, by omega⟩), (hF0.symm.trans hF), (rg_w (rg_k (-1 : Int32) (-1) rfl) (by decide))⟩, by rw [ht]; exact hP, va_K.moved hW.alike hK, hD⟩, hS.F ht⟩) hS.2.2 dX12_see_18
    · replace hF := hF.trans (if_neg c_3)
      have tc_9 : (a0).toInt < (I 388 this).toInt := Int32.lt_iff_toInt_lt.mp (nle c_3)
      have h_10 : rg a0 0 299 := rg_lt1 (nle c_3) h_a0 h_1 (by decide)
      have uh_10 := h_10.1
      have vh_10 := h_10.2
      have h_11 : rg (I 388 this) 1 300 := rg_lt2 (nle c_3) h_a0 h_1 (by decide)
      have uh_11 := h_11.1
      have vh_11 := h_11.2
      refine lv_aload_n hx hb dX12_see_8 rfl (lv_at hl 0 rfl) ?_
      refine pg_f (v := .ref this_tape) (C := RX12) (T := TX12) (N := 31) hx hb hts (tw_i inlX12) hown hK hP hL_this hK_this (by decide) rfl 3 (by decide) (hts _ (tw_c tw_179)) (pq_hv rfl hR_this_tape) dX12_see_9 ?_
      refine lv_iload_n hx hb dX12_see_12 rfl (lv_at hl 1 rfl) ?_
      refine pl_i hx hb hK hP hL_this_tape hK_this_tape hN_this_tape (rg_in h_10 (by decide)) dX12_see_13 ?_
      refine lv_topi (fun x_12 ex_12 => ?_)
      replace hF := hF.trans (ap_n (vR_r hO_this_tape (by decide) ex_12))
      have ex_12 : x_12 = ri this_tape (a0).toNatClampNeg := ex_12
      have h_13 : rg x_12 0 255 := rg_of_eq ex_12 (GM.rR hG hT_this_tape rfl)
      have uh_13 := h_13.1
      have vh_13 := h_13.2
      refine lv_goto (tgt := 18) hx hb dX12_see_14 (by decide) ?_
      subst hQ
      exact W.iret (v := x_12) hx hb hr (fun t1 ht hW => ⟨⟨x_12, (σ, I, J, ri, rj, rq), rfl, ⟨rfl, (Or.inr ⟨ex_12, (h_13).1, by omega⟩), (hF0.symm.trans hF), (rg_w h_13 (by decide))⟩, by rw [ht]; exact hP, va_K.moved hW.alike hK, hD⟩, hS.F ht⟩) hS.2.2 dX12_see_18
  exact go _ _ _ hP hD hS hl

set_option maxRecDepth 100000 in
def g_X12_nextToken_x_K343 (J : Nat → Int64) (ri : Nat → Nat → Int32) (rj : Nat → Nat → Int64) (rq : Nat → Nat → Option Nat) (x_4475 : Int32) (I_4533 : Nat → Int32) : vM := (ap1 (va_up I_4533 393 (3 : Int32)) fun (I_4825 : Nat → Int32) => (if x_4475 = (60 : Int32) then (ap1 (I_4825 391) fun (y_4837 : Int32) => (bnI (g_X12_see_x (y_4837) I_4825 J ri rj rq) fun (x_4838 : Int32) (_ : Nat → Int32) (_ : Nat → Int64) (_ : Nat → Nat → Int32) (_ : Nat → Nat → Int64) (_ : Nat → Nat → Option Nat) => (if x_4838 = (61 : Int32) then (ap1 ((y_4837) + (1 : Int32)) fun (x_4856 : Int32) => (ap1 (va_up I_4825 391 x_4856) fun (I_4858 : Nat → Int32) => (ap1 (va_up I_4858 393 (4 : Int32)) fun (I_4868 : Nat → Int32) => (I_4868, J, ri, rj, rq)))) else (I_4825, J, ri, rj, rq)))) else (if x_4475 = (62 : Int32) then (ap1 (I_4825 391) fun (y_4882 : Int32) => (bnI (g_X12_see_x (y_4882) I_4825 J ri rj rq) fun (x_4883 : Int32) (_ : Nat → Int32) (_ : Nat → Int64) (_ : Nat → Nat → Int32) (_ : Nat → Nat → Int64) (_ : Nat → Nat → Option Nat) => (if x_4883 = (61 : Int32) then (ap1 ((y_4882) + (1 : Int32)) fun (x_4901 : Int32) => (ap1 (va_up I_4825 391 x_4901) fun (I_4903 : Nat → Int32) => (ap1 (va_up I_4903 393 (5 : Int32)) fun (I_4912 : Nat → Int32) => (I_4912, J, ri, rj, rq)))) else (I_4825, J, ri, rj, rq)))) else (I_4825, J, ri, rj, rq))))
set_option maxRecDepth 100000 in
theorem g_X12_nextToken_x_K343_e {J : Nat → Int64} {ri : Nat → Nat → Int32} {rj : Nat → Nat → Int64} {rq : Nat → Nat → Option Nat} {x_4475 : Int32} {I_4533 : Nat → Int32} : g_X12_nextToken_x_K343 J ri rj rq x_4475 I_4533  = (ap1 (va_up I_4533 393 (3 : Int32)) fun (I_4825 : Nat → Int32) => (if x_4475 = (60 : Int32) then (ap1 (I_4825 391) fun (y_4837 : Int32) => (bnI (g_X12_see_x (y_4837) I_4825 J ri rj rq) fun (x_4838 : Int32) (_ : Nat → Int32) (_ : Nat → Int64) (_ : Nat → Nat → Int32) (_ : Nat → Nat → Int64) (_ : Nat → Nat → Option Nat) => (if x_4838 = (61 : Int32) then (ap1 ((y_4837) + (1 : Int32)) fun (x_4856 : Int32) => (ap1 (va_up I_4825 391 x_4856) fun (I_4858 : Nat → Int32) => (ap1 (va_up I_4858 393 (4 : Int32)) fun (I_4868 : Nat → Int32) => (I_4868, J, ri, rj, rq)))) else (I_4825, J, ri, rj, rq)))) else (if x_4475 = (62 : Int32) then (ap1 (I_4825 391) fun (y_4882 : Int32) => (bnI (g_X12_see_x (y_4882) I_4825 J ri rj rq) fun (x_4883 : Int32) (_ : Nat → Int32) (_ : Nat → Int64) (_ : Nat → Nat → Int32) (_ : Nat → Nat → Int64) (_ : Nat → Nat → Option Nat) => (if x_4883 = (61 : Int32) then (ap1 ((y_4882) + (1 : Int32)) fun (x_4901 : Int32) => (ap1 (va_up I_4825 391 x_4901) fun (I_4903 : Nat → Int32) => (ap1 (va_up I_4903 393 (5 : Int32)) fun (I_4912 : Nat → Int32) => (I_4912, J, ri, rj, rq)))) else (I_4825, J, ri, rj, rq)))) else (I_4825, J, ri, rj, rq)))) := rfl
set_option maxRecDepth 100000 in
def g_X12_nextToken_x_K332 (J : Nat → Int64) (ri : Nat → Nat → Int32) (rj : Nat → Nat → Int64) (rq : Nat → Nat → Option Nat) (x_4475 : Int32) (I_4533 : Nat → Int32) : vM := (g_X12_nextToken_x_K343 J ri rj rq x_4475 I_4533 )
set_option maxRecDepth 100000 in
theorem g_X12_nextToken_x_K332_e {J : Nat → Int64} {ri : Nat → Nat → Int32} {rj : Nat → Nat → Int64} {rq : Nat → Nat → Option Nat} {x_4475 : Int32} {I_4533 : Nat → Int32} : g_X12_nextToken_x_K332 J ri rj rq x_4475 I_4533  = (g_X12_nextToken_x_K343 J ri rj rq x_4475 I_4533 ) := rfl
set_option maxRecDepth 100000 in
def g_X12_nextToken_x_K343_2 (J : Nat → Int64) (ri : Nat → Nat → Int32) (rj : Nat → Nat → Int64) (rq : Nat → Nat → Option Nat) (x_4475 : Int32) (I_4533 : Nat → Int32) : vM := (ap1 (va_up I_4533 393 x_4475) fun (I_5002 : Nat → Int32) => (if x_4475 = (60 : Int32) then (ap1 (I_5002 391) fun (y_5014 : Int32) => (bnI (g_X12_see_x (y_5014) I_5002 J ri rj rq) fun (x_5015 : Int32) (_ : Nat → Int32) (_ : Nat → Int64) (_ : Nat → Nat → Int32) (_ : Nat → Nat → Int64) (_ : Nat → Nat → Option Nat) => (if x_5015 = (61 : Int32) then (ap1 ((y_5014) + (1 : Int32)) fun (x_5033 : Int32) => (ap1 (va_up I_5002 391 x_5033) fun (I_5035 : Nat → Int32) => (ap1 (va_up I_5035 393 (4 : Int32)) fun (I_5045 : Nat → Int32) => (I_5045, J, ri, rj, rq)))) else (I_5002, J, ri, rj, rq)))) else (if x_4475 = (62 : Int32) then (ap1 (I_5002 391) fun (y_5061 : Int32) => (bnI (g_X12_see_x (y_5061) I_5002 J ri rj rq) fun (x_5062 : Int32) (_ : Nat → Int32) (_ : Nat → Int64) (_ : Nat → Nat → Int32) (_ : Nat → Nat → Int64) (_ : Nat → Nat → Option Nat) => (if x_5062 = (61 : Int32) then (ap1 ((y_5061) + (1 : Int32)) fun (x_5080 : Int32) => (ap1 (va_up I_5002 391 x_5080) fun (I_5082 : Nat → Int32) => (ap1 (va_up I_5082 393 (5 : Int32)) fun (I_5091 : Nat → Int32) => (I_5091, J, ri, rj, rq)))) else (I_5002, J, ri, rj, rq)))) else (I_5002, J, ri, rj, rq))))
set_option maxRecDepth 100000 in
theorem g_X12_nextToken_x_K343_2_e {J : Nat → Int64} {ri : Nat → Nat → Int32} {rj : Nat → Nat → Int64} {rq : Nat → Nat → Option Nat} {x_4475 : Int32} {I_4533 : Nat → Int32} : g_X12_nextToken_x_K343_2 J ri rj rq x_4475 I_4533  = (ap1 (va_up I_4533 393 x_4475) fun (I_5002 : Nat → Int32) => (if x_4475 = (60 : Int32) then (ap1 (I_5002 391) fun (y_5014 : Int32) => (bnI (g_X12_see_x (y_5014) I_5002 J ri rj rq) fun (x_5015 : Int32) (_ : Nat → Int32) (_ : Nat → Int64) (_ : Nat → Nat → Int32) (_ : Nat → Nat → Int64) (_ : Nat → Nat → Option Nat) => (if x_5015 = (61 : Int32) then (ap1 ((y_5014) + (1 : Int32)) fun (x_5033 : Int32) => (ap1 (va_up I_5002 391 x_5033) fun (I_5035 : Nat → Int32) => (ap1 (va_up I_5035 393 (4 : Int32)) fun (I_5045 : Nat → Int32) => (I_5045, J, ri, rj, rq)))) else (I_5002, J, ri, rj, rq)))) else (if x_4475 = (62 : Int32) then (ap1 (I_5002 391) fun (y_5061 : Int32) => (bnI (g_X12_see_x (y_5061) I_5002 J ri rj rq) fun (x_5062 : Int32) (_ : Nat → Int32) (_ : Nat → Int64) (_ : Nat → Nat → Int32) (_ : Nat → Nat → Int64) (_ : Nat → Nat → Option Nat) => (if x_5062 = (61 : Int32) then (ap1 ((y_5061) + (1 : Int32)) fun (x_5080 : Int32) => (ap1 (va_up I_5002 391 x_5080) fun (I_5082 : Nat → Int32) => (ap1 (va_up I_5082 393 (5 : Int32)) fun (I_5091 : Nat → Int32) => (I_5091, J, ri, rj, rq)))) else (I_5002, J, ri, rj, rq)))) else (I_5002, J, ri, rj, rq)))) := rfl
set_option maxRecDepth 100000 in
def g_X12_nextToken_x_K332_2 (J : Nat → Int64) (ri : Nat → Nat → Int32) (rj : Nat → Nat → Int64) (rq : Nat → Nat → Option Nat) (x_4475 : Int32) (I_4533 : Nat → Int32) : vM := (g_X12_nextToken_x_K343_2 J ri rj rq x_4475 I_4533 )
set_option maxRecDepth 100000 in
theorem g_X12_nextToken_x_K332_2_e {J : Nat → Int64} {ri : Nat → Nat → Int32} {rj : Nat → Nat → Int64} {rq : Nat → Nat → Option Nat} {x_4475 : Int32} {I_4533 : Nat → Int32} : g_X12_nextToken_x_K332_2 J ri rj rq x_4475 I_4533  = (g_X12_nextToken_x_K343_2 J ri rj rq x_4475 I_4533 ) := rfl
set_option maxRecDepth 100000 in
def g_X12_nextToken_x_K327 (J : Nat → Int64) (ri : Nat → Nat → Int32) (rj : Nat → Nat → Int64) (rq : Nat → Nat → Option Nat) (x_4475 : Int32) (I_4533 : Nat → Int32) : vM := (g_X12_nextToken_x_K332_2 J ri rj rq x_4475 I_4533 )
set_option maxRecDepth 100000 in
theorem g_X12_nextToken_x_K327_e {J : Nat → Int64} {ri : Nat → Nat → Int32} {rj : Nat → Nat → Int64} {rq : Nat → Nat → Option Nat} {x_4475 : Int32} {I_4533 : Nat → Int32} : g_X12_nextToken_x_K327 J ri rj rq x_4475 I_4533  = (g_X12_nextToken_x_K332_2 J ri rj rq x_4475 I_4533 ) := rfl
set_option maxRecDepth 100000 in
def g_X12_nextToken_x_L161 (ri : Nat → Nat → Int32) (rj : Nat → Nat → Int64) (rq : Nat → Nat → Option Nat) : Nat → (Nat → Int32) → (Nat → Int64) → vM
  | 0, I_5439, J_5440 => (I_5439, J_5440, ri, rj, rq)
  | n_5522 + 1, I_5439, J_5440 => (ap1 (I_5439 391) fun (y_5528 : Int32) => (bnI (g_X12_see_x (y_5528) I_5439 J_5440 ri rj rq) fun (x_5529 : Int32) (_ : Nat → Int32) (_ : Nat → Int64) (_ : Nat → Nat → Int32) (_ : Nat → Nat → Int64) (_ : Nat → Nat → Option Nat) => (ap1 (g_X12_isLetter_x x_5529) fun (x_5540 : Int32) => (if x_5540 = (0 : Int32) then (ap1 (I_5439 392) fun (y_5560 : Int32) => (ap1 ((y_5528) - (y_5560)) fun (x_5561 : Int32) => (if x_5561 ≤ (7 : Int32) then (I_5439, J_5440, ri, rj, rq) else (ap1 (va_up J_5440 395 (0 : Int64)) fun (J_5572 : Nat → Int64) => (I_5439, J_5572, ri, rj, rq))))) else (ap1 (I_5439 392) fun (y_5578 : Int32) => (ap1 ((y_5528) - (y_5578)) fun (x_5579 : Int32) => (if (7 : Int32) ≤ x_5579 then (ap1 ((y_5528) + (1 : Int32)) fun (x_5589 : Int32) => (ap1 (va_up I_5439 391 x_5589) fun (I_5591 : Nat → Int32) => ((g_X12_nextToken_x_L161 ri rj rq n_5522) I_5591 J_5440))) else (ap1 (J_5440 395) fun (y_5598 : Int64) => (ap1 ((y_5598) <<< ((8 : Int32).toInt64 &&& 63)) fun (x_5599 : Int64) => (bnI (g_X12_see_x (y_5528) I_5439 J_5440 ri rj rq) fun (x_5600 : Int32) (_ : Nat → Int32) (_ : Nat → Int64) (_ : Nat → Nat → Int32) (_ : Nat → Nat → Int64) (_ : Nat → Nat → Option Nat) => (ap1 (x_5600.toInt64) fun (x_5610 : Int64) => (ap1 (x_5599 ||| x_5610) fun (x_5611 : Int64) => (ap1 (va_up J_5440 395 x_5611) fun (J_5612 : Nat → Int64) => (ap1 ((y_5528) + (1 : Int32)) fun (x_5614 : Int32) => (ap1 (va_up I_5439 391 x_5614) fun (I_5616 : Nat → Int32) => ((g_X12_nextToken_x_L161 ri rj rq n_5522) I_5616 J_5612))))))))))))))))
set_option maxRecDepth 100000 in
theorem g_X12_nextToken_x_L161_e {ri : Nat → Nat → Int32} {rj : Nat → Nat → Int64} {rq : Nat → Nat → Option Nat} {n_5522 : Nat} {I_5439 : Nat → Int32} {J_5440 : Nat → Int64} : g_X12_nextToken_x_L161 ri rj rq (n_5522 + 1) I_5439 J_5440 = (ap1 (I_5439 391) fun (y_5528 : Int32) => (bnI (g_X12_see_x (y_5528) I_5439 J_5440 ri rj rq) fun (x_5529 : Int32) (_ : Nat → Int32) (_ : Nat → Int64) (_ : Nat → Nat → Int32) (_ : Nat → Nat → Int64) (_ : Nat → Nat → Option Nat) => (ap1 (g_X12_isLetter_x x_5529) fun (x_5540 : Int32) => (if x_5540 = (0 : Int32) then (ap1 (I_5439 392) fun (y_5560 : Int32) => (ap1 ((y_5528) - (y_5560)) fun (x_5561 : Int32) => (if x_5561 ≤ (7 : Int32) then (I_5439, J_5440, ri, rj, rq) else (ap1 (va_up J_5440 395 (0 : Int64)) fun (J_5572 : Nat → Int64) => (I_5439, J_5572, ri, rj, rq))))) else (ap1 (I_5439 392) fun (y_5578 : Int32) => (ap1 ((y_5528) - (y_5578)) fun (x_5579 : Int32) => (if (7 : Int32) ≤ x_5579 then (ap1 ((y_5528) + (1 : Int32)) fun (x_5589 : Int32) => (ap1 (va_up I_5439 391 x_5589) fun (I_5591 : Nat → Int32) => ((g_X12_nextToken_x_L161 ri rj rq n_5522) I_5591 J_5440))) else (ap1 (J_5440 395) fun (y_5598 : Int64) => (ap1 ((y_5598) <<< ((8 : Int32).toInt64 &&& 63)) fun (x_5599 : Int64) => (bnI (g_X12_see_x (y_5528) I_5439 J_5440 ri rj rq) fun (x_5600 : Int32) (_ : Nat → Int32) (_ : Nat → Int64) (_ : Nat → Nat → Int32) (_ : Nat → Nat → Int64) (_ : Nat → Nat → Option Nat) => (ap1 (x_5600.toInt64) fun (x_5610 : Int64) => (ap1 (x_5599 ||| x_5610) fun (x_5611 : Int64) => (ap1 (va_up J_5440 395 x_5611) fun (J_5612 : Nat → Int64) => (ap1 ((y_5528) + (1 : Int32)) fun (x_5614 : Int32) => (ap1 (va_up I_5439 391 x_5614) fun (I_5616 : Nat → Int32) => ((g_X12_nextToken_x_L161 ri rj rq n_5522) I_5616 J_5612)))))))))))))))) := rfl
set_option maxRecDepth 100000 in
def g_X12_nextToken_x_L85 (J : Nat → Int64) (ri : Nat → Nat → Int32) (rj : Nat → Nat → Int64) (rq : Nat → Nat → Option Nat) : Nat → (Nat → Int32) → vM
  | 0, I_5848 => (I_5848, J, ri, rj, rq)
  | n_5922 + 1, I_5848 => (ap1 (I_5848 391) fun (y_5928 : Int32) => (bnI (g_X12_see_x (y_5928) I_5848 J ri rj rq) fun (x_5929 : Int32) (_ : Nat → Int32) (_ : Nat → Int64) (_ : Nat → Nat → Int32) (_ : Nat → Nat → Int64) (_ : Nat → Nat → Option Nat) => (ap1 (g_X12_isDigit_x x_5929) fun (x_5940 : Int32) => (if x_5940 = (0 : Int32) then (I_5848, J, ri, rj, rq) else (ap1 (I_5848 394) fun (y_5963 : Int32) => (if (100000 : Int32) ≤ (y_5963) then (ap1 ((y_5928) + (1 : Int32)) fun (x_5972 : Int32) => (ap1 (va_up I_5848 391 x_5972) fun (I_5974 : Nat → Int32) => ((g_X12_nextToken_x_L85 J ri rj rq n_5922) I_5974))) else (ap1 ((10 : Int32) * (y_5963)) fun (x_5981 : Int32) => (bnI (g_X12_see_x (y_5928) I_5848 J ri rj rq) fun (x_5982 : Int32) (_ : Nat → Int32) (_ : Nat → Int64) (_ : Nat → Nat → Int32) (_ : Nat → Nat → Int64) (_ : Nat → Nat → Option Nat) => (ap1 (x_5981 + x_5982) fun (x_5992 : Int32) => (ap1 (x_5992 - (48 : Int32)) fun (x_5993 : Int32) => (ap1 (va_up I_5848 394 x_5993) fun (I_5994 : Nat → Int32) => (ap1 (I_5994 391) fun (y_6000 : Int32) => (ap1 ((y_6000) + (1 : Int32)) fun (x_6002 : Int32) => (ap1 (va_up I_5994 391 x_6002) fun (I_6004 : Nat → Int32) => ((g_X12_nextToken_x_L85 J ri rj rq n_5922) I_6004)))))))))))))))
set_option maxRecDepth 100000 in
theorem g_X12_nextToken_x_L85_e {J : Nat → Int64} {ri : Nat → Nat → Int32} {rj : Nat → Nat → Int64} {rq : Nat → Nat → Option Nat} {n_5922 : Nat} {I_5848 : Nat → Int32} : g_X12_nextToken_x_L85 J ri rj rq (n_5922 + 1) I_5848 = (ap1 (I_5848 391) fun (y_5928 : Int32) => (bnI (g_X12_see_x (y_5928) I_5848 J ri rj rq) fun (x_5929 : Int32) (_ : Nat → Int32) (_ : Nat → Int64) (_ : Nat → Nat → Int32) (_ : Nat → Nat → Int64) (_ : Nat → Nat → Option Nat) => (ap1 (g_X12_isDigit_x x_5929) fun (x_5940 : Int32) => (if x_5940 = (0 : Int32) then (I_5848, J, ri, rj, rq) else (ap1 (I_5848 394) fun (y_5963 : Int32) => (if (100000 : Int32) ≤ (y_5963) then (ap1 ((y_5928) + (1 : Int32)) fun (x_5972 : Int32) => (ap1 (va_up I_5848 391 x_5972) fun (I_5974 : Nat → Int32) => ((g_X12_nextToken_x_L85 J ri rj rq n_5922) I_5974))) else (ap1 ((10 : Int32) * (y_5963)) fun (x_5981 : Int32) => (bnI (g_X12_see_x (y_5928) I_5848 J ri rj rq) fun (x_5982 : Int32) (_ : Nat → Int32) (_ : Nat → Int64) (_ : Nat → Nat → Int32) (_ : Nat → Nat → Int64) (_ : Nat → Nat → Option Nat) => (ap1 (x_5981 + x_5982) fun (x_5992 : Int32) => (ap1 (x_5992 - (48 : Int32)) fun (x_5993 : Int32) => (ap1 (va_up I_5848 394 x_5993) fun (I_5994 : Nat → Int32) => (ap1 (I_5994 391) fun (y_6000 : Int32) => (ap1 ((y_6000) + (1 : Int32)) fun (x_6002 : Int32) => (ap1 (va_up I_5994 391 x_6002) fun (I_6004 : Nat → Int32) => ((g_X12_nextToken_x_L85 J ri rj rq n_5922) I_6004))))))))))))))) := rfl
set_option maxRecDepth 100000 in
def g_X12_nextToken_x_L0 (J : Nat → Int64) (ri : Nat → Nat → Int32) (rj : Nat → Nat → Int64) (rq : Nat → Nat → Option Nat) : Nat → (Nat → Int32) → vM
  | 0, I_3315 => (I_3315, J, ri, rj, rq)
  | n_4421 + 1, I_3315 => (ap1 (I_3315 391) fun (y_4427 : Int32) => (bnI (g_X12_see_x (y_4427) I_3315 J ri rj rq) fun (x_4428 : Int32) (_ : Nat → Int32) (_ : Nat → Int64) (_ : Nat → Nat → Int32) (_ : Nat → Nat → Int64) (_ : Nat → Nat → Option Nat) => (if x_4428 = (32 : Int32) then (ap1 ((y_4427) + (1 : Int32)) fun (x_4445 : Int32) => (ap1 (va_up I_3315 391 x_4445) fun (I_4447 : Nat → Int32) => ((g_X12_nextToken_x_L0 J ri rj rq n_4421) I_4447))) else (bnI (g_X12_see_x (y_4427) I_3315 J ri rj rq) fun (x_4453 : Int32) (_ : Nat → Int32) (_ : Nat → Int64) (_ : Nat → Nat → Int32) (_ : Nat → Nat → Int64) (_ : Nat → Nat → Option Nat) => (if x_4453 = (10 : Int32) then (ap1 ((y_4427) + (1 : Int32)) fun (x_6020 : Int32) => (ap1 (va_up I_3315 391 x_6020) fun (I_6022 : Nat → Int32) => ((g_X12_nextToken_x_L0 J ri rj rq n_4421) I_6022))) else (ap1 (va_up I_3315 392 (y_4427)) fun (I_4468 : Nat → Int32) => (ap1 (I_4468 391) fun (y_4474 : Int32) => (bnI (g_X12_see_x (y_4474) I_4468 J ri rj rq) fun (x_4475 : Int32) (_ : Nat → Int32) (_ : Nat → Int64) (_ : Nat → Nat → Int32) (_ : Nat → Nat → Int64) (_ : Nat → Nat → Option Nat) => (if (0 : Int32) ≤ x_4475 then (ap1 (g_X12_isDigit_x x_4475) fun (x_4492 : Int32) => (if x_4492 = (0 : Int32) then (ap1 (g_X12_isLetter_x x_4475) fun (x_4511 : Int32) => (if x_4511 = (0 : Int32) then (ap1 ((y_4474) + (1 : Int32)) fun (x_4531 : Int32) => (ap1 (va_up I_4468 391 x_4531) fun (I_4533 : Nat → Int32) => (if x_4475 = (60 : Int32) then (g_X12_nextToken_x_K327 J ri rj rq x_4475 I_4533 ) else (if x_4475 = (62 : Int32) then (g_X12_nextToken_x_K327 J ri rj rq x_4475 I_4533 ) else (if x_4475 = (61 : Int32) then (g_X12_nextToken_x_K327 J ri rj rq x_4475 I_4533 ) else (if x_4475 = (35 : Int32) then (g_X12_nextToken_x_K327 J ri rj rq x_4475 I_4533 ) else (if x_4475 = (43 : Int32) then (g_X12_nextToken_x_K327 J ri rj rq x_4475 I_4533 ) else (if x_4475 = (45 : Int32) then (g_X12_nextToken_x_K327 J ri rj rq x_4475 I_4533 ) else (if x_4475 = (42 : Int32) then (g_X12_nextToken_x_K327 J ri rj rq x_4475 I_4533 ) else (if x_4475 = (47 : Int32) then (g_X12_nextToken_x_K327 J ri rj rq x_4475 I_4533 ) else (if x_4475 = (40 : Int32) then (g_X12_nextToken_x_K327 J ri rj rq x_4475 I_4533 ) else (if x_4475 = (41 : Int32) then (g_X12_nextToken_x_K327 J ri rj rq x_4475 I_4533 ) else (if x_4475 = (44 : Int32) then (g_X12_nextToken_x_K327 J ri rj rq x_4475 I_4533 ) else (if x_4475 = (59 : Int32) then (g_X12_nextToken_x_K327 J ri rj rq x_4475 I_4533 ) else (g_X12_nextToken_x_K332 J ri rj rq x_4475 I_4533 ))))))))))))))) else (ap1 (va_up I_4468 393 (2 : Int32)) fun (I_5189 : Nat → Int32) => (ap1 (va_up J 395 (0 : Int64)) fun (J_5194 : Nat → Int64) => (ap1 (I_5189 391) fun (y_5621 : Int32) => (g_X12_nextToken_x_L161 ri rj rq ((300 - (y_5621).toInt).toNat + 1) I_5189 J_5194)))))) else (ap1 (va_up I_4468 393 (1 : Int32)) fun (I_5626 : Nat → Int32) => (ap1 (va_up I_5626 394 (0 : Int32)) fun (I_5631 : Nat → Int32) => (ap1 (I_5631 391) fun (y_6009 : Int32) => (g_X12_nextToken_x_L85 J ri rj rq ((300 - (y_6009).toInt).toNat + 1) I_5631)))))) else (ap1 (va_up I_4468 393 (0 : Int32)) fun (I_6012 : Nat → Int32) => (I_6012, J, ri, rj, rq)))))))))))
set_option maxRecDepth 100000 in
theorem g_X12_nextToken_x_L0_e {J : Nat → Int64} {ri : Nat → Nat → Int32} {rj : Nat → Nat → Int64} {rq : Nat → Nat → Option Nat} {n_4421 : Nat} {I_3315 : Nat → Int32} : g_X12_nextToken_x_L0 J ri rj rq (n_4421 + 1) I_3315 = (ap1 (I_3315 391) fun (y_4427 : Int32) => (bnI (g_X12_see_x (y_4427) I_3315 J ri rj rq) fun (x_4428 : Int32) (_ : Nat → Int32) (_ : Nat → Int64) (_ : Nat → Nat → Int32) (_ : Nat → Nat → Int64) (_ : Nat → Nat → Option Nat) => (if x_4428 = (32 : Int32) then (ap1 ((y_4427) + (1 : Int32)) fun (x_4445 : Int32) => (ap1 (va_up I_3315 391 x_4445) fun (I_4447 : Nat → Int32) => ((g_X12_nextToken_x_L0 J ri rj rq n_4421) I_4447))) else (bnI (g_X12_see_x (y_4427) I_3315 J ri rj rq) fun (x_4453 : Int32) (_ : Nat → Int32) (_ : Nat → Int64) (_ : Nat → Nat → Int32) (_ : Nat → Nat → Int64) (_ : Nat → Nat → Option Nat) => (if x_4453 = (10 : Int32) then (ap1 ((y_4427) + (1 : Int32)) fun (x_6020 : Int32) => (ap1 (va_up I_3315 391 x_6020) fun (I_6022 : Nat → Int32) => ((g_X12_nextToken_x_L0 J ri rj rq n_4421) I_6022))) else (ap1 (va_up I_3315 392 (y_4427)) fun (I_4468 : Nat → Int32) => (ap1 (I_4468 391) fun (y_4474 : Int32) => (bnI (g_X12_see_x (y_4474) I_4468 J ri rj rq) fun (x_4475 : Int32) (_ : Nat → Int32) (_ : Nat → Int64) (_ : Nat → Nat → Int32) (_ : Nat → Nat → Int64) (_ : Nat → Nat → Option Nat) => (if (0 : Int32) ≤ x_4475 then (ap1 (g_X12_isDigit_x x_4475) fun (x_4492 : Int32) => (if x_4492 = (0 : Int32) then (ap1 (g_X12_isLetter_x x_4475) fun (x_4511 : Int32) => (if x_4511 = (0 : Int32) then (ap1 ((y_4474) + (1 : Int32)) fun (x_4531 : Int32) => (ap1 (va_up I_4468 391 x_4531) fun (I_4533 : Nat → Int32) => (if x_4475 = (60 : Int32) then (g_X12_nextToken_x_K327 J ri rj rq x_4475 I_4533 ) else (if x_4475 = (62 : Int32) then (g_X12_nextToken_x_K327 J ri rj rq x_4475 I_4533 ) else (if x_4475 = (61 : Int32) then (g_X12_nextToken_x_K327 J ri rj rq x_4475 I_4533 ) else (if x_4475 = (35 : Int32) then (g_X12_nextToken_x_K327 J ri rj rq x_4475 I_4533 ) else (if x_4475 = (43 : Int32) then (g_X12_nextToken_x_K327 J ri rj rq x_4475 I_4533 ) else (if x_4475 = (45 : Int32) then (g_X12_nextToken_x_K327 J ri rj rq x_4475 I_4533 ) else (if x_4475 = (42 : Int32) then (g_X12_nextToken_x_K327 J ri rj rq x_4475 I_4533 ) else (if x_4475 = (47 : Int32) then (g_X12_nextToken_x_K327 J ri rj rq x_4475 I_4533 ) else (if x_4475 = (40 : Int32) then (g_X12_nextToken_x_K327 J ri rj rq x_4475 I_4533 ) else (if x_4475 = (41 : Int32) then (g_X12_nextToken_x_K327 J ri rj rq x_4475 I_4533 ) else (if x_4475 = (44 : Int32) then (g_X12_nextToken_x_K327 J ri rj rq x_4475 I_4533 ) else (if x_4475 = (59 : Int32) then (g_X12_nextToken_x_K327 J ri rj rq x_4475 I_4533 ) else (g_X12_nextToken_x_K332 J ri rj rq x_4475 I_4533 ))))))))))))))) else (ap1 (va_up I_4468 393 (2 : Int32)) fun (I_5189 : Nat → Int32) => (ap1 (va_up J 395 (0 : Int64)) fun (J_5194 : Nat → Int64) => (ap1 (I_5189 391) fun (y_5621 : Int32) => (g_X12_nextToken_x_L161 ri rj rq ((300 - (y_5621).toInt).toNat + 1) I_5189 J_5194)))))) else (ap1 (va_up I_4468 393 (1 : Int32)) fun (I_5626 : Nat → Int32) => (ap1 (va_up I_5626 394 (0 : Int32)) fun (I_5631 : Nat → Int32) => (ap1 (I_5631 391) fun (y_6009 : Int32) => (g_X12_nextToken_x_L85 J ri rj rq ((300 - (y_6009).toInt).toNat + 1) I_5631)))))) else (ap1 (va_up I_4468 393 (0 : Int32)) fun (I_6012 : Nat → Int32) => (I_6012, J, ri, rj, rq))))))))))) := rfl
set_option maxRecDepth 100000 in
def g_X12_nextToken_x (I : Nat → Int32) (J : Nat → Int64) (ri : Nat → Nat → Int32) (rj : Nat → Nat → Int64) (rq : Nat → Nat → Option Nat) : vM := (ap1 (I 391) fun (y_6027 : Int32) => (g_X12_nextToken_x_L0 J ri rj rq ((300 - (y_6027).toInt).toNat + 1) I))
set_option maxRecDepth 100000 in
theorem g_X12_nextToken_x_e {I : Nat → Int32} {J : Nat → Int64} {ri : Nat → Nat → Int32} {rj : Nat → Nat → Int64} {rq : Nat → Nat → Option Nat} : g_X12_nextToken_x I J ri rj rq = (ap1 (I 391) fun (y_6027 : Int32) => (g_X12_nextToken_x_L0 J ri rj rq ((300 - (y_6027).toInt).toNat + 1) I)) := rfl
set_option maxHeartbeats 4000000 in
set_option maxRecDepth 100000 in
theorem s_X12_nextToken_x (l : Launch) (D : va_G) (t : pq_T) (σ : pq_S) (I : Nat → Nat → Int32) (J : Nat → Nat → Int64) (ri : Nat → Nat → Int32) (rj : Nat → Nat → Int64) (rq : Nat → Nat → Option Nat) (sz : Nat) (tg : Nat → Nat) (hSH : SH σ tg) (hG0 : GT tg I ri) (this : Nat) (hL_this : this ∈ σ.1) (hK_this : σ.2.1 this = 12) (this_tape : Nat) (hR_this_tape : σ.2.2.1 387 this = some this_tape) (hL_this_tape : this_tape ∈ σ.1) (hK_this_tape : σ.2.1 this_tape = 13) (hN_this_tape : σ.2.2.2 this_tape = 300) (hT_this_tape : tg this_tape = 387) : MetV l yX12_nextToken (wa yX12_nextToken cX12_nextToken 3 none) ({ frames := 2, cells := 0, slots := 0, locals := 42 }) [.ref this] D t σ (I, J, ri, rj, rq) sz 0 0 (fun (u : pq_S × pq_M) => ∃ I' : Nat → Nat → Int32, ∃ J' : Nat → Nat → Int64, u = (σ, I', J', ri, rj, rq) ∧ GM [391, 392, 393] tg σ I ri I' ri rq ∧ ((I 391 this).toInt ≤ (I' 391 this).toInt) ∧ ((I' 393 this).toInt = 0 ∨ (I 391 this).toInt + 1 ≤ (I' 391 this).toInt) ∧ ((I' 403 this).toInt = (I 403 this).toInt) ∧ g_X12_nextToken_x (vI 12 σ this I) (vJ 12 σ this J) (vR 12 σ this ri) (vL 12 σ this rj) (vQ 12 σ this rq) = ((vI 12 σ this I'), (vJ 12 σ this J'), (vR 12 σ this ri), (vL 12 σ this rj), (vQ 12 σ this rq)) ∧ FR 12 tg σ this (I, J, ri, rj, rq) (I', J', ri, rj, rq)) := by
  refine Met.ofW (cc := cX12_nextToken) (maxL := 3) (ret := none) (by decide) rfl ?_
  intro p e s m args below meth c s₁ B hml hv
  obtain ⟨rfl, hsz, hP, hK, hD0, hN⟩ := hv
  have hx := B.exec
  have hb := B.bytes
  have hr := B.returns
  have hts := atoms_spec (ws := (wa yX12_nextToken cX12_nextToken 3 none)) B.pre
  have hown : s.vm.findClass RX12 = some m.cls := findClass_of_methodNamed B.named
  have hlocks := B.notSynchronized
  subst hsz
  have hD : va_D (pq_B t σ (I, J, ri, rj, rq) s.heap.size) (pq_P t σ (I, J, ri, rj, rq)) := hD0.self
  generalize hAe : pq_B t σ (I, J, ri, rj, rq) s.heap.size = A at hD ⊢
  have hA : ∀ q : Nat, s.heap.size ≤ q → A q := fun q h => by rw [← hAe]; exact Or.inr h
  have hS : va_S A s.heap s.heap [] := va_S.rf
  have hG : GM [391, 392, 393] tg σ I ri I ri rq := ⟨hG0, fun _ _ _ => rfl, fun _ _ _ _ _ => rfl, fun _ _ _ _ _ _ => rfl⟩
  have hl := lv_entry ([.ref this]) (n := 3) (Nat.le_of_ble_eq_true rfl)
  rw [lg_entry_eq]
  generalize (lg_sl ([.ref this]) ++ List.replicate (3 - (lg_sl ([.ref this])).length) Slot.unset).toArray = ls at hl ⊢
  have hl : lv_has ls 3 [(0, .ref this)] := hl
  refine q_gen (fun Q hQ => ?_)
  have go : ∀ (H : Heap) (locs : List Loc) (ls : Array Slot), va_P D vwCl (pq_P t σ (I, J, ri, rj, rq)) H → va_D A (pq_P t σ (I, J, ri, rj, rq)) → va_S A s.heap H locs → lv_has ls 3 [(0, .ref this)] → W p l e ({ frames := 2, cells := 0, slots := 0, locals := 42 } : Room) s m (List.toArray ([.ref this] : List Value)) below meth c H locs 0 0 Q (F0 m 0 ls []) := by
    intro H locs ls hP hD hS hl
    have hO_this : this = vo σ 12 this := rfl
    have hVT : VT 12 σ tg this := vt_12 hSH hL_this hK_this
    have hFr : FR 12 tg σ this (I, J, ri, rj, rq) (I, J, ri, rj, rq) := fr_rf
    have hO_this_tape : this_tape = vrow σ 387 this := vo_k (c := 12) hO_this hR_this_tape
    obtain ⟨F, hF0⟩ : ∃ F, F = g_X12_nextToken_x (vI 12 σ this I) (vJ 12 σ this J) (vR 12 σ this ri) (vL 12 σ this rj) (vQ 12 σ this rq) := ⟨_, rfl⟩
    have hF := hF0.trans g_X12_nextToken_x_e
    have L_4422 : ∀ (n_4421 : Nat) (I_3315 : Nat → Nat → Int32) (H : Heap) (locs : List Loc) (ls : Array Slot), ((I 391 this).toInt ≤ (I_3315 391 this).toInt ∧ (I_3315 388 this).toInt = (I 388 this).toInt ∧ (I_3315 403 this).toInt = (I 403 this).toInt) → (300 - (I_3315 391 this).toInt).toNat < n_4421 → F = g_X12_nextToken_x_L0 (vJ 12 σ this J) (vR 12 σ this ri) (vL 12 σ this rj) (vQ 12 σ this rq) n_4421 (vI 12 σ this I_3315) → FR 12 tg σ this (I, J, ri, rj, rq) (I_3315, J, ri, rj, rq) → GM [391, 392, 393] tg σ I ri I_3315 ri rq → va_P D vwCl (pq_P t σ (I_3315, J, ri, rj, rq)) H → va_D A (pq_P t σ (I_3315, J, ri, rj, rq)) → va_S A s.heap H locs → lv_has ls 3 [(0, .ref this)] → W p l e ({ frames := 2, cells := 0, slots := 0, locals := 42 } : Room) s m (List.toArray ([.ref this] : List Value)) below meth c H locs 0 0 Q (F0 m 0 ls []) := by
      intro n_4421
      induction n_4421 with
      | zero => intro I_3315 H locs ls hrel_4425 hm_4420 hF hFr hG hP hD hS hl; exact absurd hm_4420 (Nat.not_lt_zero _)
      | succ n_4421 ih_4423 =>
        intro I_3315 H locs ls hrel_4425 hm_4420 hF hFr hG hP hD hS hl
        replace hF := hF.trans g_X12_nextToken_x_L0_e
        refine lv_aload_n hx hb dX12_nextToken_0 rfl (lv_at hl 0 rfl) ?_
        refine lv_aload_n hx hb dX12_nextToken_1 rfl (lv_at hl 0 rfl) ?_
        refine pg_f (v := .int (I_3315 391 this)) (C := RX12) (T := TX12) (N := 31) hx hb hts (tw_i inlX12) hown hK hP hL_this hK_this (by decide) rfl 7 (by decide) (hts _ (tw_c tw_830)) rfl dX12_nextToken_2 ?_
        have h_4426 : rg (I_3315 391 this) 0 300 := GM.rI hG 391 rfl
        have uh_4426 := h_4426.1
        have vh_4426 := h_4426.2
        replace hF := hF.trans (ap_n (vI_e (f := 391) hO_this (by decide)))
        refine pk_i (va_runV (As := [.int (I_3315 391 this)]) (rest := []) ⟨hx, hb, hml, hown, hts⟩ (s_X12_see_x l D t σ I_3315 J ri rj rq H.size tg hSH hG.1 this (I_3315 391 this) hL_this hK_this (rg_w h_4426 (by decide)) this_tape hR_this_tape hL_this_tape hK_this_tape hN_this_tape hT_this_tape) (cwV 1 hts (tw_V tw_839 tw_840 tw_841 tw_5 tw_842) rfl rfl rfl cv_yX12_see_1 ⟨Nat.le_of_ble_eq_true rfl, Nat.le_of_ble_eq_true rfl⟩) ⟨pq_blind, pq_recv hK hP hL_this hK_this (by decide) rfl, pq_pre hK hN hP hD⟩ rfl rfl hl.1 rfl (lv_room (Nat.le_of_ble_eq_true rfl)) dX12_nextToken_5 ⟨Nat.le_of_ble_eq_true rfl, Nat.le_of_ble_eq_true rfl⟩) hD hS hA (fun x_4428 σ1 μ1 H locs hw_4429 hP hD hS => ?_)
        obtain ⟨hu_4430, hp_4433, hfn_4434, hr_4432⟩ := hw_4429
        obtain ⟨hu_4430a, hu_4430b⟩ := Prod.mk.inj hu_4430
        rw [hu_4430a, hu_4430b] at hP hD
        replace hF := hF.trans (bn_n hfn_4434)
        have tt_4436 : ((x_4428).toInt = -1 ∧ (I_3315 388 this).toInt ≤ (I_3315 391 this).toInt) ∨ (0 ≤ (x_4428).toInt ∧ (I_3315 391 this).toInt < (I_3315 388 this).toInt) := hp_4433.elim Or.inl (fun q => Or.inr q.2)
        have tt_4437 := (GM.rI hG 388 (a := this) (lo := 0) (hi := 300) rfl).2
        refine lv_bipush (v := 32) hx hb dX12_nextToken_8 (by decide) ?_
        refine lv_icmp_eq (tgt := 26) hx hb dX12_nextToken_10 (by decide) (fun c_4438 => ?_) (fun c_4438 => ?_)
        · replace hF := hF.trans (if_pos c_4438)
          have tc_4442 : (x_4428).toInt = 32 := congrArg Int32.toInt c_4438
          have h_4443 : rg x_4428 32 32 := rg_and hr_4432 (rg_of_eq c_4438 (rg_k (32 : Int32) 32 rfl)) (by decide)
          have uh_4443 := h_4443.1
          have vh_4443 := h_4443.2
          refine lv_aload_n hx hb dX12_nextToken_26 rfl (lv_at hl 0 rfl) ?_
          refine lv_dup hx hb dX12_nextToken_27 rfl ?_
          refine pg_f (v := .int (I_3315 391 this)) (C := RX12) (T := TX12) (N := 31) hx hb hts (tw_i inlX12) hown hK hP hL_this hK_this (by decide) rfl 7 (by decide) (hts _ (tw_c tw_830)) rfl dX12_nextToken_28 ?_
          refine lv_iconst (v := 1) hx hb dX12_nextToken_31 (by decide) ?_
          have h_4444 : rg (I_3315 391 this) 0 299 := ⟨by omega, by omega⟩
          have uh_4444 := h_4444.1
          have vh_4444 := h_4444.2
          refine lv_iadd hx hb dX12_nextToken_32 ?_
          refine lv_topi (fun x_4445 ex_4445 => ?_)
          replace hF := hF.trans (ap_n ex_4445)
          have h_4446 : rg x_4445 1 300 := rg_of_eq ex_4445 (rg_add h_4444 (rg_k (1 : Int32) 1 rfl) (by decide))
          have uh_4446 := h_4446.1
          have vh_4446 := h_4446.2
          have tx_4445 : (x_4445).toInt = (I_3315 391 this).toInt + 1 := by rw [ex_4445]; exact i_add_rg (a2 := (I_3315 391 this).toInt) (b2 := 1) rfl rfl h_4444 (rg_k (1 : Int32) 1 rfl) (by decide)
          refine pp_i (v := x_4445) (ty := .int) (C := RX12) (T := TX12) (N := 31) hx hb hts (tw_i inlX12) tyX12 tyX12_ok nmX12 hown hK hP hD hS hL_this hK_this (by decide) rfl 7 391 (by decide) (hts _ (tw_c tw_830)) rfl (tyX12_ok 7 (by decide)) rfl rfl (Nat.le_of_ble_eq_true rfl) (ps_391 _ _ _ _ _) dX12_nextToken_33 (fun I_4447 H locs eI_4447 hP hD hS => ?_)
          replace hFr := fr_I (f := 391) hFr hO_this (by decide) eI_4447
          replace hF := hF.trans (ap_n (vI_st (f := 391) hO_this (by decide) eI_4447))
          have hG := GM.wI hG 391 rfl eI_4447 (rg_w h_4446 (by decide)) (by decide)
          have tt_4448 : (I_4447 391 this).toInt = (x_4445).toInt := by rw [eI_4447, pq_us]
          have tt_4449 : (I_4447 388 this).toInt = (I_3315 388 this).toInt := by rw [eI_4447, pq_uf _ _ _ (by decide)]
          have tt_4450 : (I_4447 403 this).toInt = (I_3315 403 this).toInt := by rw [eI_4447, pq_uf _ _ _ (by decide)]
          have tt_4451 : (I_4447 393 this).toInt = (I_3315 393 this).toInt := by rw [eI_4447, pq_uf _ _ _ (by decide)]
          refine lv_goto (tgt := 0) hx hb dX12_nextToken_36 (by decide) ?_
          exact ih_4423 I_4447 _ _ _ (by omega) (ms_fu_iadd hm_4420 (by rw [eI_4447]; exact pq_us _ _ _ _) ex_4445 rfl (kk := 1) rfl (by decide) h_4444 (by decide) (by decide)) hF hFr hG hP hD hS (lv_sub hl [0] rfl)
        · replace hF := hF.trans (if_neg c_4438)
          have tc_4452 : (x_4428).toInt ≠ 32 := fun q => c_4438 (Int32.toInt_inj.mp q)
          refine lv_aload_n hx hb dX12_nextToken_13 rfl (lv_at hl 0 rfl) ?_
          refine lv_aload_n hx hb dX12_nextToken_14 rfl (lv_at hl 0 rfl) ?_
          refine pg_f (v := .int (I_3315 391 this)) (C := RX12) (T := TX12) (N := 31) hx hb hts (tw_i inlX12) hown hK hP hL_this hK_this (by decide) rfl 7 (by decide) (hts _ (tw_c tw_830)) rfl dX12_nextToken_15 ?_
          refine pk_i (va_runV (As := [.int (I_3315 391 this)]) (rest := []) ⟨hx, hb, hml, hown, hts⟩ (s_X12_see_x l D t σ I_3315 J ri rj rq H.size tg hSH hG.1 this (I_3315 391 this) hL_this hK_this (rg_w h_4426 (by decide)) this_tape hR_this_tape hL_this_tape hK_this_tape hN_this_tape hT_this_tape) (cwV 1 hts (tw_V tw_839 tw_840 tw_841 tw_5 tw_842) rfl rfl rfl cv_yX12_see_1 ⟨Nat.le_of_ble_eq_true rfl, Nat.le_of_ble_eq_true rfl⟩) ⟨pq_blind, pq_recv hK hP hL_this hK_this (by decide) rfl, pq_pre hK hN hP hD⟩ rfl rfl hl.1 rfl (lv_room (Nat.le_of_ble_eq_true rfl)) dX12_nextToken_18 ⟨Nat.le_of_ble_eq_true rfl, Nat.le_of_ble_eq_true rfl⟩) hD hS hA (fun x_4453 σ1 μ1 H locs hw_4454 hP hD hS => ?_)
          obtain ⟨hu_4455, hp_4458, hfn_4459, hr_4457⟩ := hw_4454
          obtain ⟨hu_4455a, hu_4455b⟩ := Prod.mk.inj hu_4455
          rw [hu_4455a, hu_4455b] at hP hD
          replace hF := hF.trans (bn_n hfn_4459)
          have tt_4461 : ((x_4453).toInt = -1 ∧ (I_3315 388 this).toInt ≤ (I_3315 391 this).toInt) ∨ (0 ≤ (x_4453).toInt ∧ (I_3315 391 this).toInt < (I_3315 388 this).toInt) := hp_4458.elim Or.inl (fun q => Or.inr q.2)
          have tt_4462 := (GM.rI hG 388 (a := this) (lo := 0) (hi := 300) rfl).2
          refine lv_bipush (v := 10) hx hb dX12_nextToken_21 (by decide) ?_
          refine lv_icmp_ne (tgt := 39) hx hb dX12_nextToken_23 (by decide) (fun c_4463 => ?_) (fun c_4463 => ?_)
          · replace hF := hF.trans (if_neg c_4463)
            have tc_4467 : (x_4453).toInt ≠ 10 := fun q => c_4463 (Int32.toInt_inj.mp q)
            refine lv_aload_n hx hb dX12_nextToken_39 rfl (lv_at hl 0 rfl) ?_
            refine lv_aload_n hx hb dX12_nextToken_40 rfl (lv_at hl 0 rfl) ?_
            refine pg_f (v := .int (I_3315 391 this)) (C := RX12) (T := TX12) (N := 31) hx hb hts (tw_i inlX12) hown hK hP hL_this hK_this (by decide) rfl 7 (by decide) (hts _ (tw_c tw_830)) rfl dX12_nextToken_41 ?_
            refine pp_i (v := (I_3315 391 this)) (ty := .int) (C := RX12) (T := TX12) (N := 31) hx hb hts (tw_i inlX12) tyX12 tyX12_ok nmX12 hown hK hP hD hS hL_this hK_this (by decide) rfl 8 392 (by decide) (hts _ (tw_c tw_820)) rfl (tyX12_ok 8 (by decide)) rfl rfl (Nat.le_of_ble_eq_true rfl) (ps_392 _ _ _ _ _) dX12_nextToken_44 (fun I_4468 H locs eI_4468 hP hD hS => ?_)
            replace hFr := fr_I (f := 392) hFr hO_this (by decide) eI_4468
            replace hF := hF.trans (ap_n (vI_st (f := 392) hO_this (by decide) eI_4468))
            have hG := GM.wI hG 392 rfl eI_4468 (rg_w h_4426 (by decide)) (by decide)
            have tt_4469 : (I_4468 391 this).toInt = (I_3315 391 this).toInt := by rw [eI_4468, pq_uf _ _ _ (by decide)]
            have tt_4470 : (I_4468 388 this).toInt = (I_3315 388 this).toInt := by rw [eI_4468, pq_uf _ _ _ (by decide)]
            have tt_4471 : (I_4468 403 this).toInt = (I_3315 403 this).toInt := by rw [eI_4468, pq_uf _ _ _ (by decide)]
            have tt_4472 : (I_4468 393 this).toInt = (I_3315 393 this).toInt := by rw [eI_4468, pq_uf _ _ _ (by decide)]
            refine lv_aload_n hx hb dX12_nextToken_47 rfl (lv_at hl 0 rfl) ?_
            refine lv_aload_n hx hb dX12_nextToken_48 rfl (lv_at hl 0 rfl) ?_
            refine pg_f (v := .int (I_4468 391 this)) (C := RX12) (T := TX12) (N := 31) hx hb hts (tw_i inlX12) hown hK hP hL_this hK_this (by decide) rfl 7 (by decide) (hts _ (tw_c tw_830)) rfl dX12_nextToken_49 ?_
            have h_4473 : rg (I_4468 391 this) 0 300 := GM.rI hG 391 rfl
            have uh_4473 := h_4473.1
            have vh_4473 := h_4473.2
            replace hF := hF.trans (ap_n (vI_e (f := 391) hO_this (by decide)))
            refine pk_i (va_runV (As := [.int (I_4468 391 this)]) (rest := []) ⟨hx, hb, hml, hown, hts⟩ (s_X12_see_x l D t σ I_4468 J ri rj rq H.size tg hSH hG.1 this (I_4468 391 this) hL_this hK_this (rg_w h_4473 (by decide)) this_tape hR_this_tape hL_this_tape hK_this_tape hN_this_tape hT_this_tape) (cwV 1 hts (tw_V tw_839 tw_840 tw_841 tw_5 tw_842) rfl rfl rfl cv_yX12_see_1 ⟨Nat.le_of_ble_eq_true rfl, Nat.le_of_ble_eq_true rfl⟩) ⟨pq_blind, pq_recv hK hP hL_this hK_this (by decide) rfl, pq_pre hK hN hP hD⟩ rfl rfl hl.1 rfl (lv_room (Nat.le_of_ble_eq_true rfl)) dX12_nextToken_52 ⟨Nat.le_of_ble_eq_true rfl, Nat.le_of_ble_eq_true rfl⟩) hD hS hA (fun x_4475 σ1 μ1 H locs hw_4476 hP hD hS => ?_)
            obtain ⟨hu_4477, hp_4480, hfn_4481, hr_4479⟩ := hw_4476
            obtain ⟨hu_4477a, hu_4477b⟩ := Prod.mk.inj hu_4477
            rw [hu_4477a, hu_4477b] at hP hD
            replace hF := hF.trans (bn_n hfn_4481)
            have tt_4483 : ((x_4475).toInt = -1 ∧ (I_4468 388 this).toInt ≤ (I_4468 391 this).toInt) ∨ (0 ≤ (x_4475).toInt ∧ (I_4468 391 this).toInt < (I_4468 388 this).toInt) := hp_4480.elim Or.inl (fun q => Or.inr q.2)
            have tt_4484 := (GM.rI hG 388 (a := this) (lo := 0) (hi := 300) rfl).2
            refine lv_istore_n (lv' := [(1, .int x_4475), (0, .ref this)]) hx hb dX12_nextToken_55 rfl hl (by decide) rfl (fun ls hl => ?_)
            refine lv_iload_n hx hb dX12_nextToken_56 rfl (lv_at hl 0 rfl) ?_
            refine lv_if_ge (tgt := 68) hx hb dX12_nextToken_57 (by decide) (fun c_4485 => ?_) (fun c_4485 => ?_)
            · replace hF := hF.trans (if_pos c_4485)
              have tc_4490 : 0 ≤ (x_4475).toInt := Int32.le_iff_toInt_le.mp c_4485
              have h_4491 : rg x_4475 0 255 := rg_le2 c_4485 (rg_k (0 : Int32) 0 rfl) hr_4479 (by decide)
              have uh_4491 := h_4491.1
              have vh_4491 := h_4491.2
              refine lv_iload_n hx hb dX12_nextToken_68 rfl (lv_at hl 0 rfl) ?_
              refine pk_i (va_runS (As := [.int x_4475]) (rest := []) ⟨hx, hb, hml, hown, hts⟩ (s_X12_isDigit_x l D t σ I_4468 J ri rj rq H.size tg hSH hG.1 x_4475) (va_cwS 1 hts (tw_S tw_843 tw_844 tw_5 tw_845) rfl rfl rfl cd_yX12_isDigit_1 ⟨Nat.le_of_ble_eq_true rfl, Nat.le_of_ble_eq_true rfl⟩) ⟨pq_blind, pq_pre hK hN hP hD⟩ rfl rfl hl.1 rfl (lv_room (Nat.le_of_ble_eq_true rfl)) dX12_nextToken_69 ⟨Nat.le_of_ble_eq_true rfl, Nat.le_of_ble_eq_true rfl⟩) hD hS hA (fun x_4492 σ1 μ1 H locs hw_4493 hP hD hS => ?_)
              obtain ⟨hu_4494, hfn_4497, hr_4496⟩ := hw_4493
              obtain ⟨hu_4494a, hu_4494b⟩ := Prod.mk.inj hu_4494
              rw [hu_4494a, hu_4494b] at hP hD
              replace hF := hF.trans (ap_n hfn_4497.symm)
              have h_4499 : rg x_4492 0 1 := by rcases hr_4496 with ⟨q, -⟩ | ⟨q, -⟩ <;> rw [q] <;> exact ⟨by decide, by decide⟩
              have uh_4499 := h_4499.1
              have vh_4499 := h_4499.2
              refine lv_if_eq (tgt := 144) hx hb dX12_nextToken_72 (by decide) (fun c_4500 => ?_) (fun c_4500 => ?_)
              · replace hF := hF.trans (if_pos c_4500)
                have f_4508 := (hr_4496.resolve_left (fun q => absurd (q.1.symm.trans c_4500) (by decide))).2
                have tc_4509 : (x_4492).toInt = 0 := congrArg Int32.toInt c_4500
                have h_4510 : rg x_4492 0 0 := rg_and h_4499 (rg_of_eq c_4500 (rg_k (0 : Int32) 0 rfl)) (by decide)
                have uh_4510 := h_4510.1
                have vh_4510 := h_4510.2
                refine lv_iload_n hx hb dX12_nextToken_144 rfl (lv_at hl 0 rfl) ?_
                refine pk_i (va_runS (As := [.int x_4475]) (rest := []) ⟨hx, hb, hml, hown, hts⟩ (s_X12_isLetter_x l D t σ I_4468 J ri rj rq H.size tg hSH hG.1 x_4475) (va_cwS 1 hts (tw_S tw_846 tw_847 tw_5 tw_848) rfl rfl rfl cd_yX12_isLetter_1 ⟨Nat.le_of_ble_eq_true rfl, Nat.le_of_ble_eq_true rfl⟩) ⟨pq_blind, pq_pre hK hN hP hD⟩ rfl rfl hl.1 rfl (lv_room (Nat.le_of_ble_eq_true rfl)) dX12_nextToken_145 ⟨Nat.le_of_ble_eq_true rfl, Nat.le_of_ble_eq_true rfl⟩) hD hS hA (fun x_4511 σ1 μ1 H locs hw_4512 hP hD hS => ?_)
                obtain ⟨hu_4513, hfn_4516, hr_4515⟩ := hw_4512
                obtain ⟨hu_4513a, hu_4513b⟩ := Prod.mk.inj hu_4513
                rw [hu_4513a, hu_4513b] at hP hD
                replace hF := hF.trans (ap_n hfn_4516.symm)
                have h_4518 : rg x_4511 0 1 := by rcases hr_4515 with ⟨q, -⟩ | ⟨q, -⟩ <;> rw [q] <;> exact ⟨by decide, by decide⟩
                have uh_4518 := h_4518.1
                have vh_4518 := h_4518.2
                refine lv_if_eq (tgt := 245) hx hb dX12_nextToken_148 (by decide) (fun c_4519 => ?_) (fun c_4519 => ?_)
                · replace hF := hF.trans (if_pos c_4519)
                  have f_4527 := (hr_4515.resolve_left (fun q => absurd (q.1.symm.trans c_4519) (by decide))).2
                  have tc_4528 : (x_4511).toInt = 0 := congrArg Int32.toInt c_4519
                  have h_4529 : rg x_4511 0 0 := rg_and h_4518 (rg_of_eq c_4519 (rg_k (0 : Int32) 0 rfl)) (by decide)
                  have uh_4529 := h_4529.1
                  have vh_4529 := h_4529.2
                  refine lv_aload_n hx hb dX12_nextToken_245 rfl (lv_at hl 1 rfl) ?_
                  refine lv_dup hx hb dX12_nextToken_246 rfl ?_
                  refine pg_f (v := .int (I_4468 391 this)) (C := RX12) (T := TX12) (N := 31) hx hb hts (tw_i inlX12) hown hK hP hL_this hK_this (by decide) rfl 7 (by decide) (hts _ (tw_c tw_830)) rfl dX12_nextToken_247 ?_
                  refine lv_iconst (v := 1) hx hb dX12_nextToken_250 (by decide) ?_
                  have h_4530 : rg (I_4468 391 this) 0 299 := ⟨by omega, by omega⟩
                  have uh_4530 := h_4530.1
                  have vh_4530 := h_4530.2
                  refine lv_iadd hx hb dX12_nextToken_251 ?_
                  refine lv_topi (fun x_4531 ex_4531 => ?_)
                  replace hF := hF.trans (ap_n ex_4531)
                  have h_4532 : rg x_4531 1 300 := rg_of_eq ex_4531 (rg_add h_4530 (rg_k (1 : Int32) 1 rfl) (by decide))
                  have uh_4532 := h_4532.1
                  have vh_4532 := h_4532.2
                  have tx_4531 : (x_4531).toInt = (I_4468 391 this).toInt + 1 := by rw [ex_4531]; exact i_add_rg (a2 := (I_4468 391 this).toInt) (b2 := 1) rfl rfl h_4530 (rg_k (1 : Int32) 1 rfl) (by decide)
                  refine pp_i (v := x_4531) (ty := .int) (C := RX12) (T := TX12) (N := 31) hx hb hts (tw_i inlX12) tyX12 tyX12_ok nmX12 hown hK hP hD hS hL_this hK_this (by decide) rfl 7 391 (by decide) (hts _ (tw_c tw_830)) rfl (tyX12_ok 7 (by decide)) rfl rfl (Nat.le_of_ble_eq_true rfl) (ps_391 _ _ _ _ _) dX12_nextToken_252 (fun I_4533 H locs eI_4533 hP hD hS => ?_)
                  replace hFr := fr_I (f := 391) hFr hO_this (by decide) eI_4533
                  replace hF := hF.trans (ap_n (vI_st (f := 391) hO_this (by decide) eI_4533))
                  have hG := GM.wI hG 391 rfl eI_4533 (rg_w h_4532 (by decide)) (by decide)
                  have tt_4534 : (I_4533 391 this).toInt = (x_4531).toInt := by rw [eI_4533, pq_us]
                  have tt_4535 : (I_4533 388 this).toInt = (I_4468 388 this).toInt := by rw [eI_4533, pq_uf _ _ _ (by decide)]
                  have tt_4536 : (I_4533 403 this).toInt = (I_4468 403 this).toInt := by rw [eI_4533, pq_uf _ _ _ (by decide)]
                  have tt_4537 : (I_4533 393 this).toInt = (I_4468 393 this).toInt := by rw [eI_4533, pq_uf _ _ _ (by decide)]
                  refine lv_iload_n hx hb dX12_nextToken_255 rfl (lv_at hl 0 rfl) ?_
                  refine lv_bipush (v := 60) hx hb dX12_nextToken_256 (by decide) ?_
                  have K_4745 : ∀  (H : Heap) (locs : List Loc) (ls : Array Slot), F = g_X12_nextToken_x_K332 (vJ 12 σ this J) (vR 12 σ this ri) (vL 12 σ this rj) (vQ 12 σ this rq) x_4475 (vI 12 σ this I_4533)  → FR 12 tg σ this (I, J, ri, rj, rq) (I_4533, J, ri, rj, rq) → GM [391, 392, 393] tg σ I ri I_4533 ri rq → va_P D vwCl (pq_P t σ (I_4533, J, ri, rj, rq)) H → va_D A (pq_P t σ (I_4533, J, ri, rj, rq)) → va_S A s.heap H locs → lv_has ls 3 [(0, .ref this), (1, .int x_4475)] → W p l e ({ frames := 2, cells := 0, slots := 0, locals := 42 } : Room) s m (List.toArray ([.ref this] : List Value)) below meth c H locs 0 0 Q (F0 m 332 ls [.int 0]) := by
                    intro H locs ls hF hFr hG hP hD hS hl
                    replace hF := hF.trans g_X12_nextToken_x_K332_e
                    refine lv_istore_n (lv' := [(2, .int 0), (0, .ref this), (1, .int x_4475)]) hx hb dX12_nextToken_332 rfl hl (by decide) rfl (fun ls hl => ?_)
                    refine lv_aload_n hx hb dX12_nextToken_333 rfl (lv_at hl 1 rfl) ?_
                    refine lv_iload_n hx hb dX12_nextToken_334 rfl (lv_at hl 0 rfl) ?_
                    have K_4824 : ∀  (H : Heap) (locs : List Loc) (ls : Array Slot), F = g_X12_nextToken_x_K343 (vJ 12 σ this J) (vR 12 σ this ri) (vL 12 σ this rj) (vQ 12 σ this rq) x_4475 (vI 12 σ this I_4533)  → FR 12 tg σ this (I, J, ri, rj, rq) (I_4533, J, ri, rj, rq) → GM [391, 392, 393] tg σ I ri I_4533 ri rq → va_P D vwCl (pq_P t σ (I_4533, J, ri, rj, rq)) H → va_D A (pq_P t σ (I_4533, J, ri, rj, rq)) → va_S A s.heap H locs → lv_has ls 3 [(0, .ref this), (1, .int x_4475)] → W p l e ({ frames := 2, cells := 0, slots := 0, locals := 42 } : Room) s m (List.toArray ([.ref this] : List Value)) below meth c H locs 0 0 Q (F0 m 343 ls [.int 3, .ref this]) := by
                      intro H locs ls hF hFr hG hP hD hS hl
                      replace hF := hF.trans g_X12_nextToken_x_K343_e
                      refine pp_i (v := 3) (ty := .int) (C := RX12) (T := TX12) (N := 31) hx hb hts (tw_i inlX12) tyX12 tyX12_ok nmX12 hown hK hP hD hS hL_this hK_this (by decide) rfl 9 393 (by decide) (hts _ (tw_c tw_831)) rfl (tyX12_ok 9 (by decide)) rfl rfl (Nat.le_of_ble_eq_true rfl) (ps_393 _ _ _ _ _) dX12_nextToken_343 (fun I_4825 H locs eI_4825 hP hD hS => ?_)
                      replace hFr := fr_I (f := 393) hFr hO_this (by decide) eI_4825
                      replace hF := hF.trans (ap_n (vI_st (f := 393) hO_this (by decide) eI_4825))
                      have hG := GM.wI hG 393 rfl eI_4825 (rg_w (rg_k (3 : Int32) 3 rfl) (by decide)) (by decide)
                      have tt_4826 : (I_4825 391 this).toInt = (I_4533 391 this).toInt := by rw [eI_4825, pq_uf _ _ _ (by decide)]
                      have tt_4827 : (I_4825 388 this).toInt = (I_4533 388 this).toInt := by rw [eI_4825, pq_uf _ _ _ (by decide)]
                      have tt_4828 : (I_4825 403 this).toInt = (I_4533 403 this).toInt := by rw [eI_4825, pq_uf _ _ _ (by decide)]
                      have tt_4829 : (I_4825 393 this).toInt = 3 := by rw [eI_4825, pq_us]; rfl
                      refine lv_iload_n hx hb dX12_nextToken_346 rfl (lv_at hl 1 rfl) ?_
                      refine lv_bipush (v := 60) hx hb dX12_nextToken_347 (by decide) ?_
                      refine lv_icmp_eq (tgt := 358) hx hb dX12_nextToken_349 (by decide) (fun c_4830 => ?_) (fun c_4830 => ?_)
                      · replace hF := hF.trans (if_pos c_4830)
                        have tc_4834 : (x_4475).toInt = 60 := congrArg Int32.toInt c_4830
                        have h_4835 : rg x_4475 60 60 := rg_and h_4491 (rg_of_eq c_4830 (rg_k (60 : Int32) 60 rfl)) (by decide)
                        have uh_4835 := h_4835.1
                        have vh_4835 := h_4835.2
                        refine lv_aload_n hx hb dX12_nextToken_358 rfl (lv_at hl 0 rfl) ?_
                        refine lv_aload_n hx hb dX12_nextToken_359 rfl (lv_at hl 0 rfl) ?_
                        refine pg_f (v := .int (I_4825 391 this)) (C := RX12) (T := TX12) (N := 31) hx hb hts (tw_i inlX12) hown hK hP hL_this hK_this (by decide) rfl 7 (by decide) (hts _ (tw_c tw_830)) rfl dX12_nextToken_360 ?_
                        have h_4836 : rg (I_4825 391 this) 1 300 := (by rw [eI_4825, pq_uf _ _ _ (by decide)]; exact (by rw [eI_4533, pq_us]; exact h_4532))
                        have uh_4836 := h_4836.1
                        have vh_4836 := h_4836.2
                        replace hF := hF.trans (ap_n (vI_e (f := 391) hO_this (by decide)))
                        refine pk_i (va_runV (As := [.int (I_4825 391 this)]) (rest := []) ⟨hx, hb, hml, hown, hts⟩ (s_X12_see_x l D t σ I_4825 J ri rj rq H.size tg hSH hG.1 this (I_4825 391 this) hL_this hK_this (rg_w h_4836 (by decide)) this_tape hR_this_tape hL_this_tape hK_this_tape hN_this_tape hT_this_tape) (cwV 1 hts (tw_V tw_839 tw_840 tw_841 tw_5 tw_842) rfl rfl rfl cv_yX12_see_1 ⟨Nat.le_of_ble_eq_true rfl, Nat.le_of_ble_eq_true rfl⟩) ⟨pq_blind, pq_recv hK hP hL_this hK_this (by decide) rfl, pq_pre hK hN hP hD⟩ rfl rfl hl.1 rfl (lv_room (Nat.le_of_ble_eq_true rfl)) dX12_nextToken_363 ⟨Nat.le_of_ble_eq_true rfl, Nat.le_of_ble_eq_true rfl⟩) hD hS hA (fun x_4838 σ1 μ1 H locs hw_4839 hP hD hS => ?_)
                        obtain ⟨hu_4840, hp_4843, hfn_4844, hr_4842⟩ := hw_4839
                        obtain ⟨hu_4840a, hu_4840b⟩ := Prod.mk.inj hu_4840
                        rw [hu_4840a, hu_4840b] at hP hD
                        replace hF := hF.trans (bn_n hfn_4844)
                        have tt_4846 : ((x_4838).toInt = -1 ∧ (I_4825 388 this).toInt ≤ (I_4825 391 this).toInt) ∨ (0 ≤ (x_4838).toInt ∧ (I_4825 391 this).toInt < (I_4825 388 this).toInt) := hp_4843.elim Or.inl (fun q => Or.inr q.2)
                        have tt_4847 := (GM.rI hG 388 (a := this) (lo := 0) (hi := 300) rfl).2
                        refine lv_bipush (v := 61) hx hb dX12_nextToken_366 (by decide) ?_
                        refine lv_icmp_ne (tgt := 396) hx hb dX12_nextToken_368 (by decide) (fun c_4848 => ?_) (fun c_4848 => ?_)
                        · replace hF := hF.trans (if_neg c_4848)
                          have tc_4852 : (x_4838).toInt ≠ 61 := fun q => c_4848 (Int32.toInt_inj.mp q)
                          subst hQ
                          exact W.vret hx hb hr (fun t1 ht hW => ⟨⟨(σ, I_4825, J, ri, rj, rq), rfl, ⟨I_4825, J, rfl, hG, (by omega), (by omega), (by omega), (hF0.symm.trans hF), hFr⟩, by rw [ht]; exact hP, va_K.moved hW.alike hK, hD⟩, hS.F ht⟩) hS.2.2 dX12_nextToken_396
                        · replace hF := hF.trans (if_pos c_4848)
                          have tc_4853 : (x_4838).toInt = 61 := congrArg Int32.toInt c_4848
                          have h_4854 : rg x_4838 61 61 := rg_and hr_4842 (rg_of_eq c_4848 (rg_k (61 : Int32) 61 rfl)) (by decide)
                          have uh_4854 := h_4854.1
                          have vh_4854 := h_4854.2
                          refine lv_aload_n hx hb dX12_nextToken_371 rfl (lv_at hl 0 rfl) ?_
                          refine lv_dup hx hb dX12_nextToken_372 rfl ?_
                          refine pg_f (v := .int (I_4825 391 this)) (C := RX12) (T := TX12) (N := 31) hx hb hts (tw_i inlX12) hown hK hP hL_this hK_this (by decide) rfl 7 (by decide) (hts _ (tw_c tw_830)) rfl dX12_nextToken_373 ?_
                          refine lv_iconst (v := 1) hx hb dX12_nextToken_376 (by decide) ?_
                          have h_4855 : rg (I_4825 391 this) 0 299 := ⟨by omega, by omega⟩
                          have uh_4855 := h_4855.1
                          have vh_4855 := h_4855.2
                          refine lv_iadd hx hb dX12_nextToken_377 ?_
                          refine lv_topi (fun x_4856 ex_4856 => ?_)
                          replace hF := hF.trans (ap_n ex_4856)
                          have h_4857 : rg x_4856 1 300 := rg_of_eq ex_4856 (rg_add h_4855 (rg_k (1 : Int32) 1 rfl) (by decide))
                          have uh_4857 := h_4857.1
                          have vh_4857 := h_4857.2
                          have tx_4856 : (x_4856).toInt = (I_4825 391 this).toInt + 1 := by rw [ex_4856]; exact i_add_rg (a2 := (I_4825 391 this).toInt) (b2 := 1) rfl rfl h_4855 (rg_k (1 : Int32) 1 rfl) (by decide)
                          refine pp_i (v := x_4856) (ty := .int) (C := RX12) (T := TX12) (N := 31) hx hb hts (tw_i inlX12) tyX12 tyX12_ok nmX12 hown hK hP hD hS hL_this hK_this (by decide) rfl 7 391 (by decide) (hts _ (tw_c tw_830)) rfl (tyX12_ok 7 (by decide)) rfl rfl (Nat.le_of_ble_eq_true rfl) (ps_391 _ _ _ _ _) dX12_nextToken_378 (fun I_4858 H locs eI_4858 hP hD hS => ?_)
                          replace hFr := fr_I (f := 391) hFr hO_this (by decide) eI_4858
                          replace hF := hF.trans (ap_n (vI_st (f := 391) hO_this (by decide) eI_4858))
                          have hG := GM.wI hG 391 rfl eI_4858 (rg_w h_4857 (by decide)) (by decide)
                          have tt_4859 : (I_4858 391 this).toInt = (x_4856).toInt := by rw [eI_4858, pq_us]
                          have tt_4860 : (I_4858 388 this).toInt = (I_4825 388 this).toInt := by rw [eI_4858, pq_uf _ _ _ (by decide)]
                          have tt_4861 : (I_4858 403 this).toInt = (I_4825 403 this).toInt := by rw [eI_4858, pq_uf _ _ _ (by decide)]
                          have tt_4862 : (I_4858 393 this).toInt = (I_4825 393 this).toInt := by rw [eI_4858, pq_uf _ _ _ (by decide)]
                          refine lv_aload_n hx hb dX12_nextToken_381 rfl (lv_at hl 0 rfl) ?_
                          refine lv_iload_n hx hb dX12_nextToken_382 rfl (lv_at hl 1 rfl) ?_
                          refine lv_bipush (v := 60) hx hb dX12_nextToken_383 (by decide) ?_
                          refine lv_icmp_ne (tgt := 392) hx hb dX12_nextToken_385 (by decide) (fun c_4863 => ?_) (fun c_4863 => ?_)
                          · have tc_4866 : (x_4475).toInt ≠ 60 := fun q => c_4863 (Int32.toInt_inj.mp q)
                            exact (rg_empty (rg_ne c_4863 h_4835 60 rfl (lo := 61) (hi := 59) (by decide)) (by decide)).elim
                          · have tc_4867 : (x_4475).toInt = 60 := congrArg Int32.toInt c_4863
                            refine lv_iconst (v := 4) hx hb dX12_nextToken_388 (by decide) ?_
                            refine lv_goto (tgt := 393) hx hb dX12_nextToken_389 (by decide) ?_
                            refine pp_i (v := 4) (ty := .int) (C := RX12) (T := TX12) (N := 31) hx hb hts (tw_i inlX12) tyX12 tyX12_ok nmX12 hown hK hP hD hS hL_this hK_this (by decide) rfl 9 393 (by decide) (hts _ (tw_c tw_831)) rfl (tyX12_ok 9 (by decide)) rfl rfl (Nat.le_of_ble_eq_true rfl) (ps_393 _ _ _ _ _) dX12_nextToken_393 (fun I_4868 H locs eI_4868 hP hD hS => ?_)
                            replace hFr := fr_I (f := 393) hFr hO_this (by decide) eI_4868
                            replace hF := hF.trans (ap_n (vI_st (f := 393) hO_this (by decide) eI_4868))
                            have hG := GM.wI hG 393 rfl eI_4868 (rg_w (rg_k (4 : Int32) 4 rfl) (by decide)) (by decide)
                            have tt_4869 : (I_4868 391 this).toInt = (I_4858 391 this).toInt := by rw [eI_4868, pq_uf _ _ _ (by decide)]
                            have tt_4870 : (I_4868 388 this).toInt = (I_4858 388 this).toInt := by rw [eI_4868, pq_uf _ _ _ (by decide)]
                            have tt_4871 : (I_4868 403 this).toInt = (I_4858 403 this).toInt := by rw [eI_4868, pq_uf _ _ _ (by decide)]
                            have tt_4872 : (I_4868 393 this).toInt = 4 := by rw [eI_4868, pq_us]; rfl
                            subst hQ
                            exact W.vret hx hb hr (fun t1 ht hW => ⟨⟨(σ, I_4868, J, ri, rj, rq), rfl, ⟨I_4868, J, rfl, hG, (by omega), (by omega), (by omega), (hF0.symm.trans hF), hFr⟩, by rw [ht]; exact hP, va_K.moved hW.alike hK, hD⟩, hS.F ht⟩) hS.2.2 dX12_nextToken_396
                      · replace hF := hF.trans (if_neg c_4830)
                        have tc_4873 : (x_4475).toInt ≠ 60 := fun q => c_4830 (Int32.toInt_inj.mp q)
                        refine lv_iload_n hx hb dX12_nextToken_352 rfl (lv_at hl 1 rfl) ?_
                        refine lv_bipush (v := 62) hx hb dX12_nextToken_353 (by decide) ?_
                        refine lv_icmp_ne (tgt := 396) hx hb dX12_nextToken_355 (by decide) (fun c_4874 => ?_) (fun c_4874 => ?_)
                        · replace hF := hF.trans (if_neg c_4874)
                          have tc_4878 : (x_4475).toInt ≠ 62 := fun q => c_4874 (Int32.toInt_inj.mp q)
                          subst hQ
                          exact W.vret hx hb hr (fun t1 ht hW => ⟨⟨(σ, I_4825, J, ri, rj, rq), rfl, ⟨I_4825, J, rfl, hG, (by omega), (by omega), (by omega), (hF0.symm.trans hF), hFr⟩, by rw [ht]; exact hP, va_K.moved hW.alike hK, hD⟩, hS.F ht⟩) hS.2.2 dX12_nextToken_396
                        · replace hF := hF.trans (if_pos c_4874)
                          have tc_4879 : (x_4475).toInt = 62 := congrArg Int32.toInt c_4874
                          have h_4880 : rg x_4475 62 62 := rg_and h_4491 (rg_of_eq c_4874 (rg_k (62 : Int32) 62 rfl)) (by decide)
                          have uh_4880 := h_4880.1
                          have vh_4880 := h_4880.2
                          refine lv_aload_n hx hb dX12_nextToken_358 rfl (lv_at hl 0 rfl) ?_
                          refine lv_aload_n hx hb dX12_nextToken_359 rfl (lv_at hl 0 rfl) ?_
                          refine pg_f (v := .int (I_4825 391 this)) (C := RX12) (T := TX12) (N := 31) hx hb hts (tw_i inlX12) hown hK hP hL_this hK_this (by decide) rfl 7 (by decide) (hts _ (tw_c tw_830)) rfl dX12_nextToken_360 ?_
                          have h_4881 : rg (I_4825 391 this) 1 300 := (by rw [eI_4825, pq_uf _ _ _ (by decide)]; exact (by rw [eI_4533, pq_us]; exact h_4532))
                          have uh_4881 := h_4881.1
                          have vh_4881 := h_4881.2
                          replace hF := hF.trans (ap_n (vI_e (f := 391) hO_this (by decide)))
                          refine pk_i (va_runV (As := [.int (I_4825 391 this)]) (rest := []) ⟨hx, hb, hml, hown, hts⟩ (s_X12_see_x l D t σ I_4825 J ri rj rq H.size tg hSH hG.1 this (I_4825 391 this) hL_this hK_this (rg_w h_4881 (by decide)) this_tape hR_this_tape hL_this_tape hK_this_tape hN_this_tape hT_this_tape) (cwV 1 hts (tw_V tw_839 tw_840 tw_841 tw_5 tw_842) rfl rfl rfl cv_yX12_see_1 ⟨Nat.le_of_ble_eq_true rfl, Nat.le_of_ble_eq_true rfl⟩) ⟨pq_blind, pq_recv hK hP hL_this hK_this (by decide) rfl, pq_pre hK hN hP hD⟩ rfl rfl hl.1 rfl (lv_room (Nat.le_of_ble_eq_true rfl)) dX12_nextToken_363 ⟨Nat.le_of_ble_eq_true rfl, Nat.le_of_ble_eq_true rfl⟩) hD hS hA (fun x_4883 σ1 μ1 H locs hw_4884 hP hD hS => ?_)
                          obtain ⟨hu_4885, hp_4888, hfn_4889, hr_4887⟩ := hw_4884
                          obtain ⟨hu_4885a, hu_4885b⟩ := Prod.mk.inj hu_4885
                          rw [hu_4885a, hu_4885b] at hP hD
                          replace hF := hF.trans (bn_n hfn_4889)
                          have tt_4891 : ((x_4883).toInt = -1 ∧ (I_4825 388 this).toInt ≤ (I_4825 391 this).toInt) ∨ (0 ≤ (x_4883).toInt ∧ (I_4825 391 this).toInt < (I_4825 388 this).toInt) := hp_4888.elim Or.inl (fun q => Or.inr q.2)
                          have tt_4892 := (GM.rI hG 388 (a := this) (lo := 0) (hi := 300) rfl).2
                          refine lv_bipush (v := 61) hx hb dX12_nextToken_366 (by decide) ?_
                          refine lv_icmp_ne (tgt := 396) hx hb dX12_nextToken_368 (by decide) (fun c_4893 => ?_) (fun c_4893 => ?_)
                          · replace hF := hF.trans (if_neg c_4893)
                            have tc_4897 : (x_4883).toInt ≠ 61 := fun q => c_4893 (Int32.toInt_inj.mp q)
                            subst hQ
                            exact W.vret hx hb hr (fun t1 ht hW => ⟨⟨(σ, I_4825, J, ri, rj, rq), rfl, ⟨I_4825, J, rfl, hG, (by omega), (by omega), (by omega), (hF0.symm.trans hF), hFr⟩, by rw [ht]; exact hP, va_K.moved hW.alike hK, hD⟩, hS.F ht⟩) hS.2.2 dX12_nextToken_396
                          · replace hF := hF.trans (if_pos c_4893)
                            have tc_4898 : (x_4883).toInt = 61 := congrArg Int32.toInt c_4893
                            have h_4899 : rg x_4883 61 61 := rg_and hr_4887 (rg_of_eq c_4893 (rg_k (61 : Int32) 61 rfl)) (by decide)
                            have uh_4899 := h_4899.1
                            have vh_4899 := h_4899.2
                            refine lv_aload_n hx hb dX12_nextToken_371 rfl (lv_at hl 0 rfl) ?_
                            refine lv_dup hx hb dX12_nextToken_372 rfl ?_
                            refine pg_f (v := .int (I_4825 391 this)) (C := RX12) (T := TX12) (N := 31) hx hb hts (tw_i inlX12) hown hK hP hL_this hK_this (by decide) rfl 7 (by decide) (hts _ (tw_c tw_830)) rfl dX12_nextToken_373 ?_
                            refine lv_iconst (v := 1) hx hb dX12_nextToken_376 (by decide) ?_
                            have h_4900 : rg (I_4825 391 this) 0 299 := ⟨by omega, by omega⟩
                            have uh_4900 := h_4900.1
                            have vh_4900 := h_4900.2
                            refine lv_iadd hx hb dX12_nextToken_377 ?_
                            refine lv_topi (fun x_4901 ex_4901 => ?_)
                            replace hF := hF.trans (ap_n ex_4901)
                            have h_4902 : rg x_4901 1 300 := rg_of_eq ex_4901 (rg_add h_4900 (rg_k (1 : Int32) 1 rfl) (by decide))
                            have uh_4902 := h_4902.1
                            have vh_4902 := h_4902.2
                            have tx_4901 : (x_4901).toInt = (I_4825 391 this).toInt + 1 := by rw [ex_4901]; exact i_add_rg (a2 := (I_4825 391 this).toInt) (b2 := 1) rfl rfl h_4900 (rg_k (1 : Int32) 1 rfl) (by decide)
                            refine pp_i (v := x_4901) (ty := .int) (C := RX12) (T := TX12) (N := 31) hx hb hts (tw_i inlX12) tyX12 tyX12_ok nmX12 hown hK hP hD hS hL_this hK_this (by decide) rfl 7 391 (by decide) (hts _ (tw_c tw_830)) rfl (tyX12_ok 7 (by decide)) rfl rfl (Nat.le_of_ble_eq_true rfl) (ps_391 _ _ _ _ _) dX12_nextToken_378 (fun I_4903 H locs eI_4903 hP hD hS => ?_)
                            replace hFr := fr_I (f := 391) hFr hO_this (by decide) eI_4903
                            replace hF := hF.trans (ap_n (vI_st (f := 391) hO_this (by decide) eI_4903))
                            have hG := GM.wI hG 391 rfl eI_4903 (rg_w h_4902 (by decide)) (by decide)
                            have tt_4904 : (I_4903 391 this).toInt = (x_4901).toInt := by rw [eI_4903, pq_us]
                            have tt_4905 : (I_4903 388 this).toInt = (I_4825 388 this).toInt := by rw [eI_4903, pq_uf _ _ _ (by decide)]
                            have tt_4906 : (I_4903 403 this).toInt = (I_4825 403 this).toInt := by rw [eI_4903, pq_uf _ _ _ (by decide)]
                            have tt_4907 : (I_4903 393 this).toInt = (I_4825 393 this).toInt := by rw [eI_4903, pq_uf _ _ _ (by decide)]
                            refine lv_aload_n hx hb dX12_nextToken_381 rfl (lv_at hl 0 rfl) ?_
                            refine lv_iload_n hx hb dX12_nextToken_382 rfl (lv_at hl 1 rfl) ?_
                            refine lv_bipush (v := 60) hx hb dX12_nextToken_383 (by decide) ?_
                            refine lv_icmp_ne (tgt := 392) hx hb dX12_nextToken_385 (by decide) (fun c_4908 => ?_) (fun c_4908 => ?_)
                            · have tc_4911 : (x_4475).toInt ≠ 60 := fun q => c_4908 (Int32.toInt_inj.mp q)
                              refine lv_iconst (v := 5) hx hb dX12_nextToken_392 (by decide) ?_
                              refine pp_i (v := 5) (ty := .int) (C := RX12) (T := TX12) (N := 31) hx hb hts (tw_i inlX12) tyX12 tyX12_ok nmX12 hown hK hP hD hS hL_this hK_this (by decide) rfl 9 393 (by decide) (hts _ (tw_c tw_831)) rfl (tyX12_ok 9 (by decide)) rfl rfl (Nat.le_of_ble_eq_true rfl) (ps_393 _ _ _ _ _) dX12_nextToken_393 (fun I_4912 H locs eI_4912 hP hD hS => ?_)
                              replace hFr := fr_I (f := 393) hFr hO_this (by decide) eI_4912
                              replace hF := hF.trans (ap_n (vI_st (f := 393) hO_this (by decide) eI_4912))
                              have hG := GM.wI hG 393 rfl eI_4912 (rg_w (rg_k (5 : Int32) 5 rfl) (by decide)) (by decide)
                              have tt_4913 : (I_4912 391 this).toInt = (I_4903 391 this).toInt := by rw [eI_4912, pq_uf _ _ _ (by decide)]
                              have tt_4914 : (I_4912 388 this).toInt = (I_4903 388 this).toInt := by rw [eI_4912, pq_uf _ _ _ (by decide)]
                              have tt_4915 : (I_4912 403 this).toInt = (I_4903 403 this).toInt := by rw [eI_4912, pq_uf _ _ _ (by decide)]
                              have tt_4916 : (I_4912 393 this).toInt = 5 := by rw [eI_4912, pq_us]; rfl
                              subst hQ
                              exact W.vret hx hb hr (fun t1 ht hW => ⟨⟨(σ, I_4912, J, ri, rj, rq), rfl, ⟨I_4912, J, rfl, hG, (by omega), (by omega), (by omega), (hF0.symm.trans hF), hFr⟩, by rw [ht]; exact hP, va_K.moved hW.alike hK, hD⟩, hS.F ht⟩) hS.2.2 dX12_nextToken_396
                            · have tc_4917 : (x_4475).toInt = 60 := congrArg Int32.toInt c_4908
                              exact (rg_empty (rg_and h_4880 (rg_of_eq c_4908 (rg_k (60 : Int32) 60 rfl)) (lo := 62) (hi := 60) (by decide)) (by decide)).elim
                    refine lv_if_eq (tgt := 342) hx hb dX12_nextToken_335 (by decide) (fun c_4918 => ?_) (fun c_4918 => absurd c_4918 (by decide))
                    refine lv_iconst (v := 3) hx hb dX12_nextToken_342 (by decide) ?_
                    exact K_4824 _ _ _ hF hFr hG hP hD hS (lv_sub hl [1, 2] rfl)
                  have K_4919 : ∀  (H : Heap) (locs : List Loc) (ls : Array Slot), rg (x_4475) 35 62 → F = g_X12_nextToken_x_K332_2 (vJ 12 σ this J) (vR 12 σ this ri) (vL 12 σ this rj) (vQ 12 σ this rq) x_4475 (vI 12 σ this I_4533)  → FR 12 tg σ this (I, J, ri, rj, rq) (I_4533, J, ri, rj, rq) → GM [391, 392, 393] tg σ I ri I_4533 ri rq → va_P D vwCl (pq_P t σ (I_4533, J, ri, rj, rq)) H → va_D A (pq_P t σ (I_4533, J, ri, rj, rq)) → va_S A s.heap H locs → lv_has ls 3 [(0, .ref this), (1, .int x_4475)] → W p l e ({ frames := 2, cells := 0, slots := 0, locals := 42 } : Room) s m (List.toArray ([.ref this] : List Value)) below meth c H locs 0 0 Q (F0 m 332 ls [.int 1]) := by
                    intro H locs ls h_4921 hF hFr hG hP hD hS hl
                    have uh_4921 := h_4921.1
                    have vh_4921 := h_4921.2
                    replace hF := hF.trans g_X12_nextToken_x_K332_2_e
                    refine lv_istore_n (lv' := [(2, .int 1), (0, .ref this), (1, .int x_4475)]) hx hb dX12_nextToken_332 rfl hl (by decide) rfl (fun ls hl => ?_)
                    refine lv_aload_n hx hb dX12_nextToken_333 rfl (lv_at hl 1 rfl) ?_
                    refine lv_iload_n hx hb dX12_nextToken_334 rfl (lv_at hl 0 rfl) ?_
                    have K_5001 : ∀  (H : Heap) (locs : List Loc) (ls : Array Slot), F = g_X12_nextToken_x_K343_2 (vJ 12 σ this J) (vR 12 σ this ri) (vL 12 σ this rj) (vQ 12 σ this rq) x_4475 (vI 12 σ this I_4533)  → FR 12 tg σ this (I, J, ri, rj, rq) (I_4533, J, ri, rj, rq) → GM [391, 392, 393] tg σ I ri I_4533 ri rq → va_P D vwCl (pq_P t σ (I_4533, J, ri, rj, rq)) H → va_D A (pq_P t σ (I_4533, J, ri, rj, rq)) → va_S A s.heap H locs → lv_has ls 3 [(0, .ref this), (1, .int x_4475)] → W p l e ({ frames := 2, cells := 0, slots := 0, locals := 42 } : Room) s m (List.toArray ([.ref this] : List Value)) below meth c H locs 0 0 Q (F0 m 343 ls [.int x_4475, .ref this]) := by
                      intro H locs ls hF hFr hG hP hD hS hl
                      replace hF := hF.trans g_X12_nextToken_x_K343_2_e
                      refine pp_i (v := x_4475) (ty := .int) (C := RX12) (T := TX12) (N := 31) hx hb hts (tw_i inlX12) tyX12 tyX12_ok nmX12 hown hK hP hD hS hL_this hK_this (by decide) rfl 9 393 (by decide) (hts _ (tw_c tw_831)) rfl (tyX12_ok 9 (by decide)) rfl rfl (Nat.le_of_ble_eq_true rfl) (ps_393 _ _ _ _ _) dX12_nextToken_343 (fun I_5002 H locs eI_5002 hP hD hS => ?_)
                      replace hFr := fr_I (f := 393) hFr hO_this (by decide) eI_5002
                      replace hF := hF.trans (ap_n (vI_st (f := 393) hO_this (by decide) eI_5002))
                      have hG := GM.wI hG 393 rfl eI_5002 (rg_w h_4921 (by decide)) (by decide)
                      have tt_5003 : (I_5002 391 this).toInt = (I_4533 391 this).toInt := by rw [eI_5002, pq_uf _ _ _ (by decide)]
                      have tt_5004 : (I_5002 388 this).toInt = (I_4533 388 this).toInt := by rw [eI_5002, pq_uf _ _ _ (by decide)]
                      have tt_5005 : (I_5002 403 this).toInt = (I_4533 403 this).toInt := by rw [eI_5002, pq_uf _ _ _ (by decide)]
                      have tt_5006 : (I_5002 393 this).toInt = (x_4475).toInt := by rw [eI_5002, pq_us]
                      refine lv_iload_n hx hb dX12_nextToken_346 rfl (lv_at hl 1 rfl) ?_
                      refine lv_bipush (v := 60) hx hb dX12_nextToken_347 (by decide) ?_
                      refine lv_icmp_eq (tgt := 358) hx hb dX12_nextToken_349 (by decide) (fun c_5007 => ?_) (fun c_5007 => ?_)
                      · replace hF := hF.trans (if_pos c_5007)
                        have tc_5011 : (x_4475).toInt = 60 := congrArg Int32.toInt c_5007
                        have h_5012 : rg x_4475 60 60 := rg_and h_4921 (rg_of_eq c_5007 (rg_k (60 : Int32) 60 rfl)) (by decide)
                        have uh_5012 := h_5012.1
                        have vh_5012 := h_5012.2
                        refine lv_aload_n hx hb dX12_nextToken_358 rfl (lv_at hl 0 rfl) ?_
                        refine lv_aload_n hx hb dX12_nextToken_359 rfl (lv_at hl 0 rfl) ?_
                        refine pg_f (v := .int (I_5002 391 this)) (C := RX12) (T := TX12) (N := 31) hx hb hts (tw_i inlX12) hown hK hP hL_this hK_this (by decide) rfl 7 (by decide) (hts _ (tw_c tw_830)) rfl dX12_nextToken_360 ?_
                        have h_5013 : rg (I_5002 391 this) 1 300 := (by rw [eI_5002, pq_uf _ _ _ (by decide)]; exact (by rw [eI_4533, pq_us]; exact h_4532))
                        have uh_5013 := h_5013.1
                        have vh_5013 := h_5013.2
                        replace hF := hF.trans (ap_n (vI_e (f := 391) hO_this (by decide)))
                        refine pk_i (va_runV (As := [.int (I_5002 391 this)]) (rest := []) ⟨hx, hb, hml, hown, hts⟩ (s_X12_see_x l D t σ I_5002 J ri rj rq H.size tg hSH hG.1 this (I_5002 391 this) hL_this hK_this (rg_w h_5013 (by decide)) this_tape hR_this_tape hL_this_tape hK_this_tape hN_this_tape hT_this_tape) (cwV 1 hts (tw_V tw_839 tw_840 tw_841 tw_5 tw_842) rfl rfl rfl cv_yX12_see_1 ⟨Nat.le_of_ble_eq_true rfl, Nat.le_of_ble_eq_true rfl⟩) ⟨pq_blind, pq_recv hK hP hL_this hK_this (by decide) rfl, pq_pre hK hN hP hD⟩ rfl rfl hl.1 rfl (lv_room (Nat.le_of_ble_eq_true rfl)) dX12_nextToken_363 ⟨Nat.le_of_ble_eq_true rfl, Nat.le_of_ble_eq_true rfl⟩) hD hS hA (fun x_5015 σ1 μ1 H locs hw_5016 hP hD hS => ?_)
                        obtain ⟨hu_5017, hp_5020, hfn_5021, hr_5019⟩ := hw_5016
                        obtain ⟨hu_5017a, hu_5017b⟩ := Prod.mk.inj hu_5017
                        rw [hu_5017a, hu_5017b] at hP hD
                        replace hF := hF.trans (bn_n hfn_5021)
                        have tt_5023 : ((x_5015).toInt = -1 ∧ (I_5002 388 this).toInt ≤ (I_5002 391 this).toInt) ∨ (0 ≤ (x_5015).toInt ∧ (I_5002 391 this).toInt < (I_5002 388 this).toInt) := hp_5020.elim Or.inl (fun q => Or.inr q.2)
                        have tt_5024 := (GM.rI hG 388 (a := this) (lo := 0) (hi := 300) rfl).2
                        refine lv_bipush (v := 61) hx hb dX12_nextToken_366 (by decide) ?_
                        refine lv_icmp_ne (tgt := 396) hx hb dX12_nextToken_368 (by decide) (fun c_5025 => ?_) (fun c_5025 => ?_)
                        · replace hF := hF.trans (if_neg c_5025)
                          have tc_5029 : (x_5015).toInt ≠ 61 := fun q => c_5025 (Int32.toInt_inj.mp q)
                          subst hQ
                          exact W.vret hx hb hr (fun t1 ht hW => ⟨⟨(σ, I_5002, J, ri, rj, rq), rfl, ⟨I_5002, J, rfl, hG, (by omega), (by omega), (by omega), (hF0.symm.trans hF), hFr⟩, by rw [ht]; exact hP, va_K.moved hW.alike hK, hD⟩, hS.F ht⟩) hS.2.2 dX12_nextToken_396
                        · replace hF := hF.trans (if_pos c_5025)
                          have tc_5030 : (x_5015).toInt = 61 := congrArg Int32.toInt c_5025
                          have h_5031 : rg x_5015 61 61 := rg_and hr_5019 (rg_of_eq c_5025 (rg_k (61 : Int32) 61 rfl)) (by decide)
                          have uh_5031 := h_5031.1
                          have vh_5031 := h_5031.2
                          refine lv_aload_n hx hb dX12_nextToken_371 rfl (lv_at hl 0 rfl) ?_
                          refine lv_dup hx hb dX12_nextToken_372 rfl ?_
                          refine pg_f (v := .int (I_5002 391 this)) (C := RX12) (T := TX12) (N := 31) hx hb hts (tw_i inlX12) hown hK hP hL_this hK_this (by decide) rfl 7 (by decide) (hts _ (tw_c tw_830)) rfl dX12_nextToken_373 ?_
                          refine lv_iconst (v := 1) hx hb dX12_nextToken_376 (by decide) ?_
                          have h_5032 : rg (I_5002 391 this) 0 299 := ⟨by omega, by omega⟩
                          have uh_5032 := h_5032.1
                          have vh_5032 := h_5032.2
                          refine lv_iadd hx hb dX12_nextToken_377 ?_
                          refine lv_topi (fun x_5033 ex_5033 => ?_)
                          replace hF := hF.trans (ap_n ex_5033)
                          have h_5034 : rg x_5033 1 300 := rg_of_eq ex_5033 (rg_add h_5032 (rg_k (1 : Int32) 1 rfl) (by decide))
                          have uh_5034 := h_5034.1
                          have vh_5034 := h_5034.2
                          have tx_5033 : (x_5033).toInt = (I_5002 391 this).toInt + 1 := by rw [ex_5033]; exact i_add_rg (a2 := (I_5002 391 this).toInt) (b2 := 1) rfl rfl h_5032 (rg_k (1 : Int32) 1 rfl) (by decide)
                          refine pp_i (v := x_5033) (ty := .int) (C := RX12) (T := TX12) (N := 31) hx hb hts (tw_i inlX12) tyX12 tyX12_ok nmX12 hown hK hP hD hS hL_this hK_this (by decide) rfl 7 391 (by decide) (hts _ (tw_c tw_830)) rfl (tyX12_ok 7 (by decide)) rfl rfl (Nat.le_of_ble_eq_true rfl) (ps_391 _ _ _ _ _) dX12_nextToken_378 (fun I_5035 H locs eI_5035 hP hD hS => ?_)
                          replace hFr := fr_I (f := 391) hFr hO_this (by decide) eI_5035
                          replace hF := hF.trans (ap_n (vI_st (f := 391) hO_this (by decide) eI_5035))
                          have hG := GM.wI hG 391 rfl eI_5035 (rg_w h_5034 (by decide)) (by decide)
                          have tt_5036 : (I_5035 391 this).toInt = (x_5033).toInt := by rw [eI_5035, pq_us]
                          have tt_5037 : (I_5035 388 this).toInt = (I_5002 388 this).toInt := by rw [eI_5035, pq_uf _ _ _ (by decide)]
                          have tt_5038 : (I_5035 403 this).toInt = (I_5002 403 this).toInt := by rw [eI_5035, pq_uf _ _ _ (by decide)]
                          have tt_5039 : (I_5035 393 this).toInt = (I_5002 393 this).toInt := by rw [eI_5035, pq_uf _ _ _ (by decide)]
                          refine lv_aload_n hx hb dX12_nextToken_381 rfl (lv_at hl 0 rfl) ?_
                          refine lv_iload_n hx hb dX12_nextToken_382 rfl (lv_at hl 1 rfl) ?_
                          refine lv_bipush (v := 60) hx hb dX12_nextToken_383 (by decide) ?_
                          refine lv_icmp_ne (tgt := 392) hx hb dX12_nextToken_385 (by decide) (fun c_5040 => ?_) (fun c_5040 => ?_)
                          · have tc_5043 : (x_4475).toInt ≠ 60 := fun q => c_5040 (Int32.toInt_inj.mp q)
                            exact (rg_empty (rg_ne c_5040 h_5012 60 rfl (lo := 61) (hi := 59) (by decide)) (by decide)).elim
                          · have tc_5044 : (x_4475).toInt = 60 := congrArg Int32.toInt c_5040
                            refine lv_iconst (v := 4) hx hb dX12_nextToken_388 (by decide) ?_
                            refine lv_goto (tgt := 393) hx hb dX12_nextToken_389 (by decide) ?_
                            refine pp_i (v := 4) (ty := .int) (C := RX12) (T := TX12) (N := 31) hx hb hts (tw_i inlX12) tyX12 tyX12_ok nmX12 hown hK hP hD hS hL_this hK_this (by decide) rfl 9 393 (by decide) (hts _ (tw_c tw_831)) rfl (tyX12_ok 9 (by decide)) rfl rfl (Nat.le_of_ble_eq_true rfl) (ps_393 _ _ _ _ _) dX12_nextToken_393 (fun I_5045 H locs eI_5045 hP hD hS => ?_)
                            replace hFr := fr_I (f := 393) hFr hO_this (by decide) eI_5045
                            replace hF := hF.trans (ap_n (vI_st (f := 393) hO_this (by decide) eI_5045))
                            have hG := GM.wI hG 393 rfl eI_5045 (rg_w (rg_k (4 : Int32) 4 rfl) (by decide)) (by decide)
                            have tt_5046 : (I_5045 391 this).toInt = (I_5035 391 this).toInt := by rw [eI_5045, pq_uf _ _ _ (by decide)]
                            have tt_5047 : (I_5045 388 this).toInt = (I_5035 388 this).toInt := by rw [eI_5045, pq_uf _ _ _ (by decide)]
                            have tt_5048 : (I_5045 403 this).toInt = (I_5035 403 this).toInt := by rw [eI_5045, pq_uf _ _ _ (by decide)]
                            have tt_5049 : (I_5045 393 this).toInt = 4 := by rw [eI_5045, pq_us]; rfl
                            subst hQ
                            exact W.vret hx hb hr (fun t1 ht hW => ⟨⟨(σ, I_5045, J, ri, rj, rq), rfl, ⟨I_5045, J, rfl, hG, (by omega), (by omega), (by omega), (hF0.symm.trans hF), hFr⟩, by rw [ht]; exact hP, va_K.moved hW.alike hK, hD⟩, hS.F ht⟩) hS.2.2 dX12_nextToken_396
                      · replace hF := hF.trans (if_neg c_5007)
                        have tc_5050 : (x_4475).toInt ≠ 60 := fun q => c_5007 (Int32.toInt_inj.mp q)
                        refine lv_iload_n hx hb dX12_nextToken_352 rfl (lv_at hl 1 rfl) ?_
                        refine lv_bipush (v := 62) hx hb dX12_nextToken_353 (by decide) ?_
                        refine lv_icmp_ne (tgt := 396) hx hb dX12_nextToken_355 (by decide) (fun c_5051 => ?_) (fun c_5051 => ?_)
                        · replace hF := hF.trans (if_neg c_5051)
                          have tc_5056 : (x_4475).toInt ≠ 62 := fun q => c_5051 (Int32.toInt_inj.mp q)
                          have h_5057 : rg x_4475 35 61 := rg_ne c_5051 h_4921 62 rfl (by decide)
                          have uh_5057 := h_5057.1
                          have vh_5057 := h_5057.2
                          subst hQ
                          exact W.vret hx hb hr (fun t1 ht hW => ⟨⟨(σ, I_5002, J, ri, rj, rq), rfl, ⟨I_5002, J, rfl, hG, (by omega), (by omega), (by omega), (hF0.symm.trans hF), hFr⟩, by rw [ht]; exact hP, va_K.moved hW.alike hK, hD⟩, hS.F ht⟩) hS.2.2 dX12_nextToken_396
                        · replace hF := hF.trans (if_pos c_5051)
                          have tc_5058 : (x_4475).toInt = 62 := congrArg Int32.toInt c_5051
                          have h_5059 : rg x_4475 62 62 := rg_and h_4921 (rg_of_eq c_5051 (rg_k (62 : Int32) 62 rfl)) (by decide)
                          have uh_5059 := h_5059.1
                          have vh_5059 := h_5059.2
                          refine lv_aload_n hx hb dX12_nextToken_358 rfl (lv_at hl 0 rfl) ?_
                          refine lv_aload_n hx hb dX12_nextToken_359 rfl (lv_at hl 0 rfl) ?_
                          refine pg_f (v := .int (I_5002 391 this)) (C := RX12) (T := TX12) (N := 31) hx hb hts (tw_i inlX12) hown hK hP hL_this hK_this (by decide) rfl 7 (by decide) (hts _ (tw_c tw_830)) rfl dX12_nextToken_360 ?_
                          have h_5060 : rg (I_5002 391 this) 1 300 := (by rw [eI_5002, pq_uf _ _ _ (by decide)]; exact (by rw [eI_4533, pq_us]; exact h_4532))
                          have uh_5060 := h_5060.1
                          have vh_5060 := h_5060.2
                          replace hF := hF.trans (ap_n (vI_e (f := 391) hO_this (by decide)))
                          refine pk_i (va_runV (As := [.int (I_5002 391 this)]) (rest := []) ⟨hx, hb, hml, hown, hts⟩ (s_X12_see_x l D t σ I_5002 J ri rj rq H.size tg hSH hG.1 this (I_5002 391 this) hL_this hK_this (rg_w h_5060 (by decide)) this_tape hR_this_tape hL_this_tape hK_this_tape hN_this_tape hT_this_tape) (cwV 1 hts (tw_V tw_839 tw_840 tw_841 tw_5 tw_842) rfl rfl rfl cv_yX12_see_1 ⟨Nat.le_of_ble_eq_true rfl, Nat.le_of_ble_eq_true rfl⟩) ⟨pq_blind, pq_recv hK hP hL_this hK_this (by decide) rfl, pq_pre hK hN hP hD⟩ rfl rfl hl.1 rfl (lv_room (Nat.le_of_ble_eq_true rfl)) dX12_nextToken_363 ⟨Nat.le_of_ble_eq_true rfl, Nat.le_of_ble_eq_true rfl⟩) hD hS hA (fun x_5062 σ1 μ1 H locs hw_5063 hP hD hS => ?_)
                          obtain ⟨hu_5064, hp_5067, hfn_5068, hr_5066⟩ := hw_5063
                          obtain ⟨hu_5064a, hu_5064b⟩ := Prod.mk.inj hu_5064
                          rw [hu_5064a, hu_5064b] at hP hD
                          replace hF := hF.trans (bn_n hfn_5068)
                          have tt_5070 : ((x_5062).toInt = -1 ∧ (I_5002 388 this).toInt ≤ (I_5002 391 this).toInt) ∨ (0 ≤ (x_5062).toInt ∧ (I_5002 391 this).toInt < (I_5002 388 this).toInt) := hp_5067.elim Or.inl (fun q => Or.inr q.2)
                          have tt_5071 := (GM.rI hG 388 (a := this) (lo := 0) (hi := 300) rfl).2
                          refine lv_bipush (v := 61) hx hb dX12_nextToken_366 (by decide) ?_
                          refine lv_icmp_ne (tgt := 396) hx hb dX12_nextToken_368 (by decide) (fun c_5072 => ?_) (fun c_5072 => ?_)
                          · replace hF := hF.trans (if_neg c_5072)
                            have tc_5076 : (x_5062).toInt ≠ 61 := fun q => c_5072 (Int32.toInt_inj.mp q)
                            subst hQ
                            exact W.vret hx hb hr (fun t1 ht hW => ⟨⟨(σ, I_5002, J, ri, rj, rq), rfl, ⟨I_5002, J, rfl, hG, (by omega), (by omega), (by omega), (hF0.symm.trans hF), hFr⟩, by rw [ht]; exact hP, va_K.moved hW.alike hK, hD⟩, hS.F ht⟩) hS.2.2 dX12_nextToken_396
                          · replace hF := hF.trans (if_pos c_5072)
                            have tc_5077 : (x_5062).toInt = 61 := congrArg Int32.toInt c_5072
                            have h_5078 : rg x_5062 61 61 := rg_and hr_5066 (rg_of_eq c_5072 (rg_k (61 : Int32) 61 rfl)) (by decide)
                            have uh_5078 := h_5078.1
                            have vh_5078 := h_5078.2
                            refine lv_aload_n hx hb dX12_nextToken_371 rfl (lv_at hl 0 rfl) ?_
                            refine lv_dup hx hb dX12_nextToken_372 rfl ?_
                            refine pg_f (v := .int (I_5002 391 this)) (C := RX12) (T := TX12) (N := 31) hx hb hts (tw_i inlX12) hown hK hP hL_this hK_this (by decide) rfl 7 (by decide) (hts _ (tw_c tw_830)) rfl dX12_nextToken_373 ?_
                            refine lv_iconst (v := 1) hx hb dX12_nextToken_376 (by decide) ?_
                            have h_5079 : rg (I_5002 391 this) 0 299 := ⟨by omega, by omega⟩
                            have uh_5079 := h_5079.1
                            have vh_5079 := h_5079.2
                            refine lv_iadd hx hb dX12_nextToken_377 ?_
                            refine lv_topi (fun x_5080 ex_5080 => ?_)
                            replace hF := hF.trans (ap_n ex_5080)
                            have h_5081 : rg x_5080 1 300 := rg_of_eq ex_5080 (rg_add h_5079 (rg_k (1 : Int32) 1 rfl) (by decide))
                            have uh_5081 := h_5081.1
                            have vh_5081 := h_5081.2
                            have tx_5080 : (x_5080).toInt = (I_5002 391 this).toInt + 1 := by rw [ex_5080]; exact i_add_rg (a2 := (I_5002 391 this).toInt) (b2 := 1) rfl rfl h_5079 (rg_k (1 : Int32) 1 rfl) (by decide)
                            refine pp_i (v := x_5080) (ty := .int) (C := RX12) (T := TX12) (N := 31) hx hb hts (tw_i inlX12) tyX12 tyX12_ok nmX12 hown hK hP hD hS hL_this hK_this (by decide) rfl 7 391 (by decide) (hts _ (tw_c tw_830)) rfl (tyX12_ok 7 (by decide)) rfl rfl (Nat.le_of_ble_eq_true rfl) (ps_391 _ _ _ _ _) dX12_nextToken_378 (fun I_5082 H locs eI_5082 hP hD hS => ?_)
                            replace hFr := fr_I (f := 391) hFr hO_this (by decide) eI_5082
                            replace hF := hF.trans (ap_n (vI_st (f := 391) hO_this (by decide) eI_5082))
                            have hG := GM.wI hG 391 rfl eI_5082 (rg_w h_5081 (by decide)) (by decide)
                            have tt_5083 : (I_5082 391 this).toInt = (x_5080).toInt := by rw [eI_5082, pq_us]
                            have tt_5084 : (I_5082 388 this).toInt = (I_5002 388 this).toInt := by rw [eI_5082, pq_uf _ _ _ (by decide)]
                            have tt_5085 : (I_5082 403 this).toInt = (I_5002 403 this).toInt := by rw [eI_5082, pq_uf _ _ _ (by decide)]
                            have tt_5086 : (I_5082 393 this).toInt = (I_5002 393 this).toInt := by rw [eI_5082, pq_uf _ _ _ (by decide)]
                            refine lv_aload_n hx hb dX12_nextToken_381 rfl (lv_at hl 0 rfl) ?_
                            refine lv_iload_n hx hb dX12_nextToken_382 rfl (lv_at hl 1 rfl) ?_
                            refine lv_bipush (v := 60) hx hb dX12_nextToken_383 (by decide) ?_
                            refine lv_icmp_ne (tgt := 392) hx hb dX12_nextToken_385 (by decide) (fun c_5087 => ?_) (fun c_5087 => ?_)
                            · have tc_5090 : (x_4475).toInt ≠ 60 := fun q => c_5087 (Int32.toInt_inj.mp q)
                              refine lv_iconst (v := 5) hx hb dX12_nextToken_392 (by decide) ?_
                              refine pp_i (v := 5) (ty := .int) (C := RX12) (T := TX12) (N := 31) hx hb hts (tw_i inlX12) tyX12 tyX12_ok nmX12 hown hK hP hD hS hL_this hK_this (by decide) rfl 9 393 (by decide) (hts _ (tw_c tw_831)) rfl (tyX12_ok 9 (by decide)) rfl rfl (Nat.le_of_ble_eq_true rfl) (ps_393 _ _ _ _ _) dX12_nextToken_393 (fun I_5091 H locs eI_5091 hP hD hS => ?_)
                              replace hFr := fr_I (f := 393) hFr hO_this (by decide) eI_5091
                              replace hF := hF.trans (ap_n (vI_st (f := 393) hO_this (by decide) eI_5091))
                              have hG := GM.wI hG 393 rfl eI_5091 (rg_w (rg_k (5 : Int32) 5 rfl) (by decide)) (by decide)
                              have tt_5092 : (I_5091 391 this).toInt = (I_5082 391 this).toInt := by rw [eI_5091, pq_uf _ _ _ (by decide)]
                              have tt_5093 : (I_5091 388 this).toInt = (I_5082 388 this).toInt := by rw [eI_5091, pq_uf _ _ _ (by decide)]
                              have tt_5094 : (I_5091 403 this).toInt = (I_5082 403 this).toInt := by rw [eI_5091, pq_uf _ _ _ (by decide)]
                              have tt_5095 : (I_5091 393 this).toInt = 5 := by rw [eI_5091, pq_us]; rfl
                              subst hQ
                              exact W.vret hx hb hr (fun t1 ht hW => ⟨⟨(σ, I_5091, J, ri, rj, rq), rfl, ⟨I_5091, J, rfl, hG, (by omega), (by omega), (by omega), (hF0.symm.trans hF), hFr⟩, by rw [ht]; exact hP, va_K.moved hW.alike hK, hD⟩, hS.F ht⟩) hS.2.2 dX12_nextToken_396
                            · have tc_5096 : (x_4475).toInt = 60 := congrArg Int32.toInt c_5087
                              exact (rg_empty (rg_and h_5059 (rg_of_eq c_5087 (rg_k (60 : Int32) 60 rfl)) (lo := 62) (hi := 60) (by decide)) (by decide)).elim
                    refine lv_if_eq (tgt := 342) hx hb dX12_nextToken_335 (by decide) (fun c_5097 => absurd c_5097 (by decide)) (fun c_5097 => ?_)
                    refine lv_iload_n hx hb dX12_nextToken_338 rfl (lv_at hl 2 rfl) ?_
                    refine lv_goto (tgt := 343) hx hb dX12_nextToken_339 (by decide) ?_
                    exact K_5001 _ _ _ hF hFr hG hP hD hS (lv_sub hl [1, 2] rfl)
                  have K_5098 : ∀  (H : Heap) (locs : List Loc) (ls : Array Slot), rg (x_4475) 35 62 → F = g_X12_nextToken_x_K327 (vJ 12 σ this J) (vR 12 σ this ri) (vL 12 σ this rj) (vQ 12 σ this rq) x_4475 (vI 12 σ this I_4533)  → FR 12 tg σ this (I, J, ri, rj, rq) (I_4533, J, ri, rj, rq) → GM [391, 392, 393] tg σ I ri I_4533 ri rq → va_P D vwCl (pq_P t σ (I_4533, J, ri, rj, rq)) H → va_D A (pq_P t σ (I_4533, J, ri, rj, rq)) → va_S A s.heap H locs → lv_has ls 3 [(0, .ref this), (1, .int x_4475)] → W p l e ({ frames := 2, cells := 0, slots := 0, locals := 42 } : Room) s m (List.toArray ([.ref this] : List Value)) below meth c H locs 0 0 Q (F0 m 327 ls []) := by
                    intro H locs ls h_5100 hF hFr hG hP hD hS hl
                    have uh_5100 := h_5100.1
                    have vh_5100 := h_5100.2
                    replace hF := hF.trans g_X12_nextToken_x_K327_e
                    refine lv_iconst (v := 1) hx hb dX12_nextToken_327 (by decide) ?_
                    refine lv_goto (tgt := 332) hx hb dX12_nextToken_328 (by decide) ?_
                    exact K_4919 _ _ _ (rg_w h_5100 (by decide)) hF hFr hG hP hD hS (lv_sub hl [0, 1] rfl)
                  refine lv_icmp_eq (tgt := 327) hx hb dX12_nextToken_258 (by decide) (fun c_5101 => ?_) (fun c_5101 => ?_)
                  · replace hF := hF.trans (if_pos c_5101)
                    have tc_5105 : (x_4475).toInt = 60 := congrArg Int32.toInt c_5101
                    have h_5106 : rg x_4475 60 60 := rg_and h_4491 (rg_of_eq c_5101 (rg_k (60 : Int32) 60 rfl)) (by decide)
                    have uh_5106 := h_5106.1
                    have vh_5106 := h_5106.2
                    exact K_5098 _ _ _ (rg_w h_5106 (by decide)) hF hFr hG hP hD hS (lv_sub hl [1, 0] rfl)
                  · replace hF := hF.trans (if_neg c_5101)
                    have tc_5107 : (x_4475).toInt ≠ 60 := fun q => c_5101 (Int32.toInt_inj.mp q)
                    refine lv_iload_n hx hb dX12_nextToken_261 rfl (lv_at hl 0 rfl) ?_
                    refine lv_bipush (v := 62) hx hb dX12_nextToken_262 (by decide) ?_
                    refine lv_icmp_eq (tgt := 327) hx hb dX12_nextToken_264 (by decide) (fun c_5108 => ?_) (fun c_5108 => ?_)
                    · replace hF := hF.trans (if_pos c_5108)
                      have tc_5112 : (x_4475).toInt = 62 := congrArg Int32.toInt c_5108
                      have h_5113 : rg x_4475 62 62 := rg_and h_4491 (rg_of_eq c_5108 (rg_k (62 : Int32) 62 rfl)) (by decide)
                      have uh_5113 := h_5113.1
                      have vh_5113 := h_5113.2
                      exact K_5098 _ _ _ (rg_w h_5113 (by decide)) hF hFr hG hP hD hS (lv_sub hl [1, 0] rfl)
                    · replace hF := hF.trans (if_neg c_5108)
                      have tc_5114 : (x_4475).toInt ≠ 62 := fun q => c_5108 (Int32.toInt_inj.mp q)
                      refine lv_iload_n hx hb dX12_nextToken_267 rfl (lv_at hl 0 rfl) ?_
                      refine lv_bipush (v := 61) hx hb dX12_nextToken_268 (by decide) ?_
                      refine lv_icmp_eq (tgt := 327) hx hb dX12_nextToken_270 (by decide) (fun c_5115 => ?_) (fun c_5115 => ?_)
                      · replace hF := hF.trans (if_pos c_5115)
                        have tc_5119 : (x_4475).toInt = 61 := congrArg Int32.toInt c_5115
                        have h_5120 : rg x_4475 61 61 := rg_and h_4491 (rg_of_eq c_5115 (rg_k (61 : Int32) 61 rfl)) (by decide)
                        have uh_5120 := h_5120.1
                        have vh_5120 := h_5120.2
                        exact K_5098 _ _ _ (rg_w h_5120 (by decide)) hF hFr hG hP hD hS (lv_sub hl [1, 0] rfl)
                      · replace hF := hF.trans (if_neg c_5115)
                        have tc_5121 : (x_4475).toInt ≠ 61 := fun q => c_5115 (Int32.toInt_inj.mp q)
                        refine lv_iload_n hx hb dX12_nextToken_273 rfl (lv_at hl 0 rfl) ?_
                        refine lv_bipush (v := 35) hx hb dX12_nextToken_274 (by decide) ?_
                        refine lv_icmp_eq (tgt := 327) hx hb dX12_nextToken_276 (by decide) (fun c_5122 => ?_) (fun c_5122 => ?_)
                        · replace hF := hF.trans (if_pos c_5122)
                          have tc_5126 : (x_4475).toInt = 35 := congrArg Int32.toInt c_5122
                          have h_5127 : rg x_4475 35 35 := rg_and h_4491 (rg_of_eq c_5122 (rg_k (35 : Int32) 35 rfl)) (by decide)
                          have uh_5127 := h_5127.1
                          have vh_5127 := h_5127.2
                          exact K_5098 _ _ _ (rg_w h_5127 (by decide)) hF hFr hG hP hD hS (lv_sub hl [1, 0] rfl)
                        · replace hF := hF.trans (if_neg c_5122)
                          have tc_5128 : (x_4475).toInt ≠ 35 := fun q => c_5122 (Int32.toInt_inj.mp q)
                          refine lv_iload_n hx hb dX12_nextToken_279 rfl (lv_at hl 0 rfl) ?_
                          refine lv_bipush (v := 43) hx hb dX12_nextToken_280 (by decide) ?_
                          refine lv_icmp_eq (tgt := 327) hx hb dX12_nextToken_282 (by decide) (fun c_5129 => ?_) (fun c_5129 => ?_)
                          · replace hF := hF.trans (if_pos c_5129)
                            have tc_5133 : (x_4475).toInt = 43 := congrArg Int32.toInt c_5129
                            have h_5134 : rg x_4475 43 43 := rg_and h_4491 (rg_of_eq c_5129 (rg_k (43 : Int32) 43 rfl)) (by decide)
                            have uh_5134 := h_5134.1
                            have vh_5134 := h_5134.2
                            exact K_5098 _ _ _ (rg_w h_5134 (by decide)) hF hFr hG hP hD hS (lv_sub hl [1, 0] rfl)
                          · replace hF := hF.trans (if_neg c_5129)
                            have tc_5135 : (x_4475).toInt ≠ 43 := fun q => c_5129 (Int32.toInt_inj.mp q)
                            refine lv_iload_n hx hb dX12_nextToken_285 rfl (lv_at hl 0 rfl) ?_
                            refine lv_bipush (v := 45) hx hb dX12_nextToken_286 (by decide) ?_
                            refine lv_icmp_eq (tgt := 327) hx hb dX12_nextToken_288 (by decide) (fun c_5136 => ?_) (fun c_5136 => ?_)
                            · replace hF := hF.trans (if_pos c_5136)
                              have tc_5140 : (x_4475).toInt = 45 := congrArg Int32.toInt c_5136
                              have h_5141 : rg x_4475 45 45 := rg_and h_4491 (rg_of_eq c_5136 (rg_k (45 : Int32) 45 rfl)) (by decide)
                              have uh_5141 := h_5141.1
                              have vh_5141 := h_5141.2
                              exact K_5098 _ _ _ (rg_w h_5141 (by decide)) hF hFr hG hP hD hS (lv_sub hl [1, 0] rfl)
                            · replace hF := hF.trans (if_neg c_5136)
                              have tc_5142 : (x_4475).toInt ≠ 45 := fun q => c_5136 (Int32.toInt_inj.mp q)
                              refine lv_iload_n hx hb dX12_nextToken_291 rfl (lv_at hl 0 rfl) ?_
                              refine lv_bipush (v := 42) hx hb dX12_nextToken_292 (by decide) ?_
                              refine lv_icmp_eq (tgt := 327) hx hb dX12_nextToken_294 (by decide) (fun c_5143 => ?_) (fun c_5143 => ?_)
                              · replace hF := hF.trans (if_pos c_5143)
                                have tc_5147 : (x_4475).toInt = 42 := congrArg Int32.toInt c_5143
                                have h_5148 : rg x_4475 42 42 := rg_and h_4491 (rg_of_eq c_5143 (rg_k (42 : Int32) 42 rfl)) (by decide)
                                have uh_5148 := h_5148.1
                                have vh_5148 := h_5148.2
                                exact K_5098 _ _ _ (rg_w h_5148 (by decide)) hF hFr hG hP hD hS (lv_sub hl [1, 0] rfl)
                              · replace hF := hF.trans (if_neg c_5143)
                                have tc_5149 : (x_4475).toInt ≠ 42 := fun q => c_5143 (Int32.toInt_inj.mp q)
                                refine lv_iload_n hx hb dX12_nextToken_297 rfl (lv_at hl 0 rfl) ?_
                                refine lv_bipush (v := 47) hx hb dX12_nextToken_298 (by decide) ?_
                                refine lv_icmp_eq (tgt := 327) hx hb dX12_nextToken_300 (by decide) (fun c_5150 => ?_) (fun c_5150 => ?_)
                                · replace hF := hF.trans (if_pos c_5150)
                                  have tc_5154 : (x_4475).toInt = 47 := congrArg Int32.toInt c_5150
                                  have h_5155 : rg x_4475 47 47 := rg_and h_4491 (rg_of_eq c_5150 (rg_k (47 : Int32) 47 rfl)) (by decide)
                                  have uh_5155 := h_5155.1
                                  have vh_5155 := h_5155.2
                                  exact K_5098 _ _ _ (rg_w h_5155 (by decide)) hF hFr hG hP hD hS (lv_sub hl [1, 0] rfl)
                                · replace hF := hF.trans (if_neg c_5150)
                                  have tc_5156 : (x_4475).toInt ≠ 47 := fun q => c_5150 (Int32.toInt_inj.mp q)
                                  refine lv_iload_n hx hb dX12_nextToken_303 rfl (lv_at hl 0 rfl) ?_
                                  refine lv_bipush (v := 40) hx hb dX12_nextToken_304 (by decide) ?_
                                  refine lv_icmp_eq (tgt := 327) hx hb dX12_nextToken_306 (by decide) (fun c_5157 => ?_) (fun c_5157 => ?_)
                                  · replace hF := hF.trans (if_pos c_5157)
                                    have tc_5161 : (x_4475).toInt = 40 := congrArg Int32.toInt c_5157
                                    have h_5162 : rg x_4475 40 40 := rg_and h_4491 (rg_of_eq c_5157 (rg_k (40 : Int32) 40 rfl)) (by decide)
                                    have uh_5162 := h_5162.1
                                    have vh_5162 := h_5162.2
                                    exact K_5098 _ _ _ (rg_w h_5162 (by decide)) hF hFr hG hP hD hS (lv_sub hl [1, 0] rfl)
                                  · replace hF := hF.trans (if_neg c_5157)
                                    have tc_5163 : (x_4475).toInt ≠ 40 := fun q => c_5157 (Int32.toInt_inj.mp q)
                                    refine lv_iload_n hx hb dX12_nextToken_309 rfl (lv_at hl 0 rfl) ?_
                                    refine lv_bipush (v := 41) hx hb dX12_nextToken_310 (by decide) ?_
                                    refine lv_icmp_eq (tgt := 327) hx hb dX12_nextToken_312 (by decide) (fun c_5164 => ?_) (fun c_5164 => ?_)
                                    · replace hF := hF.trans (if_pos c_5164)
                                      have tc_5168 : (x_4475).toInt = 41 := congrArg Int32.toInt c_5164
                                      have h_5169 : rg x_4475 41 41 := rg_and h_4491 (rg_of_eq c_5164 (rg_k (41 : Int32) 41 rfl)) (by decide)
                                      have uh_5169 := h_5169.1
                                      have vh_5169 := h_5169.2
                                      exact K_5098 _ _ _ (rg_w h_5169 (by decide)) hF hFr hG hP hD hS (lv_sub hl [1, 0] rfl)
                                    · replace hF := hF.trans (if_neg c_5164)
                                      have tc_5170 : (x_4475).toInt ≠ 41 := fun q => c_5164 (Int32.toInt_inj.mp q)
                                      refine lv_iload_n hx hb dX12_nextToken_315 rfl (lv_at hl 0 rfl) ?_
                                      refine lv_bipush (v := 44) hx hb dX12_nextToken_316 (by decide) ?_
                                      refine lv_icmp_eq (tgt := 327) hx hb dX12_nextToken_318 (by decide) (fun c_5171 => ?_) (fun c_5171 => ?_)
                                      · replace hF := hF.trans (if_pos c_5171)
                                        have tc_5175 : (x_4475).toInt = 44 := congrArg Int32.toInt c_5171
                                        have h_5176 : rg x_4475 44 44 := rg_and h_4491 (rg_of_eq c_5171 (rg_k (44 : Int32) 44 rfl)) (by decide)
                                        have uh_5176 := h_5176.1
                                        have vh_5176 := h_5176.2
                                        exact K_5098 _ _ _ (rg_w h_5176 (by decide)) hF hFr hG hP hD hS (lv_sub hl [1, 0] rfl)
                                      · replace hF := hF.trans (if_neg c_5171)
                                        have tc_5177 : (x_4475).toInt ≠ 44 := fun q => c_5171 (Int32.toInt_inj.mp q)
                                        refine lv_iload_n hx hb dX12_nextToken_321 rfl (lv_at hl 0 rfl) ?_
                                        refine lv_bipush (v := 59) hx hb dX12_nextToken_322 (by decide) ?_
                                        refine lv_icmp_ne (tgt := 331) hx hb dX12_nextToken_324 (by decide) (fun c_5178 => ?_) (fun c_5178 => ?_)
                                        · replace hF := hF.trans (if_neg c_5178)
                                          have tc_5182 : (x_4475).toInt ≠ 59 := fun q => c_5178 (Int32.toInt_inj.mp q)
                                          refine lv_iconst (v := 0) hx hb dX12_nextToken_331 (by decide) ?_
                                          exact K_4745 _ _ _ hF hFr hG hP hD hS (lv_sub hl [1, 0] rfl)
                                        · replace hF := hF.trans (if_pos c_5178)
                                          have tc_5183 : (x_4475).toInt = 59 := congrArg Int32.toInt c_5178
                                          have h_5184 : rg x_4475 59 59 := rg_and h_4491 (rg_of_eq c_5178 (rg_k (59 : Int32) 59 rfl)) (by decide)
                                          have uh_5184 := h_5184.1
                                          have vh_5184 := h_5184.2
                                          exact K_5098 _ _ _ (rg_w h_5184 (by decide)) hF hFr hG hP hD hS (lv_sub hl [1, 0] rfl)
                · replace hF := hF.trans (if_neg c_4519)
                  obtain ⟨f_5185, f_5186⟩ := (hr_4515.resolve_right (fun q => c_4519 q.1)).2
                  have uf_5185 := f_5185.1
                  have vf_5185 := f_5185.2
                  have tc_5187 : (x_4511).toInt ≠ 0 := fun q => c_4519 (Int32.toInt_inj.mp q)
                  have h_5188 : rg x_4511 1 1 := rg_ne c_4519 h_4518 0 rfl (by decide)
                  have uh_5188 := h_5188.1
                  have vh_5188 := h_5188.2
                  refine lv_aload_n hx hb dX12_nextToken_151 rfl (lv_at hl 1 rfl) ?_
                  refine lv_iconst (v := 2) hx hb dX12_nextToken_152 (by decide) ?_
                  refine pp_i (v := 2) (ty := .int) (C := RX12) (T := TX12) (N := 31) hx hb hts (tw_i inlX12) tyX12 tyX12_ok nmX12 hown hK hP hD hS hL_this hK_this (by decide) rfl 9 393 (by decide) (hts _ (tw_c tw_831)) rfl (tyX12_ok 9 (by decide)) rfl rfl (Nat.le_of_ble_eq_true rfl) (ps_393 _ _ _ _ _) dX12_nextToken_153 (fun I_5189 H locs eI_5189 hP hD hS => ?_)
                  replace hFr := fr_I (f := 393) hFr hO_this (by decide) eI_5189
                  replace hF := hF.trans (ap_n (vI_st (f := 393) hO_this (by decide) eI_5189))
                  have hG := GM.wI hG 393 rfl eI_5189 (rg_w (rg_k (2 : Int32) 2 rfl) (by decide)) (by decide)
                  have tt_5190 : (I_5189 391 this).toInt = (I_4468 391 this).toInt := by rw [eI_5189, pq_uf _ _ _ (by decide)]
                  have tt_5191 : (I_5189 388 this).toInt = (I_4468 388 this).toInt := by rw [eI_5189, pq_uf _ _ _ (by decide)]
                  have tt_5192 : (I_5189 403 this).toInt = (I_4468 403 this).toInt := by rw [eI_5189, pq_uf _ _ _ (by decide)]
                  have tt_5193 : (I_5189 393 this).toInt = 2 := by rw [eI_5189, pq_us]; rfl
                  refine lv_aload_n hx hb dX12_nextToken_156 rfl (lv_at hl 1 rfl) ?_
                  refine lv_lconst (v := 0) hx hb dX12_nextToken_157 (by decide) ?_
                  refine pp_l (v := 0) (C := RX12) (T := TX12) (N := 31) hx hb hts (tw_i inlX12) tyX12 tyX12_ok nmX12 hown hK hP hD hS hL_this hK_this (by decide) rfl 11 395 (by decide) (hts _ (tw_c tw_838)) rfl (tyX12_ok 11 (by decide)) (Nat.le_of_ble_eq_true rfl) (ps_395 _ _ _ _ _) dX12_nextToken_158 (fun J_5194 H locs eJ_5194 hP hD hS => ?_)
                  replace hFr := fr_J (f := 395) hFr hO_this (by decide) eJ_5194
                  replace hF := hF.trans (ap_n (vJ_st (f := 395) hO_this (by decide) eJ_5194))
                  have L_5523 : ∀ (n_5522 : Nat) (I_5439 : Nat → Nat → Int32) (J_5440 : Nat → Nat → Int64) (H : Heap) (locs : List Loc) (ls : Array Slot), ((I_3315 391 this).toInt ≤ (I_5439 391 this).toInt ∧ (I_5439 388 this).toInt = (I 388 this).toInt ∧ (I_5439 403 this).toInt = (I 403 this).toInt) → (300 - (I_5439 391 this).toInt).toNat < n_5522 → F = g_X12_nextToken_x_L161 (vR 12 σ this ri) (vL 12 σ this rj) (vQ 12 σ this rq) n_5522 (vI 12 σ this I_5439) (vJ 12 σ this J_5440) → FR 12 tg σ this (I, J, ri, rj, rq) (I_5439, J_5440, ri, rj, rq) → GM [391, 392, 393] tg σ I ri I_5439 ri rq → va_P D vwCl (pq_P t σ (I_5439, J_5440, ri, rj, rq)) H → va_D A (pq_P t σ (I_5439, J_5440, ri, rj, rq)) → va_S A s.heap H locs → lv_has ls 3 [(0, .ref this)] → W p l e ({ frames := 2, cells := 0, slots := 0, locals := 42 } : Room) s m (List.toArray ([.ref this] : List Value)) below meth c H locs 0 0 Q (F0 m 161 ls []) := by
                    intro n_5522
                    induction n_5522 with
                    | zero => intro I_5439 J_5440 H locs ls hrel_5526 hm_5521 hF hFr hG hP hD hS hl; exact absurd hm_5521 (Nat.not_lt_zero _)
                    | succ n_5522 ih_5524 =>
                      intro I_5439 J_5440 H locs ls hrel_5526 hm_5521 hF hFr hG hP hD hS hl
                      replace hF := hF.trans g_X12_nextToken_x_L161_e
                      refine lv_aload_n hx hb dX12_nextToken_161 rfl (lv_at hl 0 rfl) ?_
                      refine lv_aload_n hx hb dX12_nextToken_162 rfl (lv_at hl 0 rfl) ?_
                      refine pg_f (v := .int (I_5439 391 this)) (C := RX12) (T := TX12) (N := 31) hx hb hts (tw_i inlX12) hown hK hP hL_this hK_this (by decide) rfl 7 (by decide) (hts _ (tw_c tw_830)) rfl dX12_nextToken_163 ?_
                      have h_5527 : rg (I_5439 391 this) 0 300 := GM.rI hG 391 rfl
                      have uh_5527 := h_5527.1
                      have vh_5527 := h_5527.2
                      replace hF := hF.trans (ap_n (vI_e (f := 391) hO_this (by decide)))
                      refine pk_i (va_runV (As := [.int (I_5439 391 this)]) (rest := []) ⟨hx, hb, hml, hown, hts⟩ (s_X12_see_x l D t σ I_5439 J_5440 ri rj rq H.size tg hSH hG.1 this (I_5439 391 this) hL_this hK_this (rg_w h_5527 (by decide)) this_tape hR_this_tape hL_this_tape hK_this_tape hN_this_tape hT_this_tape) (cwV 1 hts (tw_V tw_839 tw_840 tw_841 tw_5 tw_842) rfl rfl rfl cv_yX12_see_1 ⟨Nat.le_of_ble_eq_true rfl, Nat.le_of_ble_eq_true rfl⟩) ⟨pq_blind, pq_recv hK hP hL_this hK_this (by decide) rfl, pq_pre hK hN hP hD⟩ rfl rfl hl.1 rfl (lv_room (Nat.le_of_ble_eq_true rfl)) dX12_nextToken_166 ⟨Nat.le_of_ble_eq_true rfl, Nat.le_of_ble_eq_true rfl⟩) hD hS hA (fun x_5529 σ1 μ1 H locs hw_5530 hP hD hS => ?_)
                      obtain ⟨hu_5531, hp_5534, hfn_5535, hr_5533⟩ := hw_5530
                      obtain ⟨hu_5531a, hu_5531b⟩ := Prod.mk.inj hu_5531
                      rw [hu_5531a, hu_5531b] at hP hD
                      replace hF := hF.trans (bn_n hfn_5535)
                      have tt_5537 : ((x_5529).toInt = -1 ∧ (I_5439 388 this).toInt ≤ (I_5439 391 this).toInt) ∨ (0 ≤ (x_5529).toInt ∧ (I_5439 391 this).toInt < (I_5439 388 this).toInt) := hp_5534.elim Or.inl (fun q => Or.inr q.2)
                      have tt_5538 := (GM.rI hG 388 (a := this) (lo := 0) (hi := 300) rfl).2
                      have tt_5539 : (I_5439 391 this).toInt = (I_4468 391 this).toInt → (x_5529).toInt = (x_4475).toInt := fun q => by have e := Int32.toInt_inj.mp q; rcases hp_4480 with ⟨a, b⟩ | ⟨a, b, c⟩ <;> rcases hp_5534 with ⟨a2, b2⟩ | ⟨a2, b2, c2⟩ <;> first | omega | (rw [a, a2, e])
                      refine pk_i (va_runS (As := [.int x_5529]) (rest := []) ⟨hx, hb, hml, hown, hts⟩ (s_X12_isLetter_x l D t σ I_5439 J_5440 ri rj rq H.size tg hSH hG.1 x_5529) (va_cwS 1 hts (tw_S tw_846 tw_847 tw_5 tw_848) rfl rfl rfl cd_yX12_isLetter_1 ⟨Nat.le_of_ble_eq_true rfl, Nat.le_of_ble_eq_true rfl⟩) ⟨pq_blind, pq_pre hK hN hP hD⟩ rfl rfl hl.1 rfl (lv_room (Nat.le_of_ble_eq_true rfl)) dX12_nextToken_169 ⟨Nat.le_of_ble_eq_true rfl, Nat.le_of_ble_eq_true rfl⟩) hD hS hA (fun x_5540 σ1 μ1 H locs hw_5541 hP hD hS => ?_)
                      obtain ⟨hu_5542, hfn_5545, hr_5544⟩ := hw_5541
                      obtain ⟨hu_5542a, hu_5542b⟩ := Prod.mk.inj hu_5542
                      rw [hu_5542a, hu_5542b] at hP hD
                      replace hF := hF.trans (ap_n hfn_5545.symm)
                      have h_5547 : rg x_5540 0 1 := by rcases hr_5544 with ⟨q, -⟩ | ⟨q, -⟩ <;> rw [q] <;> exact ⟨by decide, by decide⟩
                      have uh_5547 := h_5547.1
                      have vh_5547 := h_5547.2
                      refine lv_if_eq (tgt := 223) hx hb dX12_nextToken_172 (by decide) (fun c_5548 => ?_) (fun c_5548 => ?_)
                      · replace hF := hF.trans (if_pos c_5548)
                        have f_5556 := (hr_5544.resolve_left (fun q => absurd (q.1.symm.trans c_5548) (by decide))).2
                        have tc_5557 : (x_5540).toInt = 0 := congrArg Int32.toInt c_5548
                        have h_5558 : rg x_5540 0 0 := rg_and h_5547 (rg_of_eq c_5548 (rg_k (0 : Int32) 0 rfl)) (by decide)
                        have uh_5558 := h_5558.1
                        have vh_5558 := h_5558.2
                        refine lv_aload_n hx hb dX12_nextToken_223 rfl (lv_at hl 0 rfl) ?_
                        refine pg_f (v := .int (I_5439 391 this)) (C := RX12) (T := TX12) (N := 31) hx hb hts (tw_i inlX12) hown hK hP hL_this hK_this (by decide) rfl 7 (by decide) (hts _ (tw_c tw_830)) rfl dX12_nextToken_224 ?_
                        refine lv_aload_n hx hb dX12_nextToken_227 rfl (lv_at hl 0 rfl) ?_
                        refine pg_f (v := .int (I_5439 392 this)) (C := RX12) (T := TX12) (N := 31) hx hb hts (tw_i inlX12) hown hK hP hL_this hK_this (by decide) rfl 8 (by decide) (hts _ (tw_c tw_820)) rfl dX12_nextToken_228 ?_
                        have h_5559 : rg (I_5439 392 this) 0 300 := GM.rI hG 392 rfl
                        have uh_5559 := h_5559.1
                        have vh_5559 := h_5559.2
                        replace hF := hF.trans (ap_n (vI_e (f := 392) hO_this (by decide)))
                        refine lv_isub hx hb dX12_nextToken_231 ?_
                        refine lv_topi (fun x_5561 ex_5561 => ?_)
                        replace hF := hF.trans (ap_n ex_5561)
                        have h_5562 : rg x_5561 (-300) 300 := rg_of_eq ex_5561 (rg_sub h_5527 h_5559 (by decide))
                        have uh_5562 := h_5562.1
                        have vh_5562 := h_5562.2
                        have tx_5561 : (x_5561).toInt = (I_5439 391 this).toInt - (I_5439 392 this).toInt := by rw [ex_5561]; exact i_sub_rg (a2 := (I_5439 391 this).toInt) (b2 := (I_5439 392 this).toInt) rfl rfl h_5527 h_5559 (by decide)
                        refine lv_bipush (v := 7) hx hb dX12_nextToken_232 (by decide) ?_
                        refine lv_icmp_le (tgt := 396) hx hb dX12_nextToken_234 (by decide) (fun c_5563 => ?_) (fun c_5563 => ?_)
                        · replace hF := hF.trans (if_pos c_5563)
                          have tc_5568 : (x_5561).toInt ≤ 7 := Int32.le_iff_toInt_le.mp c_5563
                          have h_5569 : rg x_5561 (-300) 7 := rg_le1 c_5563 h_5562 (rg_k (7 : Int32) 7 rfl) (by decide)
                          have uh_5569 := h_5569.1
                          have vh_5569 := h_5569.2
                          subst hQ
                          exact W.vret hx hb hr (fun t1 ht hW => ⟨⟨(σ, I_5439, J_5440, ri, rj, rq), rfl, ⟨I_5439, J_5440, rfl, hG, (by omega), (by omega), (by omega), (hF0.symm.trans hF), hFr⟩, by rw [ht]; exact hP, va_K.moved hW.alike hK, hD⟩, hS.F ht⟩) hS.2.2 dX12_nextToken_396
                        · replace hF := hF.trans (if_neg c_5563)
                          have tc_5570 : 7 < (x_5561).toInt := Int32.lt_iff_toInt_lt.mp (nle c_5563)
                          have h_5571 : rg x_5561 8 300 := rg_lt2 (nle c_5563) (rg_k (7 : Int32) 7 rfl) h_5562 (by decide)
                          have uh_5571 := h_5571.1
                          have vh_5571 := h_5571.2
                          refine lv_aload_n hx hb dX12_nextToken_237 rfl (lv_at hl 0 rfl) ?_
                          refine lv_lconst (v := 0) hx hb dX12_nextToken_238 (by decide) ?_
                          refine pp_l (v := 0) (C := RX12) (T := TX12) (N := 31) hx hb hts (tw_i inlX12) tyX12 tyX12_ok nmX12 hown hK hP hD hS hL_this hK_this (by decide) rfl 11 395 (by decide) (hts _ (tw_c tw_838)) rfl (tyX12_ok 11 (by decide)) (Nat.le_of_ble_eq_true rfl) (ps_395 _ _ _ _ _) dX12_nextToken_239 (fun J_5572 H locs eJ_5572 hP hD hS => ?_)
                          replace hFr := fr_J (f := 395) hFr hO_this (by decide) eJ_5572
                          replace hF := hF.trans (ap_n (vJ_st (f := 395) hO_this (by decide) eJ_5572))
                          refine lv_goto (tgt := 396) hx hb dX12_nextToken_242 (by decide) ?_
                          subst hQ
                          exact W.vret hx hb hr (fun t1 ht hW => ⟨⟨(σ, I_5439, J_5572, ri, rj, rq), rfl, ⟨I_5439, J_5572, rfl, hG, (by omega), (by omega), (by omega), (hF0.symm.trans hF), hFr⟩, by rw [ht]; exact hP, va_K.moved hW.alike hK, hD⟩, hS.F ht⟩) hS.2.2 dX12_nextToken_396
                      · replace hF := hF.trans (if_neg c_5548)
                        obtain ⟨f_5573, f_5574⟩ := (hr_5544.resolve_right (fun q => c_5548 q.1)).2
                        have uf_5573 := f_5573.1
                        have vf_5573 := f_5573.2
                        have tc_5575 : (x_5540).toInt ≠ 0 := fun q => c_5548 (Int32.toInt_inj.mp q)
                        have h_5576 : rg x_5540 1 1 := rg_ne c_5548 h_5547 0 rfl (by decide)
                        have uh_5576 := h_5576.1
                        have vh_5576 := h_5576.2
                        refine lv_aload_n hx hb dX12_nextToken_175 rfl (lv_at hl 0 rfl) ?_
                        refine pg_f (v := .int (I_5439 391 this)) (C := RX12) (T := TX12) (N := 31) hx hb hts (tw_i inlX12) hown hK hP hL_this hK_this (by decide) rfl 7 (by decide) (hts _ (tw_c tw_830)) rfl dX12_nextToken_176 ?_
                        refine lv_aload_n hx hb dX12_nextToken_179 rfl (lv_at hl 0 rfl) ?_
                        refine pg_f (v := .int (I_5439 392 this)) (C := RX12) (T := TX12) (N := 31) hx hb hts (tw_i inlX12) hown hK hP hL_this hK_this (by decide) rfl 8 (by decide) (hts _ (tw_c tw_820)) rfl dX12_nextToken_180 ?_
                        have h_5577 : rg (I_5439 392 this) 0 300 := GM.rI hG 392 rfl
                        have uh_5577 := h_5577.1
                        have vh_5577 := h_5577.2
                        replace hF := hF.trans (ap_n (vI_e (f := 392) hO_this (by decide)))
                        refine lv_isub hx hb dX12_nextToken_183 ?_
                        refine lv_topi (fun x_5579 ex_5579 => ?_)
                        replace hF := hF.trans (ap_n ex_5579)
                        have h_5580 : rg x_5579 (-300) 300 := rg_of_eq ex_5579 (rg_sub h_5527 h_5577 (by decide))
                        have uh_5580 := h_5580.1
                        have vh_5580 := h_5580.2
                        have tx_5579 : (x_5579).toInt = (I_5439 391 this).toInt - (I_5439 392 this).toInt := by rw [ex_5579]; exact i_sub_rg (a2 := (I_5439 391 this).toInt) (b2 := (I_5439 392 this).toInt) rfl rfl h_5527 h_5577 (by decide)
                        refine lv_bipush (v := 7) hx hb dX12_nextToken_184 (by decide) ?_
                        refine lv_icmp_ge (tgt := 210) hx hb dX12_nextToken_186 (by decide) (fun c_5581 => ?_) (fun c_5581 => ?_)
                        · replace hF := hF.trans (if_pos c_5581)
                          have tc_5586 : 7 ≤ (x_5579).toInt := Int32.le_iff_toInt_le.mp c_5581
                          have h_5587 : rg x_5579 7 300 := rg_le2 c_5581 (rg_k (7 : Int32) 7 rfl) h_5580 (by decide)
                          have uh_5587 := h_5587.1
                          have vh_5587 := h_5587.2
                          refine lv_aload_n hx hb dX12_nextToken_210 rfl (lv_at hl 0 rfl) ?_
                          refine lv_dup hx hb dX12_nextToken_211 rfl ?_
                          refine pg_f (v := .int (I_5439 391 this)) (C := RX12) (T := TX12) (N := 31) hx hb hts (tw_i inlX12) hown hK hP hL_this hK_this (by decide) rfl 7 (by decide) (hts _ (tw_c tw_830)) rfl dX12_nextToken_212 ?_
                          refine lv_iconst (v := 1) hx hb dX12_nextToken_215 (by decide) ?_
                          have h_5588 : rg (I_5439 391 this) 0 299 := ⟨by omega, by omega⟩
                          have uh_5588 := h_5588.1
                          have vh_5588 := h_5588.2
                          refine lv_iadd hx hb dX12_nextToken_216 ?_
                          refine lv_topi (fun x_5589 ex_5589 => ?_)
                          replace hF := hF.trans (ap_n ex_5589)
                          have h_5590 : rg x_5589 1 300 := rg_of_eq ex_5589 (rg_add h_5588 (rg_k (1 : Int32) 1 rfl) (by decide))
                          have uh_5590 := h_5590.1
                          have vh_5590 := h_5590.2
                          have tx_5589 : (x_5589).toInt = (I_5439 391 this).toInt + 1 := by rw [ex_5589]; exact i_add_rg (a2 := (I_5439 391 this).toInt) (b2 := 1) rfl rfl h_5588 (rg_k (1 : Int32) 1 rfl) (by decide)
                          refine pp_i (v := x_5589) (ty := .int) (C := RX12) (T := TX12) (N := 31) hx hb hts (tw_i inlX12) tyX12 tyX12_ok nmX12 hown hK hP hD hS hL_this hK_this (by decide) rfl 7 391 (by decide) (hts _ (tw_c tw_830)) rfl (tyX12_ok 7 (by decide)) rfl rfl (Nat.le_of_ble_eq_true rfl) (ps_391 _ _ _ _ _) dX12_nextToken_217 (fun I_5591 H locs eI_5591 hP hD hS => ?_)
                          replace hFr := fr_I (f := 391) hFr hO_this (by decide) eI_5591
                          replace hF := hF.trans (ap_n (vI_st (f := 391) hO_this (by decide) eI_5591))
                          have hG := GM.wI hG 391 rfl eI_5591 (rg_w h_5590 (by decide)) (by decide)
                          have tt_5592 : (I_5591 391 this).toInt = (x_5589).toInt := by rw [eI_5591, pq_us]
                          have tt_5593 : (I_5591 388 this).toInt = (I_5439 388 this).toInt := by rw [eI_5591, pq_uf _ _ _ (by decide)]
                          have tt_5594 : (I_5591 403 this).toInt = (I_5439 403 this).toInt := by rw [eI_5591, pq_uf _ _ _ (by decide)]
                          have tt_5595 : (I_5591 393 this).toInt = (I_5439 393 this).toInt := by rw [eI_5591, pq_uf _ _ _ (by decide)]
                          refine lv_goto (tgt := 161) hx hb dX12_nextToken_220 (by decide) ?_
                          exact ih_5524 I_5591 J_5440 _ _ _ (by omega) (ms_fu_iadd hm_5521 (by rw [eI_5591]; exact pq_us _ _ _ _) ex_5589 rfl (kk := 1) rfl (by decide) h_5588 (by decide) (by decide)) hF hFr hG hP hD hS (lv_sub hl [0] rfl)
                        · replace hF := hF.trans (if_neg c_5581)
                          have tc_5596 : (x_5579).toInt < 7 := Int32.lt_iff_toInt_lt.mp (nle c_5581)
                          have h_5597 : rg x_5579 (-300) 6 := rg_lt1 (nle c_5581) h_5580 (rg_k (7 : Int32) 7 rfl) (by decide)
                          have uh_5597 := h_5597.1
                          have vh_5597 := h_5597.2
                          refine lv_aload_n hx hb dX12_nextToken_189 rfl (lv_at hl 0 rfl) ?_
                          refine lv_aload_n hx hb dX12_nextToken_190 rfl (lv_at hl 0 rfl) ?_
                          refine pg_f (v := .long (J_5440 395 this)) (C := RX12) (T := TX12) (N := 31) hx hb hts (tw_i inlX12) hown hK hP hL_this hK_this (by decide) rfl 11 (by decide) (hts _ (tw_c tw_838)) rfl dX12_nextToken_191 ?_
                          replace hF := hF.trans (ap_n (vJ_e (f := 395) hO_this (by decide)))
                          refine lv_bipush (v := 8) hx hb dX12_nextToken_194 (by decide) ?_
                          refine lv_lshl hx hb dX12_nextToken_196 rfl ?_
                          refine lv_topl (fun x_5599 ex_5599 => ?_)
                          replace hF := hF.trans (ap_n ex_5599)
                          refine lv_aload_n hx hb dX12_nextToken_197 rfl (lv_at hl 0 rfl) ?_
                          refine lv_aload_n hx hb dX12_nextToken_198 rfl (lv_at hl 0 rfl) ?_
                          refine pg_f (v := .int (I_5439 391 this)) (C := RX12) (T := TX12) (N := 31) hx hb hts (tw_i inlX12) hown hK hP hL_this hK_this (by decide) rfl 7 (by decide) (hts _ (tw_c tw_830)) rfl dX12_nextToken_199 ?_
                          refine pk_i (va_runV (As := [.int (I_5439 391 this)]) (rest := [.long x_5599, .ref this]) ⟨hx, hb, hml, hown, hts⟩ (s_X12_see_x l D t σ I_5439 J_5440 ri rj rq H.size tg hSH hG.1 this (I_5439 391 this) hL_this hK_this (rg_w h_5527 (by decide)) this_tape hR_this_tape hL_this_tape hK_this_tape hN_this_tape hT_this_tape) (cwV 1 hts (tw_V tw_839 tw_840 tw_841 tw_5 tw_842) rfl rfl rfl cv_yX12_see_1 ⟨Nat.le_of_ble_eq_true rfl, Nat.le_of_ble_eq_true rfl⟩) ⟨pq_blind, pq_recv hK hP hL_this hK_this (by decide) rfl, pq_pre hK hN hP hD⟩ rfl rfl hl.1 rfl (lv_room (Nat.le_of_ble_eq_true rfl)) dX12_nextToken_202 ⟨Nat.le_of_ble_eq_true rfl, Nat.le_of_ble_eq_true rfl⟩) hD hS hA (fun x_5600 σ1 μ1 H locs hw_5601 hP hD hS => ?_)
                          obtain ⟨hu_5602, hp_5605, hfn_5606, hr_5604⟩ := hw_5601
                          obtain ⟨hu_5602a, hu_5602b⟩ := Prod.mk.inj hu_5602
                          rw [hu_5602a, hu_5602b] at hP hD
                          replace hF := hF.trans (bn_n hfn_5606)
                          have tt_5608 : ((x_5600).toInt = -1 ∧ (I_5439 388 this).toInt ≤ (I_5439 391 this).toInt) ∨ (0 ≤ (x_5600).toInt ∧ (I_5439 391 this).toInt < (I_5439 388 this).toInt) := hp_5605.elim Or.inl (fun q => Or.inr q.2)
                          have tt_5609 := (GM.rI hG 388 (a := this) (lo := 0) (hi := 300) rfl).2
                          refine lv_i2l hx hb dX12_nextToken_205 rfl ?_
                          refine lv_topl (fun x_5610 ex_5610 => ?_)
                          replace hF := hF.trans (ap_n ex_5610)
                          refine lv_lor hx hb dX12_nextToken_206 ?_
                          refine lv_topl (fun x_5611 ex_5611 => ?_)
                          replace hF := hF.trans (ap_n ex_5611)
                          refine pp_l (v := x_5611) (C := RX12) (T := TX12) (N := 31) hx hb hts (tw_i inlX12) tyX12 tyX12_ok nmX12 hown hK hP hD hS hL_this hK_this (by decide) rfl 11 395 (by decide) (hts _ (tw_c tw_838)) rfl (tyX12_ok 11 (by decide)) (Nat.le_of_ble_eq_true rfl) (ps_395 _ _ _ _ _) dX12_nextToken_207 (fun J_5612 H locs eJ_5612 hP hD hS => ?_)
                          replace hFr := fr_J (f := 395) hFr hO_this (by decide) eJ_5612
                          replace hF := hF.trans (ap_n (vJ_st (f := 395) hO_this (by decide) eJ_5612))
                          refine lv_aload_n hx hb dX12_nextToken_210 rfl (lv_at hl 0 rfl) ?_
                          refine lv_dup hx hb dX12_nextToken_211 rfl ?_
                          refine pg_f (v := .int (I_5439 391 this)) (C := RX12) (T := TX12) (N := 31) hx hb hts (tw_i inlX12) hown hK hP hL_this hK_this (by decide) rfl 7 (by decide) (hts _ (tw_c tw_830)) rfl dX12_nextToken_212 ?_
                          refine lv_iconst (v := 1) hx hb dX12_nextToken_215 (by decide) ?_
                          have h_5613 : rg (I_5439 391 this) 0 299 := ⟨by omega, by omega⟩
                          have uh_5613 := h_5613.1
                          have vh_5613 := h_5613.2
                          refine lv_iadd hx hb dX12_nextToken_216 ?_
                          refine lv_topi (fun x_5614 ex_5614 => ?_)
                          replace hF := hF.trans (ap_n ex_5614)
                          have h_5615 : rg x_5614 1 300 := rg_of_eq ex_5614 (rg_add h_5613 (rg_k (1 : Int32) 1 rfl) (by decide))
                          have uh_5615 := h_5615.1
                          have vh_5615 := h_5615.2
                          have tx_5614 : (x_5614).toInt = (I_5439 391 this).toInt + 1 := by rw [ex_5614]; exact i_add_rg (a2 := (I_5439 391 this).toInt) (b2 := 1) rfl rfl h_5613 (rg_k (1 : Int32) 1 rfl) (by decide)
                          refine pp_i (v := x_5614) (ty := .int) (C := RX12) (T := TX12) (N := 31) hx hb hts (tw_i inlX12) tyX12 tyX12_ok nmX12 hown hK hP hD hS hL_this hK_this (by decide) rfl 7 391 (by decide) (hts _ (tw_c tw_830)) rfl (tyX12_ok 7 (by decide)) rfl rfl (Nat.le_of_ble_eq_true rfl) (ps_391 _ _ _ _ _) dX12_nextToken_217 (fun I_5616 H locs eI_5616 hP hD hS => ?_)
                          replace hFr := fr_I (f := 391) hFr hO_this (by decide) eI_5616
                          replace hF := hF.trans (ap_n (vI_st (f := 391) hO_this (by decide) eI_5616))
                          have hG := GM.wI hG 391 rfl eI_5616 (rg_w h_5615 (by decide)) (by decide)
                          have tt_5617 : (I_5616 391 this).toInt = (x_5614).toInt := by rw [eI_5616, pq_us]
                          have tt_5618 : (I_5616 388 this).toInt = (I_5439 388 this).toInt := by rw [eI_5616, pq_uf _ _ _ (by decide)]
                          have tt_5619 : (I_5616 403 this).toInt = (I_5439 403 this).toInt := by rw [eI_5616, pq_uf _ _ _ (by decide)]
                          have tt_5620 : (I_5616 393 this).toInt = (I_5439 393 this).toInt := by rw [eI_5616, pq_uf _ _ _ (by decide)]
                          refine lv_goto (tgt := 161) hx hb dX12_nextToken_220 (by decide) ?_
                          exact ih_5524 I_5616 J_5612 _ _ _ (by omega) (ms_fu_iadd hm_5521 (by rw [eI_5616]; exact pq_us _ _ _ _) ex_5614 rfl (kk := 1) rfl (by decide) h_5613 (by decide) (by decide)) hF hFr hG hP hD hS (lv_sub hl [0] rfl)
                  replace hF := hF.trans (ap_n (vI_e (f := 391) hO_this (by decide)))
                  exact L_5523 _ I_5189 J_5194 _ _ _ (by omega) (Nat.lt_succ_self _) hF hFr hG hP hD hS (lv_sub hl [1] rfl)
              · replace hF := hF.trans (if_neg c_4500)
                obtain ⟨f_5622, f_5623⟩ := (hr_4496.resolve_right (fun q => c_4500 q.1)).2
                have uf_5622 := f_5622.1
                have vf_5622 := f_5622.2
                have tc_5624 : (x_4492).toInt ≠ 0 := fun q => c_4500 (Int32.toInt_inj.mp q)
                have h_5625 : rg x_4492 1 1 := rg_ne c_4500 h_4499 0 rfl (by decide)
                have uh_5625 := h_5625.1
                have vh_5625 := h_5625.2
                refine lv_aload_n hx hb dX12_nextToken_75 rfl (lv_at hl 1 rfl) ?_
                refine lv_iconst (v := 1) hx hb dX12_nextToken_76 (by decide) ?_
                refine pp_i (v := 1) (ty := .int) (C := RX12) (T := TX12) (N := 31) hx hb hts (tw_i inlX12) tyX12 tyX12_ok nmX12 hown hK hP hD hS hL_this hK_this (by decide) rfl 9 393 (by decide) (hts _ (tw_c tw_831)) rfl (tyX12_ok 9 (by decide)) rfl rfl (Nat.le_of_ble_eq_true rfl) (ps_393 _ _ _ _ _) dX12_nextToken_77 (fun I_5626 H locs eI_5626 hP hD hS => ?_)
                replace hFr := fr_I (f := 393) hFr hO_this (by decide) eI_5626
                replace hF := hF.trans (ap_n (vI_st (f := 393) hO_this (by decide) eI_5626))
                have hG := GM.wI hG 393 rfl eI_5626 (rg_w (rg_k (1 : Int32) 1 rfl) (by decide)) (by decide)
                have tt_5627 : (I_5626 391 this).toInt = (I_4468 391 this).toInt := by rw [eI_5626, pq_uf _ _ _ (by decide)]
                have tt_5628 : (I_5626 388 this).toInt = (I_4468 388 this).toInt := by rw [eI_5626, pq_uf _ _ _ (by decide)]
                have tt_5629 : (I_5626 403 this).toInt = (I_4468 403 this).toInt := by rw [eI_5626, pq_uf _ _ _ (by decide)]
                have tt_5630 : (I_5626 393 this).toInt = 1 := by rw [eI_5626, pq_us]; rfl
                refine lv_aload_n hx hb dX12_nextToken_80 rfl (lv_at hl 1 rfl) ?_
                refine lv_iconst (v := 0) hx hb dX12_nextToken_81 (by decide) ?_
                refine pp_i (v := 0) (ty := .int) (C := RX12) (T := TX12) (N := 31) hx hb hts (tw_i inlX12) tyX12 tyX12_ok nmX12 hown hK hP hD hS hL_this hK_this (by decide) rfl 10 394 (by decide) (hts _ (tw_c tw_836)) rfl (tyX12_ok 10 (by decide)) rfl rfl (Nat.le_of_ble_eq_true rfl) (ps_394 _ _ _ _ _) dX12_nextToken_82 (fun I_5631 H locs eI_5631 hP hD hS => ?_)
                replace hFr := fr_I (f := 394) hFr hO_this (by decide) eI_5631
                replace hF := hF.trans (ap_n (vI_st (f := 394) hO_this (by decide) eI_5631))
                have hG := GM.wI hG 394 rfl eI_5631 (rg_w (rg_k (0 : Int32) 0 rfl) (by decide)) (by decide)
                have tt_5632 : (I_5631 391 this).toInt = (I_5626 391 this).toInt := by rw [eI_5631, pq_uf _ _ _ (by decide)]
                have tt_5633 : (I_5631 388 this).toInt = (I_5626 388 this).toInt := by rw [eI_5631, pq_uf _ _ _ (by decide)]
                have tt_5634 : (I_5631 403 this).toInt = (I_5626 403 this).toInt := by rw [eI_5631, pq_uf _ _ _ (by decide)]
                have tt_5635 : (I_5631 393 this).toInt = (I_5626 393 this).toInt := by rw [eI_5631, pq_uf _ _ _ (by decide)]
                have L_5923 : ∀ (n_5922 : Nat) (I_5848 : Nat → Nat → Int32) (H : Heap) (locs : List Loc) (ls : Array Slot), ((I_3315 391 this).toInt ≤ (I_5848 391 this).toInt ∧ (I_5848 388 this).toInt = (I 388 this).toInt ∧ (I_5848 403 this).toInt = (I 403 this).toInt) → (300 - (I_5848 391 this).toInt).toNat < n_5922 → F = g_X12_nextToken_x_L85 (vJ 12 σ this J) (vR 12 σ this ri) (vL 12 σ this rj) (vQ 12 σ this rq) n_5922 (vI 12 σ this I_5848) → FR 12 tg σ this (I, J, ri, rj, rq) (I_5848, J, ri, rj, rq) → GM [391, 392, 393] tg σ I ri I_5848 ri rq → va_P D vwCl (pq_P t σ (I_5848, J, ri, rj, rq)) H → va_D A (pq_P t σ (I_5848, J, ri, rj, rq)) → va_S A s.heap H locs → lv_has ls 3 [(0, .ref this)] → W p l e ({ frames := 2, cells := 0, slots := 0, locals := 42 } : Room) s m (List.toArray ([.ref this] : List Value)) below meth c H locs 0 0 Q (F0 m 85 ls []) := by
                  intro n_5922
                  induction n_5922 with
                  | zero => intro I_5848 H locs ls hrel_5926 hm_5921 hF hFr hG hP hD hS hl; exact absurd hm_5921 (Nat.not_lt_zero _)
                  | succ n_5922 ih_5924 =>
                    intro I_5848 H locs ls hrel_5926 hm_5921 hF hFr hG hP hD hS hl
                    replace hF := hF.trans g_X12_nextToken_x_L85_e
                    refine lv_aload_n hx hb dX12_nextToken_85 rfl (lv_at hl 0 rfl) ?_
                    refine lv_aload_n hx hb dX12_nextToken_86 rfl (lv_at hl 0 rfl) ?_
                    refine pg_f (v := .int (I_5848 391 this)) (C := RX12) (T := TX12) (N := 31) hx hb hts (tw_i inlX12) hown hK hP hL_this hK_this (by decide) rfl 7 (by decide) (hts _ (tw_c tw_830)) rfl dX12_nextToken_87 ?_
                    have h_5927 : rg (I_5848 391 this) 0 300 := GM.rI hG 391 rfl
                    have uh_5927 := h_5927.1
                    have vh_5927 := h_5927.2
                    replace hF := hF.trans (ap_n (vI_e (f := 391) hO_this (by decide)))
                    refine pk_i (va_runV (As := [.int (I_5848 391 this)]) (rest := []) ⟨hx, hb, hml, hown, hts⟩ (s_X12_see_x l D t σ I_5848 J ri rj rq H.size tg hSH hG.1 this (I_5848 391 this) hL_this hK_this (rg_w h_5927 (by decide)) this_tape hR_this_tape hL_this_tape hK_this_tape hN_this_tape hT_this_tape) (cwV 1 hts (tw_V tw_839 tw_840 tw_841 tw_5 tw_842) rfl rfl rfl cv_yX12_see_1 ⟨Nat.le_of_ble_eq_true rfl, Nat.le_of_ble_eq_true rfl⟩) ⟨pq_blind, pq_recv hK hP hL_this hK_this (by decide) rfl, pq_pre hK hN hP hD⟩ rfl rfl hl.1 rfl (lv_room (Nat.le_of_ble_eq_true rfl)) dX12_nextToken_90 ⟨Nat.le_of_ble_eq_true rfl, Nat.le_of_ble_eq_true rfl⟩) hD hS hA (fun x_5929 σ1 μ1 H locs hw_5930 hP hD hS => ?_)
                    obtain ⟨hu_5931, hp_5934, hfn_5935, hr_5933⟩ := hw_5930
                    obtain ⟨hu_5931a, hu_5931b⟩ := Prod.mk.inj hu_5931
                    rw [hu_5931a, hu_5931b] at hP hD
                    replace hF := hF.trans (bn_n hfn_5935)
                    have tt_5937 : ((x_5929).toInt = -1 ∧ (I_5848 388 this).toInt ≤ (I_5848 391 this).toInt) ∨ (0 ≤ (x_5929).toInt ∧ (I_5848 391 this).toInt < (I_5848 388 this).toInt) := hp_5934.elim Or.inl (fun q => Or.inr q.2)
                    have tt_5938 := (GM.rI hG 388 (a := this) (lo := 0) (hi := 300) rfl).2
                    have tt_5939 : (I_5848 391 this).toInt = (I_4468 391 this).toInt → (x_5929).toInt = (x_4475).toInt := fun q => by have e := Int32.toInt_inj.mp q; rcases hp_4480 with ⟨a, b⟩ | ⟨a, b, c⟩ <;> rcases hp_5934 with ⟨a2, b2⟩ | ⟨a2, b2, c2⟩ <;> first | omega | (rw [a, a2, e])
                    refine pk_i (va_runS (As := [.int x_5929]) (rest := []) ⟨hx, hb, hml, hown, hts⟩ (s_X12_isDigit_x l D t σ I_5848 J ri rj rq H.size tg hSH hG.1 x_5929) (va_cwS 1 hts (tw_S tw_843 tw_844 tw_5 tw_845) rfl rfl rfl cd_yX12_isDigit_1 ⟨Nat.le_of_ble_eq_true rfl, Nat.le_of_ble_eq_true rfl⟩) ⟨pq_blind, pq_pre hK hN hP hD⟩ rfl rfl hl.1 rfl (lv_room (Nat.le_of_ble_eq_true rfl)) dX12_nextToken_93 ⟨Nat.le_of_ble_eq_true rfl, Nat.le_of_ble_eq_true rfl⟩) hD hS hA (fun x_5940 σ1 μ1 H locs hw_5941 hP hD hS => ?_)
                    obtain ⟨hu_5942, hfn_5945, hr_5944⟩ := hw_5941
                    obtain ⟨hu_5942a, hu_5942b⟩ := Prod.mk.inj hu_5942
                    rw [hu_5942a, hu_5942b] at hP hD
                    replace hF := hF.trans (ap_n hfn_5945.symm)
                    have h_5947 : rg x_5940 0 1 := by rcases hr_5944 with ⟨q, -⟩ | ⟨q, -⟩ <;> rw [q] <;> exact ⟨by decide, by decide⟩
                    have uh_5947 := h_5947.1
                    have vh_5947 := h_5947.2
                    refine lv_if_eq (tgt := 396) hx hb dX12_nextToken_96 (by decide) (fun c_5948 => ?_) (fun c_5948 => ?_)
                    · replace hF := hF.trans (if_pos c_5948)
                      have f_5956 := (hr_5944.resolve_left (fun q => absurd (q.1.symm.trans c_5948) (by decide))).2
                      have tc_5957 : (x_5940).toInt = 0 := congrArg Int32.toInt c_5948
                      have h_5958 : rg x_5940 0 0 := rg_and h_5947 (rg_of_eq c_5948 (rg_k (0 : Int32) 0 rfl)) (by decide)
                      have uh_5958 := h_5958.1
                      have vh_5958 := h_5958.2
                      subst hQ
                      exact W.vret hx hb hr (fun t1 ht hW => ⟨⟨(σ, I_5848, J, ri, rj, rq), rfl, ⟨I_5848, J, rfl, hG, (by omega), (by omega), (by omega), (hF0.symm.trans hF), hFr⟩, by rw [ht]; exact hP, va_K.moved hW.alike hK, hD⟩, hS.F ht⟩) hS.2.2 dX12_nextToken_396
                    · replace hF := hF.trans (if_neg c_5948)
                      obtain ⟨f_5959, f_5960⟩ := (hr_5944.resolve_right (fun q => c_5948 q.1)).2
                      have uf_5959 := f_5959.1
                      have vf_5959 := f_5959.2
                      have tc_5961 : (x_5940).toInt ≠ 0 := fun q => c_5948 (Int32.toInt_inj.mp q)
                      have h_5962 : rg x_5940 1 1 := rg_ne c_5948 h_5947 0 rfl (by decide)
                      have uh_5962 := h_5962.1
                      have vh_5962 := h_5962.2
                      refine lv_aload_n hx hb dX12_nextToken_99 rfl (lv_at hl 0 rfl) ?_
                      refine pg_f (v := .int (I_5848 394 this)) (C := RX12) (T := TX12) (N := 31) hx hb hts (tw_i inlX12) hown hK hP hL_this hK_this (by decide) rfl 10 (by decide) (hts _ (tw_c tw_836)) rfl dX12_nextToken_100 ?_
                      replace hF := hF.trans (ap_n (vI_e (f := 394) hO_this (by decide)))
                      refine lv_ldc hx hb hown (hts _ (tw_c tw_837)) dX12_nextToken_103 ?_
                      refine lv_icmp_ge (tgt := 131) hx hb dX12_nextToken_105 (by decide) (fun c_5964 => ?_) (fun c_5964 => ?_)
                      · replace hF := hF.trans (if_pos c_5964)
                        have tc_5969 : 100000 ≤ (I_5848 394 this).toInt := Int32.le_iff_toInt_le.mp c_5964
                        have h_5970 : rg (I_5848 394 this) 100000 2147483647 := rg_le2 c_5964 (rg_k (100000 : Int32) 100000 rfl) (rg_full _) (by decide)
                        have uh_5970 := h_5970.1
                        have vh_5970 := h_5970.2
                        refine lv_aload_n hx hb dX12_nextToken_131 rfl (lv_at hl 0 rfl) ?_
                        refine lv_dup hx hb dX12_nextToken_132 rfl ?_
                        refine pg_f (v := .int (I_5848 391 this)) (C := RX12) (T := TX12) (N := 31) hx hb hts (tw_i inlX12) hown hK hP hL_this hK_this (by decide) rfl 7 (by decide) (hts _ (tw_c tw_830)) rfl dX12_nextToken_133 ?_
                        refine lv_iconst (v := 1) hx hb dX12_nextToken_136 (by decide) ?_
                        have h_5971 : rg (I_5848 391 this) 0 299 := ⟨by omega, by omega⟩
                        have uh_5971 := h_5971.1
                        have vh_5971 := h_5971.2
                        refine lv_iadd hx hb dX12_nextToken_137 ?_
                        refine lv_topi (fun x_5972 ex_5972 => ?_)
                        replace hF := hF.trans (ap_n ex_5972)
                        have h_5973 : rg x_5972 1 300 := rg_of_eq ex_5972 (rg_add h_5971 (rg_k (1 : Int32) 1 rfl) (by decide))
                        have uh_5973 := h_5973.1
                        have vh_5973 := h_5973.2
                        have tx_5972 : (x_5972).toInt = (I_5848 391 this).toInt + 1 := by rw [ex_5972]; exact i_add_rg (a2 := (I_5848 391 this).toInt) (b2 := 1) rfl rfl h_5971 (rg_k (1 : Int32) 1 rfl) (by decide)
                        refine pp_i (v := x_5972) (ty := .int) (C := RX12) (T := TX12) (N := 31) hx hb hts (tw_i inlX12) tyX12 tyX12_ok nmX12 hown hK hP hD hS hL_this hK_this (by decide) rfl 7 391 (by decide) (hts _ (tw_c tw_830)) rfl (tyX12_ok 7 (by decide)) rfl rfl (Nat.le_of_ble_eq_true rfl) (ps_391 _ _ _ _ _) dX12_nextToken_138 (fun I_5974 H locs eI_5974 hP hD hS => ?_)
                        replace hFr := fr_I (f := 391) hFr hO_this (by decide) eI_5974
                        replace hF := hF.trans (ap_n (vI_st (f := 391) hO_this (by decide) eI_5974))
                        have hG := GM.wI hG 391 rfl eI_5974 (rg_w h_5973 (by decide)) (by decide)
                        have tt_5975 : (I_5974 391 this).toInt = (x_5972).toInt := by rw [eI_5974, pq_us]
                        have tt_5976 : (I_5974 388 this).toInt = (I_5848 388 this).toInt := by rw [eI_5974, pq_uf _ _ _ (by decide)]
                        have tt_5977 : (I_5974 403 this).toInt = (I_5848 403 this).toInt := by rw [eI_5974, pq_uf _ _ _ (by decide)]
                        have tt_5978 : (I_5974 393 this).toInt = (I_5848 393 this).toInt := by rw [eI_5974, pq_uf _ _ _ (by decide)]
                        refine lv_goto (tgt := 85) hx hb dX12_nextToken_141 (by decide) ?_
                        exact ih_5924 I_5974 _ _ _ (by omega) (ms_fu_iadd hm_5921 (by rw [eI_5974]; exact pq_us _ _ _ _) ex_5972 rfl (kk := 1) rfl (by decide) h_5971 (by decide) (by decide)) hF hFr hG hP hD hS (lv_sub hl [0] rfl)
                      · replace hF := hF.trans (if_neg c_5964)
                        have tc_5979 : (I_5848 394 this).toInt < 100000 := Int32.lt_iff_toInt_lt.mp (nle c_5964)
                        have h_5980 : rg (I_5848 394 this) (-2147483648) 99999 := rg_lt1 (nle c_5964) (rg_full _) (rg_k (100000 : Int32) 100000 rfl) (by decide)
                        have uh_5980 := h_5980.1
                        have vh_5980 := h_5980.2
                        refine lv_aload_n hx hb dX12_nextToken_108 rfl (lv_at hl 0 rfl) ?_
                        refine lv_bipush (v := 10) hx hb dX12_nextToken_109 (by decide) ?_
                        refine lv_aload_n hx hb dX12_nextToken_111 rfl (lv_at hl 0 rfl) ?_
                        refine pg_f (v := .int (I_5848 394 this)) (C := RX12) (T := TX12) (N := 31) hx hb hts (tw_i inlX12) hown hK hP hL_this hK_this (by decide) rfl 10 (by decide) (hts _ (tw_c tw_836)) rfl dX12_nextToken_112 ?_
                        refine lv_imul hx hb dX12_nextToken_115 ?_
                        refine lv_topi (fun x_5981 ex_5981 => ?_)
                        replace hF := hF.trans (ap_n ex_5981)
                        refine lv_aload_n hx hb dX12_nextToken_116 rfl (lv_at hl 0 rfl) ?_
                        refine lv_aload_n hx hb dX12_nextToken_117 rfl (lv_at hl 0 rfl) ?_
                        refine pg_f (v := .int (I_5848 391 this)) (C := RX12) (T := TX12) (N := 31) hx hb hts (tw_i inlX12) hown hK hP hL_this hK_this (by decide) rfl 7 (by decide) (hts _ (tw_c tw_830)) rfl dX12_nextToken_118 ?_
                        refine pk_i (va_runV (As := [.int (I_5848 391 this)]) (rest := [.int x_5981, .ref this]) ⟨hx, hb, hml, hown, hts⟩ (s_X12_see_x l D t σ I_5848 J ri rj rq H.size tg hSH hG.1 this (I_5848 391 this) hL_this hK_this (rg_w h_5927 (by decide)) this_tape hR_this_tape hL_this_tape hK_this_tape hN_this_tape hT_this_tape) (cwV 1 hts (tw_V tw_839 tw_840 tw_841 tw_5 tw_842) rfl rfl rfl cv_yX12_see_1 ⟨Nat.le_of_ble_eq_true rfl, Nat.le_of_ble_eq_true rfl⟩) ⟨pq_blind, pq_recv hK hP hL_this hK_this (by decide) rfl, pq_pre hK hN hP hD⟩ rfl rfl hl.1 rfl (lv_room (Nat.le_of_ble_eq_true rfl)) dX12_nextToken_121 ⟨Nat.le_of_ble_eq_true rfl, Nat.le_of_ble_eq_true rfl⟩) hD hS hA (fun x_5982 σ1 μ1 H locs hw_5983 hP hD hS => ?_)
                        obtain ⟨hu_5984, hp_5987, hfn_5988, hr_5986⟩ := hw_5983
                        obtain ⟨hu_5984a, hu_5984b⟩ := Prod.mk.inj hu_5984
                        rw [hu_5984a, hu_5984b] at hP hD
                        replace hF := hF.trans (bn_n hfn_5988)
                        have tt_5990 : ((x_5982).toInt = -1 ∧ (I_5848 388 this).toInt ≤ (I_5848 391 this).toInt) ∨ (0 ≤ (x_5982).toInt ∧ (I_5848 391 this).toInt < (I_5848 388 this).toInt) := hp_5987.elim Or.inl (fun q => Or.inr q.2)
                        have tt_5991 := (GM.rI hG 388 (a := this) (lo := 0) (hi := 300) rfl).2
                        refine lv_iadd hx hb dX12_nextToken_124 ?_
                        refine lv_topi (fun x_5992 ex_5992 => ?_)
                        replace hF := hF.trans (ap_n ex_5992)
                        refine lv_bipush (v := 48) hx hb dX12_nextToken_125 (by decide) ?_
                        refine lv_isub hx hb dX12_nextToken_127 ?_
                        refine lv_topi (fun x_5993 ex_5993 => ?_)
                        replace hF := hF.trans (ap_n ex_5993)
                        refine pp_i (v := x_5993) (ty := .int) (C := RX12) (T := TX12) (N := 31) hx hb hts (tw_i inlX12) tyX12 tyX12_ok nmX12 hown hK hP hD hS hL_this hK_this (by decide) rfl 10 394 (by decide) (hts _ (tw_c tw_836)) rfl (tyX12_ok 10 (by decide)) rfl rfl (Nat.le_of_ble_eq_true rfl) (ps_394 _ _ _ _ _) dX12_nextToken_128 (fun I_5994 H locs eI_5994 hP hD hS => ?_)
                        replace hFr := fr_I (f := 394) hFr hO_this (by decide) eI_5994
                        replace hF := hF.trans (ap_n (vI_st (f := 394) hO_this (by decide) eI_5994))
                        have hG := GM.wI hG 394 rfl eI_5994 (rg_w (rg_full _) (by decide)) (by decide)
                        have tt_5995 : (I_5994 391 this).toInt = (I_5848 391 this).toInt := by rw [eI_5994, pq_uf _ _ _ (by decide)]
                        have tt_5996 : (I_5994 388 this).toInt = (I_5848 388 this).toInt := by rw [eI_5994, pq_uf _ _ _ (by decide)]
                        have tt_5997 : (I_5994 403 this).toInt = (I_5848 403 this).toInt := by rw [eI_5994, pq_uf _ _ _ (by decide)]
                        have tt_5998 : (I_5994 393 this).toInt = (I_5848 393 this).toInt := by rw [eI_5994, pq_uf _ _ _ (by decide)]
                        refine lv_aload_n hx hb dX12_nextToken_131 rfl (lv_at hl 0 rfl) ?_
                        refine lv_dup hx hb dX12_nextToken_132 rfl ?_
                        refine pg_f (v := .int (I_5994 391 this)) (C := RX12) (T := TX12) (N := 31) hx hb hts (tw_i inlX12) hown hK hP hL_this hK_this (by decide) rfl 7 (by decide) (hts _ (tw_c tw_830)) rfl dX12_nextToken_133 ?_
                        have h_5999 : rg (I_5994 391 this) 0 300 := GM.rI hG 391 rfl
                        have uh_5999 := h_5999.1
                        have vh_5999 := h_5999.2
                        replace hF := hF.trans (ap_n (vI_e (f := 391) hO_this (by decide)))
                        refine lv_iconst (v := 1) hx hb dX12_nextToken_136 (by decide) ?_
                        have h_6001 : rg (I_5994 391 this) 0 299 := ⟨by omega, by omega⟩
                        have uh_6001 := h_6001.1
                        have vh_6001 := h_6001.2
                        refine lv_iadd hx hb dX12_nextToken_137 ?_
                        refine lv_topi (fun x_6002 ex_6002 => ?_)
                        replace hF := hF.trans (ap_n ex_6002)
                        have h_6003 : rg x_6002 1 300 := rg_of_eq ex_6002 (rg_add h_6001 (rg_k (1 : Int32) 1 rfl) (by decide))
                        have uh_6003 := h_6003.1
                        have vh_6003 := h_6003.2
                        have tx_6002 : (x_6002).toInt = (I_5994 391 this).toInt + 1 := by rw [ex_6002]; exact i_add_rg (a2 := (I_5994 391 this).toInt) (b2 := 1) rfl rfl h_6001 (rg_k (1 : Int32) 1 rfl) (by decide)
                        refine pp_i (v := x_6002) (ty := .int) (C := RX12) (T := TX12) (N := 31) hx hb hts (tw_i inlX12) tyX12 tyX12_ok nmX12 hown hK hP hD hS hL_this hK_this (by decide) rfl 7 391 (by decide) (hts _ (tw_c tw_830)) rfl (tyX12_ok 7 (by decide)) rfl rfl (Nat.le_of_ble_eq_true rfl) (ps_391 _ _ _ _ _) dX12_nextToken_138 (fun I_6004 H locs eI_6004 hP hD hS => ?_)
                        replace hFr := fr_I (f := 391) hFr hO_this (by decide) eI_6004
                        replace hF := hF.trans (ap_n (vI_st (f := 391) hO_this (by decide) eI_6004))
                        have hG := GM.wI hG 391 rfl eI_6004 (rg_w h_6003 (by decide)) (by decide)
                        have tt_6005 : (I_6004 391 this).toInt = (x_6002).toInt := by rw [eI_6004, pq_us]
                        have tt_6006 : (I_6004 388 this).toInt = (I_5994 388 this).toInt := by rw [eI_6004, pq_uf _ _ _ (by decide)]
                        have tt_6007 : (I_6004 403 this).toInt = (I_5994 403 this).toInt := by rw [eI_6004, pq_uf _ _ _ (by decide)]
                        have tt_6008 : (I_6004 393 this).toInt = (I_5994 393 this).toInt := by rw [eI_6004, pq_uf _ _ _ (by decide)]
                        refine lv_goto (tgt := 85) hx hb dX12_nextToken_141 (by decide) ?_
                        exact ih_5924 I_6004 _ _ _ (by omega) (ms_fu_iadd hm_5921 (by rw [eI_6004]; exact pq_us _ _ _ _) ex_6002 ((congrFun (show I_5994 391 = I_5848 391 from by rw [eI_5994]; exact pq_uf _ _ _ (by decide)) this).trans rfl) (kk := 1) rfl (by decide) h_6001 (by decide) (by decide)) hF hFr hG hP hD hS (lv_sub hl [0] rfl)
                replace hF := hF.trans (ap_n (vI_e (f := 391) hO_this (by decide)))
                exact L_5923 _ I_5631 _ _ _ (by omega) (Nat.lt_succ_self _) hF hFr hG hP hD hS (lv_sub hl [1] rfl)
            · replace hF := hF.trans (if_neg c_4485)
              have tc_6010 : (x_4475).toInt < 0 := Int32.lt_iff_toInt_lt.mp (nle c_4485)
              have h_6011 : rg x_4475 (-1) (-1) := rg_lt1 (nle c_4485) hr_4479 (rg_k (0 : Int32) 0 rfl) (by decide)
              have uh_6011 := h_6011.1
              have vh_6011 := h_6011.2
              refine lv_aload_n hx hb dX12_nextToken_60 rfl (lv_at hl 1 rfl) ?_
              refine lv_iconst (v := 0) hx hb dX12_nextToken_61 (by decide) ?_
              refine pp_i (v := 0) (ty := .int) (C := RX12) (T := TX12) (N := 31) hx hb hts (tw_i inlX12) tyX12 tyX12_ok nmX12 hown hK hP hD hS hL_this hK_this (by decide) rfl 9 393 (by decide) (hts _ (tw_c tw_831)) rfl (tyX12_ok 9 (by decide)) rfl rfl (Nat.le_of_ble_eq_true rfl) (ps_393 _ _ _ _ _) dX12_nextToken_62 (fun I_6012 H locs eI_6012 hP hD hS => ?_)
              replace hFr := fr_I (f := 393) hFr hO_this (by decide) eI_6012
              replace hF := hF.trans (ap_n (vI_st (f := 393) hO_this (by decide) eI_6012))
              have hG := GM.wI hG 393 rfl eI_6012 (rg_w (rg_k (0 : Int32) 0 rfl) (by decide)) (by decide)
              have tt_6013 : (I_6012 391 this).toInt = (I_4468 391 this).toInt := by rw [eI_6012, pq_uf _ _ _ (by decide)]
              have tt_6014 : (I_6012 388 this).toInt = (I_4468 388 this).toInt := by rw [eI_6012, pq_uf _ _ _ (by decide)]
              have tt_6015 : (I_6012 403 this).toInt = (I_4468 403 this).toInt := by rw [eI_6012, pq_uf _ _ _ (by decide)]
              have tt_6016 : (I_6012 393 this).toInt = 0 := by rw [eI_6012, pq_us]; rfl
              refine lv_goto (tgt := 396) hx hb dX12_nextToken_65 (by decide) ?_
              subst hQ
              exact W.vret hx hb hr (fun t1 ht hW => ⟨⟨(σ, I_6012, J, ri, rj, rq), rfl, ⟨I_6012, J, rfl, hG, (by omega), (by omega), (by omega), (hF0.symm.trans hF), hFr⟩, by rw [ht]; exact hP, va_K.moved hW.alike hK, hD⟩, hS.F ht⟩) hS.2.2 dX12_nextToken_396
          · replace hF := hF.trans (if_pos c_4463)
            have tc_6017 : (x_4453).toInt = 10 := congrArg Int32.toInt c_4463
            have h_6018 : rg x_4453 10 10 := rg_and hr_4457 (rg_of_eq c_4463 (rg_k (10 : Int32) 10 rfl)) (by decide)
            have uh_6018 := h_6018.1
            have vh_6018 := h_6018.2
            refine lv_aload_n hx hb dX12_nextToken_26 rfl (lv_at hl 0 rfl) ?_
            refine lv_dup hx hb dX12_nextToken_27 rfl ?_
            refine pg_f (v := .int (I_3315 391 this)) (C := RX12) (T := TX12) (N := 31) hx hb hts (tw_i inlX12) hown hK hP hL_this hK_this (by decide) rfl 7 (by decide) (hts _ (tw_c tw_830)) rfl dX12_nextToken_28 ?_
            refine lv_iconst (v := 1) hx hb dX12_nextToken_31 (by decide) ?_
            have h_6019 : rg (I_3315 391 this) 0 299 := ⟨by omega, by omega⟩
            have uh_6019 := h_6019.1
            have vh_6019 := h_6019.2
            refine lv_iadd hx hb dX12_nextToken_32 ?_
            refine lv_topi (fun x_6020 ex_6020 => ?_)
            replace hF := hF.trans (ap_n ex_6020)
            have h_6021 : rg x_6020 1 300 := rg_of_eq ex_6020 (rg_add h_6019 (rg_k (1 : Int32) 1 rfl) (by decide))
            have uh_6021 := h_6021.1
            have vh_6021 := h_6021.2
            have tx_6020 : (x_6020).toInt = (I_3315 391 this).toInt + 1 := by rw [ex_6020]; exact i_add_rg (a2 := (I_3315 391 this).toInt) (b2 := 1) rfl rfl h_6019 (rg_k (1 : Int32) 1 rfl) (by decide)
            refine pp_i (v := x_6020) (ty := .int) (C := RX12) (T := TX12) (N := 31) hx hb hts (tw_i inlX12) tyX12 tyX12_ok nmX12 hown hK hP hD hS hL_this hK_this (by decide) rfl 7 391 (by decide) (hts _ (tw_c tw_830)) rfl (tyX12_ok 7 (by decide)) rfl rfl (Nat.le_of_ble_eq_true rfl) (ps_391 _ _ _ _ _) dX12_nextToken_33 (fun I_6022 H locs eI_6022 hP hD hS => ?_)
            replace hFr := fr_I (f := 391) hFr hO_this (by decide) eI_6022
            replace hF := hF.trans (ap_n (vI_st (f := 391) hO_this (by decide) eI_6022))
            have hG := GM.wI hG 391 rfl eI_6022 (rg_w h_6021 (by decide)) (by decide)
            have tt_6023 : (I_6022 391 this).toInt = (x_6020).toInt := by rw [eI_6022, pq_us]
            have tt_6024 : (I_6022 388 this).toInt = (I_3315 388 this).toInt := by rw [eI_6022, pq_uf _ _ _ (by decide)]
            have tt_6025 : (I_6022 403 this).toInt = (I_3315 403 this).toInt := by rw [eI_6022, pq_uf _ _ _ (by decide)]
            have tt_6026 : (I_6022 393 this).toInt = (I_3315 393 this).toInt := by rw [eI_6022, pq_uf _ _ _ (by decide)]
            refine lv_goto (tgt := 0) hx hb dX12_nextToken_36 (by decide) ?_
            exact ih_4423 I_6022 _ _ _ (by omega) (ms_fu_iadd hm_4420 (by rw [eI_6022]; exact pq_us _ _ _ _) ex_6020 rfl (kk := 1) rfl (by decide) h_6019 (by decide) (by decide)) hF hFr hG hP hD hS (lv_sub hl [0] rfl)
    replace hF := hF.trans (ap_n (vI_e (f := 391) hO_this (by decide)))
    exact L_4422 _ I _ _ _ (by omega) (Nat.lt_succ_self _) hF hFr hG hP hD hS (lv_sub hl [0] rfl)
  exact go _ _ _ hP hD hS hl
